/-! ===== volumes by number; by the seed ===== -/
def vcn (f : Nat → Int) (n : Nat) : Int := sm n (fun v => if f v = -2 then 0 else 1)
theorem vcn_s (f : Nat → Int) (x : Int) (h : 0 ≤ x) : vcn f (x + 1).toNat = vcn f x.toNat + (if f x.toNat = -2 then 0 else 1) := by
  rw [show (x + 1).toNat = x.toNat + 1 by omega]; rfl
theorem vcn_b (f : Nat → Int) (n : Nat) : 0 ≤ vcn f n ∧ vcn f n ≤ (n : Int) := by
  refine ⟨sm_nn (fun v _ => by split <;> omega), ?_⟩
  have := sm_bd (n := n) (c := 1) (f := fun v => if f v = -2 then (0 : Int) else 1) (fun v _ => by split <;> omega)
  unfold vcn
  omega
theorem w_vols {s : MS} (hR : Rg s) : wp (m_x8_volumes s) (fun r => r = vcn (gA s 60) 8) := by
  have L : ∀ (n : Nat) (a i : Int), (0 ≤ i ∧ i ≤ 8) → a = vcn (gA s 60) i.toNat → 8 - i < (n : Int) → wp (m_x8_volumes_L4 s n a i) (fun r => r = vcn (gA s 60) 8) := by
    refine fr_ind (fun a i hi ha hm => by exfalso; omega) (fun n ih a i hi ha hm => ?_)
    show wp (m_x8_volumes_b4 s (m_x8_volumes_L4 s n) a i) _
    unfold m_x8_volumes_b4 m_x8_volumes_J24
    refine wp_rg (by omega) (wp_if (fun c1 => wp_some (by rw [ha, show i.toNat = 8 by omega])) (fun c1 => ?_))
    refine wp_bn (w_x8_isVolume hR (by omega)) (fun r9 e9 h9 => ?_)
    have st := vcn_s (gA s 60) i hi.1
    refine wp_rg (by omega) (wp_if (fun c2 => ?_) (fun c2 => ?_))
    · refine ih (a + 0) (i + 1) (by omega) ?_ (by omega)
      rw [st, if_pos (by omega), ha]
    · refine ih (a + 1) (i + 1) (by omega) ?_ (by omega)
      rw [st, if_neg (by omega), ha]
  exact L FU 0 0 (by omega) rfl (by have := FU_big; omega)
theorem w_volAt {p0 : Int} {s : MS} (hR : Rg s) (hp : 0 ≤ p0 ∧ p0 < vcn (gA s 60) 8) : wp (m_x1_volumeAt p0 s) (fun r => (0 ≤ r ∧ r < 8) ∧ gA s 60 r.toNat ≠ -2) := by
  have b8 := (vcn_b (gA s 60) 8).2
  have L : ∀ (n : Nat) (a i : Int), (0 ≤ i ∧ i ≤ 8) → (0 ≤ a ∧ a + vcn (gA s 60) i.toNat = p0) → 8 - i < (n : Int) → wp (m_x1_volumeAt_L4 s n a i) (fun r => (0 ≤ r ∧ r < 8) ∧ gA s 60 r.toNat ≠ -2) := by
    refine fr_ind (fun a i hi ha hm => by exfalso; omega) (fun n ih a i hi ha hm => ?_)
    show wp (m_x1_volumeAt_b4 s (m_x1_volumeAt_L4 s n) a i) _
    unfold m_x1_volumeAt_b4 m_x1_volumeAt_J30
    refine wp_rg (by omega) (wp_if (fun c1 => ?_) (fun c1 => ?_))
    · exfalso
      rw [show i.toNat = 8 by omega] at ha; omega
    refine wp_bn (w_x8_isVolume hR (by omega)) (fun r8 e8 h8 => ?_)
    have st := vcn_s (gA s 60) i hi.1
    have bi := vcn_b (gA s 60) i.toNat
    refine wp_rg (by omega) (wp_if (fun c2 => ?_) (fun c2 => ?_))
    · rw [if_pos (by omega)] at st
      exact ih a (i + 1) (by omega) (by omega) (by omega)
    · rw [if_neg (by omega)] at st
      refine wp_rg (by omega) (wp_if (fun c3 => wp_some ⟨by omega, by omega⟩) (fun c3 => ?_))
      exact ih (a + (-1)) (i + 1) (by omega) (by omega) (by omega)
  exact L FU p0 0 (by omega) ⟨hp.1, by show p0 + vcn (gA s 60) 0 = p0; show p0 + 0 = p0; omega⟩ (by have := FU_big; omega)
theorem and_31 (x : Int) : 0 ≤ andL x 2147483647 ∧ andL x 2147483647 ≤ 2147483647 := by
  have h : (i8 x &&& i8 2147483647) = Int64.ofBitVec ((i8 x).toBitVec &&& 2147483647#64) := rfl
  unfold andL
  rw [h]
  have h2 : (Int64.ofBitVec ((i8 x).toBitVec &&& 2147483647#64)).toInt = ((i8 x).toBitVec &&& 2147483647#64).toInt := rfl
  rw [h2]
  have h3 : ((i8 x).toBitVec &&& 2147483647#64).toNat ≤ 2147483647 := by
    rw [BitVec.toNat_and]
    exact Nat.and_le_right
  rw [BitVec.toInt_eq_toNat_of_lt (by omega)]
  omega
theorem dr_b {x p : Int} (hx : 0 ≤ x ∧ x ≤ 2147483647) (hp : 0 < p) : (0 ≤ Int.tdiv x 64 ∧ Int.tdiv x 64 ≤ 2147483647) ∧ 0 ≤ Int.tmod (Int.tdiv x 64) p ∧ Int.tmod (Int.tdiv x 64) p < p := by
  have h1 : 0 ≤ Int.tdiv x 64 ∧ Int.tdiv x 64 ≤ 2147483647 := by
    rw [Int.tdiv_eq_ediv_of_nonneg hx.1]; omega
  refine ⟨h1, ?_⟩
  rw [Int.tmod_eq_emod_of_nonneg h1.1]
  exact ⟨Int.emod_nonneg _ (by omega), Int.emod_lt_of_pos _ hp⟩
theorem w_draw {p0 : Int} {s : MS} (hR : Rg s) (hp : 0 < p0 ∧ p0 ≤ 1000) : wp (m_x1_draw p0 s) (fun q => Rg q.2 ∧ F_x1_draw s q.2 ∧ 0 ≤ q.1 ∧ q.1 < p0) := by
  have key : wp (m_x1_draw p0 s) (fun q => Rg q.2 ∧ 0 ≤ q.1 ∧ q.1 < p0) := by
    unfold m_x1_draw m_x1_draw_J39
    have r := hR.1 983
    have r' : (0 : Int) ≤ gI s 983 ∧ gI s 983 ≤ 2147483647 := r
    refine wp_rg (by omega) (wp_stn (fun s4 e4 => ?_))
    have a31 := and_31 (1103515245 * gI s 983 + 12345)
    have hR4 : Rg s4 := e4 ▸ Rg.uI hR a31
    have g : gI s4 983 = andL (1103515245 * gI s 983 + 12345) 2147483647 := q_II e4
    have db := dr_b (x := gI s4 983) (p := p0) (by rw [g]; exact a31) hp.1
    refine wp_rg (by omega) (wp_if (fun c1 => by omega) (fun c1 => ?_))
    refine wp_dv ⟨⟨by rw [g]; omega, by omega⟩, by omega⟩ (wp_dv ⟨⟨by omega, by omega⟩, by omega⟩ (wp_some ⟨hR4, db.2⟩))
  exact wp_eq key (fun q eq hq => ⟨hq.1, fr_x1_draw eq, hq.2⟩)
theorem TE_fr {s o : MS} (h : TE s) (hR : Rg o) (hA : ∀ k, 54 ≤ k → k ≤ 61 → gA o k = gA s k) (hI : gI o 1060 = gI s 1060 ∧ gI o 581 = gI s 581) : TE o := ⟨hR, TS_eq h.2.1 (hA 54 (by decide) (by decide)) (hA 55 (by decide) (by decide)) (hA 56 (by decide) (by decide)) (hA 57 (by decide) (by decide)) (hA 58 (by decide) (by decide)) (hA 59 (by decide) (by decide)) (hA 60 (by decide) (by decide)) (hA 61 (by decide) (by decide)) hI.1 hI.2, by rw [hI.2]; exact h.2.2⟩
set_option maxHeartbeats 1000000 in
theorem ts_act {s : MS} (h : TE s) : wp (m_x1_actBySeed s) (fun q => TE q.2 ∧ F_x1_actBySeed s q.2 ∧ (q.1 = 0 ∨ q.1 = 1)) := by
  have J23 : ∀ S : MS, TE S → wp (m_x1_actBySeed_J23 S) (fun q => TE q.2 ∧ (q.1 = 0 ∨ q.1 = 1)) := by
    intro S hS
    unfold m_x1_actBySeed_J23
    refine wp_bn (w_vols hS.1) (fun r3 e3 h3 => ?_)
    have vb := vcn_b (gA S 60) 8
    refine wp_rg (by omega) (wp_if (fun c1 => wp_some ⟨hS, Or.inl rfl⟩) (fun c1 => ?_))
    refine wp_bn (w_draw hS.1 (by omega)) (fun q8 e8 h8 => ?_)
    obtain ⟨r8, s8⟩ := q8
    dsimp only at h8 ⊢
    obtain ⟨hR8, F8, d8⟩ := h8
    have T8 : TE s8 := TE_fr hS hR8 (fun k h1 h2 => F8.2.1 k (by simp)) ⟨F8.1 1060 (by decide), F8.1 581 (by decide)⟩
    have k60 : gA s8 60 = gA S 60 := F8.2.1 60 (by decide)
    refine wp_bn (w_volAt hR8 (by rw [k60]; omega)) (fun r10 e10 h10 => ?_)
    refine wp_bn (w_draw hR8 (by omega)) (fun q13 e13 h13 => ?_)
    obtain ⟨r13, s13⟩ := q13
    dsimp only at h13 ⊢
    obtain ⟨hR13, F13, d13⟩ := h13
    have T13 : TE s13 := TE_fr T8 hR13 (fun k h1 h2 => F13.2.1 k (by simp)) ⟨F13.1 1060 (by decide), F13.1 581 (by decide)⟩
    refine wp_bn (w_draw hR13 (by omega)) (fun q16 e16 h16 => ?_)
    obtain ⟨r16, s16⟩ := q16
    dsimp only at h16 ⊢
    obtain ⟨hR16, F16, d16⟩ := h16
    have T16 : TE s16 := TE_fr T13 hR16 (fun k h1 h2 => F16.2.1 k (by simp)) ⟨F16.1 1060 (by decide), F16.1 581 (by decide)⟩
    have v16 : gA s16 60 r10.toNat ≠ -2 := by rw [F16.2.1 60 (by decide), F13.2.1 60 (by decide)]; exact h10.2
    refine wp_rg (by omega) (wp_if (fun c2 => ?_) (fun c2 => ?_))
    · refine wp_bn (ts_tryUproot T16 h10.1 v16 (by omega)) (fun q28 e28 h28 => ?_)
      exact wp_bo h28.2.2.1 (wp_some ⟨h28.1, h28.2.2.1⟩)
    · refine wp_bn (w_draw hR16 (by omega)) (fun q21 e21 h21 => ?_)
      obtain ⟨r21, s21⟩ := q21
      dsimp only at h21 ⊢
      obtain ⟨hR21, F21, d21⟩ := h21
      have T21 : TE s21 := TE_fr T16 hR21 (fun k h1 h2 => F21.2.1 k (by simp)) ⟨F21.1 1060 (by decide), F21.1 581 (by decide)⟩
      refine wp_bn (ts_tryPlant T21 h10.1 (by rw [F21.2.1 60 (by decide)]; exact v16) (by omega) (by omega)) (fun q24 e24 h24 => ?_)
      exact wp_bo h24.2.2.1 (wp_some ⟨h24.1, h24.2.2.1⟩)
  have key : wp (m_x1_actBySeed s) (fun q => TE q.2 ∧ (q.1 = 0 ∨ q.1 = 1)) := by
    unfold m_x1_actBySeed
    refine wp_bn (w_draw h.1 (by omega)) (fun q32 e32 h32 => ?_)
    obtain ⟨r32, s32⟩ := q32
    dsimp only at h32 ⊢
    obtain ⟨hR32, F32, d32⟩ := h32
    have T32 : TE s32 := TE_fr h hR32 (fun k h1 h2 => F32.2.1 k (by simp)) ⟨F32.1 1060 (by decide), F32.1 581 (by decide)⟩
    have r582 := hR32.1 582
    have r582' : (0 : Int) ≤ gI s32 582 ∧ gI s32 582 ≤ 100 := r582
    refine wp_rg (by omega) (wp_rg (by omega) (wp_if (fun c1 => J23 s32 T32) (fun c1 => ?_)))
    exact wp_bn (ts_save T32) (fun s37 e37 h37 => J23 s37 h37.1)
  exact wp_eq key (fun q eq hq => ⟨hq.1, fr_x1_actBySeed eq, hq.2⟩)
/-! ===== a store is built ===== -/
theorem TG_zero {h : SH} {ky : Nat → Nat → Int} {N E : Int} {c sv r rs : Nat → Int} (hN : N ≤ 48) (hE : 0 ≤ E) (h1 : ∀ p, p < 48 → c p = 0 ∧ sv p = 0 ∧ h.2.1 p = 0) (h2 : ∀ v, v < 8 → (r v < 0 ∨ 254 ≤ r v) ∧ (rs v < 0 ∨ 254 ≤ rs v)) : TG h ky N E c sv r rs Z0 (-1) := by
  have z : ∀ (c r : Nat → Int), (∀ p, p < 48 → c p = 0) → (∀ v, v < 8 → r v < 0 ∨ 254 ≤ r v) → ∀ x : Nat, x < 48 → df h c r x = 0 := fun c r hc hr x hx => by
    unfold df rf rr
    rw [hc x hx, sm_0 (fun v hv => if_neg (by have := hr v hv; omega)), sm_0 (fun p hp => if_neg (by rw [hc p hp]; omega))]
    rfl
  have w : ∀ c : Nat → Int, (∀ p, p < 48 → c p = 0) → WN h N c := fun c hc p hp => by
    rw [hc p hp]
    exact ⟨Int.le_refl 0, fun _ => rfl, fun q => absurd q (Int.lt_irrefl 0)⟩
  refine ⟨⟨hN, w c (fun p hp => (h1 p hp).1), w sv (fun p hp => (h1 p hp).2.1), fun p hp => ?_⟩, ⟨z c r (fun p hp => (h1 p hp).1) (fun v hv => (h2 v hv).1), z sv rs (fun p hp => (h1 p hp).2.1) (fun v hv => (h2 v hv).2)⟩, ⟨fun p hp hc => ?_, fun p hp hc => ?_⟩, ⟨fun v hv => Or.inr (h2 v hv).1, fun v hv => Or.inr (h2 v hv).2⟩, fun p hp hc => ?_⟩
  · rw [(h1 p hp).2.2]
    exact ⟨by omega, fun _ k hk => by omega, fun k hk => by omega⟩
  · rw [(h1 p hp).1] at hc; omega
  · rw [(h1 p hp).2.1] at hc; omega
  · rw [(h1 p hp).1, (h1 p hp).2.1] at hc; omega
theorem ts_clear {p0 : Int} {s : MS} (hR : Rg s) (hp : 0 ≤ p0 ∧ p0 ≤ 48) (hE : 3 ≤ gI s 581) : wp (m_x8_clear_v2 p0 s) (fun o => TE o ∧ F_x8_clear_v2 s o ∧ ∀ v, v < 8 → gA o 60 v = -2) := by
  have L59 : ∀ (n : Nat) (i : Int) (S : MS), Rg S → (0 ≤ i ∧ i ≤ 8) → (gI S 1060 = p0 ∧ gI S 581 = gI s 581) → (∀ p, p < 48 → gA S 54 p = 0 ∧ gA S 55 p = 0 ∧ gA S 57 p = 0) → (∀ v : Nat, (v : Int) < i → gA S 60 v = -2 ∧ gA S 61 v = -2) → 8 - i < (n : Int) → wp (m_x8_clear_v2_L59 n i S) (fun o => TE o ∧ ∀ v, v < 8 → gA o 60 v = -2) := by
    refine fr_ind (fun i S hRS hi hI hz hv hm => by exfalso; omega) (fun n ih i S hRS hi hI hz hv hm => ?_)
    show wp (m_x8_clear_v2_b59 (m_x8_clear_v2_L59 n) i S) _
    unfold m_x8_clear_v2_b59
    refine wp_rg (by omega) (wp_if (fun c1 => ?_) (fun c1 => ?_))
    · refine wp_some ⟨⟨hRS, ?_, by rw [hI.2]; exact hE⟩, fun v hv' => (hv v (by omega)).1⟩
      exact TG_zero (by rw [hI.1]; exact hp.2) (by rw [hI.2]; omega) hz (fun v hv' => by have := hv v (by omega); omega)
    · refine wp_inb (by omega) (wp_stn (fun s6 e6 => ?_))
      have hR6 : Rg s6 := e6 ▸ Rg.uAu hRS (by show (-2 : Int) ≤ -2 ∧ (-2 : Int) ≤ 253; omega)
      refine wp_inb (by omega) (wp_stn (fun s8 e8 => ?_))
      have hR8 : Rg s8 := e8 ▸ Rg.uAu hR6 (by show (-2 : Int) ≤ -2 ∧ (-2 : Int) ≤ 253; omega)
      have kk : ∀ k, k ≠ 60 → k ≠ 61 → gA s8 k = gA S k := fun k h1 h2 => (q_Aa e8 h2).trans (q_Aa e6 h1)
      have kI : ∀ k, gI s8 k = gI S k := fun k => (q_Ai e8).trans (q_Ai e6)
      refine ih (i + 1) s8 hR8 (by omega) (by rw [kI, kI]; exact hI) (fun p hp => by rw [kk 54 (by decide) (by decide), kk 55 (by decide) (by decide), kk 57 (by decide) (by decide)]; exact hz p hp) (fun v hv' => ?_) (by omega)
      rw [q_AA e8, show gA s8 60 = gA s6 60 from q_Aa e8 (by decide), q_AA e6, show gA s6 61 = gA S 61 from q_Aa e6 (by decide)]
      by_cases z : v = i.toNat
      · rw [z, upZ_s, upZ_s]; exact ⟨rfl, rfl⟩
      · rw [upZ_n z, upZ_n z]; exact hv v (by omega)
  have L17 : ∀ (n : Nat) (i : Int) (S : MS), Rg S → (0 ≤ i ∧ i ≤ 48) → (gI S 1060 = p0 ∧ gI S 581 = gI s 581) → (∀ p : Nat, (p : Int) < i → gA S 54 p = 0 ∧ gA S 55 p = 0 ∧ gA S 57 p = 0) → 48 - i < (n : Int) → wp (m_x8_clear_v2_L17 n i S) (fun o => TE o ∧ ∀ v, v < 8 → gA o 60 v = -2) := by
    refine fr_ind (fun i S hRS hi hI hz hm => by exfalso; omega) (fun n ih i S hRS hi hI hz hm => ?_)
    show wp (m_x8_clear_v2_b17 (m_x8_clear_v2_L17 n) i S) _
    unfold m_x8_clear_v2_b17
    refine wp_rg (by omega) (wp_if (fun c1 => ?_) (fun c1 => ?_))
    · exact L59 FU 0 S hRS (by omega) hI (fun p hp => hz p (by omega)) (fun v hv => absurd hv (by omega)) (by have := FU_big; omega)
    · refine wp_inb (by omega) (wp_stn (fun s14 e14 => ?_))
      have hR14 : Rg s14 := e14 ▸ Rg.uAu hRS (by show (-1 : Int) ≤ 0 ∧ (0 : Int) ≤ 100000; omega)
      refine wp_inb (by omega) (wp_stn (fun s16 e16 => ?_))
      have hR16 : Rg s16 := e16 ▸ Rg.uAu hR14 (by show (-1 : Int) ≤ 0 ∧ (0 : Int) ≤ 100000; omega)
      refine wp_inb (by omega) (wp_stn (fun s18 e18 => ?_))
      have hR18 : Rg s18 := e18 ▸ Rg.uAu hR16 (by show (-1 : Int) ≤ 0 ∧ (0 : Int) ≤ 1000; omega)
      refine wp_inb (by omega) (wp_stn (fun s20 e20 => ?_))
      have hR20 : Rg s20 := e20 ▸ Rg.uAu hR18 (by show (-1 : Int) ≤ 0 ∧ (0 : Int) ≤ 255; omega)
      have kI : ∀ k, gI s20 k = gI S k := fun k => (q_Ai e20).trans ((q_Ai e18).trans ((q_Ai e16).trans (q_Ai e14)))
      have a54 : gA s20 54 = upZ (gA S 54) i.toNat 0 := (q_Aa e20 (by decide)).trans ((q_Aa e18 (by decide)).trans ((q_Aa e16 (by decide)).trans (q_AA e14)))
      have a55 : gA s20 55 = upZ (gA S 55) i.toNat 0 := (q_Aa e20 (by decide)).trans ((q_Aa e18 (by decide)).trans ((q_AA e16).trans (by rw [show gA s14 55 = gA S 55 from q_Aa e14 (by decide)])))
      have a57 : gA s20 57 = upZ (gA S 57) i.toNat 0 := (q_AA e20).trans (by rw [show gA s18 57 = gA S 57 from (q_Aa e18 (by decide)).trans ((q_Aa e16 (by decide)).trans (q_Aa e14 (by decide)))])
      refine ih (i + 1) s20 hR20 (by omega) (by rw [kI, kI]; exact hI) (fun p hp => ?_) (by omega)
      rw [a54, a55, a57]
      by_cases z : p = i.toNat
      · rw [z, upZ_s, upZ_s, upZ_s]; exact ⟨rfl, rfl, rfl⟩
      · rw [upZ_n z, upZ_n z, upZ_n z]; exact hz p (by omega)
  have key : wp (m_x8_clear_v2 p0 s) (fun o => TE o ∧ ∀ v, v < 8 → gA o 60 v = -2) := by
    unfold m_x8_clear_v2
    refine wp_stn (fun s21 e21 => wp_stn (fun s22 e22 => wp_stn (fun s23 e23 => ?_)))
    have hR21 : Rg s21 := e21 ▸ Rg.uI hR (by show (0 : Int) ≤ p0 ∧ p0 ≤ 48; exact hp)
    have hR22 : Rg s22 := e22 ▸ Rg.uI hR21 (by show (-70000 : Int) ≤ 0 ∧ (0 : Int) ≤ 999999; omega)
    have hR23 : Rg s23 := e23 ▸ Rg.uL hR22 (by show R8 0; decide)
    refine L17 FU 0 s23 hR23 (by omega) ⟨?_, ?_⟩ (fun p hp => absurd hp (by omega)) (by have := FU_big; omega)
    · rw [q_Li e23, q_Ii e22 (by decide), q_II e21]
    · rw [q_Li e23, q_Ii e22 (by decide), q_Ii e21 (by decide)]
  exact wp_eq key (fun o eo ho => ⟨ho.1, fr_x8_clear_v2 eo, ho.2⟩)
theorem vt_mono {k : Nat → Int} {i n : Nat} (h : i ≤ n) : vt k i ≤ vt k n := by
  induction n with
  | zero => rw [show i = 0 by omega]; exact Int.le_refl _
  | succ n ih =>
    by_cases e : i = n + 1
    · rw [e]; exact Int.le_refl _
    · have := ih (by omega)
      have s : vt k (n + 1) = vt k n + (if k n = 2 ∨ k n = 3 then 1 else 0) := rfl
      have : (0 : Int) ≤ (if k n = 2 ∨ k n = 3 then 1 else 0) := by split <;> omega
      omega
theorem vt_nn (k : Nat → Int) (n : Nat) : 0 ≤ vt k n := sm_nn (fun i _ => by split <;> omega)
set_option maxHeartbeats 1000000 in
theorem ts_build {s : MS} (hR : Rg s) (hE : 3 ≤ gI s 581) (hP : PV (gA s 31) (gA s 32) (gA s 33) (gA s 34) (gI s 585).toNat (gI s 584)) : wp (m_x1_build s) (fun o => TE o ∧ F_x1_build s o) := by
  have r580 := hR.1 580
  have r580' : (0 : Int) ≤ gI s 580 ∧ gI s 580 ≤ 48 := r580
  have r584 := hR.1 584
  have r584' : (0 : Int) ≤ gI s 584 ∧ gI s 584 ≤ 8 := r584
  have r585 := hR.1 585
  have r585' : (0 : Int) ≤ gI s 585 ∧ gI s 585 ≤ 60 := r585
  have L18 : ∀ (n : Nat) (i : Int) (S : MS), TE S → (0 ≤ i ∧ i ≤ gI s 585) → (gI S 585 = gI s 585 ∧ gA S 31 = gA s 31 ∧ gA S 32 = gA s 32 ∧ gA S 33 = gA s 33 ∧ gA S 34 = gA s 34) → (∀ v : Nat, v < 8 → (gA S 60 v = -2 ↔ vt (gA s 31) i.toNat ≤ (v : Int))) → gI s 585 - i < (n : Int) → wp (m_x1_build_L18 n i S) (fun o => TE o) := by
    refine fr_ind (fun i S hS hi hk hv hm => by exfalso; omega) (fun n ih i S hS hi hk hv hm => ?_)
    show wp (m_x1_build_b18 (m_x1_build_L18 n) i S) _
    unfold m_x1_build_b18 m_x1_build_J135
    obtain ⟨k0, k1, k2, k3, k4⟩ := hk
    refine wp_rg (by omega) (wp_rg (by rw [k0]; omega) (wp_if (fun c1 => ?_) (fun c1 => ?_)))
    · refine wp_bn (ts_save hS) (fun s9 e9 h9 => ?_)
      refine wp_stn (fun s10 e10 => wp_stn (fun s11 e11 => ?_))
      have hR10 : Rg s10 := e10 ▸ Rg.uI h9.1.1 (by show (-70000 : Int) ≤ 0 ∧ (0 : Int) ≤ 999999; omega)
      have hR11 : Rg s11 := e11 ▸ Rg.uL hR10 (by show R8 0; decide)
      exact wp_some (TE_fr h9.1 hR11 (fun k _ _ => (q_La e11).trans (q_Ia e10)) ⟨(q_Li e11).trans (q_Ii e10 (by decide)), (q_Li e11).trans (q_Ii e10 (by decide))⟩)
    rw [k0] at c1
    have rcd := hP.1 i.toNat (by omega)
    have vm : vt (gA s 31) (i.toNat + 1) ≤ gI s 584 := by rw [← hP.2]; exact vt_mono (by omega)
    have vs : vt (gA s 31) (i.toNat + 1) = vt (gA s 31) i.toNat + (if gA s 31 i.toNat = 2 ∨ gA s 31 i.toNat = 3 then 1 else 0) := rfl
    have v0 := vt_nn (gA s 31) i.toNat
    have in1 : (i + 1).toNat = i.toNat + 1 := by omega
    unfold Rec at rcd
    refine wp_rdIn (by omega) (fun y12 e12 => ?_)
    rw [k2] at e12
    refine wp_rdIn (by omega) (fun y13 e13 => ?_)
    rw [k1] at e13
    rw [e12, e13] at rcd
    rw [e13] at vs
    refine wp_rg (by omega) (wp_if (fun c2 => ?_) (fun c2 => wp_if (fun c3 => ?_) (fun c3 => wp_if (fun c4 => by omega) (fun c4 => wp_if (fun c5 => ?_) (fun c5 => wp_if (fun c6 => ?_) (fun c6 => by omega))))))
    · rw [if_pos (Or.inl c2)] at vs
      have w0 : y12 = vt (gA s 31) i.toNat := by omega
      have ab := (hv y12.toNat (by omega)).mpr (by omega)
      refine wp_inb (by omega) (wp_stn (fun s17 e17 => ?_))
      have hR17 : Rg s17 := e17 ▸ Rg.uAu hS.1 (by show (-2 : Int) ≤ -1 ∧ (-1 : Int) ≤ 253; omega)
      have g60 : gA s17 60 = upZ (gA S 60) y12.toNat (-1) := q_AA e17
      have kk : ∀ k, k ≠ 60 → gA s17 k = gA S k := fun k h => q_Aa e17 h
      have kI : ∀ k, gI s17 k = gI S k := fun k => q_Ai e17
      have TR := TG_root (v := y12.toNat) (q := -1) hS.2.1 (by omega) (Or.inr (Or.inl (by omega)))
      refine ih (i + 1) s17 ⟨hR17, ?_, by rw [kI]; exact hS.2.2⟩ (by omega) ⟨by rw [kI]; exact k0, (kk 31 (by decide)).trans k1, (kk 32 (by decide)).trans k2, (kk 33 (by decide)).trans k3, (kk 34 (by decide)).trans k4⟩ (fun v hv8 => ?_) (by omega)
      · refine TS_mk (TG_D TR (fun x hx => ?_)) (hN_eq (kk 56 (by decide)) (kk 57 (by decide)) (kk 59 (by decide))) (kN_eq (kk 58 (by decide))) (kI _) (kI _) (kk 54 (by decide)) (kk 55 (by decide)) g60 (kk 61 (by decide))
        show (0 : Int) = 0 + (if gA S 60 y12.toNat = (x : Int) then 1 else 0) - (if (-1 : Int) = (x : Int) then 1 else 0)
        rw [ab, if_neg (by omega), if_neg (by omega)]; rfl
      · rw [g60, in1, vs]
        by_cases z : v = y12.toNat
        · rw [z, upZ_s]; omega
        · rw [upZ_n z]
          have := hv v hv8
          omega
    · rw [if_pos (Or.inr c3)] at vs
      have w0 : y12 = vt (gA s 31) i.toNat := by omega
      have ab := (hv y12.toNat (by omega)).mpr (by omega)
      refine wp_rdIn (by omega) (fun y19 e19 => ?_)
      rw [k3] at e19
      rw [e19] at rcd
      have b19 : 0 ≤ y19 ∧ y19 < vt (gA s 31) i.toNat := by omega
      have pr : gA S 60 y19.toNat ≠ -2 := fun q => by have := (hv y19.toNat (by omega)).mp q; omega
      refine wp_bn (ts_share hS (by omega) (by omega) pr ab) (fun s21 e21 h21 => ?_)
      have F21 : F_x1_share S s21 := fr_x1_share e21
      refine ih (i + 1) s21 h21.1 (by omega) ⟨by rw [F21.1 585 (by decide)]; exact k0, (F21.2.1 31 (by decide)).trans k1, (F21.2.1 32 (by decide)).trans k2, (F21.2.1 33 (by decide)).trans k3, (F21.2.1 34 (by decide)).trans k4⟩ (fun v hv8 => ?_) (by omega)
      rw [h21.2 v hv8, in1, vs]
      by_cases z : v = y12.toNat
      · rw [if_pos z, z]
        exact ⟨fun q => absurd q pr, fun q => by omega⟩
      · rw [if_neg z]
        have := hv v hv8
        omega
    · rw [if_neg (by omega)] at vs
      refine wp_rdIn (by omega) (fun y24 e24 => ?_)
      rw [k3] at e24
      refine wp_rdIn (by omega) (fun y25 e25 => ?_)
      rw [k4] at e25
      rw [e24, e25] at rcd
      have pr : gA S 60 y12.toNat ≠ -2 := fun q => by have := (hv y12.toNat (by omega)).mp q; omega
      refine wp_bn (ts_tryPlant hS (by omega) pr (by omega) (by omega)) (fun q28 e28 h28 => ?_)
      obtain ⟨r, o⟩ := q28
      dsimp only at h28 ⊢
      obtain ⟨To, Fo, _, Ko⟩ := h28
      refine ih (i + 1) o To (by omega) ⟨by rw [Fo.1 585 (by decide)]; exact k0, (Fo.2.1 31 (by decide)).trans k1, (Fo.2.1 32 (by decide)).trans k2, (Fo.2.1 33 (by decide)).trans k3, (Fo.2.1 34 (by decide)).trans k4⟩ (fun v hv8 => ?_) (by omega)
      rw [Ko v hv8, hv v hv8, in1, vs]; omega
    · rw [if_neg (by omega)] at vs
      refine wp_rdIn (by omega) (fun y30 e30 => ?_)
      rw [k3] at e30
      rw [e30] at rcd
      have pr : gA S 60 y12.toNat ≠ -2 := fun q => by have := (hv y12.toNat (by omega)).mp q; omega
      refine wp_bn (ts_tryUproot hS (by omega) pr (by omega)) (fun q33 e33 h33 => ?_)
      obtain ⟨r, o⟩ := q33
      dsimp only at h33 ⊢
      obtain ⟨To, Fo, _, Ko⟩ := h33
      refine ih (i + 1) o To (by omega) ⟨by rw [Fo.1 585 (by decide)]; exact k0, (Fo.2.1 31 (by decide)).trans k1, (Fo.2.1 32 (by decide)).trans k2, (Fo.2.1 33 (by decide)).trans k3, (Fo.2.1 34 (by decide)).trans k4⟩ (fun v hv8 => ?_) (by omega)
      rw [Ko v hv8, hv v hv8, in1, vs]; omega
  have key : wp (m_x1_build s) (fun o => TE o) := by
    unfold m_x1_build
    refine wp_bn (ts_clear hR r580' hE) (fun s35 e35 h35 => ?_)
    obtain ⟨T, F, hv⟩ := h35
    refine L18 FU 0 s35 T (by omega) ⟨F.1 585 (by decide), F.2.1 31 (by decide), F.2.1 32 (by decide), F.2.1 33 (by decide), F.2.1 34 (by decide)⟩ (fun v hv8 => ?_) (by have := FU_big; omega)
    have : vt (gA s 31) (Int.toNat 0) = 0 := rfl
    rw [hv v hv8, this]
    exact ⟨fun _ => by omega, fun _ => rfl⟩
  exact wp_eq key (fun o eo ho => ⟨ho, fr_x1_build eo⟩)
/-! ===== calls that change no tree; walks ===== -/
theorem R8_shl (x y : Int) : R8 (shlLZ x y) := ⟨Int64.le_toInt _, Int.le_of_lt_add_one (Int64.toInt_lt _)⟩
theorem R8_ushr (x y : Int) : R8 (ushrLZ x y) := ⟨Int64.le_toInt _, Int.le_of_lt_add_one (Int64.toInt_lt _)⟩
theorem R2_ushr (x y : Int) : R2 (ushrZ x y) := ⟨Int32.le_toInt _, Int.le_of_lt_add_one (Int32.toInt_lt _)⟩
theorem and_1 (x : Int) : 0 ≤ andL x 1 ∧ andL x 1 ≤ 1 := by
  have h : (i8 x &&& i8 1) = Int64.ofBitVec ((i8 x).toBitVec &&& 1#64) := rfl
  unfold andL
  rw [h]
  have h2 : (Int64.ofBitVec ((i8 x).toBitVec &&& 1#64)).toInt = ((i8 x).toBitVec &&& 1#64).toInt := rfl
  rw [h2]
  have h3 : ((i8 x).toBitVec &&& 1#64).toNat ≤ 1 := by
    rw [BitVec.toNat_and]
    exact Nat.and_le_right
  rw [BitVec.toInt_eq_toNat_of_lt (by omega)]
  omega
set_option maxHeartbeats 1000000 in
theorem w_x9_hasRoom {s : MS} (hRs : Rg s) : wp (m_x9_hasRoom s) (fun r => ((r = 1 ∧ gI s 61 + 20 ≤ 1600) ∨ (r = 0 ∧ 1600 < gI s 61 + 20))) := by
  unfold m_x9_hasRoom
  refine wp_rg (by have : (0 : Int) ≤ gI s 61 ∧ gI s 61 ≤ 1600 := hRs.1 61; omega) ?_
  refine wp_if (fun c1 => ?_) (fun c1 => ?_)
  · skip
    unfold m_x9_hasRoom_J18
    refine wp_bo (by have : (0 : Int) ≤ gI s 61 ∧ gI s 61 ≤ 1600 := hRs.1 61; omega) ?_
    exact wp_some (by show ((0 : Int) = 1 ∧ gI s 61 + 20 ≤ 1600) ∨ ((0 : Int) = 0 ∧ 1600 < gI s 61 + 20); have : (0 : Int) ≤ gI s 61 ∧ gI s 61 ≤ 1600 := hRs.1 61; omega)
  · skip
    unfold m_x9_hasRoom_J18
    refine wp_bo (by have : (0 : Int) ≤ gI s 61 ∧ gI s 61 ≤ 1600 := hRs.1 61; omega) ?_
    exact wp_some (by show ((1 : Int) = 1 ∧ gI s 61 + 20 ≤ 1600) ∨ ((1 : Int) = 0 ∧ 1600 < gI s 61 + 20); have : (0 : Int) ≤ gI s 61 ∧ gI s 61 ≤ 1600 := hRs.1 61; omega)
set_option maxHeartbeats 1000000 in
theorem w_x9_append {p0 : Int} {s : MS} (hRs : Rg s) (hp0 : gI s 61 + 4 ≤ 1600) : wp (m_x9_append p0 s) (fun o => (Rg o) ∧ (gI o 61 = gI s 61 + 4)) := by
  unfold m_x9_append
  have L3 : ∀ (n : Nat) (x2 : Int) (x3 : Int) (s4 : MS), Rg s4 → (x2 = p0) → (x3 = 24 ∨ x3 = 16 ∨ x3 = 8 ∨ x3 = 0 ∨ x3 = (-8)) → (gI s4 61 * 8 = gI s 61 * 8 + 24 - x3) → (x3 + 9) < (n : Int) → wp (m_x9_append_L3 n x2 x3 s4) (fun o => (Rg o) ∧ (gI o 61 = gI s 61 + 4)) := by
    refine fr_ind (fun x2 x3 s4 hRs4 hv3_0 hv3_1 hv3_2 hm3 => ?_) (fun n3 ih3 x2 x3 s4 hRs4 hv3_0 hv3_1 hv3_2 hm3 => ?_)
    · exfalso; have : (0 : Int) ≤ gI s 61 ∧ gI s 61 ≤ 1600 := hRs.1 61; have : (0 : Int) ≤ gI s4 61 ∧ gI s4 61 ≤ 1600 := hRs4.1 61; omega
    · show wp (m_x9_append_b3 (m_x9_append_L3 n3) x2 x3 s4) _
      unfold m_x9_append_b3
      refine wp_rg (by have : (0 : Int) ≤ gI s4 61 ∧ gI s4 61 ≤ 1600 := hRs4.1 61; have : (0 : Int) ≤ gI s 61 ∧ gI s 61 ≤ 1600 := hRs.1 61; omega) ?_
      refine wp_if (fun c1 => ?_) (fun c1 => ?_)
      · skip
        unfold m_x9_append_J49
        exact wp_some ⟨hRs4, by show gI s4 61 = gI s 61 + 4; have : (0 : Int) ≤ gI s 61 ∧ gI s 61 ≤ 1600 := hRs.1 61; have : (0 : Int) ≤ gI s4 61 ∧ gI s4 61 ≤ 1600 := hRs4.1 61; omega⟩
      · skip
        refine wp_rg (by have : (0 : Int) ≤ gI s 61 ∧ gI s 61 ≤ 1600 := hRs.1 61; have : (0 : Int) ≤ gI s4 61 ∧ gI s4 61 ≤ 1600 := hRs4.1 61; omega) ?_
        refine wp_if (fun c2 => ?_) (fun c2 => ?_)
        · skip
          unfold m_x9_append_J49
          exact wp_some ⟨hRs4, by show gI s4 61 = gI s 61 + 4; have : (0 : Int) ≤ gI s 61 ∧ gI s 61 ≤ 1600 := hRs.1 61; have : (0 : Int) ≤ gI s4 61 ∧ gI s4 61 ≤ 1600 := hRs4.1 61; omega⟩
        · skip
          refine wp_inb (by have : (0 : Int) ≤ gI s 61 ∧ gI s 61 ≤ 1600 := hRs.1 61; have : (0 : Int) ≤ gI s4 61 ∧ gI s4 61 ≤ 1600 := hRs4.1 61; omega) ?_
          refine wp_stn (fun s10 es10 => ?_)
          have hRs10 : Rg s10 := es10 ▸ Rg.uAu hRs4 (and_b _)
          refine wp_stn (fun s11 es11 => ?_)
          have hRs11 : Rg s11 := es11 ▸ Rg.uI hRs10 (by show (0 : Int) ≤ ((gI s10 61) + 1) ∧ ((gI s10 61) + 1) ≤ 1600; have : (0 : Int) ≤ gI s4 61 ∧ gI s4 61 ≤ 1600 := hRs4.1 61; have : (0 : Int) ≤ gI s 61 ∧ gI s 61 ≤ 1600 := hRs.1 61; have : gI s10 61 = gI s4 61 := q_Ai es10; omega)
          exact ih3 x2 (x3 + (-8)) s11 hRs11 (by show x2 = p0; have : (0 : Int) ≤ gI s4 61 ∧ gI s4 61 ≤ 1600 := hRs4.1 61; have : (0 : Int) ≤ gI s 61 ∧ gI s 61 ≤ 1600 := hRs.1 61; omega) (by show (x3 + (-8)) = 24 ∨ (x3 + (-8)) = 16 ∨ (x3 + (-8)) = 8 ∨ (x3 + (-8)) = 0 ∨ (x3 + (-8)) = (-8); have : (0 : Int) ≤ gI s4 61 ∧ gI s4 61 ≤ 1600 := hRs4.1 61; have : (0 : Int) ≤ gI s 61 ∧ gI s 61 ≤ 1600 := hRs.1 61; omega) (by show gI s11 61 * 8 = gI s 61 * 8 + 24 - (x3 + (-8)); have : (0 : Int) ≤ gI s4 61 ∧ gI s4 61 ≤ 1600 := hRs4.1 61; have : (0 : Int) ≤ gI s 61 ∧ gI s 61 ≤ 1600 := hRs.1 61; have : gI s11 61 = (gI s10 61) + 1 := q_II es11; have : gI s10 61 = gI s4 61 := q_Ai es10; omega) (by have : (0 : Int) ≤ gI s4 61 ∧ gI s4 61 ≤ 1600 := hRs4.1 61; have : (0 : Int) ≤ gI s 61 ∧ gI s 61 ≤ 1600 := hRs.1 61; omega)
  exact L3 FU p0 24 s hRs (by show p0 = p0; have : (0 : Int) ≤ gI s 61 ∧ gI s 61 ≤ 1600 := hRs.1 61; omega) (by show (24 : Int) = 24 ∨ (24 : Int) = 16 ∨ (24 : Int) = 8 ∨ (24 : Int) = 0 ∨ (24 : Int) = (-8); have : (0 : Int) ≤ gI s 61 ∧ gI s 61 ≤ 1600 := hRs.1 61; omega) (by show gI s 61 * 8 = gI s 61 * 8 + 24 - (24 : Int); have : (0 : Int) ≤ gI s 61 ∧ gI s 61 ≤ 1600 := hRs.1 61; omega) (by have := FU_big; have := FU_big2; have : (0 : Int) ≤ gI s 61 ∧ gI s 61 ≤ 1600 := hRs.1 61; omega)
set_option maxHeartbeats 1000000 in
theorem w_x11_refuse {p0 : Int} {s : MS} (hRs : Rg s) (hp0 : 0 ≤ p0 ∧ p0 < 6) : wp (m_x11_refuse p0 s) (fun q => (Rg q.2) ∧ (q.1 = -1)) := by
  unfold m_x11_refuse
  refine wp_rdIn (by omega) (fun y1 ey1 => ?_)
  refine wp_inb (by omega) ?_
  refine wp_stn (fun s3 es3 => ?_)
  have hRs3 : Rg s3 := es3 ▸ Rg.uA hRs (fun j hj => absurd hj (Nat.not_lt_zero j))
  exact wp_some ⟨hRs3, by show ((-1) ) = -1; omega⟩
set_option maxHeartbeats 1000000 in
theorem w_x11_feed {p0 : Int} {p1 : Int} {p2 : Int} {p3 : Int} {p4 : Int} {s : MS} (hRs : Rg s) : wp (m_x11_feed p0 p1 p2 p3 p4 s) (fun q => (Rg q.2) ∧ ((q.1 = -1 ∧ gI q.2 61 = gI s 61 ∧ 1580 < gI s 61) ∨ (q.1 = gI s 61 + 20 ∧ gI q.2 61 = gI s 61 + 20 ∧ gI s 61 ≤ 1580))) := by
  unfold m_x11_feed
  refine wp_bn (w_x9_hasRoom hRs) (fun r2 er2 hr2 => ?_)
  have hr2_0 := hr2
  have hr2_0 : (r2 = 1 ∧ gI s 61 + 20 ≤ 1600) ∨ (r2 = 0 ∧ 1600 < gI s 61 + 20) := hr2_0
  refine wp_rg (by have : (0 : Int) ≤ gI s 61 ∧ gI s 61 ≤ 1600 := hRs.1 61; omega) ?_
  refine wp_if (fun c1 => ?_) (fun c1 => ?_)
  · skip
    refine wp_bn (w_x11_refuse hRs (by show 0 ≤ (0 : Int) ∧ (0 : Int) < 6; have : (0 : Int) ≤ gI s 61 ∧ gI s 61 ≤ 1600 := hRs.1 61; omega)) (fun qqr17 eqr17s hqr17s => ?_)
    obtain ⟨qr17r, qr17s⟩ := qqr17
    dsimp only at eqr17s hqr17s ⊢
    have Fqr17s := fr_x11_refuse eqr17s
    obtain ⟨hRqr17s, hqr17s_0⟩ := hqr17s
    have hqr17s_0 : qr17r = -1 := hqr17s_0
    exact wp_some ⟨hRqr17s, by show (qr17r = -1 ∧ gI qr17s 61 = gI s 61 ∧ 1580 < gI s 61) ∨ (qr17r = gI s 61 + 20 ∧ gI qr17s 61 = gI s 61 + 20 ∧ gI s 61 ≤ 1580); have : (0 : Int) ≤ gI s 61 ∧ gI s 61 ≤ 1600 := hRs.1 61; have : gI qr17s 61 = gI s 61 := Fqr17s.1 61 (by decide); omega⟩
  · skip
    refine wp_bn (w_x9_append hRs (by show gI s 61 + 4 ≤ 1600; have : (0 : Int) ≤ gI s 61 ∧ gI s 61 ≤ 1600 := hRs.1 61; omega)) (fun s6 es6 hs6 => ?_)
    have Fs6 := fr_x9_append es6
    obtain ⟨hRs6, hs6_0⟩ := hs6
    have hs6_0 : gI s6 61 = gI s 61 + 4 := hs6_0
    refine wp_bn (w_x9_append hRs6 (by show gI s6 61 + 4 ≤ 1600; have : (0 : Int) ≤ gI s 61 ∧ gI s 61 ≤ 1600 := hRs.1 61; have : (0 : Int) ≤ gI s6 61 ∧ gI s6 61 ≤ 1600 := hRs6.1 61; omega)) (fun s8 es8 hs8 => ?_)
    have Fs8 := fr_x9_append es8
    obtain ⟨hRs8, hs8_0⟩ := hs8
    have hs8_0 : gI s8 61 = gI s6 61 + 4 := hs8_0
    refine wp_bn (w_x9_append hRs8 (by show gI s8 61 + 4 ≤ 1600; have : (0 : Int) ≤ gI s6 61 ∧ gI s6 61 ≤ 1600 := hRs6.1 61; have : (0 : Int) ≤ gI s 61 ∧ gI s 61 ≤ 1600 := hRs.1 61; have : (0 : Int) ≤ gI s8 61 ∧ gI s8 61 ≤ 1600 := hRs8.1 61; omega)) (fun s10 es10 hs10 => ?_)
    have Fs10 := fr_x9_append es10
    obtain ⟨hRs10, hs10_0⟩ := hs10
    have hs10_0 : gI s10 61 = gI s8 61 + 4 := hs10_0
    refine wp_bn (w_x9_append hRs10 (by show gI s10 61 + 4 ≤ 1600; have : (0 : Int) ≤ gI s8 61 ∧ gI s8 61 ≤ 1600 := hRs8.1 61; have : (0 : Int) ≤ gI s6 61 ∧ gI s6 61 ≤ 1600 := hRs6.1 61; have : (0 : Int) ≤ gI s 61 ∧ gI s 61 ≤ 1600 := hRs.1 61; have : (0 : Int) ≤ gI s10 61 ∧ gI s10 61 ≤ 1600 := hRs10.1 61; omega)) (fun s12 es12 hs12 => ?_)
    have Fs12 := fr_x9_append es12
    obtain ⟨hRs12, hs12_0⟩ := hs12
    have hs12_0 : gI s12 61 = gI s10 61 + 4 := hs12_0
    refine wp_bn (w_x9_append hRs12 (by show gI s12 61 + 4 ≤ 1600; have : (0 : Int) ≤ gI s10 61 ∧ gI s10 61 ≤ 1600 := hRs10.1 61; have : (0 : Int) ≤ gI s8 61 ∧ gI s8 61 ≤ 1600 := hRs8.1 61; have : (0 : Int) ≤ gI s6 61 ∧ gI s6 61 ≤ 1600 := hRs6.1 61; have : (0 : Int) ≤ gI s 61 ∧ gI s 61 ≤ 1600 := hRs.1 61; have : (0 : Int) ≤ gI s12 61 ∧ gI s12 61 ≤ 1600 := hRs12.1 61; omega)) (fun s14 es14 hs14 => ?_)
    have Fs14 := fr_x9_append es14
    obtain ⟨hRs14, hs14_0⟩ := hs14
    have hs14_0 : gI s14 61 = gI s12 61 + 4 := hs14_0
    exact wp_some ⟨hRs14, by show ((gI s14 61) = -1 ∧ gI s14 61 = gI s 61 ∧ 1580 < gI s 61) ∨ ((gI s14 61) = gI s 61 + 20 ∧ gI s14 61 = gI s 61 + 20 ∧ gI s 61 ≤ 1580); have : (0 : Int) ≤ gI s12 61 ∧ gI s12 61 ≤ 1600 := hRs12.1 61; have : (0 : Int) ≤ gI s10 61 ∧ gI s10 61 ≤ 1600 := hRs10.1 61; have : (0 : Int) ≤ gI s8 61 ∧ gI s8 61 ≤ 1600 := hRs8.1 61; have : (0 : Int) ≤ gI s6 61 ∧ gI s6 61 ≤ 1600 := hRs6.1 61; have : (0 : Int) ≤ gI s 61 ∧ gI s 61 ≤ 1600 := hRs.1 61; have : (0 : Int) ≤ gI s14 61 ∧ gI s14 61 ≤ 1600 := hRs14.1 61; omega⟩
set_option maxHeartbeats 1000000 in
theorem w_x11_end {p0 : Int} {s : MS} (hRs : Rg s) (hp0 : R2 p0) : wp (m_x11_end p0 s) (fun q => (Rg q.2) ∧ ((q.1 = 0 ∧ gI q.2 61 = gI s 61 ∧ (p0 < 0 ∨ gI s 61 < p0)) ∨ (q.1 = 1 ∧ gI q.2 61 = p0 ∧ 0 ≤ p0 ∧ p0 ≤ gI s 61))) := by
  unfold m_x11_end
  refine wp_rg (by omega) ?_
  refine wp_if (fun c1 => ?_) (fun c1 => ?_)
  · skip
    unfold m_x11_end_J15
    refine wp_bn (w_x11_refuse hRs (by show 0 ≤ (0 : Int) ∧ (0 : Int) < 6; omega)) (fun qqr4 eqr4s hqr4s => ?_)
    obtain ⟨qr4r, qr4s⟩ := qqr4
    dsimp only at eqr4s hqr4s ⊢
    have Fqr4s := fr_x11_refuse eqr4s
    obtain ⟨hRqr4s, hqr4s_0⟩ := hqr4s
    have hqr4s_0 : qr4r = -1 := hqr4s_0
    exact wp_some ⟨hRqr4s, by show ((0 : Int) = 0 ∧ gI qr4s 61 = gI s 61 ∧ (p0 < 0 ∨ gI s 61 < p0)) ∨ ((0 : Int) = 1 ∧ gI qr4s 61 = p0 ∧ 0 ≤ p0 ∧ p0 ≤ gI s 61); have : (0 : Int) ≤ gI s 61 ∧ gI s 61 ≤ 1600 := hRs.1 61; have : gI qr4s 61 = gI s 61 := Fqr4s.1 61 (by decide); omega⟩
  · skip
    refine wp_rg (by omega) ?_
    refine wp_rg (by have : (0 : Int) ≤ gI s 61 ∧ gI s 61 ≤ 1600 := hRs.1 61; omega) ?_
    refine wp_if (fun c2 => ?_) (fun c2 => ?_)
    · skip
      refine wp_stn (fun s10 es10 => ?_)
      have hRs10 : Rg s10 := es10 ▸ Rg.uI hRs (by show (0 : Int) ≤ p0 ∧ p0 ≤ 1600; have : (0 : Int) ≤ gI s 61 ∧ gI s 61 ≤ 1600 := hRs.1 61; omega)
      exact wp_some ⟨hRs10, by show ((1 : Int) = 0 ∧ gI s10 61 = gI s 61 ∧ (p0 < 0 ∨ gI s 61 < p0)) ∨ ((1 : Int) = 1 ∧ gI s10 61 = p0 ∧ 0 ≤ p0 ∧ p0 ≤ gI s 61); have : (0 : Int) ≤ gI s 61 ∧ gI s 61 ≤ 1600 := hRs.1 61; have : gI s10 61 = p0 := q_II es10; omega⟩
    · skip
      unfold m_x11_end_J15
      refine wp_bn (w_x11_refuse hRs (by show 0 ≤ (0 : Int) ∧ (0 : Int) < 6; have : (0 : Int) ≤ gI s 61 ∧ gI s 61 ≤ 1600 := hRs.1 61; omega)) (fun qqr4 eqr4s hqr4s => ?_)
      obtain ⟨qr4r, qr4s⟩ := qqr4
      dsimp only at eqr4s hqr4s ⊢
      have Fqr4s := fr_x11_refuse eqr4s
      obtain ⟨hRqr4s, hqr4s_0⟩ := hqr4s
      have hqr4s_0 : qr4r = -1 := hqr4s_0
      exact wp_some ⟨hRqr4s, by show ((0 : Int) = 0 ∧ gI qr4s 61 = gI s 61 ∧ (p0 < 0 ∨ gI s 61 < p0)) ∨ ((0 : Int) = 1 ∧ gI qr4s 61 = p0 ∧ 0 ≤ p0 ∧ p0 ≤ gI s 61); have : (0 : Int) ≤ gI s 61 ∧ gI s 61 ≤ 1600 := hRs.1 61; have : gI qr4s 61 = gI s 61 := Fqr4s.1 61 (by decide); omega⟩
set_option maxHeartbeats 1000000 in
theorem w_x11_fault {p0 : Int} {s : MS} (hRs : Rg s) (hp0 : R2 p0) : wp (m_x11_fault p0 s) (fun r => True) := by
  unfold m_x11_fault
  refine wp_rg (by omega) ?_
  refine wp_if (fun c1 => ?_) (fun c1 => ?_)
  · skip
    exact wp_some (trivial)
  · skip
    refine wp_rg (by omega) ?_
    refine wp_if (fun c2 => ?_) (fun c2 => ?_)
    · skip
      refine wp_rg (by have : (0 : Int) ≤ gI s 100 ∧ gI s 100 ≤ 5 := hRs.1 100; omega) ?_
      refine wp_if (fun c3 => ?_) (fun c3 => ?_)
      · skip
        unfold m_x11_fault_J37
        unfold m_x11_fault_J38
        exact wp_some (trivial)
      · skip
        unfold m_x11_fault_J38
        exact wp_some (trivial)
    · skip
      unfold m_x11_fault_J37
      unfold m_x11_fault_J38
      exact wp_some (trivial)
set_option maxHeartbeats 1000000 in
theorem w_x2_toldRows {s : MS} (hRs : Rg s) : wp (m_x2_toldRows s) (fun r => (0 ≤ r ∧ r ≤ 40 ∧ r ≤ gI s 143 ∧ (r = gI s 143 ∨ r = 40))) := by
  unfold m_x2_toldRows
  refine wp_rg (by have : (0 : Int) ≤ gI s 143 ∧ gI s 143 ≤ 60 := hRs.1 143; omega) ?_
  exact wp_some (by show 0 ≤ (minZ (gI s 143) 40) ∧ (minZ (gI s 143) 40) ≤ 40 ∧ (minZ (gI s 143) 40) ≤ gI s 143 ∧ ((minZ (gI s 143) 40) = gI s 143 ∨ (minZ (gI s 143) 40) = 40); have : (0 : Int) ≤ gI s 143 ∧ gI s 143 ≤ 60 := hRs.1 143; have mm := mn_b (gI s 143) 40; omega)
set_option maxHeartbeats 1000000 in
theorem w_x11_has {p0 : Int} {s : MS} (hRs : Rg s) (hp0 : R2 p0) : wp (m_x11_has p0 s) (fun r => True) := by
  unfold m_x11_has
  refine wp_rg (by omega) ?_
  refine wp_if (fun c1 => ?_) (fun c1 => ?_)
  · skip
    exact wp_some (trivial)
  · skip
    refine wp_if (fun c2 => ?_) (fun c2 => ?_)
    · skip
      refine wp_bn (w_x8_volumes hRs) (fun r6 er6 hr6 => ?_)
      have hr6_0 := hr6
      have hr6_0 : 0 ≤ r6 ∧ r6 ≤ 8 := hr6_0
      exact wp_some (trivial)
    · skip
      refine wp_if (fun c3 => ?_) (fun c3 => ?_)
      · skip
        refine wp_bn (w_x8_used hRs) (fun r9 er9 hr9 => ?_)
        have hr9_0 := hr9
        have hr9_0 : 0 ≤ r9 ∧ r9 ≤ 48 := hr9_0
        exact wp_some (trivial)
      · skip
        refine wp_if (fun c4 => ?_) (fun c4 => ?_)
        · skip
          refine wp_bn (w_x8_held hRs) (fun r12 er12 hr12 => ?_)
          have hr12_0 := hr12
          have hr12_0 : 0 ≤ r12 ∧ r12 ≤ 48 := hr12_0
          exact wp_some (trivial)
        · skip
          refine wp_if (fun c5 => ?_) (fun c5 => ?_)
          · skip
            refine wp_bn (w_x8_used hRs) (fun r15 er15 hr15 => ?_)
            have hr15_0 := hr15
            have hr15_0 : 0 ≤ r15 ∧ r15 ≤ 48 := hr15_0
            refine wp_bn (w_x8_held hRs) (fun r17 er17 hr17 => ?_)
            have hr17_0 := hr17
            have hr17_0 : 0 ≤ r17 ∧ r17 ≤ 48 := hr17_0
            exact wp_some (trivial)
          · skip
            refine wp_if (fun c6 => ?_) (fun c6 => ?_)
            · skip
              exact wp_some (trivial)
            · skip
              refine wp_if (fun c7 => ?_) (fun c7 => ?_)
              · skip
                refine wp_bn (w_x2_toldRows hRs) (fun r21 er21 hr21 => ?_)
                have hr21_0 := hr21
                have hr21_0 : 0 ≤ r21 ∧ r21 ≤ 40 ∧ r21 ≤ gI s 143 ∧ (r21 = gI s 143 ∨ r21 = 40) := hr21_0
                exact wp_some (trivial)
              · skip
                refine wp_if (fun c8 => ?_) (fun c8 => ?_)
                · skip
                  exact wp_some (trivial)
                · skip
                  refine wp_if (fun c9 => ?_) (fun c9 => ?_)
                  · skip
                    exact wp_some (trivial)
                  · skip
                    refine wp_if (fun c10 => ?_) (fun c10 => ?_)
                    · skip
                      refine wp_rg (by have : (0 : Int) ≤ gI s 12 ∧ gI s 12 ≤ 1 := hRs.1 12; omega) ?_
                      refine wp_if (fun c11 => ?_) (fun c11 => ?_)
                      · skip
                        unfold m_x11_has_J146
                        exact wp_some (trivial)
                      · skip
                        unfold m_x11_has_J146
                        exact wp_some (trivial)
                    · skip
                      exact wp_some (trivial)
set_option maxHeartbeats 1000000 in
theorem w_x11_letter {p0 : Int} {p1 : Int} {s : MS} (hRs : Rg s) (hp0 : R2 p0) (hp1 : R2 p1) : wp (m_x11_letter p0 p1 s) (fun r => True) := by
  unfold m_x11_letter
  refine wp_rg (by have : (0 : Int) ≤ gI s 12 ∧ gI s 12 ≤ 1 := hRs.1 12; omega) ?_
  refine wp_if (fun c1 => ?_) (fun c1 => ?_)
  · skip
    unfold m_x11_letter_J32
    exact wp_some (trivial)
  · skip
    refine wp_rg (by have : (0 : Int) ≤ gI s 12 ∧ gI s 12 ≤ 1 := hRs.1 12; omega) ?_
    refine wp_if (fun c2 => ?_) (fun c2 => ?_)
    · skip
      unfold m_x11_letter_J32
      exact wp_some (trivial)
    · skip
      refine wp_rg (by have : (0 : Int) ≤ gI s 12 ∧ gI s 12 ≤ 1 := hRs.1 12; omega) ?_
      refine wp_rg (by have : (0 : Int) ≤ gI s 12 ∧ gI s 12 ≤ 1 := hRs.1 12; have : (0 : Int) ≤ gI s 584 ∧ gI s 584 ≤ 8 := hRs.1 584; omega) ?_
      refine wp_if (fun c3 => ?_) (fun c3 => ?_)
      · skip
        unfold m_x11_letter_J32
        exact wp_some (trivial)
      · skip
        refine wp_rg (by have : (0 : Int) ≤ gI s 584 ∧ gI s 584 ≤ 8 := hRs.1 584; have : (0 : Int) ≤ gI s 12 ∧ gI s 12 ≤ 1 := hRs.1 12; omega) ?_
        refine wp_if (fun c4 => ?_) (fun c4 => ?_)
        · skip
          unfold m_x11_letter_J32
          exact wp_some (trivial)
        · skip
          refine wp_rg (by have : (0 : Int) ≤ gI s 584 ∧ gI s 584 ≤ 8 := hRs.1 584; have : (0 : Int) ≤ gI s 12 ∧ gI s 12 ≤ 1 := hRs.1 12; omega) ?_
          refine wp_if (fun c5 => ?_) (fun c5 => ?_)
          · skip
            refine wp_rdIn (by have : (0 : Int) ≤ gI s 584 ∧ gI s 584 ≤ 8 := hRs.1 584; have : (0 : Int) ≤ gI s 12 ∧ gI s 12 ≤ 1 := hRs.1 12; omega) (fun y12 ey12 => ?_)
            have by12 : (-2147483648 : Int) ≤ y12 ∧ y12 ≤ 2147483647 := ey12 ▸ hRs.2.1 30 _ (by show _ < 48; have : (0 : Int) ≤ gI s 584 ∧ gI s 584 ≤ 8 := hRs.1 584; have : (0 : Int) ≤ gI s 12 ∧ gI s 12 ≤ 1 := hRs.1 12; omega)
            exact wp_some (trivial)
          · skip
            unfold m_x11_letter_J32
            exact wp_some (trivial)
set_option maxHeartbeats 1000000 in
theorem w_x11_block {p0 : Int} {p1 : Int} {s : MS} (hRs : Rg s) (hp0 : R2 p0) (hp1 : R2 p1) : wp (m_x11_block p0 p1 s) (fun r => True) := by
  unfold m_x11_block
  refine wp_bn (w_x8_isBlock hRs (by show R2 p0; omega)) (fun r4 er4 hr4 => ?_)
  have hr4_0 := hr4
  have hr4_0 : (r4 = 1 ∧ 0 ≤ p0 ∧ p0 < gI s 1060) ∨ (r4 = 0 ∧ (p0 < 0 ∨ gI s 1060 ≤ p0)) := hr4_0
  refine wp_rg (by have : (0 : Int) ≤ gI s 1060 ∧ gI s 1060 ≤ 48 := hRs.1 1060; omega) ?_
  refine wp_if (fun c1 => ?_) (fun c1 => ?_)
  · skip
    exact wp_some (trivial)
  · skip
    refine wp_rg (by have : (0 : Int) ≤ gI s 1060 ∧ gI s 1060 ≤ 48 := hRs.1 1060; omega) ?_
    refine wp_if (fun c2 => ?_) (fun c2 => ?_)
    · skip
      refine wp_rdIn (by have : (0 : Int) ≤ gI s 1060 ∧ gI s 1060 ≤ 48 := hRs.1 1060; omega) (fun y9 ey9 => ?_)
      have by9 : (-1 : Int) ≤ y9 ∧ y9 ≤ 100000 := ey9 ▸ hRs.2.1 54 _ (by show _ < 48; have : (0 : Int) ≤ gI s 1060 ∧ gI s 1060 ≤ 48 := hRs.1 1060; omega)
      exact wp_some (trivial)
    · skip
      refine wp_if (fun c3 => ?_) (fun c3 => ?_)
      · skip
        refine wp_rdIn (by have : (0 : Int) ≤ gI s 1060 ∧ gI s 1060 ≤ 48 := hRs.1 1060; omega) (fun y11 ey11 => ?_)
        have by11 : (-1 : Int) ≤ y11 ∧ y11 ≤ 100000 := ey11 ▸ hRs.2.1 55 _ (by show _ < 48; have : (0 : Int) ≤ gI s 1060 ∧ gI s 1060 ≤ 48 := hRs.1 1060; omega)
        exact wp_some (trivial)
      · skip
        refine wp_if (fun c4 => ?_) (fun c4 => ?_)
        · skip
          refine wp_bn (w_x8_levelOf hRs (by show R2 p0; have : (0 : Int) ≤ gI s 1060 ∧ gI s 1060 ≤ 48 := hRs.1 1060; omega)) (fun r14 er14 hr14 => ?_)
          obtain ⟨hr14_0, hr14_1⟩ := hr14
          have hr14_0 : r14 = 0 ∨ (r14 = gA s 56 p0.toNat ∧ 0 ≤ p0 ∧ p0 < gI s 1060 ∧ (0 < gA s 54 p0.toNat ∨ 0 < gA s 55 p0.toNat)) := hr14_0
          have hr14_1 : (-1) ≤ r14 ∧ r14 ≤ 1000 := hr14_1
          exact wp_some (trivial)
        · skip
          refine wp_if (fun c5 => ?_) (fun c5 => ?_)
          · skip
            refine wp_bn (w_x8_sizeOf hRs (by show R2 p0; have : (0 : Int) ≤ gI s 1060 ∧ gI s 1060 ≤ 48 := hRs.1 1060; omega)) (fun r17 er17 hr17 => ?_)
            obtain ⟨hr17_0, hr17_1⟩ := hr17
            have hr17_0 : r17 = 0 ∨ (r17 = gA s 57 p0.toNat ∧ 0 ≤ p0 ∧ p0 < gI s 1060 ∧ (0 < gA s 54 p0.toNat ∨ 0 < gA s 55 p0.toNat)) := hr17_0
            have hr17_1 : (-1) ≤ r17 ∧ r17 ≤ 255 := hr17_1
            exact wp_some (trivial)
          · skip
            refine wp_if (fun c6 => ?_) (fun c6 => ?_)
            · skip
              refine wp_bn (w_x8_isFresh hRs (by show R2 p0; have : (0 : Int) ≤ gI s 1060 ∧ gI s 1060 ≤ 48 := hRs.1 1060; omega)) (fun r20 er20 hr20 => ?_)
              have hr20_0 := hr20
              have hr20_0 : (r20 = 1 ∧ 0 ≤ p0 ∧ p0 < gI s 1060 ∧ 0 < gA s 54 p0.toNat ∧ gA s 55 p0.toNat = 0) ∨ (r20 = 0 ∧ (p0 < 0 ∨ gI s 1060 ≤ p0 ∨ ¬ (0 < gA s 54 p0.toNat ∧ gA s 55 p0.toNat = 0))) := hr20_0
              refine wp_rg (by have : (0 : Int) ≤ gI s 1060 ∧ gI s 1060 ≤ 48 := hRs.1 1060; omega) ?_
              refine wp_if (fun c7 => ?_) (fun c7 => ?_)
              · skip
                unfold m_x11_block_J95
                exact wp_some (trivial)
              · skip
                unfold m_x11_block_J95
                exact wp_some (trivial)
            · skip
              refine wp_if (fun c8 => ?_) (fun c8 => ?_)
              · skip
                refine wp_bn (w_x8_isHeld hRs (by show R2 p0; have : (0 : Int) ≤ gI s 1060 ∧ gI s 1060 ≤ 48 := hRs.1 1060; omega)) (fun r25 er25 hr25 => ?_)
                have hr25_0 := hr25
                have hr25_0 : (r25 = 1 ∧ 0 ≤ p0 ∧ p0 < gI s 1060 ∧ gA s 54 p0.toNat = 0 ∧ 0 < gA s 55 p0.toNat) ∨ (r25 = 0 ∧ (p0 < 0 ∨ gI s 1060 ≤ p0 ∨ ¬ (gA s 54 p0.toNat = 0 ∧ 0 < gA s 55 p0.toNat))) := hr25_0
                refine wp_rg (by have : (0 : Int) ≤ gI s 1060 ∧ gI s 1060 ≤ 48 := hRs.1 1060; omega) ?_
                refine wp_if (fun c9 => ?_) (fun c9 => ?_)
                · skip
                  unfold m_x11_block_J109
                  exact wp_some (trivial)
                · skip
                  unfold m_x11_block_J109
                  exact wp_some (trivial)
              · skip
                exact wp_some (trivial)
set_option maxHeartbeats 1000000 in
theorem w_x11_entry {p0 : Int} {p1 : Int} {p2 : Int} {s : MS} (hRs : Rg s) (hp0 : US (hN s) (kN s)) (hp1 : R2 p0) (hp2 : R2 p1) (hp3 : R2 p2) : wp (m_x11_entry p0 p1 p2 s) (fun r => True) := by
  unfold m_x11_entry
  refine wp_bn (w_x8_isBlock hRs (by show R2 p0; omega)) (fun r3 er3 hr3 => ?_)
  have hr3_0 := hr3
  have hr3_0 : (r3 = 1 ∧ 0 ≤ p0 ∧ p0 < gI s 1060) ∨ (r3 = 0 ∧ (p0 < 0 ∨ gI s 1060 ≤ p0)) := hr3_0
  refine wp_rg (by have : (0 : Int) ≤ gI s 1060 ∧ gI s 1060 ≤ 48 := hRs.1 1060; omega) ?_
  refine wp_if (fun c1 => ?_) (fun c1 => ?_)
  · skip
    unfold m_x11_entry_J32
    exact wp_some (trivial)
  · skip
    refine wp_rg (by have : (0 : Int) ≤ gI s 1060 ∧ gI s 1060 ≤ 48 := hRs.1 1060; omega) ?_
    refine wp_if (fun c2 => ?_) (fun c2 => ?_)
    · skip
      unfold m_x11_entry_J32
      exact wp_some (trivial)
    · skip
      refine wp_bn (w_x8_sizeOf hRs (by show R2 p0; have : (0 : Int) ≤ gI s 1060 ∧ gI s 1060 ≤ 48 := hRs.1 1060; omega)) (fun r9 er9 hr9 => ?_)
      obtain ⟨hr9_0, hr9_1⟩ := hr9
      have hr9_0 : r9 = 0 ∨ (r9 = gA s 57 p0.toNat ∧ 0 ≤ p0 ∧ p0 < gI s 1060 ∧ (0 < gA s 54 p0.toNat ∨ 0 < gA s 55 p0.toNat)) := hr9_0
      have hr9_1 : (-1) ≤ r9 ∧ r9 ≤ 255 := hr9_1
      have us1 : 0 ≤ p0 → p0 < 48 → 0 ≤ gA s 57 p0.toNat ∧ gA s 57 p0.toNat ≤ 6 := fun h1 h2 => (hp0 p0.toNat (by omega)).1
      refine wp_rg (by have : (0 : Int) ≤ gI s 1060 ∧ gI s 1060 ≤ 48 := hRs.1 1060; omega) ?_
      refine wp_rg (by have : (0 : Int) ≤ gI s 1060 ∧ gI s 1060 ≤ 48 := hRs.1 1060; omega) ?_
      refine wp_if (fun c3 => ?_) (fun c3 => ?_)
      · skip
        refine wp_bn (w_x8_slot hRs) (fun r14 er14 hr14 => ?_)
        have hr14_0 := hr14
        have hr14_0 : r14 = p0 * 6 + p1 := hr14_0
        refine wp_rg (by have : (0 : Int) ≤ gI s 1060 ∧ gI s 1060 ≤ 48 := hRs.1 1060; omega) ?_
        refine wp_if (fun c4 => ?_) (fun c4 => ?_)
        · skip
          refine wp_rdIn (by have : (0 : Int) ≤ gI s 1060 ∧ gI s 1060 ≤ 48 := hRs.1 1060; omega) (fun y20 ey20 => ?_)
          have by20 : (-257 : Int) ≤ y20 ∧ y20 ≤ 65535 := ey20 ▸ hRs.2.1 58 _ (by show _ < 288; have : (0 : Int) ≤ gI s 1060 ∧ gI s 1060 ≤ 48 := hRs.1 1060; omega)
          exact wp_some (trivial)
        · skip
          refine wp_rg (by have : (0 : Int) ≤ gI s 1060 ∧ gI s 1060 ≤ 48 := hRs.1 1060; omega) ?_
          refine wp_if (fun c5 => ?_) (fun c5 => ?_)
          · skip
            refine wp_rdIn (by have : (0 : Int) ≤ gI s 1060 ∧ gI s 1060 ≤ 48 := hRs.1 1060; omega) (fun y19 ey19 => ?_)
            have by19 : (-257 : Int) ≤ y19 ∧ y19 ≤ 65535 := ey19 ▸ hRs.2.1 59 _ (by show _ < 288; have : (0 : Int) ≤ gI s 1060 ∧ gI s 1060 ≤ 48 := hRs.1 1060; omega)
            unfold m_x11_entry_J73
            exact wp_some (trivial)
          · skip
            unfold m_x11_entry_J73
            exact wp_some (trivial)
      · skip
        unfold m_x11_entry_J32
        exact wp_some (trivial)
set_option maxHeartbeats 1000000 in
theorem w_x2_toldOf {p0 : Int} {p1 : Int} {s : MS} (hRs : Rg s) (hp0 : R2 p0) (hp1 : R2 p1) : wp (m_x2_toldOf p0 p1 s) (fun r => True) := by
  unfold m_x2_toldOf
  refine wp_rg (by omega) ?_
  refine wp_if (fun c1 => ?_) (fun c1 => ?_)
  · skip
    unfold m_x2_toldOf_J12
    exact wp_some (trivial)
  · skip
    refine wp_bn (w_x2_toldRows hRs) (fun r4 er4 hr4 => ?_)
    have hr4_0 := hr4
    have hr4_0 : 0 ≤ r4 ∧ r4 ≤ 40 ∧ r4 ≤ gI s 143 ∧ (r4 = gI s 143 ∨ r4 = 40) := hr4_0
    refine wp_rg (by have : (0 : Int) ≤ gI s 143 ∧ gI s 143 ≤ 60 := hRs.1 143; omega) ?_
    refine wp_rg (by have : (0 : Int) ≤ gI s 143 ∧ gI s 143 ≤ 60 := hRs.1 143; omega) ?_
    refine wp_if (fun c2 => ?_) (fun c2 => ?_)
    · skip
      refine wp_bn (w_x2_toldRows hRs) (fun r9 er9 hr9 => ?_)
      have hr9_0 := hr9
      have hr9_0 : 0 ≤ r9 ∧ r9 ≤ 40 ∧ r9 ≤ gI s 143 ∧ (r9 = gI s 143 ∨ r9 = 40) := hr9_0
      refine wp_rg (by have : (0 : Int) ≤ gI s 143 ∧ gI s 143 ≤ 60 := hRs.1 143; omega) ?_
      refine wp_if (fun c3 => ?_) (fun c3 => ?_)
      · skip
        refine wp_rdIn (by have : (0 : Int) ≤ gI s 143 ∧ gI s 143 ≤ 60 := hRs.1 143; omega) (fun y12 ey12 => ?_)
        have by12 : (-2147483648 : Int) ≤ y12 ∧ y12 ≤ 2147483647 := ey12 ▸ hRs.2.1 8 _ (by show _ < 60; have : (0 : Int) ≤ gI s 143 ∧ gI s 143 ≤ 60 := hRs.1 143; omega)
        exact wp_some (trivial)
      · skip
        refine wp_if (fun c4 => ?_) (fun c4 => ?_)
        · skip
          refine wp_rdIn (by have : (0 : Int) ≤ gI s 143 ∧ gI s 143 ≤ 60 := hRs.1 143; omega) (fun y14 ey14 => ?_)
          have by14 : (-2147483648 : Int) ≤ y14 ∧ y14 ≤ 2147483647 := ey14 ▸ hRs.2.1 9 _ (by show _ < 60; have : (0 : Int) ≤ gI s 143 ∧ gI s 143 ≤ 60 := hRs.1 143; omega)
          exact wp_some (trivial)
        · skip
          refine wp_if (fun c5 => ?_) (fun c5 => ?_)
          · skip
            refine wp_rdIn (by have : (0 : Int) ≤ gI s 143 ∧ gI s 143 ≤ 60 := hRs.1 143; omega) (fun y16 ey16 => ?_)
            have by16 : (-2147483648 : Int) ≤ y16 ∧ y16 ≤ 2147483647 := ey16 ▸ hRs.2.1 10 _ (by show _ < 60; have : (0 : Int) ≤ gI s 143 ∧ gI s 143 ≤ 60 := hRs.1 143; omega)
            exact wp_some (trivial)
          · skip
            exact wp_some (trivial)
    · skip
      unfold m_x2_toldOf_J12
      exact wp_some (trivial)
set_option maxHeartbeats 1000000 in
theorem w_x11_kept {p0 : Int} {p1 : Int} {s : MS} (hRs : Rg s) (hp0 : R2 p0) (hp1 : R2 p1) : wp (m_x11_kept p0 p1 s) (fun r => True) := by
  unfold m_x11_kept
  refine wp_bn (w_x2_toldOf hRs (by show R2 p0; omega) (by show R2 p1; omega)) (fun r2 er2 hr2 => ?_)
  exact wp_some (trivial)
set_option maxHeartbeats 1000000 in
theorem w_x11_isKey {p0 : Int} {s : MS} (hRs : Rg s) (hp0 : R2 p0) : wp (m_x11_isKey p0 s) (fun r => ((r = 1 ∧ 0 ≤ p0 ∧ p0 ≤ 999) ∨ (r = 0 ∧ (p0 < 0 ∨ 999 < p0)))) := by
  unfold m_x11_isKey
  refine wp_rg (by omega) ?_
  refine wp_if (fun c1 => ?_) (fun c1 => ?_)
  · skip
    unfold m_x11_isKey_J15
    unfold m_x11_isKey_J16
    refine wp_bo (by omega) ?_
    exact wp_some (by show ((0 : Int) = 1 ∧ 0 ≤ p0 ∧ p0 ≤ 999) ∨ ((0 : Int) = 0 ∧ (p0 < 0 ∨ 999 < p0)); omega)
  · skip
    refine wp_rg (by omega) ?_
    refine wp_if (fun c2 => ?_) (fun c2 => ?_)
    · skip
      unfold m_x11_isKey_J15
      unfold m_x11_isKey_J16
      refine wp_bo (by omega) ?_
      exact wp_some (by show ((0 : Int) = 1 ∧ 0 ≤ p0 ∧ p0 ≤ 999) ∨ ((0 : Int) = 0 ∧ (p0 < 0 ∨ 999 < p0)); omega)
    · skip
      unfold m_x11_isKey_J16
      refine wp_bo (by omega) ?_
      exact wp_some (by show ((1 : Int) = 1 ∧ 0 ≤ p0 ∧ p0 ≤ 999) ∨ ((1 : Int) = 0 ∧ (p0 < 0 ∨ 999 < p0)); omega)
set_option maxHeartbeats 1000000 in
theorem w_x11_seed {p0 : Int} {s : MS} (hRs : Rg s) (hp0 : R2 p0) : wp (m_x11_seed p0 s) (fun q => (Rg q.2)) := by
  unfold m_x11_seed
  refine wp_rg (by omega) ?_
  refine wp_if (fun c1 => ?_) (fun c1 => ?_)
  · skip
    refine wp_stn (fun s3 es3 => ?_)
    have hRs3 : Rg s3 := es3 ▸ Rg.uI hRs (by show (0 : Int) ≤ p0 ∧ p0 ≤ 2147483647; omega)
    exact wp_some (hRs3)
  · skip
    refine wp_bn (w_x11_refuse hRs (by show 0 ≤ (5 : Int) ∧ (5 : Int) < 6; omega)) (fun qqr6 eqr6s hqr6s => ?_)
    obtain ⟨qr6r, qr6s⟩ := qqr6
    dsimp only at eqr6s hqr6s ⊢
    have Fqr6s := fr_x11_refuse eqr6s
    obtain ⟨hRqr6s, hqr6s_0⟩ := hqr6s
    have hqr6s_0 : qr6r = -1 := hqr6s_0
    exact wp_some (hRqr6s)
set_option maxHeartbeats 1000000 in
theorem w_x11_status {p0 : Int} {s : MS} (hRs : Rg s) (hp0 : R2 p0) : wp (m_x11_status p0 s) (fun r => True) := by
  unfold m_x11_status
  refine wp_rg (by omega) ?_
  refine wp_if (fun c1 => ?_) (fun c1 => ?_)
  · skip
    unfold m_x11_status_J19
    unfold m_x11_status_J20
    exact wp_some (trivial)
  · skip
    refine wp_rg (by omega) ?_
    refine wp_if (fun c2 => ?_) (fun c2 => ?_)
    · skip
      unfold m_x11_status_J19
      unfold m_x11_status_J20
      exact wp_some (trivial)
    · skip
      refine wp_rdIn (by omega) (fun y6 ey6 => ?_)
      unfold m_x11_status_J20
      exact wp_some (trivial)
set_option maxHeartbeats 1000000 in
theorem w_x11_octet {p0 : Int} {s : MS} (hRs : Rg s) (hp0 : R2 p0) : wp (m_x11_octet p0 s) (fun r => True) := by
  unfold m_x11_octet
  refine wp_rg (by omega) ?_
  refine wp_if (fun c1 => ?_) (fun c1 => ?_)
  · skip
    unfold m_x11_octet_J27
    unfold m_x11_octet_J28
    exact wp_some (trivial)
  · skip
    refine wp_rg (by omega) ?_
    refine wp_rg (by have : (0 : Int) ≤ gI s 321 ∧ gI s 321 ≤ 1364 := hRs.1 321; omega) ?_
    refine wp_if (fun c2 => ?_) (fun c2 => ?_)
    · skip
      unfold m_x11_octet_J27
      unfold m_x11_octet_J28
      exact wp_some (trivial)
    · skip
      refine wp_rdIn (by have : (0 : Int) ≤ gI s 321 ∧ gI s 321 ≤ 1364 := hRs.1 321; omega) (fun y7 ey7 => ?_)
      have by7 : (0 : Int) ≤ y7 ∧ y7 ≤ 255 := ey7 ▸ hRs.2.1 17 _ (by show _ < 1364; have : (0 : Int) ≤ gI s 321 ∧ gI s 321 ≤ 1364 := hRs.1 321; omega)
      unfold m_x11_octet_J28
      exact wp_some (trivial)
set_option maxHeartbeats 1000000 in
theorem w_x11_oneOf {p0 : Int} {p1 : Int} {p2 : Int} {s : MS} (hRs : Rg s) (hp0 : R2 p0) : wp (m_x11_oneOf p0 p1 p2 s) (fun r => True) := by
  unfold m_x11_oneOf
  refine wp_rg (by omega) ?_
  refine wp_if (fun c1 => ?_) (fun c1 => ?_)
  · skip
    exact wp_some (trivial)
  · skip
    refine wp_rg (by omega) ?_
    refine wp_if (fun c2 => ?_) (fun c2 => ?_)
    · skip
      unfold m_x11_oneOf_J16
      exact wp_some (trivial)
    · skip
      unfold m_x11_oneOf_J16
      exact wp_some (trivial)
set_option maxHeartbeats 1000000 in
theorem w_x11_room {p0 : Int} {s : MS} (hRs : Rg s) (hp0 : R2 p0) : wp (m_x11_room p0 s) (fun r => True) := by
  unfold m_x11_room
  refine wp_rg (by have : (0 : Int) ≤ gI s 12 ∧ gI s 12 ≤ 1 := hRs.1 12; omega) ?_
  refine wp_if (fun c1 => ?_) (fun c1 => ?_)
  · skip
    exact wp_some (trivial)
  · skip
    refine wp_rg (by have : (0 : Int) ≤ gI s 12 ∧ gI s 12 ≤ 1 := hRs.1 12; omega) ?_
    refine wp_if (fun c2 => ?_) (fun c2 => ?_)
    · skip
      refine wp_bn (w_x8_used hRs) (fun r6 er6 hr6 => ?_)
      have hr6_0 := hr6
      have hr6_0 : 0 ≤ r6 ∧ r6 ≤ 48 := hr6_0
      refine wp_bn (w_x8_held hRs) (fun r8 er8 hr8 => ?_)
      have hr8_0 := hr8
      have hr8_0 : 0 ≤ r8 ∧ r8 ≤ 48 := hr8_0
      exact wp_some (trivial)
    · skip
      refine wp_if (fun c3 => ?_) (fun c3 => ?_)
      · skip
        refine wp_bn (w_x8_used hRs) (fun r11 er11 hr11 => ?_)
        have hr11_0 := hr11
        have hr11_0 : 0 ≤ r11 ∧ r11 ≤ 48 := hr11_0
        exact wp_some (trivial)
      · skip
        refine wp_if (fun c4 => ?_) (fun c4 => ?_)
        · skip
          refine wp_bn (w_x8_keptBlocks hRs) (fun r14 er14 hr14 => ?_)
          have hr14_0 := hr14
          have hr14_0 : 0 ≤ r14 ∧ r14 ≤ 48 := hr14_0
          exact wp_some (trivial)
        · skip
          exact wp_some (trivial)
set_option maxHeartbeats 1000000 in
theorem w_j13_bitCount_95d88 {p0 : Int} {s : MS} (hRs : Rg s) : wp (m_j13_bitCount_95d88 p0 s) (fun r => True) := by
  unfold m_j13_bitCount_95d88
  exact wp_some (trivial)
set_option maxHeartbeats 1000000 in
theorem w_x2_clear {s : MS} (hRs : Rg s) : wp (m_x2_clear s) (fun o => (Rg o) ∧ (gI o 143 = 0 ∧ gI o 145 = 0)) := by
  unfold m_x2_clear
  refine wp_stn (fun s1 es1 => ?_)
  have hRs1 : Rg s1 := es1 ▸ Rg.uI hRs (by show (0 : Int) ≤ (0 : Int) ∧ (0 : Int) ≤ 60; omega)
  refine wp_stn (fun s2 es2 => ?_)
  have hRs2 : Rg s2 := es2 ▸ Rg.uI hRs1 (by show (0 : Int) ≤ (0 : Int) ∧ (0 : Int) ≤ 20; omega)
  exact wp_some ⟨hRs2, by show gI s2 143 = 0 ∧ gI s2 145 = 0; have : gI s2 145 = 0 := q_II es2; have : gI s2 143 = gI s1 143 := q_Ii es2 (by decide); have : gI s1 143 = 0 := q_II es1; omega⟩
set_option maxHeartbeats 1000000 in
theorem w_x10_tree {p1 : Int} {s : MS} (hRs : Rg s) (hp0 : US (hN s) (kN s)) (hp1 : (-2) ≤ p1 ∧ p1 < 48) : wp (m_x10_tree p1 s) (fun q => (Rg q.2) ∧ (R8 q.1)) := by
  unfold m_x10_tree
  refine wp_stn (fun s42 es42 => ?_)
  have hRs42 : Rg s42 := es42 ▸ Rg.uI hRs (by show (0 : Int) ≤ (0 : Int) ∧ (0 : Int) ≤ 48; omega)
  refine wp_rg (by omega) ?_
  refine wp_if (fun c1 => ?_) (fun c1 => ?_)
  · skip
    refine wp_inb (by omega) ?_
    refine wp_stn (fun s46 es46 => ?_)
    have hRs46 : Rg s46 := es46 ▸ Rg.uAu hRs42 (by show (0 : Int) ≤ p1 ∧ p1 ≤ 47; omega)
    refine wp_stn (fun s47 es47 => ?_)
    have hRs47 : Rg s47 := es47 ▸ Rg.uI hRs46 (by show (0 : Int) ≤ (1 : Int) ∧ (1 : Int) ≤ 48; omega)
    have L30 : ∀ (n : Nat) (z3 : Int) (x4 : Int) (s5 : MS), Rg s5 → (R8 z3) → (0 ≤ x4 ∧ x4 ≤ 48) → (gA s5 56 = gA s 56 ∧ gA s5 57 = gA s 57 ∧ gA s5 58 = gA s 58 ∧ gA s5 59 = gA s 59) → (48 - x4) < (n : Int) → wp (m_x10_tree_L30 n z3 x4 s5) (fun q => (Rg q.2) ∧ (R8 q.1)) := by
      refine fr_ind (fun z3 x4 s5 hRs5 hv30_0 hv30_1 hv30_2 hm30 => ?_) (fun n30 ih30 z3 x4 s5 hRs5 hv30_0 hv30_1 hv30_2 hm30 => ?_)
      · exfalso; omega
      · show wp (m_x10_tree_b30 (m_x10_tree_L30 n30) z3 x4 s5) _
        unfold m_x10_tree_b30
        refine wp_rg (by omega) ?_
        refine wp_rg (by have : (0 : Int) ≤ gI s5 421 ∧ gI s5 421 ≤ 48 := hRs5.1 421; omega) ?_
        refine wp_if (fun c2 => ?_) (fun c2 => ?_)
        · skip
          unfold m_x10_tree_J161
          exact wp_some ⟨hRs5, hv30_0⟩
        · skip
          refine wp_rg (by have : (0 : Int) ≤ gI s5 421 ∧ gI s5 421 ≤ 48 := hRs5.1 421; omega) ?_
          refine wp_if (fun c3 => ?_) (fun c3 => ?_)
          · skip
            unfold m_x10_tree_J161
            exact wp_some ⟨hRs5, hv30_0⟩
          · skip
            refine wp_rdIn (by have : (0 : Int) ≤ gI s5 421 ∧ gI s5 421 ≤ 48 := hRs5.1 421; omega) (fun y36 ey36 => ?_)
            have by36 : (0 : Int) ≤ y36 ∧ y36 ≤ 47 := ey36 ▸ hRs5.2.1 22 _ (by show _ < 48; have : (0 : Int) ≤ gI s5 421 ∧ gI s5 421 ≤ 48 := hRs5.1 421; omega)
            refine wp_rdIn (by have : (0 : Int) ≤ gI s5 421 ∧ gI s5 421 ≤ 48 := hRs5.1 421; omega) (fun y37 ey37 => ?_)
            have by37 : (-1 : Int) ≤ y37 ∧ y37 ≤ 1000 := ey37 ▸ hRs5.2.1 56 _ (by show _ < 48; have : (0 : Int) ≤ gI s5 421 ∧ gI s5 421 ≤ 48 := hRs5.1 421; omega)
            refine wp_rg (by have : (0 : Int) ≤ gI s5 421 ∧ gI s5 421 ≤ 48 := hRs5.1 421; omega) ?_
            refine wp_if (fun c4 => ?_) (fun c4 => ?_)
            · skip
              unfold m_x10_tree_J77
              have L82 : ∀ (n : Nat) (z9 : Int) (x10 : Int) (x11 : Int) (x12 : Int) (s13 : MS), Rg s13 → (R8 z9) → (0 ≤ x10 ∧ x10 < 48 ∧ x10 = x4) → (x11 ≤ 0 ∨ (x11 = gA s 57 (gA s13 22 x10.toNat).toNat ∧ 0 < gA s 56 (gA s13 22 x10.toNat).toNat)) → (0 ≤ x12 ∧ x12 ≤ 6) → (x10 < gI s13 421) → (gA s13 56 = gA s 56 ∧ gA s13 57 = gA s 57 ∧ gA s13 58 = gA s 58 ∧ gA s13 59 = gA s 59) → ((-1) ≤ x11 ∧ x11 ≤ 255) → (6 - x12) < (n : Int) → wp (m_x10_tree_L82 (m_x10_tree_L30 n30) n z9 x10 x11 x12 s13) (fun q => (Rg q.2) ∧ (R8 q.1)) := by
                refine fr_ind (fun z9 x10 x11 x12 s13 hRs13 hv82_0 hv82_1 hv82_2 hv82_3 hv82_4 hv82_5 hv82_6 hm82 => ?_) (fun n82 ih82 z9 x10 x11 x12 s13 hRs13 hv82_0 hv82_1 hv82_2 hv82_3 hv82_4 hv82_5 hv82_6 hm82 => ?_)
                · exfalso; have : (0 : Int) ≤ gI s13 421 ∧ gI s13 421 ≤ 48 := hRs13.1 421; omega
                · show wp (m_x10_tree_b82 (m_x10_tree_L30 n30) (m_x10_tree_L82 (m_x10_tree_L30 n30) n82) z9 x10 x11 x12 s13) _
                  unfold m_x10_tree_b82
                  refine wp_rg (by have : (0 : Int) ≤ gI s13 421 ∧ gI s13 421 ≤ 48 := hRs13.1 421; have : (0 : Int) ≤ gI s5 421 ∧ gI s5 421 ≤ 48 := hRs5.1 421; omega) ?_
                  refine wp_rg (by have : (0 : Int) ≤ gI s13 421 ∧ gI s13 421 ≤ 48 := hRs13.1 421; have : (0 : Int) ≤ gI s5 421 ∧ gI s5 421 ≤ 48 := hRs5.1 421; omega) ?_
                  refine wp_if (fun c5 => ?_) (fun c5 => ?_)
                  · skip
                    unfold m_x10_tree_J155
                    exact ih30 z9 (x10 + 1) s13 hRs13 (hv82_0) (by show 0 ≤ (x10 + 1) ∧ (x10 + 1) ≤ 48; have : (0 : Int) ≤ gI s13 421 ∧ gI s13 421 ≤ 48 := hRs13.1 421; have : (0 : Int) ≤ gI s5 421 ∧ gI s5 421 ≤ 48 := hRs5.1 421; omega) (hv82_5) (by have : (0 : Int) ≤ gI s13 421 ∧ gI s13 421 ≤ 48 := hRs13.1 421; have : (0 : Int) ≤ gI s5 421 ∧ gI s5 421 ≤ 48 := hRs5.1 421; omega)
                  · skip
                    refine wp_rg (by have : (0 : Int) ≤ gI s5 421 ∧ gI s5 421 ≤ 48 := hRs5.1 421; have : (0 : Int) ≤ gI s13 421 ∧ gI s13 421 ≤ 48 := hRs13.1 421; omega) ?_
                    refine wp_if (fun c6 => ?_) (fun c6 => ?_)
                    · skip
                      unfold m_x10_tree_J155
                      exact ih30 z9 (x10 + 1) s13 hRs13 (hv82_0) (by show 0 ≤ (x10 + 1) ∧ (x10 + 1) ≤ 48; have : (0 : Int) ≤ gI s13 421 ∧ gI s13 421 ≤ 48 := hRs13.1 421; have : (0 : Int) ≤ gI s5 421 ∧ gI s5 421 ≤ 48 := hRs5.1 421; omega) (hv82_5) (by have : (0 : Int) ≤ gI s13 421 ∧ gI s13 421 ≤ 48 := hRs13.1 421; have : (0 : Int) ≤ gI s5 421 ∧ gI s5 421 ≤ 48 := hRs5.1 421; omega)
                    · skip
                      refine wp_rdIn (by have : (0 : Int) ≤ gI s13 421 ∧ gI s13 421 ≤ 48 := hRs13.1 421; have : (0 : Int) ≤ gI s5 421 ∧ gI s5 421 ≤ 48 := hRs5.1 421; omega) (fun y19 ey19 => ?_)
                      have by19 : (0 : Int) ≤ y19 ∧ y19 ≤ 47 := ey19 ▸ hRs13.2.1 22 _ (by show _ < 48; have : (0 : Int) ≤ gI s13 421 ∧ gI s13 421 ≤ 48 := hRs13.1 421; have : (0 : Int) ≤ gI s5 421 ∧ gI s5 421 ≤ 48 := hRs5.1 421; omega)
                      have us := hp0 y19.toNat (by omega)
                      have us1 : 0 ≤ gA s 57 y19.toNat ∧ gA s 57 y19.toNat ≤ 6 := us.1
                      have hw := hv82_2
                      rw [ey19] at hw
                      refine wp_bn (w_x8_slot hRs13) (fun r21 er21 hr21 => ?_)
                      have hr21_0 := hr21
                      have hr21_0 : r21 = y19 * 6 + x12 := hr21_0
                      refine wp_rdIn (by have : (0 : Int) ≤ gI s13 421 ∧ gI s13 421 ≤ 48 := hRs13.1 421; have : (0 : Int) ≤ gI s5 421 ∧ gI s5 421 ≤ 48 := hRs5.1 421; omega) (fun y22 ey22 => ?_)
                      have by22 : (-257 : Int) ≤ y22 ∧ y22 ≤ 65535 := ey22 ▸ hRs13.2.1 59 _ (by show _ < 288; have : (0 : Int) ≤ gI s13 421 ∧ gI s13 421 ≤ 48 := hRs13.1 421; have : (0 : Int) ≤ gI s5 421 ∧ gI s5 421 ≤ 48 := hRs5.1 421; omega)
                      have us2 := us.2.1 (by show 0 < gA s 56 y19.toNat; omega) x12.toNat (by show ((x12.toNat : Nat) : Int) < gA s 57 y19.toNat; omega)
                      have us3 : 0 ≤ gA s 59 (6 * y19.toNat + x12.toNat) ∧ gA s 59 (6 * y19.toNat + x12.toNat) < 48 := us2
                      rw [← hv82_5.2.2.2, show 6 * y19.toNat + x12.toNat = r21.toNat by omega, ey22] at us3
                      refine wp_inb (by have : (0 : Int) ≤ gI s5 421 ∧ gI s5 421 ≤ 48 := hRs5.1 421; have : (0 : Int) ≤ gI s13 421 ∧ gI s13 421 ≤ 48 := hRs13.1 421; omega) ?_
                      refine wp_stn (fun s24 es24 => ?_)
                      have hRs24 : Rg s24 := es24 ▸ Rg.uAu hRs13 (by show (0 : Int) ≤ y22 ∧ y22 ≤ 47; have : (0 : Int) ≤ gI s13 421 ∧ gI s13 421 ≤ 48 := hRs13.1 421; have : (0 : Int) ≤ gI s5 421 ∧ gI s5 421 ≤ 48 := hRs5.1 421; omega)
                      refine wp_rdIn (by have : (0 : Int) ≤ gI s13 421 ∧ gI s13 421 ≤ 48 := hRs13.1 421; have : (0 : Int) ≤ gI s5 421 ∧ gI s5 421 ≤ 48 := hRs5.1 421; have : gI s24 421 = gI s13 421 := q_Ai es24; omega) (fun y25 ey25 => ?_)
                      have by25 : (0 : Int) ≤ y25 ∧ y25 ≤ 47 := ey25 ▸ hRs24.2.1 22 _ (by show _ < 48; have : (0 : Int) ≤ gI s13 421 ∧ gI s13 421 ≤ 48 := hRs13.1 421; have : (0 : Int) ≤ gI s5 421 ∧ gI s5 421 ≤ 48 := hRs5.1 421; have : gI s24 421 = gI s13 421 := q_Ai es24; omega)
                      refine wp_stn (fun s26 es26 => ?_)
                      have hRs26 : Rg s26 := es26 ▸ Rg.uI hRs24 (by show (0 : Int) ≤ ((gI s24 421) + 1) ∧ ((gI s24 421) + 1) ≤ 48; have : (0 : Int) ≤ gI s13 421 ∧ gI s13 421 ≤ 48 := hRs13.1 421; have : (0 : Int) ≤ gI s5 421 ∧ gI s5 421 ≤ 48 := hRs5.1 421; have : gI s24 421 = gI s13 421 := q_Ai es24; omega)
                      exact ih82 (orL z9 (shlLZ 1 y25)) x10 x11 (x12 + 1) s26 hRs26 (R8_or _ _) (by show 0 ≤ x10 ∧ x10 < 48 ∧ x10 = x4; have : (0 : Int) ≤ gI s13 421 ∧ gI s13 421 ≤ 48 := hRs13.1 421; have : (0 : Int) ≤ gI s5 421 ∧ gI s5 421 ≤ 48 := hRs5.1 421; omega) (by rw [show gA s26 22 x10.toNat = gA s13 22 x10.toNat from by rw [(q_Ia es26 : gA s26 22 = gA s24 22), q_AA es24, upZ_n (by omega)]]; exact hv82_2) (by show 0 ≤ (x12 + 1) ∧ (x12 + 1) ≤ 6; have : (0 : Int) ≤ gI s13 421 ∧ gI s13 421 ≤ 48 := hRs13.1 421; have : (0 : Int) ≤ gI s5 421 ∧ gI s5 421 ≤ 48 := hRs5.1 421; omega) (by show x10 < gI s26 421; have : (0 : Int) ≤ gI s13 421 ∧ gI s13 421 ≤ 48 := hRs13.1 421; have : (0 : Int) ≤ gI s5 421 ∧ gI s5 421 ≤ 48 := hRs5.1 421; have : gI s26 421 = (gI s24 421) + 1 := q_II es26; have : gI s24 421 = gI s13 421 := q_Ai es24; omega) (⟨(((q_Ia es26 : gA s26 56 = gA s24 56).trans (q_Aa es24 (by decide) : gA s24 56 = gA s13 56))).trans hv82_5.1, (((q_Ia es26 : gA s26 57 = gA s24 57).trans (q_Aa es24 (by decide) : gA s24 57 = gA s13 57))).trans hv82_5.2.1, (((q_Ia es26 : gA s26 58 = gA s24 58).trans (q_Aa es24 (by decide) : gA s24 58 = gA s13 58))).trans hv82_5.2.2.1, (((q_Ia es26 : gA s26 59 = gA s24 59).trans (q_Aa es24 (by decide) : gA s24 59 = gA s13 59))).trans hv82_5.2.2.2⟩) (by show (-1) ≤ x11 ∧ x11 ≤ 255; have : (0 : Int) ≤ gI s13 421 ∧ gI s13 421 ≤ 48 := hRs13.1 421; have : (0 : Int) ≤ gI s5 421 ∧ gI s5 421 ≤ 48 := hRs5.1 421; omega) (by have : (0 : Int) ≤ gI s13 421 ∧ gI s13 421 ≤ 48 := hRs13.1 421; have : (0 : Int) ≤ gI s5 421 ∧ gI s5 421 ≤ 48 := hRs5.1 421; omega)
              exact L82 FU z3 x4 0 0 s5 hRs5 (hv30_0) (by show 0 ≤ x4 ∧ x4 < 48 ∧ x4 = x4; have : (0 : Int) ≤ gI s5 421 ∧ gI s5 421 ≤ 48 := hRs5.1 421; omega) (by first | exact Or.inl (by omega) | exact Or.inr ⟨by rw [ey40, ← hv30_2.2.1, ey41], by rw [ey36, ← hv30_2.1, ey37]; omega⟩) (by show 0 ≤ (0 : Int) ∧ (0 : Int) ≤ 6; have : (0 : Int) ≤ gI s5 421 ∧ gI s5 421 ≤ 48 := hRs5.1 421; omega) (by show x4 < gI s5 421; have : (0 : Int) ≤ gI s5 421 ∧ gI s5 421 ≤ 48 := hRs5.1 421; omega) (hv30_2) (by show (-1) ≤ (0 : Int) ∧ (0 : Int) ≤ 255; have : (0 : Int) ≤ gI s5 421 ∧ gI s5 421 ≤ 48 := hRs5.1 421; omega) (by have := FU_big; have := FU_big2; have : (0 : Int) ≤ gI s5 421 ∧ gI s5 421 ≤ 48 := hRs5.1 421; omega)
            · skip
              refine wp_rdIn (by have : (0 : Int) ≤ gI s5 421 ∧ gI s5 421 ≤ 48 := hRs5.1 421; omega) (fun y40 ey40 => ?_)
              have by40 : (0 : Int) ≤ y40 ∧ y40 ≤ 47 := ey40 ▸ hRs5.2.1 22 _ (by show _ < 48; have : (0 : Int) ≤ gI s5 421 ∧ gI s5 421 ≤ 48 := hRs5.1 421; omega)
              refine wp_rdIn (by have : (0 : Int) ≤ gI s5 421 ∧ gI s5 421 ≤ 48 := hRs5.1 421; omega) (fun y41 ey41 => ?_)
              have by41 : (-1 : Int) ≤ y41 ∧ y41 ≤ 255 := ey41 ▸ hRs5.2.1 57 _ (by show _ < 48; have : (0 : Int) ≤ gI s5 421 ∧ gI s5 421 ≤ 48 := hRs5.1 421; omega)
              unfold m_x10_tree_J77
              have L82 : ∀ (n : Nat) (z9 : Int) (x10 : Int) (x11 : Int) (x12 : Int) (s13 : MS), Rg s13 → (R8 z9) → (0 ≤ x10 ∧ x10 < 48 ∧ x10 = x4) → (x11 ≤ 0 ∨ (x11 = gA s 57 (gA s13 22 x10.toNat).toNat ∧ 0 < gA s 56 (gA s13 22 x10.toNat).toNat)) → (0 ≤ x12 ∧ x12 ≤ 6) → (x10 < gI s13 421) → (gA s13 56 = gA s 56 ∧ gA s13 57 = gA s 57 ∧ gA s13 58 = gA s 58 ∧ gA s13 59 = gA s 59) → ((-1) ≤ x11 ∧ x11 ≤ 255) → (6 - x12) < (n : Int) → wp (m_x10_tree_L82 (m_x10_tree_L30 n30) n z9 x10 x11 x12 s13) (fun q => (Rg q.2) ∧ (R8 q.1)) := by
                refine fr_ind (fun z9 x10 x11 x12 s13 hRs13 hv82_0 hv82_1 hv82_2 hv82_3 hv82_4 hv82_5 hv82_6 hm82 => ?_) (fun n82 ih82 z9 x10 x11 x12 s13 hRs13 hv82_0 hv82_1 hv82_2 hv82_3 hv82_4 hv82_5 hv82_6 hm82 => ?_)
                · exfalso; have : (0 : Int) ≤ gI s13 421 ∧ gI s13 421 ≤ 48 := hRs13.1 421; omega
                · show wp (m_x10_tree_b82 (m_x10_tree_L30 n30) (m_x10_tree_L82 (m_x10_tree_L30 n30) n82) z9 x10 x11 x12 s13) _
                  unfold m_x10_tree_b82
                  refine wp_rg (by have : (0 : Int) ≤ gI s13 421 ∧ gI s13 421 ≤ 48 := hRs13.1 421; have : (0 : Int) ≤ gI s5 421 ∧ gI s5 421 ≤ 48 := hRs5.1 421; omega) ?_
                  refine wp_rg (by have : (0 : Int) ≤ gI s13 421 ∧ gI s13 421 ≤ 48 := hRs13.1 421; have : (0 : Int) ≤ gI s5 421 ∧ gI s5 421 ≤ 48 := hRs5.1 421; omega) ?_
                  refine wp_if (fun c7 => ?_) (fun c7 => ?_)
                  · skip
                    unfold m_x10_tree_J155
                    exact ih30 z9 (x10 + 1) s13 hRs13 (hv82_0) (by show 0 ≤ (x10 + 1) ∧ (x10 + 1) ≤ 48; have : (0 : Int) ≤ gI s13 421 ∧ gI s13 421 ≤ 48 := hRs13.1 421; have : (0 : Int) ≤ gI s5 421 ∧ gI s5 421 ≤ 48 := hRs5.1 421; omega) (hv82_5) (by have : (0 : Int) ≤ gI s13 421 ∧ gI s13 421 ≤ 48 := hRs13.1 421; have : (0 : Int) ≤ gI s5 421 ∧ gI s5 421 ≤ 48 := hRs5.1 421; omega)
                  · skip
                    refine wp_rg (by have : (0 : Int) ≤ gI s5 421 ∧ gI s5 421 ≤ 48 := hRs5.1 421; have : (0 : Int) ≤ gI s13 421 ∧ gI s13 421 ≤ 48 := hRs13.1 421; omega) ?_
                    refine wp_if (fun c8 => ?_) (fun c8 => ?_)
                    · skip
                      unfold m_x10_tree_J155
                      exact ih30 z9 (x10 + 1) s13 hRs13 (hv82_0) (by show 0 ≤ (x10 + 1) ∧ (x10 + 1) ≤ 48; have : (0 : Int) ≤ gI s13 421 ∧ gI s13 421 ≤ 48 := hRs13.1 421; have : (0 : Int) ≤ gI s5 421 ∧ gI s5 421 ≤ 48 := hRs5.1 421; omega) (hv82_5) (by have : (0 : Int) ≤ gI s13 421 ∧ gI s13 421 ≤ 48 := hRs13.1 421; have : (0 : Int) ≤ gI s5 421 ∧ gI s5 421 ≤ 48 := hRs5.1 421; omega)
                    · skip
                      refine wp_rdIn (by have : (0 : Int) ≤ gI s13 421 ∧ gI s13 421 ≤ 48 := hRs13.1 421; have : (0 : Int) ≤ gI s5 421 ∧ gI s5 421 ≤ 48 := hRs5.1 421; omega) (fun y19 ey19 => ?_)
                      have by19 : (0 : Int) ≤ y19 ∧ y19 ≤ 47 := ey19 ▸ hRs13.2.1 22 _ (by show _ < 48; have : (0 : Int) ≤ gI s13 421 ∧ gI s13 421 ≤ 48 := hRs13.1 421; have : (0 : Int) ≤ gI s5 421 ∧ gI s5 421 ≤ 48 := hRs5.1 421; omega)
                      have us := hp0 y19.toNat (by omega)
                      have us1 : 0 ≤ gA s 57 y19.toNat ∧ gA s 57 y19.toNat ≤ 6 := us.1
                      have hw := hv82_2
                      rw [ey19] at hw
                      refine wp_bn (w_x8_slot hRs13) (fun r21 er21 hr21 => ?_)
                      have hr21_0 := hr21
                      have hr21_0 : r21 = y19 * 6 + x12 := hr21_0
                      refine wp_rdIn (by have : (0 : Int) ≤ gI s13 421 ∧ gI s13 421 ≤ 48 := hRs13.1 421; have : (0 : Int) ≤ gI s5 421 ∧ gI s5 421 ≤ 48 := hRs5.1 421; omega) (fun y22 ey22 => ?_)
                      have by22 : (-257 : Int) ≤ y22 ∧ y22 ≤ 65535 := ey22 ▸ hRs13.2.1 59 _ (by show _ < 288; have : (0 : Int) ≤ gI s13 421 ∧ gI s13 421 ≤ 48 := hRs13.1 421; have : (0 : Int) ≤ gI s5 421 ∧ gI s5 421 ≤ 48 := hRs5.1 421; omega)
                      have us2 := us.2.1 (by show 0 < gA s 56 y19.toNat; omega) x12.toNat (by show ((x12.toNat : Nat) : Int) < gA s 57 y19.toNat; omega)
                      have us3 : 0 ≤ gA s 59 (6 * y19.toNat + x12.toNat) ∧ gA s 59 (6 * y19.toNat + x12.toNat) < 48 := us2
                      rw [← hv82_5.2.2.2, show 6 * y19.toNat + x12.toNat = r21.toNat by omega, ey22] at us3
                      refine wp_inb (by have : (0 : Int) ≤ gI s5 421 ∧ gI s5 421 ≤ 48 := hRs5.1 421; have : (0 : Int) ≤ gI s13 421 ∧ gI s13 421 ≤ 48 := hRs13.1 421; omega) ?_
                      refine wp_stn (fun s24 es24 => ?_)
                      have hRs24 : Rg s24 := es24 ▸ Rg.uAu hRs13 (by show (0 : Int) ≤ y22 ∧ y22 ≤ 47; have : (0 : Int) ≤ gI s13 421 ∧ gI s13 421 ≤ 48 := hRs13.1 421; have : (0 : Int) ≤ gI s5 421 ∧ gI s5 421 ≤ 48 := hRs5.1 421; omega)
                      refine wp_rdIn (by have : (0 : Int) ≤ gI s13 421 ∧ gI s13 421 ≤ 48 := hRs13.1 421; have : (0 : Int) ≤ gI s5 421 ∧ gI s5 421 ≤ 48 := hRs5.1 421; have : gI s24 421 = gI s13 421 := q_Ai es24; omega) (fun y25 ey25 => ?_)
                      have by25 : (0 : Int) ≤ y25 ∧ y25 ≤ 47 := ey25 ▸ hRs24.2.1 22 _ (by show _ < 48; have : (0 : Int) ≤ gI s13 421 ∧ gI s13 421 ≤ 48 := hRs13.1 421; have : (0 : Int) ≤ gI s5 421 ∧ gI s5 421 ≤ 48 := hRs5.1 421; have : gI s24 421 = gI s13 421 := q_Ai es24; omega)
                      refine wp_stn (fun s26 es26 => ?_)
                      have hRs26 : Rg s26 := es26 ▸ Rg.uI hRs24 (by show (0 : Int) ≤ ((gI s24 421) + 1) ∧ ((gI s24 421) + 1) ≤ 48; have : (0 : Int) ≤ gI s13 421 ∧ gI s13 421 ≤ 48 := hRs13.1 421; have : (0 : Int) ≤ gI s5 421 ∧ gI s5 421 ≤ 48 := hRs5.1 421; have : gI s24 421 = gI s13 421 := q_Ai es24; omega)
                      exact ih82 (orL z9 (shlLZ 1 y25)) x10 x11 (x12 + 1) s26 hRs26 (R8_or _ _) (by show 0 ≤ x10 ∧ x10 < 48 ∧ x10 = x4; have : (0 : Int) ≤ gI s13 421 ∧ gI s13 421 ≤ 48 := hRs13.1 421; have : (0 : Int) ≤ gI s5 421 ∧ gI s5 421 ≤ 48 := hRs5.1 421; omega) (by rw [show gA s26 22 x10.toNat = gA s13 22 x10.toNat from by rw [(q_Ia es26 : gA s26 22 = gA s24 22), q_AA es24, upZ_n (by omega)]]; exact hv82_2) (by show 0 ≤ (x12 + 1) ∧ (x12 + 1) ≤ 6; have : (0 : Int) ≤ gI s13 421 ∧ gI s13 421 ≤ 48 := hRs13.1 421; have : (0 : Int) ≤ gI s5 421 ∧ gI s5 421 ≤ 48 := hRs5.1 421; omega) (by show x10 < gI s26 421; have : (0 : Int) ≤ gI s13 421 ∧ gI s13 421 ≤ 48 := hRs13.1 421; have : (0 : Int) ≤ gI s5 421 ∧ gI s5 421 ≤ 48 := hRs5.1 421; have : gI s26 421 = (gI s24 421) + 1 := q_II es26; have : gI s24 421 = gI s13 421 := q_Ai es24; omega) (⟨(((q_Ia es26 : gA s26 56 = gA s24 56).trans (q_Aa es24 (by decide) : gA s24 56 = gA s13 56))).trans hv82_5.1, (((q_Ia es26 : gA s26 57 = gA s24 57).trans (q_Aa es24 (by decide) : gA s24 57 = gA s13 57))).trans hv82_5.2.1, (((q_Ia es26 : gA s26 58 = gA s24 58).trans (q_Aa es24 (by decide) : gA s24 58 = gA s13 58))).trans hv82_5.2.2.1, (((q_Ia es26 : gA s26 59 = gA s24 59).trans (q_Aa es24 (by decide) : gA s24 59 = gA s13 59))).trans hv82_5.2.2.2⟩) (by show (-1) ≤ x11 ∧ x11 ≤ 255; have : (0 : Int) ≤ gI s13 421 ∧ gI s13 421 ≤ 48 := hRs13.1 421; have : (0 : Int) ≤ gI s5 421 ∧ gI s5 421 ≤ 48 := hRs5.1 421; omega) (by have : (0 : Int) ≤ gI s13 421 ∧ gI s13 421 ≤ 48 := hRs13.1 421; have : (0 : Int) ≤ gI s5 421 ∧ gI s5 421 ≤ 48 := hRs5.1 421; omega)
              exact L82 FU z3 x4 y41 0 s5 hRs5 (hv30_0) (by show 0 ≤ x4 ∧ x4 < 48 ∧ x4 = x4; have : (0 : Int) ≤ gI s5 421 ∧ gI s5 421 ≤ 48 := hRs5.1 421; omega) (by first | exact Or.inl (by omega) | exact Or.inr ⟨by rw [ey40, ← hv30_2.2.1, ey41], by rw [ey36, ← hv30_2.1, ey37]; omega⟩) (by show 0 ≤ (0 : Int) ∧ (0 : Int) ≤ 6; have : (0 : Int) ≤ gI s5 421 ∧ gI s5 421 ≤ 48 := hRs5.1 421; omega) (by show x4 < gI s5 421; have : (0 : Int) ≤ gI s5 421 ∧ gI s5 421 ≤ 48 := hRs5.1 421; omega) (hv30_2) (by show (-1) ≤ y41 ∧ y41 ≤ 255; have : (0 : Int) ≤ gI s5 421 ∧ gI s5 421 ≤ 48 := hRs5.1 421; omega) (by have := FU_big; have := FU_big2; have : (0 : Int) ≤ gI s5 421 ∧ gI s5 421 ≤ 48 := hRs5.1 421; omega)
    exact L30 FU (shlLZ 1 p1) 0 s47 hRs47 (R8_shl _ _) (by show 0 ≤ (0 : Int) ∧ (0 : Int) ≤ 48; omega) (⟨((q_Ia es47 : gA s47 56 = gA s46 56).trans ((q_Aa es46 (by decide) : gA s46 56 = gA s42 56).trans (q_Ia es42 : gA s42 56 = gA s 56))), ((q_Ia es47 : gA s47 57 = gA s46 57).trans ((q_Aa es46 (by decide) : gA s46 57 = gA s42 57).trans (q_Ia es42 : gA s42 57 = gA s 57))), ((q_Ia es47 : gA s47 58 = gA s46 58).trans ((q_Aa es46 (by decide) : gA s46 58 = gA s42 58).trans (q_Ia es42 : gA s42 58 = gA s 58))), ((q_Ia es47 : gA s47 59 = gA s46 59).trans ((q_Aa es46 (by decide) : gA s46 59 = gA s42 59).trans (q_Ia es42 : gA s42 59 = gA s 59)))⟩) (by have := FU_big; have := FU_big2; omega)
  · skip
    exact wp_some ⟨hRs42, by show R8 0; decide⟩
set_option maxHeartbeats 1000000 in
theorem w_x10_tree_v2 {p1 : Int} {s : MS} (hRs : Rg s) (hp0 : US (hN s) (kN s)) (hp1 : (-2) ≤ p1 ∧ p1 < 48) : wp (m_x10_tree_v2 p1 s) (fun q => (Rg q.2) ∧ (R8 q.1)) := by
  unfold m_x10_tree_v2
  refine wp_stn (fun s42 es42 => ?_)
  have hRs42 : Rg s42 := es42 ▸ Rg.uI hRs (by show (0 : Int) ≤ (0 : Int) ∧ (0 : Int) ≤ 48; omega)
  refine wp_rg (by omega) ?_
  refine wp_if (fun c1 => ?_) (fun c1 => ?_)
  · skip
    refine wp_inb (by omega) ?_
    refine wp_stn (fun s46 es46 => ?_)
    have hRs46 : Rg s46 := es46 ▸ Rg.uAu hRs42 (by show (0 : Int) ≤ p1 ∧ p1 ≤ 47; omega)
    refine wp_stn (fun s47 es47 => ?_)
    have hRs47 : Rg s47 := es47 ▸ Rg.uI hRs46 (by show (0 : Int) ≤ (1 : Int) ∧ (1 : Int) ≤ 48; omega)
    have L30 : ∀ (n : Nat) (z3 : Int) (x4 : Int) (s5 : MS), Rg s5 → (R8 z3) → (0 ≤ x4 ∧ x4 ≤ 48) → (gA s5 56 = gA s 56 ∧ gA s5 57 = gA s 57 ∧ gA s5 58 = gA s 58 ∧ gA s5 59 = gA s 59) → (48 - x4) < (n : Int) → wp (m_x10_tree_v2_L30 n z3 x4 s5) (fun q => (Rg q.2) ∧ (R8 q.1)) := by
      refine fr_ind (fun z3 x4 s5 hRs5 hv30_0 hv30_1 hv30_2 hm30 => ?_) (fun n30 ih30 z3 x4 s5 hRs5 hv30_0 hv30_1 hv30_2 hm30 => ?_)
      · exfalso; omega
      · show wp (m_x10_tree_v2_b30 (m_x10_tree_v2_L30 n30) z3 x4 s5) _
        unfold m_x10_tree_v2_b30
        refine wp_rg (by omega) ?_
        refine wp_rg (by have : (0 : Int) ≤ gI s5 501 ∧ gI s5 501 ≤ 48 := hRs5.1 501; omega) ?_
        refine wp_if (fun c2 => ?_) (fun c2 => ?_)
        · skip
          unfold m_x10_tree_v2_J161
          exact wp_some ⟨hRs5, hv30_0⟩
        · skip
          refine wp_rg (by have : (0 : Int) ≤ gI s5 501 ∧ gI s5 501 ≤ 48 := hRs5.1 501; omega) ?_
          refine wp_if (fun c3 => ?_) (fun c3 => ?_)
          · skip
            unfold m_x10_tree_v2_J161
            exact wp_some ⟨hRs5, hv30_0⟩
          · skip
            refine wp_rdIn (by have : (0 : Int) ≤ gI s5 501 ∧ gI s5 501 ≤ 48 := hRs5.1 501; omega) (fun y36 ey36 => ?_)
            have by36 : (0 : Int) ≤ y36 ∧ y36 ≤ 47 := ey36 ▸ hRs5.2.1 26 _ (by show _ < 48; have : (0 : Int) ≤ gI s5 501 ∧ gI s5 501 ≤ 48 := hRs5.1 501; omega)
            refine wp_rdIn (by have : (0 : Int) ≤ gI s5 501 ∧ gI s5 501 ≤ 48 := hRs5.1 501; omega) (fun y37 ey37 => ?_)
            have by37 : (-1 : Int) ≤ y37 ∧ y37 ≤ 1000 := ey37 ▸ hRs5.2.1 56 _ (by show _ < 48; have : (0 : Int) ≤ gI s5 501 ∧ gI s5 501 ≤ 48 := hRs5.1 501; omega)
            refine wp_rg (by have : (0 : Int) ≤ gI s5 501 ∧ gI s5 501 ≤ 48 := hRs5.1 501; omega) ?_
            refine wp_if (fun c4 => ?_) (fun c4 => ?_)
            · skip
              unfold m_x10_tree_v2_J77
              have L82 : ∀ (n : Nat) (z9 : Int) (x10 : Int) (x11 : Int) (x12 : Int) (s13 : MS), Rg s13 → (R8 z9) → (0 ≤ x10 ∧ x10 < 48 ∧ x10 = x4) → (x11 ≤ 0 ∨ (x11 = gA s 57 (gA s13 26 x10.toNat).toNat ∧ 0 < gA s 56 (gA s13 26 x10.toNat).toNat)) → (0 ≤ x12 ∧ x12 ≤ 6) → (x10 < gI s13 501) → (gA s13 56 = gA s 56 ∧ gA s13 57 = gA s 57 ∧ gA s13 58 = gA s 58 ∧ gA s13 59 = gA s 59) → ((-1) ≤ x11 ∧ x11 ≤ 255) → (6 - x12) < (n : Int) → wp (m_x10_tree_v2_L82 (m_x10_tree_v2_L30 n30) n z9 x10 x11 x12 s13) (fun q => (Rg q.2) ∧ (R8 q.1)) := by
                refine fr_ind (fun z9 x10 x11 x12 s13 hRs13 hv82_0 hv82_1 hv82_2 hv82_3 hv82_4 hv82_5 hv82_6 hm82 => ?_) (fun n82 ih82 z9 x10 x11 x12 s13 hRs13 hv82_0 hv82_1 hv82_2 hv82_3 hv82_4 hv82_5 hv82_6 hm82 => ?_)
                · exfalso; have : (0 : Int) ≤ gI s13 501 ∧ gI s13 501 ≤ 48 := hRs13.1 501; omega
                · show wp (m_x10_tree_v2_b82 (m_x10_tree_v2_L30 n30) (m_x10_tree_v2_L82 (m_x10_tree_v2_L30 n30) n82) z9 x10 x11 x12 s13) _
                  unfold m_x10_tree_v2_b82
                  refine wp_rg (by have : (0 : Int) ≤ gI s13 501 ∧ gI s13 501 ≤ 48 := hRs13.1 501; have : (0 : Int) ≤ gI s5 501 ∧ gI s5 501 ≤ 48 := hRs5.1 501; omega) ?_
                  refine wp_rg (by have : (0 : Int) ≤ gI s13 501 ∧ gI s13 501 ≤ 48 := hRs13.1 501; have : (0 : Int) ≤ gI s5 501 ∧ gI s5 501 ≤ 48 := hRs5.1 501; omega) ?_
                  refine wp_if (fun c5 => ?_) (fun c5 => ?_)
                  · skip
                    unfold m_x10_tree_v2_J155
                    exact ih30 z9 (x10 + 1) s13 hRs13 (hv82_0) (by show 0 ≤ (x10 + 1) ∧ (x10 + 1) ≤ 48; have : (0 : Int) ≤ gI s13 501 ∧ gI s13 501 ≤ 48 := hRs13.1 501; have : (0 : Int) ≤ gI s5 501 ∧ gI s5 501 ≤ 48 := hRs5.1 501; omega) (hv82_5) (by have : (0 : Int) ≤ gI s13 501 ∧ gI s13 501 ≤ 48 := hRs13.1 501; have : (0 : Int) ≤ gI s5 501 ∧ gI s5 501 ≤ 48 := hRs5.1 501; omega)
                  · skip
                    refine wp_rg (by have : (0 : Int) ≤ gI s5 501 ∧ gI s5 501 ≤ 48 := hRs5.1 501; have : (0 : Int) ≤ gI s13 501 ∧ gI s13 501 ≤ 48 := hRs13.1 501; omega) ?_
                    refine wp_if (fun c6 => ?_) (fun c6 => ?_)
                    · skip
                      unfold m_x10_tree_v2_J155
                      exact ih30 z9 (x10 + 1) s13 hRs13 (hv82_0) (by show 0 ≤ (x10 + 1) ∧ (x10 + 1) ≤ 48; have : (0 : Int) ≤ gI s13 501 ∧ gI s13 501 ≤ 48 := hRs13.1 501; have : (0 : Int) ≤ gI s5 501 ∧ gI s5 501 ≤ 48 := hRs5.1 501; omega) (hv82_5) (by have : (0 : Int) ≤ gI s13 501 ∧ gI s13 501 ≤ 48 := hRs13.1 501; have : (0 : Int) ≤ gI s5 501 ∧ gI s5 501 ≤ 48 := hRs5.1 501; omega)
                    · skip
                      refine wp_rdIn (by have : (0 : Int) ≤ gI s13 501 ∧ gI s13 501 ≤ 48 := hRs13.1 501; have : (0 : Int) ≤ gI s5 501 ∧ gI s5 501 ≤ 48 := hRs5.1 501; omega) (fun y19 ey19 => ?_)
                      have by19 : (0 : Int) ≤ y19 ∧ y19 ≤ 47 := ey19 ▸ hRs13.2.1 26 _ (by show _ < 48; have : (0 : Int) ≤ gI s13 501 ∧ gI s13 501 ≤ 48 := hRs13.1 501; have : (0 : Int) ≤ gI s5 501 ∧ gI s5 501 ≤ 48 := hRs5.1 501; omega)
                      have us := hp0 y19.toNat (by omega)
                      have us1 : 0 ≤ gA s 57 y19.toNat ∧ gA s 57 y19.toNat ≤ 6 := us.1
                      have hw := hv82_2
                      rw [ey19] at hw
                      refine wp_bn (w_x8_slot hRs13) (fun r21 er21 hr21 => ?_)
                      have hr21_0 := hr21
                      have hr21_0 : r21 = y19 * 6 + x12 := hr21_0
                      refine wp_rdIn (by have : (0 : Int) ≤ gI s13 501 ∧ gI s13 501 ≤ 48 := hRs13.1 501; have : (0 : Int) ≤ gI s5 501 ∧ gI s5 501 ≤ 48 := hRs5.1 501; omega) (fun y22 ey22 => ?_)
                      have by22 : (-257 : Int) ≤ y22 ∧ y22 ≤ 65535 := ey22 ▸ hRs13.2.1 59 _ (by show _ < 288; have : (0 : Int) ≤ gI s13 501 ∧ gI s13 501 ≤ 48 := hRs13.1 501; have : (0 : Int) ≤ gI s5 501 ∧ gI s5 501 ≤ 48 := hRs5.1 501; omega)
                      have us2 := us.2.1 (by show 0 < gA s 56 y19.toNat; omega) x12.toNat (by show ((x12.toNat : Nat) : Int) < gA s 57 y19.toNat; omega)
                      have us3 : 0 ≤ gA s 59 (6 * y19.toNat + x12.toNat) ∧ gA s 59 (6 * y19.toNat + x12.toNat) < 48 := us2
                      rw [← hv82_5.2.2.2, show 6 * y19.toNat + x12.toNat = r21.toNat by omega, ey22] at us3
                      refine wp_inb (by have : (0 : Int) ≤ gI s5 501 ∧ gI s5 501 ≤ 48 := hRs5.1 501; have : (0 : Int) ≤ gI s13 501 ∧ gI s13 501 ≤ 48 := hRs13.1 501; omega) ?_
                      refine wp_stn (fun s24 es24 => ?_)
                      have hRs24 : Rg s24 := es24 ▸ Rg.uAu hRs13 (by show (0 : Int) ≤ y22 ∧ y22 ≤ 47; have : (0 : Int) ≤ gI s13 501 ∧ gI s13 501 ≤ 48 := hRs13.1 501; have : (0 : Int) ≤ gI s5 501 ∧ gI s5 501 ≤ 48 := hRs5.1 501; omega)
                      refine wp_rdIn (by have : (0 : Int) ≤ gI s13 501 ∧ gI s13 501 ≤ 48 := hRs13.1 501; have : (0 : Int) ≤ gI s5 501 ∧ gI s5 501 ≤ 48 := hRs5.1 501; have : gI s24 501 = gI s13 501 := q_Ai es24; omega) (fun y25 ey25 => ?_)
                      have by25 : (0 : Int) ≤ y25 ∧ y25 ≤ 47 := ey25 ▸ hRs24.2.1 26 _ (by show _ < 48; have : (0 : Int) ≤ gI s13 501 ∧ gI s13 501 ≤ 48 := hRs13.1 501; have : (0 : Int) ≤ gI s5 501 ∧ gI s5 501 ≤ 48 := hRs5.1 501; have : gI s24 501 = gI s13 501 := q_Ai es24; omega)
                      refine wp_stn (fun s26 es26 => ?_)
                      have hRs26 : Rg s26 := es26 ▸ Rg.uI hRs24 (by show (0 : Int) ≤ ((gI s24 501) + 1) ∧ ((gI s24 501) + 1) ≤ 48; have : (0 : Int) ≤ gI s13 501 ∧ gI s13 501 ≤ 48 := hRs13.1 501; have : (0 : Int) ≤ gI s5 501 ∧ gI s5 501 ≤ 48 := hRs5.1 501; have : gI s24 501 = gI s13 501 := q_Ai es24; omega)
                      exact ih82 (orL z9 (shlLZ 1 y25)) x10 x11 (x12 + 1) s26 hRs26 (R8_or _ _) (by show 0 ≤ x10 ∧ x10 < 48 ∧ x10 = x4; have : (0 : Int) ≤ gI s13 501 ∧ gI s13 501 ≤ 48 := hRs13.1 501; have : (0 : Int) ≤ gI s5 501 ∧ gI s5 501 ≤ 48 := hRs5.1 501; omega) (by rw [show gA s26 26 x10.toNat = gA s13 26 x10.toNat from by rw [(q_Ia es26 : gA s26 26 = gA s24 26), q_AA es24, upZ_n (by omega)]]; exact hv82_2) (by show 0 ≤ (x12 + 1) ∧ (x12 + 1) ≤ 6; have : (0 : Int) ≤ gI s13 501 ∧ gI s13 501 ≤ 48 := hRs13.1 501; have : (0 : Int) ≤ gI s5 501 ∧ gI s5 501 ≤ 48 := hRs5.1 501; omega) (by show x10 < gI s26 501; have : (0 : Int) ≤ gI s13 501 ∧ gI s13 501 ≤ 48 := hRs13.1 501; have : (0 : Int) ≤ gI s5 501 ∧ gI s5 501 ≤ 48 := hRs5.1 501; have : gI s26 501 = (gI s24 501) + 1 := q_II es26; have : gI s24 501 = gI s13 501 := q_Ai es24; omega) (⟨(((q_Ia es26 : gA s26 56 = gA s24 56).trans (q_Aa es24 (by decide) : gA s24 56 = gA s13 56))).trans hv82_5.1, (((q_Ia es26 : gA s26 57 = gA s24 57).trans (q_Aa es24 (by decide) : gA s24 57 = gA s13 57))).trans hv82_5.2.1, (((q_Ia es26 : gA s26 58 = gA s24 58).trans (q_Aa es24 (by decide) : gA s24 58 = gA s13 58))).trans hv82_5.2.2.1, (((q_Ia es26 : gA s26 59 = gA s24 59).trans (q_Aa es24 (by decide) : gA s24 59 = gA s13 59))).trans hv82_5.2.2.2⟩) (by show (-1) ≤ x11 ∧ x11 ≤ 255; have : (0 : Int) ≤ gI s13 501 ∧ gI s13 501 ≤ 48 := hRs13.1 501; have : (0 : Int) ≤ gI s5 501 ∧ gI s5 501 ≤ 48 := hRs5.1 501; omega) (by have : (0 : Int) ≤ gI s13 501 ∧ gI s13 501 ≤ 48 := hRs13.1 501; have : (0 : Int) ≤ gI s5 501 ∧ gI s5 501 ≤ 48 := hRs5.1 501; omega)
              exact L82 FU z3 x4 0 0 s5 hRs5 (hv30_0) (by show 0 ≤ x4 ∧ x4 < 48 ∧ x4 = x4; have : (0 : Int) ≤ gI s5 501 ∧ gI s5 501 ≤ 48 := hRs5.1 501; omega) (by first | exact Or.inl (by omega) | exact Or.inr ⟨by rw [ey40, ← hv30_2.2.1, ey41], by rw [ey36, ← hv30_2.1, ey37]; omega⟩) (by show 0 ≤ (0 : Int) ∧ (0 : Int) ≤ 6; have : (0 : Int) ≤ gI s5 501 ∧ gI s5 501 ≤ 48 := hRs5.1 501; omega) (by show x4 < gI s5 501; have : (0 : Int) ≤ gI s5 501 ∧ gI s5 501 ≤ 48 := hRs5.1 501; omega) (hv30_2) (by show (-1) ≤ (0 : Int) ∧ (0 : Int) ≤ 255; have : (0 : Int) ≤ gI s5 501 ∧ gI s5 501 ≤ 48 := hRs5.1 501; omega) (by have := FU_big; have := FU_big2; have : (0 : Int) ≤ gI s5 501 ∧ gI s5 501 ≤ 48 := hRs5.1 501; omega)
            · skip
              refine wp_rdIn (by have : (0 : Int) ≤ gI s5 501 ∧ gI s5 501 ≤ 48 := hRs5.1 501; omega) (fun y40 ey40 => ?_)
              have by40 : (0 : Int) ≤ y40 ∧ y40 ≤ 47 := ey40 ▸ hRs5.2.1 26 _ (by show _ < 48; have : (0 : Int) ≤ gI s5 501 ∧ gI s5 501 ≤ 48 := hRs5.1 501; omega)
              refine wp_rdIn (by have : (0 : Int) ≤ gI s5 501 ∧ gI s5 501 ≤ 48 := hRs5.1 501; omega) (fun y41 ey41 => ?_)
              have by41 : (-1 : Int) ≤ y41 ∧ y41 ≤ 255 := ey41 ▸ hRs5.2.1 57 _ (by show _ < 48; have : (0 : Int) ≤ gI s5 501 ∧ gI s5 501 ≤ 48 := hRs5.1 501; omega)
              unfold m_x10_tree_v2_J77
              have L82 : ∀ (n : Nat) (z9 : Int) (x10 : Int) (x11 : Int) (x12 : Int) (s13 : MS), Rg s13 → (R8 z9) → (0 ≤ x10 ∧ x10 < 48 ∧ x10 = x4) → (x11 ≤ 0 ∨ (x11 = gA s 57 (gA s13 26 x10.toNat).toNat ∧ 0 < gA s 56 (gA s13 26 x10.toNat).toNat)) → (0 ≤ x12 ∧ x12 ≤ 6) → (x10 < gI s13 501) → (gA s13 56 = gA s 56 ∧ gA s13 57 = gA s 57 ∧ gA s13 58 = gA s 58 ∧ gA s13 59 = gA s 59) → ((-1) ≤ x11 ∧ x11 ≤ 255) → (6 - x12) < (n : Int) → wp (m_x10_tree_v2_L82 (m_x10_tree_v2_L30 n30) n z9 x10 x11 x12 s13) (fun q => (Rg q.2) ∧ (R8 q.1)) := by
                refine fr_ind (fun z9 x10 x11 x12 s13 hRs13 hv82_0 hv82_1 hv82_2 hv82_3 hv82_4 hv82_5 hv82_6 hm82 => ?_) (fun n82 ih82 z9 x10 x11 x12 s13 hRs13 hv82_0 hv82_1 hv82_2 hv82_3 hv82_4 hv82_5 hv82_6 hm82 => ?_)
                · exfalso; have : (0 : Int) ≤ gI s13 501 ∧ gI s13 501 ≤ 48 := hRs13.1 501; omega
                · show wp (m_x10_tree_v2_b82 (m_x10_tree_v2_L30 n30) (m_x10_tree_v2_L82 (m_x10_tree_v2_L30 n30) n82) z9 x10 x11 x12 s13) _
                  unfold m_x10_tree_v2_b82
                  refine wp_rg (by have : (0 : Int) ≤ gI s13 501 ∧ gI s13 501 ≤ 48 := hRs13.1 501; have : (0 : Int) ≤ gI s5 501 ∧ gI s5 501 ≤ 48 := hRs5.1 501; omega) ?_
                  refine wp_rg (by have : (0 : Int) ≤ gI s13 501 ∧ gI s13 501 ≤ 48 := hRs13.1 501; have : (0 : Int) ≤ gI s5 501 ∧ gI s5 501 ≤ 48 := hRs5.1 501; omega) ?_
                  refine wp_if (fun c7 => ?_) (fun c7 => ?_)
                  · skip
                    unfold m_x10_tree_v2_J155
                    exact ih30 z9 (x10 + 1) s13 hRs13 (hv82_0) (by show 0 ≤ (x10 + 1) ∧ (x10 + 1) ≤ 48; have : (0 : Int) ≤ gI s13 501 ∧ gI s13 501 ≤ 48 := hRs13.1 501; have : (0 : Int) ≤ gI s5 501 ∧ gI s5 501 ≤ 48 := hRs5.1 501; omega) (hv82_5) (by have : (0 : Int) ≤ gI s13 501 ∧ gI s13 501 ≤ 48 := hRs13.1 501; have : (0 : Int) ≤ gI s5 501 ∧ gI s5 501 ≤ 48 := hRs5.1 501; omega)
                  · skip
                    refine wp_rg (by have : (0 : Int) ≤ gI s5 501 ∧ gI s5 501 ≤ 48 := hRs5.1 501; have : (0 : Int) ≤ gI s13 501 ∧ gI s13 501 ≤ 48 := hRs13.1 501; omega) ?_
                    refine wp_if (fun c8 => ?_) (fun c8 => ?_)
                    · skip
                      unfold m_x10_tree_v2_J155
                      exact ih30 z9 (x10 + 1) s13 hRs13 (hv82_0) (by show 0 ≤ (x10 + 1) ∧ (x10 + 1) ≤ 48; have : (0 : Int) ≤ gI s13 501 ∧ gI s13 501 ≤ 48 := hRs13.1 501; have : (0 : Int) ≤ gI s5 501 ∧ gI s5 501 ≤ 48 := hRs5.1 501; omega) (hv82_5) (by have : (0 : Int) ≤ gI s13 501 ∧ gI s13 501 ≤ 48 := hRs13.1 501; have : (0 : Int) ≤ gI s5 501 ∧ gI s5 501 ≤ 48 := hRs5.1 501; omega)
                    · skip
                      refine wp_rdIn (by have : (0 : Int) ≤ gI s13 501 ∧ gI s13 501 ≤ 48 := hRs13.1 501; have : (0 : Int) ≤ gI s5 501 ∧ gI s5 501 ≤ 48 := hRs5.1 501; omega) (fun y19 ey19 => ?_)
                      have by19 : (0 : Int) ≤ y19 ∧ y19 ≤ 47 := ey19 ▸ hRs13.2.1 26 _ (by show _ < 48; have : (0 : Int) ≤ gI s13 501 ∧ gI s13 501 ≤ 48 := hRs13.1 501; have : (0 : Int) ≤ gI s5 501 ∧ gI s5 501 ≤ 48 := hRs5.1 501; omega)
                      have us := hp0 y19.toNat (by omega)
                      have us1 : 0 ≤ gA s 57 y19.toNat ∧ gA s 57 y19.toNat ≤ 6 := us.1
                      have hw := hv82_2
                      rw [ey19] at hw
                      refine wp_bn (w_x8_slot hRs13) (fun r21 er21 hr21 => ?_)
                      have hr21_0 := hr21
                      have hr21_0 : r21 = y19 * 6 + x12 := hr21_0
                      refine wp_rdIn (by have : (0 : Int) ≤ gI s13 501 ∧ gI s13 501 ≤ 48 := hRs13.1 501; have : (0 : Int) ≤ gI s5 501 ∧ gI s5 501 ≤ 48 := hRs5.1 501; omega) (fun y22 ey22 => ?_)
                      have by22 : (-257 : Int) ≤ y22 ∧ y22 ≤ 65535 := ey22 ▸ hRs13.2.1 59 _ (by show _ < 288; have : (0 : Int) ≤ gI s13 501 ∧ gI s13 501 ≤ 48 := hRs13.1 501; have : (0 : Int) ≤ gI s5 501 ∧ gI s5 501 ≤ 48 := hRs5.1 501; omega)
                      have us2 := us.2.1 (by show 0 < gA s 56 y19.toNat; omega) x12.toNat (by show ((x12.toNat : Nat) : Int) < gA s 57 y19.toNat; omega)
                      have us3 : 0 ≤ gA s 59 (6 * y19.toNat + x12.toNat) ∧ gA s 59 (6 * y19.toNat + x12.toNat) < 48 := us2
                      rw [← hv82_5.2.2.2, show 6 * y19.toNat + x12.toNat = r21.toNat by omega, ey22] at us3
                      refine wp_inb (by have : (0 : Int) ≤ gI s5 501 ∧ gI s5 501 ≤ 48 := hRs5.1 501; have : (0 : Int) ≤ gI s13 501 ∧ gI s13 501 ≤ 48 := hRs13.1 501; omega) ?_
                      refine wp_stn (fun s24 es24 => ?_)
                      have hRs24 : Rg s24 := es24 ▸ Rg.uAu hRs13 (by show (0 : Int) ≤ y22 ∧ y22 ≤ 47; have : (0 : Int) ≤ gI s13 501 ∧ gI s13 501 ≤ 48 := hRs13.1 501; have : (0 : Int) ≤ gI s5 501 ∧ gI s5 501 ≤ 48 := hRs5.1 501; omega)
                      refine wp_rdIn (by have : (0 : Int) ≤ gI s13 501 ∧ gI s13 501 ≤ 48 := hRs13.1 501; have : (0 : Int) ≤ gI s5 501 ∧ gI s5 501 ≤ 48 := hRs5.1 501; have : gI s24 501 = gI s13 501 := q_Ai es24; omega) (fun y25 ey25 => ?_)
                      have by25 : (0 : Int) ≤ y25 ∧ y25 ≤ 47 := ey25 ▸ hRs24.2.1 26 _ (by show _ < 48; have : (0 : Int) ≤ gI s13 501 ∧ gI s13 501 ≤ 48 := hRs13.1 501; have : (0 : Int) ≤ gI s5 501 ∧ gI s5 501 ≤ 48 := hRs5.1 501; have : gI s24 501 = gI s13 501 := q_Ai es24; omega)
                      refine wp_stn (fun s26 es26 => ?_)
                      have hRs26 : Rg s26 := es26 ▸ Rg.uI hRs24 (by show (0 : Int) ≤ ((gI s24 501) + 1) ∧ ((gI s24 501) + 1) ≤ 48; have : (0 : Int) ≤ gI s13 501 ∧ gI s13 501 ≤ 48 := hRs13.1 501; have : (0 : Int) ≤ gI s5 501 ∧ gI s5 501 ≤ 48 := hRs5.1 501; have : gI s24 501 = gI s13 501 := q_Ai es24; omega)
                      exact ih82 (orL z9 (shlLZ 1 y25)) x10 x11 (x12 + 1) s26 hRs26 (R8_or _ _) (by show 0 ≤ x10 ∧ x10 < 48 ∧ x10 = x4; have : (0 : Int) ≤ gI s13 501 ∧ gI s13 501 ≤ 48 := hRs13.1 501; have : (0 : Int) ≤ gI s5 501 ∧ gI s5 501 ≤ 48 := hRs5.1 501; omega) (by rw [show gA s26 26 x10.toNat = gA s13 26 x10.toNat from by rw [(q_Ia es26 : gA s26 26 = gA s24 26), q_AA es24, upZ_n (by omega)]]; exact hv82_2) (by show 0 ≤ (x12 + 1) ∧ (x12 + 1) ≤ 6; have : (0 : Int) ≤ gI s13 501 ∧ gI s13 501 ≤ 48 := hRs13.1 501; have : (0 : Int) ≤ gI s5 501 ∧ gI s5 501 ≤ 48 := hRs5.1 501; omega) (by show x10 < gI s26 501; have : (0 : Int) ≤ gI s13 501 ∧ gI s13 501 ≤ 48 := hRs13.1 501; have : (0 : Int) ≤ gI s5 501 ∧ gI s5 501 ≤ 48 := hRs5.1 501; have : gI s26 501 = (gI s24 501) + 1 := q_II es26; have : gI s24 501 = gI s13 501 := q_Ai es24; omega) (⟨(((q_Ia es26 : gA s26 56 = gA s24 56).trans (q_Aa es24 (by decide) : gA s24 56 = gA s13 56))).trans hv82_5.1, (((q_Ia es26 : gA s26 57 = gA s24 57).trans (q_Aa es24 (by decide) : gA s24 57 = gA s13 57))).trans hv82_5.2.1, (((q_Ia es26 : gA s26 58 = gA s24 58).trans (q_Aa es24 (by decide) : gA s24 58 = gA s13 58))).trans hv82_5.2.2.1, (((q_Ia es26 : gA s26 59 = gA s24 59).trans (q_Aa es24 (by decide) : gA s24 59 = gA s13 59))).trans hv82_5.2.2.2⟩) (by show (-1) ≤ x11 ∧ x11 ≤ 255; have : (0 : Int) ≤ gI s13 501 ∧ gI s13 501 ≤ 48 := hRs13.1 501; have : (0 : Int) ≤ gI s5 501 ∧ gI s5 501 ≤ 48 := hRs5.1 501; omega) (by have : (0 : Int) ≤ gI s13 501 ∧ gI s13 501 ≤ 48 := hRs13.1 501; have : (0 : Int) ≤ gI s5 501 ∧ gI s5 501 ≤ 48 := hRs5.1 501; omega)
              exact L82 FU z3 x4 y41 0 s5 hRs5 (hv30_0) (by show 0 ≤ x4 ∧ x4 < 48 ∧ x4 = x4; have : (0 : Int) ≤ gI s5 501 ∧ gI s5 501 ≤ 48 := hRs5.1 501; omega) (by first | exact Or.inl (by omega) | exact Or.inr ⟨by rw [ey40, ← hv30_2.2.1, ey41], by rw [ey36, ← hv30_2.1, ey37]; omega⟩) (by show 0 ≤ (0 : Int) ∧ (0 : Int) ≤ 6; have : (0 : Int) ≤ gI s5 501 ∧ gI s5 501 ≤ 48 := hRs5.1 501; omega) (by show x4 < gI s5 501; have : (0 : Int) ≤ gI s5 501 ∧ gI s5 501 ≤ 48 := hRs5.1 501; omega) (hv30_2) (by show (-1) ≤ y41 ∧ y41 ≤ 255; have : (0 : Int) ≤ gI s5 501 ∧ gI s5 501 ≤ 48 := hRs5.1 501; omega) (by have := FU_big; have := FU_big2; have : (0 : Int) ≤ gI s5 501 ∧ gI s5 501 ≤ 48 := hRs5.1 501; omega)
    exact L30 FU (shlLZ 1 p1) 0 s47 hRs47 (R8_shl _ _) (by show 0 ≤ (0 : Int) ∧ (0 : Int) ≤ 48; omega) (⟨((q_Ia es47 : gA s47 56 = gA s46 56).trans ((q_Aa es46 (by decide) : gA s46 56 = gA s42 56).trans (q_Ia es42 : gA s42 56 = gA s 56))), ((q_Ia es47 : gA s47 57 = gA s46 57).trans ((q_Aa es46 (by decide) : gA s46 57 = gA s42 57).trans (q_Ia es42 : gA s42 57 = gA s 57))), ((q_Ia es47 : gA s47 58 = gA s46 58).trans ((q_Aa es46 (by decide) : gA s46 58 = gA s42 58).trans (q_Ia es42 : gA s42 58 = gA s 58))), ((q_Ia es47 : gA s47 59 = gA s46 59).trans ((q_Aa es46 (by decide) : gA s46 59 = gA s42 59).trans (q_Ia es42 : gA s42 59 = gA s 59)))⟩) (by have := FU_big; have := FU_big2; omega)
  · skip
    exact wp_some ⟨hRs42, by show R8 0; decide⟩
set_option maxHeartbeats 1000000 in
theorem w_x10_gather {p1 : Int} {s : MS} (hRs : Rg s) (hp0 : US (hN s) (kN s)) (hp1 : (-2) ≤ p1 ∧ p1 < 48) : wp (m_x10_gather p1 s) (fun q => (Rg q.2) ∧ (0 ≤ q.1 ∧ q.1 ≤ 288) ∧ (∀ j : Nat, (j : Int) < q.1 → 0 ≤ gA q.2 23 j ∧ gA q.2 23 j ≤ 999)) := by
  unfold m_x10_gather
  refine wp_bn (w_x10_tree hRs (by show US (hN s) (kN s); omega) (by show (-2) ≤ p1 ∧ p1 < 48; omega)) (fun qqrl44 eqrl44s hqrl44s => ?_)
  obtain ⟨qrl44r, qrl44s⟩ := qqrl44
  dsimp only at eqrl44s hqrl44s ⊢
  have Fqrl44s := fr_x10_tree eqrl44s
  obtain ⟨hRqrl44s, hqrl44s_0⟩ := hqrl44s
  have hqrl44s_0 : R8 qrl44r := hqrl44s_0
  have L12 : ∀ (n : Nat) (x1 : Int) (x2 : Int) (s3 : MS), Rg s3 → (0 ≤ x1 ∧ x1 ≤ 288) → (0 ≤ x2 ∧ x2 ≤ 48) → (gA s3 56 = gA s 56 ∧ gA s3 57 = gA s 57 ∧ gA s3 58 = gA s 58 ∧ gA s3 59 = gA s 59) → (∀ j : Nat, (j : Int) < x1 → 0 ≤ gA s3 23 j ∧ gA s3 23 j ≤ 999) → (48 - x2) < (n : Int) → wp (m_x10_gather_L12 n x1 x2 s3) (fun q => (Rg q.2) ∧ (0 ≤ q.1 ∧ q.1 ≤ 288) ∧ (∀ j : Nat, (j : Int) < q.1 → 0 ≤ gA q.2 23 j ∧ gA q.2 23 j ≤ 999)) := by
    refine fr_ind (fun x1 x2 s3 hRs3 hv12_0 hv12_1 hv12_2 hv12_3 hm12 => ?_) (fun n12 ih12 x1 x2 s3 hRs3 hv12_0 hv12_1 hv12_2 hv12_3 hm12 => ?_)
    · exfalso; omega
    · show wp (m_x10_gather_b12 (m_x10_gather_L12 n12) x1 x2 s3) _
      unfold m_x10_gather_b12
      refine wp_rg (by omega) ?_
      refine wp_rg (by have : (0 : Int) ≤ gI s3 421 ∧ gI s3 421 ≤ 48 := hRs3.1 421; omega) ?_
      refine wp_if (fun c1 => ?_) (fun c1 => ?_)
      · skip
        exact wp_some ⟨hRs3, by show 0 ≤ x1 ∧ x1 ≤ 288; have : (0 : Int) ≤ gI s3 421 ∧ gI s3 421 ≤ 48 := hRs3.1 421; omega, hv12_3⟩
      · skip
        refine wp_rdIn (by have : (0 : Int) ≤ gI s3 421 ∧ gI s3 421 ≤ 48 := hRs3.1 421; omega) (fun y36 ey36 => ?_)
        have by36 : (0 : Int) ≤ y36 ∧ y36 ≤ 47 := ey36 ▸ hRs3.2.1 22 _ (by show _ < 48; have : (0 : Int) ≤ gI s3 421 ∧ gI s3 421 ≤ 48 := hRs3.1 421; omega)
        refine wp_rdIn (by have : (0 : Int) ≤ gI s3 421 ∧ gI s3 421 ≤ 48 := hRs3.1 421; omega) (fun y37 ey37 => ?_)
        have by37 : (-1 : Int) ≤ y37 ∧ y37 ≤ 1000 := ey37 ▸ hRs3.2.1 56 _ (by show _ < 48; have : (0 : Int) ≤ gI s3 421 ∧ gI s3 421 ≤ 48 := hRs3.1 421; omega)
        refine wp_rg (by have : (0 : Int) ≤ gI s3 421 ∧ gI s3 421 ≤ 48 := hRs3.1 421; omega) ?_
        refine wp_if (fun c2 => ?_) (fun c2 => ?_)
        · skip
          refine wp_rdIn (by have : (0 : Int) ≤ gI s3 421 ∧ gI s3 421 ≤ 48 := hRs3.1 421; omega) (fun y40 ey40 => ?_)
          have by40 : (0 : Int) ≤ y40 ∧ y40 ≤ 47 := ey40 ▸ hRs3.2.1 22 _ (by show _ < 48; have : (0 : Int) ≤ gI s3 421 ∧ gI s3 421 ≤ 48 := hRs3.1 421; omega)
          refine wp_rdIn (by have : (0 : Int) ≤ gI s3 421 ∧ gI s3 421 ≤ 48 := hRs3.1 421; omega) (fun y41 ey41 => ?_)
          have by41 : (-1 : Int) ≤ y41 ∧ y41 ≤ 255 := ey41 ▸ hRs3.2.1 57 _ (by show _ < 48; have : (0 : Int) ≤ gI s3 421 ∧ gI s3 421 ≤ 48 := hRs3.1 421; omega)
          unfold m_x10_gather_J52
          have L57 : ∀ (n : Nat) (x7 : Int) (x8 : Int) (x9 : Int) (x10 : Int) (s11 : MS), Rg s11 → (0 ≤ x7 ∧ x7 ≤ 288) → (0 ≤ x8 ∧ x8 < 48 ∧ x8 = x2) → (x9 ≤ 0 ∨ x9 = gA s 57 (gA s11 22 x8.toNat).toNat) → (0 ≤ x10 ∧ x10 ≤ 6) → (gA s11 56 = gA s 56 ∧ gA s11 57 = gA s 57 ∧ gA s11 58 = gA s 58 ∧ gA s11 59 = gA s 59) → (∀ j : Nat, (j : Int) < x7 → 0 ≤ gA s11 23 j ∧ gA s11 23 j ≤ 999) → ((-1) ≤ x9 ∧ x9 ≤ 255) → (6 - x10) < (n : Int) → wp (m_x10_gather_L57 (m_x10_gather_L12 n12) n x7 x8 x9 x10 s11) (fun q => (Rg q.2) ∧ (0 ≤ q.1 ∧ q.1 ≤ 288) ∧ (∀ j : Nat, (j : Int) < q.1 → 0 ≤ gA q.2 23 j ∧ gA q.2 23 j ≤ 999)) := by
            refine fr_ind (fun x7 x8 x9 x10 s11 hRs11 hv57_0 hv57_1 hv57_2 hv57_3 hv57_4 hv57_5 hv57_6 hm57 => ?_) (fun n57 ih57 x7 x8 x9 x10 s11 hRs11 hv57_0 hv57_1 hv57_2 hv57_3 hv57_4 hv57_5 hv57_6 hm57 => ?_)
            · exfalso; omega
            · show wp (m_x10_gather_b57 (m_x10_gather_L12 n12) (m_x10_gather_L57 (m_x10_gather_L12 n12) n57) x7 x8 x9 x10 s11) _
              unfold m_x10_gather_b57
              refine wp_rg (by have : (0 : Int) ≤ gI s3 421 ∧ gI s3 421 ≤ 48 := hRs3.1 421; omega) ?_
              refine wp_rg (by have : (0 : Int) ≤ gI s3 421 ∧ gI s3 421 ≤ 48 := hRs3.1 421; omega) ?_
              refine wp_if (fun c3 => ?_) (fun c3 => ?_)
              · skip
                unfold m_x10_gather_J128
                exact ih12 x7 (x8 + 1) s11 hRs11 (by show 0 ≤ x7 ∧ x7 ≤ 288; have : (0 : Int) ≤ gI s3 421 ∧ gI s3 421 ≤ 48 := hRs3.1 421; omega) (by show 0 ≤ (x8 + 1) ∧ (x8 + 1) ≤ 48; have : (0 : Int) ≤ gI s3 421 ∧ gI s3 421 ≤ 48 := hRs3.1 421; omega) (hv57_4) (hv57_5) (by have : (0 : Int) ≤ gI s3 421 ∧ gI s3 421 ≤ 48 := hRs3.1 421; omega)
              · skip
                refine wp_rg (by have : (0 : Int) ≤ gI s3 421 ∧ gI s3 421 ≤ 48 := hRs3.1 421; omega) ?_
                refine wp_if (fun c4 => ?_) (fun c4 => ?_)
                · skip
                  unfold m_x10_gather_J128
                  exact ih12 x7 (x8 + 1) s11 hRs11 (by show 0 ≤ x7 ∧ x7 ≤ 288; have : (0 : Int) ≤ gI s3 421 ∧ gI s3 421 ≤ 48 := hRs3.1 421; omega) (by show 0 ≤ (x8 + 1) ∧ (x8 + 1) ≤ 48; have : (0 : Int) ≤ gI s3 421 ∧ gI s3 421 ≤ 48 := hRs3.1 421; omega) (hv57_4) (hv57_5) (by have : (0 : Int) ≤ gI s3 421 ∧ gI s3 421 ≤ 48 := hRs3.1 421; omega)
                · skip
                  refine wp_rdIn (by have : (0 : Int) ≤ gI s3 421 ∧ gI s3 421 ≤ 48 := hRs3.1 421; omega) (fun y17 ey17 => ?_)
                  have by17 : (0 : Int) ≤ y17 ∧ y17 ≤ 47 := ey17 ▸ hRs11.2.1 22 _ (by show _ < 48; have : (0 : Int) ≤ gI s3 421 ∧ gI s3 421 ≤ 48 := hRs3.1 421; omega)
                  have us := hp0 y17.toNat (by omega)
                  have us1 : 0 ≤ gA s 57 y17.toNat ∧ gA s 57 y17.toNat ≤ 6 := us.1
                  have hw := hv57_2
                  rw [ey17] at hw
                  refine wp_bn (w_x8_slot hRs11) (fun r19 er19 hr19 => ?_)
                  have hr19_0 := hr19
                  have hr19_0 : r19 = y17 * 6 + x10 := hr19_0
                  refine wp_rdIn (by have : (0 : Int) ≤ gI s3 421 ∧ gI s3 421 ≤ 48 := hRs3.1 421; omega) (fun y20 ey20 => ?_)
                  have by20 : (-257 : Int) ≤ y20 ∧ y20 ≤ 65535 := ey20 ▸ hRs11.2.1 58 _ (by show _ < 288; have : (0 : Int) ≤ gI s3 421 ∧ gI s3 421 ≤ 48 := hRs3.1 421; omega)
                  have us2 := us.2.2 x10.toNat (by show ((x10.toNat : Nat) : Int) < gA s 57 y17.toNat; omega)
                  have us3 : 0 ≤ gA s 58 (6 * y17.toNat + x10.toNat) ∧ gA s 58 (6 * y17.toNat + x10.toNat) ≤ 999 := us2
                  rw [← hv57_4.2.2.1, show 6 * y17.toNat + x10.toNat = r19.toNat by omega, ey20] at us3
                  refine wp_inb (by have : (0 : Int) ≤ gI s3 421 ∧ gI s3 421 ≤ 48 := hRs3.1 421; omega) ?_
                  refine wp_stn (fun s22 es22 => ?_)
                  have hRs22 : Rg s22 := es22 ▸ Rg.uAu hRs11 (by show (-2147483648 : Int) ≤ y20 ∧ y20 ≤ 2147483647; have : (0 : Int) ≤ gI s3 421 ∧ gI s3 421 ≤ 48 := hRs3.1 421; omega)
                  refine wp_rdIn (by have : (0 : Int) ≤ gI s3 421 ∧ gI s3 421 ≤ 48 := hRs3.1 421; omega) (fun y23 ey23 => ?_)
                  have by23 : (0 : Int) ≤ y23 ∧ y23 ≤ 47 := ey23 ▸ hRs22.2.1 22 _ (by show _ < 48; have : (0 : Int) ≤ gI s3 421 ∧ gI s3 421 ≤ 48 := hRs3.1 421; omega)
                  have e23 : y23 = y17 := by rw [← ey23, ← ey17, (q_Aa es22 (by decide) : gA s22 22 = gA s11 22)]
                  refine wp_bn (w_x8_slot hRs22) (fun r25 er25 hr25 => ?_)
                  have hr25_0 := hr25
                  have hr25_0 : r25 = y23 * 6 + x10 := hr25_0
                  refine wp_rdIn (by have : (0 : Int) ≤ gI s3 421 ∧ gI s3 421 ≤ 48 := hRs3.1 421; omega) (fun y26 ey26 => ?_)
                  have by26 : (-257 : Int) ≤ y26 ∧ y26 ≤ 65535 := ey26 ▸ hRs22.2.1 59 _ (by show _ < 288; have : (0 : Int) ≤ gI s3 421 ∧ gI s3 421 ≤ 48 := hRs3.1 421; omega)
                  refine wp_inb (by have : (0 : Int) ≤ gI s3 421 ∧ gI s3 421 ≤ 48 := hRs3.1 421; omega) ?_
                  refine wp_stn (fun s28 es28 => ?_)
                  have hRs28 : Rg s28 := es28 ▸ Rg.uAu hRs22 (by show (-2147483648 : Int) ≤ y26 ∧ y26 ≤ 2147483647; have : (0 : Int) ≤ gI s3 421 ∧ gI s3 421 ≤ 48 := hRs3.1 421; omega)
                  exact ih57 (x7 + 1) x8 x9 (x10 + 1) s28 hRs28 (by show 0 ≤ (x7 + 1) ∧ (x7 + 1) ≤ 288; have : (0 : Int) ≤ gI s3 421 ∧ gI s3 421 ≤ 48 := hRs3.1 421; omega) (by show 0 ≤ x8 ∧ x8 < 48 ∧ x8 = x2; have : (0 : Int) ≤ gI s3 421 ∧ gI s3 421 ≤ 48 := hRs3.1 421; omega) (by rw [((q_Aa es28 (by decide) : gA s28 22 = gA s22 22).trans (q_Aa es22 (by decide) : gA s22 22 = gA s11 22))]; exact hv57_2) (by show 0 ≤ (x10 + 1) ∧ (x10 + 1) ≤ 6; have : (0 : Int) ≤ gI s3 421 ∧ gI s3 421 ≤ 48 := hRs3.1 421; omega) (⟨(((q_Aa es28 (by decide) : gA s28 56 = gA s22 56).trans (q_Aa es22 (by decide) : gA s22 56 = gA s11 56))).trans hv57_4.1, (((q_Aa es28 (by decide) : gA s28 57 = gA s22 57).trans (q_Aa es22 (by decide) : gA s22 57 = gA s11 57))).trans hv57_4.2.1, (((q_Aa es28 (by decide) : gA s28 58 = gA s22 58).trans (q_Aa es22 (by decide) : gA s22 58 = gA s11 58))).trans hv57_4.2.2.1, (((q_Aa es28 (by decide) : gA s28 59 = gA s22 59).trans (q_Aa es22 (by decide) : gA s22 59 = gA s11 59))).trans hv57_4.2.2.2⟩) (fun j hj => by rw [(q_Aa es28 (by decide) : gA s28 23 = gA s22 23), q_AA es22]; by_cases z : j = x7.toNat; (rw [z, upZ_s]; exact us3); (rw [upZ_n z]; exact hv57_5 j (by omega))) (by show (-1) ≤ x9 ∧ x9 ≤ 255; have : (0 : Int) ≤ gI s3 421 ∧ gI s3 421 ≤ 48 := hRs3.1 421; omega) (by have : (0 : Int) ≤ gI s3 421 ∧ gI s3 421 ≤ 48 := hRs3.1 421; omega)
          exact L57 FU x1 x2 y41 0 s3 hRs3 (by show 0 ≤ x1 ∧ x1 ≤ 288; have : (0 : Int) ≤ gI s3 421 ∧ gI s3 421 ≤ 48 := hRs3.1 421; omega) (by show 0 ≤ x2 ∧ x2 < 48 ∧ x2 = x2; have : (0 : Int) ≤ gI s3 421 ∧ gI s3 421 ≤ 48 := hRs3.1 421; omega) (by first | exact Or.inl (by omega) | exact Or.inr (by rw [ey40, ← hv12_2.2.1, ey41])) (by show 0 ≤ (0 : Int) ∧ (0 : Int) ≤ 6; have : (0 : Int) ≤ gI s3 421 ∧ gI s3 421 ≤ 48 := hRs3.1 421; omega) (hv12_2) (hv12_3) (by show (-1) ≤ y41 ∧ y41 ≤ 255; have : (0 : Int) ≤ gI s3 421 ∧ gI s3 421 ≤ 48 := hRs3.1 421; omega) (by have := FU_big; have := FU_big2; have : (0 : Int) ≤ gI s3 421 ∧ gI s3 421 ≤ 48 := hRs3.1 421; omega)
        · skip
          unfold m_x10_gather_J52
          have L57 : ∀ (n : Nat) (x7 : Int) (x8 : Int) (x9 : Int) (x10 : Int) (s11 : MS), Rg s11 → (0 ≤ x7 ∧ x7 ≤ 288) → (0 ≤ x8 ∧ x8 < 48 ∧ x8 = x2) → (x9 ≤ 0 ∨ x9 = gA s 57 (gA s11 22 x8.toNat).toNat) → (0 ≤ x10 ∧ x10 ≤ 6) → (gA s11 56 = gA s 56 ∧ gA s11 57 = gA s 57 ∧ gA s11 58 = gA s 58 ∧ gA s11 59 = gA s 59) → (∀ j : Nat, (j : Int) < x7 → 0 ≤ gA s11 23 j ∧ gA s11 23 j ≤ 999) → ((-1) ≤ x9 ∧ x9 ≤ 255) → (6 - x10) < (n : Int) → wp (m_x10_gather_L57 (m_x10_gather_L12 n12) n x7 x8 x9 x10 s11) (fun q => (Rg q.2) ∧ (0 ≤ q.1 ∧ q.1 ≤ 288) ∧ (∀ j : Nat, (j : Int) < q.1 → 0 ≤ gA q.2 23 j ∧ gA q.2 23 j ≤ 999)) := by
            refine fr_ind (fun x7 x8 x9 x10 s11 hRs11 hv57_0 hv57_1 hv57_2 hv57_3 hv57_4 hv57_5 hv57_6 hm57 => ?_) (fun n57 ih57 x7 x8 x9 x10 s11 hRs11 hv57_0 hv57_1 hv57_2 hv57_3 hv57_4 hv57_5 hv57_6 hm57 => ?_)
            · exfalso; omega
            · show wp (m_x10_gather_b57 (m_x10_gather_L12 n12) (m_x10_gather_L57 (m_x10_gather_L12 n12) n57) x7 x8 x9 x10 s11) _
              unfold m_x10_gather_b57
              refine wp_rg (by have : (0 : Int) ≤ gI s3 421 ∧ gI s3 421 ≤ 48 := hRs3.1 421; omega) ?_
              refine wp_rg (by have : (0 : Int) ≤ gI s3 421 ∧ gI s3 421 ≤ 48 := hRs3.1 421; omega) ?_
              refine wp_if (fun c5 => ?_) (fun c5 => ?_)
              · skip
                unfold m_x10_gather_J128
                exact ih12 x7 (x8 + 1) s11 hRs11 (by show 0 ≤ x7 ∧ x7 ≤ 288; have : (0 : Int) ≤ gI s3 421 ∧ gI s3 421 ≤ 48 := hRs3.1 421; omega) (by show 0 ≤ (x8 + 1) ∧ (x8 + 1) ≤ 48; have : (0 : Int) ≤ gI s3 421 ∧ gI s3 421 ≤ 48 := hRs3.1 421; omega) (hv57_4) (hv57_5) (by have : (0 : Int) ≤ gI s3 421 ∧ gI s3 421 ≤ 48 := hRs3.1 421; omega)
              · skip
                refine wp_rg (by have : (0 : Int) ≤ gI s3 421 ∧ gI s3 421 ≤ 48 := hRs3.1 421; omega) ?_
                refine wp_if (fun c6 => ?_) (fun c6 => ?_)
                · skip
                  unfold m_x10_gather_J128
                  exact ih12 x7 (x8 + 1) s11 hRs11 (by show 0 ≤ x7 ∧ x7 ≤ 288; have : (0 : Int) ≤ gI s3 421 ∧ gI s3 421 ≤ 48 := hRs3.1 421; omega) (by show 0 ≤ (x8 + 1) ∧ (x8 + 1) ≤ 48; have : (0 : Int) ≤ gI s3 421 ∧ gI s3 421 ≤ 48 := hRs3.1 421; omega) (hv57_4) (hv57_5) (by have : (0 : Int) ≤ gI s3 421 ∧ gI s3 421 ≤ 48 := hRs3.1 421; omega)
                · skip
                  refine wp_rdIn (by have : (0 : Int) ≤ gI s3 421 ∧ gI s3 421 ≤ 48 := hRs3.1 421; omega) (fun y17 ey17 => ?_)
                  have by17 : (0 : Int) ≤ y17 ∧ y17 ≤ 47 := ey17 ▸ hRs11.2.1 22 _ (by show _ < 48; have : (0 : Int) ≤ gI s3 421 ∧ gI s3 421 ≤ 48 := hRs3.1 421; omega)
                  have us := hp0 y17.toNat (by omega)
                  have us1 : 0 ≤ gA s 57 y17.toNat ∧ gA s 57 y17.toNat ≤ 6 := us.1
                  have hw := hv57_2
                  rw [ey17] at hw
                  refine wp_bn (w_x8_slot hRs11) (fun r19 er19 hr19 => ?_)
                  have hr19_0 := hr19
                  have hr19_0 : r19 = y17 * 6 + x10 := hr19_0
                  refine wp_rdIn (by have : (0 : Int) ≤ gI s3 421 ∧ gI s3 421 ≤ 48 := hRs3.1 421; omega) (fun y20 ey20 => ?_)
                  have by20 : (-257 : Int) ≤ y20 ∧ y20 ≤ 65535 := ey20 ▸ hRs11.2.1 58 _ (by show _ < 288; have : (0 : Int) ≤ gI s3 421 ∧ gI s3 421 ≤ 48 := hRs3.1 421; omega)
                  have us2 := us.2.2 x10.toNat (by show ((x10.toNat : Nat) : Int) < gA s 57 y17.toNat; omega)
                  have us3 : 0 ≤ gA s 58 (6 * y17.toNat + x10.toNat) ∧ gA s 58 (6 * y17.toNat + x10.toNat) ≤ 999 := us2
                  rw [← hv57_4.2.2.1, show 6 * y17.toNat + x10.toNat = r19.toNat by omega, ey20] at us3
                  refine wp_inb (by have : (0 : Int) ≤ gI s3 421 ∧ gI s3 421 ≤ 48 := hRs3.1 421; omega) ?_
                  refine wp_stn (fun s22 es22 => ?_)
                  have hRs22 : Rg s22 := es22 ▸ Rg.uAu hRs11 (by show (-2147483648 : Int) ≤ y20 ∧ y20 ≤ 2147483647; have : (0 : Int) ≤ gI s3 421 ∧ gI s3 421 ≤ 48 := hRs3.1 421; omega)
                  refine wp_rdIn (by have : (0 : Int) ≤ gI s3 421 ∧ gI s3 421 ≤ 48 := hRs3.1 421; omega) (fun y23 ey23 => ?_)
                  have by23 : (0 : Int) ≤ y23 ∧ y23 ≤ 47 := ey23 ▸ hRs22.2.1 22 _ (by show _ < 48; have : (0 : Int) ≤ gI s3 421 ∧ gI s3 421 ≤ 48 := hRs3.1 421; omega)
                  have e23 : y23 = y17 := by rw [← ey23, ← ey17, (q_Aa es22 (by decide) : gA s22 22 = gA s11 22)]
                  refine wp_bn (w_x8_slot hRs22) (fun r25 er25 hr25 => ?_)
                  have hr25_0 := hr25
                  have hr25_0 : r25 = y23 * 6 + x10 := hr25_0
                  refine wp_rdIn (by have : (0 : Int) ≤ gI s3 421 ∧ gI s3 421 ≤ 48 := hRs3.1 421; omega) (fun y26 ey26 => ?_)
                  have by26 : (-257 : Int) ≤ y26 ∧ y26 ≤ 65535 := ey26 ▸ hRs22.2.1 59 _ (by show _ < 288; have : (0 : Int) ≤ gI s3 421 ∧ gI s3 421 ≤ 48 := hRs3.1 421; omega)
                  refine wp_inb (by have : (0 : Int) ≤ gI s3 421 ∧ gI s3 421 ≤ 48 := hRs3.1 421; omega) ?_
                  refine wp_stn (fun s28 es28 => ?_)
                  have hRs28 : Rg s28 := es28 ▸ Rg.uAu hRs22 (by show (-2147483648 : Int) ≤ y26 ∧ y26 ≤ 2147483647; have : (0 : Int) ≤ gI s3 421 ∧ gI s3 421 ≤ 48 := hRs3.1 421; omega)
                  exact ih57 (x7 + 1) x8 x9 (x10 + 1) s28 hRs28 (by show 0 ≤ (x7 + 1) ∧ (x7 + 1) ≤ 288; have : (0 : Int) ≤ gI s3 421 ∧ gI s3 421 ≤ 48 := hRs3.1 421; omega) (by show 0 ≤ x8 ∧ x8 < 48 ∧ x8 = x2; have : (0 : Int) ≤ gI s3 421 ∧ gI s3 421 ≤ 48 := hRs3.1 421; omega) (by rw [((q_Aa es28 (by decide) : gA s28 22 = gA s22 22).trans (q_Aa es22 (by decide) : gA s22 22 = gA s11 22))]; exact hv57_2) (by show 0 ≤ (x10 + 1) ∧ (x10 + 1) ≤ 6; have : (0 : Int) ≤ gI s3 421 ∧ gI s3 421 ≤ 48 := hRs3.1 421; omega) (⟨(((q_Aa es28 (by decide) : gA s28 56 = gA s22 56).trans (q_Aa es22 (by decide) : gA s22 56 = gA s11 56))).trans hv57_4.1, (((q_Aa es28 (by decide) : gA s28 57 = gA s22 57).trans (q_Aa es22 (by decide) : gA s22 57 = gA s11 57))).trans hv57_4.2.1, (((q_Aa es28 (by decide) : gA s28 58 = gA s22 58).trans (q_Aa es22 (by decide) : gA s22 58 = gA s11 58))).trans hv57_4.2.2.1, (((q_Aa es28 (by decide) : gA s28 59 = gA s22 59).trans (q_Aa es22 (by decide) : gA s22 59 = gA s11 59))).trans hv57_4.2.2.2⟩) (fun j hj => by rw [(q_Aa es28 (by decide) : gA s28 23 = gA s22 23), q_AA es22]; by_cases z : j = x7.toNat; (rw [z, upZ_s]; exact us3); (rw [upZ_n z]; exact hv57_5 j (by omega))) (by show (-1) ≤ x9 ∧ x9 ≤ 255; have : (0 : Int) ≤ gI s3 421 ∧ gI s3 421 ≤ 48 := hRs3.1 421; omega) (by have : (0 : Int) ≤ gI s3 421 ∧ gI s3 421 ≤ 48 := hRs3.1 421; omega)
          exact L57 FU x1 x2 0 0 s3 hRs3 (by show 0 ≤ x1 ∧ x1 ≤ 288; have : (0 : Int) ≤ gI s3 421 ∧ gI s3 421 ≤ 48 := hRs3.1 421; omega) (by show 0 ≤ x2 ∧ x2 < 48 ∧ x2 = x2; have : (0 : Int) ≤ gI s3 421 ∧ gI s3 421 ≤ 48 := hRs3.1 421; omega) (by first | exact Or.inl (by omega) | exact Or.inr (by rw [ey40, ← hv12_2.2.1, ey41])) (by show 0 ≤ (0 : Int) ∧ (0 : Int) ≤ 6; have : (0 : Int) ≤ gI s3 421 ∧ gI s3 421 ≤ 48 := hRs3.1 421; omega) (hv12_2) (hv12_3) (by show (-1) ≤ (0 : Int) ∧ (0 : Int) ≤ 255; have : (0 : Int) ≤ gI s3 421 ∧ gI s3 421 ≤ 48 := hRs3.1 421; omega) (by have := FU_big; have := FU_big2; have : (0 : Int) ≤ gI s3 421 ∧ gI s3 421 ≤ 48 := hRs3.1 421; omega)
  exact L12 FU 0 0 qrl44s hRqrl44s (by show 0 ≤ (0 : Int) ∧ (0 : Int) ≤ 288; omega) (by show 0 ≤ (0 : Int) ∧ (0 : Int) ≤ 48; omega) (⟨(Fqrl44s.2.1 56 (by decide)), (Fqrl44s.2.1 57 (by decide)), (Fqrl44s.2.1 58 (by decide)), (Fqrl44s.2.1 59 (by decide))⟩) (fun j hj => absurd hj (by omega)) (by have := FU_big; have := FU_big2; omega)
set_option maxHeartbeats 1000000 in
theorem w_x10_gather_v2 {p1 : Int} {s : MS} (hRs : Rg s) (hp0 : US (hN s) (kN s)) (hp1 : (-2) ≤ p1 ∧ p1 < 48) : wp (m_x10_gather_v2 p1 s) (fun q => (Rg q.2) ∧ (0 ≤ q.1 ∧ q.1 ≤ 288) ∧ (∀ j : Nat, (j : Int) < q.1 → 0 ≤ gA q.2 27 j ∧ gA q.2 27 j ≤ 999)) := by
  unfold m_x10_gather_v2
  refine wp_bn (w_x10_tree_v2 hRs (by show US (hN s) (kN s); omega) (by show (-2) ≤ p1 ∧ p1 < 48; omega)) (fun qqrl44 eqrl44s hqrl44s => ?_)
  obtain ⟨qrl44r, qrl44s⟩ := qqrl44
  dsimp only at eqrl44s hqrl44s ⊢
  have Fqrl44s := fr_x10_tree_v2 eqrl44s
  obtain ⟨hRqrl44s, hqrl44s_0⟩ := hqrl44s
  have hqrl44s_0 : R8 qrl44r := hqrl44s_0
  have L12 : ∀ (n : Nat) (x1 : Int) (x2 : Int) (s3 : MS), Rg s3 → (0 ≤ x1 ∧ x1 ≤ 288) → (0 ≤ x2 ∧ x2 ≤ 48) → (gA s3 56 = gA s 56 ∧ gA s3 57 = gA s 57 ∧ gA s3 58 = gA s 58 ∧ gA s3 59 = gA s 59) → (∀ j : Nat, (j : Int) < x1 → 0 ≤ gA s3 27 j ∧ gA s3 27 j ≤ 999) → (48 - x2) < (n : Int) → wp (m_x10_gather_v2_L12 n x1 x2 s3) (fun q => (Rg q.2) ∧ (0 ≤ q.1 ∧ q.1 ≤ 288) ∧ (∀ j : Nat, (j : Int) < q.1 → 0 ≤ gA q.2 27 j ∧ gA q.2 27 j ≤ 999)) := by
    refine fr_ind (fun x1 x2 s3 hRs3 hv12_0 hv12_1 hv12_2 hv12_3 hm12 => ?_) (fun n12 ih12 x1 x2 s3 hRs3 hv12_0 hv12_1 hv12_2 hv12_3 hm12 => ?_)
    · exfalso; omega
    · show wp (m_x10_gather_v2_b12 (m_x10_gather_v2_L12 n12) x1 x2 s3) _
      unfold m_x10_gather_v2_b12
      refine wp_rg (by omega) ?_
      refine wp_rg (by have : (0 : Int) ≤ gI s3 501 ∧ gI s3 501 ≤ 48 := hRs3.1 501; omega) ?_
      refine wp_if (fun c1 => ?_) (fun c1 => ?_)
      · skip
        exact wp_some ⟨hRs3, by show 0 ≤ x1 ∧ x1 ≤ 288; have : (0 : Int) ≤ gI s3 501 ∧ gI s3 501 ≤ 48 := hRs3.1 501; omega, hv12_3⟩
      · skip
        refine wp_rdIn (by have : (0 : Int) ≤ gI s3 501 ∧ gI s3 501 ≤ 48 := hRs3.1 501; omega) (fun y36 ey36 => ?_)
        have by36 : (0 : Int) ≤ y36 ∧ y36 ≤ 47 := ey36 ▸ hRs3.2.1 26 _ (by show _ < 48; have : (0 : Int) ≤ gI s3 501 ∧ gI s3 501 ≤ 48 := hRs3.1 501; omega)
        refine wp_rdIn (by have : (0 : Int) ≤ gI s3 501 ∧ gI s3 501 ≤ 48 := hRs3.1 501; omega) (fun y37 ey37 => ?_)
        have by37 : (-1 : Int) ≤ y37 ∧ y37 ≤ 1000 := ey37 ▸ hRs3.2.1 56 _ (by show _ < 48; have : (0 : Int) ≤ gI s3 501 ∧ gI s3 501 ≤ 48 := hRs3.1 501; omega)
        refine wp_rg (by have : (0 : Int) ≤ gI s3 501 ∧ gI s3 501 ≤ 48 := hRs3.1 501; omega) ?_
        refine wp_if (fun c2 => ?_) (fun c2 => ?_)
        · skip
          refine wp_rdIn (by have : (0 : Int) ≤ gI s3 501 ∧ gI s3 501 ≤ 48 := hRs3.1 501; omega) (fun y40 ey40 => ?_)
          have by40 : (0 : Int) ≤ y40 ∧ y40 ≤ 47 := ey40 ▸ hRs3.2.1 26 _ (by show _ < 48; have : (0 : Int) ≤ gI s3 501 ∧ gI s3 501 ≤ 48 := hRs3.1 501; omega)
          refine wp_rdIn (by have : (0 : Int) ≤ gI s3 501 ∧ gI s3 501 ≤ 48 := hRs3.1 501; omega) (fun y41 ey41 => ?_)
          have by41 : (-1 : Int) ≤ y41 ∧ y41 ≤ 255 := ey41 ▸ hRs3.2.1 57 _ (by show _ < 48; have : (0 : Int) ≤ gI s3 501 ∧ gI s3 501 ≤ 48 := hRs3.1 501; omega)
          unfold m_x10_gather_v2_J52
          have L57 : ∀ (n : Nat) (x7 : Int) (x8 : Int) (x9 : Int) (x10 : Int) (s11 : MS), Rg s11 → (0 ≤ x7 ∧ x7 ≤ 288) → (0 ≤ x8 ∧ x8 < 48 ∧ x8 = x2) → (x9 ≤ 0 ∨ x9 = gA s 57 (gA s11 26 x8.toNat).toNat) → (0 ≤ x10 ∧ x10 ≤ 6) → (gA s11 56 = gA s 56 ∧ gA s11 57 = gA s 57 ∧ gA s11 58 = gA s 58 ∧ gA s11 59 = gA s 59) → (∀ j : Nat, (j : Int) < x7 → 0 ≤ gA s11 27 j ∧ gA s11 27 j ≤ 999) → ((-1) ≤ x9 ∧ x9 ≤ 255) → (6 - x10) < (n : Int) → wp (m_x10_gather_v2_L57 (m_x10_gather_v2_L12 n12) n x7 x8 x9 x10 s11) (fun q => (Rg q.2) ∧ (0 ≤ q.1 ∧ q.1 ≤ 288) ∧ (∀ j : Nat, (j : Int) < q.1 → 0 ≤ gA q.2 27 j ∧ gA q.2 27 j ≤ 999)) := by
            refine fr_ind (fun x7 x8 x9 x10 s11 hRs11 hv57_0 hv57_1 hv57_2 hv57_3 hv57_4 hv57_5 hv57_6 hm57 => ?_) (fun n57 ih57 x7 x8 x9 x10 s11 hRs11 hv57_0 hv57_1 hv57_2 hv57_3 hv57_4 hv57_5 hv57_6 hm57 => ?_)
            · exfalso; omega
            · show wp (m_x10_gather_v2_b57 (m_x10_gather_v2_L12 n12) (m_x10_gather_v2_L57 (m_x10_gather_v2_L12 n12) n57) x7 x8 x9 x10 s11) _
              unfold m_x10_gather_v2_b57
              refine wp_rg (by have : (0 : Int) ≤ gI s3 501 ∧ gI s3 501 ≤ 48 := hRs3.1 501; omega) ?_
              refine wp_rg (by have : (0 : Int) ≤ gI s3 501 ∧ gI s3 501 ≤ 48 := hRs3.1 501; omega) ?_
              refine wp_if (fun c3 => ?_) (fun c3 => ?_)
              · skip
                unfold m_x10_gather_v2_J128
                exact ih12 x7 (x8 + 1) s11 hRs11 (by show 0 ≤ x7 ∧ x7 ≤ 288; have : (0 : Int) ≤ gI s3 501 ∧ gI s3 501 ≤ 48 := hRs3.1 501; omega) (by show 0 ≤ (x8 + 1) ∧ (x8 + 1) ≤ 48; have : (0 : Int) ≤ gI s3 501 ∧ gI s3 501 ≤ 48 := hRs3.1 501; omega) (hv57_4) (hv57_5) (by have : (0 : Int) ≤ gI s3 501 ∧ gI s3 501 ≤ 48 := hRs3.1 501; omega)
              · skip
                refine wp_rg (by have : (0 : Int) ≤ gI s3 501 ∧ gI s3 501 ≤ 48 := hRs3.1 501; omega) ?_
                refine wp_if (fun c4 => ?_) (fun c4 => ?_)
                · skip
                  unfold m_x10_gather_v2_J128
                  exact ih12 x7 (x8 + 1) s11 hRs11 (by show 0 ≤ x7 ∧ x7 ≤ 288; have : (0 : Int) ≤ gI s3 501 ∧ gI s3 501 ≤ 48 := hRs3.1 501; omega) (by show 0 ≤ (x8 + 1) ∧ (x8 + 1) ≤ 48; have : (0 : Int) ≤ gI s3 501 ∧ gI s3 501 ≤ 48 := hRs3.1 501; omega) (hv57_4) (hv57_5) (by have : (0 : Int) ≤ gI s3 501 ∧ gI s3 501 ≤ 48 := hRs3.1 501; omega)
                · skip
                  refine wp_rdIn (by have : (0 : Int) ≤ gI s3 501 ∧ gI s3 501 ≤ 48 := hRs3.1 501; omega) (fun y17 ey17 => ?_)
                  have by17 : (0 : Int) ≤ y17 ∧ y17 ≤ 47 := ey17 ▸ hRs11.2.1 26 _ (by show _ < 48; have : (0 : Int) ≤ gI s3 501 ∧ gI s3 501 ≤ 48 := hRs3.1 501; omega)
                  have us := hp0 y17.toNat (by omega)
                  have us1 : 0 ≤ gA s 57 y17.toNat ∧ gA s 57 y17.toNat ≤ 6 := us.1
                  have hw := hv57_2
                  rw [ey17] at hw
                  refine wp_bn (w_x8_slot hRs11) (fun r19 er19 hr19 => ?_)
                  have hr19_0 := hr19
                  have hr19_0 : r19 = y17 * 6 + x10 := hr19_0
                  refine wp_rdIn (by have : (0 : Int) ≤ gI s3 501 ∧ gI s3 501 ≤ 48 := hRs3.1 501; omega) (fun y20 ey20 => ?_)
                  have by20 : (-257 : Int) ≤ y20 ∧ y20 ≤ 65535 := ey20 ▸ hRs11.2.1 58 _ (by show _ < 288; have : (0 : Int) ≤ gI s3 501 ∧ gI s3 501 ≤ 48 := hRs3.1 501; omega)
                  have us2 := us.2.2 x10.toNat (by show ((x10.toNat : Nat) : Int) < gA s 57 y17.toNat; omega)
                  have us3 : 0 ≤ gA s 58 (6 * y17.toNat + x10.toNat) ∧ gA s 58 (6 * y17.toNat + x10.toNat) ≤ 999 := us2
                  rw [← hv57_4.2.2.1, show 6 * y17.toNat + x10.toNat = r19.toNat by omega, ey20] at us3
                  refine wp_inb (by have : (0 : Int) ≤ gI s3 501 ∧ gI s3 501 ≤ 48 := hRs3.1 501; omega) ?_
                  refine wp_stn (fun s22 es22 => ?_)
                  have hRs22 : Rg s22 := es22 ▸ Rg.uAu hRs11 (by show (-2147483648 : Int) ≤ y20 ∧ y20 ≤ 2147483647; have : (0 : Int) ≤ gI s3 501 ∧ gI s3 501 ≤ 48 := hRs3.1 501; omega)
                  refine wp_rdIn (by have : (0 : Int) ≤ gI s3 501 ∧ gI s3 501 ≤ 48 := hRs3.1 501; omega) (fun y23 ey23 => ?_)
                  have by23 : (0 : Int) ≤ y23 ∧ y23 ≤ 47 := ey23 ▸ hRs22.2.1 26 _ (by show _ < 48; have : (0 : Int) ≤ gI s3 501 ∧ gI s3 501 ≤ 48 := hRs3.1 501; omega)
                  have e23 : y23 = y17 := by rw [← ey23, ← ey17, (q_Aa es22 (by decide) : gA s22 26 = gA s11 26)]
                  refine wp_bn (w_x8_slot hRs22) (fun r25 er25 hr25 => ?_)
                  have hr25_0 := hr25
                  have hr25_0 : r25 = y23 * 6 + x10 := hr25_0
                  refine wp_rdIn (by have : (0 : Int) ≤ gI s3 501 ∧ gI s3 501 ≤ 48 := hRs3.1 501; omega) (fun y26 ey26 => ?_)
                  have by26 : (-257 : Int) ≤ y26 ∧ y26 ≤ 65535 := ey26 ▸ hRs22.2.1 59 _ (by show _ < 288; have : (0 : Int) ≤ gI s3 501 ∧ gI s3 501 ≤ 48 := hRs3.1 501; omega)
                  refine wp_inb (by have : (0 : Int) ≤ gI s3 501 ∧ gI s3 501 ≤ 48 := hRs3.1 501; omega) ?_
                  refine wp_stn (fun s28 es28 => ?_)
                  have hRs28 : Rg s28 := es28 ▸ Rg.uAu hRs22 (by show (-2147483648 : Int) ≤ y26 ∧ y26 ≤ 2147483647; have : (0 : Int) ≤ gI s3 501 ∧ gI s3 501 ≤ 48 := hRs3.1 501; omega)
                  exact ih57 (x7 + 1) x8 x9 (x10 + 1) s28 hRs28 (by show 0 ≤ (x7 + 1) ∧ (x7 + 1) ≤ 288; have : (0 : Int) ≤ gI s3 501 ∧ gI s3 501 ≤ 48 := hRs3.1 501; omega) (by show 0 ≤ x8 ∧ x8 < 48 ∧ x8 = x2; have : (0 : Int) ≤ gI s3 501 ∧ gI s3 501 ≤ 48 := hRs3.1 501; omega) (by rw [((q_Aa es28 (by decide) : gA s28 26 = gA s22 26).trans (q_Aa es22 (by decide) : gA s22 26 = gA s11 26))]; exact hv57_2) (by show 0 ≤ (x10 + 1) ∧ (x10 + 1) ≤ 6; have : (0 : Int) ≤ gI s3 501 ∧ gI s3 501 ≤ 48 := hRs3.1 501; omega) (⟨(((q_Aa es28 (by decide) : gA s28 56 = gA s22 56).trans (q_Aa es22 (by decide) : gA s22 56 = gA s11 56))).trans hv57_4.1, (((q_Aa es28 (by decide) : gA s28 57 = gA s22 57).trans (q_Aa es22 (by decide) : gA s22 57 = gA s11 57))).trans hv57_4.2.1, (((q_Aa es28 (by decide) : gA s28 58 = gA s22 58).trans (q_Aa es22 (by decide) : gA s22 58 = gA s11 58))).trans hv57_4.2.2.1, (((q_Aa es28 (by decide) : gA s28 59 = gA s22 59).trans (q_Aa es22 (by decide) : gA s22 59 = gA s11 59))).trans hv57_4.2.2.2⟩) (fun j hj => by rw [(q_Aa es28 (by decide) : gA s28 27 = gA s22 27), q_AA es22]; by_cases z : j = x7.toNat; (rw [z, upZ_s]; exact us3); (rw [upZ_n z]; exact hv57_5 j (by omega))) (by show (-1) ≤ x9 ∧ x9 ≤ 255; have : (0 : Int) ≤ gI s3 501 ∧ gI s3 501 ≤ 48 := hRs3.1 501; omega) (by have : (0 : Int) ≤ gI s3 501 ∧ gI s3 501 ≤ 48 := hRs3.1 501; omega)
          exact L57 FU x1 x2 y41 0 s3 hRs3 (by show 0 ≤ x1 ∧ x1 ≤ 288; have : (0 : Int) ≤ gI s3 501 ∧ gI s3 501 ≤ 48 := hRs3.1 501; omega) (by show 0 ≤ x2 ∧ x2 < 48 ∧ x2 = x2; have : (0 : Int) ≤ gI s3 501 ∧ gI s3 501 ≤ 48 := hRs3.1 501; omega) (by first | exact Or.inl (by omega) | exact Or.inr (by rw [ey40, ← hv12_2.2.1, ey41])) (by show 0 ≤ (0 : Int) ∧ (0 : Int) ≤ 6; have : (0 : Int) ≤ gI s3 501 ∧ gI s3 501 ≤ 48 := hRs3.1 501; omega) (hv12_2) (hv12_3) (by show (-1) ≤ y41 ∧ y41 ≤ 255; have : (0 : Int) ≤ gI s3 501 ∧ gI s3 501 ≤ 48 := hRs3.1 501; omega) (by have := FU_big; have := FU_big2; have : (0 : Int) ≤ gI s3 501 ∧ gI s3 501 ≤ 48 := hRs3.1 501; omega)
        · skip
          unfold m_x10_gather_v2_J52
          have L57 : ∀ (n : Nat) (x7 : Int) (x8 : Int) (x9 : Int) (x10 : Int) (s11 : MS), Rg s11 → (0 ≤ x7 ∧ x7 ≤ 288) → (0 ≤ x8 ∧ x8 < 48 ∧ x8 = x2) → (x9 ≤ 0 ∨ x9 = gA s 57 (gA s11 26 x8.toNat).toNat) → (0 ≤ x10 ∧ x10 ≤ 6) → (gA s11 56 = gA s 56 ∧ gA s11 57 = gA s 57 ∧ gA s11 58 = gA s 58 ∧ gA s11 59 = gA s 59) → (∀ j : Nat, (j : Int) < x7 → 0 ≤ gA s11 27 j ∧ gA s11 27 j ≤ 999) → ((-1) ≤ x9 ∧ x9 ≤ 255) → (6 - x10) < (n : Int) → wp (m_x10_gather_v2_L57 (m_x10_gather_v2_L12 n12) n x7 x8 x9 x10 s11) (fun q => (Rg q.2) ∧ (0 ≤ q.1 ∧ q.1 ≤ 288) ∧ (∀ j : Nat, (j : Int) < q.1 → 0 ≤ gA q.2 27 j ∧ gA q.2 27 j ≤ 999)) := by
            refine fr_ind (fun x7 x8 x9 x10 s11 hRs11 hv57_0 hv57_1 hv57_2 hv57_3 hv57_4 hv57_5 hv57_6 hm57 => ?_) (fun n57 ih57 x7 x8 x9 x10 s11 hRs11 hv57_0 hv57_1 hv57_2 hv57_3 hv57_4 hv57_5 hv57_6 hm57 => ?_)
            · exfalso; omega
            · show wp (m_x10_gather_v2_b57 (m_x10_gather_v2_L12 n12) (m_x10_gather_v2_L57 (m_x10_gather_v2_L12 n12) n57) x7 x8 x9 x10 s11) _
              unfold m_x10_gather_v2_b57
              refine wp_rg (by have : (0 : Int) ≤ gI s3 501 ∧ gI s3 501 ≤ 48 := hRs3.1 501; omega) ?_
              refine wp_rg (by have : (0 : Int) ≤ gI s3 501 ∧ gI s3 501 ≤ 48 := hRs3.1 501; omega) ?_
              refine wp_if (fun c5 => ?_) (fun c5 => ?_)
              · skip
                unfold m_x10_gather_v2_J128
                exact ih12 x7 (x8 + 1) s11 hRs11 (by show 0 ≤ x7 ∧ x7 ≤ 288; have : (0 : Int) ≤ gI s3 501 ∧ gI s3 501 ≤ 48 := hRs3.1 501; omega) (by show 0 ≤ (x8 + 1) ∧ (x8 + 1) ≤ 48; have : (0 : Int) ≤ gI s3 501 ∧ gI s3 501 ≤ 48 := hRs3.1 501; omega) (hv57_4) (hv57_5) (by have : (0 : Int) ≤ gI s3 501 ∧ gI s3 501 ≤ 48 := hRs3.1 501; omega)
              · skip
                refine wp_rg (by have : (0 : Int) ≤ gI s3 501 ∧ gI s3 501 ≤ 48 := hRs3.1 501; omega) ?_
                refine wp_if (fun c6 => ?_) (fun c6 => ?_)
                · skip
                  unfold m_x10_gather_v2_J128
                  exact ih12 x7 (x8 + 1) s11 hRs11 (by show 0 ≤ x7 ∧ x7 ≤ 288; have : (0 : Int) ≤ gI s3 501 ∧ gI s3 501 ≤ 48 := hRs3.1 501; omega) (by show 0 ≤ (x8 + 1) ∧ (x8 + 1) ≤ 48; have : (0 : Int) ≤ gI s3 501 ∧ gI s3 501 ≤ 48 := hRs3.1 501; omega) (hv57_4) (hv57_5) (by have : (0 : Int) ≤ gI s3 501 ∧ gI s3 501 ≤ 48 := hRs3.1 501; omega)
                · skip
                  refine wp_rdIn (by have : (0 : Int) ≤ gI s3 501 ∧ gI s3 501 ≤ 48 := hRs3.1 501; omega) (fun y17 ey17 => ?_)
                  have by17 : (0 : Int) ≤ y17 ∧ y17 ≤ 47 := ey17 ▸ hRs11.2.1 26 _ (by show _ < 48; have : (0 : Int) ≤ gI s3 501 ∧ gI s3 501 ≤ 48 := hRs3.1 501; omega)
                  have us := hp0 y17.toNat (by omega)
                  have us1 : 0 ≤ gA s 57 y17.toNat ∧ gA s 57 y17.toNat ≤ 6 := us.1
                  have hw := hv57_2
                  rw [ey17] at hw
                  refine wp_bn (w_x8_slot hRs11) (fun r19 er19 hr19 => ?_)
                  have hr19_0 := hr19
                  have hr19_0 : r19 = y17 * 6 + x10 := hr19_0
                  refine wp_rdIn (by have : (0 : Int) ≤ gI s3 501 ∧ gI s3 501 ≤ 48 := hRs3.1 501; omega) (fun y20 ey20 => ?_)
                  have by20 : (-257 : Int) ≤ y20 ∧ y20 ≤ 65535 := ey20 ▸ hRs11.2.1 58 _ (by show _ < 288; have : (0 : Int) ≤ gI s3 501 ∧ gI s3 501 ≤ 48 := hRs3.1 501; omega)
                  have us2 := us.2.2 x10.toNat (by show ((x10.toNat : Nat) : Int) < gA s 57 y17.toNat; omega)
                  have us3 : 0 ≤ gA s 58 (6 * y17.toNat + x10.toNat) ∧ gA s 58 (6 * y17.toNat + x10.toNat) ≤ 999 := us2
                  rw [← hv57_4.2.2.1, show 6 * y17.toNat + x10.toNat = r19.toNat by omega, ey20] at us3
                  refine wp_inb (by have : (0 : Int) ≤ gI s3 501 ∧ gI s3 501 ≤ 48 := hRs3.1 501; omega) ?_
                  refine wp_stn (fun s22 es22 => ?_)
                  have hRs22 : Rg s22 := es22 ▸ Rg.uAu hRs11 (by show (-2147483648 : Int) ≤ y20 ∧ y20 ≤ 2147483647; have : (0 : Int) ≤ gI s3 501 ∧ gI s3 501 ≤ 48 := hRs3.1 501; omega)
                  refine wp_rdIn (by have : (0 : Int) ≤ gI s3 501 ∧ gI s3 501 ≤ 48 := hRs3.1 501; omega) (fun y23 ey23 => ?_)
                  have by23 : (0 : Int) ≤ y23 ∧ y23 ≤ 47 := ey23 ▸ hRs22.2.1 26 _ (by show _ < 48; have : (0 : Int) ≤ gI s3 501 ∧ gI s3 501 ≤ 48 := hRs3.1 501; omega)
                  have e23 : y23 = y17 := by rw [← ey23, ← ey17, (q_Aa es22 (by decide) : gA s22 26 = gA s11 26)]
                  refine wp_bn (w_x8_slot hRs22) (fun r25 er25 hr25 => ?_)
                  have hr25_0 := hr25
                  have hr25_0 : r25 = y23 * 6 + x10 := hr25_0
                  refine wp_rdIn (by have : (0 : Int) ≤ gI s3 501 ∧ gI s3 501 ≤ 48 := hRs3.1 501; omega) (fun y26 ey26 => ?_)
                  have by26 : (-257 : Int) ≤ y26 ∧ y26 ≤ 65535 := ey26 ▸ hRs22.2.1 59 _ (by show _ < 288; have : (0 : Int) ≤ gI s3 501 ∧ gI s3 501 ≤ 48 := hRs3.1 501; omega)
                  refine wp_inb (by have : (0 : Int) ≤ gI s3 501 ∧ gI s3 501 ≤ 48 := hRs3.1 501; omega) ?_
                  refine wp_stn (fun s28 es28 => ?_)
                  have hRs28 : Rg s28 := es28 ▸ Rg.uAu hRs22 (by show (-2147483648 : Int) ≤ y26 ∧ y26 ≤ 2147483647; have : (0 : Int) ≤ gI s3 501 ∧ gI s3 501 ≤ 48 := hRs3.1 501; omega)
                  exact ih57 (x7 + 1) x8 x9 (x10 + 1) s28 hRs28 (by show 0 ≤ (x7 + 1) ∧ (x7 + 1) ≤ 288; have : (0 : Int) ≤ gI s3 501 ∧ gI s3 501 ≤ 48 := hRs3.1 501; omega) (by show 0 ≤ x8 ∧ x8 < 48 ∧ x8 = x2; have : (0 : Int) ≤ gI s3 501 ∧ gI s3 501 ≤ 48 := hRs3.1 501; omega) (by rw [((q_Aa es28 (by decide) : gA s28 26 = gA s22 26).trans (q_Aa es22 (by decide) : gA s22 26 = gA s11 26))]; exact hv57_2) (by show 0 ≤ (x10 + 1) ∧ (x10 + 1) ≤ 6; have : (0 : Int) ≤ gI s3 501 ∧ gI s3 501 ≤ 48 := hRs3.1 501; omega) (⟨(((q_Aa es28 (by decide) : gA s28 56 = gA s22 56).trans (q_Aa es22 (by decide) : gA s22 56 = gA s11 56))).trans hv57_4.1, (((q_Aa es28 (by decide) : gA s28 57 = gA s22 57).trans (q_Aa es22 (by decide) : gA s22 57 = gA s11 57))).trans hv57_4.2.1, (((q_Aa es28 (by decide) : gA s28 58 = gA s22 58).trans (q_Aa es22 (by decide) : gA s22 58 = gA s11 58))).trans hv57_4.2.2.1, (((q_Aa es28 (by decide) : gA s28 59 = gA s22 59).trans (q_Aa es22 (by decide) : gA s22 59 = gA s11 59))).trans hv57_4.2.2.2⟩) (fun j hj => by rw [(q_Aa es28 (by decide) : gA s28 27 = gA s22 27), q_AA es22]; by_cases z : j = x7.toNat; (rw [z, upZ_s]; exact us3); (rw [upZ_n z]; exact hv57_5 j (by omega))) (by show (-1) ≤ x9 ∧ x9 ≤ 255; have : (0 : Int) ≤ gI s3 501 ∧ gI s3 501 ≤ 48 := hRs3.1 501; omega) (by have : (0 : Int) ≤ gI s3 501 ∧ gI s3 501 ≤ 48 := hRs3.1 501; omega)
          exact L57 FU x1 x2 0 0 s3 hRs3 (by show 0 ≤ x1 ∧ x1 ≤ 288; have : (0 : Int) ≤ gI s3 501 ∧ gI s3 501 ≤ 48 := hRs3.1 501; omega) (by show 0 ≤ x2 ∧ x2 < 48 ∧ x2 = x2; have : (0 : Int) ≤ gI s3 501 ∧ gI s3 501 ≤ 48 := hRs3.1 501; omega) (by first | exact Or.inl (by omega) | exact Or.inr (by rw [ey40, ← hv12_2.2.1, ey41])) (by show 0 ≤ (0 : Int) ∧ (0 : Int) ≤ 6; have : (0 : Int) ≤ gI s3 501 ∧ gI s3 501 ≤ 48 := hRs3.1 501; omega) (hv12_2) (hv12_3) (by show (-1) ≤ (0 : Int) ∧ (0 : Int) ≤ 255; have : (0 : Int) ≤ gI s3 501 ∧ gI s3 501 ≤ 48 := hRs3.1 501; omega) (by have := FU_big; have := FU_big2; have : (0 : Int) ≤ gI s3 501 ∧ gI s3 501 ≤ 48 := hRs3.1 501; omega)
  exact L12 FU 0 0 qrl44s hRqrl44s (by show 0 ≤ (0 : Int) ∧ (0 : Int) ≤ 288; omega) (by show 0 ≤ (0 : Int) ∧ (0 : Int) ≤ 48; omega) (⟨(Fqrl44s.2.1 56 (by decide)), (Fqrl44s.2.1 57 (by decide)), (Fqrl44s.2.1 58 (by decide)), (Fqrl44s.2.1 59 (by decide))⟩) (fun j hj => absurd hj (by omega)) (by have := FU_big; have := FU_big2; omega)
