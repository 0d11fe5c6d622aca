/-! ===== volumes by number; by the seed ===== -/
def vcn (f : Nat → Int) (n : Nat) : Int := sm n (fun v => if f v = -2 then 0 else 1)
theorem vcn_s (f : Nat → Int) (x : Int) (h : 0 ≤ x) : vcn f (x + 1).toNat = vcn f x.toNat + (if f x.toNat = -2 then 0 else 1) := by
  rw [show (x + 1).toNat = x.toNat + 1 by omega]; rfl
theorem vcn_b (f : Nat → Int) (n : Nat) : 0 ≤ vcn f n ∧ vcn f n ≤ (n : Int) := by
  refine ⟨sm_nn (fun v _ => by split <;> omega), ?_⟩
  have := sm_bd (n := n) (c := 1) (f := fun v => if f v = -2 then (0 : Int) else 1) (fun v _ => by split <;> omega)
  unfold vcn
  omega
theorem w_vols {s : MS} (hR : Rg s) : wp (m_x8_volumes s) (fun r => r = vcn (gA s 60) 8) := by
  have L : ∀ (n : Nat) (a i : Int), (0 ≤ i ∧ i ≤ 8) → a = vcn (gA s 60) i.toNat → 8 - i < (n : Int) → wp (m_x8_volumes_L4 s n a i) (fun r => r = vcn (gA s 60) 8) := by
    refine fr_ind (fun a i hi ha hm => by exfalso; omega) (fun n ih a i hi ha hm => ?_)
    show wp (m_x8_volumes_b4 s (m_x8_volumes_L4 s n) a i) _
    unfold m_x8_volumes_b4 m_x8_volumes_J24
    refine wp_rg (by omega) (wp_if (fun c1 => wp_some (by rw [ha, show i.toNat = 8 by omega])) (fun c1 => ?_))
    refine wp_bn (w_x8_isVolume hR (by omega)) (fun r9 e9 h9 => ?_)
    have st := vcn_s (gA s 60) i hi.1
    refine wp_rg (by omega) (wp_if (fun c2 => ?_) (fun c2 => ?_))
    · refine ih (a + 0) (i + 1) (by omega) ?_ (by omega)
      rw [st, if_pos (by omega), ha]
    · refine ih (a + 1) (i + 1) (by omega) ?_ (by omega)
      rw [st, if_neg (by omega), ha]
  exact L FU 0 0 (by omega) rfl (by have := FU_big; omega)
theorem w_volAt {p0 : Int} {s : MS} (hR : Rg s) (hp : 0 ≤ p0 ∧ p0 < vcn (gA s 60) 8) : wp (m_x1_volumeAt p0 s) (fun r => (0 ≤ r ∧ r < 8) ∧ gA s 60 r.toNat ≠ -2) := by
  have b8 := (vcn_b (gA s 60) 8).2
  have L : ∀ (n : Nat) (a i : Int), (0 ≤ i ∧ i ≤ 8) → (0 ≤ a ∧ a + vcn (gA s 60) i.toNat = p0) → 8 - i < (n : Int) → wp (m_x1_volumeAt_L4 s n a i) (fun r => (0 ≤ r ∧ r < 8) ∧ gA s 60 r.toNat ≠ -2) := by
    refine fr_ind (fun a i hi ha hm => by exfalso; omega) (fun n ih a i hi ha hm => ?_)
    show wp (m_x1_volumeAt_b4 s (m_x1_volumeAt_L4 s n) a i) _
    unfold m_x1_volumeAt_b4 m_x1_volumeAt_J30
    refine wp_rg (by omega) (wp_if (fun c1 => ?_) (fun c1 => ?_))
    · exfalso
      rw [show i.toNat = 8 by omega] at ha; omega
    refine wp_bn (w_x8_isVolume hR (by omega)) (fun r8 e8 h8 => ?_)
    have st := vcn_s (gA s 60) i hi.1
    have bi := vcn_b (gA s 60) i.toNat
    refine wp_rg (by omega) (wp_if (fun c2 => ?_) (fun c2 => ?_))
    · rw [if_pos (by omega)] at st
      exact ih a (i + 1) (by omega) (by omega) (by omega)
    · rw [if_neg (by omega)] at st
      refine wp_rg (by omega) (wp_if (fun c3 => wp_some ⟨by omega, by omega⟩) (fun c3 => ?_))
      exact ih (a + (-1)) (i + 1) (by omega) (by omega) (by omega)
  exact L FU p0 0 (by omega) ⟨hp.1, by show p0 + vcn (gA s 60) 0 = p0; show p0 + 0 = p0; omega⟩ (by have := FU_big; omega)
theorem and_31 (x : Int) : 0 ≤ andL x 2147483647 ∧ andL x 2147483647 ≤ 2147483647 := by
  have h : (i8 x &&& i8 2147483647) = Int64.ofBitVec ((i8 x).toBitVec &&& 2147483647#64) := rfl
  unfold andL
  rw [h]
  have h2 : (Int64.ofBitVec ((i8 x).toBitVec &&& 2147483647#64)).toInt = ((i8 x).toBitVec &&& 2147483647#64).toInt := rfl
  rw [h2]
  have h3 : ((i8 x).toBitVec &&& 2147483647#64).toNat ≤ 2147483647 := by
    rw [BitVec.toNat_and]
    exact Nat.and_le_right
  rw [BitVec.toInt_eq_toNat_of_lt (by omega)]
  omega
theorem dr_b {x p : Int} (hx : 0 ≤ x ∧ x ≤ 2147483647) (hp : 0 < p) : (0 ≤ Int.tdiv x 64 ∧ Int.tdiv x 64 ≤ 2147483647) ∧ 0 ≤ Int.tmod (Int.tdiv x 64) p ∧ Int.tmod (Int.tdiv x 64) p < p := by
  have h1 : 0 ≤ Int.tdiv x 64 ∧ Int.tdiv x 64 ≤ 2147483647 := by
    rw [Int.tdiv_eq_ediv_of_nonneg hx.1]; omega
  refine ⟨h1, ?_⟩
  rw [Int.tmod_eq_emod_of_nonneg h1.1]
  exact ⟨Int.emod_nonneg _ (by omega), Int.emod_lt_of_pos _ hp⟩
theorem w_draw {p0 : Int} {s : MS} (hR : Rg s) (hp : 0 < p0 ∧ p0 ≤ 1000) : wp (m_x1_draw p0 s) (fun q => Rg q.2 ∧ F_x1_draw s q.2 ∧ 0 ≤ q.1 ∧ q.1 < p0) := by
  have key : wp (m_x1_draw p0 s) (fun q => Rg q.2 ∧ 0 ≤ q.1 ∧ q.1 < p0) := by
    unfold m_x1_draw m_x1_draw_J39
    have r := hR.1 983
    have r' : (0 : Int) ≤ gI s 983 ∧ gI s 983 ≤ 2147483647 := r
    refine wp_rg (by omega) (wp_stn (fun s4 e4 => ?_))
    have a31 := and_31 (1103515245 * gI s 983 + 12345)
    have hR4 : Rg s4 := e4 ▸ Rg.uI hR a31
    have g : gI s4 983 = andL (1103515245 * gI s 983 + 12345) 2147483647 := q_II e4
    have db := dr_b (x := gI s4 983) (p := p0) (by rw [g]; exact a31) hp.1
    refine wp_rg (by omega) (wp_if (fun c1 => by omega) (fun c1 => ?_))
    refine wp_dv ⟨⟨by rw [g]; omega, by omega⟩, by omega⟩ (wp_dv ⟨⟨by omega, by omega⟩, by omega⟩ (wp_some ⟨hR4, db.2⟩))
  exact wp_eq key (fun q eq hq => ⟨hq.1, fr_x1_draw eq, hq.2⟩)
theorem TE_fr {s o : MS} (h : TE s) (hR : Rg o) (hA : ∀ k, 54 ≤ k → k ≤ 61 → gA o k = gA s k) (hI : gI o 1060 = gI s 1060 ∧ gI o 581 = gI s 581) : TE o := ⟨hR, TS_eq h.2.1 (hA 54 (by decide) (by decide)) (hA 55 (by decide) (by decide)) (hA 56 (by decide) (by decide)) (hA 57 (by decide) (by decide)) (hA 58 (by decide) (by decide)) (hA 59 (by decide) (by decide)) (hA 60 (by decide) (by decide)) (hA 61 (by decide) (by decide)) hI.1 hI.2, by rw [hI.2]; exact h.2.2⟩
set_option maxHeartbeats 1000000 in
theorem ts_act {s : MS} (h : TE s) : wp (m_x1_actBySeed s) (fun q => TE q.2 ∧ F_x1_actBySeed s q.2 ∧ (q.1 = 0 ∨ q.1 = 1)) := by
  have J23 : ∀ S : MS, TE S → wp (m_x1_actBySeed_J23 S) (fun q => TE q.2 ∧ (q.1 = 0 ∨ q.1 = 1)) := by
    intro S hS
    unfold m_x1_actBySeed_J23
    refine wp_bn (w_vols hS.1) (fun r3 e3 h3 => ?_)
    have vb := vcn_b (gA S 60) 8
    refine wp_rg (by omega) (wp_if (fun c1 => wp_some ⟨hS, Or.inl rfl⟩) (fun c1 => ?_))
    refine wp_bn (w_draw hS.1 (by omega)) (fun q8 e8 h8 => ?_)
    obtain ⟨r8, s8⟩ := q8
    dsimp only at h8 ⊢
    obtain ⟨hR8, F8, d8⟩ := h8
    have T8 : TE s8 := TE_fr hS hR8 (fun k h1 h2 => F8.2.1 k (by simp)) ⟨F8.1 1060 (by decide), F8.1 581 (by decide)⟩
    have k60 : gA s8 60 = gA S 60 := F8.2.1 60 (by decide)
    refine wp_bn (w_volAt hR8 (by rw [k60]; omega)) (fun r10 e10 h10 => ?_)
    refine wp_bn (w_draw hR8 (by omega)) (fun q13 e13 h13 => ?_)
    obtain ⟨r13, s13⟩ := q13
    dsimp only at h13 ⊢
    obtain ⟨hR13, F13, d13⟩ := h13
    have T13 : TE s13 := TE_fr T8 hR13 (fun k h1 h2 => F13.2.1 k (by simp)) ⟨F13.1 1060 (by decide), F13.1 581 (by decide)⟩
    refine wp_bn (w_draw hR13 (by omega)) (fun q16 e16 h16 => ?_)
    obtain ⟨r16, s16⟩ := q16
    dsimp only at h16 ⊢
    obtain ⟨hR16, F16, d16⟩ := h16
    have T16 : TE s16 := TE_fr T13 hR16 (fun k h1 h2 => F16.2.1 k (by simp)) ⟨F16.1 1060 (by decide), F16.1 581 (by decide)⟩
    have v16 : gA s16 60 r10.toNat ≠ -2 := by rw [F16.2.1 60 (by decide), F13.2.1 60 (by decide)]; exact h10.2
    refine wp_rg (by omega) (wp_if (fun c2 => ?_) (fun c2 => ?_))
    · refine wp_bn (ts_tryUproot T16 h10.1 v16 (by omega)) (fun q28 e28 h28 => ?_)
      exact wp_bo h28.2.2.1 (wp_some ⟨h28.1, h28.2.2.1⟩)
    · refine wp_bn (w_draw hR16 (by omega)) (fun q21 e21 h21 => ?_)
      obtain ⟨r21, s21⟩ := q21
      dsimp only at h21 ⊢
      obtain ⟨hR21, F21, d21⟩ := h21
      have T21 : TE s21 := TE_fr T16 hR21 (fun k h1 h2 => F21.2.1 k (by simp)) ⟨F21.1 1060 (by decide), F21.1 581 (by decide)⟩
      refine wp_bn (ts_tryPlant T21 h10.1 (by rw [F21.2.1 60 (by decide)]; exact v16) (by omega) (by omega)) (fun q24 e24 h24 => ?_)
      exact wp_bo h24.2.2.1 (wp_some ⟨h24.1, h24.2.2.1⟩)
  have key : wp (m_x1_actBySeed s) (fun q => TE q.2 ∧ (q.1 = 0 ∨ q.1 = 1)) := by
    unfold m_x1_actBySeed
    refine wp_bn (w_draw h.1 (by omega)) (fun q32 e32 h32 => ?_)
    obtain ⟨r32, s32⟩ := q32
    dsimp only at h32 ⊢
    obtain ⟨hR32, F32, d32⟩ := h32
    have T32 : TE s32 := TE_fr h hR32 (fun k h1 h2 => F32.2.1 k (by simp)) ⟨F32.1 1060 (by decide), F32.1 581 (by decide)⟩
    have r582 := hR32.1 582
    have r582' : (0 : Int) ≤ gI s32 582 ∧ gI s32 582 ≤ 100 := r582
    refine wp_rg (by omega) (wp_rg (by omega) (wp_if (fun c1 => J23 s32 T32) (fun c1 => ?_)))
    exact wp_bn (ts_save T32) (fun s37 e37 h37 => J23 s37 h37.1)
  exact wp_eq key (fun q eq hq => ⟨hq.1, fr_x1_actBySeed eq, hq.2⟩)
/-! ===== a store is built ===== -/
theorem TG_zero {h : SH} {ky : Nat → Nat → Int} {N E : Int} {c sv r rs : Nat → Int} (hN : N ≤ 48) (hE : 0 ≤ E) (h1 : ∀ p, p < 48 → c p = 0 ∧ sv p = 0 ∧ h.2.1 p = 0) (h2 : ∀ v, v < 8 → (r v < 0 ∨ 254 ≤ r v) ∧ (rs v < 0 ∨ 254 ≤ rs v)) : TG h ky N E c sv r rs Z0 (-1) := by
  have z : ∀ (c r : Nat → Int), (∀ p, p < 48 → c p = 0) → (∀ v, v < 8 → r v < 0 ∨ 254 ≤ r v) → ∀ x : Nat, x < 48 → df h c r x = 0 := fun c r hc hr x hx => by
    unfold df rf rr
    rw [hc x hx, sm_0 (fun v hv => if_neg (by have := hr v hv; omega)), sm_0 (fun p hp => if_neg (by rw [hc p hp]; omega))]
    rfl
  have w : ∀ c : Nat → Int, (∀ p, p < 48 → c p = 0) → WN h N c := fun c hc p hp => by
    rw [hc p hp]
    exact ⟨Int.le_refl 0, fun _ => rfl, fun q => absurd q (Int.lt_irrefl 0)⟩
  refine ⟨⟨hN, w c (fun p hp => (h1 p hp).1), w sv (fun p hp => (h1 p hp).2.1), fun p hp => ?_⟩, ⟨z c r (fun p hp => (h1 p hp).1) (fun v hv => (h2 v hv).1), z sv rs (fun p hp => (h1 p hp).2.1) (fun v hv => (h2 v hv).2)⟩, ⟨fun p hp hc => ?_, fun p hp hc => ?_⟩, ⟨fun v hv => Or.inr (h2 v hv).1, fun v hv => Or.inr (h2 v hv).2⟩, fun p hp hc => ?_⟩
  · rw [(h1 p hp).2.2]
    exact ⟨by omega, fun _ k hk => by omega, fun k hk => by omega⟩
  · rw [(h1 p hp).1] at hc; omega
  · rw [(h1 p hp).2.1] at hc; omega
  · rw [(h1 p hp).1, (h1 p hp).2.1] at hc; omega
theorem ts_clear {p0 : Int} {s : MS} (hR : Rg s) (hp : 0 ≤ p0 ∧ p0 ≤ 48) (hE : 3 ≤ gI s 581) : wp (m_x8_clear_v2 p0 s) (fun o => TE o ∧ F_x8_clear_v2 s o ∧ ∀ v, v < 8 → gA o 60 v = -2) := by
  have L59 : ∀ (n : Nat) (i : Int) (S : MS), Rg S → (0 ≤ i ∧ i ≤ 8) → (gI S 1060 = p0 ∧ gI S 581 = gI s 581) → (∀ p, p < 48 → gA S 54 p = 0 ∧ gA S 55 p = 0 ∧ gA S 57 p = 0) → (∀ v : Nat, (v : Int) < i → gA S 60 v = -2 ∧ gA S 61 v = -2) → 8 - i < (n : Int) → wp (m_x8_clear_v2_L59 n i S) (fun o => TE o ∧ ∀ v, v < 8 → gA o 60 v = -2) := by
    refine fr_ind (fun i S hRS hi hI hz hv hm => by exfalso; omega) (fun n ih i S hRS hi hI hz hv hm => ?_)
    show wp (m_x8_clear_v2_b59 (m_x8_clear_v2_L59 n) i S) _
    unfold m_x8_clear_v2_b59
    refine wp_rg (by omega) (wp_if (fun c1 => ?_) (fun c1 => ?_))
    · refine wp_some ⟨⟨hRS, ?_, by rw [hI.2]; exact hE⟩, fun v hv' => (hv v (by omega)).1⟩
      exact TG_zero (by rw [hI.1]; exact hp.2) (by rw [hI.2]; omega) hz (fun v hv' => by have := hv v (by omega); omega)
    · refine wp_inb (by omega) (wp_stn (fun s6 e6 => ?_))
      have hR6 : Rg s6 := e6 ▸ Rg.uAu hRS (by show (-2 : Int) ≤ -2 ∧ (-2 : Int) ≤ 253; omega)
      refine wp_inb (by omega) (wp_stn (fun s8 e8 => ?_))
      have hR8 : Rg s8 := e8 ▸ Rg.uAu hR6 (by show (-2 : Int) ≤ -2 ∧ (-2 : Int) ≤ 253; omega)
      have kk : ∀ k, k ≠ 60 → k ≠ 61 → gA s8 k = gA S k := fun k h1 h2 => (q_Aa e8 h2).trans (q_Aa e6 h1)
      have kI : ∀ k, gI s8 k = gI S k := fun k => (q_Ai e8).trans (q_Ai e6)
      refine ih (i + 1) s8 hR8 (by omega) (by rw [kI, kI]; exact hI) (fun p hp => by rw [kk 54 (by decide) (by decide), kk 55 (by decide) (by decide), kk 57 (by decide) (by decide)]; exact hz p hp) (fun v hv' => ?_) (by omega)
      rw [q_AA e8, show gA s8 60 = gA s6 60 from q_Aa e8 (by decide), q_AA e6, show gA s6 61 = gA S 61 from q_Aa e6 (by decide)]
      by_cases z : v = i.toNat
      · rw [z, upZ_s, upZ_s]; exact ⟨rfl, rfl⟩
      · rw [upZ_n z, upZ_n z]; exact hv v (by omega)
  have L17 : ∀ (n : Nat) (i : Int) (S : MS), Rg S → (0 ≤ i ∧ i ≤ 48) → (gI S 1060 = p0 ∧ gI S 581 = gI s 581) → (∀ p : Nat, (p : Int) < i → gA S 54 p = 0 ∧ gA S 55 p = 0 ∧ gA S 57 p = 0) → 48 - i < (n : Int) → wp (m_x8_clear_v2_L17 n i S) (fun o => TE o ∧ ∀ v, v < 8 → gA o 60 v = -2) := by
    refine fr_ind (fun i S hRS hi hI hz hm => by exfalso; omega) (fun n ih i S hRS hi hI hz hm => ?_)
    show wp (m_x8_clear_v2_b17 (m_x8_clear_v2_L17 n) i S) _
    unfold m_x8_clear_v2_b17
    refine wp_rg (by omega) (wp_if (fun c1 => ?_) (fun c1 => ?_))
    · exact L59 FU 0 S hRS (by omega) hI (fun p hp => hz p (by omega)) (fun v hv => absurd hv (by omega)) (by have := FU_big; omega)
    · refine wp_inb (by omega) (wp_stn (fun s14 e14 => ?_))
      have hR14 : Rg s14 := e14 ▸ Rg.uAu hRS (by show (-1 : Int) ≤ 0 ∧ (0 : Int) ≤ 100000; omega)
      refine wp_inb (by omega) (wp_stn (fun s16 e16 => ?_))
      have hR16 : Rg s16 := e16 ▸ Rg.uAu hR14 (by show (-1 : Int) ≤ 0 ∧ (0 : Int) ≤ 100000; omega)
      refine wp_inb (by omega) (wp_stn (fun s18 e18 => ?_))
      have hR18 : Rg s18 := e18 ▸ Rg.uAu hR16 (by show (-1 : Int) ≤ 0 ∧ (0 : Int) ≤ 1000; omega)
      refine wp_inb (by omega) (wp_stn (fun s20 e20 => ?_))
      have hR20 : Rg s20 := e20 ▸ Rg.uAu hR18 (by show (-1 : Int) ≤ 0 ∧ (0 : Int) ≤ 255; omega)
      have kI : ∀ k, gI s20 k = gI S k := fun k => (q_Ai e20).trans ((q_Ai e18).trans ((q_Ai e16).trans (q_Ai e14)))
      have a54 : gA s20 54 = upZ (gA S 54) i.toNat 0 := (q_Aa e20 (by decide)).trans ((q_Aa e18 (by decide)).trans ((q_Aa e16 (by decide)).trans (q_AA e14)))
      have a55 : gA s20 55 = upZ (gA S 55) i.toNat 0 := (q_Aa e20 (by decide)).trans ((q_Aa e18 (by decide)).trans ((q_AA e16).trans (by rw [show gA s14 55 = gA S 55 from q_Aa e14 (by decide)])))
      have a57 : gA s20 57 = upZ (gA S 57) i.toNat 0 := (q_AA e20).trans (by rw [show gA s18 57 = gA S 57 from (q_Aa e18 (by decide)).trans ((q_Aa e16 (by decide)).trans (q_Aa e14 (by decide)))])
      refine ih (i + 1) s20 hR20 (by omega) (by rw [kI, kI]; exact hI) (fun p hp => ?_) (by omega)
      rw [a54, a55, a57]
      by_cases z : p = i.toNat
      · rw [z, upZ_s, upZ_s, upZ_s]; exact ⟨rfl, rfl, rfl⟩
      · rw [upZ_n z, upZ_n z, upZ_n z]; exact hz p (by omega)
  have key : wp (m_x8_clear_v2 p0 s) (fun o => TE o ∧ ∀ v, v < 8 → gA o 60 v = -2) := by
    unfold m_x8_clear_v2
    refine wp_stn (fun s21 e21 => wp_stn (fun s22 e22 => wp_stn (fun s23 e23 => ?_)))
    have hR21 : Rg s21 := e21 ▸ Rg.uI hR (by show (0 : Int) ≤ p0 ∧ p0 ≤ 48; exact hp)
    have hR22 : Rg s22 := e22 ▸ Rg.uI hR21 (by show (-70000 : Int) ≤ 0 ∧ (0 : Int) ≤ 999999; omega)
    have hR23 : Rg s23 := e23 ▸ Rg.uL hR22 (by show R8 0; decide)
    refine L17 FU 0 s23 hR23 (by omega) ⟨?_, ?_⟩ (fun p hp => absurd hp (by omega)) (by have := FU_big; omega)
    · rw [q_Li e23, q_Ii e22 (by decide), q_II e21]
    · rw [q_Li e23, q_Ii e22 (by decide), q_Ii e21 (by decide)]
  exact wp_eq key (fun o eo ho => ⟨ho.1, fr_x8_clear_v2 eo, ho.2⟩)
theorem vt_mono {k : Nat → Int} {i n : Nat} (h : i ≤ n) : vt k i ≤ vt k n := by
  induction n with
  | zero => rw [show i = 0 by omega]; exact Int.le_refl _
  | succ n ih =>
    by_cases e : i = n + 1
    · rw [e]; exact Int.le_refl _
    · have := ih (by omega)
      have s : vt k (n + 1) = vt k n + (if k n = 2 ∨ k n = 3 then 1 else 0) := rfl
      have : (0 : Int) ≤ (if k n = 2 ∨ k n = 3 then 1 else 0) := by split <;> omega
      omega
theorem vt_nn (k : Nat → Int) (n : Nat) : 0 ≤ vt k n := sm_nn (fun i _ => by split <;> omega)
set_option maxHeartbeats 1000000 in
theorem ts_build {s : MS} (hR : Rg s) (hE : 3 ≤ gI s 581) (hP : PV (gA s 31) (gA s 32) (gA s 33) (gA s 34) (gI s 585).toNat (gI s 584)) : wp (m_x1_build s) (fun o => TE o ∧ F_x1_build s o) := by
  have r580 := hR.1 580
  have r580' : (0 : Int) ≤ gI s 580 ∧ gI s 580 ≤ 48 := r580
  have r584 := hR.1 584
  have r584' : (0 : Int) ≤ gI s 584 ∧ gI s 584 ≤ 8 := r584
  have r585 := hR.1 585
  have r585' : (0 : Int) ≤ gI s 585 ∧ gI s 585 ≤ 60 := r585
  have L18 : ∀ (n : Nat) (i : Int) (S : MS), TE S → (0 ≤ i ∧ i ≤ gI s 585) → (gI S 585 = gI s 585 ∧ gA S 31 = gA s 31 ∧ gA S 32 = gA s 32 ∧ gA S 33 = gA s 33 ∧ gA S 34 = gA s 34) → (∀ v : Nat, v < 8 → (gA S 60 v = -2 ↔ vt (gA s 31) i.toNat ≤ (v : Int))) → gI s 585 - i < (n : Int) → wp (m_x1_build_L18 n i S) (fun o => TE o) := by
    refine fr_ind (fun i S hS hi hk hv hm => by exfalso; omega) (fun n ih i S hS hi hk hv hm => ?_)
    show wp (m_x1_build_b18 (m_x1_build_L18 n) i S) _
    unfold m_x1_build_b18 m_x1_build_J135
    obtain ⟨k0, k1, k2, k3, k4⟩ := hk
    refine wp_rg (by omega) (wp_rg (by rw [k0]; omega) (wp_if (fun c1 => ?_) (fun c1 => ?_)))
    · refine wp_bn (ts_save hS) (fun s9 e9 h9 => ?_)
      refine wp_stn (fun s10 e10 => wp_stn (fun s11 e11 => ?_))
      have hR10 : Rg s10 := e10 ▸ Rg.uI h9.1.1 (by show (-70000 : Int) ≤ 0 ∧ (0 : Int) ≤ 999999; omega)
      have hR11 : Rg s11 := e11 ▸ Rg.uL hR10 (by show R8 0; decide)
      exact wp_some (TE_fr h9.1 hR11 (fun k _ _ => (q_La e11).trans (q_Ia e10)) ⟨(q_Li e11).trans (q_Ii e10 (by decide)), (q_Li e11).trans (q_Ii e10 (by decide))⟩)
    rw [k0] at c1
    have rcd := hP.1 i.toNat (by omega)
    have vm : vt (gA s 31) (i.toNat + 1) ≤ gI s 584 := by rw [← hP.2]; exact vt_mono (by omega)
    have vs : vt (gA s 31) (i.toNat + 1) = vt (gA s 31) i.toNat + (if gA s 31 i.toNat = 2 ∨ gA s 31 i.toNat = 3 then 1 else 0) := rfl
    have v0 := vt_nn (gA s 31) i.toNat
    have in1 : (i + 1).toNat = i.toNat + 1 := by omega
    unfold Rec at rcd
    refine wp_rdIn (by omega) (fun y12 e12 => ?_)
    rw [k2] at e12
    refine wp_rdIn (by omega) (fun y13 e13 => ?_)
    rw [k1] at e13
    rw [e12, e13] at rcd
    rw [e13] at vs
    refine wp_rg (by omega) (wp_if (fun c2 => ?_) (fun c2 => wp_if (fun c3 => ?_) (fun c3 => wp_if (fun c4 => by omega) (fun c4 => wp_if (fun c5 => ?_) (fun c5 => wp_if (fun c6 => ?_) (fun c6 => by omega))))))
    · rw [if_pos (Or.inl c2)] at vs
      have w0 : y12 = vt (gA s 31) i.toNat := by omega
      have ab := (hv y12.toNat (by omega)).mpr (by omega)
      refine wp_inb (by omega) (wp_stn (fun s17 e17 => ?_))
      have hR17 : Rg s17 := e17 ▸ Rg.uAu hS.1 (by show (-2 : Int) ≤ -1 ∧ (-1 : Int) ≤ 253; omega)
      have g60 : gA s17 60 = upZ (gA S 60) y12.toNat (-1) := q_AA e17
      have kk : ∀ k, k ≠ 60 → gA s17 k = gA S k := fun k h => q_Aa e17 h
      have kI : ∀ k, gI s17 k = gI S k := fun k => q_Ai e17
      have TR := TG_root (v := y12.toNat) (q := -1) hS.2.1 (by omega) (Or.inr (Or.inl (by omega)))
      refine ih (i + 1) s17 ⟨hR17, ?_, by rw [kI]; exact hS.2.2⟩ (by omega) ⟨by rw [kI]; exact k0, (kk 31 (by decide)).trans k1, (kk 32 (by decide)).trans k2, (kk 33 (by decide)).trans k3, (kk 34 (by decide)).trans k4⟩ (fun v hv8 => ?_) (by omega)
      · refine TS_mk (TG_D TR (fun x hx => ?_)) (hN_eq (kk 56 (by decide)) (kk 57 (by decide)) (kk 59 (by decide))) (kN_eq (kk 58 (by decide))) (kI _) (kI _) (kk 54 (by decide)) (kk 55 (by decide)) g60 (kk 61 (by decide))
        show (0 : Int) = 0 + (if gA S 60 y12.toNat = (x : Int) then 1 else 0) - (if (-1 : Int) = (x : Int) then 1 else 0)
        rw [ab, if_neg (by omega), if_neg (by omega)]; rfl
      · rw [g60, in1, vs]
        by_cases z : v = y12.toNat
        · rw [z, upZ_s]; omega
        · rw [upZ_n z]
          have := hv v hv8
          omega
    · rw [if_pos (Or.inr c3)] at vs
      have w0 : y12 = vt (gA s 31) i.toNat := by omega
      have ab := (hv y12.toNat (by omega)).mpr (by omega)
      refine wp_rdIn (by omega) (fun y19 e19 => ?_)
      rw [k3] at e19
      rw [e19] at rcd
      have b19 : 0 ≤ y19 ∧ y19 < vt (gA s 31) i.toNat := by omega
      have pr : gA S 60 y19.toNat ≠ -2 := fun q => by have := (hv y19.toNat (by omega)).mp q; omega
      refine wp_bn (ts_share hS (by omega) (by omega) pr ab) (fun s21 e21 h21 => ?_)
      have F21 : F_x1_share S s21 := fr_x1_share e21
      refine ih (i + 1) s21 h21.1 (by omega) ⟨by rw [F21.1 585 (by decide)]; exact k0, (F21.2.1 31 (by decide)).trans k1, (F21.2.1 32 (by decide)).trans k2, (F21.2.1 33 (by decide)).trans k3, (F21.2.1 34 (by decide)).trans k4⟩ (fun v hv8 => ?_) (by omega)
      rw [h21.2 v hv8, in1, vs]
      by_cases z : v = y12.toNat
      · rw [if_pos z, z]
        exact ⟨fun q => absurd q pr, fun q => by omega⟩
      · rw [if_neg z]
        have := hv v hv8
        omega
    · rw [if_neg (by omega)] at vs
      refine wp_rdIn (by omega) (fun y24 e24 => ?_)
      rw [k3] at e24
      refine wp_rdIn (by omega) (fun y25 e25 => ?_)
      rw [k4] at e25
      rw [e24, e25] at rcd
      have pr : gA S 60 y12.toNat ≠ -2 := fun q => by have := (hv y12.toNat (by omega)).mp q; omega
      refine wp_bn (ts_tryPlant hS (by omega) pr (by omega) (by omega)) (fun q28 e28 h28 => ?_)
      obtain ⟨r, o⟩ := q28
      dsimp only at h28 ⊢
      obtain ⟨To, Fo, _, Ko⟩ := h28
      refine ih (i + 1) o To (by omega) ⟨by rw [Fo.1 585 (by decide)]; exact k0, (Fo.2.1 31 (by decide)).trans k1, (Fo.2.1 32 (by decide)).trans k2, (Fo.2.1 33 (by decide)).trans k3, (Fo.2.1 34 (by decide)).trans k4⟩ (fun v hv8 => ?_) (by omega)
      rw [Ko v hv8, hv v hv8, in1, vs]; omega
    · rw [if_neg (by omega)] at vs
      refine wp_rdIn (by omega) (fun y30 e30 => ?_)
      rw [k3] at e30
      rw [e30] at rcd
      have pr : gA S 60 y12.toNat ≠ -2 := fun q => by have := (hv y12.toNat (by omega)).mp q; omega
      refine wp_bn (ts_tryUproot hS (by omega) pr (by omega)) (fun q33 e33 h33 => ?_)
      obtain ⟨r, o⟩ := q33
      dsimp only at h33 ⊢
      obtain ⟨To, Fo, _, Ko⟩ := h33
      refine ih (i + 1) o To (by omega) ⟨by rw [Fo.1 585 (by decide)]; exact k0, (Fo.2.1 31 (by decide)).trans k1, (Fo.2.1 32 (by decide)).trans k2, (Fo.2.1 33 (by decide)).trans k3, (Fo.2.1 34 (by decide)).trans k4⟩ (fun v hv8 => ?_) (by omega)
      rw [Ko v hv8, hv v hv8, in1, vs]; omega
  have key : wp (m_x1_build s) (fun o => TE o) := by
    unfold m_x1_build
    refine wp_bn (ts_clear hR r580' hE) (fun s35 e35 h35 => ?_)
    obtain ⟨T, F, hv⟩ := h35
    refine L18 FU 0 s35 T (by omega) ⟨F.1 585 (by decide), F.2.1 31 (by decide), F.2.1 32 (by decide), F.2.1 33 (by decide), F.2.1 34 (by decide)⟩ (fun v hv8 => ?_) (by have := FU_big; omega)
    have : vt (gA s 31) (Int.toNat 0) = 0 := rfl
    rw [hv v hv8, this]
    exact ⟨fun _ => by omega, fun _ => rfl⟩
  exact wp_eq key (fun o eo ho => ⟨ho, fr_x1_build eo⟩)
