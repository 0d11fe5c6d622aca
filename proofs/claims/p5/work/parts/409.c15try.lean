/-! ===== what an act does to the trees, or leaves ===== -/
theorem zZ : ∀ x, x < 48 → 0 ≤ Z0 x := fun x _ => Int.le_refl 0
theorem TS_CL {s : MS} (H : TS s Z0 (-1)) : CL s (gA s 54) := CL_of (r := gA s 60) H.1.1 H.1.2.1 (fun p hp hc => H.2.2.1.1 p hp hc (by omega)) (fun x hx => by rw [H.2.1.1 x hx]; exact zZ x hx)
theorem TS_CLs {s : MS} (H : TS s Z0 (-1)) : CL s (gA s 55) := CL_of (r := gA s 61) H.1.1 H.1.2.2.1 H.2.2.1.2 (fun x hx => by rw [H.2.1.2 x hx]; exact Int.le_refl 0)
theorem TS_US {s : MS} {D : Nat → Int} {e : Int} (H : TS s D e) : US (hN s) (kN s) := H.1.2.2.2
theorem TS_root {s : MS} (hR : Rg s) (H : TS s Z0 (-1)) {v : Nat} (hv : v < 8) : ((-2) ≤ gA s 60 v ∧ gA s 60 v < 48) ∧ (0 ≤ gA s 60 v → gA s 60 v < 48 ∧ 0 < gA s 54 (gA s 60 v).toNat) := by
  have r60 := hR.2.1 60 v hv
  have r60' : (-2 : Int) ≤ gA s 60 v ∧ gA s 60 v ≤ 253 := r60
  have hN48 : gI s 1060 ≤ 48 := H.1.1
  have key : 0 ≤ gA s 60 v → gA s 60 v < 48 ∧ 0 < gA s 54 (gA s 60 v).toNat := fun h0 => by
    have := TG_root_live (v := v) H zZ hv h0 (by omega)
    exact ⟨by omega, this.2⟩
  exact ⟨⟨r60'.1, by by_cases h0 : 0 ≤ gA s 60 v; exact (key h0).1; omega⟩, key⟩
theorem TS_sroot {s : MS} (hR : Rg s) (H : TS s Z0 (-1)) {v : Nat} (hv : v < 8) : ((-2) ≤ gA s 61 v ∧ gA s 61 v < 48) ∧ (0 ≤ gA s 61 v → gA s 61 v < 48 ∧ 0 < gA s 55 (gA s 61 v).toNat) := by
  have r61 := hR.2.1 61 v hv
  have r61' : (-2 : Int) ≤ gA s 61 v ∧ gA s 61 v ≤ 253 := r61
  have hN48 : gI s 1060 ≤ 48 := H.1.1
  have ro := H.2.2.2.1.2 v hv
  have key : 0 ≤ gA s 61 v → gA s 61 v < 48 ∧ 0 < gA s 55 (gA s 61 v).toNat := fun h0 => by
    have hb : gA s 61 v < 48 := by omega
    refine ⟨hb, root_live (h := hN s) (N := gI s 1060) hv h0 ?_⟩
    rw [H.2.1.2 _ (by omega)]; exact Int.le_refl 0
  exact ⟨⟨r61'.1, by by_cases h0 : 0 ≤ gA s 61 v; exact (key h0).1; omega⟩, key⟩
/-- which volumes are there is as it was -/
def RK (s o : MS) : Prop := ∀ w, w < 8 → (gA o 60 w = -2 ↔ gA s 60 w = -2)
theorem RK_of {s o : MS} {v : Nat} (h : RV s o v) (hv : gA s 60 v ≠ -2) : RK s o := fun w hw => by
  by_cases e : w = v
  · rw [e]; exact ⟨fun q => absurd q h.2, fun q => absurd q hv⟩
  · rw [h.1 w e]
theorem RK_pt {s o : MS} (h : ∀ w, w < 8 → gA o 60 w = gA s 60 w) : RK s o := fun w hw => by rw [h w hw]
theorem RK_tr {s o t : MS} (h : RK s o) (g : RK o t) : RK s t := fun w hw => (g w hw).trans (h w hw)
/-- one state's rows are those of another -/
def BC (s o : MS) (a b i j : Nat) : Prop := (∀ k, k < 48 → gA o b k = gA s a k ∧ gA o (b + 1) k = gA s (a + 1) k ∧ gA o (b + 2) k = gA s (a + 2) k ∧ gA o (b + 3) k = gA s (a + 3) k) ∧ (∀ k, k < 288 → gA o (b + 4) k = gA s (a + 4) k ∧ gA o (b + 5) k = gA s (a + 5) k) ∧ (∀ k, k < 8 → gA o (b + 6) k = gA s (a + 6) k ∧ gA o (b + 7) k = gA s (a + 7) k) ∧ gI o j = gI s i ∧ gI o (j + 1) = gI s (i + 1)
theorem BC_tr {s o t : MS} {a b c i j l : Nat} (h : BC s o a b i j) (g : BC o t b c j l) : BC s t a c i l := by
  refine ⟨fun k hk => ?_, fun k hk => ?_, fun k hk => ?_, g.2.2.2.1.trans h.2.2.2.1, g.2.2.2.2.trans h.2.2.2.2⟩
  · have h1 := h.1 k hk
    have g1 := g.1 k hk
    exact ⟨g1.1.trans h1.1, g1.2.1.trans h1.2.1, g1.2.2.1.trans h1.2.2.1, g1.2.2.2.trans h1.2.2.2⟩
  · have h1 := h.2.1 k hk
    have g1 := g.2.1 k hk
    exact ⟨g1.1.trans h1.1, g1.2.trans h1.2⟩
  · have h1 := h.2.2.1 k hk
    have g1 := g.2.2.1 k hk
    exact ⟨g1.1.trans h1.1, g1.2.trans h1.2⟩
/-- a state that nobody wrote -/
theorem BC_fr {s o t : MS} {a b i j : Nat} (h : BC s o a b i j) (hA : ∀ k, b ≤ k → k ≤ b + 7 → gA t k = gA o k) (hI : gI t j = gI o j ∧ gI t (j + 1) = gI o (j + 1)) : BC s t a b i j := by
  unfold BC
  rw [hA b (by omega) (by omega), hA (b + 1) (by omega) (by omega), hA (b + 2) (by omega) (by omega), hA (b + 3) (by omega) (by omega), hA (b + 4) (by omega) (by omega), hA (b + 5) (by omega) (by omega), hA (b + 6) (by omega) (by omega), hA (b + 7) (by omega) (by omega), hI.1, hI.2]
  exact h
theorem TS_bc {s o : MS} (H : TS s Z0 (-1)) (h : BC s o 54 54 1060 1060) (he : gI o 581 = gI s 581) : TS o Z0 (-1) := by
  have T := TG_ext (h' := hN o) (ky' := kN o) (c' := gA o 54) (sv' := gA o 55) (r' := gA o 60) (rs' := gA o 61) H (fun p hp => (h.1 p hp).2.2.1) (fun p hp => (h.1 p hp).2.2.2) (fun p hp k hk => ⟨(h.2.1 (6 * p + k) (by omega)).2, (h.2.1 (6 * p + k) (by omega)).1⟩) (fun p hp => (h.1 p hp).1) (fun p hp => (h.1 p hp).2.1) (fun v hv => (h.2.2.1 v hv).1) (fun v hv => (h.2.2.1 v hv).2)
  exact TS_mk T rfl rfl h.2.2.2.1 he rfl rfl rfl rfl
theorem b_v3 {s : MS} (hR : Rg s) : wp (m_x8_become_v3 s) (fun o => Rg o ∧ F_x8_become_v3 s o ∧ BC s o 54 72 1060 1420) := wp_eq (w_x8_become_v3 hR) (fun o e h => ⟨h.1, fr_x8_become_v3 e, ⟨h.2.1, h.2.2.1, h.2.2.2.1, h.2.2.2.2.1, h.2.2.2.2.2⟩⟩)
theorem b_v2 {s : MS} (hR : Rg s) : wp (m_x8_become_v2 s) (fun o => Rg o ∧ F_x8_become_v2 s o ∧ BC s o 54 63 1060 1240) := wp_eq (w_x8_become_v2 hR) (fun o e h => ⟨h.1, fr_x8_become_v2 e, ⟨h.2.1, h.2.2.1, h.2.2.2.1, h.2.2.2.2.1, h.2.2.2.2.2⟩⟩)
theorem b_v4 {s : MS} (hR : Rg s) (h1 : gI s 1421 ≤ 999999) : wp (m_x8_become_v4 s) (fun o => Rg o ∧ F_x8_become_v4 s o ∧ BC s o 72 54 1420 1060) := wp_eq (w_x8_become_v4 hR h1) (fun o e h => ⟨h.1, fr_x8_become_v4 e, ⟨h.2.1, h.2.2.1, h.2.2.2.1, h.2.2.2.2.1, h.2.2.2.2.2⟩⟩)
theorem b_v1 {s : MS} (hR : Rg s) : wp (m_x8_become s) (fun o => Rg o ∧ F_x8_become s o ∧ BC s o 63 54 1240 1060) := wp_eq (w_x8_become hR) (fun o e h => ⟨h.1, fr_x8_become e, ⟨h.2.1, h.2.2.1, h.2.2.2.1, h.2.2.2.2.1, h.2.2.2.2.2⟩⟩)
theorem b_P {s : MS} (hR : Rg s) : wp (m_x8_becomeP s) (fun o => Rg o ∧ F_x8_becomeP s o ∧ BC s o 63 54 1240 1060) := wp_eq (w_x8_becomeP hR) (fun o e h => ⟨h.1, fr_x8_becomeP e, ⟨h.2.1, h.2.2.1, h.2.2.2.1, h.2.2.2.2.1, h.2.2.2.2.2⟩⟩)
/-- the trees hold and can be put to -/
def TE (s : MS) : Prop := Rg s ∧ TS s Z0 (-1) ∧ 3 ≤ gI s 581
set_option maxHeartbeats 1000000 in
theorem ts_tryPlant {p0 p1 p2 : Int} {s : MS} (h : TE s) (hp : 0 ≤ p0 ∧ p0 < 8) (hv : gA s 60 p0.toNat ≠ -2) (h1 : 0 ≤ p1 ∧ p1 ≤ 999) (h2 : 0 ≤ p2 ∧ p2 ≤ 999) : wp (m_x1_tryPlant p0 p1 p2 s) (fun q => TE q.2 ∧ F_x1_tryPlant s q.2 ∧ (q.1 = 0 ∨ q.1 = 1) ∧ RK s q.2) := by
  obtain ⟨hR, H, hE⟩ := h
  have key : wp (m_x1_tryPlant p0 p1 p2 s) (fun q => Rg q.2 ∧ TS q.2 Z0 (-1) ∧ (q.1 = 0 ∨ q.1 = 1) ∧ RK s q.2) := by
    unfold m_x1_tryPlant m_x1_tryPlant_J36
    refine wp_bn (b_v3 hR) (fun s5 e5 h5 => ?_)
    obtain ⟨hR5, F5, B5⟩ := h5
    have T5 : TS s5 Z0 (-1) := TS_eq H (F5.2.1 54 (by decide)) (F5.2.1 55 (by decide)) (F5.2.1 56 (by decide)) (F5.2.1 57 (by decide)) (F5.2.1 58 (by decide)) (F5.2.1 59 (by decide)) (F5.2.1 60 (by decide)) (F5.2.1 61 (by decide)) (F5.1 1060 (by decide)) (F5.1 581 (by decide))
    have k60 : gA s5 60 = gA s 60 := F5.2.1 60 (by decide)
    refine wp_bn (ts_plant hR5 T5 (by rw [F5.1 581 (by decide)]; exact hE) hp (by rw [k60]; exact hv) h1 h2) (fun q8 e8 h8 => ?_)
    obtain ⟨r, o⟩ := q8
    dsimp only at h8 ⊢
    obtain ⟨hRo, Fo, h8⟩ := h8
    refine wp_rg (by omega) (wp_if (fun c1 => ?_) (fun c1 => ?_))
    · have B1 : BC s o 54 72 1060 1420 := BC_fr B5 (fun k h1 h2 => Fo.2.1 k (by simp; omega)) ⟨Fo.1 1420 (by decide), Fo.1 1421 (by decide)⟩
      have sp : gI s 1061 ≤ 999999 := (hR.1 1061).2
      refine wp_bn (b_v4 hRo (by have b9 : gI o 1421 = gI s 1061 := B1.2.2.2.2; omega)) (fun s12 e12 h12 => ?_)
      obtain ⟨hR12, F12, B12⟩ := h12
      have B2 := BC_tr B1 B12
      refine wp_bo (by omega) (wp_some ⟨hR12, TS_bc H B2 ?_, Or.inl c1, RK_pt (fun w hw => (B2.2.2.1 w hw).1)⟩)
      rw [F12.1 581 (by decide), Fo.1 581 (by decide), F5.1 581 (by decide)]
    · rcases h8 with h8 | ⟨h8, T8, V8⟩
      · exact absurd h8 c1
      · refine wp_bo (by omega) (wp_some ⟨hRo, T8, Or.inr h8, ?_⟩)
        have := RK_of V8 (by rw [k60]; exact hv)
        intro w hw
        rw [this w hw, k60]
  refine wp_eq key (fun q eq hq => ?_)
  have F : F_x1_tryPlant s q.2 := fr_x1_tryPlant eq
  exact ⟨⟨hq.1, hq.2.1, by rw [F.1 581 (by decide)]; exact hE⟩, F, hq.2.2.1, hq.2.2.2⟩
set_option maxHeartbeats 1000000 in
theorem ts_tryUproot {p0 p1 : Int} {s : MS} (h : TE s) (hp : 0 ≤ p0 ∧ p0 < 8) (hv : gA s 60 p0.toNat ≠ -2) (h1 : R2 p1) : wp (m_x1_tryUproot p0 p1 s) (fun q => TE q.2 ∧ F_x1_tryUproot s q.2 ∧ (q.1 = 0 ∨ q.1 = 1) ∧ RK s q.2) := by
  obtain ⟨hR, H, hE⟩ := h
  have key : wp (m_x1_tryUproot p0 p1 s) (fun q => Rg q.2 ∧ TS q.2 Z0 (-1) ∧ (q.1 = 0 ∨ q.1 = 1) ∧ RK s q.2) := by
    unfold m_x1_tryUproot m_x1_tryUproot_J56
    have rt := TS_root hR H (v := p0.toNat) (by omega)
    refine wp_rdIn (by omega) (fun y4 e4 => ?_)
    rw [e4] at rt
    refine wp_bn (w_x8_valueAt hR (TS_CL H) rt.2 (by omega) h1) (fun r6 e6 h6 => ?_)
    refine wp_rg (by omega) (wp_if (fun c0 => wp_some ⟨hR, H, Or.inl rfl, RK_pt (fun w hw => rfl)⟩) (fun c0 => ?_))
    have hy4 : 0 ≤ y4 := by
      by_cases q : y4 < 0
      · exact absurd (h6.2 q) c0
      · omega
    refine wp_bn (b_v3 hR) (fun s5 e5 h5 => ?_)
    obtain ⟨hR5, F5, B5⟩ := h5
    have T5 : TS s5 Z0 (-1) := TS_eq H (F5.2.1 54 (by decide)) (F5.2.1 55 (by decide)) (F5.2.1 56 (by decide)) (F5.2.1 57 (by decide)) (F5.2.1 58 (by decide)) (F5.2.1 59 (by decide)) (F5.2.1 60 (by decide)) (F5.2.1 61 (by decide)) (F5.1 1060 (by decide)) (F5.1 581 (by decide))
    have k60 : gA s5 60 = gA s 60 := F5.2.1 60 (by decide)
    refine wp_bn (ts_uproot hR5 T5 (by rw [F5.1 581 (by decide)]; exact hE) hp (by rw [k60, e4]; exact hy4) h1) (fun q8 e8 h8 => ?_)
    obtain ⟨r, o⟩ := q8
    dsimp only at h8 ⊢
    obtain ⟨hRo, Fo, h8⟩ := h8
    refine wp_rg (by omega) (wp_if (fun c1 => ?_) (fun c1 => ?_))
    · have B1 : BC s o 54 72 1060 1420 := BC_fr B5 (fun k h1 h2 => Fo.2.1 k (by simp; omega)) ⟨Fo.1 1420 (by decide), Fo.1 1421 (by decide)⟩
      have sp : gI s 1061 ≤ 999999 := (hR.1 1061).2
      refine wp_bn (b_v4 hRo (by have b9 : gI o 1421 = gI s 1061 := B1.2.2.2.2; omega)) (fun s12 e12 h12 => ?_)
      obtain ⟨hR12, F12, B12⟩ := h12
      have B2 := BC_tr B1 B12
      refine wp_bo (by omega) (wp_some ⟨hR12, TS_bc H B2 ?_, Or.inl c1, RK_pt (fun w hw => (B2.2.2.1 w hw).1)⟩)
      rw [F12.1 581 (by decide), Fo.1 581 (by decide), F5.1 581 (by decide)]
    · rcases h8 with h8 | ⟨h8, T8, V8⟩
      · exact absurd h8 c1
      · refine wp_bo (by omega) (wp_some ⟨hRo, T8, Or.inr h8, ?_⟩)
        have := RK_of V8 (by rw [k60]; exact hv)
        intro w hw
        rw [this w hw, k60]
  refine wp_eq key (fun q eq hq => ?_)
  have F : F_x1_tryUproot s q.2 := fr_x1_tryUproot eq
  exact ⟨⟨hq.1, hq.2.1, by rw [F.1 581 (by decide)]; exact hE⟩, F, hq.2.2.1, hq.2.2.2⟩
theorem ts_share {p0 p1 : Int} {s : MS} (h : TE s) (hp : 0 ≤ p0 ∧ p0 < 8) (hq : 0 ≤ p1 ∧ p1 < 8) (hv : gA s 60 p0.toNat ≠ -2) (hf : gA s 60 p1.toNat = -2) : wp (m_x1_share p0 p1 s) (fun o => TE o ∧ ∀ w, w < 8 → gA o 60 w = if w = p1.toNat then gA s 60 p0.toNat else gA s 60 w) := by
  obtain ⟨hR, H, hE⟩ := h
  have rt := TS_root hR H (v := p0.toNat) (by omega)
  unfold m_x1_share m_x1_share_J52
  refine wp_rdIn (by omega) (fun y2 e2 => ?_)
  rw [e2] at rt hv
  refine wp_inb (by omega) (wp_stn (fun s4 e4 => ?_))
  have hR4 : Rg s4 := e4 ▸ Rg.uAu hR (by show (-2 : Int) ≤ y2 ∧ y2 ≤ 253; omega)
  have g60 : gA s4 60 = upZ (gA s 60) p1.toNat y2 := q_AA e4
  have kk : ∀ k, k ≠ 60 → gA s4 k = gA s k := fun k h => q_Aa e4 h
  have kI : ∀ k, gI s4 k = gI s k := fun k => q_Ai e4
  have ne : p0.toNat ≠ p1.toNat := fun q => by rw [q, hf] at e2; omega
  have g0 : gA s4 60 p0.toNat = y2 := by rw [g60, upZ_n ne]; exact e2
  have post : ∀ w, w < 8 → gA s4 60 w = if w = p1.toNat then gA s 60 p0.toNat else gA s 60 w := fun w hw => by
    rw [g60, e2]
    by_cases q : w = p1.toNat
    · rw [q, upZ_s, if_pos rfl]
    · rw [upZ_n q, if_neg q]
  have ro := H.2.2.2.1.1 p0.toNat (by omega)
  rw [e2] at ro
  have TR := TG_root (v := p1.toNat) (q := y2) H (by omega) ro
  refine wp_rdIn (by omega) (fun y5 e5 => ?_)
  rw [g0] at e5
  refine wp_rg (by omega) (wp_if (fun c1 => ?_) (fun c1 => ?_))
  · refine wp_some ⟨⟨hR4, ?_, by rw [kI]; exact hE⟩, post⟩
    refine TS_mk (TG_D TR (fun x hx => ?_)) (hN_eq (kk 56 (by decide)) (kk 57 (by decide)) (kk 59 (by decide))) (kN_eq (kk 58 (by decide))) (kI _) (kI _) (kk 54 (by decide)) (kk 55 (by decide)) g60 (kk 61 (by decide))
    show (0 : Int) = 0 + (if gA s 60 p1.toNat = (x : Int) then 1 else 0) - (if y2 = (x : Int) then 1 else 0)
    rw [hf, if_neg (by omega), if_neg (by omega)]; rfl
  · have rl := rt.2 (by omega)
    refine wp_rdIn (by omega) (fun y8 e8 => ?_)
    rw [g0] at e8
    have y8e : y8 = y2 := e8.symm
    subst y8e
    refine wp_rdIn (by omega) (fun y9 e9 => ?_)
    rw [kk 54 (by decide)] at e9
    have cb : gA s 54 y8.toNat ≤ Z0 y8.toNat + 296 := TG_cb H (by omega)
    have cb' : gA s 54 y8.toNat ≤ 0 + 296 := cb
    have TI := TG_inc TR (show y8.toNat < 48 by omega) rl.2
    have rl2 := rl.2
    rw [e9] at TI cb' rl2
    refine wp_inb (by omega) (wp_stn (fun s11 e11 => ?_))
    have hR11 : Rg s11 := e11 ▸ Rg.uAu hR4 (by show (-1 : Int) ≤ y9 + 1 ∧ y9 + 1 ≤ 100000; omega)
    have g54 : gA s11 54 = upZ (gA s 54) y8.toNat (y9 + 1) := (q_AA e11).trans (by rw [kk 54 (by decide)])
    have k2 : ∀ k, k ≠ 54 → gA s11 k = gA s4 k := fun k h => q_Aa e11 h
    have k3 : ∀ k, gI s11 k = gI s k := fun k => (q_Ai e11).trans (kI k)
    refine wp_some ⟨⟨hR11, ?_, by rw [k3]; exact hE⟩, fun w hw => by rw [k2 60 (by decide)]; exact post w hw⟩
    refine TS_mk (TG_D TI (fun x hx => ?_)) (hN_eq ((k2 56 (by decide)).trans (kk 56 (by decide))) ((k2 57 (by decide)).trans (kk 57 (by decide))) ((k2 59 (by decide)).trans (kk 59 (by decide)))) (kN_eq ((k2 58 (by decide)).trans (kk 58 (by decide)))) (k3 _) (k3 _) g54 ((k2 55 (by decide)).trans (kk 55 (by decide))) ((k2 60 (by decide)).trans g60) ((k2 61 (by decide)).trans (kk 61 (by decide)))
    show (0 : Int) = 0 + (if gA s 60 p1.toNat = (x : Int) then 1 else 0) - (if y8 = (x : Int) then 1 else 0) + (if x = y8.toNat then 1 else 0)
    rw [hf, if_neg (by omega)]
    by_cases z : x = y8.toNat
    · rw [if_pos z, if_pos (by omega)]; rfl
    · rw [if_neg z, if_neg (by omega)]; rfl
theorem ts_letGo {p0 : Int} {s : MS} (h : TE s) (hp : 0 ≤ p0 ∧ p0 < 8) (hv : gA s 60 p0.toNat ≠ -2) : wp (m_x1_letGo p0 s) (fun o => TE o) := by
  obtain ⟨hR, H, hE⟩ := h
  have rt := TS_root hR H (v := p0.toNat) (by omega)
  have J34 : ∀ (S : MS) (D : Nat → Int), Rg S → TS S D (-1) → gI S 581 = gI s 581 → (∀ x, x < 48 → D x + (if gA S 60 p0.toNat = (x : Int) then 1 else 0) = 0) → wp (m_x1_letGo_J34 p0 S) (fun o => TE o) := by
    intro S D hRS T hES hDD
    unfold m_x1_letGo_J34
    refine wp_inb (by omega) (wp_stn (fun s4 e4 => ?_))
    have hR4 : Rg s4 := e4 ▸ Rg.uAu hRS (by show (-2 : Int) ≤ -2 ∧ (-2 : Int) ≤ 253; omega)
    have g60 : gA s4 60 = upZ (gA S 60) p0.toNat (-2) := q_AA e4
    have kk : ∀ k, k ≠ 60 → gA s4 k = gA S k := fun k h => q_Aa e4 h
    have kI : ∀ k, gI s4 k = gI S k := fun k => q_Ai e4
    have TR := TG_root (v := p0.toNat) (q := -2) T (by omega) (Or.inr (Or.inl (by omega)))
    refine wp_some ⟨hR4, ?_, by rw [kI, hES]; exact hE⟩
    refine TS_mk (TG_D TR (fun x hx => ?_)) (hN_eq (kk 56 (by decide)) (kk 57 (by decide)) (kk 59 (by decide))) (kN_eq (kk 58 (by decide))) (kI _) (kI _) (kk 54 (by decide)) (kk 55 (by decide)) g60 (kk 61 (by decide))
    show (0 : Int) = D x + (if gA S 60 p0.toNat = (x : Int) then 1 else 0) - (if (-2 : Int) = (x : Int) then 1 else 0)
    rw [hDD x hx, if_neg (by omega)]; rfl
  unfold m_x1_letGo
  refine wp_rdIn (by omega) (fun y5 e5 => ?_)
  have hv' := hv
  rw [e5] at rt hv'
  refine wp_rg (by omega) (wp_if (fun c1 => J34 s Z0 hR H rfl (fun x hx => ?_)) (fun c1 => ?_))
  · rw [e5, if_neg (by omega)]; rfl
  · refine wp_rdIn (by omega) (fun y8 e8 => ?_)
    have y8e : y8 = y5 := by rw [← e8, ← e5]
    rw [y8e]
    have rl := rt.2 (by omega)
    have rN := TG_lt H (show y5.toNat < 48 by omega) rl.2
    refine wp_bn (w_x1_release_v2 hR H.1.2.1 (by omega) rl.2 (fun x hx => by rw [H.2.1.1 x hx]; exact zZ x hx)) (fun q11 e11 h11 => ?_)
    obtain ⟨n, o⟩ := q11
    dsimp only at h11 ⊢
    obtain ⟨hRo, hRel, _, _⟩ := h11
    have Fo : F_x1_release_v2 s o := fr_x1_release_v2 e11
    refine J34 o (fun x => 0 - (if (x : Int) = y5 then 1 else 0)) hRo (TS_mk (TG_rel H hRel) (hN_eq (Fo.2.1 56 (by decide)) (Fo.2.1 57 (by decide)) (Fo.2.1 59 (by decide))) (kN_eq (Fo.2.1 58 (by decide))) (Fo.1 1060 (by decide)) (Fo.1 581 (by decide)) rfl (Fo.2.1 55 (by decide)) (Fo.2.1 60 (by decide)) (Fo.2.1 61 (by decide))) (Fo.1 581 (by decide)) (fun x hx => ?_)
    rw [Fo.2.1 60 (by decide), e5]
    by_cases z : y5 = (x : Int)
    · rw [if_pos z, if_pos z.symm]; rfl
    · rw [if_neg z, if_neg (fun w => z w.symm)]; rfl
theorem ts_freed {p0 : Int} {s : MS} (hR : Rg s) (H : TS s Z0 (-1)) (hp : p0 = -1 ∨ (0 ≤ p0 ∧ p0 < 48 ∧ 0 < gA s 54 p0.toNat)) : wp (m_x1_freedWith p0 s) (fun q => Rg q.2 ∧ F_x1_freedWith s q.2 ∧ 0 ≤ q.1 ∧ q.1 ≤ 48) := by
  have key : wp (m_x1_freedWith p0 s) (fun q => Rg q.2 ∧ 0 ≤ q.1 ∧ q.1 ≤ 48) := by
    unfold m_x1_freedWith
    refine wp_rg (by omega) (wp_if (fun c1 => wp_some ⟨hR, by show (0 : Int) ≤ 0 ∧ (0 : Int) ≤ 48; omega⟩) (fun c1 => ?_))
    refine wp_cpg ⟨⟨by decide, by decide, by decide⟩, by decide, by decide⟩ (wp_stn (fun s4 e4 => ?_))
    have hR4 : Rg s4 := e4 ▸ Rg.cpy hR (by decide) (by decide) (by decide)
    have kk : ∀ k, k ≠ 52 → gA s4 k = gA s k := fun k h => q_Aa e4 h
    have kI : ∀ k, gI s4 k = gI s k := fun k => q_Ai e4
    have c52 : ∀ j, j < 48 → gA s4 52 j = gA s 54 j := fun j hj => by rw [q_AA e4]; exact cpy_all hj
    have hN' : hN s4 = hN s := hN_eq (kk 56 (by decide)) (kk 57 (by decide)) (kk 59 (by decide))
    have hN48 : gI s 1060 ≤ 48 := H.1.1
    have hp' : 0 ≤ p0 ∧ p0 < 48 ∧ 0 < gA s 54 p0.toNat := by rcases hp with hp | hp; exact absurd hp c1; exact hp
    have rN := TG_lt H (show p0.toNat < 48 by omega) hp'.2.2
    refine wp_bn (w_x1_release hR4 (by rw [hN', kI]; exact WN_ext H.1.1 H.1.2.1 (fun _ _ => rfl) (fun _ _ => rfl) (fun _ _ _ _ => rfl) c52) (by rw [kI]; omega) (by rw [c52 _ (by omega)]; exact hp'.2.2) (fun x hx => by
      rw [hN', df_ext H.1.2.1 (fun _ _ => rfl) (fun _ _ => rfl) (fun _ _ _ _ => rfl) c52 (fun v hv => by rw [kk 60 (by decide)]) hx, H.2.1.1 x hx]; exact zZ x hx)) (fun q7 e7 h7 => ?_)
    exact wp_some ⟨h7.1, h7.2.2.1⟩
  exact wp_eq key (fun q eq hq => ⟨hq.1, fr_x1_freedWith eq, hq.2⟩)
/-- what was ahead lies aside -/
theorem ts_begin {s : MS} (h : TE s) : wp (m_x1_begin s) (fun o => TE o ∧ F_x1_begin s o ∧ BC s o 54 63 1060 1240) := by
  obtain ⟨hR, H, hE⟩ := h
  have key : wp (m_x1_begin s) (fun o => Rg o ∧ BC s o 54 63 1060 1240) := by
    unfold m_x1_begin
    refine wp_bn (b_v2 hR) (fun s2 e2 h2 => ?_)
    refine wp_stn (fun s3 e3 => wp_some ⟨e3 ▸ Rg.uL h2.1 (by show R8 0; decide), BC_fr h2.2.2 (fun k _ _ => q_La e3) ⟨q_Li e3, q_Li e3⟩⟩)
  refine wp_eq key (fun o eo ho => ?_)
  have F : F_x1_begin s o := fr_x1_begin eo
  exact ⟨⟨ho.1, TS_eq H (F.2.1 54 (by decide)) (F.2.1 55 (by decide)) (F.2.1 56 (by decide)) (F.2.1 57 (by decide)) (F.2.1 58 (by decide)) (F.2.1 59 (by decide)) (F.2.1 60 (by decide)) (F.2.1 61 (by decide)) (F.1 1060 (by decide)) (F.1 581 (by decide)), by rw [F.1 581 (by decide)]; exact hE⟩, F, ho.2⟩
theorem ts_rehearse {p0 p1 : Int} {s : MS} (h : TE s) (hp : 0 ≤ p0 ∧ p0 < 8) (hv : gA s 60 p0.toNat ≠ -2) (h1 : 0 ≤ p1 ∧ p1 ≤ 999) : wp (m_x1_rehearse p0 p1 s) (fun q => Rg q.2 ∧ F_x1_rehearse s q.2 ∧ (q.1 = 0 ∨ q.1 = 1) ∧ BC s q.2 54 63 1060 1240) := by
  have key : wp (m_x1_rehearse p0 p1 s) (fun q => Rg q.2 ∧ (q.1 = 0 ∨ q.1 = 1) ∧ BC s q.2 54 63 1060 1240) := by
    unfold m_x1_rehearse m_x1_rehearse_J29
    refine wp_bn (ts_begin h) (fun s10 e10 h10 => ?_)
    obtain ⟨⟨hR, H, hE⟩, F, B⟩ := h10
    have k60 : gA s10 60 = gA s 60 := F.2.1 60 (by decide)
    have rt := TS_root hR H (v := p0.toNat) (by omega)
    refine wp_rdIn (by omega) (fun y11 e11 => ?_)
    rw [e11] at rt
    refine wp_bn (w_x8_valueAt hR (TS_CL H) rt.2 (by omega) (by omega)) (fun r13 e13 h13 => ?_)
    have go : ∀ z : Int, (0 ≤ z ∧ z ≤ 999) → wp (bn (m_x1_plant p0 p1 z s10) (fun qr7 => bo qr7.1 (some (qr7.1, qr7.2)))) (fun q => Rg q.2 ∧ (q.1 = 0 ∨ q.1 = 1) ∧ BC s q.2 54 63 1060 1240) := fun z hz => by
      refine wp_bn (ts_plant hR H hE hp (by rw [k60]; exact hv) h1 hz) (fun q7 e7 h7 => ?_)
      obtain ⟨r, o⟩ := q7
      dsimp only at h7 ⊢
      obtain ⟨hRo, Fo, h7⟩ := h7
      have hr : r = 0 ∨ r = 1 := by
        rcases h7 with h7 | ⟨h7, _⟩
        · exact Or.inl h7
        · exact Or.inr h7
      exact wp_bo hr (wp_some ⟨hRo, hr, BC_fr B (fun k h1 h2 => Fo.2.1 k (by simp; omega)) ⟨Fo.1 1240 (by decide), Fo.1 1241 (by decide)⟩⟩)
    exact wp_rg (by omega) (wp_if (fun _ => go 1 (by omega)) (fun _ => go 0 (by omega)))
  exact wp_eq key (fun q eq hq => ⟨hq.1, fr_x1_rehearse eq, hq.2⟩)
theorem ts_wouldWrite {p0 p1 : Int} {s : MS} (h : TE s) (hp : 0 ≤ p0 ∧ p0 < 8) (hv : gA s 60 p0.toNat ≠ -2) (h1 : 0 ≤ p1 ∧ p1 ≤ 999) : wp (m_x1_wouldWrite p0 p1 s) (fun q => TE q.2 ∧ F_x1_wouldWrite s q.2 ∧ ((-1) ≤ q.1 ∧ q.1 ≤ 48) ∧ BC s q.2 54 54 1060 1060) := by
  obtain ⟨hR, H, hE⟩ := h
  have key : wp (m_x1_wouldWrite p0 p1 s) (fun q => Rg q.2 ∧ ((-1) ≤ q.1 ∧ q.1 ≤ 48) ∧ BC s q.2 54 54 1060 1060) := by
    unfold m_x1_wouldWrite m_x1_wouldWrite_J19
    refine wp_bn (ts_rehearse ⟨hR, H, hE⟩ hp hv h1) (fun q7 e7 h7 => ?_)
    obtain ⟨r, o⟩ := q7
    dsimp only at h7 ⊢
    obtain ⟨hRo, Fo, hr, B⟩ := h7
    have J : ∀ z : Int, ((-1) ≤ z ∧ z ≤ 48) → wp (bn (m_x8_become o) (fun s4 => some (z, s4))) (fun q => Rg q.2 ∧ ((-1) ≤ q.1 ∧ q.1 ≤ 48) ∧ BC s q.2 54 54 1060 1060) := fun z hz => by
      refine wp_bn (b_v1 hRo) (fun s4 e4 h4 => wp_some ⟨h4.1, hz, BC_tr B h4.2.2⟩)
    refine wp_rg (by omega) (wp_if (fun _ => J (-1) (by omega)) (fun _ => ?_))
    exact wp_bn (w_x1_wrote hRo) (fun r11 e11 h11 => J r11 (by omega))
  refine wp_eq key (fun q eq hq => ?_)
  have F : F_x1_wouldWrite s q.2 := fr_x1_wouldWrite eq
  exact ⟨⟨hq.1, TS_bc H hq.2.2 (F.1 581 (by decide)), by rw [F.1 581 (by decide)]; exact hE⟩, F, hq.2⟩
theorem ts_wouldCost {p0 p1 : Int} {s : MS} (h : TE s) (hp : 0 ≤ p0 ∧ p0 < 8) (hv : gA s 60 p0.toNat ≠ -2) (h1 : 0 ≤ p1 ∧ p1 ≤ 999) : wp (m_x1_wouldCost p0 p1 s) (fun q => TE q.2 ∧ F_x1_wouldCost s q.2 ∧ BC s q.2 54 54 1060 1060) := by
  obtain ⟨hR, H, hE⟩ := h
  have key : wp (m_x1_wouldCost p0 p1 s) (fun q => Rg q.2 ∧ BC s q.2 54 54 1060 1060) := by
    unfold m_x1_wouldCost m_x1_wouldCost_J19
    refine wp_bn (ts_rehearse ⟨hR, H, hE⟩ hp hv h1) (fun q7 e7 h7 => ?_)
    obtain ⟨r, o⟩ := q7
    dsimp only at h7 ⊢
    obtain ⟨hRo, Fo, hr, B⟩ := h7
    have J : ∀ (z : Int) (S : MS), Rg S → BC s S 54 63 1060 1240 → wp (bn (m_x8_become S) (fun s4 => some (z, s4))) (fun q => Rg q.2 ∧ BC s q.2 54 54 1060 1060) := fun z S hRS B => by
      refine wp_bn (b_v1 hRS) (fun s4 e4 h4 => wp_some ⟨h4.1, BC_tr B h4.2.2⟩)
    refine wp_rg (by omega) (wp_if (fun _ => J (-1) o hRo B) (fun _ => ?_))
    refine wp_bn (w_x1_price hRo) (fun q12 e12 h12 => ?_)
    obtain ⟨z, S⟩ := q12
    dsimp only at h12 ⊢
    have F12 : F_x1_price o S := fr_x1_price e12
    exact J z S h12.1 (BC_fr B (fun k h1 h2 => F12.2.1 k (by simp; omega)) ⟨F12.1 1240 (by decide), F12.1 1241 (by decide)⟩)
  refine wp_eq key (fun q eq hq => ?_)
  have F : F_x1_wouldCost s q.2 := fr_x1_wouldCost eq
  exact ⟨⟨hq.1, TS_bc H hq.2 (F.1 581 (by decide)), by rw [F.1 581 (by decide)]; exact hE⟩, F, hq.2⟩
theorem ts_save {s : MS} (h : TE s) : wp (m_x8_save s) (fun o => TE o ∧ F_x8_save s o) := by
  obtain ⟨hR, H, hE⟩ := h
  refine wp_eq (w_x8_save hR) (fun o eo ho => ?_)
  have F : F_x8_save s o := fr_x8_save eo
  have T := TG_save H (fun x hx => rfl) ho.2.1 ho.2.2
  exact ⟨⟨ho.1, TS_mk T (hN_eq (F.2.1 56 (by decide)) (F.2.1 57 (by decide)) (F.2.1 59 (by decide))) (kN_eq (F.2.1 58 (by decide))) (F.1 1060 (by decide)) (F.1 581 (by decide)) (F.2.1 54 (by decide)) rfl (F.2.1 60 (by decide)) rfl, by rw [F.1 581 (by decide)]; exact hE⟩, F⟩
theorem ts_fallBack {s : MS} (h : TE s) : wp (m_x8_fallBack s) (fun o => TE o ∧ F_x8_fallBack s o) := by
  obtain ⟨hR, H, hE⟩ := h
  refine wp_eq (w_x8_fallBack hR) (fun o eo ho => ?_)
  have F : F_x8_fallBack s o := fr_x8_fallBack eo
  have T := TG_back H ho.2.1 ho.2.2
  exact ⟨⟨ho.1, TS_mk T (hN_eq (F.2.1 56 (by decide)) (F.2.1 57 (by decide)) (F.2.1 59 (by decide))) (kN_eq (F.2.1 58 (by decide))) (F.1 1060 (by decide)) (F.1 581 (by decide)) rfl (F.2.1 55 (by decide)) rfl (F.2.1 61 (by decide)), by rw [F.1 581 (by decide)]; exact hE⟩, F⟩
