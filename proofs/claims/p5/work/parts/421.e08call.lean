/-- every row within its words -/
def nfS (s : MS) : MS := (s.1, s.2.1, fun k j => (i2 (s.2.2.1 k j)).toInt, s.2.2.2)
/-! ===== the other calls of the class ===== -/
theorem CI_VR {s : MS} {ts : List MS} (h : CI s ts) : VR s := ⟨TS_CL h.2.1, fun v hv => (TS_root h.1 h.2.1 hv).2⟩
theorem c_feed {p0 p1 p2 p3 p4 : Int} {s : MS} {ts : List MS} (h : CI s ts) (h0 : R2 p0) (h1 : R2 p1) (h2 : R2 p2) (h3 : R2 p3) (h4 : R2 p4) : wp (m_x11_feed p0 p1 p2 p3 p4 s) (fun q => CI q.2 ts ∧ ((q.1 = -1 ∧ gI q.2 61 = gI s 61 ∧ 1580 < gI s 61) ∨ (q.1 = gI s 61 + 20 ∧ gI q.2 61 = gI s 61 + 20 ∧ gI s 61 ≤ 1580))) := by
  refine wp_eq (w_x11_feed h.1) (fun q eq hq => ?_)
  have F : F_x11_feed s q.2 := fr_x11_feed eq
  exact ⟨CI_keep h hq.1 (fun k h1 h2 => F.2.1 k (by simp; omega)) ⟨F.1 1060 (by simp), F.1 581 (by simp), F.1 12 (by simp), F.1 145 (by simp)⟩, hq.2⟩
theorem c_end {p0 : Int} {s : MS} {ts : List MS} (h : CI s ts) (h0 : R2 p0) : wp (m_x11_end p0 s) (fun q => CI q.2 ts ∧ ((q.1 = 0 ∧ gI q.2 61 = gI s 61 ∧ (p0 < 0 ∨ gI s 61 < p0)) ∨ (q.1 = 1 ∧ gI q.2 61 = p0 ∧ 0 ≤ p0 ∧ p0 ≤ gI s 61))) := by
  refine wp_eq (w_x11_end h.1 h0) (fun q eq hq => ?_)
  have F : F_x11_end s q.2 := fr_x11_end eq
  exact ⟨CI_keep h hq.1 (fun k h1 h2 => F.2.1 k (by simp; omega)) ⟨F.1 1060 (by simp), F.1 581 (by simp), F.1 12 (by simp), F.1 145 (by simp)⟩, hq.2⟩
theorem c_key {p0 p1 : Int} {s : MS} {ts : List MS} (h : CI s ts) (h0 : R2 p0) (h1 : R2 p1) : wp (m_x11_key p0 p1 s) (fun q => CI q.2 ts ∧ gI q.2 61 = gI s 61) := by
  refine wp_eq (w_x11_key h.1 (TS_US h.2.1) (fun v hv => (TS_root h.1 h.2.1 hv).1) h0 h1) (fun q eq hq => ?_)
  have F : F_x11_key s q.2 := fr_x11_key eq
  exact ⟨CI_keep h hq (fun k h1 h2 => F.2.1 k (by simp; omega)) ⟨F.1 1060 (by simp), F.1 581 (by simp), F.1 12 (by simp), F.1 145 (by simp)⟩, F.1 61 (by simp)⟩
theorem c_total {p0 p1 p2 : Int} {s : MS} {ts : List MS} (h : CI s ts) (h0 : R2 p0) (h1 : R2 p1) (h2 : R2 p2) : wp (m_x11_total p0 p1 p2 s) (fun q => CI q.2 ts ∧ gI q.2 61 = gI s 61) := by
  refine wp_eq (w_x11_total h.1 (TS_US h.2.1) (fun v hv => (TS_root h.1 h.2.1 hv).1) h0 h1 h2) (fun q eq hq => ?_)
  have F : F_x11_total s q.2 := fr_x11_total eq
  exact ⟨CI_keep h hq (fun k h1 h2 => F.2.1 k (by simp; omega)) ⟨F.1 1060 (by simp), F.1 581 (by simp), F.1 12 (by simp), F.1 145 (by simp)⟩, F.1 61 (by simp)⟩
theorem c_shared {p0 p1 : Int} {s : MS} {ts : List MS} (h : CI s ts) (h0 : R2 p0) (h1 : R2 p1) : wp (m_x11_shared p0 p1 s) (fun q => CI q.2 ts ∧ gI q.2 61 = gI s 61) := by
  refine wp_eq (w_x11_shared h.1 (TS_US h.2.1) (fun v hv => (TS_root h.1 h.2.1 hv).1) h0 h1) (fun q eq hq => ?_)
  have F : F_x11_shared s q.2 := fr_x11_shared eq
  exact ⟨CI_keep h hq (fun k h1 h2 => F.2.1 k (by simp; omega)) ⟨F.1 1060 (by simp), F.1 581 (by simp), F.1 12 (by simp), F.1 145 (by simp)⟩, F.1 61 (by simp)⟩
theorem c_differs {p0 p1 p2 : Int} {s : MS} {ts : List MS} (h : CI s ts) (h0 : R2 p0) (h1 : R2 p1) (h2 : R2 p2) : wp (m_x11_differs p0 p1 p2 s) (fun q => CI q.2 ts ∧ gI q.2 61 = gI s 61) := by
  refine wp_eq (w_x11_differs h.1 (TS_US h.2.1) (fun v hv => (TS_root h.1 h.2.1 hv).1) h0 h1 h2) (fun q eq hq => ?_)
  have F : F_x11_differs s q.2 := fr_x11_differs eq
  exact ⟨CI_keep h hq (fun k h1 h2 => F.2.1 k (by simp; omega)) ⟨F.1 1060 (by simp), F.1 581 (by simp), F.1 12 (by simp), F.1 145 (by simp)⟩, F.1 61 (by simp)⟩
theorem c_lost {p0 : Int} {s : MS} {ts : List MS} (h : CI s ts) (h0 : R2 p0) : wp (m_x11_lost p0 s) (fun q => CI q.2 ts ∧ gI q.2 61 = gI s 61) := by
  refine wp_eq (w_x11_lost h.1 (TS_US h.2.1) (fun v hv => (TS_root h.1 h.2.1 hv).1) h0) (fun q eq hq => ?_)
  have F : F_x11_lost s q.2 := fr_x11_lost eq
  exact ⟨CI_keep h hq (fun k h1 h2 => F.2.1 k (by simp; omega)) ⟨F.1 1060 (by simp), F.1 581 (by simp), F.1 12 (by simp), F.1 145 (by simp)⟩, F.1 61 (by simp)⟩
theorem c_worst {p0 : Int} {s : MS} {ts : List MS} (h : CI s ts) (h0 : R2 p0) : wp (m_x11_worst p0 s) (fun q => CI q.2 ts ∧ gI q.2 61 = gI s 61) := by
  refine wp_eq (w_x11_worst h.1 (TS_US h.2.1) (fun v hv => (TS_root h.1 h.2.1 hv).1) h0) (fun q eq hq => ?_)
  have F : F_x11_worst s q.2 := fr_x11_worst eq
  exact ⟨CI_keep h hq (fun k h1 h2 => F.2.1 k (by simp; omega)) ⟨F.1 1060 (by simp), F.1 581 (by simp), F.1 12 (by simp), F.1 145 (by simp)⟩, F.1 61 (by simp)⟩
theorem c_back {p0 : Int} {s : MS} {ts : List MS} (h : CI s ts) (h0 : R2 p0) : wp (m_x11_back p0 s) (fun q => CI q.2 ts ∧ gI q.2 61 = gI s 61) := by
  refine wp_eq (w_x11_back h.1 (TS_US h.2.1) (fun v hv => (TS_root h.1 h.2.1 hv).1) (fun v hv => (TS_sroot h.1 h.2.1 hv).1) h0) (fun q eq hq => ?_)
  have F : F_x11_back s q.2 := fr_x11_back eq
  exact ⟨CI_keep h hq (fun k h1 h2 => F.2.1 k (by simp; omega)) ⟨F.1 1060 (by simp), F.1 581 (by simp), F.1 12 (by simp), F.1 145 (by simp)⟩, F.1 61 (by simp)⟩
theorem c_see {s : MS} {ts : List MS} (h : CI s ts) : wp (m_x11_see s) (fun q => CI q.2 ts ∧ gI q.2 61 = 0) := by
  refine wp_eq (w_x11_see h.1) (fun q eq hq => ?_)
  have F : F_x11_see s q.2 := fr_x11_see eq
  exact ⟨CI_keep h hq.1 (fun k h1 h2 => F.2.1 k (by simp; omega)) ⟨F.1 1060 (by simp), F.1 581 (by simp), F.1 12 (by simp), F.1 145 (by simp)⟩, hq.2⟩
theorem c_fits {p0 : Int} {s : MS} {ts : List MS} (h : CI s ts) (h0 : R2 p0) : wp (m_x11_fits p0 s) (fun q => CI q.2 ts ∧ gI q.2 61 = gI s 61) := by
  refine wp_eq (w_x11_fits h.1 (CI_VR h) h0) (fun q eq hq => ?_)
  have F : F_x11_fits s q.2 := fr_x11_fits eq
  exact ⟨CI_keep h hq (fun k h1 h2 => F.2.1 k (by simp; omega)) ⟨F.1 1060 (by simp), F.1 581 (by simp), F.1 12 (by simp), F.1 145 (by simp)⟩, F.1 61 (by simp)⟩
theorem c_tells {p0 : Int} {s : MS} {ts : List MS} (h : CI s ts) (h0 : R2 p0) : wp (m_x11_tells p0 s) (fun q => CI q.2 ts ∧ gI q.2 61 = gI s 61) := by
  refine wp_eq (w_x11_tells h.1 (CI_VR h) h0) (fun q eq hq => ?_)
  have F : F_x11_tells s q.2 := fr_x11_tells eq
  exact ⟨CI_keep h hq (fun k h1 h2 => F.2.1 k (by simp; omega)) ⟨F.1 1060 (by simp), F.1 581 (by simp), F.1 12 (by simp), F.1 145 (by simp)⟩, F.1 61 (by simp)⟩
theorem c_seed {p0 : Int} {s : MS} {ts : List MS} (h : CI s ts) (h0 : R2 p0) : wp (m_x11_seed p0 s) (fun q => CI q.2 ts ∧ gI q.2 61 = gI s 61) := by
  refine wp_eq (w_x11_seed h.1 h0) (fun q eq hq => ?_)
  have F : F_x11_seed s q.2 := fr_x11_seed eq
  exact ⟨CI_keep h hq (fun k h1 h2 => F.2.1 k (by simp; omega)) ⟨F.1 1060 (by simp), F.1 581 (by simp), F.1 12 (by simp), F.1 145 (by simp)⟩, F.1 61 (by simp)⟩
theorem c_ask {s : MS} {ts : List MS} (h : CI s ts) : wp (m_x11_ask s) (fun q => CI q.2 ts ∧ gI q.2 61 = 0) := by
  refine wp_eq (w_x11_ask h.1) (fun q eq hq => ?_)
  have F : F_x11_ask s q.2 := fr_x11_ask eq
  exact ⟨CI_keep h hq.1 (fun k h1 h2 => F.2.1 k (by simp; omega)) ⟨F.1 1060 (by simp), F.1 581 (by simp), F.1 12 (by simp), F.1 145 (by simp)⟩, hq.2⟩
theorem c_image {s : MS} {ts : List MS} (h : CI s ts) : wp (m_x11_image s) (fun q => CI q.2 ts ∧ gI q.2 61 = gI s 61) := by
  refine wp_eq (w_x11_image h.1 (TS_US h.2.1)) (fun q eq hq => ?_)
  have F : F_x11_image s q.2 := fr_x11_image eq
  exact ⟨CI_keep h hq (fun k h1 h2 => F.2.1 k (by simp; omega)) ⟨F.1 1060 (by simp), F.1 581 (by simp), F.1 12 (by simp), F.1 145 (by simp)⟩, F.1 61 (by simp)⟩
theorem c_volume {p0 p1 : Int} {s : MS} {ts : List MS} (h : CI s ts) (h0 : R2 p0) (h1 : R2 p1) : wp (m_x11_volume p0 p1 s) (fun q => CI q.2 ts ∧ gI q.2 61 = gI s 61) := by
  have key : wp (m_x11_volume p0 p1 s) (fun q => Rg q.2) := by
    unfold m_x11_volume m_x11_volume_J93
    refine wp_bn (w_x8_isVolume h.1 h0) (fun r4 e4 h4 => wp_rg (by omega) (wp_if (fun _ => wp_some h.1) (fun c1 => ?_)))
    have rt := TS_root h.1 h.2.1 (v := p0.toNat) (by omega)
    refine wp_rdIn (by omega) (fun y7 e7 => ?_)
    rw [e7] at rt h4
    refine wp_rg h1 (wp_if (fun _ => wp_some h.1) (fun _ => wp_if (fun _ => ?_) (fun _ => wp_if (fun _ => ?_) (fun _ => wp_if (fun _ => ?_) (fun _ => wp_if (fun _ => ?_) (fun _ => wp_some h.1))))))
    · exact wp_bn (w_x10_gather h.1 (TS_US h.2.1) rt.1) (fun q _ hq => wp_some hq.1)
    · refine wp_rg (by omega) (wp_if (fun _ => wp_some h.1) (fun c2 => ?_))
      have rl := rt.2 (by omega)
      exact wp_rdIn (by omega) (fun y17 e17 => wp_some h.1)
    · refine wp_bn (w_x10_tree h.1 (TS_US h.2.1) rt.1) (fun q _ hq => ?_)
      exact wp_bn (w_j13_bitCount_95d88 hq.1) (fun r _ _ => wp_some hq.1)
    · refine wp_bn (ts_freed h.1 h.2.1 ?_) (fun q _ hq => wp_some hq.1)
      by_cases z : y7 = -1
      · exact Or.inl z
      · have rl := rt.2 (by omega)
        exact Or.inr ⟨by omega, rl.1, rl.2⟩
  refine wp_eq key (fun q eq hq => ?_)
  have F : F_x11_volume s q.2 := fr_x11_volume eq
  exact ⟨CI_keep h hq (fun k h1 h2 => F.2.1 k (by simp; omega)) ⟨F.1 1060 (by simp), F.1 581 (by simp), F.1 12 (by simp), F.1 145 (by simp)⟩, F.1 61 (by simp)⟩
theorem c_victim {p0 : Int} {s : MS} {ts : List MS} (h : CI s ts) (h0 : R2 p0) : wp (m_x11_victim p0 s) (fun q => CI q.2 ts ∧ gI q.2 61 = gI s 61) := by
  have key : wp (m_x11_victim p0 s) (fun q => Rg q.2) := by
    have L16 : ∀ (n : Nat) (a b i : Int) (S : MS), Rg S → TS S Z0 (-1) → ((-1) ≤ b ∧ b ≤ 48) → (0 ≤ i ∧ i ≤ 8) → 8 - i < (n : Int) → wp (m_x11_victim_L16 n p0 a b i S) (fun q => Rg q.2) := by
      refine fr_ind (fun a b i S hR T hb hi hm => by exfalso; omega) (fun n ih a b i S hR T hb hi hm => ?_)
      show wp (m_x11_victim_b16 (m_x11_victim_L16 n) p0 a b i S) _
      unfold m_x11_victim_b16 m_x11_victim_J50 m_x11_victim_J66
      refine wp_rg (by omega) (wp_if (fun _ => wp_bn (w_x11_oneOf hR h0) (fun r _ _ => wp_some hR)) (fun c1 => ?_))
      refine wp_bn (w_x8_isVolume hR (by omega)) (fun r25 e25 h25 => wp_rg (by omega) (wp_if (fun c2 => ?_) (fun c2 => ?_)))
      · refine wp_rg (by omega) (wp_rg (by omega) (wp_if (fun _ => ih a b (i + 1) S hR T hb (by omega) (by omega)) (fun _ => ih i (-1) (i + 1) S hR T (by omega) (by omega) (by omega))))
      · have rt := TS_root hR T (v := i.toNat) (by omega)
        refine wp_rdIn (by omega) (fun y28 e28 => ?_)
        rw [e28] at rt h25
        refine wp_bn (ts_freed hR T (by
          by_cases z : y28 = -1
          · exact Or.inl z
          · have rl := rt.2 (by omega)
            exact Or.inr ⟨by omega, rl.1, rl.2⟩)) (fun q31 e31 h31 => ?_)
        obtain ⟨r, o⟩ := q31
        dsimp only at h31 ⊢
        obtain ⟨hRo, Fo, hr⟩ := h31
        have To : TS o Z0 (-1) := TS_eq T (Fo.2.1 54 (by decide)) (Fo.2.1 55 (by decide)) (Fo.2.1 56 (by decide)) (Fo.2.1 57 (by decide)) (Fo.2.1 58 (by decide)) (Fo.2.1 59 (by decide)) (Fo.2.1 60 (by decide)) (Fo.2.1 61 (by decide)) (Fo.1 1060 (by simp)) (Fo.1 581 (by simp))
        exact wp_rg (by omega) (wp_rg (by omega) (wp_if (fun _ => ih a b (i + 1) o hRo To hb (by omega) (by omega)) (fun _ => ih i r (i + 1) o hRo To (by omega) (by omega) (by omega))))
    exact L16 FU (-1) (-1) 0 s h.1 h.2.1 (by omega) (by omega) (by have := FU_big; omega)
  refine wp_eq key (fun q eq hq => ?_)
  have F : F_x11_victim s q.2 := fr_x11_victim eq
  exact ⟨CI_keep h hq (fun k h1 h2 => F.2.1 k (by simp; omega)) ⟨F.1 1060 (by simp), F.1 581 (by simp), F.1 12 (by simp), F.1 145 (by simp)⟩, F.1 61 (by simp)⟩
/-! ===== a store is told ===== -/
theorem LO_sw (k : Nat) (h : k < 200) : LO (580 + k) = LO (780 + k) ∧ HI (580 + k) = HI (780 + k) := by
  have : ∀ k, k < 200 → LO (580 + k) = LO (780 + k) ∧ HI (580 + k) = HI (780 + k) := by decide +kernel
  exact this k h
theorem LOA_sw (k : Nat) (h : k < 10) : (LOA (29 + k) = LOA (39 + k) ∧ HIA (29 + k) = HIA (39 + k)) ∧ LNA (29 + k) = LNA (39 + k) := by
  have : ∀ k, k < 10 → (LOA (29 + k) = LOA (39 + k) ∧ HIA (29 + k) = HIA (39 + k)) ∧ LNA (29 + k) = LNA (39 + k) := by decide +kernel
  exact this k h
theorem gI_sw (s : MS) (k : Nat) : gI (swS s) k = if 580 ≤ k ∧ k ≤ 779 then gI s (k + 200) else if 780 ≤ k ∧ k ≤ 979 then gI s (k - 200) else gI s k := rfl
theorem gA_sw (s : MS) (k : Nat) : gA (swS s) k = if 29 ≤ k ∧ k ≤ 38 then gA s (k + 10) else if 39 ≤ k ∧ k ≤ 48 then gA s (k - 10) else gA s k := rfl
theorem Rg_sw {s : MS} (h : Rg s) : Rg (swS s) := by
  refine ⟨fun k => ?_, fun k j hj => ?_, h.2.2.1, h.2.2.2⟩
  · rw [gI_sw]
    by_cases e : 580 ≤ k ∧ k ≤ 779
    · rw [if_pos e]
      have := LO_sw (k - 580) (by omega)
      rw [show 580 + (k - 580) = k by omega, show 780 + (k - 580) = k + 200 by omega] at this
      rw [this.1, this.2]; exact h.1 _
    · rw [if_neg e]
      by_cases e2 : 780 ≤ k ∧ k ≤ 979
      · rw [if_pos e2]
        have := LO_sw (k - 780) (by omega)
        rw [show 580 + (k - 780) = k - 200 by omega, show 780 + (k - 780) = k by omega] at this
        rw [← this.1, ← this.2]; exact h.1 _
      · rw [if_neg e2]; exact h.1 _
  · rw [gA_sw]
    by_cases e : 29 ≤ k ∧ k ≤ 38
    · rw [if_pos e]
      have := LOA_sw (k - 29) (by omega)
      rw [show 29 + (k - 29) = k by omega, show 39 + (k - 29) = k + 10 by omega] at this
      rw [this.2] at hj
      rw [this.1.1, this.1.2]; exact h.2.1 _ j hj
    · rw [if_neg e]
      by_cases e2 : 39 ≤ k ∧ k ≤ 48
      · rw [if_pos e2]
        have := LOA_sw (k - 39) (by omega)
        rw [show 29 + (k - 39) = k - 10 by omega, show 39 + (k - 39) = k by omega] at this
        rw [← this.2] at hj
        rw [← this.1.1, ← this.1.2]; exact h.2.1 _ j hj
      · rw [if_neg e2]; exact h.2.1 _ j hj
theorem c_store {s : MS} {ts : List MS} (h : CI s ts) : wp (m_x11_store s) (fun q => CI q.2 ts ∧ gI q.2 61 = 0) := by
  unfold m_x11_store
  refine wp_bn (w_x6_readStore h.1) (fun q3 e3 h3 => ?_)
  obtain ⟨r, s3⟩ := q3
  dsimp only at h3 ⊢
  obtain ⟨hR3, hr, hP, h99⟩ := h3
  have F3 : F_x6_readStore s s3 := fr_x6_readStore e3
  refine wp_stn (fun s4 e4 => ?_)
  have hR4 : Rg s4 := e4 ▸ Rg.uI hR3 (by show (0 : Int) ≤ 0 ∧ (0 : Int) ≤ 1600; omega)
  have kA4 : ∀ k, gA s4 k = gA s3 k := fun k => q_Ia e4
  have kI4 : ∀ k, k ≠ 61 → gI s4 k = gI s3 k := fun k hk => q_Ii e4 hk
  have g61 : gI s4 61 = 0 := q_II e4
  refine wp_rg (by omega) (wp_if (fun c1 => ?_) (fun c1 => ?_))
  · have C4 : CI s4 ts := CI_keep h hR4 (fun k h1 h2 => (kA4 k).trans (F3.2.1 k (by simp; omega))) ⟨(kI4 _ (by decide)).trans (F3.1 1060 (by decide)), (kI4 _ (by decide)).trans (F3.1 581 (by decide)), (kI4 _ (by decide)).trans (F3.1 12 (by decide)), (kI4 _ (by decide)).trans (F3.1 145 (by decide))⟩
    exact wp_bn (c_refuse C4 (by omega)) (fun q _ hq => wp_some ⟨hq.1, hq.2.1.trans g61⟩)
  · have hg : gI s3 100 = 0 ∧ gI s3 783 ≠ 0 ∧ 8 ≤ gI s3 780 ∧ 3 ≤ gI s3 781 := by omega
    have hPV := hP (by omega)
    refine wp_eqg (by rw [kI4 _ (by decide)]; exact h99) (wp_stn (fun s8 e8 => ?_))
    have hR8 : Rg s8 := e8 ▸ Rg.uI (Rg_sw hR4) (by show (0 : Int) ≤ 1 ∧ (1 : Int) ≤ 2; omega)
    have kI8 : ∀ k, k ≠ 9999 → gI s8 k = gI (swS s4) k := fun k hk => q_Ii e8 hk
    have kA8 : ∀ k, gA s8 k = gA (swS s4) k := fun k => q_Ia e8
    have a31 : ∀ k, 29 ≤ k → k ≤ 38 → gA s8 k = gA s3 (k + 10) := fun k h1 h2 => by rw [kA8, gA_sw, if_pos ⟨h1, h2⟩, kA4]
    have i58 : ∀ k, 580 ≤ k → k ≤ 779 → gI s8 k = gI s3 (k + 200) := fun k h1 h2 => by rw [kI8 k (by omega), gI_sw, if_pos ⟨h1, h2⟩, kI4 _ (by omega)]
    have i0 : ∀ k, k < 580 → k ≠ 61 → gI s8 k = gI s3 k := fun k h1 h2 => by rw [kI8 k (by omega), gI_sw, if_neg (by omega), if_neg (by omega), kI4 _ h2]
    refine wp_bn (ts_build hR8 (by rw [i58 581 (by decide) (by decide)]; exact hg.2.2.2) (by
      rw [a31 31 (by decide) (by decide), a31 32 (by decide) (by decide), a31 33 (by decide) (by decide), a31 34 (by decide) (by decide), i58 585 (by decide) (by decide), i58 584 (by decide) (by decide)]
      exact hPV)) (fun s10 e10 h10 => ?_)
    obtain ⟨T10, F10⟩ := h10
    refine wp_bn (w_x2_clear T10.1) (fun s12 e12 h12 => ?_)
    have F12 : F_x2_clear s10 s12 := fr_x2_clear e12
    refine wp_stn (fun s13 e13 => wp_stn (fun s14 e14 => ?_))
    have hR13 : Rg s13 := e13 ▸ Rg.uI h12.1 (by show (0 : Int) ≤ 0 ∧ (0 : Int) ≤ 12; omega)
    have hR14 : Rg s14 := e14 ▸ Rg.uI hR13 (by show (0 : Int) ≤ 1 ∧ (1 : Int) ≤ 1; omega)
    have kI : ∀ k, k ≠ 12 → k ≠ 220 → gI s14 k = gI s12 k := fun k h1 h2 => (q_Ii e14 h1).trans (q_Ii e13 h2)
    have kA : ∀ k, gA s14 k = gA s10 k := fun k => (q_Ia e14).trans ((q_Ia e13).trans (F12.2.1 k (by simp)))
    have k581 : gI s14 581 = gI s10 581 := (kI 581 (by decide) (by decide)).trans (F12.1 581 (by decide))
    have d0 : gI s14 145 = 0 := (kI 145 (by decide) (by decide)).trans h12.2.2
    refine wp_some ⟨⟨hR14, ?_, Or.inr ⟨q_II e14, by rw [k581]; exact T10.2.2⟩, ?_⟩, ?_⟩
    · exact TS_eq T10.2.1 (kA 54) (kA 55) (kA 56) (kA 57) (kA 58) (kA 59) (kA 60) (kA 61) ((kI 1060 (by decide) (by decide)).trans (F12.1 1060 (by decide))) k581
    · show Hs (gI s14 145) ts (gI s14 581)
      rw [d0]
      have hh := h.2.2.2
      exact ⟨⟨Int.le_refl 0, by omega, hh.1.2.2⟩, hh.2.1, fun i t _ hid => by omega⟩
    · show gI s14 61 = 0
      rw [kI 61 (by decide) (by decide), F12.1 61 (by decide), F10.1 61 (by decide), kI8 61 (by decide), gI_sw, if_neg (by omega), if_neg (by omega)]
      exact g61
/-! ===== the class, new ===== -/
theorem nf_R2 (s : MS) (k j : Nat) : R2 (gA (nfS s) k j) := ⟨Int32.le_toInt _, Int.le_of_lt_add_one (Int32.toInt_lt _)⟩
theorem CI_start (fw fb1 fe1 fb2 fe2 : Nat → Int) : CI (nfS (cw0 fw fb1 fe1 fb2 fe2)) [] := by
  have hI : ∀ k, gI (nfS (cw0 fw fb1 fe1 fb2 fe2)) k = if k = 101 then -1 else if k = 983 then 1 else 0 := fun k => rfl
  have hA : ∀ k, k ≠ 6 → k ≠ 35 → k ≠ 36 → k ≠ 45 → k ≠ 46 → ∀ j, gA (nfS (cw0 fw fb1 fe1 fb2 fe2)) k j = if k = 60 ∨ k = 61 ∨ k = 69 ∨ k = 70 ∨ k = 78 ∨ k = 79 then -2 else 0 := fun k h1 h2 h3 h4 h5 j => by
    show (i2 ((if k = 6 then fw else if k = 35 then fb1 else if k = 36 then fe1 else if k = 45 then fb2 else if k = 46 then fe2 else if k = 60 ∨ k = 61 ∨ k = 69 ∨ k = 70 ∨ k = 78 ∨ k = 79 then fun _ => (-2) else fun _ => 0) j)).toInt = _
    rw [if_neg h1, if_neg h2, if_neg h3, if_neg h4, if_neg h5]
    by_cases e : k = 60 ∨ k = 61 ∨ k = 69 ∨ k = 70 ∨ k = 78 ∨ k = 79
    · rw [if_pos e, if_pos e]; decide
    · rw [if_neg e, if_neg e]; decide
  have hR : Rg (nfS (cw0 fw fb1 fe1 fb2 fe2)) := by
    refine ⟨fun k => ?_, fun k j hj => ?_, fun k => by show R8 0; decide, fun k j => by show R8 0; decide⟩
    · rw [hI]
      by_cases e : k = 101
      · rw [if_pos e, e]; show (-2147483648 : Int) ≤ -1 ∧ (-1 : Int) ≤ 2147483647; omega
      · rw [if_neg e]
        by_cases e2 : k = 983
        · rw [if_pos e2, e2]; show (0 : Int) ≤ 1 ∧ (1 : Int) ≤ 2147483647; omega
        · rw [if_neg e2]; exact ⟨LO_0 k, HI_0 k⟩
    · by_cases e : k = 6 ∨ k = 35 ∨ k = 36 ∨ k = 45 ∨ k = 46
      · have := nf_R2 (cw0 fw fb1 fe1 fb2 fe2) k j
        have e1 : LOA k = -2147483648 ∧ HIA k = 2147483647 := by rcases e with e | e | e | e | e <;> (subst e; decide)
        rw [e1.1, e1.2]; exact this
      · rw [hA k (by omega) (by omega) (by omega) (by omega) (by omega)]
        by_cases e2 : k = 60 ∨ k = 61 ∨ k = 69 ∨ k = 70 ∨ k = 78 ∨ k = 79
        · rw [if_pos e2]
          rcases e2 with e2 | e2 | e2 | e2 | e2 | e2 <;> (subst e2; show (-2 : Int) ≤ -2 ∧ (-2 : Int) ≤ 253; omega)
        · rw [if_neg e2]; exact ⟨LOA_0 k, HIA_0 k⟩
  have z : ∀ k, (k = 54 ∨ k = 55 ∨ k = 57) → ∀ j, gA (nfS (cw0 fw fb1 fe1 fb2 fe2)) k j = 0 := fun k hk j => by rw [hA k (by omega) (by omega) (by omega) (by omega) (by omega), if_neg (by omega)]
  have m : ∀ k, (k = 60 ∨ k = 61) → ∀ j, gA (nfS (cw0 fw fb1 fe1 fb2 fe2)) k j = -2 := fun k hk j => by rw [hA k (by omega) (by omega) (by omega) (by omega) (by omega), if_pos (by omega)]
  refine ⟨hR, ?_, Or.inl ⟨rfl, rfl, fun v hv => m 60 (Or.inl rfl) v⟩, ?_⟩
  · exact TG_zero (by show (0 : Int) ≤ 48; omega) (by show (0 : Int) ≤ 0; omega) (fun p hp => ⟨z 54 (by omega) p, z 55 (by omega) p, z 57 (by omega) p⟩) (fun v hv => ⟨by rw [m 60 (by omega)]; omega, by rw [m 61 (by omega)]; omega⟩)
  · exact ⟨⟨Int.le_refl 0, Int.le_refl 0, by decide⟩, fun t ht => absurd ht (List.not_mem_nil), fun i t hi hid => by
      have : (i : Int) < 0 := hid
      omega⟩
