/-! ===== calls of the class keep what holds ===== -/
theorem CI_of {s o : MS} {ts : List MS} (h : CI s ts) (ht : gI s 12 ≠ 0) (T : TE o) (hI : gI o 12 = gI s 12 ∧ gI o 145 = gI s 145 ∧ gI o 581 = gI s 581) : CI o ts := by
  refine ⟨T.1, T.2.1, Or.inr ⟨?_, T.2.2⟩, ?_⟩
  · rw [hI.1]
    rcases h.2.2.1 with q | q
    · exact absurd q.1 ht
    · exact q.1
  · rw [hI.2.1, hI.2.2]; exact h.2.2.2
theorem CI_12 {s : MS} {ts : List MS} (h : CI s ts) (ht : gI s 12 ≠ 0) : gI s 12 = 1 := by
  rcases h.2.2.1 with q | q
  · exact absurd q.1 ht
  · exact q.1
theorem c_refuse {p0 : Int} {s : MS} {ts : List MS} (h : CI s ts) (hp : 0 ≤ p0 ∧ p0 < 6) : wp (m_x11_refuse p0 s) (fun q => CI q.2 ts ∧ gI q.2 61 = gI s 61 ∧ q.1 = -1) := by
  refine wp_eq (w_x11_refuse h.1 hp) (fun q eq hq => ?_)
  have F : F_x11_refuse s q.2 := fr_x11_refuse eq
  exact ⟨CI_keep h hq.1 (fun k h1 h2 => F.2.1 k (by simp; omega)) ⟨F.1 1060 (by simp), F.1 581 (by simp), F.1 12 (by simp), F.1 145 (by simp)⟩, F.1 61 (by simp), hq.2⟩
theorem c_put {p0 p1 p2 : Int} {s : MS} {ts : List MS} (h : CI s ts) (h0 : R2 p0) (h1 : R2 p1) (h2 : R2 p2) : wp (m_x11_put ts p0 p1 p2 s) (fun q => CI q.2.1 q.2.2 ∧ gI q.2.1 61 = gI s 61) := by
  have RF : wp (bn (m_x11_refuse 2 s) (fun qr4 => some (qr4.1, qr4.2, ts))) (fun q => CI q.2.1 q.2.2 ∧ gI q.2.1 61 = gI s 61) := wp_bn (c_refuse h (by omega)) (fun q _ hq => wp_some ⟨hq.1, hq.2.1⟩)
  unfold m_x11_put m_x11_put_J28
  refine wp_bn (w_x8_isVolume h.1 h0) (fun r6 e6 h6 => wp_rg (by omega) (wp_if (fun _ => RF) (fun c1 => ?_)))
  refine wp_bn (w_x11_isKey h.1 h1) (fun r10 e10 h10 => wp_rg (by omega) (wp_if (fun _ => RF) (fun c2 => ?_)))
  refine wp_bn (w_x11_isKey h.1 h2) (fun r14 e14 h14 => wp_rg (by omega) (wp_if (fun _ => RF) (fun c3 => ?_)))
  have hv : gA s 60 p0.toNat ≠ -2 := by omega
  have ht := CI_told h (v := p0.toNat) (by omega) hv
  refine wp_bn (ts_begin (CI_TE h ht)) (fun s18 e18 h18 => ?_)
  obtain ⟨T18, F18, B18⟩ := h18
  have hB : TB s18 (gI s 581) := TB_of h.2.1 B18
  refine wp_bn (ts_tryPlant T18 (by omega) (by rw [F18.2.1 60 (by decide)]; exact hv) (by omega) (by omega)) (fun q21 e21 h21 => ?_)
  obtain ⟨r, o⟩ := q21
  dsimp only at h21 ⊢
  obtain ⟨To, Fo, hr, Ko⟩ := h21
  have k12 : gI o 12 = gI s 12 := (Fo.1 12 (by decide)).trans (F18.1 12 (by decide))
  have k145 : gI o 145 = gI s 145 := (Fo.1 145 (by decide)).trans (F18.1 145 (by decide))
  have k581 : gI o 581 = gI s 581 := (Fo.1 581 (by decide)).trans (F18.1 581 (by decide))
  have k61 : gI o 61 = gI s 61 := (Fo.1 61 (by decide)).trans (F18.1 61 (by decide))
  refine wp_rg (by omega) (wp_if (fun _ => ?_) (fun _ => ?_))
  · exact wp_bn (c_refuse (CI_of h ht To ⟨k12, k145, k581⟩) (by omega)) (fun q _ hq => wp_some ⟨hq.1, hq.2.1.trans k61⟩)
  · refine wp_bn (w_finish (ts := ts) To (k12.trans (CI_12 h ht)) (by rw [k581]; exact TB_eq hB (fun k h1 h2 => Fo.2.1 k (by simp; omega)) (Fo.1 1240 (by decide))) (by rw [k145, k581]; exact h.2.2.2) (by omega) h0) (fun q _ hq => wp_some ⟨hq.1, hq.2.trans k61⟩)
theorem c_remove {p0 p1 : Int} {s : MS} {ts : List MS} (h : CI s ts) (h0 : R2 p0) (h1 : R2 p1) : wp (m_x11_remove ts p0 p1 s) (fun q => CI q.2.1 q.2.2 ∧ gI q.2.1 61 = gI s 61) := by
  unfold m_x11_remove
  refine wp_bn (w_x8_isVolume h.1 h0) (fun r6 e6 h6 => wp_rg (by omega) (wp_if (fun _ => wp_bn (c_refuse h (by omega)) (fun q _ hq => wp_some ⟨hq.1, hq.2.1⟩)) (fun c1 => ?_)))
  have hv : gA s 60 p0.toNat ≠ -2 := by omega
  have ht := CI_told h (v := p0.toNat) (by omega) hv
  refine wp_bn (ts_begin (CI_TE h ht)) (fun s18 e18 h18 => ?_)
  obtain ⟨T18, F18, B18⟩ := h18
  have hB : TB s18 (gI s 581) := TB_of h.2.1 B18
  refine wp_bn (ts_tryUproot T18 (by omega) (by rw [F18.2.1 60 (by decide)]; exact hv) h1) (fun q21 e21 h21 => ?_)
  obtain ⟨r, o⟩ := q21
  dsimp only at h21 ⊢
  obtain ⟨To, Fo, hr, Ko⟩ := h21
  have k12 : gI o 12 = gI s 12 := (Fo.1 12 (by decide)).trans (F18.1 12 (by decide))
  have k145 : gI o 145 = gI s 145 := (Fo.1 145 (by decide)).trans (F18.1 145 (by decide))
  have k581 : gI o 581 = gI s 581 := (Fo.1 581 (by decide)).trans (F18.1 581 (by decide))
  have k61 : gI o 61 = gI s 61 := (Fo.1 61 (by decide)).trans (F18.1 61 (by decide))
  refine wp_rg (by omega) (wp_if (fun _ => ?_) (fun _ => ?_))
  · exact wp_bn (c_refuse (CI_of h ht To ⟨k12, k145, k581⟩) (by omega)) (fun q _ hq => wp_some ⟨hq.1, hq.2.1.trans k61⟩)
  · refine wp_bn (w_finish (ts := ts) To (k12.trans (CI_12 h ht)) (by rw [k581]; exact TB_eq hB (fun k h1 h2 => Fo.2.1 k (by simp; omega)) (Fo.1 1240 (by decide))) (by rw [k145, k581]; exact h.2.2.2) (by omega) h0) (fun q _ hq => wp_some ⟨hq.1, hq.2.trans k61⟩)
theorem c_copy {p0 : Int} {s : MS} {ts : List MS} (h : CI s ts) (h0 : R2 p0) : wp (m_x11_copy ts p0 s) (fun q => CI q.2.1 q.2.2 ∧ gI q.2.1 61 = gI s 61) := by
  have RF : wp (bn (m_x11_refuse 2 s) (fun qr4 => some (qr4.1, qr4.2, ts))) (fun q => CI q.2.1 q.2.2 ∧ gI q.2.1 61 = gI s 61) := wp_bn (c_refuse h (by omega)) (fun q _ hq => wp_some ⟨hq.1, hq.2.1⟩)
  unfold m_x11_copy m_x11_copy_J30
  refine wp_bn (w_x8_freeNumber h.1) (fun r6 e6 h6 => ?_)
  refine wp_bn (w_x8_isVolume h.1 h0) (fun r8 e8 h8 => wp_rg (by omega) (wp_if (fun _ => RF) (fun c1 => wp_rg (by omega) (wp_if (fun _ => RF) (fun c2 => ?_)))))
  have hv : gA s 60 p0.toNat ≠ -2 := by omega
  have ht := CI_told h (v := p0.toNat) (by omega) hv
  refine wp_bn (ts_begin (CI_TE h ht)) (fun s18 e18 h18 => ?_)
  obtain ⟨T18, F18, B18⟩ := h18
  have hB : TB s18 (gI s 581) := TB_of h.2.1 B18
  have k60 : gA s18 60 = gA s 60 := F18.2.1 60 (by decide)
  refine wp_bn (ts_share T18 (by omega) (by omega) (by rw [k60]; exact hv) (by rw [k60]; omega)) (fun o eo ho => ?_)
  have Fo : F_x1_share s18 o := fr_x1_share eo
  have k12 : gI o 12 = gI s 12 := (Fo.1 12 (by simp)).trans (F18.1 12 (by decide))
  have k145 : gI o 145 = gI s 145 := (Fo.1 145 (by simp)).trans (F18.1 145 (by decide))
  have k581 : gI o 581 = gI s 581 := (Fo.1 581 (by simp)).trans (F18.1 581 (by decide))
  have k61 : gI o 61 = gI s 61 := (Fo.1 61 (by simp)).trans (F18.1 61 (by decide))
  exact wp_bn (w_finish (ts := ts) ho.1 (k12.trans (CI_12 h ht)) (by rw [k581]; exact TB_eq hB (fun k h1 h2 => Fo.2.1 k (by simp; omega)) (Fo.1 1240 (by simp))) (by rw [k145, k581]; exact h.2.2.2) (by omega) (by omega)) (fun q _ hq => wp_some ⟨hq.1, hq.2.trans k61⟩)
theorem c_drop {p0 : Int} {s : MS} {ts : List MS} (h : CI s ts) (h0 : R2 p0) : wp (m_x11_drop ts p0 s) (fun q => CI q.2.1 q.2.2 ∧ gI q.2.1 61 = gI s 61) := by
  unfold m_x11_drop
  refine wp_bn (w_x8_isVolume h.1 h0) (fun r6 e6 h6 => wp_rg (by omega) (wp_if (fun _ => wp_bn (c_refuse h (by omega)) (fun q _ hq => wp_some ⟨hq.1, hq.2.1⟩)) (fun c1 => ?_)))
  have hv : gA s 60 p0.toNat ≠ -2 := by omega
  have ht := CI_told h (v := p0.toNat) (by omega) hv
  refine wp_bn (ts_begin (CI_TE h ht)) (fun s18 e18 h18 => ?_)
  obtain ⟨T18, F18, B18⟩ := h18
  have hB : TB s18 (gI s 581) := TB_of h.2.1 B18
  have k60 : gA s18 60 = gA s 60 := F18.2.1 60 (by decide)
  refine wp_bn (w_x8_used T18.1) (fun r8 e8 h8 => ?_)
  refine wp_bn (ts_letGo T18 (by omega) (by rw [k60]; exact hv)) (fun o eo ho => ?_)
  have Fo : F_x1_letGo s18 o := fr_x1_letGo eo
  have k12 : gI o 12 = gI s 12 := (Fo.1 12 (by simp)).trans (F18.1 12 (by decide))
  have k145 : gI o 145 = gI s 145 := (Fo.1 145 (by simp)).trans (F18.1 145 (by decide))
  have k581 : gI o 581 = gI s 581 := (Fo.1 581 (by simp)).trans (F18.1 581 (by decide))
  have k61 : gI o 61 = gI s 61 := (Fo.1 61 (by simp)).trans (F18.1 61 (by decide))
  refine wp_bn (w_finish (ts := ts) ho (k12.trans (CI_12 h ht)) (by rw [k581]; exact TB_eq hB (fun k h1 h2 => Fo.2.1 k (by simp; omega)) (Fo.1 1240 (by simp))) (by rw [k145, k581]; exact h.2.2.2) (by omega) h0) (fun q _ hq => ?_)
  exact wp_bn (w_x8_used hq.1.1) (fun r _ _ => wp_some ⟨hq.1, hq.2.trans k61⟩)
theorem c_checkpoint {s : MS} {ts : List MS} (h : CI s ts) : wp (m_x11_checkpoint ts s) (fun q => CI q.2.1 q.2.2 ∧ gI q.2.1 61 = gI s 61) := by
  unfold m_x11_checkpoint
  have r12 := h.1.1 12
  have r12' : (0 : Int) ≤ gI s 12 ∧ gI s 12 ≤ 1 := r12
  refine wp_rg (by omega) (wp_if (fun _ => wp_bn (c_refuse h (by omega)) (fun q _ hq => wp_some ⟨hq.1, hq.2.1⟩)) (fun ht => ?_))
  refine wp_bn (ts_begin (CI_TE h ht)) (fun s18 e18 h18 => ?_)
  obtain ⟨T18, F18, B18⟩ := h18
  have hB : TB s18 (gI s 581) := TB_of h.2.1 B18
  refine wp_bn (w_x8_held T18.1) (fun r8 e8 h8 => ?_)
  refine wp_bn (ts_save T18) (fun o eo ho => ?_)
  obtain ⟨To, Fo⟩ := ho
  have k12 : gI o 12 = gI s 12 := (Fo.1 12 (by simp)).trans (F18.1 12 (by decide))
  have k145 : gI o 145 = gI s 145 := (Fo.1 145 (by simp)).trans (F18.1 145 (by decide))
  have k581 : gI o 581 = gI s 581 := (Fo.1 581 (by simp)).trans (F18.1 581 (by decide))
  have k61 : gI o 61 = gI s 61 := (Fo.1 61 (by simp)).trans (F18.1 61 (by decide))
  exact wp_bn (w_finish (ts := ts) To (k12.trans (CI_12 h ht)) (by rw [k581]; exact TB_eq hB (fun k h1 h2 => Fo.2.1 k (by simp; omega)) (Fo.1 1240 (by simp))) (by rw [k145, k581]; exact h.2.2.2) (by omega) (by omega)) (fun q _ hq => wp_some ⟨hq.1, hq.2.trans k61⟩)
theorem c_crash {s : MS} {ts : List MS} (h : CI s ts) : wp (m_x11_crash ts s) (fun q => CI q.2.1 q.2.2 ∧ gI q.2.1 61 = gI s 61) := by
  unfold m_x11_crash
  have r12 := h.1.1 12
  have r12' : (0 : Int) ≤ gI s 12 ∧ gI s 12 ≤ 1 := r12
  refine wp_rg (by omega) (wp_if (fun _ => wp_bn (c_refuse h (by omega)) (fun q _ hq => wp_some ⟨hq.1, hq.2.1⟩)) (fun ht => ?_))
  refine wp_bn (ts_begin (CI_TE h ht)) (fun s18 e18 h18 => ?_)
  obtain ⟨T18, F18, B18⟩ := h18
  have hB : TB s18 (gI s 581) := TB_of h.2.1 B18
  refine wp_bn (w_x8_freshBlocks T18.1) (fun r8 e8 h8 => ?_)
  refine wp_bn (ts_fallBack T18) (fun o eo ho => ?_)
  obtain ⟨To, Fo⟩ := ho
  have k12 : gI o 12 = gI s 12 := (Fo.1 12 (by simp)).trans (F18.1 12 (by decide))
  have k145 : gI o 145 = gI s 145 := (Fo.1 145 (by simp)).trans (F18.1 145 (by decide))
  have k581 : gI o 581 = gI s 581 := (Fo.1 581 (by simp)).trans (F18.1 581 (by decide))
  have k61 : gI o 61 = gI s 61 := (Fo.1 61 (by simp)).trans (F18.1 61 (by decide))
  exact wp_bn (w_finish (ts := ts) To (k12.trans (CI_12 h ht)) (by rw [k581]; exact TB_eq hB (fun k h1 h2 => Fo.2.1 k (by simp; omega)) (Fo.1 1240 (by simp))) (by rw [k145, k581]; exact h.2.2.2) (by omega) (by omega)) (fun q _ hq => wp_some ⟨hq.1, hq.2.trans k61⟩)
theorem c_chance {p0 : Int} {s : MS} {ts : List MS} (h : CI s ts) (h0 : R2 p0) : wp (m_x11_chance ts p0 s) (fun q => CI q.2.1 q.2.2 ∧ gI q.2.1 61 = gI s 61) := by
  have RF : wp (bn (m_x11_refuse 3 s) (fun qr4 => some (qr4.1, qr4.2, ts))) (fun q => CI q.2.1 q.2.2 ∧ gI q.2.1 61 = gI s 61) := wp_bn (c_refuse h (by omega)) (fun q _ hq => wp_some ⟨hq.1, hq.2.1⟩)
  have r12 := h.1.1 12
  have r12' : (0 : Int) ≤ gI s 12 ∧ gI s 12 ≤ 1 := r12
  unfold m_x11_chance m_x11_chance_J18
  refine wp_rg (by omega) (wp_if (fun _ => RF) (fun ht => wp_rg h0 (wp_if (fun _ => RF) (fun c1 => wp_rg h0 (wp_if (fun c2 => ?_) (fun _ => RF))))))
  have L35 : ∀ (n : Nat) (d i : Int) (S : MS), TE S → TB S (gI s 581) → (gI S 12 = gI s 12 ∧ gI S 145 = gI s 145 ∧ gI S 581 = gI s 581 ∧ gI S 61 = gI s 61) → (0 ≤ i ∧ i ≤ p0) → (p0 - i < (n : Int)) → wp (m_x11_chance_L35 ts n p0 d i S) (fun q => CI q.2.1 q.2.2 ∧ gI q.2.1 61 = gI s 61) := by
    refine fr_ind (fun d i S hS hB hI hi hm => by exfalso; omega) (fun n ih d i S hS hB hI hi hm => ?_)
    show wp (m_x11_chance_b35 ts (m_x11_chance_L35 ts n) p0 d i S) _
    unfold m_x11_chance_b35 m_x11_chance_J53
    obtain ⟨k12, k145, k581, k61⟩ := hI
    refine wp_rg (by omega) (wp_rg h0 (wp_if (fun c3 => ?_) (fun c3 => ?_)))
    · exact wp_bn (w_finish (ts := ts) hS (k12.trans (CI_12 h ht)) (by rw [k581]; exact hB) (by rw [k145, k581]; exact h.2.2.2) (by omega) (by omega)) (fun q _ hq => wp_some ⟨hq.1, hq.2.trans k61⟩)
    · refine wp_bn (ts_act hS) (fun q18 e18 h18 => ?_)
      obtain ⟨r, o⟩ := q18
      dsimp only at h18 ⊢
      obtain ⟨To, Fo, hr⟩ := h18
      have go : ∀ z : Int, wp (m_x11_chance_L35 ts n p0 z (i + 1) o) (fun q => CI q.2.1 q.2.2 ∧ gI q.2.1 61 = gI s 61) := fun z => ih z (i + 1) o To (TB_eq hB (fun k h1 h2 => Fo.2.1 k (by simp; omega)) (Fo.1 1240 (by decide))) ⟨(Fo.1 12 (by decide)).trans k12, (Fo.1 145 (by decide)).trans k145, (Fo.1 581 (by decide)).trans k581, (Fo.1 61 (by decide)).trans k61⟩ (by omega) (by omega)
      exact wp_rg (by omega) (wp_if (fun _ => go d) (fun _ => go (d + 1)))
  refine wp_bn (ts_begin (CI_TE h ht)) (fun s18 e18 h18 => ?_)
  obtain ⟨T18, F18, B18⟩ := h18
  exact L35 FU 0 0 s18 T18 (TB_of h.2.1 B18) ⟨F18.1 12 (by decide), F18.1 145 (by decide), F18.1 581 (by decide), F18.1 61 (by decide)⟩ (by omega) (by have := FU_big; omega)
theorem c_undo {s : MS} {ts : List MS} (h : CI s ts) : wp (m_x11_undo ts s) (fun q => CI q.2.1 q.2.2 ∧ gI q.2.1 61 = gI s 61) := by
  obtain ⟨hR, H, hT, ⟨⟨d0, d1, d2⟩, hRB, hTB⟩⟩ := id h
  have r143 := hR.1 143
  have r143' : (0 : Int) ≤ gI s 143 ∧ gI s 143 ≤ 60 := r143
  unfold m_x11_undo
  refine wp_rg (by omega) (wp_rg (by omega) (wp_if (fun _ => wp_bn (c_refuse h (by omega)) (fun q _ hq => wp_some ⟨hq.1, hq.2.1⟩)) (fun c1 => ?_)))
  refine wp_stn (fun s2 e2 => ?_)
  have hR2 : Rg s2 := e2 ▸ Rg.uI (Rg.uI hR (by show (0 : Int) ≤ gI s 145 - 1 ∧ gI s 145 - 1 ≤ 20; omega)) (by show (0 : Int) ≤ gI s 143 - 1 ∧ gI s 143 - 1 ≤ 60; omega)
  have g145 : gI s2 145 = gI s 145 - 1 := by rw [← e2]; rfl
  have kI : ∀ k, k ≠ 143 → k ≠ 145 → gI s2 k = gI s k := fun k h1 h2 => by
    rw [← e2, gI_sI, if_neg h1, gI_sI, if_neg h2]
  have kA : ∀ k, gA s2 k = gA s k := fun k => by rw [← e2]; rfl
  refine wp_inb (by omega) (wp_if (fun c2 => ?_) (fun c2 => by exfalso; omega))
  have hi : ts[(gI s2 145).toNat]? = some (ts.getD (gI s2 145).toNat s2) := by
    rw [List.getD_eq_getElem?_getD, List.getElem?_eq_getElem c2]; rfl
  have hm : ts.getD (gI s2 145).toNat s2 ∈ ts := List.mem_of_getElem? hi
  have hB := hTB _ _ hi (by omega)
  generalize ts.getD (gI s2 145).toNat s2 = t at hi hm hB ⊢
  have hRt : Rg (setB s2 t) := Rg_setB hR2 (hRB t hm)
  refine wp_bn (b_P hRt) (fun s3 e3 h3 => ?_)
  obtain ⟨hR3, F3, B3⟩ := h3
  have hBt : TB (setB s2 t) (gI s 581) := TB_eq hB (fun k h1 h2 => by rw [gA_setB, if_pos (by omega)]) (by rw [gI_setB, if_pos (by omega)])
  have k581 : gI s3 581 = gI s 581 := (F3.1 581 (by decide)).trans ((setB_I (by omega)).trans (kI 581 (by decide) (by decide)))
  have T3 : TS s3 Z0 (-1) := TB_back hBt B3 k581
  have k145 : gI (setB s3 s2) 145 = gI s 145 - 1 := (setB_I (by omega)).trans ((F3.1 145 (by decide)).trans ((setB_I (by omega)).trans g145))
  have j : ∀ k, ¬ (62 ≤ k ∧ k ≤ 70) → gA (setB s3 s2) k = gA s3 k := fun k hk => setB_A hk
  have j581 : gI (setB s3 s2) 581 = gI s 581 := (setB_I (by omega)).trans k581
  have told : gI s 12 = 1 ∧ 3 ≤ gI s 581 := by
    rcases hT with q | q
    · omega
    · exact q
  refine wp_some ⟨⟨Rg_setB hR3 (Rg_RB hR2), ?_, Or.inr ⟨?_, by show 3 ≤ gI (setB s3 s2) 581; rw [j581]; exact told.2⟩, ?_⟩, ?_⟩
  · exact TS_eq T3 (j 54 (by omega)) (j 55 (by omega)) (j 56 (by omega)) (j 57 (by omega)) (j 58 (by omega)) (j 59 (by omega)) (j 60 (by omega)) (j 61 (by omega)) (setB_I (by omega)) (setB_I (by omega))
  · show gI (setB s3 s2) 12 = 1
    rw [setB_I (by omega), F3.1 12 (by decide), setB_I (by omega), kI 12 (by decide) (by decide)]; exact told.1
  · show Hs (gI (setB s3 s2) 145) (ts.set (gI s2 145).toNat s3) (gI (setB s3 s2) 581)
    rw [k145, j581]
    refine ⟨⟨by omega, by rw [List.length_set]; omega, by rw [List.length_set]; exact d2⟩, fun u hu => ?_, fun i u hu hid => ?_⟩
    · rcases List.mem_or_eq_of_mem_set hu with q | q
      · exact hRB u q
      · rw [q]; exact Rg_RB hR3
    · rw [List.getElem?_set_ne (by omega)] at hu
      exact hTB i u hu (by omega)
  · show gI (setB s3 s2) 61 = gI s 61
    rw [setB_I (by omega), F3.1 61 (by decide), setB_I (by omega), kI 61 (by decide) (by decide)]
theorem c_writes {p0 p1 p2 : Int} {s : MS} {ts : List MS} (h : CI s ts) (h0 : R2 p0) (h1 : R2 p1) (h2 : R2 p2) : wp (m_x11_writes p0 p1 p2 s) (fun q => CI q.2 ts ∧ gI q.2 61 = gI s 61) := by
  unfold m_x11_writes m_x11_writes_J21 m_x11_writes_J55
  refine wp_bn (w_x8_isVolume h.1 h0) (fun r6 e6 h6 => wp_rg (by omega) (wp_if (fun _ => wp_some ⟨h, rfl⟩) (fun c1 => ?_)))
  refine wp_bn (w_x11_isKey h.1 h1) (fun r10 e10 h10 => wp_rg (by omega) (wp_if (fun _ => wp_some ⟨h, rfl⟩) (fun c2 => ?_)))
  have hv : gA s 60 p0.toNat ≠ -2 := by omega
  have ht := CI_told h (v := p0.toNat) (by omega) hv
  refine wp_rg h2 (wp_if (fun _ => ?_) (fun _ => wp_rg h2 (wp_if (fun _ => ?_) (fun _ => wp_some ⟨h, rfl⟩))))
  · refine wp_bn (ts_wouldWrite (CI_TE h ht) (by omega) hv (by omega)) (fun q _ hq => ?_)
    exact wp_some ⟨CI_of h ht hq.1 ⟨hq.2.1.1 12 (by decide), hq.2.1.1 145 (by decide), hq.2.1.1 581 (by decide)⟩, hq.2.1.1 61 (by decide)⟩
  · refine wp_bn (ts_wouldCost (CI_TE h ht) (by omega) hv (by omega)) (fun q _ hq => ?_)
    exact wp_some ⟨CI_of h ht hq.1 ⟨hq.2.1.1 12 (by decide), hq.2.1.1 145 (by decide), hq.2.1.1 581 (by decide)⟩, hq.2.1.1 61 (by decide)⟩
theorem c_spread {p0 p1 : Int} {s : MS} {ts : List MS} (h : CI s ts) (h0 : R2 p0) (h1 : R2 p1) : wp (m_x11_spread p0 p1 s) (fun q => CI q.2 ts ∧ gI q.2 61 = gI s 61) := by
  unfold m_x11_spread m_x11_spread_J19
  refine wp_bn (w_x8_isVolume h.1 h0) (fun r6 e6 h6 => wp_rg (by omega) (wp_if (fun _ => wp_some ⟨h, rfl⟩) (fun c1 => wp_rg h1 (wp_if (fun c2 => ?_) (fun _ => wp_some ⟨h, rfl⟩)))))
  have hv : gA s 60 p0.toNat ≠ -2 := by omega
  have ht := CI_told h (v := p0.toNat) (by omega) hv
  have L26 : ∀ (n : Nat) (f i : Int) (S : MS), TE S → gA S 60 p0.toNat ≠ -2 → (gI S 12 = gI s 12 ∧ gI S 145 = gI s 145 ∧ gI S 581 = gI s 581 ∧ gI S 61 = gI s 61) → (0 ≤ i ∧ i ≤ 100) → 100 - i < (n : Int) → wp (m_x11_spread_L26 n p0 p1 f i S) (fun q => CI q.2 ts ∧ gI q.2 61 = gI s 61) := by
    refine fr_ind (fun f i S hS hv hI hi hm => by exfalso; omega) (fun n ih f i S hS hv hI hi hm => ?_)
    show wp (m_x11_spread_b26 (m_x11_spread_L26 n) p0 p1 f i S) _
    unfold m_x11_spread_b26 m_x11_spread_J50
    obtain ⟨k12, k145, k581, k61⟩ := hI
    refine wp_rg (by omega) (wp_if (fun c3 => wp_some ⟨CI_of h ht hS ⟨k12, k145, k581⟩, k61⟩) (fun c3 => ?_))
    refine wp_bn (ts_wouldWrite hS (by omega) hv (by omega)) (fun q15 e15 h15 => ?_)
    obtain ⟨r, o⟩ := q15
    dsimp only at h15 ⊢
    obtain ⟨To, Fo, hr, Bo⟩ := h15
    have go : ∀ z : Int, wp (m_x11_spread_L26 n p0 p1 z (i + 1) o) (fun q => CI q.2 ts ∧ gI q.2 61 = gI s 61) := fun z => ih z (i + 1) o To (by rw [(Bo.2.2.1 p0.toNat (by omega)).1]; exact hv) ⟨(Fo.1 12 (by decide)).trans k12, (Fo.1 145 (by decide)).trans k145, (Fo.1 581 (by decide)).trans k581, (Fo.1 61 (by decide)).trans k61⟩ (by omega) (by omega)
    exact wp_rg (by omega) (wp_rg h1 (wp_if (fun _ => go (f + 1)) (fun _ => go f)))
  exact L26 FU 0 0 s (CI_TE h ht) hv ⟨rfl, rfl, rfl, rfl⟩ (by omega) (by have := FU_big; omega)
