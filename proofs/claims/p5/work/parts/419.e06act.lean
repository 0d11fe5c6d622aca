/-! ===== what can be undone ===== -/
def RB (t : MS) : Prop := (∀ k, 1240 ≤ k → k < 1260 → LO k ≤ gI t k ∧ gI t k ≤ HI k) ∧ (∀ k j, 62 ≤ k → k ≤ 70 → j < LNA k → LOA k ≤ gA t k j ∧ gA t k j ≤ HIA k) ∧ (∀ k, 1240 ≤ k → k < 1260 → R8 (gL t k))
theorem Rg_RB {s : MS} (h : Rg s) : RB s := ⟨fun k _ _ => h.1 k, fun k j _ _ hj => h.2.1 k j hj, fun k _ _ => h.2.2.1 k⟩
theorem gI_setB (s t : MS) (k : Nat) : gI (setB s t) k = if 1240 ≤ k ∧ k < 1260 then gI t k else gI s k := rfl
theorem gL_setB (s t : MS) (k : Nat) : gL (setB s t) k = if 1240 ≤ k ∧ k < 1260 then gL t k else gL s k := rfl
theorem gA_setB (s t : MS) (k : Nat) : gA (setB s t) k = if 62 ≤ k ∧ k ≤ 70 then gA t k else gA s k := rfl
theorem gB_setB (s t : MS) (k : Nat) : gB (setB s t) k = gB s k := rfl
theorem setB_I {s t : MS} {k : Nat} (h : ¬ (1240 ≤ k ∧ k < 1260)) : gI (setB s t) k = gI s k := by rw [gI_setB, if_neg h]
theorem setB_A {s t : MS} {k : Nat} (h : ¬ (62 ≤ k ∧ k ≤ 70)) : gA (setB s t) k = gA s k := by rw [gA_setB, if_neg h]
theorem Rg_setB {s t : MS} (h : Rg s) (ht : RB t) : Rg (setB s t) := by
  refine ⟨fun k => ?_, fun k j hj => ?_, fun k => ?_, fun k j => ?_⟩
  · rw [gI_setB]
    by_cases e : 1240 ≤ k ∧ k < 1260
    · rw [if_pos e]; exact ht.1 k e.1 e.2
    · rw [if_neg e]; exact h.1 k
  · rw [gA_setB]
    by_cases e : 62 ≤ k ∧ k ≤ 70
    · rw [if_pos e]; exact ht.2.1 k j e.1 e.2 hj
    · rw [if_neg e]; exact h.2.1 k j hj
  · rw [gL_setB]
    by_cases e : 1240 ≤ k ∧ k < 1260
    · rw [if_pos e]; exact ht.2.2 k e.1 e.2
    · rw [if_neg e]; exact h.2.2.1 k
  · rw [gB_setB]; exact h.2.2.2 k j
theorem LO_0 (k : Nat) : LO k ≤ 0 := by
  unfold LO
  repeat' split
  all_goals omega
theorem HI_0 (k : Nat) : 0 ≤ HI k := by
  unfold HI
  repeat' split
  all_goals omega
theorem LOA_0 (k : Nat) : LOA k ≤ 0 := by
  unfold LOA
  repeat' split
  all_goals omega
theorem HIA_0 (k : Nat) : 0 ≤ HIA k := by
  unfold HIA
  repeat' split
  all_goals omega
theorem RB_st0 : RB st0 := by
  refine ⟨fun k _ _ => ⟨LO_0 k, HI_0 k⟩, fun k j h1 h2 hj => ?_, fun k _ _ => by show R8 0; decide⟩
  by_cases e : k = 69 ∨ k = 70
  · have : gA st0 k j = -2 := by show (if k = 69 ∨ k = 70 then fun _ => (-2 : Int) else fun _ => 0) j = -2; rw [if_pos e]
    rw [this]
    rcases e with e | e <;> (subst e; show (-2 : Int) ≤ -2 ∧ (-2 : Int) ≤ 253; omega)
  · have : gA st0 k j = 0 := by show (if k = 69 ∨ k = 70 then fun _ => (-2 : Int) else fun _ => 0) j = 0; rw [if_neg e]
    rw [this]
    exact ⟨LOA_0 k, HIA_0 k⟩
/-- what lies ahead of an act is a state of trees -/
def TB (s : MS) (E : Int) : Prop := TG (gA s 65, gA s 66, fun p k => gA s 68 (6 * p + k)) (fun p k => gA s 67 (6 * p + k)) (gI s 1240) E (gA s 63) (gA s 64) (gA s 69) (gA s 70) Z0 (-1)
theorem TB_of {s o : MS} (H : TS s Z0 (-1)) (h : BC s o 54 63 1060 1240) : TB o (gI s 581) := by
  have T := TG_ext (h' := (gA o 65, gA o 66, fun p k => gA o 68 (6 * p + k))) (ky' := fun p k => gA o 67 (6 * p + k)) (c' := gA o 63) (sv' := gA o 64) (r' := gA o 69) (rs' := gA o 70) H (fun p hp => (h.1 p hp).2.2.1) (fun p hp => (h.1 p hp).2.2.2) (fun p hp k hk => ⟨(h.2.1 (6 * p + k) (by omega)).2, (h.2.1 (6 * p + k) (by omega)).1⟩) (fun p hp => (h.1 p hp).1) (fun p hp => (h.1 p hp).2.1) (fun v hv => (h.2.2.1 v hv).1) (fun v hv => (h.2.2.1 v hv).2)
  have e : gI o 1240 = gI s 1060 := h.2.2.2.1
  unfold TB
  rw [e]; exact T
theorem TB_back {s o : MS} {E : Int} (H : TB s E) (h : BC s o 63 54 1240 1060) (he : gI o 581 = E) : TS o Z0 (-1) := by
  have T := TG_ext (h' := hN o) (ky' := kN o) (c' := gA o 54) (sv' := gA o 55) (r' := gA o 60) (rs' := gA o 61) H (fun p hp => (h.1 p hp).2.2.1) (fun p hp => (h.1 p hp).2.2.2) (fun p hp k hk => ⟨(h.2.1 (6 * p + k) (by omega)).2, (h.2.1 (6 * p + k) (by omega)).1⟩) (fun p hp => (h.1 p hp).1) (fun p hp => (h.1 p hp).2.1) (fun v hv => (h.2.2.1 v hv).1) (fun v hv => (h.2.2.1 v hv).2)
  exact TS_mk T rfl rfl h.2.2.2.1 he rfl rfl rfl rfl
theorem TB_eq {s o : MS} {E : Int} (H : TB s E) (hA : ∀ k, 63 ≤ k → k ≤ 70 → gA o k = gA s k) (hI : gI o 1240 = gI s 1240) : TB o E := by
  unfold TB at H ⊢
  rw [hA 63 (by decide) (by decide), hA 64 (by decide) (by decide), hA 65 (by decide) (by decide), hA 66 (by decide) (by decide), hA 67 (by decide) (by decide), hA 68 (by decide) (by decide), hA 69 (by decide) (by decide), hA 70 (by decide) (by decide), hI]
  exact H
def Hs (d : Int) (ts : List MS) (E : Int) : Prop := (0 ≤ d ∧ d ≤ (ts.length : Int) ∧ ts.length ≤ 20) ∧ (∀ t ∈ ts, RB t) ∧ (∀ (i : Nat) (t : MS), ts[i]? = some t → (i : Int) < d → TB t E)
/-- the rows that a call of the history leaves -/
def NowK (s o : MS) : Prop := (∀ k, ¬ (62 ≤ k ∧ k ≤ 70) → gA o k = gA s k) ∧ (∀ k, ¬ (1240 ≤ k ∧ k < 1260) → k ≠ 145 → k ≠ 143 → gI o k = gI s k)
set_option maxHeartbeats 1000000 in
theorem w_remember {s : MS} {ts : List MS} {E : Int} (hR : Rg s) (hB : TB s E) (hH : Hs (gI s 145) ts E) : wp (m_remember s ts) (fun w => Rg w.1 ∧ NowK s w.1 ∧ Hs (gI w.1 145) w.2 E) := by
  obtain ⟨⟨d0, d1, d2⟩, hRB, hTB⟩ := hH
  unfold m_remember
  refine wp_rg (by omega) (wp_if (fun c1 => ?_) (fun c1 => ?_))
  · have hl : ts.length = 20 := by omega
    rw [if_pos hl]
    obtain ⟨t0, tl, rfl⟩ : ∃ t0 tl, ts = t0 :: tl := by
      cases ts with
      | nil => exact absurd hl (by decide)
      | cons a b => exact ⟨a, b, rfl⟩
    refine wp_some ⟨Rg_setB hR (hRB t0 (List.mem_cons_self ..)), ⟨fun k hk => setB_A hk, fun k hk _ _ => setB_I hk⟩, ?_⟩
    show Hs (gI (setB s t0) 145) (tl ++ [s]) E
    rw [show gI (setB s t0) 145 = gI s 145 from setB_I (by omega)]
    have hl2 : tl.length = 19 := by
      have : (t0 :: tl).length = tl.length + 1 := rfl
      omega
    refine ⟨⟨d0, ?_, ?_⟩, fun t ht => ?_, fun i t hi hid => ?_⟩
    · rw [List.length_append]; show gI s 145 ≤ ((tl.length + 1 : Nat) : Int); omega
    · rw [List.length_append]; show tl.length + 1 ≤ 20; omega
    · rcases List.mem_append.mp ht with h | h
      · exact hRB t (List.mem_cons_of_mem _ h)
      · rw [List.mem_singleton.mp h]; exact Rg_RB hR
    · by_cases e : i < tl.length
      · rw [List.getElem?_append_left e] at hi
        exact hTB (i + 1) t hi (by omega)
      · rw [List.getElem?_append_right (by omega)] at hi
        have : i - tl.length = 0 := by omega
        rw [this] at hi
        have : s = t := by simpa using hi
        rw [← this]; exact hB
  · refine wp_inb (by omega) (wp_stn (fun s1 e1 => ?_))
    have hR1 : Rg s1 := e1 ▸ Rg.uI hR (by show (0 : Int) ≤ gI s 145 + 1 ∧ gI s 145 + 1 ≤ 20; omega)
    have g145 : gI s1 145 = gI s 145 + 1 := q_II e1
    have kA : ∀ k, gA s1 k = gA s k := fun k => q_Ia e1
    have kI : ∀ k, k ≠ 145 → gI s1 k = gI s k := fun k h => q_Ii e1 h
    have hB1 : TB s1 E := TB_eq hB (fun k _ _ => kA k) (kI _ (by decide))
    have nk : ∀ t : MS, NowK s (setB s1 t) := fun t => ⟨fun k hk => (setB_A hk).trans (kA k), fun k hk h5 _ => (setB_I hk).trans (kI k h5)⟩
    have d145 : ∀ t : MS, gI (setB s1 t) 145 = gI s 145 + 1 := fun t => (setB_I (by omega)).trans g145
    refine wp_if (fun c2 => ?_) (fun c2 => wp_if (fun c3 => ?_) (fun c3 => by exfalso; omega))
    · have hm : ts.getD (gI s 145).toNat s ∈ ts := by
        rw [List.getD_eq_getElem?_getD, List.getElem?_eq_getElem c2]
        exact List.getElem_mem c2
      refine wp_some ⟨Rg_setB hR1 (hRB _ hm), nk _, ?_⟩
      show Hs (gI (setB s1 _) 145) (ts.set (gI s 145).toNat s1) E
      rw [d145]
      refine ⟨⟨by omega, ?_, ?_⟩, fun t ht => ?_, fun i t hi hid => ?_⟩
      · rw [List.length_set]; omega
      · rw [List.length_set]; omega
      · rcases List.mem_or_eq_of_mem_set ht with h | h
        · exact hRB t h
        · rw [h]; exact Rg_RB hR1
      · by_cases e : i = (gI s 145).toNat
        · rw [e, List.getElem?_set_self c2] at hi
          have : s1 = t := by simpa using hi
          rw [← this]; exact hB1
        · rw [List.getElem?_set_ne (fun q => e q.symm)] at hi
          exact hTB i t hi (by omega)
    · refine wp_some ⟨Rg_setB hR1 RB_st0, nk _, ?_⟩
      show Hs (gI (setB s1 st0) 145) (ts ++ [s1]) E
      rw [d145]
      refine ⟨⟨by omega, ?_, ?_⟩, fun t ht => ?_, fun i t hi hid => ?_⟩
      · rw [List.length_append]; show gI s 145 + 1 ≤ ((ts.length + 1 : Nat) : Int); omega
      · rw [List.length_append]; show ts.length + 1 ≤ 20; omega
      · rcases List.mem_append.mp ht with h | h
        · exact hRB t h
        · rw [List.mem_singleton.mp h]; exact Rg_RB hR1
      · by_cases e : i < ts.length
        · rw [List.getElem?_append_left e] at hi
          exact hTB i t hi (by omega)
        · rw [List.getElem?_append_right (by omega)] at hi
          have : i - ts.length = 0 := by omega
          rw [this] at hi
          have : s1 = t := by simpa using hi
          rw [← this]; exact hB1
/-! ===== what holds of the class between calls ===== -/
def CI (s : MS) (ts : List MS) : Prop := Rg s ∧ TS s Z0 (-1) ∧ ((gI s 12 = 0 ∧ gI s 145 = 0 ∧ ∀ v, v < 8 → gA s 60 v = -2) ∨ (gI s 12 = 1 ∧ 3 ≤ gI s 581)) ∧ Hs (gI s 145) ts (gI s 581)
theorem CI_TE {s : MS} {ts : List MS} (h : CI s ts) (ht : gI s 12 ≠ 0) : TE s := ⟨h.1, h.2.1, by rcases h.2.2.1 with q | q; exact absurd q.1 ht; exact q.2⟩
theorem CI_told {s : MS} {ts : List MS} (h : CI s ts) {v : Nat} (hv : v < 8) (hr : gA s 60 v ≠ -2) : gI s 12 ≠ 0 := fun q => by
  rcases h.2.2.1 with w | w
  · exact hr (w.2.2 v hv)
  · omega
theorem CI_keep {s o : MS} {ts : List MS} (h : CI s ts) (hR : Rg o) (hA : ∀ k, 54 ≤ k → k ≤ 61 → gA o k = gA s k) (hI : gI o 1060 = gI s 1060 ∧ gI o 581 = gI s 581 ∧ gI o 12 = gI s 12 ∧ gI o 145 = gI s 145) : CI o ts := by
  refine ⟨hR, TS_eq h.2.1 (hA 54 (by decide) (by decide)) (hA 55 (by decide) (by decide)) (hA 56 (by decide) (by decide)) (hA 57 (by decide) (by decide)) (hA 58 (by decide) (by decide)) (hA 59 (by decide) (by decide)) (hA 60 (by decide) (by decide)) (hA 61 (by decide) (by decide)) hI.1 hI.2.1, ?_, ?_⟩
  · rw [hI.2.2.1, hI.2.2.2, hI.2.1, hA 60 (by decide) (by decide)]; exact h.2.2.1
  · rw [hI.2.2.2, hI.2.1]; exact h.2.2.2
theorem w_finish {p0 p1 : Int} {s : MS} {ts : List MS} (h : TE s) (h12 : gI s 12 = 1) (hB : TB s (gI s 581)) (hH : Hs (gI s 145) ts (gI s 581)) (h0 : R2 p0) (h1 : R2 p1) : wp (m_finish p0 p1 s ts) (fun w => CI w.2.1 w.2.2 ∧ gI w.2.1 61 = gI s 61) := by
  unfold m_finish
  refine wp_bn (w_x1_settle h.1) (fun q eq hq => ?_)
  obtain ⟨n, s1⟩ := q
  dsimp only at hq ⊢
  have F1 : F_x1_settle s s1 := fr_x1_settle eq
  refine wp_bn (w_x2_keep hq.1 h0 h1 (by omega)) (fun s2 e2 h2 => ?_)
  have F2 : F_x2_keep s1 s2 := fr_x2_keep e2
  have kA : ∀ k, 54 ≤ k → k ≤ 70 → gA s2 k = gA s k := fun k h1 h2 => (F2.2.1 k (by simp; omega)).trans (F1.2.1 k (by simp; omega))
  have k581 : gI s2 581 = gI s 581 := (F2.1 581 (by decide)).trans (F1.1 581 (by decide))
  have k145 : gI s2 145 = gI s 145 := (F2.1 145 (by decide)).trans (F1.1 145 (by decide))
  have k1060 : gI s2 1060 = gI s 1060 := (F2.1 1060 (by decide)).trans (F1.1 1060 (by decide))
  have k12 : gI s2 12 = gI s 12 := (F2.1 12 (by decide)).trans (F1.1 12 (by decide))
  have k61 : gI s2 61 = gI s 61 := (F2.1 61 (by decide)).trans (F1.1 61 (by decide))
  have hB2 : TB s2 (gI s 581) := TB_eq hB (fun k h1 h2 => kA k (by omega) h2) ((F2.1 1240 (by decide)).trans (F1.1 1240 (by decide)))
  refine wp_bn (w_remember h2.1 hB2 (by rw [k145]; exact hH)) (fun w ew hw => ?_)
  obtain ⟨hR3, K3, H3⟩ := hw
  have j581 : gI w.1 581 = gI s 581 := (K3.2 581 (by omega) (by decide) (by decide)).trans k581
  refine wp_some ⟨⟨hR3, ?_, Or.inr ⟨?_, by rw [j581]; exact h.2.2⟩, by rw [j581]; exact H3⟩, (K3.2 61 (by omega) (by decide) (by decide)).trans k61⟩
  · have z : ∀ k, 54 ≤ k → k ≤ 61 → gA w.1 k = gA s k := fun k h1 h2 => (K3.1 k (by omega)).trans (kA k h1 (by omega))
    exact TS_eq h.2.1 (z 54 (by decide) (by decide)) (z 55 (by decide) (by decide)) (z 56 (by decide) (by decide)) (z 57 (by decide) (by decide)) (z 58 (by decide) (by decide)) (z 59 (by decide) (by decide)) (z 60 (by decide) (by decide)) (z 61 (by decide) (by decide)) ((K3.2 1060 (by omega) (by decide) (by decide)).trans k1060) j581
  · exact ((K3.2 12 (by omega) (by decide) (by decide)).trans k12).trans h12
