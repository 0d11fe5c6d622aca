/-! ===== a statement behind the first, on both sides ===== -/
theorem y_stmt {Q : MS → Prop} {s s' t : MS} (h : SY s t) (h2 : gI t 2 = gI s 108) (hP : PLJ s t) (hb : gI s 941 ≤ gI s 108) (h785 : gI s 785 < 60) (h46 : gI t 46 = gI s 783) (hn : gI s 783 ≠ 0 ∧ gI s 783 < 60) (hQ : ∀ p X, m_x6_beginFormula p s = some X → 0 ≤ p ∧ p ≤ 2 → Q X) (hop : ∀ X o, Q X → (m_x6_readTestC X = some o ∨ m_x6_readSumC X = some o) → gI o 106 = gI X 106) (e : m_x6_readStatement s = some s') : pc (m_x12_statementTold t) (fun o => STD s s' o) := by
  obtain ⟨hd, hH, hS⟩ := s_stmt h.2.1.1 hn.1 s' e
  have VOL : ∀ (x p : Int) (T : MS), NX s T → PLJ s T → gI T 46 = gI t 46 → ((x = 2 ∧ p = 0) ∨ (x = 3 ∧ p = 1)) → hd = x → pc (bn (m_x12_volumeTold p (gI t 2) T) (fun s60 => m_x12_statementTold_J178 s60)) (fun o => STD s s' o) := fun x p T N P q46 hx ex => by
    obtain ⟨u, eu, e244⟩ := STC_vol hS (by omega)
    rw [ex] at eu
    rw [h2]
    refine pc_bn (fun o eo => ?_)
    have D := y_volume N P h785 hx eu o eo
    have F : F_x6_readVolume s u := fr_x6_readVolume eu
    have G : F_x12_volumeTold T o := fr_x12_volumeTold eo
    exact y_J244 (DONF_of D (F.1 941 (by decide)) hb) (F.1 783 (by decide)) ((G.1 46 (by decide)).trans (q46.trans h46)) e244
  have PUT : ∀ T : MS, NX s T → PLJ s T → gI T 46 = gI t 46 → hd = 5 → pc (bn (m_x12_putTold T) (fun s58 => m_x12_statementTold_J178 s58)) (fun o => STD s s' o) := fun T N P q46 ex => by
    obtain ⟨u, eu, e244⟩ := STC_chg hS (by omega)
    rw [ex] at eu
    refine pc_bn (fun o eo => ?_)
    have D := y_put N P h785 eu o eo
    have F : F_x6_readChange s u := fr_x6_readChange eu
    have G : F_x12_putTold T o := fr_x12_putTold eo
    exact y_J244 (DONF_of D (F.1 941 (by decide)) hb) (F.1 783 (by decide)) ((G.1 46 (by decide)).trans (q46.trans h46)) e244
  have REM : ∀ T : MS, NX s T → PLJ s T → gI T 46 = gI t 46 → hd = 6 → pc (bn (m_x12_removeTold T) (fun s56 => m_x12_statementTold_J178 s56)) (fun o => STD s s' o) := fun T N P q46 ex => by
    obtain ⟨u, eu, e244⟩ := STC_chg hS (by omega)
    rw [ex] at eu
    refine pc_bn (fun o eo => ?_)
    have D := y_remove N P h785 eu o eo
    have F : F_x6_readChange s u := fr_x6_readChange eu
    have G : F_x12_removeTold T o := fr_x12_removeTold eo
    exact y_J244 (DONF_of D (F.1 941 (by decide)) hb) (F.1 783 (by decide)) ((G.1 46 (by decide)).trans (q46.trans h46)) e244
  have FRM : ∀ (p : Int) (T : MS), NX s T → PLJ s T → gI T 46 = gI t 46 → (0 ≤ p ∧ p ≤ 2) → hd = p + 7 → pc (bn (m_x12_codesTold p (gI t 2) T) (fun s50 => m_x12_statementTold_J178 s50)) (fun o => STD s s' o) := fun p T N P q46 hp ex => by
    obtain ⟨s8, u, u2, e8, eu, e2, e244⟩ := STC_frm hS (by omega)
    rw [show hd - 7 = p by omega] at e8 eu e2
    rw [h2]
    refine pc_bn (fun o eo => ?_)
    have hq := hop s8 u (hQ p s8 e8 hp) (by
      rcases eu with q | q
      · exact Or.inl q.2
      · exact Or.inr q.2)
    have D := y_formula hp (by rcases hH with k | k <;> omega) N P hb e8 eu hq e2 o eo
    have F8 : F_x6_beginFormula s s8 := fr_x6_beginFormula e8
    have F : F_rg s8 u := by
      rcases eu with q | q
      · exact (frg2 8).2 s8 u q.2
      · exact (frg1 8).1 s8 u q.2
    have G : F_x12_codesTold T o := fr_x12_codesTold eo
    exact y_J244 D ((q_Ai e2).trans ((F.1 783 (by decide)).trans (F8.1 783 (by decide)))) ((G.1 46 (by decide)).trans (q46.trans h46)) e244
  unfold m_x12_statementTold
  refine pc_rg (pc_if (fun c => by exfalso; omega) (fun _ => ?_))
  refine pc_bq (tk_own (w := 2) h hP (by decide)) (fun q2 g2 => ?_)
  obtain ⟨r2, T2⟩ := q2
  obtain ⟨⟨P2, i2⟩, d2⟩ := g2
  dsimp only at P2 i2 d2 ⊢
  have j2 : gI T2 46 = gI t 46 := i2.trans rfl
  refine pc_rg (pc_if (fun c2 => ?_) (fun c2 => ?_))
  rotate_left
  · rcases d2 with ⟨_, a, b⟩ | ⟨a, _⟩
    · exact VOL 2 0 T2 b P2 j2 (Or.inl ⟨rfl, rfl⟩) (HDW_y hH a)
    · exact absurd a c2
  obtain ⟨n2, S2⟩ : hd ≠ 2 ∧ SY s T2 := by
    rcases d2 with ⟨a, _⟩ | ⟨_, a, b, _⟩
    · rw [a] at c2; cases c2
    · exact ⟨HDW_n hH a (by decide), b⟩
  refine pc_bq (tk_own (w := 3) S2 P2 (by decide)) (fun q3 g3 => ?_)
  obtain ⟨r3, T3⟩ := q3
  obtain ⟨⟨P3, i3⟩, d3⟩ := g3
  dsimp only at P3 i3 d3 ⊢
  have j3 : gI T3 46 = gI t 46 := i3.trans j2
  refine pc_rg (pc_if (fun c3 => ?_) (fun c3 => ?_))
  rotate_left
  · rcases d3 with ⟨_, a, b⟩ | ⟨a, _⟩
    · exact VOL 3 1 T3 b P3 j3 (Or.inr ⟨rfl, rfl⟩) (HDW_y hH a)
    · exact absurd a c3
  obtain ⟨n3, S3⟩ : hd ≠ 3 ∧ SY s T3 := by
    rcases d3 with ⟨a, _⟩ | ⟨_, a, b, _⟩
    · rw [a] at c3; cases c3
    · exact ⟨HDW_n hH a (by decide), b⟩
  refine pc_bq (tk_own (w := 5) S3 P3 (by decide)) (fun q5 g5 => ?_)
  obtain ⟨r5, T5⟩ := q5
  obtain ⟨⟨P5, i5⟩, d5⟩ := g5
  dsimp only at P5 i5 d5 ⊢
  have j5 : gI T5 46 = gI t 46 := i5.trans j3
  refine pc_rg (pc_if (fun c5 => ?_) (fun c5 => ?_))
  rotate_left
  · rcases d5 with ⟨_, a, b⟩ | ⟨a, _⟩
    · exact PUT T5 b P5 j5 (HDW_y hH a)
    · exact absurd a c5
  obtain ⟨n5, S5⟩ : hd ≠ 5 ∧ SY s T5 := by
    rcases d5 with ⟨a, _⟩ | ⟨_, a, b, _⟩
    · rw [a] at c5; cases c5
    · exact ⟨HDW_n hH a (by decide), b⟩
  refine pc_bq (tk_own (w := 6) S5 P5 (by decide)) (fun q6 g6 => ?_)
  obtain ⟨r6, T6⟩ := q6
  obtain ⟨⟨P6, i6⟩, d6⟩ := g6
  dsimp only at P6 i6 d6 ⊢
  have j6 : gI T6 46 = gI t 46 := i6.trans j5
  refine pc_rg (pc_if (fun c6 => ?_) (fun c6 => ?_))
  rotate_left
  · rcases d6 with ⟨_, a, b⟩ | ⟨a, _⟩
    · exact REM T6 b P6 j6 (HDW_y hH a)
    · exact absurd a c6
  obtain ⟨n6, S6⟩ : hd ≠ 6 ∧ SY s T6 := by
    rcases d6 with ⟨a, _⟩ | ⟨_, a, b, _⟩
    · rw [a] at c6; cases c6
    · exact ⟨HDW_n hH a (by decide), b⟩
  refine pc_bq (tk_own (w := 7) S6 P6 (by decide)) (fun q7 g7 => ?_)
  obtain ⟨r7, T7⟩ := q7
  obtain ⟨⟨P7, i7⟩, d7⟩ := g7
  dsimp only at P7 i7 d7 ⊢
  have j7 : gI T7 46 = gI t 46 := i7.trans j6
  refine pc_rg (pc_if (fun c7 => ?_) (fun c7 => ?_))
  rotate_left
  · rcases d7 with ⟨_, a, b⟩ | ⟨a, _⟩
    · exact FRM 0 T7 b P7 j7 (by decide) (HDW_y hH a)
    · exact absurd a c7
  obtain ⟨n7, S7⟩ : hd ≠ 7 ∧ SY s T7 := by
    rcases d7 with ⟨a, _⟩ | ⟨_, a, b, _⟩
    · rw [a] at c7; cases c7
    · exact ⟨HDW_n hH a (by decide), b⟩
  refine pc_bq (tk_own (w := 8) S7 P7 (by decide)) (fun q8 g8 => ?_)
  obtain ⟨r8, T8⟩ := q8
  obtain ⟨⟨P8, i8⟩, d8⟩ := g8
  dsimp only at P8 i8 d8 ⊢
  have j8 : gI T8 46 = gI t 46 := i8.trans j7
  refine pc_rg (pc_if (fun c8 => ?_) (fun c8 => ?_))
  rotate_left
  · rcases d8 with ⟨_, a, b⟩ | ⟨a, _⟩
    · exact FRM 1 T8 b P8 j8 (by decide) (HDW_y hH a)
    · exact absurd a c8
  obtain ⟨n8, S8⟩ : hd ≠ 8 ∧ SY s T8 := by
    rcases d8 with ⟨a, _⟩ | ⟨_, a, b, _⟩
    · rw [a] at c8; cases c8
    · exact ⟨HDW_n hH a (by decide), b⟩
  refine pc_bq (tk_own (w := 9) S8 P8 (by decide)) (fun q9 g9 => ?_)
  obtain ⟨r9, T9⟩ := q9
  obtain ⟨⟨P9, i9⟩, d9⟩ := g9
  dsimp only at P9 i9 d9 ⊢
  have j9 : gI T9 46 = gI t 46 := i9.trans j8
  refine pc_rg (pc_if (fun c9 => ?_) (fun c9 => ?_))
  rotate_left
  · rcases d9 with ⟨_, a, b⟩ | ⟨a, _⟩
    · exact FRM 2 T9 b P9 j9 (by decide) (HDW_y hH a)
    · exact absurd a c9
  obtain ⟨n9, S9⟩ : hd ≠ 9 ∧ SY s T9 := by
    rcases d9 with ⟨a, _⟩ | ⟨_, a, b, _⟩
    · rw [a] at c9; cases c9
    · exact ⟨HDW_n hH a (by decide), b⟩
  exact y_churn S9 P9 hb (j9.trans h46) hH hS ⟨n2, n3, n5, n6, n7, n8, n9⟩
