/-! ===== a statement on both sides ===== -/
/-- the class's statement is read, the reference's too -/
def STD (s s' o : MS) : Prop := (SY s' o ∧ PLJ s' o ∧ gI s' 941 ≤ gI s' 108 ∧ gI o 46 = gI s' 783 ∧ gI s' 783 = gI s 783 + 1) ∨ BR s' o
theorem fk_J244 {s : MS} : pc (m_x6_readStatement_J244 s) (fun o => FKp 100 101 s o) := by
  unfold m_x6_readStatement_J244
  exact pc_bn (fun s3 e3 => pc_stn (fun s4 e4 => pc_some ((fk_x6_expectSign s3 e3).tr (FKp.i e4 (by decide) (by decide)))))
theorem y_J244 {s u s' t : MS} (hu : DONF u t) (h7 : gI u 783 = gI s 783) (h46 : gI t 46 = gI s 783) (e : m_x6_readStatement_J244 u = some s') : pc (m_x12_statementTold_J178 t) (fun o => STD s s' o) := by
  have g : pc (m_x6_readStatement_J244 u) (fun o => ∃ s3, m_x6_expectSign 59 u = some s3 ∧ sI s3 783 (gI s3 783 + 1) = o) := by
    unfold m_x6_readStatement_J244
    exact pc_bn (fun s3 e3 => pc_stn (fun s4 e4 => pc_some ⟨s3, e3, e4⟩))
  obtain ⟨s3, e3, e4⟩ := g s' e
  unfold m_x12_statementTold_J178
  refine pc_bn (fun t3 f3 => pc_stn (fun t4 f4 => pc_some ?_))
  have G3 : F_x12_asksSign t t3 := fr_x12_asksSign f3
  have C3 : F_x6_expectSign u s3 := fr_x6_expectSign e3
  have kc : FKp 100 101 s3 s' := FKp.i e4 (by decide) (by decide)
  have kt : FKp 5 6 t3 t4 := FKp.i f4 (by decide) (by decide)
  rcases hu with ⟨hS, hP, hb⟩ | hB
  · have r := y_expSign hS (by decide) e3 t3 f3
    by_cases z : gI s3 100 = 0
    · have y3 := RS_z r z
      have n := g_sign hS e3 z
      have P3 : PLJ s3 t3 := PL_f hP C3 (Fr_w G3 (by decide))
      have v4 : gI t4 46 = gI t3 46 + 1 := q_II f4
      have v4' : gI s' 783 = gI s3 783 + 1 := q_II e4
      have c783 : gI s3 783 = gI u 783 := C3.1 783 (by decide)
      have c941 : gI s3 941 = gI u 941 := C3.1 941 (by decide)
      have g46 : gI t3 46 = gI t 46 := G3.1 46 (by decide)
      have sI' : ∀ i, i ≠ 783 → gI s' i = gI s3 i := fun i hi => q_Ii e4 hi
      have sA' : ∀ k, gA s' k = gA s3 k := fun k => q_Ia e4
      have tI' : ∀ i, i ≠ 46 → gI t4 i = gI t3 i := fun i hi => q_Ii f4 hi
      have tA' : ∀ k, gA t4 k = gA t3 k := fun k => q_Ia f4
      have tB' : ∀ k, gB t4 k = gB t3 k := fun k => q_Ib f4
      refine Or.inl ⟨SY_f (SY_c y3 (fun i hi => sI' i (by omega)) (sA' 4) (sA' 6)) (tI' 2 (by decide)) (tI' 3 (by decide)) (tI' 4 (by decide)) (tI' 5 (by decide)) (fun k _ => tA' k), ?_, ?_, by omega, by omega⟩
      · unfold PLJ NMS ACS HDS CDS
        rw [sA' 40, sA' 41, sA' 42, sA' 43, sA' 44, sA' 45, sA' 46, sA' 48, tA' 39, tA' 41, tA' 42, tA' 43, tA' 44, tB' 40, sI' 784 (by decide), sI' 785 (by decide), sI' 780 (by decide), sI' 781 (by decide), sI' 782 (by decide), sI' 941 (by decide), sI' 106 (by decide), tI' 45 (by decide)]
        exact P3
      · rw [sI' 941 (by decide), sI' 108 (by decide)]; omega
    · exact Or.inr (BR_go (RS_n r z) kc kt)
  · exact Or.inr (BR_go (BR_go hB (fk_x6_expectSign s3 e3) (fk_x12_asksSign t3 f3)) kc kt)
/-- which word is at the head -/
def HDW (s : MS) (hd : Int) : Prop := (gI s 107 = 1 ∧ hd = gI s 110) ∨ (gI s 107 ≠ 1 ∧ hd = -1)
def STC (s : MS) (hd : Int) (o : MS) : Prop := ((hd = 2 ∨ hd = 3) ∧ ∃ u, m_x6_readVolume hd s = some u ∧ m_x6_readStatement_J244 u = some o) ∨ ((hd = 5 ∨ hd = 6) ∧ ∃ u, m_x6_readChange hd s = some u ∧ m_x6_readStatement_J244 u = some o) ∨ ((hd = 7 ∨ hd = 8 ∨ hd = 9) ∧ ∃ s8 u u2, m_x6_beginFormula (hd - 7) s = some s8 ∧ ((hd - 7 = 1 ∧ m_x6_readTestC s8 = some u) ∨ (hd - 7 ≠ 1 ∧ m_x6_readSumC s8 = some u)) ∧ sA u 46 (upZ (gA u 46) (hd - 7).toNat (gI u 941)) = u2 ∧ m_x6_readStatement_J244 u2 = some o) ∨ (hd = 10 ∧ ∃ u q u2, m_x6_advance s = some u ∧ m_x6_expectNumber 0 100 u = some q ∧ sI q.2 782 q.1 = u2 ∧ m_x6_readStatement_J244 u2 = some o) ∨ ((hd < 2 ∨ hd = 4 ∨ 10 < hd) ∧ gI o 100 = 1 ∧ gI o 101 = gI s 108)
theorem s_stmt {s : MS} (h0 : gI s 100 = 0) (h7 : gI s 783 ≠ 0) : pc (m_x6_readStatement s) (fun o => ∃ hd, HDW s hd ∧ STC s hd o) := by
  have J234 : pc (m_x6_readStatement_J234 s) (fun o => gI o 100 = 1 ∧ gI o 101 = gI s 108) := by
    unfold m_x6_readStatement_J234
    refine pc_bq (s_fail h0) (fun q8 h8 => pc_mono fk_J244 (fun o k => ?_))
    have a := k (by rw [h8.1]; decide)
    exact ⟨a.1.trans h8.1, a.2.trans h8.2⟩
  have J : ∀ hd : Int, pc (m_x6_readStatement_J29 hd 0 s) (fun o => STC s hd o) := fun hd => by
    unfold m_x6_readStatement_J29 m_x6_readStatement_J40 m_x6_readStatement_J120 m_x6_readStatement_J129
    refine pc_rg (pc_if (fun c => pc_rg (pc_rg (pc_if (fun c2 => absurd c2 (by decide)) (fun _ => pc_bq (s_fail h0) (fun q67 h67 => pc_some (Or.inr (Or.inr (Or.inr (Or.inr ⟨Or.inl (by omega), h67⟩))))))))) (fun c => pc_rg (pc_rg (pc_if (fun _ => pc_rg (pc_if (fun c2 => absurd c2 c) (fun _ => ?_))) (fun c2 => absurd rfl c2)))))
    refine pc_if (fun d => pc_mono J234 (fun o ho => Or.inr (Or.inr (Or.inr (Or.inr ⟨Or.inl (by omega), ho⟩))))) (fun d1 => ?_)
    refine pc_if (fun d => pc_bn (fun u eu => fun o eo => Or.inl ⟨Or.inl d, u, eu, eo⟩)) (fun d2 => ?_)
    refine pc_if (fun d => pc_bn (fun u eu => fun o eo => Or.inl ⟨Or.inr d, u, eu, eo⟩)) (fun d3 => ?_)
    refine pc_if (fun d => pc_mono J234 (fun o ho => Or.inr (Or.inr (Or.inr (Or.inr ⟨Or.inr (Or.inl d), ho⟩))))) (fun d4 => ?_)
    refine pc_if (fun d => pc_bn (fun u eu => fun o eo => Or.inr (Or.inl ⟨Or.inl d, u, eu, eo⟩))) (fun d5 => ?_)
    refine pc_if (fun d => pc_bn (fun u eu => fun o eo => Or.inr (Or.inl ⟨Or.inr d, u, eu, eo⟩))) (fun d6 => ?_)
    refine pc_if (fun d => ?_) (fun d7 => ?_)
    · subst d
      exact pc_bn (fun s8 e8 => pc_bn (fun u eu => pc_eqg (pc_inb (pc_stn (fun u2 e2 => fun o eo => Or.inr (Or.inr (Or.inl ⟨Or.inl rfl, s8, u, u2, e8, Or.inr ⟨by decide, eu⟩, e2, eo⟩)))))))
    refine pc_if (fun d => ?_) (fun d8 => ?_)
    · subst d
      exact pc_bn (fun s8 e8 => pc_bn (fun u eu => pc_eqg (pc_inb (pc_stn (fun u2 e2 => fun o eo => Or.inr (Or.inr (Or.inl ⟨Or.inr (Or.inl rfl), s8, u, u2, e8, Or.inl ⟨by decide, eu⟩, e2, eo⟩)))))))
    refine pc_if (fun d => ?_) (fun d9 => ?_)
    · subst d
      exact pc_bn (fun s8 e8 => pc_bn (fun u eu => pc_eqg (pc_inb (pc_stn (fun u2 e2 => fun o eo => Or.inr (Or.inr (Or.inl ⟨Or.inr (Or.inr rfl), s8, u, u2, e8, Or.inr ⟨by decide, eu⟩, e2, eo⟩)))))))
    refine pc_if (fun d => pc_bn (fun u eu => pc_bn (fun q eq => pc_stn (fun u2 e2 => fun o eo => Or.inr (Or.inr (Or.inr (Or.inl ⟨d, u, q, u2, eu, eq, e2, eo⟩))))))) (fun d10 => ?_)
    exact pc_mono J234 (fun o ho => Or.inr (Or.inr (Or.inr (Or.inr ⟨by omega, ho⟩))))
  unfold m_x6_readStatement m_x6_readStatement_J16
  exact pc_rg (pc_if (fun c => pc_rg (pc_if (fun c2 => absurd c2 h7) (fun _ => pc_mono (J _) (fun o ho => ⟨_, Or.inl ⟨c, rfl⟩, ho⟩)))) (fun c => pc_rg (pc_if (fun c2 => absurd c2 h7) (fun _ => pc_mono (J _) (fun o ho => ⟨_, Or.inr ⟨c, rfl⟩, ho⟩)))))
