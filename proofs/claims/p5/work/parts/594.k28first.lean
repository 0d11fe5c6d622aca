theorem y_first {s s' t : MS} (h : SY s t) (hP : PLH s t) (hb : gI s 941 ≤ gI s 108) (h7 : gI s 783 = 0) (e : m_x6_readStatement s = some s') : pc (m_x12_storeTold t) (fun o => (SY s' o ∧ PLJ s' o ∧ gI s' 941 ≤ gI s' 108 ∧ gI s' 783 = 1) ∨ BR s' o) := by
  obtain ⟨hd, hH, hS⟩ := s_first h.2.1.1 h7 s' e
  unfold m_x12_storeTold
  refine pc_bn (fun t2 f2 => pc_bn (fun p5 f5 => pc_inb (pc_stn (fun t7 f7 => pc_bn (fun t9 f9 => pc_bn (fun p12 f12 => pc_inb (pc_stn (fun t14 f14 => pc_bn (fun t16 f16 => pc_some ?_))))))))) 
  have g : pc (m_x12_asks 11 6 t) (fun o => (hd = 0 ∧ NX s o) ∨ (hd ≠ 0 ∧ gI o 5 = 1 ∧ gI o 6 = gI s 108)) := by
    unfold m_x12_asks m_x12_asks_J24
    refine pc_rg (pc_if (fun c => pc_bq (y_takes (w := 0) h (by decide) (by decide) (fun j hj => h.2.2.2.2.2.1 0 (by decide) j hj)) (fun q6 h6 => pc_rg (pc_if (fun c2 => ?_) (fun c2 => pc_some ?_)))) (fun c => absurd h.2.1.2 c))
    · rcases h6 with g | ⟨_, g2, g3, g4⟩
      · omega
      · refine pc_bq (m_fail g3.2.1.2) (fun s10 h10 => pc_some (Or.inr ⟨HDW_n hH g2 (by decide), ?_⟩))
        rw [g4] at h10
        exact h10
    · rcases h6 with ⟨_, g2, g3, g4⟩ | g
      · exact Or.inl ⟨HDW_y hH ⟨g2, g3⟩, g4⟩
      · exact absurd g.1 c2
  have G2 : F_x12_asks t t2 := fr_x12_asks f2
  have G5 : F_x12_number t2 p5.2 := fr_x12_number f5
  have G9 : F_x12_asks t7 t9 := fr_x12_asks f9
  have G12 : F_x12_number t9 p12.2 := fr_x12_number f12
  have G16 : F_x12_asksSign t14 t16 := fr_x12_asksSign f16
  have b5 : FKp 5 6 t2 p5.2 := fk_x12_number p5 f5
  have b7 : FKp 5 6 p5.2 t7 := FKp.a f7
  have b9 : FKp 5 6 t7 t9 := fk_x12_asks t9 f9
  have b12 : FKp 5 6 t9 p12.2 := fk_x12_number p12 f12
  have b14 : FKp 5 6 p12.2 t14 := FKp.a f14
  have b16 : FKp 5 6 t14 t16 := fk_x12_asksSign t16 f16
  rcases g t2 f2 with ⟨k0, N⟩ | ⟨k0, b⟩
  · rcases hS with ⟨_, u, eu, e244⟩ | ⟨q, _⟩
    · have gb : pc (m_x6_readBlocks s) (fun o => ∃ s2 q5 s6 s8 q11, m_x6_advance s = some s2 ∧ m_x6_expectNumber 8 48 s2 = some q5 ∧ sI q5.2 780 q5.1 = s6 ∧ m_x6_expectWord 1 s6 = some s8 ∧ m_x6_expectNumber 3 6 s8 = some q11 ∧ sI q11.2 781 q11.1 = o) := by
        unfold m_x6_readBlocks
        exact pc_bn (fun s2 e2 => pc_bn (fun q5 e5 => pc_stn (fun s6 e6 => pc_bn (fun s8 e8 => pc_bn (fun q11 e11 => pc_stn (fun s12 e12 => pc_some ⟨s2, q5, s6, s8, q11, e2, e5, e6, e8, e11, e12⟩))))))
      obtain ⟨s2, ⟨v5, s5⟩, s6, s8, ⟨v11, s11⟩, e2, e5, e6, e8, e11, e12⟩ := gb u eu
      have gj : pc (m_x6_readStatement_J244 u) (fun o => ∃ s3, m_x6_expectSign 59 u = some s3 ∧ sI s3 783 (gI s3 783 + 1) = o) := by
        unfold m_x6_readStatement_J244
        exact pc_bn (fun s3 e3 => pc_stn (fun s4 e4 => pc_some ⟨s3, e3, e4⟩))
      obtain ⟨s3, e3, e4⟩ := gj s' e244
      dsimp only at e6 e11 e12
      have h2 := y_adv N s2 e2
      have a2 := TK_le N.2.2.1.1
      have F2 : FC s s2 := Fr_w (fr_x6_advance e2) (by decide)
      have F5 : FC s2 s5 := fr_x6_expectNumber e5
      have F8 : FC s6 s8 := fr_x6_expectWord e8
      have F11 : FC s8 s11 := fr_x6_expectNumber e11
      have F3 : FC u s3 := fr_x6_expectSign e3
      have c6 : FKp 100 101 s5 s6 := FKp.i e6 (by decide) (by decide)
      have c8 : FKp 100 101 s6 s8 := fk_x6_expectWord s8 e8
      have c11 : FKp 100 101 s8 s11 := fk_x6_expectNumber _ e11
      have c12 : FKp 100 101 s11 u := FKp.i e12 (by decide) (by decide)
      have c3 : FKp 100 101 u s3 := fk_x6_expectSign s3 e3
      have c4 : FKp 100 101 s3 s' := FKp.i e4 (by decide) (by decide)
      have r5 := y_expNum h2.1 (by decide) e5 p5 f5
      by_cases z5 : gI s5 100 = 0
      · have y5 := RS_z r5.1 z5
        have w5 := r5.2 z5
        have n5 := g_num h2.1 e5 z5
        have y6 : SY s6 t7 := SY_f (SY_c y5 (fun i hi => q_Ii e6 (by omega)) (q_Ia e6) (q_Ia e6)) (q_Ai f7) (q_Ai f7) (q_Ai f7) (q_Ai f7) (fun k hk => q_Aa f7 (by omega))
        have r9 : RS s8 t9 := y_expWord (w := 1) y6 (by decide) (by decide) (fun j hj => y6.2.2.2.2.2.1 1 (by decide) j hj) e8 t9 f9
        by_cases z8 : gI s8 100 = 0
        · have y8 := RS_z r9 z8
          have n8 := g_word y6 e8 z8
          have r12 := y_expNum y8 (by decide) e11 p12 f12
          by_cases z11 : gI s11 100 = 0
          · have y11 := RS_z r12.1 z11
            have w11 := r12.2 z11
            have n11 := g_num y8 e11 z11
            have yu : SY u t14 := SY_f (SY_c y11 (fun i hi => q_Ii e12 (by omega)) (q_Ia e12) (q_Ia e12)) (q_Ai f14) (q_Ai f14) (q_Ai f14) (q_Ai f14) (fun k hk => q_Aa f14 (by omega))
            have r16 := y_expSign yu (by decide) e3 t16 f16
            by_cases z3 : gI s3 100 = 0
            · have y3 := RS_z r16 z3
              have n3 := g_sign yu e3 z3
              have I6 : ∀ i, i ≠ 780 → gI s6 i = gI s5 i := fun i hi => q_Ii e6 hi
              have I12 : ∀ i, i ≠ 781 → gI u i = gI s11 i := fun i hi => q_Ii e12 hi
              have I4 : ∀ i, i ≠ 783 → gI s' i = gI s3 i := fun i hi => q_Ii e4 hi
              have I5 : ∀ i, i ∉ [100, 101, 107, 108, 109, 110, 111] → i ≠ 780 → i ≠ 781 → gI s3 i = gI s i := fun i a b c => (F3.1 i a).trans ((I12 i c).trans ((F11.1 i a).trans ((F8.1 i a).trans ((I6 i b).trans ((F5.1 i a).trans (F2.1 i a))))))
              have A3 : ∀ k, gA s3 k = gA s k := fun k => (F3.2.1 k (by simp)).trans ((q_Ia e12).trans ((F11.2.1 k (by simp)).trans ((F8.2.1 k (by simp)).trans ((q_Ia e6).trans ((F5.2.1 k (by simp)).trans (F2.2.1 k (by simp)))))))
              have t7' : gA t7 39 = upZ (gA t 39) 0 p5.1 := by
                rw [(q_AA f7 : gA t7 39 = _), G5.2.1 39 (by simp), G2.2.1 39 (by simp)]; rfl
              have t14' : gA t16 39 = upZ (gA t7 39) 1 p12.1 := by
                rw [G16.2.1 39 (by simp), (q_AA f14 : gA t14 39 = _), G12.2.1 39 (by simp), G9.2.1 39 (by simp)]; rfl
              have tA : ∀ k, k ≠ 39 → gA t16 k = gA t k := fun k hk => (G16.2.1 k (by simp)).trans ((q_Aa f14 hk).trans ((G12.2.1 k (by simp)).trans ((G9.2.1 k (by simp)).trans ((q_Aa f7 hk).trans ((G5.2.1 k (by simp)).trans (G2.2.1 k (by simp)))))))
              have tB : ∀ k, gB t16 k = gB t k := fun k => (G16.2.2.2 k (by simp)).trans ((q_Ab f14).trans ((G12.2.2.2 k (by simp)).trans ((G9.2.2.2 k (by simp)).trans ((q_Ab f7).trans ((G5.2.2.2 k (by simp)).trans (G2.2.2.2 k (by simp)))))))
              have t45 : gI t16 45 = gI t 45 := (G16.1 45 (by decide)).trans ((q_Ai f14).trans ((G12.1 45 (by decide)).trans ((G9.1 45 (by decide)).trans ((q_Ai f7).trans ((G5.1 45 (by decide)).trans (G2.1 45 (by decide)))))))
              have Q : PLH s3 t16 := PLH_f hP (fun i hi => I5 i (fun m => hi (by simp at m ⊢; omega)) (fun m => hi (by simp; omega)) (fun m => hi (by simp; omega))) A3 t45 (fun k a b => by rw [t14', upZ_n b, t7', upZ_n a]) tA tB
              have v780 : gI s3 780 = v5 := (F3.1 780 (by decide)).trans ((I12 780 (by decide)).trans ((F11.1 780 (by decide)).trans ((F8.1 780 (by decide)).trans (q_II e6))))
              have v781 : gI s3 781 = v11 := (F3.1 781 (by decide)).trans (q_II e12)
              have v783 : gI s' 783 = gI s3 783 + 1 := q_II e4
              have w783 : gI s3 783 = gI s 783 := I5 783 (by decide) (by decide) (by decide)
              have w941 : gI s3 941 = gI s 941 := I5 941 (by decide) (by decide) (by decide)
              have x6 : gI s6 108 = gI s5 108 := I6 108 (by decide)
              have x12 : gI u 108 = gI s11 108 := I12 108 (by decide)
              have sA' : ∀ k, gA s' k = gA s3 k := fun k => q_Ia e4
              refine Or.inl ⟨SY_c y3 (fun i hi => I4 i (by omega)) (sA' 4) (sA' 6), ?_, by rw [I4 941 (by decide), I4 108 (by decide)]; omega, by omega⟩
              have full : PLJ s3 t16 := ⟨Q.1, Q.2.1, ⟨by rw [t14', upZ_n (by decide), t7', upZ_s, v780]; exact w5.1, by rw [t14', upZ_s, v781]; exact w11.1, Q.2.2.1⟩, Q.2.2.2⟩
              unfold PLJ NMS ACS HDS CDS
              rw [sA' 40, sA' 41, sA' 42, sA' 43, sA' 44, sA' 45, sA' 46, sA' 48, I4 784 (by decide), I4 785 (by decide), I4 780 (by decide), I4 781 (by decide), I4 782 (by decide), I4 941 (by decide), I4 106 (by decide)]
              exact full
            · exact Or.inr (BR_go (RS_n r16 z3) c4 (FKp.rf t16))
          · exact Or.inr (BR_go (RS_n r12.1 z11) (c12.tr (c3.tr c4)) (b14.tr b16))
        · exact Or.inr (BR_go (RS_n r9 z8) (c11.tr (c12.tr (c3.tr c4))) (b12.tr (b14.tr b16)))
      · exact Or.inr (BR_go (RS_n r5.1 z5) (c6.tr (c8.tr (c11.tr (c12.tr (c3.tr c4))))) (b7.tr (b9.tr (b12.tr (b14.tr b16)))))
    · exact absurd k0 q
  · rcases hS with ⟨q, _⟩ | ⟨_, d⟩
    · exact absurd q k0
    · exact Or.inr (BR_go (BR_mk (by decide) d b) (FKp.rf s') (b5.tr (b7.tr (b9.tr (b12.tr (b14.tr b16))))))
