/-! ===== whether a BLOCK splits: the same on both sides ===== -/
theorem SIM_k {π σ : Nat → Nat} {s s' t t' : MS} (h : SIM π σ s t) (a : ∀ k, 54 ≤ k → k ≤ 61 → gA s' k = gA s k) (a2 : gI s' 1060 = gI s 1060) (a3 : gL s' 1062 = gL s 1062) (b : gA t' 49 = gA t 49) (b2 : gA t' 39 5 = gA t 39 5) (b3 : gA t' 54 = gA t 54) : SIM π σ s' t' := by
  obtain ⟨⟨p, c, l, r⟩, n, w⟩ := h
  have e1 : hB s' 54 = hB s 54 := by
    unfold hB
    rw [a (54 + 2) (by decide) (by decide), a (54 + 3) (by decide) (by decide), a (54 + 5) (by decide) (by decide)]
  have e2 : kB s' 54 = kB s 54 := by
    unfold kB
    rw [a (54 + 4) (by decide) (by decide)]
  have e3 : cM t' = cM t := by unfold cM; rw [b]
  refine ⟨⟨by rw [a2]; exact p, fun x hx => ?_, fun x hx q => ?_, fun v hv => ?_⟩, by rw [a2, b2]; exact n, fun x hx q => ?_⟩
  · rw [a 54 (by decide) (by decide), a (54 + 1) (by decide) (by decide), b]; exact c x hx
  · rw [b] at q
    rw [e1, e2, b]
    exact l x hx q
  · rw [a (54 + 6) (by decide) (by decide), a (54 + 7) (by decide) (by decide), b]; exact r v hv
  · rw [a3, b3]
    exact w x hx (by rw [← e3]; exact q)
/-- what was told of splits -/
def ZP (s t : MS) : Prop := gI s 581 = gA t 39 6 ∧ CDT s t ∧ (gA s 35 1 ≠ -1 → (0 ≤ gA s 35 1 ∧ gA s 35 1 ≤ gA s 36 1) ∧ (gA s 36 1 ≤ gI s 741 ∧ gI s 741 ≤ 1600) ∧ FOK (gA s 38) (gA s 35 1) (gA s 36 1) 64)
theorem ZP_k {s s' t t' : MS} (h : ZP s t) (a1 : gI s' 581 = gI s 581) (a2 : gI s' 741 = gI s 741) (a3 : ∀ k, 35 ≤ k → k ≤ 38 → gA s' k = gA s k) (b : ∀ k, k = 39 ∨ (42 ≤ k ∧ k ≤ 44) → gA t' k = gA t k) : ZP s' t' := by
  unfold ZP CDT at h ⊢
  rw [a1, a2, a3 35 (by decide) (by decide), a3 36 (by decide) (by decide), a3 38 (by decide) (by decide), b 39 (by omega), b 42 (by omega), b 43 (by omega), b 44 (by omega)]
  exact h
theorem m_spl {b : Nat} {t : MS} {Q : Int × MS → Prop} (h1 : ¬ (hM t).2.1 b < gA t 39 6 → Q (1, t)) (h2 : (hM t).2.1 b < gA t 39 6 → (hM t).2.1 b < 2 → Q (0, t)) (h3 : (hM t).2.1 b < gA t 39 6 → ¬ (hM t).2.1 b < 2 → gA t 42 4 = -1 → Q (0, t))
    (h4 : (hM t).2.1 b < gA t 39 6 → ¬ (hM t).2.1 b < 2 → gA t 42 4 ≠ -1 → ∀ s21 : MS, (∀ i, i ≠ 52 → i ≠ 53 → gI s21 i = gI t i) → (∀ k, gA s21 k = gA t k) → gI s21 52 = (hM t).1 b → gI s21 53 = (hM t).2.1 b → pc (m_x12_codesTell 1 s21) (fun o => (o.1 = 0 ∨ o.1 = 1) ∧ Q (o.1, o.2))) : pc (m_x12_doesSplit (b : Int) t) Q := by
  unfold m_x12_doesSplit m_x12_roomOf m_x12_isCoded m_x12_isCoded_J17 m_x12_doesSplit_J29 m_x12_doesSplit_J60
  have tb : ((b : Nat) : Int).toNat = b := Int.toNat_natCast _
  refine pc_bq (m_ents (by omega)) (fun r6 h6 => pc_bq (Q := fun r => r = gA t 39 6) (pc_rdI (fun _ => pc_some rfl)) (fun r8 h8 => ?_))
  rw [tb] at h6
  rw [h6, h8]
  refine pc_rg (pc_rg (pc_if (fun c1 => pc_rg (pc_if (fun c2 => pc_some (h2 c1 c2)) (fun c2 => pc_bq (Q := fun r => (gA t 42 4 = -1 ∧ r = 0) ∨ (gA t 42 4 ≠ -1 ∧ r = 1)) (pc_rdI (fun _ => pc_rg (pc_if (fun c => pc_bo (pc_some (Or.inl ⟨c, rfl⟩))) (fun c => pc_bo (pc_some (Or.inr ⟨c, rfl⟩)))))) (fun r15 h15 => pc_rg (pc_if (fun c3 => pc_some ?_) (fun c3 => pc_bq (m_lev (by omega)) (fun r19 h19 => pc_stn (fun s20 e20 => pc_stn (fun s21 e21 => ?_))))))))) (fun c1 => pc_some (h1 c1))))
  · rcases h15 with ⟨a, _⟩ | ⟨_, a⟩
    · exact h3 c1 c2 a
    · omega
  · rcases h15 with ⟨_, a⟩ | ⟨a, _⟩
    · omega
    · rw [tb] at h19
      refine pc_bq (h4 c1 c2 a s21 (fun i i1 i2' => (q_Ii e21 i2').trans (q_Ii e20 i1)) (fun k => (q_Ia e21).trans (q_Ia e20)) (by rw [(q_Ii e21 (by decide) : gI s21 52 = gI s20 52), (q_II e20 : gI s20 52 = _), h19]) (q_II e21)) (fun o ho => pc_rgL (pc_if (fun c => pc_bo (pc_some ?_)) (fun c => pc_bo (pc_some ?_))))
      · have := ho.2
        rw [c] at this
        exact this
      · have := ho.2
        rw [show o.1 = 0 by have := ho.1; omega] at this
        exact this
theorem y_splits {π σ : Nat → Nat} {s t : MS} {b : Nat} {q o : Int × MS} (h : SIM π σ s t) (hb : b < 48) (hl : LV t b) (hZ : ZP s t) (hRt : Rr t) (hsz : (0 ≤ (hM t).2.1 b ∧ (hM t).2.1 b ≤ 6) ∧ (hM t).1 b ≤ 48 ∧ 0 ≤ (hM t).1 b) (e1 : m_x1_splits (π b : Int) s = some q) (e2 : m_x12_doesSplit (b : Int) t = some o) : q.1 = o.1 ∧ (q.1 = 0 ∨ q.1 = 1) ∧ SIM π σ q.2 o.2 ∧ ZP q.2 o.2 := by
  have F1 : F_x1_splits s q.2 := fr_x1_splits e1
  have F2 : F_x12_doesSplit t o.2 := fr_x12_doesSplit e2
  have B := sim_b h hb hl
  have tp : ((π b : Nat) : Int).toNat = π b := Int.toNat_natCast _
  have V : pc (m_x1_splits (π b : Int) s) (fun q => pc (m_x12_doesSplit (b : Int) t) (fun o => q.1 = o.1 ∧ (q.1 = 0 ∨ q.1 = 1))) := by
    have z : gA s 57 (π b) = (hM t).2.1 b := B.2.1
    have l56 : gA s 56 (π b) = (hM t).1 b := B.1
    have r6 := hZ.1
    have c4 : gA t 42 4 = gA s 35 1 := (hZ.2.1.2 1 (by decide)).1
    unfold m_x1_splits m_x1_splits_J47 m_x1_splits_J121
    refine pc_rdI (fun _ => pc_rg (pc_rg (pc_if (fun c1 => pc_rdI (fun _ => pc_rg (pc_if (fun c2 => pc_some ?_) (fun c2 => pc_rdI (fun _ => pc_rg (pc_if (fun c3 => pc_some ?_) (fun c3 => pc_rdI (fun _ => pc_stn (fun s16 e16 => pc_rdI (fun _ => pc_stn (fun s18 e18 => pc_rdI (fun _ => pc_rdI (fun _ => pc_bn (fun q23 e23 => ?_)))))))))))))) (fun c1 => pc_some ?_))))
    · rw [tp, z] at c1 c2
      exact m_spl (fun w => absurd (by omega) w) (fun _ _ => ⟨rfl, Or.inl rfl⟩) (fun _ w => absurd c2 w) (fun _ w => absurd c2 w)
    · rw [tp, z] at c1 c2
      have c3' : gA s 35 1 = -1 := c3
      exact m_spl (fun w => absurd (by omega) w) (fun _ w => absurd w c2) (fun _ _ _ => ⟨rfl, Or.inl rfl⟩) (fun _ _ w => absurd (c4.trans c3') w)
    · rw [tp, z] at c1 c2
      have c3' : gA s 35 1 ≠ -1 := c3
      obtain ⟨⟨g1, g2⟩, ⟨g3, g3'⟩, g4⟩ := hZ.2.2 c3'
      have A18 : ∀ k, gA s18 k = gA s k := fun k => (q_Ia e18).trans (q_Ia e16)
      have i741 : gI s18 741 = gI s 741 := (q_Ii e18 (by decide)).trans (q_Ii e16 (by decide))
      have i1604 : gI s18 1604 = (hM t).1 b := by
        rw [(q_Ii e18 (by decide) : gI s18 1604 = gI s16 1604), (q_II e16 : gI s16 1604 = _), tp]; exact l56
      have i1605 : gI s18 1605 = (hM t).2.1 b := by
        rw [(q_II e18 : gI s18 1605 = _), (q_Ia e16 : gA s16 57 = gA s 57), tp]; exact z
      have k35 : gA s18 35 (Int.toNat 1) = gA s 35 1 := by rw [A18]; rfl
      have k36 : gA s18 36 (Int.toNat 1) = gA s 36 1 := by rw [A18]; rfl
      rw [k35, k36] at e23
      have T : ∀ s21 : MS, (∀ i, i ≠ 52 → i ≠ 53 → gI s21 i = gI t i) → (∀ k, gA s21 k = gA t k) → gI s21 52 = (hM t).1 b → gI s21 53 = (hM t).2.1 b → pc (m_x12_codesTell 1 s21) (fun o => q23.1 = o.1 ∧ (q23.1 = 0 ∨ q23.1 = 1)) := fun s21 _ tA t52 t53 =>
        y_eval (s := s18) (t := s21) (a := gA s 35 1) (z := gA s 36 1) (w := 1) ⟨g1, g2⟩ (by rw [i741]; exact g3) (by rw [tA]; exact c4) (by rw [tA]; exact (hZ.2.1.2 1 (by decide)).2 c3') (fun j _ jz => by
          rw [tA]
          exact (hRt.2.1 44 (1600 + j) (by show 1600 + j < 3200; omega)).2) (fun j jz => by rw [tA, A18]; exact hZ.2.1.1 j (by omega)) (by rw [A18]; exact g4) ⟨by rw [i1604, t52], by rw [i1605, t53]⟩ ⟨by rw [t52]; omega, by rw [t53]; omega⟩ q23 e23
      refine pc_rg (pc_if (fun c5 => pc_bo (pc_some ?_)) (fun c5 => pc_bo (pc_some ?_)))
      · refine m_spl (fun w => absurd (by omega) w) (fun _ w => absurd w c2) (fun _ _ w => absurd (c4.symm.trans w) c3') (fun _ _ _ s21 a1 a2 a3 a4 => pc_mono (T s21 a1 a2 a3 a4) (fun o ho => ⟨by omega, ?_, Or.inl rfl⟩))
        show (0 : Int) = o.1
        omega
      · refine m_spl (fun w => absurd (by omega) w) (fun _ w => absurd w c2) (fun _ _ w => absurd (c4.symm.trans w) c3') (fun _ _ _ s21 a1 a2 a3 a4 => pc_mono (T s21 a1 a2 a3 a4) (fun o ho => ⟨by omega, ?_, Or.inr rfl⟩))
        show (1 : Int) = o.1
        omega
    · rw [tp, z] at c1
      exact m_spl (fun _ => ⟨rfl, Or.inr rfl⟩) (fun w => absurd (by omega) c1) (fun w => absurd (by omega) c1) (fun w => absurd (by omega) c1)
  have v := V q e1 o e2
  exact ⟨v.1, v.2, SIM_k h (fun k k1 k2 => F1.2.1 k (by simp; omega)) (F1.1 1060 (by decide)) (F1.2.2.1 1062 (by decide)) (F2.2.1 49 (by decide)) (by rw [F2.2.1 39 (by decide)]) (F2.2.1 54 (by decide)), ZP_k hZ (F1.1 581 (by decide)) (F1.1 741 (by decide)) (fun k k1 k2 => F1.2.1 k (by simp; omega)) (fun k hk => F2.2.1 k (by simp))⟩
theorem ZP_of {x t : MS} (H : PTJ x t) (h12 : gI x 12 ≠ 0) (h : gI x 741 ≤ 1600) : ZP x t := by
  obtain ⟨⟨_, g6, _⟩, c, f⟩ := H.2.1 h12
  exact ⟨g6.symm, c, fun z => by
    obtain ⟨⟨a1, a2, a3⟩, b⟩ := f z
    exact ⟨⟨a1, a2⟩, ⟨a3, h⟩, b⟩⟩
