/-! ===== volumes and clones on both sides ===== -/
theorem s_let2 {s X : MS} {k : Nat} (k4 : gA X 4 = gA s 4) (k61 : gI X 61 = gI s 61) (h0 : 0 ≤ gI s 108) (h9 : gI s 109 ≤ gI s 61) : pc (m_x5_letterAt (gI s 108 + (k : Int)) (gI s 109) X) (fun r => r = lt s k) := by
  unfold m_x5_letterAt m_x5_letterAt_J19
  refine pc_rg (pc_rg (pc_if (fun c => pc_some (lt_out (by omega)).symm) (fun c => pc_bq s_at (fun r6 h6 => pc_some ?_))))
  rw [lt_in (by omega)]
  rcases h6 with q | q
  · rw [q.2, k4, show (gI s 108 + (k : Int)).toNat = (gI s 108).toNat + k by omega]
  · omega
theorem s_addV {s X : MS} (k4 : gA X 4 = gA s 4) (k61 : gI X 61 = gI s 61) (h0 : 0 ≤ gI s 108) (h9 : gI s 109 ≤ gI s 61) (h8 : 0 ≤ gI X 784 ∧ gI X 784 < 8) : pc (m_x5_addVolume (gI s 108) (gI s 109) X) (fun q => (q.1 = gI X 784 ∧ gI q.2 784 = gI X 784 + 1) ∧ (∀ k, k < 6 → gA q.2 40 ((gI X 784).toNat * 6 + k) = lt s k) ∧ ∀ j : Nat, j < (gI X 784).toNat * 6 → gA q.2 40 j = gA X 40 j) := by
  have L : ∀ (n : Nat) (k : Nat) (S : MS), k ≤ 6 → (gA S 4 = gA X 4 ∧ gI S 61 = gI X 61 ∧ gI S 784 = gI X 784) → (∀ j, j < k → gA S 40 ((gI X 784).toNat * 6 + j) = lt s j) → (∀ j : Nat, j < (gI X 784).toNat * 6 → gA S 40 j = gA X 40 j) → pc (m_x5_addVolume_L14 n (gI s 108) (gI s 109) (k : Int) S) (fun q => (q.1 = gI X 784 ∧ gI q.2 784 = gI X 784 + 1) ∧ (∀ k, k < 6 → gA q.2 40 ((gI X 784).toNat * 6 + k) = lt s k) ∧ ∀ j : Nat, j < (gI X 784).toNat * 6 → gA q.2 40 j = gA X 40 j) := by
    refine fr_ind (fun _ _ _ _ _ _ => pc_none) (fun n ih k S hk hf hd hb => ?_)
    show pc (m_x5_addVolume_b14 (m_x5_addVolume_L14 n) (gI s 108) (gI s 109) (k : Int) S) _
    unfold m_x5_addVolume_b14
    refine pc_rg (pc_if (fun c => pc_stn (fun s7 e7 => pc_some ?_)) (fun c => pc_bq (s_let2 (hf.1.trans k4) (hf.2.1.trans k61) h0 h9) (fun r9 h9' => pc_inb (pc_stn (fun s11 e11 => ?_)))))
    · have a : gI s7 784 = gI S 784 + 1 := q_II e7
      have b : gA s7 40 = gA S 40 := q_Ia e7
      refine ⟨⟨by show gI s7 784 - 1 = _; omega, by show gI s7 784 = _; omega⟩, fun j hj => ?_, fun j hj => ?_⟩
      · show gA s7 40 _ = _
        rw [b]; exact hd j (by omega)
      · show gA s7 40 _ = _
        rw [b]; exact hb j hj
    · have ek : (k : Int) + 1 = ((k + 1 : Nat) : Int) := rfl
      rw [ek]
      have b : gA s11 40 = upZ (gA S 40) (gI S 784 * 6 + (k : Int)).toNat r9 := q_AA e11
      have c3 := hf.2.2
      have ei : (gI S 784 * 6 + (k : Int)).toNat = (gI X 784).toNat * 6 + k := by omega
      refine ih (k + 1) s11 (by omega) ⟨(q_Aa e11 (by decide)).trans hf.1, (q_Ai e11).trans hf.2.1, (q_Ai e11).trans c3⟩ (fun j hj => ?_) (fun j hj => ?_)
      · rw [b, ei]
        by_cases z : j = k
        · rw [z, upZ_s]; exact h9'
        · rw [upZ_n (by omega)]; exact hd j (by omega)
      · rw [b, ei, upZ_n (by omega)]; exact hb j hj
  unfold m_x5_addVolume
  exact pc_rg (pc_if (fun _ => L FU 0 X (by omega) ⟨rfl, rfl, rfl⟩ (fun j hj => absurd hj (Nat.not_lt_zero j)) (fun _ _ => rfl)) (fun c => by exfalso; omega))
theorem NM1_c {f g : Nat → Int} {z : Int} (h : NM1 g z) (e : ∀ j, j < 6 → f j = g j) : NM1 f z := by
  obtain ⟨n, n1, n2, n3, n4⟩ := h
  exact ⟨n, n1, fun j hj => by rw [e j (by omega)]; exact n2 j hj, fun j a b => by rw [e j b]; exact n3 j a b, by rw [n4]; exact (nv_e (fun j hj => e j (by omega))).symm⟩
theorem ACS_add {p0 p1 p2 p3 q0 q1 q2 q3 : Int} {s s' t o : MS} (hP : ACS s t) (h60 : gI s 785 < 60) (hA : AC1 p0 p1 p2 p3 q0 q1 q2 q3) (e : m_x5_addChange p0 p1 p2 p3 s = some s') (h5 : gI t 5 = 0) (eo : m_x12_actTold q0 q1 q2 q3 t = some o) : ACS s' o ∧ ∀ k, k ≠ 3 → gA o 39 k = gA t 39 k := by
  obtain ⟨a1, a2, a3, a4, a5⟩ := s_chg h60 s' e
  have b := hP.1
  obtain ⟨⟨c1, c2⟩, ⟨c3, c4, c5, c6⟩, c7⟩ := m_act h5 (by omega) o eo
  refine ⟨⟨⟨by rw [c1, a1]; omega, by omega⟩, fun a ha => ?_⟩, c2⟩
  rw [a2, a3, a4, a5]
  by_cases z : (a : Int) < gI s 785
  · rw [upZ_n (by omega), upZ_n (by omega), upZ_n (by omega), upZ_n (by omega), c7 _ (by omega), c7 _ (by omega), c7 _ (by omega), c7 _ (by omega)]
    exact hP.2 a z
  · have ea : a = (gI s 785).toNat := by omega
    have eb : a = (gA t 39 3).toNat := by omega
    rw [← eb] at c3 c4 c5 c6
    rw [← ea, upZ_s, upZ_s, upZ_s, upZ_s, c3, c4, c5, c6]
    exact hA
/-- a volume more -/
theorem y_vfin {x p r8 src of z : Int} {s s5 s8 s' t : MS} (h : SY s5 t) (hP : PLJ s5 t) (k4 : gA s5 4 = gA s 4) (k61 : gI s5 61 = gI s 61) (h0 : 0 ≤ gI s 108) (h9 : gI s 109 ≤ gI s 61) (h8 : gI s5 784 < 8) (h60 : gI s5 785 < 60) (hz : NM1 (lt s) z) (hx : (x = 2 ∧ p = 0) ∨ (x = 3 ∧ p = 1 ∧ of = src)) (e8 : m_x5_addVolume (gI s 108) (gI s 109) s5 = some (r8, s8)) (e10 : m_x5_addChange x r8 src 0 s8 = some s') : pc (m_x12_volumeTold_J50 p z of t) (fun o => SY s' o ∧ PLJ s' o ∧ gI s' 108 = gI s5 108) := by
  have n0 := hP.1.1
  obtain ⟨⟨a1, a2⟩, a3, a4⟩ := s_addV k4 k61 h0 h9 ⟨n0.2.1, h8⟩ _ e8
  dsimp only at a1 a2 a3 a4
  have F8 : F_x5_addVolume s5 s8 := fr_x5_addVolume e8
  have F10 : F_x5_addChange s8 s' := fr_x5_addChange e10
  have A8 : ACS s8 t := by
    have q := hP.2.1
    unfold ACS at q ⊢
    rw [F8.1 785 (by decide), F8.2.1 41 (by decide), F8.2.1 42 (by decide), F8.2.1 43 (by decide), F8.2.1 44 (by decide)]
    exact q
  have J83 : ∀ x2 x3 : Int, AC1 x r8 src 0 x3 x2 (gA t 39 2) 0 → pc (m_x12_volumeTold_J83 z x2 x3 t) (fun o => SY s' o ∧ PLJ s' o ∧ gI s' 108 = gI s5 108) := fun x2 x3 hA => by
    unfold m_x12_volumeTold_J83
    refine pc_rdI (fun _ => pc_bn (fun s7 e7 => pc_rdI (fun _ => pc_inb (pc_stn (fun s10 e10' => pc_rdI (fun _ => pc_inb (pc_stn (fun s13 e13 => pc_some ?_))))))))
    have e7 : m_x12_actTold x3 x2 (gA t 39 2) 0 t = some s7 := e7
    have F7 : F_x12_actTold t s7 := fr_x12_actTold e7
    obtain ⟨A', c2⟩ := ACS_add A8 (by rw [F8.1 785 (by decide)]; exact h60) hA e10 h.2.1.2 e7
    have r39 : gA s10 39 = gA s7 39 := q_Ba e10'
    have q39 : gA s13 39 = upZ (gA s7 39) 2 (gA t 39 2 + 1) := by
      rw [(q_AA e13 : gA s13 39 = _), r39]
      show upZ (gA s7 39) 2 (gA s7 39 2 + 1) = _
      rw [c2 2 (by decide)]
    have q40 : gB s13 40 = upZ (gB t 40) (gA t 39 2).toNat z := by
      rw [(q_Ab e13 : gB s13 40 = gB s10 40), (q_BB e10' : gB s10 40 = _), F7.2.2.2 40 (by simp)]
      show upZ (gB t 40) (gA s7 39 2).toNat z = _
      rw [c2 2 (by decide)]
    have kI : ∀ i, gI s13 i = gI t i := fun i => (q_Ai e13).trans ((q_Bi e10').trans (F7.1 i (by simp)))
    have kA : ∀ k, k ≠ 39 → k ≠ 41 → gA s13 k = gA t k := fun k a b => (q_Aa e13 a).trans ((q_Ba e10').trans (F7.2.1 k (by simp; omega)))
    have k41 : gA s13 41 = gA s7 41 := (q_Aa e13 (by decide)).trans (q_Ba e10')
    have cI : ∀ i, i ≠ 784 → i ≠ 785 → gI s' i = gI s5 i := fun i a b => (F10.1 i (by simp; omega)).trans (F8.1 i (by simp; omega))
    have cA : ∀ k, k < 40 ∨ 44 < k → gA s' k = gA s5 k := fun k a => (F10.2.1 k (by simp; omega)).trans (F8.2.1 k (by simp; omega))
    have c40 : gA s' 40 = gA s8 40 := F10.2.1 40 (by decide)
    have c784 : gI s' 784 = gI s5 784 + 1 := (F10.1 784 (by decide)).trans a2
    refine ⟨SY_f (SY_c h (fun i hi => cI i (by omega) (by omega)) (cA 4 (by omega)) (cA 6 (by omega))) (kI 2) (kI 3) (kI 4) (kI 5) (fun k hk => kA k (by omega) (by omega)), ⟨⟨⟨by rw [q39, upZ_s, c784]; omega, by omega, by omega⟩, fun v hv => ?_⟩, ?_, ⟨?_, ?_, ?_⟩, ?_, ?_⟩, cI 108 (by decide) (by decide)⟩
    · rw [q40, c40]
      by_cases zz : (v : Int) < gI s5 784
      · rw [upZ_n (by omega)]
        exact NM1_c (hP.1.2 v zz) (fun j hj => a4 _ (by omega))
      · have ev : v = (gI s5 784).toNat := by omega
        rw [show (gA t 39 2).toNat = v by omega, upZ_s, ev]
        exact NM1_c hz (fun j hj => a3 j hj)
    · unfold ACS at A' ⊢
      rw [q39, upZ_n (by decide), k41]
      exact A'
    · rw [q39, upZ_n (by decide), c2 0 (by decide), cI 780 (by decide) (by decide)]; exact hP.2.2.1.1
    · rw [q39, upZ_n (by decide), c2 1 (by decide), cI 781 (by decide) (by decide)]; exact hP.2.2.1.2.1
    · rw [q39, upZ_n (by decide), c2 4 (by decide), cI 782 (by decide) (by decide)]; exact hP.2.2.1.2.2
    · unfold CDS
      rw [cI 941 (by decide) (by decide), cA 48 (by omega), cA 45 (by omega), cA 46 (by omega), kI 45, kA 44 (by decide) (by decide), kA 42 (by decide) (by decide), kA 43 (by decide) (by decide)]
      exact hP.2.2.2.1
    · rw [cI 106 (by decide) (by decide)]; exact hP.2.2.2.2
  have e2 : gA t 39 2 = r8 := by omega
  unfold m_x12_volumeTold_J50 m_x12_volumeTold_J68
  refine pc_rg (pc_if (fun _ => pc_rg (pc_if (fun c => pc_rg (pc_if (fun _ => pc_rdI (fun _ => J83 _ 0 ?_)) (fun c2 => absurd c c2))) (fun c => pc_rg (pc_if (fun c2 => absurd c2 c) (fun _ => J83 of 1 ?_))))) (fun c => absurd h.2.1.2 c))
  · rcases hx with q | q
    · exact Or.inl ⟨q.1, rfl, e2, e2⟩
    · omega
  · rcases hx with q | q
    · exact absurd q.2 c
    · exact Or.inr (Or.inl ⟨q.1, rfl, q.2.2, e2⟩)
/-- a new name, with the reference -/
theorem y_nl {s X : MS} (hN : NMS s X) (hT : TK s) (k : gI s 107 = 1) (l : gI s 109 - gI s 108 ≤ 6) (h5 : gI X 5 = 0) : ∀ (n : Nat) (v : Nat), (∀ u, u < v → ¬ SAM s u) → pc (m_x12_newName_L7 n (nv (lt s) (gI s 109 - gI s 108).toNat) (v : Int) X) (fun q => (∃ w : Nat, ((w : Int) < gI s 784 ∧ SAM s w) ∧ gI q.2 5 = 3 ∧ gI q.2 6 = gI X 38) ∨ ((∀ u : Nat, (u : Int) < gI s 784 → ¬ SAM s u) ∧ q.1 = nv (lt s) (gI s 109 - gI s 108).toNat ∧ q.2 = X)) := by
  refine fr_ind (fun _ _ => pc_none) (fun n ih v hv => ?_)
  show pc (m_x12_newName_b7 (m_x12_newName_L7 n) _ (v : Int) X) _
  unfold m_x12_newName_b7 m_x12_newName_J44
  have e2 : gA X 39 (Int.toNat 2) = gI s 784 := hN.1.1
  refine pc_rdI (fun _ => pc_rg (pc_rg (pc_if (fun c => pc_some (Or.inr ⟨fun u hu => hv u (by omega), rfl, rfl⟩)) (fun c => pc_rg (pc_if (fun _ => pc_rdL (pc_rgL (pc_rgL (pc_if (fun c2 => pc_bq (m_fail h5) (fun s18 h18 => ?_)) (fun c2 => ?_))))) (fun c2 => absurd h5 c2))))))
  · refine pc_mono (fk_x12_newName_L7 n _ _ s18 (FKp.rf s18)) (fun q hq => Or.inl ⟨v, ⟨by omega, (SAM_iff hN hT k l (by omega)).1 c2⟩, ?_⟩)
    have a := hq (by omega)
    exact ⟨a.1.trans h18.1, a.2.trans h18.2⟩
  · refine ih (v + 1) (fun u hu => ?_)
    by_cases z : u = v
    · rw [z]; exact fun q => c2 ((SAM_iff hN hT k l (by omega)).2 q)
    · exact hv u (by omega)
theorem y_new {s t : MS} (h : SY s t) (hN : NMS s t) : pc (m_x12_newName t) (fun q => (¬ NAM s ∧ gI q.2 5 = 1 ∧ gI q.2 6 = gI s 108) ∨ ((NAM s ∧ 6 < gI s 109 - gI s 108) ∧ gI q.2 5 = 1 ∧ gI q.2 6 = gI s 108 + 6) ∨ ((NAM s ∧ gI s 109 - gI s 108 ≤ 6) ∧ (∃ w : Nat, (w : Int) < gI s 784 ∧ SAM s w) ∧ gI q.2 5 = 3 ∧ gI q.2 6 = gI s 108) ∨ ((NAM s ∧ gI s 109 - gI s 108 ≤ 6) ∧ (∀ u : Nat, (u : Int) < gI s 784 → ¬ SAM s u) ∧ q.1 = nv (lt s) (gI s 109 - gI s 108).toNat ∧ NX s q.2)) := by
  unfold m_x12_newName
  refine pc_bn (fun q21 e21 => ?_)
  have hy := y_name h q21 e21
  have F : F_x12_name t q21.2 := fr_x12_name e21
  obtain ⟨z, X⟩ := q21
  dsimp only at hy F ⊢
  rcases hy with ⟨a, b⟩ | ⟨a, b⟩ | ⟨a, a2, a3, a4⟩
  · refine pc_mono (fk_x12_newName_L7 FU z 0 X (FKp.rf X)) (fun q hq => Or.inl ⟨a, ?_⟩)
    have d := hq (by omega)
    exact ⟨d.1.trans b.1, d.2.trans b.2⟩
  · refine pc_mono (fk_x12_newName_L7 FU z 0 X (FKp.rf X)) (fun q hq => Or.inr (Or.inl ⟨a, ?_⟩))
    have d := hq (by omega)
    exact ⟨d.1.trans b.1, d.2.trans b.2⟩
  · have N' : NMS s X := NMS_e hN rfl rfl (by rw [F.2.1 39 (by simp)]) (F.2.2.2 40 (by simp))
    rw [a2]
    refine pc_mono (y_nl N' h.2.2.1.1 a.1.1 a.2 a3.2.1.2 FU 0 (fun u hu => absurd hu (Nat.not_lt_zero u))) (fun q hq => ?_)
    rcases hq with ⟨w, g1, g2⟩ | ⟨g1, g2, g3⟩
    · rw [a4] at g2
      exact Or.inr (Or.inr (Or.inl ⟨a, ⟨w, g1⟩, g2⟩))
    · exact Or.inr (Or.inr (Or.inr ⟨a, g1, g2, by rw [g3]; exact a3⟩))
