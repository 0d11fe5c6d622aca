/-! ===== the formulas of a STORE on both sides ===== -/
def DONF (s' o : MS) : Prop := (SY s' o ∧ PLJ s' o ∧ gI s' 941 ≤ gI s' 108) ∨ BR s' o
/-- codes are laid behind those that are there -/
theorem m_L92 {p k0 : Int} {s T : MS} (hp : 0 ≤ p ∧ p ≤ 2) (c1 : gI s 941 = k0 + gI T 102 ∧ 0 ≤ gI T 102 ∧ 0 ≤ k0) (c2 : ∀ j : Nat, (j : Int) < gI T 102 → cr (gA s 48 (k0.toNat + j)) (gA T 101 j)) : ∀ (n : Nat) (x : Int) (X : MS), (0 ≤ x ∧ x ≤ gI T 102) → gI X 45 = k0 + x → (∀ i, i ≠ 45 → gI X i = gI T i) → (∀ k, k ≠ 44 → gA X k = gA T k) → (∀ k, gB X k = gB T k) → (∀ j : Nat, (j : Int) < k0 → gA X 44 j = gA T 44 j) → (∀ j : Nat, (j : Int) < x → cr (gA s 48 (k0.toNat + j)) (gA X 44 (k0.toNat + j))) → pc (m_x12_codesTold_L92 n p x X) (fun o => gI o 45 = gI s 941 ∧ (∀ i, i ≠ 45 → gI o i = gI T i) ∧ (∀ k, k ≠ 43 → k ≠ 44 → gA o k = gA T k) ∧ (∀ k, gB o k = gB T k) ∧ gA o 43 = upZ (gA T 43) p.toNat (gI s 941) ∧ (∀ j : Nat, (j : Int) < k0 → gA o 44 j = gA T 44 j) ∧ (∀ j : Nat, (j : Int) < gI T 102 → cr (gA s 48 (k0.toNat + j)) (gA o 44 (k0.toNat + j)))) := by
  refine fr_ind (fun _ _ _ _ _ _ _ _ _ => pc_none) (fun n ih x X hx h45 hI hA hB hl hd => ?_)
  show pc (m_x12_codesTold_b92 (m_x12_codesTold_L92 n) p x X) _
  unfold m_x12_codesTold_b92
  have e102 := hI 102 (by decide)
  refine pc_rg (pc_rg (pc_if (fun c => pc_inb (pc_stn (fun s8 e8 => pc_some ?_))) (fun c => pc_rdI (fun _ => pc_inb (pc_stn (fun s11 e11 => pc_stn (fun s12 e12 => ?_)))))))
  · refine ⟨by rw [(q_Ai e8 : gI s8 45 = gI X 45)]; omega, fun i hi => (q_Ai e8).trans (hI i hi), fun k a b => (q_Aa e8 a).trans (hA k b), fun k => (q_Ab e8).trans (hB k), ?_, fun j hj => ?_, fun j hj => ?_⟩
    · rw [(q_AA e8 : gA s8 43 = _), hA 43 (by decide), show gI X 45 = gI s 941 by omega]
    · rw [(q_Aa e8 (by decide) : gA s8 44 = gA X 44)]; exact hl j hj
    · rw [(q_Aa e8 (by decide) : gA s8 44 = gA X 44)]; exact hd j (by omega)
  · have i11 : gI s11 45 = gI X 45 := q_Ai e11
    have i12 : gI s12 45 = gI X 45 + 1 := by rw [(q_II e12 : gI s12 45 = gI s11 45 + 1), i11]
    have a12 : gA s12 44 = upZ (gA X 44) (gI X 45).toNat (gA X 101 x.toNat) := (q_Ia e12).trans (q_AA e11)
    refine ih (x + 1) s12 (by omega) (by omega) (fun i hi => (q_Ii e12 hi).trans ((q_Ai e11).trans (hI i hi))) (fun k hk => (q_Ia e12).trans ((q_Aa e11 hk).trans (hA k hk))) (fun k => (q_Ib e12).trans ((q_Ab e11).trans (hB k))) (fun j hj => ?_) (fun j hj => ?_)
    · rw [a12, upZ_n (by omega)]; exact hl j hj
    · by_cases z : (j : Int) < x
      · rw [a12, upZ_n (by omega)]; exact hd j z
      · rw [a12, show (gI X 45).toNat = k0.toNat + j by omega, upZ_s, hA 101 (by decide), show x.toNat = j by omega]
        exact c2 j (by omega)
theorem frg1 : ∀ n : Nat, (∀ s o, (RG1 n).1 s = some o → F_rg s o) ∧ (∀ s o, (RG1 n).2 s = some o → F_rg s o) := by
  refine fr_ind ⟨fun _ _ e => (by cases e), fun _ _ e => (by cases e)⟩ (fun n ih => ⟨fun s o e => ?_, fun s o e => ?_⟩)
  · exact fr_x6_readSum ih.1 ih.2 e
  · exact fr_x6_readPart ih.1 ih.2 e
theorem frg2 : ∀ n : Nat, (∀ s o, (RG2 n).1 s = some o → F_rg s o) ∧ (∀ s o, (RG2 n).2 s = some o → F_rg s o) := by
  refine fr_ind ⟨fun _ _ e => (by cases e), fun _ _ e => (by cases e)⟩ (fun n ih => ⟨fun s o e => ?_, fun s o e => ?_⟩)
  · exact fr_x6_readFact ih.1 ih.2 e
  · exact fr_x6_readTest ih.1 ih.2 e
theorem s_bf {p : Int} {s : MS} (h0 : gI s 100 = 0) : pc (m_x6_beginFormula p s) (fun o => (gA s 45 p.toNat = -1 ∧ ∃ s4, m_x6_advance s = some s4 ∧ (∀ i, i ≠ 105 → gI o i = gI s4 i) ∧ gI o 105 = p ∧ (∀ k, k ≠ 45 → gA o k = gA s4 k) ∧ gA o 45 = upZ (gA s4 45) p.toNat (gI s4 941)) ∨ (gA s 45 p.toNat ≠ -1 ∧ gI o 100 = 5 ∧ gI o 101 = gI s 108)) := by
  have J : ∀ X : MS, pc (m_x6_beginFormula_J20 p X) (fun o => ∃ s4, m_x6_advance X = some s4 ∧ (∀ i, i ≠ 105 → gI o i = gI s4 i) ∧ gI o 105 = p ∧ (∀ k, k ≠ 45 → gA o k = gA s4 k) ∧ gA o 45 = upZ (gA s4 45) p.toNat (gI s4 941)) := fun X => by
    unfold m_x6_beginFormula_J20
    refine pc_bn (fun s4 e4 => pc_stn (fun s5 e5 => pc_eqg (pc_inb (pc_stn (fun s8 e8 => pc_some ⟨s4, e4, fun i hi => (q_Ai e8).trans (q_Ii e5 hi), (q_Ai e8).trans (q_II e5), fun k hk => (q_Aa e8 hk).trans (q_Ia e5), ?_⟩)))))
    rw [(q_AA e8 : gA s8 45 = _), (q_Ia e5 : gA s5 45 = gA s4 45), (q_Ii e5 (by decide) : gI s5 941 = gI s4 941)]
  unfold m_x6_beginFormula
  refine pc_rdI (fun _ => pc_rg (pc_if (fun c => pc_mono (J s) (fun o ho => Or.inl ⟨c, ho⟩)) (fun c => pc_bq (s_fail h0) (fun q14 h14 => pc_mono (J q14.2) (fun o ho => Or.inr ⟨c, ?_⟩)))))
  obtain ⟨s4, e4, a, _⟩ := ho
  have F : F_x6_advance q14.2 s4 := fr_x6_advance e4
  rw [a 100 (by decide), a 101 (by decide), F.1 100 (by decide), F.1 101 (by decide)]
  exact h14
/-- a formula's end: its codes are laid -/
theorem y_J72 {p k0 : Int} {s s8 s' s41 t T : MS} (hp : 0 ≤ p ∧ p ≤ 2) (hP : PLJ s t) (hS : SY s' T) (hC : CO k0 s' T []) (hb : gI s' 941 ≤ gI s' 108) (hk : k0 = gI s 941) (f1 : ∀ i, i ≠ 105 → i ∉ [100, 101, 107, 108, 109, 110, 111] → gI s8 i = gI s i) (f2 : ∀ k, k ≠ 45 → gA s8 k = gA s k) (f45 : gA s8 45 = upZ (gA s 45) p.toNat k0) (hop : gI s' 106 = gI s8 106) (ap : AP s8 s') (F : F_rg s8 s') (G1 : gI T 45 = gI t 45) (G2 : ∀ k, k ≠ 101 → k ≠ 103 → gA T k = gA t k) (G3 : ∀ k, gB T k = gB t k) (e41 : sA s' 46 (upZ (gA s' 46) p.toNat (gI s' 941)) = s41) (hFK : FSr (gA s41 45) (gA s41 46) (gA s41 48) (gI s41 941)) : pc (m_x12_codesTold_J72 p T) (fun o => DONF s41 o) := by
  unfold m_x12_codesTold_J72
  obtain ⟨⟨c1, c2, c3⟩, c4, _⟩ := hC
  have c1 : gI s' 941 = k0 + gI T 102 + (0 : Int) := c1
  have n0 := hP.2.2.2.1
  refine pc_rg (pc_if (fun _ => pc_inb (pc_stn (fun s18 e18 => ?_))) (fun c => absurd hS.2.1.2 c))
  have k18 : ∀ k, k ≠ 42 → gA s18 k = gA T k := fun k hk => q_Aa e18 hk
  have i18 : ∀ i, gI s18 i = gI T i := fun i => q_Ai e18
  refine pc_mono (m_L92 (s := s') (T := s18) (k0 := k0) hp ⟨by rw [i18]; omega, by rw [i18]; exact c2, c3⟩ (fun j hj => by rw [k18 101 (by decide)]; exact c4 j (by rw [i18] at hj; exact hj)) FU 0 s18 ⟨Int.le_refl 0, by rw [i18]; exact c2⟩ (by rw [i18, G1, n0.1.1, hk]; omega) (fun _ _ => rfl) (fun _ _ => rfl) (fun _ => rfl) (fun _ _ => rfl) (fun j hj => by exfalso; omega)) (fun o ho => Or.inl ?_)
  obtain ⟨o45, oI, oA, oB, o43, ol, od⟩ := ho
  have F1 : ∀ k, k ≠ 48 → gA s' k = gA s8 k := fun k h => F.2.1 k (by simp; omega)
  have I41 : ∀ i, gI s41 i = gI s' i := fun i => q_Ai e41
  have A41 : ∀ k, k ≠ 46 → gA s41 k = gA s' k := fun k h => q_Aa e41 h
  have I0 : ∀ i, 112 ≤ i → i ≠ 941 → gI s41 i = gI s i := fun i a b => (I41 i).trans ((F.1 i (by simp; omega)).trans (f1 i (by omega) (by simp; omega)))
  have A0 : ∀ k, k ≠ 45 → k ≠ 46 → k ≠ 48 → gA s41 k = gA s k := fun k a b c => (A41 k b).trans ((F1 k c).trans (f2 k a))
  have T0 : ∀ k, k ≠ 42 → k ≠ 43 → k ≠ 44 → k ≠ 101 → k ≠ 103 → gA o k = gA t k := fun k a b c d e => (oA k b c).trans ((k18 k a).trans (G2 k d e))
  have B0 : ∀ k, gB o k = gB t k := fun k => (oB k).trans ((q_Ab e18).trans (G3 k))
  have q42 : gA s18 42 = upZ (gA t 42) p.toNat k0 := by
    rw [(q_AA e18 : gA s18 42 = _), G2 42 (by decide) (by decide), G1, n0.1.1, hk]
  have c45 : gA s41 45 = upZ (gA s 45) p.toNat k0 := (A41 45 (by decide)).trans ((F1 45 (by decide)).trans f45)
  have c46 : gA s41 46 = upZ (gA s 46) p.toNat (gI s' 941) := by
    rw [(q_AA e41 : gA s41 46 = _), F1 46 (by decide), f2 46 (by decide)]
  refine ⟨SY_c (SY_f hS ((oI 2 (by decide)).trans (i18 2)) ((oI 3 (by decide)).trans (i18 3)) ((oI 4 (by decide)).trans (i18 4)) ((oI 5 (by decide)).trans (i18 5)) (fun k hk => (oA k (by omega) (by omega)).trans (k18 k (by omega)))) (fun i _ => I41 i) (A41 4 (by decide)) (A41 6 (by decide)), ⟨NMS_e hP.1 (I0 784 (by decide) (by decide)) (A0 40 (by decide) (by decide) (by decide)) (by rw [T0 39 (by decide) (by decide) (by decide) (by decide) (by decide)]) (B0 40), ?_, ?_, ⟨⟨?_, ?_⟩, fun j hj => ?_, fun w hw => ?_, hFK⟩, ?_⟩, by rw [I41, I41]; exact hb⟩
  · unfold ACS
    rw [T0 39 (by decide) (by decide) (by decide) (by decide) (by decide), T0 41 (by decide) (by decide) (by decide) (by decide) (by decide), I0 785 (by decide) (by decide), A0 41 (by decide) (by decide) (by decide), A0 42 (by decide) (by decide) (by decide), A0 43 (by decide) (by decide) (by decide), A0 44 (by decide) (by decide) (by decide)]
    exact hP.2.1
  · unfold HDS
    rw [T0 39 (by decide) (by decide) (by decide) (by decide) (by decide), I0 780 (by decide) (by decide), I0 781 (by decide) (by decide), I0 782 (by decide) (by decide)]
    exact hP.2.2.1
  · rw [o45, I41]
  · rw [I41]; omega
  · rw [A41 48 (by decide)]
    rw [I41] at hj
    by_cases z : (j : Int) < k0
    · rw [ap.2 j (by rw [f1 941 (by decide) (by decide)]; omega), f2 48 (by decide), ol j z, k18 44 (by decide), G2 44 (by decide) (by decide)]
      exact n0.2.1 j (by omega)
    · have d := od (j - k0.toNat) (by rw [i18]; omega)
      rw [show k0.toNat + (j - k0.toNat) = j by omega] at d
      exact d
  · rw [oA 42 (by decide) (by decide), q42, c45, c46, o43]
    by_cases z : w = p.toNat
    · rw [z, upZ_s, upZ_s, upZ_s, upZ_s]
      exact ⟨rfl, fun _ => rfl⟩
    · rw [upZ_n z, upZ_n z, upZ_n z, upZ_n z, k18 43 (by decide), G2 43 (by decide) (by decide)]
      exact n0.2.2.1 w hw
  · rw [I41, hop, f1 106 (by decide) (by decide)]; exact hP.2.2.2.2
