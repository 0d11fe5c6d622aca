/-! ===== the formulas of a STORE on both sides ===== -/
def DONF (s' o : MS) : Prop := (SY s' o ∧ PLJ s' o ∧ gI s' 941 ≤ gI s' 108) ∨ BR s' o
/-- codes are laid behind those that are there -/
theorem m_L92 {p k0 : Int} {s T : MS} (hp : 0 ≤ p ∧ p ≤ 2) (c1 : gI s 941 = k0 + gI T 102 ∧ 0 ≤ gI T 102 ∧ 0 ≤ k0) (c2 : ∀ j : Nat, (j : Int) < gI T 102 → cr (gA s 48 (k0.toNat + j)) (gA T 101 j)) : ∀ (n : Nat) (x : Int) (X : MS), (0 ≤ x ∧ x ≤ gI T 102) → gI X 45 = k0 + x → (∀ i, i ≠ 45 → gI X i = gI T i) → (∀ k, k ≠ 44 → gA X k = gA T k) → (∀ k, gB X k = gB T k) → (∀ j : Nat, (j : Int) < k0 → gA X 44 j = gA T 44 j) → (∀ j : Nat, (j : Int) < x → cr (gA s 48 (k0.toNat + j)) (gA X 44 (k0.toNat + j))) → pc (m_x12_codesTold_L92 n p x X) (fun o => gI o 45 = gI s 941 ∧ (∀ i, i ≠ 45 → gI o i = gI T i) ∧ (∀ k, k ≠ 43 → k ≠ 44 → gA o k = gA T k) ∧ (∀ k, gB o k = gB T k) ∧ gA o 43 = upZ (gA T 43) p.toNat (gI s 941) ∧ (∀ j : Nat, (j : Int) < k0 → gA o 44 j = gA T 44 j) ∧ (∀ j : Nat, (j : Int) < gI T 102 → cr (gA s 48 (k0.toNat + j)) (gA o 44 (k0.toNat + j)))) := by
  refine fr_ind (fun _ _ _ _ _ _ _ _ _ => pc_none) (fun n ih x X hx h45 hI hA hB hl hd => ?_)
  show pc (m_x12_codesTold_b92 (m_x12_codesTold_L92 n) p x X) _
  unfold m_x12_codesTold_b92
  have e102 := hI 102 (by decide)
  refine pc_rg (pc_rg (pc_if (fun c => pc_inb (pc_stn (fun s8 e8 => pc_some ?_))) (fun c => pc_rdI (fun _ => pc_inb (pc_stn (fun s11 e11 => pc_stn (fun s12 e12 => ?_)))))))
  · refine ⟨by rw [(q_Ai e8 : gI s8 45 = gI X 45)]; omega, fun i hi => (q_Ai e8).trans (hI i hi), fun k a b => (q_Aa e8 a).trans (hA k b), fun k => (q_Ab e8).trans (hB k), ?_, fun j hj => ?_, fun j hj => ?_⟩
    · rw [(q_AA e8 : gA s8 43 = _), hA 43 (by decide), show gI X 45 = gI s 941 by omega]
    · rw [(q_Aa e8 (by decide) : gA s8 44 = gA X 44)]; exact hl j hj
    · rw [(q_Aa e8 (by decide) : gA s8 44 = gA X 44)]; exact hd j (by omega)
  · have i11 : gI s11 45 = gI X 45 := q_Ai e11
    have i12 : gI s12 45 = gI X 45 + 1 := by rw [(q_II e12 : gI s12 45 = gI s11 45 + 1), i11]
    have a12 : gA s12 44 = upZ (gA X 44) (gI X 45).toNat (gA X 101 x.toNat) := (q_Ia e12).trans (q_AA e11)
    refine ih (x + 1) s12 (by omega) (by omega) (fun i hi => (q_Ii e12 hi).trans ((q_Ai e11).trans (hI i hi))) (fun k hk => (q_Ia e12).trans ((q_Aa e11 hk).trans (hA k hk))) (fun k => (q_Ib e12).trans ((q_Ab e11).trans (hB k))) (fun j hj => ?_) (fun j hj => ?_)
    · rw [a12, upZ_n (by omega)]; exact hl j hj
    · by_cases z : (j : Int) < x
      · rw [a12, upZ_n (by omega)]; exact hd j z
      · rw [a12, show (gI X 45).toNat = k0.toNat + j by omega, upZ_s, hA 101 (by decide), show x.toNat = j by omega]
        exact c2 j (by omega)
theorem frg1 : ∀ n : Nat, (∀ s o, (RG1 n).1 s = some o → F_rg s o) ∧ (∀ s o, (RG1 n).2 s = some o → F_rg s o) := by
  refine fr_ind ⟨fun _ _ e => (by cases e), fun _ _ e => (by cases e)⟩ (fun n ih => ⟨fun s o e => ?_, fun s o e => ?_⟩)
  · exact fr_x6_readSum ih.1 ih.2 e
  · exact fr_x6_readPart ih.1 ih.2 e
theorem frg2 : ∀ n : Nat, (∀ s o, (RG2 n).1 s = some o → F_rg s o) ∧ (∀ s o, (RG2 n).2 s = some o → F_rg s o) := by
  refine fr_ind ⟨fun _ _ e => (by cases e), fun _ _ e => (by cases e)⟩ (fun n ih => ⟨fun s o e => ?_, fun s o e => ?_⟩)
  · exact fr_x6_readFact ih.1 ih.2 e
  · exact fr_x6_readTest ih.1 ih.2 e
theorem s_bf {p : Int} {s : MS} (h0 : gI s 100 = 0) : pc (m_x6_beginFormula p s) (fun o => (gA s 45 p.toNat = -1 ∧ ∃ s4, m_x6_advance s = some s4 ∧ (∀ i, i ≠ 105 → gI o i = gI s4 i) ∧ gI o 105 = p ∧ (∀ k, k ≠ 45 → gA o k = gA s4 k) ∧ gA o 45 = upZ (gA s4 45) p.toNat (gI s4 941)) ∨ (gA s 45 p.toNat ≠ -1 ∧ gI o 100 = 5 ∧ gI o 101 = gI s 108)) := by
  have J : ∀ X : MS, pc (m_x6_beginFormula_J20 p X) (fun o => ∃ s4, m_x6_advance X = some s4 ∧ (∀ i, i ≠ 105 → gI o i = gI s4 i) ∧ gI o 105 = p ∧ (∀ k, k ≠ 45 → gA o k = gA s4 k) ∧ gA o 45 = upZ (gA s4 45) p.toNat (gI s4 941)) := fun X => by
    unfold m_x6_beginFormula_J20
    refine pc_bn (fun s4 e4 => pc_stn (fun s5 e5 => pc_eqg (pc_inb (pc_stn (fun s8 e8 => pc_some ⟨s4, e4, fun i hi => (q_Ai e8).trans (q_Ii e5 hi), (q_Ai e8).trans (q_II e5), fun k hk => (q_Aa e8 hk).trans (q_Ia e5), ?_⟩)))))
    rw [(q_AA e8 : gA s8 45 = _), (q_Ia e5 : gA s5 45 = gA s4 45), (q_Ii e5 (by decide) : gI s5 941 = gI s4 941)]
  unfold m_x6_beginFormula
  refine pc_rdI (fun _ => pc_rg (pc_if (fun c => pc_mono (J s) (fun o ho => Or.inl ⟨c, ho⟩)) (fun c => pc_bq (s_fail h0) (fun q14 h14 => pc_mono (J q14.2) (fun o ho => Or.inr ⟨c, ?_⟩)))))
  obtain ⟨s4, e4, a, _⟩ := ho
  have F : F_x6_advance q14.2 s4 := fr_x6_advance e4
  rw [a 100 (by decide), a 101 (by decide), F.1 100 (by decide), F.1 101 (by decide)]
  exact h14
/-- a formula's end: its codes are laid -/
theorem y_J72 {p k0 : Int} {s s8 s' s41 t T : MS} (hp : 0 ≤ p ∧ p ≤ 2) (hP : PLJ s t) (hS : SY s' T) (hC : CO k0 s' T []) (hb : gI s' 941 ≤ gI s' 108) (hk : k0 = gI s 941) (f1 : ∀ i, i ≠ 105 → i ∉ [100, 101, 107, 108, 109, 110, 111] → gI s8 i = gI s i) (f2 : ∀ k, k ≠ 45 → gA s8 k = gA s k) (f45 : gA s8 45 = upZ (gA s 45) p.toNat k0) (hop : gI s' 106 = gI s8 106) (ap : AP s8 s') (F : F_rg s8 s') (G1 : gI T 45 = gI t 45) (G2 : ∀ k, k ≠ 101 → k ≠ 103 → gA T k = gA t k) (G3 : ∀ k, gB T k = gB t k) (e41 : sA s' 46 (upZ (gA s' 46) p.toNat (gI s' 941)) = s41) (hFK : FSr (gA s41 45) (gA s41 46) (gA s41 48) (gI s41 941)) : pc (m_x12_codesTold_J72 p T) (fun o => DONF s41 o) := by
  unfold m_x12_codesTold_J72
  obtain ⟨⟨c1, c2, c3⟩, c4, _⟩ := hC
  have c1 : gI s' 941 = k0 + gI T 102 + (0 : Int) := c1
  have n0 := hP.2.2.2.1
  refine pc_rg (pc_if (fun _ => pc_inb (pc_stn (fun s18 e18 => ?_))) (fun c => absurd hS.2.1.2 c))
  have k18 : ∀ k, k ≠ 42 → gA s18 k = gA T k := fun k hk => q_Aa e18 hk
  have i18 : ∀ i, gI s18 i = gI T i := fun i => q_Ai e18
  refine pc_mono (m_L92 (s := s') (T := s18) (k0 := k0) hp ⟨by rw [i18]; omega, by rw [i18]; exact c2, c3⟩ (fun j hj => by rw [k18 101 (by decide)]; exact c4 j (by rw [i18] at hj; exact hj)) FU 0 s18 ⟨Int.le_refl 0, by rw [i18]; exact c2⟩ (by rw [i18, G1, n0.1.1, hk]; omega) (fun _ _ => rfl) (fun _ _ => rfl) (fun _ => rfl) (fun _ _ => rfl) (fun j hj => by exfalso; omega)) (fun o ho => Or.inl ?_)
  obtain ⟨o45, oI, oA, oB, o43, ol, od⟩ := ho
  have F1 : ∀ k, k ≠ 48 → gA s' k = gA s8 k := fun k h => F.2.1 k (by simp; omega)
  have I41 : ∀ i, gI s41 i = gI s' i := fun i => q_Ai e41
  have A41 : ∀ k, k ≠ 46 → gA s41 k = gA s' k := fun k h => q_Aa e41 h
  have I0 : ∀ i, 112 ≤ i → i ≠ 941 → gI s41 i = gI s i := fun i a b => (I41 i).trans ((F.1 i (by simp; omega)).trans (f1 i (by omega) (by simp; omega)))
  have A0 : ∀ k, k ≠ 45 → k ≠ 46 → k ≠ 48 → gA s41 k = gA s k := fun k a b c => (A41 k b).trans ((F1 k c).trans (f2 k a))
  have T0 : ∀ k, k ≠ 42 → k ≠ 43 → k ≠ 44 → k ≠ 101 → k ≠ 103 → gA o k = gA t k := fun k a b c d e => (oA k b c).trans ((k18 k a).trans (G2 k d e))
  have B0 : ∀ k, gB o k = gB t k := fun k => (oB k).trans ((q_Ab e18).trans (G3 k))
  have q42 : gA s18 42 = upZ (gA t 42) p.toNat k0 := by
    rw [(q_AA e18 : gA s18 42 = _), G2 42 (by decide) (by decide), G1, n0.1.1, hk]
  have c45 : gA s41 45 = upZ (gA s 45) p.toNat k0 := (A41 45 (by decide)).trans ((F1 45 (by decide)).trans f45)
  have c46 : gA s41 46 = upZ (gA s 46) p.toNat (gI s' 941) := by
    rw [(q_AA e41 : gA s41 46 = _), F1 46 (by decide), f2 46 (by decide)]
  refine ⟨SY_c (SY_f hS ((oI 2 (by decide)).trans (i18 2)) ((oI 3 (by decide)).trans (i18 3)) ((oI 4 (by decide)).trans (i18 4)) ((oI 5 (by decide)).trans (i18 5)) (fun k hk => (oA k (by omega) (by omega)).trans (k18 k (by omega)))) (fun i _ => I41 i) (A41 4 (by decide)) (A41 6 (by decide)), ⟨NMS_e hP.1 (I0 784 (by decide) (by decide)) (A0 40 (by decide) (by decide) (by decide)) (by rw [T0 39 (by decide) (by decide) (by decide) (by decide) (by decide)]) (B0 40), ?_, ?_, ⟨⟨?_, ?_⟩, fun j hj => ?_, fun w hw => ?_, hFK⟩, ?_⟩, by rw [I41, I41]; exact hb⟩
  · unfold ACS
    rw [T0 39 (by decide) (by decide) (by decide) (by decide) (by decide), T0 41 (by decide) (by decide) (by decide) (by decide) (by decide), I0 785 (by decide) (by decide), A0 41 (by decide) (by decide) (by decide), A0 42 (by decide) (by decide) (by decide), A0 43 (by decide) (by decide) (by decide), A0 44 (by decide) (by decide) (by decide)]
    exact hP.2.1
  · unfold HDS
    rw [T0 39 (by decide) (by decide) (by decide) (by decide) (by decide), I0 780 (by decide) (by decide), I0 781 (by decide) (by decide), I0 782 (by decide) (by decide)]
    exact hP.2.2.1
  · rw [o45, I41]
  · rw [I41]; omega
  · rw [A41 48 (by decide)]
    rw [I41] at hj
    by_cases z : (j : Int) < k0
    · rw [ap.2 j (by rw [f1 941 (by decide) (by decide)]; omega), f2 48 (by decide), ol j z, k18 44 (by decide), G2 44 (by decide) (by decide)]
      exact n0.2.1 j (by omega)
    · have d := od (j - k0.toNat) (by rw [i18]; omega)
      rw [show k0.toNat + (j - k0.toNat) = j by omega] at d
      exact d
  · rw [oA 42 (by decide) (by decide), q42, c45, c46, o43]
    by_cases z : w = p.toNat
    · rw [z, upZ_s, upZ_s, upZ_s, upZ_s]
      exact ⟨rfl, fun _ => rfl⟩
    · rw [upZ_n z, upZ_n z, upZ_n z, upZ_n z, k18 43 (by decide), G2 43 (by decide) (by decide)]
      exact n0.2.2.1 w hw
  · rw [I41, hop, f1 106 (by decide) (by decide)]; exact hP.2.2.2.2
/-! ===== a formula of a STORE, whole ===== -/
theorem y_formula {p : Int} {s s8 s' s41 t : MS} (hp : 0 ≤ p ∧ p ≤ 2) (h107 : gI s 107 ≠ 0) (h : NX s t) (hP : PLJ s t) (hb : gI s 941 ≤ gI s 108) (e1 : m_x6_beginFormula p s = some s8) (e2 : (p = 1 ∧ m_x6_readTestC s8 = some s') ∨ (p ≠ 1 ∧ m_x6_readSumC s8 = some s')) (hop : gI s' 106 = gI s8 106) (e41 : sA s' 46 (upZ (gA s' 46) p.toNat (gI s' 941)) = s41) : pc (m_x12_codesTold p (gI s 108) t) (fun o => DONF s41 o) := by
  have F : F_rg s8 s' := by
    rcases e2 with q | q
    · exact (frg2 8).2 s8 s' q.2
    · exact (frg1 8).1 s8 s' q.2
  have ap : AP s8 s' := by
    rcases e2 with q | q
    · exact (ap_RG2 8).2 s8 s' q.2
    · exact (ap_RG1 8).1 s8 s' q.2
  have kf : FKp 100 101 s8 s' := by
    rcases e2 with q | q
    · exact (fk_RG2 8).2 s8 s' q.2
    · exact (fk_RG1 8).1 s8 s' q.2
  have k41 : FKp 100 101 s' s41 := FKp.a e41
  have ew : gA t 42 p.toNat = gA s 45 p.toNat := (hP.2.2.2.1.2.2.1 p.toNat (by omega)).1
  unfold m_x12_codesTold
  refine pc_rg (pc_if (fun _ => pc_rdI (fun _ => pc_rg (pc_if (fun c => ?_) (fun c => pc_bq (m_fail h.2.1.2) (fun t40 h40 => ?_))))) (fun c => absurd h.2.1.2 c))
  · rcases s_bf h.2.1.1 s8 e1 with ⟨_, s4, e4, a1, a2, a3, a4⟩ | ⟨q, _⟩
    · have h4 := y_adv h s4 e4
      have b4 := TK_le h.2.2.1.1
      have f4 : FC s s4 := Fr_w (fr_x6_advance e4) (by decide)
      have S8 : SY s8 t := SY_c h4.1 (fun i hi => a1 i (by omega)) (a3 4 (by decide)) (a3 6 (by decide))
      have x941 : gI s8 941 = gI s 941 := (a1 941 (by decide)).trans (f4.1 941 (by decide))
      have x106 : gI s8 106 = 0 := (a1 106 (by decide)).trans ((f4.1 106 (by decide)).trans hP.2.2.2.2)
      have x108 : gI s8 108 = gI s4 108 := a1 108 (by decide)
      have n9 := hP.2.2.2.1.1
      unfold m_x12_codesTold_J23
      refine pc_rg (pc_if (fun _ => pc_stn (fun s23 e23 => pc_stn (fun s24 e24 => pc_stn (fun s25 e25 => pc_stn (fun s26 e26 => pc_stn (fun s27 e27 => ?_)))))) (fun c => absurd h.2.1.2 c))
      have i27 : ∀ i, i ≠ 48 → i ≠ 102 → i ≠ 104 → i ≠ 105 → i ≠ 106 → gI s27 i = gI t i := fun i b1 b2 b3 b4 b5 => (q_Ii e27 b5).trans ((q_Ii e26 b4).trans ((q_Ii e25 b3).trans ((q_Ii e24 b2).trans (q_Ii e23 b1))))
      have A27 : ∀ k, gA s27 k = gA t k := fun k => (q_Ia e27).trans ((q_Ia e26).trans ((q_Ia e25).trans ((q_Ia e24).trans (q_Ia e23))))
      have B27 : ∀ k, gB s27 k = gB t k := fun k => (q_Ib e27).trans ((q_Ib e26).trans ((q_Ib e25).trans ((q_Ib e24).trans (q_Ib e23))))
      have v48 : gI s27 48 = p := (q_Ii e27 (by decide)).trans ((q_Ii e26 (by decide)).trans ((q_Ii e25 (by decide)).trans ((q_Ii e24 (by decide)).trans (q_II e23))))
      have v102 : gI s27 102 = 0 := (q_Ii e27 (by decide)).trans ((q_Ii e26 (by decide)).trans ((q_Ii e25 (by decide)).trans (q_II e24)))
      have v104 : gI s27 104 = 0 := (q_Ii e27 (by decide)).trans ((q_Ii e26 (by decide)).trans (q_II e25))
      have v105 : gI s27 105 = 0 := (q_Ii e27 (by decide)).trans (q_II e26)
      have v106 : gI s27 106 = 0 := q_II e27
      have S27 : SY s8 s27 := SY_f S8 (i27 2 (by decide) (by decide) (by decide) (by decide) (by decide)) (i27 3 (by decide) (by decide) (by decide) (by decide) (by decide)) (i27 4 (by decide) (by decide) (by decide) (by decide) (by decide)) (i27 5 (by decide) (by decide) (by decide) (by decide) (by decide)) (fun k _ => A27 k)
      have O27 : OPN s8 s27 := ⟨⟨by rw [v105, x106], by omega⟩, by rw [v48, a2], by omega⟩
      have C27 : CO (gI s 941) s8 s27 [] := ⟨⟨by rw [x941, v102]; show gI s 941 = gI s 941 + 0 + (0 : Int); omega, by omega, by omega⟩, fun j hj => by exfalso; omega, trivial⟩
      have n109 : gI s 108 < gI s 109 := by
        rcases h.2.2.1.1.2.2 with q | q
        · exact absurd q.2.1 h107
        · exact q.2.2.1
      have l4 := h4.2
      have n0 := hP.2.2.2.1
      have c941 : gI s41 941 = gI s' 941 := q_Ai e41
      have a48 : gA s41 48 = gA s' 48 := q_Aa e41 (by decide)
      have FK : gI s' 100 = 0 → gI s' 941 < 1600 → FSr (gA s41 45) (gA s41 46) (gA s41 48) (gI s41 941) := fun z0 z1 => by
        have ap1 := ap.1
        have k45 : gA s41 45 = upZ (gA s 45) p.toNat (gI s 941) := by
          rw [(q_Aa e41 (by decide) : gA s41 45 = gA s' 45), F.2.1 45 (by decide), a4, f4.2.1 45 (by simp), f4.1 941 (by decide)]
        have k46 : gA s41 46 = upZ (gA s 46) p.toNat (gI s' 941) := by
          rw [(q_AA e41 : gA s41 46 = _), F.2.1 46 (by decide), a3 46 (by decide), f4.2.1 46 (by simp)]
        intro nz
        by_cases p1 : p = 1
        · have i1 : p.toNat = 1 := by omega
          rw [k45, k46, i1, upZ_s, upZ_s, c941, a48]
          rcases e2 with q | q
          · have G := sg_testC (s := s8) s' q.2
            obtain ⟨g1, g2⟩ := G.2.2.2 (by omega) z1 z0
            rw [x941] at g1 g2 ap1
            obtain ⟨⟨Q, q1, q2⟩, q3⟩ := g2 []
            obtain ⟨x, R, rfl, hx, hR⟩ := q1
            have hR' : R = [] := hR
            rw [hR', hx rfl] at q2
            refine ⟨⟨by omega, by omega, Int.le_refl _⟩, fun j j1 j2 => ?_, q2, fun n hn => ?_⟩
            · have o := g1 j j1 j2
              rw [a2, p1] at o
              exact o rfl
            · obtain ⟨R2, r1, r2⟩ := q3 n hn
              exact ⟨R2, r1, by have : ((([] : List Bool).length : Nat) : Int) = 0 := rfl; omega⟩
          · exact absurd p1 q.1
        · have i1 : 1 ≠ p.toNat := by omega
          rw [k45, k46, upZ_n i1, upZ_n i1, c941, a48]
          rw [k45, upZ_n i1] at nz
          obtain ⟨⟨o1, o2, o3⟩, o4⟩ := n0.2.2.2 nz
          refine ⟨⟨o1, o2, by omega⟩, FOK_c o1 o4 (fun j hj => ?_)⟩
          rw [ap.2 j (by omega), a3 48 (by decide), f4.2.1 48 (by simp)]
      have fin : ∀ T : MS, (gI s' 100 = 0 ∧ gI s' 941 < 1600) → SY s' T → CO (gI s 941) s' T [] → gI s' 941 ≤ gI s' 108 → Fr [2, 4, 5, 6, 10, 102, 104, 105, 106] [101, 103] [] [] s27 T → pc (m_x12_codesTold_J72 p T) (fun o => DONF s41 o) := fun T hZ hS hC hb' G =>
        y_J72 hp hP hS hC hb' rfl (fun i b1 b2 => (a1 i b1).trans (f4.1 i b2)) (fun k hk => (a3 k hk).trans (f4.2.1 k (by simp))) (by rw [a4, f4.2.1 45 (by simp), f4.1 941 (by decide)]) hop ap F ((G.1 45 (by decide)).trans (i27 45 (by decide) (by decide) (by decide) (by decide) (by decide))) (fun k b1 b2 => (G.2.1 k (by simp; omega)).trans (A27 k)) (fun k => (G.2.2.2 k (by simp)).trans (B27 k)) e41 (FK hZ.1 hZ.2)
      have bad : ∀ T : MS, BR s' T → pc (m_x12_codesTold_J72 p T) (fun o => DONF s41 o) := fun T hB => by
        unfold m_x12_codesTold_J72
        exact pc_rg (pc_if (fun c => absurd c (by rw [hB.2.1]; exact hB.1)) (fun _ => pc_some (Or.inr (BR_go hB k41 (FKp.rf T)))))
      refine pc_rg (pc_if (fun c1 => pc_bn (fun T eT => ?_)) (fun c1 => pc_bn (fun T eT => ?_)))
      · rcases e2 with q | q
        · rcases y_test (k0 := gI s 941) S27 O27 v104 v106 C27 (by omega) q.2 T eT with ⟨w, r⟩ | r
          · exact fin T (by have tk := r.1.2.2.1.1.1; have w3 := w.2.2; exact ⟨w.1, by omega⟩) r.1 r.2.2.2.1 r.2.2.2.2.1 (fr_x12_qTest eT)
          · exact bad T r
        · exact absurd c1 q.1
      · rcases e2 with q | q
        · exact absurd q.1 c1
        · rcases y_sum (k0 := gI s 941) S27 O27 (by omega) (fun z => by exfalso; omega) C27 (by omega) q.2 T eT with ⟨w, r⟩ | r
          · exact fin T (by have tk := r.1.2.2.1.1.1; have w3 := w.2.2.2; exact ⟨w.1, by omega⟩) r.1 r.2.2.2.1 r.2.2.2.2 (fr_x12_qSums eT)
          · exact bad T r
    · exact absurd (ew.symm.trans c) q
  · rcases s_bf h.2.1.1 s8 e1 with ⟨q, _⟩ | ⟨_, q⟩
    · exact absurd (ew.trans q) c
    · unfold m_x12_codesTold_J23
      have hB : BR s8 t40 := BR_mk (by decide) q h40
      exact pc_rg (pc_if (fun c2 => absurd c2 (by rw [h40.1]; decide)) (fun _ => pc_some (Or.inr (BR_go hB (kf.tr k41) (FKp.rf t40)))))
/-! ===== a statement on both sides ===== -/
/-- the class's statement is read, the reference's too -/
def STD (s s' o : MS) : Prop := (SY s' o ∧ PLJ s' o ∧ gI s' 941 ≤ gI s' 108 ∧ gI o 46 = gI s' 783 ∧ gI s' 783 = gI s 783 + 1) ∨ BR s' o
theorem fk_J244 {s : MS} : pc (m_x6_readStatement_J244 s) (fun o => FKp 100 101 s o) := by
  unfold m_x6_readStatement_J244
  exact pc_bn (fun s3 e3 => pc_stn (fun s4 e4 => pc_some ((fk_x6_expectSign s3 e3).tr (FKp.i e4 (by decide) (by decide)))))
theorem y_J244 {s u s' t : MS} (hu : DONF u t) (h7 : gI u 783 = gI s 783) (h46 : gI t 46 = gI s 783) (e : m_x6_readStatement_J244 u = some s') : pc (m_x12_statementTold_J178 t) (fun o => STD s s' o) := by
  have g : pc (m_x6_readStatement_J244 u) (fun o => ∃ s3, m_x6_expectSign 59 u = some s3 ∧ sI s3 783 (gI s3 783 + 1) = o) := by
    unfold m_x6_readStatement_J244
    exact pc_bn (fun s3 e3 => pc_stn (fun s4 e4 => pc_some ⟨s3, e3, e4⟩))
  obtain ⟨s3, e3, e4⟩ := g s' e
  unfold m_x12_statementTold_J178
  refine pc_bn (fun t3 f3 => pc_stn (fun t4 f4 => pc_some ?_))
  have G3 : F_x12_asksSign t t3 := fr_x12_asksSign f3
  have C3 : F_x6_expectSign u s3 := fr_x6_expectSign e3
  have kc : FKp 100 101 s3 s' := FKp.i e4 (by decide) (by decide)
  have kt : FKp 5 6 t3 t4 := FKp.i f4 (by decide) (by decide)
  rcases hu with ⟨hS, hP, hb⟩ | hB
  · have r := y_expSign hS (by decide) e3 t3 f3
    by_cases z : gI s3 100 = 0
    · have y3 := RS_z r z
      have n := g_sign hS e3 z
      have P3 : PLJ s3 t3 := PL_f hP C3 (Fr_w G3 (by decide))
      have v4 : gI t4 46 = gI t3 46 + 1 := q_II f4
      have v4' : gI s' 783 = gI s3 783 + 1 := q_II e4
      have c783 : gI s3 783 = gI u 783 := C3.1 783 (by decide)
      have c941 : gI s3 941 = gI u 941 := C3.1 941 (by decide)
      have g46 : gI t3 46 = gI t 46 := G3.1 46 (by decide)
      have sI' : ∀ i, i ≠ 783 → gI s' i = gI s3 i := fun i hi => q_Ii e4 hi
      have sA' : ∀ k, gA s' k = gA s3 k := fun k => q_Ia e4
      have tI' : ∀ i, i ≠ 46 → gI t4 i = gI t3 i := fun i hi => q_Ii f4 hi
      have tA' : ∀ k, gA t4 k = gA t3 k := fun k => q_Ia f4
      have tB' : ∀ k, gB t4 k = gB t3 k := fun k => q_Ib f4
      refine Or.inl ⟨SY_f (SY_c y3 (fun i hi => sI' i (by omega)) (sA' 4) (sA' 6)) (tI' 2 (by decide)) (tI' 3 (by decide)) (tI' 4 (by decide)) (tI' 5 (by decide)) (fun k _ => tA' k), ?_, ?_, by omega, by omega⟩
      · unfold PLJ NMS ACS HDS CDS
        rw [sA' 40, sA' 41, sA' 42, sA' 43, sA' 44, sA' 45, sA' 46, sA' 48, tA' 39, tA' 41, tA' 42, tA' 43, tA' 44, tB' 40, sI' 784 (by decide), sI' 785 (by decide), sI' 780 (by decide), sI' 781 (by decide), sI' 782 (by decide), sI' 941 (by decide), sI' 106 (by decide), tI' 45 (by decide)]
        exact P3
      · rw [sI' 941 (by decide), sI' 108 (by decide)]; omega
    · exact Or.inr (BR_go (RS_n r z) kc kt)
  · exact Or.inr (BR_go (BR_go hB (fk_x6_expectSign s3 e3) (fk_x12_asksSign t3 f3)) kc kt)
/-- which word is at the head -/
def HDW (s : MS) (hd : Int) : Prop := (gI s 107 = 1 ∧ hd = gI s 110) ∨ (gI s 107 ≠ 1 ∧ hd = -1)
def STC (s : MS) (hd : Int) (o : MS) : Prop := ((hd = 2 ∨ hd = 3) ∧ ∃ u, m_x6_readVolume hd s = some u ∧ m_x6_readStatement_J244 u = some o) ∨ ((hd = 5 ∨ hd = 6) ∧ ∃ u, m_x6_readChange hd s = some u ∧ m_x6_readStatement_J244 u = some o) ∨ ((hd = 7 ∨ hd = 8 ∨ hd = 9) ∧ ∃ s8 u u2, m_x6_beginFormula (hd - 7) s = some s8 ∧ ((hd - 7 = 1 ∧ m_x6_readTestC s8 = some u) ∨ (hd - 7 ≠ 1 ∧ m_x6_readSumC s8 = some u)) ∧ sA u 46 (upZ (gA u 46) (hd - 7).toNat (gI u 941)) = u2 ∧ m_x6_readStatement_J244 u2 = some o) ∨ (hd = 10 ∧ ∃ u q u2, m_x6_advance s = some u ∧ m_x6_expectNumber 0 100 u = some q ∧ sI q.2 782 q.1 = u2 ∧ m_x6_readStatement_J244 u2 = some o) ∨ ((hd < 2 ∨ hd = 4 ∨ 10 < hd) ∧ gI o 100 = 1 ∧ gI o 101 = gI s 108)
theorem s_stmt {s : MS} (h0 : gI s 100 = 0) (h7 : gI s 783 ≠ 0) : pc (m_x6_readStatement s) (fun o => ∃ hd, HDW s hd ∧ STC s hd o) := by
  have J234 : pc (m_x6_readStatement_J234 s) (fun o => gI o 100 = 1 ∧ gI o 101 = gI s 108) := by
    unfold m_x6_readStatement_J234
    refine pc_bq (s_fail h0) (fun q8 h8 => pc_mono fk_J244 (fun o k => ?_))
    have a := k (by rw [h8.1]; decide)
    exact ⟨a.1.trans h8.1, a.2.trans h8.2⟩
  have J : ∀ hd : Int, pc (m_x6_readStatement_J29 hd 0 s) (fun o => STC s hd o) := fun hd => by
    unfold m_x6_readStatement_J29 m_x6_readStatement_J40 m_x6_readStatement_J120 m_x6_readStatement_J129
    refine pc_rg (pc_if (fun c => pc_rg (pc_rg (pc_if (fun c2 => absurd c2 (by decide)) (fun _ => pc_bq (s_fail h0) (fun q67 h67 => pc_some (Or.inr (Or.inr (Or.inr (Or.inr ⟨Or.inl (by omega), h67⟩))))))))) (fun c => pc_rg (pc_rg (pc_if (fun _ => pc_rg (pc_if (fun c2 => absurd c2 c) (fun _ => ?_))) (fun c2 => absurd rfl c2)))))
    refine pc_if (fun d => pc_mono J234 (fun o ho => Or.inr (Or.inr (Or.inr (Or.inr ⟨Or.inl (by omega), ho⟩))))) (fun d1 => ?_)
    refine pc_if (fun d => pc_bn (fun u eu => fun o eo => Or.inl ⟨Or.inl d, u, eu, eo⟩)) (fun d2 => ?_)
    refine pc_if (fun d => pc_bn (fun u eu => fun o eo => Or.inl ⟨Or.inr d, u, eu, eo⟩)) (fun d3 => ?_)
    refine pc_if (fun d => pc_mono J234 (fun o ho => Or.inr (Or.inr (Or.inr (Or.inr ⟨Or.inr (Or.inl d), ho⟩))))) (fun d4 => ?_)
    refine pc_if (fun d => pc_bn (fun u eu => fun o eo => Or.inr (Or.inl ⟨Or.inl d, u, eu, eo⟩))) (fun d5 => ?_)
    refine pc_if (fun d => pc_bn (fun u eu => fun o eo => Or.inr (Or.inl ⟨Or.inr d, u, eu, eo⟩))) (fun d6 => ?_)
    refine pc_if (fun d => ?_) (fun d7 => ?_)
    · subst d
      exact pc_bn (fun s8 e8 => pc_bn (fun u eu => pc_eqg (pc_inb (pc_stn (fun u2 e2 => fun o eo => Or.inr (Or.inr (Or.inl ⟨Or.inl rfl, s8, u, u2, e8, Or.inr ⟨by decide, eu⟩, e2, eo⟩)))))))
    refine pc_if (fun d => ?_) (fun d8 => ?_)
    · subst d
      exact pc_bn (fun s8 e8 => pc_bn (fun u eu => pc_eqg (pc_inb (pc_stn (fun u2 e2 => fun o eo => Or.inr (Or.inr (Or.inl ⟨Or.inr (Or.inl rfl), s8, u, u2, e8, Or.inl ⟨by decide, eu⟩, e2, eo⟩)))))))
    refine pc_if (fun d => ?_) (fun d9 => ?_)
    · subst d
      exact pc_bn (fun s8 e8 => pc_bn (fun u eu => pc_eqg (pc_inb (pc_stn (fun u2 e2 => fun o eo => Or.inr (Or.inr (Or.inl ⟨Or.inr (Or.inr rfl), s8, u, u2, e8, Or.inr ⟨by decide, eu⟩, e2, eo⟩)))))))
    refine pc_if (fun d => pc_bn (fun u eu => pc_bn (fun q eq => pc_stn (fun u2 e2 => fun o eo => Or.inr (Or.inr (Or.inr (Or.inl ⟨d, u, q, u2, eu, eq, e2, eo⟩))))))) (fun d10 => ?_)
    exact pc_mono J234 (fun o ho => Or.inr (Or.inr (Or.inr (Or.inr ⟨by omega, ho⟩))))
  unfold m_x6_readStatement m_x6_readStatement_J16
  exact pc_rg (pc_if (fun c => pc_rg (pc_if (fun c2 => absurd c2 h7) (fun _ => pc_mono (J _) (fun o ho => ⟨_, Or.inl ⟨c, rfl⟩, ho⟩)))) (fun c => pc_rg (pc_if (fun c2 => absurd c2 h7) (fun _ => pc_mono (J _) (fun o ho => ⟨_, Or.inr ⟨c, rfl⟩, ho⟩)))))
/-! ===== a statement, whole ===== -/
theorem tk_own {w : Nat} {s t : MS} (h : SY s t) (hP : PLJ s t) (hw : w < 27) : pc (m_x12_takes (11 + w) (wl w) t) (fun q => (PLJ s q.2 ∧ gI q.2 46 = gI t 46) ∧ ((q.1 = 1 ∧ (gI s 107 = 1 ∧ gI s 110 = (w : Int)) ∧ NX s q.2) ∨ (q.1 = 0 ∧ ¬ (gI s 107 = 1 ∧ gI s 110 = (w : Int)) ∧ SY s q.2 ∧ gI q.2 2 = gI s 108))) := fun q e => by
  have F : F_x12_takes t q.2 := fr_x12_takes e
  refine ⟨⟨PL_f hP (Fr.rf s) (Fr_w F (by decide)), F.1 46 (by decide)⟩, ?_⟩
  rcases y_takes h (by omega) rfl (fun j hj => h.2.2.2.2.2.1 w hw j hj) q e with ⟨a, b, c, d⟩ | ⟨a, b, c, d⟩
  · exact Or.inl ⟨a, ⟨b, c⟩, d⟩
  · exact Or.inr ⟨a, b, c, d⟩
theorem STC_vol {s o : MS} {hd : Int} (h : STC s hd o) (k : hd = 2 ∨ hd = 3) : ∃ u, m_x6_readVolume hd s = some u ∧ m_x6_readStatement_J244 u = some o := by
  rcases h with ⟨_, q⟩ | ⟨a, _⟩ | ⟨a, _⟩ | ⟨a, _⟩ | ⟨a, _⟩
  · exact q
  all_goals exfalso; omega
theorem STC_chg {s o : MS} {hd : Int} (h : STC s hd o) (k : hd = 5 ∨ hd = 6) : ∃ u, m_x6_readChange hd s = some u ∧ m_x6_readStatement_J244 u = some o := by
  rcases h with ⟨a, _⟩ | ⟨_, q⟩ | ⟨a, _⟩ | ⟨a, _⟩ | ⟨a, _⟩
  · exfalso; omega
  · exact q
  all_goals exfalso; omega
theorem STC_frm {s o : MS} {hd : Int} (h : STC s hd o) (k : hd = 7 ∨ hd = 8 ∨ hd = 9) : ∃ s8 u u2, m_x6_beginFormula (hd - 7) s = some s8 ∧ ((hd - 7 = 1 ∧ m_x6_readTestC s8 = some u) ∨ (hd - 7 ≠ 1 ∧ m_x6_readSumC s8 = some u)) ∧ sA u 46 (upZ (gA u 46) (hd - 7).toNat (gI u 941)) = u2 ∧ m_x6_readStatement_J244 u2 = some o := by
  rcases h with ⟨a, _⟩ | ⟨a, _⟩ | ⟨_, q⟩ | ⟨a, _⟩ | ⟨a, _⟩
  · exfalso; omega
  · exfalso; omega
  · exact q
  all_goals exfalso; omega
theorem STC_chu {s o : MS} {hd : Int} (h : STC s hd o) (k : hd = 10) : ∃ u q u2, m_x6_advance s = some u ∧ m_x6_expectNumber 0 100 u = some q ∧ sI q.2 782 q.1 = u2 ∧ m_x6_readStatement_J244 u2 = some o := by
  rcases h with ⟨a, _⟩ | ⟨a, _⟩ | ⟨a, _⟩ | ⟨_, q⟩ | ⟨a, _⟩
  · exfalso; omega
  · exfalso; omega
  · exfalso; omega
  · exact q
  · exfalso; omega
theorem STC_bad {s o : MS} {hd : Int} (h : STC s hd o) (k : hd ≠ 2 ∧ hd ≠ 3 ∧ hd ≠ 5 ∧ hd ≠ 6 ∧ hd ≠ 7 ∧ hd ≠ 8 ∧ hd ≠ 9 ∧ hd ≠ 10) : gI o 100 = 1 ∧ gI o 101 = gI s 108 := by
  rcases h with ⟨a, _⟩ | ⟨a, _⟩ | ⟨a, _⟩ | ⟨a, _⟩ | ⟨_, q⟩
  · exfalso; omega
  · exfalso; omega
  · exfalso; omega
  · exfalso; omega
  · exact q
theorem HDW_y {s : MS} {hd : Int} (h : HDW s hd) {w : Int} (k : gI s 107 = 1 ∧ gI s 110 = w) : hd = w := by
  rcases h with q | q
  · rw [q.2]; exact k.2
  · exact absurd k.1 q.1
theorem HDW_n {s : MS} {hd : Int} (h : HDW s hd) {w : Int} (k : ¬ (gI s 107 = 1 ∧ gI s 110 = w)) (hw : w ≠ -1) : hd ≠ w := fun e => by
  rcases h with q | q
  · exact k ⟨q.1, by rw [← q.2]; exact e⟩
  · rw [q.2] at e; exact hw e.symm
theorem DONF_of {s u o : MS} (h : DONE s u o) (e : gI u 941 = gI s 941) (hb : gI s 941 ≤ gI s 108) : DONF u o := by
  rcases h with ⟨a, b, c⟩ | q
  · exact Or.inl ⟨a, b, by omega⟩
  · exact Or.inr q
/-- churn -/
theorem y_churn {s s' t : MS} {hd : Int} (h : SY s t) (hP : PLJ s t) (hb : gI s 941 ≤ gI s 108) (h46 : gI t 46 = gI s 783) (hH : HDW s hd) (hS : STC s hd s') (hn : hd ≠ 2 ∧ hd ≠ 3 ∧ hd ≠ 5 ∧ hd ≠ 6 ∧ hd ≠ 7 ∧ hd ≠ 8 ∧ hd ≠ 9) : pc (bn (m_x12_asks 21 5 t) (fun s43 => bn (m_x12_number 0 100 s43) (fun qr46 => inb 10 4 (stn (sA qr46.2 39 (upZ (gA qr46.2 39) (Int.toNat 4) qr46.1)) (fun s48 => m_x12_statementTold_J178 s48))))) (fun o => STD s s' o) := by
  refine pc_bn (fun s43 e43 => pc_bn (fun q46 e46 => pc_inb (pc_stn (fun s48 e48 => ?_))))
  have g : pc (m_x12_asks 21 5 t) (fun o => (hd = 10 ∧ NX s o ∧ PLJ s o ∧ gI o 46 = gI t 46) ∨ (hd ≠ 10 ∧ gI o 5 = 1 ∧ gI o 6 = gI s 108)) := by
    unfold m_x12_asks m_x12_asks_J24
    refine pc_rg (pc_if (fun c => pc_bq (tk_own (w := 10) h hP (by decide)) (fun q6 h6 => pc_rg (pc_if (fun c2 => ?_) (fun c2 => pc_some ?_)))) (fun c => absurd h.2.1.2 c))
    · obtain ⟨_, g⟩ := h6
      rcases g with g | ⟨_, g2, g3, g4⟩
      · omega
      · refine pc_bq (m_fail g3.2.1.2) (fun s10 h10 => pc_some (Or.inr ⟨HDW_n hH g2 (by decide), ?_⟩))
        rw [g4] at h10
        exact h10
    · obtain ⟨g1, g⟩ := h6
      rcases g with ⟨_, g2, g3⟩ | g
      · exact Or.inl ⟨HDW_y hH g2, g3, g1.1, g1.2⟩
      · exact absurd g.1 c2
  have kn : FKp 5 6 s43 q46.2 := fk_x12_number q46 e46
  have k48 : FKp 5 6 q46.2 s48 := FKp.a e48
  have F46 : F_x12_number s43 q46.2 := fr_x12_number e46
  rcases g s43 e43 with ⟨k10, N, P43, x46⟩ | ⟨k10, b⟩
  · obtain ⟨u, q, u2, eu, eq, e2, eo⟩ := STC_chu hS k10
    obtain ⟨v, s63⟩ := q
    dsimp only at e2
    have hu := y_adv N u eu
    have a9 := TK_le N.2.2.1.1
    have fu : FC s u := Fr_w (fr_x6_advance eu) (by decide)
    have f63 : FC u s63 := fr_x6_expectNumber eq
    have Pu : PLJ u s43 := PL_f P43 fu (Fr.rf s43)
    have r := y_expNum hu.1 (by decide) eq q46 e46
    have ku : FKp 100 101 s63 u2 := FKp.i e2 (by decide) (by decide)
    have h783 : gI u2 783 = gI s 783 := (q_Ii e2 (by decide)).trans ((f63.1 783 (by decide)).trans (fu.1 783 (by decide)))
    have t46 : gI s48 46 = gI s 783 := by rw [(q_Ai e48 : gI s48 46 = gI q46.2 46), F46.1 46 (by decide), x46]; exact h46
    refine y_J244 ?_ h783 t46 eo
    by_cases z : gI s63 100 = 0
    · have y63 := RS_z r.1 z
      have v63 := r.2 z
      have P63 : PLJ s63 q46.2 := PL_f Pu f63 (Fr_w F46 (by decide))
      have n := g_num hu.1 eq z
      have sI' : ∀ i, i ≠ 782 → gI u2 i = gI s63 i := fun i hi => q_Ii e2 hi
      have sA' : ∀ k, gA u2 k = gA s63 k := fun k => q_Ia e2
      have tI' : ∀ i, gI s48 i = gI q46.2 i := fun i => q_Ai e48
      have tA' : ∀ k, k ≠ 39 → gA s48 k = gA q46.2 k := fun k hk => q_Aa e48 hk
      have t39 : gA s48 39 = upZ (gA q46.2 39) 4 q46.1 := q_AA e48
      have tB' : ∀ k, gB s48 k = gB q46.2 k := fun k => q_Ab e48
      have w941 : gI s63 941 = gI s 941 := (f63.1 941 (by decide)).trans (fu.1 941 (by decide))
      refine Or.inl ⟨SY_f (SY_c y63 (fun i hi => sI' i (by omega)) (sA' 4) (sA' 6)) (tI' 2) (tI' 3) (tI' 4) (tI' 5) (fun k hk => tA' k (by omega)), ⟨NMS_e P63.1 (sI' 784 (by decide)) (sA' 40) (by rw [t39, upZ_n (by decide)]) (tB' 40), ?_, ⟨?_, ?_, ?_⟩, ?_, ?_⟩, ?_⟩
      · unfold ACS
        rw [t39, upZ_n (by decide), sI' 785 (by decide), sA' 41, sA' 42, sA' 43, sA' 44, tA' 41 (by decide)]
        exact P63.2.1
      · rw [t39, upZ_n (by decide), sI' 780 (by decide)]; exact P63.2.2.1.1
      · rw [t39, upZ_n (by decide), sI' 781 (by decide)]; exact P63.2.2.1.2.1
      · rw [t39, upZ_s, (q_II e2 : gI u2 782 = v)]; exact v63.1
      · unfold CDS
        rw [sI' 941 (by decide), sA' 48, sA' 45, sA' 46, tI' 45, tA' 44 (by decide), tA' 42 (by decide), tA' 43 (by decide)]
        exact P63.2.2.2.1
      · rw [sI' 106 (by decide)]; exact P63.2.2.2.2
      · rw [sI' 941 (by decide), sI' 108 (by decide)]; omega
    · exact Or.inr (BR_go (RS_n r.1 z) ku k48)
  · have d := STC_bad hS ⟨hn.1, hn.2.1, hn.2.2.1, hn.2.2.2.1, hn.2.2.2.2.1, hn.2.2.2.2.2.1, hn.2.2.2.2.2.2, k10⟩
    have hB : BR s' s43 := BR_mk (by decide) d b
    unfold m_x12_statementTold_J178
    refine pc_bn (fun t3 f3 => pc_stn (fun t4 f4 => pc_some (Or.inr ?_)))
    exact BR_go hB (FKp.rf s') (kn.tr (k48.tr ((fk_x12_asksSign t3 f3).tr (FKp.i f4 (by decide) (by decide)))))
/-! ===== a statement behind the first, on both sides ===== -/
theorem y_stmt {Q : MS → Prop} {s s' t : MS} (h : SY s t) (h2 : gI t 2 = gI s 108) (hP : PLJ s t) (hb : gI s 941 ≤ gI s 108) (h785 : gI s 785 < 60) (h46 : gI t 46 = gI s 783) (hn : gI s 783 ≠ 0 ∧ gI s 783 < 60) (hQ : ∀ p X, m_x6_beginFormula p s = some X → 0 ≤ p ∧ p ≤ 2 → Q X) (hop : ∀ X o, Q X → (m_x6_readTestC X = some o ∨ m_x6_readSumC X = some o) → gI o 106 = gI X 106) (e : m_x6_readStatement s = some s') : pc (m_x12_statementTold t) (fun o => STD s s' o) := by
  obtain ⟨hd, hH, hS⟩ := s_stmt h.2.1.1 hn.1 s' e
  have VOL : ∀ (x p : Int) (T : MS), NX s T → PLJ s T → gI T 46 = gI t 46 → ((x = 2 ∧ p = 0) ∨ (x = 3 ∧ p = 1)) → hd = x → pc (bn (m_x12_volumeTold p (gI t 2) T) (fun s60 => m_x12_statementTold_J178 s60)) (fun o => STD s s' o) := fun x p T N P q46 hx ex => by
    obtain ⟨u, eu, e244⟩ := STC_vol hS (by omega)
    rw [ex] at eu
    rw [h2]
    refine pc_bn (fun o eo => ?_)
    have D := y_volume N P h785 hx eu o eo
    have F : F_x6_readVolume s u := fr_x6_readVolume eu
    have G : F_x12_volumeTold T o := fr_x12_volumeTold eo
    exact y_J244 (DONF_of D (F.1 941 (by decide)) hb) (F.1 783 (by decide)) ((G.1 46 (by decide)).trans (q46.trans h46)) e244
  have PUT : ∀ T : MS, NX s T → PLJ s T → gI T 46 = gI t 46 → hd = 5 → pc (bn (m_x12_putTold T) (fun s58 => m_x12_statementTold_J178 s58)) (fun o => STD s s' o) := fun T N P q46 ex => by
    obtain ⟨u, eu, e244⟩ := STC_chg hS (by omega)
    rw [ex] at eu
    refine pc_bn (fun o eo => ?_)
    have D := y_put N P h785 eu o eo
    have F : F_x6_readChange s u := fr_x6_readChange eu
    have G : F_x12_putTold T o := fr_x12_putTold eo
    exact y_J244 (DONF_of D (F.1 941 (by decide)) hb) (F.1 783 (by decide)) ((G.1 46 (by decide)).trans (q46.trans h46)) e244
  have REM : ∀ T : MS, NX s T → PLJ s T → gI T 46 = gI t 46 → hd = 6 → pc (bn (m_x12_removeTold T) (fun s56 => m_x12_statementTold_J178 s56)) (fun o => STD s s' o) := fun T N P q46 ex => by
    obtain ⟨u, eu, e244⟩ := STC_chg hS (by omega)
    rw [ex] at eu
    refine pc_bn (fun o eo => ?_)
    have D := y_remove N P h785 eu o eo
    have F : F_x6_readChange s u := fr_x6_readChange eu
    have G : F_x12_removeTold T o := fr_x12_removeTold eo
    exact y_J244 (DONF_of D (F.1 941 (by decide)) hb) (F.1 783 (by decide)) ((G.1 46 (by decide)).trans (q46.trans h46)) e244
  have FRM : ∀ (p : Int) (T : MS), NX s T → PLJ s T → gI T 46 = gI t 46 → (0 ≤ p ∧ p ≤ 2) → hd = p + 7 → pc (bn (m_x12_codesTold p (gI t 2) T) (fun s50 => m_x12_statementTold_J178 s50)) (fun o => STD s s' o) := fun p T N P q46 hp ex => by
    obtain ⟨s8, u, u2, e8, eu, e2, e244⟩ := STC_frm hS (by omega)
    rw [show hd - 7 = p by omega] at e8 eu e2
    rw [h2]
    refine pc_bn (fun o eo => ?_)
    have hq := hop s8 u (hQ p s8 e8 hp) (by
      rcases eu with q | q
      · exact Or.inl q.2
      · exact Or.inr q.2)
    have D := y_formula hp (by rcases hH with k | k <;> omega) N P hb e8 eu hq e2 o eo
    have F8 : F_x6_beginFormula s s8 := fr_x6_beginFormula e8
    have F : F_rg s8 u := by
      rcases eu with q | q
      · exact (frg2 8).2 s8 u q.2
      · exact (frg1 8).1 s8 u q.2
    have G : F_x12_codesTold T o := fr_x12_codesTold eo
    exact y_J244 D ((q_Ai e2).trans ((F.1 783 (by decide)).trans (F8.1 783 (by decide)))) ((G.1 46 (by decide)).trans (q46.trans h46)) e244
  unfold m_x12_statementTold
  refine pc_rg (pc_if (fun c => by exfalso; omega) (fun _ => ?_))
  refine pc_bq (tk_own (w := 2) h hP (by decide)) (fun q2 g2 => ?_)
  obtain ⟨r2, T2⟩ := q2
  obtain ⟨⟨P2, i2⟩, d2⟩ := g2
  dsimp only at P2 i2 d2 ⊢
  have j2 : gI T2 46 = gI t 46 := i2.trans rfl
  refine pc_rg (pc_if (fun c2 => ?_) (fun c2 => ?_))
  rotate_left
  · rcases d2 with ⟨_, a, b⟩ | ⟨a, _⟩
    · exact VOL 2 0 T2 b P2 j2 (Or.inl ⟨rfl, rfl⟩) (HDW_y hH a)
    · exact absurd a c2
  obtain ⟨n2, S2⟩ : hd ≠ 2 ∧ SY s T2 := by
    rcases d2 with ⟨a, _⟩ | ⟨_, a, b, _⟩
    · rw [a] at c2; cases c2
    · exact ⟨HDW_n hH a (by decide), b⟩
  refine pc_bq (tk_own (w := 3) S2 P2 (by decide)) (fun q3 g3 => ?_)
  obtain ⟨r3, T3⟩ := q3
  obtain ⟨⟨P3, i3⟩, d3⟩ := g3
  dsimp only at P3 i3 d3 ⊢
  have j3 : gI T3 46 = gI t 46 := i3.trans j2
  refine pc_rg (pc_if (fun c3 => ?_) (fun c3 => ?_))
  rotate_left
  · rcases d3 with ⟨_, a, b⟩ | ⟨a, _⟩
    · exact VOL 3 1 T3 b P3 j3 (Or.inr ⟨rfl, rfl⟩) (HDW_y hH a)
    · exact absurd a c3
  obtain ⟨n3, S3⟩ : hd ≠ 3 ∧ SY s T3 := by
    rcases d3 with ⟨a, _⟩ | ⟨_, a, b, _⟩
    · rw [a] at c3; cases c3
    · exact ⟨HDW_n hH a (by decide), b⟩
  refine pc_bq (tk_own (w := 5) S3 P3 (by decide)) (fun q5 g5 => ?_)
  obtain ⟨r5, T5⟩ := q5
  obtain ⟨⟨P5, i5⟩, d5⟩ := g5
  dsimp only at P5 i5 d5 ⊢
  have j5 : gI T5 46 = gI t 46 := i5.trans j3
  refine pc_rg (pc_if (fun c5 => ?_) (fun c5 => ?_))
  rotate_left
  · rcases d5 with ⟨_, a, b⟩ | ⟨a, _⟩
    · exact PUT T5 b P5 j5 (HDW_y hH a)
    · exact absurd a c5
  obtain ⟨n5, S5⟩ : hd ≠ 5 ∧ SY s T5 := by
    rcases d5 with ⟨a, _⟩ | ⟨_, a, b, _⟩
    · rw [a] at c5; cases c5
    · exact ⟨HDW_n hH a (by decide), b⟩
  refine pc_bq (tk_own (w := 6) S5 P5 (by decide)) (fun q6 g6 => ?_)
  obtain ⟨r6, T6⟩ := q6
  obtain ⟨⟨P6, i6⟩, d6⟩ := g6
  dsimp only at P6 i6 d6 ⊢
  have j6 : gI T6 46 = gI t 46 := i6.trans j5
  refine pc_rg (pc_if (fun c6 => ?_) (fun c6 => ?_))
  rotate_left
  · rcases d6 with ⟨_, a, b⟩ | ⟨a, _⟩
    · exact REM T6 b P6 j6 (HDW_y hH a)
    · exact absurd a c6
  obtain ⟨n6, S6⟩ : hd ≠ 6 ∧ SY s T6 := by
    rcases d6 with ⟨a, _⟩ | ⟨_, a, b, _⟩
    · rw [a] at c6; cases c6
    · exact ⟨HDW_n hH a (by decide), b⟩
  refine pc_bq (tk_own (w := 7) S6 P6 (by decide)) (fun q7 g7 => ?_)
  obtain ⟨r7, T7⟩ := q7
  obtain ⟨⟨P7, i7⟩, d7⟩ := g7
  dsimp only at P7 i7 d7 ⊢
  have j7 : gI T7 46 = gI t 46 := i7.trans j6
  refine pc_rg (pc_if (fun c7 => ?_) (fun c7 => ?_))
  rotate_left
  · rcases d7 with ⟨_, a, b⟩ | ⟨a, _⟩
    · exact FRM 0 T7 b P7 j7 (by decide) (HDW_y hH a)
    · exact absurd a c7
  obtain ⟨n7, S7⟩ : hd ≠ 7 ∧ SY s T7 := by
    rcases d7 with ⟨a, _⟩ | ⟨_, a, b, _⟩
    · rw [a] at c7; cases c7
    · exact ⟨HDW_n hH a (by decide), b⟩
  refine pc_bq (tk_own (w := 8) S7 P7 (by decide)) (fun q8 g8 => ?_)
  obtain ⟨r8, T8⟩ := q8
  obtain ⟨⟨P8, i8⟩, d8⟩ := g8
  dsimp only at P8 i8 d8 ⊢
  have j8 : gI T8 46 = gI t 46 := i8.trans j7
  refine pc_rg (pc_if (fun c8 => ?_) (fun c8 => ?_))
  rotate_left
  · rcases d8 with ⟨_, a, b⟩ | ⟨a, _⟩
    · exact FRM 1 T8 b P8 j8 (by decide) (HDW_y hH a)
    · exact absurd a c8
  obtain ⟨n8, S8⟩ : hd ≠ 8 ∧ SY s T8 := by
    rcases d8 with ⟨a, _⟩ | ⟨_, a, b, _⟩
    · rw [a] at c8; cases c8
    · exact ⟨HDW_n hH a (by decide), b⟩
  refine pc_bq (tk_own (w := 9) S8 P8 (by decide)) (fun q9 g9 => ?_)
  obtain ⟨r9, T9⟩ := q9
  obtain ⟨⟨P9, i9⟩, d9⟩ := g9
  dsimp only at P9 i9 d9 ⊢
  have j9 : gI T9 46 = gI t 46 := i9.trans j8
  refine pc_rg (pc_if (fun c9 => ?_) (fun c9 => ?_))
  rotate_left
  · rcases d9 with ⟨_, a, b⟩ | ⟨a, _⟩
    · exact FRM 2 T9 b P9 j9 (by decide) (HDW_y hH a)
    · exact absurd a c9
  obtain ⟨n9, S9⟩ : hd ≠ 9 ∧ SY s T9 := by
    rcases d9 with ⟨a, _⟩ | ⟨_, a, b, _⟩
    · rw [a] at c9; cases c9
    · exact ⟨HDW_n hH a (by decide), b⟩
  exact y_churn S9 P9 hb (j9.trans h46) hH hS ⟨n2, n3, n5, n6, n7, n8, n9⟩
/-! ===== the first statement on both sides ===== -/
def PLH (s t : MS) : Prop := NMS s t ∧ ACS s t ∧ gA t 39 4 = gI s 782 ∧ CDS s t ∧ gI s 106 = 0
theorem PLH_f {s s' t t' : MS} (h : PLH s t) (fI : ∀ i, i ∉ [100, 101, 107, 108, 109, 110, 111, 780, 781] → gI s' i = gI s i) (fA : ∀ k, gA s' k = gA s k) (gI' : gI t' 45 = gI t 45) (g39 : ∀ k, k ≠ 0 → k ≠ 1 → gA t' 39 k = gA t 39 k) (tA : ∀ k, k ≠ 39 → gA t' k = gA t k) (tB : ∀ k, gB t' k = gB t k) : PLH s' t' := by
  unfold PLH NMS ACS CDS
  rw [fA 40, fA 41, fA 42, fA 43, fA 44, fA 45, fA 46, fA 48, g39 2 (by decide) (by decide), g39 3 (by decide) (by decide), g39 4 (by decide) (by decide), tA 41 (by decide), tA 42 (by decide), tA 43 (by decide), tA 44 (by decide), tB 40, fI 784 (by decide), fI 785 (by decide), fI 782 (by decide), fI 941 (by decide), fI 106 (by decide), gI']
  exact h
theorem s_first {s : MS} (h0 : gI s 100 = 0) (h7 : gI s 783 = 0) : pc (m_x6_readStatement s) (fun o => ∃ hd, HDW s hd ∧ ((hd = 0 ∧ ∃ u, m_x6_readBlocks s = some u ∧ m_x6_readStatement_J244 u = some o) ∨ (hd ≠ 0 ∧ gI o 100 = 1 ∧ gI o 101 = gI s 108))) := by
  have J : ∀ hd : Int, pc (m_x6_readStatement_J29 hd 1 s) (fun o => (hd = 0 ∧ ∃ u, m_x6_readBlocks s = some u ∧ m_x6_readStatement_J244 u = some o) ∨ (hd ≠ 0 ∧ gI o 100 = 1 ∧ gI o 101 = gI s 108)) := fun hd => by
    unfold m_x6_readStatement_J29 m_x6_readStatement_J40
    exact pc_rg (pc_if (fun c => pc_rg (pc_rg (pc_if (fun _ => pc_rg (pc_if (fun _ => pc_bn (fun u eu => fun o eo => Or.inl ⟨c, u, eu, eo⟩)) (fun c2 => absurd c c2))) (fun c2 => absurd rfl c2)))) (fun c => pc_rg (pc_rg (pc_if (fun c2 => absurd c2 (by decide)) (fun _ => pc_bq (s_fail h0) (fun q67 h67 => pc_some (Or.inr ⟨c, h67⟩)))))))
  unfold m_x6_readStatement m_x6_readStatement_J16
  exact pc_rg (pc_if (fun c => pc_rg (pc_if (fun _ => pc_mono (J _) (fun o ho => ⟨_, Or.inl ⟨c, rfl⟩, ho⟩)) (fun c2 => absurd h7 c2))) (fun c => pc_rg (pc_if (fun _ => pc_mono (J _) (fun o ho => ⟨_, Or.inr ⟨c, rfl⟩, ho⟩)) (fun c2 => absurd h7 c2))))
theorem y_first {s s' t : MS} (h : SY s t) (hP : PLH s t) (hb : gI s 941 ≤ gI s 108) (h7 : gI s 783 = 0) (e : m_x6_readStatement s = some s') : pc (m_x12_storeTold t) (fun o => (SY s' o ∧ PLJ s' o ∧ gI s' 941 ≤ gI s' 108 ∧ gI s' 783 = 1) ∨ BR s' o) := by
  obtain ⟨hd, hH, hS⟩ := s_first h.2.1.1 h7 s' e
  unfold m_x12_storeTold
  refine pc_bn (fun t2 f2 => pc_bn (fun p5 f5 => pc_inb (pc_stn (fun t7 f7 => pc_bn (fun t9 f9 => pc_bn (fun p12 f12 => pc_inb (pc_stn (fun t14 f14 => pc_bn (fun t16 f16 => pc_some ?_))))))))) 
  have g : pc (m_x12_asks 11 6 t) (fun o => (hd = 0 ∧ NX s o) ∨ (hd ≠ 0 ∧ gI o 5 = 1 ∧ gI o 6 = gI s 108)) := by
    unfold m_x12_asks m_x12_asks_J24
    refine pc_rg (pc_if (fun c => pc_bq (y_takes (w := 0) h (by decide) (by decide) (fun j hj => h.2.2.2.2.2.1 0 (by decide) j hj)) (fun q6 h6 => pc_rg (pc_if (fun c2 => ?_) (fun c2 => pc_some ?_)))) (fun c => absurd h.2.1.2 c))
    · rcases h6 with g | ⟨_, g2, g3, g4⟩
      · omega
      · refine pc_bq (m_fail g3.2.1.2) (fun s10 h10 => pc_some (Or.inr ⟨HDW_n hH g2 (by decide), ?_⟩))
        rw [g4] at h10
        exact h10
    · rcases h6 with ⟨_, g2, g3, g4⟩ | g
      · exact Or.inl ⟨HDW_y hH ⟨g2, g3⟩, g4⟩
      · exact absurd g.1 c2
  have G2 : F_x12_asks t t2 := fr_x12_asks f2
  have G5 : F_x12_number t2 p5.2 := fr_x12_number f5
  have G9 : F_x12_asks t7 t9 := fr_x12_asks f9
  have G12 : F_x12_number t9 p12.2 := fr_x12_number f12
  have G16 : F_x12_asksSign t14 t16 := fr_x12_asksSign f16
  have b5 : FKp 5 6 t2 p5.2 := fk_x12_number p5 f5
  have b7 : FKp 5 6 p5.2 t7 := FKp.a f7
  have b9 : FKp 5 6 t7 t9 := fk_x12_asks t9 f9
  have b12 : FKp 5 6 t9 p12.2 := fk_x12_number p12 f12
  have b14 : FKp 5 6 p12.2 t14 := FKp.a f14
  have b16 : FKp 5 6 t14 t16 := fk_x12_asksSign t16 f16
  rcases g t2 f2 with ⟨k0, N⟩ | ⟨k0, b⟩
  · rcases hS with ⟨_, u, eu, e244⟩ | ⟨q, _⟩
    · have gb : pc (m_x6_readBlocks s) (fun o => ∃ s2 q5 s6 s8 q11, m_x6_advance s = some s2 ∧ m_x6_expectNumber 8 48 s2 = some q5 ∧ sI q5.2 780 q5.1 = s6 ∧ m_x6_expectWord 1 s6 = some s8 ∧ m_x6_expectNumber 3 6 s8 = some q11 ∧ sI q11.2 781 q11.1 = o) := by
        unfold m_x6_readBlocks
        exact pc_bn (fun s2 e2 => pc_bn (fun q5 e5 => pc_stn (fun s6 e6 => pc_bn (fun s8 e8 => pc_bn (fun q11 e11 => pc_stn (fun s12 e12 => pc_some ⟨s2, q5, s6, s8, q11, e2, e5, e6, e8, e11, e12⟩))))))
      obtain ⟨s2, ⟨v5, s5⟩, s6, s8, ⟨v11, s11⟩, e2, e5, e6, e8, e11, e12⟩ := gb u eu
      have gj : pc (m_x6_readStatement_J244 u) (fun o => ∃ s3, m_x6_expectSign 59 u = some s3 ∧ sI s3 783 (gI s3 783 + 1) = o) := by
        unfold m_x6_readStatement_J244
        exact pc_bn (fun s3 e3 => pc_stn (fun s4 e4 => pc_some ⟨s3, e3, e4⟩))
      obtain ⟨s3, e3, e4⟩ := gj s' e244
      dsimp only at e6 e11 e12
      have h2 := y_adv N s2 e2
      have a2 := TK_le N.2.2.1.1
      have F2 : FC s s2 := Fr_w (fr_x6_advance e2) (by decide)
      have F5 : FC s2 s5 := fr_x6_expectNumber e5
      have F8 : FC s6 s8 := fr_x6_expectWord e8
      have F11 : FC s8 s11 := fr_x6_expectNumber e11
      have F3 : FC u s3 := fr_x6_expectSign e3
      have c6 : FKp 100 101 s5 s6 := FKp.i e6 (by decide) (by decide)
      have c8 : FKp 100 101 s6 s8 := fk_x6_expectWord s8 e8
      have c11 : FKp 100 101 s8 s11 := fk_x6_expectNumber _ e11
      have c12 : FKp 100 101 s11 u := FKp.i e12 (by decide) (by decide)
      have c3 : FKp 100 101 u s3 := fk_x6_expectSign s3 e3
      have c4 : FKp 100 101 s3 s' := FKp.i e4 (by decide) (by decide)
      have r5 := y_expNum h2.1 (by decide) e5 p5 f5
      by_cases z5 : gI s5 100 = 0
      · have y5 := RS_z r5.1 z5
        have w5 := r5.2 z5
        have n5 := g_num h2.1 e5 z5
        have y6 : SY s6 t7 := SY_f (SY_c y5 (fun i hi => q_Ii e6 (by omega)) (q_Ia e6) (q_Ia e6)) (q_Ai f7) (q_Ai f7) (q_Ai f7) (q_Ai f7) (fun k hk => q_Aa f7 (by omega))
        have r9 : RS s8 t9 := y_expWord (w := 1) y6 (by decide) (by decide) (fun j hj => y6.2.2.2.2.2.1 1 (by decide) j hj) e8 t9 f9
        by_cases z8 : gI s8 100 = 0
        · have y8 := RS_z r9 z8
          have n8 := g_word y6 e8 z8
          have r12 := y_expNum y8 (by decide) e11 p12 f12
          by_cases z11 : gI s11 100 = 0
          · have y11 := RS_z r12.1 z11
            have w11 := r12.2 z11
            have n11 := g_num y8 e11 z11
            have yu : SY u t14 := SY_f (SY_c y11 (fun i hi => q_Ii e12 (by omega)) (q_Ia e12) (q_Ia e12)) (q_Ai f14) (q_Ai f14) (q_Ai f14) (q_Ai f14) (fun k hk => q_Aa f14 (by omega))
            have r16 := y_expSign yu (by decide) e3 t16 f16
            by_cases z3 : gI s3 100 = 0
            · have y3 := RS_z r16 z3
              have n3 := g_sign yu e3 z3
              have I6 : ∀ i, i ≠ 780 → gI s6 i = gI s5 i := fun i hi => q_Ii e6 hi
              have I12 : ∀ i, i ≠ 781 → gI u i = gI s11 i := fun i hi => q_Ii e12 hi
              have I4 : ∀ i, i ≠ 783 → gI s' i = gI s3 i := fun i hi => q_Ii e4 hi
              have I5 : ∀ i, i ∉ [100, 101, 107, 108, 109, 110, 111] → i ≠ 780 → i ≠ 781 → gI s3 i = gI s i := fun i a b c => (F3.1 i a).trans ((I12 i c).trans ((F11.1 i a).trans ((F8.1 i a).trans ((I6 i b).trans ((F5.1 i a).trans (F2.1 i a))))))
              have A3 : ∀ k, gA s3 k = gA s k := fun k => (F3.2.1 k (by simp)).trans ((q_Ia e12).trans ((F11.2.1 k (by simp)).trans ((F8.2.1 k (by simp)).trans ((q_Ia e6).trans ((F5.2.1 k (by simp)).trans (F2.2.1 k (by simp)))))))
              have t7' : gA t7 39 = upZ (gA t 39) 0 p5.1 := by
                rw [(q_AA f7 : gA t7 39 = _), G5.2.1 39 (by simp), G2.2.1 39 (by simp)]; rfl
              have t14' : gA t16 39 = upZ (gA t7 39) 1 p12.1 := by
                rw [G16.2.1 39 (by simp), (q_AA f14 : gA t14 39 = _), G12.2.1 39 (by simp), G9.2.1 39 (by simp)]; rfl
              have tA : ∀ k, k ≠ 39 → gA t16 k = gA t k := fun k hk => (G16.2.1 k (by simp)).trans ((q_Aa f14 hk).trans ((G12.2.1 k (by simp)).trans ((G9.2.1 k (by simp)).trans ((q_Aa f7 hk).trans ((G5.2.1 k (by simp)).trans (G2.2.1 k (by simp)))))))
              have tB : ∀ k, gB t16 k = gB t k := fun k => (G16.2.2.2 k (by simp)).trans ((q_Ab f14).trans ((G12.2.2.2 k (by simp)).trans ((G9.2.2.2 k (by simp)).trans ((q_Ab f7).trans ((G5.2.2.2 k (by simp)).trans (G2.2.2.2 k (by simp)))))))
              have t45 : gI t16 45 = gI t 45 := (G16.1 45 (by decide)).trans ((q_Ai f14).trans ((G12.1 45 (by decide)).trans ((G9.1 45 (by decide)).trans ((q_Ai f7).trans ((G5.1 45 (by decide)).trans (G2.1 45 (by decide)))))))
              have Q : PLH s3 t16 := PLH_f hP (fun i hi => I5 i (fun m => hi (by simp at m ⊢; omega)) (fun m => hi (by simp; omega)) (fun m => hi (by simp; omega))) A3 t45 (fun k a b => by rw [t14', upZ_n b, t7', upZ_n a]) tA tB
              have v780 : gI s3 780 = v5 := (F3.1 780 (by decide)).trans ((I12 780 (by decide)).trans ((F11.1 780 (by decide)).trans ((F8.1 780 (by decide)).trans (q_II e6))))
              have v781 : gI s3 781 = v11 := (F3.1 781 (by decide)).trans (q_II e12)
              have v783 : gI s' 783 = gI s3 783 + 1 := q_II e4
              have w783 : gI s3 783 = gI s 783 := I5 783 (by decide) (by decide) (by decide)
              have w941 : gI s3 941 = gI s 941 := I5 941 (by decide) (by decide) (by decide)
              have x6 : gI s6 108 = gI s5 108 := I6 108 (by decide)
              have x12 : gI u 108 = gI s11 108 := I12 108 (by decide)
              have sA' : ∀ k, gA s' k = gA s3 k := fun k => q_Ia e4
              refine Or.inl ⟨SY_c y3 (fun i hi => I4 i (by omega)) (sA' 4) (sA' 6), ?_, by rw [I4 941 (by decide), I4 108 (by decide)]; omega, by omega⟩
              have full : PLJ s3 t16 := ⟨Q.1, Q.2.1, ⟨by rw [t14', upZ_n (by decide), t7', upZ_s, v780]; exact w5.1, by rw [t14', upZ_s, v781]; exact w11.1, Q.2.2.1⟩, Q.2.2.2⟩
              unfold PLJ NMS ACS HDS CDS
              rw [sA' 40, sA' 41, sA' 42, sA' 43, sA' 44, sA' 45, sA' 46, sA' 48, I4 784 (by decide), I4 785 (by decide), I4 780 (by decide), I4 781 (by decide), I4 782 (by decide), I4 941 (by decide), I4 106 (by decide)]
              exact full
            · exact Or.inr (BR_go (RS_n r16 z3) c4 (FKp.rf t16))
          · exact Or.inr (BR_go (RS_n r12.1 z11) (c12.tr (c3.tr c4)) (b14.tr b16))
        · exact Or.inr (BR_go (RS_n r9 z8) (c11.tr (c12.tr (c3.tr c4))) (b12.tr (b14.tr b16)))
      · exact Or.inr (BR_go (RS_n r5.1 z5) (c6.tr (c8.tr (c11.tr (c12.tr (c3.tr c4))))) (b7.tr (b9.tr (b12.tr (b14.tr b16)))))
    · exact absurd k0 q
  · rcases hS with ⟨q, _⟩ | ⟨_, d⟩
    · exact absurd q k0
    · exact Or.inr (BR_go (BR_mk (by decide) d b) (FKp.rf s') (b5.tr (b7.tr (b9.tr (b12.tr (b14.tr b16))))))
/-! ===== the class begins to read a STORE ===== -/
theorem Rg_BY {s : MS} (h : Rg s) : BY s := fun j hj => by
  have r : (0 : Int) ≤ gI s 61 ∧ gI s 61 ≤ 1600 := h.1 61
  have b : (0 : Int) ≤ gA s 4 j ∧ gA s 4 j ≤ 255 := h.2.1 4 j (show j < 1600 by omega)
  exact b.1
theorem y_begin {s t : MS} (hR : Rg s) (hW : W6 s) (hT : TX s t) (h2 : gI t 2 = 0) (h4 : gI t 4 = -1) (h5 : gI t 5 = 0) (hD : RWD t) : pc (m_x6_begin s) (fun o => SY o t ∧ gI o 106 = 0) := by
  unfold m_x6_begin
  refine pc_stn (fun s1 e1 => pc_stn (fun s2 e2 => pc_stn (fun s3 e3 => pc_stn (fun s4 e4 => pc_stn (fun s5 e5 => pc_bn (fun s7 e7 => pc_some ?_))))))
  have k61 : gI s5 61 = gI s 61 := (q_Ii e5 (by decide)).trans ((q_Ii e4 (by decide)).trans ((q_Ii e3 (by decide)).trans ((q_Ii e2 (by decide)).trans (q_Ii e1 (by decide)))))
  have kA : ∀ k, gA s5 k = gA s k := fun k => (q_Ia e5).trans ((q_Ia e4).trans ((q_Ia e3).trans ((q_Ia e2).trans (q_Ia e1))))
  have h100 : gI s5 100 = 0 := (q_Ii e5 (by decide)).trans ((q_Ii e4 (by decide)).trans ((q_Ii e3 (by decide)).trans (q_II e2)))
  have h109 : gI s5 109 = 0 := q_II e5
  have h106 : gI s5 106 = 0 := (q_Ii e5 (by decide)).trans (q_II e4)
  have r61 : (0 : Int) ≤ gI s 61 ∧ gI s 61 ≤ 1600 := hR.1 61
  have by5 : BY s5 := fun j hj => by
    rw [kA]; exact Rg_BY hR j (by omega)
  obtain ⟨a1, a2⟩ := s_adv h100 ⟨⟨by omega, by omega⟩, by omega⟩ (W6_e hW (kA 6)) by5 s7 e7
  have F : F_x6_advance s5 s7 := fr_x6_advance e7
  have f4 : gA s7 4 = gA s 4 := (F.2.1 4 (by decide)).trans (kA 4)
  have f61 : gI s7 61 = gI s 61 := (F.1 61 (by decide)).trans k61
  rw [kA 4, k61, h109] at a2
  refine ⟨⟨⟨hT.1.trans f61.symm, fun j hj => by rw [f4]; exact hT.2 j (by omega)⟩, ⟨(F.1 100 (by decide)).trans h100, h5⟩, ⟨a1, W6_e hW ((F.2.1 6 (by decide)).trans (kA 6)), fun j hj => by rw [f4]; exact Rg_BY hR j (by omega)⟩, ⟨by omega, ?_⟩, ⟨by omega, ?_⟩, hD⟩, (F.1 106 (by decide)).trans h106⟩
  · rw [f4, f61, h2]; exact a2
  · rw [h2, h4]
    exact ⟨fun q => by omega, fun q => absurd q.1 (by decide)⟩
theorem s_clear {s : MS} : pc (m_x5_clear s) (fun o => (gI o 783 = 0 ∧ gI o 784 = 0 ∧ gI o 785 = 0 ∧ gI o 782 = 0 ∧ gI o 941 = 0) ∧ ∀ w : Nat, w < 3 → gA o 45 w = -1) := by
  unfold m_x5_clear
  refine pc_stn (fun s9 e9 => pc_stn (fun s10 e10 => pc_stn (fun s11 e11 => pc_stn (fun s12 e12 => pc_stn (fun s13 e13 => ?_)))))
  have i783 : gI s13 783 = 0 := (q_Ii e13 (by decide)).trans ((q_Ii e12 (by decide)).trans ((q_Ii e11 (by decide)).trans ((q_Ii e10 (by decide)).trans (q_II e9))))
  have i784 : gI s13 784 = 0 := (q_Ii e13 (by decide)).trans ((q_Ii e12 (by decide)).trans ((q_Ii e11 (by decide)).trans (q_II e10)))
  have i785 : gI s13 785 = 0 := (q_Ii e13 (by decide)).trans ((q_Ii e12 (by decide)).trans (q_II e11))
  have i782 : gI s13 782 = 0 := (q_Ii e13 (by decide)).trans (q_II e12)
  have i941 : gI s13 941 = 0 := q_II e13
  have L : ∀ (n : Nat) (x : Int) (S : MS), (0 ≤ x ∧ x ≤ 3) → (∀ i, gI S i = gI s13 i) → (∀ w : Nat, (w : Int) < x → gA S 45 w = -1) → pc (m_x5_clear_L30 n x S) (fun o => (gI o 783 = 0 ∧ gI o 784 = 0 ∧ gI o 785 = 0 ∧ gI o 782 = 0 ∧ gI o 941 = 0) ∧ ∀ w : Nat, w < 3 → gA o 45 w = -1) := by
    refine fr_ind (fun _ _ _ _ _ => pc_none) (fun n ih x S hx hI hA => ?_)
    show pc (m_x5_clear_b30 (m_x5_clear_L30 n) x S) _
    unfold m_x5_clear_b30
    refine pc_rg (pc_if (fun c => pc_some ⟨⟨(hI 783).trans i783, (hI 784).trans i784, (hI 785).trans i785, (hI 782).trans i782, (hI 941).trans i941⟩, fun w hw => hA w (by omega)⟩) (fun c => pc_inb (pc_stn (fun s6 e6 => pc_inb (pc_stn (fun s8 e8 => ih (x + 1) s8 (by omega) (fun i => (q_Ai e8).trans ((q_Ai e6).trans (hI i))) (fun w hw => ?_)))))))
    have a8 : gA s8 45 = gA s6 45 := q_Aa e8 (by decide)
    have a6 : gA s6 45 = upZ (gA S 45) (Int.toNat x) (-1) := q_AA e6
    rw [a8, a6]
    by_cases z : w = Int.toNat x
    · rw [z, upZ_s]
    · rw [upZ_n z]; exact hA w (by omega)
  exact L FU 0 s13 (by omega) (fun _ => rfl) (fun w hw => by omega)
/-- a text that ends at once: no first statement -/
theorem m_first_end {s t : MS} (h : SY s t) (h7 : gI s 107 = 0) : pc (m_x12_storeTold t) (fun o => gI o 5 = 1 ∧ gI o 6 = gI s 108) := by
  have g : pc (m_x12_asks 11 6 t) (fun o => gI o 5 = 1 ∧ gI o 6 = gI s 108) := by
    unfold m_x12_asks m_x12_asks_J24
    refine pc_rg (pc_if (fun c => pc_bq (y_takes (w := 0) h (by decide) (by decide) (fun j hj => h.2.2.2.2.2.1 0 (by decide) j hj)) (fun q6 h6 => pc_rg (pc_if (fun c2 => ?_) (fun c2 => pc_some ?_)))) (fun c => absurd h.2.1.2 c))
    · rcases h6 with g | ⟨_, _, g3, g4⟩
      · omega
      · refine pc_bq (m_fail g3.2.1.2) (fun s10 h10 => pc_some ?_)
        rw [g4] at h10
        exact h10
    · rcases h6 with ⟨_, g2, _⟩ | g
      · omega
      · exact absurd g.1 c2
  unfold m_x12_storeTold
  refine pc_bn (fun t2 f2 => pc_bn (fun p5 f5 => pc_inb (pc_stn (fun t7 f7 => pc_bn (fun t9 f9 => pc_bn (fun p12 f12 => pc_inb (pc_stn (fun t14 f14 => pc_bn (fun t16 f16 => pc_some ?_)))))))))
  have b5 : FKp 5 6 t2 p5.2 := fk_x12_number p5 f5
  have b7 : FKp 5 6 p5.2 t7 := FKp.a f7
  have b9 : FKp 5 6 t7 t9 := fk_x12_asks t9 f9
  have b12 : FKp 5 6 t9 p12.2 := fk_x12_number p12 f12
  have b14 : FKp 5 6 p12.2 t14 := FKp.a f14
  have b16 : FKp 5 6 t14 t16 := fk_x12_asksSign t16 f16
  have g2 := g t2 f2
  have k := (b5.tr (b7.tr (b9.tr (b12.tr (b14.tr b16))))) (by rw [g2.1]; decide)
  exact ⟨k.1.trans g2.1, k.2.trans g2.2⟩
theorem m_stmt60 {t : MS} (h0 : gI t 5 = 0) (h : gI t 46 = 60) : pc (m_x12_statementTold t) (fun o => gI o 5 = 5 ∧ gI o 6 = gI t 2) := by
  unfold m_x12_statementTold
  exact pc_rg (pc_if (fun _ => pc_bq (m_fail h0) (fun s64 h64 => pc_some h64)) (fun c => absurd h c))
/-- the class goes on behind a fault: it stays -/
theorem s_gone : ∀ (n : Nat) (x : Int) (S : MS), gI S 100 ≠ 0 → pc (m_x6_readStore_L14 n x S) (fun q => q.1 = 0 ∧ FKp 100 101 S q.2) := by
  have J75 : ∀ S : MS, gI S 100 ≠ 0 → pc (m_x6_readStore_J75 S) (fun q => q.1 = 0 ∧ q.2 = S) := fun S h => by
    unfold m_x6_readStore_J75 m_x6_readStore_J87
    exact pc_rg (pc_if (fun c => absurd c h) (fun _ => pc_bo (pc_some ⟨rfl, rfl⟩)))
  have J38 : ∀ S : MS, gI S 100 ≠ 0 → pc (m_x6_readStore_J38 S) (fun q => q.1 = 0 ∧ FKp 100 101 S q.2) := fun S h => by
    have F : ∀ (k p : Int), pc (bn (m_x6_fail k p S) (fun qr => m_x6_readStore_J75 qr.2)) (fun q => q.1 = 0 ∧ FKp 100 101 S q.2) := fun k p => by
      refine pc_bn (fun a ea => ?_)
      have f : FKp 100 101 S a.2 := fk_x6_fail a ea
      refine pc_mono (J75 a.2 (by rw [(f h).1]; exact h)) (fun q hq => ⟨hq.1, ?_⟩)
      rw [hq.2]; exact f
    unfold m_x6_readStore_J38
    refine pc_rg (pc_if (fun _ => pc_rg (pc_if (fun _ => F 1 _) (fun _ => ?_))) (fun _ => F 5 _))
    exact pc_mono (J75 S h) (fun q hq => ⟨hq.1, by rw [hq.2]; exact FKp.rf S⟩)
  refine fr_ind (fun _ _ _ => pc_none) (fun n ih x S h => ?_)
  show pc (m_x6_readStore_b14 (m_x6_readStore_L14 n) x S) _
  unfold m_x6_readStore_b14
  refine pc_rg (pc_if (fun _ => J38 S h) (fun _ => pc_rg (pc_if (fun _ => J38 S h) (fun _ => pc_bn (fun s25 e25 => ?_)))))
  have f : FKp 100 101 S s25 := fk_x6_readStatement s25 e25
  exact pc_mono (ih (x + 1) s25 (by rw [(f h).1]; exact h)) (fun q hq => ⟨hq.1, f.tr hq.2⟩)
theorem m_gone {T : MS} (h : gI T 5 ≠ 0) : ∀ m : Nat, pc (m_x12_store_L87 m T) (fun o => o.1 = -1 ∧ gI o.2 7 = gI T 5 ∧ gI o.2 8 = gI T 6) := fun m => by
  cases m with
  | zero => exact pc_none
  | succ m =>
    show pc (m_x12_store_b87 (m_x12_store_L87 m) T) _
    unfold m_x12_store_b87 m_x12_store_J109
    refine pc_rg (pc_if (fun c => absurd c h) (fun _ => pc_stn (fun s2 e2 => pc_stn (fun s3 e3 => ?_))))
    have i7 : gI s3 7 = gI T 5 := (q_Ii e3 (by decide)).trans (q_II e2)
    have i8 : gI s3 8 = gI T 6 := (q_II e3 : gI s3 8 = gI s2 6).trans (q_Ii e2 (by decide))
    have i5 : gI s3 5 = gI T 5 := (q_Ii e3 (by decide)).trans (q_Ii e2 (by decide))
    refine pc_rg (pc_if (fun c => absurd (i5.symm.trans c) h) (fun _ => pc_bn (fun q10 e10 => ?_)))
    have F : F_x12_refuses s3 q10.2 := fr_x12_refuses e10
    have v : q10.1 = -1 := by
      have g : pc (m_x12_refuses 1 s3) (fun q => q.1 = -1) := by
        unfold m_x12_refuses
        exact pc_rdI (fun _ => pc_inb (pc_stn (fun s5 _ => pc_some rfl)))
      exact g q10 e10
    exact pc_some ⟨v, (F.1 7 (by decide)).trans i7, (F.1 8 (by decide)).trans i8⟩
/-! ===== a whole STORE on both sides ===== -/
def FINS (q o : Int × MS) : Prop := (q.1 = 0 ∧ gI q.2 100 ≠ 0 ∧ o.1 = -1 ∧ gI o.2 7 = gI q.2 100 ∧ gI o.2 8 = gI q.2 101) ∨ (q.1 = 1 ∧ gI q.2 100 = 0 ∧ ∃ T : MS, (gI T 5 = 0 ∧ gI T 6 = -1) ∧ PLJ q.2 T ∧ gI T 46 = gI q.2 783 ∧ 1 ≤ gI q.2 783 ∧ m_x12_store_J109 T = some o)
theorem fin_br {q : Int × MS} {T : MS} (h1 : q.1 = 0) (hB : BR q.2 T) : ∀ m : Nat, pc (m_x12_store_L87 m T) (fun o => FINS q o) := fun m =>
  pc_mono (m_gone (by rw [hB.2.1]; exact hB.1) m) (fun o ho => Or.inl ⟨h1, hB.1, ho.1, ho.2.1.trans hB.2.1, ho.2.2.trans hB.2.2⟩)
def INS (x : Int) (S T : MS) : Prop := SY S T ∧ PLJ S T ∧ gI S 941 ≤ gI S 108 ∧ gI T 46 = gI S 783 ∧ x = gI S 783 ∧ (1 ≤ gI S 783 ∧ gI S 783 ≤ 60) ∧ Rg S ∧ gI S 785 ≤ gI S 783 ∧ gI S 9999 = 2 ∧ gI T 6 = -1
theorem y_sloop : ∀ (n : Nat) (x : Int) (S T : MS), INS x S T → pc (m_x6_readStore_L14 n x S) (fun q => ∀ m : Nat, pc (m_x12_store_L87 m T) (fun o => FINS q o)) := by
  refine fr_ind (fun _ _ _ _ => pc_none) (fun n ih x S T I => ?_)
  obtain ⟨hS, hP, hb, h46, hx, h783, hR, h785, h99, h6⟩ := I
  have hk := hS.2.2.1.1
  have hy := hS.2.2.1.2.2
  have E : gI S 111 = -1 ↔ gI S 107 = 0 := by
    rcases hk.2.2 with ⟨_, a, b, _⟩ | ⟨a, b, _, _, g⟩
    · exact ⟨fun _ => a, fun _ => b⟩
    · have k1 := hk.1
      have p : 0 ≤ gI S 111 := by rw [b]; exact hy _ (by omega)
      have q : gI S 107 ≠ 0 := by
        rcases g with ⟨_, _, _, g⟩ | ⟨_, _, g⟩ | ⟨_, _, _, g⟩
        · rcases g with ⟨_, g⟩ | ⟨_, g⟩ <;> omega
        · rcases g with ⟨_, g⟩ | ⟨_, g⟩ <;> omega
        · omega
      exact ⟨fun z => by omega, fun z => absurd z q⟩
  have REF : ∀ q : Int × MS, (∀ T' : MS, SY S T' → PLJ S T' → gI T' 2 = gI S 108 → gI T' 46 = gI S 783 → gI T' 6 = -1 → (gI S 107 = 0 → pc (m_x12_store_J109 T') (fun o => FINS q o)) ∧ (gI S 107 ≠ 0 → ∀ m : Nat, pc (bn (m_x12_statementTold T') (fun s20 => m_x12_store_L87 m s20)) (fun o => FINS q o))) → ∀ m : Nat, pc (m_x12_store_L87 m T) (fun o => FINS q o) := fun q k m => by
    cases m with
    | zero => exact pc_none
    | succ m =>
      show pc (m_x12_store_b87 (m_x12_store_L87 m) T) _
      unfold m_x12_store_b87
      refine pc_rg (pc_if (fun c => pc_bn (fun q16 e16 => ?_)) (fun c => absurd hS.2.1.2 c))
      obtain ⟨hS', h2, h1⟩ := y_look hS q16 e16
      have F : F_x12_look T q16.2 := fr_x12_look e16
      have K := k q16.2 hS' (PL_f hP (Fr.rf S) (Fr_w F (by decide))) h2 ((F.1 46 (by decide)).trans h46) ((F.1 6 (by decide)).trans h6)
      exact pc_rg (pc_if (fun c2 => K.1 (E.1 (h1.symm.trans c2))) (fun c2 => K.2 (fun z => c2 (h1.trans (E.2 z))) m))
  have END : gI S 107 = 0 → pc (m_x6_readStore_J38 S) (fun q => ∀ m : Nat, pc (m_x12_store_L87 m T) (fun o => FINS q o)) := fun z => by
    unfold m_x6_readStore_J38 m_x6_readStore_J75 m_x6_readStore_J87
    refine pc_rg (pc_if (fun _ => pc_rg (pc_if (fun c => absurd c (by omega)) (fun _ => pc_rg (pc_if (fun _ => pc_bo (pc_some ?_)) (fun c => absurd hS.2.1.1 c))))) (fun c => absurd z c))
    exact REF (1, S) (fun T' y p a b c6 => ⟨fun _ o eo => Or.inr ⟨rfl, hS.2.1.1, T', ⟨y.2.1.2, c6⟩, p, b, h783.1, eo⟩, fun c => absurd z c⟩)
  show pc (m_x6_readStore_b14 (m_x6_readStore_L14 n) x S) _
  unfold m_x6_readStore_b14
  refine pc_rg (pc_if (fun c => ?_) (fun c => pc_rg (pc_if (fun c2 => END c2) (fun c2 => pc_bn (fun s25 e25 => ?_)))))
  · by_cases z : gI S 107 = 0
    · exact END z
    · unfold m_x6_readStore_J38 m_x6_readStore_J75 m_x6_readStore_J87
      refine pc_rg (pc_if (fun c2 => absurd c2 z) (fun _ => pc_bq (s_fail hS.2.1.1) (fun q17 h17 => ?_)))
      have n0 : gI q17.2 100 ≠ 0 := by rw [h17.1]; decide
      refine pc_rg (pc_if (fun c3 => absurd c3 n0) (fun _ => pc_bo (pc_some ?_)))
      exact REF (0, q17.2) (fun T' y p a b _ => ⟨fun c3 => absurd c3 z, fun _ m => pc_bq (m_stmt60 y.2.1.2 (by omega)) (fun s20 g => fin_br (q := (0, q17.2)) rfl (BR_mk (by decide) h17 ⟨g.1, g.2.trans a⟩) m)⟩)
  · have W := wp_det (w_x6_readStatement hR ⟨h785, by omega⟩ h99) e25
    have F25 : F_x6_readStatement S s25 := fr_x6_readStatement e25
    intro q eq
    refine REF q (fun T' y p a b c6 => ⟨fun c3 => absurd c3 c2, fun _ m => pc_bn (fun o eo => ?_)⟩)
    have D : STD S s25 o := y_stmt (Q := fun X => Rg X ∧ gI X 9999 = 2) y a p hb (by omega) b ⟨by omega, by omega⟩
      (fun p1 X eX hp => ⟨(wp_det (w_x6_beginFormula hR hp h99) eX).1, ((fr_x6_beginFormula eX : F_x6_beginFormula S X).1 9999 (by decide)).trans h99⟩)
      (fun X o1 hX e1 => by
        rcases e1 with e1 | e1
        · exact (wp_det (w_x6_readTestC hX.1 hX.2) e1).2.1
        · exact (wp_det (w_x6_readSumC hX.1 hX.2) e1).2.1) e25 o eo
    rcases D with ⟨d1, d2, d3, d4, d5⟩ | B
    · have w785 := W.2.1.1
      have o6 : gI o 6 = -1 := nb_x12_statementTold o eo (fun _ => c6) d1.2.1.2
      exact ih (x + 1) s25 o ⟨d1, d2, d3, d4, by omega, by omega, W.1, w785, (F25.1 9999 (by decide)).trans h99, o6⟩ q eq m
    · have g := s_gone n (x + 1) s25 B.1 q eq
      exact fin_br g.1 (BR_go B g.2 (FKp.rf o)) m
/-! ===== the reference: what is told stays while another STORE is read ===== -/
theorem b_vt {p0 p1 : Int} {s : MS} (h : (0 ≤ gA s 39 2 ∧ gA s 39 2 ≤ 8) ∧ 0 ≤ gA s 39 3) : pc (m_x12_volumeTold p0 p1 s) (fun o => ∀ j, 8 ≤ j → gB o 40 j = gB s 40 j) := by
  have J83 : ∀ (z x2 x3 : Int) (S : MS), gI S 5 = 0 → (0 ≤ gA S 39 2 ∧ gA S 39 2 < 8 ∧ 0 ≤ gA S 39 3) → pc (m_x12_volumeTold_J83 z x2 x3 S) (fun o => ∀ j, 8 ≤ j → gB o 40 j = gB S 40 j) := fun z x2 x3 S h5 h2 => by
    unfold m_x12_volumeTold_J83
    refine pc_rdI (fun _ => pc_bn (fun s7 e7 => pc_rdI (fun _ => pc_inb (pc_stn (fun s10 e10 => pc_rdI (fun _ => pc_inb (pc_stn (fun s13 e13 => pc_some (fun j hj => ?_)))))))))
    have F : F_x12_actTold S s7 := fr_x12_actTold e7
    have a2 : gA s7 39 2 = gA S 39 2 := (m_act h5 h2.2.2 s7 e7).1.2 2 (by decide)
    rw [(q_Ab e13 : gB s13 40 = gB s10 40), (q_BB e10 : gB s10 40 = _), upZ_n (by rw [show Int.toNat 2 = 2 from rfl, a2]; omega), F.2.2.2 40 (by decide)]
  have J50 : ∀ (p z x : Int) (S : MS), (gI S 5 = 0 → (0 ≤ gA S 39 2 ∧ gA S 39 2 < 8 ∧ 0 ≤ gA S 39 3)) → pc (m_x12_volumeTold_J50 p z x S) (fun o => ∀ j, 8 ≤ j → gB o 40 j = gB S 40 j) := fun p z x S h2 => by
    unfold m_x12_volumeTold_J50
    refine pc_rg (pc_if (fun c5 => ?_) (fun _ => pc_some (fun _ _ => rfl)))
    have J68 : ∀ x17 : Int, pc (m_x12_volumeTold_J68 p z x x17 S) (fun o => ∀ j, 8 ≤ j → gB o 40 j = gB S 40 j) := fun x17 => by
      unfold m_x12_volumeTold_J68
      exact pc_rg (pc_if (fun _ => pc_rdI (fun _ => J83 _ _ _ S c5 (h2 c5))) (fun _ => J83 _ _ _ S c5 (h2 c5)))
    exact pc_rg (pc_if (fun _ => J68 0) (fun _ => J68 1))
  have J24 : ∀ (S : MS), (gI S 5 = 0 → (0 ≤ gA S 39 2 ∧ gA S 39 2 < 8 ∧ 0 ≤ gA S 39 3)) → pc (m_x12_volumeTold_J24 p0 S) (fun o => ∀ j, 8 ≤ j → gB o 40 j = gB S 40 j) := fun S h2 => by
    unfold m_x12_volumeTold_J24
    refine pc_bn (fun q34 e34 => ?_)
    have F34 : F_x12_newName S q34.2 := fr_x12_newName e34
    have k34 : FKp 5 6 S q34.2 := fk_x12_newName q34 e34
    have w34 : gI q34.2 5 = 0 → (0 ≤ gA q34.2 39 2 ∧ gA q34.2 39 2 < 8 ∧ 0 ≤ gA q34.2 39 3) := fun z => by
      rw [F34.2.1 39 (by decide)]
      exact h2 (Classical.byContradiction (fun n => n ((k34 n).1.symm.trans z)))
    refine pc_rg (pc_if (fun _ => pc_mono (J50 _ _ _ q34.2 w34) (fun o ho j hj => by rw [ho j hj, F34.2.2.2 40 (by decide)])) (fun _ => pc_bn (fun s38 e38 => pc_bn (fun q41 e41 => ?_))))
    have F38 : F_x12_asks q34.2 s38 := fr_x12_asks e38
    have F41 : F_x12_volumeNamed s38 q41.2 := fr_x12_volumeNamed e41
    have k41 : FKp 5 6 q34.2 q41.2 := (fk_x12_asks s38 e38).tr (fk_x12_volumeNamed q41 e41)
    refine pc_mono (J50 _ _ _ q41.2 (fun z => ?_)) (fun o ho j hj => by rw [ho j hj, F41.2.2.2 40 (by decide), F38.2.2.2 40 (by decide), F34.2.2.2 40 (by decide)])
    rw [F41.2.1 39 (by decide), F38.2.1 39 (by decide)]
    exact w34 (Classical.byContradiction (fun n => n ((k41 n).1.symm.trans z)))
  unfold m_x12_volumeTold
  refine pc_rg (pc_if (fun c5 => pc_rdI (fun _ => pc_rg (pc_if (fun _ => pc_bn (fun s48 e48 => ?_)) (fun c8 => J24 s (fun _ => ?_))))) (fun c5 => J24 s (fun z => absurd z c5)))
  · have F48 : F_x12_fail s s48 := fr_x12_fail e48
    have v := (m_fail c5 s48 e48).1
    exact pc_mono (J24 s48 (fun z => absurd (v.symm.trans z) (by decide))) (fun o ho j hj => by rw [ho j hj, F48.2.2.2 40 (by decide)])
  · have c8' : gA s 39 2 ≠ 8 := c8
    exact ⟨h.1.1, by omega, h.2⟩
theorem b_J178 {s : MS} : pc (m_x12_statementTold_J178 s) (fun o => gB o 40 = gB s 40) := by
  unfold m_x12_statementTold_J178
  exact pc_bn (fun s3 e3 => pc_stn (fun s4 e4 => pc_some ((q_Ib e4).trans ((fr_x12_asksSign e3 : F_x12_asksSign s s3).2.2.2 40 (by decide)))))
theorem b_stmt {s : MS} (h : (0 ≤ gA s 39 2 ∧ gA s 39 2 ≤ 8) ∧ 0 ≤ gA s 39 3) : pc (m_x12_statementTold s) (fun o => ∀ j, 8 ≤ j → gB o 40 j = gB s 40 j) := by
  have V : ∀ (p x : Int) (S : MS), gA S 39 = gA s 39 → gB S 40 = gB s 40 → pc (bn (m_x12_volumeTold p x S) (fun u => m_x12_statementTold_J178 u)) (fun o => ∀ j, 8 ≤ j → gB o 40 j = gB s 40 j) := fun p x S a b => pc_bq (b_vt (by rw [a]; exact h)) (fun u hu => pc_mono b_J178 (fun o ho j hj => by rw [ho, hu j hj, b]))
  have K : ∀ (u : MS), gB u 40 = gB s 40 → pc (m_x12_statementTold_J178 u) (fun o => ∀ j, 8 ≤ j → gB o 40 j = gB s 40 j) := fun u b => pc_mono b_J178 (fun o ho j _ => by rw [ho, b])
  have T : ∀ {wid wn : Nat} {S : MS} {q : Int × MS}, m_x12_takes wid wn S = some q → gA S 39 = gA s 39 ∧ gB S 40 = gB s 40 → gA q.2 39 = gA s 39 ∧ gB q.2 40 = gB s 40 := fun {wid wn S q} e a => by
    have F : F_x12_takes S q.2 := fr_x12_takes e
    exact ⟨(F.2.1 39 (by decide)).trans a.1, (F.2.2.2 40 (by decide)).trans a.2⟩
  have C : ∀ (p x : Int) (S : MS), gB S 40 = gB s 40 → pc (bn (m_x12_codesTold p x S) (fun u => m_x12_statementTold_J178 u)) (fun o => ∀ j, 8 ≤ j → gB o 40 j = gB s 40 j) := fun p x S b => pc_bn (fun u eu => K u (((fr_x12_codesTold eu : F_x12_codesTold S u).2.2.2 40 (by decide)).trans b))
  unfold m_x12_statementTold
  refine pc_rg (pc_if (fun _ => pc_bn (fun s64 e64 => pc_some (fun j _ => by rw [(fr_x12_fail e64 : F_x12_fail s s64).2.2.2 40 (by decide)]))) (fun _ => pc_bn (fun q9 e9 => ?_)))
  have a9 := T e9 ⟨rfl, rfl⟩
  refine pc_rg (pc_if (fun _ => pc_bn (fun q14 e14 => ?_)) (fun _ => V _ _ _ a9.1 a9.2))
  have a14 := T e14 a9
  refine pc_rg (pc_if (fun _ => pc_bn (fun q19 e19 => ?_)) (fun _ => V _ _ _ a14.1 a14.2))
  have a19 := T e19 a14
  refine pc_rg (pc_if (fun _ => pc_bn (fun q24 e24 => ?_)) (fun _ => pc_bn (fun u eu => K u (((fr_x12_putTold eu : F_x12_putTold q19.2 u).2.2.2 40 (by decide)).trans a19.2))))
  have a24 := T e24 a19
  refine pc_rg (pc_if (fun _ => pc_bn (fun q29 e29 => ?_)) (fun _ => pc_bn (fun u eu => K u (((fr_x12_removeTold eu : F_x12_removeTold q24.2 u).2.2.2 40 (by decide)).trans a24.2))))
  have a29 := T e29 a24
  refine pc_rg (pc_if (fun _ => pc_bn (fun q34 e34 => ?_)) (fun _ => C _ _ _ a29.2))
  have a34 := T e34 a29
  refine pc_rg (pc_if (fun _ => pc_bn (fun q39 e39 => ?_)) (fun _ => C _ _ _ a34.2))
  have a39 := T e39 a34
  refine pc_rg (pc_if (fun _ => pc_bn (fun s43 e43 => pc_bn (fun q46 e46 => pc_inb (pc_stn (fun s48 e48 => K s48 ?_))))) (fun _ => C _ _ _ a39.2))
  rw [(q_Ab e48 : gB s48 40 = gB q46.2 40), (fr_x12_number e46 : F_x12_number s43 q46.2).2.2.2 40 (by decide), (fr_x12_asks e43 : F_x12_asks q39.2 s43).2.2.2 40 (by decide)]
  exact a39.2
/-- what was told, and all that lies beside a text's reading -/
def KT (s o : MS) : Prop := (FBk s o ∧ ∀ j, 8 ≤ j → gB o 40 j = gB s 40 j) ∧ Fr [1, 2, 3, 4, 5, 6, 7, 8, 10, 38, 45, 46, 48, 102, 104, 105, 106] [9, 39, 41, 42, 43, 44, 101, 103] [] [40] s o
theorem KT_tr {s o q : MS} {I A : List Nat} (h : KT s o) (f : FBk o q) (b : ∀ j, 8 ≤ j → gB q 40 j = gB o 40 j) (g : Fr I A [] [40] o q) (hI : ∀ k, k ∈ I → k ∈ [1, 2, 3, 4, 5, 6, 7, 8, 10, 38, 45, 46, 48, 102, 104, 105, 106]) (hA : ∀ k, k ∈ A → k ∈ [9, 39, 41, 42, 43, 44, 101, 103]) : KT s q := ⟨⟨FB_t h.1.1 f, fun j hj => (b j hj).trans (h.1.2 j hj)⟩, h.2.tr g ⟨hI, hA, fun _ q => q, fun _ q => q⟩⟩
theorem KT_0 {s o q : MS} {I : List Nat} (h : KT s o) (g : Fr I [] [] [] o q) (hI : ∀ k, k ∈ I → k ∈ [1, 2, 3, 4, 5, 6, 7, 8, 10, 38, 45, 46, 48, 102, 104, 105, 106]) : KT s q :=
  KT_tr h (FB_e (g.2.1 39 (by decide)) (g.2.1 42 (by decide)) (g.2.1 43 (by decide)) (g.2.1 44 (by decide))) (fun j _ => by rw [g.2.2.2 40 (by decide)]) (Fr.tr (Fr.rf o) g ⟨fun _ q => q, fun _ q => absurd q (by simp), fun _ q => q, fun _ q => absurd q (by simp)⟩ : Fr I [] [] [40] o q) hI (fun _ q => absurd q (by simp))
def SRT (t0 T : MS) : Prop := Rr T ∧ KT t0 T ∧ (gI T 5 = 0 → SP T 0 ∧ gI T 2 ≤ gI T 3 ∧ (1 ≤ gI T 46 ∧ gI T 46 ≤ 60))
theorem FI1 {s o : MS} {k : Nat} {v : Int} (e : sI s k v = o) : Fr [k] [] [] [] s o := by
  subst e
  exact Fr.uI (Fr.rf s) (List.mem_singleton.mpr rfl)
theorem r_J109 {t0 T : MS} (H : SRT t0 T) : pc (m_x12_store_J109 T) (fun o => gI o.2 7 ≠ 0 → KT t0 o.2) := by
  unfold m_x12_store_J109
  refine pc_stn (fun s2 e2 => pc_stn (fun s3 e3 => ?_))
  have K3 : KT t0 s3 := KT_0 (KT_0 H.2.1 (FI1 e2) (by decide)) (FI1 e3) (by decide)
  have i5 : gI s3 5 = gI T 5 := (q_Ii e3 (by decide)).trans (q_Ii e2 (by decide))
  have i7 : gI s3 7 = gI T 5 := (q_Ii e3 (by decide)).trans (q_II e2)
  refine pc_rg (pc_if (fun c => pc_bn (fun s7 e7 => pc_some (fun z => absurd ?_ z))) (fun _ => pc_bn (fun q10 e10 => pc_some (fun _ => ?_))))
  · have F : F_x12_stands s3 s7 := fr_x12_stands e7
    rw [F.1 7 (by decide), i7, ← i5]; exact c
  · have F : F_x12_refuses s3 q10.2 := fr_x12_refuses e10
    exact KT_tr K3 (FB_e (F.2.1 39 (by decide)) (F.2.1 42 (by decide)) (F.2.1 43 (by decide)) (F.2.1 44 (by decide))) (fun j _ => by rw [F.2.2.2 40 (by decide)]) (Fr.tr (Fr.rf s3) F ⟨fun _ q => absurd q (by simp), fun _ q => q, fun _ q => q, fun _ q => absurd q (by simp)⟩ : Fr [] [9] [] [40] s3 q10.2) (by decide) (by decide)
theorem r_L87 {t0 : MS} : ∀ (n : Nat) (T : MS), SRT t0 T → pc (m_x12_store_L87 n T) (fun o => gI o.2 7 ≠ 0 → KT t0 o.2) := by
  refine fr_ind (fun _ _ => pc_none) (fun n ih T H => ?_)
  show pc (m_x12_store_b87 (m_x12_store_L87 n) T) _
  unfold m_x12_store_b87
  refine pc_rg (pc_if (fun c => pc_bn (fun q16 e16 => ?_)) (fun _ => r_J109 H))
  obtain ⟨hS, h2, h46⟩ := H.2.2 c
  have W := wp_det (w_x12_look H.1 h2) e16
  have F : F_x12_look T q16.2 := fr_x12_look e16
  have S16 : SP q16.2 0 := SP_eq hS (F.2.1 39 (by decide)) (F.2.1 41 (by decide)) (F.2.1 42 (by decide)) (F.2.1 43 (by decide)) (F.2.1 44 (by decide)) (F.1 45 (by decide)) (by rw [F.1 46 (by decide)]; omega) W.2.2.1.1 (Or.inl c)
  have c16 : gI q16.2 5 = 0 := (F.1 5 (by decide)).trans c
  have e46 : gI q16.2 46 = gI T 46 := F.1 46 (by decide)
  have K16 : KT t0 q16.2 := KT_0 H.2.1 F (by decide)
  have H16 : SRT t0 q16.2 := ⟨W.1, K16, fun _ => ⟨S16, W.2.2.1.2, by omega⟩⟩
  refine pc_rg (pc_if (fun _ => r_J109 H16) (fun _ => pc_bn (fun o eo => ih o ?_)))
  have V := wp_det (w_x12_statementTold W.1 W.2.2.1.2 S16 (by omega) c16) eo
  have G : F_x12_statementTold q16.2 o := fr_x12_statementTold eo
  have b := b_stmt ⟨S16.1.1, S16.1.2.1⟩ o eo
  refine ⟨V.1, KT_tr K16 V.2.2.2.2 b G (by decide) (by decide), fun z => ⟨V.2.1, V.2.2.1.2, ?_⟩⟩
  rcases V.2.2.2.1 with w | w
  · by_cases k : gI q16.2 46 = 60
    · exact absurd ((m_stmt60 c16 k o eo).1.symm.trans z) (by decide)
    · omega
  · exact absurd z w.1
/-- the state in which the reference begins to read -/
def SIN (t T : MS) : Prop := (gI T 3 = gI t 1 ∧ gI T 1 = 0 ∧ gI T 2 = 0 ∧ gI T 4 = -1 ∧ gI T 5 = 0 ∧ gI T 6 = -1 ∧ gI T 45 = 0) ∧ ((∀ k : Nat, k < 5 → gA T 39 k = 0) ∧ (∀ k : Nat, 5 ≤ k → gA T 39 k = gA t 39 k)) ∧ ((∀ k : Nat, k < 3 → gA T 42 k = -1) ∧ (∀ k : Nat, 3 ≤ k → gA T 42 k = gA t 42 k)) ∧ Fr [1, 2, 3, 4, 5, 6, 45] [39, 42] [] [] t T
theorem m_sin {t : MS} {P : Int × MS → Prop} (g : ∀ T, SIN t T → (Rr t → Rr T) → pc (bn (m_x12_storeTold T) (fun s26 => stn (sI s26 46 1) (fun s27 => m_x12_store_L87 FU s27))) P) : pc (m_x12_store t) P := by
  unfold m_x12_store
  refine pc_stn (fun s36 e36 => pc_stn (fun s37 e37 => pc_stn (fun s38 e38 => pc_stn (fun s39 e39 => pc_stn (fun s40 e40 => pc_stn (fun s41 e41 => pc_stn (fun s42 e42 => ?_)))))))
  have h3 : gI s42 3 = gI t 1 := (q_Ii e42 (by decide)).trans ((q_Ii e41 (by decide)).trans ((q_Ii e40 (by decide)).trans ((q_Ii e39 (by decide)).trans ((q_Ii e38 (by decide)).trans ((q_Ii e37 (by decide)).trans (q_II e36))))))
  have h1 : gI s42 1 = 0 := (q_Ii e42 (by decide)).trans ((q_Ii e41 (by decide)).trans ((q_Ii e40 (by decide)).trans ((q_Ii e39 (by decide)).trans ((q_Ii e38 (by decide)).trans (q_II e37)))))
  have h2 : gI s42 2 = 0 := (q_Ii e42 (by decide)).trans ((q_Ii e41 (by decide)).trans ((q_Ii e40 (by decide)).trans ((q_Ii e39 (by decide)).trans (q_II e38))))
  have h4 : gI s42 4 = -1 := (q_Ii e42 (by decide)).trans ((q_Ii e41 (by decide)).trans ((q_Ii e40 (by decide)).trans (q_II e39)))
  have h5 : gI s42 5 = 0 := (q_Ii e42 (by decide)).trans ((q_Ii e41 (by decide)).trans (q_II e40))
  have h6 : gI s42 6 = -1 := (q_Ii e42 (by decide)).trans (q_II e41)
  have h45 : gI s42 45 = 0 := q_II e42
  have F42 : Fr [1, 2, 3, 4, 5, 6, 45] [39, 42] [] [] t s42 := by
    subst e42; subst e41; subst e40; subst e39; subst e38; subst e37; subst e36
    exact Fr.uI (Fr.uI (Fr.uI (Fr.uI (Fr.uI (Fr.uI (Fr.uI (Fr.rf t) (by decide)) (by decide)) (by decide)) (by decide)) (by decide)) (by decide)) (by decide)
  have R42 : Rr t → Rr s42 := fun hR => by
    have r1 : (0 : Int) ≤ gI t 1 ∧ gI t 1 ≤ 1600 := hR.1 1
    subst e42; subst e41; subst e40; subst e39; subst e38; subst e37; subst e36
    refine Rr.uI (Rr.uI (Rr.uI (Rr.uI (Rr.uI (Rr.uI (Rr.uI hR ?_) ?_) ?_) ?_) ?_) ?_) ?_
    · show (0 : Int) ≤ gI t 1 ∧ gI t 1 ≤ 1600; exact r1
    · show (0 : Int) ≤ 0 ∧ (0 : Int) ≤ 1600; omega
    · show (0 : Int) ≤ 0 ∧ (0 : Int) ≤ 1600; omega
    · show (-1 : Int) ≤ -1 ∧ (-1 : Int) ≤ 1600; omega
    · show (0 : Int) ≤ 0 ∧ (0 : Int) ≤ 5; omega
    · show (-2147483648 : Int) ≤ -1 ∧ (-1 : Int) ≤ 2147483647; omega
    · show (0 : Int) ≤ 0 ∧ (0 : Int) ≤ 1600; omega
  have I42 : ∀ S : MS, (∀ i, gI S i = gI s42 i) → gI S 3 = gI t 1 ∧ gI S 1 = 0 ∧ gI S 2 = 0 ∧ gI S 4 = -1 ∧ gI S 5 = 0 ∧ gI S 6 = -1 ∧ gI S 45 = 0 := fun S k => ⟨(k 3).trans h3, (k 1).trans h1, (k 2).trans h2, (k 4).trans h4, (k 5).trans h5, (k 6).trans h6, (k 45).trans h45⟩
  have L60 : ∀ (n : Nat) (x : Int) (S : MS), (0 ≤ x ∧ x ≤ 3) → (∀ i, gI S i = gI s42 i) → ((∀ k : Nat, k < 5 → gA S 39 k = 0) ∧ (∀ k : Nat, 5 ≤ k → gA S 39 k = gA t 39 k)) → ((∀ k : Nat, (k : Int) < x → gA S 42 k = -1) ∧ (∀ k : Nat, 3 ≤ k → gA S 42 k = gA t 42 k)) → Fr [1, 2, 3, 4, 5, 6, 45] [39, 42] [] [] t S → (Rr t → Rr S) → pc (m_x12_store_L60 n x S) P := by
    refine fr_ind (fun _ _ _ _ _ _ _ _ => pc_none) (fun n ih x S hx hI h39 h42 hF hR => ?_)
    show pc (m_x12_store_b60 (m_x12_store_L60 n) x S) P
    unfold m_x12_store_b60
    refine pc_rg (pc_if (fun c => g S ⟨I42 S hI, h39, ⟨fun k hk => h42.1 k (by omega), h42.2⟩, hF⟩ hR) (fun c => pc_inb (pc_stn (fun s29 e29 => ih (x + 1) s29 (by omega) (fun i => (q_Ai e29).trans (hI i)) ?_ ?_ ?_ ?_))))
    · rw [(q_Aa e29 (by decide) : gA s29 39 = gA S 39)]; exact h39
    · rw [(q_AA e29 : gA s29 42 = _)]
      refine ⟨fun k hk => ?_, fun k hk => by rw [upZ_n (by omega)]; exact h42.2 k hk⟩
      by_cases z : k = Int.toNat x
      · rw [z, upZ_s]
      · rw [upZ_n z]; exact h42.1 k (by omega)
    · subst e29; exact Fr.uA hF (by decide)
    · intro hr
      subst e29
      exact Rr.uAu (hR hr) (by show (-1 : Int) ≤ -1 ∧ (-1 : Int) ≤ 1600; omega)
  have L40 : ∀ (n : Nat) (x : Int) (S : MS), (0 ≤ x ∧ x ≤ 5) → (∀ i, gI S i = gI s42 i) → ((∀ k : Nat, (k : Int) < x → gA S 39 k = 0) ∧ (∀ k : Nat, 5 ≤ k → gA S 39 k = gA t 39 k)) → gA S 42 = gA t 42 → Fr [1, 2, 3, 4, 5, 6, 45] [39, 42] [] [] t S → (Rr t → Rr S) → pc (m_x12_store_L40 n x S) P := by
    refine fr_ind (fun _ _ _ _ _ _ _ _ => pc_none) (fun n ih x S hx hI h39 h42 hF hR => ?_)
    show pc (m_x12_store_b40 (m_x12_store_L40 n) x S) P
    unfold m_x12_store_b40
    refine pc_rg (pc_if (fun c => L60 FU 0 S (by omega) hI ⟨fun k hk => h39.1 k (by omega), h39.2⟩ ⟨fun k hk => absurd hk (by omega), fun k _ => by rw [h42]⟩ hF hR) (fun c => pc_inb (pc_stn (fun s35 e35 => ih (x + 1) s35 (by omega) (fun i => (q_Ai e35).trans (hI i)) ?_ ?_ ?_ ?_))))
    · rw [(q_AA e35 : gA s35 39 = _)]
      refine ⟨fun k hk => ?_, fun k hk => by rw [upZ_n (by omega)]; exact h39.2 k hk⟩
      by_cases z : k = Int.toNat x
      · rw [z, upZ_s]
      · rw [upZ_n z]; exact h39.1 k (by omega)
    · rw [(q_Aa e35 (by decide) : gA s35 42 = gA S 42)]; exact h42
    · subst e35; exact Fr.uA hF (by decide)
    · intro hr
      subst e35
      exact Rr.uAu (hR hr) (by show (-2147483648 : Int) ≤ 0 ∧ (0 : Int) ≤ 2147483647; omega)
  have a42 : ∀ k, gA s42 k = gA t k := fun k => by
    subst e42; subst e41; subst e40; subst e39; subst e38; subst e37; subst e36
    rfl
  exact L40 FU 0 s42 (by omega) (fun _ => rfl) ⟨fun k hk => absurd hk (by omega), fun k _ => by rw [a42]⟩ (a42 42) F42 R42
theorem SIN_KT {t T : MS} (h : SIN t T) : KT t T := ⟨⟨⟨h.2.1.2, fun j hj => ⟨h.2.2.1.2 j hj, by rw [h.2.2.2.2.1 43 (by decide)]⟩, fun j _ => by rw [h.2.2.2.2.1 44 (by decide)]⟩, fun j _ => by rw [h.2.2.2.2.2.2 40 (by decide)]⟩, Fr.tr (Fr.rf t) h.2.2.2 ⟨by decide, by decide, fun _ q => q, fun _ q => absurd q (by simp)⟩⟩
/-- a STORE with a FAULT: all that was told stays -/
theorem r_keep {t : MS} (hR : Rr t) : pc (m_x12_store t) (fun o => gI o.2 7 ≠ 0 → KT t o.2) := by
  refine m_sin (fun T hT hRT => pc_bn (fun s26 e26 => pc_stn (fun s27 e27 => r_L87 FU s27 ?_)))
  have RT' := hRT hR
  have h := hT.1
  have r3 : (0 : Int) ≤ gI T 3 ∧ gI T 3 ≤ 1600 := RT'.1 3
  have W := wp_det (w_x12_storeTold RT' (by omega) ⟨⟨by rw [hT.2.1.1 2 (by decide)]; omega, by rw [hT.2.1.1 3 (by decide)]; omega⟩, ⟨by rw [hT.2.1.1 2 (by decide), hT.2.1.1 3 (by decide)]; rfl, by rw [hT.2.1.1 3 (by decide)]; exact fun k hk => absurd hk (by omega)⟩, by omega, fun w hw => Or.inl (hT.2.2.1.1 w hw)⟩ (hT.2.1.1 4 (by decide))) e26
  have F26 : F_x12_storeTold T s26 := fr_x12_storeTold e26
  have K26 : KT t s26 := KT_tr (SIN_KT hT) W.2.2.2 (fun j _ => by rw [F26.2.2.2 40 (by decide)]) (Fr.tr (Fr.rf T) F26 ⟨fun _ q => q, fun _ q => q, fun _ q => q, fun _ q => absurd q (by simp)⟩ : Fr [2, 4, 5, 6, 10] [39] [] [40] T s26) (by decide) (by decide)
  have k46 : gI s26 46 = gI T 46 := F26.1 46 (by decide)
  have kA : ∀ k, gA s27 k = gA s26 k := fun k => q_Ia e27
  have kI : ∀ i, i ≠ 46 → gI s27 i = gI s26 i := fun i hi => q_Ii e27 hi
  refine ⟨by subst e27; exact Rr.uI W.1 (by show (0 : Int) ≤ 1 ∧ (1 : Int) ≤ 60; omega), KT_0 K26 (FI1 e27) (by decide), fun z => ⟨SP_eq W.2.1 (kA 39) (kA 41) (kA 42) (kA 43) (kA 44) (kI 45 (by decide)) (by rw [(q_II e27 : gI s27 46 = 1), k46]; omega) (by rw [kI 2 (by decide)]; omega) (Or.inl ((kI 5 (by decide)).symm.trans z)), by rw [kI 2 (by decide), kI 3 (by decide)]; exact W.2.2.1.2, by rw [(q_II e27 : gI s27 46 = 1)]; omega⟩⟩
/-! ===== a whole STORE is read on both sides ===== -/
theorem PLJ_t {s t o : MS} (h : PLJ s t) (h45 : gI o 45 = gI t 45) (kA : ∀ k, gA o k = gA t k) (kB : ∀ k, gB o k = gB t k) : PLJ s o := by
  unfold PLJ NMS ACS HDS CDS at h ⊢
  rw [kA 39, kA 41, kA 42, kA 43, kA 44, kB 40, h45]
  exact h
theorem y_readStore {s t : MS} (hR : Rg s) (hW : W6 s) (hl : gI s 61 = gI t 1) (hT : ∀ j : Nat, (j : Int) < gI s 61 → gA s 4 j = gA t 0 j) (hD : RWD t) : pc (m_x6_readStore s) (fun q => pc (m_x12_store t) (fun o => FINS q o)) := by
  unfold m_x6_readStore
  refine pc_bn (fun s27 e27 => pc_bn (fun s29 e29 => ?_))
  obtain ⟨⟨c783, c784, c785, c782, c941⟩, c45⟩ := s_clear s27 e27
  have F27 : F_x5_clear s s27 := fr_x5_clear e27
  have F29 : F_x6_begin s27 s29 := fr_x6_begin e29
  have R27 := (wp_det (w_x5_clear hR) e27).1
  obtain ⟨R29, h99, h100⟩ := wp_det (w_x6_begin R27) e29
  have h783 : gI s29 783 = 0 := (F29.1 783 (by decide)).trans c783
  have h784 : gI s29 784 = 0 := (F29.1 784 (by decide)).trans c784
  have h785 : gI s29 785 = 0 := (F29.1 785 (by decide)).trans c785
  have h782 : gI s29 782 = 0 := (F29.1 782 (by decide)).trans c782
  have h941 : gI s29 941 = 0 := (F29.1 941 (by decide)).trans c941
  have k61 : gI s27 61 = gI s 61 := F27.1 61 (by decide)
  have k4 : gA s27 4 = gA s 4 := F27.2.1 4 (by decide)
  have k6 : gA s27 6 = gA s 6 := F27.2.1 6 (by decide)
  have k45 : ∀ w : Nat, w < 3 → gA s29 45 w = -1 := fun w hw => by rw [F29.2.1 45 (by decide)]; exact c45 w hw
  have Y : ∀ T, SIN t T → SY s29 T ∧ PLH s29 T ∧ gI s29 941 ≤ gI s29 108 := fun T hT' => by
    obtain ⟨⟨a3, a1, a2, a4, a5, a6, a45⟩, ⟨b39, _⟩, ⟨b42, _⟩, G⟩ := hT'
    have A0 : gA T 0 = gA t 0 := G.2.1 0 (by decide)
    have TXT : TX s27 T := ⟨by rw [a3, k61, hl], fun j hj => by rw [A0, k4]; exact (hT j (by omega)).symm⟩
    obtain ⟨y, y106⟩ := y_begin R27 (W6_e hW k6) TXT a2 a4 a5 (RWD_e hD (fun k hk => G.2.1 k (by simp; omega))) s29 e29
    have p108 := (TK_le y.2.2.1.1).1
    refine ⟨y, ⟨⟨⟨by rw [b39 2 (by decide), h784], by omega, by omega⟩, fun v hv => absurd hv (by omega)⟩, ⟨⟨by rw [b39 3 (by decide), h785], by omega⟩, fun a ha => absurd ha (by omega)⟩, by rw [b39 4 (by decide), h782], ⟨⟨by rw [a45, h941], by omega⟩, fun j hj => absurd hj (by omega), fun w hw => ⟨by rw [b42 w hw, k45 w hw], fun z => absurd (k45 w hw) z⟩, fun z => absurd (k45 1 (by decide)) z⟩, y106⟩, by omega⟩
  have main : ∀ n : Nat, pc (m_x6_readStore_L14 n 0 s29) (fun q => pc (m_x12_store t) (fun o => FINS q o)) := fun n => by
    cases n with
    | zero => exact pc_none
    | succ n =>
      show pc (m_x6_readStore_b14 (m_x6_readStore_L14 n) 0 s29) _
      unfold m_x6_readStore_b14
      refine pc_rg (pc_if (fun c => absurd c (by decide)) (fun _ => pc_rg (pc_if (fun c => ?_) (fun c => pc_bn (fun s25 e25 => ?_)))))
      · unfold m_x6_readStore_J38 m_x6_readStore_J75 m_x6_readStore_J87
        refine pc_rg (pc_if (fun _ => pc_rg (pc_if (fun _ => pc_bq (s_fail h100) (fun q14 h14 => ?_)) (fun c2 => absurd h783 c2))) (fun c2 => absurd c c2))
        have n0 : gI q14.2 100 ≠ 0 := by rw [h14.1]; decide
        refine pc_rg (pc_if (fun c3 => absurd c3 n0) (fun _ => pc_bo (pc_some ?_)))
        refine m_sin (fun T hT' _ => pc_bq (m_first_end (Y T hT').1 c) (fun s26 g26 => pc_stn (fun o2 e2 => ?_)))
        exact fin_br (q := (0, q14.2)) rfl (BR_mk (by decide) h14 ⟨(q_Ii e2 (by decide)).trans g26.1, (q_Ii e2 (by decide)).trans g26.2⟩) FU
      · have W := wp_det (w_x6_readStatement R29 ⟨by omega, by omega⟩ h99) e25
        have F25 : F_x6_readStatement s29 s25 := fr_x6_readStatement e25
        intro q eq
        refine m_sin (fun T hT' _ => pc_bn (fun o eo => pc_stn (fun o2 e2 => ?_)))
        obtain ⟨y, p, b⟩ := Y T hT'
        rcases y_first y p b h783 e25 o eo with ⟨d1, d2, d3, d4⟩ | B
        · have o6 : gI o 6 = -1 := nb_x12_storeTold o eo (fun _ => hT'.1.2.2.2.2.2.1) d1.2.1.2
          have w785 := W.2.1.1
          have I2 : ∀ i, i ≠ 46 → gI o2 i = gI o i := fun i hi => q_Ii e2 hi
          exact y_sloop n (0 + 1) s25 o2 ⟨SY_f d1 (I2 2 (by decide)) (I2 3 (by decide)) (I2 4 (by decide)) (I2 5 (by decide)) (fun k _ => q_Ia e2), PLJ_t d2 (I2 45 (by decide)) (fun k => q_Ia e2) (fun k => q_Ib e2), d3, by rw [(q_II e2 : gI o2 46 = 1), d4], by omega, by omega, W.1, w785, (F25.1 9999 (by decide)).trans h99, (I2 6 (by decide)).trans o6⟩ q eq FU
        · have g := s_gone n (0 + 1) s25 B.1 q eq
          exact fin_br g.1 (BR_go B g.2 (FKp.i e2 (by decide) (by decide))) FU
  exact main FU
/-! ===== the reference: a STORE stands ===== -/
def STD3 (t T : MS) : Prop := ((∀ k : Nat, k < 5 → gA T 39 (5 + k) = gA t 39 k) ∧ ∀ k : Nat, k < 5 → gA T 39 k = gA t 39 k) ∧ (∀ w : Nat, w < 3 → gA T 42 (3 + w) = gA t 42 w ∧ gA T 43 (3 + w) = gA t 43 w) ∧ (∀ v : Nat, v < 8 → gB T 40 (8 + v) = gB t 40 v) ∧ (∀ j : Nat, (j : Int) < gI t 45 → gA T 44 (1600 + j) = gA t 44 j) ∧ ((∀ v : Nat, v < 16 → gA T 49 v = 255) ∧ ∀ k : Nat, 16 ≤ k → k < 906 → gA T 49 k = 0) ∧ gI T 47 = 1 ∧ Fr [47] [39, 42, 43, 44, 49] [] [40] t T
theorem st158 {s : MS} {P : MS → Prop} (h : ∀ k : Nat, k < 906 → gA s 49 k = 0) (g : ∀ T, ((∀ v : Nat, v < 16 → gA T 49 v = 255) ∧ ∀ k : Nat, 16 ≤ k → k < 906 → gA T 49 k = 0) → Fr [] [49] [] [] s T → pc (m_x12_stands_L193 FU 0 T) P) : pc (m_x12_stands_L158 FU 0 s) P := by
  have L : ∀ (n : Nat) (x : Int) (S : MS), (0 ≤ x ∧ x ≤ 8) → (∀ v : Nat, (v : Int) < x → gA S 49 v = 255 ∧ gA S 49 (8 + v) = 255) → (∀ k : Nat, 16 ≤ k → k < 906 → gA S 49 k = 0) → Fr [] [49] [] [] s S → pc (m_x12_stands_L158 n x S) P := by
    refine fr_ind (fun _ _ _ _ _ _ => pc_none) (fun n ih x S hx h1 h2 hF => ?_)
    show pc (m_x12_stands_b158 (m_x12_stands_L158 n) x S) P
    unfold m_x12_stands_b158
    refine pc_rg (pc_if (fun c => g S ⟨fun v hv => ?_, h2⟩ hF) (fun c => pc_inb (pc_stn (fun s24 e24 => pc_inb (pc_stn (fun s26 e26 => ih (x + 1) s26 (by omega) ?_ ?_ ?_))))))
    · by_cases z : v < 8
      · exact (h1 v (by omega)).1
      · have := (h1 (v - 8) (by omega)).2
        rw [show 8 + (v - 8) = v by omega] at this
        exact this
    · intro v hv
      have a1 : gA s26 49 = upZ (gA s24 49) (Int.toNat (8 + x)) 255 := q_AA e26
      have a2 : gA s24 49 = upZ (gA S 49) (Int.toNat x) 255 := q_AA e24
      rw [a1, a2]
      by_cases z : (v : Int) = x
      · rw [upZ_n (show v ≠ Int.toNat (8 + x) by omega), show v = Int.toNat x by omega, upZ_s, show 8 + Int.toNat x = Int.toNat (8 + x) by omega, upZ_s]
        exact ⟨rfl, rfl⟩
      · rw [upZ_n (show v ≠ Int.toNat (8 + x) by omega), upZ_n (show v ≠ Int.toNat x by omega), upZ_n (show 8 + v ≠ Int.toNat (8 + x) by omega), upZ_n (show 8 + v ≠ Int.toNat x by omega)]
        exact h1 v (by omega)
    · intro k hk hk2
      rw [(q_AA e26 : gA s26 49 = _), upZ_n (by omega), (q_AA e24 : gA s24 49 = _), upZ_n (by omega)]
      exact h2 k hk hk2
    · subst e26; subst e24
      exact Fr.uA (Fr.uA hF (by decide)) (by decide)
  exact L FU 0 s (by omega) (fun v hv => absurd hv (by omega)) (fun k _ hk => h k hk) (Fr.rf s)
theorem st136 {s : MS} {P : MS → Prop} (g : ∀ T, (∀ k : Nat, k < 906 → gA T 49 k = 0) → Fr [] [49] [] [] s T → pc (m_x12_stands_L158 FU 0 T) P) : pc (m_x12_stands_L136 FU 0 s) P := by
  have L : ∀ (n : Nat) (x : Int) (S : MS), (0 ≤ x ∧ x ≤ 906) → (∀ k : Nat, (k : Int) < x → gA S 49 k = 0) → Fr [] [49] [] [] s S → pc (m_x12_stands_L136 n x S) P := by
    refine fr_ind (fun _ _ _ _ _ => pc_none) (fun n ih x S hx h1 hF => ?_)
    show pc (m_x12_stands_b136 (m_x12_stands_L136 n) x S) P
    unfold m_x12_stands_b136
    refine pc_rg (pc_if (fun c => g S (fun k hk => h1 k (by omega)) hF) (fun c => pc_inb (pc_stn (fun s32 e32 => ih (x + 1) s32 (by omega) ?_ ?_))))
    · intro k hk
      rw [(q_AA e32 : gA s32 49 = _)]
      by_cases z : k = Int.toNat x
      · rw [z, upZ_s]
      · rw [upZ_n z]; exact h1 k (by omega)
    · subst e32; exact Fr.uA hF (by decide)
  exact L FU 0 s (by omega) (fun v hv => absurd hv (by omega)) (Fr.rf s)
theorem st104 {s : MS} {P : MS → Prop} (h45 : 0 ≤ gI s 45 ∧ gI s 45 ≤ 1600) (g : ∀ T, (∀ j : Nat, (j : Int) < gI s 45 → gA T 44 (1600 + j) = gA s 44 j) → Fr [] [44] [] [] s T → pc (m_x12_stands_L136 FU 0 T) P) : pc (m_x12_stands_L104 FU 0 s) P := by
  have L : ∀ (n : Nat) (x : Int) (S : MS), (0 ≤ x ∧ x ≤ gI s 45) → (∀ j : Nat, (j : Int) < x → gA S 44 (1600 + j) = gA s 44 j) → (∀ j : Nat, j < 1600 → gA S 44 j = gA s 44 j) → Fr [] [44] [] [] s S → pc (m_x12_stands_L104 n x S) P := by
    refine fr_ind (fun _ _ _ _ _ _ => pc_none) (fun n ih x S hx h1 h2 hF => ?_)
    have k45 : gI S 45 = gI s 45 := hF.1 45 (by decide)
    show pc (m_x12_stands_b104 (m_x12_stands_L104 n) x S) P
    unfold m_x12_stands_b104
    refine pc_rg (pc_rg (pc_if (fun c => g S (fun j hj => h1 j (by omega)) hF) (fun c => pc_rdI (fun _ => pc_inb (pc_stn (fun s40 e40 => ih (x + 1) s40 (by omega) ?_ ?_ ?_))))))
    · intro j hj
      rw [(q_AA e40 : gA s40 44 = _)]
      by_cases z : (j : Int) = x
      · rw [show 1600 + j = Int.toNat (1600 + x) by omega, upZ_s, h2 _ (by omega), show Int.toNat x = j by omega]
      · rw [upZ_n (by omega)]; exact h1 j (by omega)
    · intro j hj
      rw [(q_AA e40 : gA s40 44 = _), upZ_n (by omega)]
      exact h2 j hj
    · subst e40; exact Fr.uA hF (by decide)
  exact L FU 0 s (by omega) (fun v hv => absurd hv (by omega)) (fun _ _ => rfl) (Fr.rf s)
theorem st75 {s : MS} {P : MS → Prop} (g : ∀ T, (∀ v : Nat, v < 8 → gB T 40 (8 + v) = gB s 40 v) → Fr [] [] [] [40] s T → pc (m_x12_stands_L104 FU 0 T) P) : pc (m_x12_stands_L75 FU 0 s) P := by
  have L : ∀ (n : Nat) (x : Int) (S : MS), (0 ≤ x ∧ x ≤ 8) → (∀ v : Nat, (v : Int) < x → gB S 40 (8 + v) = gB s 40 v) → (∀ v : Nat, v < 8 → gB S 40 v = gB s 40 v) → Fr [] [] [] [40] s S → pc (m_x12_stands_L75 n x S) P := by
    refine fr_ind (fun _ _ _ _ _ _ => pc_none) (fun n ih x S hx h1 h2 hF => ?_)
    show pc (m_x12_stands_b75 (m_x12_stands_L75 n) x S) P
    unfold m_x12_stands_b75
    refine pc_rg (pc_if (fun c => g S (fun j hj => h1 j (by omega)) hF) (fun c => pc_rdL (pc_inb (pc_stn (fun s47 e47 => ih (x + 1) s47 (by omega) ?_ ?_ ?_)))))
    · intro j hj
      rw [(q_BB e47 : gB s47 40 = _)]
      by_cases z : (j : Int) = x
      · rw [show 8 + j = Int.toNat (8 + x) by omega, upZ_s, h2 _ (by omega), show Int.toNat x = j by omega]
      · rw [upZ_n (by omega)]; exact h1 j (by omega)
    · intro j hj
      rw [(q_BB e47 : gB s47 40 = _), upZ_n (by omega)]
      exact h2 j hj
    · subst e47; exact Fr.uB hF (by decide)
  exact L FU 0 s (by omega) (fun v hv => absurd hv (by omega)) (fun _ _ => rfl) (Fr.rf s)
theorem st34 {s : MS} {P : MS → Prop} (g : ∀ T, (∀ w : Nat, w < 3 → gA T 42 (3 + w) = gA s 42 w ∧ gA T 43 (3 + w) = gA s 43 w) → Fr [] [42, 43] [] [] s T → pc (m_x12_stands_L75 FU 0 T) P) : pc (m_x12_stands_L34 FU 0 s) P := by
  have L : ∀ (n : Nat) (x : Int) (S : MS), (0 ≤ x ∧ x ≤ 3) → (∀ w : Nat, (w : Int) < x → gA S 42 (3 + w) = gA s 42 w ∧ gA S 43 (3 + w) = gA s 43 w) → (∀ w : Nat, w < 3 → gA S 42 w = gA s 42 w ∧ gA S 43 w = gA s 43 w) → Fr [] [42, 43] [] [] s S → pc (m_x12_stands_L34 n x S) P := by
    refine fr_ind (fun _ _ _ _ _ _ => pc_none) (fun n ih x S hx h1 h2 hF => ?_)
    show pc (m_x12_stands_b34 (m_x12_stands_L34 n) x S) P
    unfold m_x12_stands_b34
    refine pc_rg (pc_if (fun c => g S (fun j hj => h1 j (by omega)) hF) (fun c => pc_rdI (fun _ => pc_inb (pc_stn (fun s54 e54 => pc_rdI (fun _ => pc_inb (pc_stn (fun s57 e57 => ih (x + 1) s57 (by omega) ?_ ?_ ?_))))))))
    · intro j hj
      rw [(q_Aa e57 (by decide) : gA s57 42 = gA s54 42), (q_AA e54 : gA s54 42 = _), (q_AA e57 : gA s57 43 = _), (q_Aa e54 (by decide) : gA s54 43 = gA S 43)]
      by_cases z : (j : Int) = x
      · have zx : Int.toNat x = j := by omega
        have q := h2 j (by omega)
        rw [show 3 + j = Int.toNat (3 + x) by omega, upZ_s, upZ_s, zx]
        exact q
      · rw [upZ_n (by omega), upZ_n (by omega)]; exact h1 j (by omega)
    · intro j hj
      rw [(q_Aa e57 (by decide) : gA s57 42 = gA s54 42), (q_AA e54 : gA s54 42 = _), (q_AA e57 : gA s57 43 = _), (q_Aa e54 (by decide) : gA s54 43 = gA S 43), upZ_n (by omega), upZ_n (by omega)]
      exact h2 j hj
    · subst e57; subst e54; exact Fr.uA (Fr.uA hF (by decide)) (by decide)
  exact L FU 0 s (by omega) (fun v hv => absurd hv (by omega)) (fun _ _ => ⟨rfl, rfl⟩) (Fr.rf s)
theorem st7 {s : MS} {P : MS → Prop} (g : ∀ T, ((∀ k : Nat, k < 5 → gA T 39 (5 + k) = gA s 39 k) ∧ ∀ k : Nat, k < 5 → gA T 39 k = gA s 39 k) → Fr [] [39] [] [] s T → pc (m_x12_stands_L34 FU 0 T) P) : pc (m_x12_stands_L7 FU 0 s) P := by
  have L : ∀ (n : Nat) (x : Int) (S : MS), (0 ≤ x ∧ x ≤ 5) → (∀ v : Nat, (v : Int) < x → gA S 39 (5 + v) = gA s 39 v) → (∀ v : Nat, v < 5 → gA S 39 v = gA s 39 v) → Fr [] [39] [] [] s S → pc (m_x12_stands_L7 n x S) P := by
    refine fr_ind (fun _ _ _ _ _ _ => pc_none) (fun n ih x S hx h1 h2 hF => ?_)
    show pc (m_x12_stands_b7 (m_x12_stands_L7 n) x S) P
    unfold m_x12_stands_b7
    refine pc_rg (pc_if (fun c => g S ⟨fun j hj => h1 j (by omega), h2⟩ hF) (fun c => pc_rdI (fun _ => pc_inb (pc_stn (fun s64 e64 => ih (x + 1) s64 (by omega) ?_ ?_ ?_)))))
    · intro j hj
      rw [(q_AA e64 : gA s64 39 = _)]
      by_cases z : (j : Int) = x
      · rw [show 5 + j = Int.toNat (5 + x) by omega, upZ_s, h2 _ (by omega), show Int.toNat x = j by omega]
      · rw [upZ_n (by omega)]; exact h1 j (by omega)
    · intro j hj
      rw [(q_AA e64 : gA s64 39 = _), upZ_n (by omega)]
      exact h2 j hj
    · subst e64; exact Fr.uA hF (by decide)
  exact L FU 0 s (by omega) (fun v hv => absurd hv (by omega)) (fun _ _ => rfl) (Fr.rf s)
theorem m_std {t : MS} {P : MS → Prop} (h45 : 0 ≤ gI t 45 ∧ gI t 45 ≤ 1600) (g : ∀ T, STD3 t T → pc (m_x12_stands_L193 FU 0 T) P) : pc (m_x12_stands t) P := by
  unfold m_x12_stands
  refine pc_stn (fun s0 e0 => st7 (fun s1 h1 F1 => st34 (fun s2 h2 F2 => st75 (fun s3 h3 F3 => ?_))))
  have F0 : Fr [47] [] [] [] t s0 := FI1 e0
  have i3 : gI s3 45 = gI t 45 := (F3.1 45 (by decide)).trans ((F2.1 45 (by decide)).trans ((F1.1 45 (by decide)).trans (F0.1 45 (by decide))))
  refine st104 (by omega) (fun s4 h4 F4 => st136 (fun s5 h5 F5 => st158 h5 (fun T h6 F6 => g T ⟨⟨fun k hk => ?_, fun k hk => ?_⟩, fun w hw => ?_, fun v hv => ?_, fun j hj => ?_, h6, ?_, ?_⟩)))
  · rw [F6.2.1 39 (by decide), F5.2.1 39 (by decide), F4.2.1 39 (by decide), F3.2.1 39 (by decide), F2.2.1 39 (by decide), h1.1 k hk, F0.2.1 39 (by decide)]
  · rw [F6.2.1 39 (by decide), F5.2.1 39 (by decide), F4.2.1 39 (by decide), F3.2.1 39 (by decide), F2.2.1 39 (by decide), h1.2 k hk, F0.2.1 39 (by decide)]
  · rw [F6.2.1 42 (by decide), F5.2.1 42 (by decide), F4.2.1 42 (by decide), F3.2.1 42 (by decide), F6.2.1 43 (by decide), F5.2.1 43 (by decide), F4.2.1 43 (by decide), F3.2.1 43 (by decide), (h2 w hw).1, (h2 w hw).2, F1.2.1 42 (by decide), F1.2.1 43 (by decide), F0.2.1 42 (by decide), F0.2.1 43 (by decide)]
    exact ⟨rfl, rfl⟩
  · rw [F6.2.2.2 40 (by decide), F5.2.2.2 40 (by decide), F4.2.2.2 40 (by decide), h3 v hv, F2.2.2.2 40 (by decide), F1.2.2.2 40 (by decide), F0.2.2.2 40 (by decide)]
  · rw [F6.2.1 44 (by decide), F5.2.1 44 (by decide), h4 j (by omega), F3.2.1 44 (by decide), F2.2.1 44 (by decide), F1.2.1 44 (by decide), F0.2.1 44 (by decide)]
  · rw [F6.1 47 (by decide), F5.1 47 (by decide), F4.1 47 (by decide), F3.1 47 (by decide), F2.1 47 (by decide), F1.1 47 (by decide)]
    exact q_II e0
  · have Z : Fr [47] [39, 42, 43, 44, 49] [] [40] t t := Fr.rf t
    exact Fr.tr (Fr.tr (Fr.tr (Fr.tr (Fr.tr (Fr.tr (Fr.tr Z F0 (by decide)) F1 (by decide)) F2 (by decide)) F3 (by decide)) F4 (by decide)) F5 (by decide)) F6 (by decide)
theorem m_std2 : ∀ (n : Nat) (x : Int) (S : MS), pc (m_x12_stands_L193 n x S) (fun o => Fr [48, 50, 51, 52, 53, 55, 73, 76, 108] [49, 54, 56, 57, 58, 59, 60] [] [107] S o) := by
  refine fr_ind (fun _ _ => pc_none) (fun n ih x S => ?_)
  show pc (m_x12_stands_b193 (m_x12_stands_L193 n) x S) _
  unfold m_x12_stands_b193
  refine pc_rdI (fun _ => pc_rg (pc_rg (pc_if (fun _ => pc_bn (fun s8 e8 => pc_inb (pc_stn (fun s10 e10 => pc_stn (fun s11 e11 => pc_stn (fun s12 e12 => pc_some ?_)))))) (fun _ => pc_rdI (fun _ => pc_rdI (fun _ => pc_rdI (fun _ => pc_rdI (fun _ => pc_bn (fun s18 e18 => ?_)))))))))
  · have F8 : F_x12_checks S s8 := fr_x12_checks e8
    subst e12; subst e11; subst e10
    exact Fr.uI (Fr.uI (Fr.uA (Fr.tr (Fr.rf S) F8 (by decide)) (by decide)) (by decide)) (by decide)
  · have F18 : F_x12_actGoes S s18 := fr_x12_actGoes e18
    exact pc_mono (ih (x + 1) s18) (fun o ho => Fr.tr (Fr.tr (Fr.rf S) F18 (by decide)) ho ⟨fun _ q => q, fun _ q => q, fun _ q => q, fun _ q => q⟩)
/-! ===== what was told, on both sides ===== -/
def TPJ (x t : MS) : Prop := gI x 61 = gI t 1 ∧ TBJ x t
def FLT (x t : MS) : Prop := gI t 7 = gI x 100 ∧ (gI x 100 ≠ 0 → gI t 8 = gI x 101) ∧ (gI x 100 = 0 → gI t 8 = -1)
def NMT (x t : MS) : Prop := (gA t 39 7 = gI x 584 ∧ 0 ≤ gI x 584 ∧ gI x 584 ≤ 8) ∧ ∀ v : Nat, (v : Int) < gI x 584 → NM1 (fun j => gA x 30 (v * 6 + j)) (gB t 40 (8 + v))
def CDT (x t : MS) : Prop := (∀ j : Nat, (j : Int) < gI x 741 → cr (gA x 38 j) (gA t 44 (1600 + j))) ∧ ∀ w : Nat, w < 3 → gA t 42 (3 + w) = gA x 35 w ∧ (gA x 35 w ≠ -1 → gA t 43 (3 + w) = gA x 36 w)
def PTJ (x t : MS) : Prop := (gI t 47 = gI x 12 ∧ NMT x t) ∧ (gI x 12 ≠ 0 → (gA t 39 5 = gI x 580 ∧ gA t 39 6 = gI x 581 ∧ gA t 39 9 = gI x 582) ∧ CDT x t ∧ FSr (gA x 35) (gA x 36) (gA x 38) (gI x 741)) ∧ (gI x 12 = 0 → gI x 584 = 0)
def PJ (x t : MS) : Prop := (W6 x ∧ RWD t) ∧ TPJ x t ∧ FLT x t ∧ PTJ x t
/-- the class's part that says what was told -/
def KX (x o : MS) : Prop := (∀ i, i = 12 ∨ (580 ≤ i ∧ i ≤ 584) ∨ i = 741 → gI o i = gI x i) ∧ (∀ k, k = 6 ∨ (30 ≤ k ∧ k ≤ 38) → gA o k = gA x k)
/-- the reference's -/
def KY (t o : MS) : Prop := gI o 47 = gI t 47 ∧ (∀ k, (11 ≤ k ∧ k ≤ 37) ∨ (79 ≤ k ∧ k ≤ 100) → gA o k = gA t k) ∧ FBk t o ∧ ∀ j, 8 ≤ j → gB o 40 j = gB t 40 j
theorem PTJ_k {x x1 t t1 : MS} (H : PTJ x t) (a : KX x x1) (b : KY t t1) : PTJ x1 t1 := by
  obtain ⟨⟨h1, h2, h3⟩, h4, h5⟩ := H
  have i12 := a.1 12 (Or.inl rfl)
  have i584 := a.1 584 (Or.inr (Or.inl (by omega)))
  refine ⟨⟨by rw [b.1, i12]; exact h1, ⟨by rw [b.2.2.1.1 7 (by decide), i584]; exact h2, fun v hv => ?_⟩⟩, fun z => ?_, fun z => by rw [i584]; exact h5 (by rw [← i12]; exact z)⟩
  · rw [a.2 30 (by omega), b.2.2.2 (8 + v) (by omega)]
    exact h3 v (by omega)
  · obtain ⟨g1, ⟨g2, g3⟩, g4⟩ := h4 (by rw [← i12]; exact z)
    refine ⟨?_, ⟨fun j hj => ?_, fun w hw => ?_⟩, by rw [a.2 35 (by omega), a.2 36 (by omega), a.2 38 (by omega), a.1 741 (by omega)]; exact g4⟩
    · rw [b.2.2.1.1 5 (by decide), b.2.2.1.1 6 (by decide), b.2.2.1.1 9 (by decide), a.1 580 (by omega), a.1 581 (by omega), a.1 582 (by omega)]; exact g1
    · rw [a.2 38 (by omega), b.2.2.1.2.2 (1600 + j) (by omega)]
      exact g2 j (by rw [← a.1 741 (by omega)]; exact hj)
    · rw [a.2 35 (by omega), a.2 36 (by omega), (b.2.2.1.2.1 (3 + w) (by omega)).1, (b.2.2.1.2.1 (3 + w) (by omega)).2]
      exact g3 w hw
theorem WD_k {x x1 t t1 : MS} (H : W6 x ∧ RWD t) (a : KX x x1) (b : KY t t1) : W6 x1 ∧ RWD t1 := ⟨W6_e H.1 (a.2 6 (by omega)), RWD_e H.2 b.2.1⟩
theorem FLT_k {x x1 t t1 : MS} (H : FLT x t) (a : gI x1 100 = gI x 100 ∧ gI x1 101 = gI x 101) (b : gI t1 7 = gI t 7 ∧ gI t1 8 = gI t 8) : FLT x1 t1 := by
  unfold FLT at H ⊢
  rw [a.1, a.2, b.1, b.2]; exact H
theorem TPJ_0 {x t : MS} (a : gI x 61 = 0) (b : gI t 1 = 0) : TPJ x t := ⟨a.trans b.symm, fun j hj => absurd hj (by omega)⟩
theorem KY_KT {t o : MS} (h : KT t o) : KY t o := ⟨h.2.1 47 (by decide), fun k hk => h.2.2.1 k (by intro m; simp at m; omega), h.1.1, h.1.2⟩
theorem s_refuse {p : Int} {s : MS} : pc (m_x11_refuse p s) (fun q => q.1 = -1) := by
  unfold m_x11_refuse
  exact pc_rdI (fun _ => pc_inb (pc_stn (fun s3 _ => pc_some rfl)))
theorem sw_p {s : MS} {k : Nat} (h : 580 ≤ k ∧ k ≤ 779) : gI (swS s) k = gI s (k + 200) := if_pos h
theorem sw_o {s : MS} {k : Nat} (h : k < 580 ∨ 979 < k) : gI (swS s) k = gI s k := by
  show (if 580 ≤ k ∧ k ≤ 779 then s.1 (k + 200) else if 780 ≤ k ∧ k ≤ 979 then s.1 (k - 200) else s.1 k) = s.1 k
  rw [if_neg (by omega), if_neg (by omega)]
theorem sw_P {s : MS} {k : Nat} (h : 29 ≤ k ∧ k ≤ 38) : gA (swS s) k = gA s (k + 10) := if_pos h
theorem sw_O {s : MS} {k : Nat} (h : k < 29 ∨ 48 < k) : gA (swS s) k = gA s k := by
  show (if 29 ≤ k ∧ k ≤ 38 then s.2.2.1 (k + 10) else if 39 ≤ k ∧ k ≤ 48 then s.2.2.1 (k - 10) else s.2.2.1 k) = s.2.2.1 k
  rw [if_neg (by omega), if_neg (by omega)]
theorem m_109 {T : MS} (h5 : gI T 5 = 0) (h6 : gI T 6 = -1) (h45 : 0 ≤ gI T 45 ∧ gI T 45 ≤ 1600) : pc (m_x12_store_J109 T) (fun o => ∃ s3 T3, (gI s3 7 = 0 ∧ gI s3 8 = -1 ∧ Fr [7, 8] [] [] [] T s3) ∧ STD3 s3 T3 ∧ m_x12_stands_L193 FU 0 T3 = some o.2 ∧ o.1 = gI o.2 46) := by
  unfold m_x12_store_J109
  refine pc_stn (fun s2 e2 => pc_stn (fun s3 e3 => ?_))
  have i5 : gI s3 5 = gI T 5 := (q_Ii e3 (by decide)).trans (q_Ii e2 (by decide))
  have i7 : gI s3 7 = 0 := ((q_Ii e3 (by decide)).trans (q_II e2)).trans h5
  have i8 : gI s3 8 = -1 := ((q_II e3).trans (q_Ii e2 (by decide))).trans h6
  have i45 : gI s3 45 = gI T 45 := (q_Ii e3 (by decide)).trans (q_Ii e2 (by decide))
  have F : Fr [7, 8] [] [] [] T s3 := by
    subst e3; subst e2
    exact Fr.uI (Fr.uI (Fr.rf T) (by decide)) (by decide)
  refine pc_rg (pc_if (fun c => ?_) (fun c => absurd (i5.trans h5) c))
  refine pc_bq (m_std (P := fun s7 => ∃ T3, STD3 s3 T3 ∧ m_x12_stands_L193 FU 0 T3 = some s7) (by omega) (fun T3 h o eo => ⟨T3, h, eo⟩)) (fun s7 h7 => pc_some ?_)
  obtain ⟨T3, a, b⟩ := h7
  exact ⟨s3, T3, ⟨i7, i8, F⟩, a, b, rfl⟩
set_option maxHeartbeats 1000000 in
/-- STORE on both sides: one answer, and alike what is told then -/
theorem y_store {x t : MS} {ts : List MS} (hC : CI x ts) (hR : Rr t) (hJ : JI t) (H : PJ x t) : pc (m_x11_store x) (fun q => pc (m_x12_store t) (fun o => q.1 = o.1 ∧ PJ q.2 o.2)) := by
  obtain ⟨⟨hW, hD⟩, ⟨hl, hT⟩, hF, hP⟩ := H
  unfold m_x11_store
  refine pc_bn (fun q3 e3 => pc_stn (fun s4 e4 => ?_))
  have Y := y_readStore hC.1 hW hl hT hD q3 e3
  have F3 : F_x6_readStore x q3.2 := fr_x6_readStore e3
  have R3 := (wp_det (w_x6_readStore hC.1) e3).1
  have I4 : ∀ i, i ≠ 61 → gI s4 i = gI q3.2 i := fun i hi => q_Ii e4 hi
  have A4 : ∀ k, gA s4 k = gA q3.2 k := fun k => q_Ia e4
  refine pc_rg (pc_if (fun c => pc_bn (fun q17 e17 => pc_some (fun o eo => ?_))) (fun c => pc_eqg (pc_stn (fun s8 e8 => pc_bn (fun s10 e10 => pc_bn (fun s12 e12 => pc_stn (fun s13 e13 => pc_stn (fun s14 e14 => pc_some (fun o eo => ?_)))))))))
  · have o1 := (wp_det (w_x12_store hR hJ) eo).2.2
    have F17 : F_x11_refuse s4 q17.2 := fr_x11_refuse e17
    have XI : ∀ i, i ≠ 61 → gI q17.2 i = gI q3.2 i := fun i hi => (F17.1 i (by simp)).trans (I4 i hi)
    have XA : ∀ k, k ≠ 2 → gA q17.2 k = gA q3.2 k := fun k hk => (F17.2.1 k (by intro m; simp at m; omega)).trans (A4 k)
    rcases Y o eo with ⟨_, n100, a1, a7, a8⟩ | ⟨a, _⟩
    · have K := KY_KT (r_keep hR o eo (by rw [a7]; exact n100))
      have KX1 : KX x q17.2 := ⟨fun i hi => (XI i (by omega)).trans (F3.1 i (by intro m; simp at m; omega)), fun k hk => (XA k (by omega)).trans (F3.2.1 k (by intro m; simp at m; omega))⟩
      refine ⟨(s_refuse q17 e17).trans a1.symm, WD_k ⟨hW, hD⟩ KX1 K, TPJ_0 ((F17.1 61 (by simp)).trans (q_II e4)) o1, ⟨by rw [XI 100 (by decide)]; exact a7, fun _ => by rw [XI 101 (by decide)]; exact a8, fun z => absurd ((XI 100 (by decide)).symm.trans z) n100⟩, PTJ_k hP KX1 K⟩
    · exact absurd (a.symm.trans c) (by decide)
  · have o1 := (wp_det (w_x12_store hR hJ) eo).2.2
    rcases Y o eo with ⟨a, _⟩ | ⟨_, z100, T, ⟨T5, T6⟩, P, T46, T783, eJ⟩
    · exact absurd a c
    · have b941 : (0 : Int) ≤ gI q3.2 941 ∧ gI q3.2 941 ≤ 1600 := R3.1 941
      obtain ⟨PN, PA, PH, PC, _⟩ := P
      obtain ⟨s3, T3, ⟨j7, j8, Fs3⟩, D3, eL, jo⟩ := m_109 T5 T6 (by rw [PC.1.1]; exact b941) o eJ
      have FL := m_std2 FU 0 T3 o.2 eL
      obtain ⟨⟨d39, _⟩, dC, dN, dK, _, d47, Fd⟩ := D3
      have F10 : F_x1_build s8 s10 := fr_x1_build e10
      have F12 : F_x2_clear s10 s12 := fr_x2_clear e12
      have XI : ∀ i, i < 1000 → i ≠ 12 → i ≠ 220 → i ≠ 143 → i ≠ 145 → gI s14 i = gI (swS s4) i := fun i h1 h2 h3 h4 h5 => by
        rw [(q_Ii e14 h2 : gI s14 i = gI s13 i), (q_Ii e13 h3 : gI s13 i = gI s12 i), F12.1 i (by intro m; simp at m; omega), F10.1 i (by intro m; simp at m; omega), (q_Ii e8 (by omega) : gI s8 i = gI (swS s4) i)]
      have XA : ∀ k, k < 50 → gA s14 k = gA (swS s4) k := fun k h1 => by
        rw [(q_Ia e14 : gA s14 k = gA s13 k), (q_Ia e13 : gA s13 k = gA s12 k), F12.2.1 k (by simp), F10.2.1 k (by intro m; simp at m; omega), (q_Ia e8 : gA s8 k = gA (swS s4) k)]
      have XS : ∀ i, 580 ≤ i → i ≤ 779 → gI s14 i = gI q3.2 (i + 200) := fun i h1 h2 => by
        rw [XI i (by omega) (by omega) (by omega) (by omega) (by omega), sw_p ⟨h1, h2⟩, I4 _ (by omega)]
      have XT : ∀ k, 29 ≤ k → k ≤ 38 → gA s14 k = gA q3.2 (k + 10) := fun k h1 h2 => by
        rw [XA k (by omega), sw_P ⟨h1, h2⟩, A4]
      have OI : ∀ i, i ∉ [48, 50, 51, 52, 53, 55, 73, 76, 108] → i ≠ 47 → gI o.2 i = gI s3 i := fun i h1 h2 => (FL.1 i h1).trans (Fd.1 i (by intro m; simp at m; omega))
      have s3I : ∀ i, i ≠ 7 → i ≠ 8 → gI s3 i = gI T i := fun i h1 h2 => Fs3.1 i (by intro m; simp at m; omega)
      have s3A : ∀ k, gA s3 k = gA T k := fun k => Fs3.2.1 k (by simp)
      have s3B : ∀ k, gB s3 k = gB T k := fun k => Fs3.2.2.2 k (by simp)
      have O39 : ∀ k : Nat, k < 5 → gA o.2 39 (5 + k) = gA T 39 k := fun k hk => by
        rw [FL.2.1 39 (by decide), d39 k hk, s3A]
      refine ⟨?_, ⟨?_, ?_⟩, TPJ_0 ?_ o1, ⟨?_, ?_, ?_⟩, ⟨⟨?_, ⟨?_, ?_⟩⟩, fun _ => ⟨⟨?_, ?_, ?_⟩, ⟨?_, ?_⟩, ?_⟩, fun z => ?_⟩⟩
      · show gI s14 583 = o.1
        rw [jo, OI 46 (by decide) (by decide), s3I 46 (by decide) (by decide), T46, XS 583 (by decide) (by decide)]
      · refine W6_e hW ?_
        show gA s14 6 = gA x 6
        rw [XA 6 (by decide), sw_O (by decide), A4, F3.2.1 6 (by decide)]
      · exact RWD_e hD (fun k hk => by
          have F : F_x12_store t o.2 := fr_x12_store eo
          exact F.2.1 k (by intro m; simp at m; omega))
      · show gI s14 61 = 0
        rw [XI 61 (by decide) (by decide) (by decide) (by decide) (by decide), sw_o (by decide)]
        exact q_II e4
      · show gI o.2 7 = gI s14 100
        rw [OI 7 (by decide) (by decide), j7, XI 100 (by decide) (by decide) (by decide) (by decide) (by decide), sw_o (by decide), I4 100 (by decide), z100]
      · intro z
        exact absurd (show gI s14 100 = 0 by rw [XI 100 (by decide) (by decide) (by decide) (by decide) (by decide), sw_o (by decide), I4 100 (by decide), z100]) z
      · intro _
        rw [OI 8 (by decide) (by decide), j8]
      · show gI o.2 47 = gI s14 12
        rw [FL.1 47 (by decide), d47]
        exact (q_II e14).symm
      · rw [show gI s14 584 = gI q3.2 784 from XS 584 (by decide) (by decide), show gA o.2 39 7 = gA T 39 2 from O39 2 (by decide)]
        exact PN.1
      · intro v hv
        have hv' : (v : Int) < gI q3.2 784 := by rw [← show gI s14 584 = gI q3.2 784 from XS 584 (by decide) (by decide)]; exact hv
        rw [show gA s14 30 = gA q3.2 40 from XT 30 (by decide) (by decide), FL.2.2.2 40 (by decide), dN v (by have := PN.1; omega), s3B]
        exact PN.2 v hv'
      · rw [show gI s14 580 = gI q3.2 780 from XS 580 (by decide) (by decide), show gA o.2 39 5 = gA T 39 0 from O39 0 (by decide)]; exact PH.1
      · rw [show gI s14 581 = gI q3.2 781 from XS 581 (by decide) (by decide), show gA o.2 39 6 = gA T 39 1 from O39 1 (by decide)]; exact PH.2.1
      · rw [show gI s14 582 = gI q3.2 782 from XS 582 (by decide) (by decide), show gA o.2 39 9 = gA T 39 4 from O39 4 (by decide)]; exact PH.2.2
      · intro j hj
        have hj' : (j : Int) < gI q3.2 941 := by rw [← show gI s14 741 = gI q3.2 941 from XS 741 (by decide) (by decide)]; exact hj
        rw [show gA s14 38 = gA q3.2 48 from XT 38 (by decide) (by decide), FL.2.1 44 (by decide), dK j (by rw [s3I 45 (by decide) (by decide), PC.1.1]; exact hj'), s3A]
        exact PC.2.1 j hj'
      · intro w hw
        rw [show gA s14 35 = gA q3.2 45 from XT 35 (by decide) (by decide), show gA s14 36 = gA q3.2 46 from XT 36 (by decide) (by decide), FL.2.1 42 (by decide), FL.2.1 43 (by decide), (dC w hw).1, (dC w hw).2, s3A, s3A]
        exact PC.2.2.1 w hw
      · rw [show gA s14 35 = gA q3.2 45 from XT 35 (by decide) (by decide), show gA s14 36 = gA q3.2 46 from XT 36 (by decide) (by decide), show gA s14 38 = gA q3.2 48 from XT 38 (by decide) (by decide), show gI s14 741 = gI q3.2 941 from XS 741 (by decide) (by decide)]
        exact PC.2.2.2
      · exact absurd ((q_II e14 : gI s14 12 = 1).symm.trans z) (by decide)
theorem y_fault {p : Int} {x t : MS} (H : FLT x t) : pc (m_x11_fault p x) (fun r => pc (m_x12_fault p t) (fun r2 => r = r2)) := by
  have m : pc (m_x12_fault p t) (fun r2 => (p = 0 ∧ r2 = gI t 7) ∨ (p = 1 ∧ r2 = gI t 8) ∨ ((p ≠ 0 ∧ p ≠ 1) ∧ r2 = -1)) := by
    unfold m_x12_fault m_x12_fault_J24
    exact pc_rg (pc_if (fun c => pc_some (Or.inl ⟨c, rfl⟩)) (fun c => pc_rg (pc_if (fun c2 => pc_some (Or.inr (Or.inl ⟨c2, rfl⟩))) (fun c2 => pc_some (Or.inr (Or.inr ⟨⟨c, c2⟩, rfl⟩))))))
  have s : pc (m_x11_fault p x) (fun r => (p = 0 ∧ r = gI x 100) ∨ (p = 1 ∧ gI x 100 = 0 ∧ r = -1) ∨ (p = 1 ∧ gI x 100 ≠ 0 ∧ r = gI x 101) ∨ ((p ≠ 0 ∧ p ≠ 1) ∧ r = -1)) := by
    unfold m_x11_fault m_x11_fault_J37 m_x11_fault_J38
    exact pc_rg (pc_if (fun c => pc_some (Or.inl ⟨c, rfl⟩)) (fun c => pc_rg (pc_if (fun c2 => pc_rg (pc_if (fun c3 => pc_some (Or.inr (Or.inl ⟨c2, c3, rfl⟩))) (fun c3 => pc_some (Or.inr (Or.inr (Or.inl ⟨c2, c3, rfl⟩)))))) (fun c2 => pc_some (Or.inr (Or.inr (Or.inr ⟨⟨c, c2⟩, rfl⟩)))))))
  intro r er r2 er2
  obtain ⟨h1, h2, h3⟩ := H
  rcases s r er with ⟨a, b⟩ | ⟨a, b, c⟩ | ⟨a, b, c⟩ | ⟨⟨a, b⟩, c⟩
  · rcases m r2 er2 with ⟨d, e⟩ | ⟨d, e⟩ | ⟨⟨d, _⟩, e⟩
    · rw [b, e, h1]
    · omega
    · exact absurd a d
  · rcases m r2 er2 with ⟨d, e⟩ | ⟨d, e⟩ | ⟨⟨_, d⟩, e⟩
    · omega
    · rw [c, e, h3 b]
    · exact absurd a d
  · rcases m r2 er2 with ⟨d, e⟩ | ⟨d, e⟩ | ⟨⟨_, d⟩, e⟩
    · omega
    · rw [c, e, h2 b]
    · exact absurd a d
  · rcases m r2 er2 with ⟨d, e⟩ | ⟨d, e⟩ | ⟨_, e⟩
    · exact absurd d a
    · exact absurd d b
    · rw [c, e]
theorem nv_dv {g : Nat → Int} {n : Nat} (h : ∀ j, j < n + 1 → 1 ≤ g j ∧ g j ≤ 26) : Int.tdiv (nv g (n + 1)) 27 = nv g n ∧ Int.tmod (nv g (n + 1)) 27 = g n ∧ 0 < nv g (n + 1) := by
  have a := h n (by omega)
  have b := nv_pos (n := n) (fun j hj => h j (by omega))
  have e : nv g (n + 1) = 27 * nv g n + g n := rfl
  rw [e, Int.tdiv_eq_ediv_of_nonneg (by omega), Int.tmod_eq_emod_of_nonneg (by omega)]
  omega
theorem pc_rgL2 {α : Type} {x : Int} {k : Option α} {P : α → Prop} (h : pc k P) : pc (rgL x k) P := pc_rgL h
theorem m_l84 {t : MS} {g : Nat → Int} {k N : Nat} (hg : ∀ j, j < N → 1 ≤ g j ∧ g j ≤ 26) : ∀ (n : Nat) (q : Nat), k ≤ q → q < N → pc (m_x12_letter_L84 t n (k : Int) (nv g (q + 1)) (q : Int)) (fun r => r = g k) := by
  refine fr_ind (fun _ _ _ => pc_none) (fun n ih q h1 h2 => ?_)
  show pc (m_x12_letter_b84 t (m_x12_letter_L84 t n) (k : Int) (nv g (q + 1)) (q : Int)) _
  unfold m_x12_letter_b84
  have d := nv_dv (n := q) (fun j hj => hg j (by omega))
  refine pc_rg (pc_rg (pc_if (fun c => pc_dvL (pc_some ?_)) (fun c => pc_dvL ?_)))
  · rw [d.2.1, show q = k by omega]
  · rw [d.1]
    obtain ⟨q', hq'⟩ : ∃ q', q = q' + 1 := ⟨q - 1, by omega⟩
    subst hq'
    have := ih q' (by omega) (by omega)
    rw [show ((q' + 1 : Nat) : Int) + -1 = (q' : Int) by omega]
    exact this
theorem m_l49 {t : MS} {g : Nat → Int} {k N : Nat} (hg : ∀ j, j < N → 1 ≤ g j ∧ g j ≤ 26) : ∀ (n : Nat) (m : Nat), m ≤ N → pc (m_x12_letter_L49 t n (k : Int) (nv g N) ((N : Int) - (m : Int)) (nv g m)) (fun r => (k < N ∧ r = g k) ∨ (N ≤ k ∧ r = 0)) := by
  refine fr_ind (fun _ _ => pc_none) (fun n ih m hm => ?_)
  show pc (m_x12_letter_b49 t (m_x12_letter_L49 t n) (k : Int) (nv g N) ((N : Int) - (m : Int)) (nv g m)) _
  unfold m_x12_letter_b49
  cases m with
  | zero =>
    refine pc_rgL (pc_if (fun _ => pc_rg (pc_rg (pc_if (fun c => ?_) (fun c => pc_some (Or.inr ⟨by omega, rfl⟩))))) (fun c => absurd (Int.le_refl 0) c))
    obtain ⟨q, hq⟩ : ∃ q, N = q + 1 := ⟨N - 1, by omega⟩
    have e : (N : Int) - ((0 : Nat) : Int) - 1 = (q : Int) := by omega
    rw [e, hq]
    exact pc_mono (m_l84 (t := t) (g := g) (k := k) (N := q + 1) (by rw [← hq]; exact hg) FU q (by omega) (by omega)) (fun r hr => Or.inl ⟨by omega, hr⟩)
  | succ m =>
    have d := nv_dv (n := m) (fun j hj => hg j (by omega))
    refine pc_rgL (pc_if (fun c => absurd c (by omega)) (fun _ => pc_dvL ?_))
    rw [d.1, show (N : Int) - ((m + 1 : Nat) : Int) + 1 = (N : Int) - (m : Int) by omega]
    exact ih m (by omega)
theorem y_letter {p k : Int} {x t : MS} (H : PTJ x t) (hp : R2 p) (hk : R2 k) : pc (m_x11_letter p k x) (fun r => pc (m_x12_letter p k t) (fun r2 => r = r2)) := by
  obtain ⟨⟨h47, ⟨n1, n2, n3⟩, nm⟩, _, hn⟩ := H
  have s : pc (m_x11_letter p k x) (fun r => (((0 ≤ p ∧ p < gI x 584) ∧ (0 ≤ k ∧ k < 6)) ∧ r = gA x 30 (p * 6 + k).toNat) ∨ (¬ ((0 ≤ p ∧ p < gI x 584) ∧ (0 ≤ k ∧ k < 6)) ∧ r = -1)) := by
    unfold m_x11_letter m_x11_letter_J32
    exact pc_rg (pc_if (fun c => pc_some (Or.inr ⟨by have := hn c; omega, rfl⟩)) (fun _ => pc_rg (pc_if (fun c => pc_some (Or.inr ⟨by omega, rfl⟩)) (fun c1 => pc_rg (pc_rg (pc_if (fun c => pc_some (Or.inr ⟨by omega, rfl⟩)) (fun c2 => pc_rg (pc_if (fun c => pc_some (Or.inr ⟨by omega, rfl⟩)) (fun c3 => pc_rg (pc_if (fun c4 => pc_rdI (fun _ => pc_some (Or.inl ⟨by omega, rfl⟩))) (fun c => pc_some (Or.inr ⟨by omega, rfl⟩))))))))))))
  have m : pc (m_x12_letter p k t) (fun r2 => (((0 ≤ p ∧ p < gI x 584) ∧ (0 ≤ k ∧ k < 6)) ∧ r2 = gA x 30 (p * 6 + k).toNat) ∨ (¬ ((0 ≤ p ∧ p < gI x 584) ∧ (0 ≤ k ∧ k < 6)) ∧ r2 = -1)) := by
    unfold m_x12_letter m_x12_letter_J31
    refine pc_rg (pc_rdI (fun _ => pc_rg (pc_bq y_isIn (fun r23 h23 => pc_rg (pc_if (fun c => pc_some (Or.inr ⟨?_, rfl⟩)) (fun c => pc_rg (pc_bq y_isIn (fun r28 h28 => pc_rg (pc_if (fun c2 => pc_some (Or.inr ⟨?_, rfl⟩)) (fun c2 => pc_rdL ?_))))))))))
    · have e : gA t 39 (Int.toNat 7) = gI x 584 := n1
      omega
    · omega
    · have e : gA t 39 (Int.toNat 7) = gI x 584 := n1
      have q1 : 0 ≤ p ∧ p < gI x 584 := by omega
      have q2 : 0 ≤ k ∧ k < 6 := by omega
      obtain ⟨N, a1, a2, a3, a4⟩ := nm p.toNat (by omega)
      have e2 : gB t 40 (Int.toNat (8 + p)) = nv (fun j => gA x 30 (p.toNat * 6 + j)) N := by rw [show Int.toNat (8 + p) = 8 + p.toNat by omega]; exact a4
      rw [e2]
      have L := m_l49 (t := t) (g := fun j => gA x 30 (p.toNat * 6 + j)) (k := k.toNat) (N := N) a2 FU N (Nat.le_refl N)
      rw [show ((k.toNat : Nat) : Int) = k by omega, Int.sub_self] at L
      refine pc_mono L (fun r hr => Or.inl ⟨⟨q1, q2⟩, ?_⟩)
      rw [show (p * 6 + k).toNat = p.toNat * 6 + k.toNat by omega]
      rcases hr with ⟨_, b⟩ | ⟨a, b⟩
      · exact b
      · rw [b]; exact (a3 k.toNat a (by omega)).symm
  intro r er r2 er2
  rcases s r er with ⟨a, b⟩ | ⟨a, b⟩
  · rcases m r2 er2 with ⟨_, d⟩ | ⟨c, _⟩
    · rw [b, d]
    · exact absurd a c
  · rcases m r2 er2 with ⟨c, _⟩ | ⟨_, d⟩
    · exact absurd c a
    · rw [b, d]
/-! ===== a QUESTION is read on both sides: the same fault ===== -/
theorem wq_ok : ∀ i, i < 6 → wqJ i = 27 + i := by decide
def NOQ (s : MS) (i : Nat) : Prop := ∀ v : Nat, v < i → ¬ (gI s 107 = 1 ∧ gI s 110 = ((27 + v : Nat) : Int))
theorem NOQ_s {s : MS} {i : Nat} (hN : NOQ s i) (b : ¬ (gI s 107 = 1 ∧ gI s 110 = ((27 + i : Nat) : Int))) : NOQ s (i + 1) := fun v hv => by
  by_cases z : v = i
  · rw [z]; exact b
  · exact hN v (by omega)
theorem q_row {i : Nat} {s t : MS} (h : SY s t) (hi : i < 6) : ∀ j, j < wl (27 + i) → gA t (79 + i) j = wc (27 + i) j := fun j hj => by
  have r := h.2.2.2.2.2.2 i (by omega) j (by rw [wq_ok i hi]; exact hj)
  rw [wq_ok i hi] at r
  exact r
theorem q_takes {i wn : Nat} {s t : MS} (h : SY s t) (hi : i < 6) (hn : wn = wl (27 + i)) (hN : NOQ s i) : pc (m_x12_takes (79 + i) wn t) (fun q => (q.1 = 1 ∧ (gI s 107 = 1 ∧ gI s 110 = ((27 + i : Nat) : Int)) ∧ NX s q.2) ∨ (q.1 = 0 ∧ NOQ s (i + 1) ∧ SY s q.2)) := by
  refine pc_mono (y_takes (w := 27 + i) h (by omega) hn (by rw [hn]; exact q_row h hi)) (fun q hq => ?_)
  rcases hq with ⟨a, b, c, d⟩ | ⟨a, b, c, _⟩
  · exact Or.inl ⟨a, ⟨b, c⟩, d⟩
  · exact Or.inr ⟨a, NOQ_s hN b, c⟩
def KD (s : MS) (q : Int × MS) : Prop := (∃ i : Nat, i < 6 ∧ q.1 = (i : Int) ∧ (gI s 107 = 1 ∧ gI s 110 = ((27 + i : Nat) : Int)) ∧ NX s q.2) ∨ (q.1 = 5 ∧ NOQ s 6 ∧ gI q.2 5 = 1 ∧ gI q.2 6 = gI s 108)
theorem q_asks {s t : MS} (h : SY s t) (hN : NOQ s 5) : pc (m_x12_asks 84 5 t) (fun o => KD s (5, o)) := by
  unfold m_x12_asks m_x12_asks_J24
  refine pc_rg (pc_if (fun c => pc_bq (y_takes (w := 32) h (by decide) (by decide) (q_row (i := 5) h (by decide))) (fun q6 h6 => pc_rg (pc_if (fun c2 => ?_) (fun c2 => pc_some ?_)))) (fun c => absurd h.2.1.2 c))
  · rcases h6 with g | ⟨_, g2, g3, g4⟩
    · omega
    · refine pc_bq (m_fail g3.2.1.2) (fun s10 h10 => pc_some (Or.inr ⟨rfl, NOQ_s hN g2, ?_⟩))
      rw [g4] at h10
      exact h10
  · rcases h6 with ⟨_, g2, g3, g4⟩ | g
    · exact Or.inl ⟨5, by decide, rfl, ⟨g2, g3⟩, g4⟩
    · exact absurd g.1 c2
theorem y_kind {s t : MS} (h : SY s t) : pc (m_x12_qKind t) (fun q => KD s q) := by
  have J : ∀ (i : Nat) (S : MS), i < 5 → (gI s 107 = 1 ∧ gI s 110 = ((27 + i : Nat) : Int)) → NX s S → pc (m_x12_qKind_J76 (i : Int) S) (fun q => KD s q) := fun i S hi hw hN => by
    unfold m_x12_qKind_J76 m_x12_qKind_J90
    exact pc_rg (pc_if (fun c => absurd c (by omega)) (fun _ => pc_some (Or.inl ⟨i, by omega, rfl, hw, hN⟩)))
  unfold m_x12_qKind
  refine pc_bq (q_takes (i := 0) h (by decide) (by decide) (fun v hv => absurd hv (by omega))) (fun q11 h11 => pc_rg (pc_if (fun c => ?_) (fun c => ?_)))
  · rcases h11 with ⟨a, _⟩ | ⟨_, n1, y1⟩
    · omega
    refine pc_bq (q_takes (i := 1) y1 (by decide) (by decide) n1) (fun q16 h16 => pc_rg (pc_if (fun c => ?_) (fun c => ?_)))
    · rcases h16 with ⟨a, _⟩ | ⟨_, n2, y2⟩
      · omega
      refine pc_bq (q_takes (i := 2) y2 (by decide) (by decide) n2) (fun q21 h21 => pc_rg (pc_if (fun c => ?_) (fun c => ?_)))
      · rcases h21 with ⟨a, _⟩ | ⟨_, n3, y3⟩
        · omega
        refine pc_bq (q_takes (i := 3) y3 (by decide) (by decide) n3) (fun q26 h26 => pc_rg (pc_if (fun c => ?_) (fun c => ?_)))
        · rcases h26 with ⟨a, _⟩ | ⟨_, n4, y4⟩
          · omega
          refine pc_bq (q_takes (i := 4) y4 (by decide) (by decide) n4) (fun q31 h31 => pc_rg (pc_if (fun c => ?_) (fun c => ?_)))
          · rcases h31 with ⟨a, _⟩ | ⟨_, n5, y5⟩
            · omega
            unfold m_x12_qKind_J76 m_x12_qKind_J90
            exact pc_rg (pc_if (fun _ => pc_bq (q_asks y5 n5) (fun s8 h8 => pc_some h8)) (fun c2 => absurd rfl c2))
          · rcases h31 with ⟨_, b, d⟩ | ⟨a, _⟩
            · exact J 4 _ (by decide) b d
            · exact absurd a c
        · rcases h26 with ⟨_, b, d⟩ | ⟨a, _⟩
          · exact J 3 _ (by decide) b d
          · exact absurd a c
      · rcases h21 with ⟨_, b, d⟩ | ⟨a, _⟩
        · exact J 2 _ (by decide) b d
        · exact absurd a c
    · rcases h16 with ⟨_, b, d⟩ | ⟨a, _⟩
      · exact J 1 _ (by decide) b d
      · exact absurd a c
  · rcases h11 with ⟨_, b, d⟩ | ⟨a, _⟩
    · exact J 0 _ (by decide) b d
    · exact absurd a c
/-- what is told of the fault -/
def FL7 (s o : MS) : Prop := gI o 7 = gI s 100 ∧ (gI s 100 ≠ 0 → gI o 8 = gI s 101) ∧ (gI s 100 = 0 → gI o 8 = -1)
theorem q_L183 : ∀ (n : Nat) (x y : Int) (S : MS), pc (m_x12_ask_L183 n x y S) (fun o => gI o.2 7 = gI S 7 ∧ gI o.2 8 = gI S 8) := by
  refine fr_ind (fun _ _ _ => pc_none) (fun n ih x y S => ?_)
  show pc (m_x12_ask_b183 (m_x12_ask_L183 n) x y S) _
  have J235 : ∀ (a b c : Int) (S' : MS), gI S' 7 = gI S 7 → gI S' 8 = gI S 8 → pc (m_x12_ask_J235 (m_x12_ask_L183 n) a b c S') (fun o => gI o.2 7 = gI S 7 ∧ gI o.2 8 = gI S 8) := fun a b c S' h7 h8 => by
    unfold m_x12_ask_J235
    refine pc_stn (fun s8 e8 => pc_bn (fun q11 e11 => pc_bn (fun s13 e13 => pc_mono (ih a (b + 1) s13) (fun o ho => ?_))))
    have F11 : F_x12_qTold s8 q11.2 := fr_x12_qTold e11
    have F13 : F_x12_qTakes q11.2 s13 := fr_x12_qTakes e13
    exact ⟨ho.1.trans ((F13.1 7 (by decide)).trans ((F11.1 7 (by decide)).trans ((q_Ii e8 (by decide)).trans h7))), ho.2.trans ((F13.1 8 (by decide)).trans ((F11.1 8 (by decide)).trans ((q_Ii e8 (by decide)).trans h8)))⟩
  have J214 : ∀ (a b c : Int) (S' : MS), gI S' 7 = gI S 7 → gI S' 8 = gI S 8 → pc (m_x12_ask_J214 (m_x12_ask_L183 n) a b c S') (fun o => gI o.2 7 = gI S 7 ∧ gI o.2 8 = gI S 8) := fun a b c S' h7 h8 => by
    unfold m_x12_ask_J214
    refine pc_stn (fun s18 e18 => pc_bn (fun r20 _ => pc_rg (pc_if (fun _ => J235 _ _ _ s18 ((q_Ii e18 (by decide)).trans h7) ((q_Ii e18 (by decide)).trans h8)) (fun _ => pc_bn (fun r24 _ => J235 _ _ _ s18 ((q_Ii e18 (by decide)).trans h7) ((q_Ii e18 (by decide)).trans h8))))))
  unfold m_x12_ask_b183
  exact pc_bn (fun r26 _ => pc_rg (pc_rg (pc_if (fun _ => pc_some ⟨rfl, rfl⟩) (fun _ => pc_stn (fun s30 e30 => pc_bn (fun r32 _ => pc_rg (pc_if (fun _ => J214 _ _ _ s30 (q_Ii e30 (by decide)) (q_Ii e30 (by decide))) (fun _ => pc_bn (fun r36 _ => J214 _ _ _ s30 (q_Ii e30 (by decide)) (q_Ii e30 (by decide)))))))))))
theorem q_J133 {k : Int} {t : MS} : pc (m_x12_ask_J133 k t) (fun o => gI o.2 7 = gI t 5 ∧ gI o.2 8 = gI t 6) := by
  unfold m_x12_ask_J133
  refine pc_stn (fun s44 e44 => pc_stn (fun s45 e45 => ?_))
  have i7 : gI s45 7 = gI t 5 := (q_Ii e45 (by decide)).trans (q_II e44)
  have i8 : gI s45 8 = gI t 6 := (q_II e45).trans (q_Ii e44 (by decide))
  have J : ∀ z : Int, pc (m_x12_ask_J173 k z s45) (fun o => gI o.2 7 = gI t 5 ∧ gI o.2 8 = gI t 6) := fun z => by
    unfold m_x12_ask_J173
    refine pc_stn (fun s40 e40 => pc_stn (fun s41 e41 => pc_mono (q_L183 FU k 0 s41) (fun o ho => ?_)))
    exact ⟨ho.1.trans ((q_Ii e41 (by decide)).trans ((q_Li e40).trans i7)), ho.2.trans ((q_Ii e41 (by decide)).trans ((q_Li e40).trans i8))⟩
  exact pc_rg (pc_if (fun _ => pc_rg (pc_if (fun _ => J _) (fun _ => J _))) (fun _ => pc_some ⟨i7, i8⟩))
/-- where the text should end -/
theorem q_end {x k : Int} {s t : MS} (h : RS s t) (h6 : gI t 5 = 0 → gI t 6 = -1) : pc (m_x6_readQuestion_J104 x s) (fun q => pc (m_x12_ask_J109 k t) (fun o => FL7 q.2 o.2)) := by
  have Jt : ∀ (T : MS) (S : MS), gI T 5 = gI S 100 → (gI S 100 ≠ 0 → gI T 6 = gI S 101) → (gI S 100 = 0 → gI T 6 = -1) → pc (m_x12_ask_J133 k T) (fun o => FL7 S o.2) := fun T S a b c => pc_mono q_J133 (fun o ho => ⟨ho.1.trans a, fun z => ho.2.trans (b z), fun z => ho.2.trans (c z)⟩)
  unfold m_x6_readQuestion_J104 m_x6_readQuestion_J121
  rcases h with h | h
  · have hk := h.2.2.1.1
    have hy := h.2.2.1.2.2
    have E : gI s 111 = -1 ↔ gI s 107 = 0 := by
      rcases hk.2.2 with ⟨_, a, b, _⟩ | ⟨a, b, _, _, g⟩
      · exact ⟨fun _ => a, fun _ => b⟩
      · have k1 := hk.1
        have p : 0 ≤ gI s 111 := by rw [b]; exact hy _ (by omega)
        have q : gI s 107 ≠ 0 := by
          rcases g with ⟨_, _, _, g⟩ | ⟨_, _, g⟩ | ⟨_, _, _, g⟩
          · rcases g with ⟨_, g⟩ | ⟨_, g⟩ <;> omega
          · rcases g with ⟨_, g⟩ | ⟨_, g⟩ <;> omega
          · omega
        exact ⟨fun z => by omega, fun z => absurd z q⟩
    have z5 := h.2.1.2
    have z6 := h6 z5
    refine pc_rg (pc_if (fun c => pc_some ?_) (fun c => pc_bq (s_fail h.2.1.1) (fun q9 h9 => pc_some ?_)))
    · unfold m_x12_ask_J109
      refine pc_rg (pc_if (fun _ => pc_bn (fun q56 e56 => ?_)) (fun c2 => absurd z5 c2))
      obtain ⟨hS', h2, h1⟩ := y_look h q56 e56
      have F : F_x12_look t q56.2 := fr_x12_look e56
      refine pc_rg (pc_if (fun _ => Jt q56.2 s (hS'.2.1.2.trans h.2.1.1.symm) (fun z => absurd h.2.1.1 z) (fun _ => (F.1 6 (by decide)).trans z6)) (fun c2 => absurd (h1.trans (E.2 c)) c2))
    · unfold m_x12_ask_J109
      refine pc_rg (pc_if (fun _ => pc_bn (fun q56 e56 => ?_)) (fun c2 => absurd z5 c2))
      obtain ⟨hS', h2, h1⟩ := y_look h q56 e56
      refine pc_rg (pc_if (fun c2 => absurd (E.1 (h1.symm.trans c2)) c) (fun _ => pc_bq (m_fail hS'.2.1.2) (fun s60 h60 => ?_)))
      rw [h2] at h60
      exact Jt s60 q9.2 (h60.1.trans h9.1.symm) (fun _ => h60.2.trans h9.2.symm) (fun z => absurd (h9.1.symm.trans z) (by decide))
  · have R : pc (m_x12_ask_J109 k t) (fun o => gI o.2 7 = gI s 100 ∧ gI o.2 8 = gI s 101) := by
      unfold m_x12_ask_J109
      exact pc_rg (pc_if (fun c => absurd (h.2.1.symm.trans c) h.1) (fun _ => pc_mono q_J133 (fun o ho => ⟨ho.1.trans h.2.1, ho.2.trans h.2.2⟩)))
    refine pc_rg (pc_if (fun _ => pc_some ?_) (fun _ => pc_bn (fun q9 e9 => pc_some ?_)))
    · exact pc_mono R (fun o ho => ⟨ho.1, fun _ => ho.2, fun z => absurd z h.1⟩)
    · have f := (fk_x6_fail q9 e9) h.1
      exact pc_mono R (fun o ho => ⟨ho.1.trans f.1.symm, fun _ => ho.2.trans f.2.symm, fun z => absurd (f.1.symm.trans z) h.1⟩)
theorem y_readQ {s t : MS} (hR : Rg s) (hW : W6 s) (hl : gI s 61 = gI t 1) (hT : ∀ j : Nat, (j : Int) < gI s 61 → gA s 4 j = gA t 0 j) (hD : RWD t) (hk : gI t 47 ≠ 0) : pc (m_x6_readQuestion s) (fun q => pc (m_x12_ask t) (fun o => FL7 q.2 o.2)) := by
  unfold m_x6_readQuestion
  refine pc_stn (fun s34 e34 => pc_bn (fun s36 e36 => pc_stn (fun s37 e37 => ?_)))
  have k4 : gA s34 4 = gA s 4 := q_Ia e34
  have k6 : gA s34 6 = gA s 6 := q_Ia e34
  have k61 : gI s34 61 = gI s 61 := q_Ii e34 (by decide)
  have R34 : Rg s34 := by
    subst e34
    exact Rg.uI hR (by show (0 : Int) ≤ 0 ∧ (0 : Int) ≤ 1600; omega)
  have F36 : F_x6_begin s34 s36 := fr_x6_begin e36
  have h941 : gI s37 941 = 0 := (q_Ii e37 (by decide)).trans ((F36.1 941 (by decide)).trans (q_II e34))
  have h105 : gI s37 105 = 3 := q_II e37
  -- the reference, ahead of its first word
  have M : ∀ P : Int × MS → Prop, (∀ T, SY s37 T → OPN s37 T → (gI T 104 = 0 ∧ gI T 106 = 0) → CO 0 s37 T [] → gI s37 941 ≤ gI s37 108 → gI T 6 = -1 → pc (bn (m_x12_qKind T) (fun qr82 => rg (gI qr82.2 5) (if (gI qr82.2 5) = 0 then rg qr82.1 (if 3 ≤ qr82.1 then m_x12_ask_J98 qr82.1 qr82.2 else bn (m_x12_qTest qr82.2) (fun s88 => m_x12_ask_J109 qr82.1 s88)) else m_x12_ask_J98 qr82.1 qr82.2))) P) → pc (m_x12_ask t) P := fun P g => by
    unfold m_x12_ask
    refine pc_rg (pc_if (fun c => absurd c hk) (fun _ => pc_stn (fun s69 e69 => pc_stn (fun s70 e70 => pc_stn (fun s71 e71 => pc_stn (fun s72 e72 => pc_stn (fun s73 e73 => pc_stn (fun s74 e74 => pc_stn (fun s75 e75 => pc_stn (fun s76 e76 => pc_stn (fun s77 e77 => pc_stn (fun s78 e78 => pc_stn (fun T eT => ?_)))))))))))))
    have a106 : gI T 106 = 0 := q_II eT
    have a105 : gI T 105 = 0 := (q_Ii eT (by decide)).trans (q_II e78)
    have a104 : gI T 104 = 0 := (q_Ii eT (by decide)).trans ((q_Ii e78 (by decide)).trans (q_II e77))
    have a102 : gI T 102 = 0 := (q_Ii eT (by decide)).trans ((q_Ii e78 (by decide)).trans ((q_Ii e77 (by decide)).trans (q_II e76)))
    have a48 : gI T 48 = 3 := (q_Ii eT (by decide)).trans ((q_Ii e78 (by decide)).trans ((q_Ii e77 (by decide)).trans ((q_Ii e76 (by decide)).trans (q_II e75))))
    have a6 : gI T 6 = -1 := (q_Ii eT (by decide)).trans ((q_Ii e78 (by decide)).trans ((q_Ii e77 (by decide)).trans ((q_Ii e76 (by decide)).trans ((q_Ii e75 (by decide)).trans (q_II e74)))))
    have a5 : gI T 5 = 0 := (q_Ii eT (by decide)).trans ((q_Ii e78 (by decide)).trans ((q_Ii e77 (by decide)).trans ((q_Ii e76 (by decide)).trans ((q_Ii e75 (by decide)).trans ((q_Ii e74 (by decide)).trans (q_II e73))))))
    have a4 : gI T 4 = -1 := (q_Ii eT (by decide)).trans ((q_Ii e78 (by decide)).trans ((q_Ii e77 (by decide)).trans ((q_Ii e76 (by decide)).trans ((q_Ii e75 (by decide)).trans ((q_Ii e74 (by decide)).trans ((q_Ii e73 (by decide)).trans (q_II e72)))))))
    have a2 : gI T 2 = 0 := (q_Ii eT (by decide)).trans ((q_Ii e78 (by decide)).trans ((q_Ii e77 (by decide)).trans ((q_Ii e76 (by decide)).trans ((q_Ii e75 (by decide)).trans ((q_Ii e74 (by decide)).trans ((q_Ii e73 (by decide)).trans ((q_Ii e72 (by decide)).trans (q_II e71))))))))
    have a3 : gI T 3 = gI t 1 := (q_Ii eT (by decide)).trans ((q_Ii e78 (by decide)).trans ((q_Ii e77 (by decide)).trans ((q_Ii e76 (by decide)).trans ((q_Ii e75 (by decide)).trans ((q_Ii e74 (by decide)).trans ((q_Ii e73 (by decide)).trans ((q_Ii e72 (by decide)).trans ((q_Ii e71 (by decide)).trans ((q_Ii e70 (by decide)).trans (q_II e69))))))))))
    have aA : ∀ k, gA T k = gA t k := fun k => by
      subst eT; subst e78; subst e77; subst e76; subst e75; subst e74; subst e73; subst e72; subst e71; subst e70; subst e69
      rfl
    have TXT : TX s34 T := ⟨by rw [a3, k61, hl], fun j hj => by rw [aA, k4]; exact (hT j (by omega)).symm⟩
    obtain ⟨y, y106⟩ := y_begin R34 (W6_e hW k6) TXT a2 a4 a5 (RWD_e hD (fun k _ => aA k)) s36 e36
    have y' : SY s37 T := SY_c y (fun i hi => q_Ii e37 (by omega)) (q_Ia e37) (q_Ia e37)
    have k106 : gI s37 106 = 0 := (q_Ii e37 (by decide)).trans y106
    have p108 := (TK_le y'.2.2.1.1).1
    exact g T y' ⟨⟨by rw [a105, k106], by omega⟩, by rw [a48, h105], by omega⟩ ⟨a104, a106⟩ ⟨⟨by rw [h941, a102]; rfl, by omega, by omega⟩, fun j hj => absurd hj (by omega), trivial⟩ (by omega) a6
  have NB6 : ∀ (T : MS) (q : Int × MS), gI T 6 = -1 → m_x12_qKind T = some q → gI q.2 5 = 0 → gI q.2 6 = -1 := fun T q h6 e => by
    have G : pc (m_x12_qKind T) (fun q => NBp T q.2) := by
      have J76 : ∀ (x : Int) (S : MS), pc (m_x12_qKind_J76 x S) (fun q => NBp S q.2) := fun x S => by
        unfold m_x12_qKind_J76 m_x12_qKind_J90
        exact pc_rg (pc_if (fun _ => pc_bn (fun s8 e8 => pc_some (nb_x12_asks s8 e8))) (fun _ => pc_some (NBp.rf S)))
      have TK' : ∀ {wid wn : Nat} {S : MS} {q : Int × MS}, m_x12_takes wid wn S = some q → NBp T S → NBp T q.2 := fun {wid wn S q} e a => a.tr (NBp.of (fr_x12_takes e) (by decide) (by decide))
      unfold m_x12_qKind
      refine pc_bn (fun q11 e11 => pc_rg (pc_if (fun _ => pc_bn (fun q16 e16 => pc_rg (pc_if (fun _ => pc_bn (fun q21 e21 => pc_rg (pc_if (fun _ => pc_bn (fun q26 e26 => pc_rg (pc_if (fun _ => pc_bn (fun q31 e31 => ?_)) (fun _ => ?_)))) (fun _ => ?_)))) (fun _ => ?_)))) (fun _ => ?_)))
      · have k := TK' e31 (TK' e26 (TK' e21 (TK' e16 (TK' e11 (NBp.rf T)))))
        exact pc_rg (pc_if (fun _ => pc_mono (J76 5 q31.2) (fun o ho => k.tr ho)) (fun _ => pc_mono (J76 4 q31.2) (fun o ho => k.tr ho)))
      · have k := TK' e26 (TK' e21 (TK' e16 (TK' e11 (NBp.rf T))))
        exact pc_mono (J76 3 q26.2) (fun o ho => k.tr ho)
      · have k := TK' e21 (TK' e16 (TK' e11 (NBp.rf T)))
        exact pc_mono (J76 2 q21.2) (fun o ho => k.tr ho)
      · have k := TK' e16 (TK' e11 (NBp.rf T))
        exact pc_mono (J76 1 q16.2) (fun o ho => k.tr ho)
      · have k := TK' e11 (NBp.rf T)
        exact pc_mono (J76 0 q11.2) (fun o ho => k.tr ho)
    exact G q e (fun _ => h6)
  -- the class's word
  have J31 : ∀ w : Int, ((gI s37 107 = 1 ∧ w = gI s37 110) ∨ (gI s37 107 ≠ 1 ∧ w = -1)) → pc (m_x6_readQuestion_J31 w s37) (fun q => pc (m_x12_ask t) (fun o => FL7 q.2 o.2)) := fun w hw => by
    have NO : ∀ {i : Nat}, i < 6 → w = ((27 + i : Nat) : Int) → gI s37 107 = 1 ∧ gI s37 110 = ((27 + i : Nat) : Int) := fun {i} hi e => by
      rcases hw with ⟨a, b⟩ | ⟨_, b⟩
      · exact ⟨a, by omega⟩
      · omega
    have T1 : ∀ {i : Nat}, i < 3 → w = ((27 + i : Nat) : Int) → pc (m_x6_readQuestion_J72 w s37) (fun q => pc (m_x12_ask t) (fun o => FL7 q.2 o.2)) := fun {i} hi e => by
      have hw1 := NO (show i < 6 by omega) e
      unfold m_x6_readQuestion_J72
      refine pc_bn (fun s19 e19 => pc_bn (fun s21 e21 => ?_))
      intro q eq
      refine M _ (fun T y ho h4 hC hb h6 => pc_bn (fun q82 e82 => ?_))
      have G : F_x12_qKind T q82.2 := fr_x12_qKind e82
      rcases y_kind y q82 e82 with ⟨i', hi', e1, w1, N⟩ | ⟨_, hN, _⟩
      · have ii : i' = i := by have a := hw1.2; have b := w1.2; omega
        rw [ii] at e1
        obtain ⟨ya, g9⟩ := y_adv N s19 e19
        have F19 : F_x6_advance s37 s19 := fr_x6_advance e19
        have a2 := TK_le y.2.2.1.1
        have O19 : OPN s19 q82.2 := OPN_e ho (F19.1 106 (by decide)) (F19.1 105 (by decide)) (G.1 105 (by decide)) (G.1 48 (by decide))
        have i941 : gI s19 941 = gI s37 941 := F19.1 941 (by decide)
        have C19 : CO 0 s19 q82.2 [] := by
          unfold CO at hC ⊢
          rw [i941, F19.2.1 48 (by decide), G.1 102 (by decide), G.2.1 101 (by decide)]; exact hC
        have z5 : gI q82.2 5 = 0 := N.2.1.2
        refine pc_rg (pc_if (fun _ => pc_rg (pc_if (fun c => absurd c (by omega)) (fun _ => pc_bn (fun s88 e88 => ?_)))) (fun c => absurd z5 c))
        have D : RS s21 s88 := by
          rcases y_test ya O19 ((G.1 104 (by decide)).trans h4.1) ((G.1 106 (by decide)).trans h4.2) C19 (by omega) e21 s88 e88 with ⟨_, r⟩ | B
          · exact Or.inl r.1
          · exact Or.inr B
        exact q_end D (nb_x12_qTest s88 e88 (fun _ => NB6 T q82 h6 e82 z5)) q eq
      · exact absurd hw1 (hN i (by omega))
    have T2 : ∀ {i : Nat}, 3 ≤ i → i < 6 → w = ((27 + i : Nat) : Int) → pc (m_x6_readQuestion_J83 w s37) (fun q => pc (m_x12_ask t) (fun o => FL7 q.2 o.2)) := fun {i} hi0 hi e => by
      have hw1 := NO hi e
      unfold m_x6_readQuestion_J83
      refine pc_bn (fun s19 e19 => pc_bn (fun s21 e21 => ?_))
      intro q eq
      refine M _ (fun T y ho h4 hC hb h6 => pc_bn (fun q82 e82 => ?_))
      have G : F_x12_qKind T q82.2 := fr_x12_qKind e82
      rcases y_kind y q82 e82 with ⟨i', hi', e1, w1, N⟩ | ⟨_, hN, _⟩
      · have ii : i' = i := by have a := hw1.2; have b := w1.2; omega
        rw [ii] at e1
        obtain ⟨ya, g9⟩ := y_adv N s19 e19
        have F19 : F_x6_advance s37 s19 := fr_x6_advance e19
        have a2 := TK_le y.2.2.1.1
        have O19 : OPN s19 q82.2 := OPN_e ho (F19.1 106 (by decide)) (F19.1 105 (by decide)) (G.1 105 (by decide)) (G.1 48 (by decide))
        have i941 : gI s19 941 = gI s37 941 := F19.1 941 (by decide)
        have g104 : gI q82.2 104 = 0 := (G.1 104 (by decide)).trans h4.1
        have C19 : CO 0 s19 q82.2 [] := by
          unfold CO at hC ⊢
          rw [i941, F19.2.1 48 (by decide), G.1 102 (by decide), G.2.1 101 (by decide)]; exact hC
        have z5 : gI q82.2 5 = 0 := N.2.1.2
        refine pc_rg (pc_if (fun _ => pc_rg (pc_if (fun _ => ?_) (fun c => absurd (by omega) c))) (fun c => absurd z5 c))
        unfold m_x12_ask_J98
        refine pc_rg (pc_if (fun _ => pc_bn (fun s66 e66 => ?_)) (fun c => absurd z5 c))
        have D : RS s21 s66 := by
          rcases y_sum ya O19 (by omega) (fun z => absurd z (by omega)) C19 (by omega) e21 s66 e66 with ⟨_, r⟩ | B
          · exact Or.inl r.1
          · exact Or.inr B
        exact q_end D (nb_x12_qSums s66 e66 (fun _ => NB6 T q82 h6 e82 z5)) q eq
      · exact absurd hw1 (hN i (by omega))
    unfold m_x6_readQuestion_J31
    refine pc_rg (pc_if (fun c => T1 (i := 0) (by decide) c) (fun c0 => pc_if (fun c => T1 (i := 1) (by decide) c) (fun c1 => pc_if (fun c => T1 (i := 2) (by decide) c) (fun c2 => pc_if (fun c => T2 (i := 3) (by decide) (by decide) c) (fun c3 => pc_if (fun c => T2 (i := 4) (by decide) (by decide) c) (fun c4 => pc_if (fun c => T2 (i := 5) (by decide) (by decide) c) (fun c5 => pc_bn (fun q33 e33 => ?_))))))))
    intro q eq
    refine M _ (fun T y ho h4 hC hb h6 => pc_bn (fun q82 e82 => ?_))
    rcases y_kind y q82 e82 with ⟨i', hi', e1, w1, N⟩ | ⟨e1, hN, f5, f6⟩
    · exfalso
      rcases hw with ⟨a, b⟩ | ⟨a, _⟩
      · have := w1.2; omega
      · exact a w1.1
    · have n5 : gI q82.2 5 ≠ 0 := by rw [f5]; decide
      have h33 := s_fail y.2.1.1 q33 e33
      refine pc_rg (pc_if (fun c => absurd c n5) (fun _ => ?_))
      unfold m_x12_ask_J98
      refine pc_rg (pc_if (fun c => absurd c n5) (fun _ => ?_))
      exact q_end (Or.inr (BR_mk (by decide) h33 ⟨f5, f6⟩)) (fun z => absurd z n5) q eq
  exact pc_rg (pc_if (fun c => J31 _ (Or.inl ⟨c, rfl⟩)) (fun c => J31 _ (Or.inr ⟨c, rfl⟩)))
/-- ASK on both sides: the fault, and what was told -/
theorem y_ask {x t : MS} {ts : List MS} (hC : CI x ts) (hR : Rr t) (hJ : JI t) (H : PJ x t) : pc (m_x11_ask x) (fun q => pc (m_x12_ask t) (fun o => PJ q.2 o.2)) := by
  obtain ⟨⟨hW, hD⟩, ⟨hl, hT⟩, hF, hP⟩ := H
  intro q eq o eo
  have F : F_x11_ask x q.2 := fr_x11_ask eq
  have G : F_x12_ask t o.2 := fr_x12_ask eo
  have a : KX x q.2 := ⟨fun i hi => F.1 i (by intro m; simp at m; omega), fun k hk => F.2.1 k (by intro m; simp at m; omega)⟩
  have b : KY t o.2 := ⟨G.1 47 (by decide), fun k hk => G.2.1 k (by intro m; simp at m; omega), FB_e (G.2.1 39 (by decide)) (G.2.1 42 (by decide)) (G.2.1 43 (by decide)) (G.2.1 44 (by decide)), fun j _ => by rw [G.2.2.2 40 (by decide)]⟩
  have L : gI q.2 61 = 0 ∧ gI o.2 1 = 0 ∧ FLT q.2 o.2 := by
    revert eq eo
    by_cases z : gI x 12 = 0
    · have z' : gI t 47 = 0 := hP.1.1.trans z
      intro eq
      have A : pc (m_x11_ask x) (fun q => gI q.2 61 = 0 ∧ gI q.2 100 = gI x 100 ∧ gI q.2 101 = gI x 101) := by
        unfold m_x11_ask
        exact pc_rg (pc_if (fun _ => pc_stn (fun s21 e21 => pc_some ⟨q_II e21, q_Ii e21 (by decide), q_Ii e21 (by decide)⟩)) (fun c => absurd z c))
      have B : pc (m_x12_ask t) (fun o => gI o.2 1 = 0 ∧ gI o.2 7 = gI t 7 ∧ gI o.2 8 = gI t 8) := by
        unfold m_x12_ask
        exact pc_rg (pc_if (fun _ => pc_stn (fun s89 e89 => pc_some ⟨q_II e89, q_Ii e89 (by decide), q_Ii e89 (by decide)⟩)) (fun c => absurd z' c))
      intro eo
      have A' := A q eq
      have B' := B o eo
      exact ⟨A'.1, B'.1, FLT_k hF ⟨A'.2.1, A'.2.2⟩ ⟨B'.2.1, B'.2.2⟩⟩
    · have z' : gI t 47 ≠ 0 := by rw [hP.1.1]; exact z
      have Y := y_readQ hC.1 hW hl hT hD z'
      intro eq eo
      have A : pc (m_x11_ask x) (fun q => gI q.2 61 = 0 ∧ ∃ q10, m_x6_readQuestion x = some q10 ∧ gI q.2 100 = gI q10.2 100 ∧ gI q.2 101 = gI q10.2 101) := by
        unfold m_x11_ask
        refine pc_rg (pc_if (fun c => absurd c z) (fun _ => pc_bn (fun q10 e10 => pc_stn (fun s11 e11 => ?_))))
        have i61 : gI s11 61 = 0 := q_II e11
        have i100 : gI s11 100 = gI q10.2 100 := q_Ii e11 (by decide)
        have i101 : gI s11 101 = gI q10.2 101 := q_Ii e11 (by decide)
        have J : pc (m_x11_ask_J84 q10.1 s11) (fun q => gI q.2 61 = 0 ∧ ∃ q10, m_x6_readQuestion x = some q10 ∧ gI q.2 100 = gI q10.2 100 ∧ gI q.2 101 = gI q10.2 101) := by
          unfold m_x11_ask_J84
          refine pc_bn (fun q5 e5 => pc_some ?_)
          have F5 : F_x11_answerTest s11 q5.2 := fr_x11_answerTest e5
          exact ⟨(F5.1 61 (by decide)).trans i61, q10, e10, (F5.1 100 (by decide)).trans i100, (F5.1 101 (by decide)).trans i101⟩
        refine pc_rg (pc_if (fun _ => pc_rg (pc_if (fun _ => J) (fun _ => pc_if (fun _ => J) (fun _ => pc_if (fun _ => J) (fun _ => pc_bn (fun q20 e20 => pc_some ?_)))))) (fun _ => pc_some ⟨i61, q10, e10, i100, i101⟩))
        have F20 : F_x11_answerSum s11 q20.2 := fr_x11_answerSum e20
        exact ⟨(F20.1 61 (by decide)).trans i61, q10, e10, (F20.1 100 (by decide)).trans i100, (F20.1 101 (by decide)).trans i101⟩
      obtain ⟨A1, q10, e10, i100, i101⟩ := A q eq
      have f := Y q10 e10 o eo
      refine ⟨A1, ?_, by rw [i100]; exact f.1, fun w => by rw [i101]; exact f.2.1 (by rw [← i100]; exact w), fun w => f.2.2 (by rw [← i100]; exact w)⟩
      exact (wp_det (w_x12_ask hR hJ) eo).2.2
  exact ⟨WD_k ⟨hW, hD⟩ a b, TPJ_0 L.1 L.2.1, L.2.2, PTJ_k hP a b⟩
/-! ===== calls that leave what was told ===== -/
def FX (x o : MS) : Prop := KX x o ∧ gI o 100 = gI x 100 ∧ gI o 101 = gI x 101
def FY (t o : MS) : Prop := KY t o ∧ gI o 7 = gI t 7 ∧ gI o 8 = gI t 8
theorem FX.rf (x : MS) : FX x x := ⟨⟨fun _ _ => rfl, fun _ _ => rfl⟩, rfl, rfl⟩
theorem FY.rf (t : MS) : FY t t := ⟨⟨rfl, fun _ _ => rfl, FB_e rfl rfl rfl rfl, fun _ _ => rfl⟩, rfl, rfl⟩
theorem FX_FA {x o : MS} (h : FA x o) : FX x o := ⟨⟨fun i hi => h.1 i (by omega) (by omega) (by omega) (by omega), fun k hk => h.2 k (by omega) (by omega) (by omega) (by omega) (by omega)⟩, h.1 100 (by omega) (by omega) (by omega) (by omega), h.1 101 (by omega) (by omega) (by omega) (by omega)⟩
theorem FX_of {I A L B : List Nat} {x o : MS} (h : Fr I A L B x o) (hi : ∀ i, i ∈ [12, 100, 101, 580, 581, 582, 583, 584, 741] → i ∉ I) (ha : ∀ k, k ∈ [6, 30, 31, 32, 33, 34, 35, 36, 37, 38] → k ∉ A) : FX x o := ⟨⟨fun i hi' => h.1 i (hi i (by simp; omega)), fun k hk => h.2.1 k (ha k (by simp; omega))⟩, h.1 100 (hi 100 (by decide)), h.1 101 (hi 101 (by decide))⟩
theorem FY_of {I A L B : List Nat} {t o : MS} (h : Fr I A L B t o) (hi : ∀ i, i ∈ [7, 8, 47] → i ∉ I) (ha : ∀ k, k ∈ [39, 42, 43, 44] → k ∉ A) (hw : ∀ k, k ∈ A → (k < 11 ∨ 37 < k) ∧ (k < 79 ∨ 100 < k)) (hb : 40 ∉ B) : FY t o := ⟨⟨h.1 47 (hi 47 (by decide)), fun k hk => h.2.1 k (fun m => by have := hw k m; omega), FB_e (h.2.1 39 (ha 39 (by decide))) (h.2.1 42 (ha 42 (by decide))) (h.2.1 43 (ha 43 (by decide))) (h.2.1 44 (ha 44 (by decide))), fun j _ => by rw [h.2.2.2 40 hb]⟩, h.1 7 (hi 7 (by decide)), h.1 8 (hi 8 (by decide))⟩
theorem PJ_g {x x1 t t1 : MS} (H : PJ x t) (a : FX x x1) (b : FY t t1) (T : TPJ x1 t1) : PJ x1 t1 := ⟨WD_k H.1 a.1 b.1, T, FLT_k H.2.2.1 a.2 b.2, PTJ_k H.2.2.2 a.1 b.1⟩
theorem TPJ_k {x x1 t t1 : MS} (H : TPJ x t) (hl : gI x1 61 = gI t1 1) (h4 : gA x1 4 = gA x 4) (h0 : gA t1 0 = gA t 0) (h61 : gI x1 61 ≤ gI x 61) : TPJ x1 t1 := ⟨hl, TB_k H.2 h4 h0 h61⟩
/-! ===== blocks under other names ===== -/
def PNM (π σ : Nat → Nat) (N : Int) : Prop := ∀ b, b < 48 → (π b < 48 ∧ σ b < 48) ∧ (σ (π b) = b ∧ π (σ b) = b) ∧ ((π b : Int) < N ↔ (b : Int) < N)
theorem PB_i {π σ : Nat → Nat} {N : Int} (h : PNM π σ N) {a b : Nat} (ha : a < 48) (hb : b < 48) (e : π a = π b) : a = b := by
  rw [← (h a ha).2.1.1, ← (h b hb).2.1.1, e]
theorem PB_id (N : Int) : PNM (fun b => b) (fun b => b) N := fun b hb => ⟨⟨hb, hb⟩, ⟨rfl, rfl⟩, Iff.rfl⟩
theorem PB_s {π σ : Nat → Nat} {N : Int} (h : PNM π σ N) {b : Nat} (hb : b < 48) : (σ b : Int) < N ↔ (b : Int) < N := by
  have := (h (σ b) (h b hb).1.2).2.2
  rw [(h b hb).2.1.2] at this
  exact this.symm
def tw (a b x : Nat) : Nat := if x = a then b else if x = b then a else x
theorem tw_a (a b : Nat) : tw a b a = b := if_pos rfl
theorem tw_b (a b : Nat) : tw a b b = a := by
  unfold tw
  by_cases h : b = a
  · rw [if_pos h, h]
  · rw [if_neg h, if_pos rfl]
theorem tw_n {a b x : Nat} (h1 : x ≠ a) (h2 : x ≠ b) : tw a b x = x := by
  unfold tw
  rw [if_neg h1, if_neg h2]
theorem tw_tw (a b x : Nat) : tw a b (tw a b x) = x := by
  by_cases h1 : x = a
  · rw [h1, tw_a, tw_b]
  · by_cases h2 : x = b
    · rw [h2, tw_b, tw_a]
    · rw [tw_n h1 h2, tw_n h1 h2]
theorem tw_lt {a b x : Nat} (ha : a < 48) (hb : b < 48) (hx : x < 48) : tw a b x < 48 := by
  unfold tw
  split
  · exact hb
  · split
    · exact ha
    · exact hx
/-- two that lie idle change names -/
theorem PB_tw {π σ : Nat → Nat} {N : Int} (h : PNM π σ N) {a b : Nat} (ha : a < 48) (hb : b < 48) (hn : (a : Int) < N ↔ (b : Int) < N) : PNM (fun x => tw a b (π x)) (fun x => σ (tw a b x)) N := fun x hx => by
  have q := h x hx
  have hw := tw_lt ha hb hx
  have q2 := h (tw a b x) hw
  refine ⟨⟨tw_lt ha hb q.1.1, q2.1.2⟩, ⟨?_, ?_⟩, ?_⟩
  · show σ (tw a b (tw a b (π x))) = x
    rw [tw_tw]; exact q.2.1.1
  · show tw a b (π (σ (tw a b x))) = x
    rw [q2.2.1.2, tw_tw]
  · show ((tw a b (π x) : Nat) : Int) < N ↔ (x : Int) < N
    rw [← q.2.2]
    by_cases h1 : π x = a
    · rw [h1, tw_a]; exact hn.symm
    · by_cases h2 : π x = b
      · rw [h2, tw_b]; exact hn
      · rw [tw_n h1 h2]
theorem sm_pick {n i : Nat} {f : Nat → Int} (hi : i < n) : sm n (fun q => if q = i then f q else 0) = f i := by
  have h := sm_one (f := fun _ => 0) (g := fun q => if q = i then f q else 0) hi (fun j _ hn => if_neg hn)
  rw [sm_0 (fun _ _ => rfl), if_pos rfl] at h
  omega
/-- a sum under other names -/
theorem sm_pm {π σ : Nat → Nat} {N : Int} (h : PNM π σ N) (f : Nat → Int) : sm 48 f = sm 48 (fun p => f (π p)) := by
  have a : sm 48 (fun p => sm 48 (fun q => if q = π p then f q else 0)) = sm 48 (fun p => f (π p)) := sm_c (fun p hp => sm_pick (h p hp).1.1)
  have b : sm 48 (fun q => sm 48 (fun p => if q = π p then f q else 0)) = sm 48 f := sm_c (fun q hq => by
    rw [sm_c (n := 48) (g := fun p => if p = σ q then f q else 0) (fun p hp => by
      show (if q = π p then f q else 0) = if p = σ q then f q else 0
      by_cases e : q = π p
      · rw [if_pos e, if_pos (by rw [e]; exact (h p hp).2.1.1.symm)]
      · rw [if_neg e, if_neg (fun z => e (by rw [z]; exact (h q hq).2.1.2.symm))])]
    exact sm_pick (f := fun _ => f q) (h q hq).1.2)
  rw [← b, ← a, sm_sw]
/-! ===== a block on both sides ===== -/
def BR1 (π : Nat → Nat) (h1 h2 : SH) (k1 k2 : Nat → Nat → Int) (b : Nat) : Prop := h1.1 (π b) = h2.1 b ∧ h1.2.1 (π b) = h2.2.1 b ∧ ∀ k : Nat, (k : Int) < h2.2.1 b → k1 (π b) k = k2 b k ∧ (0 < h2.1 b → h1.2.2 (π b) k = (π (h2.2.2 b k).toNat : Int)) ∧ (h2.1 b ≤ 0 → h1.2.2 (π b) k = h2.2.2 b k)
/-- a root on both sides: 254 empty, 255 none -/
def rtr (π : Nat → Nat) (r1 r2 : Int) : Prop := (r2 = 254 ∧ r1 = -1) ∨ (r2 = 255 ∧ r1 = -2) ∨ (0 ≤ r2 ∧ r2 < 48 ∧ r1 = (π r2.toNat : Int))
theorem rtr_e {π : Nat → Nat} {r1 r2 : Int} (h : rtr π r1 r2) : (r1 = -2 ↔ r2 = 255) ∧ (r1 = -1 ↔ r2 = 254) ∧ (0 ≤ r1 ↔ r2 < 254) := by
  rcases h with ⟨a, b⟩ | ⟨a, b⟩ | ⟨a, b, c⟩ <;> omega
/-- how often a block's entries name another, under other names -/
theorem en_pm {π σ : Nat → Nat} {N : Int} {h1 h2 : SH} {k1 k2 : Nat → Nat → Int} {b x : Nat} (h : PNM π σ N) (hN : N ≤ 48) (hb : BR1 π h1 h2 k1 k2 b) (hn : Nd h2 N b) (hx : x < 48) : en h1 (π b) (π x : Int) = en h2 b (x : Int) := by
  have h6 := hn.2.1
  rw [en_sm (by rw [hb.2.1]; exact h6), en_sm h6, hb.1, hb.2.1]
  by_cases e : 0 < h2.1 b
  · rw [if_pos e, if_pos e]
    refine sm_c (fun k hk => ?_)
    have hk' : (k : Int) < h2.2.1 b := by omega
    have c := (hb.2.2 k hk').2.1 e
    have r := (hn.2.2 e k hk').1
    by_cases z : h2.2.2 b k = (x : Int)
    · rw [if_pos z, c, z, if_pos (by rw [Int.toNat_natCast])]
    · rw [if_neg z, c, if_neg (fun w => z ?_)]
      have w2 : π (h2.2.2 b k).toNat = π x := by omega
      have := PB_i h (by omega) hx w2
      omega
  · rw [if_neg e, if_neg e]
theorem rr_pm {π σ : Nat → Nat} {N : Int} {r1 r2 : Nat → Int} {x : Nat} (h : PNM π σ N) (hr : ∀ v, v < 8 → rtr π (r1 v) (r2 v)) (hx : x < 48) : rr r1 (π x : Int) = rr r2 (x : Int) := by
  unfold rr
  refine sm_c (fun v hv => ?_)
  rcases hr v hv with ⟨a, b⟩ | ⟨a, b⟩ | ⟨a, b, c⟩
  · rw [if_neg (by omega), if_neg (by omega)]
  · rw [if_neg (by omega), if_neg (by omega)]
  · by_cases z : r2 v = (x : Int)
    · rw [if_pos z, c, z, if_pos (by rw [Int.toNat_natCast])]
    · rw [if_neg z, c, if_neg (fun w => z ?_)]
      have w2 : π (r2 v).toNat = π x := by omega
      have := PB_i h (by omega) hx w2
      omega
/-- counts are what refers: they are alike where blocks and roots are -/
theorem cnt_det {π σ : Nat → Nat} {N : Int} {h1 h2 : SH} {k1 k2 : Nat → Nat → Int} {c1 c2 r1 r2 E1 E2 : Nat → Int} {L : Nat → Prop} (h : PNM π σ N) (hN : N ≤ 48)
    (hL : ∀ b, b < 48 → L b → BR1 π h1 h2 k1 k2 b ∧ Nd h2 N b ∧ h2.1 b ≤ 48)
    (n1 : ∀ b, b < 48 → 0 ≤ c1 b) (n2 : ∀ b, b < 48 → 0 ≤ c2 b) (l1 : ∀ b, b < 48 → 0 < c1 (π b) → L b) (l2 : ∀ b, b < 48 → 0 < c2 b → L b)
    (d1 : ∀ x, x < 48 → df h1 c1 r1 (π x) = E1 x) (d2 : ∀ x, x < 48 → df h2 c2 r2 x = E2 x) (hE : ∀ x, x < 48 → E1 x = E2 x) (hr : ∀ v, v < 8 → rtr π (r1 v) (r2 v)) : ∀ b, b < 48 → c1 (π b) = c2 b := by
  have main : ∀ n : Nat, ∀ b, b < 48 → L b → (49 : Int) - h2.1 b ≤ (n : Int) → c1 (π b) = c2 b := by
    intro n
    induction n with
    | zero => intro b hb lb hl; have := (hL b hb lb).2.2; omega
    | succ n ih =>
      intro b hb lb hl
      have a1 := d1 b hb
      have a2 := d2 b hb
      unfold df rf at a1 a2
      rw [rr_pm h hr hb] at a1
      have e : sm 48 (fun p => if 0 < c1 p then en h1 p ((π b : Nat) : Int) else 0) = sm 48 (fun p => if 0 < c2 p then en h2 p (b : Int) else 0) := by
        rw [sm_pm h]
        refine sm_c (fun p hp => ?_)
        show (if 0 < c1 (π p) then en h1 (π p) (π b : Int) else 0) = if 0 < c2 p then en h2 p (b : Int) else 0
        by_cases lp : L p
        · obtain ⟨bp, np, _⟩ := hL p hp lp
          rw [en_pm h hN bp np hb]
          by_cases z : en h2 p (b : Int) = 0
          · rw [z]; split <;> split <;> rfl
          · have q : 0 < en h2 p (b : Int) := by have := en_nn h2 p (b : Int); omega
            have up : 0 < h2.1 p ∧ ∃ k : Nat, (k : Int) < h2.2.1 p ∧ h2.2.2 p k = (b : Int) := by
              have q' := q
              unfold en enf at q'
              by_cases w : 0 < h2.1 p
              · rw [if_pos w] at q'
                obtain ⟨k, _, hk2⟩ := sm_ex q'
                refine ⟨w, k, ?_⟩
                by_cases v : (0 : Int) ≤ (k : Int) ∧ (k : Int) < h2.2.1 p ∧ h2.2.2 p k = (b : Int)
                · exact ⟨v.2.1, v.2.2⟩
                · rw [if_neg v] at hk2; omega
              · rw [if_neg w] at q'; omega
            obtain ⟨w, k, hk, hv⟩ := up
            have lv := (np.2.2 w k hk).2
            rw [hv, Int.toNat_natCast] at lv
            rw [ih p hp lp (by omega)]
        · have z1 : ¬ 0 < c1 (π p) := fun z => lp (l1 p hp z)
          have z2 : ¬ 0 < c2 p := fun z => lp (l2 p hp z)
          rw [if_neg z1, if_neg z2]
      have := hE b hb
      omega
  intro b hb
  by_cases lb : L b
  · have := (hL b hb lb).2.1.1
    exact main 49 b hb lb (by omega)
  · have z1 : ¬ 0 < c1 (π b) := fun z => lb (l1 b hb z)
    have z2 : ¬ 0 < c2 b := fun z => lb (l2 b hb z)
    have a := n1 (π b) (h b hb).1.1
    have b' := n2 b hb
    omega
/-! ===== a bit for each block ===== -/
def bW (w : Int) (x : Nat) : Prop := andL (ushrLZ w (x : Int)) 1 ≠ 0
theorem bs_sh : ∀ x : Nat, x < 64 → ((((i2 (x : Int)).toInt64.toUInt64 &&& Int64.toUInt64 63).toBitVec % 64#64).toNat = x) := by decide +kernel
theorem bs_one : ∀ c : Nat, c < 48 → (shlL (i8 1) (i2 (c : Int))).toBitVec.toNat = 2 ^ c := by decide +kernel
theorem bW_t {w : Int} {x : Nat} (hx : x < 48) : bW w x ↔ Nat.testBit (i8 w).toBitVec.toNat x = true := by
  unfold bW andL
  have a : i8 (ushrLZ w (x : Int)) = ushrL (i8 w) (i2 (x : Int)) := Int64.ofInt_toInt _
  rw [a]
  have b : (ushrL (i8 w) (i2 (x : Int)) &&& i8 1).toInt = ((i8 w).toBitVec >>> (((i2 (x : Int)).toInt64.toUInt64 &&& Int64.toUInt64 63).toBitVec % 64#64) &&& 1#64).toInt := rfl
  rw [b]
  generalize hz : ((i8 w).toBitVec >>> (((i2 (x : Int)).toInt64.toUInt64 &&& Int64.toUInt64 63).toBitVec % 64#64) &&& 1#64) = z
  have n : z.toNat = (i8 w).toBitVec.toNat >>> x &&& 1 := by
    rw [← hz, BitVec.toNat_and, BitVec.ushiftRight_eq', BitVec.toNat_ushiftRight, bs_sh x (by omega)]
    rfl
  have m : (i8 w).toBitVec.toNat >>> x &&& 1 = (i8 w).toBitVec.toNat >>> x % 2 := Nat.and_one_is_mod _
  have t : Nat.testBit (i8 w).toBitVec.toNat x = (1 &&& ((i8 w).toBitVec.toNat >>> x) != 0) := rfl
  rw [t, Nat.and_comm 1, m]
  have c := BitVec.toInt_eq_toNat_cond z
  generalize (i8 w).toBitVec.toNat >>> x = q at n m ⊢
  have r : z.toInt = (z.toNat : Int) := by
    rw [c, if_pos (by omega)]
  rw [r, n, m]
  constructor
  · intro h
    have : q % 2 ≠ 0 := by omega
    exact bne_iff_ne.mpr this
  · intro h
    have := bne_iff_ne.mp h
    omega
theorem bW_or {w : Int} {c x : Nat} (hc : c < 48) (hx : x < 48) : bW (orL w (shlLZ 1 (c : Int))) x ↔ (x = c ∨ bW w x) := by
  rw [bW_t hx, bW_t hx]
  have a : i8 (orL w (shlLZ 1 (c : Int))) = i8 w ||| i8 (shlLZ 1 (c : Int)) := Int64.ofInt_toInt _
  have b : i8 (shlLZ 1 (c : Int)) = shlL (i8 1) (i2 (c : Int)) := Int64.ofInt_toInt _
  rw [a, b]
  have d : (i8 w ||| shlL (i8 1) (i2 (c : Int))).toBitVec = (i8 w).toBitVec ||| (shlL (i8 1) (i2 (c : Int))).toBitVec := rfl
  rw [d, BitVec.toNat_or, bs_one c hc, Nat.testBit_or, Nat.testBit_two_pow, Bool.or_eq_true, decide_eq_true_iff]
  constructor
  · rintro (h | h)
    · exact Or.inr h
    · exact Or.inl h.symm
  · rintro (h | h)
    · exact Or.inr h.symm
    · exact Or.inl h
theorem bW_0 {x : Nat} (hx : x < 48) : ¬ bW 0 x := by
  rw [bW_t hx]
  have : (i8 0).toBitVec.toNat = 0 := by decide +kernel
  rw [this, Nat.zero_testBit]
  exact Bool.false_ne_true
/-! ===== both sides' blocks, by rows ===== -/
def hB (s : MS) (b : Nat) : SH := (gA s (b + 2), gA s (b + 3), fun p k => gA s (b + 5) (6 * p + k))
def kB (s : MS) (b : Nat) : Nat → Nat → Int := fun p k => gA s (b + 4) (6 * p + k)
def hR (f : Nat → Int) : SH := (fun p => f (19 + 16 * p), fun p => f (20 + 16 * p), fun p k => if k < 6 then f (27 + 16 * p + k) else 0)
def kR (f : Nat → Int) : Nat → Nat → Int := fun p k => if k < 6 then f (21 + 16 * p + k) else 0
def cR (f : Nat → Int) : Nat → Int := fun p => f (17 + 16 * p)
def vR (f : Nat → Int) : Nat → Int := fun p => f (18 + 16 * p)
theorem hB_54 (s : MS) : hB s 54 = hN s := rfl
theorem kB_54 (s : MS) : kB s 54 = kN s := rfl
theorem hR_M (t : MS) : hR (gA t 49) = hM t := rfl
theorem kR_M (t : MS) : kR (gA t 49) = kM t := rfl
theorem cR_M (t : MS) : cR (gA t 49) = cM t := rfl
theorem vR_M (t : MS) : vR (gA t 49) = vM t := rfl
/-- one store on both sides, the class's rows from b on -/
def TRf (π σ : Nat → Nat) (N : Int) (s : MS) (b : Nat) (f : Nat → Int) : Prop := PNM π σ N ∧ (∀ x, x < 48 → gA s b (π x) = cR f x ∧ gA s (b + 1) (π x) = vR f x) ∧ (∀ x, x < 48 → 0 < cR f x ∨ 0 < vR f x → BR1 π (hB s b) (hR f) (kB s b) (kR f) x) ∧ (∀ v, v < 8 → rtr π (gA s (b + 6) v) (f v) ∧ rtr π (gA s (b + 7) v) (f (8 + v)))
theorem TRf_r {π σ : Nat → Nat} {N : Int} {s : MS} {b : Nat} {f g : Nat → Int} (H : TRf π σ N s b f) (e : ∀ k, k < 785 → g k = f k) : TRf π σ N s b g := by
  obtain ⟨p, c, l, r⟩ := H
  refine ⟨p, fun x hx => ?_, fun x hx q => ?_, fun v hv => ?_⟩
  · have := c x hx
    show gA s b (π x) = g (17 + 16 * x) ∧ gA s (b + 1) (π x) = g (18 + 16 * x)
    rw [e _ (by omega), e _ (by omega)]
    exact this
  · have q' : 0 < cR f x ∨ 0 < vR f x := by
      show 0 < f (17 + 16 * x) ∨ 0 < f (18 + 16 * x)
      rw [← e (17 + 16 * x) (by omega), ← e (18 + 16 * x) (by omega)]
      exact q
    have B := l x hx q'
    unfold BR1 at B ⊢
    have e1 : (hR g).1 x = (hR f).1 x := e _ (by omega)
    have e2 : (hR g).2.1 x = (hR f).2.1 x := e _ (by omega)
    have e3 : ∀ k, (hR g).2.2 x k = (hR f).2.2 x k := fun k => by
      show (if k < 6 then g (27 + 16 * x + k) else 0) = if k < 6 then f (27 + 16 * x + k) else 0
      by_cases z : k < 6
      · rw [if_pos z, if_pos z]; exact e _ (by omega)
      · rw [if_neg z, if_neg z]
    have e4 : ∀ k, kR g x k = kR f x k := fun k => by
      show (if k < 6 then g (21 + 16 * x + k) else 0) = if k < 6 then f (21 + 16 * x + k) else 0
      by_cases z : k < 6
      · rw [if_pos z, if_pos z]; exact e _ (by omega)
      · rw [if_neg z, if_neg z]
    rw [e1, e2]
    exact ⟨B.1, B.2.1, fun k hk => by rw [e3, e4]; exact B.2.2 k hk⟩
  · rw [e _ (by omega), e _ (by omega)]; exact r v hv
/-- rows copied -/
theorem TRf_c {π σ : Nat → Nat} {N : Int} {s o : MS} {a b i j : Nat} {f : Nat → Int} (H : TRf π σ N s a f) (h : BC s o a b i j) (z : ∀ x, x < 48 → 0 < cR f x ∨ 0 < vR f x → (hR f).2.1 x ≤ 6) : TRf π σ N o b f := by
  obtain ⟨p, c, l, r⟩ := H
  refine ⟨p, fun x hx => ?_, fun x hx q => ?_, fun v hv => ?_⟩
  · have := h.1 (π x) (p x hx).1.1
    rw [this.1, this.2.1]; exact c x hx
  · have B := l x hx q
    have px := (p x hx).1.1
    have zz := z x hx q
    have hh := h.1 (π x) px
    refine ⟨?_, ?_, fun k hk => ?_⟩
    · show gA o (b + 2) (π x) = _
      rw [hh.2.2.1]; exact B.1
    · show gA o (b + 3) (π x) = _
      rw [hh.2.2.2]; exact B.2.1
    · have h2 := h.2.1 (6 * π x + k) (by omega)
      have B2 := B.2.2 k hk
      show gA o (b + 4) (6 * π x + k) = _ ∧ (_ → gA o (b + 5) (6 * π x + k) = _) ∧ (_ → gA o (b + 5) (6 * π x + k) = _)
      rw [h2.1, h2.2]; exact B2
  · have := h.2.2.1 v hv
    rw [this.1, this.2]; exact r v hv
/-- the marks: what the act took or changed -/
def WR (π : Nat → Nat) (s t : MS) : Prop := ∀ x, x < 48 → 0 < cM t x → (bW (gL s 1062) (π x) ↔ gA t 54 x ≠ 0)
/-- both sides now -/
def SIM (π σ : Nat → Nat) (s t : MS) : Prop := TRf π σ (gI s 1060) s 54 (gA t 49) ∧ gI s 1060 = gA t 39 5 ∧ WR π s t
/-! ===== a block is TAKEN on both sides ===== -/
theorem s_isBk {p : Int} {s : MS} : pc (m_x8_isBlock p s) (fun r => (r = 1 ∧ 0 ≤ p ∧ p < gI s 1060) ∨ (r = 0 ∧ ¬ (0 ≤ p ∧ p < gI s 1060))) := by
  unfold m_x8_isBlock m_x8_isBlock_J16 m_x8_isBlock_J17
  exact pc_rg (pc_if (fun c => pc_bo (pc_some (Or.inr ⟨rfl, by omega⟩))) (fun c => pc_rg (pc_rg (pc_if (fun c2 => pc_bo (pc_some (Or.inr ⟨rfl, by omega⟩))) (fun c2 => pc_bo (pc_some (Or.inl ⟨rfl, by omega, by omega⟩)))))))
theorem s_isFree {p : Int} {s : MS} : pc (m_x8_isFree p s) (fun r => (r = 1 ∧ (0 ≤ p ∧ p < gI s 1060) ∧ gA s 54 p.toNat = 0 ∧ gA s 55 p.toNat = 0) ∨ (r = 0 ∧ ¬ ((0 ≤ p ∧ p < gI s 1060) ∧ gA s 54 p.toNat = 0 ∧ gA s 55 p.toNat = 0))) := by
  unfold m_x8_isFree m_x8_isFree_J30 m_x8_isFree_J31
  refine pc_bq s_isBk (fun r4 h4 => pc_rg (pc_if (fun c => pc_bo (pc_some (Or.inr ⟨rfl, fun q => ?_⟩))) (fun c => pc_rdI (fun _ => pc_rg (pc_if (fun c2 => pc_rdI (fun _ => pc_rg (pc_if (fun c3 => pc_bo (pc_some (Or.inl ⟨rfl, ?_, c2, c3⟩))) (fun c3 => pc_bo (pc_some (Or.inr ⟨rfl, fun q => c3 q.2.2⟩)))))) (fun c2 => pc_bo (pc_some (Or.inr ⟨rfl, fun q => c2 q.2.1⟩))))))))
  · rcases h4 with ⟨a, _⟩ | ⟨_, b⟩
    · omega
    · exact b q.1
  · rcases h4 with ⟨_, b⟩ | ⟨a, _⟩
    · exact b
    · omega
def NFc (s : MS) : Prop := ∀ b : Nat, (b : Int) < gI s 1060 → ¬ (gA s 54 b = 0 ∧ gA s 55 b = 0)
theorem s_take {p0 p1 : Int} {s : MS} : pc (m_x1_take p0 p1 s) (fun q => (q.1 = -1 ∧ NFc s) ∨ (q.1 ≠ -1 ∧ gL q.2 1062 = orL (gL s 1062) (shlLZ 1 q.1))) := by
  have L : ∀ (n : Nat) (x3 x4 x5 x6 x7 : Int) (S : MS), 0 ≤ x7 → (gA S 54 = gA s 54 ∧ gA S 55 = gA s 55 ∧ gI S 1060 = gI s 1060 ∧ gL S 1062 = gL s 1062) → (x4 = -1 ∨ 0 ≤ x4) → (x4 = -1 → ∀ b : Nat, (b : Int) < x7 → (b : Int) < gI s 1060 → ¬ (gA s 54 b = 0 ∧ gA s 55 b = 0)) → pc (m_x1_take_L44 n x3 x4 x5 x6 x7 S) (fun q => (q.1 = -1 ∧ NFc s) ∨ (q.1 ≠ -1 ∧ gL q.2 1062 = orL (gL s 1062) (shlLZ 1 q.1))) := by
    refine fr_ind (fun _ _ _ _ _ _ _ _ _ _ => pc_none) (fun n ih x3 x4 x5 x6 x7 S h7 hS h4 hN => ?_)
    show pc (m_x1_take_b44 (m_x1_take_L44 n) x3 x4 x5 x6 x7 S) _
    unfold m_x1_take_b44
    refine pc_rg (pc_rg (pc_if (fun c => pc_rg (pc_if (fun c4 => ?_) (fun c4 => ?_))) (fun c => pc_bq s_isFree (fun r46 h46 => pc_rg (pc_if (fun c0 => ?_) (fun c0 => pc_stn (fun s49 e49 => ?_)))))))
    · unfold m_x1_take_J189
      exact pc_some (Or.inl ⟨c4, fun b hb => hN c4 b (by omega) hb⟩)
    · refine pc_inb (pc_stn (fun s38 e38 => pc_inb (pc_stn (fun s40 e40 => pc_inb (pc_stn (fun s42 e42 => pc_bn (fun s44 e44 => ?_)))))))
      unfold m_x1_take_J189
      refine pc_some (Or.inr ⟨c4, ?_⟩)
      have g : pc (m_x8_mark x4 s42) (fun o => gL o 1062 = orL (gL s42 1062) (shlLZ 1 x4)) := by
        unfold m_x8_mark
        exact pc_stn (fun s1 e1 => pc_some (q_LL e1))
      rw [g s44 e44, (q_Al e42 : gL s42 1062 = gL s40 1062), (q_Al e40 : gL s40 1062 = gL s38 1062), (q_Al e38 : gL s38 1062 = gL S 1062), hS.2.2.2]
    · unfold m_x1_take_J140
      refine ih x3 x4 x5 x6 (x7 + 1) S (by omega) hS h4 (fun q b hb hbN w => ?_)
      by_cases z : (b : Int) < x7
      · exact hN q b z hbN w
      · have e : x7.toNat = b := by omega
        rcases h46 with ⟨a, _⟩ | ⟨_, d⟩
        · omega
        · exact d ⟨⟨h7, by rw [hS.2.2.1]; omega⟩, by rw [e, hS.1]; exact w.1, by rw [e, hS.2.1]; exact w.2⟩
    · have J119 : ∀ (v : Int) (S' : MS), (gA S' 54 = gA s 54 ∧ gA S' 55 = gA s 55 ∧ gI S' 1060 = gI s 1060 ∧ gL S' 1062 = gL s 1062) → pc (m_x1_take_J119 (m_x1_take_L44 n) x3 x4 x5 x6 x7 v S') (fun q => (q.1 = -1 ∧ NFc s) ∨ (q.1 ≠ -1 ∧ gL q.2 1062 = orL (gL s 1062) (shlLZ 1 q.1))) := fun v S' hS' => by
        unfold m_x1_take_J119 m_x1_take_J133 m_x1_take_J140
        exact pc_rg (pc_if (fun _ => ih _ _ _ _ _ S' (by omega) hS' (Or.inr h7) (fun q => absurd q (by omega))) (fun c4 => pc_rg (pc_rg (pc_if (fun _ => ih _ _ _ _ _ S' (by omega) hS' h4 (fun q => absurd q c4)) (fun _ => ih _ _ _ _ _ S' (by omega) hS' (Or.inr h7) (fun q => absurd q (by omega)))))))
      have hS49 : gA s49 54 = gA s 54 ∧ gA s49 55 = gA s 55 ∧ gI s49 1060 = gI s 1060 ∧ gL s49 1062 = gL s 1062 := ⟨(q_Ia e49).trans hS.1, (q_Ia e49).trans hS.2.1, (q_Ii e49 (by decide)).trans hS.2.2.1, (q_Il e49).trans hS.2.2.2⟩
      refine pc_rg (pc_if (fun _ => J119 _ s49 hS49) (fun _ => pc_rdI (fun _ => pc_rdI (fun _ => pc_bn (fun q56 e56 => J119 _ q56.2 ?_)))))
      have F : F_x3_value s49 q56.2 := fr_x3_value e56
      exact ⟨(F.2.1 54 (by decide)).trans hS49.1, (F.2.1 55 (by decide)).trans hS49.2.1, (F.1 1060 (by decide)).trans hS49.2.2.1, (F.2.2.1 1062 (by decide)).trans hS49.2.2.2⟩
  unfold m_x1_take
  have J23 : ∀ a b : Int, pc (m_x1_take_J23 p0 p1 (-1) a b s) (fun q => (q.1 = -1 ∧ NFc s) ∨ (q.1 ≠ -1 ∧ gL q.2 1062 = orL (gL s 1062) (shlLZ 1 q.1))) := fun a b => by
    unfold m_x1_take_J23
    exact pc_stn (fun s63 e63 => pc_stn (fun s64 e64 => L FU _ _ _ _ _ s64 (by omega) ⟨(q_Ia e64).trans (q_Ia e63), (q_Ia e64).trans (q_Ia e63), (q_Ii e64 (by decide)).trans (q_Ii e63 (by decide)), (q_Il e64).trans (q_Il e63)⟩ (Or.inl rfl) (fun _ b hb => absurd hb (by omega))))
  exact pc_rdI (fun _ => pc_rg (pc_if (fun _ => J23 _ _) (fun _ => J23 _ _)))
/-! the reference -/
theorem m_cnt {p : Int} {t : MS} (hp : 0 ≤ p) : pc (m_x12_countOf p t) (fun r => r = cM t p.toNat) := by
  unfold m_x12_countOf
  exact pc_rdI (fun _ => pc_some (by show gA t 49 (17 + 16 * p).toNat = gA t 49 (17 + 16 * p.toNat); rw [show (17 + 16 * p).toNat = 17 + 16 * p.toNat by omega]))
theorem m_sav {p : Int} {t : MS} (hp : 0 ≤ p) : pc (m_x12_savedOf p t) (fun r => r = vM t p.toNat) := by
  unfold m_x12_savedOf
  exact pc_rdI (fun _ => pc_some (by show gA t 49 (17 + 16 * p + 1).toNat = gA t 49 (18 + 16 * p.toNat); rw [show (17 + 16 * p + 1).toNat = 18 + 16 * p.toNat by omega]))
theorem m_used {p : Int} {t : MS} (hp : 0 ≤ p) : pc (m_x12_isUsed p t) (fun r => (r = 1 ∧ 0 < cM t p.toNat) ∨ (r = 0 ∧ cM t p.toNat ≤ 0)) := by
  unfold m_x12_isUsed m_x12_isUsed_J13
  exact pc_bq (m_cnt hp) (fun r4 h4 => pc_rg (pc_if (fun c => pc_bo (pc_some (Or.inr ⟨rfl, by omega⟩))) (fun c => pc_bo (pc_some (Or.inl ⟨rfl, by omega⟩)))))
theorem m_there {p : Int} {t : MS} (hp : 0 ≤ p) : pc (m_x12_isThere p t) (fun r => (r = 1 ∧ (0 < cM t p.toNat ∨ 0 < vM t p.toNat)) ∨ (r = 0 ∧ ¬ (0 < cM t p.toNat ∨ 0 < vM t p.toNat))) := by
  unfold m_x12_isThere m_x12_isThere_J16 m_x12_isThere_J21
  refine pc_bq (m_used hp) (fun r4 h4 => pc_rg (pc_if (fun c => pc_bq (m_sav hp) (fun r8 h8 => pc_rg (pc_if (fun c2 => pc_bo (pc_some (Or.inr ⟨rfl, ?_⟩))) (fun c2 => pc_bo (pc_some (Or.inl ⟨rfl, ?_⟩)))))) (fun c => pc_bo (pc_some (Or.inl ⟨rfl, ?_⟩)))))
  all_goals omega
def NFm (t : MS) : Prop := ∀ b : Nat, (b : Int) < gA t 39 5 → (0 < cM t b ∨ 0 < vM t b)
theorem m_taken {p0 p1 : Int} {t : MS} (h0 : gI t 55 = 0) : pc (m_x12_taken p0 p1 t) (fun q => (gI q.2 55 = 1 ∧ NFm t) ∨ (gI q.2 55 = 0 ∧ gA q.2 54 = upZ (gA t 54) q.1.toNat 1)) := by
  have L126 : ∀ (n : Nat) (x1 x2 x3 x4 : Int) (S : MS), gI S 55 = 0 → gA S 54 = gA t 54 → pc (m_x12_taken_L126 n x1 x2 x3 x4 S) (fun q => gI q.2 55 = 0 ∧ gA q.2 54 = upZ (gA t 54) q.1.toNat 1) := by
    refine fr_ind (fun _ _ _ _ _ _ _ => pc_none) (fun n ih x1 x2 x3 x4 S h5 h4 => ?_)
    show pc (m_x12_taken_b126 (m_x12_taken_L126 n) x1 x2 x3 x4 S) _
    unfold m_x12_taken_b126
    refine pc_rg (pc_if (fun _ => pc_inb (pc_stn (fun s9 e9 => pc_inb (pc_stn (fun s11 e11 => pc_inb (pc_bo (pc_stn (fun s14 e14 => pc_some ⟨?_, ?_⟩)))))))) (fun _ => pc_inb (pc_stn (fun s16 e16 => ih _ _ _ _ s16 ((q_Ai e16).trans h5) ((q_Aa e16 (by decide)).trans h4)))))
    · exact (q_Ai e14).trans ((q_Ai e11).trans ((q_Ai e9).trans h5))
    · rw [(q_AA e14 : gA s14 54 = _), (q_Aa e11 (by decide) : gA s11 54 = gA s9 54), (q_Aa e9 (by decide) : gA s9 54 = gA S 54), h4]
  have J102 : ∀ (a b : Int) (S : MS), gI S 55 = 0 → gA S 54 = gA t 54 → (b = -1 → NFm t) → pc (m_x12_taken_J102 a b S) (fun q => (gI q.2 55 = 1 ∧ NFm t) ∨ (gI q.2 55 = 0 ∧ gA q.2 54 = upZ (gA t 54) q.1.toNat 1)) := fun a b S h5 h4 hN => by
    unfold m_x12_taken_J102
    exact pc_rg (pc_if (fun c => pc_stn (fun s22 e22 => pc_some (Or.inl ⟨q_II e22, hN c⟩))) (fun _ => pc_mono (L126 FU _ _ _ _ S h5 h4) (fun o ho => Or.inr ho)))
  have L : ∀ (n : Nat) (x23 x24 x25 z26 x27 : Int) (S : MS), 0 ≤ x27 → (gA S 49 = gA t 49 ∧ gA S 39 = gA t 39 ∧ gI S 55 = 0 ∧ gA S 54 = gA t 54) → (x25 = -1 ∨ 0 ≤ x25) → (x25 = -1 → ∀ b : Nat, (b : Int) < x27 → (b : Int) < gA t 39 5 → (0 < cM t b ∨ 0 < vM t b)) → pc (m_x12_taken_L8 n x23 x24 x25 z26 x27 S) (fun q => (gI q.2 55 = 1 ∧ NFm t) ∨ (gI q.2 55 = 0 ∧ gA q.2 54 = upZ (gA t 54) q.1.toNat 1)) := by
    refine fr_ind (fun _ _ _ _ _ _ _ _ _ _ => pc_none) (fun n ih x23 x24 x25 z26 x27 S h7 hS h4 hN => ?_)
    show pc (m_x12_taken_b8 (m_x12_taken_L8 n) x23 x24 x25 z26 x27 S) _
    have cS : cM S = cM t := by unfold cM; rw [hS.1]
    have vS : vM S = vM t := by unfold vM; rw [hS.1]
    have J71 : ∀ (z : Int) (S' : MS), (gA S' 49 = gA t 49 ∧ gA S' 39 = gA t 39 ∧ gI S' 55 = 0 ∧ gA S' 54 = gA t 54) → pc (m_x12_taken_J71 (m_x12_taken_L8 n) x23 x24 x25 z26 x27 z S') (fun q => (gI q.2 55 = 1 ∧ NFm t) ∨ (gI q.2 55 = 0 ∧ gA q.2 54 = upZ (gA t 54) q.1.toNat 1)) := fun z S' hS' => by
      unfold m_x12_taken_J71 m_x12_taken_J89 m_x12_taken_J96
      exact pc_rg (pc_if (fun _ => ih _ _ _ _ _ S' (by omega) hS' (Or.inr h7) (fun q => absurd q (by omega))) (fun c4 => pc_rgL (pc_rgL (pc_if (fun _ => ih _ _ _ _ _ S' (by omega) hS' (Or.inr h7) (fun q => absurd q (by omega))) (fun _ => ih _ _ _ _ _ S' (by omega) hS' h4 (fun q => absurd q c4))))))
    unfold m_x12_taken_b8 m_x12_blockMany
    refine pc_bq (Q := fun r => r = gA t 39 5) (pc_rdI (fun _ => pc_some (by show gA S 39 (Int.toNat 5) = gA t 39 5; rw [hS.2.1]; rfl))) (fun r53 h53 => pc_rg (pc_rg (pc_if (fun c => ?_) (fun c => pc_rg (pc_if (fun c5 => pc_bq (m_there h7) (fun r60 h60 => pc_rg (pc_if (fun c0 => pc_stn (fun s63 e63 => pc_stn (fun s64 e64 => pc_stn (fun s65 e65 => pc_bn (fun r67 _ => ?_))))) (fun c0 => ?_)))) (fun c5 => absurd hS.2.2.1 c5))))))
    · exact J102 _ _ S hS.2.2.1 hS.2.2.2 (fun q b hb => hN q b (by omega) hb)
    · have hS65 : gA s65 49 = gA t 49 ∧ gA s65 39 = gA t 39 ∧ gI s65 55 = 0 ∧ gA s65 54 = gA t 54 := ⟨(q_Ia e65).trans ((q_Ia e64).trans ((q_Ia e63).trans hS.1)), (q_Ia e65).trans ((q_Ia e64).trans ((q_Ia e63).trans hS.2.1)), (q_Ii e65 (by decide)).trans ((q_Ii e64 (by decide)).trans ((q_Ii e63 (by decide)).trans hS.2.2.1)), (q_Ia e65).trans ((q_Ia e64).trans ((q_Ia e63).trans hS.2.2.2))⟩
      refine pc_rg (pc_if (fun _ => pc_rg (J71 _ s65 hS65)) (fun _ => pc_bn (fun q73 e73 => J71 _ q73.2 ?_)))
      have F : F_x12_codesTell s65 q73.2 := fr_x12_codesTell e73
      exact ⟨(F.2.1 49 (by decide)).trans hS65.1, (F.2.1 39 (by decide)).trans hS65.2.1, (F.1 55 (by decide)).trans hS65.2.2.1, (F.2.1 54 (by decide)).trans hS65.2.2.2⟩
    · unfold m_x12_taken_J96
      refine ih _ _ _ _ _ S (by omega) hS h4 (fun q b hb hbN => ?_)
      by_cases z : (b : Int) < x27
      · exact hN q b z hbN
      · have e : x27.toNat = b := by omega
        rcases h60 with ⟨_, d⟩ | ⟨a, _⟩
        · rw [e, cS, vS] at d; exact d
        · omega
  unfold m_x12_taken
  exact L FU _ _ _ _ _ t (by omega) ⟨rfl, rfl, h0, rfl⟩ (Or.inl rfl) (fun _ b hb => absurd hb (by omega))
/-! ===== what is TAKEN gets a name on both sides ===== -/
def LV (t : MS) (x : Nat) : Prop := 0 < cM t x ∨ 0 < vM t x
/-- who is named by one that stands stands, too -/
def KLV (t : MS) : Prop := (∀ b, b < 48 → 0 ≤ cM t b ∧ 0 ≤ vM t b) ∧ (∀ x, x < 48 → LV t x → (Nd (hM t) (gA t 39 5) x ∧ (hM t).1 x ≤ 48) ∧ (0 < (hM t).1 x → ∀ k : Nat, (k : Int) < (hM t).2.1 x → (0 ≤ (hM t).2.2 x k ∧ (hM t).2.2 x k < 48) ∧ LV t ((hM t).2.2 x k).toNat)) ∧ (∀ v, v < 16 → 0 ≤ gA t 49 v → gA t 49 v < 48 → LV t (gA t 49 v).toNat)
theorem KLV_of {t : MS} {D : Nat → Int} (T : TM t D (-1)) (hD : ∀ x, x < 48 → 0 ≤ D x) : KLV t := by
  have S := TG_ss T
  have z : ∀ x : Nat, x < 48 → (0 : Int) ≤ 0 := fun _ _ => Int.le_refl 0
  have hN := T.1.1
  refine ⟨fun b hb => ⟨(T.1.2.1 b hb).1, (T.1.2.2.1 b hb).1⟩, fun x hx hl => ?_, fun v hv h0 h1 => ?_⟩
  · rcases hl with hc | hc
    · refine ⟨⟨TG_nd T hx hc, Int.le_trans (TG_lev T hD hx hc).2 (by decide)⟩, fun hl k hk => ?_⟩
      have q := TG_kid T hD hx hc hl hk
      exact ⟨⟨q.1.1, by omega⟩, Or.inl q.2.2⟩
    · refine ⟨⟨TG_nd S hx hc, Int.le_trans (TG_lev S z hx hc).2 (by decide)⟩, fun hl k hk => ?_⟩
      have q := TG_kid S z hx hc hl hk
      exact ⟨⟨q.1.1, by omega⟩, Or.inr q.2.2⟩
  · by_cases w : v < 8
    · have e := rM_v (t := t) w
      have q := TG_root_live T hD w (by rw [e]; exact h0) (by rw [e]; omega)
      rw [e] at q
      exact Or.inl q.2
    · have e := rsM_v (t := t) (v := v - 8) (by omega)
      rw [show 8 + (v - 8) = v by omega] at e
      have q := TG_root_live S z (v := v - 8) (by omega) (by rw [e]; exact h0) (by rw [e]; omega)
      rw [e] at q
      exact Or.inr q.2
theorem sim_c {π σ : Nat → Nat} {s t : MS} (h : SIM π σ s t) {x : Nat} (hx : x < 48) : gA s 54 (π x) = cM t x ∧ gA s 55 (π x) = vM t x := h.1.2.1 x hx
theorem sim_b {π σ : Nat → Nat} {s t : MS} (h : SIM π σ s t) {x : Nat} (hx : x < 48) (hl : LV t x) : BR1 π (hN s) (hM t) (kN s) (kM t) x := h.1.2.2.1 x hx hl
/-- one that stands is none that lies idle -/
theorem sim_ne {π σ : Nat → Nat} {s t : MS} (h : SIM π σ s t) {x c : Nat} (hx : x < 48) (hl : LV t x) (hc : gA s 54 c = 0 ∧ gA s 55 c = 0) : π x ≠ c := fun e => by
  have a := sim_c h hx
  rw [e] at a
  unfold LV at hl
  omega
theorem y_take {π σ : Nat → Nat} {s t : MS} {p0 p1 p2 : Int} {q o : Int × MS} (h : SIM π σ s t) (hK : KLV t) (hN8 : gI s 1060 ≤ 48) (h0 : gI t 55 = 0) (e1 : m_x1_take p0 p1 s = some q) (e2 : m_x12_taken p0 p2 t = some o)
    (w1 : q.1 = -1 ∨ ((0 ≤ q.1 ∧ q.1 < gI s 1060) ∧ (gA s 54 q.1.toNat = 0 ∧ gA s 55 q.1.toNat = 0) ∧ (gA q.2 54 = upZ (gA s 54) q.1.toNat 1 ∧ gA q.2 56 = upZ (gA s 56) q.1.toNat p0 ∧ gA q.2 57 = upZ (gA s 57) q.1.toNat 0)))
    (w2 : gI o.2 55 = 1 ∨ (gI o.2 55 = gI t 55 ∧ (0 ≤ o.1 ∧ o.1 < gA t 39 5) ∧ (cM t o.1.toNat ≤ 0 ∧ vM t o.1.toNat ≤ 0) ∧ TkE t o.2 o.1.toNat p0)) :
    (q.1 = -1 ∧ gI o.2 55 = 1) ∨ (gI o.2 55 = 0 ∧ 0 ≤ q.1 ∧ 0 ≤ o.1 ∧ o.1 < gA t 39 5 ∧ ¬ LV t o.1.toNat ∧ TkE t o.2 o.1.toNat p0 ∧ ∃ π' σ', SIM π' σ' q.2 o.2 ∧ q.1 = (π' o.1.toNat : Int) ∧ ∀ x, x < 48 → LV t x → π' x = π x) := by
  have F1 : F_x1_take s q.2 := fr_x1_take e1
  have F2 : F_x12_taken t o.2 := fr_x12_taken e2
  have g1 := s_take q e1
  have g2 := m_taken h0 o e2
  have hP := h.1.1
  have hb := h.2.1
  rcases g1 with ⟨a1, a2⟩ | ⟨a1, a2⟩
  · refine Or.inl ⟨a1, ?_⟩
    rcases w2 with w | ⟨_, ⟨r0, r1⟩, ⟨c0, v0⟩, _⟩
    · exact w
    · exfalso
      have hr : o.1.toNat < 48 := by omega
      have n := hK.1 o.1.toNat hr
      have c := sim_c h hr
      have lt := (hP o.1.toNat hr).2.2.2 (by omega)
      exact a2 (π o.1.toNat) lt ⟨by omega, by omega⟩
  · rcases w1 with w | ⟨⟨q0, q1⟩, ⟨f1, f2⟩, ⟨u54, u56, u57⟩⟩
    · exact absurd w a1
    have hc : q.1.toNat < 48 := by omega
    have qc : q.1 = (q.1.toNat : Int) := by omega
    rcases w2 with w | ⟨b55, ⟨r0, r1⟩, ⟨c0, v0⟩, TK⟩
    · exfalso
      rcases g2 with ⟨_, z⟩ | ⟨z, _⟩
      · have hs := (hP q.1.toNat hc)
        have l := z (σ q.1.toNat) (by rw [← hb]; exact (PB_s hP hc).2 (by omega))
        have c := sim_c h hs.1.2
        rw [hs.2.1.2] at c
        omega
      · omega
    have f55 : gI o.2 55 = 0 := b55.trans h0
    have T54 : gA o.2 54 = upZ (gA t 54) o.1.toNat 1 := by
      rcases g2 with ⟨z, _⟩ | ⟨_, z⟩
      · omega
      · exact z
    have hr : o.1.toNat < 48 := by omega
    have nr := hK.1 o.1.toNat hr
    have cr0 := sim_c h hr
    have hpr := hP o.1.toNat hr
    obtain ⟨c, hcc⟩ : ∃ c, c = q.1.toNat := ⟨_, rfl⟩
    obtain ⟨r, hrr⟩ : ∃ r, r = o.1.toNat := ⟨_, rfl⟩
    rw [← hcc] at hc qc f1 f2 u54 u56 u57
    rw [← hrr] at c0 v0 TK T54 hr nr cr0 hpr ⊢
    have nl : ¬ LV t r := by unfold LV; omega
    have cz : cM t r = 0 := by omega
    have vz : vM t r = 0 := by omega
    refine Or.inr ⟨f55, q0, r0, r1, nl, TK, fun x => tw c (π r) (π x), fun x => σ (tw c (π r) x), ?_⟩
    have keep : ∀ x, x < 48 → LV t x → tw c (π r) (π x) = π x := fun x hx hl => tw_n (sim_ne h hx hl ⟨f1, f2⟩) (sim_ne h hx hl ⟨by omega, by omega⟩)
    have cO : cM o.2 = upZ (cM t) r 1 := TkE_c TK
    have vO : vM o.2 = vM t := TkE_v TK vz
    have sv55 : gA q.2 55 = gA s 55 := F1.2.1 55 (by decide)
    have same : ∀ x, x ≠ r → (hM o.2).1 x = (hM t).1 x ∧ (hM o.2).2.1 x = (hM t).2.1 x ∧ ∀ k, (hM o.2).2.2 x k = (hM t).2.2 x k ∧ kM o.2 x k = kM t x k := fun x hx => by
      refine ⟨TK.1 (19 + 16 * x) (by omega), TK.1 (20 + 16 * x) (by omega), fun k => ?_⟩
      show (if k < 6 then gA o.2 49 (27 + 16 * x + k) else 0) = (if k < 6 then gA t 49 (27 + 16 * x + k) else 0) ∧ (if k < 6 then gA o.2 49 (21 + 16 * x + k) else 0) = if k < 6 then gA t 49 (21 + 16 * x + k) else 0
      by_cases z : k < 6
      · rw [if_pos z, if_pos z, if_pos z, if_pos z, TK.1 (27 + 16 * x + k) (by omega), TK.1 (21 + 16 * x + k) (by omega)]
        exact ⟨rfl, rfl⟩
      · rw [if_neg z, if_neg z, if_neg z, if_neg z]
        exact ⟨rfl, rfl⟩
    refine ⟨⟨⟨PB_tw ?_ hc hpr.1.1 ?_, fun x hx => ?_, fun x hx hl => ?_, fun v hv => ?_⟩, ?_, fun x hx hl => ?_⟩, ?_, keep⟩
    · rw [F1.1 1060 (by decide)]; exact hP
    · rw [F1.1 1060 (by decide)]
      have := hpr.2.2
      exact ⟨fun _ => this.2 (by omega), fun _ => by omega⟩
    · rw [u54, sv55]
      show upZ (gA s 54) c 1 (tw c (π r) (π x)) = cM o.2 x ∧ gA s 55 (tw c (π r) (π x)) = vM o.2 x
      rw [cO, vO]
      by_cases zr : x = r
      · rw [zr, tw_b, upZ_s, upZ_s]
        exact ⟨rfl, by omega⟩
      · rw [upZ_n zr]
        have cx := sim_c h hx
        by_cases zc : π x = c
        · rw [zc, tw_a]
          have ne : π r ≠ c := fun e => zr (PB_i hP hx hr (zc.trans e.symm))
          rw [upZ_n ne]
          rw [zc] at cx
          omega
        · have ne : π x ≠ π r := fun e => zr (PB_i hP hx hr e)
          rw [tw_n zc ne, upZ_n zc]
          exact cx
    · show BR1 (fun x => tw c (π r) (π x)) (hN q.2) (hM o.2) (kN q.2) (kM o.2) x
      have hl' : 0 < cM o.2 x ∨ 0 < vM o.2 x := hl
      by_cases zr : x = r
      · rw [zr]
        have b56 : gA q.2 56 c = p0 := by rw [u56, upZ_s]
        have b57 : gA q.2 57 c = 0 := by rw [u57, upZ_s]
        refine ⟨?_, ?_, fun k hk => ?_⟩
        · show gA q.2 56 (tw c (π r) (π r)) = _
          rw [tw_b, b56]; exact TK.2.2.1.symm
        · show gA q.2 57 (tw c (π r) (π r)) = _
          rw [tw_b, b57]; exact TK.2.2.2.symm
        · have := TK.2.2.2
          omega
      · have lx : LV t x := by
          rw [cO, vO, upZ_n zr] at hl'
          exact hl'
        have kx := keep x hx lx
        have B := sim_b h hx lx
        have S := same x zr
        have ne := sim_ne h hx lx ⟨f1, f2⟩
        unfold BR1
        rw [S.1, S.2.1]
        show gA q.2 56 (tw c (π r) (π x)) = _ ∧ gA q.2 57 (tw c (π r) (π x)) = _ ∧ ∀ k : Nat, _ → gA q.2 58 (6 * tw c (π r) (π x) + k) = _ ∧ (_ → gA q.2 59 (6 * tw c (π r) (π x) + k) = _) ∧ (_ → gA q.2 59 (6 * tw c (π r) (π x) + k) = _)
        rw [kx, u56, u57, upZ_n ne, upZ_n ne, F1.2.1 58 (by decide), F1.2.1 59 (by decide)]
        refine ⟨B.1, B.2.1, fun k hk => ?_⟩
        rw [(S.2.2 k).1, (S.2.2 k).2]
        have B2 := B.2.2 k hk
        refine ⟨B2.1, fun z => ?_, B2.2.2⟩
        have kid := (hK.2.1 x hx lx).2 z k hk
        show gA s 59 (6 * π x + k) = (tw c (π r) (π ((hM t).2.2 x k).toNat) : Int)
        rw [keep _ (by omega) kid.2]
        exact B2.2.1 z
    · show rtr (fun x => tw c (π r) (π x)) (gA q.2 60 v) (gA o.2 49 v) ∧ rtr (fun x => tw c (π r) (π x)) (gA q.2 61 v) (gA o.2 49 (8 + v))
      rw [F1.2.1 60 (by decide), F1.2.1 61 (by decide), TkE_u TK (show v < 17 by omega), TkE_u TK (show 8 + v < 17 by omega)]
      have R := h.1.2.2.2 v hv
      have G : ∀ {a : Int} {u : Nat}, u < 16 → rtr π a (gA t 49 u) → rtr (fun x => tw c (π r) (π x)) a (gA t 49 u) := fun {a u} hu g => by
        rcases g with g | g | ⟨g1, g2, g3⟩
        · exact Or.inl g
        · exact Or.inr (Or.inl g)
        · refine Or.inr (Or.inr ⟨g1, g2, ?_⟩)
          show a = (tw c (π r) (π (gA t 49 u).toNat) : Int)
          rw [keep _ (by omega) (hK.2.2 u hu g1 g2)]
          exact g3
      exact ⟨G (by omega) R.1, G (by omega) R.2⟩
    · rw [F1.1 1060 (by decide), F2.2.1 39 (by decide)]; exact hb
    · show bW (gL q.2 1062) (tw c (π r) (π x)) ↔ gA o.2 54 x ≠ 0
      have hl' : 0 < cM o.2 x := hl
      rw [a2, T54, qc, bW_or hc (tw_lt hc hpr.1.1 (hP x hx).1.1)]
      by_cases zr : x = r
      · rw [zr, tw_b, upZ_s]
        exact ⟨fun _ => by decide, fun _ => Or.inl rfl⟩
      · rw [cO, upZ_n zr] at hl'
        have lx : LV t x := Or.inl hl'
        rw [keep x hx lx, upZ_n zr]
        have ne := sim_ne h hx lx ⟨f1, f2⟩
        exact ⟨fun w => (h.2.2 x hx hl').1 (w.resolve_left ne), fun w => Or.inr ((h.2.2 x hx hl').2 w)⟩
    · show q.1 = ((tw c (π r) (π r) : Nat) : Int)
      rw [tw_b]; omega
/-- one row is another's -/
def ROW (t : MS) (y : Nat) (o : MS) (x : Nat) : Prop := (hM o).1 x = (hM t).1 y ∧ (hM o).2.1 x = (hM t).2.1 y ∧ ∀ k, (hM o).2.2 x k = (hM t).2.2 y k ∧ kM o x k = kM t y k
theorem ROW_rf (t : MS) (x : Nat) : ROW t x t x := ⟨rfl, rfl, fun _ => ⟨rfl, rfl⟩⟩
theorem ROW_t {t u o : MS} {x y z : Nat} (h : ROW t x u y) (g : ROW u y o z) : ROW t x o z := ⟨g.1.trans h.1, g.2.1.trans h.2.1, fun k => ⟨(g.2.2 k).1.trans (h.2.2 k).1, (g.2.2 k).2.trans (h.2.2 k).2⟩⟩
theorem ROW_bx {t o : MS} {b x : Nat} (h : BX t o b) (hx : x ≠ b) : ROW t x o x := ⟨by rw [BX_l h], BX_z h hx, fun _ => BX_e h hx⟩
theorem ROW_tk {t o : MS} {r x : Nat} {l : Int} (TK : TkE t o r l) (hx : x ≠ r) : ROW t x o x := by
  refine ⟨TK.1 (19 + 16 * x) (by omega), TK.1 (20 + 16 * x) (by omega), fun k => ?_⟩
  show (if k < 6 then gA o 49 (27 + 16 * x + k) else 0) = (if k < 6 then gA t 49 (27 + 16 * x + k) else 0) ∧ (if k < 6 then gA o 49 (21 + 16 * x + k) else 0) = if k < 6 then gA t 49 (21 + 16 * x + k) else 0
  by_cases z : k < 6
  · rw [if_pos z, if_pos z, if_pos z, if_pos z, TK.1 (27 + 16 * x + k) (by omega), TK.1 (21 + 16 * x + k) (by omega)]
    exact ⟨rfl, rfl⟩
  · rw [if_neg z, if_neg z, if_neg z, if_neg z]
    exact ⟨rfl, rfl⟩
/-- what an OWNED block holds: what was there, a copy or itself -/
def CPY (t o : MS) (b r : Nat) : Prop := ROW t b o r ∧ (∀ x, x ≠ r → ROW t x o x) ∧ (∀ x, x < 48 → LV o x → x = r ∨ LV t x) ∧ (r = b ∨ ¬ LV t r)
/-! ===== a block is OWNED on both sides ===== -/
theorem s_fresh {p : Int} {s : MS} : pc (m_x8_isFresh p s) (fun r => (r = 1 ∧ (0 ≤ p ∧ p < gI s 1060) ∧ 0 < gA s 54 p.toNat ∧ gA s 55 p.toNat = 0) ∨ (r = 0 ∧ ¬ ((0 ≤ p ∧ p < gI s 1060) ∧ 0 < gA s 54 p.toNat ∧ gA s 55 p.toNat = 0))) := by
  unfold m_x8_isFresh m_x8_isFresh_J30 m_x8_isFresh_J31
  refine pc_bq s_isBk (fun r4 h4 => pc_rg (pc_if (fun c => pc_bo (pc_some (Or.inr ⟨rfl, fun q => ?_⟩))) (fun c => pc_rdI (fun _ => pc_rg (pc_if (fun c2 => pc_bo (pc_some (Or.inr ⟨rfl, fun q => ?_⟩))) (fun c2 => pc_rdI (fun _ => pc_rg (pc_if (fun c3 => pc_bo (pc_some (Or.inl ⟨rfl, ?_, by omega, c3⟩))) (fun c3 => pc_bo (pc_some (Or.inr ⟨rfl, fun q => c3 q.2.2⟩)))))))))))
  · rcases h4 with ⟨a, _⟩ | ⟨_, b⟩
    · omega
    · exact b q.1
  · have := q.2.1; omega
  · rcases h4 with ⟨_, b⟩ | ⟨a, _⟩
    · exact b
    · omega
theorem m_fresh {p : Int} {t : MS} (hp : 0 ≤ p) : pc (m_x12_isFresh p t) (fun r => (r = 1 ∧ 0 < cM t p.toNat ∧ vM t p.toNat = 0) ∨ (r = 0 ∧ ¬ (0 < cM t p.toNat ∧ vM t p.toNat = 0))) := by
  unfold m_x12_isFresh m_x12_isFresh_J20 m_x12_isFresh_J21
  refine pc_bq (m_used hp) (fun r4 h4 => pc_rg (pc_if (fun c => pc_bo (pc_some (Or.inr ⟨rfl, ?_⟩))) (fun c => pc_bq (m_sav hp) (fun r8 h8 => pc_rg (pc_if (fun c2 => pc_bo (pc_some (Or.inl ⟨rfl, ?_, ?_⟩))) (fun c2 => pc_bo (pc_some (Or.inr ⟨rfl, ?_⟩))))))))
  all_goals omega
/-- counts that change are some that refer or one that falls -/
def DCs (s o : MS) : Prop := (∀ b, gA o 54 b ≤ gA s 54 b) ∧ (∀ k, k ≠ 54 → k ≠ 50 → gA o k = gA s k) ∧ (∀ k, gI o k = gI s k) ∧ ∀ k, gL o k = gL s k
theorem s_rel {p : Int} {s : MS} : pc (m_x1_release_v2 p s) (fun q => DCs s q.2) := by
  have up : ∀ (f : Nat → Int) (i : Nat) (b : Nat), upZ f i (f i - 1) b ≤ f b := fun f i b => by
    unfold upZ
    split
    · rename_i e; rw [e]; omega
    · omega
  have st1 : ∀ {S S' : MS} {i : Nat}, DCs s S → sA S 54 (upZ (gA S 54) i (gA S 54 i - 1)) = S' → DCs s S' := fun {S S' i} H e => ⟨fun b => by rw [(q_AA e : gA S' 54 = _)]; exact Int.le_trans (up _ _ _) (H.1 b), fun k h1 h2 => (q_Aa e h1).trans (H.2.1 k h1 h2), fun k => (q_Ai e).trans (H.2.2.1 k), fun k => (q_Al e).trans (H.2.2.2 k)⟩
  have st2 : ∀ {S S' : MS} {f : Nat → Int}, DCs s S → sA S 50 f = S' → DCs s S' := fun {S S' f} H e => ⟨fun b => by rw [(q_Aa e (by decide) : gA S' 54 = gA S 54)]; exact H.1 b, fun k h1 h2 => (q_Aa e h2).trans (H.2.1 k h1 h2), fun k => (q_Ai e).trans (H.2.2.1 k), fun k => (q_Al e).trans (H.2.2.2 k)⟩
  have L28 : ∀ (n : Nat) (x3 x4 : Int) (S : MS), DCs s S → pc (m_x1_release_v2_L28 n x3 x4 S) (fun q => DCs s q.2) := by
    refine fr_ind (fun _ _ _ _ => pc_none) (fun n ih x3 x4 S H => ?_)
    show pc (m_x1_release_v2_b28 (m_x1_release_v2_L28 n) x3 x4 S) _
    have L83 : ∀ (m : Nat) (x6 x7 x8 x9 : Int) (S' : MS), DCs s S' → pc (m_x1_release_v2_L83 (m_x1_release_v2_L28 n) m x6 x7 x8 x9 S') (fun q => DCs s q.2) := by
      refine fr_ind (fun _ _ _ _ _ _ => pc_none) (fun m ih2 x6 x7 x8 x9 S' H' => ?_)
      show pc (m_x1_release_v2_b83 (m_x1_release_v2_L28 n) (m_x1_release_v2_L83 (m_x1_release_v2_L28 n) m) x6 x7 x8 x9 S') _
      unfold m_x1_release_v2_b83 m_x1_release_v2_J148
      refine pc_rg (pc_rg (pc_if (fun _ => ih _ _ S' H') (fun _ => pc_rdI (fun _ => pc_bn (fun r21 _ => pc_rdI (fun _ => pc_rdI (fun _ => pc_inb (pc_stn (fun s25 e25 => pc_rdI (fun _ => pc_rg (pc_if (fun _ => pc_rg (pc_if (fun _ => ih2 _ _ _ _ s25 (st1 H' e25)) (fun _ => pc_inb (pc_stn (fun s32 e32 => ih2 _ _ _ _ s32 (st2 (st1 H' e25) e32)))))) (fun _ => ih2 _ _ _ _ s25 (st1 H' e25)))))))))))))
    unfold m_x1_release_v2_b28 m_x1_release_v2_J78 m_x1_release_v2_J160
    exact pc_rg (pc_rg (pc_if (fun _ => pc_some H) (fun _ => pc_rg (pc_if (fun _ => pc_some H) (fun _ => pc_rdI (fun _ => pc_rdI (fun _ => pc_rg (pc_if (fun _ => L83 FU _ _ _ _ S H) (fun _ => pc_rdI (fun _ => pc_rdI (fun _ => L83 FU _ _ _ _ S H)))))))))))
  have H0 : DCs s s := ⟨fun _ => Int.le_refl _, fun _ _ _ => rfl, fun _ => rfl, fun _ => rfl⟩
  unfold m_x1_release_v2 m_x1_release_v2_J25
  exact pc_rdI (fun _ => pc_inb (pc_stn (fun s52 e52 => pc_rdI (fun _ => pc_rg (pc_if (fun _ => pc_inb (pc_stn (fun s57 e57 => L28 FU _ _ s57 (st2 (st1 H0 e52) e57)))) (fun _ => L28 FU _ _ s52 (st1 H0 e52)))))))
/-- what the class does where it copies -/
def OWc (p : Int) (s : MS) (q1 q : Int × MS) : Prop := q.1 = q1.1 ∧ ∃ s2, m_x1_layEntries p 0 q1.1 q1.2 = some s2 ∧ (∀ k, k ≠ 54 → k ≠ 50 → gA q.2 k = gA s2 k) ∧ (∀ k, gI q.2 k = gI s2 k) ∧ (∀ k, gL q.2 k = gL s2 k) ∧ ∀ b : Nat, (∀ k : Nat, 0 < gA s2 56 q1.1.toNat → (k : Int) < gA s2 57 q1.1.toNat → gA s2 59 (6 * q1.1.toNat + k) ≠ (b : Int)) → gA q.2 54 b ≤ gA s2 54 b
theorem s_own {p : Int} {s : MS} (hp : 0 ≤ p) : pc (m_x1_owned p s) (fun q => ((((0 ≤ p ∧ p < gI s 1060) ∧ 0 < gA s 54 p.toNat ∧ gA s 55 p.toNat = 0) ∧ gA s 54 p.toNat = 1) ∧ q = (p, s)) ∨ (¬ (((0 ≤ p ∧ p < gI s 1060) ∧ 0 < gA s 54 p.toNat ∧ gA s 55 p.toNat = 0) ∧ gA s 54 p.toNat = 1) ∧ ∃ q1, m_x1_take (gA s 56 p.toNat) p s = some q1 ∧ ((q1.1 = -1 ∧ q.1 = -1) ∨ (q1.1 ≠ -1 ∧ OWc p s q1 q)))) := by
  have J26 : pc (m_x1_owned_J26 p s) (fun q => ∃ q1, m_x1_take (gA s 56 p.toNat) p s = some q1 ∧ ((q1.1 = -1 ∧ q.1 = -1) ∨ (q1.1 ≠ -1 ∧ OWc p s q1 q))) := by
    unfold m_x1_owned_J26
    refine pc_rdI (fun _ => pc_bn (fun q1 eq1 => pc_rg (pc_if (fun c => pc_some ⟨q1, eq1, Or.inl ⟨c, rfl⟩⟩) (fun c => pc_bn (fun s2 es2 => ?_)))))
    have J117 : ∀ S : MS, (∀ k, k ≠ 54 → k ≠ 50 → gA S k = gA s2 k) → (∀ k, gI S k = gI s2 k) → (∀ k, gL S k = gL s2 k) → (∀ b : Nat, (∀ k : Nat, 0 < gA s2 56 q1.1.toNat → (k : Int) < gA s2 57 q1.1.toNat → gA s2 59 (6 * q1.1.toNat + k) ≠ (b : Int)) → gA S 54 b = gA s2 54 b) → pc (m_x1_owned_J117 p q1.1 S) (fun q => ∃ q1, m_x1_take (gA s 56 p.toNat) p s = some q1 ∧ ((q1.1 = -1 ∧ q.1 = -1) ∨ (q1.1 ≠ -1 ∧ OWc p s q1 q))) := fun S hA hI hL hc => by
      unfold m_x1_owned_J117
      refine pc_bq s_rel (fun q6 h6 => pc_some ⟨q1, eq1, Or.inr ⟨c, rfl, s2, es2, fun k a b => (h6.2.1 k a b).trans (hA k a b), fun k => (h6.2.2.1 k).trans (hI k), fun k => (h6.2.2.2 k).trans (hL k), fun b hb => ?_⟩⟩)
      rw [← hc b hb]; exact h6.1 b
    refine pc_rdI (fun g1 => pc_rg (pc_if (fun c3 => J117 s2 (fun _ _ _ => rfl) (fun _ => rfl) (fun _ => rfl) (fun _ _ => rfl)) (fun c3 => ?_)))
    have L69 : ∀ (n : Nat) (x9 : Int) (S : MS), 0 ≤ x9 → (∀ k, k ≠ 54 → k ≠ 50 → gA S k = gA s2 k) → (∀ k, gI S k = gI s2 k) → (∀ k, gL S k = gL s2 k) → (∀ b : Nat, (∀ k : Nat, 0 < gA s2 56 q1.1.toNat → (k : Int) < gA s2 57 q1.1.toNat → gA s2 59 (6 * q1.1.toNat + k) ≠ (b : Int)) → gA S 54 b = gA s2 54 b) → pc (m_x1_owned_L69 n p q1.1 x9 S) (fun q => ∃ q1, m_x1_take (gA s 56 p.toNat) p s = some q1 ∧ ((q1.1 = -1 ∧ q.1 = -1) ∨ (q1.1 ≠ -1 ∧ OWc p s q1 q))) := by
      refine fr_ind (fun _ _ _ _ _ _ _ => pc_none) (fun n ih x9 S h9 hA hI hL hc => ?_)
      show pc (m_x1_owned_b69 (m_x1_owned_L69 n) p q1.1 x9 S) _
      unfold m_x1_owned_b69 m_x8_slot
      refine pc_rdI (fun _ => pc_rg (pc_rg (pc_if (fun _ => J117 S hA hI hL hc) (fun c4 => pc_bn (fun r16 e16 => pc_rdI (fun g17 => pc_rdI (fun g18 => pc_inb2 (fun g => pc_stn (fun s20 e20 => ih (x9 + 1) s20 (by omega) (fun k a b => (q_Aa e20 a).trans (hA k a b)) (fun k => (q_Ai e20).trans (hI k)) (fun k => (q_Al e20).trans (hL k)) (fun b hb => ?_))))))))))
      cases e16
      rw [(q_AA e20 : gA s20 54 = _)]
      have k59 : gA S 59 = gA s2 59 := hA 59 (by decide) (by decide)
      have k57 : gA S 57 = gA s2 57 := hA 57 (by decide) (by decide)
      rw [k57] at c4
      have ne := hb x9.toNat (by omega) (by omega)
      rw [show 6 * q1.1.toNat + x9.toNat = (q1.1 * 6 + x9).toNat by omega, ← k59] at ne
      rw [upZ_n (by omega)]
      exact hc b hb
    exact L69 FU 0 s2 (by omega) (fun _ _ _ => rfl) (fun _ => rfl) (fun _ => rfl) (fun _ _ => rfl)
  unfold m_x1_owned
  refine pc_bq s_fresh (fun r35 h35 => pc_rg (pc_if (fun c => pc_mono J26 (fun q hq => Or.inr ⟨fun z => ?_, hq⟩)) (fun c => pc_rdI (fun _ => pc_rg (pc_if (fun c2 => pc_some (Or.inl ⟨⟨?_, c2⟩, rfl⟩)) (fun c2 => pc_mono J26 (fun q hq => Or.inr ⟨fun z => c2 z.2, hq⟩)))))))
  · rcases h35 with ⟨a, _⟩ | ⟨_, b⟩
    · omega
    · exact b z.1
  · rcases h35 with ⟨_, b⟩ | ⟨a, _⟩
    · exact b
    · omega
/-! the reference -/
theorem m_cntT {p v : Int} {t : MS} : pc (m_x12_counts p v t) (fun o => (0 ≤ 17 + 16 * p) ∧ gA o 49 = upZ (gA t 49) (17 + 16 * p).toNat (gA t 49 (17 + 16 * p).toNat + v) ∧ (∀ k, k ≠ 49 → gA o k = gA t k) ∧ ∀ k, gI o k = gI t k) := by
  unfold m_x12_counts
  exact pc_rdI (fun g => pc_inb (pc_stn (fun s3 e3 => pc_some ⟨g.1, q_AA e3, fun k hk => q_Aa e3 hk, fun k => q_Ai e3⟩)))
/-- only counts are another, and none is greater -/
def DCm (t o : MS) : Prop := (∀ i, gA o 49 i ≤ gA t 49 i) ∧ (∀ i, i % 16 ≠ 1 → gA o 49 i = gA t 49 i) ∧ (∀ k, k ≠ 49 → k ≠ 56 → gA o k = gA t k) ∧ ∀ k, gI o k = gI t k
theorem m_falls {p : Int} {t : MS} : pc (m_x12_falls p t) (fun o => DCm t o) := by
  have st1 : ∀ {y : Int} {S S' : MS}, DCm t S → m_x12_counts y (-1) S = some S' → DCm t S' := fun {y S S'} H e => by
    obtain ⟨h0, h1, h2, h3⟩ := m_cntT S' e
    refine ⟨fun i => ?_, fun i hi => ?_, fun k a b => (h2 k a).trans (H.2.2.1 k a b), fun k => (h3 k).trans (H.2.2.2 k)⟩
    · rw [h1]
      by_cases z : i = (17 + 16 * y).toNat
      · rw [z, upZ_s]; have := H.1 (17 + 16 * y).toNat; omega
      · rw [upZ_n z]; exact H.1 i
    · rw [h1, upZ_n (by omega)]; exact H.2.1 i hi
  have st2 : ∀ {S S' : MS} {f : Nat → Int}, DCm t S → sA S 56 f = S' → DCm t S' := fun {S S' f} H e => ⟨fun b => by rw [(q_Aa e (by decide) : gA S' 49 = gA S 49)]; exact H.1 b, fun i hi => by rw [(q_Aa e (by decide) : gA S' 49 = gA S 49)]; exact H.2.1 i hi, fun k h1 h2 => (q_Aa e h2).trans (H.2.2.1 k h1 h2), fun k => (q_Ai e).trans (H.2.2.2 k)⟩
  have L9 : ∀ (n : Nat) (x1 : Int) (S : MS), DCm t S → pc (m_x12_falls_L9 n x1 S) (fun o => DCm t o) := by
    refine fr_ind (fun _ _ _ => pc_none) (fun n ih x1 S H => ?_)
    show pc (m_x12_falls_b9 (m_x12_falls_L9 n) x1 S) _
    have L51 : ∀ (m : Nat) (x3 x4 x5 : Int) (S' : MS), DCm t S' → pc (m_x12_falls_L51 (m_x12_falls_L9 n) m x3 x4 x5 S') (fun o => DCm t o) := by
      refine fr_ind (fun _ _ _ _ _ => pc_none) (fun m ih2 x3 x4 x5 S' H' => ?_)
      show pc (m_x12_falls_b51 (m_x12_falls_L9 n) (m_x12_falls_L51 (m_x12_falls_L9 n) m) x3 x4 x5 S') _
      unfold m_x12_falls_b51
      exact pc_bn (fun r8 _ => pc_rg (pc_rg (pc_if (fun _ => ih _ S' H') (fun _ => pc_bn (fun r13 _ => pc_inb (pc_stn (fun s15 e15 => ih2 _ _ _ s15 (st2 H' e15))))))))
    unfold m_x12_falls_b9
    exact pc_rg (pc_if (fun _ => pc_some H) (fun _ => pc_rdI (fun _ => pc_bn (fun s20 e20 => pc_bn (fun r22 _ => pc_rg (pc_if (fun _ => pc_bn (fun r26 _ => pc_rg (pc_if (fun _ => ih _ s20 (st1 H e20)) (fun _ => L51 FU _ _ _ s20 (st1 H e20))))) (fun _ => ih _ s20 (st1 H e20))))))))
  have H0 : DCm t t := ⟨fun _ => Int.le_refl _, fun _ _ => rfl, fun _ _ _ => rfl, fun _ => rfl⟩
  unfold m_x12_falls
  exact pc_inb (pc_stn (fun s30 e30 => L9 FU _ s30 (st2 H0 e30)))
theorem m_ents {p : Int} {t : MS} (hp : 0 ≤ p) : pc (m_x12_entriesOf p t) (fun r => r = (hM t).2.1 p.toNat) := by
  unfold m_x12_entriesOf
  exact pc_rdI (fun _ => pc_some (by show gA t 49 (17 + 16 * p + 3).toNat = gA t 49 (20 + 16 * p.toNat); rw [show (17 + 16 * p + 3).toNat = 20 + 16 * p.toNat by omega]))
theorem m_lev {p : Int} {t : MS} (hp : 0 ≤ p) : pc (m_x12_levelOf p t) (fun r => r = (hM t).1 p.toNat) := by
  unfold m_x12_levelOf
  exact pc_rdI (fun _ => pc_some (by show gA t 49 (17 + 16 * p + 2).toNat = gA t 49 (19 + 16 * p.toNat); rw [show (17 + 16 * p + 2).toNat = 19 + 16 * p.toNat by omega]))
theorem m_val {p k : Int} {t : MS} (hp : 0 ≤ p) (hk : 0 ≤ k ∧ k < 6) : pc (m_x12_valueAt p k t) (fun r => r = (hM t).2.2 p.toNat k.toNat) := by
  unfold m_x12_valueAt
  exact pc_rdI (fun _ => pc_some (by show gA t 49 (17 + 16 * p + 10 + k).toNat = if k.toNat < 6 then gA t 49 (27 + 16 * p.toNat + k.toNat) else 0; rw [if_pos (by omega), show (17 + 16 * p + 10 + k).toNat = 27 + 16 * p.toNat + k.toNat by omega]))
theorem m_key {p k : Int} {t : MS} (hp : 0 ≤ p) (hk : 0 ≤ k ∧ k < 6) : pc (m_x12_keyAt p k t) (fun r => r = kM t p.toNat k.toNat) := by
  unfold m_x12_keyAt
  exact pc_rdI (fun _ => pc_some (by show gA t 49 (17 + 16 * p + 4 + k).toNat = if k.toNat < 6 then gA t 49 (21 + 16 * p.toNat + k.toNat) else 0; rw [if_pos (by omega), show (17 + 16 * p + 4 + k).toNat = 21 + 16 * p.toNat + k.toNat by omega]))
/-- what the reference does where it copies: b to c -/
def OWm (b c : Nat) (t o : MS) : Prop := (∀ j : Nat, 3 ≤ j → j < 16 → gA o 49 (17 + 16 * c + j) = gA t 49 (17 + 16 * b + j)) ∧ (∀ i, i % 16 ≠ 1 → ¬ (20 + 16 * c ≤ i ∧ i < 33 + 16 * c) → gA o 49 i = gA t 49 i) ∧ (∀ k, k ≠ 49 → k ≠ 56 → gA o k = gA t k) ∧ (∀ k, gI o k = gI t k) ∧ ∀ x : Nat, (∀ k : Nat, 0 < (hM t).1 b → (k : Int) < (hM t).2.1 b → (hM t).2.2 b k ≠ (x : Int)) → cM o x ≤ cM t x
theorem m_copy {p : Int} {c : Nat} {t : MS} (hp : 0 ≤ p) (hne : c ≠ p.toNat) (h6 : (hM t).2.1 p.toNat ≤ 6) : pc (m_x12_owned_L41 FU p (c : Int) 3 t) (fun o => o.1 = (c : Int) ∧ OWm p.toNat c t o.2) := by
  have L41 : ∀ (n : Nat) (x : Int) (S : MS), (3 ≤ x ∧ x ≤ 16) → (∀ j : Nat, 3 ≤ j → (j : Int) < x → gA S 49 (17 + 16 * c + j) = gA t 49 (17 + 16 * p.toNat + j)) → (∀ i, ¬ (20 + 16 * c ≤ i ∧ i < 33 + 16 * c) → gA S 49 i = gA t 49 i) → (∀ k, k ≠ 49 → gA S k = gA t k) → (∀ k, gI S k = gI t k) → pc (m_x12_owned_L41 n p (c : Int) x S) (fun o => o.1 = (c : Int) ∧ OWm p.toNat c t o.2) := by
    refine fr_ind (fun _ _ _ _ _ _ _ => pc_none) (fun n ih x S hx h1 h2 hA hI => ?_)
    show pc (m_x12_owned_b41 (m_x12_owned_L41 n) p (c : Int) x S) _
    unfold m_x12_owned_b41
    have pS : ∀ j : Nat, j < 16 → gA S 49 (17 + 16 * p.toNat + j) = gA t 49 (17 + 16 * p.toNat + j) := fun j hj => h2 _ (by omega)
    refine pc_rg (pc_if (fun cx => pc_bq (m_lev hp) (fun r26 h26 => ?_)) (fun cx => pc_rdI (fun _ => pc_inb (pc_stn (fun s31 e31 => ih (x + 1) s31 (by omega) ?_ ?_ (fun k hk => (q_Aa e31 hk).trans (hA k hk)) (fun k => (q_Ai e31).trans (hI k)))))))
    · have J117 : ∀ X : MS, (∀ i, i % 16 ≠ 1 → gA X 49 i = gA S 49 i) → (∀ k, k ≠ 49 → gA X k = gA S k) → (∀ k, gI X k = gI S k) → (∀ x : Nat, (∀ k : Nat, 0 < (hM t).1 p.toNat → (k : Int) < (hM t).2.1 p.toNat → (hM t).2.2 p.toNat k ≠ (x : Int)) → gA X 49 (17 + 16 * x) = gA S 49 (17 + 16 * x)) → pc (m_x12_owned_J117 p (c : Int) X) (fun o => o.1 = (c : Int) ∧ OWm p.toNat c t o.2) := fun X xi xA xI xc => by
        unfold m_x12_owned_J117
        refine pc_bq m_falls (fun s5 h5 => pc_some ⟨rfl, fun j h3 hj => ?_, fun i hi hn => ?_, fun k a b => ?_, fun k => ?_, fun y hy => ?_⟩)
        · rw [h5.2.1 _ (by omega), xi _ (by omega)]; exact h1 j h3 (by omega)
        · rw [h5.2.1 _ hi, xi _ hi]; exact h2 i hn
        · rw [h5.2.2.1 k a b, xA k a]; exact hA k a
        · rw [h5.2.2.2 k, xI k]; exact hI k
        · show gA s5 49 (17 + 16 * y) ≤ gA t 49 (17 + 16 * y)
          have a := h5.1 (17 + 16 * y)
          rw [xc y hy, h2 _ (by omega)] at a
          exact a
      have hSl : (hM S).1 p.toNat = (hM t).1 p.toNat := by
        show gA S 49 (19 + 16 * p.toNat) = gA t 49 (19 + 16 * p.toNat)
        exact h2 _ (by omega)
      refine pc_rg (pc_if (fun _ => J117 S (fun _ _ => rfl) (fun _ _ => rfl) (fun _ => rfl) (fun _ _ => rfl)) (fun cl => ?_))
      have L91 : ∀ (m : Nat) (x8 : Int) (X : MS), 0 ≤ x8 → (∀ i, i % 16 ≠ 1 → gA X 49 i = gA S 49 i) → (∀ k, k ≠ 49 → gA X k = gA S k) → (∀ k, gI X k = gI S k) → (∀ x : Nat, (∀ k : Nat, 0 < (hM t).1 p.toNat → (k : Int) < (hM t).2.1 p.toNat → (hM t).2.2 p.toNat k ≠ (x : Int)) → gA X 49 (17 + 16 * x) = gA S 49 (17 + 16 * x)) → pc (m_x12_owned_L91 m p (c : Int) x8 X) (fun o => o.1 = (c : Int) ∧ OWm p.toNat c t o.2) := by
        refine fr_ind (fun _ _ _ _ _ _ _ => pc_none) (fun m ih2 x8 X h8 xi xA xI xc => ?_)
        show pc (m_x12_owned_b91 (m_x12_owned_L91 m) p (c : Int) x8 X) _
        unfold m_x12_owned_b91
        have xs : (hM X).2.1 p.toNat = (hM t).2.1 p.toNat := by
          show gA X 49 (20 + 16 * p.toNat) = gA t 49 (20 + 16 * p.toNat)
          rw [xi _ (by omega)]; exact h2 _ (by omega)
        refine pc_bq (m_ents hp) (fun r11 h11 => pc_rg (pc_rg (pc_if (fun _ => J117 X xi xA xI xc) (fun c8 => ?_))))
        rw [h11, xs] at c8
        refine pc_bq (m_val hp ⟨h8, by omega⟩) (fun r16 h16 => pc_bq m_cntT (fun s18 h18 => ?_))
        obtain ⟨g0, g1, g2, g3⟩ := h18
        have vx : (hM X).2.2 p.toNat x8.toNat = (hM t).2.2 p.toNat x8.toNat := by
          show (if x8.toNat < 6 then gA X 49 (27 + 16 * p.toNat + x8.toNat) else 0) = if x8.toNat < 6 then gA t 49 (27 + 16 * p.toNat + x8.toNat) else 0
          rw [if_pos (by omega), if_pos (by omega), xi _ (by omega)]; exact h2 _ (by omega)
        refine ih2 (x8 + 1) s18 (by omega) (fun i hi => ?_) (fun k hk => (g2 k hk).trans (xA k hk)) (fun k => (g3 k).trans (xI k)) (fun y hy => ?_)
        · rw [g1, upZ_n (by omega)]; exact xi i hi
        · have ne := hy x8.toNat (by omega) (by omega)
          rw [g1, upZ_n (by omega)]; exact xc y hy
      exact L91 FU 0 S (by omega) (fun _ _ => rfl) (fun _ _ => rfl) (fun _ => rfl) (fun _ _ => rfl)
    · intro j h3 hj
      rw [(q_AA e31 : gA s31 49 = _)]
      by_cases z : (j : Int) = x
      · rw [show 17 + 16 * c + j = (17 + 16 * (c : Int) + x).toNat by omega, upZ_s, show (17 + 16 * p + x).toNat = 17 + 16 * p.toNat + j by omega]
        exact pS j (by omega)
      · rw [upZ_n (by omega)]; exact h1 j h3 (by omega)
    · intro i hi
      rw [(q_AA e31 : gA s31 49 = _), upZ_n (by omega)]
      exact h2 i hi
  exact L41 FU 3 t (by omega) (fun j h3 hj => absurd hj (by omega)) (fun _ _ => rfl) (fun _ _ => rfl) (fun _ => rfl)
theorem m_own {p : Int} {t : MS} (hp : 0 ≤ p) (h0 : gI t 55 = 0) (hq : ∀ o1, m_x12_taken ((hM t).1 p.toNat) p t = some o1 → gI o1.2 55 = 0 → 0 ≤ o1.1 ∧ o1.1.toNat ≠ p.toNat ∧ (hM o1.2).2.1 p.toNat ≤ 6) : pc (m_x12_owned p t) (fun o => (((0 < cM t p.toNat ∧ vM t p.toNat = 0) ∧ cM t p.toNat = 1) ∧ o = (p, t)) ∨ (¬ ((0 < cM t p.toNat ∧ vM t p.toNat = 0) ∧ cM t p.toNat = 1) ∧ ∃ o1, m_x12_taken ((hM t).1 p.toNat) p t = some o1 ∧ ((gI o1.2 55 ≠ 0 ∧ o = (p, o1.2)) ∨ (gI o1.2 55 = 0 ∧ o.1 = o1.1 ∧ OWm p.toNat o1.1.toNat o1.2 o.2)))) := by
  have J19 : pc (m_x12_owned_J19 p t) (fun o => ∃ o1, m_x12_taken ((hM t).1 p.toNat) p t = some o1 ∧ ((gI o1.2 55 ≠ 0 ∧ o = (p, o1.2)) ∨ (gI o1.2 55 = 0 ∧ o.1 = o1.1 ∧ OWm p.toNat o1.1.toNat o1.2 o.2))) := by
    unfold m_x12_owned_J19
    refine pc_bq (m_lev hp) (fun r35 h35 => pc_bn (fun o1 e1 => ?_))
    rw [h35] at e1
    refine pc_rg (pc_if (fun c => ?_) (fun c => pc_some ⟨o1, e1, Or.inl ⟨c, rfl⟩⟩))
    obtain ⟨a, b, d⟩ := hq o1 e1 c
    have C := m_copy (c := o1.1.toNat) hp b d
    rw [show ((o1.1.toNat : Nat) : Int) = o1.1 by omega] at C
    exact pc_mono C (fun o ho => ⟨o1, e1, Or.inr ⟨c, ho.1, ho.2⟩⟩)
  unfold m_x12_owned
  refine pc_bq (m_fresh hp) (fun r42 h42 => pc_rg (pc_if (fun c => pc_mono J19 (fun o ho => Or.inr ⟨fun z => ?_, ho⟩)) (fun c => pc_bq (m_cnt hp) (fun r46 h46 => pc_rg (pc_if (fun c2 => pc_some (Or.inl ⟨⟨?_, by omega⟩, rfl⟩)) (fun c2 => pc_mono J19 (fun o ho => Or.inr ⟨fun z => c2 (by omega), ho⟩)))))))
  · rcases h42 with ⟨a, _⟩ | ⟨_, b⟩
    · omega
    · exact b z.1
  · rcases h42 with ⟨_, b⟩ | ⟨a, _⟩
    · exact b
    · omega
/-! ===== what is OWNED has a name on both sides ===== -/
theorem cpa_at {f g : Nat → Int} {sp dp n k : Nat} (h : k < n) : va_cpy f g sp dp n (dp + k) = f (sp + k) := by
  unfold va_cpy
  rw [if_pos (by omega), show sp + (dp + k - dp) = sp + k by omega]
theorem cpa_out {f g : Nat → Int} {sp dp n k : Nat} (h : k < dp ∨ dp + n ≤ k) : va_cpy f g sp dp n k = g k := by
  unfold va_cpy
  rw [if_neg (by omega)]
set_option maxHeartbeats 2000000 in
theorem y_ownB {π σ : Nat → Nat} {s t : MS} {p p' : Int} {q o : Int × MS} {v : Nat} {M : Nat → Nat → Int} (h : SIM π σ s t) (hK : KLV t) (hR : Rg s) (hRt : Rr t) (S0 : TS s Z0 (-1)) (T0 : TM t d0 (-1)) (hC : CE t 0) (hE1 : 0 ≤ gI s 581) (hE2 : 0 ≤ gA t 39 6) (h0 : gI t 55 = 0)
    (hp' : 0 ≤ p' ∧ p' < 48) (hpp : p = (π p'.toNat : Int)) (hc : 0 < cM t p'.toNat) (e1 : m_x1_owned p s = some q) (e2 : m_x12_owned p' t = some o)
    (w1 : q.1 = -1 ∨ (0 ≤ q.1 ∧ OwnP s q.2 p.toNat q.1.toNat Z0))
    (w2 : (gI o.2 55 = 1 ∧ o.1 = p') ∨ (gI o.2 55 = 0 ∧ 0 ≤ o.1 ∧ ∃ M', OwnM t o.2 v M M' p'.toNat o.1.toNat)) :
    (q.1 = -1 ∧ gI o.2 55 = 1) ∨ (gI o.2 55 = 0 ∧ 0 ≤ q.1 ∧ 0 ≤ o.1 ∧ ∃ π' σ', SIM π' σ' q.2 o.2 ∧ q.1 = (π' o.1.toNat : Int) ∧ (∀ x, x < 48 → LV t x → π' x = π x) ∧ CPY t o.2 p'.toNat o.1.toNat) := by
  have hP := h.1.1
  have hN0 := T0.1.1
  have hb := h.2.1
  obtain ⟨b, hbb⟩ : ∃ b, b = p'.toNat := ⟨_, rfl⟩
  have hb48 : b < 48 := by omega
  have pb := (hP b hb48).1.1
  have pn : p.toNat = π b := by rw [hpp, ← hbb]; omega
  have pi : p = (π b : Int) := by rw [hpp, ← hbb]
  have lb : LV t b := Or.inl (by rw [hbb]; exact hc)
  have cb := sim_c h hb48
  have BB := sim_b h hb48 lb
  have KB := hK.2.1 b hb48 lb
  have ltN : (π b : Int) < gI s 1060 := by
    rw [(hP b hb48).2.2, hb]
    have := (T0.1.2.1 b hb48).2.1
    have c' : 0 < cM t b := by rw [hbb]; exact hc
    omega
  have hNn : 0 ≤ gA t 39 5 := by
    have w := (T0.1.2.1 b hb48).2.1
    have c' : 0 < cM t b := by rw [hbb]; exact hc
    omega
  have hq : ∀ o1, m_x12_taken ((hM t).1 p'.toNat) p' t = some o1 → gI o1.2 55 = 0 → (0 ≤ o1.1 ∧ o1.1 < gA t 39 5) ∧ (cM t o1.1.toNat ≤ 0 ∧ vM t o1.1.toNat ≤ 0) ∧ TkE t o1.2 o1.1.toNat ((hM t).1 p'.toNat) := fun o1 eo z => by
    have lv := KB.1
    rw [hbb] at lv
    have W := (wp_det (w_x12_taken hRt ⟨hNn, hN0⟩ hC ⟨lv.1.1, by omega⟩ ⟨hp'.1, by omega⟩) eo).2.2
    rcases W with w | w
    · omega
    · exact w.2
  have g1 := s_own (by omega) q e1
  have g2 := m_own hp'.1 h0 (fun o1 eo z => by
    have w := hq o1 eo z
    refine ⟨w.1.1, fun e => ?_, ?_⟩
    · rw [e] at w; have := w.2.1.1; omega
    · rw [← hbb]
      have ne : o1.1.toNat ≠ b := fun e => by rw [e] at w; have := w.2.1.1; rw [hbb] at this; omega
      have : (hM o1.2).2.1 b = (hM t).2.1 b := w.2.2.1 (20 + 16 * b) (by omega)
      rw [this]; exact KB.1.1.2.1.2) o e2
  rw [pn] at g1
  rw [← hbb] at g2
  rcases g1 with ⟨a1, rfl⟩ | ⟨a1, q1, eq1, a2⟩
  · rcases g2 with ⟨a3, rfl⟩ | ⟨a3, _⟩
    · refine Or.inr ⟨h0, by show 0 ≤ p; omega, hp'.1, π, σ, h, ?_, fun _ _ _ => rfl, ROW_rf _ _, fun _ _ => ROW_rf _ _, fun _ _ hl => Or.inr hl, Or.inl rfl⟩
      show p = (π p'.toNat : Int)
      exact hpp
    · exact absurd ⟨⟨by have := a1.1.2.1; omega, by have := a1.1.2.2; omega⟩, by have := a1.2; omega⟩ a3
  · rcases g2 with ⟨a3, _⟩ | ⟨_, o1, eo1, a4⟩
    · exact absurd ⟨⟨⟨by omega, by omega⟩, by rw [cb.1]; exact a3.1.1, by rw [cb.2]; exact a3.1.2⟩, by rw [cb.1]; exact a3.2⟩ a1
    have lev : gA s 56 (π b) = (hM t).1 b := BB.1
    rw [lev] at eq1
    have lvb := KB.1
    have W1 := (wp_det (ts_take hR S0 zZ hE1 ⟨lvb.1.1, by omega⟩ (p1 := p) ⟨by omega, by omega⟩) eq1).2.2
    have W1' : q1.1 = -1 ∨ ((0 ≤ q1.1 ∧ q1.1 < gI s 1060) ∧ (gA s 54 q1.1.toNat = 0 ∧ gA s 55 q1.1.toNat = 0) ∧ (gA q1.2 54 = upZ (gA s 54) q1.1.toNat 1 ∧ gA q1.2 56 = upZ (gA s 56) q1.1.toNat ((hM t).1 b) ∧ gA q1.2 57 = upZ (gA s 57) q1.1.toNat 0)) := W1.imp id (fun w => ⟨w.1, w.2.1, w.2.2.1⟩)
    have hq' := hq
    rw [← hbb] at hq'
    have Y := y_take h hK (by rw [hb]; exact hN0) h0 eq1 eo1 W1' (by
      have W := (wp_det (w_x12_taken hRt ⟨hNn, hN0⟩ hC ⟨lvb.1.1, by omega⟩ ⟨hp'.1, by omega⟩) eo1).2.2
      exact W)
    rcases Y with ⟨y1, y2⟩ | ⟨y1, y2, y3, y3', y4, TK, π1, σ1, H1, y5, y6⟩
    · rcases a2 with ⟨_, z⟩ | ⟨z, _⟩
      · rcases a4 with ⟨_, rfl⟩ | ⟨w, _⟩
        · exact Or.inl ⟨z, y2⟩
        · omega
      · exact absurd y1 z
    rcases a2 with ⟨z, _⟩ | ⟨_, O1⟩
    · omega
    rcases a4 with ⟨z, _⟩ | ⟨_, oo, O2⟩
    · exact absurd y1 z
    obtain ⟨qq, s2, el, lA, lI, lL, lc⟩ := O1
    obtain ⟨c, hcc⟩ : ∃ c, c = q1.1.toNat := ⟨_, rfl⟩
    obtain ⟨r, hrr⟩ : ∃ r, r = o1.1.toNat := ⟨_, rfl⟩
    rw [← hrr] at TK y4 y5 O2
    have hr : r < 48 := by omega
    have cr : π1 r = c := by omega
    have c48 : c < 48 := by rw [← cr]; exact (H1.1.1 r hr).1.1
    have rb : r ≠ b := fun e => y4 (by rw [e]; exact lb)
    have P1 := H1.1.1
    have F1 : F_x1_take s q1.2 := fr_x1_take eq1
    have kb1 : π1 b = π b := y6 b hb48 lb
    have ub : gA q1.2 57 (π b) = gA s 57 (π b) := by
      rcases W1' with w | w
      · omega
      · rw [w.2.2.2.2, upZ_n]
        intro e
        have z := w.2.1
        rw [← e, cb.1, cb.2] at z
        unfold LV at lb; omega
    have z6 : gA s 57 (π b) = (hM t).2.1 b := BB.2.1
    have R1 : Rg q1.2 := (wp_det (ts_take hR S0 zZ hE1 ⟨lvb.1.1, by omega⟩ (p1 := p) ⟨by omega, by omega⟩) eq1).1
    obtain ⟨R2, l57, l58, l59⟩ := wp_det (w_x1_layEntries R1 ⟨by omega, by omega⟩ ⟨by omega, by omega⟩ (p1 := 0) ⟨by omega, by rw [pn, ub, z6]; exact lvb.1.2.1.1, by rw [pn, ub, z6]; exact lvb.1.2.1.2⟩) el
    rw [pn, ub, z6, ← hcc] at l57 l58 l59
    have F2 : F_x1_layEntries q1.2 s2 := fr_x1_layEntries el
    -- the class's rows at the end
    have A54 : ∀ k, k ≠ 54 → k ≠ 50 → k ≠ 57 → k ≠ 58 → k ≠ 59 → gA q.2 k = gA q1.2 k := fun k k1 k2 k3 k4 k5 => (lA k k1 k2).trans (F2.2.1 k (by simp; omega))
    have A57 : gA q.2 57 = upZ (gA q1.2 57) c ((hM t).2.1 b) := by
      rw [lA 57 (by decide) (by decide), l57, show (hM t).2.1 b - 0 = (hM t).2.1 b by omega]
    have szb := lvb.1.2.1
    have E58 : ∀ k : Nat, (k : Int) < (hM t).2.1 b → gA q.2 58 (6 * c + k) = gA s 58 (6 * π b + k) ∧ gA q.2 59 (6 * c + k) = gA s 59 (6 * π b + k) := fun k hk => by
      rw [lA 58 (by decide) (by decide), lA 59 (by decide) (by decide), l58, l59, cpa_at (by omega), cpa_at (by omega), F1.2.1 58 (by decide), F1.2.1 59 (by decide), show 6 * π b + Int.toNat 0 + k = 6 * π b + k by omega]
      exact ⟨rfl, rfl⟩
    have N58 : ∀ i : Nat, ¬ (6 * c ≤ i ∧ i < 6 * c + 6) → gA q.2 58 i = gA s 58 i ∧ gA q.2 59 i = gA s 59 i := fun i hi => by
      rw [lA 58 (by decide) (by decide), lA 59 (by decide) (by decide), l58, l59, cpa_out (by omega), cpa_out (by omega), F1.2.1 58 (by decide), F1.2.1 59 (by decide)]
      exact ⟨rfl, rfl⟩
    -- the reference's
    obtain ⟨m1, m2, m3, m4, m5⟩ := O2
    have t1 : ∀ i, ¬ (17 + 16 * r ≤ i ∧ i < 33 + 16 * r) → gA o1.2 49 i = gA t 49 i := TK.1
    have H2 : ∀ x, x ≠ r → (hM o.2).1 x = (hM t).1 x ∧ (hM o.2).2.1 x = (hM t).2.1 x ∧ (∀ k, (hM o.2).2.2 x k = (hM t).2.2 x k ∧ kM o.2 x k = kM t x k) ∧ vM o.2 x = vM t x := fun x hx => by
      refine ⟨?_, ?_, fun k => ?_, ?_⟩
      · show gA o.2 49 (19 + 16 * x) = gA t 49 (19 + 16 * x)
        rw [m2 _ (by omega) (by omega), t1 _ (by omega)]
      · show gA o.2 49 (20 + 16 * x) = gA t 49 (20 + 16 * x)
        rw [m2 _ (by omega) (by omega), t1 _ (by omega)]
      · show (if k < 6 then gA o.2 49 (27 + 16 * x + k) else 0) = (if k < 6 then gA t 49 (27 + 16 * x + k) else 0) ∧ (if k < 6 then gA o.2 49 (21 + 16 * x + k) else 0) = if k < 6 then gA t 49 (21 + 16 * x + k) else 0
        by_cases z : k < 6
        · rw [if_pos z, if_pos z, if_pos z, if_pos z, m2 _ (by omega) (by omega), m2 _ (by omega) (by omega), t1 _ (by omega), t1 _ (by omega)]
          exact ⟨rfl, rfl⟩
        · rw [if_neg z, if_neg z, if_neg z, if_neg z]
          exact ⟨rfl, rfl⟩
      · show gA o.2 49 (18 + 16 * x) = gA t 49 (18 + 16 * x)
        rw [m2 _ (by omega) (by omega), t1 _ (by omega)]
    have Hr : (hM o.2).1 r = (hM t).1 b ∧ (hM o.2).2.1 r = (hM t).2.1 b ∧ (∀ k, (hM o.2).2.2 r k = (hM t).2.2 b k ∧ kM o.2 r k = kM t b k) ∧ vM o.2 r = 0 := by
      have cp : ∀ j : Nat, 3 ≤ j → j < 16 → gA o.2 49 (17 + 16 * r + j) = gA t 49 (17 + 16 * b + j) := fun j a1 a2 => by
        rw [m1 j a1 a2, t1 _ (by omega)]
      refine ⟨?_, ?_, fun k => ?_, ?_⟩
      · show gA o.2 49 (19 + 16 * r) = _
        rw [m2 _ (by omega) (by omega)]; exact TK.2.2.1
      · have := cp 3 (by omega) (by omega)
        rw [show 17 + 16 * r + 3 = 20 + 16 * r by omega, show 17 + 16 * b + 3 = 20 + 16 * b by omega] at this
        exact this
      · show (if k < 6 then gA o.2 49 (27 + 16 * r + k) else 0) = (if k < 6 then gA t 49 (27 + 16 * b + k) else 0) ∧ (if k < 6 then gA o.2 49 (21 + 16 * r + k) else 0) = if k < 6 then gA t 49 (21 + 16 * b + k) else 0
        by_cases z : k < 6
        · have d1 := cp (10 + k) (by omega) (by omega)
          have d2 := cp (4 + k) (by omega) (by omega)
          rw [show 17 + 16 * r + (10 + k) = 27 + 16 * r + k by omega, show 17 + 16 * b + (10 + k) = 27 + 16 * b + k by omega] at d1
          rw [show 17 + 16 * r + (4 + k) = 21 + 16 * r + k by omega, show 17 + 16 * b + (4 + k) = 21 + 16 * b + k by omega] at d2
          rw [if_pos z, if_pos z, if_pos z, if_pos z, d1, d2]
          exact ⟨rfl, rfl⟩
        · rw [if_neg z, if_neg z, if_neg z, if_neg z]
          exact ⟨rfl, rfl⟩
      · show gA o.2 49 (18 + 16 * r) = 0
        rw [m2 _ (by omega) (by omega)]; exact TK.2.1.2
    have c1v : vM o1.2 = vM t := by
      have nr : ¬ 0 < vM t r := fun z => y4 (Or.inr z)
      have := (hK.1 r hr).2
      exact TkE_v TK (by omega)
    have c1c : cM o1.2 = upZ (cM t) r 1 := TkE_c TK
    -- who stood then
    have LO : ∀ x, x < 48 → LV o1.2 x → x = r ∨ LV t x := fun x hx hl => by
      by_cases z : x = r
      · exact Or.inl z
      · unfold LV at hl ⊢
        rw [c1c, c1v, upZ_n z] at hl
        exact Or.inr hl
    have BX1 : ∀ x, x < 48 → LV o1.2 x → BR1 π1 (hN q.2) (hM o.2) (kN q.2) (kM o.2) x := fun x hx hl => by
      rcases LO x hx hl with z | z
      · rw [z]
        refine ⟨?_, ?_, fun k hk => ?_⟩
        · show gA q.2 56 (π1 r) = (hM o.2).1 r
          rw [A54 56 (by decide) (by decide) (by decide) (by decide) (by decide), Hr.1, cr]
          rcases W1' with w | w
          · omega
          · rw [w.2.2.2.1, ← hcc, upZ_s]
        · show gA q.2 57 (π1 r) = (hM o.2).2.1 r
          rw [A57, cr, upZ_s, Hr.2.1]
        · rw [Hr.2.1] at hk
          have e := E58 k hk
          have B2 := BB.2.2 k hk
          have k1 := (Hr.2.2.1 k).1
          have k2 := (Hr.2.2.1 k).2
          show gA q.2 58 (6 * π1 r + k) = _ ∧ (_ → gA q.2 59 (6 * π1 r + k) = _) ∧ (_ → gA q.2 59 (6 * π1 r + k) = _)
          rw [cr, e.1, e.2, k1, k2, Hr.1]
          refine ⟨B2.1, fun w => ?_, B2.2.2⟩
          have kid := KB.2 w k hk
          rw [y6 _ (by omega) kid.2]
          exact B2.2.1 w
      · have xr : x ≠ r := fun e => y4 (by rw [← e]; exact z)
        have B := sim_b h hx z
        have S := H2 x xr
        have kx := y6 x hx z
        have xc : π x ≠ c := fun e => xr (PB_i P1 hx hr (by rw [kx, e, cr]))
        have KX' := hK.2.1 x hx z
        refine ⟨?_, ?_, fun k hk => ?_⟩
        · show gA q.2 56 (π1 x) = (hM o.2).1 x
          rw [A54 56 (by decide) (by decide) (by decide) (by decide) (by decide), S.1, kx]
          rcases W1' with w | w
          · omega
          · rw [w.2.2.2.1, ← hcc, upZ_n xc]; exact B.1
        · show gA q.2 57 (π1 x) = (hM o.2).2.1 x
          rw [A57, kx, upZ_n xc, S.2.1]
          rcases W1' with w | w
          · omega
          · rw [w.2.2.2.2, ← hcc, upZ_n xc]; exact B.2.1
        · rw [S.2.1] at hk
          have B2 := B.2.2 k hk
          have sz := KX'.1.1.2.1
          have nn := N58 (6 * π x + k) (by omega)
          show gA q.2 58 (6 * π1 x + k) = _ ∧ (_ → gA q.2 59 (6 * π1 x + k) = _) ∧ (_ → gA q.2 59 (6 * π1 x + k) = _)
          rw [kx, nn.1, nn.2, (S.2.2.1 k).1, (S.2.2.1 k).2, S.1]
          refine ⟨B2.1, fun w => ?_, B2.2.2⟩
          have kid := KX'.2 w k hk
          rw [y6 _ (by omega) kid.2]
          exact B2.2.1 w
    -- nodes
    have lev0 : ∀ x, x < 48 → LV t x → (hM o.2).1 x = (hM t).1 x := fun x hx hl => (H2 x (fun e => y4 (by rw [← e]; exact hl))).1
    have NX : ∀ x, x < 48 → LV o1.2 x → Nd (hM o.2) (gI q.2 1060) x ∧ (hM o.2).1 x ≤ 48 := fun x hx hl => by
      have e60 : gI q.2 1060 = gA t 39 5 := by rw [lI, F2.1 1060 (by decide), F1.1 1060 (by decide)]; exact hb
      rw [e60]
      rcases LO x hx hl with z | z
      · rw [z]
        refine ⟨⟨by rw [Hr.1]; exact lvb.1.1, by rw [Hr.2.1]; exact lvb.1.2.1, fun w k hk => ?_⟩, by rw [Hr.1]; exact lvb.2⟩
        rw [Hr.1] at w ⊢
        rw [Hr.2.1] at hk
        rw [(Hr.2.2.1 k).1]
        have kid := KB.2 w k hk
        rw [lev0 _ (by omega) kid.2]
        exact lvb.1.2.2 w k hk
      · have S := H2 x (fun e => y4 (by rw [← e]; exact z))
        have KX' := hK.2.1 x hx z
        refine ⟨Nd_ext KX'.1.1 S.1 S.2.1 (fun k _ => (S.2.2.1 k).1) (fun w k hk => ?_), by rw [S.1]; exact KX'.1.2⟩
        have kid := KX'.2 w k hk
        exact lev0 _ (by omega) kid.2
    -- counts
    rcases w1 with w1 | ⟨w10, w1⟩
    · omega
    rcases w2 with w2 | ⟨w20, w21, M', w2⟩
    · have := w2.1; rw [m4] at this; omega
    have TSq := w1.2.2.2.2.2.2
    have TMo := w2.2.2.2.2.2.1.1
    have N2 : (∀ x, x < 48 → 0 ≤ gA q.2 54 x) ∧ ∀ x, x < 48 → 0 ≤ cM o.2 x := ⟨fun x hx => (TSq.1.2.1 x hx).1, fun x hx => (TMo.1.2.1 x hx).1⟩
    have PBq : PNM π1 σ1 (gI q.2 1060) := by
      rw [lI, F2.1 1060 (by decide)]; exact P1
    have oq : o.1.toNat = r := by rw [oo, hrr]
    have qc : q.1.toNat = c := by rw [qq, hcc]
    have rts : ∀ u, u < 8 → rtr π1 (gA q.2 60 u) (gA o.2 49 u) ∧ rtr π1 (gA q.2 61 u) (gA o.2 49 (8 + u)) := fun u hu => by
      rw [A54 60 (by decide) (by decide) (by decide) (by decide) (by decide), A54 61 (by decide) (by decide) (by decide) (by decide) (by decide)]
      rw [w2.2.2.2.2.1 u (by omega), w2.2.2.2.2.1 (8 + u) (by omega), ← TkE_u TK (show u < 17 by omega), ← TkE_u TK (show 8 + u < 17 by omega)]
      exact H1.1.2.2.2 u hu
    have CD : ∀ x, x < 48 → gA q.2 54 (π1 x) = cM o.2 x := by
      refine cnt_det (k1 := kN q.2) (k2 := kM o.2) (h1 := hN q.2) (h2 := hM o.2) (r1 := gA q.2 60) (r2 := rM o.2) (L := LV o1.2) (E1 := fun x => Z0 (π1 x) + (if π1 x = q.1.toNat then 1 else 0) - (if π1 x = p.toNat then 1 else 0)) (E2 := fun x => dq o.1.toNat x - dq p'.toNat x) PBq (by rw [lI, F2.1 1060 (by decide), F1.1 1060 (by decide), hb]; exact hN0) (fun x hx hl => ⟨BX1 x hx hl, NX x hx hl⟩) N2.1 N2.2 (fun x hx w => ?_) (fun x hx w => ?_) (fun x hx => TSq.2.1.1 (π1 x) (P1 x hx).1.1) (fun x hx => TMo.2.1.1 x hx) (fun x hx => ?_) (fun u hu => ?_)
      · refine Classical.byContradiction (fun nl => ?_)
        have cx := sim_c H1 hx
        have ub1 : gA q.2 54 (π1 x) ≤ gA s2 54 (π1 x) := by
          refine lc (π1 x) (fun k w1 hk e => nl ?_)
          rw [← hcc] at w1 hk e
          rw [l57, upZ_s] at hk
          have hk' : (k : Int) < (hM t).2.1 b := by omega
          rw [l59, cpa_at (by omega), F1.2.1 59 (by decide), show 6 * π b + Int.toNat 0 + k = 6 * π b + k by omega] at e
          have w3 : 0 < (hM t).1 b := by
            rw [F2.2.1 56 (by decide)] at w1
            rcases W1' with w4 | w4
            · omega
            · rw [w4.2.2.2.1, ← hcc, upZ_s] at w1; exact w1
          have B2 := (BB.2.2 k hk').2.1 w3
          have kid := KB.2 w3 k hk'
          have e2 : gA s 59 (6 * π b + k) = (π ((hM t).2.2 b k).toNat : Int) := B2
          rw [e2, ← y6 _ (by omega) kid.2] at e
          have e3 : ((hM t).2.2 b k).toNat = x := PB_i P1 (by omega) hx (by omega)
          have k2 := kid.2
          rw [e3] at k2
          unfold LV at k2 ⊢
          rw [c1c, c1v]
          by_cases z : x = r
          · exact absurd k2 (by rw [z]; exact y4)
          · rw [upZ_n z]; exact k2
        rw [F2.2.1 54 (by decide), cx.1] at ub1
        have : 0 < cM o1.2 x := by omega
        exact nl (Or.inl this)
      · refine Classical.byContradiction (fun nl => ?_)
        have ub1 := m5 x (fun k w1 hk e => nl ?_)
        · have : 0 < cM o1.2 x := by omega
          exact nl (Or.inl this)
        · have e1 : (hM o1.2).1 b = (hM t).1 b := t1 _ (by omega)
          have e2 : (hM o1.2).2.1 b = (hM t).2.1 b := t1 _ (by omega)
          rw [e1] at w1
          rw [e2] at hk
          have e3 : (hM o1.2).2.2 b k = (hM t).2.2 b k := by
            show (if k < 6 then gA o1.2 49 (27 + 16 * b + k) else 0) = if k < 6 then gA t 49 (27 + 16 * b + k) else 0
            by_cases z : k < 6
            · rw [if_pos z, if_pos z]; exact t1 _ (by omega)
            · rw [if_neg z, if_neg z]
          rw [e3] at e
          have kid := KB.2 w1 k hk
          have k2 := kid.2
          rw [e, Int.toNat_natCast] at k2
          unfold LV at k2 ⊢
          rw [c1c, c1v]
          by_cases z : x = r
          · exact absurd k2 (by rw [z]; exact y4)
          · rw [upZ_n z]; exact k2
      · show Z0 (π1 x) + (if π1 x = q.1.toNat then 1 else 0) - (if π1 x = p.toNat then 1 else 0) = dq o.1.toNat x - dq p'.toNat x
        have i1 : π1 x = q.1.toNat ↔ x = o.1.toNat := by
          rw [qc, oq, ← cr]
          exact ⟨fun e => PB_i P1 hx hr e, fun e => by rw [e]⟩
        have i2 : π1 x = p.toNat ↔ x = p'.toNat := by
          rw [pn, ← hbb, ← kb1]
          exact ⟨fun e => PB_i P1 hx hb48 e, fun e => by rw [e]⟩
        have zz : Z0 (π1 x) = 0 := rfl
        have d1 : dq o.1.toNat x = if x = o.1.toNat then 1 else 0 := rfl
        have d2 : dq p'.toNat x = if x = p'.toNat then 1 else 0 := rfl
        rw [zz, d1, d2]
        by_cases z1 : x = o.1.toNat
        · rw [if_pos (i1.2 z1), if_pos z1]
          by_cases z2 : x = p'.toNat
          · rw [if_pos (i2.2 z2), if_pos z2]; rfl
          · rw [if_neg (fun w => z2 (i2.1 w)), if_neg z2]; rfl
        · rw [if_neg (fun w => z1 (i1.1 w)), if_neg z1]
          by_cases z2 : x = p'.toNat
          · rw [if_pos (i2.2 z2), if_pos z2]; rfl
          · rw [if_neg (fun w => z2 (i2.1 w)), if_neg z2]; rfl
      · rw [rM_v hu]; exact (rts u hu).1
    -- all
    have vq : ∀ x, x < 48 → gA q.2 55 (π1 x) = vM o.2 x := fun x hx => by
      rw [A54 55 (by decide) (by decide) (by decide) (by decide) (by decide), (sim_c H1 hx).2, c1v]
      by_cases z : x = r
      · have nr : ¬ 0 < vM t r := fun w => y4 (Or.inr w)
        have := (hK.1 r hr).2
        rw [z, Hr.2.2.2]; omega
      · exact (H2 x z).2.2.2.symm
    have LB : ∀ x, x < 48 → LV o.2 x → LV o1.2 x := fun x hx hl => by
      refine Classical.byContradiction (fun nl => ?_)
      rcases hl with w | w
      · have ub1 := m5 x (fun k w1 hk e => nl ?_)
        · have : 0 < cM o1.2 x := by omega
          exact nl (Or.inl this)
        · have e1 : (hM o1.2).1 b = (hM t).1 b := t1 _ (by omega)
          have e2 : (hM o1.2).2.1 b = (hM t).2.1 b := t1 _ (by omega)
          rw [e1] at w1
          rw [e2] at hk
          have e3 : (hM o1.2).2.2 b k = (hM t).2.2 b k := by
            show (if k < 6 then gA o1.2 49 (27 + 16 * b + k) else 0) = if k < 6 then gA t 49 (27 + 16 * b + k) else 0
            by_cases z : k < 6
            · rw [if_pos z, if_pos z]; exact t1 _ (by omega)
            · rw [if_neg z, if_neg z]
          rw [e3] at e
          have kid := KB.2 w1 k hk
          have k2 := kid.2
          rw [e, Int.toNat_natCast] at k2
          unfold LV at k2 ⊢
          rw [c1c, c1v]
          by_cases z : x = r
          · exact absurd k2 (by rw [z]; exact y4)
          · rw [upZ_n z]; exact k2
      · rw [← vq x hx, A54 55 (by decide) (by decide) (by decide) (by decide) (by decide), (sim_c H1 hx).2] at w
        exact nl (Or.inr w)
    refine Or.inr ⟨by rw [m4]; exact y1, by omega, by omega, π1, σ1, ⟨⟨PBq, fun x hx => ⟨CD x hx, vq x hx⟩, fun x hx hl => BX1 x hx (LB x hx hl), rts⟩, ?_, fun x hx hl => ?_⟩, by rw [oq]; omega, y6, by
      rw [oq, ← hbb]
      exact ⟨⟨Hr.1, Hr.2.1, Hr.2.2.1⟩, fun x hx => ⟨(H2 x hx).1, (H2 x hx).2.1, (H2 x hx).2.2.1⟩, fun x hx hl => LO x hx (LB x hx hl), Or.inr y4⟩⟩
    · rw [lI, F2.1 1060 (by decide), m3 39 (by decide) (by decide)]; exact H1.2.1
    · have l1 := LB x hx (Or.inl hl)
      have e54 : gA o.2 54 = gA o1.2 54 := m3 54 (by decide) (by decide)
      rw [lL, F2.2.2.1 1062 (by decide), e54]
      rcases l1 with w | w
      · exact H1.2.2 x hx w
      · -- counted anew: it was named by the block copied
        have c2 : 0 < cM o1.2 x := Classical.byContradiction (fun nc => by
          have ub1 := m5 x (fun k w1 hk e => nc ?_)
          · omega
          · have e1 : (hM o1.2).1 b = (hM t).1 b := t1 _ (by omega)
            have e2 : (hM o1.2).2.1 b = (hM t).2.1 b := t1 _ (by omega)
            rw [e1] at w1
            rw [e2] at hk
            have e3 : (hM o1.2).2.2 b k = (hM t).2.2 b k := by
              show (if k < 6 then gA o1.2 49 (27 + 16 * b + k) else 0) = if k < 6 then gA t 49 (27 + 16 * b + k) else 0
              by_cases z : k < 6
              · rw [if_pos z, if_pos z]; exact t1 _ (by omega)
              · rw [if_neg z, if_neg z]
            rw [e3] at e
            have c' : 0 < cM t b := by rw [hbb]; exact hc
            have kd := (TG_kid T0 (fun x _ => Int.le_refl 0) hb48 c' w1 hk).2.2
            rw [e, Int.toNat_natCast] at kd
            rw [c1c]
            by_cases z : x = r
            · rw [z, upZ_s]; decide
            · rw [upZ_n z]; exact kd)
        exact H1.2.2 x hx c2
/-! ===== entries of one block change on both sides ===== -/
def LM (s o : MS) (c : Nat) : Prop := ∀ x, x < 48 → (bW (gL o 1062) x ↔ (x = c ∨ bW (gL s 1062) x))
def TT (t o : MS) (b : Nat) : Prop := gA o 54 b ≠ 0 ∧ ∀ x, x ≠ b → gA o 54 x = gA t 54 x
theorem TT_t {t o q : MS} {b : Nat} (h : TT t o b) (g : TT o q b) : TT t q b := ⟨g.1, fun x hx => (g.2 x hx).trans (h.2 x hx)⟩
theorem s_mark {p : Int} {s : MS} (hp : 0 ≤ p ∧ p < 48) : pc (m_x8_mark p s) (fun o => LM s o p.toNat) := by
  unfold m_x8_mark
  refine pc_stn (fun s1 e1 => pc_some (fun x hx => ?_))
  rw [(q_LL e1 : gL s1 1062 = _), show p = (p.toNat : Int) by omega, bW_or (by omega) hx]
  rw [show (((p.toNat : Nat) : Int)).toNat = p.toNat by omega]
theorem LM_e {s s' o : MS} {c : Nat} (h : LM s' o c) (e : gL s' 1062 = gL s 1062) : LM s o c := fun x hx => by rw [h x hx, e]
theorem s_insM {p0 p1 p2 p3 : Int} {s : MS} (hp : 0 ≤ p0 ∧ p0 < 48) (h1 : 0 ≤ p1 ∧ p1 ≤ gA s 57 p0.toNat ∧ gA s 57 p0.toNat ≤ 5) : pc (m_x8_insert p0 p1 p2 p3 s) (fun o => LM s o p0.toNat) := by
  have L : ∀ (n : Nat) (x1 x2 x3 x4 x5 : Int) (S : MS), x1 = p0 → gL S 1062 = gL s 1062 → pc (m_x8_insert_L47 n x1 x2 x3 x4 x5 S) (fun o => LM s o p0.toNat) := by
    refine fr_ind (fun _ _ _ _ _ _ _ _ => pc_none) (fun n ih x1 x2 x3 x4 x5 S e hL => ?_)
    show pc (m_x8_insert_b47 (m_x8_insert_L47 n) x1 x2 x3 x4 x5 S) _
    unfold m_x8_insert_b47
    refine pc_rg (pc_rg (pc_if (fun _ => pc_inb (pc_stn (fun s11 e11 => pc_inb (pc_stn (fun s13 e13 => pc_rdI (fun _ => pc_inb (pc_stn (fun s16 e16 => pc_bn (fun s18 e18 => pc_some ?_))))))))) (fun _ => pc_rdI (fun _ => pc_inb (pc_stn (fun s21 e21 => pc_rdI (fun _ => pc_inb (pc_stn (fun s24 e24 => ih _ _ _ _ _ s24 e ((q_Al e24).trans ((q_Al e21).trans hL)))))))))))
    rw [e] at e18
    exact LM_e (s_mark hp s18 e18) ((q_Al e16).trans ((q_Al e13).trans ((q_Al e11).trans hL)))
  unfold m_x8_insert m_x8_slot
  refine pc_rg (pc_if (fun c => absurd c (by omega)) (fun _ => pc_rdI (fun _ => pc_rg (pc_rg (pc_if (fun c => absurd c (by omega)) (fun _ => pc_rdI (fun _ => pc_rg (pc_if (fun _ => pc_bn (fun r36 _ => pc_rdI (fun _ => pc_bn (fun r39 _ => L FU _ _ _ _ _ s rfl rfl)))) (fun c => absurd (by omega) c)))))))))
theorem s_delM {p0 p1 : Int} {s : MS} (hp : 0 ≤ p0 ∧ p0 < 48) (h1 : 0 ≤ p1 ∧ p1 < gA s 57 p0.toNat) : pc (m_x8_delete p0 p1 s) (fun o => LM s o p0.toNat) := by
  have L : ∀ (n : Nat) (x1 x2 x3 : Int) (S : MS), x1 = p0 → gL S 1062 = gL s 1062 → pc (m_x8_delete_L45 n x1 x2 x3 S) (fun o => LM s o p0.toNat) := by
    refine fr_ind (fun _ _ _ _ _ _ => pc_none) (fun n ih x1 x2 x3 S e hL => ?_)
    show pc (m_x8_delete_b45 (m_x8_delete_L45 n) x1 x2 x3 S) _
    unfold m_x8_delete_b45
    refine pc_rg (pc_rg (pc_if (fun _ => pc_bn (fun s9 e9 => pc_some ?_)) (fun _ => pc_rdI (fun _ => pc_inb (pc_stn (fun s12 e12 => pc_rdI (fun _ => pc_inb (pc_stn (fun s15 e15 => ih _ _ _ s15 e ((q_Al e15).trans ((q_Al e12).trans hL)))))))))))
    rw [e] at e9
    exact LM_e (s_mark hp s9 e9) hL
  unfold m_x8_delete m_x8_slot
  exact pc_rg (pc_if (fun c => absurd c (by omega)) (fun _ => pc_rdI (fun _ => pc_rg (pc_rg (pc_if (fun _ => pc_rdI (fun _ => pc_inb (pc_stn (fun s25 e25 => pc_rdI (fun _ => pc_bn (fun r28 _ => pc_bn (fun r30 _ => L FU _ _ _ s25 rfl (q_Al e25)))))))) (fun c => absurd h1.2 c))))))
theorem s_setM {p0 p1 p2 : Int} {s : MS} (hp : 0 ≤ p0 ∧ p0 < 48) (h1 : 0 ≤ p1) : pc (m_x8_set p0 p1 p2 s) (fun o => (gA s 59 (6 * p0.toNat + p1.toNat) = p2 ∧ o = s) ∨ (gA s 59 (6 * p0.toNat + p1.toNat) ≠ p2 ∧ LM s o p0.toNat)) := by
  unfold m_x8_set m_x8_slot m_x8_set_J32
  refine pc_bn (fun r3 e3 => ?_)
  cases e3
  refine pc_rdI (fun _ => pc_rg (pc_rg (pc_if (fun c => pc_some (Or.inl ⟨?_, rfl⟩)) (fun c => pc_inb (pc_stn (fun s9 e9 => pc_bn (fun s11 e11 => pc_some (Or.inr ⟨?_, ?_⟩))))))))
  · rw [show 6 * p0.toNat + p1.toNat = (p0 * 6 + p1).toNat by omega]; exact c
  · rw [show 6 * p0.toNat + p1.toNat = (p0 * 6 + p1).toNat by omega]; exact c
  · exact LM_e (s_mark hp s11 e11) (q_Al e9)
/-! the reference -/
theorem m_setT {p0 p1 p2 p3 : Int} {t : MS} (hp : 0 ≤ p0) : pc (m_x12_setsEntry p0 p1 p2 p3 t) (fun o => TT t o p0.toNat) := by
  unfold m_x12_setsEntry
  refine pc_inb (pc_stn (fun s2 e2 => pc_inb (pc_stn (fun s4 e4 => pc_inb (pc_bo (pc_stn (fun s7 e7 => pc_some ⟨?_, fun x hx => ?_⟩)))))))
  · rw [(q_AA e7 : gA s7 54 = _), upZ_s]; decide
  · rw [(q_AA e7 : gA s7 54 = _), upZ_n hx, (q_Aa e4 (by decide) : gA s4 54 = gA s2 54), (q_Aa e2 (by decide) : gA s2 54 = gA t 54)]
theorem m_insT {p0 p1 p2 p3 : Int} {t : MS} (hp : 0 ≤ p0) : pc (m_x12_inserts p0 p1 p2 p3 t) (fun o => TT t o p0.toNat) := by
  have L : ∀ (n : Nat) (x1 x2 x3 x4 x5 : Int) (S : MS), x1 = p0 → (∀ x, x ≠ p0.toNat → gA S 54 x = gA t 54 x) → pc (m_x12_inserts_L7 n x1 x2 x3 x4 x5 S) (fun o => TT t o p0.toNat) := by
    refine fr_ind (fun _ _ _ _ _ _ _ _ => pc_none) (fun n ih x1 x2 x3 x4 x5 S e hS => ?_)
    show pc (m_x12_inserts_b7 (m_x12_inserts_L7 n) x1 x2 x3 x4 x5 S) _
    unfold m_x12_inserts_b7
    refine pc_rg (pc_rg (pc_if (fun _ => pc_bn (fun s11 e11 => pc_rdI (fun _ => pc_inb (pc_stn (fun s14 e14 => pc_some ?_))))) (fun _ => pc_bn (fun r16 _ => pc_bn (fun r18 _ => pc_bn (fun s20 e20 => ih _ _ _ _ _ s20 e (fun x hx => ?_)))))))
    · rw [e] at e11
      have k := m_setT hp s11 e11
      exact ⟨by rw [(q_Aa e14 (by decide) : gA s14 54 = gA s11 54)]; exact k.1, fun x hx => by rw [(q_Aa e14 (by decide) : gA s14 54 = gA s11 54), k.2 x hx, hS x hx]⟩
    · rw [e] at e20
      have k := m_setT hp s20 e20
      rw [k.2 x hx, hS x hx]
  unfold m_x12_inserts
  exact pc_bn (fun r22 _ => L FU _ _ _ _ _ t rfl (fun _ _ => rfl))
theorem m_cutT {p0 p1 : Int} {t : MS} (hp : 0 ≤ p0) : pc (m_x12_cutsEntry p0 p1 t) (fun o => TT t o p0.toNat) := by
  have L : ∀ (n : Nat) (x1 x2 : Int) (S : MS), x1 = p0 → (∀ x, x ≠ p0.toNat → gA S 54 x = gA t 54 x) → pc (m_x12_cutsEntry_L2 n x1 x2 S) (fun o => TT t o p0.toNat) := by
    refine fr_ind (fun _ _ _ _ _ => pc_none) (fun n ih x1 x2 S e hS => ?_)
    show pc (m_x12_cutsEntry_b2 (m_x12_cutsEntry_L2 n) x1 x2 S) _
    unfold m_x12_cutsEntry_b2
    refine pc_bn (fun r5 _ => pc_rg (pc_rg (pc_if (fun _ => pc_rdI (fun _ => pc_inb (pc_stn (fun s11 e11 => pc_inb (pc_bo (pc_stn (fun s14 e14 => pc_some ?_))))))) (fun _ => pc_bn (fun r16 _ => pc_bn (fun r18 _ => pc_bn (fun s20 e20 => ih _ _ s20 e (fun x hx => ?_))))))))
    · rw [e] at e14
      refine ⟨by rw [(q_AA e14 : gA s14 54 = _), upZ_s]; decide, fun x hx => ?_⟩
      rw [(q_AA e14 : gA s14 54 = _), upZ_n hx, (q_Aa e11 (by decide) : gA s11 54 = gA S 54), hS x hx]
    · rw [e] at e20
      have k := m_setT hp s20 e20
      rw [k.2 x hx, hS x hx]
  unfold m_x12_cutsEntry
  exact L FU _ _ t rfl (fun _ _ => rfl)
/-- one block changes, the marks with it -/
theorem sim_blk {π σ : Nat → Nat} {s s' t t' : MS} {b : Nat} (h : SIM π σ s t) (hK : ∀ x, x < 48 → LV t x → 0 ≤ (hM t).2.1 x ∧ (hM t).2.1 x ≤ 6) (hb : b < 48)
    (c54 : gA s' 54 = gA s 54) (c55 : gA s' 55 = gA s 55) (c56 : gA s' 56 = gA s 56) (c60 : gA s' 60 = gA s 60) (c61 : gA s' 61 = gA s 61) (i60 : gI s' 1060 = gI s 1060)
    (z57 : ∀ x, x < 48 → x ≠ π b → gA s' 57 x = gA s 57 x) (z58 : ∀ x, x < 48 → x ≠ π b → ∀ k, k < 6 → gA s' 58 (6 * x + k) = gA s 58 (6 * x + k) ∧ gA s' 59 (6 * x + k) = gA s 59 (6 * x + k))
    (hX : BX t t' b) (t39 : gA t' 39 = gA t 39)
    (nz : gA s' 57 (π b) = (hM t').2.1 b) (ne : ∀ k : Nat, (k : Int) < (hM t').2.1 b → gA s' 58 (6 * π b + k) = kM t' b k ∧ (0 < (hM t).1 b → gA s' 59 (6 * π b + k) = (π ((hM t').2.2 b k).toNat : Int)) ∧ ((hM t).1 b ≤ 0 → gA s' 59 (6 * π b + k) = (hM t').2.2 b k))
    (hl : LV t b) (hW : (LM s s' (π b) ∧ TT t t' b) ∨ (gL s' 1062 = gL s 1062 ∧ gA t' 54 = gA t 54)) : SIM π σ s' t' := by
  have hP := h.1.1
  have cE : cM t' = cM t := BX_c hX
  have vE : vM t' = vM t := BX_v hX
  have lE : (hM t').1 = (hM t).1 := BX_l hX
  refine ⟨⟨by rw [i60]; exact hP, fun x hx => ?_, fun x hx hl' => ?_, fun v hv => ?_⟩, by rw [i60, t39]; exact h.2.1, fun x hx hc => ?_⟩
  · rw [c54, c55]
    show gA s 54 (π x) = cM t' x ∧ gA s 55 (π x) = vM t' x
    rw [cE, vE]; exact sim_c h hx
  · have hl2 : LV t x := by
      unfold LV
      rw [← cE, ← vE]; exact hl'
    have B := sim_b h hx hl2
    show BR1 π (hN s') (hM t') (kN s') (kM t') x
    by_cases z : x = b
    · rw [z]
      rw [z] at B
      refine ⟨?_, nz, fun k hk => ?_⟩
      · show gA s' 56 (π b) = (hM t').1 b
        rw [c56, lE]; exact B.1
      · show gA s' 58 (6 * π b + k) = _ ∧ (_ → gA s' 59 (6 * π b + k) = _) ∧ (_ → gA s' 59 (6 * π b + k) = _)
        rw [lE]; exact ne k hk
    · have px := (hP x hx).1.1
      have pz : π x ≠ π b := fun e => z (PB_i hP hx hb e)
      have sz := hK x hx hl2
      have eZ : (hM t').2.1 x = (hM t).2.1 x := BX_z hX z
      refine ⟨?_, ?_, fun k hk => ?_⟩
      · show gA s' 56 (π x) = (hM t').1 x
        rw [c56, lE]; exact B.1
      · show gA s' 57 (π x) = (hM t').2.1 x
        rw [z57 _ px pz, eZ]; exact B.2.1
      · rw [eZ] at hk
        have zz := z58 _ px pz k (by omega)
        have ee := BX_e (j := k) hX z
        show gA s' 58 (6 * π x + k) = _ ∧ (_ → gA s' 59 (6 * π x + k) = _) ∧ (_ → gA s' 59 (6 * π x + k) = _)
        rw [zz.1, zz.2, ee.1, ee.2, lE]
        exact B.2.2 k hk
  · show rtr π (gA s' 60 v) (gA t' 49 v) ∧ rtr π (gA s' 61 v) (gA t' 49 (8 + v))
    rw [c60, c61, BX_u hX (show v < 17 by omega), BX_u hX (show 8 + v < 17 by omega)]
    exact h.1.2.2.2 v hv
  · have hc' : 0 < cM t x := by rw [← cE]; exact hc
    have W := h.2.2 x hx hc'
    have px := (hP x hx).1.1
    rcases hW with ⟨a1, a2⟩ | ⟨a1, a2⟩
    · rw [a1 _ px]
      by_cases z : x = b
      · rw [z]
        exact ⟨fun _ => a2.1, fun _ => Or.inl rfl⟩
      · rw [a2.2 x z]
        exact ⟨fun w => W.1 (w.resolve_left (fun e => z (PB_i hP hx hb e))), fun w => Or.inr (W.2 w)⟩
    · rw [a1, a2]; exact W
/-! ===== an entry comes, goes, changes: on both sides ===== -/
theorem y_ins {π σ : Nat → Nat} {s s' t t' : MS} {b : Nat} {p1 key v1 v2 : Int} (h : SIM π σ s t) (hK : ∀ x, x < 48 → LV t x → 0 ≤ (hM t).2.1 x ∧ (hM t).2.1 x ≤ 6) (hR : Rg s) (hRt : Rr t) (hb : b < 48) (hl : LV t b)
    (hk : 0 ≤ p1 ∧ p1 ≤ (hM t).2.1 b) (hz : (hM t).2.1 b ≤ 5) (hkey : (-257) ≤ key ∧ key ≤ 65535) (hv1 : (-257) ≤ v1 ∧ v1 ≤ 65535) (hv2 : R2 v2) (hv : (0 < (hM t).1 b → v1 = (π v2.toNat : Int)) ∧ ((hM t).1 b ≤ 0 → v1 = v2))
    (e1 : m_x8_insert (π b : Int) p1 key v1 s = some s') (e2 : m_x12_inserts (b : Int) p1 key v2 t = some t') : SIM π σ s' t' ∧ BX t t' b ∧ (hM t').2.1 b = (hM t).2.1 b + 1 := by
  have hP := h.1.1
  have B := sim_b h hb hl
  have z1 : gA s 57 (π b) = (hM t).2.1 b := B.2.1
  have px := (hP b hb).1.1
  have tp : ((π b : Nat) : Int).toNat = π b := Int.toNat_natCast _
  have tb : ((b : Nat) : Int).toNat = b := Int.toNat_natCast _
  have W1 := wp_det (w_x8_insert hR (p0 := (π b : Int)) ⟨by omega, by omega⟩ ⟨hk.1, by rw [tp, z1]; exact hk.2, by rw [tp, z1]; exact hz⟩ ⟨by omega, by omega⟩ hv1) e1
  have W2 := wp_det (w_x12_inserts hRt (p0 := (b : Int)) ⟨by omega, by omega⟩ ⟨hk.1, by rw [tb]; exact hk.2⟩ (by rw [tb]; exact hz) ⟨by omega, by omega⟩ hv2) e2
  rw [tp, z1] at W1
  rw [tb] at W2
  obtain ⟨_, u57, ⟨a1, a2, a3⟩, ⟨d1, d2, d3⟩⟩ := W1
  obtain ⟨_, F2, hX, zz, g1, g2, g3⟩ := W2
  have F1 : F_x8_insert s s' := fr_x8_insert e1
  refine ⟨sim_blk h hK hb (F1.2.1 54 (by decide)) (F1.2.1 55 (by decide)) (F1.2.1 56 (by decide)) (F1.2.1 60 (by decide)) (F1.2.1 61 (by decide)) (F1.1 1060 (by decide)) (fun x hx hn => by rw [u57, upZ_n hn]) (fun x hx hn k h6 => ⟨a1 _ (by omega), d1 _ (by omega)⟩) hX (F2.2.1 39 (by decide)) (by rw [u57, upZ_s, zz]) (fun j hj => ?_) hl (Or.inl ⟨?_, ?_⟩), hX, zz⟩
  · have B2 := B.2.2
    rcases Nat.lt_trichotomy j p1.toNat with q | q | q
    · have c := B2 j (by omega)
      rw [a1 _ (by omega), d1 _ (by omega), (g1 j q).1, (g1 j q).2]
      exact c
    · rw [q, a2, d2, g2.1, g2.2]
      exact ⟨rfl, hv⟩
    · obtain ⟨i, hi⟩ : ∃ i, j = i + 1 := ⟨j - 1, by omega⟩
      rw [hi]
      have c := B2 i (by omega)
      have f1 := a3 i (by omega) (by omega)
      have f2 := d3 i (by omega) (by omega)
      have f3 := g3 i (by omega) (by omega)
      rw [f1, f2, f3.1, f3.2]
      exact c
  · have m := s_insM (p1 := p1) (p2 := key) (p3 := v1) (s := s) (p0 := (π b : Int)) ⟨by omega, by omega⟩ ⟨hk.1, by rw [tp, z1]; exact hk.2, by rw [tp, z1]; exact hz⟩ s' e1
    rw [tp] at m; exact m
  · have m := m_insT (p0 := (b : Int)) (by omega) t' e2
    rw [tb] at m; exact m
theorem y_set {π σ : Nat → Nat} {s s' t t' : MS} {b : Nat} {p1 v1 v2 : Int} (h : SIM π σ s t) (hK : ∀ x, x < 48 → LV t x → 0 ≤ (hM t).2.1 x ∧ (hM t).2.1 x ≤ 6) (hR : Rg s) (hRt : Rr t) (hb : b < 48) (hl : LV t b)
    (hk : 0 ≤ p1 ∧ p1 < (hM t).2.1 b) (hv1 : (-257) ≤ v1 ∧ v1 ≤ 65535) (hv2 : R2 v2) (hv : (0 < (hM t).1 b → v1 = (π v2.toNat : Int)) ∧ ((hM t).1 b ≤ 0 → v1 = v2)) (hd : (hM t).2.2 b p1.toNat = v2 ↔ gA s 59 (6 * π b + p1.toNat) = v1)
    (e1 : m_x8_set (π b : Int) p1 v1 s = some s') (e2 : ((hM t).2.2 b p1.toNat = v2 ∧ t' = t) ∨ ((hM t).2.2 b p1.toNat ≠ v2 ∧ m_x12_setsEntry (b : Int) p1 (kM t b p1.toNat) v2 t = some t')) : SIM π σ s' t' ∧ BX t t' b ∧ (hM t').2.1 b = (hM t).2.1 b := by
  have hP := h.1.1
  have B := sim_b h hb hl
  have px := (hP b hb).1.1
  have tp : ((π b : Nat) : Int).toNat = π b := Int.toNat_natCast _
  have tb : ((b : Nat) : Int).toNat = b := Int.toNat_natCast _
  have sz := hK b hb hl
  have m := s_setM (p0 := (π b : Int)) ⟨by omega, by omega⟩ hk.1 s' e1
  rw [tp] at m
  rcases e2 with ⟨q1, rfl⟩ | ⟨q1, e2⟩
  · rcases m with ⟨_, rfl⟩ | ⟨n, _⟩
    · exact ⟨h, BX_0 _ _, rfl⟩
    · exact absurd (hd.1 q1) n
  · rcases m with ⟨n, _⟩ | ⟨_, lm⟩
    · exact absurd (hd.2 n) q1
    have W1 := (wp_det (w_x8_set hR (p0 := (π b : Int)) ⟨by omega, by omega⟩ ⟨hk.1, by omega⟩ hv1) e1).2
    have W2 := (wp_det (w_x12_setsEntry hRt (p0 := (b : Int)) ⟨by omega, by omega⟩ ⟨hk.1, by omega⟩ (by
      have : R2 (gA t 49 (21 + 16 * b + p1.toNat)) := R49 hRt (by omega)
      show R2 (if p1.toNat < 6 then gA t 49 (21 + 16 * b + p1.toNat) else 0)
      rw [if_pos (by omega)]; exact this) hv2) e2).2
    rw [tp] at W1
    rw [tb] at W2
    obtain ⟨hX, zz, g2, g1⟩ := M_set (k := p1.toNat) (by omega) W2
    have F1 : F_x8_set s s' := fr_x8_set e1
    have F2 : F_x12_setsEntry t t' := fr_x12_setsEntry e2
    refine ⟨sim_blk h hK hb (F1.2.1 54 (by decide)) (F1.2.1 55 (by decide)) (F1.2.1 56 (by decide)) (F1.2.1 60 (by decide)) (F1.2.1 61 (by decide)) (F1.1 1060 (by decide)) (fun x hx hn => by rw [F1.2.1 57 (by decide)]) (fun x hx hn k h6 => ⟨by rw [F1.2.1 58 (by decide)], by rw [W1, upZ_n (by omega)]⟩) hX (F2.2.1 39 (by decide)) (by rw [F1.2.1 57 (by decide), zz]; exact B.2.1) (fun j hj => ?_) hl (Or.inl ⟨lm, ?_⟩), hX, zz⟩
    · rw [zz] at hj
      have c := B.2.2 j hj
      rw [F1.2.1 58 (by decide), W1]
      by_cases q : j = p1.toNat
      · rw [q, upZ_s, g2.1, g2.2]
        rw [q] at c
        exact ⟨c.1, hv⟩
      · rw [upZ_n (by omega), (g1 j q).1, (g1 j q).2]
        exact c
    · have m := m_setT (p0 := (b : Int)) (by omega) t' e2
      rw [tb] at m; exact m
theorem y_del {π σ : Nat → Nat} {s s' t t' : MS} {b : Nat} {p1 : Int} (h : SIM π σ s t) (hK : ∀ x, x < 48 → LV t x → 0 ≤ (hM t).2.1 x ∧ (hM t).2.1 x ≤ 6) (hR : Rg s) (hRt : Rr t) (hb : b < 48) (hl : LV t b)
    (hk : 0 ≤ p1 ∧ p1 < (hM t).2.1 b) (e1 : m_x8_delete (π b : Int) p1 s = some s') (e2 : m_x12_cutsEntry (b : Int) p1 t = some t') : SIM π σ s' t' ∧ BX t t' b ∧ (hM t').2.1 b = (hM t).2.1 b - 1 := by
  have hP := h.1.1
  have B := sim_b h hb hl
  have z1 : gA s 57 (π b) = (hM t).2.1 b := B.2.1
  have px := (hP b hb).1.1
  have tp : ((π b : Nat) : Int).toNat = π b := Int.toNat_natCast _
  have tb : ((b : Nat) : Int).toNat = b := Int.toNat_natCast _
  have sz := hK b hb hl
  have W1 := wp_det (w_x8_delete hR (p0 := (π b : Int)) ⟨by omega, by omega⟩ ⟨hk.1, by rw [tp, z1]; exact hk.2, by rw [tp, z1]; exact sz.2⟩) e1
  have W2 := wp_det (w_x12_cutsEntry hRt (p0 := (b : Int)) ⟨by omega, by omega⟩ ⟨hk.1, by rw [tb]; omega⟩ (by rw [tb]; omega)) e2
  rw [tp, z1] at W1
  rw [tb] at W2
  obtain ⟨_, u57, ⟨a1, a3⟩, ⟨d1, d3⟩⟩ := W1
  obtain ⟨_, F2, k, k1, k2, hX, zz, g1, g3⟩ := W2
  have kk := k2 hk.2
  have F1 : F_x8_delete s s' := fr_x8_delete e1
  refine ⟨sim_blk h hK hb (F1.2.1 54 (by decide)) (F1.2.1 55 (by decide)) (F1.2.1 56 (by decide)) (F1.2.1 60 (by decide)) (F1.2.1 61 (by decide)) (F1.1 1060 (by decide)) (fun x hx hn => by rw [u57, upZ_n hn]) (fun x hx hn k h6 => ⟨a1 _ (by omega), d1 _ (by omega)⟩) hX (F2.2.1 39 (by decide)) (by rw [u57, upZ_s, zz]) (fun j hj => ?_) hl (Or.inl ⟨?_, ?_⟩), hX, zz⟩
  · have B2 := B.2.2
    by_cases q : j < p1.toNat
    · have c := B2 j (by omega)
      rw [a1 _ (by omega), d1 _ (by omega), (g1 j (by omega)).1, (g1 j (by omega)).2]
      exact c
    · have c := B2 (j + 1) (by omega)
      have f1 := a3 j (by omega) (by omega)
      have f2 := d3 j (by omega) (by omega)
      have f3 := g3 j (by omega) (by omega)
      rw [f1, f2, f3.1, f3.2]
      exact c
  · have m := s_delM (p1 := p1) (s := s) (p0 := (π b : Int)) ⟨by omega, by omega⟩ ⟨hk.1, by rw [tp, z1]; exact hk.2⟩ s' e1
    rw [tp] at m; exact m
  · have m := m_cutT (p0 := (b : Int)) (by omega) t' e2
    rw [tb] at m; exact m
