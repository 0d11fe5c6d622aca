/-! ===== a formula of a STORE, whole ===== -/
theorem y_formula {p : Int} {s s8 s' s41 t : MS} (hp : 0 ≤ p ∧ p ≤ 2) (h107 : gI s 107 ≠ 0) (h : NX s t) (hP : PLJ s t) (hb : gI s 941 ≤ gI s 108) (e1 : m_x6_beginFormula p s = some s8) (e2 : (p = 1 ∧ m_x6_readTestC s8 = some s') ∨ (p ≠ 1 ∧ m_x6_readSumC s8 = some s')) (hop : gI s' 106 = gI s8 106) (e41 : sA s' 46 (upZ (gA s' 46) p.toNat (gI s' 941)) = s41) : pc (m_x12_codesTold p (gI s 108) t) (fun o => DONF s41 o) := by
  have F : F_rg s8 s' := by
    rcases e2 with q | q
    · exact (frg2 8).2 s8 s' q.2
    · exact (frg1 8).1 s8 s' q.2
  have ap : AP s8 s' := by
    rcases e2 with q | q
    · exact (ap_RG2 8).2 s8 s' q.2
    · exact (ap_RG1 8).1 s8 s' q.2
  have kf : FKp 100 101 s8 s' := by
    rcases e2 with q | q
    · exact (fk_RG2 8).2 s8 s' q.2
    · exact (fk_RG1 8).1 s8 s' q.2
  have k41 : FKp 100 101 s' s41 := FKp.a e41
  have ew : gA t 42 p.toNat = gA s 45 p.toNat := (hP.2.2.2.1.2.2.1 p.toNat (by omega)).1
  unfold m_x12_codesTold
  refine pc_rg (pc_if (fun _ => pc_rdI (fun _ => pc_rg (pc_if (fun c => ?_) (fun c => pc_bq (m_fail h.2.1.2) (fun t40 h40 => ?_))))) (fun c => absurd h.2.1.2 c))
  · rcases s_bf h.2.1.1 s8 e1 with ⟨_, s4, e4, a1, a2, a3, a4⟩ | ⟨q, _⟩
    · have h4 := y_adv h s4 e4
      have b4 := TK_le h.2.2.1.1
      have f4 : FC s s4 := Fr_w (fr_x6_advance e4) (by decide)
      have S8 : SY s8 t := SY_c h4.1 (fun i hi => a1 i (by omega)) (a3 4 (by decide)) (a3 6 (by decide))
      have x941 : gI s8 941 = gI s 941 := (a1 941 (by decide)).trans (f4.1 941 (by decide))
      have x106 : gI s8 106 = 0 := (a1 106 (by decide)).trans ((f4.1 106 (by decide)).trans hP.2.2.2.2)
      have x108 : gI s8 108 = gI s4 108 := a1 108 (by decide)
      have n9 := hP.2.2.2.1.1
      unfold m_x12_codesTold_J23
      refine pc_rg (pc_if (fun _ => pc_stn (fun s23 e23 => pc_stn (fun s24 e24 => pc_stn (fun s25 e25 => pc_stn (fun s26 e26 => pc_stn (fun s27 e27 => ?_)))))) (fun c => absurd h.2.1.2 c))
      have i27 : ∀ i, i ≠ 48 → i ≠ 102 → i ≠ 104 → i ≠ 105 → i ≠ 106 → gI s27 i = gI t i := fun i b1 b2 b3 b4 b5 => (q_Ii e27 b5).trans ((q_Ii e26 b4).trans ((q_Ii e25 b3).trans ((q_Ii e24 b2).trans (q_Ii e23 b1))))
      have A27 : ∀ k, gA s27 k = gA t k := fun k => (q_Ia e27).trans ((q_Ia e26).trans ((q_Ia e25).trans ((q_Ia e24).trans (q_Ia e23))))
      have B27 : ∀ k, gB s27 k = gB t k := fun k => (q_Ib e27).trans ((q_Ib e26).trans ((q_Ib e25).trans ((q_Ib e24).trans (q_Ib e23))))
      have v48 : gI s27 48 = p := (q_Ii e27 (by decide)).trans ((q_Ii e26 (by decide)).trans ((q_Ii e25 (by decide)).trans ((q_Ii e24 (by decide)).trans (q_II e23))))
      have v102 : gI s27 102 = 0 := (q_Ii e27 (by decide)).trans ((q_Ii e26 (by decide)).trans ((q_Ii e25 (by decide)).trans (q_II e24)))
      have v104 : gI s27 104 = 0 := (q_Ii e27 (by decide)).trans ((q_Ii e26 (by decide)).trans (q_II e25))
      have v105 : gI s27 105 = 0 := (q_Ii e27 (by decide)).trans (q_II e26)
      have v106 : gI s27 106 = 0 := q_II e27
      have S27 : SY s8 s27 := SY_f S8 (i27 2 (by decide) (by decide) (by decide) (by decide) (by decide)) (i27 3 (by decide) (by decide) (by decide) (by decide) (by decide)) (i27 4 (by decide) (by decide) (by decide) (by decide) (by decide)) (i27 5 (by decide) (by decide) (by decide) (by decide) (by decide)) (fun k _ => A27 k)
      have O27 : OPN s8 s27 := ⟨⟨by rw [v105, x106], by omega⟩, by rw [v48, a2], by omega⟩
      have C27 : CO (gI s 941) s8 s27 [] := ⟨⟨by rw [x941, v102]; show gI s 941 = gI s 941 + 0 + (0 : Int); omega, by omega, by omega⟩, fun j hj => by exfalso; omega, trivial⟩
      have n109 : gI s 108 < gI s 109 := by
        rcases h.2.2.1.1.2.2 with q | q
        · exact absurd q.2.1 h107
        · exact q.2.2.1
      have l4 := h4.2
      have n0 := hP.2.2.2.1
      have c941 : gI s41 941 = gI s' 941 := q_Ai e41
      have a48 : gA s41 48 = gA s' 48 := q_Aa e41 (by decide)
      have FK : gI s' 100 = 0 → gI s' 941 < 1600 → FSr (gA s41 45) (gA s41 46) (gA s41 48) (gI s41 941) := fun z0 z1 => by
        have ap1 := ap.1
        have k45 : gA s41 45 = upZ (gA s 45) p.toNat (gI s 941) := by
          rw [(q_Aa e41 (by decide) : gA s41 45 = gA s' 45), F.2.1 45 (by decide), a4, f4.2.1 45 (by simp), f4.1 941 (by decide)]
        have k46 : gA s41 46 = upZ (gA s 46) p.toNat (gI s' 941) := by
          rw [(q_AA e41 : gA s41 46 = _), F.2.1 46 (by decide), a3 46 (by decide), f4.2.1 46 (by simp)]
        intro nz
        by_cases p1 : p = 1
        · have i1 : p.toNat = 1 := by omega
          rw [k45, k46, i1, upZ_s, upZ_s, c941, a48]
          rcases e2 with q | q
          · have G := sg_testC (s := s8) s' q.2
            obtain ⟨g1, g2⟩ := G.2.2.2 (by omega) z1 z0
            rw [x941] at g1 g2 ap1
            obtain ⟨⟨Q, q1, q2⟩, q3⟩ := g2 []
            obtain ⟨x, R, rfl, hx, hR⟩ := q1
            have hR' : R = [] := hR
            rw [hR', hx rfl] at q2
            refine ⟨⟨by omega, by omega, Int.le_refl _⟩, fun j j1 j2 => ?_, q2, fun n hn => ?_⟩
            · have o := g1 j j1 j2
              rw [a2, p1] at o
              exact o rfl
            · obtain ⟨R2, r1, r2⟩ := q3 n hn
              exact ⟨R2, r1, by have : ((([] : List Bool).length : Nat) : Int) = 0 := rfl; omega⟩
          · exact absurd p1 q.1
        · have i1 : 1 ≠ p.toNat := by omega
          rw [k45, k46, upZ_n i1, upZ_n i1, c941, a48]
          rw [k45, upZ_n i1] at nz
          obtain ⟨⟨o1, o2, o3⟩, o4⟩ := n0.2.2.2 nz
          refine ⟨⟨o1, o2, by omega⟩, FOK_c o1 o4 (fun j hj => ?_)⟩
          rw [ap.2 j (by omega), a3 48 (by decide), f4.2.1 48 (by simp)]
      have fin : ∀ T : MS, (gI s' 100 = 0 ∧ gI s' 941 < 1600) → SY s' T → CO (gI s 941) s' T [] → gI s' 941 ≤ gI s' 108 → Fr [2, 4, 5, 6, 10, 102, 104, 105, 106] [101, 103] [] [] s27 T → pc (m_x12_codesTold_J72 p T) (fun o => DONF s41 o) := fun T hZ hS hC hb' G =>
        y_J72 hp hP hS hC hb' rfl (fun i b1 b2 => (a1 i b1).trans (f4.1 i b2)) (fun k hk => (a3 k hk).trans (f4.2.1 k (by simp))) (by rw [a4, f4.2.1 45 (by simp), f4.1 941 (by decide)]) hop ap F ((G.1 45 (by decide)).trans (i27 45 (by decide) (by decide) (by decide) (by decide) (by decide))) (fun k b1 b2 => (G.2.1 k (by simp; omega)).trans (A27 k)) (fun k => (G.2.2.2 k (by simp)).trans (B27 k)) e41 (FK hZ.1 hZ.2)
      have bad : ∀ T : MS, BR s' T → pc (m_x12_codesTold_J72 p T) (fun o => DONF s41 o) := fun T hB => by
        unfold m_x12_codesTold_J72
        exact pc_rg (pc_if (fun c => absurd c (by rw [hB.2.1]; exact hB.1)) (fun _ => pc_some (Or.inr (BR_go hB k41 (FKp.rf T)))))
      refine pc_rg (pc_if (fun c1 => pc_bn (fun T eT => ?_)) (fun c1 => pc_bn (fun T eT => ?_)))
      · rcases e2 with q | q
        · rcases y_test (k0 := gI s 941) S27 O27 v104 v106 C27 (by omega) q.2 T eT with ⟨w, r⟩ | r
          · exact fin T (by have tk := r.1.2.2.1.1.1; have w3 := w.2.2; exact ⟨w.1, by omega⟩) r.1 r.2.2.2.1 r.2.2.2.2.1 (fr_x12_qTest eT)
          · exact bad T r
        · exact absurd c1 q.1
      · rcases e2 with q | q
        · exact absurd q.1 c1
        · rcases y_sum (k0 := gI s 941) S27 O27 (by omega) (fun z => by exfalso; omega) C27 (by omega) q.2 T eT with ⟨w, r⟩ | r
          · exact fin T (by have tk := r.1.2.2.1.1.1; have w3 := w.2.2.2; exact ⟨w.1, by omega⟩) r.1 r.2.2.2.1 r.2.2.2.2 (fr_x12_qSums eT)
          · exact bad T r
    · exact absurd (ew.symm.trans c) q
  · rcases s_bf h.2.1.1 s8 e1 with ⟨q, _⟩ | ⟨_, q⟩
    · exact absurd (ew.trans q) c
    · unfold m_x12_codesTold_J23
      have hB : BR s8 t40 := BR_mk (by decide) q h40
      exact pc_rg (pc_if (fun c2 => absurd c2 (by rw [h40.1]; decide)) (fun _ => pc_some (Or.inr (BR_go hB (kf.tr k41) (FKp.rf t40)))))
