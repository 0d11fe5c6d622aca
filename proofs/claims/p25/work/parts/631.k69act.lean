/-! ===== an act by the seed, on both sides ===== -/
theorem J2_k {s s' t t' : MS} (h : J2 s t) (a : ∀ k, (54 ≤ k ∧ k ≤ 61) ∨ (35 ≤ k ∧ k ≤ 38) → gA s' k = gA s k) (a2 : gI s' 1060 = gI s 1060) (a3 : gL s' 1062 = gL s 1062) (a4 : gI s' 581 = gI s 581) (a5 : gI s' 741 = gI s 741) (b : ∀ k, k = 49 ∨ k = 54 ∨ k = 39 ∨ (42 ≤ k ∧ k ≤ 44) → gA t' k = gA t k) : J2 s' t' := by
  obtain ⟨⟨π, σ, lo, hi, H, O⟩, Z⟩ := h
  exact ⟨⟨π, σ, lo, hi, SIM_k H (fun k k1 k2 => a k (Or.inl ⟨k1, k2⟩)) a2 a3 (b 49 (Or.inl rfl)) (by rw [b 39 (by omega)]) (b 54 (by omega)), OI_49 O (b 49 (Or.inl rfl))⟩, ZP_k Z a4 a5 (fun k k1 k2 => a k (Or.inr ⟨k1, k2⟩)) (fun k hk => b k (by omega))⟩
def AJ (s t : MS) : Prop := J2 s t ∧ TE s ∧ Rr t ∧ GA t ∧ gI t 47 ≠ 0 ∧ gI s 983 = gL t 78 ∧ (0 ≤ gL t 78 ∧ gL t 78 ≤ 2147483647) ∧ gA t 39 9 = gI s 582
theorem AJ_V {s t : MS} (h : AJ s t) : VJ s t := by
  obtain ⟨⟨⟨π, σ, lo, hi, H, O⟩, Z⟩, _, _, _, h47, _⟩ := h
  exact VJ_of H h47
theorem AJ_draw {s t : MS} (h : AJ s t) {p : Int} (hp : 1 ≤ p ∧ p ≤ 100) {q o : Int × MS} (e1 : m_x1_draw p s = some q) (e2 : m_x12_drawOf p t = some o) : (AJ q.2 o.2 ∧ F_x1_draw s q.2 ∧ F_x12_drawOf t o.2) ∧ q.1 = o.1 ∧ 0 ≤ o.1 ∧ o.1 < p := by
  obtain ⟨hJ, hT, hRt, hG, h47, hd, hb, h9⟩ := h
  obtain ⟨d1, d2⟩ := y_draw (by omega) hd hb e1 e2
  obtain ⟨hR1, F1, _⟩ := wp_det (w_draw hT.1 (p0 := p) (by omega)) e1
  obtain ⟨hR2, w1, w2⟩ := wp_det (w_x12_drawOf hRt hb (p0 := p) hp) e2
  have F2 : F_x12_drawOf t o.2 := fr_x12_drawOf e2
  refine ⟨⟨⟨J2_k hJ (fun k _ => F1.2.1 k (by simp)) (F1.1 1060 (by decide)) (F1.2.2.1 1062 (by simp)) (F1.1 581 (by decide)) (F1.1 741 (by decide)) (fun k _ => F2.2.1 k (by simp)), TE_fr hT hR1 (fun k _ _ => F1.2.1 k (by simp)) ⟨F1.1 1060 (by decide), F1.1 581 (by decide)⟩, hR2, GA_eq hG ⟨F2.2.1 39 (by simp), F2.2.1 42 (by simp), F2.2.1 43 (by simp), F2.2.1 44 (by simp)⟩ (F2.2.1 49 (by simp)) (F2.2.1 75 (by simp)) (F2.1 76 (by simp)) (F2.1 77 (by simp)), by rw [F2.1 47 (by simp)]; exact h47, d2, w2, by rw [F2.2.1 39 (by simp), F1.1 582 (by decide)]; exact h9⟩, F1, F2⟩, d1, w1⟩
/-- what is KEPT stays in a try -/
theorem tr785 {k : Int} {v : Nat} {key val : Int} {X : MS} (RX : Rr X) (GX : GA X) (hk : k = 2 ∨ k = 3) (hv : v < 8) (hn : gA X 49 v ≠ 255) (hkv : k = 2 → (0 ≤ key ∧ key ≤ 999) ∧ (0 ≤ val ∧ val ≤ 999)) (h2 : R2 key) (h3 : R2 val) {q : Int × MS} (e : m_x12_tries k (v : Int) key val X = some q) : ∀ i, 785 ≤ i → gA q.2 49 i = gA X 49 i := (wp_det (w_x12_tries RX hk (p1 := (v : Int)) ⟨by omega, by omega⟩ GX.1.1.1 GX.1.2.2.1 GX.1.2.2.2.1 (by have := GX.1.2.1; omega) GX.1.2.1.2 (by rw [Int.toNat_natCast]; exact GA_rt GX hv hn) hkv h2 h3) e).2.2.1.2
theorem y_act23 {S T : MS} (A : AJ S T) : pc (m_x1_actBySeed_J23 S) (fun q => pc (m_x12_isDrawn_J20 T) (fun o => q.1 = o.1 ∧ J2 q.2 o.2 ∧ gI q.2 983 = gL o.2 78 ∧ ∀ i, 785 ≤ i → gA o.2 49 i = gA T 49 i)) := by
  have V := AJ_V A
  have A' := A
  obtain ⟨hJ, hT, hRt, hG, h47, hd, hb, h9⟩ := A'
  unfold m_x1_actBySeed_J23
  refine pc_bn (fun r3 e3 => ?_)
  have v3 := wp_det (w_vols hT.1) e3
  have v6 : ∀ r6, m_x12_volumeMany T = some r6 → r6 = r3 ∧ 0 ≤ r6 ∧ r6 ≤ 8 := fun r6 e6 => by
    obtain ⟨a, b⟩ := wp_det (wv_x12_volumeMany hRt) e6
    exact ⟨by rw [a, v3, vc_eq V], b⟩
  refine pc_rg (pc_if (fun c1 => pc_some ?_) (fun c1 => pc_bn (fun q8 e8 => pc_bn (fun r10 e10 => pc_bn (fun q13 e13 => pc_bn (fun q16 e16 => ?_))))))
  · unfold m_x12_isDrawn_J20
    exact pc_bn (fun r6 e6 => pc_rg (pc_if (fun _ => pc_some ⟨rfl, hJ, hd, fun _ _ => rfl⟩) (fun c => absurd ((v6 r6 e6).1.trans c1) c)))
  -- what the draws give
  have DR : ∀ (r6 : Int) (o13 : Int × MS) (r15 : Int) (o18 o21 : Int × MS), m_x12_volumeMany T = some r6 → m_x12_drawOf r6 T = some o13 → m_x12_volumeAt o13.1 o13.2 = some r15 → m_x12_drawOf 3 o13.2 = some o18 → m_x12_drawOf 40 o18.2 = some o21 → AJ q16.2 o21.2 ∧ r10 = r15 ∧ ((0 ≤ r15 ∧ r15 < 8) ∧ gA o21.2 49 r15.toNat ≠ 255 ∧ gA o21.2 49 = gA T 49) ∧ (q13.1 = o18.1 ∧ 0 ≤ o18.1 ∧ o18.1 < 3) ∧ (q16.1 = o21.1 ∧ 0 ≤ o21.1 ∧ o21.1 < 40) := fun r6 o13 r15 o18 o21 f6 f13 f15 f18 f21 => by
    obtain ⟨u1, u2, u3⟩ := v6 r6 f6
    rw [← u1] at e8
    obtain ⟨⟨A1, G1, H1⟩, d1, d2, d3⟩ := AJ_draw A (by omega) e8 f13
    have V1 := AJ_V A1
    obtain ⟨⟨A2, G2, H2⟩, g1, g2, g3⟩ := AJ_draw A1 (by omega) e13 f18
    obtain ⟨⟨A3, G3, H3⟩, k1, k2, k3⟩ := AJ_draw A2 (by omega) e16 f21
    have iv : ∀ u, ivol o13.2 u = ivol T u := fun u => by
      unfold ivol
      rw [H1.1 47 (by simp), H1.2.1 49 (by simp)]
    have bd : o13.1 < sm 8 (ivol o13.2) := by
      rw [sm_c (g := ivol T) (fun u _ => iv u)]
      obtain ⟨a, _⟩ := wp_det (wv_x12_volumeMany hRt) f6
      omega
    have va := wp_det (w_x12_volumeAt A1.2.2.1 (p0 := o13.1) ⟨d2, bd⟩) f15
    have e : r10 = r15 := by
      have q := y_volAt V1 FU FU o13.1 0 (Int.le_refl 0) d2
      rw [d1] at e10
      exact q r10 e10 r15 f15
    refine ⟨A3, e, ⟨va.1, ?_, (H3.2.1 49 (by simp)).trans ((H2.2.1 49 (by simp)).trans (H1.2.1 49 (by simp)))⟩, ⟨g1, g2, g3⟩, ⟨k1, k2, k3⟩⟩
    rw [H3.2.1 49 (by simp), H2.2.1 49 (by simp)]
    exact va.2.2
  refine pc_rg (pc_if (fun c2 => pc_bn (fun q28 e28 => pc_bo (pc_some ?_))) (fun c2 => pc_bn (fun q21 e21 => pc_bn (fun q24 e24 => pc_bo (pc_some ?_)))))
  · unfold m_x12_isDrawn_J20 m_x12_isDrawn_J84
    refine pc_bn (fun r6 e6 => pc_rg (pc_if (fun c => absurd ((v6 r6 e6).1.symm.trans c) c1) (fun _ => pc_bn (fun r7 e7 => pc_bn (fun o13 f13 => pc_bn (fun r15 f15 => pc_bn (fun o18 f18 => pc_bn (fun o21 f21 => pc_rg (pc_if (fun d => pc_bn (fun o26 f26 => pc_bo (pc_some ?_))) (fun d => ?_))))))))))
    · obtain ⟨A3, x1, ⟨x2, x3, xT⟩, ⟨x4, x5, x6⟩, ⟨x7, x8, x9⟩⟩ := DR r7 o13 r15 o18 o21 e7 f13 f15 f18 f21
      obtain ⟨v, hv⟩ : ∃ v : Nat, r15 = (v : Int) := ⟨r15.toNat, by omega⟩
      rw [x1, x7, hv] at e28
      rw [hv] at f26 x2 x3
      rw [Int.toNat_natCast] at x3
      have Y := y_uprootJ (v := v) (key := o21.1) (val := 0) A3.1 A3.2.1 A3.2.2.1 A3.2.2.2.1 (by omega) ⟨by omega, by omega⟩ q28 e28 o26 f26
      have F1 : F_x1_tryUproot q16.2 q28.2 := fr_x1_tryUproot e28
      have F2 : F_x12_tries o21.2 o26.2 := fr_x12_tries f26
      exact ⟨Y.1, Y.2, by rw [F1.1 983 (by decide), F2.2.2.1 78 (by simp)]; exact A3.2.2.2.2.2.1, fun i hi => by rw [tr785 A3.2.2.1 A3.2.2.2.1 (Or.inr rfl) (by omega) x3 (fun z => absurd z (by decide)) ⟨by omega, by omega⟩ (by decide) f26 i hi, xT]⟩
    · exfalso
      obtain ⟨_, _, _, ⟨x4, _, _⟩, _⟩ := DR r7 o13 r15 o18 o21 e7 f13 f15 f18 f21
      omega
  · unfold m_x12_isDrawn_J20 m_x12_isDrawn_J84
    refine pc_bn (fun r6 e6 => pc_rg (pc_if (fun c => absurd ((v6 r6 e6).1.symm.trans c) c1) (fun _ => pc_bn (fun r7 e7 => pc_bn (fun o13 f13 => pc_bn (fun r15 f15 => pc_bn (fun o18 f18 => pc_bn (fun o21 f21 => pc_rg (pc_if (fun d => ?_) (fun d => pc_bn (fun o29 f29 => pc_bn (fun o32 f32 => pc_bo (pc_some ?_)))))))))))))
    · obtain ⟨_, _, _, ⟨x4, x5, x6⟩, _⟩ := DR r7 o13 r15 o18 o21 e7 f13 f15 f18 f21
      exact absurd (show q13.1 = 2 by omega) c2
    · obtain ⟨A3, x1, ⟨x2, x3, xT⟩, ⟨x4, x5, x6⟩, ⟨x7, x8, x9⟩⟩ := DR r7 o13 r15 o18 o21 e7 f13 f15 f18 f21
      obtain ⟨⟨A4, G4, H4⟩, k1, k2, k3⟩ := AJ_draw A3 (by omega) e21 f29
      obtain ⟨v, hv⟩ : ∃ v : Nat, r15 = (v : Int) := ⟨r15.toNat, by omega⟩
      rw [x1, x7, k1, hv] at e24
      rw [hv] at f32 x2 x3
      rw [Int.toNat_natCast] at x3
      have Y := y_plantJ (v := v) (key := o21.1) (val := o29.1) A4.1 A4.2.1 A4.2.2.1 A4.2.2.2.1 (by omega) (by rw [H4.2.1 49 (by simp)]; exact x3) ⟨by omega, by omega⟩ ⟨by omega, by omega⟩ q24 e24 o32 f32
      have F1 : F_x1_tryPlant q21.2 q24.2 := fr_x1_tryPlant e24
      have F2 : F_x12_tries o29.2 o32.2 := fr_x12_tries f32
      exact ⟨Y.1, Y.2, by rw [F1.1 983 (by decide), F2.2.2.1 78 (by simp)]; exact A4.2.2.2.2.2.1, fun i hi => by rw [tr785 A4.2.2.1 A4.2.2.2.1 (Or.inl rfl) (by omega) (by rw [H4.2.1 49 (by simp)]; exact x3) (fun _ => ⟨⟨by omega, by omega⟩, ⟨by omega, by omega⟩⟩) ⟨by omega, by omega⟩ ⟨by omega, by omega⟩ f32 i hi, H4.2.1 49 (by simp), xT]⟩
theorem AJ_save {s t s' t' : MS} (h : AJ s t) (e1 : m_x8_save s = some s') (e2 : m_x12_checks t = some t') : AJ s' t' := by
  obtain ⟨⟨⟨π, σ, lo, hi, H, O⟩, Z⟩, hT, hRt, hG, h47, hd, hb, h9⟩ := h
  have T1 := (wp_det (ts_save hT) e1).1
  have F1 : F_x8_save s s' := fr_x8_save e1
  have F2 : F_x12_checks t t' := fr_x12_checks e2
  obtain ⟨hR2, b1, b2, b3⟩ := wp_det (w_x12_checks hRt) e2
  refine ⟨⟨⟨π, σ, lo, hi, y_save H hT.1 hRt e1 e2, OI_checks O hRt e2⟩, ZP_k Z (F1.1 581 (by simp)) (F1.1 741 (by simp)) (fun k k1 k2 => F1.2.1 k (by simp; omega)) (fun k hk => F2.2.1 k (by simp; omega))⟩, T1, hR2, ?_, by rw [F2.1 47 (by simp)]; exact h47, by rw [F1.1 983 (by simp), F2.2.2.1 78 (by simp)]; exact hd, by rw [F2.2.2.1 78 (by simp)]; exact hb, by rw [F2.2.1 39 (by decide), F1.1 582 (by simp)]; exact h9⟩
  exact GA_tree hG ⟨F2.2.1 39 (by decide), F2.2.1 42 (by decide), F2.2.1 43 (by decide), F2.2.1 44 (by decide)⟩ (RT_checks hG.1.1.1 (F2.2.1 39 (by decide)) b1 b2 b3) (fun u hu => by
    by_cases z : u < 8
    · rw [b1 u (by omega) (fun q _ => by omega)]; exact hG.1.1.2 u hu
    · have z2 := b2 (u - 8) (by omega)
      rw [show 8 + (u - 8) = u by omega] at z2
      rw [z2]; exact hG.1.1.2 (u - 8) (by omega)) (b1 16 (by omega) (fun q _ => by omega)) (b1 785 (by omega) (fun q _ => by omega)) (F2.2.1 75 (by decide)) (F2.1 76 (by simp)) (F2.1 77 (by simp))
theorem y_actS {s t : MS} (h : AJ s t) : pc (m_x1_actBySeed s) (fun q => pc (m_x12_isDrawn t) (fun o => q.1 = o.1 ∧ AJ q.2 o.2 ∧ ∀ i, 785 ≤ i → gA o.2 49 i = gA t 49 i)) := by
  intro q eq o eo
  have core : pc (m_x1_actBySeed s) (fun q => pc (m_x12_isDrawn t) (fun o => q.1 = o.1 ∧ J2 q.2 o.2 ∧ gI q.2 983 = gL o.2 78 ∧ ∀ i, 785 ≤ i → gA o.2 49 i = gA t 49 i)) := by
    unfold m_x1_actBySeed
    refine pc_bn (fun q32 e32 => pc_rg (pc_rg (pc_if (fun c => ?_) (fun c => pc_bn (fun s37 e37 => ?_)))))
    · intro q eq
      unfold m_x12_isDrawn
      refine pc_bn (fun o35 f35 => pc_rdI (fun _ => pc_rg (pc_rg (pc_if (fun d => ?_) (fun d => ?_)))))
      · obtain ⟨⟨A1, _, H1⟩, _⟩ := AJ_draw h (by omega) e32 f35
        exact pc_mono (y_act23 A1 q eq) (fun o ho => ⟨ho.1, ho.2.1, ho.2.2.1, fun i hi => by rw [ho.2.2.2 i hi, H1.2.1 49 (by simp)]⟩)
      · exfalso
        obtain ⟨⟨A1, _, _⟩, d1, _⟩ := AJ_draw h (by omega) e32 f35
        have e9 : gA o35.2 39 9 = gI q32.2 582 := A1.2.2.2.2.2.2.2
        have e9' : gA o35.2 39 (Int.toNat 9) = gI q32.2 582 := e9
        omega
    · intro q eq
      unfold m_x12_isDrawn
      refine pc_bn (fun o35 f35 => pc_rdI (fun _ => pc_rg (pc_rg (pc_if (fun d => ?_) (fun d => pc_bn (fun s41 f41 => ?_))))))
      · exfalso
        obtain ⟨⟨A1, _, _⟩, d1, _⟩ := AJ_draw h (by omega) e32 f35
        have e9 : gA o35.2 39 9 = gI q32.2 582 := A1.2.2.2.2.2.2.2
        have e9' : gA o35.2 39 (Int.toNat 9) = gI q32.2 582 := e9
        omega
      · obtain ⟨⟨A1, _, H1⟩, _⟩ := AJ_draw h (by omega) e32 f35
        have CK := (wp_det (w_x12_checks A1.2.2.1) f41).2.1
        exact pc_mono (y_act23 (AJ_save A1 e37 f41) q eq) (fun o ho => ⟨ho.1, ho.2.1, ho.2.2.1, fun i hi => by rw [ho.2.2.2 i hi, CK i (by omega) (fun p hp => by omega), H1.2.1 49 (by simp)]⟩)
  obtain ⟨c1, c2, c3, c4⟩ := core q eq o eo
  obtain ⟨_, hT, hRt, hG, h47, _, hb, h9⟩ := h
  obtain ⟨T1, F1, _⟩ := wp_det (ts_act hT) eq
  obtain ⟨hR2, _, G2, ⟨_, k47, k39⟩, b2⟩ := wp_det (w_x12_isDrawn hRt hG hb h47) eo
  exact ⟨c1, ⟨c2, T1, hR2, G2, by rw [k47]; exact h47, c3, b2, by rw [k39, F1.1 582 (by decide)]; exact h9⟩, c4⟩
