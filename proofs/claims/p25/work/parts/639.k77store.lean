/-! ===== STORE on both sides: what stands then ===== -/
theorem HJ_k5 {s s' t t' : MS} {ts : List MS} (H : HJ s ts t) (a1 : gI s' 145 = gI s 145) (a2 : gI s' 143 = gI s 143) (a3 : ∀ k, k = 8 ∨ k = 9 ∨ k = 10 → gA s' k = gA s k) (b1 : gI t' 76 = gI t 76) (b2 : gI t' 77 = gI t 77) (b3 : gA t' 75 = gA t 75) (b4 : gA t' 39 5 = gA t 39 5) (b5 : ∀ i, 785 ≤ i → i < 906 → gA t' 49 i = gA t 49 i) : HJ s' ts t' := by
  obtain ⟨h1, n, d, h2, h3, h4, h5⟩ := H
  have sl : ∀ p, slot t' p = slot t p := fun p => by unfold slot; rw [b3]
  refine ⟨by rw [b1, a1]; exact h1, n, d, by rw [a2]; exact h2, by rw [a1]; exact h3, ?_, fun i hi => ?_⟩
  · rw [a3 8 (Or.inl rfl), a3 9 (by omega), a3 10 (by omega)]; exact KP_f h4 b5
  · obtain ⟨X, x1, x2, ⟨π, σ, lo, hi', x3, x4⟩, x5⟩ := h5 i hi
    refine ⟨X, x1, by rw [b4]; exact x2, ⟨π, σ, lo, hi', by rw [b2, sl]; exact x3, ?_⟩, ?_⟩
    · rw [b2, sl]
      exact OI_49 x4 rfl
    · rw [a3 8 (Or.inl rfl), a3 9 (by omega), a3 10 (by omega), b2, sl]; exact x5
theorem BT_k5 {s s' t t' : MS} {ts : List MS} (h : BT s ts t) (a1 : ∀ k, k = 12 ∨ k = 143 ∨ k = 145 ∨ k = 1060 ∨ k = 1061 → gI s' k = gI s k) (a2 : ∀ k, k = 8 ∨ k = 9 ∨ k = 10 ∨ (54 ≤ k ∧ k ≤ 61) → gA s' k = gA s k) (b1 : ∀ k, k = 76 ∨ k = 77 → gI t' k = gI t k) (b2 : ∀ k, k = 49 ∨ k = 75 → gA t' k = gA t k) (b3 : gA t' 39 5 = gA t 39 5) (c1 : gI s' 983 = gL t' 78) (c2 : ∀ k, k < 6 → gA s' 2 k = gA t' 9 k) : BT s' ts t' := by
  obtain ⟨_, _, h3, h4⟩ := h
  refine ⟨c1, c2, fun z => ?_, fun z => ?_⟩
  · obtain ⟨u1, u2, u3, u4, u5, u6⟩ := h3 (by rw [← a1 12 (Or.inl rfl)]; exact z)
    refine ⟨by rw [a1 1060 (by omega)]; exact u1, by rw [a1 1061 (by omega)]; exact u2, by rw [a1 143 (by omega)]; exact u3, fun v hv => by rw [a2 61 (by omega)]; exact u4 v hv, by rw [b2 49 (by omega)]; exact u5, by rw [b2 49 (by omega)]; exact u6⟩
  · obtain ⟨g1, ⟨π, σ, lo, hi, g2, g3⟩, g4⟩ := h4 (by rw [← a1 12 (Or.inl rfl)]; exact z)
    refine ⟨by rw [a1 1060 (by omega), b3]; exact g1, ⟨π, σ, lo, hi, ?_, OI_49 g3 (b2 49 (by omega))⟩, HJ_k5 g4 (a1 145 (by omega)) (a1 143 (by omega)) (fun k hk => a2 k (by omega)) (b1 76 (Or.inl rfl)) (b1 77 (Or.inr rfl)) (b2 75 (by omega)) b3 (fun i _ _ => by rw [b2 49 (by omega)])⟩
    rw [a1 1060 (by omega), b2 49 (by omega)]
    exact TRf_rows g2 (fun k k1 k2 => a2 k (by omega))
def STJ (t0 T : MS) : Prop := SRT t0 T ∧ gA T 9 = gA t0 9
theorem rs_L87 {t0 : MS} : ∀ (n : Nat) (T : MS), STJ t0 T → pc (m_x12_store_L87 n T) (fun o => ∃ T', STJ t0 T' ∧ m_x12_store_J109 T' = some o) := by
  refine fr_ind (fun _ _ => pc_none) (fun n ih T H0 => ?_)
  obtain ⟨H, h9⟩ := H0
  show pc (m_x12_store_b87 (m_x12_store_L87 n) T) _
  unfold m_x12_store_b87
  refine pc_rg (pc_if (fun c => pc_bn (fun q16 e16 => ?_)) (fun _ => fun o eo => ⟨T, ⟨H, h9⟩, eo⟩))
  obtain ⟨hS, h2, h46⟩ := H.2.2 c
  have W := wp_det (w_x12_look H.1 h2) e16
  have F : F_x12_look T q16.2 := fr_x12_look e16
  have S16 : SP q16.2 0 := SP_eq hS (F.2.1 39 (by decide)) (F.2.1 41 (by decide)) (F.2.1 42 (by decide)) (F.2.1 43 (by decide)) (F.2.1 44 (by decide)) (F.1 45 (by decide)) (by rw [F.1 46 (by decide)]; omega) W.2.2.1.1 (Or.inl c)
  have c16 : gI q16.2 5 = 0 := (F.1 5 (by decide)).trans c
  have e46 : gI q16.2 46 = gI T 46 := F.1 46 (by decide)
  have K16 : KT t0 q16.2 := KT_0 H.2.1 F (by decide)
  have H16 : SRT t0 q16.2 := ⟨W.1, K16, fun _ => ⟨S16, W.2.2.1.2, by omega⟩⟩
  have h916 : gA q16.2 9 = gA t0 9 := (F.2.1 9 (by decide)).trans h9
  refine pc_rg (pc_if (fun _ => fun o eo => ⟨q16.2, ⟨H16, h916⟩, eo⟩) (fun _ => pc_bn (fun o eo => ih o ⟨?_, ?_⟩)))
  · have V := wp_det (w_x12_statementTold W.1 W.2.2.1.2 S16 (by omega) c16) eo
    have G : F_x12_statementTold q16.2 o := fr_x12_statementTold eo
    have b := b_stmt ⟨S16.1.1, S16.1.2.1⟩ o eo
    refine ⟨V.1, KT_tr K16 V.2.2.2.2 b G (by decide) (by decide), fun z => ⟨V.2.1, V.2.2.1.2, ?_⟩⟩
    rcases V.2.2.2.1 with w | w
    · by_cases k : gI q16.2 46 = 60
      · exact absurd ((m_stmt60 c16 k o eo).1.symm.trans z) (by decide)
      · omega
    · exact absurd z w.1
  · exact ((fr_x12_statementTold eo).2.1 9 (by decide)).trans h916
theorem rs_store {t : MS} (hR : Rr t) : pc (m_x12_store t) (fun o => ∃ T', STJ t T' ∧ m_x12_store_J109 T' = some o) := by
  refine m_sin (fun T hT hRT => pc_bn (fun s26 e26 => pc_stn (fun s27 e27 => rs_L87 FU s27 ?_)))
  have RT' := hRT hR
  have h := hT.1
  have r3 : (0 : Int) ≤ gI T 3 ∧ gI T 3 ≤ 1600 := RT'.1 3
  have W := wp_det (w_x12_storeTold RT' (by omega) ⟨⟨by rw [hT.2.1.1 2 (by decide)]; omega, by rw [hT.2.1.1 3 (by decide)]; omega⟩, ⟨by rw [hT.2.1.1 2 (by decide), hT.2.1.1 3 (by decide)]; rfl, by rw [hT.2.1.1 3 (by decide)]; exact fun k hk => absurd hk (by omega)⟩, by omega, fun w hw => Or.inl (hT.2.2.1.1 w hw)⟩ (hT.2.1.1 4 (by decide))) e26
  have F26 : F_x12_storeTold T s26 := fr_x12_storeTold e26
  have K26 : KT t s26 := KT_tr (SIN_KT hT) W.2.2.2 (fun j _ => by rw [F26.2.2.2 40 (by decide)]) (Fr.tr (Fr.rf T) F26 ⟨fun _ q => q, fun _ q => q, fun _ q => q, fun _ q => absurd q (by simp)⟩ : Fr [2, 4, 5, 6, 10] [39] [] [40] T s26) (by decide) (by decide)
  have k46 : gI s26 46 = gI T 46 := F26.1 46 (by decide)
  have kA : ∀ k, gA s27 k = gA s26 k := fun k => q_Ia e27
  have kI : ∀ i, i ≠ 46 → gI s27 i = gI s26 i := fun i hi => q_Ii e27 hi
  refine ⟨⟨by subst e27; exact Rr.uI W.1 (by show (0 : Int) ≤ 1 ∧ (1 : Int) ≤ 60; omega), KT_0 K26 (FI1 e27) (by decide), fun z => ⟨SP_eq W.2.1 (kA 39) (kA 41) (kA 42) (kA 43) (kA 44) (kI 45 (by decide)) (by rw [(q_II e27 : gI s27 46 = 1), k46]; omega) (by rw [kI 2 (by decide)]; omega) (Or.inl ((kI 5 (by decide)).symm.trans z)), by rw [kI 2 (by decide), kI 3 (by decide)]; exact W.2.2.1.2, by rw [(q_II e27 : gI s27 46 = 1)]; omega⟩⟩, ?_⟩
  rw [kA 9, F26.2.1 9 (by decide)]
  exact hT.2.2.2.2.1 9 (by decide)
theorem j109 {T : MS} : pc (m_x12_store_J109 T) (fun o => gI o.2 7 = gI T 5 ∧ ∃ s3, (Fr [7, 8] [] [] [] T s3 ∧ (Rr T → Rr s3)) ∧ ((gI T 5 = 0 ∧ m_x12_stands s3 = some o.2) ∨ (gI T 5 ≠ 0 ∧ m_x12_refuses 1 s3 = some o))) := by
  unfold m_x12_store_J109
  refine pc_stn (fun s2 e2 => pc_stn (fun s3 e3 => ?_))
  have i5 : gI s3 5 = gI T 5 := (q_Ii e3 (by decide)).trans (q_Ii e2 (by decide))
  have i7 : gI s3 7 = gI T 5 := (q_Ii e3 (by decide)).trans (q_II e2)
  have i6 : gI s2 6 = gI T 6 := q_Ii e2 (by decide)
  have F : Fr [7, 8] [] [] [] T s3 := by
    subst e3; subst e2
    exact Fr.uI (Fr.uI (Fr.rf T) (by decide)) (by decide)
  have R : Rr T → Rr s3 := fun h => by
    have b5 : (0 : Int) ≤ gI T 5 ∧ gI T 5 ≤ 5 := h.1 5
    have b6 : (-2147483648 : Int) ≤ gI T 6 ∧ gI T 6 ≤ 2147483647 := h.1 6
    have h2 : Rr s2 := e2 ▸ Rr.uI h (by show (-2147483648 : Int) ≤ gI T 5 ∧ gI T 5 ≤ 2147483647; omega)
    exact e3 ▸ Rr.uI h2 (by show (-2147483648 : Int) ≤ gI s2 6 ∧ gI s2 6 ≤ 2147483647; omega)
  refine pc_rg (pc_if (fun c => pc_bn (fun s7 e7 => pc_some ⟨?_, s3, ⟨F, R⟩, Or.inl ⟨i5.symm.trans c, e7⟩⟩)) (fun c => pc_bn (fun q10 e10 => pc_some ⟨?_, s3, ⟨F, R⟩, Or.inr ⟨fun z => c (i5.trans z), e10⟩⟩)))
  · have F7 : F_x12_stands s3 s7 := fr_x12_stands e7
    exact (F7.1 7 (by decide)).trans i7
  · have F10 : F_x12_refuses s3 q10.2 := fr_x12_refuses e10
    exact (F10.1 7 (by simp)).trans i7
theorem s_rf2 {p : Int} {s : MS} : pc (m_x11_refuse p s) (fun q => gA q.2 2 = upZ (gA s 2) p.toNat (gA s 2 p.toNat + 1)) := by
  unfold m_x11_refuse
  exact pc_rdI (fun _ => pc_inb (pc_stn (fun s3 e3 => pc_some (q_AA e3))))
theorem m_rf9 {p : Int} {t : MS} : pc (m_x12_refuses p t) (fun q => gA q.2 9 = upZ (gA t 9) p.toNat (gA t 9 p.toNat + 1)) := by
  unfold m_x12_refuses
  exact pc_rdI (fun _ => pc_inb (pc_stn (fun s3 e3 => pc_some (q_AA e3))))
set_option maxHeartbeats 2000000 in
/-- both sides build alike -/
theorem y_build {s8 q3 T T3 o2 : MS} (R8 : Rg s8) (R3 : Rg q3) (RT3 : Rr T3) (hPV : PVs q3) (hE : 3 ≤ gI q3 781) (i8 : ∀ k, 580 ≤ k → k ≤ 779 → gI s8 k = gI q3 (k + 200)) (a8 : ∀ k, 29 ≤ k → k ≤ 38 → gA s8 k = gA q3 (k + 10)) (P : PLJ q3 T) (G : GA o2)
    (o39 : ∀ k, k < 5 → gA o2 39 (5 + k) = gA T 39 k) (o3 : gA o2 39 3 = gA T 39 3) (o41 : gA o2 41 = gA T 41) (o42 : ∀ w, w < 3 → gA o2 42 (3 + w) = gA T 42 w ∧ gA o2 43 (3 + w) = gA T 43 w) (o44 : ∀ j : Nat, (j : Int) < gI T 45 → gA o2 44 (1600 + j) = gA T 44 j)
    (d49 : ∀ v, v < 16 → gA T3 49 v = 255) (d49b : ∀ k, 16 ≤ k → k < 906 → gA T3 49 k = 0) (FL : ∀ k, k = 39 ∨ (41 ≤ k ∧ k ≤ 44) → gA o2 k = gA T3 k) (eL : m_x12_stands_L193 FU 0 T3 = some o2) : pc (m_x1_build s8) (fun s10 => BE s10 o2) := by
  obtain ⟨PN, PA, PH, PC, _⟩ := P
  obtain ⟨pc45, pcc, pcw, pcf⟩ := PC
  have f39 : gA o2 39 = gA T3 39 := FL 39 (Or.inl rfl)
  have f41 : gA o2 41 = gA T3 41 := FL 41 (by omega)
  have f42 : gA o2 42 = gA T3 42 := FL 42 (by omega)
  have f43 : gA o2 43 = gA T3 43 := FL 43 (by omega)
  have f44 : gA o2 44 = gA T3 44 := FL 44 (by omega)
  have n5 : gA T3 39 5 = gI q3 780 := by rw [← f39]; exact (o39 0 (by decide)).trans PH.1
  have n6 : gA T3 39 6 = gI q3 781 := by rw [← f39]; exact (o39 1 (by decide)).trans PH.2.1
  have b784 : (0 : Int) ≤ gI q3 784 ∧ gI q3 784 ≤ 8 := R3.1 784
  have b941 : (0 : Int) ≤ gI q3 941 ∧ gI q3 941 ≤ 1600 := R3.1 941
  have gb := G.1.2.1
  rw [f39] at gb
  unfold m_x1_build
  refine pc_bn (fun s35 e35 => fun s10 e10 => ?_)
  have T35 := (wp_det (ts_clear R8 (R8.1 580) (by rw [i8 581 (by decide) (by decide)]; exact hE)) e35).1
  have F35 : F_x8_clear_v2 s8 s35 := fr_x8_clear_v2 e35
  obtain ⟨z60, zc, zr⟩ := s_clrF s35 e35
  have iI : ∀ k, 580 ≤ k → k ≤ 779 → gI s35 k = gI q3 (k + 200) := fun k h1 h2 => (F35.1 k (by simp; omega)).trans (i8 k h1 h2)
  have iA : ∀ k, 29 ≤ k → k ≤ 38 → gA s35 k = gA q3 (k + 10) := fun k h1 h2 => (F35.2.1 k (by simp; omega)).trans (a8 k h1 h2)
  have c0 : ∀ x, x < 48 → cM T3 x = 0 := fun x hx => d49b (17 + 16 * x) (by omega) (by omega)
  have v0 : ∀ x, x < 48 → vM T3 x = 0 := fun x hx => d49b (18 + 16 * x) (by omega) (by omega)
  have dead : ∀ x, x < 48 → 0 < cM T3 x ∨ 0 < vM T3 x → False := fun x hx l => by
    have a := c0 x hx
    have b := v0 x hx
    omega
  have HS : SIM (fun b => b) (fun b => b) s35 T3 := by
    refine ⟨⟨PB_id _, fun x hx => ⟨?_, ?_⟩, fun x hx l => (dead x hx l).elim, fun v hv => ⟨Or.inr (Or.inl ⟨d49 v (by omega), (zr v hv).1⟩), Or.inr (Or.inl ⟨d49 (8 + v) (by omega), (zr v hv).2⟩)⟩⟩, ?_, fun x hx l => (dead x hx (Or.inl l)).elim⟩
    · exact (zc x hx).1.trans (c0 x hx).symm
    · exact (zc x hx).2.trans (v0 x hx).symm
    · rw [z60, n5, i8 580 (by decide) (by decide)]
  have HZ : ZP s35 T3 := by
    refine ⟨by rw [n6]; exact iI 581 (by decide) (by decide), ⟨fun j hj => ?_, fun w hw => ?_⟩, fun h => ?_⟩
    · rw [iI 741 (by decide) (by decide)] at hj
      rw [iA 38 (by decide) (by decide), ← f44, o44 j (by rw [pc45.1]; exact hj)]
      exact pcc j hj
    · rw [iA 35 (by decide) (by decide), iA 36 (by decide) (by decide), ← f42, ← f43, (o42 w hw).1, (o42 w hw).2]
      exact pcw w hw
    · rw [iA 35 (by decide) (by decide)] at h
      rw [iA 35 (by decide) (by decide), iA 36 (by decide) (by decide), iA 38 (by decide) (by decide), iI 741 (by decide) (by decide)]
      obtain ⟨⟨x1, x2, x3⟩, x4⟩ := pcf h
      exact ⟨⟨x1, x2⟩, ⟨x3, b941.2⟩, x4⟩
  have B0 : BJ (gA q3 41) (gA q3 42) (gA q3 43) (gA q3 44) (gA T3 41) (gI q3 785) 0 s35 T3 := by
    refine ⟨⟨T35, iI 585 (by decide) (by decide), iA 31 (by decide) (by decide), iA 32 (by decide) (by decide), iA 33 (by decide) (by decide), iA 34 (by decide) (by decide)⟩, ⟨RT3, RT_zero gb.1.2 d49 (fun k h1 h2 => d49b k h1 (by omega)), ?_, CE_eq G.1.2.2.1 f42.symm f43.symm f44.symm, CE_eq G.1.2.2.2.1 f42.symm f43.symm f44.symm⟩, ⟨rfl, ?_, gb.1, gb.2⟩, d49b 785 (by decide) (by decide), ⟨_, _, (fun _ => 0), (fun _ => 0), HS, fun x hx l => (dead x hx l).elim⟩, HZ⟩
    · have z : vt (gA q3 41) (Int.toNat 0) = 0 := rfl
      rw [z]
      exact ⟨by decide, fun u hu => absurd hu (by omega), fun u _ h => d49 u h⟩
    · rw [← f39, o3]; exact PA.1.1
  refine y_buildL hPV b784.2 (fun a ha => ?_) FU FU 0 s35 T3 (Int.le_refl 0) B0 s10 e10 o2 eL
  rw [← f41, o41]
  exact PA.2 a ha
set_option maxHeartbeats 2000000 in
/-- STORE -/
theorem y_storeB {x t : MS} {ts : List MS} (hC : CI x ts) (hR : Rr t) (hJ : JI t) (H : PJ x t) (B : BT x ts t) : pc (m_x11_store x) (fun q => pc (m_x12_store t) (fun o => BT q.2 ts o.2)) := by
  intro q0 eq0 o eo
  obtain ⟨Ro, Jo, _⟩ := wp_det (w_x12_store hR hJ) eo
  obtain ⟨T', ⟨⟨RT', KT', _⟩, t9⟩, eJ⟩ := rs_store hR o eo
  obtain ⟨o7, s3, ⟨F3', Rs3⟩, cs⟩ := j109 o eJ
  have R3' := Rs3 RT'
  have FO : F_x12_store t o.2 := fr_x12_store eo
  obtain ⟨⟨hW, hD⟩, ⟨hl, hT⟩, hF, hP⟩ := H
  have core : pc (m_x11_store x) (fun q => BT q.2 ts o.2) := by
    unfold m_x11_store
    refine pc_bn (fun q3 e3 => pc_stn (fun s4 e4 => ?_))
    have Y := y_readStore hC.1 hW hl hT hD q3 e3 o eo
    have F3 : F_x6_readStore x q3.2 := fr_x6_readStore e3
    obtain ⟨R3, r1, r2, _⟩ := wp_det (w_x6_readStore hC.1) e3
    have R4 : Rg s4 := e4 ▸ Rg.uI R3 (by show (0 : Int) ≤ 0 ∧ (0 : Int) ≤ 1600; omega)
    have I4 : ∀ i, i ≠ 61 → gI s4 i = gI q3.2 i := fun i hi => q_Ii e4 hi
    have A4 : ∀ k, gA s4 k = gA q3.2 k := fun k => q_Ia e4
    refine pc_rg (pc_if (fun c => pc_bn (fun q17 e17 => pc_some ?_)) (fun c => pc_eqg (pc_stn (fun s8 e8 => pc_bn (fun s10 e10 => pc_bn (fun s12 e12 => pc_stn (fun s13 e13 => pc_stn (fun s14 e14 => pc_some ?_))))))))
    · have n7 : gI T' 5 ≠ 0 := by
        rcases Y with ⟨_, n100, _, a7, _⟩ | ⟨a, _⟩
        · rw [← o7, a7]; exact n100
        · exact absurd (a.symm.trans c) (by decide)
      rcases cs with ⟨z5, _⟩ | ⟨_, eR⟩
      · exact absurd z5 n7
      have F17 : F_x11_refuse s4 q17.2 := fr_x11_refuse e17
      have F10 : F_x12_refuses s3 o.2 := fr_x12_refuses eR
      have u1 := s_rf2 q17 e17
      have u2 := m_rf9 o eR
      have cI : ∀ i, i ≠ 61 → i ∉ [100, 101, 102, 103, 104, 105, 106, 107, 108, 109, 110, 111, 780, 781, 782, 783, 784, 785, 941, 9999] → gI q17.2 i = gI x i := fun i h1 h2 => ((F17.1 i (by simp)).trans (I4 i h1)).trans (F3.1 i h2)
      have oA : ∀ k, k ≠ 9 → gA o.2 k = gA T' k := fun k hk => (F10.2.1 k (by simp; omega)).trans (F3'.2.1 k (by simp))
      have oI : ∀ k, k ∉ [7, 8] → gI o.2 k = gI T' k := fun k hk => (F10.1 k (by simp)).trans (F3'.1 k hk)
      refine BT_k5 B (fun k hk => cI k (by omega) (by simp; omega)) (fun k hk => ((F17.2.1 k (by simp; omega)).trans (A4 k)).trans (F3.2.1 k (by simp; omega))) (fun k hk => (oI k (by simp; omega)).trans (KT'.2.1 k (by simp; omega))) (fun k hk => (oA k (by omega)).trans (KT'.2.2.1 k (by simp; omega))) (by rw [oA 39 (by decide)]; exact KT'.1.1.1 5 (by decide)) ?_ (fun k hk => ?_)
      · rw [cI 983 (by decide) (by decide), FO.2.2.1 78 (by simp)]; exact B.1
      · rw [u1, u2, A4, F3.2.1 2 (by decide), F3'.2.1 9 (by simp), t9]
        by_cases z : k = Int.toNat 1
        · rw [z, upZ_s, upZ_s, B.2.1 (Int.toNat 1) (by decide)]
        · rw [upZ_n z, upZ_n z]; exact B.2.1 k hk
    · rcases Y with ⟨a, _⟩ | ⟨q1, z100, T, ⟨T5, T6⟩, P, T46, T783, eJ2⟩
      · exact absurd a c
      have hg : 8 ≤ gI q3.2 780 ∧ 3 ≤ gI q3.2 781 := by omega
      have b941 : (0 : Int) ≤ gI q3.2 941 ∧ gI q3.2 941 ≤ 1600 := R3.1 941
      have P4 := P.2.2.2.1
      obtain ⟨s3b, T3b, ⟨j7, _, Fs3b⟩, D3b, eLb, _⟩ := m_109 T5 T6 (by rw [P4.1.1]; exact b941) o eJ2
      have FLb := m_std2 FU 0 T3b o.2 eLb
      obtain ⟨⟨e39, e39b⟩, eC, _, eK, _, _, Fdb⟩ := D3b
      have ob : ∀ k, gA s3b k = gA T k := fun k => Fs3b.2.1 k (by simp)
      have o70 : gI o.2 7 = 0 := by
        rw [FLb.1 7 (by decide), Fdb.1 7 (by decide)]; exact j7
      rcases cs with ⟨z5, eS⟩ | ⟨n5, _⟩
      rotate_left
      · exact absurd (o7.symm.trans o70) n5
      have b45 : (0 : Int) ≤ gI s3 45 ∧ gI s3 45 ≤ 1600 := R3'.1 45
      obtain ⟨T3, D3, eL⟩ := (m_std (P := fun s7 => ∃ T3, STD3 s3 T3 ∧ m_x12_stands_L193 FU 0 T3 = some s7) b45 (fun T3 h o eo => ⟨T3, h, eo⟩)) o.2 eS
      have FL := m_std2 FU 0 T3 o.2 eL
      obtain ⟨_, _, _, _, ⟨d49, d49b⟩, d47, Fd⟩ := D3
      have RT3 : Rr T3 := by
        refine ⟨fun k => ?_, fun k j hj => ?_, fun k => ?_, fun k j => ?_⟩
        · by_cases z : k = 47
          · rw [z, d47]; show (0 : Int) ≤ 1 ∧ (1 : Int) ≤ 1; omega
          · rw [Fd.1 k (by simp; omega)]; exact R3'.1 k
        · by_cases z : k = 49
          · rw [z] at hj ⊢
            have hj' : j < 906 := hj
            show (-2147483648 : Int) ≤ gA T3 49 j ∧ gA T3 49 j ≤ 2147483647
            by_cases y : j < 16
            · rw [d49 j y]; omega
            · rw [d49b j (by omega) hj']; omega
          · by_cases y : k = 39 ∨ k = 42 ∨ k = 43 ∨ k = 44
            · rw [← FL.2.1 k (by simp; omega)]; exact Ro.2.1 k j hj
            · rw [Fd.2.1 k (by simp; omega)]; exact R3'.2.1 k j hj
        · rw [Fd.2.2.1 k (by simp)]; exact R3'.2.2.1 k
        · by_cases z : k = 40
          · rw [z, ← FL.2.2.2 40 (by decide)]; exact Ro.2.2.2 40 j
          · rw [Fd.2.2.2 k (by simp; omega)]; exact R3'.2.2.2 k j
      have t47 : gI o.2 47 ≠ 0 := by rw [FL.1 47 (by decide), d47]; decide
      have G := JI_GA Jo t47
      have R8 : Rg s8 := e8 ▸ Rg.uI (Rg_sw R4) (by show (0 : Int) ≤ 1 ∧ (1 : Int) ≤ 2; omega)
      have i8 : ∀ k, 580 ≤ k → k ≤ 779 → gI s8 k = gI q3.2 (k + 200) := fun k h1 h2 => by
        rw [(q_Ii e8 (by omega) : gI s8 k = gI (swS s4) k), sw_p ⟨h1, h2⟩, I4 _ (by omega)]
      have a8 : ∀ k, 29 ≤ k → k ≤ 38 → gA s8 k = gA q3.2 (k + 10) := fun k h1 h2 => by
        rw [(q_Ia e8 : gA s8 k = gA (swS s4) k), sw_P ⟨h1, h2⟩, A4]
      obtain ⟨b1, ⟨π, σ, lo, hi, b2, b2'⟩, b3, b4⟩ := y_build R8 R3 RT3 (r2 q1) hg.2 i8 a8 P G (fun k hk => by rw [FLb.2.1 39 (by decide), e39 k hk, ob]) (by rw [FLb.2.1 39 (by decide), e39b 3 (by decide), ob]) (by rw [FLb.2.1 41 (by decide), Fdb.2.1 41 (by decide), ob]) (fun w hw => by rw [FLb.2.1 42 (by decide), FLb.2.1 43 (by decide), (eC w hw).1, (eC w hw).2, ob, ob]; exact ⟨rfl, rfl⟩) (fun j hj => by rw [FLb.2.1 44 (by decide), eK j (by rw [Fs3b.1 45 (by decide)]; exact hj), ob]) d49 d49b (fun k hk => FL.2.1 k (by simp; omega)) eL s10 e10
      have F10 : F_x1_build s8 s10 := fr_x1_build e10
      have F12 : F_x2_clear s10 s12 := fr_x2_clear e12
      have cl : gI s12 143 = 0 ∧ gI s12 145 = 0 := by
        have k : pc (m_x2_clear s10) (fun o => gI o 143 = 0 ∧ gI o 145 = 0) := by
          unfold m_x2_clear
          exact pc_stn (fun s1 f1 => pc_stn (fun s2 f2 => pc_some ⟨(q_Ii f2 (by decide)).trans (q_II f1), q_II f2⟩))
        exact k s12 e12
      have kI : ∀ k, k ≠ 12 → k ≠ 220 → gI s14 k = gI s12 k := fun k h1 h2 => (q_Ii e14 h1).trans (q_Ii e13 h2)
      have kA : ∀ k, gA s14 k = gA s10 k := fun k => ((q_Ia e14).trans (q_Ia e13)).trans (F12.2.1 k (by simp))
      have k60 : gI s14 1060 = gI s10 1060 := (kI 1060 (by decide) (by decide)).trans (F12.1 1060 (by decide))
      refine ⟨?_, fun k hk => ?_, fun z => absurd ((q_II e14 : gI s14 12 = 1).symm.trans z) (by decide), fun _ => ⟨by rw [k60]; exact b1, ⟨π, σ, lo, hi, ?_, b2'⟩, ?_⟩⟩
      · rw [kI 983 (by decide) (by decide), F12.1 983 (by decide), F10.1 983 (by decide), (q_Ii e8 (by decide) : gI s8 983 = gI (swS s4) 983), sw_o (by decide), I4 983 (by decide), F3.1 983 (by decide), FO.2.2.1 78 (by simp)]
        exact B.1
      · have FS : F_x12_stands s3 o.2 := fr_x12_stands eS
        rw [kA 2, F10.2.1 2 (by decide), (q_Ia e8 : gA s8 2 = gA (swS s4) 2), sw_O (by decide), A4, F3.2.1 2 (by decide), FS.2.1 9 (by decide), F3'.2.1 9 (by simp), t9]
        exact B.2.1 k hk
      · rw [k60]
        exact TRf_rows b2 (fun k _ _ => kA k)
      · refine ⟨?_, 0, 0, ⟨?_, by decide⟩, ⟨?_, by decide, by decide⟩, ⟨0, by decide, b3, fun k hk => absurd hk (by omega)⟩, fun i hi => absurd hi (by omega)⟩
        · rw [b4, kI 145 (by decide) (by decide), cl.2]
        · rw [kI 143 (by decide) (by decide), cl.1]; rfl
        · rw [kI 145 (by decide) (by decide), cl.2]; rfl
  exact core q0 eq0
