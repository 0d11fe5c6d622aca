/-! ===== what was told, on both sides ===== -/
def TPJ (x t : MS) : Prop := gI x 61 = gI t 1 ∧ TBJ x t
def FLT (x t : MS) : Prop := gI t 7 = gI x 100 ∧ (gI x 100 ≠ 0 → gI t 8 = gI x 101) ∧ (gI x 100 = 0 → gI t 8 = -1)
def NMT (x t : MS) : Prop := (gA t 39 7 = gI x 584 ∧ 0 ≤ gI x 584 ∧ gI x 584 ≤ 8) ∧ ∀ v : Nat, (v : Int) < gI x 584 → NM1 (fun j => gA x 30 (v * 6 + j)) (gB t 40 (8 + v))
def CDT (x t : MS) : Prop := (∀ j : Nat, (j : Int) < gI x 741 → cr (gA x 38 j) (gA t 44 (1600 + j))) ∧ ∀ w : Nat, w < 3 → gA t 42 (3 + w) = gA x 35 w ∧ (gA x 35 w ≠ -1 → gA t 43 (3 + w) = gA x 36 w)
def PTJ (x t : MS) : Prop := (gI t 47 = gI x 12 ∧ NMT x t) ∧ (gI x 12 ≠ 0 → (gA t 39 5 = gI x 580 ∧ gA t 39 6 = gI x 581 ∧ gA t 39 9 = gI x 582) ∧ CDT x t ∧ FSr (gA x 35) (gA x 36) (gA x 38) (gI x 741)) ∧ (gI x 12 = 0 → gI x 584 = 0)
def PJ (x t : MS) : Prop := (W6 x ∧ RWD t) ∧ TPJ x t ∧ FLT x t ∧ PTJ x t
/-- the class's part that says what was told -/
def KX (x o : MS) : Prop := (∀ i, i = 12 ∨ (580 ≤ i ∧ i ≤ 584) ∨ i = 741 → gI o i = gI x i) ∧ (∀ k, k = 6 ∨ (30 ≤ k ∧ k ≤ 38) → gA o k = gA x k)
/-- the reference's -/
def KY (t o : MS) : Prop := gI o 47 = gI t 47 ∧ (∀ k, (11 ≤ k ∧ k ≤ 37) ∨ (79 ≤ k ∧ k ≤ 100) → gA o k = gA t k) ∧ FBk t o ∧ ∀ j, 8 ≤ j → gB o 40 j = gB t 40 j
theorem PTJ_k {x x1 t t1 : MS} (H : PTJ x t) (a : KX x x1) (b : KY t t1) : PTJ x1 t1 := by
  obtain ⟨⟨h1, h2, h3⟩, h4, h5⟩ := H
  have i12 := a.1 12 (Or.inl rfl)
  have i584 := a.1 584 (Or.inr (Or.inl (by omega)))
  refine ⟨⟨by rw [b.1, i12]; exact h1, ⟨by rw [b.2.2.1.1 7 (by decide), i584]; exact h2, fun v hv => ?_⟩⟩, fun z => ?_, fun z => by rw [i584]; exact h5 (by rw [← i12]; exact z)⟩
  · rw [a.2 30 (by omega), b.2.2.2 (8 + v) (by omega)]
    exact h3 v (by omega)
  · obtain ⟨g1, ⟨g2, g3⟩, g4⟩ := h4 (by rw [← i12]; exact z)
    refine ⟨?_, ⟨fun j hj => ?_, fun w hw => ?_⟩, by rw [a.2 35 (by omega), a.2 36 (by omega), a.2 38 (by omega), a.1 741 (by omega)]; exact g4⟩
    · rw [b.2.2.1.1 5 (by decide), b.2.2.1.1 6 (by decide), b.2.2.1.1 9 (by decide), a.1 580 (by omega), a.1 581 (by omega), a.1 582 (by omega)]; exact g1
    · rw [a.2 38 (by omega), b.2.2.1.2.2 (1600 + j) (by omega)]
      exact g2 j (by rw [← a.1 741 (by omega)]; exact hj)
    · rw [a.2 35 (by omega), a.2 36 (by omega), (b.2.2.1.2.1 (3 + w) (by omega)).1, (b.2.2.1.2.1 (3 + w) (by omega)).2]
      exact g3 w hw
theorem WD_k {x x1 t t1 : MS} (H : W6 x ∧ RWD t) (a : KX x x1) (b : KY t t1) : W6 x1 ∧ RWD t1 := ⟨W6_e H.1 (a.2 6 (by omega)), RWD_e H.2 b.2.1⟩
theorem FLT_k {x x1 t t1 : MS} (H : FLT x t) (a : gI x1 100 = gI x 100 ∧ gI x1 101 = gI x 101) (b : gI t1 7 = gI t 7 ∧ gI t1 8 = gI t 8) : FLT x1 t1 := by
  unfold FLT at H ⊢
  rw [a.1, a.2, b.1, b.2]; exact H
theorem TPJ_0 {x t : MS} (a : gI x 61 = 0) (b : gI t 1 = 0) : TPJ x t := ⟨a.trans b.symm, fun j hj => absurd hj (by omega)⟩
theorem KY_KT {t o : MS} (h : KT t o) : KY t o := ⟨h.2.1 47 (by decide), fun k hk => h.2.2.1 k (by intro m; simp at m; omega), h.1.1, h.1.2⟩
theorem s_refuse {p : Int} {s : MS} : pc (m_x11_refuse p s) (fun q => q.1 = -1) := by
  unfold m_x11_refuse
  exact pc_rdI (fun _ => pc_inb (pc_stn (fun s3 _ => pc_some rfl)))
theorem sw_p {s : MS} {k : Nat} (h : 580 ≤ k ∧ k ≤ 779) : gI (swS s) k = gI s (k + 200) := if_pos h
theorem sw_o {s : MS} {k : Nat} (h : k < 580 ∨ 979 < k) : gI (swS s) k = gI s k := by
  show (if 580 ≤ k ∧ k ≤ 779 then s.1 (k + 200) else if 780 ≤ k ∧ k ≤ 979 then s.1 (k - 200) else s.1 k) = s.1 k
  rw [if_neg (by omega), if_neg (by omega)]
theorem sw_P {s : MS} {k : Nat} (h : 29 ≤ k ∧ k ≤ 38) : gA (swS s) k = gA s (k + 10) := if_pos h
theorem sw_O {s : MS} {k : Nat} (h : k < 29 ∨ 48 < k) : gA (swS s) k = gA s k := by
  show (if 29 ≤ k ∧ k ≤ 38 then s.2.2.1 (k + 10) else if 39 ≤ k ∧ k ≤ 48 then s.2.2.1 (k - 10) else s.2.2.1 k) = s.2.2.1 k
  rw [if_neg (by omega), if_neg (by omega)]
theorem m_109 {T : MS} (h5 : gI T 5 = 0) (h6 : gI T 6 = -1) (h45 : 0 ≤ gI T 45 ∧ gI T 45 ≤ 1600) : pc (m_x12_store_J109 T) (fun o => ∃ s3 T3, (gI s3 7 = 0 ∧ gI s3 8 = -1 ∧ Fr [7, 8] [] [] [] T s3) ∧ STD3 s3 T3 ∧ m_x12_stands_L193 FU 0 T3 = some o.2 ∧ o.1 = gI o.2 46) := by
  unfold m_x12_store_J109
  refine pc_stn (fun s2 e2 => pc_stn (fun s3 e3 => ?_))
  have i5 : gI s3 5 = gI T 5 := (q_Ii e3 (by decide)).trans (q_Ii e2 (by decide))
  have i7 : gI s3 7 = 0 := ((q_Ii e3 (by decide)).trans (q_II e2)).trans h5
  have i8 : gI s3 8 = -1 := ((q_II e3).trans (q_Ii e2 (by decide))).trans h6
  have i45 : gI s3 45 = gI T 45 := (q_Ii e3 (by decide)).trans (q_Ii e2 (by decide))
  have F : Fr [7, 8] [] [] [] T s3 := by
    subst e3; subst e2
    exact Fr.uI (Fr.uI (Fr.rf T) (by decide)) (by decide)
  refine pc_rg (pc_if (fun c => ?_) (fun c => absurd (i5.trans h5) c))
  refine pc_bq (m_std (P := fun s7 => ∃ T3, STD3 s3 T3 ∧ m_x12_stands_L193 FU 0 T3 = some s7) (by omega) (fun T3 h o eo => ⟨T3, h, eo⟩)) (fun s7 h7 => pc_some ?_)
  obtain ⟨T3, a, b⟩ := h7
  exact ⟨s3, T3, ⟨i7, i8, F⟩, a, b, rfl⟩
set_option maxHeartbeats 1000000 in
/-- STORE on both sides: one answer, and alike what is told then -/
theorem y_store {x t : MS} {ts : List MS} (hC : CI x ts) (hR : Rr t) (hJ : JI t) (H : PJ x t) : pc (m_x11_store x) (fun q => pc (m_x12_store t) (fun o => q.1 = o.1 ∧ PJ q.2 o.2)) := by
  obtain ⟨⟨hW, hD⟩, ⟨hl, hT⟩, hF, hP⟩ := H
  unfold m_x11_store
  refine pc_bn (fun q3 e3 => pc_stn (fun s4 e4 => ?_))
  have Y := y_readStore hC.1 hW hl hT hD q3 e3
  have F3 : F_x6_readStore x q3.2 := fr_x6_readStore e3
  have R3 := (wp_det (w_x6_readStore hC.1) e3).1
  have I4 : ∀ i, i ≠ 61 → gI s4 i = gI q3.2 i := fun i hi => q_Ii e4 hi
  have A4 : ∀ k, gA s4 k = gA q3.2 k := fun k => q_Ia e4
  refine pc_rg (pc_if (fun c => pc_bn (fun q17 e17 => pc_some (fun o eo => ?_))) (fun c => pc_eqg (pc_stn (fun s8 e8 => pc_bn (fun s10 e10 => pc_bn (fun s12 e12 => pc_stn (fun s13 e13 => pc_stn (fun s14 e14 => pc_some (fun o eo => ?_)))))))))
  · have o1 := (wp_det (w_x12_store hR hJ) eo).2.2
    have F17 : F_x11_refuse s4 q17.2 := fr_x11_refuse e17
    have XI : ∀ i, i ≠ 61 → gI q17.2 i = gI q3.2 i := fun i hi => (F17.1 i (by simp)).trans (I4 i hi)
    have XA : ∀ k, k ≠ 2 → gA q17.2 k = gA q3.2 k := fun k hk => (F17.2.1 k (by intro m; simp at m; omega)).trans (A4 k)
    rcases Y o eo with ⟨_, n100, a1, a7, a8⟩ | ⟨a, _⟩
    · have K := KY_KT (r_keep hR o eo (by rw [a7]; exact n100))
      have KX1 : KX x q17.2 := ⟨fun i hi => (XI i (by omega)).trans (F3.1 i (by intro m; simp at m; omega)), fun k hk => (XA k (by omega)).trans (F3.2.1 k (by intro m; simp at m; omega))⟩
      refine ⟨(s_refuse q17 e17).trans a1.symm, WD_k ⟨hW, hD⟩ KX1 K, TPJ_0 ((F17.1 61 (by simp)).trans (q_II e4)) o1, ⟨by rw [XI 100 (by decide)]; exact a7, fun _ => by rw [XI 101 (by decide)]; exact a8, fun z => absurd ((XI 100 (by decide)).symm.trans z) n100⟩, PTJ_k hP KX1 K⟩
    · exact absurd (a.symm.trans c) (by decide)
  · have o1 := (wp_det (w_x12_store hR hJ) eo).2.2
    rcases Y o eo with ⟨a, _⟩ | ⟨_, z100, T, ⟨T5, T6⟩, P, T46, T783, eJ⟩
    · exact absurd a c
    · have b941 : (0 : Int) ≤ gI q3.2 941 ∧ gI q3.2 941 ≤ 1600 := R3.1 941
      obtain ⟨PN, PA, PH, PC, _⟩ := P
      obtain ⟨s3, T3, ⟨j7, j8, Fs3⟩, D3, eL, jo⟩ := m_109 T5 T6 (by rw [PC.1.1]; exact b941) o eJ
      have FL := m_std2 FU 0 T3 o.2 eL
      obtain ⟨⟨d39, _⟩, dC, dN, dK, _, d47, Fd⟩ := D3
      have F10 : F_x1_build s8 s10 := fr_x1_build e10
      have F12 : F_x2_clear s10 s12 := fr_x2_clear e12
      have XI : ∀ i, i < 1000 → i ≠ 12 → i ≠ 220 → i ≠ 143 → i ≠ 145 → gI s14 i = gI (swS s4) i := fun i h1 h2 h3 h4 h5 => by
        rw [(q_Ii e14 h2 : gI s14 i = gI s13 i), (q_Ii e13 h3 : gI s13 i = gI s12 i), F12.1 i (by intro m; simp at m; omega), F10.1 i (by intro m; simp at m; omega), (q_Ii e8 (by omega) : gI s8 i = gI (swS s4) i)]
      have XA : ∀ k, k < 50 → gA s14 k = gA (swS s4) k := fun k h1 => by
        rw [(q_Ia e14 : gA s14 k = gA s13 k), (q_Ia e13 : gA s13 k = gA s12 k), F12.2.1 k (by simp), F10.2.1 k (by intro m; simp at m; omega), (q_Ia e8 : gA s8 k = gA (swS s4) k)]
      have XS : ∀ i, 580 ≤ i → i ≤ 779 → gI s14 i = gI q3.2 (i + 200) := fun i h1 h2 => by
        rw [XI i (by omega) (by omega) (by omega) (by omega) (by omega), sw_p ⟨h1, h2⟩, I4 _ (by omega)]
      have XT : ∀ k, 29 ≤ k → k ≤ 38 → gA s14 k = gA q3.2 (k + 10) := fun k h1 h2 => by
        rw [XA k (by omega), sw_P ⟨h1, h2⟩, A4]
      have OI : ∀ i, i ∉ [48, 50, 51, 52, 53, 55, 73, 76, 108] → i ≠ 47 → gI o.2 i = gI s3 i := fun i h1 h2 => (FL.1 i h1).trans (Fd.1 i (by intro m; simp at m; omega))
      have s3I : ∀ i, i ≠ 7 → i ≠ 8 → gI s3 i = gI T i := fun i h1 h2 => Fs3.1 i (by intro m; simp at m; omega)
      have s3A : ∀ k, gA s3 k = gA T k := fun k => Fs3.2.1 k (by simp)
      have s3B : ∀ k, gB s3 k = gB T k := fun k => Fs3.2.2.2 k (by simp)
      have O39 : ∀ k : Nat, k < 5 → gA o.2 39 (5 + k) = gA T 39 k := fun k hk => by
        rw [FL.2.1 39 (by decide), d39 k hk, s3A]
      refine ⟨?_, ⟨?_, ?_⟩, TPJ_0 ?_ o1, ⟨?_, ?_, ?_⟩, ⟨⟨?_, ⟨?_, ?_⟩⟩, fun _ => ⟨⟨?_, ?_, ?_⟩, ⟨?_, ?_⟩, ?_⟩, fun z => ?_⟩⟩
      · show gI s14 583 = o.1
        rw [jo, OI 46 (by decide) (by decide), s3I 46 (by decide) (by decide), T46, XS 583 (by decide) (by decide)]
      · refine W6_e hW ?_
        show gA s14 6 = gA x 6
        rw [XA 6 (by decide), sw_O (by decide), A4, F3.2.1 6 (by decide)]
      · exact RWD_e hD (fun k hk => by
          have F : F_x12_store t o.2 := fr_x12_store eo
          exact F.2.1 k (by intro m; simp at m; omega))
      · show gI s14 61 = 0
        rw [XI 61 (by decide) (by decide) (by decide) (by decide) (by decide), sw_o (by decide)]
        exact q_II e4
      · show gI o.2 7 = gI s14 100
        rw [OI 7 (by decide) (by decide), j7, XI 100 (by decide) (by decide) (by decide) (by decide) (by decide), sw_o (by decide), I4 100 (by decide), z100]
      · intro z
        exact absurd (show gI s14 100 = 0 by rw [XI 100 (by decide) (by decide) (by decide) (by decide) (by decide), sw_o (by decide), I4 100 (by decide), z100]) z
      · intro _
        rw [OI 8 (by decide) (by decide), j8]
      · show gI o.2 47 = gI s14 12
        rw [FL.1 47 (by decide), d47]
        exact (q_II e14).symm
      · rw [show gI s14 584 = gI q3.2 784 from XS 584 (by decide) (by decide), show gA o.2 39 7 = gA T 39 2 from O39 2 (by decide)]
        exact PN.1
      · intro v hv
        have hv' : (v : Int) < gI q3.2 784 := by rw [← show gI s14 584 = gI q3.2 784 from XS 584 (by decide) (by decide)]; exact hv
        rw [show gA s14 30 = gA q3.2 40 from XT 30 (by decide) (by decide), FL.2.2.2 40 (by decide), dN v (by have := PN.1; omega), s3B]
        exact PN.2 v hv'
      · rw [show gI s14 580 = gI q3.2 780 from XS 580 (by decide) (by decide), show gA o.2 39 5 = gA T 39 0 from O39 0 (by decide)]; exact PH.1
      · rw [show gI s14 581 = gI q3.2 781 from XS 581 (by decide) (by decide), show gA o.2 39 6 = gA T 39 1 from O39 1 (by decide)]; exact PH.2.1
      · rw [show gI s14 582 = gI q3.2 782 from XS 582 (by decide) (by decide), show gA o.2 39 9 = gA T 39 4 from O39 4 (by decide)]; exact PH.2.2
      · intro j hj
        have hj' : (j : Int) < gI q3.2 941 := by rw [← show gI s14 741 = gI q3.2 941 from XS 741 (by decide) (by decide)]; exact hj
        rw [show gA s14 38 = gA q3.2 48 from XT 38 (by decide) (by decide), FL.2.1 44 (by decide), dK j (by rw [s3I 45 (by decide) (by decide), PC.1.1]; exact hj'), s3A]
        exact PC.2.1 j hj'
      · intro w hw
        rw [show gA s14 35 = gA q3.2 45 from XT 35 (by decide) (by decide), show gA s14 36 = gA q3.2 46 from XT 36 (by decide) (by decide), FL.2.1 42 (by decide), FL.2.1 43 (by decide), (dC w hw).1, (dC w hw).2, s3A, s3A]
        exact PC.2.2.1 w hw
      · rw [show gA s14 35 = gA q3.2 45 from XT 35 (by decide) (by decide), show gA s14 36 = gA q3.2 46 from XT 36 (by decide) (by decide), show gA s14 38 = gA q3.2 48 from XT 38 (by decide) (by decide), show gI s14 741 = gI q3.2 941 from XS 741 (by decide) (by decide)]
        exact PC.2.2.2
      · exact absurd ((q_II e14 : gI s14 12 = 1).symm.trans z) (by decide)
theorem y_fault {p : Int} {x t : MS} (H : FLT x t) : pc (m_x11_fault p x) (fun r => pc (m_x12_fault p t) (fun r2 => r = r2)) := by
  have m : pc (m_x12_fault p t) (fun r2 => (p = 0 ∧ r2 = gI t 7) ∨ (p = 1 ∧ r2 = gI t 8) ∨ ((p ≠ 0 ∧ p ≠ 1) ∧ r2 = -1)) := by
    unfold m_x12_fault m_x12_fault_J24
    exact pc_rg (pc_if (fun c => pc_some (Or.inl ⟨c, rfl⟩)) (fun c => pc_rg (pc_if (fun c2 => pc_some (Or.inr (Or.inl ⟨c2, rfl⟩))) (fun c2 => pc_some (Or.inr (Or.inr ⟨⟨c, c2⟩, rfl⟩))))))
  have s : pc (m_x11_fault p x) (fun r => (p = 0 ∧ r = gI x 100) ∨ (p = 1 ∧ gI x 100 = 0 ∧ r = -1) ∨ (p = 1 ∧ gI x 100 ≠ 0 ∧ r = gI x 101) ∨ ((p ≠ 0 ∧ p ≠ 1) ∧ r = -1)) := by
    unfold m_x11_fault m_x11_fault_J37 m_x11_fault_J38
    exact pc_rg (pc_if (fun c => pc_some (Or.inl ⟨c, rfl⟩)) (fun c => pc_rg (pc_if (fun c2 => pc_rg (pc_if (fun c3 => pc_some (Or.inr (Or.inl ⟨c2, c3, rfl⟩))) (fun c3 => pc_some (Or.inr (Or.inr (Or.inl ⟨c2, c3, rfl⟩)))))) (fun c2 => pc_some (Or.inr (Or.inr (Or.inr ⟨⟨c, c2⟩, rfl⟩)))))))
  intro r er r2 er2
  obtain ⟨h1, h2, h3⟩ := H
  rcases s r er with ⟨a, b⟩ | ⟨a, b, c⟩ | ⟨a, b, c⟩ | ⟨⟨a, b⟩, c⟩
  · rcases m r2 er2 with ⟨d, e⟩ | ⟨d, e⟩ | ⟨⟨d, _⟩, e⟩
    · rw [b, e, h1]
    · omega
    · exact absurd a d
  · rcases m r2 er2 with ⟨d, e⟩ | ⟨d, e⟩ | ⟨⟨_, d⟩, e⟩
    · omega
    · rw [c, e, h3 b]
    · exact absurd a d
  · rcases m r2 er2 with ⟨d, e⟩ | ⟨d, e⟩ | ⟨⟨_, d⟩, e⟩
    · omega
    · rw [c, e, h2 b]
    · exact absurd a d
  · rcases m r2 er2 with ⟨d, e⟩ | ⟨d, e⟩ | ⟨_, e⟩
    · exact absurd d a
    · exact absurd d b
    · rw [c, e]
theorem nv_dv {g : Nat → Int} {n : Nat} (h : ∀ j, j < n + 1 → 1 ≤ g j ∧ g j ≤ 26) : Int.tdiv (nv g (n + 1)) 27 = nv g n ∧ Int.tmod (nv g (n + 1)) 27 = g n ∧ 0 < nv g (n + 1) := by
  have a := h n (by omega)
  have b := nv_pos (n := n) (fun j hj => h j (by omega))
  have e : nv g (n + 1) = 27 * nv g n + g n := rfl
  rw [e, Int.tdiv_eq_ediv_of_nonneg (by omega), Int.tmod_eq_emod_of_nonneg (by omega)]
  omega
theorem pc_rgL2 {α : Type} {x : Int} {k : Option α} {P : α → Prop} (h : pc k P) : pc (rgL x k) P := pc_rgL h
theorem m_l84 {t : MS} {g : Nat → Int} {k N : Nat} (hg : ∀ j, j < N → 1 ≤ g j ∧ g j ≤ 26) : ∀ (n : Nat) (q : Nat), k ≤ q → q < N → pc (m_x12_letter_L84 t n (k : Int) (nv g (q + 1)) (q : Int)) (fun r => r = g k) := by
  refine fr_ind (fun _ _ _ => pc_none) (fun n ih q h1 h2 => ?_)
  show pc (m_x12_letter_b84 t (m_x12_letter_L84 t n) (k : Int) (nv g (q + 1)) (q : Int)) _
  unfold m_x12_letter_b84
  have d := nv_dv (n := q) (fun j hj => hg j (by omega))
  refine pc_rg (pc_rg (pc_if (fun c => pc_dvL (pc_some ?_)) (fun c => pc_dvL ?_)))
  · rw [d.2.1, show q = k by omega]
  · rw [d.1]
    obtain ⟨q', hq'⟩ : ∃ q', q = q' + 1 := ⟨q - 1, by omega⟩
    subst hq'
    have := ih q' (by omega) (by omega)
    rw [show ((q' + 1 : Nat) : Int) + -1 = (q' : Int) by omega]
    exact this
theorem m_l49 {t : MS} {g : Nat → Int} {k N : Nat} (hg : ∀ j, j < N → 1 ≤ g j ∧ g j ≤ 26) : ∀ (n : Nat) (m : Nat), m ≤ N → pc (m_x12_letter_L49 t n (k : Int) (nv g N) ((N : Int) - (m : Int)) (nv g m)) (fun r => (k < N ∧ r = g k) ∨ (N ≤ k ∧ r = 0)) := by
  refine fr_ind (fun _ _ => pc_none) (fun n ih m hm => ?_)
  show pc (m_x12_letter_b49 t (m_x12_letter_L49 t n) (k : Int) (nv g N) ((N : Int) - (m : Int)) (nv g m)) _
  unfold m_x12_letter_b49
  cases m with
  | zero =>
    refine pc_rgL (pc_if (fun _ => pc_rg (pc_rg (pc_if (fun c => ?_) (fun c => pc_some (Or.inr ⟨by omega, rfl⟩))))) (fun c => absurd (Int.le_refl 0) c))
    obtain ⟨q, hq⟩ : ∃ q, N = q + 1 := ⟨N - 1, by omega⟩
    have e : (N : Int) - ((0 : Nat) : Int) - 1 = (q : Int) := by omega
    rw [e, hq]
    exact pc_mono (m_l84 (t := t) (g := g) (k := k) (N := q + 1) (by rw [← hq]; exact hg) FU q (by omega) (by omega)) (fun r hr => Or.inl ⟨by omega, hr⟩)
  | succ m =>
    have d := nv_dv (n := m) (fun j hj => hg j (by omega))
    refine pc_rgL (pc_if (fun c => absurd c (by omega)) (fun _ => pc_dvL ?_))
    rw [d.1, show (N : Int) - ((m + 1 : Nat) : Int) + 1 = (N : Int) - (m : Int) by omega]
    exact ih m (by omega)
theorem y_letter {p k : Int} {x t : MS} (H : PTJ x t) (hp : R2 p) (hk : R2 k) : pc (m_x11_letter p k x) (fun r => pc (m_x12_letter p k t) (fun r2 => r = r2)) := by
  obtain ⟨⟨h47, ⟨n1, n2, n3⟩, nm⟩, _, hn⟩ := H
  have s : pc (m_x11_letter p k x) (fun r => (((0 ≤ p ∧ p < gI x 584) ∧ (0 ≤ k ∧ k < 6)) ∧ r = gA x 30 (p * 6 + k).toNat) ∨ (¬ ((0 ≤ p ∧ p < gI x 584) ∧ (0 ≤ k ∧ k < 6)) ∧ r = -1)) := by
    unfold m_x11_letter m_x11_letter_J32
    exact pc_rg (pc_if (fun c => pc_some (Or.inr ⟨by have := hn c; omega, rfl⟩)) (fun _ => pc_rg (pc_if (fun c => pc_some (Or.inr ⟨by omega, rfl⟩)) (fun c1 => pc_rg (pc_rg (pc_if (fun c => pc_some (Or.inr ⟨by omega, rfl⟩)) (fun c2 => pc_rg (pc_if (fun c => pc_some (Or.inr ⟨by omega, rfl⟩)) (fun c3 => pc_rg (pc_if (fun c4 => pc_rdI (fun _ => pc_some (Or.inl ⟨by omega, rfl⟩))) (fun c => pc_some (Or.inr ⟨by omega, rfl⟩))))))))))))
  have m : pc (m_x12_letter p k t) (fun r2 => (((0 ≤ p ∧ p < gI x 584) ∧ (0 ≤ k ∧ k < 6)) ∧ r2 = gA x 30 (p * 6 + k).toNat) ∨ (¬ ((0 ≤ p ∧ p < gI x 584) ∧ (0 ≤ k ∧ k < 6)) ∧ r2 = -1)) := by
    unfold m_x12_letter m_x12_letter_J31
    refine pc_rg (pc_rdI (fun _ => pc_rg (pc_bq y_isIn (fun r23 h23 => pc_rg (pc_if (fun c => pc_some (Or.inr ⟨?_, rfl⟩)) (fun c => pc_rg (pc_bq y_isIn (fun r28 h28 => pc_rg (pc_if (fun c2 => pc_some (Or.inr ⟨?_, rfl⟩)) (fun c2 => pc_rdL ?_))))))))))
    · have e : gA t 39 (Int.toNat 7) = gI x 584 := n1
      omega
    · omega
    · have e : gA t 39 (Int.toNat 7) = gI x 584 := n1
      have q1 : 0 ≤ p ∧ p < gI x 584 := by omega
      have q2 : 0 ≤ k ∧ k < 6 := by omega
      obtain ⟨N, a1, a2, a3, a4⟩ := nm p.toNat (by omega)
      have e2 : gB t 40 (Int.toNat (8 + p)) = nv (fun j => gA x 30 (p.toNat * 6 + j)) N := by rw [show Int.toNat (8 + p) = 8 + p.toNat by omega]; exact a4
      rw [e2]
      have L := m_l49 (t := t) (g := fun j => gA x 30 (p.toNat * 6 + j)) (k := k.toNat) (N := N) a2 FU N (Nat.le_refl N)
      rw [show ((k.toNat : Nat) : Int) = k by omega, Int.sub_self] at L
      refine pc_mono L (fun r hr => Or.inl ⟨⟨q1, q2⟩, ?_⟩)
      rw [show (p * 6 + k).toNat = p.toNat * 6 + k.toNat by omega]
      rcases hr with ⟨_, b⟩ | ⟨a, b⟩
      · exact b
      · rw [b]; exact (a3 k.toNat a (by omega)).symm
  intro r er r2 er2
  rcases s r er with ⟨a, b⟩ | ⟨a, b⟩
  · rcases m r2 er2 with ⟨_, d⟩ | ⟨c, _⟩
    · rw [b, d]
    · exact absurd a c
  · rcases m r2 er2 with ⟨c, _⟩ | ⟨_, d⟩
    · exact absurd c a
    · rw [b, d]
