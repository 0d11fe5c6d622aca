/-! ===== an image, as the class judges it ===== -/
theorem y_seal {S T : MS} {e : Nat} (he : e ≤ 1599) (ht : ∀ j, j < e → gA S 4 j = gA T 0 j) : pc (m_x4_seal_v2 (e : Int) S) (fun r => pc (m_x12_checked_v2 (e : Int) T) (fun r2 => r = r2)) := by
  have L : ∀ (n m : Nat) (acc i : Int), 0 ≤ i → pc (m_x4_seal_v2_L6 S n (e : Int) acc i) (fun r => pc (m_x12_checked_v2_L6 T m (e : Int) acc i) (fun r2 => r = r2)) := by
    refine fr_ind (fun _ _ _ _ => pc_none) (fun n ih m acc i hi => ?_)
    cases m with
    | zero => exact fun q _ => pc_none
    | succ m =>
      show pc (m_x4_seal_v2_b6 S (m_x4_seal_v2_L6 S n) (e : Int) acc i) _
      unfold m_x4_seal_v2_b6 m_x4_seal_v2_J35
      refine pc_rg (pc_rg (pc_if (fun c => pc_some ?_) (fun c => pc_rg (pc_if (fun c2 => absurd c2 (by omega)) (fun _ => pc_rdI (fun _ => pc_dv (fun q eq => ?_)))))))
      · show pc (m_x12_checked_v2_b6 T (m_x12_checked_v2_L6 T m) (e : Int) acc i) _
        unfold m_x12_checked_v2_b6
        exact pc_rg (pc_rg (pc_if (fun _ => pc_some rfl) (fun d => absurd c d)))
      · show pc (m_x12_checked_v2_b6 T (m_x12_checked_v2_L6 T m) (e : Int) acc i) _
        unfold m_x12_checked_v2_b6
        refine pc_rg (pc_rg (pc_if (fun d => absurd d c) (fun _ => pc_rdI (fun _ => pc_dv ?_))))
        rw [← ht i.toNat (by omega)]
        exact ih m _ (i + 1) (by omega) q eq
  unfold m_x4_seal_v2 m_x12_checked_v2
  exact L FU FU 157 0 (Int.le_refl 0)
/-- the rows that the class has read -/
def RWs (g : Nat → Int) (N : Nat) (X : MS) : Prop := (∀ x, x < N → CRB X g (PO g x) x) ∧ HRT X g 8 ∧ (gI X 1421 = cst g ∧ gI X 1420 = (N : Int)) ∧ Rg X ∧ ∀ x, N ≤ x → x < 48 → gA X 72 x = 0 ∧ gA X 73 x = 0
def CLc (g : Nat → Int) (e N : Nat) (E : Int) (S : MS) : Prop := 19 ≤ e ∧ (∀ r, m_x4_seal_v2 (e : Int) S = some r → g e = r) ∧ cst g ≤ 999999 ∧ HLT g (N : Int) 8 ∧ IMC g e N E 0 19
set_option maxHeartbeats 1000000 in
theorem s_load {g : Nat → Int} {e N : Nat} {E : Int} {S : MS} (hR : Rg S) (hN : N ≤ 48) (hE : 3 ≤ E ∧ E ≤ 6) (BY : ∀ j, j ≤ e → 0 ≤ g j ∧ g j ≤ 255) (hT : gA S 4 = g) (h61 : gI S 61 = (e : Int) + 1) : pc (m_x4_load (N : Int) E S) (fun q => (q.1 = 0 ∨ q.1 = 1) ∧ (q.1 = 1 → CLc g e N E S ∧ ∃ (X : MS) (q' : Int × MS), m_x4_isSound X = some q' ∧ RWs g N X ∧ q'.1 ≠ 0 ∧ q.2 = q'.2) ∧ (CLc g e N E S → ∃ (X : MS) (q' : Int × MS), m_x4_isSound X = some q' ∧ RWs g N X ∧ (q'.1 ≠ 0 → q.1 = 1))) := by
  have E1 : gI S 61 - 1 = (e : Int) := by omega
  have F0 : ∀ (X : MS), ¬ CLc g e N E S → ((0 : Int) = 0 ∨ (0 : Int) = 1) ∧ ((0 : Int) = 1 → CLc g e N E S ∧ ∃ (X' : MS) (q' : Int × MS), m_x4_isSound X' = some q' ∧ RWs g N X' ∧ q'.1 ≠ 0 ∧ X = q'.2) ∧ (CLc g e N E S → ∃ (X' : MS) (q' : Int × MS), m_x4_isSound X' = some q' ∧ RWs g N X' ∧ (q'.1 ≠ 0 → (0 : Int) = 1)) := fun X w => ⟨Or.inl rfl, fun v => absurd v (by decide), fun v => absurd v w⟩
  unfold m_x4_load m_x4_load_J33
  rw [E1]
  refine pc_rg (pc_if (fun c => pc_some (F0 S (fun w => by have := w.1; omega))) (fun c => pc_bq s_at (fun r30 h30 => pc_bn (fun r32 e32 => pc_rg (pc_rg (pc_if (fun c2 => ?_) (fun c2 => pc_some (F0 S (fun w => c2 ?_)))))))))
  rotate_left
  · rw [hT, h61, Int.toNat_natCast] at h30
    have y := w.2.1 r32 e32
    rcases h30 with ⟨_, a⟩ | ⟨a, _⟩
    · rw [a]; exact y
    · exfalso; omega
  rw [hT, h61, Int.toNat_natCast] at h30
  have r30e : r30 = g e := by
    rcases h30 with ⟨_, a⟩ | ⟨a, _⟩
    · exact a
    · exfalso; omega
  have hk : ∀ r, m_x4_seal_v2 (e : Int) S = some r → g e = r := fun r er => by
    rw [e32] at er
    have := Option.some.inj er
    rw [← this, ← r30e]; exact c2
  have he : 19 ≤ e := by omega
  refine pc_bn (fun s37 e37 => pc_stn (fun s38 e38 => pc_bn (fun q41 e41 => ?_)))
  obtain ⟨R37, n37, z37⟩ := wp_det (w_clear hR (p0 := (N : Int)) ⟨by omega, by omega⟩) e37
  have F37 : F_x8_clear S s37 := fr_x8_clear e37
  have T38 : TPc s38 g e := ⟨((q_Ia e38).trans (F37.2.1 4 (by decide))).trans hT, ((q_Ii e38 (by decide)).trans (F37.1 61 (by decide))).trans h61⟩
  have n38 : gI s38 1420 = (N : Int) := (q_Ii e38 (by decide)).trans n37
  have R38 : Rg s38 := e38 ▸ Rg.uI R37 (by show (0 : Int) ≤ 0 ∧ (0 : Int) ≤ 100000; omega)
  obtain ⟨a1, a2, a3, a4, a5, a6, a7, a8⟩ := s_head he n38 T38 (q_II e38) q41 e41
  have W41 := wp_det (w_x4_loadHead R38 (q_II e38)) e41
  refine pc_rg (pc_if (fun c3 => pc_some (F0 q41.2 (fun w => ?_))) (fun c3 => ?_))
  · have y := a4.2 ⟨w.2.2.1, w.2.2.2.1⟩
    omega
  have q1 : q41.1 = 1 := a1.resolve_left c3
  have hd := a4.1 q1
  have L := s_L59 hN hE BY FU 0 19 q41.2 (by omega) (by rw [a8 1420 (by decide) (by decide)]; exact n38) a2 a3 (fun _ => ⟨rfl, fun x hx => absurd hx (by omega)⟩) W41.1 (by omega) (fun x _ x2 => by
    have y := z37 x x2
    rw [a7 72 (by decide) (by decide), a7 73 (by decide) (by decide), a7 75 (by decide) (by decide), (q_Ia e38 : gA s38 72 = _), (q_Ia e38 : gA s38 73 = _), (q_Ia e38 : gA s38 75 = _)]
    exact ⟨y.1, y.2.1, y.2.2.2⟩)
  refine pc_mono L (fun q hq => ?_)
  have ROW : ∀ (X : MS) (x2 : ∀ x, x < N → CRB X g (PO g x) x) (x3 : FRX q41.2 X) (x6 : Rg X) (x7 : ∀ x, N ≤ x → x < 48 → gA X 72 x = 0 ∧ gA X 73 x = 0), RWs g N X := fun X x2 x3 x6 x7 => by
    refine ⟨x2, fun v hv => ?_, ⟨by rw [x3.2 1421 (by decide)]; exact a6, by rw [x3.2 1420 (by decide), a8 1420 (by decide) (by decide)]; exact n38⟩, x6, x7⟩
    rw [x3.1 78 (by decide), x3.1 79 (by decide)]; exact a5 v hv
  by_cases w : IMC g e N E 0 19
  · obtain ⟨X, q', x1, x2, x3, x4, x5, x6, x7⟩ := hq.1 w
    refine ⟨?_, fun v => ⟨⟨he, hk, hd.1, hd.2, w⟩, X, q', x1, ROW X x2 x3 x6 x7, fun z => ?_, x5⟩, fun _ => ⟨X, q', x1, ROW X x2 x3 x6 x7, fun z => by rw [x4, if_neg z]⟩⟩
    · rw [x4]; split
      · exact Or.inl rfl
      · exact Or.inr rfl
    · rw [x4, if_pos z] at v
      exact absurd v (by decide)
  · have z := hq.2 w
    exact ⟨Or.inl z, fun v => absurd (z.symm.trans v) (by decide), fun v => absurd v.2.2.2.2 w⟩
