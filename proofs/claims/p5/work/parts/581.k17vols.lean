/-! ===== volumes' names on both sides ===== -/
/-- six letters and their number -/
def NM1 (g : Nat → Int) (z : Int) : Prop := ∃ n : Nat, (1 ≤ n ∧ n ≤ 6) ∧ (∀ j, j < n → 1 ≤ g j ∧ g j ≤ 26) ∧ (∀ j, n ≤ j → j < 6 → g j = 0) ∧ z = nv g n
theorem NM1_eq {f g : Nat → Int} {y z : Int} (hf : NM1 f y) (hg : NM1 g z) : y = z ↔ ∀ j, j < 6 → f j = g j := by
  obtain ⟨n, n1, n2, n3, n4⟩ := hf
  obtain ⟨m, m1, m2, m3, m4⟩ := hg
  constructor
  · intro e
    obtain ⟨i1, i2⟩ := nv_inj n2 m2 (by rw [← n4, ← m4]; exact e)
    intro j hj
    by_cases z : j < n
    · exact i2 j z
    · rw [n3 j (by omega) hj, m3 j (by omega) hj]
  · intro e
    have nm : n = m := by
      by_cases a : n < m
      · have b := m2 n a
        have c := n3 n (by omega) (by omega)
        have d := e n (by omega)
        omega
      · by_cases a2 : m < n
        · have b := n2 m a2
          have c := m3 m (by omega) (by omega)
          have d := e m (by omega)
          omega
        · omega
    rw [n4, m4, ← nm]
    exact nv_e (fun j hj => e j (by omega))
/-- the same volumes by name -/
def NMS (s t : MS) : Prop := (gA t 39 2 = gI s 784 ∧ 0 ≤ gI s 784 ∧ gI s 784 ≤ 8) ∧ ∀ v : Nat, (v : Int) < gI s 784 → NM1 (fun j => gA s 40 (v * 6 + j)) (gB t 40 v)
theorem NMS_e {s s' t t' : MS} (h : NMS s t) (a : gI s' 784 = gI s 784) (b : gA s' 40 = gA s 40) (c : gA t' 39 2 = gA t 39 2) (d : gB t' 40 = gB t 40) : NMS s' t' := by
  unfold NMS
  rw [a, b, c, d]; exact h
theorem lt_nm {s : MS} (hT : TK s) (k : gI s 107 = 1) (l : gI s 109 - gI s 108 ≤ 6) : NM1 (lt s) (nv (lt s) (gI s 109 - gI s 108).toNat) := by
  have w := TK_w hT k
  have k0 := hT.1
  have w1 := w.1
  refine ⟨_, by omega, fun j hj => ?_, fun j hj h6 => lt_out (by omega), rfl⟩
  rw [lt_in (by omega)]
  have q := w.2.2.1.2.1 ((gI s 108).toNat + j) (by omega) (by omega)
  omega
/-- volume v bears the name at hand -/
def SAM (s : MS) (v : Nat) : Prop := ∀ k, k < 6 → gA s 40 (v * 6 + k) = lt s k
theorem SAM_iff {s t : MS} (hN : NMS s t) (hT : TK s) (k : gI s 107 = 1) (l : gI s 109 - gI s 108 ≤ 6) {v : Nat} (hv : (v : Int) < gI s 784) : gB t 40 v = nv (lt s) (gI s 109 - gI s 108).toNat ↔ SAM s v := NM1_eq (hN.2 v hv) (lt_nm hT k l)
theorem s_let {s : MS} {k : Nat} (h0 : 0 ≤ gI s 108) (h9 : gI s 109 ≤ gI s 61) : pc (m_x5_letterAt (gI s 108 + (k : Int)) (gI s 109) s) (fun r => r = lt s k) := by
  unfold m_x5_letterAt m_x5_letterAt_J19
  refine pc_rg (pc_rg (pc_if (fun c => pc_some (lt_out (by omega)).symm) (fun c => pc_bq s_at (fun r6 h6 => pc_some ?_))))
  rw [lt_in (by omega)]
  rcases h6 with q | q
  · rw [q.2, show (gI s 108 + (k : Int)).toNat = (gI s 108).toNat + k by omega]
  · omega
theorem s_vol {s : MS} (h0 : 0 ≤ gI s 108) (h9 : gI s 109 ≤ gI s 61) : pc (m_x5_volumeNamed (gI s 108) (gI s 109) s) (fun r => (r = -1 ∧ ∀ v : Nat, (v : Int) < gI s 784 → ¬ SAM s v) ∨ (∃ v : Nat, r = (v : Int) ∧ (v : Int) < gI s 784 ∧ SAM s v ∧ ∀ u, u < v → ¬ SAM s u)) := by
  have O : ∀ (n : Nat) (v : Nat), (∀ u, u < v → ¬ SAM s u) → pc (m_x5_volumeNamed_L3 s n (gI s 108) (gI s 109) (v : Int)) (fun r => (r = -1 ∧ ∀ v : Nat, (v : Int) < gI s 784 → ¬ SAM s v) ∨ (∃ v : Nat, r = (v : Int) ∧ (v : Int) < gI s 784 ∧ SAM s v ∧ ∀ u, u < v → ¬ SAM s u)) := by
    refine fr_ind (fun _ _ => pc_none) (fun n ih v hv => ?_)
    show pc (m_x5_volumeNamed_b3 s (m_x5_volumeNamed_L3 s n) (gI s 108) (gI s 109) (v : Int)) _
    unfold m_x5_volumeNamed_b3
    refine pc_rg (pc_rg (pc_if (fun c => pc_some (Or.inl ⟨rfl, fun u hu => hv u (by omega)⟩)) (fun c => ?_)))
    have I : ∀ (m : Nat) (k : Nat) (x7 : Int), k ≤ 6 → ((x7 = 1 ∧ ∀ j, j < k → gA s 40 (v * 6 + j) = lt s j) ∨ (x7 = 0 ∧ ¬ SAM s v)) → pc (m_x5_volumeNamed_L18 s (m_x5_volumeNamed_L3 s n) m (gI s 108) (gI s 109) (v : Int) x7 (k : Int)) (fun r => (r = -1 ∧ ∀ v : Nat, (v : Int) < gI s 784 → ¬ SAM s v) ∨ (∃ v : Nat, r = (v : Int) ∧ (v : Int) < gI s 784 ∧ SAM s v ∧ ∀ u, u < v → ¬ SAM s u)) := by
      refine fr_ind (fun _ _ _ _ => pc_none) (fun m ih2 k x7 hk hx => ?_)
      show pc (m_x5_volumeNamed_b18 s (m_x5_volumeNamed_L3 s n) (m_x5_volumeNamed_L18 s (m_x5_volumeNamed_L3 s n) m) (gI s 108) (gI s 109) (v : Int) x7 (k : Int)) _
      unfold m_x5_volumeNamed_b18 m_x5_volumeNamed_J59 m_x5_volumeNamed_J60
      have ek : (k : Int) + 1 = ((k + 1 : Nat) : Int) := rfl
      refine pc_rg (pc_if (fun c1 => pc_rg (pc_if (fun c2 => ?_) (fun c2 => pc_some (Or.inr ⟨v, rfl, by omega, ?_, hv⟩)))) (fun c1 => pc_rg (pc_if (fun c2 => ?_) (fun c2 => pc_rdI (fun _ => pc_bq (s_let h0 h9) (fun r26 h26 => pc_rg (pc_rg (pc_if (fun c3 => ?_) (fun c3 => ?_)))))))))
      · have ns : ¬ SAM s v := by
          rcases hx with q | q
          · omega
          · exact q.2
        exact ih (v + 1) (fun u hu => by
          by_cases z : u = v
          · rw [z]; exact ns
          · exact hv u (by omega))
      · rcases hx with q | q
        · exact fun j hj => q.2 j (by omega)
        · exact absurd q.1 c2
      · rw [ek]
        refine ih2 (k + 1) 0 (by omega) (Or.inr ⟨rfl, ?_⟩)
        rcases hx with q | q
        · omega
        · exact q.2
      · rw [show ((v : Int) * 6 + (k : Int)).toNat = v * 6 + k by omega, h26] at c3
        rw [ek]
        refine ih2 (k + 1) 1 (by omega) (Or.inl ⟨rfl, fun j hj => ?_⟩)
        by_cases z : j = k
        · rw [z]; exact c3
        · rcases hx with q | q
          · exact q.2 j (by omega)
          · exact absurd q.1 c2
      · rw [show ((v : Int) * 6 + (k : Int)).toNat = v * 6 + k by omega, h26] at c3
        rw [ek]
        exact ih2 (k + 1) 0 (by omega) (Or.inr ⟨rfl, fun q => c3 (q k (by omega))⟩)
    exact I FU 0 1 (by omega) (Or.inl ⟨rfl, fun j hj => absurd hj (Nat.not_lt_zero j)⟩)
  unfold m_x5_volumeNamed
  exact O FU 0 (fun u hu => absurd hu (Nat.not_lt_zero u))
theorem s_expVol {s : MS} (h0 : gI s 100 = 0) (hT : TK s) : pc (m_x6_expectVolume s) (fun q => (¬ NAM s ∧ gI q.2 100 = 1 ∧ gI q.2 101 = gI s 108) ∨ ((NAM s ∧ 6 < gI s 109 - gI s 108) ∧ gI q.2 100 = 1 ∧ gI q.2 101 = gI s 108 + 6) ∨ ((NAM s ∧ gI s 109 - gI s 108 ≤ 6) ∧ (∀ v : Nat, (v : Int) < gI s 784 → ¬ SAM s v) ∧ gI q.2 100 = 3 ∧ gI q.2 101 = gI s 108) ∨ ((NAM s ∧ gI s 109 - gI s 108 ≤ 6) ∧ ∃ v : Nat, q.1 = (v : Int) ∧ ((v : Int) < gI s 784 ∧ SAM s v ∧ ∀ u, u < v → ¬ SAM s u) ∧ m_x6_advance s = some q.2)) := by
  unfold m_x6_expectVolume m_x6_expectVolume_J41
  have k0 := hT.1
  refine pc_bq (s_name h0 hT) (fun q7 h7 => ?_)
  obtain ⟨r7, S⟩ := q7
  dsimp only at h7 ⊢
  refine pc_rg (pc_if (fun c => pc_some ?_) (fun c => ?_))
  · rcases h7 with q | q | q
    · exact Or.inl q.2
    · exact Or.inr (Or.inl q.2)
    · omega
  · rcases h7 with q | q | ⟨_, q, e⟩
    · omega
    · omega
    · rw [e]
      have w := (TK_w hT q.1.1).1
      refine pc_bq (s_vol k0.1.1 (by omega)) (fun r11 h11 => pc_rg (pc_if (fun c2 => pc_bq (s_fail h0) (fun q16 h16 => pc_bn (fun s4 e4 => pc_some (Or.inr (Or.inr (Or.inl ⟨q, ?_, ?_⟩)))))) (fun c2 => pc_bn (fun s4 e4 => pc_some (Or.inr (Or.inr (Or.inr ⟨q, ?_⟩)))))))
      · rcases h11 with g | ⟨v, g, _⟩
        · exact g.2
        · omega
      · have F : F_x6_advance q16.2 s4 := fr_x6_advance e4
        show gI s4 100 = 3 ∧ gI s4 101 = gI s 108
        rw [F.1 100 (by decide), F.1 101 (by decide)]
        exact h16
      · rcases h11 with g | ⟨v, g1, g2, g3, g4⟩
        · exact absurd g.1 c2
        · exact ⟨v, g1, ⟨g2, g3, g4⟩, e4⟩
/-- the first volume of a name is one -/
theorem SAM_u {s : MS} {v w : Nat} (a : SAM s v) (b : ∀ u, u < v → ¬ SAM s u) (c : SAM s w) (d : ∀ u, u < w → ¬ SAM s u) : v = w := by
  by_cases z : v < w
  · exact absurd a (d v z)
  · by_cases z2 : w < v
    · exact absurd c (b w z2)
    · omega
theorem y_vn {s X : MS} (hN : NMS s X) (hT : TK s) (k : gI s 107 = 1) (l : gI s 109 - gI s 108 ≤ 6) (h5 : gI X 5 = 0) : ∀ (n : Nat) (v : Nat), (∀ u, u < v → ¬ SAM s u) → pc (m_x12_volumeNamed_L7 n (nv (lt s) (gI s 109 - gI s 108).toNat) (v : Int) X) (fun q => (∃ w : Nat, q.1 = (w : Int) ∧ ((w : Int) < gI s 784 ∧ SAM s w ∧ ∀ u, u < w → ¬ SAM s u) ∧ q.2 = X) ∨ ((∀ u : Nat, (u : Int) < gI s 784 → ¬ SAM s u) ∧ gI q.2 5 = 3 ∧ gI q.2 6 = gI X 38)) := by
  refine fr_ind (fun _ _ => pc_none) (fun n ih v hv => ?_)
  show pc (m_x12_volumeNamed_b7 (m_x12_volumeNamed_L7 n) _ (v : Int) X) _
  unfold m_x12_volumeNamed_b7 m_x12_volumeNamed_J52
  have e2 : gA X 39 (Int.toNat 2) = gI s 784 := hN.1.1
  refine pc_rdI (fun _ => pc_rg (pc_rg (pc_if (fun c => pc_rg (pc_if (fun c2 => pc_bq (m_fail h5) (fun s12 h12 => pc_some (Or.inr ⟨fun u hu => hv u (by omega), h12⟩))) (fun c2 => absurd h5 c2))) (fun c => pc_rdL (pc_rgL (pc_rgL (pc_if (fun c2 => pc_some (Or.inl ⟨v, rfl, ⟨by omega, ?_, hv⟩, rfl⟩)) (fun c2 => ?_))))))))
  · exact (SAM_iff hN hT k l (by omega)).1 c2
  · refine ih (v + 1) (fun u hu => ?_)
    by_cases z : u = v
    · rw [z]; exact fun q => c2 ((SAM_iff hN hT k l (by omega)).2 q)
    · exact hv u (by omega)
/-- a volume that is there, on both sides -/
theorem y_expVol {r : Int} {s s' t : MS} (h : SY s t) (hN : NMS s t) (e : m_x6_expectVolume s = some (r, s')) : pc (m_x12_volumeNamed t) (fun q => RS s' q.2 ∧ (gI s' 100 = 0 → q.1 = r ∧ 0 ≤ r ∧ r < gI s 784)) := by
  have hT := h.2.2.1.1
  have hs := s_expVol h.2.1.1 hT (r, s') e
  dsimp only at hs
  unfold m_x12_volumeNamed
  refine pc_bn (fun q19 e19 => ?_)
  have hy := y_name h q19 e19
  have F : F_x12_name t q19.2 := fr_x12_name e19
  obtain ⟨z, X⟩ := q19
  dsimp only at hy F ⊢
  have bad : gI X 5 ≠ 0 → BR s' X → pc (m_x12_volumeNamed_L7 FU z 0 X) (fun q => RS s' q.2 ∧ (gI s' 100 = 0 → q.1 = r ∧ 0 ≤ r ∧ r < gI s 784)) := fun _ hb =>
    pc_mono (fk_x12_volumeNamed_L7 FU z 0 X (FKp.rf X)) (fun q hq => ⟨Or.inr (BR_go hb (FKp.rf s') hq), fun z => absurd z hb.1⟩)
  rcases hy with ⟨a, b⟩ | ⟨a, b⟩ | ⟨a, a2, a3, a4⟩
  · rcases hs with ⟨_, d⟩ | ⟨c, _⟩ | ⟨c, _⟩ | ⟨c, _⟩
    · exact bad (by omega) (BR_mk (by decide) d b)
    · exact absurd c.1 a
    · exact absurd c.1 a
    · exact absurd c.1 a
  · rcases hs with ⟨c, _⟩ | ⟨_, d⟩ | ⟨c, _⟩ | ⟨c, _⟩
    · exact absurd a.1 c
    · exact bad (by omega) (BR_mk (by decide) d b)
    · omega
    · omega
  · have NX' : NMS s X := NMS_e hN rfl rfl (by rw [F.2.1 39 (by simp)]) (F.2.2.2 40 (by simp))
    rw [a2]
    refine pc_mono (y_vn NX' hT a.1.1 a.2 a3.2.1.2 FU 0 (fun u hu => absurd hu (Nat.not_lt_zero u))) (fun q hq => ?_)
    rcases hs with ⟨c, _⟩ | ⟨c, _⟩ | ⟨_, c, d⟩ | ⟨_, v, c1, c2, c3⟩
    · exact absurd a.1 c
    · omega
    · rcases hq with ⟨w, _, g, _⟩ | ⟨_, g⟩
      · exact absurd g.2.1 (c w g.1)
      · rw [a4] at g
        exact ⟨Or.inr (BR_mk (by decide) d g), fun z => by omega⟩
    · rcases hq with ⟨w, g1, g2, g3⟩ | ⟨g, _⟩
      · have vw := SAM_u c2.2.1 c2.2.2 g2.2.1 g2.2.2
        rw [g3]
        exact ⟨Or.inl (y_adv a3 s' c3).1, fun _ => ⟨by rw [g1, c1, vw], by omega, by omega⟩⟩
      · exact absurd c2.2.1 (g v c2.1)
