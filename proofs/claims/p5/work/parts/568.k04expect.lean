/-! ===== what both readers expect ===== -/
/-- the same fault at the same place -/
def BR (s t : MS) : Prop := gI s 100 ≠ 0 ∧ gI t 5 = gI s 100 ∧ gI t 6 = gI s 101
def RS (s t : MS) : Prop := SY s t ∨ BR s t
theorem BR_go {s s' t t' : MS} (h : BR s t) (f1 : FKp 100 101 s s') (f2 : FKp 5 6 t t') : BR s' t' := by
  have a := f1 h.1
  have b := f2 (by rw [h.2.1]; exact h.1)
  exact ⟨by rw [a.1]; exact h.1, by rw [b.1, a.1]; exact h.2.1, by rw [b.2, a.2]; exact h.2.2⟩
theorem s_fail {k p : Int} {s : MS} (h0 : gI s 100 = 0) : pc (m_x6_fail k p s) (fun q => gI q.2 100 = k ∧ gI q.2 101 = p) := by
  unfold m_x6_fail m_x6_fail_J22
  exact pc_rg (pc_if (fun c => pc_stn (fun s4 e4 => pc_stn (fun s5 e5 => pc_stn (fun s6 e6 => pc_some ⟨(q_Ii e6 (by decide)).trans ((q_Ii e5 (by decide)).trans (q_II e4)), (q_Ii e6 (by decide)).trans (q_II e5)⟩)))) (fun c => absurd h0 c))
theorem m_fail {k p : Int} {t : MS} (h0 : gI t 5 = 0) : pc (m_x12_fail k p t) (fun o => gI o 5 = k ∧ gI o 6 = p) := by
  unfold m_x12_fail
  exact pc_rg (pc_if (fun c => pc_stn (fun s3 e3 => pc_stn (fun s4 e4 => pc_some ⟨(q_Ii e4 (by decide)).trans (q_II e3), q_II e4⟩))) (fun c => absurd h0 c))
theorem BR_mk {k p : Int} {s t : MS} (hk : k ≠ 0) (a : gI s 100 = k ∧ gI s 101 = p) (b : gI t 5 = k ∧ gI t 6 = p) : BR s t := ⟨by rw [a.1]; exact hk, by rw [a.1]; exact b.1, by rw [a.2]; exact b.2⟩
theorem s_isWord {p0 : Int} {s : MS} : pc (m_x6_isWord p0 s) (fun r => (r = 1 ∧ gI s 107 = 1 ∧ gI s 110 = p0) ∨ (r = 0 ∧ ¬ (gI s 107 = 1 ∧ gI s 110 = p0))) := by
  unfold m_x6_isWord m_x6_isWord_J20 m_x6_isWord_J21
  exact pc_rg (pc_if (fun c => pc_rg (pc_rg (pc_if (fun c2 => pc_bo (pc_some (Or.inl ⟨rfl, c, c2⟩))) (fun c2 => pc_bo (pc_some (Or.inr ⟨rfl, fun q => c2 q.2⟩)))))) (fun c => pc_bo (pc_some (Or.inr ⟨rfl, fun q => c q.1⟩))))
theorem s_isSign {p0 : Int} {s : MS} : pc (m_x6_isSign p0 s) (fun r => (r = 1 ∧ gI s 107 = 3 ∧ gI s 111 = p0) ∨ (r = 0 ∧ ¬ (gI s 107 = 3 ∧ gI s 111 = p0))) := by
  unfold m_x6_isSign m_x6_isSign_J20 m_x6_isSign_J21
  exact pc_rg (pc_if (fun c => pc_rg (pc_rg (pc_if (fun c2 => pc_bo (pc_some (Or.inl ⟨rfl, c, c2⟩))) (fun c2 => pc_bo (pc_some (Or.inr ⟨rfl, fun q => c2 q.2⟩)))))) (fun c => pc_bo (pc_some (Or.inr ⟨rfl, fun q => c q.1⟩))))
theorem s_expWord {p0 : Int} {s : MS} (h0 : gI s 100 = 0) : pc (m_x6_expectWord p0 s) (fun o => ((gI s 107 = 1 ∧ gI s 110 = p0) ∧ m_x6_advance s = some o) ∨ (¬ (gI s 107 = 1 ∧ gI s 110 = p0) ∧ gI o 100 = 1 ∧ gI o 101 = gI s 108)) := by
  unfold m_x6_expectWord m_x6_expectWord_J25
  refine pc_bq s_isWord (fun r3 h3 => pc_rg (pc_if (fun c => pc_bq (s_fail h0) (fun q8 h8 => pc_some (Or.inr ⟨?_, h8⟩))) (fun c => pc_bn (fun s10 e10 => pc_some (Or.inl ⟨?_, e10⟩)))))
  · rcases h3 with q | q
    · omega
    · exact q.2
  · rcases h3 with q | q
    · exact q.2
    · exact absurd q.1 c
theorem s_expSign {p0 : Int} {s : MS} (h0 : gI s 100 = 0) : pc (m_x6_expectSign p0 s) (fun o => ((gI s 107 = 3 ∧ gI s 111 = p0) ∧ m_x6_advance s = some o) ∨ (¬ (gI s 107 = 3 ∧ gI s 111 = p0) ∧ gI o 100 = 1 ∧ gI o 101 = gI s 108)) := by
  unfold m_x6_expectSign m_x6_expectSign_J25
  refine pc_bq s_isSign (fun r3 h3 => pc_rg (pc_if (fun c => pc_bq (s_fail h0) (fun q8 h8 => pc_some (Or.inr ⟨?_, h8⟩))) (fun c => pc_bn (fun s10 e10 => pc_some (Or.inl ⟨?_, e10⟩)))))
  · rcases h3 with q | q
    · omega
    · exact q.2
  · rcases h3 with q | q
    · exact q.2
    · exact absurd q.1 c
theorem y_expWord {wid wn w : Nat} {s s' t : MS} (h : SY s t) (hw : w < 33) (hn : wn = wl w) (hr : ∀ j, j < wn → gA t wid j = wc w j) (e : m_x6_expectWord (w : Int) s = some s') : pc (m_x12_asks wid wn t) (fun o => RS s' o) := by
  have hs := s_expWord h.2.1.1 s' e
  unfold m_x12_asks m_x12_asks_J24
  refine pc_rg (pc_if (fun c => pc_bq (y_takes h hw hn hr) (fun q6 h6 => pc_rg (pc_if (fun c2 => ?_) (fun c2 => pc_some ?_)))) (fun c => absurd h.2.1.2 c))
  · rcases h6 with g | ⟨_, g2, g3, g4⟩
    · omega
    · refine pc_bq (m_fail g3.2.1.2) (fun s10 h10 => pc_some (Or.inr ?_))
      rw [g4] at h10
      rcases hs with q | q
      · exact absurd q.1 g2
      · exact BR_mk (by decide) q.2 h10
  · rcases h6 with ⟨_, g2, g3, g4⟩ | g
    · rcases hs with q | q
      · exact Or.inl (y_adv g4 s' q.2).1
      · exact absurd ⟨g2, g3⟩ q.1
    · exact absurd g.1 c2
theorem y_expSign {p0 : Int} {s s' t : MS} (h : SY s t) (hp : 0 ≤ p0 ∧ ¬ isL p0 ∧ ¬ isD p0) (e : m_x6_expectSign p0 s = some s') : pc (m_x12_asksSign p0 t) (fun o => RS s' o) := by
  have hs := s_expSign h.2.1.1 s' e
  unfold m_x12_asksSign m_x12_asksSign_J24
  refine pc_rg (pc_if (fun c => pc_bq (y_sign h hp) (fun q6 h6 => pc_rg (pc_if (fun c2 => ?_) (fun c2 => pc_some ?_)))) (fun c => absurd h.2.1.2 c))
  · rcases h6 with g | ⟨_, g2, g3, g4⟩
    · omega
    · refine pc_bq (m_fail g3.2.1.2) (fun s10 h10 => pc_some (Or.inr ?_))
      rw [g4] at h10
      rcases hs with q | q
      · exact absurd q.1 g2
      · exact BR_mk (by decide) q.2 h10
  · rcases h6 with ⟨_, g2, g3, g4⟩ | g
    · rcases hs with q | q
      · exact Or.inl (y_adv g4 s' q.2).1
      · exact absurd ⟨g2, g3⟩ q.1
    · exact absurd g.1 c2
/-! ===== numbers ===== -/
theorem y_isIn {p0 p1 p2 : Int} {s : MS} : pc (m_x12_isIn p0 p1 p2 s) (fun r => (r = 1 ∧ p1 ≤ p0 ∧ p0 ≤ p2) ∨ (r = 0 ∧ (p0 < p1 ∨ p2 < p0))) := by
  unfold m_x12_isIn m_x12_isIn_J17 m_x12_isIn_J18
  exact pc_rgL (pc_rgL (pc_if (fun c => pc_bo (pc_some (Or.inr ⟨rfl, Or.inl c⟩))) (fun c => pc_rgL (pc_rgL (pc_if (fun c2 => pc_bo (pc_some (Or.inr ⟨rfl, Or.inr c2⟩))) (fun c2 => pc_bo (pc_some (Or.inl ⟨rfl, by omega, by omega⟩))))))))
def dvl (f : Nat → Int) (a : Nat) : Nat → Int
  | 0 => 0
  | k + 1 => 10 * dvl f a k + f (a + k) - 48
/-- what the number at hand is worth -/
def nvl (s : MS) : Int := dvl (gA s 4) (gI s 108).toNat (gI s 109 - gI s 108).toNat
theorem s_expNum {lo hi : Int} {s : MS} (h0 : gI s 100 = 0) (ha : 0 ≤ gI s 108 ∧ gI s 109 ≤ gI s 61) : pc (m_x6_expectNumber lo hi s) (fun q => (gI s 107 ≠ 2 ∧ gI q.2 100 = 1 ∧ gI q.2 101 = gI s 108) ∨ ((gI s 107 = 2 ∧ 4 < gI s 109 - gI s 108) ∧ gI q.2 100 = 1 ∧ gI q.2 101 = gI s 108 + 4) ∨ ((gI s 107 = 2 ∧ gI s 109 - gI s 108 ≤ 4) ∧ ((nvl s < lo ∨ hi < nvl s) ∧ gI q.2 100 = 2 ∧ gI q.2 101 = gI s 108)) ∨ ((gI s 107 = 2 ∧ gI s 109 - gI s 108 ≤ 4) ∧ (lo ≤ nvl s ∧ nvl s ≤ hi) ∧ q.1 = nvl s ∧ m_x6_advance s = some q.2)) := by
  have L : (gI s 107 = 2 ∧ gI s 109 - gI s 108 ≤ 4) → ∀ (n : Nat) (x8 x9 : Int) (k : Nat), x9 = gI s 108 + (k : Int) → (gI s 108 ≤ gI s 109 → x9 ≤ gI s 109) → (gI s 109 < gI s 108 → k = 0) → x8 = dvl (gA s 4) (gI s 108).toNat k → pc (m_x6_expectNumber_L55 n lo hi x8 x9 s) (fun q => (gI s 107 ≠ 2 ∧ gI q.2 100 = 1 ∧ gI q.2 101 = gI s 108) ∨ ((gI s 107 = 2 ∧ 4 < gI s 109 - gI s 108) ∧ gI q.2 100 = 1 ∧ gI q.2 101 = gI s 108 + 4) ∨ ((gI s 107 = 2 ∧ gI s 109 - gI s 108 ≤ 4) ∧ ((nvl s < lo ∨ hi < nvl s) ∧ gI q.2 100 = 2 ∧ gI q.2 101 = gI s 108)) ∨ ((gI s 107 = 2 ∧ gI s 109 - gI s 108 ≤ 4) ∧ (lo ≤ nvl s ∧ nvl s ≤ hi) ∧ q.1 = nvl s ∧ m_x6_advance s = some q.2)) := by
    intro hk
    refine fr_ind (fun _ _ _ _ _ _ _ => pc_none) (fun n ih x8 x9 k h9 hb hz h8 => ?_)
    show pc (m_x6_expectNumber_b55 (m_x6_expectNumber_L55 n) lo hi x8 x9 s) _
    unfold m_x6_expectNumber_b55 m_x6_expectNumber_J98
    refine pc_rg (pc_rg (pc_if (fun c => ?_) (fun c => pc_bq s_at (fun r23 h23 => ?_))))
    · have e : x8 = nvl s := by
        rw [h8]
        unfold nvl
        rw [show (gI s 109 - gI s 108).toNat = k by omega]
      rw [e]
      exact pc_rg (pc_rg (pc_if (fun c2 => pc_bq (s_fail h0) (fun q5 h5 => pc_some (Or.inr (Or.inr (Or.inl ⟨hk, Or.inl c2, h5⟩))))) (fun c2 => pc_rg (pc_rg (pc_if (fun c3 => pc_bn (fun s21 e21 => pc_some (Or.inr (Or.inr (Or.inr ⟨hk, ⟨by omega, c3⟩, rfl, e21⟩))))) (fun c3 => pc_bq (s_fail h0) (fun q5 h5 => pc_some (Or.inr (Or.inr (Or.inl ⟨hk, Or.inr (by omega), h5⟩))))))))))
    · have e23 : r23 = gA s 4 ((gI s 108).toNat + k) := by
        rcases h23 with q | q
        · rw [q.2, show x9.toNat = (gI s 108).toNat + k by omega]
        · omega
      refine ih _ _ (k + 1) (by omega) (fun _ => by omega) (fun q => by omega) ?_
      rw [h8, e23]
      show _ = 10 * dvl (gA s 4) (gI s 108).toNat k + gA s 4 ((gI s 108).toNat + k) - 48
      omega
  unfold m_x6_expectNumber
  exact pc_rg (pc_if (fun c => pc_rg (pc_if (fun c2 => L ⟨c, c2⟩ FU 0 (gI s 108) 0 (by omega) (fun q => q) (fun _ => rfl) rfl) (fun c2 => pc_bq (s_fail h0) (fun q30 h30 => pc_some (Or.inr (Or.inl ⟨⟨c, by omega⟩, h30⟩)))))) (fun c => pc_bq (s_fail h0) (fun q33 h33 => pc_some (Or.inl ⟨c, h33⟩))))
theorem y_num {lo hi : Int} {s t : MS} (h : SY s t) (hR : R8 lo ∧ R8 hi) : pc (m_x12_number lo hi t) (fun q => (gI s 107 ≠ 2 ∧ gI q.2 5 = 1 ∧ gI q.2 6 = gI s 108) ∨ ((gI s 107 = 2 ∧ 4 < gI s 109 - gI s 108) ∧ gI q.2 5 = 1 ∧ gI q.2 6 = gI s 108 + 4) ∨ ((gI s 107 = 2 ∧ gI s 109 - gI s 108 ≤ 4) ∧ ((nvl s < lo ∨ hi < nvl s) ∧ gI q.2 5 = 2 ∧ gI q.2 6 = gI s 108)) ∨ ((gI s 107 = 2 ∧ gI s 109 - gI s 108 ≤ 4) ∧ (lo ≤ nvl s ∧ nvl s ≤ hi) ∧ q.1 = nvl s ∧ NX s q.2)) := by
  unfold m_x12_number
  refine pc_rg (pc_if (fun c => pc_bq (y_look h) (fun q45 h45 => ?_)) (fun c => absurd h.2.1.2 c))
  obtain ⟨r45, S⟩ := q45
  obtain ⟨hS, h2, h1⟩ := h45
  dsimp only at hS h2 h1 ⊢
  have hk := hS.2.2.1.1
  have k1' := hk.1
  have hT := hS.1
  have J30 : gI s 107 ≠ 2 → pc (m_x12_number_J30 S) (fun q => (gI s 107 ≠ 2 ∧ gI q.2 5 = 1 ∧ gI q.2 6 = gI s 108) ∨ ((gI s 107 = 2 ∧ 4 < gI s 109 - gI s 108) ∧ gI q.2 5 = 1 ∧ gI q.2 6 = gI s 108 + 4) ∨ ((gI s 107 = 2 ∧ gI s 109 - gI s 108 ≤ 4) ∧ ((nvl s < lo ∨ hi < nvl s) ∧ gI q.2 5 = 2 ∧ gI q.2 6 = gI s 108)) ∨ ((gI s 107 = 2 ∧ gI s 109 - gI s 108 ≤ 4) ∧ (lo ≤ nvl s ∧ nvl s ≤ hi) ∧ q.1 = nvl s ∧ NX s q.2)) := fun hn => by
    unfold m_x12_number_J30
    refine pc_bq (m_fail hS.2.1.2) (fun s40 h40 => pc_some (Or.inl ⟨hn, ?_⟩))
    rw [h2] at h40
    exact h40
  refine pc_bq m_isD (fun r47 h47 => pc_rg (pc_if (fun c1 => J30 ?_) (fun c1 => pc_rg (pc_rg (pc_if (fun c2 => J30 ?_) (fun c2 => ?_))))))
  · rcases hk.2.2 with g | ⟨g1, g2, _, _, g⟩
    · omega
    · rcases g with ⟨_, _, _, g⟩ | ⟨a, _⟩ | ⟨_, _, _, g⟩
      · rcases g with ⟨_, g⟩ | ⟨_, g⟩ <;> omega
      · omega
      · omega
  · have gl := hS.2.2.2.2.1.2.1 c2.symm
    rw [h2] at gl
    rcases hk.2.2 with g | ⟨g1, g2, _, _, g⟩
    · omega
    · rcases g with ⟨_, _, _, g⟩ | ⟨_, _, g⟩ | ⟨_, _, _, g⟩
      · rcases g with ⟨_, g⟩ | ⟨_, g⟩ <;> omega
      · rcases g with ⟨_, g⟩ | ⟨g, _⟩
        · omega
        · exact absurd gl g
      · omega
  · have ng : ¬ GLU (gA s 4) (gI s 108) := fun gl => c2 (by
      have := hS.2.2.2.2.1.2.2 (by rw [h2]; exact gl)
      omega)
    rcases hk.2.2 with g | ⟨g1, g2, g3, g4, g⟩
    · omega
    · rcases g with ⟨a, _⟩ | ⟨_, ru, g⟩ | ⟨_, a, _⟩
      · omega
      · have k2 : gI s 107 = 2 := by
          rcases g with ⟨q, _⟩ | ⟨_, q⟩
          · exact absurd q ng
          · exact q
        have rb := ru.1
        have L49 : ∀ (n : Nat) (x22 : Int) (X : MS) (k : Nat), (∀ i, i ≠ 2 → gI X i = gI S i) → (∀ i, gA X i = gA S i) → gI X 2 = gI s 108 + (k : Int) → gI X 2 ≤ gI s 109 → k ≤ 4 → x22 = dvl (gA s 4) (gI s 108).toNat k → pc (m_x12_number_L49 n lo hi (gI s 108) x22 X) (fun q => (gI s 107 ≠ 2 ∧ gI q.2 5 = 1 ∧ gI q.2 6 = gI s 108) ∨ ((gI s 107 = 2 ∧ 4 < gI s 109 - gI s 108) ∧ gI q.2 5 = 1 ∧ gI q.2 6 = gI s 108 + 4) ∨ ((gI s 107 = 2 ∧ gI s 109 - gI s 108 ≤ 4) ∧ ((nvl s < lo ∨ hi < nvl s) ∧ gI q.2 5 = 2 ∧ gI q.2 6 = gI s 108)) ∨ ((gI s 107 = 2 ∧ gI s 109 - gI s 108 ≤ 4) ∧ (lo ≤ nvl s ∧ nvl s ≤ hi) ∧ q.1 = nvl s ∧ NX s q.2)) := by
          refine fr_ind (fun _ _ _ _ _ _ _ _ _ => pc_none) (fun n ih x22 X k kI kA hx hxb hk4 hv => ?_)
          show pc (m_x12_number_b49 (m_x12_number_L49 n) lo hi (gI s 108) x22 X) _
          unfold m_x12_number_b49
          have e3 : gI X 3 = gI s 61 := (kI 3 (by decide)).trans hT.1
          have e0 : gA X 0 = gA S 0 := kA 0
          have fin : gI X 2 = gI s 109 → pc (m_x12_number_J129 lo hi (gI s 108) x22 X) (fun q => (gI s 107 ≠ 2 ∧ gI q.2 5 = 1 ∧ gI q.2 6 = gI s 108) ∨ ((gI s 107 = 2 ∧ 4 < gI s 109 - gI s 108) ∧ gI q.2 5 = 1 ∧ gI q.2 6 = gI s 108 + 4) ∨ ((gI s 107 = 2 ∧ gI s 109 - gI s 108 ≤ 4) ∧ ((nvl s < lo ∨ hi < nvl s) ∧ gI q.2 5 = 2 ∧ gI q.2 6 = gI s 108)) ∨ ((gI s 107 = 2 ∧ gI s 109 - gI s 108 ≤ 4) ∧ (lo ≤ nvl s ∧ nvl s ≤ hi) ∧ q.1 = nvl s ∧ NX s q.2)) := fun e9 => by
            have ev : x22 = nvl s := by
              rw [hv]
              unfold nvl
              rw [show (gI s 109 - gI s 108).toNat = k by omega]
            rw [ev]
            unfold m_x12_number_J129 m_x12_number_J164
            refine pc_stn (fun s8 e8 => pc_stn (fun s9 e9' => pc_rg (pc_rg (pc_rg (pc_bn (fun r14 e14 => ?_))))))
            have k9 : ∀ i, i ≠ 4 → i ≠ 10 → gI s9 i = gI X i := fun i a b => (q_Ii e9' b).trans (q_Ii e8 a)
            have k94 : gI s9 4 = gI X 2 := (q_Ii e9' (by decide)).trans (q_II e8)
            have kA9 : ∀ i, gA s9 i = gA S i := fun i => (q_Ia e9').trans ((q_Ia e8).trans (kA i))
            have h14 : (r14 = 1 ∧ lo ≤ nvl s ∧ nvl s ≤ hi) ∨ (r14 = 0 ∧ (nvl s < lo ∨ hi < nvl s)) := by
              have g : pc (m_x12_isIn (nvl s) lo hi s9) (fun r => (r = 1 ∧ lo ≤ nvl s ∧ nvl s ≤ hi) ∨ (r = 0 ∧ (nvl s < lo ∨ hi < nvl s))) := y_isIn
              exact g r14 e14
            refine pc_rg (pc_if (fun c3 => pc_bq (m_fail ((k9 5 (by decide) (by decide)).trans ((kI 5 (by decide)).trans hS.2.1.2))) (fun s18 h18 => pc_some (Or.inr (Or.inr (Or.inl ⟨⟨k2, by omega⟩, ?_, ?_⟩))))) (fun c3 => pc_some (Or.inr (Or.inr (Or.inr ⟨⟨k2, by omega⟩, ?_, rfl, ?_⟩)))))
            · rcases h14 with q | q
              · omega
              · exact q.2
            · rw [(q_II e9' : gI s9 10 = gI s 108)] at h18
              exact h18
            · rcases h14 with q | q
              · exact q.2
              · exact absurd q.1 c3
            · have k92 : gI s9 2 = gI s 109 := (k9 2 (by decide) (by decide)).trans e9
              show NX s s9
              refine ⟨⟨(k9 3 (by decide) (by decide)).trans e3, fun j hj => by rw [kA9]; exact hT.2 j hj⟩, ⟨hS.2.1.1, (k9 5 (by decide) (by decide)).trans ((kI 5 (by decide)).trans hS.2.1.2)⟩, hS.2.2.1, k92, ⟨by omega, fun _ => ⟨by omega, Or.inr ?_⟩, fun _ => by omega⟩, RWD_e hS.2.2.2.2.2 (fun i _ => kA9 i)⟩
              exact ru.2.1 _ (by omega) (by omega)
          refine pc_rg (pc_rg (pc_if (fun c3 => fin (by omega)) (fun c3 => pc_rdI (fun _ => pc_bq m_isD (fun r29 h29 => pc_rg (pc_if (fun c4 => fin ?_) (fun c4 => ?_)))))))
          · rw [e0, hT.2 _ (by omega)] at h29
            by_cases z : gI X 2 < gI s 109
            · have q := ru.2.1 (gI X 2).toNat (by omega) (by omega)
              omega
            · omega
          · rw [e0, hT.2 _ (by omega)] at h29
            have lt : gI X 2 < gI s 109 := by
              by_cases z : gI X 2 = gI s 109
              · have q := ru.2.2 (by omega)
                rw [z] at h29
                omega
              · omega
            refine pc_rg (pc_if (fun c5 => pc_bq (m_fail ((kI 5 (by decide)).trans hS.2.1.2)) (fun s37 h37 => pc_some (Or.inr (Or.inl ⟨⟨k2, by omega⟩, h37.1, by rw [h37.2]; omega⟩)))) (fun c5 => pc_rdI (fun _ => pc_stn (fun s35 e35 => ?_))))
            have k2' : gI s35 2 = gI X 2 + 1 := q_II e35
            refine ih _ s35 (k + 1) (fun i hi => (q_Ii e35 hi).trans (kI i hi)) (fun i => (q_Ia e35).trans (kA i)) (by omega) (by omega) (by omega) ?_
            rw [e0, hT.2 _ (by omega), hv, show (gI X 2).toNat = (gI s 108).toNat + k by omega]
            show _ = 10 * dvl (gA s 4) (gI s 108).toNat k + gA s 4 ((gI s 108).toNat + k) - 48
            omega
        rw [h2]
        exact L49 FU 0 S 0 (fun _ _ => rfl) (fun _ => rfl) (by omega) (by omega) (by omega) rfl
      · omega
/-- a number, on both sides -/
theorem y_expNum {lo hi r : Int} {s s' t : MS} (h : SY s t) (hR : R8 lo ∧ R8 hi) (e : m_x6_expectNumber lo hi s = some (r, s')) : pc (m_x12_number lo hi t) (fun q => RS s' q.2 ∧ (gI s' 100 = 0 → q.1 = r ∧ lo ≤ r ∧ r ≤ hi)) := by
  have k1 := h.2.2.1.1.1
  have b9 : 0 ≤ gI s 108 ∧ gI s 109 ≤ gI s 61 := by
    rcases h.2.2.1.1.2.2 with q | q
    · omega
    · omega
  have hs := s_expNum h.2.1.1 b9 (r, s') e
  dsimp only at hs
  refine pc_mono (y_num h hR) (fun q hq => ?_)
  rcases hq with ⟨a, b⟩ | ⟨a, b⟩ | ⟨a, a2, b⟩ | ⟨a, a2, b, b2⟩
  · rcases hs with ⟨_, d⟩ | ⟨c, _⟩ | ⟨c, _⟩ | ⟨c, _⟩
    · exact ⟨Or.inr (BR_mk (by decide) d b), fun z => by omega⟩
    · exact absurd c.1 a
    · exact absurd c.1 a
    · exact absurd c.1 a
  · rcases hs with ⟨c, _⟩ | ⟨_, d⟩ | ⟨c, _⟩ | ⟨c, _⟩
    · exact absurd a.1 c
    · exact ⟨Or.inr (BR_mk (by decide) d b), fun z => by omega⟩
    · omega
    · omega
  · rcases hs with ⟨c, _⟩ | ⟨c, _⟩ | ⟨_, _, d⟩ | ⟨_, c, _⟩
    · exact absurd a.1 c
    · omega
    · exact ⟨Or.inr (BR_mk (by decide) d b), fun z => by omega⟩
    · omega
  · rcases hs with ⟨c, _⟩ | ⟨c, _⟩ | ⟨_, c, _⟩ | ⟨_, c, d, d2⟩
    · exact absurd a.1 c
    · omega
    · omega
    · exact ⟨Or.inl (y_adv b2 s' d2).1, fun _ => ⟨by rw [b, d], by rw [d]; exact c⟩⟩
