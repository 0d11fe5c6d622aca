/-! ===== places of keys on both sides ===== -/
def SO (f : Nat → Int) (a : Nat) (z : Int) : Prop := ∀ i j : Nat, a ≤ i → i < j → (j : Int) < z → f i < f j
def EF (f : Nat → Int) (z key r : Int) : Prop := 0 ≤ r ∧ (r = 0 ∨ (r < z ∧ f r.toNat ≤ key)) ∧ ∀ k : Nat, r < (k : Int) → (k : Int) < z → 1 ≤ k → key < f k
def PF (f : Nat → Int) (z key r : Int) : Prop := 0 ≤ r ∧ (r = 0 ∨ r < z) ∧ (∀ k : Nat, 1 ≤ k → (k : Int) ≤ r → f k ≤ key) ∧ (r + 1 < z → key < f (r + 1).toNat)
theorem EF_PF {f g : Nat → Int} {z key r q : Int} (hs : SO f 1 z) (e : ∀ k : Nat, (k : Int) < z → g k = f k) (h : EF f z key r) (h2 : PF g z key q) : r = q := by
  obtain ⟨a1, a2, a3⟩ := h
  obtain ⟨b1, b2, b3, b4⟩ := h2
  by_cases c1 : r < q
  · exfalso
    have x := a3 q.toNat (by omega) (by omega) (by omega)
    have y := b3 q.toNat (by omega) (by omega)
    rw [e _ (by omega)] at y
    omega
  · by_cases c2 : q < r
    · exfalso
      rcases a2 with w | ⟨w1, w2⟩
      · omega
      · have y := b4 (by omega)
        rw [e _ (by omega)] at y
        by_cases w : (q + 1).toNat = r.toNat
        · rw [w] at y; omega
        · have := hs (q + 1).toNat r.toNat (by omega) (by omega) (by omega)
          omega
    · omega
theorem s_entryFor {p key : Int} {s : MS} (hp : 0 ≤ p) : pc (m_x8_entryFor p key s) (fun r => EF (fun k => gA s 58 (6 * p.toNat + k)) (gA s 57 p.toNat) key r) := by
  have L : ∀ (n : Nat) (x3 x4 : Int), 1 ≤ x4 → (0 ≤ x3 ∧ x3 < x4) → (x3 = 0 ∨ (x3 < gA s 57 p.toNat ∧ gA s 58 (6 * p.toNat + x3.toNat) ≤ key)) → (∀ k : Nat, x3 < (k : Int) → (k : Int) < x4 → 1 ≤ k → key < gA s 58 (6 * p.toNat + k)) → pc (m_x8_entryFor_L5 s n p key x3 x4) (fun r => EF (fun k => gA s 58 (6 * p.toNat + k)) (gA s 57 p.toNat) key r) := by
    refine fr_ind (fun _ _ _ _ _ _ => pc_none) (fun n ih x3 x4 h4 h3 ha hb => ?_)
    show pc (m_x8_entryFor_b5 s (m_x8_entryFor_L5 s n) p key x3 x4) _
    unfold m_x8_entryFor_b5 m_x8_entryFor_J35 m_x8_slot
    refine pc_rdI (fun _ => pc_rg (pc_rg (pc_if (fun c => pc_some ⟨h3.1, ha, fun k k1 k2 k3 => hb k k1 (by omega) k3⟩) (fun c => pc_bn (fun r14 e14 => ?_)))))
    cases e14
    refine pc_rdI (fun _ => pc_rg (pc_rg (pc_if (fun c2 => ih x3 (x4 + 1) (by omega) (by omega) ha (fun k k1 k2 k3 => ?_)) (fun c2 => ih x4 (x4 + 1) (by omega) (by omega) (Or.inr ⟨by omega, ?_⟩) (fun k k1 k2 k3 => absurd k1 (by omega))))))
    · by_cases z : (k : Int) < x4
      · exact hb k k1 z k3
      · rw [show 6 * p.toNat + k = (p * 6 + x4).toNat by omega]; exact c2
    · rw [show 6 * p.toNat + x4.toNat = (p * 6 + x4).toNat by omega]; omega
  unfold m_x8_entryFor
  exact L FU 0 1 (by omega) (by omega) (Or.inl rfl) (fun k k1 k2 k3 => absurd k2 (by omega))
theorem m_placeFor {p key : Int} {t : MS} (hp : 0 ≤ p) (hz : (hM t).2.1 p.toNat ≤ 6) : pc (m_x12_placeFor p key t) (fun r => PF (kM t p.toNat) ((hM t).2.1 p.toNat) key r) := by
  have L : ∀ (n : Nat) (x4 : Int), 0 ≤ x4 → (x4 = 0 ∨ x4 < (hM t).2.1 p.toNat) → (∀ k : Nat, 1 ≤ k → (k : Int) ≤ x4 → kM t p.toNat k ≤ key) → pc (m_x12_placeFor_L2 t n p key x4) (fun r => PF (kM t p.toNat) ((hM t).2.1 p.toNat) key r) := by
    refine fr_ind (fun _ _ _ _ => pc_none) (fun n ih x4 h4 ha hb => ?_)
    show pc (m_x12_placeFor_b2 t (m_x12_placeFor_L2 t n) p key x4) _
    unfold m_x12_placeFor_b2 m_x12_placeFor_J31
    refine pc_bq (m_ents hp) (fun r6 h6 => pc_rg (pc_rg (pc_if (fun c => pc_some ⟨h4, ha, hb, fun q => absurd q (by omega)⟩) (fun c => pc_bq (m_key hp ⟨by omega, by omega⟩) (fun r11 h11 => pc_rg (pc_rg (pc_if (fun c2 => pc_some ⟨h4, ha, hb, fun q => ?_⟩) (fun c2 => ih (x4 + 1) (by omega) (Or.inr (by omega)) (fun k k1 k2 => ?_)))))))))
    · rw [← h11]; exact c2
    · by_cases z : (k : Int) ≤ x4
      · exact hb k k1 z
      · have e : (x4 + 1).toNat = k := by omega
        rw [e] at h11
        omega
  unfold m_x12_placeFor
  exact L FU 0 (by omega) (Or.inl rfl) (fun k k1 k2 => absurd k2 (by omega))
/-- the first that is no less -/
def PI (f : Nat → Int) (z key r : Int) : Prop := (0 ≤ r ∧ r ≤ z) ∧ (∀ k : Nat, (k : Int) < r → f k < key) ∧ (r < z → key ≤ f r.toNat)
theorem PI_u {f g : Nat → Int} {z key r q : Int} (e : ∀ k : Nat, (k : Int) < z → g k = f k) (h : PI f z key r) (h2 : PI g z key q) : r = q := by
  obtain ⟨a1, a2, a3⟩ := h
  obtain ⟨b1, b2, b3⟩ := h2
  by_cases c1 : r < q
  · exfalso
    have x := b2 r.toNat (by omega)
    have y := a3 (by omega)
    rw [e _ (by omega)] at x
    omega
  · by_cases c2 : q < r
    · exfalso
      have x := a2 q.toNat (by omega)
      have y := b3 (by omega)
      rw [e _ (by omega)] at y
      omega
    · omega
theorem m_placeIn {p key : Int} {t : MS} (hp : 0 ≤ p) (hz : 0 ≤ (hM t).2.1 p.toNat ∧ (hM t).2.1 p.toNat ≤ 6) : pc (m_x12_placeIn p key t) (fun r => PI (kM t p.toNat) ((hM t).2.1 p.toNat) key r) := by
  have L : ∀ (n : Nat) (x4 : Int), (0 ≤ x4 ∧ x4 ≤ (hM t).2.1 p.toNat) → (∀ k : Nat, (k : Int) < x4 → kM t p.toNat k < key) → pc (m_x12_placeIn_L2 t n p key x4) (fun r => PI (kM t p.toNat) ((hM t).2.1 p.toNat) key r) := by
    refine fr_ind (fun _ _ _ => pc_none) (fun n ih x4 h4 hb => ?_)
    show pc (m_x12_placeIn_b2 t (m_x12_placeIn_L2 t n) p key x4) _
    unfold m_x12_placeIn_b2 m_x12_placeIn_J27
    refine pc_bq (m_ents hp) (fun r6 h6 => pc_rg (pc_rg (pc_if (fun c => pc_some ⟨h4, hb, fun q => absurd q (by omega)⟩) (fun c => pc_bq (m_key hp ⟨by omega, by omega⟩) (fun r11 h11 => pc_rg (pc_rg (pc_if (fun c2 => pc_some ⟨h4, hb, fun q => by rw [← h11]; exact c2⟩) (fun c2 => ih (x4 + 1) (by omega) (fun k k2 => ?_)))))))))
    by_cases z : (k : Int) < x4
    · exact hb k z
    · have e : x4.toNat = k := by omega
      rw [e] at h11
      omega
  unfold m_x12_placeIn
  exact L FU 0 (by omega) (fun k k1 => absurd k1 (by omega))
/-- where the key is, if it is there -/
def FDc (f : Nat → Int) (z key r : Int) : Prop := (r = -1 ∧ ∀ k : Nat, (k : Int) < z → f k ≠ key) ∨ (0 ≤ r ∧ r < z ∧ f r.toNat = key ∧ ∀ k : Nat, (k : Int) < r → f k ≠ key)
theorem s_find {p key : Int} {s : MS} (hp : 0 ≤ p) : pc (m_x8_find p key s) (fun r => FDc (fun k => gA s 58 (6 * p.toNat + k)) (gA s 57 p.toNat) key r) := by
  have L : ∀ (n : Nat) (x3 : Int), 0 ≤ x3 → (∀ k : Nat, (k : Int) < x3 → gA s 58 (6 * p.toNat + k) ≠ key) → pc (m_x8_find_L2 s n p key x3) (fun r => FDc (fun k => gA s 58 (6 * p.toNat + k)) (gA s 57 p.toNat) key r) := by
    refine fr_ind (fun _ _ _ => pc_none) (fun n ih x3 h3 hb => ?_)
    show pc (m_x8_find_b2 s (m_x8_find_L2 s n) p key x3) _
    unfold m_x8_find_b2 m_x8_slot
    refine pc_rdI (fun _ => pc_rg (pc_rg (pc_if (fun c => pc_some (Or.inl ⟨rfl, fun k hk => hb k (by omega)⟩)) (fun c => pc_bn (fun r9 e9 => ?_)))))
    cases e9
    refine pc_rdI (fun _ => pc_rg (pc_rg (pc_if (fun c2 => pc_some (Or.inr ⟨h3, by omega, ?_, hb⟩)) (fun c2 => ih (x3 + 1) (by omega) (fun k hk => ?_)))))
    · show gA s 58 (6 * p.toNat + x3.toNat) = key
      rw [show 6 * p.toNat + x3.toNat = (p * 6 + x3).toNat by omega]; exact c2
    · by_cases z : (k : Int) < x3
      · exact hb k z
      · rw [show 6 * p.toNat + k = (p * 6 + x3).toNat by omega]; exact c2
  unfold m_x8_find
  exact L FU 0 (by omega) (fun k hk => absurd hk (by omega))
/-- in a rising row the two say the same -/
theorem FD_PI {f g : Nat → Int} {z key r q : Int} (hs : SO f 0 z) (e : ∀ k : Nat, (k : Int) < z → g k = f k) (h : FDc f z key r) (h2 : PI g z key q) : (r = -1 ∧ ¬ (q < z ∧ g q.toNat = key)) ∨ (r = q ∧ 0 ≤ r ∧ r < z ∧ g q.toNat = key) := by
  obtain ⟨b1, b2, b3⟩ := h2
  rcases h with ⟨a1, a2⟩ | ⟨a1, a2, a3, a4⟩
  · refine Or.inl ⟨a1, fun w => a2 q.toNat (by omega) ?_⟩
    rw [← e _ (by omega)]; exact w.2
  · have rq : r = q := by
      by_cases c1 : r < q
      · exfalso
        have x := b2 r.toNat (by omega)
        rw [e _ (by omega)] at x
        omega
      · by_cases c2 : q < r
        · exfalso
          have y := b3 (by omega)
          rw [e _ (by omega)] at y
          have := hs q.toNat r.toNat (Nat.zero_le _) (by omega) (by omega)
          omega
        · omega
    refine Or.inr ⟨rq, a1, a2, ?_⟩
    rw [← rq, e _ (by omega)]; exact a3
