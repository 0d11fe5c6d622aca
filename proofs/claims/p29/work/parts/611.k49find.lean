/-! ===== places of keys on both sides ===== -/
def SO (f : Nat → Int) (a : Nat) (z : Int) : Prop := ∀ i j : Nat, a ≤ i → i < j → (j : Int) < z → f i < f j
def EF (f : Nat → Int) (z key r : Int) : Prop := 0 ≤ r ∧ (r = 0 ∨ (r < z ∧ f r.toNat ≤ key)) ∧ ∀ k : Nat, r < (k : Int) → (k : Int) < z → 1 ≤ k → key < f k
def PF (f : Nat → Int) (z key r : Int) : Prop := 0 ≤ r ∧ (r = 0 ∨ r < z) ∧ (∀ k : Nat, 1 ≤ k → (k : Int) ≤ r → f k ≤ key) ∧ (r + 1 < z → key < f (r + 1).toNat)
theorem EF_PF {f g : Nat → Int} {z key r q : Int} (hs : SO f 1 z) (e : ∀ k : Nat, (k : Int) < z → g k = f k) (h : EF f z key r) (h2 : PF g z key q) : r = q := by
  obtain ⟨a1, a2, a3⟩ := h
  obtain ⟨b1, b2, b3, b4⟩ := h2
  by_cases c1 : r < q
  · exfalso
    have x := a3 q.toNat (by omega) (by omega) (by omega)
    have y := b3 q.toNat (by omega) (by omega)
    rw [e _ (by omega)] at y
    omega
  · by_cases c2 : q < r
    · exfalso
      rcases a2 with w | ⟨w1, w2⟩
      · omega
      · have y := b4 (by omega)
        rw [e _ (by omega)] at y
        by_cases w : (q + 1).toNat = r.toNat
        · rw [w] at y; omega
        · have := hs (q + 1).toNat r.toNat (by omega) (by omega) (by omega)
          omega
    · omega
theorem s_entryFor {p key : Int} {s : MS} (hp : 0 ≤ p) : pc (m_x8_entryFor p key s) (fun r => EF (fun k => gA s 58 (6 * p.toNat + k)) (gA s 57 p.toNat) key r) := by
  have L : ∀ (n : Nat) (x3 x4 : Int), 1 ≤ x4 → (0 ≤ x3 ∧ x3 < x4) → (x3 = 0 ∨ (x3 < gA s 57 p.toNat ∧ gA s 58 (6 * p.toNat + x3.toNat) ≤ key)) → (∀ k : Nat, x3 < (k : Int) → (k : Int) < x4 → 1 ≤ k → key < gA s 58 (6 * p.toNat + k)) → pc (m_x8_entryFor_L5 s n p key x3 x4) (fun r => EF (fun k => gA s 58 (6 * p.toNat + k)) (gA s 57 p.toNat) key r) := by
    refine fr_ind (fun _ _ _ _ _ _ => pc_none) (fun n ih x3 x4 h4 h3 ha hb => ?_)
    show pc (m_x8_entryFor_b5 s (m_x8_entryFor_L5 s n) p key x3 x4) _
    unfold m_x8_entryFor_b5 m_x8_entryFor_J35 m_x8_slot
    refine pc_rdI (fun _ => pc_rg (pc_rg (pc_if (fun c => pc_some ⟨h3.1, ha, fun k k1 k2 k3 => hb k k1 (by omega) k3⟩) (fun c => pc_bn (fun r14 e14 => ?_)))))
    cases e14
    refine pc_rdI (fun _ => pc_rg (pc_rg (pc_if (fun c2 => ih x3 (x4 + 1) (by omega) (by omega) ha (fun k k1 k2 k3 => ?_)) (fun c2 => ih x4 (x4 + 1) (by omega) (by omega) (Or.inr ⟨by omega, ?_⟩) (fun k k1 k2 k3 => absurd k1 (by omega))))))
    · by_cases z : (k : Int) < x4
      · exact hb k k1 z k3
      · rw [show 6 * p.toNat + k = (p * 6 + x4).toNat by omega]; exact c2
    · rw [show 6 * p.toNat + x4.toNat = (p * 6 + x4).toNat by omega]; omega
  unfold m_x8_entryFor
  exact L FU 0 1 (by omega) (by omega) (Or.inl rfl) (fun k k1 k2 k3 => absurd k2 (by omega))
theorem m_placeFor {p key : Int} {t : MS} (hp : 0 ≤ p) (hz : (hM t).2.1 p.toNat ≤ 6) : pc (m_x12_placeFor p key t) (fun r => PF (kM t p.toNat) ((hM t).2.1 p.toNat) key r) := by
  have L : ∀ (n : Nat) (x4 : Int), 0 ≤ x4 → (x4 = 0 ∨ x4 < (hM t).2.1 p.toNat) → (∀ k : Nat, 1 ≤ k → (k : Int) ≤ x4 → kM t p.toNat k ≤ key) → pc (m_x12_placeFor_L2 t n p key x4) (fun r => PF (kM t p.toNat) ((hM t).2.1 p.toNat) key r) := by
    refine fr_ind (fun _ _ _ _ => pc_none) (fun n ih x4 h4 ha hb => ?_)
    show pc (m_x12_placeFor_b2 t (m_x12_placeFor_L2 t n) p key x4) _
    unfold m_x12_placeFor_b2 m_x12_placeFor_J31
    refine pc_bq (m_ents hp) (fun r6 h6 => pc_rg (pc_rg (pc_if (fun c => pc_some ⟨h4, ha, hb, fun q => absurd q (by omega)⟩) (fun c => pc_bq (m_key hp ⟨by omega, by omega⟩) (fun r11 h11 => pc_rg (pc_rg (pc_if (fun c2 => pc_some ⟨h4, ha, hb, fun q => ?_⟩) (fun c2 => ih (x4 + 1) (by omega) (Or.inr (by omega)) (fun k k1 k2 => ?_)))))))))
    · rw [← h11]; exact c2
    · by_cases z : (k : Int) ≤ x4
      · exact hb k k1 z
      · have e : (x4 + 1).toNat = k := by omega
        rw [e] at h11
        omega
  unfold m_x12_placeFor
  exact L FU 0 (by omega) (Or.inl rfl) (fun k k1 k2 => absurd k2 (by omega))
/-- the first that is no less -/
def PI (f : Nat → Int) (z key r : Int) : Prop := (0 ≤ r ∧ r ≤ z) ∧ (∀ k : Nat, (k : Int) < r → f k < key) ∧ (r < z → key ≤ f r.toNat)
theorem PI_u {f g : Nat → Int} {z key r q : Int} (e : ∀ k : Nat, (k : Int) < z → g k = f k) (h : PI f z key r) (h2 : PI g z key q) : r = q := by
  obtain ⟨a1, a2, a3⟩ := h
  obtain ⟨b1, b2, b3⟩ := h2
  by_cases c1 : r < q
  · exfalso
    have x := b2 r.toNat (by omega)
    have y := a3 (by omega)
    rw [e _ (by omega)] at x
    omega
  · by_cases c2 : q < r
    · exfalso
      have x := a2 q.toNat (by omega)
      have y := b3 (by omega)
      rw [e _ (by omega)] at y
      omega
    · omega
theorem m_placeIn {p key : Int} {t : MS} (hp : 0 ≤ p) (hz : 0 ≤ (hM t).2.1 p.toNat ∧ (hM t).2.1 p.toNat ≤ 6) : pc (m_x12_placeIn p key t) (fun r => PI (kM t p.toNat) ((hM t).2.1 p.toNat) key r) := by
  have L : ∀ (n : Nat) (x4 : Int), (0 ≤ x4 ∧ x4 ≤ (hM t).2.1 p.toNat) → (∀ k : Nat, (k : Int) < x4 → kM t p.toNat k < key) → pc (m_x12_placeIn_L2 t n p key x4) (fun r => PI (kM t p.toNat) ((hM t).2.1 p.toNat) key r) := by
    refine fr_ind (fun _ _ _ => pc_none) (fun n ih x4 h4 hb => ?_)
    show pc (m_x12_placeIn_b2 t (m_x12_placeIn_L2 t n) p key x4) _
    unfold m_x12_placeIn_b2 m_x12_placeIn_J27
    refine pc_bq (m_ents hp) (fun r6 h6 => pc_rg (pc_rg (pc_if (fun c => pc_some ⟨h4, hb, fun q => absurd q (by omega)⟩) (fun c => pc_bq (m_key hp ⟨by omega, by omega⟩) (fun r11 h11 => pc_rg (pc_rg (pc_if (fun c2 => pc_some ⟨h4, hb, fun q => by rw [← h11]; exact c2⟩) (fun c2 => ih (x4 + 1) (by omega) (fun k k2 => ?_)))))))))
    by_cases z : (k : Int) < x4
    · exact hb k z
    · have e : x4.toNat = k := by omega
      rw [e] at h11
      omega
  unfold m_x12_placeIn
  exact L FU 0 (by omega) (fun k k1 => absurd k1 (by omega))
/-- where the key is, if it is there -/
def FDc (f : Nat → Int) (z key r : Int) : Prop := (r = -1 ∧ ∀ k : Nat, (k : Int) < z → f k ≠ key) ∨ (0 ≤ r ∧ r < z ∧ f r.toNat = key ∧ ∀ k : Nat, (k : Int) < r → f k ≠ key)
theorem s_find {p key : Int} {s : MS} (hp : 0 ≤ p) : pc (m_x8_find p key s) (fun r => FDc (fun k => gA s 58 (6 * p.toNat + k)) (gA s 57 p.toNat) key r) := by
  have L : ∀ (n : Nat) (x3 : Int), 0 ≤ x3 → (∀ k : Nat, (k : Int) < x3 → gA s 58 (6 * p.toNat + k) ≠ key) → pc (m_x8_find_L2 s n p key x3) (fun r => FDc (fun k => gA s 58 (6 * p.toNat + k)) (gA s 57 p.toNat) key r) := by
    refine fr_ind (fun _ _ _ => pc_none) (fun n ih x3 h3 hb => ?_)
    show pc (m_x8_find_b2 s (m_x8_find_L2 s n) p key x3) _
    unfold m_x8_find_b2 m_x8_slot
    refine pc_rdI (fun _ => pc_rg (pc_rg (pc_if (fun c => pc_some (Or.inl ⟨rfl, fun k hk => hb k (by omega)⟩)) (fun c => pc_bn (fun r9 e9 => ?_)))))
    cases e9
    refine pc_rdI (fun _ => pc_rg (pc_rg (pc_if (fun c2 => pc_some (Or.inr ⟨h3, by omega, ?_, hb⟩)) (fun c2 => ih (x3 + 1) (by omega) (fun k hk => ?_)))))
    · show gA s 58 (6 * p.toNat + x3.toNat) = key
      rw [show 6 * p.toNat + x3.toNat = (p * 6 + x3).toNat by omega]; exact c2
    · by_cases z : (k : Int) < x3
      · exact hb k z
      · rw [show 6 * p.toNat + k = (p * 6 + x3).toNat by omega]; exact c2
  unfold m_x8_find
  exact L FU 0 (by omega) (fun k hk => absurd hk (by omega))
/-- in a rising row the two say the same -/
theorem FD_PI {f g : Nat → Int} {z key r q : Int} (hs : SO f 0 z) (e : ∀ k : Nat, (k : Int) < z → g k = f k) (h : FDc f z key r) (h2 : PI g z key q) : (r = -1 ∧ ¬ (q < z ∧ g q.toNat = key)) ∨ (r = q ∧ 0 ≤ r ∧ r < z ∧ g q.toNat = key) := by
  obtain ⟨b1, b2, b3⟩ := h2
  rcases h with ⟨a1, a2⟩ | ⟨a1, a2, a3, a4⟩
  · refine Or.inl ⟨a1, fun w => a2 q.toNat (by omega) ?_⟩
    rw [← e _ (by omega)]; exact w.2
  · have rq : r = q := by
      by_cases c1 : r < q
      · exfalso
        have x := b2 r.toNat (by omega)
        rw [e _ (by omega)] at x
        omega
      · by_cases c2 : q < r
        · exfalso
          have y := b3 (by omega)
          rw [e _ (by omega)] at y
          have := hs q.toNat r.toNat (Nat.zero_le _) (by omega) (by omega)
          omega
        · omega
    refine Or.inr ⟨rq, a1, a2, ?_⟩
    rw [← rq, e _ (by omega)]; exact a3
/-! ===== a formula of splits is worth the same on both sides ===== -/
theorem pc_rdL2 {α : Type} {f : Nat → Int} {n : Nat} {i : Int} {k : Int → Option α} {P : α → Prop} (h : 0 ≤ i ∧ i < (n : Int) → pc (k (f i.toNat)) P) : pc (rdL f n i k) P := by
  unfold rdL
  split
  · rename_i q; exact h q
  · exact pc_none
abbrev M1 (v : Int) : Prop := -1000000 ≤ v ∧ v ≤ 1000000
/-- the piles alike, by kinds -/
def EV (f g : Nat → Int) : List Bool → Prop
  | [] => True
  | x :: L => f L.length = g L.length ∧ M1 (g L.length) ∧ (x = true → g L.length = 0 ∨ g L.length = 1) ∧ EV f g L
theorem EV_c {f g f' g' : Nat → Int} : ∀ {L : List Bool}, EV f g L → (∀ j, j < L.length → f' j = f j ∧ g' j = g j) → EV f' g' L := by
  intro L
  induction L with
  | nil => intro _ _; exact True.intro
  | cons x L ih =>
    intro h e
    obtain ⟨a, b, c, d⟩ := h
    have q := e L.length (Nat.lt_succ_self _)
    exact ⟨by rw [q.1, q.2]; exact a, by rw [q.2]; exact b, by rw [q.2]; exact c, ih d (fun j hj => e j (Nat.lt_succ_of_lt hj))⟩
theorem EV_p {f g : Nat → Int} {L : List Bool} {x : Bool} {v : Int} (h : EV f g L) (hv : M1 v) (hx : x = true → v = 0 ∨ v = 1) : EV (upZ f L.length v) (upZ g L.length v) (x :: L) := ⟨by rw [upZ_s, upZ_s], by rw [upZ_s]; exact hv, by rw [upZ_s]; exact hx, EV_c h (fun j hj => ⟨upZ_n (by omega), upZ_n (by omega)⟩)⟩
theorem s_push {v : Int} {s : MS} (h : gI s 1601 < 64) : pc (m_x3_push v s) (fun o => gI o 1601 = gI s 1601 + 1 ∧ gA o 81 = upZ (gA s 81) (gI s 1601).toNat v ∧ (∀ k, k ≠ 81 → gA o k = gA s k) ∧ ∀ i, i ≠ 1601 → gI o i = gI s i) := by
  unfold m_x3_push m_x3_push_J29
  exact pc_rg (pc_if (fun c => absurd h (by omega)) (fun _ => pc_inb (pc_stn (fun s5 e5 => pc_stn (fun s6 e6 => pc_some ⟨by rw [(q_II e6 : gI s6 1601 = _), (q_Ai e5 : gI s5 1601 = gI s 1601)], (q_Ia e6).trans (q_AA e5), fun k hk => (q_Ia e6).trans (q_Aa e5 hk), fun i hi => (q_Ii e6 hi).trans (q_Ai e5)⟩)))))
theorem s_pop {s : MS} (h : 0 < gI s 1601) : pc (m_x3_pop s) (fun q => q.1 = gA s 81 (gI s 1601 - 1).toNat ∧ gI q.2 1601 = gI s 1601 - 1 ∧ (∀ k, gA q.2 k = gA s k) ∧ ∀ i, i ≠ 1601 → gI q.2 i = gI s i) := by
  unfold m_x3_pop
  exact pc_rg (pc_if (fun _ => pc_stn (fun s3 e3 => pc_rdI (fun _ => pc_some ⟨by show gA s3 81 (gI s3 1601).toNat = _; rw [(q_II e3 : gI s3 1601 = _), (q_Ia e3 : gA s3 81 = gA s 81)], q_II e3, fun k => q_Ia e3, fun i hi => q_Ii e3 hi⟩))) (fun c => absurd h c))
theorem m_puts {v : Int} {t : MS} : pc (m_x12_qPuts v t) (fun o => 0 ≤ gI t 108 ∧ gI o 108 = gI t 108 + 1 ∧ gB o 107 = upZ (gB t 107) (gI t 108).toNat v ∧ (∀ k, gA o k = gA t k) ∧ ∀ i, i ≠ 108 → gI o i = gI t i) := by
  unfold m_x12_qPuts
  exact pc_inb2 (fun g => pc_stn (fun s2 e2 => pc_stn (fun s3 e3 => pc_some ⟨g.1, by rw [(q_II e3 : gI s3 108 = _), (q_Bi e2 : gI s2 108 = gI t 108)], (q_Ib e3).trans (q_BB e2), fun k => (q_Ia e3).trans (q_Ba e2), fun i hi => (q_Ii e3 hi).trans (q_Bi e2)⟩)))
/-! numbers are cut at a million -/
def clZ (z : Int) : Int := if z ≤ 1000000 then (if -1000000 ≤ z then z else -1000000) else 1000000
theorem clZ_1 {z : Int} (c : z ≤ 1000000) (d : -1000000 ≤ z) : clZ z = z := (if_pos c).trans (if_pos d)
theorem clZ_2 {z : Int} (c : z ≤ 1000000) (d : ¬ -1000000 ≤ z) : clZ z = -1000000 := (if_pos c).trans (if_neg d)
theorem clZ_3 {z : Int} (c : ¬ z ≤ 1000000) : clZ z = 1000000 := if_neg c
theorem clZ_M (z : Int) : M1 (clZ z) := by
  by_cases c : z ≤ 1000000
  · by_cases d : -1000000 ≤ z
    · rw [clZ_1 c d]; omega
    · rw [clZ_2 c d]; omega
  · rw [clZ_3 c]; omega
theorem s_clip {z : Int} {s : MS} : pc (m_x3_joined_J199 s z) (fun r => r = clZ z) := by
  unfold m_x3_joined_J199 m_x3_joined_J225
  exact pc_rgL (pc_if (fun c => pc_rgL (pc_if (fun d => pc_some (clZ_1 c d).symm) (fun d => pc_some (clZ_2 c d).symm))) (fun c => pc_some (clZ_3 c).symm))
theorem m_clip {z : Int} {t : MS} : pc (m_x12_qClip z t) (fun r => r = clZ z) := by
  unfold m_x12_qClip m_x12_qClip_J29
  exact pc_rgL (pc_if (fun c => pc_rgL (pc_if (fun d => pc_some (clZ_1 c d).symm) (fun d => pc_some (clZ_2 c d).symm))) (fun c => pc_some (clZ_3 c).symm))
/-! division downwards -/
def fdZ (a b : Int) : Int := if b = 0 then 0 else if Int.tmod a b = 0 then Int.tdiv a b else if (0 ≤ a ↔ 0 ≤ b) then Int.tdiv a b else Int.tdiv a b - 1
theorem fdZ_0 {a b : Int} (h : b = 0) : fdZ a b = 0 := if_pos h
theorem fdZ_r {a b : Int} (h : b ≠ 0) (r : Int.tmod a b = 0) : fdZ a b = Int.tdiv a b := (if_neg h).trans (if_pos r)
theorem fdZ_s {a b : Int} (h : b ≠ 0) (r : Int.tmod a b ≠ 0) (g : 0 ≤ a ↔ 0 ≤ b) : fdZ a b = Int.tdiv a b := (if_neg h).trans ((if_neg r).trans (if_pos g))
theorem fdZ_n {a b : Int} (h : b ≠ 0) (r : Int.tmod a b ≠ 0) (g : ¬ (0 ≤ a ↔ 0 ≤ b)) : fdZ a b = Int.tdiv a b - 1 := (if_neg h).trans ((if_neg r).trans (if_neg g))
theorem tm_lt (x : Int) {b : Int} (hb : b ≠ 0) : (Int.tmod x b).natAbs < b.natAbs := by
  rw [Int.natAbs_tmod]
  exact Nat.mod_lt _ (by omega)
theorem tm_p {x b : Int} (h : 0 ≤ x) : 0 ≤ Int.tmod x b := Int.tmod_nonneg b h
theorem tm_n {x b : Int} (h : x ≤ 0) : Int.tmod x b ≤ 0 := by
  have q := Int.tmod_nonneg b (show 0 ≤ -x by omega)
  rw [Int.neg_tmod] at q
  omega
theorem tm_u {x b k m : Int} (hb : b ≠ 0) (e : x = b * k + m) (h1 : m.natAbs < b.natAbs) (h2 : (0 ≤ x ∧ 0 ≤ m) ∨ (x ≤ 0 ∧ m ≤ 0)) : Int.tmod x b = m := by
  have hx := Int.tmod_add_mul_tdiv x b
  have h3 := tm_lt x hb
  have e2 : b * (k - Int.tdiv x b) = Int.tmod x b - m := by
    rw [Int.mul_sub]; omega
  have h4 : (Int.tmod x b - m).natAbs < b.natAbs := by
    rcases h2 with q | q
    · have := tm_p (b := b) q.1
      omega
    · have := tm_n (b := b) q.1
      omega
  rw [← e2, Int.natAbs_mul] at h4
  have h5 : (k - Int.tdiv x b).natAbs = 0 := by
    rcases Nat.eq_zero_or_pos (k - Int.tdiv x b).natAbs with z | z
    · exact z
    · exfalso
      have := Nat.mul_le_mul_left b.natAbs z
      omega
  rw [show k - Int.tdiv x b = 0 by omega, Int.mul_zero] at e2
  omega
theorem fd_c {a b : Int} (hb : b ≠ 0) : Int.tdiv (a - Int.tmod (Int.tmod a b + b) b) b = fdZ a b := by
  have ea := Int.tmod_add_mul_tdiv a b
  have hr := tm_lt a hb
  have sp := fun h => tm_p (x := a) (b := b) h
  have sn := fun h => tm_n (x := a) (b := b) h
  by_cases r0 : Int.tmod a b = 0
  · rw [fdZ_r hb r0, tm_u (x := Int.tmod a b + b) (k := 1) (m := 0) hb (by rw [Int.mul_one]; omega) (by omega) (by omega), show a - 0 = b * Int.tdiv a b by omega]
    exact Int.mul_tdiv_cancel_left _ hb
  · by_cases g : 0 ≤ a ↔ 0 ≤ b
    · rw [fdZ_s hb r0 g, tm_u (x := Int.tmod a b + b) (k := 1) (m := Int.tmod a b) hb (by rw [Int.mul_one]; omega) hr (by
        by_cases z : 0 ≤ a
        · have := sp z; have := g.1 z; omega
        · have := sn (by omega); have : ¬ 0 ≤ b := fun w => z (g.2 w); omega), show a - Int.tmod a b = b * Int.tdiv a b by omega]
      exact Int.mul_tdiv_cancel_left _ hb
    · rw [fdZ_n hb r0 g, tm_u (x := Int.tmod a b + b) (k := 0) (m := Int.tmod a b + b) hb (by rw [Int.mul_zero]; omega) (by
        by_cases z : 0 ≤ a
        · have := sp z; have : ¬ 0 ≤ b := fun w => g ⟨fun _ => w, fun _ => z⟩; omega
        · have := sn (by omega)
          have : 0 ≤ b := Int.not_lt.mp (fun w => g ⟨fun q => absurd q z, fun q => absurd q (by omega)⟩)
          omega) (by omega), show a - (Int.tmod a b + b) = b * (Int.tdiv a b - 1) by rw [Int.mul_sub, Int.mul_one]; omega]
      exact Int.mul_tdiv_cancel_left _ hb
theorem fd_M {a b : Int} (h : M1 a) : M1 (fdZ a b) := by
  have q := fl_d a b (B := 1000000) (by omega)
  by_cases hb : b = 0
  · rw [fdZ_0 hb]; omega
  · by_cases r0 : Int.tmod a b = 0
    · rw [fdZ_r hb r0]; omega
    · by_cases g : 0 ≤ a ↔ 0 ≤ b
      · rw [fdZ_s hb r0 g]; omega
      · rw [fdZ_n hb r0 g]
        have b2 : 2 ≤ b.natAbs := by
          rcases Nat.lt_or_ge b.natAbs 2 with w | w
          · exfalso
            have := tm_lt a hb
            omega
          · exact w
        have n1 : (Int.tdiv a b).natAbs = a.natAbs / b.natAbs := Int.natAbs_tdiv a b
        have n2 : a.natAbs / b.natAbs ≤ a.natAbs / 2 := Nat.div_le_div_left b2 (by decide)
        omega
theorem m_floor {a b : Int} {t : MS} : pc (m_x12_qFloor a b t) (fun r => r = fdZ a b) := by
  unfold m_x12_qFloor m_x12_qFloor_J32 m_x12_qFloor_J43 m_x12_qFloor_J53 m_x12_qFloor_J55
  refine pc_rgL (pc_if (fun h => pc_some (fdZ_0 h).symm) (fun h => pc_dvL (pc_dvL (pc_rgL (pc_if (fun r0 => pc_some (fdZ_r h r0).symm) (fun r0 => pc_rgL (pc_if (fun ha => pc_rgL (pc_if (fun hb => pc_rg (pc_rg (pc_if (fun _ => pc_some ?_) (fun z => absurd rfl z)))) (fun hb => pc_rg (pc_rg (pc_if (fun z => absurd z (by decide)) (fun _ => pc_some ?_)))))) (fun ha => pc_rgL (pc_if (fun hb => pc_rg (pc_rg (pc_if (fun z => absurd z (by decide)) (fun _ => pc_some ?_)))) (fun hb => pc_rg (pc_rg (pc_if (fun _ => pc_some ?_) (fun z => absurd rfl z)))))))))))))
  · exact (fdZ_s h r0 ⟨fun _ => hb, fun _ => ha⟩).symm
  · exact (fdZ_n h r0 (fun g => hb (g.1 ha))).symm
  · exact (fdZ_n h r0 (fun g => ha (g.2 hb))).symm
  · exact (fdZ_s h r0 ⟨fun w => absurd w ha, fun w => absurd w hb⟩).symm
/-! what a step makes of two -/
def jv (c a b : Int) : Int := if c = -1 then clZ (a + b) else if c = -2 then clZ (a - b) else if c = -3 then clZ (a * b) else if c = -4 then fdZ a b else if c = -5 then (if b ≤ a then b else a) else if c = -6 then (if a ≤ b then b else a) else if c = -7 then (if b ≤ a then 0 else 1) else if c = -8 then (if a ≤ b then 0 else 1) else if c = -9 then (if a = b then 1 else 0) else if c = -10 then a * b else (if a + b ≤ 0 then 0 else 1)
theorem jv_1 (a b : Int) : jv (-1) a b = clZ (a + b) := rfl
theorem jv_2 (a b : Int) : jv (-2) a b = clZ (a - b) := rfl
theorem jv_3 (a b : Int) : jv (-3) a b = clZ (a * b) := rfl
theorem jv_4 (a b : Int) : jv (-4) a b = fdZ a b := rfl
theorem jv_5 (a b : Int) : jv (-5) a b = if b ≤ a then b else a := rfl
theorem jv_6 (a b : Int) : jv (-6) a b = if a ≤ b then b else a := rfl
theorem jv_7 (a b : Int) : jv (-7) a b = if b ≤ a then 0 else 1 := rfl
theorem jv_8 (a b : Int) : jv (-8) a b = if a ≤ b then 0 else 1 := rfl
theorem jv_9 (a b : Int) : jv (-9) a b = if a = b then 1 else 0 := rfl
theorem jv_10 (a b : Int) : jv (-10) a b = a * b := rfl
theorem jv_11 (a b : Int) : jv (-11) a b = if a + b ≤ 0 then 0 else 1 := rfl
theorem or01 {a b : Int} (ha : a = 0 ∨ a = 1) (hb : b = 0 ∨ b = 1) : orZ a b = if a + b ≤ 0 then 0 else 1 := by
  rcases ha with rfl | rfl <;> rcases hb with rfl | rfl <;> decide +kernel
theorem and01 {a b : Int} (ha : a = 0 ∨ a = 1) (hb : b = 0 ∨ b = 1) : andZ a b = a * b := by
  rcases ha with rfl | rfl <;> rcases hb with rfl | rfl <;> decide +kernel
theorem jv_M {c a b : Int} (hc : -11 ≤ c ∧ c ≤ -1) (ha : M1 a) (hb : M1 b) (h01 : c ≤ -10 → (a = 0 ∨ a = 1) ∧ (b = 0 ∨ b = 1)) : M1 (jv c a b) ∧ (c ≤ -7 → jv c a b = 0 ∨ jv c a b = 1) := by
  have hh : c = -1 ∨ c = -2 ∨ c = -3 ∨ c = -4 ∨ c = -5 ∨ c = -6 ∨ c = -7 ∨ c = -8 ∨ c = -9 ∨ c = -10 ∨ c = -11 := by omega
  rcases hh with h | h | h | h | h | h | h | h | h | h | h <;> subst h
  · rw [jv_1]; exact ⟨clZ_M _, fun w => absurd w (by decide)⟩
  · rw [jv_2]; exact ⟨clZ_M _, fun w => absurd w (by decide)⟩
  · rw [jv_3]; exact ⟨clZ_M _, fun w => absurd w (by decide)⟩
  · rw [jv_4]; exact ⟨fd_M ha, fun w => absurd w (by decide)⟩
  · rw [jv_5]; exact ⟨by split <;> assumption, fun w => absurd w (by decide)⟩
  · rw [jv_6]; exact ⟨by split <;> assumption, fun w => absurd w (by decide)⟩
  · rw [jv_7]; exact ⟨by split <;> omega, fun _ => by split <;> omega⟩
  · rw [jv_8]; exact ⟨by split <;> omega, fun _ => by split <;> omega⟩
  · rw [jv_9]; exact ⟨by split <;> omega, fun _ => by split <;> omega⟩
  · rw [jv_10]
    have o := h01 (by decide)
    have p := fl_01 o.1 o.2
    exact ⟨by rcases p with p | p <;> rw [p] <;> omega, fun _ => p⟩
  · rw [jv_11]; exact ⟨by split <;> omega, fun _ => by split <;> omega⟩
theorem s_jn {c a b : Int} {s : MS} (hc : -11 ≤ c ∧ c ≤ -1) (ha : M1 a) (hb : M1 b) (h01 : c ≤ -10 → (a = 0 ∨ a = 1) ∧ (b = 0 ∨ b = 1)) : pc (m_x3_joined c a b s) (fun r => r = jv c a b) := by
  have C : ∀ z v : Int, M1 z → z = v → pc (m_x3_joined_J199 s z) (fun r => r = v) := fun z v h e => pc_mono s_clip (fun r hr => hr.trans ((clZ_1 h.2 h.1).trans e))
  have D : ∀ z v : Int, clZ z = v → pc (m_x3_joined_J199 s z) (fun r => r = v) := fun z v e => pc_mono s_clip (fun r hr => hr.trans e)
  have JM := jv_M hc ha hb h01
  unfold m_x3_joined m_x3_joined_J179 m_x3_joined_J165 m_x3_joined_J151 m_x3_joined_J137 m_x3_joined_J121 m_x3_joined_J105
  refine pc_rg (pc_if (fun h => ?_) (fun n11 => pc_if (fun h => ?_) (fun n10 => pc_if (fun h => ?_) (fun n9 => pc_if (fun h => ?_) (fun n8 => pc_if (fun h => ?_) (fun n7 => pc_if (fun h => ?_) (fun n6 => pc_if (fun h => ?_) (fun n5 => pc_if (fun h => ?_) (fun n4 => pc_if (fun h => ?_) (fun n3 => pc_if (fun h => ?_) (fun n2 => pc_if (fun h => ?_) (fun n1 => ?_))))))))))))
  · subst h
    have o := h01 (by decide)
    exact pc_rg (C _ _ (by rw [or01 o.1 o.2, ← jv_11]; exact JM.1) (or01 o.1 o.2))
  · subst h
    have o := h01 (by decide)
    exact pc_rg (C _ _ (by rw [and01 o.1 o.2, ← jv_10]; exact JM.1) (and01 o.1 o.2))
  · subst h
    exact pc_rg (pc_rg (pc_if (fun e => C _ _ (by omega) (by rw [jv_9, if_pos e])) (fun e => C _ _ (by omega) (by rw [jv_9, if_neg e]))))
  · subst h
    exact pc_rg (pc_rg (pc_if (fun e => C _ _ (by omega) (by rw [jv_8, if_pos e])) (fun e => C _ _ (by omega) (by rw [jv_8, if_neg e]))))
  · subst h
    exact pc_rg (pc_rg (pc_if (fun e => C _ _ (by omega) (by rw [jv_7, if_pos e])) (fun e => C _ _ (by omega) (by rw [jv_7, if_neg e]))))
  · subst h
    exact pc_rg (pc_rg (pc_if (fun e => pc_rg (C _ _ hb (by rw [jv_6, if_pos e]))) (fun e => pc_rg (C _ _ ha (by rw [jv_6, if_neg e])))))
  · subst h
    exact pc_rg (pc_rg (pc_if (fun e => pc_rg (C _ _ hb (by rw [jv_5, if_pos e]))) (fun e => pc_rg (C _ _ ha (by rw [jv_5, if_neg e])))))
  · subst h
    exact pc_rg (pc_if (fun e => C _ _ (by omega) (by rw [jv_4, fdZ_0 e])) (fun e => pc_dv (pc_dv (pc_dv (pc_rg (C _ _ (by rw [fd_c e]; exact fd_M ha) ((fd_c e).trans (jv_4 a b).symm)))))))
  · subst h
    exact pc_rg (pc_rg (D _ _ (jv_3 a b).symm))
  · subst h
    exact pc_rg (D _ _ (jv_2 a b).symm)
  · subst h
    exact pc_rg (D _ _ (jv_1 a b).symm)
  · exact absurd hc (by omega)
theorem m_jn {c : Int} {t : MS} (hc : -11 ≤ c ∧ c ≤ -1) : pc (m_x12_qJoins (-c) t) (fun o => 2 ≤ gI t 108 ∧ gI o 108 = gI t 108 - 1 ∧ gB o 107 = upZ (gB t 107) (gI t 108 - 2).toNat (jv c (gB t 107 (gI t 108 - 2).toNat) (gB t 107 (gI t 108 - 1).toNat)) ∧ (∀ k, gA o k = gA t k) ∧ ∀ i, i ≠ 108 → gI o i = gI t i) := by
  unfold m_x12_qJoins m_x12_qJoins_J270 m_x12_qJoins_J238 m_x12_qJoins_J219 m_x12_qJoins_J200 m_x12_qJoins_J181 m_x12_qJoins_J161 m_x12_qJoins_J273
  refine pc_rdL2 (fun g1 => pc_rdL2 (fun g2 => pc_stn (fun s28 e28 => ?_)))
  have i28 : gI s28 108 = gI t 108 - 2 := q_II e28
  have b28 : gB s28 107 = gB t 107 := q_Ib e28
  have P : ∀ v : Int, v = jv c (gB t 107 (gI t 108 - 2).toNat) (gB t 107 (gI t 108 - 1).toNat) → pc (bn (m_x12_qPuts v s28) (fun s => some s)) (fun o => 2 ≤ gI t 108 ∧ gI o 108 = gI t 108 - 1 ∧ gB o 107 = upZ (gB t 107) (gI t 108 - 2).toNat (jv c (gB t 107 (gI t 108 - 2).toNat) (gB t 107 (gI t 108 - 1).toNat)) ∧ (∀ k, gA o k = gA t k) ∧ ∀ i, i ≠ 108 → gI o i = gI t i) := fun v hv => pc_bq m_puts (fun o ho => pc_some ⟨by omega, by rw [ho.2.1, i28]; omega, by rw [ho.2.2.1, i28, b28, hv], fun k => (ho.2.2.2.1 k).trans (q_Ia e28), fun i hi => (ho.2.2.2.2 i hi).trans (q_Ii e28 hi)⟩)
  refine pc_rg (pc_if (fun h => ?_) (fun n1 => pc_if (fun h => ?_) (fun n2 => pc_if (fun h => ?_) (fun n3 => pc_if (fun h => ?_) (fun n4 => pc_if (fun h => ?_) (fun n5 => pc_if (fun h => ?_) (fun n6 => pc_if (fun h => ?_) (fun n7 => pc_if (fun h => ?_) (fun n8 => pc_if (fun h => ?_) (fun n9 => pc_if (fun h => ?_) (fun n10 => ?_)))))))))))
  · obtain rfl : c = -1 := by omega
    exact pc_bq m_clip (fun r hr => P r (hr.trans (jv_1 _ _).symm))
  · obtain rfl : c = -2 := by omega
    exact pc_bq m_clip (fun r hr => P r (hr.trans (jv_2 _ _).symm))
  · obtain rfl : c = -3 := by omega
    exact pc_bq m_clip (fun r hr => P r (hr.trans (jv_3 _ _).symm))
  · obtain rfl : c = -4 := by omega
    exact pc_bq m_floor (fun r hr => P r (hr.trans (jv_4 _ _).symm))
  · obtain rfl : c = -5 := by omega
    exact pc_rgL (pc_rgL (pc_if (fun e => P _ (by rw [jv_5, if_pos e])) (fun e => P _ (by rw [jv_5, if_neg e]))))
  · obtain rfl : c = -6 := by omega
    exact pc_rgL (pc_rgL (pc_if (fun e => P _ (by rw [jv_6, if_pos e])) (fun e => P _ (by rw [jv_6, if_neg e]))))
  · obtain rfl : c = -7 := by omega
    exact pc_rgL (pc_rgL (pc_if (fun e => P _ (by rw [jv_7, if_pos e])) (fun e => P _ (by rw [jv_7, if_neg e]))))
  · obtain rfl : c = -8 := by omega
    exact pc_rgL (pc_rgL (pc_if (fun e => P _ (by rw [jv_8, if_pos e])) (fun e => P _ (by rw [jv_8, if_neg e]))))
  · obtain rfl : c = -9 := by omega
    exact pc_rgL (pc_rgL (pc_if (fun e => P _ (by rw [jv_9, if_pos e])) (fun e => P _ (by rw [jv_9, if_neg e]))))
  · obtain rfl : c = -10 := by omega
    exact P _ (jv_10 _ _).symm
  · obtain rfl : c = -11 := by omega
    exact pc_rgL (pc_if (fun e => P _ (by rw [jv_11, if_pos e])) (fun e => P _ (by rw [jv_11, if_neg e])))
/-- one step on two piles that are alike -/
def SPv (s S : MS) : Prop := gA S 38 = gA s 38 ∧ gI S 741 = gI s 741 ∧ gI S 1604 = gI s 1604 ∧ gI S 1605 = gI s 1605
def TP (t T : MS) : Prop := gA T 42 = gA t 42 ∧ gA T 43 = gA t 43 ∧ gA T 44 = gA t 44 ∧ gI T 52 = gI t 52 ∧ gI T 53 = gI t 53
def LPv (S T : MS) (L : List Bool) : Prop := gI S 1601 = (L.length : Int) ∧ gI T 108 = (L.length : Int) ∧ EV (gA S 81) (gB T 107) L
theorem LP_p {S T S' T' : MS} {L : List Bool} {x : Bool} {v : Int} (H : LPv S T L) (hv : M1 v) (hx : x = true → v = 0 ∨ v = 1) (a1 : gI S' 1601 = gI S 1601 + 1) (a2 : gA S' 81 = upZ (gA S 81) (gI S 1601).toNat v) (b1 : gI T' 108 = gI T 108 + 1) (b2 : gB T' 107 = upZ (gB T 107) (gI T 108).toNat v) : LPv S' T' (x :: L) := by
  obtain ⟨h1, h2, h3⟩ := H
  refine ⟨?_, ?_, ?_⟩
  · show gI S' 1601 = ((L.length + 1 : Nat) : Int); omega
  · show gI T' 108 = ((L.length + 1 : Nat) : Int); omega
  · rw [a2, b2, h1, h2, Int.toNat_natCast]
    exact EV_p h3 hv hx
theorem LP_0 {S T : MS} {L R : List Bool} {x : Bool} (H : LPv S T L) (e : L = x :: R) : gA S 81 R.length = gB T 107 R.length ∧ M1 (gB T 107 R.length) ∧ (x = true → gB T 107 R.length = 0 ∨ gB T 107 R.length = 1) ∧ gI S 1601 = (R.length : Int) + 1 ∧ gI T 108 = (R.length : Int) + 1 ∧ EV (gA S 81) (gB T 107) R := by
  subst e
  obtain ⟨h1, h2, h3⟩ := H
  have h1' : gI S 1601 = ((R.length + 1 : Nat) : Int) := h1
  have h2' : gI T 108 = ((R.length + 1 : Nat) : Int) := h2
  exact ⟨h3.1, h3.2.1, h3.2.2.1, by omega, by omega, h3.2.2.2⟩
theorem EV_up {f g : Nat → Int} {L : List Bool} {v w : Int} (h : EV f g L) {n : Nat} (hn : L.length ≤ n) : EV (upZ f n v) (upZ g n w) L := EV_c h (fun j hj => ⟨upZ_n (by omega), upZ_n (by omega)⟩)
/-! what one step does, each side by itself -/
def PU (T T' : MS) (v : Int) : Prop := gI T' 108 = gI T 108 + 1 ∧ gB T' 107 = upZ (gB T 107) (gI T 108).toNat v
def PS (S S' : MS) (v : Int) : Prop := gI S' 1601 = gI S 1601 + 1 ∧ gA S' 81 = upZ (gA S 81) (gI S 1601).toNat v
def RM (T T' : MS) (c : Int) : Prop := (0 ≤ c ∧ PU T T' c) ∨ (c = -113 ∧ PU T T' (gI T 52)) ∨ (c = -114 ∧ PU T T' (gI T 53)) ∨ (c = -12 ∧ gI T' 108 = gI T 108 ∧ gB T' 107 = upZ (gB T 107) (gI T 108 - 1).toNat (1 - gB T 107 (gI T 108 - 1).toNat)) ∨ ((-11 ≤ c ∧ c ≤ -1) ∧ gI T' 108 = gI T 108 - 1 ∧ gB T' 107 = upZ (gB T 107) (gI T 108 - 2).toNat (jv c (gB T 107 (gI T 108 - 2).toNat) (gB T 107 (gI T 108 - 1).toNat)))
def RC (S S' : MS) (c : Int) : Prop := (0 ≤ c ∧ PS S S' c) ∨ (c = -113 ∧ PS S S' (gI S 1604)) ∨ (c = -114 ∧ PS S S' (gI S 1605)) ∨ (c = -12 ∧ gI S' 1601 = gI S 1601 ∧ gA S' 81 = upZ (gA S 81) (gI S 1601 - 1).toNat (1 - gA S 81 (gI S 1601 - 1).toNat)) ∨ ((-11 ≤ c ∧ c ≤ -1) ∧ gI S' 1601 = gI S 1601 - 1 ∧ gA S' 81 = upZ (gA S 81) (gI S 1601 - 2).toNat (jv c (gA S 81 (gI S 1601 - 2).toNat) (gA S 81 (gI S 1601 - 1).toNat)))
theorem m_part0 {T : MS} : pc (m_x12_qPartOf 0 0 T) (fun r => r = gI T 52) := by
  unfold m_x12_qPartOf
  exact pc_rg (pc_if (fun _ => pc_rg (pc_some rfl)) (fun n => absurd rfl n))
theorem m_part3 {T : MS} : pc (m_x12_qPartOf 3 0 T) (fun r => r = gI T 53) := by
  unfold m_x12_qPartOf
  exact pc_rg (pc_if (fun e => absurd e (by decide)) (fun _ => pc_if (fun e => absurd e (by decide)) (fun _ => pc_if (fun e => absurd e (by decide)) (fun _ => pc_if (fun _ => pc_rg (pc_some rfl)) (fun n => absurd rfl n)))))
theorem m_stp {c w x z : Int} {T : MS} {m : Nat} {Q : Int × MS → Prop} (hz : gA T 43 (3 + w).toNat = z) (hx : 0 ≤ x ∧ x < z) (hc : cr c (gA T 44 (1600 + x).toNat)) (hn : ¬ (c = -13 ∨ c = -14) ∧ (c ≤ -100 → c = -113 ∨ c = -114)) (G : ∀ T', TP T T' → RM T T' c → pc (m_x12_codesTell_L19 m w (x + 1) T') Q) : pc (m_x12_codesTell_L19 (m + 1) w x T) Q := by
  show pc (m_x12_codesTell_b19 (m_x12_codesTell_L19 m) w x T) Q
  unfold m_x12_codesTell_b19 m_x12_codesTell_J136
  unfold cr at hc
  have TPo : ∀ o : MS, (∀ k, gA o k = gA T k) → (∀ i, i ≠ 108 → gI o i = gI T i) → TP T o := fun o h1 h2 => ⟨h1 42, h1 43, h1 44, h2 52 (by decide), h2 53 (by decide)⟩
  refine pc_rdI (fun _ => pc_rg (pc_rg (pc_if (fun e => absurd e (by omega)) (fun _ => pc_rdI (fun _ => pc_rg (pc_if (fun e1 => pc_rg (pc_if (fun e2 => pc_rg (pc_if (fun e3 => ?_) (fun e3 => pc_rg (pc_if (fun e4 => ?_) (fun e4 => ?_))))) (fun e2 => ?_))) (fun e1 => ?_)))))))
  · have c1 : c = 1 := by omega
    exact pc_bq m_puts (fun o ho => G o (TPo o ho.2.2.2.1 ho.2.2.2.2) (Or.inl ⟨by omega, ho.2.1, by rw [ho.2.2.1, c1]⟩))
  · exact pc_rdL2 (fun g => pc_inb (pc_stn (fun s25 e25 => G s25 ⟨q_Ba e25, q_Ba e25, q_Ba e25, q_Bi e25, q_Bi e25⟩ (Or.inr (Or.inr (Or.inr (Or.inl ⟨by omega, q_Bi e25, q_BB e25⟩)))))))
  · rw [show gA T 44 (1600 + x).toNat = -c by omega]
    exact pc_bq (m_jn (by omega)) (fun o ho => G o (TPo o ho.2.2.2.1 ho.2.2.2.2) (Or.inr (Or.inr (Or.inr (Or.inr ⟨by omega, ho.2.1, ho.2.2.1⟩)))))
  · rcases (show c = -113 ∨ c = -114 by omega) with h | h
    · rw [show gA T 44 (1600 + x).toNat - 40 = 0 by omega]
      exact pc_bq m_part0 (fun r hr => pc_bq m_puts (fun o ho => G o (TPo o ho.2.2.2.1 ho.2.2.2.2) (Or.inr (Or.inl ⟨h, ho.2.1, by rw [ho.2.2.1, hr]⟩))))
    · rw [show gA T 44 (1600 + x).toNat - 40 = 3 by omega]
      exact pc_bq m_part3 (fun r hr => pc_bq m_puts (fun o ho => G o (TPo o ho.2.2.2.1 ho.2.2.2.2) (Or.inr (Or.inr (Or.inl ⟨h, ho.2.1, by rw [ho.2.2.1, hr]⟩)))))
  · rw [show gA T 44 (1600 + x).toNat - 1000 = c by omega]
    exact pc_rg (pc_bq m_puts (fun o ho => G o (TPo o ho.2.2.2.1 ho.2.2.2.2) (Or.inl ⟨by omega, ho.2.1, ho.2.2.1⟩)))
theorem s_fact13 {S : MS} : pc (m_x3_fact 13 S) (fun r => r = gI S 1604) := by
  unfold m_x3_fact
  exact pc_rg (pc_if (fun e => absurd e (by decide)) (fun _ => pc_if (fun e => absurd e (by decide)) (fun _ => pc_if (fun _ => pc_some rfl) (fun n => absurd rfl n))))
theorem s_fact14 {S : MS} : pc (m_x3_fact 14 S) (fun r => r = gI S 1605) := by
  unfold m_x3_fact
  exact pc_rg (pc_if (fun e => absurd e (by decide)) (fun _ => pc_if (fun e => absurd e (by decide)) (fun _ => pc_if (fun e => absurd e (by decide)) (fun _ => pc_if (fun _ => pc_some rfl) (fun n => absurd rfl n)))))
theorem s_not {v : Int} {S : MS} : pc (m_x3_changed (-12) v S) (fun r => r = 1 - v) := by
  unfold m_x3_changed
  exact pc_rg (pc_if (fun _ => pc_some rfl) (fun n => absurd rfl n))
theorem s_stp {c x z : Int} {S : MS} {n : Nat} {Q : Int × MS → Prop} (hcx : c = gA S 38 x.toNat) (hx : 0 ≤ x ∧ x < z) (h741 : z ≤ gI S 741) (hn : ¬ (c = -13 ∨ c = -14) ∧ (c ≤ -100 → c = -113 ∨ c = -114)) (hl : -114 ≤ c ∧ ¬ (-99 ≤ c ∧ c ≤ -15)) (hb : 0 ≤ gI S 1601 ∧ gI S 1601 ≤ 64) (hp : (0 ≤ c ∨ c ≤ -100) → gI S 1601 < 64) (hu : c = -12 → 1 ≤ gI S 1601)
    (hj : -11 ≤ c ∧ c ≤ -1 → 2 ≤ gI S 1601 ∧ (M1 (gA S 81 (gI S 1601 - 2).toNat) ∧ M1 (gA S 81 (gI S 1601 - 1).toNat)) ∧ (c ≤ -10 → (gA S 81 (gI S 1601 - 2).toNat = 0 ∨ gA S 81 (gI S 1601 - 2).toNat = 1) ∧ (gA S 81 (gI S 1601 - 1).toNat = 0 ∨ gA S 81 (gI S 1601 - 1).toNat = 1)))
    (G : ∀ S', SPv S S' → RC S S' c → pc (m_x3_value_L8 n z (x + 1) S') Q) : pc (m_x3_value_L8 (n + 1) z x S) Q := by
  subst hcx
  show pc (m_x3_value_b8 (m_x3_value_L8 n) z x S) Q
  unfold m_x3_value_b8 m_x3_value_J119
  have SPo : ∀ o : MS, (∀ k, k ≠ 81 → gA o k = gA S k) → (∀ i, i ≠ 1601 → gI o i = gI S i) → SPv S o := fun o h1 h2 => ⟨h1 38 (by decide), h2 741 (by decide), h2 1604 (by decide), h2 1605 (by decide)⟩
  refine pc_rg (pc_if (fun e => absurd e (by omega)) (fun _ => pc_rg (pc_rg (pc_if (fun e => absurd e (by omega)) (fun _ => pc_rg (pc_rg (pc_if (fun e => absurd e (by omega)) (fun _ => pc_rdI (fun _ => pc_rg (pc_if (fun e1 => pc_rg (pc_if (fun e2 => pc_rg (pc_if (fun e3 => ?_) (fun e3 => ?_))) (fun e2 => ?_))) (fun e1 => ?_)))))))))))
  · obtain ⟨j2, ⟨ja, jb⟩, j01⟩ := hj (by omega)
    refine pc_bq (s_pop (by omega)) (fun q28 h28 => pc_bq (s_pop (by rw [h28.2.1]; omega)) (fun q31 h31 => ?_))
    have e28 : q28.1 = gA S 81 (gI S 1601 - 1).toNat := h28.1
    have e31 : q31.1 = gA S 81 (gI S 1601 - 2).toNat := by rw [h31.1, h28.2.2.1 81, h28.2.1, show gI S 1601 - 1 - 1 = gI S 1601 - 2 by omega]
    have k31 : gI q31.2 1601 = gI S 1601 - 2 := by rw [h31.2.1, h28.2.1]; omega
    have a31 : ∀ k, gA q31.2 k = gA S k := fun k => (h31.2.2.1 k).trans (h28.2.2.1 k)
    rw [e28, e31]
    refine pc_bq (s_jn ⟨by omega, by omega⟩ ja jb j01) (fun r33 h33 => pc_bq (s_push (by rw [k31]; omega)) (fun s35 h35 => G s35 (SPo s35 (fun k hk => (h35.2.2.1 k hk).trans (a31 k)) (fun i hi => (h35.2.2.2 i hi).trans ((h31.2.2.2 i hi).trans (h28.2.2.2 i hi)))) (Or.inr (Or.inr (Or.inr (Or.inr ⟨by omega, by rw [h35.1, k31]; omega, by rw [h35.2.1, k31, a31 81, h33]⟩))))))
  · have c12 : gA S 38 x.toNat = -12 := by omega
    have h1 := hu c12
    refine pc_bq (s_pop (by omega)) (fun q38 h38 => ?_)
    rw [c12]
    refine pc_bq s_not (fun r40 h40 => pc_bq (s_push (by rw [h38.2.1]; omega)) (fun s42 h42 => G s42 (SPo s42 (fun k hk => (h42.2.2.1 k hk).trans (h38.2.2.1 k)) (fun i hi => (h42.2.2.2 i hi).trans (h38.2.2.2 i hi))) (Or.inr (Or.inr (Or.inr (Or.inl ⟨c12, by rw [h42.1, h38.2.1]; omega, by rw [h42.2.1, h38.2.1, h38.2.2.1 81, h40, h38.1]⟩))))))
  · have p1 := hp (by omega)
    rcases (show gA S 38 x.toNat = -113 ∨ gA S 38 x.toNat = -114 by omega) with h | h
    · rw [show -100 - gA S 38 x.toNat = 13 by omega]
      exact pc_bq s_fact13 (fun r hr => pc_bq (s_push p1) (fun o ho => G o (SPo o ho.2.2.1 ho.2.2.2) (Or.inr (Or.inl ⟨h, ho.1, by rw [ho.2.1, hr]⟩))))
    · rw [show -100 - gA S 38 x.toNat = 14 by omega]
      exact pc_bq s_fact14 (fun r hr => pc_bq (s_push p1) (fun o ho => G o (SPo o ho.2.2.1 ho.2.2.2) (Or.inr (Or.inr (Or.inl ⟨h, ho.1, by rw [ho.2.1, hr]⟩)))))
  · have p1 := hp (by omega)
    exact pc_bq (s_push p1) (fun o ho => G o (SPo o ho.2.2.1 ho.2.2.2) (Or.inl ⟨by omega, ho.1, ho.2.1⟩))
/-! the kinds that a step wants -/
theorem tyS_u {L L' : List Bool} (h : tyS (-12) L = some L') : ∃ R, L = true :: R ∧ L' = true :: R := by
  cases L with
  | nil =>
    have e : tyS (-12) [] = none := (if_neg (by decide)).trans ((if_neg (by decide)).trans (if_pos (by decide)))
    rw [e] at h
    cases h
  | cons x R =>
    have e : tyS (-12) (x :: R) = if (-12 : Int) = -12 then (if x = true then some (true :: R) else none) else some (false :: R) := (if_neg (by decide)).trans ((if_neg (by decide)).trans (if_pos (by decide)))
    rw [e, if_pos rfl] at h
    by_cases hx : x = true
    · rw [if_pos hx] at h
      cases h
      exact ⟨R, by rw [hx], rfl⟩
    · rw [if_neg hx] at h
      cases h
theorem tyS_j {c : Int} (hc : -11 ≤ c ∧ c ≤ -1) {L L' : List Bool} (h : tyS c L = some L') : ∃ x y R z, L = x :: y :: R ∧ L' = z :: R ∧ (z = true → c ≤ -7) ∧ (c ≤ -10 → x = true ∧ y = true) := by
  cases L with
  | nil =>
    have e : tyS c [] = none := (if_neg (by omega)).trans ((if_neg (by omega)).trans (if_neg (by omega)))
    rw [e] at h
    cases h
  | cons x L1 =>
    cases L1 with
    | nil =>
      have e : tyS c [x] = none := (if_neg (by omega)).trans ((if_neg (by omega)).trans (if_neg (by omega)))
      rw [e] at h
      cases h
    | cons y R =>
      have e : tyS c (x :: y :: R) = if c ≤ -10 then (if x = true ∧ y = true then some (true :: R) else none) else some (decide (c ≤ -7) :: R) := (if_neg (by omega)).trans ((if_neg (by omega)).trans (if_neg (by omega)))
      rw [e] at h
      by_cases k : c ≤ -10
      · rw [if_pos k] at h
        by_cases g : x = true ∧ y = true
        · rw [if_pos g] at h
          cases h
          exact ⟨x, y, R, true, rfl, rfl, fun _ => by omega, fun _ => g⟩
        · rw [if_neg g] at h
          cases h
      · rw [if_neg k] at h
        cases h
        exact ⟨x, y, R, decide (c ≤ -7), rfl, rfl, fun w => of_decide_eq_true w, fun w => absurd w k⟩
/-- alike piles stay alike -/
theorem LP_step {S T S' T' : MS} {c : Int} {L L' : List Bool} (H : LPv S T L) (hy : tyS c L = some L') (a : RC S S' c) (b : RM T T' c) (hf : gI S 1604 = gI T 52 ∧ gI S 1605 = gI T 53) (hM : M1 (gI T 52) ∧ M1 (gI T 53)) (hc : c ≤ 1000000) : LPv S' T' L' := by
  rcases a with ⟨a0, a1⟩ | ⟨a0, a1⟩ | ⟨a0, a1⟩ | ⟨a0, a1⟩ | ⟨a0, a1⟩
  · have e : tyS c L = some (decide (c ≤ 1) :: L) := if_pos a0
    rw [e] at hy
    cases hy
    rcases b with ⟨_, b1⟩ | ⟨b0, _⟩ | ⟨b0, _⟩ | ⟨b0, _⟩ | ⟨b0, _⟩
    · exact LP_p H (v := c) (by omega) (fun w => by have := of_decide_eq_true w; omega) a1.1 a1.2 b1.1 b1.2
    all_goals omega
  · have e : tyS c L = some (false :: L) := (if_neg (by omega)).trans (if_pos (by omega))
    rw [e] at hy
    cases hy
    rcases b with ⟨b0, _⟩ | ⟨_, b1⟩ | ⟨b0, _⟩ | ⟨b0, _⟩ | ⟨b0, _⟩
    · omega
    · exact LP_p H (v := gI T 52) hM.1 (fun w => absurd w (by decide)) a1.1 (by rw [← hf.1]; exact a1.2) b1.1 b1.2
    all_goals omega
  · have e : tyS c L = some (false :: L) := (if_neg (by omega)).trans (if_pos (by omega))
    rw [e] at hy
    cases hy
    rcases b with ⟨b0, _⟩ | ⟨b0, _⟩ | ⟨_, b1⟩ | ⟨b0, _⟩ | ⟨b0, _⟩
    · omega
    · omega
    · exact LP_p H (v := gI T 53) hM.2 (fun w => absurd w (by decide)) a1.1 (by rw [← hf.2]; exact a1.2) b1.1 b1.2
    all_goals omega
  · subst a0
    obtain ⟨R, hL, rfl⟩ := tyS_u hy
    obtain ⟨p1, p2, p3, p4, p5, p6⟩ := LP_0 H hL
    rcases b with ⟨b0, _⟩ | ⟨b0, _⟩ | ⟨b0, _⟩ | ⟨_, b1, b2⟩ | ⟨b0, _⟩
    · omega
    · omega
    · omega
    · have i1 : (gI S 1601 - 1).toNat = R.length := by omega
      have i2' : (gI T 108 - 1).toNat = R.length := by omega
      have a2 := a1.2
      rw [i1] at a2
      rw [i2'] at b2
      refine ⟨?_, ?_, ?_⟩
      · show gI S' 1601 = ((R.length + 1 : Nat) : Int); rw [a1.1]; omega
      · show gI T' 108 = ((R.length + 1 : Nat) : Int); rw [b1]; omega
      · rw [a2, b2, p1]
        have q := p3 rfl
        exact EV_p p6 (by omega) (fun _ => by omega)
    · omega
  · obtain ⟨x, y, R, z, hL, rfl, hz, hxy⟩ := tyS_j a0 hy
    obtain ⟨p1, p2, p3, p4, p5, p6⟩ := LP_0 H hL
    obtain ⟨r1, r2, r3, r4⟩ := p6
    rcases b with ⟨b0, _⟩ | ⟨b0, _⟩ | ⟨b0, _⟩ | ⟨b0, _⟩ | ⟨_, b1, b2⟩
    · omega
    · omega
    · omega
    · omega
    · have ly : (y :: R).length = R.length + 1 := rfl
      rw [ly] at p1 p2 p3 p4 p5
      have i1 : (gI S 1601 - 1).toNat = R.length + 1 := by omega
      have i2' : (gI S 1601 - 2).toNat = R.length := by omega
      have j1 : (gI T 108 - 1).toNat = R.length + 1 := by omega
      have j2 : (gI T 108 - 2).toNat = R.length := by omega
      have a2 := a1.2
      rw [i1, i2', p1, r1] at a2
      rw [j1, j2] at b2
      have JM := jv_M a0 r2 p2 (fun w => ⟨r3 (hxy w).2, p3 (hxy w).1⟩)
      refine ⟨?_, ?_, ?_⟩
      · show gI S' 1601 = ((R.length + 1 : Nat) : Int); rw [a1.1]; omega
      · show gI T' 108 = ((R.length + 1 : Nat) : Int); rw [b1]; omega
      · rw [a2, b2]
        exact EV_p r4 JM.1 (fun w => JM.2 (hz w))
theorem SP_t {s S S' : MS} (h : SPv s S) (g : SPv S S') : SPv s S' := ⟨g.1.trans h.1, g.2.1.trans h.2.1, g.2.2.1.trans h.2.2.1, g.2.2.2.trans h.2.2.2⟩
theorem TP_t {t T T' : MS} (h : TP t T) (g : TP T T') : TP t T' := ⟨g.1.trans h.1, g.2.1.trans h.2.1, g.2.2.1.trans h.2.2.1, g.2.2.2.1.trans h.2.2.2.1, g.2.2.2.2.trans h.2.2.2.2⟩
theorem y_eval {s t : MS} {a z w : Int} (ha : 0 ≤ a ∧ a ≤ z) (h741 : z ≤ gI s 741) (hw : gA t 42 (3 + w).toNat = a) (hz : gA t 43 (3 + w).toNat = z) (h44 : ∀ j : Nat, a ≤ (j : Int) → (j : Int) < z → gA t 44 (1600 + j) ≤ 10999)
    (hc : ∀ j : Nat, (j : Int) < z → cr (gA s 38 j) (gA t 44 (1600 + j))) (hF : FOK (gA s 38) a z 64) (hf : gI s 1604 = gI t 52 ∧ gI s 1605 = gI t 53) (hM : M1 (gI t 52) ∧ M1 (gI t 53)) : pc (m_x3_value a z s) (fun q => pc (m_x12_codesTell w t) (fun o => q.1 = o.1 ∧ (q.1 = 0 ∨ q.1 = 1))) := by
  obtain ⟨hF1, hE, hT⟩ := hF
  have L : ∀ (n : Nat) (x : Int) (S T : MS) (m : Nat) (L : List Bool), (a ≤ x ∧ x ≤ z) → SPv s S → TP t T → tyr (gA s 38) a.toNat (x - a).toNat [] = some L → LPv S T L → pc (m_x3_value_L8 n z x S) (fun q => pc (m_x12_codesTell_L19 m w x T) (fun o => q.1 = o.1 ∧ (q.1 = 0 ∨ q.1 = 1))) := by
    refine fr_ind (fun _ _ _ _ _ _ _ _ _ _ => pc_none) (fun n ih x S T m L hx hS hT' hL hP => ?_)
    cases m with
    | zero => exact fun q _ => pc_none
    | succ m =>
      have hzT : gA T 43 (3 + w).toNat = z := by rw [hT'.2.1]; exact hz
      by_cases xz : x = z
      · show pc (m_x3_value_b8 (m_x3_value_L8 n) z x S) _
        rw [xz] at hL
        have hLb := hE.symm.trans hL
        cases hLb
        obtain ⟨p1, p2, p3, p4, p5, p6⟩ := LP_0 hP rfl
        have p1 : gA S 81 0 = gB T 107 0 := p1
        have p3 : gB T 107 0 = 0 ∨ gB T 107 0 = 1 := p3 rfl
        have p4 : gI S 1601 = 1 := p4
        unfold m_x3_value_b8 m_x3_value_J125
        refine pc_rg (pc_if (fun e => absurd e (by omega)) (fun _ => pc_rg (pc_rg (pc_if (fun _ => ?_) (fun e => absurd (by omega) e)))))
        refine pc_bq (s_pop (by omega)) (fun q4 h4 => pc_some ?_)
        show pc (m_x12_codesTell_b19 (m_x12_codesTell_L19 m) w x T) _
        unfold m_x12_codesTell_b19
        refine pc_rdI (fun _ => pc_rg (pc_rg (pc_if (fun _ => pc_rdL (pc_some ?_)) (fun e => absurd (by omega) e))))
        show q4.1 = gB T 107 (Int.toNat 0) ∧ (q4.1 = 0 ∨ q4.1 = 1)
        rw [h4.1, p4]
        show gA S 81 0 = gB T 107 0 ∧ (gA S 81 0 = 0 ∨ gA S 81 0 = 1)
        rw [p1]
        exact ⟨rfl, p3⟩
      · have xn : (x.toNat : Int) = x := by omega
        have cc := hc x.toNat (by omega)
        have ff := hF1 x.toNat (by omega) (by omega)
        have c9 := h44 x.toNat (by omega) (by omega)
        have idx : (1600 + x).toNat = 1600 + x.toNat := by omega
        obtain ⟨L', hL', hlen⟩ := hT ((x - a).toNat + 1) (by omega)
        have hstep : tyS (gA s 38 x.toNat) L = some L' := by
          have q : (tyr (gA s 38) a.toNat (x - a).toNat []).bind (tyS (gA s 38 (a.toNat + (x - a).toNat))) = some L' := hL'
          rw [hL, show a.toNat + (x - a).toNat = x.toNat by omega] at q
          exact q
        have hlenL : (L.length : Int) ≤ 64 := by
          obtain ⟨R, r1, r2⟩ := hT (x - a).toNat (by omega)
          rw [hL] at r1
          cases r1
          exact r2
        have crb : -118 ≤ gA s 38 x.toNat ∧ gA s 38 x.toNat ≤ 9999 := by
          unfold cr at cc; omega
        have P0 := hP
        obtain ⟨q1, q2, q3⟩ := P0
        refine s_stp (c := gA s 38 x.toNat) (by rw [hS.1]) ⟨by omega, by omega⟩ (by rw [hS.2.1]; exact h741) ff ⟨by unfold cr at cc; omega, by unfold cr at cc; omega⟩ (by omega) (fun w1 => ?_) (fun w1 => ?_) (fun w1 => ?_) (fun S' hS' hRC => ?_)
        · have : L'.length = L.length + 1 := by
            by_cases k : 0 ≤ gA s 38 x.toNat
            · have e : tyS (gA s 38 x.toNat) L = some (decide (gA s 38 x.toNat ≤ 1) :: L) := if_pos k
              rw [e] at hstep
              cases hstep
              rfl
            · have e : tyS (gA s 38 x.toNat) L = some (false :: L) := (if_neg k).trans (if_pos (by omega))
              rw [e] at hstep
              cases hstep
              rfl
          omega
        · rw [w1] at hstep
          obtain ⟨R, hR, _⟩ := tyS_u hstep
          have p := LP_0 hP hR
          omega
        · obtain ⟨x1, y1, R, z1, hR, _, _, hxy⟩ := tyS_j w1 hstep
          obtain ⟨p1, p2, p3, p4, p5, p6⟩ := LP_0 hP hR
          obtain ⟨r1, r2, r3, r4⟩ := p6
          have ly : (y1 :: R).length = R.length + 1 := rfl
          rw [ly] at p1 p2 p3 p4 p5
          have i1 : (gI S 1601 - 1).toNat = R.length + 1 := by omega
          have i2' : (gI S 1601 - 2).toNat = R.length := by omega
          rw [i1, i2', p1, r1]
          exact ⟨by omega, ⟨r2, p2⟩, fun v => ⟨r3 (hxy v).2, p3 (hxy v).1⟩⟩
        · refine fun q eq => m_stp (c := gA s 38 x.toNat) hzT ⟨by omega, by omega⟩ (by rw [idx, hT'.2.2.1]; exact cc) ff (fun T' hTT hRM => ?_)
          exact ih (x + 1) S' T' m L' (by omega) (SP_t hS hS') (TP_t hT' hTT) (by rw [show (x + 1 - a).toNat = (x - a).toNat + 1 by omega]; exact hL') (LP_step hP hstep hRC hRM ⟨by rw [hS.2.2.1, hT'.2.2.2.1]; exact hf.1, by rw [hS.2.2.2, hT'.2.2.2.2]; exact hf.2⟩ ⟨by rw [hT'.2.2.2.1]; exact hM.1, by rw [hT'.2.2.2.2]; exact hM.2⟩ (by omega)) q eq
  unfold m_x3_value m_x12_codesTell
  refine pc_stn (fun s49 e49 => fun q eq => pc_stn (fun s35 e35 => pc_stn (fun s36 e36 => pc_rdI (fun _ => ?_))))
  have i42 : gA s36 42 (3 + w).toNat = a := by rw [(q_Ia e36 : gA s36 42 = gA s35 42), (q_Ia e35 : gA s35 42 = gA t 42)]; exact hw
  rw [i42]
  exact L FU a s49 s36 FU [] ⟨Int.le_refl _, ha.2⟩ ⟨q_Ia e49, q_Ii e49 (by decide), q_Ii e49 (by decide), q_Ii e49 (by decide)⟩ ⟨(q_Ia e36).trans (q_Ia e35), (q_Ia e36).trans (q_Ia e35), (q_Ia e36).trans (q_Ia e35), (q_Ii e36 (by decide)).trans (q_Ii e35 (by decide)), (q_Ii e36 (by decide)).trans (q_Ii e35 (by decide))⟩ (by rw [show (a - a).toNat = 0 by omega]; rfl) ⟨q_II e49, q_II e36, True.intro⟩ q eq
/-! ===== whether a BLOCK splits: the same on both sides ===== -/
theorem SIM_k {π σ : Nat → Nat} {s s' t t' : MS} (h : SIM π σ s t) (a : ∀ k, 54 ≤ k → k ≤ 61 → gA s' k = gA s k) (a2 : gI s' 1060 = gI s 1060) (a3 : gL s' 1062 = gL s 1062) (b : gA t' 49 = gA t 49) (b2 : gA t' 39 5 = gA t 39 5) (b3 : gA t' 54 = gA t 54) : SIM π σ s' t' := by
  obtain ⟨⟨p, c, l, r⟩, n, w⟩ := h
  have e1 : hB s' 54 = hB s 54 := by
    unfold hB
    rw [a (54 + 2) (by decide) (by decide), a (54 + 3) (by decide) (by decide), a (54 + 5) (by decide) (by decide)]
  have e2 : kB s' 54 = kB s 54 := by
    unfold kB
    rw [a (54 + 4) (by decide) (by decide)]
  have e3 : cM t' = cM t := by unfold cM; rw [b]
  refine ⟨⟨by rw [a2]; exact p, fun x hx => ?_, fun x hx q => ?_, fun v hv => ?_⟩, by rw [a2, b2]; exact n, fun x hx q => ?_⟩
  · rw [a 54 (by decide) (by decide), a (54 + 1) (by decide) (by decide), b]; exact c x hx
  · rw [b] at q
    rw [e1, e2, b]
    exact l x hx q
  · rw [a (54 + 6) (by decide) (by decide), a (54 + 7) (by decide) (by decide), b]; exact r v hv
  · rw [a3, b3]
    exact w x hx (by rw [← e3]; exact q)
/-- what was told of splits -/
def ZP (s t : MS) : Prop := gI s 581 = gA t 39 6 ∧ CDT s t ∧ (gA s 35 1 ≠ -1 → (0 ≤ gA s 35 1 ∧ gA s 35 1 ≤ gA s 36 1) ∧ (gA s 36 1 ≤ gI s 741 ∧ gI s 741 ≤ 1600) ∧ FOK (gA s 38) (gA s 35 1) (gA s 36 1) 64)
theorem ZP_k {s s' t t' : MS} (h : ZP s t) (a1 : gI s' 581 = gI s 581) (a2 : gI s' 741 = gI s 741) (a3 : ∀ k, 35 ≤ k → k ≤ 38 → gA s' k = gA s k) (b : ∀ k, k = 39 ∨ (42 ≤ k ∧ k ≤ 44) → gA t' k = gA t k) : ZP s' t' := by
  unfold ZP CDT at h ⊢
  rw [a1, a2, a3 35 (by decide) (by decide), a3 36 (by decide) (by decide), a3 38 (by decide) (by decide), b 39 (by omega), b 42 (by omega), b 43 (by omega), b 44 (by omega)]
  exact h
theorem m_spl {b : Nat} {t : MS} {Q : Int × MS → Prop} (h1 : ¬ (hM t).2.1 b < gA t 39 6 → Q (1, t)) (h2 : (hM t).2.1 b < gA t 39 6 → (hM t).2.1 b < 2 → Q (0, t)) (h3 : (hM t).2.1 b < gA t 39 6 → ¬ (hM t).2.1 b < 2 → gA t 42 4 = -1 → Q (0, t))
    (h4 : (hM t).2.1 b < gA t 39 6 → ¬ (hM t).2.1 b < 2 → gA t 42 4 ≠ -1 → ∀ s21 : MS, (∀ i, i ≠ 52 → i ≠ 53 → gI s21 i = gI t i) → (∀ k, gA s21 k = gA t k) → gI s21 52 = (hM t).1 b → gI s21 53 = (hM t).2.1 b → pc (m_x12_codesTell 1 s21) (fun o => (o.1 = 0 ∨ o.1 = 1) ∧ Q (o.1, o.2))) : pc (m_x12_doesSplit (b : Int) t) Q := by
  unfold m_x12_doesSplit m_x12_roomOf m_x12_isCoded m_x12_isCoded_J17 m_x12_doesSplit_J29 m_x12_doesSplit_J60
  have tb : ((b : Nat) : Int).toNat = b := Int.toNat_natCast _
  refine pc_bq (m_ents (by omega)) (fun r6 h6 => pc_bq (Q := fun r => r = gA t 39 6) (pc_rdI (fun _ => pc_some rfl)) (fun r8 h8 => ?_))
  rw [tb] at h6
  rw [h6, h8]
  refine pc_rg (pc_rg (pc_if (fun c1 => pc_rg (pc_if (fun c2 => pc_some (h2 c1 c2)) (fun c2 => pc_bq (Q := fun r => (gA t 42 4 = -1 ∧ r = 0) ∨ (gA t 42 4 ≠ -1 ∧ r = 1)) (pc_rdI (fun _ => pc_rg (pc_if (fun c => pc_bo (pc_some (Or.inl ⟨c, rfl⟩))) (fun c => pc_bo (pc_some (Or.inr ⟨c, rfl⟩)))))) (fun r15 h15 => pc_rg (pc_if (fun c3 => pc_some ?_) (fun c3 => pc_bq (m_lev (by omega)) (fun r19 h19 => pc_stn (fun s20 e20 => pc_stn (fun s21 e21 => ?_))))))))) (fun c1 => pc_some (h1 c1))))
  · rcases h15 with ⟨a, _⟩ | ⟨_, a⟩
    · exact h3 c1 c2 a
    · omega
  · rcases h15 with ⟨_, a⟩ | ⟨a, _⟩
    · omega
    · rw [tb] at h19
      refine pc_bq (h4 c1 c2 a s21 (fun i i1 i2' => (q_Ii e21 i2').trans (q_Ii e20 i1)) (fun k => (q_Ia e21).trans (q_Ia e20)) (by rw [(q_Ii e21 (by decide) : gI s21 52 = gI s20 52), (q_II e20 : gI s20 52 = _), h19]) (q_II e21)) (fun o ho => pc_rgL (pc_if (fun c => pc_bo (pc_some ?_)) (fun c => pc_bo (pc_some ?_))))
      · have := ho.2
        rw [c] at this
        exact this
      · have := ho.2
        rw [show o.1 = 0 by have := ho.1; omega] at this
        exact this
theorem y_splits {π σ : Nat → Nat} {s t : MS} {b : Nat} {q o : Int × MS} (h : SIM π σ s t) (hb : b < 48) (hl : LV t b) (hZ : ZP s t) (hRt : Rr t) (hsz : (0 ≤ (hM t).2.1 b ∧ (hM t).2.1 b ≤ 6) ∧ (hM t).1 b ≤ 48 ∧ 0 ≤ (hM t).1 b) (e1 : m_x1_splits (π b : Int) s = some q) (e2 : m_x12_doesSplit (b : Int) t = some o) : q.1 = o.1 ∧ (q.1 = 0 ∨ q.1 = 1) ∧ SIM π σ q.2 o.2 ∧ ZP q.2 o.2 := by
  have F1 : F_x1_splits s q.2 := fr_x1_splits e1
  have F2 : F_x12_doesSplit t o.2 := fr_x12_doesSplit e2
  have B := sim_b h hb hl
  have tp : ((π b : Nat) : Int).toNat = π b := Int.toNat_natCast _
  have V : pc (m_x1_splits (π b : Int) s) (fun q => pc (m_x12_doesSplit (b : Int) t) (fun o => q.1 = o.1 ∧ (q.1 = 0 ∨ q.1 = 1))) := by
    have z : gA s 57 (π b) = (hM t).2.1 b := B.2.1
    have l56 : gA s 56 (π b) = (hM t).1 b := B.1
    have r6 := hZ.1
    have c4 : gA t 42 4 = gA s 35 1 := (hZ.2.1.2 1 (by decide)).1
    unfold m_x1_splits m_x1_splits_J47 m_x1_splits_J121
    refine pc_rdI (fun _ => pc_rg (pc_rg (pc_if (fun c1 => pc_rdI (fun _ => pc_rg (pc_if (fun c2 => pc_some ?_) (fun c2 => pc_rdI (fun _ => pc_rg (pc_if (fun c3 => pc_some ?_) (fun c3 => pc_rdI (fun _ => pc_stn (fun s16 e16 => pc_rdI (fun _ => pc_stn (fun s18 e18 => pc_rdI (fun _ => pc_rdI (fun _ => pc_bn (fun q23 e23 => ?_)))))))))))))) (fun c1 => pc_some ?_))))
    · rw [tp, z] at c1 c2
      exact m_spl (fun w => absurd (by omega) w) (fun _ _ => ⟨rfl, Or.inl rfl⟩) (fun _ w => absurd c2 w) (fun _ w => absurd c2 w)
    · rw [tp, z] at c1 c2
      have c3' : gA s 35 1 = -1 := c3
      exact m_spl (fun w => absurd (by omega) w) (fun _ w => absurd w c2) (fun _ _ _ => ⟨rfl, Or.inl rfl⟩) (fun _ _ w => absurd (c4.trans c3') w)
    · rw [tp, z] at c1 c2
      have c3' : gA s 35 1 ≠ -1 := c3
      obtain ⟨⟨g1, g2⟩, ⟨g3, g3'⟩, g4⟩ := hZ.2.2 c3'
      have A18 : ∀ k, gA s18 k = gA s k := fun k => (q_Ia e18).trans (q_Ia e16)
      have i741 : gI s18 741 = gI s 741 := (q_Ii e18 (by decide)).trans (q_Ii e16 (by decide))
      have i1604 : gI s18 1604 = (hM t).1 b := by
        rw [(q_Ii e18 (by decide) : gI s18 1604 = gI s16 1604), (q_II e16 : gI s16 1604 = _), tp]; exact l56
      have i1605 : gI s18 1605 = (hM t).2.1 b := by
        rw [(q_II e18 : gI s18 1605 = _), (q_Ia e16 : gA s16 57 = gA s 57), tp]; exact z
      have k35 : gA s18 35 (Int.toNat 1) = gA s 35 1 := by rw [A18]; rfl
      have k36 : gA s18 36 (Int.toNat 1) = gA s 36 1 := by rw [A18]; rfl
      rw [k35, k36] at e23
      have T : ∀ s21 : MS, (∀ i, i ≠ 52 → i ≠ 53 → gI s21 i = gI t i) → (∀ k, gA s21 k = gA t k) → gI s21 52 = (hM t).1 b → gI s21 53 = (hM t).2.1 b → pc (m_x12_codesTell 1 s21) (fun o => q23.1 = o.1 ∧ (q23.1 = 0 ∨ q23.1 = 1)) := fun s21 _ tA t52 t53 =>
        y_eval (s := s18) (t := s21) (a := gA s 35 1) (z := gA s 36 1) (w := 1) ⟨g1, g2⟩ (by rw [i741]; exact g3) (by rw [tA]; exact c4) (by rw [tA]; exact (hZ.2.1.2 1 (by decide)).2 c3') (fun j _ jz => by
          rw [tA]
          exact (hRt.2.1 44 (1600 + j) (by show 1600 + j < 3200; omega)).2) (fun j jz => by rw [tA, A18]; exact hZ.2.1.1 j (by omega)) (by rw [A18]; exact g4) ⟨by rw [i1604, t52], by rw [i1605, t53]⟩ ⟨by rw [t52]; omega, by rw [t53]; omega⟩ q23 e23
      refine pc_rg (pc_if (fun c5 => pc_bo (pc_some ?_)) (fun c5 => pc_bo (pc_some ?_)))
      · refine m_spl (fun w => absurd (by omega) w) (fun _ w => absurd w c2) (fun _ _ w => absurd (c4.symm.trans w) c3') (fun _ _ _ s21 a1 a2 a3 a4 => pc_mono (T s21 a1 a2 a3 a4) (fun o ho => ⟨by omega, ?_, Or.inl rfl⟩))
        show (0 : Int) = o.1
        omega
      · refine m_spl (fun w => absurd (by omega) w) (fun _ w => absurd w c2) (fun _ _ w => absurd (c4.symm.trans w) c3') (fun _ _ _ s21 a1 a2 a3 a4 => pc_mono (T s21 a1 a2 a3 a4) (fun o ho => ⟨by omega, ?_, Or.inr rfl⟩))
        show (1 : Int) = o.1
        omega
    · rw [tp, z] at c1
      exact m_spl (fun _ => ⟨rfl, Or.inr rfl⟩) (fun w => absurd (by omega) c1) (fun w => absurd (by omega) c1) (fun w => absurd (by omega) c1)
  have v := V q e1 o e2
  exact ⟨v.1, v.2, SIM_k h (fun k k1 k2 => F1.2.1 k (by simp; omega)) (F1.1 1060 (by decide)) (F1.2.2.1 1062 (by decide)) (F2.2.1 49 (by decide)) (by rw [F2.2.1 39 (by decide)]) (F2.2.1 54 (by decide)), ZP_k hZ (F1.1 581 (by decide)) (F1.1 741 (by decide)) (fun k k1 k2 => F1.2.1 k (by simp; omega)) (fun k hk => F2.2.1 k (by simp))⟩
theorem ZP_of {x t : MS} (H : PTJ x t) (h12 : gI x 12 ≠ 0) (h : gI x 741 ≤ 1600) : ZP x t := by
  obtain ⟨⟨_, g6, _⟩, c, f⟩ := H.2.1 h12
  exact ⟨g6.symm, c, fun z => by
    obtain ⟨⟨a1, a2, a3⟩, b⟩ := f z
    exact ⟨⟨a1, a2⟩, ⟨a3, h⟩, b⟩⟩
/-! ===== a BLOCK splits on both sides ===== -/
def HLv (o S : MS) (r b : Nat) (n : Int) : Prop := BX o S r ∧ (hM S).2.1 r = Int.tdiv n 2 ∧ (∀ j : Nat, (j : Int) < Int.tdiv n 2 → (hM S).2.2 r j = (hM o).2.2 b ((n - Int.tdiv n 2).toNat + j) ∧ kM S r j = kM o b ((n - Int.tdiv n 2).toNat + j)) ∧ gA S 39 = gA o 39 ∧ gA S 54 r ≠ 0 ∧ ∀ x, x ≠ r → gA S 54 x = gA o 54 x
def SZv (S q : MS) (b : Nat) (n : Int) : Prop := BX S q b ∧ (hM q).2.1 b = n - Int.tdiv n 2 ∧ (∀ j, (hM q).2.2 b j = (hM S).2.2 b j ∧ kM q b j = kM S b j) ∧ gA q 39 = gA S 39 ∧ TT S q b
/-- what the reference does where it splits b under a -/
def HFm (a b : Nat) (p1 key : Int) (t : MS) (o1 o : Int × MS) : Prop := (gI o1.2 55 = 1 ∧ o = ((b : Int), o1.2)) ∨ (gI o1.2 55 = 0 ∧ ∃ S q s, HLv o1.2 S o1.1.toNat b ((hM t).2.1 b) ∧ SZv S q b ((hM t).2.1 b) ∧ Rr q ∧ gI q 55 = 0 ∧ m_x12_inserts (a : Int) (p1 + 1) (kM q o1.1.toNat 0) o1.1 q = some s ∧ o.2 = s ∧ ((key < kM s o1.1.toNat 0 ∧ o.1 = (b : Int)) ∨ (¬ key < kM s o1.1.toNat 0 ∧ o.1 = o1.1)))
set_option maxHeartbeats 2000000 in
theorem m_half {a b : Nat} {p1 key : Int} {t : MS} (hR : Rr t) (hN : 0 ≤ gA t 39 5 ∧ gA t 39 5 ≤ 48) (hC : CE t 0) (h0 : gI t 55 = 0) (hb : b < 48) (lb : LV t b) (lev : 0 ≤ (hM t).1 b ∧ (hM t).1 b ≤ 48) (hz : 2 ≤ (hM t).2.1 b ∧ (hM t).2.1 b ≤ 6) : pc (m_x12_half (a : Int) p1 (b : Int) key t) (fun o => ∃ o1, m_x12_taken ((hM t).1 b) (b : Int) t = some o1 ∧ HFm a b p1 key t o1 o) := by
  have tb : ((b : Nat) : Int).toNat = b := Int.toNat_natCast _
  unfold m_x12_half
  refine pc_bq (m_lev (by omega)) (fun r36 h36 => pc_bn (fun o1 e1 => ?_))
  rw [tb] at h36
  rw [h36] at e1
  have W := wp_det (w_x12_taken hR hN hC (p0 := (hM t).1 b) (p1 := (b : Int)) ⟨lev.1, by omega⟩ ⟨by omega, by omega⟩) e1
  obtain ⟨hRo, _, W3⟩ := W
  have Fo : F_x12_taken t o1.2 := fr_x12_taken e1
  have r55 : (0 : Int) ≤ gI o1.2 55 ∧ gI o1.2 55 ≤ 1 := hRo.1 55
  refine pc_rg (pc_if (fun c1 => ?_) (fun c1 => pc_some ⟨o1, e1, Or.inl ⟨by omega, rfl⟩⟩))
  rcases W3 with w | ⟨_, ⟨r0, r1⟩, ⟨c0, v0⟩, TK⟩
  · omega
  obtain ⟨r, hrr⟩ : ∃ r, r = o1.1.toNat := ⟨_, rfl⟩
  have ri : o1.1 = (r : Int) := by omega
  have tr : ((r : Nat) : Int).toNat = r := Int.toNat_natCast _
  rw [← hrr] at c0 v0 TK
  have r48 : r < 48 := by omega
  have nrb : b ≠ r := fun e => by
    rw [e] at lb; unfold LV at lb; omega
  have zb : (hM o1.2).2.1 b = (hM t).2.1 b := TK.1 (20 + 16 * b) (by omega)
  have T54 : gA o1.2 54 r ≠ 0 := by
    rcases m_taken h0 o1 e1 with ⟨z, _⟩ | ⟨_, z⟩
    · omega
    · rw [z, ← hrr, upZ_s]; decide
  obtain ⟨n, hn⟩ : ∃ n, n = (hM t).2.1 b := ⟨_, rfl⟩
  have td := half_b (z := n) (E := 100) (by omega) (by omega) (by omega)
  obtain ⟨⟨t1, _, t2⟩, t3, _, t5⟩ := td
  refine pc_bq (m_ents (by omega)) (fun r43 h43 => pc_dv (pc_bq (m_ents (by omega)) (fun r46 h46 => ?_)))
  rw [tb, zb, ← hn] at h43 h46
  rw [h43, h46, ri]
  have L43 : ∀ (m : Nat) (x : Int) (S : MS), Rr S → gI S 55 = 0 → (0 ≤ x ∧ x ≤ Int.tdiv n 2) → BX o1.2 S r → (hM S).2.1 r = x → (∀ j : Nat, (j : Int) < x → (hM S).2.2 r j = (hM o1.2).2.2 b ((n - Int.tdiv n 2).toNat + j) ∧ kM S r j = kM o1.2 b ((n - Int.tdiv n 2).toNat + j)) → gA S 39 = gA o1.2 39 → (gA S 54 r ≠ 0 ∧ ∀ x, x ≠ r → gA S 54 x = gA o1.2 54 x) → pc (m_x12_half_L43 m (a : Int) p1 (b : Int) key (r : Int) (Int.tdiv n 2) (n - Int.tdiv n 2) x S) (fun o => ∃ o1, m_x12_taken ((hM t).1 b) (b : Int) t = some o1 ∧ HFm a b p1 key t o1 o) := by
    refine fr_ind (fun _ _ _ _ _ _ _ _ _ _ => pc_none) (fun m ih x S hRS s55 hx hBX hsz hcp s39 s54 => ?_)
    show pc (m_x12_half_b43 (m_x12_half_L43 m) (a : Int) p1 (b : Int) key (r : Int) (Int.tdiv n 2) (n - Int.tdiv n 2) x S) _
    unfold m_x12_half_b43 m_x12_half_J142
    refine pc_rg (pc_rg (pc_if (fun c2 => ?_) (fun c2 => ?_)))
    · have xg : x = Int.tdiv n 2 := by omega
      refine pc_inb (pc_stn (fun s16 e16 => pc_inb (pc_bo (pc_stn (fun s19 e19 => ?_)))))
      have hR16 : Rr s16 := e16 ▸ Rr.uAu hRS (by show (-2147483648 : Int) ≤ n - Int.tdiv n 2 ∧ n - Int.tdiv n 2 ≤ 2147483647; omega)
      have hR19 : Rr s19 := e19 ▸ Rr.uAu hR16 (by show (0 : Int) ≤ 1 ∧ (1 : Int) ≤ 1; omega)
      have u16 : gA s16 49 = upZ (gA S 49) (20 + 16 * b) (n - Int.tdiv n 2) := by
        rw [(q_AA e16 : gA s16 49 = _), show (17 + 16 * (b : Int) + 3).toNat = 20 + 16 * b by omega]
      obtain ⟨b2, z2, r2⟩ := M_size u16
      have u19 : gA s19 49 = gA s16 49 := q_Aa e19 (by decide)
      have hM' : hM s19 = hM s16 := by unfold hM; rw [u19]
      have kM' : kM s19 = kM s16 := by unfold kM; rw [u19]
      have SZ : SZv S s19 b n := by
        refine ⟨fun j hj => by rw [u19]; exact b2 j hj, by rw [hM']; exact z2, fun j => by rw [hM', kM']; exact r2 j, (q_Aa e19 (by decide)).trans (q_Aa e16 (by decide)), ?_, fun y hy => ?_⟩
        · rw [(q_AA e19 : gA s19 54 = _), tb, upZ_s]; decide
        · rw [(q_AA e19 : gA s19 54 = _), tb, upZ_n hy, (q_Aa e16 (by decide) : gA s16 54 = gA S 54)]
      refine pc_bq (m_key (by omega) (by decide)) (fun r21 h21 => pc_bn (fun s23 e23 => pc_bq (m_key (by omega) (by decide)) (fun r25 h25 => pc_rg (pc_rg (pc_if (fun c => pc_some ?_) (fun c => pc_some ?_))))))
      · rw [tr] at h21 h25
        rw [h21] at e23
        rw [h25] at c
        refine ⟨o1, e1, Or.inr ⟨c1, S, s19, s23, ?_, ?_, hR19, ((q_Ai e19).trans (q_Ai e16)).trans s55, ?_, rfl, Or.inl ⟨?_, rfl⟩⟩⟩
        · rw [← hrr, ← hn]; exact ⟨hBX, hsz.trans xg, fun j hj => hcp j (by omega), s39, s54.1, s54.2⟩
        · rw [← hn]; exact SZ
        · rw [← hrr, ri]; exact e23
        · rw [← hrr]; exact c
      · rw [tr] at h21 h25
        rw [h21] at e23
        rw [h25] at c
        refine ⟨o1, e1, Or.inr ⟨c1, S, s19, s23, ?_, ?_, hR19, ((q_Ai e19).trans (q_Ai e16)).trans s55, ?_, rfl, Or.inr ⟨?_, ri.symm⟩⟩⟩
        · rw [← hrr, ← hn]; exact ⟨hBX, hsz.trans xg, fun j hj => hcp j (by omega), s39, s54.1, s54.2⟩
        · rw [← hn]; exact SZ
        · rw [← hrr, ri]; exact e23
        · rw [← hrr]; exact c
    · refine pc_bq (m_key (by omega) ⟨by omega, by omega⟩) (fun r30 h30 => pc_bq (m_val (by omega) ⟨by omega, by omega⟩) (fun r32 h32 => pc_bn (fun s34 e34 => ?_)))
      rw [tb] at h30 h32
      have k30 : R2 r30 := by
        rw [h30]
        show R2 (if (n - Int.tdiv n 2 + x).toNat < 6 then gA S 49 (21 + 16 * b + (n - Int.tdiv n 2 + x).toNat) else 0)
        rw [if_pos (by omega)]; exact R49 hRS (by omega)
      have k32 : R2 r32 := by
        rw [h32]
        show R2 (if (n - Int.tdiv n 2 + x).toNat < 6 then gA S 49 (27 + 16 * b + (n - Int.tdiv n 2 + x).toNat) else 0)
        rw [if_pos (by omega)]; exact R49 hRS (by omega)
      have W2 := wp_det (w_x12_inserts hRS (p0 := (r : Int)) ⟨by omega, by omega⟩ ⟨hx.1, by rw [tr, hsz]; exact Int.le_refl _⟩ (by rw [tr, hsz]; omega) k30 k32) e34
      rw [tr] at W2
      obtain ⟨hR34, F34, iB, iz, ilo, iat, ihi⟩ := W2
      have TT2 := m_insT (p0 := (r : Int)) (by omega) s34 e34
      rw [tr] at TT2
      refine ih (x + 1) s34 hR34 ((F34.1 55 (by decide)).trans s55) (by omega) (BX_t hBX iB) (by rw [iz, hsz]) (fun j hj => ?_) ((F34.2.1 39 (by decide)).trans s39) ⟨TT2.1, fun y hy => (TT2.2 y hy).trans (s54.2 y hy)⟩
      by_cases z : j = x.toNat
      · rw [z, iat.1, iat.2, h32, h30, (BX_e hBX nrb).1, (BX_e hBX nrb).2, show (n - Int.tdiv n 2 + x).toNat = (n - Int.tdiv n 2).toNat + x.toNat by omega]; exact ⟨rfl, rfl⟩
      · rw [(ilo j (by omega)).1, (ilo j (by omega)).2]; exact hcp j (by omega)
  exact L43 FU 0 o1.2 hRo c1 (by omega) (BX_0 _ _) TK.2.2.2 (fun j hj => absurd hj (by omega)) rfl ⟨T54, fun _ _ => rfl⟩
/-- what the class does -/
def HFc (A B : Nat) (p1 key : Int) (q1 q : Int × MS) : Prop := ∃ s13 s15 s17 s22, m_x1_layEntries (B : Int) (gA q1.2 57 B - Int.tdiv (gA q1.2 57 B) 2) q1.1 q1.2 = some s13 ∧ sA s13 57 (upZ (gA s13 57) B (gA q1.2 57 B - Int.tdiv (gA q1.2 57 B) 2)) = s15 ∧ m_x8_mark (B : Int) s15 = some s17 ∧ m_x8_insert (A : Int) (p1 + 1) (gA s17 58 (6 * q1.1.toNat)) q1.1 s17 = some s22 ∧ q.2 = s22 ∧ ((key < gA s17 58 (6 * q1.1.toNat) ∧ q.1 = (B : Int)) ∨ (¬ key < gA s17 58 (6 * q1.1.toNat) ∧ q.1 = q1.1))
theorem s_half {A B : Nat} {p1 key : Int} {s : MS} : pc (m_x1_split (A : Int) p1 (B : Int) key s) (fun q => ∃ q1, m_x1_take (gA s 56 B) (B : Int) s = some q1 ∧ ((q1.1 = -1 ∧ q.1 = -1) ∨ (q1.1 ≠ -1 ∧ HFc A B p1 key q1 q))) := by
  have tB : ((B : Nat) : Int).toNat = B := Int.toNat_natCast _
  unfold m_x1_split m_x1_split_J123 m_x8_slot
  rw [tB]
  refine pc_rdI (fun _ => ?_)
  rw [tB]
  refine pc_bn (fun q6 e6 => pc_rg (pc_if (fun c => pc_some ⟨q6, e6, Or.inl ⟨c, rfl⟩⟩) (fun c => pc_rdI (fun _ => pc_rdI (fun _ => pc_dv (pc_bn (fun s13 e13 => pc_inb (pc_stn (fun s15 e15 => pc_bn (fun s17 e17 => pc_bn (fun r19 e19 => ?_))))))))))) 
  cases e19
  rw [tB] at e13 e15
  refine pc_rdI (fun g => pc_bn (fun s22 e22 => ?_))
  have ix : (q6.1 * 6 + 0).toNat = 6 * q6.1.toNat := by omega
  rw [ix] at e22 ⊢
  exact pc_rg (pc_rg (pc_if (fun c5 => pc_some ⟨q6, e6, Or.inr ⟨c, s13, s15, s17, s22, e13, e15, e17, e22, rfl, Or.inl ⟨c5, rfl⟩⟩⟩) (fun c5 => pc_some ⟨q6, e6, Or.inr ⟨c, s13, s15, s17, s22, e13, e15, e17, e22, rfl, Or.inr ⟨c5, rfl⟩⟩⟩)))
set_option maxHeartbeats 2000000 in
theorem y_split {π σ : Nat → Nat} {s t : MS} {a b : Nat} {p1 key : Int} {q o : Int × MS} {D : Nat → Int} (h : SIM π σ s t) (hK : KLV t) (hR : Rg s) (hRt : Rr t) (S0 : TS s D (-1)) (hD : ∀ x, x < 48 → 0 ≤ D x) (hN : 0 ≤ gA t 39 5 ∧ gA t 39 5 ≤ 48) (hC : CE t 0) (hE1 : 0 ≤ gI s 581) (h0 : gI t 55 = 0)
    (ha : a < 48) (hb : b < 48) (hab : a ≠ b) (la : LV t a) (lb : LV t b) (hz : 2 ≤ (hM t).2.1 b) (hk : 0 ≤ p1 ∧ p1 < (hM t).2.1 a) (hz5 : (hM t).2.1 a ≤ 5) (hl : 0 < (hM t).1 a) (e1 : m_x1_split (π a : Int) p1 (π b : Int) key s = some q) (e2 : m_x12_half (a : Int) p1 (b : Int) key t = some o) :
    (q.1 = -1 ∧ gI o.2 55 = 1) ∨ (gI o.2 55 = 0 ∧ 0 ≤ q.1 ∧ (0 ≤ o.1 ∧ o.1 < 48) ∧ ∃ π' σ', SIM π' σ' q.2 o.2 ∧ q.1 = (π' o.1.toNat : Int) ∧ ∀ x, x < 48 → LV t x → π' x = π x) := by
  have hP := h.1.1
  have Kb := hK.2.1 b hb lb
  have Ka := hK.2.1 a ha la
  have sz := Kb.1.1.2.1
  have Bb := sim_b h hb lb
  obtain ⟨o1, eo1, O⟩ := m_half hRt hN hC h0 hb lb ⟨Kb.1.1.1, Kb.1.2⟩ ⟨hz, sz.2⟩ o e2
  obtain ⟨q1, eq1, Qc⟩ := s_half q e1
  have lev : gA s 56 (π b) = (hM t).1 b := Bb.1
  rw [lev] at eq1
  have pb48 := (hP b hb).1.1
  have WR1 := wp_det (ts_take hR S0 hD hE1 ⟨Kb.1.1.1, by have := Kb.1.2; omega⟩ (p1 := (π b : Int)) ⟨by omega, by omega⟩) eq1
  obtain ⟨R1, F1, W1⟩ := WR1
  have W2 := wp_det (w_x12_taken hRt hN hC (p0 := (hM t).1 b) (p1 := (b : Int)) ⟨Kb.1.1.1, by have := Kb.1.2; omega⟩ ⟨by omega, by omega⟩) eo1
  have Y := y_take h hK (by rw [h.2.1]; exact hN.2) h0 eq1 eo1 (W1.imp id (fun w => ⟨w.1, w.2.1, w.2.2.1⟩)) W2.2.2
  rcases Y with ⟨y1, y2⟩ | ⟨y1, y2, y3, y3', y4, TK, π1, σ1, H1, y5, y6⟩
  · rcases Qc with ⟨_, z⟩ | ⟨z, _⟩
    · rcases O with ⟨z2, rfl⟩ | ⟨z2, _⟩
      · exact Or.inl ⟨z, y2⟩
      · omega
    · exact absurd y1 z
  rcases Qc with ⟨z, _⟩ | ⟨_, s13, s15, s17, s22, e13, e15, e17, e22, qq, qa⟩
  · omega
  rcases O with ⟨z2, _⟩ | ⟨_, S, u, v, HL, SZ, hRu, u55, ev, oq, oa⟩
  · omega
  obtain ⟨r, hrr⟩ : ∃ r, r = o1.1.toNat := ⟨_, rfl⟩
  obtain ⟨c, hcc⟩ : ∃ c, c = q1.1.toNat := ⟨_, rfl⟩
  rw [← hrr] at TK y4 y5 HL ev oa
  have ri : o1.1 = (r : Int) := by omega
  have ci : q1.1 = (c : Int) := by omega
  rw [ri] at ev oa
  rw [← hcc] at e22 qa
  rw [ci] at e13 e22 qa
  have r48 : r < 48 := by omega
  have cr1 : π1 r = c := by omega
  have P1 := H1.1.1
  have c48 : c < 48 := by rw [← cr1]; exact (P1 r r48).1.1
  have kb : π1 b = π b := y6 b hb lb
  have ka : π1 a = π a := y6 a ha la
  have nbr : b ≠ r := fun e => y4 (by rw [← e]; exact lb)
  have nar : a ≠ r := fun e => y4 (by rw [← e]; exact la)
  have npb : π b ≠ c := fun e => nbr (PB_i P1 hb r48 (by rw [kb, cr1]; exact e))
  have npab : π a ≠ π b := fun e => hab (PB_i hP ha hb e)
  have npa : π a ≠ c := fun e => nar (PB_i P1 ha r48 (by rw [ka, cr1]; exact e))
  obtain ⟨n, hn⟩ : ∃ n, n = (hM t).2.1 b := ⟨_, rfl⟩
  rw [← hn] at HL SZ hz sz
  have td := half_b (z := n) (E := 100) hz sz.2 (by omega)
  obtain ⟨⟨t1, _, t2⟩, t3, _, t5⟩ := td
  -- after the taking
  have same : ∀ x, x ≠ r → (hM o1.2).1 x = (hM t).1 x ∧ (hM o1.2).2.1 x = (hM t).2.1 x ∧ cM o1.2 x = cM t x ∧ vM o1.2 x = vM t x := fun x hx => ⟨TK.1 (19 + 16 * x) (by omega), TK.1 (20 + 16 * x) (by omega), TK.1 (17 + 16 * x) (by omega), TK.1 (18 + 16 * x) (by omega)⟩
  have LVo : ∀ x, x < 48 → LV o1.2 x → x = r ∨ LV t x := fun x _ hl => by
    by_cases e : x = r
    · exact Or.inl e
    · refine Or.inr ?_
      unfold LV at hl ⊢
      rw [← (same x e).2.2.1, ← (same x e).2.2.2]; exact hl
  have LVi : ∀ x, LV t x → LV o1.2 x := fun x hl => by
    have e : x ≠ r := fun e => y4 (by rw [← e]; exact hl)
    unfold LV at hl ⊢
    rw [(same x e).2.2.1, (same x e).2.2.2]; exact hl
  have LVr : LV o1.2 r := Or.inl (by rw [TK.2.1.1]; decide)
  have K1 : ∀ x, x < 48 → LV o1.2 x → 0 ≤ (hM o1.2).2.1 x ∧ (hM o1.2).2.1 x ≤ 6 := fun x hx hl => by
    by_cases e : x = r
    · rw [e, TK.2.2.2]; decide
    · rcases LVo x hx hl with w | w
      · exact absurd w e
      · rw [(same x e).2.1]; exact (hK.2.1 x hx w).1.1.2.1
  have nB : gA q1.2 57 (π b) = n := by
    have B1 := sim_b H1 hb (LVi b lb)
    have z : gA q1.2 57 (π1 b) = (hM o1.2).2.1 b := B1.2.1
    rw [kb, (same b nbr).2.1, ← hn] at z
    exact z
  rw [nB] at e13 e15
  have tpb : ((π b : Nat) : Int).toNat = π b := Int.toNat_natCast _
  have tc : ((c : Nat) : Int).toNat = c := Int.toNat_natCast _
  obtain ⟨R13, l57, l58, l59⟩ := wp_det (w_x1_layEntries R1 (p0 := (π b : Int)) (p2 := (c : Int)) ⟨by omega, by omega⟩ ⟨by omega, by omega⟩ (p1 := n - Int.tdiv n 2) ⟨by omega, by rw [tpb, nB]; omega, by rw [tpb, nB]; exact sz.2⟩) e13
  rw [tpb, tc, nB, show n - (n - Int.tdiv n 2) = Int.tdiv n 2 by omega] at l57 l58 l59
  have F13 : F_x1_layEntries q1.2 s13 := fr_x1_layEntries e13
  obtain ⟨hlB, hlz, hlc, hl39, hl54, hl54'⟩ := HL
  -- the new block's entries
  have mk1 : bW (gL q1.2 1062) c := by
    have w := (H1.2.2 r r48 (by rw [TK.2.1.1]; decide))
    rw [cr1] at w
    refine w.2 ?_
    rcases m_taken h0 o1 eo1 with ⟨z, _⟩ | ⟨_, z⟩
    · omega
    · rw [z, ← hrr, upZ_s]; decide
  have H2 : SIM π1 σ1 s13 S := by
    refine sim_blk H1 K1 r48 (F13.2.1 54 (by decide)) (F13.2.1 55 (by decide)) (F13.2.1 56 (by decide)) (F13.2.1 60 (by decide)) (F13.2.1 61 (by decide)) (F13.1 1060 (by decide)) (fun x hx hn' => by rw [l57, upZ_n (by rw [← cr1]; exact hn')]) (fun x hx hn' k h6 => ?_) hlB hl39 (by rw [l57, cr1, upZ_s, hlz]) (fun k hk' => ?_) LVr (Or.inl ⟨fun x hx => ?_, hl54, hl54'⟩)
    · rw [cr1] at hn'
      rw [l58, l59, cpa_out (by omega), cpa_out (by omega)]
      exact ⟨rfl, rfl⟩
    · rw [hlz] at hk'
      have c2 := hlc k hk'
      have B1 := (sim_b H1 hb (LVi b lb)).2.2 ((n - Int.tdiv n 2).toNat + k) (by rw [(same b nbr).2.1, ← hn]; omega)
      rw [kb] at B1
      have lr : (hM o1.2).1 r = (hM o1.2).1 b := by rw [TK.2.2.1, (same b nbr).1]
      rw [cr1, l58, l59, cpa_at (by omega), cpa_at (by omega), c2.1, c2.2, lr, show 6 * π b + (n - Int.tdiv n 2).toNat + k = 6 * π b + ((n - Int.tdiv n 2).toNat + k) by omega]
      exact B1
    · rw [F13.2.2.1 1062 (by decide), cr1]
      exact ⟨fun w => Or.inr w, fun w => w.elim (fun e => by rw [e]; exact mk1) id⟩
  -- the old one's size
  obtain ⟨szB, szz, szr, sz39, szT⟩ := SZ
  have cS : cM S = cM o1.2 := BX_c hlB
  have vS : vM S = vM o1.2 := BX_v hlB
  have LVS : ∀ x, LV S x → LV o1.2 x := fun x hl => by unfold LV at hl ⊢; rw [← cS, ← vS]; exact hl
  have LVS' : ∀ x, LV o1.2 x → LV S x := fun x hl => by unfold LV at hl ⊢; rw [cS, vS]; exact hl
  have K2 : ∀ x, x < 48 → LV S x → 0 ≤ (hM S).2.1 x ∧ (hM S).2.1 x ≤ 6 := fun x hx hl => by
    by_cases e : x = r
    · rw [e, hlz]; omega
    · rw [BX_z hlB e]; exact K1 x hx (LVS x hl)
  have zbS : (hM S).2.1 b = n := by rw [BX_z hlB nbr, (same b nbr).2.1, hn]
  have g17 : LM s15 s17 (π b) := by
    have m := s_mark (p := (π b : Int)) (s := s15) ⟨by omega, by omega⟩ s17 e17
    rw [tpb] at m; exact m
  have F17 : F_x8_mark s15 s17 := fr_x8_mark e17
  have A17 : ∀ k, k ≠ 57 → gA s17 k = gA s13 k := fun k hk' => (F17.2.1 k (by simp)).trans (q_Aa e15 hk')
  have A57 : gA s17 57 = upZ (gA s13 57) (π b) (n - Int.tdiv n 2) := (F17.2.1 57 (by simp)).trans (q_AA e15)
  have H3 : SIM π1 σ1 s17 u := by
    refine sim_blk H2 K2 hb (A17 54 (by decide)) (A17 55 (by decide)) (A17 56 (by decide)) (A17 60 (by decide)) (A17 61 (by decide)) ((F17.1 1060 (by simp)).trans (q_Ai e15)) (fun x hx hn' => by rw [A57, upZ_n (by rw [← kb]; exact hn')]) (fun x hx hn' k h6 => by rw [A17 58 (by decide), A17 59 (by decide)]; exact ⟨rfl, rfl⟩) szB sz39 (by rw [A57, kb, upZ_s, szz]) (fun k hk' => ?_) (LVS' b (LVi b lb)) (Or.inl ⟨?_, szT⟩)
    · rw [szz] at hk'
      rw [(szr k).1, (szr k).2, A17 58 (by decide), A17 59 (by decide)]
      exact (sim_b H2 hb (LVS' b (LVi b lb))).2.2 k (by rw [zbS]; omega)
    · rw [kb]
      exact LM_e g17 (q_Al e15)
  -- the entry above
  have cU : cM u = cM S := BX_c szB
  have vU : vM u = vM S := BX_v szB
  have LVU : ∀ x, LV u x → LV S x := fun x hl => by unfold LV at hl ⊢; rw [← cU, ← vU]; exact hl
  have LVU' : ∀ x, LV t x → LV u x := fun x hl => by
    have w := LVS' x (LVi x hl)
    unfold LV at w ⊢; rw [cU, vU]; exact w
  have K3 : ∀ x, x < 48 → LV u x → 0 ≤ (hM u).2.1 x ∧ (hM u).2.1 x ≤ 6 := fun x hx hl => by
    by_cases e : x = b
    · rw [e, szz]; omega
    · rw [BX_z szB e]; exact K2 x hx (LVU x hl)
  have zaU : (hM u).2.1 a = (hM t).2.1 a := by rw [BX_z szB hab, BX_z hlB nar, (same a nar).2.1]
  have laU : (hM u).1 a = (hM t).1 a := by rw [BX_l szB, BX_l hlB, (same a nar).1]
  have LrU : LV u r := by
    have w := LVS' r LVr
    unfold LV at w ⊢; rw [cU, vU]; exact w
  have zrU : (hM u).2.1 r = Int.tdiv n 2 := by rw [BX_z szB (fun e => nbr e.symm), hlz]
  have kr := ((sim_b H3 r48 LrU).2.2 0 (by rw [zrU]; omega)).1
  rw [cr1] at kr
  have kr' : gA s17 58 (6 * c) = kM u r 0 := kr
  have hR15 : Rg s15 := e15 ▸ Rg.uAu R13 (by show (-1 : Int) ≤ n - Int.tdiv n 2 ∧ n - Int.tdiv n 2 ≤ 255; omega)
  have hR17 : Rg s17 := wp_det (w_x8_mark hR15 (by omega)) e17
  rw [kr', ← ka] at e22
  have rk : (-257 : Int) ≤ gA s17 58 (6 * c) ∧ gA s17 58 (6 * c) ≤ 65535 := hR17.2.1 58 _ (by show _ < 288; omega)
  rw [kr'] at rk
  have Y3 := y_ins H3 K3 hR17 hRu ha (LVU' a la) ⟨by omega, by rw [zaU]; omega⟩ (by rw [zaU]; exact hz5) rk (v1 := (c : Int)) (v2 := (r : Int)) ⟨by omega, by omega⟩ ⟨by omega, by omega⟩ ⟨fun _ => by rw [Int.toNat_natCast, cr1], fun w => by rw [laU] at w; omega⟩ e22 ev
  obtain ⟨H4, BXa, _⟩ := Y3
  have kv : kM v r 0 = kM u r 0 := (BX_e (j := 0) BXa (fun e => nar e.symm)).2
  have v55 : gI v 55 = 0 := by
    have Fv : F_x12_inserts u v := fr_x12_inserts ev
    exact (Fv.1 55 (by decide)).trans u55
  refine Or.inr ⟨by rw [oq]; exact v55, ?_⟩
  rw [kr'] at qa
  rw [kv] at oa
  rcases qa with ⟨x1, x2⟩ | ⟨x1, x2⟩
  · rcases oa with ⟨z1, z2⟩ | ⟨z1, _⟩
    · refine ⟨by rw [x2]; omega, by rw [z2]; omega, π1, σ1, by rw [qq, oq]; exact H4, ?_, y6⟩
      rw [x2, z2, Int.toNat_natCast, kb]
    · exact absurd x1 z1
  · rcases oa with ⟨z1, _⟩ | ⟨_, z2⟩
    · exact absurd z1 x1
    · refine ⟨by rw [x2]; omega, by rw [z2]; omega, π1, σ1, by rw [qq, oq]; exact H4, ?_, y6⟩
      rw [x2, z2, Int.toNat_natCast, cr1]
/-! ===== a root rises on both sides ===== -/
theorem KLV_take {t o : MS} {r : Nat} {l : Int} (hK : KLV t) (TK : TkE t o r l) (nl : ¬ LV t r) (hl : 0 ≤ l ∧ l ≤ 48) (h39 : gA o 39 = gA t 39) : KLV o := by
  have same : ∀ x, x ≠ r → (hM o).1 x = (hM t).1 x ∧ (hM o).2.1 x = (hM t).2.1 x ∧ cM o x = cM t x ∧ vM o x = vM t x := fun x hx => ⟨TK.1 (19 + 16 * x) (by omega), TK.1 (20 + 16 * x) (by omega), TK.1 (17 + 16 * x) (by omega), TK.1 (18 + 16 * x) (by omega)⟩
  have vals : ∀ x, x ≠ r → ∀ k, (hM o).2.2 x k = (hM t).2.2 x k := fun x hx k => by
    show (if k < 6 then gA o 49 (27 + 16 * x + k) else 0) = if k < 6 then gA t 49 (27 + 16 * x + k) else 0
    by_cases z : k < 6
    · rw [if_pos z, if_pos z, TK.1 _ (by omega)]
    · rw [if_neg z, if_neg z]
  have up : ∀ x, LV t x → LV o x ∧ x ≠ r := fun x hl => by
    have e : x ≠ r := fun e => nl (by rw [← e]; exact hl)
    refine ⟨?_, e⟩
    unfold LV at hl ⊢
    rw [(same x e).2.2.1, (same x e).2.2.2]; exact hl
  have dn : ∀ x, x ≠ r → LV o x → LV t x := fun x e hl => by
    unfold LV at hl ⊢
    rw [← (same x e).2.2.1, ← (same x e).2.2.2]; exact hl
  refine ⟨fun x hx => ?_, fun x hx hl' => ?_, fun v hv h0 h1 => ?_⟩
  · by_cases e : x = r
    · rw [e, TK.2.1.1, TK.2.1.2]; decide
    · rw [(same x e).2.2.1, (same x e).2.2.2]; exact hK.1 x hx
  · rw [h39]
    by_cases e : x = r
    · rw [e]
      refine ⟨⟨⟨by rw [TK.2.2.1]; exact hl.1, by rw [TK.2.2.2]; decide, fun _ k hk => ?_⟩, by rw [TK.2.2.1]; exact hl.2⟩, fun _ k hk => ?_⟩
      · rw [TK.2.2.2] at hk; omega
      · rw [TK.2.2.2] at hk; omega
    · have q := hK.2.1 x hx (dn x e hl')
      have s := same x e
      refine ⟨⟨Nd_ext q.1.1 s.1 s.2.1 (fun k _ => vals x e k) (fun w k hk => (same _ (up _ (q.2 w k hk).2).2).1), by rw [s.1]; exact q.1.2⟩, fun w k hk => ?_⟩
      rw [s.1] at w
      rw [s.2.1] at hk
      rw [vals x e k]
      exact ⟨(q.2 w k hk).1, (up _ (q.2 w k hk).2).1⟩
  · have e := TK.1 v (by omega)
    rw [e] at h0 h1 ⊢
    exact (up _ (hK.2.2 v hv h0 h1)).1
theorem KLV_ins {t o : MS} {a k : Nat} {key val : Int} (hK : KLV t) (I : InsE t o a k key val) (h39 : gA o 39 = gA t 39) (hz5 : (hM t).2.1 a ≤ 5) (hk : (k : Int) ≤ (hM t).2.1 a) (hv : 0 < (hM t).1 a → ((0 ≤ val ∧ val < gA t 39 5) ∧ val < 48) ∧ (hM t).1 val.toNat = (hM t).1 a - 1 ∧ LV t val.toNat) : KLV o := by
  obtain ⟨B, z, i1, i2, i3⟩ := I
  have c := BX_c B
  have v' := BX_v B
  have l := BX_l B
  have LE : ∀ x, LV o x ↔ LV t x := fun x => by unfold LV; rw [c, v']
  refine ⟨fun x hx => by rw [c, v']; exact hK.1 x hx, fun x hx hl => ?_, fun u hu h0 h1 => ?_⟩
  · have hl' := (LE x).1 hl
    have q := hK.2.1 x hx hl'
    rw [h39]
    by_cases e : x = a
    · rw [e] at q ⊢
      have key' : 0 < (hM t).1 a → ∀ j : Nat, (j : Int) < (hM t).2.1 a + 1 → ((0 ≤ (hM o).2.2 a j ∧ (hM o).2.2 a j < gA t 39 5) ∧ (hM o).2.2 a j < 48) ∧ (hM t).1 ((hM o).2.2 a j).toNat = (hM t).1 a - 1 ∧ LV t ((hM o).2.2 a j).toNat := fun w j hj => by
        rcases Nat.lt_trichotomy j k with g | g | g
        · rw [(i1 j g).1]
          have n := q.1.1.2.2 w j (by omega)
          have m := q.2 w j (by omega)
          exact ⟨⟨n.1, m.1.2⟩, n.2, m.2⟩
        · rw [g, i2.1]; exact hv w
        · obtain ⟨j', hj'⟩ : ∃ j', j = j' + 1 := ⟨j - 1, by omega⟩
          rw [hj', (i3 j' (by omega) (by omega)).1]
          have n := q.1.1.2.2 w j' (by omega)
          have m := q.2 w j' (by omega)
          exact ⟨⟨n.1, m.1.2⟩, n.2, m.2⟩
      have q1 := q.1.1.1
      have q2 := q.1.1.2.1
      refine ⟨⟨⟨by rw [l]; exact q1, by rw [z]; omega, fun w j hj => ?_⟩, by rw [l]; exact q.1.2⟩, fun w j hj => ?_⟩
      · rw [l] at w ⊢
        rw [z] at hj
        have r := key' w j hj
        exact ⟨r.1.1, r.2.1⟩
      · rw [l] at w
        rw [z] at hj
        have r := key' w j hj
        exact ⟨⟨r.1.1.1, r.1.2⟩, (LE _).2 r.2.2⟩
    · have s := BX_z B e
      refine ⟨⟨Nd_ext q.1.1 (by rw [l]) s (fun j _ => (BX_e B e).1) (fun _ _ _ => by rw [l]), by rw [l]; exact q.1.2⟩, fun w j hj => ?_⟩
      rw [l] at w
      rw [s] at hj
      rw [(BX_e (j := j) B e).1]
      exact ⟨(q.2 w j hj).1, (LE _).2 (q.2 w j hj).2⟩
  · by_cases hu17 : u < 17
    · rw [BX_u B hu17] at h0 h1 ⊢
      exact (LE _).2 (hK.2.2 u hu h0 h1)
    · omega
theorem KLV_root {t o : MS} {v : Nat} {q : Int} (hK : KLV t) (hv : v < 8) (e : gA o 49 = upZ (gA t 49) v q) (h39 : gA o 39 = gA t 39) (hq : 0 ≤ q → q < 48 → LV t q.toNat) : KLV o := by
  obtain ⟨⟨m1, m2⟩, ⟨m3, m4⟩, _⟩ := M_root hv e
  have LE : ∀ x, LV o x ↔ LV t x := fun x => by unfold LV; rw [m3, m4]
  refine ⟨fun x hx => by rw [m3, m4]; exact hK.1 x hx, fun x hx hl => ?_, fun u hu h0 h1 => ?_⟩
  · have r := hK.2.1 x hx ((LE x).1 hl)
    rw [m1, h39]
    exact ⟨r.1, fun w k hk => ⟨(r.2 w k hk).1, (LE _).2 (r.2 w k hk).2⟩⟩
  · rw [e] at h0 h1 ⊢
    by_cases z : u = v
    · rw [z, upZ_s] at h0 h1 ⊢
      exact (LE _).2 (hq h0 h1)
    · rw [upZ_n z] at h0 h1 ⊢
      exact (LE _).2 (hK.2.2 u hu h0 h1)
theorem sim_root {π σ : Nat → Nat} {s s' t t' : MS} {v : Nat} {q1 q2 : Int} (h : SIM π σ s t) (hv : v < 8) (a : ∀ k, 54 ≤ k → k ≤ 61 → k ≠ 60 → gA s' k = gA s k) (a60 : gA s' 60 = upZ (gA s 60) v q1) (a2 : gI s' 1060 = gI s 1060) (a3 : gL s' 1062 = gL s 1062) (b : gA t' 49 = upZ (gA t 49) v q2) (b2 : gA t' 39 5 = gA t 39 5) (b3 : gA t' 54 = gA t 54) (hr : rtr π q1 q2) : SIM π σ s' t' := by
  obtain ⟨⟨p, c, l, r⟩, n, w⟩ := h
  obtain ⟨⟨m1, m2⟩, ⟨m3, m4⟩, _⟩ := M_root hv b
  have e1 : hB s' 54 = hB s 54 := by
    unfold hB
    rw [a (54 + 2) (by decide) (by decide) (by decide), a (54 + 3) (by decide) (by decide) (by decide), a (54 + 5) (by decide) (by decide) (by decide)]
  have e2 : kB s' 54 = kB s 54 := by
    unfold kB
    rw [a (54 + 4) (by decide) (by decide) (by decide)]
  refine ⟨⟨by rw [a2]; exact p, fun x hx => ?_, fun x hx q => ?_, fun u hu => ?_⟩, by rw [a2, b2]; exact n, fun x hx q => ?_⟩
  · show gA s' 54 (π x) = cM t' x ∧ gA s' 55 (π x) = vM t' x
    rw [a 54 (by decide) (by decide) (by decide), a 55 (by decide) (by decide) (by decide), m3, m4]
    exact c x hx
  · show BR1 π (hB s' 54) (hM t') (kB s' 54) (kM t') x
    have q' : 0 < cM t' x ∨ 0 < vM t' x := q
    rw [m3, m4] at q'
    rw [e1, e2, m1, m2]
    exact l x hx q'
  · show rtr π (gA s' 60 u) (gA t' 49 u) ∧ rtr π (gA s' 61 u) (gA t' 49 (8 + u))
    rw [a60, a 61 (by decide) (by decide) (by decide), b, upZ_n (show 8 + u ≠ v by omega)]
    by_cases z : u = v
    · rw [z, upZ_s, upZ_s]
      exact ⟨hr, by have := (r v hv).2; exact this⟩
    · rw [upZ_n z, upZ_n z]; exact r u hu
  · rw [a3, b3]
    rw [m3] at q
    exact w x hx q
/-- what the reference does -/
theorem m_root {b v : Nat} {key : Int} {t : MS} : pc (m_x12_rootSplit (v : Int) (b : Int) key t) (fun o => ∃ o1, m_x12_taken ((hM t).1 b + 1) 48 t = some o1 ∧ ((gI o1.2 55 ≠ 0 ∧ o = ((b : Int), o1.2)) ∨ (gI o1.2 55 = 0 ∧ ∃ u w, m_x12_inserts o1.1 0 (kM o1.2 b 0) (b : Int) o1.2 = some u ∧ sA u 49 (upZ (gA u 49) v o1.1) = w ∧ m_x12_half o1.1 0 (b : Int) key w = some o))) := by
  have tb : ((b : Nat) : Int).toNat = b := Int.toNat_natCast _
  have tv : ((v : Nat) : Int).toNat = v := Int.toNat_natCast _
  unfold m_x12_rootSplit
  refine pc_bq (m_lev (by omega)) (fun r2 h2 => pc_bn (fun o1 e1 => pc_rg (pc_if (fun c => ?_) (fun c => pc_some ?_))))
  · rw [tb] at h2
    rw [h2] at e1
    refine pc_bq (m_key (by omega) (by decide)) (fun r9 h9 => pc_bn (fun u eu => pc_inb (pc_stn (fun w ew => pc_bn (fun o16 e16 => pc_some ?_)))))
    rw [tb] at h9
    rw [h9] at eu
    rw [tv] at ew
    exact ⟨o1, e1, Or.inr ⟨c, u, w, eu, ew, e16⟩⟩
  · rw [tb] at h2
    rw [h2] at e1
    exact ⟨o1, e1, Or.inl ⟨c, rfl⟩⟩
/-- what the class does -/
theorem s_root {B v : Nat} {s : MS} (hr : gA s 60 v = (B : Int)) : pc (m_x1_raiseRoot (v : Int) s) (fun q => ∃ q1, m_x1_take (gA s 56 B + 1) (B : Int) s = some q1 ∧ ((q1.1 = -1 ∧ q.1 = -1) ∨ (q1.1 ≠ -1 ∧ ∃ s14, m_x8_insert q1.1 0 (gA q1.2 58 (6 * B)) (B : Int) q1.2 = some s14 ∧ sA s14 60 (upZ (gA s14 60) v q1.1) = q.2 ∧ q.1 = q1.1))) := by
  have tB : ((B : Nat) : Int).toNat = B := Int.toNat_natCast _
  have tv : ((v : Nat) : Int).toNat = v := Int.toNat_natCast _
  unfold m_x1_raiseRoot m_x1_raiseRoot_J69 m_x8_slot
  refine pc_rdI (fun _ => ?_)
  rw [tv, hr]
  refine pc_rdI (fun _ => ?_)
  rw [tB]
  refine pc_bn (fun q7 e7 => pc_rg (pc_if (fun c => pc_some ⟨q7, e7, Or.inl ⟨c, c⟩⟩) (fun c => pc_bn (fun r11 e11 => ?_))))
  cases e11
  refine pc_rdI (fun _ => pc_bn (fun s14 e14 => pc_inb (pc_stn (fun s16 e16 => pc_some ?_))))
  rw [show ((B : Int) * 6 + 0).toNat = 6 * B by omega] at e14
  exact ⟨q7, e7, Or.inr ⟨c, s14, e14, e16, rfl⟩⟩
set_option maxHeartbeats 2000000 in
theorem y_raise {π σ : Nat → Nat} {s t : MS} {b v : Nat} {key : Int} {q o : Int × MS} {D : Nat → Int} (h : SIM π σ s t) (hK : KLV t) (hR : Rg s) (hRt : Rr t) (S0 : TS s D (-1)) (hD : ∀ x, x < 48 → 0 ≤ D x) (hN : 0 ≤ gA t 39 5 ∧ gA t 39 5 ≤ 48) (hC : CE t 0) (hE1 : 0 ≤ gI s 581) (h0 : gI t 55 = 0) (hv : v < 8)
    (hb : b < 48) (lb : LV t b) (hl : (hM t).1 b ≤ 47) (hz : 1 ≤ (hM t).2.1 b) (hr : gA s 60 v = (π b : Int)) (e1 : m_x1_raiseRoot (v : Int) s = some q) (e2 : m_x12_rootSplit (v : Int) (b : Int) key t = some o) :
    (q.1 = -1 ∧ gI o.2 55 = 1) ∨ (q.1 ≠ -1 ∧ ∃ r w π1 σ1, r < 48 ∧ SIM π1 σ1 q.2 w ∧ q.1 = (π1 r : Int) ∧ (∀ x, x < 48 → LV t x → π1 x = π x) ∧ KLV w ∧ Rr w ∧ (gA w 39 = gA t 39 ∧ ∀ k, 42 ≤ k → k ≤ 44 → gA w k = gA t k) ∧ gI w 55 = 0 ∧ LV w r ∧ (hM w).2.1 r = 1 ∧ (hM w).1 r = (hM t).1 b + 1 ∧ (b ≠ r ∧ LV w b ∧ (hM w).2.1 b = (hM t).2.1 b ∧ (hM w).1 b = (hM t).1 b) ∧ ((hM w).2.2 r 0 = (b : Int) ∧ ¬ LV t r ∧ (∀ x, x ≠ r → ROW t x w x) ∧ ∀ x, x < 48 → LV w x → x = r ∨ LV t x) ∧ m_x12_half (r : Int) 0 (b : Int) key w = some o) := by
  have hP := h.1.1
  have Kb := hK.2.1 b hb lb
  have Bb := sim_b h hb lb
  have lev : gA s 56 (π b) = (hM t).1 b := Bb.1
  have pb48 := (hP b hb).1.1
  have tpb : ((π b : Nat) : Int).toNat = π b := Int.toNat_natCast _
  obtain ⟨o1, eo1, O⟩ := m_root o e2
  obtain ⟨q1, eq1, Qc⟩ := s_root hr q e1
  rw [lev] at eq1
  have l0 := Kb.1.1.1
  obtain ⟨R1, F1, W1⟩ := wp_det (ts_take hR S0 hD hE1 (p0 := (hM t).1 b + 1) ⟨by omega, by omega⟩ (p1 := (π b : Int)) ⟨by omega, by omega⟩) eq1
  obtain ⟨Ro, _, W2⟩ := wp_det (w_x12_taken hRt hN hC (p0 := (hM t).1 b + 1) (p1 := 48) ⟨by omega, by omega⟩ ⟨by omega, by omega⟩) eo1
  have Fo : F_x12_taken t o1.2 := fr_x12_taken eo1
  have Y := y_take h hK (by rw [h.2.1]; exact hN.2) h0 eq1 eo1 (W1.imp id (fun w => ⟨w.1, w.2.1, w.2.2.1⟩)) W2
  rcases Y with ⟨y1, y2⟩ | ⟨y1, y2, y3, y3', y4, TK, π1, σ1, H1, y5, y6⟩
  · rcases Qc with ⟨_, z⟩ | ⟨z, _⟩
    · rcases O with ⟨_, rfl⟩ | ⟨z2, _⟩
      · exact Or.inl ⟨z, y2⟩
      · omega
    · exact absurd y1 z
  rcases Qc with ⟨z, _⟩ | ⟨_, s14, e14, e16, qa⟩
  · omega
  rcases O with ⟨z2, _⟩ | ⟨_, u, w, eu, ew, eh⟩
  · exact absurd y1 z2
  obtain ⟨r, hrr⟩ : ∃ r, r = o1.1.toNat := ⟨_, rfl⟩
  rw [← hrr] at TK y4 y5
  have ri : o1.1 = (r : Int) := by omega
  rw [ri] at eu ew eh
  rw [y5] at e14 e16 qa
  have r48 : r < 48 := by omega
  have P1 := H1.1.1
  have pr48 := (P1 r r48).1.1
  have tr : ((r : Nat) : Int).toNat = r := Int.toNat_natCast _
  have kb : π1 b = π b := y6 b hb lb
  have nbr : b ≠ r := fun e => y4 (by rw [← e]; exact lb)
  have K1 := KLV_take hK TK y4 ⟨by omega, by omega⟩ (Fo.2.1 39 (by decide))
  have sb1 : (hM o1.2).1 b = (hM t).1 b ∧ (hM o1.2).2.1 b = (hM t).2.1 b ∧ cM o1.2 b = cM t b ∧ vM o1.2 b = vM t b := ⟨TK.1 (19 + 16 * b) (by omega), TK.1 (20 + 16 * b) (by omega), TK.1 (17 + 16 * b) (by omega), TK.1 (18 + 16 * b) (by omega)⟩
  have lb1 : LV o1.2 b := by
    unfold LV at lb ⊢
    rw [sb1.2.2.1, sb1.2.2.2]; exact lb
  have lr1 : LV o1.2 r := Or.inl (by rw [TK.2.1.1]; decide)
  have k0 := ((sim_b H1 hb lb1).2.2 0 (by rw [sb1.2.1]; omega)).1
  rw [kb] at k0
  have k0' : gA q1.2 58 (6 * π b) = kM o1.2 b 0 := k0
  have rk : (-257 : Int) ≤ gA q1.2 58 (6 * π b) ∧ gA q1.2 58 (6 * π b) ≤ 65535 := R1.2.1 58 _ (by show _ < 288; omega)
  rw [k0'] at e14 rk
  have rb : LV o1.2 ((b : Nat) : Int).toNat := by rw [Int.toNat_natCast]; exact lb1
  have bN : (b : Int) < gA o1.2 39 5 := by
    rw [Fo.2.1 39 (by decide), ← h.2.1]
    refine (hP b hb).2.2.1 ?_
    have nl := (S0.1.2.1 (π b) pb48).2.1
    have ns := (S0.1.2.2.1 (π b) pb48).2.1
    have cb := sim_c h hb
    unfold LV at lb
    omega
  have Y2 := y_ins H1 (fun x hx hl => (K1.2.1 x hx hl).1.1.2.1) R1 Ro r48 lr1 (p1 := 0) (key := kM o1.2 b 0) (v1 := (π b : Int)) (v2 := (b : Int)) ⟨Int.le_refl 0, by rw [TK.2.2.2]; decide⟩ (by rw [TK.2.2.2]; decide) rk ⟨by omega, by omega⟩ ⟨by omega, by omega⟩ ⟨fun _ => by rw [Int.toNat_natCast, kb], fun w => by rw [TK.2.2.1] at w; omega⟩ e14 eu
  obtain ⟨H2, BXu, zu⟩ := Y2
  have WI := wp_det (w_x12_inserts Ro (p0 := (r : Int)) (p1 := 0) (p2 := kM o1.2 b 0) (p3 := (b : Int)) ⟨by omega, by omega⟩ ⟨Int.le_refl 0, by rw [tr, TK.2.2.2]; decide⟩ (by rw [tr, TK.2.2.2]; decide) ⟨by omega, by omega⟩ ⟨by omega, by omega⟩) eu
  rw [tr] at WI
  obtain ⟨Ru, Fu, Iu⟩ := WI
  have K2 := KLV_ins K1 Iu (Fu.2.1 39 (by decide)) (by rw [TK.2.2.2]; decide) (by rw [TK.2.2.2]; decide) (fun _ => ⟨⟨⟨by omega, bN⟩, by omega⟩, by rw [Int.toNat_natCast, sb1.1, TK.2.2.1]; omega, rb⟩)
  have lru : LV u r := by unfold LV; rw [BX_c BXu, BX_v BXu]; exact lr1
  have lbu : LV u b := by unfold LV; rw [BX_c BXu, BX_v BXu]; exact lb1
  have w49 : gA w 49 = upZ (gA u 49) v (r : Int) := q_AA ew
  have wA : ∀ k, k ≠ 49 → gA w k = gA u k := fun k hk => q_Aa ew hk
  have K3 : KLV w := KLV_root K2 hv w49 (wA 39 (by decide)) (fun _ _ => by rw [tr]; exact lru)
  obtain ⟨⟨m1, m2⟩, ⟨m3, m4⟩, _⟩ := M_root hv w49
  have Rw : Rr w := ew ▸ Rr.uAu Ru (by show (-2147483648 : Int) ≤ (r : Int) ∧ (r : Int) ≤ 2147483647; omega)
  have H3 : SIM π1 σ1 q.2 w := sim_root H2 hv (fun k k1 k2 k3 => q_Aa e16 k3) (q_AA e16) (q_Ai e16) (q_Al e16) w49 (by rw [wA 39 (by decide)]) (wA 54 (by decide)) (Or.inr (Or.inr ⟨by omega, by omega, by rw [tr]⟩))
  have LVw : ∀ x, LV u x → LV w x := fun x hl => by unfold LV at hl ⊢; rw [m3, m4]; exact hl
  refine Or.inr ⟨by rw [qa]; omega, r, w, π1, σ1, r48, H3, qa, y6, K3, Rw, ⟨?_, fun k k1 k2 => ?_⟩, ?_, LVw r lru, ?_, ?_, ⟨nbr, LVw b lbu, ?_, ?_⟩, ⟨?_, y4, fun x hx => ?_, fun x hx hl => ?_⟩, eh⟩
  · rw [wA 39 (by decide), Fu.2.1 39 (by decide)]; exact Fo.2.1 39 (by decide)
  · rw [wA k (by omega), Fu.2.1 k (by simp; omega)]; exact Fo.2.1 k (by simp; omega)
  · rw [(q_Ai ew : gI w 55 = gI u 55), Fu.1 55 (by decide)]; exact y1
  · rw [m1, zu, TK.2.2.2]; decide
  · rw [m1, BX_l BXu, TK.2.2.1]
  · rw [m1, BX_z BXu nbr]; exact sb1.2.1
  · rw [m1, BX_l BXu]; exact sb1.1
  · rw [m1]; exact Iu.2.2.2.1.1
  · exact ROW_t (ROW_t (ROW_tk TK hx) (ROW_bx BXu hx)) ⟨by rw [m1], by rw [m1], fun k => by rw [m1, m2]; exact ⟨rfl, rfl⟩⟩
  · by_cases e : x = r
    · exact Or.inl e
    · refine Or.inr ?_
      unfold LV at hl ⊢
      rw [m3, m4, BX_c BXu, BX_v BXu] at hl
      have c1 : cM o1.2 x = cM t x := TK.1 (17 + 16 * x) (by omega)
      have c2 : vM o1.2 x = vM t x := TK.1 (18 + 16 * x) (by omega)
      rw [← c1, ← c2]; exact hl
/-! ===== the order of keys, by an interval a BLOCK ===== -/
theorem SO_step {f : Nat → Int} {a : Nat} {z : Int} (h : ∀ k : Nat, a ≤ k → (k : Int) + 1 < z → f k < f (k + 1)) : SO f a z := by
  intro i j hi hij hj
  obtain ⟨d, hd⟩ : ∃ d, j = i + 1 + d := ⟨j - i - 1, by omega⟩
  subst hd
  induction d with
  | zero => exact h i hi (by omega)
  | succ d ih =>
    have q := ih (by omega) (by omega)
    have r : f (i + 1 + d) < f (i + 1 + (d + 1)) := h (i + 1 + d) (by omega) (by omega)
    exact Int.lt_trans q r
def OBk (t : MS) (lo hi : Nat → Int) (x : Nat) : Prop := lo x ≤ hi x ∧ ((hM t).1 x ≤ 0 → SO (kM t x) 0 ((hM t).2.1 x) ∧ ∀ j : Nat, (j : Int) < (hM t).2.1 x → lo x ≤ kM t x j ∧ kM t x j ≤ hi x ∧ 0 ≤ (hM t).2.2 x j) ∧ (0 < (hM t).1 x → ∀ k : Nat, (k : Int) < (hM t).2.1 x → (lo x ≤ lo ((hM t).2.2 x k).toNat ∧ hi ((hM t).2.2 x k).toNat ≤ hi x) ∧ (1 ≤ k → kM t x k ≤ lo ((hM t).2.2 x k).toNat) ∧ ((k : Int) + 1 < (hM t).2.1 x → hi ((hM t).2.2 x k).toNat < kM t x (k + 1)))
def OI (t : MS) (lo hi : Nat → Int) : Prop := ∀ x, x < 48 → LV t x → OBk t lo hi x
theorem OI_SO {t : MS} {lo hi : Nat → Int} (H : OI t lo hi) (hK : KLV t) {x : Nat} (hx : x < 48) (hl : LV t x) : SO (kM t x) 1 ((hM t).2.1 x) := by
  by_cases w : 0 < (hM t).1 x
  · refine SO_step (fun k k1 k2 => ?_)
    have c := (H x hx hl).2.2 w k (by omega)
    have kid := (hK.2.1 x hx hl).2 w k (by omega)
    have y := (H _ (by omega) kid.2).1
    have c1 := c.2.1 k1
    have c2 := c.2.2 k2
    omega
  · have q := ((H x hx hl).2.1 (by omega)).1
    exact fun i j _ hij hj => q i j (Nat.zero_le _) hij hj
/-- who is counted once has one that names it -/
theorem one_par {t : MS} {D : Nat → Int} {e : Int} (T : TM t D e) {a b k : Nat} (hb : b < 48) (hDb : D b = 0) (ha : a < 48) (hca : 0 < cM t a) (hla : 0 < (hM t).1 a) (hk : (k : Int) < (hM t).2.1 a) (hv : (hM t).2.2 a k = (b : Int)) (hcb : cM t b = 1) : ∀ p k' : Nat, p < 48 → 0 < cM t p → 0 < (hM t).1 p → (k' : Int) < (hM t).2.1 p → (hM t).2.2 p k' = (b : Int) → p = a ∧ k' = k := by
  intro p k' hp hcp hlp hk' hv'
  have d := T.2.1.1 b hb
  rw [hDb] at d
  unfold df rf at d
  have r0 := rr_nn (rM t) (b : Int)
  have f0 : ∀ j, j < 48 → (0 : Int) ≤ (fun p => if 0 < cM t p then en (hM t) p (b : Int) else 0) j := fun j _ => by
    show (0 : Int) ≤ if 0 < cM t j then en (hM t) j (b : Int) else 0
    split
    · exact en_nn _ _ _
    · exact Int.le_refl 0
  have za := (TG_nd T ha hca).2.1
  have zp := (TG_nd T hp hcp).2.1
  have ea : 1 ≤ en (hM t) a (b : Int) := by
    have g := enf_pos (h := hM t) (p := a) (k := k) (i := 0) hla hk (by omega) (by omega)
    rw [hv] at g
    exact g
  have ep : 1 ≤ en (hM t) p (b : Int) := by
    have g := enf_pos (h := hM t) (p := p) (k := k') (i := 0) hlp hk' (by omega) (by omega)
    rw [hv'] at g
    exact g
  by_cases z : p = a
  · refine ⟨z, Classical.byContradiction (fun w => ?_)⟩
    rw [z] at hk' hv'
    have two : 2 ≤ en (hM t) a (b : Int) := by
      unfold en enf
      rw [if_pos hla]
      have g := sm_ge2 (n := 6) (i := k) (k := k') (f := fun j => if (0 : Int) ≤ (j : Int) ∧ (j : Int) < (hM t).2.1 a ∧ (hM t).2.2 a j = (b : Int) then (1 : Int) else 0) (by omega) (by omega) (fun e => w e.symm) (fun j _ => by (try dsimp only); split <;> omega)
      have g1 : (if (0 : Int) ≤ (k : Int) ∧ (k : Int) < (hM t).2.1 a ∧ (hM t).2.2 a k = (b : Int) then (1 : Int) else 0) = 1 := if_pos ⟨by omega, hk, hv⟩
      have g2 : (if (0 : Int) ≤ (k' : Int) ∧ (k' : Int) < (hM t).2.1 a ∧ (hM t).2.2 a k' = (b : Int) then (1 : Int) else 0) = 1 := if_pos ⟨by omega, hk', hv'⟩
      (try dsimp only at g)
      rw [g1, g2] at g
      exact g
    have q := sm_ge (n := 48) (i := a) ha f0
    (try dsimp only at q)
    rw [if_pos hca] at q
    omega
  · exfalso
    have q := sm_ge2 (n := 48) (i := a) (k := p) ha hp (fun e => z e.symm) f0
    (try dsimp only at q)
    rw [if_pos hca, if_pos hcp] at q
    omega
/-- a row moved: its own interval wider, those of its children narrower -/
theorem OBk_r {t o : MS} {lo hi lo' hi' : Nat → Int} {x y : Nat} (H : OBk t lo hi y) (r : ROW t y o x) (e : lo' x ≤ lo y ∧ hi y ≤ hi' x) (kids : 0 < (hM t).1 y → ∀ k : Nat, (k : Int) < (hM t).2.1 y → lo ((hM t).2.2 y k).toNat ≤ lo' ((hM t).2.2 y k).toNat ∧ hi' ((hM t).2.2 y k).toNat ≤ hi ((hM t).2.2 y k).toNat) : OBk o lo' hi' x := by
  obtain ⟨a, b, c⟩ := H
  refine ⟨by omega, fun w => ?_, fun w k hk => ?_⟩
  · rw [r.1] at w
    have b' := b w
    refine ⟨fun i j h1 h2 h3 => ?_, fun j hj => ?_⟩
    · rw [r.2.1] at h3
      rw [(r.2.2 i).2, (r.2.2 j).2]
      exact b'.1 i j h1 h2 h3
    · rw [r.2.1] at hj
      rw [(r.2.2 j).2, (r.2.2 j).1]
      have := b'.2 j hj
      omega
  · rw [r.1] at w
    rw [r.2.1] at hk ⊢
    rw [(r.2.2 k).1, (r.2.2 k).2, (r.2.2 (k + 1)).2]
    have c' := c w k hk
    have kk := kids w k hk
    exact ⟨⟨by omega, by omega⟩, fun z => by have := c'.2.1 z; omega, fun z => by have := c'.2.2 z; omega⟩
/-- a new BLOCK that is empty -/
theorem OI_take {t o : MS} {lo hi : Nat → Int} {r : Nat} {l c : Int} (H : OI t lo hi) (hK : KLV t) (TK : TkE t o r l) (nl : ¬ LV t r) : OI o (upZ lo r c) (upZ hi r c) := fun x hx hl => by
  by_cases e : x = r
  · rw [e]
    refine ⟨by rw [upZ_s, upZ_s]; exact Int.le_refl c, fun _ => ⟨fun i j _ _ hj => ?_, fun j hj => ?_⟩, fun _ k hk => ?_⟩
    · rw [TK.2.2.2] at hj; omega
    · rw [TK.2.2.2] at hj; omega
    · rw [TK.2.2.2] at hk; omega
  · have hl' : LV t x := by
      unfold LV at hl ⊢
      have c1 : cM o x = cM t x := TK.1 (17 + 16 * x) (by omega)
      have c2 : vM o x = vM t x := TK.1 (18 + 16 * x) (by omega)
      rw [← c1, ← c2]; exact hl
    refine OBk_r (H x hx hl') (ROW_tk TK e) (by rw [upZ_n e, upZ_n e]; exact ⟨Int.le_refl _, Int.le_refl _⟩) (fun w k hk => ?_)
    have kid := ((hK.2.1 x hx hl').2 w k hk).2
    have ne : ((hM t).2.2 x k).toNat ≠ r := fun z => nl (by rw [← z]; exact kid)
    rw [upZ_n ne, upZ_n ne]
    exact ⟨Int.le_refl _, Int.le_refl _⟩
/-- the child's own BLOCK: a copy, or itself; its interval takes the key in -/
theorem OI_own {T S : MS} {lo hi : Nat → Int} {b y r k : Nat} {key : Int} (H : OI T lo hi) (hK : KLV T) (hb : b < 48) (lb : LV T b) (hlev : 0 < (hM T).1 b) (hk : (k : Int) < (hM T).2.1 b) (hv : (hM T).2.2 b k = (y : Int)) (hky : lo b ≤ key ∧ key ≤ hi b) (hP : PF (kM T b) ((hM T).2.1 b) key (k : Int))
    (hr : ROW T y S r) (hrb : r ≠ b) (ho : ∀ x, x ≠ r → x ≠ b → ROW T x S x) (hbl : (hM S).1 b = (hM T).1 b ∧ (hM S).2.1 b = (hM T).2.1 b ∧ (∀ j, kM S b j = kM T b j) ∧ (hM S).2.2 b k = (r : Int) ∧ ∀ j, j ≠ k → (hM S).2.2 b j = (hM T).2.2 b j)
    (hl : ∀ x, x < 48 → LV S x → x = r ∨ LV T x) (hc : (r = y ∧ ∀ p k' : Nat, p < 48 → LV T p → 0 < (hM T).1 p → (k' : Int) < (hM T).2.1 p → (hM T).2.2 p k' = (y : Int) → p = b ∧ k' = k) ∨ ¬ LV T r) : OI S (upZ lo r (min (lo y) key)) (upZ hi r (max (hi y) key)) ∧ (upZ lo r (min (lo y) key) r ≤ key ∧ key ≤ upZ hi r (max (hi y) key) r) := by
  have kb := (hK.2.1 b hb lb)
  have ky := kb.2 hlev k hk
  rw [hv, Int.toNat_natCast] at ky
  have y48 : y < 48 := by omega
  have ly := ky.2
  have levy := (kb.1.1.2.2 hlev k hk).2
  rw [hv, Int.toNat_natCast] at levy
  have OBb := (H b hb lb).2.2 hlev
  -- nobody but b names r, and b at k alone
  have nor : ∀ p k' : Nat, p < 48 → LV T p → 0 < (hM T).1 p → (k' : Int) < (hM T).2.1 p → ¬ (p = b ∧ k' = k) → ((hM T).2.2 p k').toNat ≠ r := fun p k' hp lp hlp hk' hn e => by
    have kid := (hK.2.1 p hp lp).2 hlp k' hk'
    rcases hc with ⟨h1, h2⟩ | h2
    · exact hn (h2 p k' hp lp hlp hk' (by rw [← h1, ← e]; omega))
    · rw [e] at kid; exact h2 kid.2
  refine ⟨fun x hx hlx => ?_, by rw [upZ_s, upZ_s]; omega⟩
  by_cases e : x = r
  · rw [e]
    refine OBk_r (H y y48 ly) hr (by rw [upZ_s, upZ_s]; omega) (fun w j hj => ?_)
    have ne : ((hM T).2.2 y j).toNat ≠ r := nor y j y48 ly w hj (fun z => by rw [z.1] at levy; omega)
    rw [upZ_n ne, upZ_n ne]
    exact ⟨Int.le_refl _, Int.le_refl _⟩
  · have lx := (hl x hx hlx).resolve_left e
    by_cases eb : x = b
    · rw [eb]
      refine ⟨by rw [upZ_n (fun z => hrb z.symm), upZ_n (fun z => hrb z.symm)]; exact (H b hb lb).1, fun w => ?_, fun w j hj => ?_⟩
      · rw [hbl.1] at w; omega
      · rw [hbl.2.1] at hj ⊢
        rw [hbl.2.2.1 j, hbl.2.2.1 (j + 1), upZ_n (fun z => hrb z.symm), upZ_n (fun z => hrb z.symm)]
        have c := OBb j hj
        by_cases ej : j = k
        · rw [ej] at c hj ⊢
          rw [hv, Int.toNat_natCast] at c
          rw [hbl.2.2.2.1, Int.toNat_natCast, upZ_s, upZ_s]
          obtain ⟨_, _, p3, p4⟩ := hP
          refine ⟨⟨by omega, by omega⟩, fun w1 => ?_, fun w2 => ?_⟩
          · have q1 := p3 k w1 (Int.le_refl _)
            have q2 := c.2.1 w1
            omega
          · have q1 := p4 w2
            rw [show ((k : Int) + 1).toNat = k + 1 by omega] at q1
            have q2 := c.2.2 w2
            omega
        · rw [hbl.2.2.2.2 j ej]
          have ne : ((hM T).2.2 b j).toNat ≠ r := nor b j hb lb hlev hj (fun z => ej z.2)
          rw [upZ_n ne, upZ_n ne]
          exact c
    · refine OBk_r (H x hx lx) (ho x e eb) (by rw [upZ_n e, upZ_n e]; exact ⟨Int.le_refl _, Int.le_refl _⟩) (fun w j hj => ?_)
      have ne : ((hM T).2.2 x j).toNat ≠ r := nor x j hx lx w hj (fun z => eb z.1)
      rw [upZ_n ne, upZ_n ne]
      exact ⟨Int.le_refl _, Int.le_refl _⟩
/-- a BLOCK parted in two under a -/
theorem OI_half {t v : MS} {lo hi : Nat → Int} {a b r k : Nat} {n m sep : Int} (H : OI t lo hi) (hK : KLV t) (ha : a < 48) (hb : b < 48) (la : LV t a) (lb : LV t b) (hlev : 0 < (hM t).1 a) (hk : (k : Int) < (hM t).2.1 a) (hv : (hM t).2.2 a k = (b : Int)) (hn : (hM t).2.1 b = n) (hm : 1 ≤ m ∧ m < n) (hs : sep = kM t b m.toNat) (nl : ¬ LV t r) (hab : a ≠ b)
    (rr : (hM v).1 r = (hM t).1 b ∧ (hM v).2.1 r = n - m ∧ ∀ j : Nat, (j : Int) < n - m → (hM v).2.2 r j = (hM t).2.2 b (m.toNat + j) ∧ kM v r j = kM t b (m.toNat + j))
    (rb : (hM v).1 b = (hM t).1 b ∧ (hM v).2.1 b = m ∧ ∀ j : Nat, (j : Int) < m → (hM v).2.2 b j = (hM t).2.2 b j ∧ kM v b j = kM t b j)
    (ra : (hM v).1 a = (hM t).1 a ∧ (hM v).2.1 a = (hM t).2.1 a + 1 ∧ (∀ j, j < k + 1 → (hM v).2.2 a j = (hM t).2.2 a j ∧ kM v a j = kM t a j) ∧ ((hM v).2.2 a (k + 1) = (r : Int) ∧ kM v a (k + 1) = sep) ∧ ∀ j, k + 1 ≤ j → (j : Int) < (hM t).2.1 a → (hM v).2.2 a (j + 1) = (hM t).2.2 a j ∧ kM v a (j + 1) = kM t a j)
    (ho : ∀ x, x ≠ r → x ≠ a → x ≠ b → ROW t x v x) (hl : ∀ x, x < 48 → LV v x → x = r ∨ LV t x) : OI v (upZ lo r sep) (upZ (upZ hi b (sep - 1)) r (hi b)) ∧ (lo b ≤ sep - 1 ∧ sep ≤ hi b) := by
  have nar : a ≠ r := fun e => nl (by rw [← e]; exact la)
  have nbr : b ≠ r := fun e => nl (by rw [← e]; exact lb)
  have Hb := H b hb lb
  have Ha := (H a ha la).2.2 hlev
  have Kb := hK.2.1 b hb lb
  have sz := Kb.1.1.2.1
  have sep1 : lo b ≤ sep - 1 ∧ sep ≤ hi b := by
    by_cases w : 0 < (hM t).1 b
    · have c0 := Hb.2.2 w 0 (by omega)
      have k0 := (Kb.2 w 0 (by omega))
      have i0 := (H _ (by omega) k0.2).1
      have c1 := Hb.2.2 w (m.toNat - 1) (by omega)
      have k1 := (Kb.2 w (m.toNat - 1) (by omega))
      have i1 := (H _ (by omega) k1.2).1
      have cm := Hb.2.2 w m.toNat (by omega)
      have km := (Kb.2 w m.toNat (by omega))
      have im := (H _ (by omega) km.2).1
      have c1' := c1.2.2 (by omega)
      rw [show m.toNat - 1 + 1 = m.toNat by omega] at c1'
      have cm' := cm.2.1 (by omega)
      rw [hs]
      omega
    · have c := Hb.2.1 (by omega)
      have q := c.1 0 m.toNat (Nat.le_refl _) (by omega) (by omega)
      have q0 := c.2 0 (by omega)
      have qm := c.2 m.toNat (by omega)
      rw [hs]
      omega
  -- nobody names r
  have nor : ∀ p k' : Nat, p < 48 → LV t p → 0 < (hM t).1 p → (k' : Int) < (hM t).2.1 p → ((hM t).2.2 p k').toNat ≠ r := fun p k' hp lp hlp hk' e => by
    have kid := (hK.2.1 p hp lp).2 hlp k' hk'
    rw [e] at kid; exact nl kid.2
  have LO : ∀ x, x ≠ r → upZ lo r sep x = lo x := fun x hx => upZ_n hx
  have HI : ∀ x, x ≠ r → upZ (upZ hi b (sep - 1)) r (hi b) x ≤ hi x := fun x hx => by
    rw [upZ_n hx]
    by_cases z : x = b
    · rw [z, upZ_s]; omega
    · rw [upZ_n z]; exact Int.le_refl _
  have HIn : ∀ x, x ≠ r → x ≠ b → upZ (upZ hi b (sep - 1)) r (hi b) x = hi x := fun x hx hz => by rw [upZ_n hx, upZ_n hz]
  have HIb : upZ (upZ hi b (sep - 1)) r (hi b) b = sep - 1 := by rw [upZ_n nbr, upZ_s]
  have HIr : upZ (upZ hi b (sep - 1)) r (hi b) r = hi b := by rw [upZ_s]
  have LOr : upZ lo r sep r = sep := by rw [upZ_s]
  generalize upZ (upZ hi b (sep - 1)) r (hi b) = hi' at HI HIn HIb HIr ⊢
  generalize upZ lo r sep = lo' at LO LOr ⊢
  refine ⟨fun x hx hlx => ?_, sep1⟩
  by_cases e : x = r
  · rw [e]
    refine ⟨by omega, fun w => ?_, fun w j hj => ?_⟩
    · rw [rr.1] at w
      have c := Hb.2.1 w
      rw [rr.2.1]
      refine ⟨fun i j _ h2 h3 => ?_, fun j hj => ?_⟩
      · rw [(rr.2.2 i (by omega)).2, (rr.2.2 j h3).2]
        exact c.1 _ _ (Nat.zero_le _) (by omega) (by omega)
      · rw [(rr.2.2 j hj).2, (rr.2.2 j hj).1]
        have q := c.2 (m.toNat + j) (by omega)
        refine ⟨?_, by omega, q.2.2⟩
        rw [LOr, hs]
        by_cases z : j = 0
        · rw [z, Nat.add_zero]; exact Int.le_refl _
        · have := c.1 m.toNat (m.toNat + j) (Nat.zero_le _) (by omega) (by omega)
          omega
    · rw [rr.1] at w
      rw [rr.2.1] at hj ⊢
      have c := Hb.2.2 w (m.toNat + j) (by omega)
      have ne := nor b (m.toNat + j) hb lb w (by omega)
      have neb : ((hM t).2.2 b (m.toNat + j)).toNat ≠ b := fun z => by
        have := (Kb.1.1.2.2 w (m.toNat + j) (by omega)).2
        rw [z] at this; omega
      rw [(rr.2.2 j hj).1, (rr.2.2 j hj).2, LO _ ne, HIn _ ne neb, LOr, HIr]
      have cm := c.2.1 (by omega)
      have mono : kM t b m.toNat ≤ kM t b (m.toNat + j) := by
        by_cases z : j = 0
        · rw [z, Nat.add_zero]; exact Int.le_refl _
        · exact Int.le_of_lt (OI_SO H hK hb lb m.toNat (m.toNat + j) (by omega) (by omega) (by omega))
      refine ⟨⟨by omega, c.1.2⟩, fun _ => cm, fun z => ?_⟩
      have := c.2.2 (by omega)
      rw [(rr.2.2 (j + 1) (by omega)).2]
      rw [show m.toNat + (j + 1) = m.toNat + j + 1 by omega]
      exact this
  · have lx := (hl x hx hlx).resolve_left e
    by_cases eb : x = b
    · rw [eb]
      refine ⟨by rw [HIb, LO b nbr]; exact sep1.1, fun w => ?_, fun w j hj => ?_⟩
      · rw [rb.1] at w
        have c := Hb.2.1 w
        rw [rb.2.1]
        refine ⟨fun i j h1 h2 h3 => ?_, fun j hj => ?_⟩
        · rw [(rb.2.2 i (by omega)).2, (rb.2.2 j h3).2]
          exact c.1 i j h1 h2 (by omega)
        · rw [(rb.2.2 j hj).2, (rb.2.2 j hj).1, HIb, LO b nbr]
          have q := c.2 j (by omega)
          have q2 := c.1 j m.toNat (Nat.zero_le _) (by omega) (by omega)
          rw [hs]
          omega
      · rw [rb.1] at w
        rw [rb.2.1] at hj ⊢
        have c := Hb.2.2 w j (by omega)
        have ne := nor b j hb lb w (by omega)
        have neb : ((hM t).2.2 b j).toNat ≠ b := fun z => by
          have := (Kb.1.1.2.2 w j (by omega)).2
          rw [z] at this; omega
        have cj := c.2.2 (by omega)
        have mono : kM t b (j + 1) ≤ kM t b m.toNat := by
          by_cases z : j + 1 = m.toNat
          · rw [z]; exact Int.le_refl _
          · exact Int.le_of_lt (OI_SO H hK hb lb (j + 1) m.toNat (by omega) (by omega) (by omega))
        rw [(rb.2.2 j hj).1, (rb.2.2 j hj).2, LO _ ne, HIn _ ne neb, LO b nbr, HIb]
        refine ⟨⟨c.1.1, by rw [hs]; omega⟩, c.2.1, fun z => ?_⟩
        rw [(rb.2.2 (j + 1) (by omega)).2]
        exact cj
    · by_cases ea : x = a
      · rw [ea]
        obtain ⟨r1, r2, r3, ⟨r4, r5⟩, r6⟩ := ra
        have Kbv := Ha k hk
        rw [hv, Int.toNat_natCast] at Kbv
        refine ⟨by rw [LO a nar, HIn a nar hab]; exact (H a ha la).1, fun w => ?_, fun w j hj => ?_⟩
        · rw [r1] at w; omega
        · rw [r2] at hj ⊢
          rw [LO a nar, HIn a nar hab]
          rcases Nat.lt_trichotomy j (k + 1) with g | g | g
          · rw [(r3 j g).1, (r3 j g).2]
            have c := Ha j (by omega)
            have ne := nor a j ha la hlev (by omega)
            by_cases ej : j = k
            · rw [ej]
              rw [hv, Int.toNat_natCast, LO b nbr, HIb, r5]
              exact ⟨⟨Kbv.1.1, by have := Kbv.1.2; omega⟩, Kbv.2.1, fun _ => by omega⟩
            · have h2 := HI _ ne
              rw [LO _ ne]
              refine ⟨⟨c.1.1, by have := c.1.2; omega⟩, c.2.1, fun z => ?_⟩
              rw [(r3 (j + 1) (by omega)).2]
              have := c.2.2 (by omega)
              omega
          · rw [g, r4, r5, Int.toNat_natCast, LOr, HIr]
            refine ⟨⟨by have := Kbv.1.1; omega, Kbv.1.2⟩, fun _ => Int.le_refl _, fun z => ?_⟩
            rw [(r6 (k + 1) (Nat.le_refl _) (by omega)).2]
            exact Kbv.2.2 (by omega)
          · obtain ⟨i, hi'⟩ : ∃ i, j = i + 1 := ⟨j - 1, by omega⟩
            rw [hi'] at hj ⊢
            rw [(r6 i (by omega) (by omega)).1, (r6 i (by omega) (by omega)).2]
            have c := Ha i (by omega)
            have ne := nor a i ha la hlev (by omega)
            have h2 := HI _ ne
            rw [LO _ ne]
            refine ⟨⟨c.1.1, by have := c.1.2; omega⟩, fun _ => c.2.1 (by omega), fun z => ?_⟩
            rw [(r6 (i + 1) (by omega) (by omega)).2]
            have := c.2.2 (by omega)
            omega
      · refine OBk_r (H x hx lx) (ho x e ea eb) (by rw [LO x e, HIn x e eb]; exact ⟨Int.le_refl _, Int.le_refl _⟩) (fun w j hj => ?_)
        have ne := nor x j hx lx w hj
        rw [LO _ ne]
        exact ⟨Int.le_refl _, HI _ ne⟩
/-- a key comes into a leaf -/
theorem OI_leaf {t o : MS} {lo hi : Nat → Int} {b k : Nat} {key val : Int} (H : OI t lo hi) (hb : b < 48) (lb : LV t b) (hl0 : (hM t).1 b ≤ 0) (I : InsE t o b k key val) (hky : lo b ≤ key ∧ key ≤ hi b) (hz : (hM t).2.1 b ≤ 5) (hP : PI (kM t b) ((hM t).2.1 b) key (k : Int)) (hne : (k : Int) < (hM t).2.1 b → kM t b k ≠ key) (hx6 : ∀ x, x < 48 → LV t x → (hM t).2.1 x ≤ 6) (hval : 0 ≤ val) : OI o lo hi := fun x hx hl => by
  obtain ⟨B, z, i1, i2, i3⟩ := I
  have hl' : LV t x := by
    unfold LV at hl ⊢
    rw [← BX_c B, ← BX_v B]; exact hl
  by_cases e : x = b
  · rw [e]
    have c := (H b hb lb).2.1 hl0
    obtain ⟨⟨p1, p2⟩, p3, p4⟩ := hP
    refine ⟨(H b hb lb).1, fun _ => ⟨SO_step (fun j _ hj => ?_), fun j hj => ?_⟩, fun w => ?_⟩
    · rw [z] at hj
      rcases Nat.lt_trichotomy j k with g | g | g
      · rw [(i1 j g).2]
        by_cases g2 : j + 1 < k
        · rw [(i1 (j + 1) g2).2]
          exact c.1 j (j + 1) (Nat.zero_le _) (by omega) (by omega)
        · rw [show j + 1 = k by omega, i2.2]
          exact p3 j (by omega)
      · rw [g, i2.2, (i3 k (Nat.le_refl _) (by omega)).2]
        have q := p4 (by omega)
        rw [Int.toNat_natCast] at q
        have := hne (by omega)
        omega
      · obtain ⟨i, hi'⟩ : ∃ i, j = i + 1 := ⟨j - 1, by omega⟩
        rw [hi'] at hj ⊢
        rw [(i3 i (by omega) (by omega)).2, (i3 (i + 1) (by omega) (by omega)).2]
        exact c.1 i (i + 1) (Nat.zero_le _) (by omega) (by omega)
    · rw [z] at hj
      rcases Nat.lt_trichotomy j k with g | g | g
      · rw [(i1 j g).2, (i1 j g).1]; exact c.2 j (by omega)
      · rw [g, i2.2, i2.1]; exact ⟨hky.1, hky.2, hval⟩
      · obtain ⟨i, hi'⟩ : ∃ i, j = i + 1 := ⟨j - 1, by omega⟩
        rw [hi'] at hj ⊢
        rw [(i3 i (by omega) (by omega)).2, (i3 i (by omega) (by omega)).1]; exact c.2 i (by omega)
    · rw [BX_l B] at w; omega
  · exact OBk_r (H x hx hl') (ROW_bx B e) ⟨Int.le_refl _, Int.le_refl _⟩ (fun _ _ _ => ⟨Int.le_refl _, Int.le_refl _⟩)
/-- nothing of the rows changes -/
theorem OI_same {t o : MS} {lo hi : Nat → Int} (H : OI t lo hi) (hr : ∀ x, x < 48 → LV o x → LV t x ∧ (ROW t x o x ∨ ((hM o).1 x ≤ 0 ∧ (hM t).1 x ≤ 0 ∧ (hM o).2.1 x = (hM t).2.1 x ∧ (∀ j, kM o x j = kM t x j) ∧ ∀ j : Nat, (j : Int) < (hM t).2.1 x → 0 ≤ (hM o).2.2 x j))) : OI o lo hi := fun x hx hl => by
  obtain ⟨l, r | ⟨a, a', b, c, d⟩⟩ := hr x hx hl
  · exact OBk_r (H x hx l) r ⟨Int.le_refl _, Int.le_refl _⟩ (fun _ _ _ => ⟨Int.le_refl _, Int.le_refl _⟩)
  · have h := H x hx l
    refine ⟨h.1, fun _ => ?_, fun w => by omega⟩
    have q := h.2.1 a'
    rw [b]
    exact ⟨fun i j h1 h2 h3 => by rw [c i, c j]; exact q.1 i j h1 h2 h3, fun j hj => by rw [c j]; exact ⟨(q.2 j hj).1, (q.2 j hj).2.1, d j hj⟩⟩
/-! ===== a key is put into a leaf on both sides ===== -/
theorem s_low {p : Nat} {key val r : Int} {S : MS} (hP : PI (fun k => gA S 58 (6 * p + k)) (gA S 57 p) key r) (so : SO (fun k => gA S 58 (6 * p + k)) 0 (gA S 57 p)) : ∀ (n : Nat) (x4 x5 : Int), 0 ≤ x5 → ((x5 ≤ r ∧ x4 = x5) ∨ (r ≤ x5 ∧ x4 = r)) → x5 ≤ gA S 57 p → pc (m_x1_plantLow_L35 n (p : Int) key val x4 x5 S) (fun o => m_x8_insert (p : Int) r key val S = some o) := by
  have tp : ((p : Nat) : Int).toNat = p := Int.toNat_natCast _
  obtain ⟨⟨p1, p2⟩, p3, p4⟩ := hP
  refine fr_ind (fun _ _ _ _ _ => pc_none) (fun n ih x4 x5 h5 h4 hz => ?_)
  show pc (m_x1_plantLow_b35 (m_x1_plantLow_L35 n) (p : Int) key val x4 x5 S) _
  unfold m_x1_plantLow_b35 m_x1_plantLow_J78 m_x8_slot
  refine pc_rdI (fun _ => ?_)
  rw [tp]
  refine pc_rg (pc_rg (pc_if (fun c => pc_bn (fun s19 e19 => pc_some ?_)) (fun c => pc_bn (fun r21 e21 => ?_))))
  · rw [show r = x4 by omega]; exact e19
  · cases e21
    refine pc_rdI (fun _ => ?_)
    rw [show ((p : Int) * 6 + x5).toNat = 6 * p + x5.toNat by omega]
    refine pc_rg (pc_rg (pc_if (fun c2 => ?_) (fun c2 => ?_)))
    · -- no less
      have h : r ≤ x5 := by
        rcases Int.lt_or_le x5 r with w | w
        · exfalso
          have q : gA S 58 (6 * p + x5.toNat) < key := p3 x5.toNat (by omega)
          omega
        · exact w
      exact ih (x4 + 0) (x5 + 1) (by omega) (Or.inr ⟨by omega, by omega⟩) (by omega)
    · have h : x5 < r := by
        rcases Int.lt_or_le x5 r with w | w
        · exact w
        · exfalso
          have q : key ≤ gA S 58 (6 * p + r.toNat) := p4 (by omega)
          by_cases z : r.toNat = x5.toNat
          · rw [z] at q; omega
          · have q2 : gA S 58 (6 * p + r.toNat) < gA S 58 (6 * p + x5.toNat) := so r.toNat x5.toNat (Nat.zero_le _) (by omega) (by omega)
            omega
      exact ih (x4 + 1) (x5 + 1) (by omega) (Or.inl ⟨by omega, by omega⟩) (by omega)
theorem m_low {b : Nat} {key val : Int} {t : MS} (hz : 0 ≤ (hM t).2.1 b ∧ (hM t).2.1 b ≤ 6) : pc (m_x12_putsIn (b : Int) key val t) (fun o => ∃ r, PI (kM t b) ((hM t).2.1 b) key r ∧ (((r < (hM t).2.1 b ∧ kM t b r.toNat = key) ∧ (((hM t).2.2 b r.toNat = val ∧ o = t) ∨ ((hM t).2.2 b r.toNat ≠ val ∧ m_x12_setsEntry (b : Int) r key val t = some o))) ∨ (¬ (r < (hM t).2.1 b ∧ kM t b r.toNat = key) ∧ m_x12_inserts (b : Int) r key val t = some o))) := by
  have tb : ((b : Nat) : Int).toNat = b := Int.toNat_natCast _
  unfold m_x12_putsIn m_x12_putsIn_J33 m_x12_putsIn_J34 m_x12_putsIn_J73
  refine pc_bq (m_placeIn (by omega) (by rw [tb]; exact hz)) (fun r25 h25 => pc_bq (m_ents (by omega)) (fun r27 h27 => ?_))
  rw [tb] at h25 h27
  have r0 := h25.1
  refine pc_rg (pc_rg (pc_if (fun c => ?_) (fun c => pc_bq (m_key (by omega) ⟨r0.1, by omega⟩) (fun r32 h32 => pc_rg (pc_rg (pc_if (fun c2 => ?_) (fun c2 => ?_)))))))
  · exact pc_rg (pc_if (fun _ => pc_bn (fun s18 e18 => pc_some ⟨r25, h25, Or.inr ⟨fun w => by omega, e18⟩⟩)) (fun z => absurd rfl z))
  · rw [tb] at h32
    refine pc_rg (pc_if (fun z => absurd z (by decide)) (fun _ => pc_bq (m_val (by omega) ⟨r0.1, by omega⟩) (fun r11 h11 => pc_rg (pc_rg (pc_if (fun c3 => pc_some ?_) (fun c3 => pc_bn (fun s16 e16 => pc_some ?_)))))))
    · rw [tb] at h11
      exact ⟨r25, h25, Or.inl ⟨⟨by omega, by rw [← h32]; exact c2⟩, Or.inl ⟨by rw [← h11]; exact c3, rfl⟩⟩⟩
    · rw [tb] at h11
      exact ⟨r25, h25, Or.inl ⟨⟨by omega, by rw [← h32]; exact c2⟩, Or.inr ⟨by rw [← h11]; exact c3, e16⟩⟩⟩
  · rw [tb] at h32
    exact pc_rg (pc_if (fun _ => pc_bn (fun s18 e18 => pc_some ⟨r25, h25, Or.inr ⟨fun w => c2 (by rw [h32]; exact w.2), e18⟩⟩)) (fun z => absurd rfl z))
theorem y_low {π σ : Nat → Nat} {s s' t t' : MS} {b : Nat} {key val : Int} (h : SIM π σ s t) (hK : ∀ x, x < 48 → LV t x → 0 ≤ (hM t).2.1 x ∧ (hM t).2.1 x ≤ 6) (hR : Rg s) (hRt : Rr t) (hb : b < 48) (hl : LV t b) (hl0 : (hM t).1 b = 0) (hz : (hM t).2.1 b ≤ 5) (so : SO (kM t b) 0 ((hM t).2.1 b)) (hkey : 0 ≤ key ∧ key ≤ 999) (hval : 0 ≤ val ∧ val ≤ 999)
    (e1 : m_x1_plantLow (π b : Int) key val s = some s') (e2 : m_x12_putsIn (b : Int) key val t = some t') : SIM π σ s' t' ∧ ((∃ k : Nat, InsE t t' b k key val ∧ PI (kM t b) ((hM t).2.1 b) key (k : Int) ∧ ((k : Int) < (hM t).2.1 b → kM t b k ≠ key)) ∨ (BX t t' b ∧ (hM t').2.1 b = (hM t).2.1 b ∧ (∀ j, kM t' b j = kM t b j) ∧ ∀ j, (hM t').2.2 b j = (hM t).2.2 b j ∨ (hM t').2.2 b j = val)) := by
  have hP := h.1.1
  have B := sim_b h hb hl
  have px := (hP b hb).1.1
  have tp : ((π b : Nat) : Int).toNat = π b := Int.toNat_natCast _
  have tb : ((b : Nat) : Int).toNat = b := Int.toNat_natCast _
  have sz := hK b hb hl
  have z1 : gA s 57 (π b) = (hM t).2.1 b := B.2.1
  have ek : ∀ k : Nat, (k : Int) < (hM t).2.1 b → gA s 58 (6 * π b + k) = kM t b k := fun k hk => (B.2.2 k hk).1
  have ev : ∀ k : Nat, (k : Int) < (hM t).2.1 b → gA s 59 (6 * π b + k) = (hM t).2.2 b k := fun k hk => (B.2.2 k hk).2.2 (by omega)
  obtain ⟨r, hPI, M⟩ := m_low sz t' e2
  have r0 := hPI.1
  have hPIs : PI (fun k => gA s 58 (6 * π b + k)) (gA s 57 (π b)) key r := by
    rw [z1]
    exact ⟨r0, fun k hk => by (try dsimp only); rw [ek k (by omega)]; exact hPI.2.1 k hk, fun w => by (try dsimp only); rw [ek r.toNat (by omega)]; exact hPI.2.2 w⟩
  have sos : SO (fun k => gA s 58 (6 * π b + k)) 0 (gA s 57 (π b)) := fun i j hi hij hj => by
    rw [z1] at hj
    show gA s 58 (6 * π b + i) < gA s 58 (6 * π b + j)
    rw [ek i (by omega), ek j hj]; exact so i j hi hij hj
  have C : pc (m_x1_plantLow (π b : Int) key val s) (fun o => ((r < (hM t).2.1 b ∧ kM t b r.toNat = key) ∧ m_x8_set (π b : Int) r val s = some o) ∨ (¬ (r < (hM t).2.1 b ∧ kM t b r.toNat = key) ∧ m_x8_insert (π b : Int) r key val s = some o)) := by
    unfold m_x1_plantLow
    refine pc_bq (s_find (p := (π b : Int)) (by omega)) (fun r27 h27 => ?_)
    rw [tp, z1] at h27
    have F : (r27 = -1 ∧ ¬ (r < (hM t).2.1 b ∧ kM t b r.toNat = key)) ∨ (r27 = r ∧ r < (hM t).2.1 b ∧ kM t b r.toNat = key) := by
      have h27' : FDc (kM t b) ((hM t).2.1 b) key r27 := by
        rcases h27 with ⟨a, c⟩ | ⟨a, a2, c, d⟩
        · exact Or.inl ⟨a, fun k hk => by rw [← ek k hk]; exact c k hk⟩
        · exact Or.inr ⟨a, a2, by rw [← ek r27.toNat (by omega)]; exact c, fun k hk => by rw [← ek k (by omega)]; exact d k hk⟩
      rcases FD_PI (f := kM t b) (g := kM t b) so (fun _ _ => rfl) h27' hPI with ⟨a, c⟩ | ⟨a, _, c, d⟩
      · exact Or.inl ⟨a, c⟩
      · exact Or.inr ⟨a, by omega, d⟩
    refine pc_rg (pc_if (fun c => ?_) (fun c => pc_bn (fun s31 e31 => pc_some ?_)))
    · have F' : ¬ (r < (hM t).2.1 b ∧ kM t b r.toNat = key) := by
        rcases F with ⟨_, f⟩ | ⟨a, f, _⟩
        · exact f
        · omega
      exact pc_mono (s_low hPIs sos FU 0 0 (Int.le_refl 0) (Or.inl ⟨r0.1, rfl⟩) (by rw [z1]; exact sz.1)) (fun o ho => Or.inr ⟨F', ho⟩)
    · rcases F with ⟨a, _⟩ | ⟨a, f⟩
      · exact absurd a c
      · rw [a] at e31
        exact Or.inl ⟨f, e31⟩
  rcases C s' e1 with ⟨f, es⟩ | ⟨f, es⟩
  · rcases M with ⟨_, m⟩ | ⟨m, _⟩
    · have Y := y_set h hK hR hRt hb hl ⟨r0.1, f.1⟩ (v1 := val) (v2 := val) ⟨by omega, by omega⟩ ⟨by omega, by omega⟩ ⟨fun w => by omega, fun _ => rfl⟩ (by rw [ev r.toNat (by omega)]) es (by
        rcases m with ⟨m1, m2⟩ | ⟨m1, m2⟩
        · exact Or.inl ⟨m1, m2⟩
        · exact Or.inr ⟨m1, by rw [f.2]; exact m2⟩)
      have VV : ∀ j, (hM t').2.2 b j = (hM t).2.2 b j ∨ (hM t').2.2 b j = val := fun j => by
        rcases m with ⟨_, m2⟩ | ⟨m1, m2⟩
        · exact Or.inl (by rw [m2])
        · have W2 := (wp_det (w_x12_setsEntry hRt (p0 := (b : Int)) ⟨by omega, by omega⟩ ⟨r0.1, by omega⟩ ⟨by omega, by omega⟩ ⟨by omega, by omega⟩) m2).2
          rw [tb] at W2
          show (if j < 6 then gA t' 49 (27 + 16 * b + j) else 0) = (if j < 6 then gA t 49 (27 + 16 * b + j) else 0) ∨ (if j < 6 then gA t' 49 (27 + 16 * b + j) else 0) = val
          by_cases z : j < 6
          · rw [if_pos z, if_pos z, W2]
            by_cases zz : j = r.toNat
            · rw [zz, upZ_s]; exact Or.inr rfl
            · rw [upZ_n (by omega), upZ_n (by omega)]; exact Or.inl rfl
          · rw [if_neg z, if_neg z]; exact Or.inl rfl
      refine ⟨Y.1, Or.inr ⟨Y.2.1, Y.2.2, fun j => ?_, VV⟩⟩
      rcases m with ⟨_, m2⟩ | ⟨m1, m2⟩
      · rw [m2]
      · have W2 := (wp_det (w_x12_setsEntry hRt (p0 := (b : Int)) ⟨by omega, by omega⟩ ⟨r0.1, by omega⟩ ⟨by omega, by omega⟩ ⟨by omega, by omega⟩) m2).2
        rw [tb] at W2
        show (if j < 6 then gA t' 49 (21 + 16 * b + j) else 0) = if j < 6 then gA t 49 (21 + 16 * b + j) else 0
        by_cases z : j < 6
        · rw [if_pos z, if_pos z, W2, upZ_n (by omega)]
          by_cases zz : j = r.toNat
          · rw [zz, upZ_s]
            have k6 := f.2
            have k7 : kM t b r.toNat = gA t 49 (21 + 16 * b + r.toNat) := if_pos (by omega)
            rw [← k7]; exact k6.symm
          · rw [upZ_n (by omega)]
        · rw [if_neg z, if_neg z]
    · exact absurd f m
  · rcases M with ⟨m, _⟩ | ⟨_, m⟩
    · exact absurd m f
    · have Y := y_ins h hK hR hRt hb hl ⟨r0.1, r0.2⟩ hz ⟨by omega, by omega⟩ (v1 := val) (v2 := val) ⟨by omega, by omega⟩ ⟨by omega, by omega⟩ ⟨fun w => by omega, fun _ => rfl⟩ es m
      have WI := wp_det (w_x12_inserts hRt (p0 := (b : Int)) (p1 := r) (p2 := key) (p3 := val) ⟨by omega, by omega⟩ ⟨r0.1, by rw [tb]; exact r0.2⟩ (by rw [tb]; exact hz) ⟨by omega, by omega⟩ ⟨by omega, by omega⟩) m
      rw [tb] at WI
      refine ⟨Y.1, Or.inl ⟨r.toNat, WI.2.2, ?_, fun w e => f ⟨by omega, e⟩⟩⟩
      rw [show ((r.toNat : Nat) : Int) = r by omega]; exact hPI
/-! ===== one step down a tree, each side by itself ===== -/
theorem s_step1 {n B : Nat} {key val i : Int} {S : MS} {Q : Int × MS → Prop} (hi : 0 < i) (K : ∀ (r : Int) (q30 : Int × MS), EF (fun k => gA S 58 (6 * B + k)) (gA S 57 B) key r → m_x1_owned (gA S 59 (6 * B + r.toNat)) S = some q30 → (q30.1 = -1 → Q (0, q30.2)) ∧ (q30.1 ≠ -1 → ∀ (s34 : MS) (q37 : Int × MS), m_x8_set (B : Int) r q30.1 q30.2 = some s34 → m_x1_splits q30.1 s34 = some q37 → (q37.1 = 0 → pc (m_x1_plant_L117 n key val q30.1 (i + -1) q37.2) Q) ∧ (q37.1 ≠ 0 → ∀ q42 : Int × MS, m_x1_split (B : Int) r q30.1 key q37.2 = some q42 → pc (m_x1_plant_L117 n key val q42.1 (i + -1) q42.2) Q))) : pc (m_x1_plant_L117 (n + 1) key val (B : Int) i S) Q := by
  have tB : ((B : Nat) : Int).toNat = B := Int.toNat_natCast _
  show pc (m_x1_plant_b117 (m_x1_plant_L117 n) key val (B : Int) i S) Q
  unfold m_x1_plant_b117 m_x1_plant_J211 m_x8_slot
  refine pc_rg (pc_if (fun c => absurd c (by omega)) (fun _ => pc_rg (pc_if (fun c => absurd c (by omega)) (fun _ => pc_bq (s_entryFor (by omega)) (fun r24 h24 => pc_bn (fun r26 e26 => ?_))))))
  cases e26
  rw [tB] at h24
  have r0 := h24.1
  refine pc_rdI (fun _ => ?_)
  rw [show ((B : Int) * 6 + r24).toNat = 6 * B + r24.toNat by omega]
  refine pc_bn (fun q30 e30 => ?_)
  have k := K r24 q30 h24 e30
  exact pc_rg (pc_if (fun c => pc_some (k.1 c)) (fun c => pc_bn (fun s34 e34 => pc_bn (fun q37 e37 => pc_rg (pc_if (fun c2 => ((k.2 c) s34 q37 e34 e37).1 c2) (fun c2 => pc_bn (fun q42 e42 => ((k.2 c) s34 q37 e34 e37).2 c2 q42 e42)))))))
/-- nothing was to be had -/
theorem s_stepF {key val : Int} : ∀ (n : Nat) (i : Int) (S : MS), pc (m_x1_plant_L117 n key val (-1) i S) (fun q => q.1 = 0) := by
  have J : ∀ S : MS, pc (m_x1_plant_J219 key val (-1) S) (fun q => q.1 = 0) := fun S => by
    unfold m_x1_plant_J219
    exact pc_rg (pc_if (fun _ => pc_some rfl) (fun c => absurd rfl c))
  refine fr_ind (fun _ _ => pc_none) (fun n ih i S => ?_)
  show pc (m_x1_plant_b117 (m_x1_plant_L117 n) key val (-1) i S) _
  unfold m_x1_plant_b117
  exact pc_rg (pc_if (fun _ => J S) (fun _ => pc_rg (pc_if (fun _ => J S) (fun c => absurd rfl c))))
/-- at a leaf -/
theorem s_step0 {n B : Nat} {key val i : Int} {S : MS} {Q : Int × MS → Prop} (hi : i ≤ 0) (K : ∀ s8 : MS, m_x1_plantLow (B : Int) key val S = some s8 → Q (1, s8)) : pc (m_x1_plant_L117 (n + 1) key val (B : Int) i S) Q := by
  show pc (m_x1_plant_b117 (m_x1_plant_L117 n) key val (B : Int) i S) Q
  unfold m_x1_plant_b117 m_x1_plant_J219
  exact pc_rg (pc_if (fun _ => pc_rg (pc_if (fun c => absurd c (by omega)) (fun _ => pc_bn (fun s8 e8 => pc_some (K s8 e8))))) (fun c => absurd hi c))
/-! the reference -/
theorem m_stepF {key val : Int} : ∀ (m : Nat) (b : Int) (T : MS), gI T 55 = 1 → pc (m_x12_puts_L94 m key val b T) (fun o => gI o 55 = 1) := by
  refine fr_ind (fun _ _ _ => pc_none) (fun m ih b T h => ?_)
  show pc (m_x12_puts_b94 (m_x12_puts_L94 m) key val b T) _
  unfold m_x12_puts_b94 m_x12_puts_J198 m_x12_puts_J213
  exact pc_rg (pc_if (fun c => absurd (h.symm.trans c) (by decide)) (fun _ => pc_rg (pc_if (fun c => absurd (h.symm.trans c) (by decide)) (fun _ => pc_some h))))
theorem m_step0 {m b : Nat} {key val : Int} {T : MS} {Q : MS → Prop} (h55 : gI T 55 = 0) (hl : (hM T).1 b ≤ 0) (K : ∀ s9 : MS, m_x12_putsIn (b : Int) key val T = some s9 → Q s9) : pc (m_x12_puts_L94 (m + 1) key val (b : Int) T) Q := by
  have tb : ((b : Nat) : Int).toNat = b := Int.toNat_natCast _
  show pc (m_x12_puts_b94 (m_x12_puts_L94 m) key val (b : Int) T) Q
  unfold m_x12_puts_b94 m_x12_puts_J198 m_x12_puts_J213
  refine pc_rg (pc_if (fun _ => pc_bq (m_lev (by omega)) (fun r37 h37 => ?_)) (fun c => absurd h55 c))
  rw [tb] at h37
  exact pc_rg (pc_if (fun _ => pc_rg (pc_if (fun _ => pc_bn (fun s9 e9 => pc_some (K s9 e9))) (fun c => absurd h55 c))) (fun c => absurd (by omega) c))
theorem m_J162 {m b : Nat} {key val r c : Int} {X : MS} {Q : MS → Prop} (h55 : gI X 55 = 0) (K : ∀ q28 : Int × MS, m_x12_doesSplit c X = some q28 → (q28.1 = 0 → pc (m_x12_puts_L94 m key val c q28.2) Q) ∧ (q28.1 ≠ 0 → ∀ q33 : Int × MS, m_x12_half (b : Int) r c key q28.2 = some q33 → pc (m_x12_puts_L94 m key val q33.1 q33.2) Q)) : pc (m_x12_puts_J162 (m_x12_puts_L94 m) key val (b : Int) r c X) Q := by
  unfold m_x12_puts_J162 m_x12_puts_J191
  exact pc_rg (pc_if (fun _ => pc_bn (fun q28 e28 => pc_rg (pc_if (fun c2 => (K q28 e28).1 c2) (fun c2 => pc_bn (fun q33 e33 => (K q28 e28).2 c2 q33 e33))))) (fun z => absurd h55 z))
theorem m_J162F {m b : Nat} {key val r c : Int} {X : MS} (h55 : gI X 55 = 1) : pc (m_x12_puts_J162 (m_x12_puts_L94 m) key val (b : Int) r c X) (fun o => gI o 55 = 1) := by
  unfold m_x12_puts_J162 m_x12_puts_J191
  exact pc_rg (pc_if (fun z => absurd (h55.symm.trans z) (by decide)) (fun _ => m_stepF m c X h55))
theorem m_step1 {m b : Nat} {key val : Int} {T : MS} {Q : MS → Prop} (h55 : gI T 55 = 0) (hl : 0 < (hM T).1 b) (hz : 1 ≤ (hM T).2.1 b ∧ (hM T).2.1 b ≤ 6) (K : ∀ (r : Int) (q46 : Int × MS), PF (kM T b) ((hM T).2.1 b) key r → m_x12_owned ((hM T).2.2 b r.toNat) T = some q46 → (q46.1 = (hM T).2.2 b r.toNat → pc (m_x12_puts_J162 (m_x12_puts_L94 m) key val (b : Int) r q46.1 q46.2) Q) ∧ (q46.1 ≠ (hM T).2.2 b r.toNat → ∀ s53 : MS, m_x12_setsEntry (b : Int) r (kM q46.2 b r.toNat) q46.1 q46.2 = some s53 → pc (m_x12_puts_J162 (m_x12_puts_L94 m) key val (b : Int) r q46.1 s53) Q)) : pc (m_x12_puts_L94 (m + 1) key val (b : Int) T) Q := by
  have tb : ((b : Nat) : Int).toNat = b := Int.toNat_natCast _
  show pc (m_x12_puts_b94 (m_x12_puts_L94 m) key val (b : Int) T) Q
  unfold m_x12_puts_b94
  refine pc_rg (pc_if (fun _ => pc_bq (m_lev (by omega)) (fun r37 h37 => ?_)) (fun c => absurd h55 c))
  rw [tb] at h37
  refine pc_rg (pc_if (fun c => absurd c (by omega)) (fun _ => pc_bq (m_placeFor (by omega) (by rw [tb]; exact hz.2)) (fun r41 h41 => ?_)))
  rw [tb] at h41
  have r0 := h41.1
  have r1 := h41.2.1
  refine pc_bq (m_val (by omega) ⟨r0, by omega⟩) (fun r43 h43 => ?_)
  rw [tb] at h43
  rw [h43]
  refine pc_bn (fun q46 e46 => ?_)
  have k := K r41 q46 h41 e46
  refine pc_rg (pc_rg (pc_if (fun c => k.1 c) (fun c => pc_bq (m_key (by omega) ⟨r0, by omega⟩) (fun r51 h51 => ?_))))
  rw [tb] at h51
  rw [h51]
  exact pc_bn (fun s53 e53 => k.2 c s53 e53)
/-! ===== what stands behind one step down: each side ===== -/
def CurO (s : MS) (b i : Int) : Prop := (0 ≤ b ∧ b < 48) ∧ gA s 54 b.toNat = 1 ∧ gA s 55 b.toNat = 0 ∧ gA s 56 b.toNat = i
theorem CurO_of {s : MS} {b i : Int} (h : Cur s b i) : CurO s b i := ⟨h.1, h.2.1, h.2.2.1, h.2.2.2.1⟩
def CurMo (s : MS) (v : Nat) (M : Nat → Nat → Int) (b i : Int) : Prop := ((0 ≤ b ∧ b < 48) ∧ cM s b.toNat = 1 ∧ vM s b.toNat = 0) ∧ (hM s).1 b.toNat = i ∧ (M v b.toNat = 1 ∧ ∀ u, u < 16 → u ≠ v → M u b.toNat = 0)
def GDo (s S : MS) (v : Nat) (b i : Int) : Prop := RWn s S v ∧ ∃ M, TM S d0 (-1) ∧ PM S v M d0 (-1) ∧ CurMo S v M b i
theorem GDo_of {s S : MS} {v : Nat} {b i : Int} (h : GD s S v b i) : GDo s S v b i := by
  obtain ⟨w, M, t, p, c⟩ := h
  exact ⟨w, M, t, p, c.1, c.2.1, c.2.2.2⟩
theorem c_next {S s34 : MS} {B i r : Int} {q30 : Int × MS} (hR : Rg S) (T : TS S Z0 (-1)) (hC : CurO S B i) (hi : 0 < i) (h5 : 0 ≤ gI S 581) (hk : 0 ≤ r ∧ r < gA S 57 B.toNat) (e30 : m_x1_owned (gA S 59 (6 * B.toNat + r.toNat)) S = some q30) (c3 : q30.1 ≠ -1) (e34 : m_x8_set B r q30.1 q30.2 = some s34) : Rg s34 ∧ TS s34 Z0 (-1) ∧ (0 ≤ q30.1 ∧ q30.1 < 48) ∧ (gA s34 54 q30.1.toNat = 1 ∧ gA s34 55 q30.1.toNat = 0 ∧ gA s34 56 q30.1.toNat = i - 1) ∧ CurO s34 B i ∧ gI s34 581 = gI S 581 ∧ gA s34 57 B.toNat = gA S 57 B.toNat := by
  have zD : ∀ x, x < 48 → 0 ≤ Z0 x := fun x _ => Int.le_refl 0
  have zD' : ∀ x, x < 48 → 0 ≤ Z0 x ∧ Z0 x ≤ 10 := fun x _ => ⟨Int.le_refl 0, by show (0 : Int) ≤ 10; omega⟩
  obtain ⟨hb, b54, b55, b56⟩ := hC
  have hb48 : B.toNat < 48 := by omega
  have hN8 : gI S 1060 ≤ 48 := T.1.1
  have hE6 : gI S 581 ≤ 6 := (hR.1 581).2
  obtain ⟨y, ey⟩ : ∃ y, y = gA S 59 (6 * B.toNat + r.toNat) := ⟨_, rfl⟩
  rw [← ey] at e30
  have kid := TG_kid (p := B.toNat) (k := r.toNat) T zD hb48 (by omega) (by show 0 < gA S 56 B.toNat; omega) (by show ((r.toNat : Nat) : Int) < gA S 57 B.toNat; omega)
  have v27 : (hN S).2.2 B.toNat r.toNat = y := ey.symm
  rw [v27] at kid
  obtain ⟨⟨k0, k1⟩, k2, k3⟩ := kid
  have k2' : gA S 56 y.toNat = gA S 56 B.toNat - 1 := k2
  obtain ⟨hRo, Fo, h30⟩ := wp_det (ts_owned hR T zD' h5 (p0 := y) (by omega) k3) e30
  obtain ⟨q, o⟩ := q30
  (try dsimp only at h30 hRo Fo e34 c3 ⊢)
  rcases h30 with h30 | ⟨r0, ⟨rq, rN⟩, ⟨o54, o55⟩, ⟨o56, o57⟩, oc, oh, oq, T1⟩
  · exact absurd h30 c3
  have nb : B.toNat ≠ y.toNat := fun z => by rw [← z] at k2'; omega
  have nq : B.toNat ≠ q.toNat := fun z => by
    rcases oq with oq | oq
    · exact nb (by omega)
    · rw [← z] at oq; omega
  have ob := oh B.toNat hb48 nq
  have c54 : gA o 54 B.toNat = 1 := by rw [oc B.toNat hb48 (by omega) (by omega) nb]; exact b54
  have c55 : gA o 55 B.toNat = 0 := by rw [Fo.2.1 55 (by decide)]; exact b55
  have c56 : gA o 56 B.toNat = i := by rw [ob.1]; exact b56
  have c57 : gA o 57 B.toNat = gA S 57 B.toNat := ob.2.1
  have s6 : gA S 57 B.toNat ≤ 6 := (T.1.2.2.2 B.toNat hb48).1.2
  have c59 : gA o 59 (6 * B.toNat + r.toNat) = y := by rw [(ob.2.2 r.toNat (by omega)).2]; exact ey.symm
  have oe : gI o 581 = gI S 581 := Fo.1 581 (by decide)
  have on : gI o 1060 = gI S 1060 := Fo.1 1060 (by decide)
  obtain ⟨hR34, F34, u59, T2⟩ := wp_det (ts_set (p0 := B) (p1 := r) (p2 := q) hRo T1 hb (by omega) (by omega) (by omega) (fun _ => ⟨by rw [on]; omega, by omega⟩) (by omega)) e34
  have T3 : TS s34 Z0 (-1) := by
    refine TG_D T2 (fun x hx => ?_)
    show (0 : Int) = 0 + (if x = q.toNat then 1 else 0) - (if x = y.toNat then 1 else 0) + (if 0 < gA o 56 B.toNat ∧ gA o 59 (6 * B.toNat + r.toNat) = (x : Int) then 1 else 0) - (if 0 < gA o 56 B.toNat ∧ q = (x : Int) then 1 else 0)
    rw [c59]
    have hl : 0 < gA o 56 B.toNat := by omega
    have e1 : (if 0 < gA o 56 B.toNat ∧ y = (x : Int) then (1 : Int) else 0) = if x = y.toNat then 1 else 0 := by
      by_cases z : x = y.toNat
      · rw [if_pos z, if_pos ⟨hl, by omega⟩]
      · rw [if_neg z, if_neg (fun w => z (by omega))]
    have e2 : (if 0 < gA o 56 B.toNat ∧ q = (x : Int) then (1 : Int) else 0) = if x = q.toNat then 1 else 0 := by
      by_cases z : x = q.toNat
      · rw [if_pos z, if_pos ⟨hl, by omega⟩]
      · rw [if_neg z, if_neg (fun w => z (by omega))]
    rw [e1, e2]; omega
  have g54 : gA s34 54 = gA o 54 := F34.2.1 54 (by decide)
  have g55 : gA s34 55 = gA o 55 := F34.2.1 55 (by decide)
  have g56 : gA s34 56 = gA o 56 := F34.2.1 56 (by decide)
  have g57 : gA s34 57 = gA o 57 := F34.2.1 57 (by decide)
  have ge : gI s34 581 = gI S 581 := (F34.1 581 (by decide)).trans oe
  exact ⟨hR34, T3, ⟨r0, by omega⟩, ⟨by rw [g54]; exact o54, by rw [g55]; exact o55, by rw [g56]; omega⟩, ⟨hb, by rw [g54]; exact c54, by rw [g55]; exact c55, by rw [g56]; exact c56⟩, ge, by rw [g57]; exact c57⟩
/-- the reference: X is o itself, or o with the entry set -/
theorem r_next {t0 T X : MS} {v b : Nat} {i r : Int} {q46 : Int × MS} (hv : v < 8) (hR : Rr T) (hKS : KS t0 T) (hC0 : CE t0 0) (hE : 3 ≤ gA t0 39 6 ∧ gA t0 39 6 ≤ 6) (h55 : gI T 55 = 0) (hG : GDo t0 T v (b : Int) i) (hi : 0 < i) (hk : 0 ≤ r ∧ r < (hM T).2.1 b) (e46 : m_x12_owned ((hM T).2.2 b r.toNat) T = some q46) (z55 : gI q46.2 55 = 0)
    (hX : ((hM q46.2).2.2 b r.toNat = q46.1 ∧ X = q46.2) ∨ ((hM q46.2).2.2 b r.toNat ≠ q46.1 ∧ m_x12_setsEntry (b : Int) r (kM q46.2 b r.toNat) q46.1 q46.2 = some X)) :
    Rr X ∧ KS t0 X ∧ gI X 55 = 0 ∧ RWn t0 X v ∧ (0 ≤ q46.1 ∧ q46.1 < 48) ∧ (0 ≤ (hM T).2.2 b r.toNat ∧ (hM T).2.2 b r.toNat < 48) ∧ (BX q46.2 X b ∧ (hM X).2.1 b = (hM q46.2).2.1 b ∧ ((hM X).2.2 b r.toNat = q46.1 ∧ ∀ j, j ≠ r.toNat → (hM X).2.2 b j = (hM q46.2).2.2 b j) ∧ ∀ j, kM X b j = kM q46.2 b j) ∧ (∃ M', TM X d0 (-1) ∧ PM X v M' d0 (-1) ∧ CurMo X v M' (b : Int) i ∧ ((cM X q46.1.toNat = 1 ∧ vM X q46.1.toNat = 0) ∧ (hM X).1 q46.1.toNat = i - 1 ∧ (M' v q46.1.toNat = 1 ∧ ∀ u, u < 16 → u ≠ v → M' u q46.1.toNat = 0))) ∧ (q46.1.toNat = ((hM T).2.2 b r.toNat).toNat → cM T ((hM T).2.2 b r.toNat).toNat = 1 ∧ vM T ((hM T).2.2 b r.toNat).toNat = 0) := by
  obtain ⟨hW, M, TT, P, hA⟩ := hG
  obtain ⟨⟨ha, a54, a55⟩, a56, am, amu⟩ := hA
  have tb : ((b : Nat) : Int).toNat = b := Int.toNat_natCast _
  rw [tb] at a54 a55 a56 am amu
  have ha48 : b < 48 := by omega
  have S39 := hKS.1.1
  obtain ⟨y, ey⟩ : ∃ y, y = (hM T).2.2 b r.toNat := ⟨_, rfl⟩
  rw [← ey] at e46 ⊢
  have na := (TG_nd TT ha48 (by omega)).2.1
  have kid := TG_kid (p := b) (k := r.toNat) TT (fun _ _ => Int.le_refl 0) ha48 (by omega) (by omega) (by omega)
  have km := kid_mu (k := r.toNat) hv P ha48 (by omega) (by omega) (by omega)
  have ke := enf_pos (h := hM T) (p := b) (k := r.toNat) (i := 0) (by omega) (by omega) (by omega) (by omega)
  rw [← ey] at kid km ke
  obtain ⟨⟨k0, k1⟩, k2, k3⟩ := kid
  have hNS : gA T 39 5 ≤ 48 := TT.1.1
  have y48 : y.toNat < 48 := by omega
  have ke' : 0 < en (hM T) b ((y.toNat : Nat) : Int) := by
    rw [show ((y.toNat : Nat) : Int) = y by omega]
    have : 1 ≤ en (hM T) b y := ke
    omega
  obtain ⟨hRo, Fo, ko, h46⟩ := wp_det (mt_owned (M := M) hR hv TT P (KS_CE hKS hC0) (by rw [S39]; omega) h55 (p0 := y) (by omega) k3 km (own_x hv TT P y48 (Or.inr ⟨b, ha48, by omega, ke', fun u hu hn => by rw [amu u hu hn]; omega⟩))) e46
  obtain ⟨q, o⟩ := q46
  (try dsimp only at hRo Fo ko h46 z55 hX ⊢)
  have KSo : KS T o := ⟨⟨Fo.2.1 39 (by decide), Fo.2.1 42 (by decide), Fo.2.1 43 (by decide), Fo.2.1 44 (by decide)⟩, ko⟩
  have KSo' : KS t0 o := KS_t hKS KSo
  rcases h46 with ⟨h46, _⟩ | ⟨z0, w0, M', ⟨⟨rq, rN⟩, ⟨o54, o55⟩, ⟨o56, o57⟩⟩, oc, oh, oq, ou, ⟨To, Po⟩, om, omu, omn, omx⟩
  · omega
  have nb : b ≠ y.toNat := fun z => by rw [← z] at k2; omega
  have nq : b ≠ q.toNat := fun z => by
    rcases oq with oq | oq
    · exact nb (by omega)
    · rw [← z] at oq; omega
  have ob := oh b nq
  have cb : cM o b = 1 := by rw [oc b ha48 (by omega) (by omega) nb]; exact a54
  have vb : vM o b = 0 := by rw [ob.1]; exact a55
  have lb : (hM o).1 b = i := by rw [ob.2.1]; exact a56
  have eb : (hM o).2.2 b r.toNat = y := by rw [(ob.2.2.2 r.toNat (by omega)).1]; exact ey.symm
  have mb : M' v b = 1 := by rw [omx b nq nb]; exact am
  have mub : ∀ u, u < 16 → u ≠ v → M' u b = 0 := fun u hu hn => by rw [omn u hn]; exact amu u hu hn
  have hWo : RWn t0 o v := ⟨fun u hu hn => by rw [ou u hu]; exact hW.1 u hu hn, by rw [ou v (by omega)]; exact hW.2⟩
  have last : q.toNat = y.toNat → cM T y.toNat = 1 ∧ vM T y.toNat = 0 := fun e => by
    rcases Classical.em (cM T y.toNat = 1 ∧ vM T y.toNat = 0) with w | w
    · exact w
    · exfalso
      -- a copy is another block
      have g2 := m_own (p := y) (t := T) (by omega) h55 (fun o1 eo z => by
        have lvy := (TG_nd TT y48 k3)
        have lvl := (TG_lev TT (fun _ _ => Int.le_refl 0) y48 k3)
        have W := (wp_det (w_x12_taken hR ⟨by omega, hNS⟩ (KS_CE hKS hC0) (p0 := (hM T).1 y.toNat) (p1 := y) ⟨lvl.1, by omega⟩ ⟨by omega, by omega⟩) eo).2.2
        rcases W with W | ⟨_, W2, W3, W4⟩
        · omega
        · have ne : y.toNat ≠ o1.1.toNat := fun e2 => by rw [← e2] at W3; omega
          refine ⟨W2.1, fun e2 => ne e2.symm, ?_⟩
          have := W4.1 (20 + 16 * y.toNat) (by omega)
          show gA o1.2 49 (20 + 16 * y.toNat) ≤ 6
          rw [this]; exact lvy.2.1.2) (q, o) e46
      rcases g2 with ⟨a, _⟩ | ⟨_, o1, eo1, a2⟩
      · exact w ⟨a.2, a.1.2⟩
      · rcases a2 with ⟨x, e2⟩ | ⟨x, e2, _⟩
        · have : o = o1.2 := congrArg Prod.snd e2
          rw [this] at z55; exact x z55
        · have lvl := (TG_lev TT (fun _ _ => Int.le_refl 0) y48 k3)
          have W := (wp_det (w_x12_taken hR ⟨by omega, hNS⟩ (KS_CE hKS hC0) (p0 := (hM T).1 y.toNat) (p1 := y) ⟨lvl.1, by omega⟩ ⟨by omega, by omega⟩) eo1).2.2
          rcases W with W | ⟨_, _, W3, _⟩
          · omega
          · have e3 : q = o1.1 := e2
            rw [← e3, e] at W3; omega
  rcases hX with ⟨x1, x2⟩ | ⟨x1, x2⟩
  · have yq : q = y := x1.symm.trans eb
    subst x2
    exact ⟨hRo, KSo', z0, hWo, ⟨w0, by omega⟩, ⟨k0, by omega⟩, ⟨BX_0 _ _, rfl, ⟨x1, fun _ _ => rfl⟩, fun _ => rfl⟩, ⟨M', TG_D To (dq_0 (by omega)), PM_D Po (dq_0 (by omega)), ⟨⟨ha, by rw [tb]; exact cb, by rw [tb]; exact vb⟩, by rw [tb]; exact lb, by rw [tb]; exact mb, fun u hu hn => by rw [tb]; exact mub u hu hn⟩, ⟨o54, o55⟩, by rw [o56, k2]; omega, om, omu⟩, last⟩
  · have r51 : R2 (kM o b r.toNat) := by
      show R2 (if r.toNat < 6 then gA o 49 (21 + 16 * b + r.toNat) else 0)
      rw [if_pos (by omega)]; exact R49 hRo (by omega)
    obtain ⟨hR53, u53⟩ := wp_det (w_x12_setsEntry hRo ha (p1 := r) ⟨hk.1, by omega⟩ r51 (by omega)) x2
    rw [tb] at u53
    have F53 : F_x12_setsEntry o X := fr_x12_setsEntry x2
    obtain ⟨iB, iz, T2, P2⟩ := MT_set (b := b) (k := r.toNat) To Po (by omega) u53 (F53.2.1 39 (by decide)) (by omega) ha48 (by omega) (by omega) (by omega) (fun u hu hn => by rw [mub u hu hn]; omega) (by rw [ob.2.2.1]; omega) (fun _ => ⟨by rw [KSo.1.1]; omega, by rw [o56, k2, lb]; omega⟩)
    obtain ⟨_, _, g1, g2⟩ := M_set (k := r.toNat) (by omega) u53
    have dd : ∀ x : Nat, x < 48 → d0 x = dq q.toNat x - dq y.toNat x + (if 0 < (hM o).1 b ∧ (hM o).2.2 b r.toNat = (x : Int) then 1 else 0) - (if 0 < (hM o).1 b ∧ q = (x : Int) then 1 else 0) := fun x hx => by
      show (0 : Int) = _
      rw [eb]
      have e1 : (if 0 < (hM o).1 b ∧ y = (x : Int) then (1 : Int) else 0) = dq y.toNat x := by
        rw [← dd_0 k0]
        by_cases z : y = (x : Int)
        · rw [if_pos z, if_pos ⟨by omega, z⟩]
        · rw [if_neg z, if_neg (fun w => z w.2)]
      have e2 : (if 0 < (hM o).1 b ∧ q = (x : Int) then (1 : Int) else 0) = dq q.toNat x := by
        rw [← dd_0 w0]
        by_cases z : q = (x : Int)
        · rw [if_pos z, if_pos ⟨by omega, z⟩]
        · rw [if_neg z, if_neg (fun w => z w.2)]
      rw [e1, e2]; omega
    have K53 : KS t0 X := KS_t KSo' ⟨⟨F53.2.1 39 (by decide), F53.2.1 42 (by decide), F53.2.1 43 (by decide), F53.2.1 44 (by decide)⟩, fun j hj => BX_k iB ha48 hj⟩
    have kk : ∀ j, kM X b j = kM o b j := fun j => by
      by_cases z : j = r.toNat
      · rw [z]; exact g1.2
      · exact (g2 j z).2
    exact ⟨hR53, K53, (F53.1 55 (by decide)).trans z0, ⟨fun u hu hn => by rw [BX_u iB hu]; exact hWo.1 u hu hn, by rw [BX_u iB (by omega)]; exact hWo.2⟩, ⟨w0, by omega⟩, ⟨k0, by omega⟩, ⟨iB, iz, ⟨g1.1, fun j hj => (g2 j hj).1⟩, kk⟩, ⟨M', TG_D T2 dd, PM_D P2 dd, ⟨⟨ha, by rw [tb, BX_c iB]; exact cb, by rw [tb, BX_v iB]; exact vb⟩, by rw [tb, BX_l iB]; exact lb, by rw [tb]; exact mb, fun u hu hn => by rw [tb]; exact mub u hu hn⟩, ⟨by rw [BX_c iB]; exact o54, by rw [BX_v iB]; exact o55⟩, by rw [BX_l iB, o56, k2]; omega, om, omu⟩, last⟩
/-! ===== a put on both sides ===== -/
theorem EF_c {f g : Nat → Int} {z key r : Int} (e : ∀ k : Nat, (k : Int) < z → g k = f k) (h : EF f z key r) : EF g z key r := by
  obtain ⟨a, b, c⟩ := h
  refine ⟨a, ?_, fun k k1 k2 k3 => by rw [e k k2]; exact c k k1 k2 k3⟩
  rcases b with b | ⟨b1, b2⟩
  · exact Or.inl b
  · exact Or.inr ⟨b1, by rw [e r.toNat (by omega)]; exact b2⟩
def GJ (t0 : MS) (v : Nat) (key : Int) (S T : MS) (π σ : Nat → Nat) (lo hi : Nat → Int) (b : Nat) (i : Int) : Prop := (SIM π σ S T ∧ ZP S T) ∧ (Rg S ∧ Rr T) ∧ KS t0 T ∧ (TS S Z0 (-1) ∧ Cur S (π b : Int) i ∧ 3 ≤ gI S 581) ∧ (gI T 55 = 0 ∧ GD t0 T v (b : Int) i) ∧ OI T lo hi ∧ (lo b ≤ key ∧ key ≤ hi b)
def CON (q : Int × MS) (o : MS) : Prop := (q.1 = 0 ∧ gI o 55 = 1) ∨ (q.1 = 1 ∧ gI o 55 = 0 ∧ ∃ π σ lo hi, SIM π σ q.2 o ∧ ZP q.2 o ∧ OI o lo hi)
/-- a block split under another: the order, in the words of m_half -/
theorem OI_hf {t : MS} {lo hi : Nat → Int} {a b k : Nat} {key : Int} {o1 o : Int × MS} (H : OI t lo hi) (hK : KLV t) (ha : a < 48) (hb : b < 48) (la : LV t a) (lb : LV t b) (hlev : 0 < (hM t).1 a) (hk : (k : Int) < (hM t).2.1 a) (hv : (hM t).2.2 a k = (b : Int)) (hz : 2 ≤ (hM t).2.1 b) (hz5 : (hM t).2.1 a ≤ 5) (hab : a ≠ b) (hky : lo b ≤ key ∧ key ≤ hi b)
    (h55 : gI o.2 55 = 0) (W : (0 ≤ o1.1 ∧ o1.1 < 48) ∧ (cM t o1.1.toNat ≤ 0 ∧ vM t o1.1.toNat ≤ 0) ∧ TkE t o1.2 o1.1.toNat ((hM t).1 b)) (HF : HFm a b (k : Int) key t o1 o) : ∃ lo' hi', OI o.2 lo' hi' ∧ (lo' o.1.toNat ≤ key ∧ key ≤ hi' o.1.toNat) := by
  obtain ⟨⟨w0, w1⟩, ⟨c0, v0⟩, TK⟩ := W
  rcases HF with ⟨z, e⟩ | ⟨_, S, q, s, HL, SZ, hRq, _, ev, oq, oa⟩
  · rw [e] at h55
    have h55' : gI o1.2 55 = 0 := h55
    omega
  obtain ⟨r, hr⟩ : ∃ r, r = o1.1.toNat := ⟨_, rfl⟩
  have ri : o1.1 = (r : Int) := by omega
  rw [← hr] at c0 v0 TK HL ev oa
  rw [ri] at ev oa
  have nl : ¬ LV t r := by unfold LV; omega
  have nar : a ≠ r := fun e => nl (by rw [← e]; exact la)
  have nbr : b ≠ r := fun e => nl (by rw [← e]; exact lb)
  have sz := (hK.2.1 b hb lb).1.1.2.1
  have td := half_b (z := (hM t).2.1 b) (E := 100) hz sz.2 (by omega)
  obtain ⟨⟨t1, _, t2⟩, t3, _, t5⟩ := td
  obtain ⟨hlB, hlz, hlc, hl39, _, _⟩ := HL
  obtain ⟨szB, szz, szr, sz39, _⟩ := SZ
  have tk := fun (x : Nat) (hx : x ≠ r) => ROW_tk TK hx
  have z5 : (hM q).2.1 a = (hM t).2.1 a := by rw [BX_z szB hab, BX_z hlB nar]; exact (tk a nar).2.1
  have ta : ((a : Nat) : Int).toNat = a := Int.toNat_natCast _
  have kq0 : R2 (kM q r 0) := by
    show R2 (if 0 < 6 then gA q 49 (21 + 16 * r + 0) else 0)
    rw [if_pos (by decide)]; exact R49 hRq (by omega)
  have WI := wp_det (w_x12_inserts hRq (p0 := (a : Int)) (p1 := (k : Int) + 1) (p2 := kM q r 0) (p3 := (r : Int)) ⟨by omega, by omega⟩ ⟨by omega, by rw [ta, z5]; omega⟩ (by rw [ta, z5]; exact hz5) kq0 ⟨by omega, by omega⟩) ev
  rw [ta, show ((k : Int) + 1).toNat = k + 1 by omega] at WI
  obtain ⟨_, _, B, iz, i1, i2, i3⟩ := WI
  obtain ⟨n, hn⟩ : ∃ n, n = (hM t).2.1 b := ⟨_, rfl⟩
  rw [← hn] at hlz hlc szz t1 t2 t3 t5 hz sz
  obtain ⟨m, hm⟩ : ∃ m, m = n - Int.tdiv n 2 := ⟨_, rfl⟩
  rw [← hm] at hlc szz t3 t5
  have hgo : Int.tdiv n 2 = n - m := by omega
  rw [hgo] at hlz hlc t1 t2
  -- the key that parts
  have sepq : kM q r 0 = kM t b m.toNat := by
    rw [(BX_e (j := 0) szB (fun e => nbr e.symm)).2, (hlc 0 (by omega)).2, Nat.add_zero]
    exact ((tk b nbr).2.2 m.toNat).2
  have OH := OI_half (v := s) (sep := kM t b m.toNat) H hK ha hb la lb hlev hk hv hn.symm ⟨t3, by omega⟩ rfl nl hab
    (by
      refine ⟨?_, ?_, fun j hj => ?_⟩
      · rw [BX_l B, BX_l szB, BX_l hlB]; exact TK.2.2.1
      · rw [BX_z B (fun e => nar e.symm), BX_z szB (fun e => nbr e.symm), hlz]
      · rw [(BX_e (j := j) B (fun e => nar e.symm)).1, (BX_e (j := j) B (fun e => nar e.symm)).2, (BX_e (j := j) szB (fun e => nbr e.symm)).1, (BX_e (j := j) szB (fun e => nbr e.symm)).2, (hlc j hj).1, (hlc j hj).2]
        exact (tk b nbr).2.2 (m.toNat + j))
    (by
      refine ⟨?_, ?_, fun j hj => ?_⟩
      · rw [BX_l B, BX_l szB, BX_l hlB]; exact (tk b nbr).1
      · rw [BX_z B (fun e => hab e.symm), szz]
      · rw [(BX_e (j := j) B (fun e => hab e.symm)).1, (BX_e (j := j) B (fun e => hab e.symm)).2, (szr j).1, (szr j).2, (BX_e (j := j) hlB nbr).1, (BX_e (j := j) hlB nbr).2]
        exact (tk b nbr).2.2 j)
    (by
      have ea : ∀ j, (hM q).2.2 a j = (hM t).2.2 a j ∧ kM q a j = kM t a j := fun j => by
        rw [(BX_e (j := j) szB hab).1, (BX_e (j := j) szB hab).2, (BX_e (j := j) hlB nar).1, (BX_e (j := j) hlB nar).2]
        exact (tk a nar).2.2 j
      refine ⟨?_, by rw [iz, z5], fun j hj => ?_, ⟨i2.1, by rw [i2.2]; exact sepq⟩, fun j j1 j2 => ?_⟩
      · rw [BX_l B, BX_l szB, BX_l hlB]; exact (tk a nar).1
      · rw [(i1 j hj).1, (i1 j hj).2]; exact ea j
      · rw [(i3 j j1 (by rw [z5]; exact j2)).1, (i3 j j1 (by rw [z5]; exact j2)).2]; exact ea j)
    (fun x x1 x2 x3 => ROW_t (ROW_t (ROW_t (tk x x1) (ROW_bx hlB x1)) (ROW_bx szB x3)) (ROW_bx B x2))
    (fun x hx hl => by
      by_cases e : x = r
      · exact Or.inl e
      · refine Or.inr ?_
        unfold LV at hl ⊢
        rw [BX_c B, BX_c szB, BX_c hlB, BX_v B, BX_v szB, BX_v hlB] at hl
        have c1 : cM o1.2 x = cM t x := TK.1 (17 + 16 * x) (by omega)
        have c2 : vM o1.2 x = vM t x := TK.1 (18 + 16 * x) (by omega)
        rw [← c1, ← c2]; exact hl)
  obtain ⟨O1, o2, o3⟩ := OH
  have kv : kM s r 0 = kM t b m.toNat := ((BX_e (j := 0) B (fun e => nar e.symm)).2).trans sepq
  rw [kv] at oa
  refine ⟨_, _, by rw [oq]; exact O1, ?_⟩
  rcases oa with ⟨x1, x2⟩ | ⟨x1, x2⟩
  · rw [x2, Int.toNat_natCast, upZ_n nbr, upZ_n nbr, upZ_s]; omega
  · rw [x2, Int.toNat_natCast, upZ_s, upZ_s]; omega
theorem OI_49 {t o : MS} {lo hi : Nat → Int} (H : OI t lo hi) (e : gA o 49 = gA t 49) : OI o lo hi := by
  obtain ⟨e1, e2, e3, e4⟩ := eq49 e
  refine OI_same H (fun x hx hl => ⟨?_, Or.inl ⟨by rw [e1], by rw [e1], fun k => by rw [e1, e2]; exact ⟨rfl, rfl⟩⟩⟩)
  unfold LV at hl ⊢
  rw [← e3, ← e4]; exact hl
set_option maxHeartbeats 4000000 in
theorem y_plant_L {t0 : MS} {v : Nat} {key val : Int} (hv : v < 8) (hkey : 0 ≤ key ∧ key ≤ 999) (hval : 0 ≤ val ∧ val ≤ 999) (hC0 : CE t0 0) (hC1 : CE t0 1) (hE : 3 ≤ gA t0 39 6 ∧ gA t0 39 6 ≤ 6) (hN0 : 0 ≤ gA t0 39 5) : ∀ (n m : Nat) (i : Int) (b : Nat) (S T : MS) (π σ : Nat → Nat) (lo hj : Nat → Int), GJ t0 v key S T π σ lo hj b i → pc (m_x1_plant_L117 n key val (π b : Int) i S) (fun q => pc (m_x12_puts_L94 m key val (b : Int) T) (fun o => CON q o)) := by
  refine fr_ind (fun _ _ _ _ _ _ _ _ _ _ => pc_none) (fun n ih m i b S T π σ lo hj G => ?_)
  cases m with
  | zero => exact fun q _ => pc_none
  | succ m =>
    obtain ⟨⟨h, hZ⟩, ⟨hR, hRt⟩, hKS, ⟨TSs, hCur, h581⟩, ⟨h55, hG⟩, hO, hky⟩ := G
    have hG0 := hG
    obtain ⟨hW, M, TT, P, hA⟩ := hG0
    obtain ⟨⟨ha, a54, a55⟩, a56, a57, am, amu⟩ := hA
    have tb : ((b : Nat) : Int).toNat = b := Int.toNat_natCast _
    have tp : ((π b : Nat) : Int).toNat = π b := Int.toNat_natCast _
    rw [tb] at a54 a55 a56 a57 am amu
    have hb : b < 48 := by omega
    have S39 := hKS.1.1
    have hK : KLV T := KLV_of TT (fun _ _ => Int.le_refl 0)
    have lb : LV T b := Or.inl (by omega)
    have hKs : ∀ x, x < 48 → LV T x → 0 ≤ (hM T).2.1 x ∧ (hM T).2.1 x ≤ 6 := fun x hx l => (hK.2.1 x hx l).1.1.2.1
    have Bb := sim_b h hb lb
    have hP := h.1.1
    have pb48 := (hP b hb).1.1
    have z1 : gA S 57 (π b) = (hM T).2.1 b := Bb.2.1
    have n1 : 1 ≤ (hM T).2.1 b := TT.2.2.1.1 b hb (by omega) (by omega)
    have sb := hKs b hb lb
    have NT : 0 ≤ gA T 39 5 ∧ gA T 39 5 ≤ 48 := ⟨by rw [S39]; exact hN0, TT.1.1⟩
    have l0 := (hK.2.1 b hb lb).1.1.1
    by_cases hi : i ≤ 0
    · refine s_step0 hi (fun s8 e8 => m_step0 h55 (by omega) (fun s9 e9 => ?_))
      have so := ((hO b hb lb).2.1 (by omega)).1
      have Y := y_low h hKs hR hRt hb lb (by omega) (by rw [S39] at a57; omega) so hkey hval e8 e9
      have F8 : F_x1_plantLow S s8 := fr_x1_plantLow e8
      have F9 : F_x12_putsIn T s9 := fr_x12_putsIn e9
      refine Or.inr ⟨rfl, (F9.1 55 (by decide)).trans h55, π, σ, lo, hj, Y.1, ZP_k hZ (F8.1 581 (by decide)) (F8.1 741 (by decide)) (fun k k1 k2 => F8.2.1 k (by simp; omega)) (fun k hk => F9.2.1 k (by simp; omega)), ?_⟩
      rcases Y.2 with ⟨k, I, pI, ne⟩ | ⟨bx, z, kk, vv⟩
      · exact OI_leaf hO hb lb (by omega) I hky (by rw [S39] at a57; omega) pI ne (fun x hx l => (hKs x hx l).2) hval.1
      · refine OI_same hO (fun x hx hl => ⟨?_, ?_⟩)
        · unfold LV at hl ⊢
          rw [← BX_c bx, ← BX_v bx]; exact hl
        · by_cases e : x = b
          · rw [e]; exact Or.inr ⟨by rw [BX_l bx]; omega, by omega, z, kk, fun j hj => by
              rcases vv j with w | w
              · rw [w]; exact (((hO b hb lb).2.1 (by omega)).2 j hj).2.2
              · rw [w]; exact hval.1⟩
          · exact Or.inl (ROW_bx bx e)
    · have ev : ∀ k : Nat, (k : Int) < (hM T).2.1 b → gA S 59 (6 * π b + k) = (π ((hM T).2.2 b k).toNat : Int) := fun k hk => (Bb.2.2 k hk).2.1 (by omega)
      refine s_step1 (by omega) (fun r q30 hEF e30 => ?_)
      have e30o := e30
      have r0 := hEF.1
      have r1 : r < (hM T).2.1 b := by
        rcases hEF.2.1 with w | w
        · omega
        · rw [← z1]; exact w.1
      have EFT : EF (kM T b) ((hM T).2.1 b) key r := by
        have q := EF_c (g := kM T b) (fun k hk => ((Bb.2.2 k (by rw [← z1]; exact hk)).1).symm) hEF
        rw [z1] at q; exact q
      rw [ev r.toNat (by omega)] at e30
      have kid := (hK.2.1 b hb lb).2 (by omega) r.toNat (by omega)
      have kidN := (hK.2.1 b hb lb).1.1.2.2 (by omega) r.toNat (by omega)
      obtain ⟨y, hy⟩ : ∃ y, y = ((hM T).2.2 b r.toNat).toNat := ⟨_, rfl⟩
      rw [← hy] at e30 kid kidN
      have y48 : y < 48 := by omega
      have yv : (hM T).2.2 b r.toNat = (y : Int) := by omega
      have ty : ((y : Nat) : Int).toNat = y := Int.toNat_natCast _
      have tpy : ((π y : Nat) : Int).toNat = π y := Int.toNat_natCast _
      have py48 := (hP y y48).1.1
      have nby : b ≠ y := fun e => by rw [← e] at kidN; omega
      have hcy : 0 < cM T y := by
        have k := TG_kid (p := b) (k := r.toNat) TT (fun _ _ => Int.le_refl 0) hb (by omega) (by omega) (by omega)
        rw [yv, ty] at k; exact k.2.2
      have cy := sim_c h y48
      have zD' : ∀ x, x < 48 → 0 ≤ Z0 x ∧ Z0 x ≤ 10 := fun x _ => ⟨Int.le_refl 0, by show (0 : Int) ≤ 10; omega⟩
      have W30 := wp_det (ts_owned hR TSs zD' (by omega) (p0 := (π y : Int)) ⟨by omega, by omega⟩ (by rw [tpy, cy.1]; exact hcy)) e30
      have km := kid_mu (k := r.toNat) hv P hb (by omega) (by omega) (by omega)
      have ke := enf_pos (h := hM T) (p := b) (k := r.toNat) (i := 0) (by omega) (by omega) (by omega) (by omega)
      rw [yv] at km ke
      have OWN : ∀ q46 : Int × MS, m_x12_owned (y : Int) T = some q46 → (q30.1 = -1 ∧ gI q46.2 55 = 1) ∨ (gI q46.2 55 = 0 ∧ 0 ≤ q30.1 ∧ 0 ≤ q46.1 ∧ ∃ π' σ', SIM π' σ' q30.2 q46.2 ∧ q30.1 = (π' q46.1.toNat : Int) ∧ (∀ x, x < 48 → LV T x → π' x = π x) ∧ CPY T q46.2 y q46.1.toNat) := fun q46 e46 => by
        have W46 := wp_det (mt_owned (M := M) hRt hv TT P (KS_CE hKS hC0) (by rw [S39]; omega) h55 (p0 := (y : Int)) ⟨by omega, by omega⟩ (by rw [ty]; exact hcy) km (own_x hv TT P (by rw [ty]; exact y48) (Or.inr ⟨b, hb, by omega, by
          rw [ty]
          have q : 1 ≤ en (hM T) b (y : Int) := ke
          omega, fun u hu hn => by rw [amu u hu hn]; omega⟩))) e46
        have Y := y_ownB (v := v) (M := M) h hK hR hRt TSs TT (KS_CE hKS hC0) (by omega) (by rw [S39]; omega) h55 (p := (π y : Int)) (p' := (y : Int)) ⟨by omega, by omega⟩ (by rw [ty]) (by rw [ty]; exact hcy) e30 e46 W30.2.2 W46.2.2.2
        rw [ty] at Y; exact Y
      have PFr : ∀ r' : Int, PF (kM T b) ((hM T).2.1 b) key r' → r' = r := fun r' hPF => (EF_PF (OI_SO hO hK hb lb) (fun _ _ => rfl) EFT hPF).symm
      refine ⟨fun c => ?_, fun c s34 q37 e34 e37 => ?_⟩
      · refine m_step1 h55 (by omega) ⟨n1, sb.2⟩ (fun r' q46 hPF e46 => ?_)
        rw [PFr r' hPF, yv] at e46
        rw [PFr r' hPF]
        have f : gI q46.2 55 = 1 := by
          rcases OWN q46 e46 with x | x
          · exact x.2
          · exact absurd c (by have := x.2.1; omega)
        refine ⟨fun _ => pc_mono (m_J162F f) (fun o ho => Or.inl ⟨rfl, ho⟩), fun _ s53 e53 => ?_⟩
        have F53 : F_x12_setsEntry q46.2 s53 := fr_x12_setsEntry e53
        exact pc_mono (m_J162F ((F53.1 55 (by decide)).trans f)) (fun o ho => Or.inl ⟨rfl, ho⟩)
      · -- the child is each side's own
        have C := c_next hR TSs (CurO_of hCur) (by omega) (by omega) (r := r) ⟨r0, by rw [tp, z1]; exact r1⟩ (by rw [tp]; exact e30o) c e34
        rw [tp] at C
        obtain ⟨hR34, T34, q30r, ⟨g54, g55, g56⟩, Cb, ge, g57⟩ := C
        have F30 : F_x1_owned S q30.2 := fr_x1_owned e30
        have F34 : F_x8_set q30.2 s34 := fr_x8_set e34
        have STEP : ∀ (q46 : Int × MS) (X : MS), m_x12_owned (y : Int) T = some q46 → (((hM q46.2).2.2 b r.toNat = q46.1 ∧ X = q46.2) ∨ ((hM q46.2).2.2 b r.toNat ≠ q46.1 ∧ m_x12_setsEntry (b : Int) r (kM q46.2 b r.toNat) q46.1 q46.2 = some X)) → ∃ (cc : Nat) (π1 σ1 : Nat → Nat) (lo1 hj1 : Nat → Int), (q46.1 = (cc : Int) ∧ cc < 48 ∧ q30.1 = (π1 cc : Int) ∧ π1 b = π b) ∧ (SIM π1 σ1 s34 X ∧ ZP s34 X) ∧ (OI X lo1 hj1 ∧ (lo1 cc ≤ key ∧ key ≤ hj1 cc)) ∧ (Rr X ∧ KS t0 X ∧ gI X 55 = 0 ∧ RWn t0 X v) ∧ (∃ M', TM X d0 (-1) ∧ PM X v M' d0 (-1) ∧ CurMo X v M' (b : Int) i ∧ ((cM X cc = 1 ∧ vM X cc = 0) ∧ (hM X).1 cc = i - 1 ∧ (M' v cc = 1 ∧ ∀ u, u < 16 → u ≠ v → M' u cc = 0))) ∧ ((hM X).2.1 b = (hM T).2.1 b ∧ (hM X).2.2 b r.toNat = (cc : Int)) := fun q46 X e46 hX => by
          rcases OWN q46 e46 with x | ⟨x55, x1, x2, π1, σ1, H1, x3, x4, CP⟩
          · exact absurd x.1 c
          obtain ⟨cc, hcc⟩ : ∃ cc, cc = q46.1.toNat := ⟨_, rfl⟩
          have ci : q46.1 = (cc : Int) := by omega
          rw [← hcc] at x3 CP
          obtain ⟨CP1, CP2, CP3, CP4⟩ := CP
          have RN := r_next hv hRt hKS hC0 hE h55 (GDo_of hG) (by omega) ⟨r0, r1⟩ (by rw [yv]; exact e46) x55 hX
          rw [yv, ty, ← hcc] at RN
          obtain ⟨RX, KX, X55, WX, cR, _, ⟨BXx, zX, ⟨vX, vX'⟩, kX⟩, MX, lastX⟩ := RN
          have c48 : cc < 48 := by omega
          have ncb : b ≠ cc := fun e => by
            rcases CP4 with w | w
            · exact nby (e.trans w)
            · exact w (by rw [← e]; exact lb)
          have rb := CP2 b ncb
          have LVb : LV q46.2 b := by
            obtain ⟨M', TX, _, hAX, _⟩ := MX
            have q := hAX.1.2.1
            rw [tb] at q
            rw [BX_c BXx] at q
            exact Or.inl (by omega)
          have K46 : ∀ x, x < 48 → LV q46.2 x → 0 ≤ (hM q46.2).2.1 x ∧ (hM q46.2).2.1 x ≤ 6 := fun x hx hl => by
            rcases CP3 x hx hl with w | w
            · rw [w, CP1.2.1]; exact hKs y y48 kid.2
            · by_cases e : x = cc
              · rw [e, CP1.2.1]; exact hKs y y48 kid.2
              · rw [(CP2 x e).2.1]; exact hKs x hx w
          have eb : (hM q46.2).2.2 b r.toNat = (y : Int) := by rw [(rb.2.2 r.toNat).1]; exact yv
          have B46 := sim_b H1 hb LVb
          have kb : π1 b = π b := x4 b hb lb
          have P1 := H1.1.1
          have R46 : Rr q46.2 := (wp_det (mt_owned (M := M) hRt hv TT P (KS_CE hKS hC0) (by rw [S39]; omega) h55 (p0 := (y : Int)) ⟨by omega, by omega⟩ (by rw [ty]; exact hcy) km (own_x hv TT P (by rw [ty]; exact y48) (Or.inr ⟨b, hb, by omega, by
            rw [ty]
            have q : 1 ≤ en (hM T) b (y : Int) := ke
            omega, fun u hu hn => by rw [amu u hu hn]; omega⟩))) e46).1
          have lev46 : 0 < (hM q46.2).1 b := by rw [rb.1]; omega
          have vc := (B46.2.2 r.toNat (by rw [rb.2.1]; omega)).2.1 lev46
          rw [eb, ty] at vc
          have Y2 := y_set H1 K46 W30.1 R46 hb LVb (p1 := r) (v1 := q30.1) (v2 := q46.1) ⟨r0, by rw [rb.2.1]; exact r1⟩ ⟨by omega, by omega⟩ ⟨by omega, by omega⟩ ⟨fun _ => by rw [← hcc]; exact x3, fun w => by omega⟩ (by
            rw [eb, show gA q30.2 59 (6 * π1 b + r.toNat) = (π1 y : Int) from vc, x3, ci]
            constructor
            · intro e
              rw [show y = cc by omega]
            · intro e
              have := PB_i P1 y48 c48 (by omega)
              omega) (by rw [kb]; exact e34) (by
            rcases hX with w | w
            · exact Or.inl ⟨w.1, w.2⟩
            · exact Or.inr w)
          obtain ⟨H2, _, _⟩ := Y2
          have ZX : ZP s34 X := by
            have F46 : F_x12_owned T q46.2 := fr_x12_owned e46
            have X39 : ∀ k, k = 39 ∨ (42 ≤ k ∧ k ≤ 44) → gA X k = gA T k := fun k hk => by
              rcases hX with w | w
              · rw [w.2]; exact F46.2.1 k (by simp; omega)
              · have F53 : F_x12_setsEntry q46.2 X := fr_x12_setsEntry w.2
                rw [F53.2.1 k (by simp; omega)]; exact F46.2.1 k (by simp; omega)
            exact ZP_k hZ ge (by rw [F34.1 741 (by decide), F30.1 741 (by decide)]) (fun k k1 k2 => by rw [F34.2.1 k (by simp; omega), F30.2.1 k (by simp; omega)]) X39
          have OX := OI_own (S := X) (b := b) (y := y) (r := cc) (k := r.toNat) (key := key) hO hK hb lb (by omega) (by omega) yv hky (by
              rw [show ((r.toNat : Nat) : Int) = r by omega]
              obtain ⟨f1, f2, f3⟩ := EFT
              refine ⟨f1, f2.imp id (fun w => w.1), fun k k1 k2 => ?_, fun w => ?_⟩
              · rcases f2 with w | w
                · omega
                · by_cases e : k = r.toNat
                  · rw [e]; exact w.2
                  · have := OI_SO hO hK hb lb k r.toNat k1 (by omega) (by omega)
                    omega
              · exact f3 (r + 1).toNat (by omega) (by omega) (by omega))
            (ROW_t CP1 (ROW_bx BXx (fun e => ncb e.symm))) (fun e => ncb e.symm) (fun x x1' x2' => ROW_t (CP2 x x1') (ROW_bx BXx x2')) ⟨by rw [BX_l BXx]; exact rb.1, by rw [zX]; exact rb.2.1, fun j => by rw [kX j]; exact (rb.2.2 j).2, vX.trans ci, fun j hj' => by rw [vX' j hj']; exact (rb.2.2 j).1⟩ (fun x hx hl => by
              refine CP3 x hx ?_
              unfold LV at hl ⊢
              rw [← BX_c BXx, ← BX_v BXx]; exact hl) (by
              rcases CP4 with w | w
              · refine Or.inl ⟨w, fun p k' hp lp hlp hk' hv' => ?_⟩
                have cv := lastX w
                have OP := one_par TT y48 rfl hb (by omega) (by omega) (k := r.toNat) (by omega) yv cv.1
                rcases lp with cp | cp
                · exact OP p k' hp cp hlp hk' hv'
                · exfalso
                  have kd := TG_kid (TG_ss TT) (fun _ _ => Int.le_refl 0) hp cp hlp hk'
                  have kd2 := kd.2.2
                  rw [hv', ty] at kd2
                  omega
              · exact Or.inr w)
          obtain ⟨M', TX, PX, hAX, hc1, hc2, hc3⟩ := MX
          exact ⟨cc, π1, σ1, _, _, ⟨ci, c48, x3, kb⟩, ⟨H2, ZX⟩, OX, ⟨RX, KX, X55, WX⟩, ⟨M', TX, PX, hAX, hc1, hc2, hc3⟩, by rw [zX]; exact rb.2.1, vX.trans ci⟩
        -- whether it splits
        have B30 : (0 : Int) ≤ q30.1 ∧ q30.1 < 48 := q30r
        obtain ⟨hR37, h37⟩ := wp_det (w_x1_splits hR34 B30) e37
        have F37 : F_x1_splits s34 q37.2 := fr_x1_splits e37
        have T37 : TS q37.2 Z0 (-1) := TS_eq T34 (F37.2.1 54 (by decide)) (F37.2.1 55 (by decide)) (F37.2.1 56 (by decide)) (F37.2.1 57 (by decide)) (F37.2.1 58 (by decide)) (F37.2.1 59 (by decide)) (F37.2.1 60 (by decide)) (F37.2.1 61 (by decide)) (F37.1 1060 (by decide)) (F37.1 581 (by decide))
        have k54 : gA q37.2 54 = gA s34 54 := F37.2.1 54 (by decide)
        have k55 : gA q37.2 55 = gA s34 55 := F37.2.1 55 (by decide)
        have k56 : gA q37.2 56 = gA s34 56 := F37.2.1 56 (by decide)
        have k57 : gA q37.2 57 = gA s34 57 := F37.2.1 57 (by decide)
        have k581 : gI q37.2 581 = gI S 581 := (F37.1 581 (by decide)).trans ge
        -- what both have behind that
        have SPL : ∀ (q46 : Int × MS) (X : MS), m_x12_owned (y : Int) T = some q46 → (((hM q46.2).2.2 b r.toNat = q46.1 ∧ X = q46.2) ∨ ((hM q46.2).2.2 b r.toNat ≠ q46.1 ∧ m_x12_setsEntry (b : Int) r (kM q46.2 b r.toNat) q46.1 q46.2 = some X)) → ∀ q : Int × MS, ((q37.1 = 0 ∧ m_x1_plant_L117 n key val q30.1 (i + -1) q37.2 = some q) ∨ (q37.1 ≠ 0 ∧ ∃ q42 : Int × MS, m_x1_split (π b : Int) r q30.1 key q37.2 = some q42 ∧ m_x1_plant_L117 n key val q42.1 (i + -1) q42.2 = some q)) → pc (m_x12_puts_J162 (m_x12_puts_L94 m) key val (b : Int) r q46.1 X) (fun o => CON q o) := fun q46 X e46 hX q hq => by
          obtain ⟨cc, π1, σ1, lo1, hj1, ⟨ci, c48, x3, kb⟩, ⟨H2, ZX⟩, ⟨OX, oky⟩, ⟨RX, KX, X55, WX⟩, ⟨M', TX, PX, hAX, hc1, hc2, hc3⟩, zbX, vbX⟩ := STEP q46 X e46 hX
          have tcc : ((cc : Nat) : Int).toNat = cc := Int.toNat_natCast _
          have tpc : ((π1 cc : Nat) : Int).toNat = π1 cc := Int.toNat_natCast _
          have KXv : KLV X := KLV_of TX (fun _ _ => Int.le_refl 0)
          have lc : LV X cc := Or.inl (by omega)
          have nc := (KXv.2.1 cc c48 lc).1
          rw [ci]
          refine m_J162 X55 (fun q28 e28 => ?_)
          have Y4 := y_splits H2 c48 lc ZX RX ⟨nc.1.2.1, nc.2, nc.1.1⟩ (by rw [← x3]; exact e37) e28
          obtain ⟨v1, v2, H5, ZP5⟩ := Y4
          have X39 := KX.1.1
          obtain ⟨R28, h28⟩ := wp_det (w_x12_doesSplit RX (p0 := (cc : Int)) ⟨by omega, by omega⟩ (KS_CE KX hC1) (by rw [tcc]; exact nc.1.2.1) (by rw [tcc]; have := nc.2; have := nc.1.1; omega) (by rw [X39]; omega)) e28
          rw [tcc] at h28
          have F28 : F_x12_doesSplit X q28.2 := fr_x12_doesSplit e28
          have a49 : gA q28.2 49 = gA X 49 := F28.2.1 49 (by decide)
          have a39 : gA q28.2 39 = gA X 39 := F28.2.1 39 (by decide)
          have K28 : KS t0 q28.2 := KS_t KX ⟨⟨a39, F28.2.1 42 (by decide), F28.2.1 43 (by decide), F28.2.1 44 (by decide)⟩, fun j _ => by rw [a49]⟩
          obtain ⟨d1, d2, d3, d4⟩ := eq49 a49
          have T28 : TM q28.2 d0 (-1) := TM_eq TX a49 a39
          have P28 : PM q28.2 v M' d0 (-1) := PM_e PX a49 a39 (by omega)
          have W28 : RWn t0 q28.2 v := ⟨fun u hu hn => by rw [a49]; exact WX.1 u hu hn, by rw [a49]; exact WX.2⟩
          have f55 : gI q28.2 55 = 0 := (F28.1 55 (by decide)).trans X55
          have O28 : OI q28.2 lo1 hj1 := OI_49 OX a49
          refine ⟨fun z => ?_, fun z q33 e33 => ?_⟩
          · rcases hq with ⟨z2, eq⟩ | ⟨z2, _⟩
            · have w57 : gA s34 57 q30.1.toNat < gI s34 581 := by
                rcases h37 with w | w
                · exact w.2
                · omega
              have w28 : (hM X).2.1 cc < gA X 39 6 := by
                rcases h28 with w | w
                · omega
                · exact w.2
              rw [x3] at eq
              refine ih m (i + -1) cc q37.2 q28.2 π1 σ1 lo1 hj1 ⟨⟨H5, ZP5⟩, ⟨hR37, R28⟩, K28, ⟨T37, ?_, by omega⟩, ⟨f55, W28, M', T28, P28, ?_⟩, O28, oky⟩ q eq
              · refine ⟨⟨by omega, by have := (H2.1.1 cc c48).1.1; omega⟩, ?_, ?_, ?_, ?_⟩
                · rw [k54, ← x3]; exact g54
                · rw [k55, ← x3]; exact g55
                · rw [k56, ← x3, g56]; omega
                · rw [k57, ← x3, k581, ← ge]; exact w57
              · refine ⟨⟨⟨by omega, by omega⟩, ?_, ?_⟩, ?_, ?_, ?_, fun u hu hn => ?_⟩
                · rw [tcc, d3]; exact hc1.1
                · rw [tcc, d4]; exact hc1.2
                · rw [tcc, d1, hc2]; omega
                · rw [tcc, d1, a39]; exact w28
                · rw [tcc]; exact hc3.1
                · rw [tcc]; exact hc3.2 u hu hn
            · exact absurd (v1.trans z) z2
          · rcases hq with ⟨z2, _⟩ | ⟨_, q42, e42, eq⟩
            · exact absurd (v1.symm.trans z2) z
            have K28v : KLV q28.2 := KLV_of T28 (fun _ _ => Int.le_refl 0)
            have hAX' := hAX
            obtain ⟨⟨xa, xb, xc⟩, xd, xf⟩ := hAX'
            rw [tb] at xb xc xd xf
            have xe : (hM X).2.1 b < gA X 39 6 := by rw [zbX, X39, ← S39]; exact a57
            have lb28 : LV q28.2 b := Or.inl (by rw [d3]; omega)
            have lc28 : LV q28.2 cc := Or.inl (by rw [d3]; omega)
            have ncb : b ≠ cc := fun e => by rw [← e] at hc2; omega
            have z2 : 2 ≤ (hM X).2.1 cc := by
              rcases h28 with w | w
              · rcases w.2 with u | u
                · rw [X39] at u; omega
                · exact u
              · omega
            have b37 : gA q37.2 57 (π b) = (hM T).2.1 b := by rw [k57, g57]; exact z1
            have E6 : gA X 39 6 = gA t0 39 6 := by rw [X39]
            have N28 : 0 ≤ gA q28.2 39 5 ∧ gA q28.2 39 5 ≤ 48 := ⟨by rw [a39, X39]; exact hN0, T28.1.1⟩
            have Y5 := y_split H5 K28v hR37 R28 T37 (fun x _ => Int.le_refl 0) N28 (KS_CE K28 hC0) (by rw [k581]; omega) f55 hb c48 ncb lb28 lc28 (by rw [d1]; exact z2) (p1 := r) (key := key) ⟨r0, by rw [d1, zbX]; exact r1⟩ (by rw [d1]; omega) (by rw [d1, xd]; omega) (by rw [kb, ← x3]; exact e42) e33
            rcases Y5 with ⟨y1, y2⟩ | ⟨y1, y2, y3, π2, σ2, H6, y4, y5⟩
            · rw [y1] at eq
              exact pc_mono (m_stepF m _ _ y2) (fun o ho => Or.inl ⟨s_stepF n _ _ q eq, ho⟩)
            · have WS := wp_det (ts_split (i := i - 1) hR37 T37 (fun x _ => Int.le_refl 0) (by rw [k581]; exact h581) (p0 := (π b : Int)) (p1 := r) (p2 := q30.1) (p3 := key) ⟨⟨by omega, by omega⟩, by rw [tp, k54]; have q := Cb.2.1; rw [tp] at q; exact q, by rw [tp, k55]; have q := Cb.2.2.1; rw [tp] at q; exact q, by rw [tp, k56]; have q := Cb.2.2.2; rw [tp] at q; omega, by rw [tp, b37, k581]; have q := hCur.2.2.2.2; rw [tp, z1] at q; exact q⟩ ⟨r0, by rw [tp, b37]; exact r1⟩ ⟨B30, by rw [k54]; exact g54, by rw [k55]; exact g55, by rw [k56]; exact g56, by
                have q := (sim_b H5 c48 lc28).2.1
                have q' : gA q37.2 57 (π1 cc) = (hM q28.2).2.1 cc := q
                rw [x3, tpc, q', d1]; exact z2⟩ ⟨by omega, by omega⟩) e42
              obtain ⟨R42, F42, h42⟩ := WS
              have WH := wp_det (mt_half (i := i - 1) (M := M') R28 hv T28 P28 (KS_CE K28 hC0) (by rw [a39, X39]; exact hE) f55 (p0 := (b : Int)) (p1 := r) (p2 := (cc : Int)) (p3 := key) ⟨⟨xa, by rw [tb, d3]; exact xb, by rw [tb, d4]; exact xc⟩, by rw [tb, d1, xd]; omega, by rw [tb, d1, a39]; exact xe, by rw [tb]; exact xf⟩ ⟨r0, by rw [tb, d1, zbX]; exact r1⟩ ⟨⟨⟨by omega, by omega⟩, by rw [tcc, d3]; exact hc1.1, by rw [tcc, d4]; exact hc1.2⟩, by rw [tcc, d1]; exact hc2, by rw [tcc, d1]; exact z2, by rw [tcc]; exact hc3⟩ ⟨by omega, by omega⟩) e33
              obtain ⟨R33, F33, k33, u33, h33⟩ := WH
              have K33 : KS t0 q33.2 := KS_t K28 ⟨⟨F33.2.1 39 (by decide), F33.2.1 42 (by decide), F33.2.1 43 (by decide), F33.2.1 44 (by decide)⟩, k33⟩
              rcases h42 with h42 | ⟨T42, C42⟩
              · omega
              rcases h33 with h33 | ⟨z0, M3, T33, P33, A33⟩
              · omega
              obtain ⟨o1, eo1, HF⟩ := m_half R28 N28 (KS_CE K28 hC0) f55 c48 lc28 ⟨by rw [d1]; exact nc.1.1, by rw [d1]; exact nc.2⟩ ⟨by rw [d1]; exact z2, by rw [d1]; exact nc.1.2.1.2⟩ q33 e33
              have W2 := (wp_det (w_x12_taken R28 N28 (KS_CE K28 hC0) (p0 := (hM q28.2).1 cc) (p1 := (cc : Int)) ⟨by rw [d1]; exact nc.1.1, by rw [d1]; have := nc.2; omega⟩ ⟨by omega, by omega⟩) eo1).2.2
              have O33 : ∃ lo' hi', OI q33.2 lo' hi' ∧ (lo' q33.1.toNat ≤ key ∧ key ≤ hi' q33.1.toNat) := by
                rcases W2 with w | ⟨_, w1, w2, w3⟩
                · exfalso
                  rcases HF with ⟨_, e⟩ | ⟨w', _⟩
                  · rw [e] at z0; have z0' : gI o1.2 55 = 0 := z0; omega
                  · omega
                · have HF' : HFm b cc ((r.toNat : Nat) : Int) key q28.2 o1 q33 := by
                    rw [show ((r.toNat : Nat) : Int) = r by omega]; exact HF
                  exact OI_hf O28 K28v hb c48 lb28 lc28 (by rw [d1, xd]; omega) (k := r.toNat) (by rw [d1, zbX]; omega) (by rw [d1]; exact vbX) (by rw [d1]; exact z2) (by rw [d1]; omega) ncb oky z0 ⟨⟨w1.1, by omega⟩, w2, w3⟩ HF'
              obtain ⟨lo3, hj3, O3, k3⟩ := O33
              have q33i : q33.1 = ((q33.1.toNat : Nat) : Int) := by omega
              rw [y4] at eq
              rw [q33i]
              have ZP6 : ZP q42.2 q33.2 := ZP_k ZP5 (F42.1 581 (by decide)) (F42.1 741 (by decide)) (fun k k1 k2 => F42.2.1 k (by simp; omega)) (fun k hk => F33.2.1 k (by simp; omega))
              refine ih m (i + -1) q33.1.toNat q42.2 q33.2 π2 σ2 lo3 hj3 ⟨⟨H6, ZP6⟩, ⟨R42, R33⟩, K33, ⟨T42, ?_, by rw [F42.1 581 (by decide), k581]; exact h581⟩, ⟨z0, ⟨fun u hu hn => by rw [u33 u hu z0]; exact W28.1 u hu hn, by rw [u33 v (by omega) z0]; exact W28.2⟩, M3, T33, P33, ?_⟩, O3, k3⟩ q eq
              · rw [← y4, show i + -1 = i - 1 by omega]; exact C42
              · rw [← q33i, show i + -1 = i - 1 by omega]; exact A33
        -- the reference's step
        have REF : ∀ q : Int × MS, ((q37.1 = 0 ∧ m_x1_plant_L117 n key val q30.1 (i + -1) q37.2 = some q) ∨ (q37.1 ≠ 0 ∧ ∃ q42 : Int × MS, m_x1_split (π b : Int) r q30.1 key q37.2 = some q42 ∧ m_x1_plant_L117 n key val q42.1 (i + -1) q42.2 = some q)) → pc (m_x12_puts_L94 (m + 1) key val (b : Int) T) (fun o => CON q o) := fun q hq => by
          refine m_step1 h55 (by omega) ⟨n1, sb.2⟩ (fun r' q46 hPF e46 => ?_)
          rw [PFr r' hPF] at e46 ⊢
          rw [yv] at e46 ⊢
          have eb : gI q46.2 55 = 0 ∧ (hM q46.2).2.2 b r.toNat = (y : Int) := by
            rcases OWN q46 e46 with x | ⟨x55, _, x2, π1, σ1, _, _, _, CP⟩
            · exact absurd x.1 c
            · refine ⟨x55, ?_⟩
              have ncb : b ≠ q46.1.toNat := fun e => by
                rcases CP.2.2.2 with w | w
                · exact nby (e.trans w)
                · exact w (by rw [← e]; exact lb)
              rw [((CP.2.1 b ncb).2.2 r.toNat).1]; exact yv
          exact ⟨fun w => SPL q46 q46.2 e46 (Or.inl ⟨by rw [eb.2, w], rfl⟩) q hq, fun w s53 e53 => SPL q46 s53 e46 (Or.inr ⟨fun w2 => w (by rw [← w2, eb.2]), e53⟩) q hq⟩
        exact ⟨fun c2 q eq => REF q (Or.inl ⟨c2, eq⟩), fun c2 q42 e42 q eq => REF q (Or.inr ⟨c2, q42, e42, eq⟩)⟩
/-! ===== a put, whole: both sides ===== -/
theorem OI_root {t w : MS} {lo hi : Nat → Int} {b r : Nat} (H : OI t lo hi) (hK : KLV t) (hb : b < 48) (lb : LV t b) (nl : ¬ LV t r) (hr : (hM w).1 r = (hM t).1 b + 1 ∧ (hM w).2.1 r = 1 ∧ (hM w).2.2 r 0 = (b : Int)) (ho : ∀ x, x ≠ r → ROW t x w x) (hl : ∀ x, x < 48 → LV w x → x = r ∨ LV t x) : OI w (upZ lo r (lo b)) (upZ hi r (hi b)) := fun x hx hlx => by
  have nbr : b ≠ r := fun e => nl (by rw [← e]; exact lb)
  by_cases e : x = r
  · rw [e]
    have l0 := (hK.2.1 b hb lb).1.1.1
    refine ⟨by rw [upZ_s, upZ_s]; exact (H b hb lb).1, fun w => by rw [hr.1] at w; omega, fun _ k hk => ?_⟩
    rw [hr.2.1] at hk ⊢
    have k0 : k = 0 := by omega
    rw [k0, hr.2.2, Int.toNat_natCast, upZ_s, upZ_s, upZ_n nbr, upZ_n nbr]
    exact ⟨⟨Int.le_refl _, Int.le_refl _⟩, fun z => absurd z (by decide), fun z => absurd z (by decide)⟩
  · have lx := (hl x hx hlx).resolve_left e
    refine OBk_r (H x hx lx) (ho x e) (by rw [upZ_n e, upZ_n e]; exact ⟨Int.le_refl _, Int.le_refl _⟩) (fun w j hj => ?_)
    have kid := ((hK.2.1 x hx lx).2 w j hj).2
    have ne : ((hM t).2.2 x j).toNat ≠ r := fun z => nl (by rw [← z]; exact kid)
    rw [upZ_n ne, upZ_n ne]
    exact ⟨Int.le_refl _, Int.le_refl _⟩
theorem OI_hfe {t : MS} {lo hi : Nat → Int} {a b k : Nat} {key : Int} {o : Int × MS} (H : OI t lo hi) (hK : KLV t) (hRt : Rr t) (hN : 0 ≤ gA t 39 5 ∧ gA t 39 5 ≤ 48) (hC : CE t 0) (h0 : gI t 55 = 0) (ha : a < 48) (hb : b < 48) (la : LV t a) (lb : LV t b) (hlev : 0 < (hM t).1 a) (hk : (k : Int) < (hM t).2.1 a) (hv : (hM t).2.2 a k = (b : Int)) (hz : 2 ≤ (hM t).2.1 b) (hz5 : (hM t).2.1 a ≤ 5) (hab : a ≠ b) (hky : lo b ≤ key ∧ key ≤ hi b)
    (e : m_x12_half (a : Int) (k : Int) (b : Int) key t = some o) (h55 : gI o.2 55 = 0) : ∃ lo' hi', OI o.2 lo' hi' ∧ (lo' o.1.toNat ≤ key ∧ key ≤ hi' o.1.toNat) := by
  have nc := (hK.2.1 b hb lb).1
  obtain ⟨o1, eo1, HF⟩ := m_half hRt hN hC h0 hb lb ⟨nc.1.1, nc.2⟩ ⟨hz, nc.1.2.1.2⟩ o e
  have W2 := (wp_det (w_x12_taken hRt hN hC (p0 := (hM t).1 b) (p1 := (b : Int)) ⟨nc.1.1, by have := nc.2; omega⟩ ⟨by omega, by omega⟩) eo1).2.2
  rcases W2 with w | ⟨_, w1, w2, w3⟩
  · exfalso
    rcases HF with ⟨_, e⟩ | ⟨w', _⟩
    · rw [e] at h55
      have z0' : gI o1.2 55 = 0 := h55
      omega
    · omega
  · exact OI_hf H hK ha hb la lb hlev hk hv hz hz5 hab hky h55 ⟨⟨w1.1, by omega⟩, w2, w3⟩ HF
/-- the root's own interval takes the key in -/
theorem OI_rt {T S : MS} {lo hi : Nat → Int} {y r : Nat} {key : Int} (H : OI T lo hi) (hK : KLV T) (y48 : y < 48) (ly : LV T y) (hr : ROW T y S r) (ho : ∀ x, x ≠ r → ROW T x S x) (hl : ∀ x, x < 48 → LV S x → x = r ∨ LV T x) (hc : (r = y ∧ ∀ p k' : Nat, p < 48 → LV T p → 0 < (hM T).1 p → (k' : Int) < (hM T).2.1 p → (hM T).2.2 p k' ≠ (y : Int)) ∨ ¬ LV T r) : OI S (upZ lo r (min (lo y) key)) (upZ hi r (max (hi y) key)) ∧ (upZ lo r (min (lo y) key) r ≤ key ∧ key ≤ upZ hi r (max (hi y) key) r) := by
  have nor : ∀ p k' : Nat, p < 48 → LV T p → 0 < (hM T).1 p → (k' : Int) < (hM T).2.1 p → ((hM T).2.2 p k').toNat ≠ r := fun p k' hp lp hlp hk' e => by
    have kid := (hK.2.1 p hp lp).2 hlp k' hk'
    rcases hc with ⟨h1, h2⟩ | h2
    · exact h2 p k' hp lp hlp hk' (by rw [← h1, ← e]; omega)
    · rw [e] at kid; exact h2 kid.2
  refine ⟨fun x hx hlx => ?_, by rw [upZ_s, upZ_s]; omega⟩
  by_cases e : x = r
  · rw [e]
    refine OBk_r (H y y48 ly) hr (by rw [upZ_s, upZ_s]; omega) (fun w j hj => ?_)
    have ne := nor y j y48 ly w hj
    rw [upZ_n ne, upZ_n ne]
    exact ⟨Int.le_refl _, Int.le_refl _⟩
  · have lx := (hl x hx hlx).resolve_left e
    refine OBk_r (H x hx lx) (ho x e) (by rw [upZ_n e, upZ_n e]; exact ⟨Int.le_refl _, Int.le_refl _⟩) (fun w j hj => ?_)
    have ne := nor x j hx lx w hj
    rw [upZ_n ne, upZ_n ne]
    exact ⟨Int.le_refl _, Int.le_refl _⟩
/-- a root that is counted once is named by nobody -/
theorem one_rt {t : MS} {D : Nat → Int} {e : Int} (T : TM t D e) {b v : Nat} (hv : v < 8) (hb : b < 48) (hDb : D b = 0) (hr : gA t 49 v = (b : Int)) (hcb : cM t b = 1) : ∀ p k' : Nat, p < 48 → 0 < cM t p → 0 < (hM t).1 p → (k' : Int) < (hM t).2.1 p → (hM t).2.2 p k' ≠ (b : Int) := by
  intro p k' hp hcp hlp hk' hv'
  have d := T.2.1.1 b hb
  rw [hDb] at d
  unfold df rf at d
  have r1 : 1 ≤ rr (rM t) (b : Int) := by
    have g := rr_pos (r := rM t) hv
    rw [rM_v hv, hr] at g
    exact g
  have f0 : ∀ j, j < 48 → (0 : Int) ≤ (fun p => if 0 < cM t p then en (hM t) p (b : Int) else 0) j := fun j _ => by
    show (0 : Int) ≤ if 0 < cM t j then en (hM t) j (b : Int) else 0
    split
    · exact en_nn _ _ _
    · exact Int.le_refl 0
  have zp := (TG_nd T hp hcp).2.1
  have ep : 1 ≤ en (hM t) p (b : Int) := by
    have g := enf_pos (h := hM t) (p := p) (k := k') (i := 0) hlp hk' (by omega) (by omega)
    rw [hv'] at g
    exact g
  have q := sm_ge (n := 48) (i := p) hp f0
  (try dsimp only at q)
  rw [if_pos hcp] at q
  omega
/-! each side by itself -/
theorem s_J95 {key val x : Int} {S : MS} {Q : Int × MS → Prop} (K0 : x = -1 → pc (m_x1_plant_L117 FU key val (-1) 0 S) Q) (K : x ≠ -1 → pc (m_x1_plant_L117 FU key val x (gA S 56 x.toNat) S) Q) : pc (m_x1_plant_J95 key val x S) Q := by
  unfold m_x1_plant_J95 m_x1_plant_J115
  refine pc_rg (pc_if (fun c => ?_) (fun c => pc_rdI (fun _ => K c)))
  have k := K0 c
  rw [c]; exact k
theorem s_J36 {v : Nat} {key val x : Int} {S : MS} {Q : Int × MS → Prop} (K0 : x = -1 → Q (0, S)) (K : x ≠ -1 → ∀ (s67 : MS) (q70 : Int × MS), sA S 60 (upZ (gA S 60) v x) = s67 → m_x1_splits x s67 = some q70 → (q70.1 = 0 → pc (m_x1_plant_J95 key val x q70.2) Q) ∧ (q70.1 ≠ 0 → ∀ q75 : Int × MS, m_x1_raiseRoot (v : Int) q70.2 = some q75 → (q75.1 = -1 → pc (m_x1_plant_J95 key val (-1) q75.2) Q) ∧ (q75.1 ≠ -1 → ∀ q80 : Int × MS, m_x1_split q75.1 0 x key q75.2 = some q80 → pc (m_x1_plant_J95 key val q80.1 q80.2) Q))) : pc (m_x1_plant_J36 (v : Int) key val x S) Q := by
  have tv : ((v : Nat) : Int).toNat = v := Int.toNat_natCast _
  unfold m_x1_plant_J36 m_x1_plant_J93
  refine pc_rg (pc_if (fun c => pc_some (K0 c)) (fun c => pc_inb (pc_stn (fun s67 e67 => pc_bn (fun q70 e70 => ?_)))))
  rw [tv] at e67
  have k := K c s67 q70 e67 e70
  exact pc_rg (pc_if (fun c2 => k.1 c2) (fun c2 => pc_bn (fun q75 e75 => pc_rg (pc_if (fun c3 => (k.2 c2 q75 e75).1 c3) (fun c3 => pc_bn (fun q80 e80 => (k.2 c2 q75 e75).2 c3 q80 e80))))))
theorem m_put0 {v : Nat} {key val : Int} {t : MS} {Q : MS → Prop} (hr : gA t 49 v = 254) (K : ∀ q75 : Int × MS, m_x12_taken 0 48 t = some q75 → (gI q75.2 55 ≠ 0 → Q q75.2) ∧ (gI q75.2 55 = 0 → ∀ s79 s81 : MS, m_x12_inserts q75.1 0 key val q75.2 = some s79 → sA s79 49 (upZ (gA s79 49) v q75.1) = s81 → Q s81)) : pc (m_x12_puts (v : Int) key val t) Q := by
  have tv : ((v : Nat) : Int).toNat = v := Int.toNat_natCast _
  unfold m_x12_puts
  refine pc_rdI (fun _ => ?_)
  rw [tv]
  refine pc_rg (pc_if (fun _ => pc_bn (fun q75 e75 => pc_rg (pc_if (fun c => pc_bn (fun s79 e79 => pc_inb (pc_stn (fun s81 e81 => pc_some ?_)))) (fun c => pc_some ((K q75 e75).1 c))))) (fun c => absurd hr c))
  exact (K q75 e75).2 c s79 s81 e79 e81
theorem m_put1 {v : Nat} {key val : Int} {t : MS} {Q : MS → Prop} (hr : gA t 49 v ≠ 254) (K : ∀ q60 : Int × MS, m_x12_owned (gA t 49 v) t = some q60 → (gI q60.2 55 ≠ 0 → Q q60.2) ∧ (gI q60.2 55 = 0 → ∀ (s64 : MS) (q67 : Int × MS), sA q60.2 49 (upZ (gA q60.2 49) v q60.1) = s64 → m_x12_doesSplit q60.1 s64 = some q67 → (q67.1 = 0 → pc (m_x12_puts_L94 FU key val q60.1 q67.2) Q) ∧ (q67.1 ≠ 0 → ∀ q72 : Int × MS, m_x12_rootSplit (v : Int) q60.1 key q67.2 = some q72 → pc (m_x12_puts_L94 FU key val q72.1 q72.2) Q))) : pc (m_x12_puts (v : Int) key val t) Q := by
  have tv : ((v : Nat) : Int).toNat = v := Int.toNat_natCast _
  unfold m_x12_puts
  refine pc_rdI (fun _ => ?_)
  rw [tv]
  refine pc_rg (pc_if (fun c => absurd c hr) (fun _ => pc_rdI (fun _ => pc_bn (fun q60 e60 => pc_rg (pc_if (fun c => pc_inb (pc_stn (fun s64 e64 => pc_bn (fun q67 e67 => ?_)))) (fun c => pc_some ((K q60 e60).1 c)))))))
  have k := (K q60 e60).2 c s64 q67 e64 e67
  exact pc_rg (pc_if (fun c2 => k.1 c2) (fun c2 => pc_bn (fun q72 e72 => k.2 c2 q72 e72)))
theorem s_low0 {p : Nat} {key val : Int} {S : MS} (hz : gA S 57 p = 0) : pc (m_x1_plantLow (p : Int) key val S) (fun o => m_x8_insert (p : Int) 0 key val S = some o) := by
  have tp : ((p : Nat) : Int).toNat = p := Int.toNat_natCast _
  unfold m_x1_plantLow
  refine pc_bq (s_find (p := (p : Int)) (by omega)) (fun r27 h27 => ?_)
  rw [tp, hz] at h27
  have e : r27 = -1 := by
    rcases h27 with ⟨a, _⟩ | ⟨a, a2, _⟩
    · exact a
    · omega
  refine pc_rg (pc_if (fun _ => ?_) (fun c => absurd e c))
  exact s_low (r := 0) (by rw [hz]; exact ⟨⟨Int.le_refl 0, Int.le_refl 0⟩, fun k hk => by omega, fun w => absurd w (by decide)⟩) (fun i j _ _ hj => by rw [hz] at hj; omega) FU 0 0 (Int.le_refl 0) (Or.inl ⟨Int.le_refl 0, rfl⟩) (by rw [hz]; exact Int.le_refl 0)
set_option maxHeartbeats 4000000 in
/-- into an empty volume -/
theorem y_put0 {π σ : Nat → Nat} {s t : MS} {lo hj : Nat → Int} {v : Nat} {key val : Int} (h : SIM π σ s t) (hZ : ZP s t) (hR : Rg s) (hRt : Rr t) (S0 : TS s Z0 (-1)) (T0 : TM t d0 (-1)) (hC0 : CE t 0) (hN0 : 0 ≤ gA t 39 5) (h581 : 3 ≤ gI s 581) (hf : gI t 55 = 0) (hv : v < 8) (hr : gA t 49 v = 254) (hO : OI t lo hj) (hkey : 0 ≤ key ∧ key ≤ 999) (hval : 0 ≤ val ∧ val ≤ 999) : pc (m_x1_plant (v : Int) key val s) (fun q => pc (m_x12_puts (v : Int) key val t) (fun o => CON q o)) := by
  have tv : ((v : Nat) : Int).toNat = v := Int.toNat_natCast _
  have zD : ∀ x, x < 48 → 0 ≤ Z0 x := fun x _ => Int.le_refl 0
  have hK : KLV t := KLV_of T0 (fun _ _ => Int.le_refl 0)
  have hN48 : gA t 39 5 ≤ 48 := T0.1.1
  have s60 : gA s 60 v = -1 := ((rtr_e (h.1.2.2.2 v hv).1).2.1).2 hr
  unfold m_x1_plant
  refine pc_rdI (fun _ => ?_)
  rw [tv]
  refine pc_rg (pc_if (fun _ => pc_bn (fun q90 e90 => ?_)) (fun c => absurd s60 c))
  have W1 := wp_det (ts_take hR S0 zD (by omega) (p0 := 0) (p1 := 48) ⟨by omega, by omega⟩ ⟨by omega, by omega⟩) e90
  obtain ⟨R90, F90, W1⟩ := W1
  have YT : ∀ q75 : Int × MS, m_x12_taken 0 48 t = some q75 → Rr q75.2 ∧ ((q90.1 = -1 ∧ gI q75.2 55 = 1) ∨ (gI q75.2 55 = 0 ∧ 0 ≤ q90.1 ∧ 0 ≤ q75.1 ∧ q75.1 < gA t 39 5 ∧ ¬ LV t q75.1.toNat ∧ TkE t q75.2 q75.1.toNat 0 ∧ ∃ π' σ', SIM π' σ' q90.2 q75.2 ∧ q90.1 = (π' q75.1.toNat : Int) ∧ ∀ x, x < 48 → LV t x → π' x = π x)) := fun q75 e75 => by
    have W2 := wp_det (w_x12_taken hRt ⟨hN0, hN48⟩ hC0 (p0 := 0) (p1 := 48) ⟨by omega, by omega⟩ ⟨by omega, by omega⟩) e75
    exact ⟨W2.1, y_take h hK (by rw [h.2.1]; exact hN48) hf e90 e75 (W1.imp id (fun w => ⟨w.1, w.2.1, w.2.2.1⟩)) W2.2.2⟩
  refine s_J36 (fun c => ?_) (fun c s67 q70 e67 e70 => ⟨fun c2 => ?_, fun c2 => ?_⟩)
  · refine m_put0 hr (fun q75 e75 => ?_)
    rcases (YT q75 e75).2 with x | x
    · exact ⟨fun _ => Or.inl ⟨rfl, x.2⟩, fun w => by omega⟩
    · omega
  · refine s_J95 (fun z => absurd z c) (fun _ => ?_)
    have F70 : F_x1_splits s67 q70.2 := fr_x1_splits e70
    rcases W1 with w | ⟨⟨w0, w1⟩, ⟨f1, f2⟩, ⟨u54, u56, u57⟩, T1⟩
    · exact absurd w c
    have A70 : ∀ k, k ≠ 60 → k ≠ 81 → gA q70.2 k = gA q90.2 k := fun k k1 k2 => (F70.2.1 k (by simp; omega)).trans (q_Aa e67 k1)
    have l0 : gA q70.2 56 q90.1.toNat = 0 := by rw [A70 56 (by decide) (by decide), u56, upZ_s]
    have z0 : gA q70.2 57 q90.1.toNat = 0 := by rw [A70 57 (by decide) (by decide), u57, upZ_s]
    rw [l0]
    have all : ∀ n : Nat, pc (m_x1_plant_L117 n key val q90.1 0 q70.2) (fun q => pc (m_x12_puts (v : Int) key val t) (fun o => CON q o)) := fun n => by
      cases n with
      | zero => exact pc_none
      | succ n =>
        obtain ⟨c', hc'⟩ : ∃ c', c' = q90.1.toNat := ⟨_, rfl⟩
        have ci : q90.1 = (c' : Int) := by omega
        rw [← hc'] at l0 z0
        rw [ci]
        refine s_step0 (Int.le_refl 0) (fun s8 e8 => m_put0 hr (fun q75 e75 => ?_))
        obtain ⟨R75, Y⟩ := YT q75 e75
        rcases Y with x | ⟨y1, y2, y3, y3', y4, TK, π1, σ1, H1, y5, y6⟩
        · omega
        refine ⟨fun w => absurd y1 w, fun _ s79 s81 e79 e81 => ?_⟩
        obtain ⟨r, hrr⟩ : ∃ r, r = q75.1.toNat := ⟨_, rfl⟩
        rw [← hrr] at y4 TK y5
        have ri : q75.1 = (r : Int) := by omega
        rw [ri] at e79 e81
        have r48 : r < 48 := by omega
        have tr : ((r : Nat) : Int).toNat = r := Int.toNat_natCast _
        have cr : π1 r = c' := by omega
        have P1 := H1.1.1
        have Fo : F_x12_taken t q75.2 := fr_x12_taken e75
        have lr : LV q75.2 r := Or.inl (by rw [TK.2.1.1]; decide)
        -- the root, as if it were set there
        obtain ⟨w, hw⟩ : ∃ w, sA q75.2 49 (upZ (gA q75.2 49) v (r : Int)) = w := ⟨_, rfl⟩
        have w49 : gA w 49 = upZ (gA q75.2 49) v (r : Int) := q_AA hw
        obtain ⟨⟨m1, m2⟩, ⟨m3, m4⟩, _⟩ := M_root hv w49
        have H2 : SIM π1 σ1 q70.2 w := sim_root H1 hv (fun k k1 k2 k3 => A70 k k3 (by omega)) (by rw [F70.2.1 60 (by decide), (q_AA e67 : gA s67 60 = _), y5]) ((F70.1 1060 (by decide)).trans (q_Ai e67)) ((F70.2.2.1 1062 (by simp)).trans (q_Al e67)) w49 (by rw [q_Aa hw (by decide)]) (q_Aa hw (by decide)) (Or.inr (Or.inr ⟨by omega, by omega, by rw [tr]⟩))
        have eI := s_low0 z0 s8 e8
        have pr48 : π1 r < 48 := (P1 r r48).1.1
        have hR67 : Rg s67 := e67 ▸ Rg.uAu R90 (by show (-2 : Int) ≤ q90.1 ∧ q90.1 ≤ 253; omega)
        have R70 : Rg q70.2 := (wp_det (w_x1_splits hR67 (p0 := q90.1) ⟨by omega, by omega⟩) e70).1
        have tc : ((c' : Nat) : Int).toNat = c' := Int.toNat_natCast _
        have c48 : c' < 48 := by rw [← cr]; exact (P1 r r48).1.1
        obtain ⟨_, v57, ⟨a1, a2, _⟩, ⟨b1, b2, _⟩⟩ := wp_det (w_x8_insert R70 (p0 := (c' : Int)) (p1 := 0) (p2 := key) (p3 := val) ⟨by omega, by omega⟩ ⟨Int.le_refl 0, by rw [tc, z0]; exact Int.le_refl 0, by rw [tc, z0]; decide⟩ ⟨by omega, by omega⟩ ⟨by omega, by omega⟩) eI
        rw [tc] at v57 a1 a2 b1 b2
        rw [z0] at v57 b1
        obtain ⟨R79, F79, B, iz, i1, i2, i3⟩ := wp_det (w_x12_inserts R75 (p0 := (r : Int)) (p1 := 0) (p2 := key) (p3 := val) ⟨by omega, by omega⟩ ⟨Int.le_refl 0, by rw [tr, TK.2.2.2]; exact Int.le_refl 0⟩ (by rw [tr, TK.2.2.2]; decide) ⟨by omega, by omega⟩ ⟨by omega, by omega⟩) e79
        rw [tr] at B iz i1 i2 i3
        rw [TK.2.2.2] at iz
        have s49 : gA s81 49 = upZ (gA s79 49) v (r : Int) := q_AA e81
        obtain ⟨⟨n1, n2⟩, ⟨n3, n4⟩, _⟩ := M_root hv s49
        have F8 : F_x8_insert q70.2 s8 := fr_x8_insert eI
        have K75 := KLV_take hK TK y4 ⟨Int.le_refl 0, by decide⟩ (Fo.2.1 39 (by decide))
        have LVw : ∀ x, LV w x → LV q75.2 x := fun x hl => by unfold LV at hl ⊢; rw [← m3, ← m4]; exact hl
        have mk := s_insM (p1 := 0) (p2 := key) (p3 := val) (s := q70.2) (p0 := (c' : Int)) ⟨by omega, by omega⟩ ⟨Int.le_refl 0, by rw [tc, z0]; exact Int.le_refl 0, by rw [tc, z0]; decide⟩ s8 eI
        rw [tc] at mk
        have tt := m_insT (p0 := (r : Int)) (by omega) s79 e79
        rw [tr] at tt
        have BXw : BX w s81 r := fun i hi => by
          rw [s49, w49]
          by_cases z : i = v
          · rw [z, upZ_s, upZ_s]
          · rw [upZ_n z, upZ_n z]; exact B i hi
        have H3 : SIM π1 σ1 s8 s81 := by
          refine sim_blk H2 (fun x hx hl => by rw [m1]; exact (K75.2.1 x hx (LVw x hl)).1.1.2.1) r48 (F8.2.1 54 (by decide)) (F8.2.1 55 (by decide)) (F8.2.1 56 (by decide)) (F8.2.1 60 (by decide)) (F8.2.1 61 (by decide)) (F8.1 1060 (by decide)) (fun x hx hn => by rw [v57, upZ_n (by rw [← cr]; exact hn)]) (fun x hx hn k h6 => ?_) BXw (by rw [(q_Aa e81 (by decide) : gA s81 39 = gA s79 39), F79.2.1 39 (by decide)]; exact (q_Aa hw (by decide)).symm) (by rw [v57, cr, upZ_s, n1, iz]) (fun k hk => ?_) (by unfold LV; rw [m3, m4]; exact lr) (Or.inl ⟨by rw [cr]; exact mk, ?_⟩)
          · rw [cr] at hn
            exact ⟨a1 _ (by omega), b1 _ (by omega)⟩
          · rw [n1, iz] at hk
            have k0 : k = 0 := by omega
            have i2' : (hM s79).2.2 r 0 = val ∧ kM s79 r 0 = key := i2
            rw [k0, cr, n1, n2, m1, i2'.1, i2'.2, TK.2.2.1]
            exact ⟨a2, fun z => absurd z (by decide), fun _ => b2⟩
          · refine ⟨by rw [(q_Aa e81 (by decide) : gA s81 54 = gA s79 54)]; exact tt.1, fun x hx => ?_⟩
            rw [(q_Aa e81 (by decide) : gA s81 54 = gA s79 54), tt.2 x hx]; exact (congrFun (q_Aa hw (by decide)) x).symm
        have O1 := OI_take (c := key) hO hK TK y4
        have O2 := OI_leaf (t := q75.2) (o := s79) O1 r48 lr (by rw [TK.2.2.1]; exact Int.le_refl 0) (k := 0) (key := key) (val := val) ⟨B, by rw [iz, TK.2.2.2], i1, i2, i3⟩ (by rw [upZ_s, upZ_s]; exact ⟨Int.le_refl _, Int.le_refl _⟩) (by rw [TK.2.2.2]; decide) (by rw [TK.2.2.2]; exact ⟨⟨Int.le_refl 0, Int.le_refl 0⟩, fun k hk => by omega, fun z => absurd z (by decide)⟩) (fun z => by rw [TK.2.2.2] at z; exact absurd z (by decide)) (fun x hx hl => (K75.2.1 x hx hl).1.1.2.1.2) hval.1
        have O3 : OI s81 (upZ lo r key) (upZ hj r key) := OI_same O2 (fun x hx hl => ⟨by unfold LV at hl ⊢; rw [← n3, ← n4]; exact hl, Or.inl ⟨by rw [n1], by rw [n1], fun k => by rw [n1, n2]; exact ⟨rfl, rfl⟩⟩⟩)
        have ZP3 : ZP s8 s81 := ZP_k hZ (by rw [F8.1 581 (by decide), F70.1 581 (by decide), (q_Ai e67 : gI s67 581 = gI q90.2 581), F90.1 581 (by decide)]) (by rw [F8.1 741 (by decide), F70.1 741 (by decide), (q_Ai e67 : gI s67 741 = gI q90.2 741), F90.1 741 (by decide)]) (fun k k1 k2 => by rw [F8.2.1 k (by simp; omega), A70 k (by omega) (by omega), F90.2.1 k (by simp; omega)]) (fun k hk => by rw [(q_Aa e81 (by omega) : gA s81 k = gA s79 k), F79.2.1 k (by simp; omega), Fo.2.1 k (by simp; omega)])
        exact Or.inr ⟨rfl, (q_Ai e81).trans ((F79.1 55 (by decide)).trans y1), π1, σ1, _, _, H3, ZP3, O3⟩
    exact all FU
  · -- an empty block doesn't split
    exfalso
    rcases W1 with w | ⟨⟨w0, w1⟩, ⟨f1, f2⟩, ⟨u54, u56, u57⟩, T1⟩
    · exact absurd w c
    have hN := S0.1.1
    have hR67 : Rg s67 := e67 ▸ Rg.uAu R90 (by show (-2 : Int) ≤ q90.1 ∧ q90.1 ≤ 253; omega)
    have h70 := (wp_det (w_x1_splits hR67 (p0 := q90.1) ⟨by omega, by omega⟩) e70).2
    have z57 : gA s67 57 q90.1.toNat = 0 := by rw [(q_Aa e67 (by decide) : gA s67 57 = gA q90.2 57), u57, upZ_s]
    have z581 : gI s67 581 = gI s 581 := (q_Ai e67).trans (F90.1 581 (by decide))
    rw [z57, z581] at h70
    omega
set_option maxHeartbeats 4000000 in
/-- a put on both sides -/
theorem y_plant {π σ : Nat → Nat} {s t : MS} {lo hj : Nat → Int} {v : Nat} {key val : Int} (h : SIM π σ s t) (hZ : ZP s t) (hR : Rg s) (hRt : Rr t) (S0 : TS s Z0 (-1)) (H : RT t) (hC0 : CE t 0) (hC1 : CE t 1) (hN0 : 0 ≤ gA t 39 5) (hE : 3 ≤ gA t 39 6 ∧ gA t 39 6 ≤ 6) (h581 : 3 ≤ gI s 581) (hf : gI t 55 = 0) (hv : v < 8) (hrt : (0 ≤ gA t 49 v ∧ gA t 49 v < 254) ∨ gA t 49 v = 254) (hO : OI t lo hj) (hkey : 0 ≤ key ∧ key ≤ 999) (hval : 0 ≤ val ∧ val ≤ 999) : pc (m_x1_plant (v : Int) key val s) (fun q => pc (m_x12_puts (v : Int) key val t) (fun o => CON q o)) := by
  obtain ⟨M0, P0⟩ := RT_PM v (by omega) H
  have T0 : TM t d0 (-1) := H.1
  rcases hrt with hrt | hrt
  rotate_left
  · exact y_put0 h hZ hR hRt S0 T0 hC0 hN0 h581 hf hv hrt hO hkey hval
  have tv : ((v : Nat) : Int).toNat = v := Int.toNat_natCast _
  have zD : ∀ x, x < 48 → 0 ≤ Z0 x := fun x _ => Int.le_refl 0
  have zD' : ∀ x, x < 48 → 0 ≤ Z0 x ∧ Z0 x ≤ 10 := fun x _ => ⟨Int.le_refl 0, by show (0 : Int) ≤ 10; omega⟩
  have hK : KLV t := KLV_of T0 (fun _ _ => Int.le_refl 0)
  have hN48 : gA t 39 5 ≤ 48 := T0.1.1
  have rl := TG_root_live (v := v) T0 (fun _ _ => Int.le_refl 0) hv (by rw [rM_v hv]; omega) (by rw [rM_v hv]; omega)
  rw [rM_v hv] at rl
  have rm := root_mu hv P0 hrt.1 hrt.2
  obtain ⟨y, hy⟩ : ∃ y, y = (gA t 49 v).toNat := ⟨_, rfl⟩
  rw [← hy] at rl rm
  have yv : gA t 49 v = (y : Int) := by omega
  have y48 : y < 48 := by omega
  have ty : ((y : Nat) : Int).toNat = y := Int.toNat_natCast _
  have ly : LV t y := Or.inl rl.2
  have lv : 0 ≤ (hM t).1 y ∧ (hM t).1 y ≤ 47 := TG_lev T0 (fun _ _ => Int.le_refl 0) y48 rl.2
  have cy := sim_c h y48
  have py48 := (h.1.1 y y48).1.1
  have tpy : ((π y : Nat) : Int).toNat = π y := Int.toNat_natCast _
  have s60 : gA s 60 v = (π y : Int) := by
    rcases (h.1.2.2.2 v hv).1 with ⟨a, _⟩ | ⟨a, _⟩ | ⟨_, _, a⟩
    · omega
    · omega
    · rw [← hy] at a; exact a
  unfold m_x1_plant
  refine pc_rdI (fun _ => ?_)
  rw [tv]
  refine pc_rg (pc_if (fun c => absurd c (by omega)) (fun _ => pc_rdI (fun _ => ?_)))
  rw [tv, s60]
  refine pc_bn (fun q87 e87 => ?_)
  have W1 := wp_det (ts_owned hR S0 zD' (by omega) (p0 := (π y : Int)) ⟨by omega, by omega⟩ (by rw [tpy, cy.1]; exact rl.2)) e87
  obtain ⟨R87, F87, W1⟩ := W1
  have OWN : ∀ q60 : Int × MS, m_x12_owned (gA t 49 v) t = some q60 → (Rr q60.2 ∧ F_x12_owned t q60.2 ∧ (∀ i, 785 ≤ i → gA q60.2 49 i = gA t 49 i) ∧ ((gI q60.2 55 = 1 ∧ q60.1 = (y : Int)) ∨ (gI q60.2 55 = 0 ∧ 0 ≤ q60.1 ∧ ∃ M', OwnM t q60.2 v M0 M' y q60.1.toNat))) ∧ ((q87.1 = -1 ∧ gI q60.2 55 = 1) ∨ (gI q60.2 55 = 0 ∧ 0 ≤ q87.1 ∧ 0 ≤ q60.1 ∧ ∃ π' σ', SIM π' σ' q87.2 q60.2 ∧ q87.1 = (π' q60.1.toNat : Int) ∧ (∀ x, x < 48 → LV t x → π' x = π x) ∧ CPY t q60.2 y q60.1.toNat)) := fun q60 e60 => by
    rw [yv] at e60
    have W2 := wp_det (mt_owned (M := M0) hRt hv T0 P0 hC0 (by omega) hf (p0 := (y : Int)) ⟨by omega, by omega⟩ (by rw [ty]; exact rl.2) (by rw [ty]; exact rm) (own_x hv T0 P0 (by rw [ty]; exact y48) (Or.inl (by rw [ty]; exact yv)))) e60
    have Y := y_ownB (v := v) (M := M0) h hK hR hRt S0 T0 hC0 (by omega) (by omega) hf (p := (π y : Int)) (p' := (y : Int)) ⟨by omega, by omega⟩ (by rw [ty]) (by rw [ty]; exact rl.2) e87 e60 W1 W2.2.2.2
    rw [ty] at Y W2
    exact ⟨W2, Y⟩
  refine s_J36 (fun c => ?_) (fun c s67 q70 e67 e70 => ?_)
  · refine m_put1 (by omega) (fun q60 e60 => ?_)
    rcases (OWN q60 e60).2 with x | x
    · exact ⟨fun _ => Or.inl ⟨rfl, x.2⟩, fun w => by omega⟩
    · have := x.2.1; omega
  have F70 : F_x1_splits s67 q70.2 := fr_x1_splits e70
  -- the root is each side's own
  have hR67 : 0 ≤ q87.1 → q87.1 < 48 → Rg s67 := fun a b => e67 ▸ Rg.uAu R87 (by show (-2 : Int) ≤ q87.1 ∧ q87.1 ≤ 253; omega)
  have ROOT : ∀ (q60 : Int × MS) (s64 : MS), m_x12_owned (gA t 49 v) t = some q60 → gI q60.2 55 = 0 → sA q60.2 49 (upZ (gA q60.2 49) v q60.1) = s64 → ∃ (cc : Nat) (π1 σ1 : Nat → Nat) (lo1 hj1 : Nat → Int), (q60.1 = (cc : Int) ∧ cc < 48 ∧ q87.1 = (π1 cc : Int)) ∧ (SIM π1 σ1 s67 s64 ∧ ZP s67 s64) ∧ (OI s64 lo1 hj1 ∧ (lo1 cc ≤ key ∧ key ≤ hj1 cc)) ∧ (Rr s64 ∧ KS t s64 ∧ gI s64 55 = 0 ∧ RWn t s64 v) ∧ (gA s64 49 v = (cc : Int) ∧ ∃ M', TM s64 d0 (-1) ∧ PM s64 v M' d0 (-1) ∧ ((cM s64 cc = 1 ∧ vM s64 cc = 0) ∧ (hM s64).1 cc = (hM t).1 y ∧ (M' v cc = 1 ∧ ∀ u, u < 16 → u ≠ v → M' u cc = 0))) := fun q60 s64 e60 x55 e64 => by
    obtain ⟨⟨hRo, Fo, ko, h60⟩, Y⟩ := OWN q60 e60
    rcases Y with x | ⟨_, x1, x2, π1, σ1, H1, x3, x4, CP⟩
    · omega
    rcases h60 with ⟨h60, _⟩ | ⟨z0, w0, M', ⟨⟨rq, rN⟩, ⟨o54, o55⟩, ⟨o56, o57⟩⟩, oc, oh, oq, ou, ⟨To, Po⟩, om, omu, omn, omx⟩
    · omega
    obtain ⟨cc, hcc⟩ : ∃ cc, cc = q60.1.toNat := ⟨_, rfl⟩
    rw [← hcc] at x3 CP rq rN o54 o55 o56 o57
    try rw [← hcc] at oc
    try rw [← hcc] at oh
    try rw [← hcc] at oq
    try rw [← hcc] at om
    try rw [← hcc] at omu
    try rw [← hcc] at omx
    try rw [← hcc] at To
    try rw [← hcc] at Po
    have ci : q60.1 = (cc : Int) := by omega
    rw [ci] at e64
    have tcc : ((cc : Nat) : Int).toNat = cc := Int.toNat_natCast _
    have KSo : KS t q60.2 := ⟨⟨Fo.2.1 39 (by decide), Fo.2.1 42 (by decide), Fo.2.1 43 (by decide), Fo.2.1 44 (by decide)⟩, ko⟩
    have hR64 : Rr s64 := e64 ▸ Rr.uAu hRo (by show (-2147483648 : Int) ≤ (cc : Int) ∧ (cc : Int) ≤ 2147483647; omega)
    have u64 : gA s64 49 = upZ (gA q60.2 49) v (cc : Int) := q_AA e64
    have a39 : gA s64 39 = gA q60.2 39 := q_Aa e64 (by decide)
    obtain ⟨T1, P1⟩ := MT_root (q := (cc : Int)) To Po hv u64 a39 (Or.inl ⟨by omega, by rw [KSo.1.1]; omega⟩)
    obtain ⟨⟨w1, w2⟩, ⟨w3, w4⟩, _⟩ := M_root hv u64
    have dd : ∀ x : Nat, x < 48 → d0 x = dq cc x - dq y x + (if gA q60.2 49 v = (x : Int) then 1 else 0) - (if (cc : Int) = (x : Int) then 1 else 0) := fun x hx => by
      show (0 : Int) = _
      rw [ou v (by omega), yv, dd_0 (r := (cc : Int)) (by omega), dd_0 (r := (y : Int)) (by omega), tcc, ty]; omega
    have K64 : KS t s64 := KS_t KSo ⟨⟨a39, q_Aa e64 (by decide), q_Aa e64 (by decide), q_Aa e64 (by decide)⟩, fun j hj' => by rw [u64, upZ_n (by omega)]⟩
    have H64 : SIM π1 σ1 s67 s64 := sim_root H1 hv (fun k k1 k2 k3 => q_Aa e67 k3) (by rw [(q_AA e67 : gA s67 60 = _), x3]) (q_Ai e67) (q_Al e67) u64 (by rw [a39]) (q_Aa e64 (by decide)) (Or.inr (Or.inr ⟨by omega, by omega, by rw [tcc]⟩))
    have ZP64 : ZP s67 s64 := ZP_k hZ (by rw [(q_Ai e67 : gI s67 581 = gI q87.2 581), F87.1 581 (by decide)]) (by rw [(q_Ai e67 : gI s67 741 = gI q87.2 741), F87.1 741 (by decide)]) (fun k k1 k2 => by rw [(q_Aa e67 (by omega) : gA s67 k = gA q87.2 k), F87.2.1 k (by simp; omega)]) (fun k hk => by rw [(q_Aa e64 (by omega) : gA s64 k = gA q60.2 k), Fo.2.1 k (by simp; omega)])
    have OR := OI_rt (key := key) hO hK y48 ly CP.1 CP.2.1 CP.2.2.1 (by
      rcases CP.2.2.2 with w | w
      · refine Or.inl ⟨w, fun p k' hp lp hlp hk' hv' => ?_⟩
        have cv : cM t y = 1 ∧ vM t y = 0 := by
          rcases Classical.em (cM t y = 1 ∧ vM t y = 0) with u | u
          · exact u
          · exfalso
            have lvy := (TG_nd T0 y48 rl.2)
            have tk : ∀ o1 : Int × MS, m_x12_taken ((hM t).1 y) (y : Int) t = some o1 → gI o1.2 55 = 0 → (0 ≤ o1.1 ∧ o1.1 < gA t 39 5) ∧ (cM t o1.1.toNat ≤ 0 ∧ vM t o1.1.toNat ≤ 0) ∧ TkE t o1.2 o1.1.toNat ((hM t).1 y) := fun o1 eo z => by
              have W := (wp_det (w_x12_taken hRt ⟨hN0, hN48⟩ hC0 (p0 := (hM t).1 y) (p1 := (y : Int)) ⟨lv.1, by omega⟩ ⟨by omega, by omega⟩) eo).2.2
              rcases W with W | ⟨_, W⟩
              · omega
              · exact W
            have e60' := e60
            rw [yv] at e60'
            have g2 := m_own (p := (y : Int)) (t := t) (by omega) hf (fun o1 eo z => by
              rw [ty] at eo ⊢
              obtain ⟨W2, W3, W4⟩ := tk o1 eo z
              have ne : y ≠ o1.1.toNat := fun e2 => by rw [← e2] at W3; omega
              refine ⟨W2.1, fun e2 => ne e2.symm, ?_⟩
              have := W4.1 (20 + 16 * y) (by omega)
              show gA o1.2 49 (20 + 16 * y) ≤ 6
              rw [this]; exact lvy.2.1.2) q60 e60'
            rw [ty] at g2
            rcases g2 with ⟨a, _⟩ | ⟨_, o1, eo1, a2⟩
            · exact u ⟨a.2, a.1.2⟩
            · rcases a2 with ⟨x, e2⟩ | ⟨x, e2, _⟩
              · have : q60.2 = o1.2 := by rw [e2]
                rw [this] at x55; exact x x55
              · obtain ⟨_, W3, _⟩ := tk o1 eo1 x
                rw [← e2, ci, tcc, w] at W3; omega
        rcases lp with cp | cp
        · exact one_rt T0 hv y48 rfl yv cv.1 p k' hp cp hlp hk' hv'
        · have kd := TG_kid (TG_ss T0) (fun _ _ => Int.le_refl 0) hp cp hlp hk'
          have kd2 := kd.2.2
          rw [hv', ty] at kd2
          omega
      · exact Or.inr w)
    refine ⟨cc, π1, σ1, _, _, ⟨ci, rq, x3⟩, ⟨H64, ZP64⟩, ⟨OI_same OR.1 (fun x hx hl => ⟨by unfold LV at hl ⊢; rw [← w3, ← w4]; exact hl, Or.inl ⟨by rw [w1], by rw [w1], fun k => by rw [w1, w2]; exact ⟨rfl, rfl⟩⟩⟩), OR.2⟩, ⟨hR64, K64, (q_Ai e64).trans z0, fun u hu hn => by rw [u64, upZ_n hn]; exact ou u hu, by rw [u64, upZ_s]; omega⟩, by rw [u64, upZ_s], M', TG_D T1 dd, PM_D P1 dd, ⟨by rw [w3]; exact o54, by rw [w4]; exact o55⟩, by rw [w1]; exact o56, om, omu⟩
  -- the class behind the root
  rcases W1 with w | ⟨r0, ⟨rq, rN⟩, ⟨o54, o55⟩, ⟨o56, o57⟩, _, _, _, T1⟩
  · exact absurd w c
  have i67 : gI s67 1060 = gI q87.2 1060 := q_Ai e67
  have g60 : gA s67 60 = upZ (gA q87.2 60) v q87.1 := q_AA e67
  have h60s : gA q87.2 60 = gA s 60 := F87.2.1 60 (by decide)
  have R67 := hR67 r0 (by omega)
  have T1r := TG_root (v := v) (q := q87.1) T1 hv (Or.inl ⟨r0, by show q87.1 < gI q87.2 1060; rw [F87.1 1060 (by decide)]; omega⟩)
  have T67 : TS s67 Z0 (-1) := by
    refine TS_mk (TG_D T1r (fun x hx => ?_)) (hN_eq (q_Aa e67 (by decide)) (q_Aa e67 (by decide)) (q_Aa e67 (by decide))) (kN_eq (q_Aa e67 (by decide))) (q_Ai e67) (q_Ai e67) (q_Aa e67 (by decide)) (q_Aa e67 (by decide)) g60 (q_Aa e67 (by decide))
    show (0 : Int) = 0 + (if x = q87.1.toNat then 1 else 0) - (if x = ((π y : Nat) : Int).toNat then 1 else 0) + (if gA q87.2 60 v = (x : Int) then 1 else 0) - (if q87.1 = (x : Int) then 1 else 0)
    rw [h60s, s60, tpy]
    by_cases z : x = q87.1.toNat
    · rw [if_pos z, if_pos (show q87.1 = (x : Int) by omega)]
      by_cases z2 : x = π y
      · rw [if_pos z2, if_pos (show (π y : Int) = (x : Int) by omega)]; omega
      · rw [if_neg z2, if_neg (show ¬ (π y : Int) = (x : Int) by omega)]; omega
    · rw [if_neg z, if_neg (show ¬ q87.1 = (x : Int) by omega)]
      by_cases z2 : x = π y
      · rw [if_pos z2, if_pos (show (π y : Int) = (x : Int) by omega)]; omega
      · rw [if_neg z2, if_neg (show ¬ (π y : Int) = (x : Int) by omega)]; omega
  obtain ⟨R70, h70⟩ := wp_det (w_x1_splits R67 (p0 := q87.1) ⟨r0, by omega⟩) e70
  have T70 : TS q70.2 Z0 (-1) := TS_eq T67 (F70.2.1 54 (by decide)) (F70.2.1 55 (by decide)) (F70.2.1 56 (by decide)) (F70.2.1 57 (by decide)) (F70.2.1 58 (by decide)) (F70.2.1 59 (by decide)) (F70.2.1 60 (by decide)) (F70.2.1 61 (by decide)) (F70.1 1060 (by decide)) (F70.1 581 (by decide))
  have A70 : ∀ k, k ≠ 60 → k ≠ 81 → gA q70.2 k = gA q87.2 k := fun k k1 k2 => (F70.2.1 k (by simp; omega)).trans (q_Aa e67 k1)
  have l56 : gA s 56 (π y) = (hM t).1 y := (sim_b h y48 ly).1
  rw [tpy, l56] at o56
  have k54 : gA q70.2 54 q87.1.toNat = 1 := by rw [A70 54 (by decide) (by decide)]; exact o54
  have k55 : gA q70.2 55 q87.1.toNat = 0 := by rw [A70 55 (by decide) (by decide)]; exact o55
  have k56 : gA q70.2 56 q87.1.toNat = (hM t).1 y := by rw [A70 56 (by decide) (by decide)]; exact o56
  have k60 : gA q70.2 60 v = q87.1 := by rw [F70.2.1 60 (by decide), g60, upZ_s]
  have k581 : gI q70.2 581 = gI s 581 := by rw [F70.1 581 (by decide), (q_Ai e67 : gI s67 581 = gI q87.2 581), F87.1 581 (by decide)]
  have s581 : gI s67 581 = gI s 581 := by rw [(q_Ai e67 : gI s67 581 = gI q87.2 581), F87.1 581 (by decide)]
  have k57 : gA q70.2 57 q87.1.toNat = gA s67 57 q87.1.toNat := by rw [F70.2.1 57 (by decide)]
  have NT : 0 ≤ gA t 39 5 ∧ gA t 39 5 ≤ 48 := ⟨hN0, hN48⟩
  -- all that follows, the reference beside it
  have ALL : ∀ q : Int × MS, ((q70.1 = 0 ∧ m_x1_plant_L117 FU key val q87.1 (gA q70.2 56 q87.1.toNat) q70.2 = some q) ∨ (q70.1 ≠ 0 ∧ ∃ q75 : Int × MS, m_x1_raiseRoot (v : Int) q70.2 = some q75 ∧ ((q75.1 = -1 ∧ q.1 = 0) ∨ (q75.1 ≠ -1 ∧ ∃ q80 : Int × MS, m_x1_split q75.1 0 q87.1 key q75.2 = some q80 ∧ ((q80.1 = -1 ∧ q.1 = 0) ∨ (q80.1 ≠ -1 ∧ m_x1_plant_L117 FU key val q80.1 (gA q80.2 56 q80.1.toNat) q80.2 = some q)))))) → pc (m_x12_puts (v : Int) key val t) (fun o => CON q o) := fun q hq => by
    refine m_put1 (by omega) (fun q60 e60 => ⟨fun w => ?_, fun x55 s64 q67 e64 e67' => ?_⟩)
    · rcases (OWN q60 e60).2 with x | x
      · exact absurd x.1 c
      · exact absurd x.1 w
    obtain ⟨cc, π1, σ1, lo1, hj1, ⟨ci, c48, x3⟩, ⟨H64, ZP64⟩, ⟨O64, oky⟩, ⟨R64, K64, f64, W64⟩, ⟨rt64, M', T64, P64, hc1, hc2, hc3⟩⟩ := ROOT q60 s64 e60 x55 e64
    have tcc : ((cc : Nat) : Int).toNat = cc := Int.toNat_natCast _
    have KV := KLV_of T64 (fun _ _ => Int.le_refl 0)
    have lc : LV s64 cc := Or.inl (by omega)
    have nc := (KV.2.1 cc c48 lc).1
    rw [ci] at e67' ⊢
    obtain ⟨v1, v2, H5, ZP5⟩ := y_splits H64 c48 lc ZP64 R64 ⟨nc.1.2.1, nc.2, nc.1.1⟩ (by rw [← x3]; exact e70) e67'
    obtain ⟨R28, h28⟩ := wp_det (w_x12_doesSplit R64 (p0 := (cc : Int)) ⟨by omega, by omega⟩ (KS_CE K64 hC1) (by rw [tcc]; exact nc.1.2.1) (by rw [tcc]; have := nc.2; have := nc.1.1; omega) (by rw [K64.1.1]; omega)) e67'
    rw [tcc] at h28
    have F28 : F_x12_doesSplit s64 q67.2 := fr_x12_doesSplit e67'
    have a49 : gA q67.2 49 = gA s64 49 := F28.2.1 49 (by decide)
    have a39 : gA q67.2 39 = gA s64 39 := F28.2.1 39 (by decide)
    have K28 : KS t q67.2 := KS_t K64 ⟨⟨a39, F28.2.1 42 (by decide), F28.2.1 43 (by decide), F28.2.1 44 (by decide)⟩, fun j _ => by rw [a49]⟩
    obtain ⟨d1, d2, d3, d4⟩ := eq49 a49
    have T28 : TM q67.2 d0 (-1) := TM_eq T64 a49 a39
    have P28 : PM q67.2 v M' d0 (-1) := PM_e P64 a49 a39 (by omega)
    have W28 : RWn t q67.2 v := ⟨fun u hu hn => by rw [a49]; exact W64.1 u hu hn, by rw [a49]; exact W64.2⟩
    have f55 : gI q67.2 55 = 0 := (F28.1 55 (by decide)).trans f64
    have O28 : OI q67.2 lo1 hj1 := OI_49 O64 a49
    have K39 : gA s64 39 = gA t 39 := K64.1.1
    refine ⟨fun z => ?_, fun z q72 e72 => ?_⟩
    · rcases hq with ⟨_, eq⟩ | ⟨z2, _⟩
      · have w57 : gA s67 57 q87.1.toNat < gI s 581 := by
          rcases h70 with w | w
          · rw [← s581]; exact w.2
          · omega
        have w28 : (hM s64).2.1 cc < gA s64 39 6 := by
          rcases h28 with w | w
          · omega
          · exact w.2
        rw [k56, x3] at eq
        refine y_plant_L hv hkey hval hC0 hC1 hE hN0 FU FU ((hM t).1 y) cc q70.2 q67.2 π1 σ1 lo1 hj1 ⟨⟨H5, ZP5⟩, ⟨R70, R28⟩, K28, ⟨T70, ?_, by omega⟩, ⟨f55, W28, M', T28, P28, ?_⟩, O28, oky⟩ q eq
        · rw [← x3]
          exact ⟨⟨r0, by omega⟩, k54, k55, k56, by rw [k57, k581]; exact w57⟩
        · exact ⟨⟨⟨by omega, by omega⟩, by rw [tcc, d3]; exact hc1.1, by rw [tcc, d4]; exact hc1.2⟩, by rw [tcc, d1]; exact hc2, by rw [tcc, d1, a39]; exact w28, by rw [tcc]; exact hc3.1, fun u hu hn => by rw [tcc]; exact hc3.2 u hu hn⟩
      · exact absurd (v1.trans z) z2
    · rcases hq with ⟨z2, _⟩ | ⟨_, q75, e75, hq⟩
      · exact absurd (v1.symm.trans z2) z
      have KV28 : KLV q67.2 := KLV_of T28 (fun _ _ => Int.le_refl 0)
      have lc28 : LV q67.2 cc := Or.inl (by rw [d3]; omega)
      have N28 : 0 ≤ gA q67.2 39 5 ∧ gA q67.2 39 5 ≤ 48 := by rw [a39, K39]; exact NT
      have z2 : 2 ≤ (hM s64).2.1 cc := by
        rcases h28 with w | w
        · rcases w.2 with u | u
          · rw [K39] at u; omega
          · exact u
        · omega
      have C28 := KS_CE K28 hC0
      have YR := y_raise H5 KV28 R70 R28 T70 zD N28 C28 (by omega) f55 hv c48 lc28 (by rw [d1, hc2]; exact lv.2) (by rw [d1]; omega) (by rw [k60]; exact x3) e75 e72
      have WR := wp_det (mt_rootSplit (i := (hM t).1 y) (M := M') R28 hv rfl T28 P28 C28 (by rw [a39, K39]; exact hE) f55 (p1 := (cc : Int)) (p2 := key) (by rw [a49]; exact rt64) ⟨⟨⟨by omega, by omega⟩, by rw [tcc, d3]; exact hc1.1, by rw [tcc, d4]; exact hc1.2⟩, by rw [tcc, d1]; exact hc2, by rw [tcc, d1]; exact z2, by rw [tcc]; exact hc3⟩ ⟨by omega, by omega⟩) e72
      obtain ⟨R72, F72, kk72, u72, h72⟩ := WR
      have K72 : KS t q72.2 := KS_t K28 ⟨⟨F72.2.1 39 (by decide), F72.2.1 42 (by decide), F72.2.1 43 (by decide), F72.2.1 44 (by decide)⟩, kk72⟩
      rcases YR with ⟨y1, y2⟩ | ⟨y1, r, w, π2, σ2, r48, H6, y4, y5, KVw, Rw, ⟨w39, wk⟩, w55, lrw, zr, lr, ⟨nbr, lbw, zb, lbl⟩, ⟨vr, nlr, rows, lvs⟩, eh⟩
      · refine pc_mono (m_stepF FU _ _ y2) (fun o ho => Or.inl ⟨?_, ho⟩)
        rcases hq with ⟨_, e⟩ | ⟨e, _⟩
        · exact e
        · exact absurd y1 e
      rcases hq with ⟨e, _⟩ | ⟨_, q80, e80, hq⟩
      · exact absurd e y1
      have W75 := wp_det (ts_raise R70 T70 zD (by omega) (p0 := (v : Int)) ⟨by omega, by omega⟩ (by rw [tv, k60]; omega) (by rw [tv, k60, k54]; decide)) e75
      obtain ⟨R75, F75, W75⟩ := W75
      rcases W75 with e | ⟨T75, C75, z75, u75, st75⟩
      · exact absurd e y1
      rw [tv, k60] at C75
      rw [tv] at u75
      have stb := st75 q87.1.toNat (by omega) (by rw [k54]; decide)
      have cc2 : q87.1 = (π2 cc : Int) := by rw [y5 cc c48 lc28]; exact x3
      have e80' : m_x1_split (π2 r : Int) 0 (π2 cc : Int) key q75.2 = some q80 := by rw [← y4, ← cc2]; exact e80
      have Cw : CE w 0 := CE_eq C28 (wk 42 (by decide) (by decide)) (wk 43 (by decide) (by decide)) (wk 44 (by decide) (by decide))
      have Nw : 0 ≤ gA w 39 5 ∧ gA w 39 5 ≤ 48 := by rw [w39]; exact N28
      have YS := y_split H6 KVw R75 Rw T75 zD Nw Cw (by rw [F75.1 581 (by decide), k581]; omega) w55 r48 c48 (fun e => nbr e.symm) lrw lbw (by rw [zb, d1]; exact z2) (p1 := 0) (key := key) ⟨Int.le_refl 0, by rw [zr]; decide⟩ (by rw [zr]; decide) (by rw [lr]; have := (KV28.2.1 cc c48 lc28).1.1.1; omega) e80' eh
      rcases YS with ⟨s1, s2⟩ | ⟨s1, s2, s3, π3, σ3, H7, s4, s5⟩
      · refine pc_mono (m_stepF FU _ _ s2) (fun o ho => Or.inl ⟨?_, ho⟩)
        rcases hq with ⟨_, e⟩ | ⟨e, _⟩
        · exact e
        · exact absurd s1 e
      rcases hq with ⟨e, _⟩ | ⟨_, eq⟩
      · omega
      have OR := OI_root O28 KV28 c48 lc28 nlr ⟨lr, zr, vr⟩ rows lvs
      have OH := OI_hfe (key := key) (k := 0) OR KVw Rw Nw Cw w55 r48 c48 lrw lbw (by rw [lr]; have := (KV28.2.1 cc c48 lc28).1.1.1; omega) (by rw [zr]; decide) vr (by rw [zb, d1]; exact z2) (by rw [zr]; decide) (fun e => nbr e.symm) (by rw [upZ_n nbr, upZ_n nbr]; exact oky) eh s1
      obtain ⟨lo3, hj3, O3, k3⟩ := OH
      have WS := wp_det (ts_split (p0 := q75.1) (p1 := 0) (p2 := q87.1) (p3 := key) (i := gA q70.2 56 q87.1.toNat) R75 T75 zD (by rw [F75.1 581 (by decide), k581]; exact h581) C75 ⟨Int.le_refl 0, by rw [z75]; decide⟩ ⟨⟨r0, by omega⟩, by rw [stb.1]; exact k54, by rw [F75.2.1 55 (by decide)]; exact k55, stb.2.1, by
        rw [stb.2.2]
        have q := (sim_b H5 c48 lc28).2.1
        have q' : gA q70.2 57 (π1 cc) = (hM q67.2).2.1 cc := q
        rw [show q87.1.toNat = π1 cc by omega, q', d1]; exact z2⟩ ⟨by omega, by omega⟩) e80
      obtain ⟨R80, F80, h80⟩ := WS
      rcases h80 with e | ⟨T80, C80⟩
      · omega
      rcases h72 with e | ⟨f72, rv, M3, T72, P72, A72⟩
      · omega
      have q72i : q72.1 = ((q72.1.toNat : Nat) : Int) := by omega
      have lev80 : gA q80.2 56 q80.1.toNat = (hM t).1 y := C80.2.2.2.1.trans k56
      rw [lev80, s4] at eq
      rw [q72i]
      have ZP7 : ZP q80.2 q72.2 := ZP_k ZP5 (by rw [F80.1 581 (by decide), F75.1 581 (by decide)]) (by rw [F80.1 741 (by decide), F75.1 741 (by decide)]) (fun k k1 k2 => by rw [F80.2.1 k (by simp; omega), F75.2.1 k (by simp; omega)]) (fun k hk => F72.2.1 k (by simp; omega))
      refine y_plant_L hv hkey hval hC0 hC1 hE hN0 FU FU ((hM t).1 y) q72.1.toNat q80.2 q72.2 π3 σ3 lo3 hj3 ⟨⟨H7, ZP7⟩, ⟨R80, R72⟩, K72, ⟨T80, ?_, by rw [F80.1 581 (by decide), F75.1 581 (by decide), k581]; exact h581⟩, ⟨f72, ⟨fun u hu hn => by rw [u72 u hu hn f72]; exact W28.1 u hu hn, rv⟩, M3, T72, P72, ?_⟩, O3, k3⟩ q eq
      · rw [← s4, ← k56]; exact C80
      · rw [← q72i]; exact A72
  refine ⟨fun c2 => s_J95 (fun w => absurd w c) (fun _ => fun q eq => ALL q (Or.inl ⟨c2, eq⟩)), fun c2 q75 e75 => ⟨fun c3 => s_J95 (fun _ => fun q eq => ALL q (Or.inr ⟨c2, q75, e75, Or.inl ⟨c3, s_stepF FU _ _ q eq⟩⟩)) (fun w => absurd rfl w), fun c3 q80 e80 => s_J95 (fun c4 => fun q eq => ALL q (Or.inr ⟨c2, q75, e75, Or.inr ⟨c3, q80, e80, Or.inl ⟨c4, s_stepF FU _ _ q eq⟩⟩⟩)) (fun c4 => fun q eq => ALL q (Or.inr ⟨c2, q75, e75, Or.inr ⟨c3, q80, e80, Or.inr ⟨c4, eq⟩⟩⟩))⟩⟩
/-! ===== counts alone change, and roots: both sides stay alike ===== -/
theorem sim_fin {π σ : Nat → Nat} {s s' t t' : MS} (h : SIM π σ s t) (hK : KLV t) (a : ∀ k, 55 ≤ k → k ≤ 61 → k ≠ 60 → gA s' k = gA s k) (a2 : gI s' 1060 = gI s 1060) (a3 : gL s' 1062 = gL s 1062) (m1 : hM t' = hM t) (m2 : kM t' = kM t) (m4 : vM t' = vM t) (b2 : gA t' 39 5 = gA t 39 5) (b3 : gA t' 54 = gA t 54) (b8 : ∀ v, v < 8 → gA t' 49 (8 + v) = gA t 49 (8 + v)) (hr : ∀ v, v < 8 → rtr π (gA s' 60 v) (gA t' 49 v)) (l1 : ∀ x, x < 48 → 0 < gA s' 54 (π x) → LV t x) (l2 : ∀ x, x < 48 → 0 < cM t' x → 0 < cM t x) (S : TS s' Z0 (-1)) (T : TM t' d0 (-1)) : SIM π σ s' t' := by
  have hP := h.1.1
  have N := h.2.1
  have nb : hN s' = hN s := by
    unfold hN
    rw [a 56 (by decide) (by decide) (by decide), a 57 (by decide) (by decide) (by decide), a 59 (by decide) (by decide) (by decide)]
  have kb : kN s' = kN s := by
    unfold kN
    rw [a 58 (by decide) (by decide) (by decide)]
  have C : ∀ x, x < 48 → gA s' 54 (π x) = cM t' x := by
    refine cnt_det (h1 := hN s') (h2 := hM t') (k1 := kN s') (k2 := kM t') (r1 := gA s' 60) (r2 := rM t') (L := LV t) (E1 := fun x => Z0 (π x)) (E2 := d0) (by rw [← a2] at hP; exact hP) (by rw [a2, N, ← b2]; exact T.1.1) (fun x hx hl => ?_) (fun x hx => (S.1.2.1 x hx).1) (fun x hx => (T.1.2.1 x hx).1) l1 (fun x hx w => Or.inl (l2 x hx w)) (fun x hx => S.2.1.1 (π x) (hP x hx).1.1) (fun x hx => T.2.1.1 x hx) (fun _ _ => rfl) (fun v hv => by rw [rM_v hv]; exact hr v hv)
    have q := (hK.2.1 x hx hl).1
    rw [nb, kb, m1, m2, a2, N]
    exact ⟨sim_b h hx hl, q.1, q.2⟩
  have lv : ∀ x, x < 48 → (0 < cM t' x ∨ 0 < vM t' x) → LV t x := fun x hx w => by
    rcases w with w | w
    · exact Or.inl (l2 x hx w)
    · rw [m4] at w; exact Or.inr w
  refine ⟨⟨by rw [a2]; exact hP, fun x hx => ?_, fun x hx q => ?_, fun v hv => ?_⟩, by rw [a2, b2]; exact N, fun x hx q => ?_⟩
  · show gA s' 54 (π x) = cM t' x ∧ gA s' 55 (π x) = vM t' x
    rw [a 55 (by decide) (by decide) (by decide), m4]
    exact ⟨C x hx, (sim_c h hx).2⟩
  · show BR1 π (hN s') (hM t') (kN s') (kM t') x
    rw [nb, kb, m1, m2]
    exact sim_b h hx (lv x hx q)
  · show rtr π (gA s' 60 v) (gA t' 49 v) ∧ rtr π (gA s' 61 v) (gA t' 49 (8 + v))
    rw [a 61 (by decide) (by decide) (by decide), b8 v hv]
    exact ⟨hr v hv, (h.1.2.2.2 v hv).2⟩
  · rw [a3, b3]
    exact h.2.2 x hx (l2 x hx q)
/-- only counts and one root -/
def CXm (v : Nat) (t T : MS) : Prop := (∀ i, i ≠ v → (i < 17 ∨ i % 16 ≠ 1) → gA T 49 i = gA t 49 i) ∧ (∀ k, k ≠ 49 → gA T k = gA t k)
theorem CXm_h {v : Nat} {t T : MS} (hv : v < 8) (h : CXm v t T) : hM T = hM t ∧ kM T = kM t ∧ vM T = vM t := by
  have e : ∀ i, 17 < i → i % 16 ≠ 1 → gA T 49 i = gA t 49 i := fun i h1 h2 => h.1 i (by omega) (Or.inr h2)
  refine ⟨?_, ?_, ?_⟩
  · show ((fun p => gA T 49 (19 + 16 * p), fun p => gA T 49 (20 + 16 * p), fun p k => if k < 6 then gA T 49 (27 + 16 * p + k) else 0) : SH) = (fun p => gA t 49 (19 + 16 * p), fun p => gA t 49 (20 + 16 * p), fun p k => if k < 6 then gA t 49 (27 + 16 * p + k) else 0)
    have f1 : (fun p : Nat => gA T 49 (19 + 16 * p)) = fun p => gA t 49 (19 + 16 * p) := by
      funext p; exact e _ (by omega) (by omega)
    have f2 : (fun p : Nat => gA T 49 (20 + 16 * p)) = fun p => gA t 49 (20 + 16 * p) := by
      funext p; exact e _ (by omega) (by omega)
    have f3 : (fun p k : Nat => if k < 6 then gA T 49 (27 + 16 * p + k) else 0) = fun p k => if k < 6 then gA t 49 (27 + 16 * p + k) else 0 := by
      funext p k
      by_cases z : k < 6
      · rw [if_pos z, if_pos z]; exact e _ (by omega) (by omega)
      · rw [if_neg z, if_neg z]
    rw [f1, f2, f3]
  · funext p k
    show (if k < 6 then gA T 49 (21 + 16 * p + k) else 0) = if k < 6 then gA t 49 (21 + 16 * p + k) else 0
    by_cases z : k < 6
    · rw [if_pos z, if_pos z]; exact e _ (by omega) (by omega)
    · rw [if_neg z, if_neg z]
  · funext p
    exact e (18 + 16 * p) (by omega) (by omega)
def CXs (s S : MS) : Prop := (∀ k, k ≠ 54 → k ≠ 50 → k ≠ 60 → gA S k = gA s k) ∧ (∀ k, gI S k = gI s k) ∧ ∀ k, gL S k = gL s k
/-- a root with one child goes down: the walk -/
theorem y_lower_L {π σ : Nat → Nat} {s t : MS} {v : Nat} (h : SIM π σ s t) (hK : KLV t) (hv : v < 8) (hL : ∀ x, x < 48 → 0 < cM t x → 0 < (hM t).1 x → ∀ k : Nat, (k : Int) < (hM t).2.1 x → 0 < cM t ((hM t).2.2 x k).toNat) : ∀ (n m : Nat) (x3 : Int) (b : Nat) (S T : MS), b < 48 → 0 < cM t b → 0 ≤ x3 → x3 + (hM t).1 b ≤ 47 → CXs s S → CXm v t T → (∀ u, u ≠ v → gA S 60 u = gA s 60 u) → gA S 60 v = (π b : Int) → gA T 49 v = (b : Int) → (∀ x, x < 48 → 0 < gA S 54 (π x) → 0 < cM t x) → (∀ x, x < 48 → 0 < cM T x → 0 < cM t x) → pc (m_x1_lowerRoot_L2 n (v : Int) x3 S) (fun s' => pc (m_x12_lowers_L7 m (v : Int) (b : Int) T) (fun t' => ∃ b', b' < 48 ∧ 0 < cM t b' ∧ CXs s s' ∧ CXm v t t' ∧ (∀ u, u ≠ v → gA s' 60 u = gA s 60 u) ∧ gA s' 60 v = (π b' : Int) ∧ gA t' 49 v = (b' : Int) ∧ (∀ x, x < 48 → 0 < gA s' 54 (π x) → 0 < cM t x) ∧ ∀ x, x < 48 → 0 < cM t' x → 0 < cM t x)) := by
  have tv : ((v : Nat) : Int).toNat = v := Int.toNat_natCast _
  refine fr_ind (fun _ _ _ _ _ _ _ _ _ _ _ _ _ _ _ _ => pc_none) (fun n ih m x3 b S T hb hc h3 hl hS hT r60 rS rT s1 s2 => ?_)
  cases m with
  | zero => exact fun q _ => pc_none
  | succ m =>
    have tb : ((b : Nat) : Int).toNat = b := Int.toNat_natCast _
    have lb : LV t b := Or.inl hc
    have Bb := sim_b h hb lb
    have Kb := (hK.2.1 b hb lb).1
    have hP := h.1.1
    have pb48 := (hP b hb).1.1
    have tp : ((π b : Nat) : Int).toNat = π b := Int.toNat_natCast _
    obtain ⟨e1, e2, e3⟩ := CXm_h hv hT
    have l56 : gA S 56 (π b) = (hM t).1 b := by rw [hS.1 56 (by decide) (by decide) (by decide)]; exact Bb.1
    have z57 : gA S 57 (π b) = (hM t).2.1 b := by rw [hS.1 57 (by decide) (by decide) (by decide)]; exact Bb.2.1
    have done : ∀ (T' : MS), T' = T → ∃ b', b' < 48 ∧ 0 < cM t b' ∧ CXs s S ∧ CXm v t T' ∧ (∀ u, u ≠ v → gA S 60 u = gA s 60 u) ∧ gA S 60 v = (π b' : Int) ∧ gA T' 49 v = (b' : Int) ∧ (∀ x, x < 48 → 0 < gA S 54 (π x) → 0 < cM t x) ∧ ∀ x, x < 48 → 0 < cM T' x → 0 < cM t x := fun T' e => by
      rw [e]; exact ⟨b, hb, hc, hS, hT, r60, rS, rT, s1, s2⟩
    -- the reference's step
    have REF : ∀ Q : MS → Prop, (¬ (0 < (hM t).1 b ∧ (hM t).2.1 b = 1) → Q T) → (0 < (hM t).1 b → (hM t).2.1 b = 1 → ∀ T2 : MS, CXm v t T2 → gA T2 49 v = (hM t).2.2 b 0 → (∀ x, x < 48 → 0 < cM T2 x → 0 < cM t x) → pc (m_x12_lowers_L7 m (v : Int) ((hM t).2.2 b 0) T2) Q) → pc (m_x12_lowers_L7 (m + 1) (v : Int) (b : Int) T) Q := fun Q K0 K1 => by
      show pc (m_x12_lowers_b7 (m_x12_lowers_L7 m) (v : Int) (b : Int) T) Q
      unfold m_x12_lowers_b7 m_x12_lowers_J63 m_x12_lowers_J51
      refine pc_bq (m_lev (by omega)) (fun r11 h11 => ?_)
      rw [tb, e1] at h11
      rw [h11]
      refine pc_rg (pc_if (fun c => pc_some (K0 (fun w => by omega))) (fun c => pc_bq (m_ents (by omega)) (fun r15 h15 => ?_)))
      rw [tb, e1] at h15
      rw [h15]
      refine pc_rg (pc_if (fun c1 => pc_bq (m_val (by omega) (by decide)) (fun r19 h19 => ?_)) (fun c1 => pc_some (K0 (fun w => c1 w.2))))
      rw [tb, e1] at h19
      have h19' : r19 = (hM t).2.2 b 0 := h19
      have kid := (hK.2.1 b hb lb).2 (by omega) 0 (by omega)
      have kc := hL b hb hc (by omega) 0 (by omega)
      rw [h19']
      have cnt : ∀ (p : Nat) (d : Int) (X Y : MS), p < 48 → CXm v t X → m_x12_counts (p : Int) d X = some Y → CXm v t Y ∧ gA Y 49 v = gA X 49 v ∧ ∀ x, x ≠ p → cM Y x = cM X x := fun p d X Y hp hX eY => by
        obtain ⟨_, u1, u2, _⟩ := m_cntT Y eY
        rw [show (17 + 16 * (p : Int)).toNat = 17 + 16 * p by omega] at u1
        refine ⟨⟨fun i hi h2 => by rw [u1, upZ_n (by omega)]; exact hX.1 i hi h2, fun k hk => (u2 k hk).trans (hX.2 k hk)⟩, by rw [u1, upZ_n (by omega)], fun x hx => ?_⟩
        show gA Y 49 (17 + 16 * x) = gA X 49 (17 + 16 * x)
        rw [u1, upZ_n (by omega)]
      obtain ⟨y, hy⟩ : ∃ y, y = ((hM t).2.2 b 0).toNat := ⟨_, rfl⟩
      rw [← hy] at kid kc
      have yi : (hM t).2.2 b 0 = (y : Int) := by omega
      rw [yi]
      refine pc_bn (fun s21 e21 => ?_)
      obtain ⟨X1, X2, X3⟩ := cnt b (-1) T s21 hb hT e21
      have p21 : ∀ x, x < 48 → 0 < cM s21 x → 0 < cM t x := fun x hx w => by
        by_cases e : x = b
        · rw [e]; exact hc
        · rw [X3 x e] at w; exact s2 x hx w
      have fin : ∀ Z : MS, CXm v t Z → gA Z 49 v = gA T 49 v → (∀ x, x < 48 → 0 < cM Z x → 0 < cM t x) → pc (inb 906 (v : Int) (stn (sA Z 49 (upZ (gA Z 49) (Int.toNat (v : Int)) (y : Int))) (fun s9 => m_x12_lowers_L7 m (v : Int) (y : Int) s9))) Q := fun Z z1 z2 z3 => by
        refine pc_inb (pc_stn (fun s9 e9 => ?_))
        rw [tv] at e9
        have u9 : gA s9 49 = upZ (gA Z 49) v (y : Int) := q_AA e9
        have k := K1 (by omega) c1 s9 ⟨fun i hi h2 => by rw [u9, upZ_n hi]; exact z1.1 i hi h2, fun k hk => (q_Aa e9 hk).trans (z1.2 k hk)⟩ (by rw [u9, upZ_s, yi]) (fun x hx w => by
          have w' : 0 < gA s9 49 (17 + 16 * x) := w
          rw [u9, upZ_n (by omega)] at w'
          exact z3 x hx w')
        rw [yi] at k; exact k
      refine pc_bq (m_cnt (by omega)) (fun r23 h23 => pc_rg (pc_if (fun c5 => fin s21 X1 X2 p21) (fun c5 => pc_bn (fun s27 e27 => ?_))))
      obtain ⟨Y1, Y2, Y3⟩ := cnt y 1 s21 s27 (by omega) X1 e27
      exact fin s27 Y1 (Y2.trans X2) (fun x hx w => by
        by_cases e : x = y
        · rw [e]; exact kc
        · rw [Y3 x e] at w; exact p21 x hx w)
    show pc (m_x1_lowerRoot_b2 (m_x1_lowerRoot_L2 n) (v : Int) x3 S) _
    unfold m_x1_lowerRoot_b2 m_x1_lowerRoot_J48 m_x8_slot
    refine pc_rg (pc_if (fun c => absurd c (by have := Kb.1.1; omega)) (fun _ => pc_rdI (fun _ => ?_)))
    rw [tv, rS]
    refine pc_rg (pc_if (fun c => absurd c (by omega)) (fun _ => pc_rdI (fun _ => ?_)))
    rw [tp, l56]
    refine pc_rg (pc_if (fun c => pc_some (REF _ (fun _ => done T rfl) (fun w _ => by omega))) (fun c => pc_rdI (fun _ => ?_)))
    rw [tp, z57]
    refine pc_rg (pc_if (fun c1 => pc_bn (fun r17 e17 => ?_)) (fun c1 => pc_some (REF _ (fun _ => done T rfl) (fun _ w => absurd w c1))))
    cases e17
    have l0 := Kb.1.1
    have kid := (hK.2.1 b hb lb).2 (by omega) 0 (by omega)
    have kidN := (Kb.1.2.2 (by omega) 0 (by omega)).2
    have kc := hL b hb hc (by omega) 0 (by omega)
    have ev := (Bb.2.2 0 (by omega)).2.1 (by omega)
    obtain ⟨y, hy⟩ : ∃ y, y = ((hM t).2.2 b 0).toNat := ⟨_, rfl⟩
    rw [← hy] at kid kidN kc ev
    have yi : (hM t).2.2 b 0 = (y : Int) := by omega
    have y48 : y < 48 := by omega
    have tpy : ((π y : Nat) : Int).toNat = π y := Int.toNat_natCast _
    refine pc_rdI (fun _ => ?_)
    have ev' : gA S 59 ((π b : Int) * 6 + 0).toNat = (π y : Int) := by
      rw [show ((π b : Int) * 6 + 0).toNat = 6 * π b + 0 by omega, hS.1 59 (by decide) (by decide) (by decide)]
      exact ev
    rw [ev']
    refine pc_rdI (fun _ => pc_inb (pc_stn (fun s21 e21 => pc_inb (pc_stn (fun s23 e23 => pc_bq s_rel (fun q26 h26 => ?_))))))
    try rw [tpy] at e21
    try rw [tv] at e23
    have a54 : gA s21 54 = upZ (gA S 54) (π y) (gA S 54 (π y) + 1) := by
      have q : gA s21 54 = _ := q_AA e21
      (try rw [tpy] at q); exact q
    have A26 : ∀ k, k ≠ 54 → k ≠ 50 → k ≠ 60 → gA q26.2 k = gA S k := fun k k1 k2 k3 => (h26.2.1 k k1 k2).trans ((q_Aa e23 k3).trans (q_Aa e21 k1))
    have u60 : gA q26.2 60 = upZ (gA S 60) v (π y : Int) := by
      rw [h26.2.1 60 (by decide) (by decide), (q_AA e23 : gA s23 60 = _), (q_Aa e21 (by decide) : gA s21 60 = gA S 60)]
    refine fun q eq => REF _ (fun w => absurd ⟨by omega, c1⟩ w) (fun _ _ T2 X1 X2 X3 => ?_)
    rw [yi]
    rw [yi] at X2
    refine ih m (x3 + 1) y q26.2 T2 y48 kc (by omega) (by omega) ⟨fun k k1 k2 k3 => (A26 k k1 k2 k3).trans (hS.1 k k1 k2 k3), fun k => (h26.2.2.1 k).trans ((q_Ai e23).trans ((q_Ai e21).trans (hS.2.1 k))), fun k => (h26.2.2.2 k).trans ((q_Al e23).trans ((q_Al e21).trans (hS.2.2 k)))⟩ X1 (fun u hu => by rw [u60, upZ_n hu]; exact r60 u hu) (by rw [u60, upZ_s]) X2 (fun x hx w => ?_) X3 q eq
    have le := h26.1 (π x)
    rw [(q_Aa e23 (by decide) : gA s23 54 = gA s21 54), a54] at le
    by_cases e : π x = π y
    · rw [PB_i hP hx y48 e]; exact kc
    · rw [upZ_n e] at le
      exact s1 x hx (by omega)
theorem y_lower {π σ : Nat → Nat} {s t s0 t0 : MS} {v : Nat} {M : Nat → Nat → Int} (h : SIM π σ s t) (hR : Rg s) (hRt : Rr t) (S0 : TS s Z0 (-1)) (T0 : TM t d0 (-1)) (P : PM t v M d0 (-1)) (hv : v < 8) (hV : RV s0 s v) (hW : RWn t0 t v) : pc (m_x1_lowerRoot (v : Int) s) (fun s' => pc (m_x12_lowers (v : Int) t) (fun t' => SIM π σ s' t' ∧ CXm v t t' ∧ ∀ x, x < 48 → 0 < cM t' x → 0 < cM t x)) := by
  have tv : ((v : Nat) : Int).toNat = v := Int.toNat_natCast _
  have hK : KLV t := KLV_of T0 (fun _ _ => Int.le_refl 0)
  have r2 := hW.2
  obtain ⟨b, hb⟩ : ∃ b, b = (gA t 49 v).toNat := ⟨_, rfl⟩
  have bi : gA t 49 v = (b : Int) := by omega
  have b48 : b < 48 := by omega
  have rl := TG_root_live (v := v) T0 (fun _ _ => Int.le_refl 0) hv (by rw [rM_v hv]; omega) (by rw [rM_v hv]; omega)
  rw [rM_v hv, ← hb] at rl
  have rS : gA s 60 v = (π b : Int) := by
    rcases (h.1.2.2.2 v hv).1 with ⟨a, _⟩ | ⟨a, _⟩ | ⟨_, _, a⟩
    · omega
    · omega
    · rw [← hb] at a; exact a
  have lv := TG_lev T0 (fun _ _ => Int.le_refl 0) b48 rl.2
  have hL : ∀ x, x < 48 → 0 < cM t x → 0 < (hM t).1 x → ∀ k : Nat, (k : Int) < (hM t).2.1 x → 0 < cM t ((hM t).2.2 x k).toNat := fun x hx hc hl k hk => (TG_kid T0 (fun _ _ => Int.le_refl 0) hx hc hl hk).2.2
  have L := y_lower_L h hK hv hL FU FU 0 b s t b48 rl.2 (Int.le_refl 0) (by omega) ⟨fun _ _ _ _ => rfl, fun _ => rfl, fun _ => rfl⟩ ⟨fun _ _ _ => rfl, fun _ _ => rfl⟩ (fun _ _ => rfl) rS bi (fun x hx w => by rw [(sim_c h hx).1] at w; exact w) (fun _ _ w => w)
  intro s' es
  have W1 := wp_det (ts_lower (p0 := (v : Int)) hR S0 (s0 := s0) ⟨by omega, by omega⟩ (by rw [tv]; exact hV)) es
  have L' := L s' es
  have R : pc (m_x12_lowers (v : Int) t) (fun t' => ∃ b', b' < 48 ∧ 0 < cM t b' ∧ CXs s s' ∧ CXm v t t' ∧ (∀ u, u ≠ v → gA s' 60 u = gA s 60 u) ∧ gA s' 60 v = (π b' : Int) ∧ gA t' 49 v = (b' : Int) ∧ (∀ x, x < 48 → 0 < gA s' 54 (π x) → 0 < cM t x) ∧ ∀ x, x < 48 → 0 < cM t' x → 0 < cM t x) := by
    unfold m_x12_lowers
    refine pc_rdI (fun _ => ?_)
    rw [tv, bi]
    exact L'
  intro t' et
  have W2 := wp_det (mt_lowers (s0 := t0) hRt hv rfl T0 P hW) et
  obtain ⟨b', b48', cb', c1, c2, c3, c4, c5, c6, c7⟩ := R t' et
  obtain ⟨e1, e2, e3⟩ := CXm_h hv c2
  refine ⟨?_, c2, c7⟩
  refine sim_fin h hK (fun k k1 k2 k3 => c1.1 k (by omega) (by omega) k3) (c1.2.1 1060) (c1.2.2 1062) e1 e2 e3 (by rw [c2.2 39 (by decide)]) (c2.2 54 (by decide)) (fun u hu => c2.1 (8 + u) (by omega) (Or.inl (by omega))) (fun u hu => ?_) (fun x hx w => Or.inl (c6 x hx w)) c7 W1.2.1 W2.2.2.2.1.1
  by_cases z : u = v
  · rw [z, c4, c5]
    exact Or.inr (Or.inr ⟨by omega, by omega, by rw [Int.toNat_natCast]⟩)
  · rw [c3 u z, c2.1 u z (Or.inl (by omega))]
    exact (h.1.2.2.2 u hu).1
/-! ===== an act is tried on both sides ===== -/
theorem pc_cpg {α : Type} {sp dp n : Int} {n0 n1 : Nat} {k : Option α} {P : α → Prop} (h : pc k P) : pc (cpg sp dp n n0 n1 k) P := by
  unfold cpg
  split
  · exact h
  · exact pc_none
theorem s_v3 {s : MS} : pc (m_x8_become_v3 s) (fun o => gL o 1422 = gL s 1062) := by
  unfold m_x8_become_v3
  exact pc_stn (fun s1 e1 => pc_stn (fun s2 e2 => pc_stn (fun s3 e3 => pc_cpg (pc_stn (fun s5 e5 => pc_cpg (pc_stn (fun s7 e7 => pc_cpg (pc_stn (fun s9 e9 => pc_cpg (pc_stn (fun s11 e11 => pc_cpg (pc_stn (fun s13 e13 => pc_cpg (pc_stn (fun s15 e15 => pc_cpg (pc_stn (fun s17 e17 => pc_cpg (pc_stn (fun s19 e19 => pc_some ((q_Al e19).trans ((q_Al e17).trans ((q_Al e15).trans ((q_Al e13).trans ((q_Al e11).trans ((q_Al e9).trans ((q_Al e7).trans ((q_Al e5).trans ((q_LL e3 : gL s3 1422 = _).trans ((q_Il e2).trans (q_Il e1))))))))))))))))))))))))))))))
theorem s_v4 {s : MS} : pc (m_x8_become_v4 s) (fun o => gL o 1062 = gL s 1422) := by
  unfold m_x8_become_v4
  exact pc_stn (fun s1 e1 => pc_stn (fun s2 e2 => pc_stn (fun s3 e3 => pc_cpg (pc_stn (fun s5 e5 => pc_cpg (pc_stn (fun s7 e7 => pc_cpg (pc_stn (fun s9 e9 => pc_cpg (pc_stn (fun s11 e11 => pc_cpg (pc_stn (fun s13 e13 => pc_cpg (pc_stn (fun s15 e15 => pc_cpg (pc_stn (fun s17 e17 => pc_cpg (pc_stn (fun s19 e19 => pc_some ((q_Al e19).trans ((q_Al e17).trans ((q_Al e15).trans ((q_Al e13).trans ((q_Al e11).trans ((q_Al e9).trans ((q_Al e7).trans ((q_Al e5).trans ((q_LL e3 : gL s3 1062 = _).trans ((q_Il e2).trans (q_Il e1))))))))))))))))))))))))))))))
theorem pc_bo2 {α : Type} {v : Int} {k : Option α} {P : α → Prop} (h : v = 0 ∨ v = 1 → pc k P) : pc (bo v k) P := by
  unfold bo
  split
  · rename_i q; exact h q
  · exact pc_none
/-- what was put by for a try that fails -/
def SVm (t X : MS) : Prop := (∀ k, k ≠ 59 → k ≠ 60 → gA X k = gA t k) ∧ (∀ i, i < 785 → gA X 59 i = gA t 49 i) ∧ (∀ i, i < 48 → gA X 60 i = gA t 54 i) ∧ (∀ i, i ≠ 55 → gI X i = gI t i) ∧ gI X 55 = 0 ∧ (Rr t → Rr X)
def BKm (Y o : MS) : Prop := (∀ k, k ≠ 49 → k ≠ 54 → gA o k = gA Y k) ∧ (∀ i, i < 785 → gA o 49 i = gA Y 59 i) ∧ (∀ i, 785 ≤ i → gA o 49 i = gA Y 49 i) ∧ (∀ i, i < 48 → gA o 54 i = gA Y 60 i) ∧ (∀ i, i ≠ 55 → gI o i = gI Y i) ∧ gI o 55 = 0
theorem m_back {Y : MS} : pc (m_x12_tries_L133 FU 0 Y) (fun o => o.1 = 0 ∧ BKm Y o.2) := by
  have L164 : ∀ (n : Nat) (x : Int) (S : MS), (0 ≤ x ∧ x ≤ 48) → (∀ k, k ≠ 49 → k ≠ 54 → gA S k = gA Y k) → (∀ i, i < 785 → gA S 49 i = gA Y 59 i) → (∀ i, 785 ≤ i → gA S 49 i = gA Y 49 i) → (∀ i : Nat, (i : Int) < x → gA S 54 i = gA Y 60 i) → (∀ i, gI S i = gI Y i) → pc (m_x12_tries_L164 n x S) (fun o => o.1 = 0 ∧ BKm Y o.2) := by
    refine fr_ind (fun _ _ _ _ _ _ _ _ => pc_none) (fun n ih x S hx h1 h2 h3 h4 h5 => ?_)
    show pc (m_x12_tries_b164 (m_x12_tries_L164 n) x S) _
    unfold m_x12_tries_b164
    refine pc_rg (pc_if (fun c => pc_stn (fun s5 e5 => pc_some ⟨rfl, fun k k1 k2 => (q_Ia e5).trans (h1 k k1 k2), fun i hi => by rw [(q_Ia e5 : gA s5 49 = gA S 49)]; exact h2 i hi, fun i hi => by rw [(q_Ia e5 : gA s5 49 = gA S 49)]; exact h3 i hi, fun i hi => by rw [(q_Ia e5 : gA s5 54 = gA S 54)]; exact h4 i (by omega), fun i hi => (q_Ii e5 hi).trans (h5 i), q_II e5⟩)) (fun c => pc_rdI (fun _ => pc_inb (pc_bo (pc_stn (fun s9 e9 => ih (x + 1) s9 (by omega) (fun k k1 k2 => (q_Aa e9 k2).trans (h1 k k1 k2)) (fun i hi => by rw [(q_Aa e9 (by decide) : gA s9 49 = gA S 49)]; exact h2 i hi) (fun i hi => by rw [(q_Aa e9 (by decide) : gA s9 49 = gA S 49)]; exact h3 i hi) (fun i hi => ?_) (fun i => (q_Ai e9).trans (h5 i))))))))
    rw [(q_AA e9 : gA s9 54 = _)]
    by_cases z : i = x.toNat
    · rw [z, upZ_s, h1 60 (by decide) (by decide)]
    · rw [upZ_n z]; exact h4 i (by omega)
  have L133 : ∀ (n : Nat) (x : Int) (S : MS), (0 ≤ x ∧ x ≤ 785) → (∀ k, k ≠ 49 → gA S k = gA Y k) → (∀ i : Nat, (i : Int) < x → gA S 49 i = gA Y 59 i) → (∀ i, 785 ≤ i → gA S 49 i = gA Y 49 i) → (∀ i, gI S i = gI Y i) → pc (m_x12_tries_L133 n x S) (fun o => o.1 = 0 ∧ BKm Y o.2) := by
    refine fr_ind (fun _ _ _ _ _ _ _ => pc_none) (fun n ih x S hx h1 h2 h3 h5 => ?_)
    show pc (m_x12_tries_b133 (m_x12_tries_L133 n) x S) _
    unfold m_x12_tries_b133
    refine pc_rg (pc_if (fun c => L164 FU 0 S (by omega) (fun k k1 _ => h1 k k1) (fun i hi => h2 i (by omega)) h3 (fun i hi => absurd hi (by omega)) h5) (fun c => pc_rdI (fun _ => pc_inb (pc_stn (fun s16 e16 => ih (x + 1) s16 (by omega) (fun k hk => (q_Aa e16 hk).trans (h1 k hk)) (fun i hi => ?_) (fun i hi => by rw [(q_AA e16 : gA s16 49 = _), upZ_n (by omega)]; exact h3 i hi) (fun i => (q_Ai e16).trans (h5 i)))))))
    rw [(q_AA e16 : gA s16 49 = _)]
    by_cases z : i = x.toNat
    · rw [z, upZ_s, h1 59 (by decide)]
    · rw [upZ_n z]; exact h2 i (by omega)
  exact L133 FU 0 Y (by omega) (fun _ _ => rfl) (fun i hi => absurd hi (by omega)) (fun _ _ => rfl) (fun _ => rfl)
theorem m_tries2 {v : Nat} {key val : Int} {t : MS} : pc (m_x12_tries 2 (v : Int) key val t) (fun o => ∃ X Y, SVm t X ∧ m_x12_puts (v : Int) key val X = some Y ∧ ((gI Y 55 = 0 ∧ o = (1, Y)) ∨ (gI Y 55 ≠ 0 ∧ o.1 = 0 ∧ BKm Y o.2))) := by
  have L34 : ∀ (n : Nat) (x : Int) (S : MS), (0 ≤ x ∧ x ≤ 48) → (∀ k, k ≠ 59 → k ≠ 60 → gA S k = gA t k) → (∀ i, i < 785 → gA S 59 i = gA t 49 i) → (∀ i : Nat, (i : Int) < x → gA S 60 i = gA t 54 i) → (∀ i, gI S i = gI t i) → (Rr t → Rr S) → pc (m_x12_tries_L34 n 2 (v : Int) key val x S) (fun o => ∃ X Y, SVm t X ∧ m_x12_puts (v : Int) key val X = some Y ∧ ((gI Y 55 = 0 ∧ o = (1, Y)) ∨ (gI Y 55 ≠ 0 ∧ o.1 = 0 ∧ BKm Y o.2))) := by
    refine fr_ind (fun _ _ _ _ _ _ _ _ => pc_none) (fun n ih x S hx h1 h2 h3 h5 h6 => ?_)
    show pc (m_x12_tries_b34 (m_x12_tries_L34 n) 2 (v : Int) key val x S) _
    unfold m_x12_tries_b34 m_x12_tries_J81 m_x12_tries_J82 m_x12_tries_J121
    refine pc_rg (pc_if (fun c => pc_rg (pc_if (fun c2 => absurd c2 (by decide)) (fun _ => pc_bo (pc_stn (fun X eX => pc_rg (pc_if (fun _ => pc_rg (pc_if (fun _ => pc_bn (fun Y eY => ?_)) (fun c4 => absurd rfl c4))) (fun c3 => absurd (q_II eX) c3))))))) (fun c => pc_rdI (fun _ => pc_inb (pc_bo2 (fun b01 => pc_stn (fun s63 e63 => ih (x + 1) s63 (by omega) (fun k k1 k2 => (q_Aa e63 k2).trans (h1 k k1 k2)) (fun i hi => by rw [(q_Aa e63 (by decide) : gA s63 59 = gA S 59)]; exact h2 i hi) (fun i hi => ?_) (fun i => (q_Ai e63).trans (h5 i)) (fun hr => e63 ▸ Rr.uAu (h6 hr) (by show (0 : Int) ≤ gA S 54 x.toNat ∧ gA S 54 x.toNat ≤ 1; omega))))))))
    · have SX : SVm t X := ⟨fun k k1 k2 => (q_Ia eX).trans (h1 k k1 k2), fun i hi => by rw [(q_Ia eX : gA X 59 = gA S 59)]; exact h2 i hi, fun i hi => by rw [(q_Ia eX : gA X 60 = gA S 60)]; exact h3 i (by omega), fun i hi => (q_Ii eX hi).trans (h5 i), q_II eX, fun hr => eX ▸ Rr.uI (h6 hr) (by show (0 : Int) ≤ 0 ∧ (0 : Int) ≤ 1; omega)⟩
      exact pc_rg (pc_if (fun c5 => pc_some ⟨X, Y, SX, eY, Or.inl ⟨c5, rfl⟩⟩) (fun c5 => pc_mono m_back (fun o ho => ⟨X, Y, SX, eY, Or.inr ⟨c5, ho.1, ho.2⟩⟩)))
    · rw [(q_AA e63 : gA s63 60 = _)]
      by_cases z : i = x.toNat
      · rw [z, upZ_s, h1 54 (by decide) (by decide)]
      · rw [upZ_n z]; exact h3 i (by omega)
  have L3 : ∀ (n : Nat) (x : Int) (S : MS), (0 ≤ x ∧ x ≤ 785) → (∀ k, k ≠ 59 → gA S k = gA t k) → (∀ i : Nat, (i : Int) < x → gA S 59 i = gA t 49 i) → (∀ i, gI S i = gI t i) → (Rr t → Rr S) → pc (m_x12_tries_L3 n 2 (v : Int) key val x S) (fun o => ∃ X Y, SVm t X ∧ m_x12_puts (v : Int) key val X = some Y ∧ ((gI Y 55 = 0 ∧ o = (1, Y)) ∨ (gI Y 55 ≠ 0 ∧ o.1 = 0 ∧ BKm Y o.2))) := by
    refine fr_ind (fun _ _ _ _ _ _ _ => pc_none) (fun n ih x S hx h1 h2 h5 h6 => ?_)
    show pc (m_x12_tries_b3 (m_x12_tries_L3 n) 2 (v : Int) key val x S) _
    unfold m_x12_tries_b3
    refine pc_rg (pc_if (fun c => L34 FU 0 S (by omega) (fun k k1 _ => h1 k k1) (fun i hi => h2 i (by omega)) (fun i hi => absurd hi (by omega)) h5 h6) (fun c => pc_rdI (fun _ => pc_inb (pc_stn (fun s74 e74 => ih (x + 1) s74 (by omega) (fun k hk => (q_Aa e74 hk).trans (h1 k hk)) (fun i hi => ?_) (fun i => (q_Ai e74).trans (h5 i)) (fun hr => e74 ▸ Rr.uAu (h6 hr) (by show R2 (gA S 49 x.toNat); exact R49 (h6 hr) (by omega))))))))
    rw [(q_AA e74 : gA s74 59 = _)]
    by_cases z : i = x.toNat
    · rw [z, upZ_s, h1 49 (by decide)]
    · rw [upZ_n z]; exact h2 i (by omega)
  unfold m_x12_tries
  exact L3 FU 0 t (by omega) (fun _ _ => rfl) (fun i hi => absurd hi (by omega)) (fun _ => rfl) id
/-- alike below 785 -/
theorem OI_785 {t o : MS} {lo hi : Nat → Int} (H : OI t lo hi) (e : ∀ i, i < 785 → gA o 49 i = gA t 49 i) : OI o lo hi := by
  refine OI_same H (fun x hx hl => ⟨?_, Or.inl ⟨e (19 + 16 * x) (by omega), e (20 + 16 * x) (by omega), fun k => ?_⟩⟩)
  · have c1 : cM o x = cM t x := e (17 + 16 * x) (by omega)
    have c2 : vM o x = vM t x := e (18 + 16 * x) (by omega)
    unfold LV at hl ⊢
    rw [← c1, ← c2]; exact hl
  · show (if k < 6 then gA o 49 (27 + 16 * x + k) else 0) = (if k < 6 then gA t 49 (27 + 16 * x + k) else 0) ∧ (if k < 6 then gA o 49 (21 + 16 * x + k) else 0) = if k < 6 then gA t 49 (21 + 16 * x + k) else 0
    by_cases z : k < 6
    · rw [if_pos z, if_pos z, if_pos z, if_pos z, e _ (by omega), e _ (by omega)]
      exact ⟨rfl, rfl⟩
    · rw [if_neg z, if_neg z, if_neg z, if_neg z]
      exact ⟨rfl, rfl⟩
theorem BC_v3 {s o : MS} (hR : Rg s) (e : m_x8_become_v3 s = some o) : Rg o ∧ BC s o 54 72 1060 1420 := by
  obtain ⟨r, h1, h2, h3, h4, h5⟩ := wp_det (w_x8_become_v3 hR) e
  exact ⟨r, h1, h2, h3, h4, h5⟩
theorem BC_v4 {s o : MS} (hR : Rg s) (hp : gI s 1421 ≤ 999999) (e : m_x8_become_v4 s = some o) : Rg o ∧ BC s o 72 54 1420 1060 := by
  obtain ⟨r, h1, h2, h3, h4, h5⟩ := wp_det (w_x8_become_v4 hR hp) e
  exact ⟨r, h1, h2, h3, h4, h5⟩
/-- a try that failed: both sides are as before -/
theorem sim_back {π σ : Nat → Nat} {s s5 q8 s12 t X Y o : MS} (h : SIM π σ s t) (hK : KLV t) (b3 : BC s s5 54 72 1060 1420) (l3 : gL s5 1422 = gL s 1062) (kA : ∀ k, 72 ≤ k → k ≤ 79 → gA q8 k = gA s5 k) (kI : ∀ k, k = 1420 ∨ k = 1421 → gI q8 k = gI s5 k) (kL : gL q8 1422 = gL s5 1422) (b4 : BC q8 s12 72 54 1420 1060) (l4 : gL s12 1062 = gL q8 1422) (SX : SVm t X) (Y59 : gA Y 59 = gA X 59) (Y60 : gA Y 60 = gA X 60) (Y39 : gA Y 39 = gA X 39) (B : BKm Y o) : SIM π σ s12 o ∧ ∀ i, i < 785 → gA o 49 i = gA t 49 i := by
  have e49 : ∀ i, i < 785 → gA o 49 i = gA t 49 i := fun i hi => by rw [B.2.1 i hi, Y59, SX.2.1 i hi]
  have zz : ∀ x, x < 48 → 0 < cR (gA t 49) x ∨ 0 < vR (gA t 49) x → (hR (gA t 49)).2.1 x ≤ 6 := fun x hx l => (hK.2.1 x hx l).1.1.2.1.2
  have T1 : TRf π σ (gI s 1060) s5 72 (gA t 49) := TRf_c h.1 b3 zz
  have T2 : TRf π σ (gI s 1060) q8 72 (gA t 49) := by
    obtain ⟨p, c, l, r⟩ := T1
    have e1 : hB q8 72 = hB s5 72 := by
      unfold hB
      rw [kA (72 + 2) (by decide) (by decide), kA (72 + 3) (by decide) (by decide), kA (72 + 5) (by decide) (by decide)]
    have e2 : kB q8 72 = kB s5 72 := by
      unfold kB
      rw [kA (72 + 4) (by decide) (by decide)]
    refine ⟨p, fun x hx => ?_, fun x hx q => ?_, fun v hv => ?_⟩
    · rw [kA 72 (by decide) (by decide), kA (72 + 1) (by decide) (by decide)]; exact c x hx
    · rw [e1, e2]; exact l x hx q
    · rw [kA (72 + 6) (by decide) (by decide), kA (72 + 7) (by decide) (by decide)]; exact r v hv
  have T3 : TRf π σ (gI s 1060) s12 54 (gA t 49) := TRf_c T2 b4 zz
  have n12 : gI s12 1060 = gI s 1060 := by rw [b4.2.2.2.1, kI 1420 (Or.inl rfl), b3.2.2.2.1]
  refine ⟨⟨by rw [n12]; exact TRf_r T3 e49, ?_, fun x hx q => ?_⟩, e49⟩
  · rw [n12, B.1 39 (by decide) (by decide), Y39, SX.1 39 (by decide) (by decide)]; exact h.2.1
  · have q' : 0 < cM t x := by
      have e : cM o x = cM t x := e49 (17 + 16 * x) (by omega)
      rw [← e]; exact q
    rw [l4, kL, l3, B.2.2.2.1 (x) hx, Y60, SX.2.2.1 x hx]
    exact h.2.2 x hx q'
def TRY (q o : Int × MS) : Prop := q.1 = o.1 ∧ gI o.2 55 = 0 ∧ ∃ π σ lo hi, SIM π σ q.2 o.2 ∧ ZP q.2 o.2 ∧ OI o.2 lo hi
theorem y_tryPlant {π σ : Nat → Nat} {s t : MS} {lo hj : Nat → Int} {v : Nat} {key val : Int} (h : SIM π σ s t) (hZ : ZP s t) (hR : Rg s) (hRt : Rr t) (S0 : TS s Z0 (-1)) (H : RT t) (hC0 : CE t 0) (hC1 : CE t 1) (hN0 : 0 ≤ gA t 39 5) (hE : 3 ≤ gA t 39 6 ∧ gA t 39 6 ≤ 6) (h581 : 3 ≤ gI s 581) (hsp : gI s 1061 ≤ 999999) (hv : v < 8) (hrt : (0 ≤ gA t 49 v ∧ gA t 49 v < 254) ∨ gA t 49 v = 254) (hO : OI t lo hj) (hkey : 0 ≤ key ∧ key ≤ 999) (hval : 0 ≤ val ∧ val ≤ 999) : pc (m_x1_tryPlant (v : Int) key val s) (fun q => pc (m_x12_tries 2 (v : Int) key val t) (fun o => TRY q o)) := by
  have hK : KLV t := KLV_of H.1 (fun _ _ => Int.le_refl 0)
  unfold m_x1_tryPlant m_x1_tryPlant_J36
  refine pc_bn (fun s5 e5 => pc_bn (fun q8 e8 => ?_))
  obtain ⟨R5, b3⟩ := BC_v3 hR e5
  have l3 := s_v3 s5 e5
  have F5 : F_x8_become_v3 s s5 := fr_x8_become_v3 e5
  have F8 : F_x1_plant s5 q8.2 := fr_x1_plant e8
  have T5 : TS s5 Z0 (-1) := TS_eq S0 (F5.2.1 54 (by decide)) (F5.2.1 55 (by decide)) (F5.2.1 56 (by decide)) (F5.2.1 57 (by decide)) (F5.2.1 58 (by decide)) (F5.2.1 59 (by decide)) (F5.2.1 60 (by decide)) (F5.2.1 61 (by decide)) (F5.1 1060 (by decide)) (F5.1 581 (by decide))
  have JO : ∀ X, SVm t X → pc (m_x12_puts (v : Int) key val X) (fun Y => CON q8 Y) := fun X SX => by
    have x49 : gA X 49 = gA t 49 := SX.1 49 (by decide) (by decide)
    have x39 : gA X 39 = gA t 39 := SX.1 39 (by decide) (by decide)
    have HX : SIM π σ s5 X := SIM_k h (fun k k1 k2 => F5.2.1 k (by simp; omega)) (F5.1 1060 (by decide)) (F5.2.2.1 1062 (by decide)) x49 (by rw [x39]) (SX.1 54 (by decide) (by decide))
    have ZX : ZP s5 X := ZP_k hZ (F5.1 581 (by decide)) (F5.1 741 (by decide)) (fun k k1 k2 => F5.2.1 k (by simp; omega)) (fun k hk => SX.1 k (by omega) (by omega))
    exact y_plant HX ZX R5 (SX.2.2.2.2.2 hRt) T5 (RT_x H (fun k _ => by rw [x49]) (by rw [x39]) (by rw [x39])) (CE_eq hC0 (SX.1 42 (by decide) (by decide)) (SX.1 43 (by decide) (by decide)) (SX.1 44 (by decide) (by decide))) (CE_eq hC1 (SX.1 42 (by decide) (by decide)) (SX.1 43 (by decide) (by decide)) (SX.1 44 (by decide) (by decide))) (by rw [x39]; exact hN0) (by rw [x39]; exact hE) (by rw [F5.1 581 (by decide)]; exact h581) SX.2.2.2.2.1 hv (by rw [x49]; exact hrt) (OI_49 hO x49) hkey hval q8 e8
  refine pc_rg (pc_if (fun c => pc_bn (fun s12 e12 => pc_bo (pc_some ?_))) (fun c => pc_bo (pc_some ?_)))
  · refine pc_mono m_tries2 (fun o ho => ?_)
    obtain ⟨X, Y, SX, eY, hY⟩ := ho
    rcases JO X SX Y eY with ⟨_, y55⟩ | ⟨z, _⟩
    · rcases hY with ⟨z, _⟩ | ⟨_, o1, B⟩
      · omega
      have FY : F_x12_puts X Y := fr_x12_puts eY
      have R8 : Rg q8.2 := (wp_det (ts_plant R5 T5 (by rw [F5.1 581 (by decide)]; exact h581) (p0 := (v : Int)) ⟨by omega, by omega⟩ (by
        rw [Int.toNat_natCast, F5.2.1 60 (by decide)]
        have q := rtr_e (h.1.2.2.2 v hv).1
        intro w
        have := q.1.1 w
        omega) hkey hval) e8).1
      have i1421 : gI q8.2 1421 = gI s 1061 := by rw [F8.1 1421 (by decide)]; exact b3.2.2.2.2
      obtain ⟨R12, b4⟩ := BC_v4 R8 (by rw [i1421]; exact hsp) e12
      have F12 : F_x8_become_v4 q8.2 s12 := fr_x8_become_v4 e12
      have K := sim_back h hK b3 l3 (fun k k1 k2 => F8.2.1 k (by simp; omega)) (fun k hk => F8.1 k (by simp; omega)) (F8.2.2.1 1422 (by decide)) b4 (s_v4 s12 e12) SX (FY.2.1 59 (by decide)) (FY.2.1 60 (by decide)) (FY.2.1 39 (by decide)) B
      refine ⟨c.trans o1.symm, B.2.2.2.2.2, π, σ, lo, hj, K.1, ZP_k hZ ?_ ?_ (fun k k1 k2 => ?_) (fun k hk => ?_), OI_785 hO K.2⟩
      · rw [F12.1 581 (by decide), F8.1 581 (by decide), F5.1 581 (by decide)]
      · rw [F12.1 741 (by decide), F8.1 741 (by decide), F5.1 741 (by decide)]
      · rw [F12.2.1 k (by simp; omega), F8.2.1 k (by simp; omega), F5.2.1 k (by simp; omega)]
      · rw [B.1 k (by omega) (by omega), FY.2.1 k (by simp; omega), SX.1 k (by omega) (by omega)]
    · omega
  · refine pc_mono m_tries2 (fun o ho => ?_)
    obtain ⟨X, Y, SX, eY, hY⟩ := ho
    rcases JO X SX Y eY with ⟨z, _⟩ | ⟨z, y55, π', σ', lo', hi', G1, G2, G3⟩
    · exact absurd z c
    · rcases hY with ⟨_, rfl⟩ | ⟨w, _⟩
      · exact ⟨z, y55, π', σ', lo', hi', G1, G2, G3⟩
      · exact absurd y55 w
