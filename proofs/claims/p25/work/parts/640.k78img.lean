/-! ===== an image's bytes, read on both sides ===== -/
def nxp (g : Nat → Int) (p : Nat) : Nat := if g p = 0 ∧ g (p + 1) = 0 then p + 2 else p + 4 + 4 * (g (p + 3)).toNat
def PO (g : Nat → Int) : Nat → Nat
  | 0 => 19
  | b + 1 => nxp g (PO g b)
theorem PO_s (g : Nat → Int) (b : Nat) : PO g (b + 1) = nxp g (PO g b) := rfl
theorem nxp_lt (g : Nat → Int) (p : Nat) : p + 2 ≤ nxp g p := by
  unfold nxp
  split <;> omega
theorem PO_le {g : Nat → Int} {a b : Nat} (h : a ≤ b) : PO g a ≤ PO g b := by
  induction b with
  | zero => rw [show a = 0 by omega]; exact Nat.le_refl _
  | succ b ih =>
    by_cases z : a = b + 1
    · rw [z]; exact Nat.le_refl _
    · have := ih (by omega)
      have := nxp_lt g (PO g b)
      rw [PO_s]; omega
/-- a block's entries as they lie from p on -/
def ke (g : Nat → Int) (p k : Nat) : Int := 256 * g (p + 4 + 4 * k) + g (p + 5 + 4 * k)
def ve (g : Nat → Int) (p k : Nat) : Int := 256 * g (p + 6 + 4 * k) + g (p + 7 + 4 * k)
def thr (g : Nat → Int) (p : Nat) : Prop := ¬ (g p = 0 ∧ g (p + 1) = 0)
theorem nxp_0 {g : Nat → Int} {p : Nat} (h : ¬ thr g p) : nxp g p = p + 2 := if_pos (Classical.not_not.1 h)
theorem nxp_1 {g : Nat → Int} {p : Nat} (h : thr g p) : nxp g p = p + 4 + 4 * (g (p + 3)).toNat := if_neg h
/-- the class's byte at p: one too far it may read -/
def bt (g : Nat → Int) (e p : Nat) : Int := if p ≤ e then g p else -1
theorem bt_in {g : Nat → Int} {e p : Nat} (h : p ≤ e) : bt g e p = g p := if_pos h
/-- the tape, as the class reads it -/
def TPc (S : MS) (g : Nat → Int) (e : Nat) : Prop := gA S 4 = g ∧ gI S 61 = (e : Int) + 1
theorem TPc_k {S o : MS} {g : Nat → Int} {e : Nat} (h : TPc S g e) (a : gA o 4 = gA S 4) (b : gI o 61 = gI S 61) : TPc o g e := ⟨a.trans h.1, b.trans h.2⟩
theorem s_next {S : MS} {g : Nat → Int} {e p : Nat} (h : TPc S g e) (hp : gI S 322 = (p : Int)) : pc (m_x4_next S) (fun q => q.1 = bt g e p ∧ gI q.2 322 = (p : Int) + 1 ∧ TPc q.2 g e ∧ (∀ k, gA q.2 k = gA S k) ∧ ∀ i, i ≠ 322 → gI q.2 i = gI S i) := by
  unfold m_x4_next
  refine pc_bq s_at (fun r hr => pc_stn (fun s3 e3 => pc_some ⟨?_, ?_, TPc_k h (q_Ia e3) (q_Ii e3 (by decide)), fun k => q_Ia e3, fun i hi => q_Ii e3 hi⟩))
  · show r = bt g e p
    unfold bt
    rw [hp, h.1, h.2, Int.toNat_natCast] at hr
    rcases hr with ⟨⟨_, a⟩, b⟩ | ⟨a, b⟩
    · rw [if_pos (by omega)]; exact b
    · rw [if_neg (by omega)]; exact b
  · rw [q_II e3, hp]
theorem s_pair {S : MS} {g : Nat → Int} {e p : Nat} (h : TPc S g e) (hp : gI S 322 = (p : Int)) : pc (m_x4_nextPair S) (fun q => q.1 = 256 * bt g e p + bt g e (p + 1) ∧ gI q.2 322 = (p : Int) + 2 ∧ TPc q.2 g e ∧ (∀ k, gA q.2 k = gA S k) ∧ ∀ i, i ≠ 322 → gI q.2 i = gI S i) := by
  unfold m_x4_nextPair
  refine pc_bq (s_next h hp) (fun q3 h3 => ?_)
  obtain ⟨a1, a2, a3, a4, a5⟩ := h3
  refine pc_bq (s_next a3 (p := p + 1) (by rw [a2]; omega)) (fun q6 h6 => pc_some ?_)
  obtain ⟨b1, b2, b3, b4, b5⟩ := h6
  refine ⟨?_, ?_, b3, fun k => (b4 k).trans (a4 k), fun i hi => (b5 i hi).trans (a5 i hi)⟩
  · show q3.1 * 256 + q6.1 = _
    rw [a1, b1]; omega
  · show gI q6.2 322 = _
    rw [b2]; omega
/-- a block that the class read: free, or there -/
def CBl (S : MS) (g : Nat → Int) (e p b : Nat) : Prop := (gA S 72 b = bt g e p ∧ gA S 73 b = bt g e (p + 1)) ∧ (¬ (bt g e p = 0 ∧ bt g e (p + 1) = 0) → gA S 74 b = bt g e (p + 2) ∧ gA S 75 b = bt g e (p + 3) ∧ ∀ k : Nat, (k : Int) < bt g e (p + 3) → gA S 76 (6 * b + k) = 256 * bt g e (p + 4 + 4 * k) + bt g e (p + 5 + 4 * k) ∧ gA S 77 (6 * b + k) = 256 * bt g e (p + 6 + 4 * k) + bt g e (p + 7 + 4 * k))
/-- what the class asks of a block while it reads -/
def COK (g : Nat → Int) (e p : Nat) (E : Int) : Prop := (0 ≤ bt g e p ∧ 0 ≤ bt g e (p + 1)) ∧ (¬ (bt g e p = 0 ∧ bt g e (p + 1) = 0) → (0 ≤ bt g e (p + 2) ∧ bt g e (p + 2) < 48) ∧ (1 ≤ bt g e (p + 3) ∧ bt g e (p + 3) ≤ E) ∧ ∀ k : Nat, (k : Int) < bt g e (p + 3) → (0 ≤ 256 * bt g e (p + 4 + 4 * k) + bt g e (p + 5 + 4 * k) ∧ 256 * bt g e (p + 4 + 4 * k) + bt g e (p + 5 + 4 * k) ≤ 999) ∧ (0 ≤ 256 * bt g e (p + 6 + 4 * k) + bt g e (p + 7 + 4 * k) ∧ 256 * bt g e (p + 6 + 4 * k) + bt g e (p + 7 + 4 * k) ≤ 999))
def CNx (g : Nat → Int) (e p : Nat) : Int := if bt g e p = 0 ∧ bt g e (p + 1) = 0 then (p : Int) + 2 else (p : Int) + 4 + 4 * bt g e (p + 3)
theorem s_isKey2 {p : Int} {s : MS} : pc (m_x11_isKey p s) (fun r => (r = 1 ∧ (0 ≤ p ∧ p ≤ 999)) ∨ (r = 0 ∧ ¬ (0 ≤ p ∧ p ≤ 999))) := by
  unfold m_x11_isKey m_x11_isKey_J15 m_x11_isKey_J16
  exact pc_rg (pc_if (fun c => pc_bo (pc_some (Or.inr ⟨rfl, fun w => by omega⟩))) (fun c => pc_rg (pc_if (fun c2 => pc_bo (pc_some (Or.inr ⟨rfl, fun w => by omega⟩))) (fun c2 => pc_bo (pc_some (Or.inl ⟨rfl, by omega, by omega⟩))))))
theorem s_free2 {b : Nat} {S : MS} (hb : (b : Int) < gI S 1420) : pc (m_x8_isFree_v2 (b : Int) S) (fun r => (r = 1 ∧ gA S 72 b = 0 ∧ gA S 73 b = 0) ∨ (r = 0 ∧ ¬ (gA S 72 b = 0 ∧ gA S 73 b = 0))) := by
  have B : pc (m_x8_isBlock_v2 (b : Int) S) (fun r => r = 1) := by
    unfold m_x8_isBlock_v2 m_x8_isBlock_v2_J16 m_x8_isBlock_v2_J17
    exact pc_rg (pc_if (fun c => absurd c (by omega)) (fun _ => pc_rg (pc_rg (pc_if (fun c => absurd c (by omega)) (fun _ => pc_bo (pc_some rfl))))))
  have tb : ((b : Nat) : Int).toNat = b := Int.toNat_natCast _
  unfold m_x8_isFree_v2 m_x8_isFree_v2_J30 m_x8_isFree_v2_J31
  refine pc_bq B (fun r4 h4 => pc_rg (pc_if (fun c => absurd (h4.symm.trans c) (by decide)) (fun _ => pc_rdI (fun _ => ?_))))
  rw [tb]
  refine pc_rg (pc_if (fun c => pc_rdI (fun _ => ?_)) (fun c => pc_bo (pc_some (Or.inr ⟨rfl, fun w => c w.1⟩))))
  rw [tb]
  exact pc_rg (pc_if (fun c2 => pc_bo (pc_some (Or.inl ⟨rfl, c, c2⟩))) (fun c2 => pc_bo (pc_some (Or.inr ⟨rfl, fun w => c2 w.2⟩))))
set_option maxHeartbeats 1000000 in
/-- a block's entries, as the class reads them -/
theorem s_entries {b e p0 : Nat} {g : Nat → Int} {n : Int} (hb : b < 48) (hn : 1 ≤ n ∧ n ≤ 6) : ∀ (m : Nat) (ok : Int) (k : Nat) (S : MS), (k : Int) ≤ n → gA S 75 b = n → TPc S g e → gI S 322 = ((p0 + 4 * k : Nat) : Int) → (ok = 0 ∨ ok = 1) → (∀ j, j < k → gA S 76 (6 * b + j) = 256 * bt g e (p0 + 4 * j) + bt g e (p0 + 1 + 4 * j) ∧ gA S 77 (6 * b + j) = 256 * bt g e (p0 + 2 + 4 * j) + bt g e (p0 + 3 + 4 * j)) → (ok = 1 ↔ ∀ j, j < k → (0 ≤ gA S 76 (6 * b + j) ∧ gA S 76 (6 * b + j) ≤ 999) ∧ (0 ≤ gA S 77 (6 * b + j) ∧ gA S 77 (6 * b + j) ≤ 999)) → pc (m_x4_loadBlock_L123 m (b : Int) ok (k : Int) S) (fun q => (q.1 = 0 ∨ q.1 = 1) ∧ TPc q.2 g e ∧ gI q.2 322 = (p0 : Int) + 4 * n ∧ (∀ j : Nat, (j : Int) < n → gA q.2 76 (6 * b + j) = 256 * bt g e (p0 + 4 * j) + bt g e (p0 + 1 + 4 * j) ∧ gA q.2 77 (6 * b + j) = 256 * bt g e (p0 + 2 + 4 * j) + bt g e (p0 + 3 + 4 * j)) ∧ (q.1 = 1 ↔ ∀ j : Nat, (j : Int) < n → (0 ≤ gA q.2 76 (6 * b + j) ∧ gA q.2 76 (6 * b + j) ≤ 999) ∧ (0 ≤ gA q.2 77 (6 * b + j) ∧ gA q.2 77 (6 * b + j) ≤ 999)) ∧ (∀ x, ¬ (6 * b ≤ x ∧ x < 6 * b + 6) → gA q.2 76 x = gA S 76 x ∧ gA q.2 77 x = gA S 77 x) ∧ (∀ k, k ≠ 76 → k ≠ 77 → gA q.2 k = gA S k)) := by
  have tb : ((b : Nat) : Int).toNat = b := Int.toNat_natCast _
  refine fr_ind (fun _ _ _ _ _ _ _ _ _ _ => pc_none) (fun m ih ok k S hk h75 hT h322 ho h1 h2 => ?_)
  show pc (m_x4_loadBlock_b123 (m_x4_loadBlock_L123 m) (b : Int) ok (k : Int) S) _
  unfold m_x4_loadBlock_b123 m_x4_loadBlock_J201 m_x4_loadBlock_J202
  refine pc_rdI (fun _ => ?_)
  rw [tb, h75]
  refine pc_rg (pc_rg (pc_if (fun c => pc_bo (pc_some ?_)) (fun c => ?_)))
  · have kn : (k : Int) = n := by omega
    refine ⟨ho, hT, by rw [h322]; omega, fun j hj => h1 j (by omega), ?_, fun _ _ => ⟨rfl, rfl⟩, fun _ _ _ => rfl⟩
    exact h2.trans ⟨fun w j hj => w j (by omega), fun w j hj => w j (by omega)⟩
  · refine pc_bq (s_pair hT h322) (fun q19 h19 => ?_)
    obtain ⟨a1, a2, a3, a4, _⟩ := h19
    refine pc_bq (s_pair a3 (p := p0 + 4 * k + 2) (by rw [a2]; omega)) (fun q22 h22 => ?_)
    obtain ⟨b1, b2, b3, b4, _⟩ := h22
    refine pc_bn (fun r24 e24 => pc_inb (pc_stn (fun s26 e26 => pc_bn (fun r28 e28 => pc_inb (pc_stn (fun s30 e30 => ?_))))))
    have sl : r24 = ((6 * b + k : Nat) : Int) := by
      unfold m_x8_slot_v2 at e24
      have q := Option.some.inj e24
      omega
    have sl2 : r28 = ((6 * b + k : Nat) : Int) := by
      unfold m_x8_slot_v2 at e28
      have q := Option.some.inj e28
      omega
    rw [sl, Int.toNat_natCast] at e26
    rw [sl2, Int.toNat_natCast] at e30
    have k76 : gA s30 76 = upZ (gA S 76) (6 * b + k) q19.1 := by
      rw [(q_Aa e30 (by decide) : gA s30 76 = gA s26 76), (q_AA e26 : gA s26 76 = _), b4, a4]
    have k77 : gA s30 77 = upZ (gA S 77) (6 * b + k) q22.1 := by
      rw [(q_AA e30 : gA s30 77 = _), (q_Aa e26 (by decide) : gA s26 77 = _), b4, a4]
    have kk : ∀ x, x ≠ 76 → x ≠ 77 → gA s30 x = gA S x := fun x x1 x2 => by rw [(q_Aa e30 x2 : gA s30 x = gA s26 x), (q_Aa e26 x1 : gA s26 x = _), b4, a4]
    have T30 : TPc s30 g e := TPc_k b3 ((q_Aa e30 (by decide)).trans (q_Aa e26 (by decide))) ((q_Ai e30).trans (q_Ai e26))
    have i30 : gI s30 322 = ((p0 + 4 * (k + 1) : Nat) : Int) := by
      rw [(q_Ai e30 : gI s30 322 = gI s26 322), (q_Ai e26 : gI s26 322 = _), b2]; omega
    have n1 : ∀ j, j < k + 1 → gA s30 76 (6 * b + j) = 256 * bt g e (p0 + 4 * j) + bt g e (p0 + 1 + 4 * j) ∧ gA s30 77 (6 * b + j) = 256 * bt g e (p0 + 2 + 4 * j) + bt g e (p0 + 3 + 4 * j) := fun j hj => by
      rw [k76, k77]
      by_cases z : j = k
      · rw [z, upZ_s, upZ_s, a1, b1]
        exact ⟨by rw [show p0 + 1 + 4 * k = p0 + 4 * k + 1 by omega], by rw [show p0 + 2 + 4 * k = p0 + 4 * k + 2 by omega, show p0 + 3 + 4 * k = p0 + 4 * k + 2 + 1 by omega]⟩
      · rw [upZ_n (by omega), upZ_n (by omega)]; exact h1 j (by omega)
    have e76 : gA s30 76 (6 * b + k) = q19.1 := by rw [k76, upZ_s]
    have e77 : gA s30 77 (6 * b + k) = q22.1 := by rw [k77, upZ_s]
    have old : ∀ j, j < k → gA s30 76 (6 * b + j) = gA S 76 (6 * b + j) ∧ gA s30 77 (6 * b + j) = gA S 77 (6 * b + j) := fun j hj => by
      rw [k76, k77, upZ_n (by omega), upZ_n (by omega)]; exact ⟨rfl, rfl⟩
    -- the step with the word that says whether all is well so far
    have GO : ∀ ok' : Int, (ok' = 0 ∨ ok' = 1) → (ok' = 1 ↔ (ok = 1 ∧ (0 ≤ q19.1 ∧ q19.1 ≤ 999) ∧ (0 ≤ q22.1 ∧ q22.1 ≤ 999))) → pc (m_x4_loadBlock_L123 m (b : Int) ok' ((k : Int) + 1) s30) (fun q => (q.1 = 0 ∨ q.1 = 1) ∧ TPc q.2 g e ∧ gI q.2 322 = (p0 : Int) + 4 * n ∧ (∀ j : Nat, (j : Int) < n → gA q.2 76 (6 * b + j) = 256 * bt g e (p0 + 4 * j) + bt g e (p0 + 1 + 4 * j) ∧ gA q.2 77 (6 * b + j) = 256 * bt g e (p0 + 2 + 4 * j) + bt g e (p0 + 3 + 4 * j)) ∧ (q.1 = 1 ↔ ∀ j : Nat, (j : Int) < n → (0 ≤ gA q.2 76 (6 * b + j) ∧ gA q.2 76 (6 * b + j) ≤ 999) ∧ (0 ≤ gA q.2 77 (6 * b + j) ∧ gA q.2 77 (6 * b + j) ≤ 999)) ∧ (∀ x, ¬ (6 * b ≤ x ∧ x < 6 * b + 6) → gA q.2 76 x = gA S 76 x ∧ gA q.2 77 x = gA S 77 x) ∧ (∀ k, k ≠ 76 → k ≠ 77 → gA q.2 k = gA S k)) := fun ok' o1 o2 => by
      have step := ih ok' (k + 1) s30 (by omega) (by rw [kk 75 (by decide) (by decide)]; exact h75) T30 i30 o1 n1 (by
        rw [o2, h2]
        constructor
        · rintro ⟨w, w1, w2⟩ j hj
          by_cases z : j = k
          · rw [z, e76, e77]; exact ⟨w1, w2⟩
          · rw [(old j (by omega)).1, (old j (by omega)).2]; exact w j (by omega)
        · intro w
          have wk := w k (by omega)
          rw [e76, e77] at wk
          refine ⟨fun j hj => ?_, wk.1, wk.2⟩
          have wj := w j (by omega)
          rw [(old j hj).1, (old j hj).2] at wj
          exact wj)
      rw [show ((k : Int) + 1) = ((k + 1 : Nat) : Int) by omega]
      refine pc_mono step (fun q hq => ?_)
      obtain ⟨c1, c2, c3, c4, c5, c6, c7⟩ := hq
      refine ⟨c1, c2, c3, c4, c5, fun x hx => ?_, fun x x1 x2 => (c7 x x1 x2).trans (kk x x1 x2)⟩
      rw [(c6 x hx).1, (c6 x hx).2, k76, k77, upZ_n (by omega), upZ_n (by omega)]
      exact ⟨rfl, rfl⟩
    refine pc_rg (pc_if (fun c2 => GO 0 (Or.inl rfl) ⟨fun w => absurd w (by decide), fun w => by omega⟩) (fun c2 => pc_bq s_isKey2 (fun r34 h34 => ?_)))
    have ok1 : ok = 1 := ho.resolve_left c2
    refine pc_rg (pc_if (fun c3 => GO 0 (Or.inl rfl) ⟨fun w => absurd w (by decide), fun w => ?_⟩) (fun c3 => pc_bq s_isKey2 (fun r38 h38 => pc_rg (pc_if (fun c4 => GO 0 (Or.inl rfl) ⟨fun w => absurd w (by decide), fun w => ?_⟩) (fun c4 => GO 1 (Or.inr rfl) ⟨fun _ => ⟨ok1, ?_, ?_⟩, fun _ => rfl⟩)))))
    · rcases h34 with ⟨a, _⟩ | ⟨_, a⟩
      · exact absurd (a.symm.trans c3) (by decide)
      · exact absurd w.2.1 a
    · rcases h38 with ⟨a, _⟩ | ⟨_, a⟩
      · exact absurd (a.symm.trans c4) (by decide)
      · exact absurd w.2.2 a
    · rcases h34 with ⟨_, a⟩ | ⟨a, _⟩
      · exact a
      · exact absurd a c3
    · rcases h38 with ⟨_, a⟩ | ⟨a, _⟩
      · exact a
      · exact absurd a c4
