/-! ===== a block of an image, as the class reads it ===== -/
/-- what stays beside block b -/
def KBl (S o : MS) (b : Nat) : Prop := (∀ x, x ≠ b → gA o 72 x = gA S 72 x ∧ gA o 73 x = gA S 73 x ∧ gA o 74 x = gA S 74 x ∧ gA o 75 x = gA S 75 x) ∧ (∀ x, ¬ (6 * b ≤ x ∧ x < 6 * b + 6) → gA o 76 x = gA S 76 x ∧ gA o 77 x = gA S 77 x) ∧ ∀ k, (k < 72 ∨ 77 < k) → gA o k = gA S k
def PBl (g : Nat → Int) (e p b : Nat) (E : Int) (S : MS) (q : Int × MS) : Prop := (q.1 = 0 ∨ q.1 = 1) ∧ TPc q.2 g e ∧ (q.1 = 1 ↔ COK g e p E) ∧ (q.1 = 1 → gI q.2 322 = CNx g e p ∧ CBl q.2 g e p b) ∧ KBl S q.2 b
set_option maxHeartbeats 2000000 in
theorem s_block {b e p : Nat} {g : Nat → Int} {E : Int} {S : MS} (hb : b < 48) (hN : (b : Int) < gI S 1420) (hE : E ≤ 6) (hT : TPc S g e) (hp : gI S 322 = (p : Int)) : pc (m_x4_loadBlock (b : Int) E S) (PBl g e p b E S) := by
  have tb : ((b : Nat) : Int).toNat = b := Int.toNat_natCast _
  unfold m_x4_loadBlock m_x4_loadBlock_J40 m_x4_loadBlock_J115
  refine pc_bq (s_next hT hp) (fun q45 h45 => pc_inb (pc_stn (fun s47 e47 => ?_)))
  obtain ⟨a1, a2, a3, a4, a5⟩ := h45
  try rw [tb] at e47
  have T47 : TPc s47 g e := TPc_k a3 (q_Aa e47 (by decide)) (q_Ai e47)
  refine pc_bq (s_next T47 (p := p + 1) (by rw [(q_Ai e47 : gI s47 322 = _), a2]; omega)) (fun q50 h50 => pc_inb (pc_stn (fun s52 e52 => pc_rdI (fun _ => ?_))))
  obtain ⟨b1, b2, b3, b4, b5⟩ := h50
  try rw [tb] at e52
  have T52 : TPc s52 g e := TPc_k b3 (q_Aa e52 (by decide)) (q_Ai e52)
  have i52 : gI s52 322 = ((p + 2 : Nat) : Int) := by rw [(q_Ai e52 : gI s52 322 = _), b2]; omega
  have k72 : gA s52 72 = upZ (gA S 72) b q45.1 := by
    rw [(q_Aa e52 (by decide) : gA s52 72 = _), b4, (q_AA e47 : gA s47 72 = _), a4]
  have k73 : gA s52 73 = upZ (gA S 73) b q50.1 := by
    rw [(q_AA e52 : gA s52 73 = _), b4, (q_Aa e47 (by decide) : gA s47 73 = _), a4]
  have kk : ∀ k, k ≠ 72 → k ≠ 73 → gA s52 k = gA S k := fun k k1 k2 => by
    rw [(q_Aa e52 k2 : gA s52 k = _), b4, (q_Aa e47 k1 : gA s47 k = _), a4]
  have v72 : gA s52 72 b = bt g e p := by rw [k72, upZ_s, a1]
  have v73 : gA s52 73 b = bt g e (p + 1) := by rw [k73, upZ_s, b1]
  have n20 : gI s52 1420 = gI S 1420 := by
    rw [(q_Ai e52 : gI s52 1420 = _), b5 1420 (by decide), (q_Ai e47 : gI s47 1420 = _), a5 1420 (by decide)]
  have KB : KBl S s52 b := ⟨fun x hx => ⟨by rw [k72, upZ_n hx], by rw [k73, upZ_n hx], by rw [kk 74 (by decide) (by decide)], by rw [kk 75 (by decide) (by decide)]⟩, fun x _ => ⟨by rw [kk 76 (by decide) (by decide)], by rw [kk 77 (by decide) (by decide)]⟩, fun k hk => kk k (by omega) (by omega)⟩
  rw [tb, v72]
  have F1 : ¬ COK g e p E → ∀ X : MS, TPc X g e → KBl S X b → PBl g e p b E S (0, X) := fun n X t k => ⟨Or.inl rfl, t, ⟨fun w => absurd w (show ¬ ((0 : Int) = 1) by decide), fun w => absurd w n⟩, fun w => absurd w (show ¬ ((0 : Int) = 1) by decide), k⟩
  refine pc_rg (pc_if (fun c1 => pc_some (F1 (fun w => by have := w.1.1; omega) s52 T52 KB)) (fun c1 => pc_rdI (fun _ => ?_)))
  rw [tb, v73]
  refine pc_rg (pc_if (fun c2 => ?_) (fun c2 => pc_some (F1 (fun w => by have := w.1.2; omega) s52 T52 KB)))
  refine pc_bq (s_free2 (S := s52) (by rw [n20]; exact hN)) (fun r60 h60 => pc_rg (pc_if (fun c3 => ?_) (fun c3 => ?_)))
  rotate_left
  · -- it is free
    rcases h60 with ⟨_, y1, y2⟩ | ⟨y, _⟩
    rotate_left
    · exact absurd y c3
    rw [v72] at y1
    rw [v73] at y2
    have nt : ¬ ¬ (bt g e p = 0 ∧ bt g e (p + 1) = 0) := fun w => w ⟨y1, y2⟩
    refine pc_some ⟨Or.inr rfl, T52, ⟨fun _ => ⟨⟨by omega, by omega⟩, fun w => absurd w nt⟩, fun _ => rfl⟩, fun _ => ⟨?_, ⟨v72, v73⟩, fun w => absurd w nt⟩, KB⟩
    show gI s52 322 = CNx g e p
    unfold CNx
    rw [if_pos ⟨y1, y2⟩, i52]; omega
  have ht : ¬ (bt g e p = 0 ∧ bt g e (p + 1) = 0) := by
    rcases h60 with ⟨y, _⟩ | ⟨_, y⟩
    · exact absurd (y.symm.trans c3) (by decide)
    · rw [v72, v73] at y; exact y
  refine pc_bq (s_next T52 (p := p + 2) i52) (fun q65 h65 => pc_inb (pc_stn (fun s67 e67 => ?_)))
  obtain ⟨d1, d2, d3, d4, d5⟩ := h65
  try rw [tb] at e67
  have T67 : TPc s67 g e := TPc_k d3 (q_Aa e67 (by decide)) (q_Ai e67)
  refine pc_bq (s_next T67 (p := p + 3) (by rw [(q_Ai e67 : gI s67 322 = _), d2]; omega)) (fun q70 h70 => pc_inb (pc_stn (fun s72 e72 => pc_rdI (fun _ => ?_))))
  obtain ⟨f1, f2, f3, f4, f5⟩ := h70
  try rw [tb] at e72
  have T72 : TPc s72 g e := TPc_k f3 (q_Aa e72 (by decide)) (q_Ai e72)
  have i72 : gI s72 322 = ((p + 4 : Nat) : Int) := by rw [(q_Ai e72 : gI s72 322 = _), f2]; omega
  have k74 : gA s72 74 = upZ (gA S 74) b q65.1 := by
    rw [(q_Aa e72 (by decide) : gA s72 74 = _), f4, (q_AA e67 : gA s67 74 = _), d4, kk 74 (by decide) (by decide)]
  have k75 : gA s72 75 = upZ (gA S 75) b q70.1 := by
    rw [(q_AA e72 : gA s72 75 = _), f4, (q_Aa e67 (by decide) : gA s67 75 = _), d4, kk 75 (by decide) (by decide)]
  have k2 : ∀ k, k ≠ 74 → k ≠ 75 → gA s72 k = gA s52 k := fun k k1 k3 => by
    rw [(q_Aa e72 k3 : gA s72 k = _), f4, (q_Aa e67 k1 : gA s67 k = _), d4]
  have v74 : gA s72 74 b = bt g e (p + 2) := by rw [k74, upZ_s, d1]
  have v75 : gA s72 75 b = bt g e (p + 3) := by rw [k75, upZ_s, f1]
  have KB2 : KBl S s72 b := ⟨fun x hx => ⟨by rw [k2 72 (by decide) (by decide)]; exact (KB.1 x hx).1, by rw [k2 73 (by decide) (by decide)]; exact (KB.1 x hx).2.1, by rw [k74, upZ_n hx], by rw [k75, upZ_n hx]⟩, fun x hx => by rw [k2 76 (by decide) (by decide), k2 77 (by decide) (by decide)]; exact KB.2.1 x hx, fun k hk => (k2 k (by omega) (by omega)).trans (KB.2.2 k hk)⟩
  rw [tb, v74]
  refine pc_rg (pc_if (fun c4 => pc_some (F1 (fun w => by have := (w.2 ht).1; omega) s72 T72 KB2)) (fun c4 => pc_rdI (fun _ => ?_)))
  rw [tb, v74]
  refine pc_rg (pc_if (fun c5 => pc_some (F1 (fun w => by have := (w.2 ht).1; omega) s72 T72 KB2)) (fun c5 => pc_rdI (fun _ => ?_)))
  rw [tb, v75]
  refine pc_rg (pc_if (fun c6 => pc_some (F1 (fun w => by have := (w.2 ht).2.1; omega) s72 T72 KB2)) (fun c6 => pc_rdI (fun _ => ?_)))
  rw [tb, v75]
  refine pc_rg (pc_rg (pc_if (fun c7 => ?_) (fun c7 => pc_some (F1 (fun w => by have := (w.2 ht).2.1; omega) s72 T72 KB2))))
  have L := s_entries (b := b) (e := e) (p0 := p + 4) (g := g) (n := bt g e (p + 3)) hb (by omega) FU 1 0 s72 (by omega) v75 T72 (by rw [i72]; omega) (Or.inr rfl) (fun j hj => absurd hj (by omega)) ⟨fun _ j hj => absurd hj (by omega), fun _ => rfl⟩
  refine pc_mono L (fun q hq => ?_)
  obtain ⟨g1, g2, g3, g4, g5, g6, g7⟩ := hq
  have E4 : ∀ j : Nat, (j : Int) < bt g e (p + 3) → gA q.2 76 (6 * b + j) = 256 * bt g e (p + 4 + 4 * j) + bt g e (p + 5 + 4 * j) ∧ gA q.2 77 (6 * b + j) = 256 * bt g e (p + 6 + 4 * j) + bt g e (p + 7 + 4 * j) := fun j hj => by
    have w := g4 j hj
    rw [show p + 4 + 1 + 4 * j = p + 5 + 4 * j by omega, show p + 4 + 2 + 4 * j = p + 6 + 4 * j by omega, show p + 4 + 3 + 4 * j = p + 7 + 4 * j by omega] at w
    exact w
  have u72 : gA q.2 72 b = bt g e p := by rw [g7 72 (by decide) (by decide), k2 72 (by decide) (by decide)]; exact v72
  have u73 : gA q.2 73 b = bt g e (p + 1) := by rw [g7 73 (by decide) (by decide), k2 73 (by decide) (by decide)]; exact v73
  have u74 : gA q.2 74 b = bt g e (p + 2) := by rw [g7 74 (by decide) (by decide)]; exact v74
  have u75 : gA q.2 75 b = bt g e (p + 3) := by rw [g7 75 (by decide) (by decide)]; exact v75
  refine ⟨g1, g2, ?_, fun _ => ⟨?_, ⟨u72, u73⟩, fun _ => ⟨u74, u75, E4⟩⟩, ⟨fun x hx => ?_, fun x hx => ?_, fun k hk => ?_⟩⟩
  · rw [g5]
    constructor
    · intro w
      refine ⟨⟨by omega, c2⟩, fun _ => ⟨⟨by omega, by omega⟩, ⟨by omega, c7⟩, fun j hj => ?_⟩⟩
      have y := w j hj
      rw [(E4 j hj).1, (E4 j hj).2] at y
      exact y
    · intro w j hj
      rw [(E4 j hj).1, (E4 j hj).2]
      exact (w.2 ht).2.2 j hj
  · show gI q.2 322 = CNx g e p
    unfold CNx
    rw [if_neg ht, g3]; omega
  · rw [g7 72 (by decide) (by decide), g7 73 (by decide) (by decide), g7 74 (by decide) (by decide), g7 75 (by decide) (by decide)]
    exact KB2.1 x hx
  · rw [(g6 x hx).1, (g6 x hx).2]
    exact KB2.2.1 x hx
  · rw [g7 k (by omega) (by omega)]
    exact KB2.2.2 k hk
