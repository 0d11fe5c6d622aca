/-! ===== entries by number ===== -/
theorem sm_app (a b : Nat) (f : Nat → Int) : sm (a + b) f = sm a f + sm b (fun j => f (a + j)) := by
  induction b with
  | zero => show sm a f = sm a f + 0; omega
  | succ b ih =>
    show sm (a + b) f + f (a + b) = sm a f + (sm b (fun j => f (a + j)) + f (a + b))
    rw [ih]; omega
theorem en_sm {h : SH} {p : Nat} {x : Int} (hz : 0 ≤ h.2.1 p ∧ h.2.1 p ≤ 6) : en h p x = if 0 < h.1 p then sm (h.2.1 p).toNat (fun k => if h.2.2 p k = x then 1 else 0) else 0 := by
  unfold en enf
  by_cases e : 0 < h.1 p
  · rw [if_pos e, if_pos e]
    have h6 : 6 = (h.2.1 p).toNat + (6 - (h.2.1 p).toNat) := by omega
    rw [h6, sm_app]
    rw [sm_0 (n := 6 - (h.2.1 p).toNat) (fun i hi => by
      show (if (0 : Int) ≤ (((h.2.1 p).toNat + i : Nat) : Int) ∧ (((h.2.1 p).toNat + i : Nat) : Int) < h.2.1 p ∧ h.2.2 p ((h.2.1 p).toNat + i) = x then (1 : Int) else 0) = 0
      rw [if_neg (fun q => by omega)])]
    rw [Int.add_zero]
    refine sm_c (fun k hk => ?_)
    by_cases e2 : h.2.2 p k = x
    · rw [if_pos e2, if_pos ⟨by omega, by omega, e2⟩]
    · rw [if_neg e2, if_neg (fun q => e2 q.2.2)]
  · rw [if_neg e, if_neg e]
/-- one more -/
theorem sm_ins {n k : Nat} {f g : Nat → Int} {v : Int} (hk : k ≤ n) (h1 : ∀ j, j < k → g j = f j) (h2 : g k = v) (h3 : ∀ j, k ≤ j → j < n → g (j + 1) = f j) : sm (n + 1) g = sm n f + v := by
  induction n with
  | zero =>
    have : k = 0 := by omega
    subst this
    show sm 0 g + g 0 = sm 0 f + v
    rw [h2]; rfl
  | succ n ih =>
    show sm (n + 1) g + g (n + 1) = sm n f + f n + v
    by_cases e : k = n + 1
    · subst e
      rw [h2, sm_c (f := g) (g := f) (fun j hj => h1 j hj)]; rfl
    · rw [ih (by omega) (fun j hj hn => h3 j hj (by omega)), h3 n (by omega) (by omega)]; omega
theorem en_ins {h h' : SH} {p : Nat} {k : Nat} {v x : Int} (hl : h'.1 p = h.1 p) (hz : 0 ≤ h.2.1 p ∧ h.2.1 p ≤ 5) (hz' : h'.2.1 p = h.2.1 p + 1) (hk : (k : Int) ≤ h.2.1 p) (h1 : ∀ j, j < k → h'.2.2 p j = h.2.2 p j) (h2 : h'.2.2 p k = v) (h3 : ∀ j, k ≤ j → (j : Int) < h.2.1 p → h'.2.2 p (j + 1) = h.2.2 p j) : en h' p x = en h p x + (if 0 < h.1 p ∧ v = x then 1 else 0) := by
  rw [en_sm (h := h') (by omega), en_sm (h := h) (by omega), hl, hz']
  by_cases e : 0 < h.1 p
  · rw [if_pos e, if_pos e, show (h.2.1 p + 1).toNat = (h.2.1 p).toNat + 1 by omega]
    rw [sm_ins (k := k) (f := fun k => if h.2.2 p k = x then 1 else 0) (v := if v = x then 1 else 0) (by omega) (fun j hj => by
      show (if h'.2.2 p j = x then 1 else 0) = _
      rw [h1 j hj]) (by
      show (if h'.2.2 p k = x then 1 else 0) = _
      rw [h2]) (fun j hj hn => by
      show (if h'.2.2 p (j + 1) = x then 1 else 0) = _
      rw [h3 j hj (by omega)])]
    by_cases e2 : v = x
    · rw [if_pos e2, if_pos ⟨e, e2⟩]
    · rw [if_neg e2, if_neg (fun q => e2 q.2)]
  · rw [if_neg e, if_neg e, if_neg (fun q => e q.1)]; rfl
theorem en_del {h h' : SH} {p : Nat} {k : Nat} {x : Int} (hl : h'.1 p = h.1 p) (hz : 1 ≤ h.2.1 p ∧ h.2.1 p ≤ 6) (hz' : h'.2.1 p = h.2.1 p - 1) (hk : (k : Int) < h.2.1 p) (h1 : ∀ j, j < k → h'.2.2 p j = h.2.2 p j) (h3 : ∀ j, k ≤ j → (j : Int) < h.2.1 p - 1 → h'.2.2 p j = h.2.2 p (j + 1)) : en h' p x = en h p x - (if 0 < h.1 p ∧ h.2.2 p k = x then 1 else 0) := by
  have := en_ins (h := h') (h' := h) (p := p) (k := k) (v := h.2.2 p k) (x := x) hl.symm (by omega) (by omega) (by omega) (fun j hj => (h1 j hj).symm) rfl (fun j hj hn => (h3 j hj (by omega)).symm)
  rw [this, hl]; omega
theorem en_set {h h' : SH} {p : Nat} {k : Nat} {v x : Int} (hl : h'.1 p = h.1 p) (hz : 0 ≤ h.2.1 p ∧ h.2.1 p ≤ 6) (hz' : h'.2.1 p = h.2.1 p) (hk : (k : Int) < h.2.1 p) (h1 : ∀ j, j < 6 → j ≠ k → h'.2.2 p j = h.2.2 p j) (h2 : h'.2.2 p k = v) : en h' p x = en h p x - (if 0 < h.1 p ∧ h.2.2 p k = x then 1 else 0) + (if 0 < h.1 p ∧ v = x then 1 else 0) := by
  rw [en_sm (h := h') (by omega), en_sm (h := h) (by omega), hl, hz']
  by_cases e : 0 < h.1 p
  · rw [if_pos e, if_pos e]
    rw [sm_one (i := k) (f := fun k => if h.2.2 p k = x then 1 else 0) (g := fun k => if h'.2.2 p k = x then 1 else 0) (by omega) (fun j hj hn => by
      show (if h'.2.2 p j = x then 1 else 0) = _
      rw [h1 j (by omega) hn])]
    show _ - (if h.2.2 p k = x then 1 else 0) + (if h'.2.2 p k = x then 1 else 0) = _
    rw [h2]
    by_cases e2 : h.2.2 p k = x
    · by_cases e3 : v = x
      · rw [if_pos e2, if_pos e3, if_pos ⟨e, e2⟩, if_pos ⟨e, e3⟩]
      · rw [if_pos e2, if_neg e3, if_pos ⟨e, e2⟩, if_neg (fun q => e3 q.2)]
    · by_cases e3 : v = x
      · rw [if_neg e2, if_pos e3, if_neg (fun q => e2 q.2), if_pos ⟨e, e3⟩]
      · rw [if_neg e2, if_neg e3, if_neg (fun q => e2 q.2), if_neg (fun q => e3 q.2)]
  · rw [if_neg e, if_neg e, if_neg (fun q => e q.1), if_neg (fun q => e q.1)]; rfl
/-- a block's entries go to two -/
theorem en_two {h h' : SH} {b q : Nat} {a : Int} {x : Int} (hl : h'.1 b = h.1 b) (hlq : h'.1 q = h.1 b) (hz : 0 ≤ a ∧ a ≤ h.2.1 b ∧ h.2.1 b ≤ 6) (hb : h'.2.1 b = a) (hq : h'.2.1 q = h.2.1 b - a) (h1 : ∀ j : Nat, (j : Int) < a → h'.2.2 b j = h.2.2 b j) (h2 : ∀ j : Nat, (j : Int) < h.2.1 b - a → h'.2.2 q j = h.2.2 b (a.toNat + j)) : en h' b x + en h' q x = en h b x := by
  rw [en_sm (h := h') (p := b) (by omega), en_sm (h := h') (p := q) (by omega), en_sm (h := h) (by omega), hl, hlq, hb, hq]
  by_cases e : 0 < h.1 b
  · rw [if_pos e, if_pos e, if_pos e, show (h.2.1 b).toNat = a.toNat + (h.2.1 b - a).toNat by omega, sm_app]
    rw [sm_c (n := a.toNat) (f := fun k => if h'.2.2 b k = x then 1 else 0) (g := fun k => if h.2.2 b k = x then 1 else 0) (fun j hj => by
      show (if h'.2.2 b j = x then 1 else 0) = _
      rw [h1 j (by omega)])]
    rw [sm_c (n := (h.2.1 b - a).toNat) (f := fun k => if h'.2.2 q k = x then 1 else 0) (g := fun j => (fun k => if h.2.2 b k = x then 1 else 0) (a.toNat + j)) (fun j hj => by
      show (if h'.2.2 q j = x then 1 else 0) = if h.2.2 b (a.toNat + j) = x then 1 else 0
      rw [h2 j (by omega)])]
  · rw [if_neg e, if_neg e, if_neg e]; rfl
/-! ===== nodes ===== -/
theorem Nd_ext {h h' : SH} {N : Int} {p : Nat} (H : Nd h N p) (h1 : h'.1 p = h.1 p) (h2 : h'.2.1 p = h.2.1 p) (h3 : ∀ k : Nat, (k : Int) < h.2.1 p → h'.2.2 p k = h.2.2 p k) (h4 : 0 < h.1 p → ∀ k : Nat, (k : Int) < h.2.1 p → h'.1 (h.2.2 p k).toNat = h.1 (h.2.2 p k).toNat) : Nd h' N p := by
  refine ⟨by rw [h1]; exact H.1, by rw [h2]; exact H.2.1, fun hl k hk => ?_⟩
  rw [h1] at hl
  rw [h2] at hk
  rw [h3 k hk, h1, h4 hl k hk]
  exact H.2.2 hl k hk
theorem WN_one {h h' : SH} {N : Int} {c : Nat → Int} {b : Nat} (hN : N ≤ 48) (hW : WN h N c) (hl : ∀ q, q < 48 → q ≠ b → h'.1 q = h.1 q) (hz : ∀ q, q < 48 → q ≠ b → h'.2.1 q = h.2.1 q) (hv : ∀ q, q < 48 → q ≠ b → ∀ k, k < 6 → h'.2.2 q k = h.2.2 q k) (hb : 0 < c b → Nd h' N b) (hk : h'.1 b = h.1 b ∨ ∀ p, p < 48 → p ≠ b → 0 < c p → 0 < h.1 p → ∀ k : Nat, (k : Int) < h.2.1 p → h.2.2 p k ≠ (b : Int)) : WN h' N c := by
  intro p hp
  obtain ⟨w1, w2, w3⟩ := hW p hp
  refine ⟨w1, w2, fun hc => ?_⟩
  by_cases e : p = b
  · subst e; exact hb hc
  · have H := w3 hc
    refine Nd_ext H (hl p hp e) (hz p hp e) (fun k hk => hv p hp e k (by have := H.2.1; omega)) (fun hpl k hkz => ?_)
    obtain ⟨⟨a1, a2⟩, a3⟩ := H.2.2 hpl k hkz
    by_cases e2 : (h.2.2 p k).toNat = b
    · rcases hk with hk | hk
      · rw [e2]; exact hk
      · exact absurd (show h.2.2 p k = (b : Int) by omega) (hk p hp e hc hpl k hkz)
    · exact hl _ (by omega) e2
/-- who is named by a block in use is in use -/
theorem kid_live {h : SH} {N : Int} {c r : Nat → Int} (hN : N ≤ 48) (hW : WN h N c) {p k : Nat} (hp : p < 48) (hc : 0 < c p) (hl : 0 < h.1 p) (hk : (k : Int) < h.2.1 p) (hD : 0 ≤ df h c r (h.2.2 p k).toNat) : 0 < c (h.2.2 p k).toNat := by
  have H := (hW p hp).2.2 hc
  have h6 := H.2.1
  obtain ⟨⟨a1, a2⟩, a3⟩ := H.2.2 hl k hk
  have h1 := rf_en (h := h) (r := r) (x := h.2.2 p k) hp hc
  have h2 := enf_pos (i := 0) hl hk (by omega) (by omega)
  have h3 := rr_nn r (h.2.2 p k)
  unfold df at hD
  rw [show (((h.2.2 p k).toNat : Nat) : Int) = h.2.2 p k by omega] at hD
  unfold en at h1
  omega
theorem root_live {h : SH} {N : Int} {c r : Nat → Int} {v : Nat} (hv : v < 8) (h0 : 0 ≤ r v) (hD : 0 ≤ df h c r (r v).toNat) : 0 < c (r v).toNat := by
  have h1 := rr_pos (r := r) hv
  have h2 : 0 ≤ sm 48 (fun p => if 0 < c p then en h p (r v) else 0) := sm_nn (fun p _ => by
    split
    · exact en_nn h p _
    · exact Int.le_refl 0)
  unfold df rf at hD
  rw [show (((r v).toNat : Nat) : Int) = r v by omega] at hD
  omega
/-- a block that nobody counts is named by none -/
theorem free_unnamed {h : SH} {N : Int} {c r : Nat → Int} {b : Nat} (hN : N ≤ 48) (hW : WN h N c) (hb : c b ≤ 0) (hD : 0 ≤ df h c r b) : ∀ p, p < 48 → p ≠ b → 0 < c p → 0 < h.1 p → ∀ k : Nat, (k : Int) < h.2.1 p → h.2.2 p k ≠ (b : Int) := by
  intro p hp _ hc hl k hk e
  have := kid_live (r := r) hN hW hp hc hl hk (by rw [e]; exact hD)
  rw [e] at this
  have e2 : ((b : Int)).toNat = b := by omega
  rw [e2] at this
  omega
/-! ===== no level is above 47 ===== -/
theorem lev_chain {h : SH} {N : Int} {c r : Nat → Int} (hN : N ≤ 48) (hW : WN h N c) (hE : Ne h c) (hD : ∀ x, x < 48 → 0 ≤ df h c r x) : ∀ (L p : Nat), p < 48 → 0 < c p → h.1 p = (L : Int) → ∀ j : Nat, j ≤ L → ∃ q, q < 48 ∧ 0 < c q ∧ h.1 q = (j : Int) := by
  intro L
  induction L with
  | zero =>
    intro p hp hc hl j hj
    have : j = 0 := by omega
    subst this
    exact ⟨p, hp, hc, hl⟩
  | succ L ih =>
    intro p hp hc hl j hj
    by_cases e : j = L + 1
    · subst e; exact ⟨p, hp, hc, hl⟩
    · have H := (hW p hp).2.2 hc
      have hz := hE p hp hc
      have hl0 : 0 < h.1 p := by rw [hl]; omega
      obtain ⟨⟨a1, a2⟩, a3⟩ := H.2.2 hl0 0 (by omega)
      have h1 := kid_live (r := r) hN hW hp hc hl0 (k := 0) (by omega) (hD _ (by omega))
      exact ih (h.2.2 p 0).toNat (by omega) h1 (by rw [a3, hl]; omega) j (by omega)
theorem sm_delta (n : Nat) (a : Int) : sm n (fun j => if a = (j : Int) then 1 else 0) ≤ 1 ∧ ((n : Int) ≤ a → sm n (fun j => if a = (j : Int) then 1 else 0) = 0) := by
  induction n with
  | zero => exact ⟨by show (0 : Int) ≤ 1; omega, fun _ => rfl⟩
  | succ n ih =>
    have e : sm (n + 1) (fun j => if a = (j : Int) then (1 : Int) else 0) = sm n (fun j => if a = (j : Int) then (1 : Int) else 0) + (if a = (n : Int) then 1 else 0) := rfl
    rw [e]
    by_cases e2 : a = (n : Int)
    · rw [if_pos e2]
      have := ih.2 (by omega)
      exact ⟨by omega, fun h => by omega⟩
    · rw [if_neg e2]
      exact ⟨by have := ih.1; omega, fun h => by have := ih.2 (by omega); omega⟩
theorem lev_le {h : SH} {N : Int} {c r : Nat → Int} (hN : N ≤ 48) (hW : WN h N c) (hE : Ne h c) (hD : ∀ x, x < 48 → 0 ≤ df h c r x) {p : Nat} (hp : p < 48) (hc : 0 < c p) : h.1 p ≤ 47 := by
  by_cases e : h.1 p ≤ 47
  · exact e
  · exfalso
    have h0 := ((hW p hp).2.2 hc).1
    have h1 : (49 : Int) ≤ sm 49 (fun j => sm 48 (fun q => if 0 < c q ∧ h.1 q = (j : Int) then 1 else 0)) := by
      have h2 : sm 49 (fun _ => (1 : Int)) ≤ sm 49 (fun j => sm 48 (fun q => if 0 < c q ∧ h.1 q = (j : Int) then 1 else 0)) := sm_le (fun j hj => by
        obtain ⟨q, q1, q2, q3⟩ := lev_chain (r := r) hN hW hE hD (h.1 p).toNat p hp hc (by omega) j (by omega)
        have h3 := sm_ge (n := 48) (i := q) (f := fun q => if 0 < c q ∧ h.1 q = (j : Int) then (1 : Int) else 0) q1 (fun i _ => by split <;> omega)
        have h4 : (fun q => if 0 < c q ∧ h.1 q = (j : Int) then (1 : Int) else 0) q = 1 := if_pos ⟨q2, q3⟩
        rw [if_pos ⟨q2, q3⟩] at h3
        exact h3)
      have h5 : sm 49 (fun _ => (1 : Int)) = 49 := by decide
      omega
    rw [sm_sw] at h1
    have h6 := sm_bd (n := 48) (f := fun q => sm 49 (fun j => if 0 < c q ∧ h.1 q = (j : Int) then (1 : Int) else 0)) (c := 1) (fun q _ => by
      have h7 := (sm_delta 49 (h.1 q)).1
      have h8 : sm 49 (fun j => if 0 < c q ∧ h.1 q = (j : Int) then (1 : Int) else 0) ≤ sm 49 (fun j => if h.1 q = (j : Int) then (1 : Int) else 0) := sm_le (fun j _ => by
        by_cases e3 : h.1 q = (j : Int)
        · rw [if_pos e3]; split <;> omega
        · rw [if_neg e3, if_neg (fun w => e3 w.2)]; exact Int.le_refl 0)
      exact Int.le_trans h8 h7)
    omega
/-! ===== the whole ===== -/
def TIx (h : SH) (N : Int) (c sv r rs : Nat → Int) : Prop := (N ≤ 48 ∧ WN h N c ∧ WN h N sv) ∧ ((∀ x, x < 48 → df h c r x = 0) ∧ (∀ x, x < 48 → df h sv rs x = 0)) ∧ (Ne h c ∧ Ne h sv) ∧ (RO N r ∧ RO N rs)
theorem df_ext {h h' : SH} {c c' r r' : Nat → Int} {N : Int} (hW : WN h N c) (h1 : ∀ p, p < 48 → h'.1 p = h.1 p) (h2 : ∀ p, p < 48 → h'.2.1 p = h.2.1 p) (h3 : ∀ p, p < 48 → ∀ k, k < 6 → h'.2.2 p k = h.2.2 p k) (h4 : ∀ p, p < 48 → c' p = c p) (h5 : ∀ v, v < 8 → r' v = r v) {x : Nat} (hx : x < 48) : df h' c' r' x = df h c r x := by
  unfold df rf rr
  rw [h4 x hx, sm_c (n := 8) (f := fun v => if r' v = (x : Int) then 1 else 0) (g := fun v => if r v = (x : Int) then 1 else 0) (fun v hv => by rw [h5 v hv])]
  rw [sm_c (n := 48) (f := fun p => if 0 < c' p then en h' p (x : Int) else 0) (g := fun p => if 0 < c p then en h p (x : Int) else 0) (fun p hp => by
    show (if 0 < c' p then en h' p (x : Int) else 0) = if 0 < c p then en h p (x : Int) else 0
    rw [h4 p hp]
    unfold en
    rw [en_ext (by rw [h1 p hp]) (h2 p hp) (fun k hk _ => h3 p hp k hk)])]
theorem WN_ext {h h' : SH} {N : Int} {c c' : Nat → Int} (hN : N ≤ 48) (hW : WN h N c) (h1 : ∀ p, p < 48 → h'.1 p = h.1 p) (h2 : ∀ p, p < 48 → h'.2.1 p = h.2.1 p) (h3 : ∀ p, p < 48 → ∀ k, k < 6 → h'.2.2 p k = h.2.2 p k) (h4 : ∀ p, p < 48 → c' p = c p) : WN h' N c' := by
  intro p hp
  rw [h4 p hp]
  obtain ⟨w1, w2, w3⟩ := hW p hp
  refine ⟨w1, w2, fun hc => ?_⟩
  have H := w3 hc
  refine Nd_ext H (h1 p hp) (h2 p hp) (fun k hk => h3 p hp k (by have := H.2.1; omega)) (fun hl k hk => ?_)
  have := (H.2.2 hl k hk).1
  exact h1 _ (by omega)
theorem TIx_ext {h h' : SH} {N : Int} {c c' sv sv' r r' rs rs' : Nat → Int} (H : TIx h N c sv r rs) (h1 : ∀ p, p < 48 → h'.1 p = h.1 p) (h2 : ∀ p, p < 48 → h'.2.1 p = h.2.1 p) (h3 : ∀ p, p < 48 → ∀ k, k < 6 → h'.2.2 p k = h.2.2 p k) (h4 : ∀ p, p < 48 → c' p = c p) (h5 : ∀ p, p < 48 → sv' p = sv p) (h6 : ∀ v, v < 8 → r' v = r v) (h7 : ∀ v, v < 8 → rs' v = rs v) : TIx h' N c' sv' r' rs' := by
  obtain ⟨⟨a1, a2, a3⟩, ⟨b1, b2⟩, ⟨d1, d2⟩, ⟨e1, e2⟩⟩ := H
  refine ⟨⟨a1, WN_ext a1 a2 h1 h2 h3 h4, WN_ext a1 a3 h1 h2 h3 h5⟩, ⟨fun x hx => ?_, fun x hx => ?_⟩, ⟨fun p hp hc => ?_, fun p hp hc => ?_⟩, ⟨fun v hv => ?_, fun v hv => ?_⟩⟩
  · rw [df_ext a2 h1 h2 h3 h4 h6 hx]; exact b1 x hx
  · rw [df_ext a3 h1 h2 h3 h5 h7 hx]; exact b2 x hx
  · rw [h2 p hp]; rw [h4 p hp] at hc; exact d1 p hp hc
  · rw [h2 p hp]; rw [h5 p hp] at hc; exact d2 p hp hc
  · rw [h6 v hv]; exact e1 v hv
  · rw [h7 v hv]; exact e2 v hv
