/-! ===== sums ===== -/
def sm : Nat → (Nat → Int) → Int
  | 0, _ => 0
  | n + 1, f => sm n f + f n
theorem sm_c {n : Nat} {f g : Nat → Int} (h : ∀ i, i < n → f i = g i) : sm n f = sm n g := by
  induction n with
  | zero => rfl
  | succ n ih =>
    show sm n f + f n = sm n g + g n
    rw [ih (fun i hi => h i (by omega)), h n (by omega)]
theorem sm_le {n : Nat} {f g : Nat → Int} (h : ∀ i, i < n → f i ≤ g i) : sm n f ≤ sm n g := by
  induction n with
  | zero => exact Int.le_refl 0
  | succ n ih =>
    show sm n f + f n ≤ sm n g + g n
    have h1 := ih (fun i hi => h i (by omega))
    have h2 := h n (by omega)
    omega
theorem sm_nn {n : Nat} {f : Nat → Int} (h : ∀ i, i < n → 0 ≤ f i) : 0 ≤ sm n f := by
  induction n with
  | zero => exact Int.le_refl 0
  | succ n ih =>
    show 0 ≤ sm n f + f n
    have h1 := ih (fun i hi => h i (by omega))
    have h2 := h n (by omega)
    omega
theorem sm_0 {n : Nat} {f : Nat → Int} (h : ∀ i, i < n → f i = 0) : sm n f = 0 := by
  induction n with
  | zero => rfl
  | succ n ih =>
    show sm n f + f n = 0
    rw [ih (fun i hi => h i (by omega)), h n (by omega)]
    rfl
theorem sm_add (n : Nat) (f g : Nat → Int) : sm n (fun i => f i + g i) = sm n f + sm n g := by
  induction n with
  | zero => rfl
  | succ n ih =>
    show sm n (fun i => f i + g i) + (f n + g n) = sm n f + f n + (sm n g + g n)
    rw [ih]; omega
theorem sm_sub (n : Nat) (f g : Nat → Int) : sm n (fun i => f i - g i) = sm n f - sm n g := by
  induction n with
  | zero => rfl
  | succ n ih =>
    show sm n (fun i => f i - g i) + (f n - g n) = sm n f + f n - (sm n g + g n)
    rw [ih]; omega
/-- one term changes -/
theorem sm_one {n i : Nat} {f g : Nat → Int} (hi : i < n) (h : ∀ j, j < n → j ≠ i → g j = f j) : sm n g = sm n f - f i + g i := by
  induction n with
  | zero => omega
  | succ n ih =>
    show sm n g + g n = sm n f + f n - f i + g i
    by_cases e : i = n
    · subst e
      rw [sm_c (f := g) (g := f) (fun j hj => h j (by omega) (by omega))]; omega
    · rw [ih (by omega) (fun j hj hn => h j (by omega) hn), h n (by omega) (by omega)]; omega
theorem sm_ge {n i : Nat} {f : Nat → Int} (hi : i < n) (h : ∀ j, j < n → 0 ≤ f j) : f i ≤ sm n f := by
  have h1 := sm_one (f := fun j => if j = i then 0 else f j) (g := f) hi (fun j _ hn => (if_neg hn).symm)
  have h2 : 0 ≤ sm n (fun j => if j = i then 0 else f j) := sm_nn (fun j hj => by
    show 0 ≤ if j = i then 0 else f j
    split
    · exact Int.le_refl 0
    · exact h j hj)
  have h3 : (fun j => if j = i then (0 : Int) else f j) i = 0 := if_pos rfl
  rw [if_pos (rfl : i = i)] at h1
  omega
/-- two terms -/
theorem sm_ge2 {n i k : Nat} {f : Nat → Int} (hi : i < n) (hk : k < n) (hik : i ≠ k) (h : ∀ j, j < n → 0 ≤ f j) : f i + f k ≤ sm n f := by
  have h1 := sm_one (f := fun j => if j = i then 0 else f j) (g := f) hi (fun j _ hn => (if_neg hn).symm)
  have h2 : (fun j => if j = i then 0 else f j) k ≤ sm n (fun j => if j = i then 0 else f j) := sm_ge hk (fun j hj => by
    show 0 ≤ if j = i then 0 else f j
    split
    · exact Int.le_refl 0
    · exact h j hj)
  have h3 : (fun j => if j = i then (0 : Int) else f j) i = 0 := if_pos rfl
  have h4 : (fun j => if j = i then (0 : Int) else f j) k = f k := if_neg (fun e => hik e.symm)
  rw [if_pos (rfl : i = i)] at h1
  rw [h4] at h2
  omega
theorem sm_bd {n : Nat} {f : Nat → Int} {c : Int} (h : ∀ i, i < n → f i ≤ c) : sm n f ≤ (n : Int) * c := by
  induction n with
  | zero => show (0 : Int) ≤ (0 : Nat) * c; rw [Int.natCast_zero, Int.zero_mul]; exact Int.le_refl 0
  | succ n ih =>
    have h1 := ih (fun i hi => h i (by omega))
    have h2 := h n (by omega)
    show sm n f + f n ≤ ((n + 1 : Nat) : Int) * c
    rw [Int.natCast_succ, Int.add_mul, Int.one_mul]
    omega
theorem sm_sw (n m : Nat) (f : Nat → Nat → Int) : sm n (fun i => sm m (fun j => f i j)) = sm m (fun j => sm n (fun i => f i j)) := by
  induction n with
  | zero => exact (sm_0 (fun _ _ => rfl)).symm
  | succ n ih =>
    show sm n (fun i => sm m (fun j => f i j)) + sm m (fun j => f n j) = sm m (fun j => sm n (fun i => f i j) + f n j)
    rw [sm_add m (fun j => sm n (fun i => f i j)) (fun j => f n j), ih]
/-- some term is above 0 -/
theorem sm_ex {n : Nat} {f : Nat → Int} (h : 0 < sm n f) : ∃ i, i < n ∧ 0 < f i := by
  induction n with
  | zero => exact absurd h (Int.lt_irrefl 0)
  | succ n ih =>
    have h' : 0 < sm n f + f n := h
    by_cases e : 0 < f n
    · exact ⟨n, by omega, e⟩
    · obtain ⟨i, h1, h2⟩ := ih (by omega)
      exact ⟨i, by omega, h2⟩
theorem sm_z {n : Nat} {f : Nat → Int} (h : ∀ i, i < n → 0 ≤ f i) (hz : sm n f = 0) : ∀ i, i < n → f i = 0 := by
  intro i hi
  have h1 := sm_ge hi h
  have h2 := h i hi
  omega
theorem upZ_c (f : Nat → Int) (i : Nat) (v : Int) (j : Nat) : upZ f i v j = if j = i then v else f j := rfl
/-! ===== trees of blocks: level, size, entries; counts; roots ===== -/
abbrev SH : Type := (Nat → Int) × (Nat → Int) × (Nat → Nat → Int)
/-- how often an inner block's entries name x, from the k-th on -/
def enf (h : SH) (p : Nat) (i : Int) (x : Int) : Int := if 0 < h.1 p then sm 6 (fun k => if i ≤ (k : Int) ∧ (k : Int) < h.2.1 p ∧ h.2.2 p k = x then 1 else 0) else 0
def en (h : SH) (p : Nat) (x : Int) : Int := enf h p 0 x
def rr (r : Nat → Int) (x : Int) : Int := sm 8 (fun v => if r v = x then 1 else 0)
def rf (h : SH) (c r : Nat → Int) (x : Int) : Int := rr r x + sm 48 (fun p => if 0 < c p then en h p x else 0)
/-- how far a count is above what refers -/
def df (h : SH) (c r : Nat → Int) (x : Nat) : Int := c x - rf h c r (x : Int)
def Nd (h : SH) (N : Int) (p : Nat) : Prop := 0 ≤ h.1 p ∧ (0 ≤ h.2.1 p ∧ h.2.1 p ≤ 6) ∧ (0 < h.1 p → ∀ k : Nat, (k : Int) < h.2.1 p → (0 ≤ h.2.2 p k ∧ h.2.2 p k < N) ∧ h.1 (h.2.2 p k).toNat = h.1 p - 1)
def WN (h : SH) (N : Int) (c : Nat → Int) : Prop := ∀ p : Nat, p < 48 → 0 ≤ c p ∧ (N ≤ (p : Int) → c p = 0) ∧ (0 < c p → Nd h N p)
def Ne (h : SH) (c : Nat → Int) : Prop := ∀ p : Nat, p < 48 → 0 < c p → 1 ≤ h.2.1 p
/-- roots are none or blocks -/
def RO (N : Int) (r : Nat → Int) : Prop := ∀ v : Nat, v < 8 → (0 ≤ r v ∧ r v < N) ∨ r v < 0 ∨ 254 ≤ r v
theorem enf_nn (h : SH) (p : Nat) (i x : Int) : 0 ≤ enf h p i x := by
  unfold enf
  split
  · exact sm_nn (fun k _ => by split <;> omega)
  · exact Int.le_refl 0
theorem en_nn (h : SH) (p : Nat) (x : Int) : 0 ≤ en h p x := enf_nn h p 0 x
theorem rr_nn (r : Nat → Int) (x : Int) : 0 ≤ rr r x := sm_nn (fun k _ => by split <;> omega)
theorem rf_nn (h : SH) (c r : Nat → Int) (x : Int) : 0 ≤ rf h c r x := by
  have h1 := rr_nn r x
  have h2 : 0 ≤ sm 48 (fun p => if 0 < c p then en h p x else 0) := sm_nn (fun p _ => by
    split
    · exact en_nn h p x
    · exact Int.le_refl 0)
  unfold rf
  omega
/-- an entry counts -/
theorem enf_pos {h : SH} {p k : Nat} {i : Int} (hl : 0 < h.1 p) (hk : (k : Int) < h.2.1 p) (h6 : k < 6) (hi : i ≤ (k : Int)) : 1 ≤ enf h p i (h.2.2 p k) := by
  unfold enf
  rw [if_pos hl]
  have h1 := sm_ge (n := 6) (i := k) (f := fun j => if i ≤ (j : Int) ∧ (j : Int) < h.2.1 p ∧ h.2.2 p j = h.2.2 p k then 1 else 0) h6 (fun j _ => by split <;> omega)
  have h2 : (fun j : Nat => if i ≤ (j : Int) ∧ (j : Int) < h.2.1 p ∧ h.2.2 p j = h.2.2 p k then (1 : Int) else 0) k = 1 := if_pos ⟨hi, hk, rfl⟩
  rw [if_pos ⟨hi, hk, rfl⟩] at h1
  exact h1
/-- the entry at hand is done -/
theorem enf_step {h : SH} {p k : Nat} {x : Int} (hl : 0 < h.1 p) (hk : (k : Int) < h.2.1 p) (h6 : k < 6) : enf h p (k : Int) x = enf h p ((k : Int) + 1) x + (if h.2.2 p k = x then 1 else 0) := by
  unfold enf
  rw [if_pos hl, if_pos hl]
  have h1 := sm_one (n := 6) (i := k) (f := fun j : Nat => if (k : Int) + 1 ≤ (j : Int) ∧ (j : Int) < h.2.1 p ∧ h.2.2 p j = x then (1 : Int) else 0) (g := fun j : Nat => if (k : Int) ≤ (j : Int) ∧ (j : Int) < h.2.1 p ∧ h.2.2 p j = x then (1 : Int) else 0) h6 (fun j _ hn => by
    show (if (k : Int) ≤ (j : Int) ∧ (j : Int) < h.2.1 p ∧ h.2.2 p j = x then (1 : Int) else 0) = if (k : Int) + 1 ≤ (j : Int) ∧ (j : Int) < h.2.1 p ∧ h.2.2 p j = x then (1 : Int) else 0
    by_cases e : (k : Int) ≤ (j : Int) ∧ (j : Int) < h.2.1 p ∧ h.2.2 p j = x
    · rw [if_pos e, if_pos ⟨by omega, e.2⟩]
    · rw [if_neg e, if_neg (fun q => e ⟨by omega, q.2⟩)])
  rw [h1]
  have h2 : ¬ ((k : Int) + 1 ≤ (k : Int) ∧ (k : Int) < h.2.1 p ∧ h.2.2 p k = x) := fun q => by omega
  show sm 6 _ - (if (k : Int) + 1 ≤ (k : Int) ∧ (k : Int) < h.2.1 p ∧ h.2.2 p k = x then (1 : Int) else 0) + (if (k : Int) ≤ (k : Int) ∧ (k : Int) < h.2.1 p ∧ h.2.2 p k = x then (1 : Int) else 0) = _
  rw [if_neg h2]
  by_cases e : h.2.2 p k = x
  · rw [if_pos ⟨Int.le_refl _, hk, e⟩, if_pos e]; omega
  · rw [if_neg (fun q => e q.2.2), if_neg e]; omega
theorem enf_end {h : SH} {p : Nat} {i x : Int} (hk : h.2.1 p ≤ i) : enf h p i x = 0 := by
  unfold enf
  split
  · exact sm_0 (fun j _ => if_neg (fun q => by omega))
  · rfl
theorem en_leaf {h : SH} {p : Nat} {x : Int} (hl : h.1 p ≤ 0) : en h p x = 0 := by
  unfold en enf
  rw [if_neg (by omega)]
theorem en_ext {h h' : SH} {p p' : Nat} {i x : Int} (hl : 0 < h'.1 p' ↔ 0 < h.1 p) (hz : h'.2.1 p' = h.2.1 p) (hv : ∀ k : Nat, k < 6 → (k : Int) < h.2.1 p → h'.2.2 p' k = h.2.2 p k) : enf h' p' i x = enf h p i x := by
  unfold enf
  by_cases e : 0 < h.1 p
  · rw [if_pos e, if_pos (hl.mpr e), hz]
    refine sm_c (fun k hk => ?_)
    by_cases e2 : (k : Int) < h.2.1 p
    · rw [hv k hk e2]
    · rw [if_neg (fun q => e2 q.2.1), if_neg (fun q => e2 q.2.1)]
  · rw [if_neg e, if_neg (fun q => e (hl.mp q))]
/-- what is named by a block in use is counted -/
theorem rf_en {h : SH} {c r : Nat → Int} {p : Nat} {x : Int} (hp : p < 48) (hc : 0 < c p) : en h p x + rr r x ≤ rf h c r x := by
  have h1 := sm_ge (n := 48) (i := p) (f := fun p => if 0 < c p then en h p x else 0) hp (fun j _ => by
    show 0 ≤ if 0 < c j then en h j x else 0
    split
    · exact en_nn h j x
    · exact Int.le_refl 0)
  have h2 : (fun p => if 0 < c p then en h p x else 0) p = en h p x := if_pos hc
  rw [if_pos hc] at h1
  unfold rf
  omega
theorem rr_pos {r : Nat → Int} {v : Nat} (hv : v < 8) : 1 ≤ rr r (r v) := by
  have h1 := sm_ge (n := 8) (i := v) (f := fun j => if r j = r v then 1 else 0) hv (fun j _ => by split <;> omega)
  have h2 : (fun j => if r j = r v then (1 : Int) else 0) v = 1 := if_pos rfl
  rw [if_pos rfl] at h1
  exact h1
/-! ===== how df moves ===== -/
theorem df_cnt {h : SH} {c r : Nat → Int} {b : Nat} {v : Int} (hb : b < 48) (x : Nat) : df h (upZ c b v) r x = df h c r x + (if x = b then v - c b else 0) + (if 0 < c b then en h b (x : Int) else 0) - (if 0 < v then en h b (x : Int) else 0) := by
  unfold df rf
  have h1 := sm_one (n := 48) (i := b) (f := fun p => if 0 < c p then en h p (x : Int) else 0) (g := fun p => if 0 < upZ c b v p then en h p (x : Int) else 0) hb (fun j _ hn => by
    show (if 0 < upZ c b v j then en h j (x : Int) else 0) = _
    rw [upZ_n hn])
  rw [h1]
  show upZ c b v x - (rr r x + (sm 48 (fun p => if 0 < c p then en h p (x : Int) else 0) - (if 0 < c b then en h b (x : Int) else 0) + (if 0 < upZ c b v b then en h b (x : Int) else 0))) = _
  rw [upZ_s]
  by_cases e : x = b
  · subst e
    rw [upZ_s, if_pos rfl]; omega
  · rw [upZ_n e, if_neg e]; omega
theorem rr_up {r : Nat → Int} {v : Nat} {q x : Int} (hv : v < 8) : rr (upZ r v q) x = rr r x - (if r v = x then 1 else 0) + (if q = x then 1 else 0) := by
  unfold rr
  have h1 := sm_one (n := 8) (i := v) (f := fun j => if r j = x then 1 else 0) (g := fun j => if upZ r v q j = x then 1 else 0) hv (fun j _ hn => by
    show (if upZ r v q j = x then 1 else 0) = _
    rw [upZ_n hn])
  rw [h1]
  show _ - (if r v = x then 1 else 0) + (if upZ r v q v = x then 1 else 0) = _
  rw [upZ_s]
theorem df_root {h : SH} {c r : Nat → Int} {v : Nat} {q : Int} (hv : v < 8) (x : Nat) : df h c (upZ r v q) x = df h c r x + (if r v = (x : Int) then 1 else 0) - (if q = (x : Int) then 1 else 0) := by
  unfold df rf
  rw [rr_up hv]
  omega
theorem df_sh {h h' : SH} {c r : Nat → Int} {b : Nat} (hb : b < 48) (x : Nat) (he : ∀ p, p < 48 → p ≠ b → 0 < c p → en h' p (x : Int) = en h p (x : Int)) : df h' c r x = df h c r x + (if 0 < c b then en h b (x : Int) - en h' b (x : Int) else 0) := by
  unfold df rf
  have h1 := sm_one (n := 48) (i := b) (f := fun p => if 0 < c p then en h p (x : Int) else 0) (g := fun p => if 0 < c p then en h' p (x : Int) else 0) hb (fun j hj hn => by
    show (if 0 < c j then en h' j (x : Int) else 0) = if 0 < c j then en h j (x : Int) else 0
    by_cases e : 0 < c j
    · rw [if_pos e, if_pos e, he j hj hn e]
    · rw [if_neg e, if_neg e])
  rw [h1]
  show c x - (rr r x + (sm 48 (fun p => if 0 < c p then en h p (x : Int) else 0) - (if 0 < c b then en h b (x : Int) else 0) + (if 0 < c b then en h' b (x : Int) else 0))) = _
  by_cases e : 0 < c b
  · rw [if_pos e, if_pos e, if_pos e]; omega
  · rw [if_neg e, if_neg e, if_neg e]; omega
/-- nothing that counts has changed -/
theorem df_same {h h' : SH} {c r : Nat → Int} {x : Nat} (he : ∀ p, p < 48 → 0 < c p → en h' p (x : Int) = en h p (x : Int)) : df h' c r x = df h c r x := by
  unfold df rf
  rw [sm_c (f := fun p => if 0 < c p then en h' p (x : Int) else 0) (g := fun p => if 0 < c p then en h p (x : Int) else 0) (fun p hp => by
    show (if 0 < c p then en h' p (x : Int) else 0) = if 0 < c p then en h p (x : Int) else 0
    by_cases e : 0 < c p
    · rw [if_pos e, if_pos e, he p hp e]
    · rw [if_neg e, if_neg e])]
theorem df_cext {h : SH} {c c' r : Nat → Int} {x : Nat} (he : ∀ p, p < 48 → c' p = c p) (hx : x < 48) : df h c' r x = df h c r x := by
  unfold df rf
  rw [he x hx, sm_c (f := fun p => if 0 < c' p then en h p (x : Int) else 0) (g := fun p => if 0 < c p then en h p (x : Int) else 0) (fun p hp => by
    show (if 0 < c' p then en h p (x : Int) else 0) = if 0 < c p then en h p (x : Int) else 0
    rw [he p hp])]
/-- how many counts are above 0 -/
def pos (c : Nat → Int) : Int := sm 48 (fun p => if 0 < c p then 1 else 0)
theorem pos_b (c : Nat → Int) : 0 ≤ pos c ∧ pos c ≤ 48 := by
  refine ⟨sm_nn (fun p _ => by split <;> omega), ?_⟩
  have := sm_bd (n := 48) (f := fun p => if 0 < c p then (1 : Int) else 0) (c := 1) (fun p _ => by split <;> omega)
  unfold pos
  omega
theorem pos_up {c : Nat → Int} {b : Nat} {v : Int} (hb : b < 48) : pos (upZ c b v) = pos c - (if 0 < c b then 1 else 0) + (if 0 < v then 1 else 0) := by
  unfold pos
  have h1 := sm_one (n := 48) (i := b) (f := fun p => if 0 < c p then (1 : Int) else 0) (g := fun p => if 0 < upZ c b v p then (1 : Int) else 0) hb (fun j _ hn => by
    show (if 0 < upZ c b v j then (1 : Int) else 0) = _
    rw [upZ_n hn])
  rw [h1]
  show _ - (if 0 < c b then (1 : Int) else 0) + (if 0 < upZ c b v b then (1 : Int) else 0) = _
  rw [upZ_s]
