/-! ===== what waits in a formula of the reference ===== -/
def opn (v : Int) : Int := if v = 12 ∨ (20 ≤ v ∧ v ≤ 25) ∨ 60 ≤ v then 1 else 0
theorem opn_01 (v : Int) : opn v = 0 ∨ opn v = 1 := by unfold opn; split <;> omega
def wo (f : Nat → Int) (n : Nat) : Int := sm n (fun j => opn (f j))
theorem wo_s (f : Nat → Int) (n : Nat) : wo f (n + 1) = wo f n + opn (f n) := rfl
theorem wo_c {f g : Nat → Int} {n : Nat} (e : ∀ j, j < n → g j = f j) : wo g n = wo f n := sm_c (fun j hj => by rw [e j hj])
theorem wo_nn (f : Nat → Int) (n : Nat) : 0 ≤ wo f n := sm_nn (fun j _ => by have := opn_01 (f j); show 0 ≤ opn (f j); omega)
/-- the last bracket of the sum at hand -/
def brk (f : Nat → Int) (b : Int) : Nat → Int
  | 0 => -1
  | n + 1 => if (n : Int) < b then -1 else if 20 ≤ f n ∧ f n ≤ 24 then f n else brk f b n
theorem brk_or (f : Nat → Int) (b : Int) (n : Nat) : brk f b n = -1 ∨ (20 ≤ brk f b n ∧ brk f b n ≤ 24) := by
  induction n with
  | zero => exact Or.inl rfl
  | succ n ih =>
    show (if (n : Int) < b then (-1 : Int) else if 20 ≤ f n ∧ f n ≤ 24 then f n else brk f b n) = -1 ∨ (20 ≤ (if (n : Int) < b then (-1 : Int) else if 20 ≤ f n ∧ f n ≤ 24 then f n else brk f b n) ∧ (if (n : Int) < b then (-1 : Int) else if 20 ≤ f n ∧ f n ≤ 24 then f n else brk f b n) ≤ 24)
    by_cases c : (n : Int) < b
    · rw [if_pos c]; exact Or.inl rfl
    · rw [if_neg c]
      by_cases d : 20 ≤ f n ∧ f n ≤ 24
      · rw [if_pos d]; exact Or.inr d
      · rw [if_neg d]; exact ih
theorem brk_low {f : Nat → Int} {b : Int} {n : Nat} (h : (n : Int) ≤ b) : brk f b n = -1 := by
  cases n with
  | zero => rfl
  | succ n => exact if_pos (by omega)
theorem brk_skip {f : Nat → Int} {b : Int} {n : Nat} (h : b ≤ (n : Int)) (k : ¬ (20 ≤ f n ∧ f n ≤ 24)) : brk f b (n + 1) = brk f b n := by
  show (if (n : Int) < b then (-1 : Int) else if 20 ≤ f n ∧ f n ≤ 24 then f n else brk f b n) = _
  rw [if_neg (by omega), if_neg k]
theorem brk_top {f : Nat → Int} {b : Int} {n : Nat} (h : b ≤ (n : Int)) (k : 20 ≤ f n ∧ f n ≤ 24) : brk f b (n + 1) = f n := by
  show (if (n : Int) < b then (-1 : Int) else if 20 ≤ f n ∧ f n ≤ 24 then f n else brk f b n) = _
  rw [if_neg (by omega), if_pos k]
theorem brk_none {f : Nat → Int} {b : Int} {n : Nat} (h : brk f b n = -1) : ∀ j : Nat, b ≤ (j : Int) → j < n → ¬ (20 ≤ f j ∧ f j ≤ 24) := by
  induction n with
  | zero => intro j _ hj; omega
  | succ n ih =>
    intro j hb hj k
    by_cases c : (n : Int) < b
    · omega
    · by_cases d : 20 ≤ f n ∧ f n ≤ 24
      · rw [brk_top (by omega) d] at h; omega
      · rw [brk_skip (by omega) d] at h
        by_cases e : j = n
        · rw [e] at k; exact d k
        · exact ih h j hb (by omega) k
/-- below b what tests wait for, from b on what the sum at hand waits for -/
def QW (f : Nat → Int) (w b op : Int) : Prop := (0 ≤ b ∧ b ≤ w) ∧ (∀ j : Nat, (j : Int) < b → f j = 10 ∨ f j = 11 ∨ f j = 12 ∨ f j = 25) ∧ (∀ j : Nat, b ≤ (j : Int) → (j : Int) < w → (1 ≤ f j ∧ f j ≤ 4) ∨ (20 ≤ f j ∧ f j ≤ 24) ∨ f j = 60 ∨ f j = 61) ∧ wo f w.toNat ≤ op
theorem QW_push {f : Nat → Int} {w b op v op' : Int} (H : QW f w b op) (k : (1 ≤ v ∧ v ≤ 4) ∨ (20 ≤ v ∧ v ≤ 24) ∨ v = 60 ∨ v = 61) (ho : op + opn v ≤ op') : QW (upZ f w.toNat v) (w + 1) b op' := by
  obtain ⟨h1, h2, h3, h4⟩ := H
  refine ⟨by omega, fun j hj => ?_, fun j hb hj => ?_, ?_⟩
  · rw [upZ_n (by omega)]; exact h2 j hj
  · by_cases e : j = w.toNat
    · rw [e, upZ_s]; exact k
    · rw [upZ_n e]; exact h3 j hb (by omega)
  · rw [show (w + 1).toNat = w.toNat + 1 by omega, wo_s, upZ_s, wo_c (f := f) (fun j hj => by rw [upZ_n (by omega)])]
    omega
theorem QW_pushT {f : Nat → Int} {w op v op' : Int} (H : QW f w w op) (k : v = 10 ∨ v = 11 ∨ v = 12 ∨ v = 25) (ho : op + opn v ≤ op') : QW (upZ f w.toNat v) (w + 1) (w + 1) op' := by
  obtain ⟨h1, h2, h3, h4⟩ := H
  refine ⟨by omega, fun j hj => ?_, fun j hb hj => by omega, ?_⟩
  · by_cases e : j = w.toNat
    · rw [e, upZ_s]; exact k
    · rw [upZ_n e]; exact h2 j (by omega)
  · rw [show (w + 1).toNat = w.toNat + 1 by omega, wo_s, upZ_s, wo_c (f := f) (fun j hj => by rw [upZ_n (by omega)])]
    omega
theorem wo_pop {f : Nat → Int} {w : Int} (h : 1 ≤ w) : wo f w.toNat = wo f (w - 1).toNat + opn (f (w - 1).toNat) := by
  rw [← wo_s, show (w - 1).toNat + 1 = w.toNat by omega]
theorem QW_pop {f : Nat → Int} {w b op op' : Int} (H : QW f w b op) (hw : b < w) (ho : op - opn (f (w - 1).toNat) ≤ op') : QW f (w - 1) b op' := by
  obtain ⟨h1, h2, h3, h4⟩ := H
  refine ⟨by omega, h2, fun j hb hj => h3 j hb (by omega), ?_⟩
  have := wo_pop (f := f) (w := w) (by omega)
  omega
theorem QW_popT {f : Nat → Int} {w op op' : Int} (H : QW f w w op) (hw : 1 ≤ w) (ho : op - opn (f (w - 1).toNat) ≤ op') : QW f (w - 1) (w - 1) op' := by
  obtain ⟨h1, h2, h3, h4⟩ := H
  refine ⟨by omega, fun j hj => h2 j (by omega), fun j hb hj => by omega, ?_⟩
  have := wo_pop (f := f) (w := w) (by omega)
  omega
/-- the one that lies last names one that is open: so it was counted -/
theorem QW_op {f : Nat → Int} {w b op : Int} (H : QW f w b op) (hw : 1 ≤ w) (k : opn (f (w - 1).toNat) = 1) : 1 ≤ op := by
  obtain ⟨h1, h2, h3, h4⟩ := H
  have := wo_pop (f := f) (w := w) hw
  have := wo_nn f (w - 1).toNat
  omega
theorem QW_next {f : Nat → Int} {w b op : Int} (H : QW f w b op) (hw : b < w) (k : f (w - 1).toNat = 21 ∨ f (w - 1).toNat = 22) : QW (upZ f (w - 1).toNat (f (w - 1).toNat + 2)) w b op := by
  obtain ⟨h1, h2, h3, h4⟩ := H
  refine ⟨h1, fun j hj => ?_, fun j hb hj => ?_, ?_⟩
  · rw [upZ_n (by omega)]; exact h2 j hj
  · by_cases e : j = (w - 1).toNat
    · rw [e, upZ_s]; right; left; omega
    · rw [upZ_n e]; exact h3 j hb (by omega)
  · have a := wo_pop (f := f) (w := w) (by omega)
    have c := wo_pop (f := upZ f (w - 1).toNat (f (w - 1).toNat + 2)) (w := w) (by omega)
    rw [upZ_s, wo_c (f := f) (n := (w - 1).toNat) (fun j hj => by rw [upZ_n (by omega)])] at c
    have o1 : opn (f (w - 1).toNat) = 1 := if_pos (by omega)
    have o2 : opn (f (w - 1).toNat + 2) = 1 := if_pos (by omega)
    omega
theorem QW_in {f : Nat → Int} {w op : Int} (H : QW f w w op) : QW f w w op ∧ QW f w w op := ⟨H, H⟩
/-- the formula at hand: codes, what waits, and that each has a byte of its own -/
def QS (s : MS) (b d k : Int) : Prop := QH s d ∧ QW (gA s 103) (gI s 104) b (gI s 105) ∧ (0 ≤ gI s 102 ∧ gI s 102 + gI s 104 ≤ gI s 2 + k)
theorem QS_eq {s o : MS} {b d k k' : Int} (H : QS s b d k) (h1 : gA o 101 = gA s 101) (h2 : gI o 102 = gI s 102) (h3 : gA o 103 = gA s 103) (h4 : gI o 104 = gI s 104) (h5 : gI s 105 ≤ gI o 105) (hk : gI s 2 + k ≤ gI o 2 + k') : QS o b d k' := by
  obtain ⟨a, c, e⟩ := H
  refine ⟨QH_eq a h1 h3 h2 h4, ?_, by omega⟩
  rw [h3, h4]
  exact ⟨c.1, c.2.1, c.2.2.1, by have := c.2.2.2; omega⟩
theorem QS_code {s o : MS} {b d d' k k' v : Int} (H : QS s b d k) (h1 : gA o 101 = upZ (gA s 101) (gI s 102).toNat v) (h2 : gI o 102 = gI s 102 + 1) (h3 : gA o 103 = gA s 103) (h4 : gI o 104 = gI s 104) (h5 : gI o 105 = gI s 105) (st : ∀ q : Int, 0 ≤ q → stp v (q + d) (q + d')) (hk : gI s 2 + k + 1 ≤ gI o 2 + k') : QS o b d' k' := by
  obtain ⟨a, c, e⟩ := H
  refine ⟨QH_code a e.1 h1 h2 h3 h4 (st _ (wq_nn _ _)), ?_, by omega⟩
  rw [h3, h4, h5]; exact c
theorem QS_push {s o : MS} {b d d' k k' v : Int} (H : QS s b d k) (h1 : gA o 101 = gA s 101) (h2 : gI o 102 = gI s 102) (h3 : gA o 103 = upZ (gA s 103) (gI s 104).toNat v) (h4 : gI o 104 = gI s 104 + 1) (h5 : gI s 105 + opn v ≤ gI o 105) (kd : (1 ≤ v ∧ v ≤ 4 ∧ d' = d - 1) ∨ (((20 ≤ v ∧ v ≤ 22) ∨ v = 60 ∨ v = 61) ∧ d' = d)) (hk : gI s 2 + k + 1 ≤ gI o 2 + k') : QS o b d' k' := by
  obtain ⟨a, c, e⟩ := H
  refine ⟨?_, ?_, by omega⟩
  · have p := QH_push a (by have := c.1; omega) h1 h2 h3 h4
    rcases kd with q | q
    · rw [if_pos (by omega)] at p; rw [q.2.2]; exact p
    · rw [if_neg (by omega)] at p; rw [q.2, show d = d - 0 by omega]; exact p
  · rw [h3, h4]; exact QW_push c (by omega) h5
theorem QS_pushT {s o : MS} {d d' k k' v : Int} (H : QS s (gI s 104) d k) (h1 : gA o 101 = gA s 101) (h2 : gI o 102 = gI s 102) (h3 : gA o 103 = upZ (gA s 103) (gI s 104).toNat v) (h4 : gI o 104 = gI s 104 + 1) (h5 : gI s 105 + opn v ≤ gI o 105) (kd : ((v = 10 ∨ v = 11) ∧ d' = d - 1) ∨ ((v = 12 ∨ v = 25) ∧ d' = d)) (hk : gI s 2 + k + 1 ≤ gI o 2 + k') : QS o (gI o 104) d' k' := by
  obtain ⟨a, c, e⟩ := H
  refine ⟨?_, ?_, by omega⟩
  · have p := QH_push a (by have := c.1; omega) h1 h2 h3 h4
    rcases kd with q | q
    · rw [if_pos (by omega)] at p; rw [q.2]; exact p
    · rw [if_neg (by omega)] at p; rw [q.2, show d = d - 0 by omega]; exact p
  · rw [h3, h4]; exact QW_pushT c (by omega) h5
/-- the last that waits is gone, with no code -/
theorem QS_pop {s o : MS} {b d d' k k' : Int} (H : QS s b d k) (hw : b < gI s 104) (h1 : gA o 101 = gA s 101) (h2 : gI o 102 = gI s 102) (h3 : gA o 103 = gA s 103) (h4 : gI o 104 = gI s 104 - 1) (h5 : gI s 105 - opn (gA s 103 (gI s 104 - 1).toNat) ≤ gI o 105) (kd : (gA s 103 (gI s 104 - 1).toNat = 20 ∧ d' = d) ∨ ((gA s 103 (gI s 104 - 1).toNat = 23 ∨ gA s 103 (gI s 104 - 1).toNat = 24) ∧ d' = d + 1)) (hk : gI s 2 + k ≤ gI o 2 + k' + 1) : QS o b d' k' := by
  obtain ⟨a, c, e⟩ := H
  have cb := c.1
  refine ⟨?_, ?_, by omega⟩
  · have p := QH_pop a (by omega) h1 h2 h3 h4
    rcases kd with q | q
    · rw [if_neg (by omega)] at p; rw [q.2, show d = d + 0 by omega]; exact p
    · rw [if_pos (by omega)] at p; rw [q.2]; exact p
  · rw [h3, h4]; exact QW_pop c hw h5
theorem QS_popT {s o : MS} {d k k' : Int} (H : QS s (gI s 104) d k) (hw : 1 ≤ gI s 104) (h1 : gA o 101 = gA s 101) (h2 : gI o 102 = gI s 102) (h3 : gA o 103 = gA s 103) (h4 : gI o 104 = gI s 104 - 1) (h5 : gI s 105 - opn (gA s 103 (gI s 104 - 1).toNat) ≤ gI o 105) (kd : gA s 103 (gI s 104 - 1).toNat = 25) (hk : gI s 2 + k ≤ gI o 2 + k' + 1) : QS o (gI o 104) d k' := by
  obtain ⟨a, c, e⟩ := H
  refine ⟨?_, ?_, by omega⟩
  · have p := QH_pop a hw h1 h2 h3 h4
    rw [if_neg (by omega)] at p; rw [show d = d + 0 by omega]; exact p
  · rw [h3, h4]; exact QW_popT c hw h5
theorem hg_drop {f g : Nat → Int} {n w : Nat} {d : Int} (hd : 1 ≤ d) (H : hg f n (wq g (w + 1) + d)) (k : (1 ≤ g w ∧ g w ≤ 4) ∨ g w = 10 ∨ g w = 11 ∨ g w = 12 ∨ g w = 60 ∨ g w = 61) : hg (upZ f n (g w)) (n + 1) (wq g w + d) := by
  rw [wq_s] at H
  refine hg_add H ?_
  have := wq_nn g w
  unfold stp
  by_cases c : (1 ≤ g w ∧ g w ≤ 11) ∨ g w = 23 ∨ g w = 24
  · rw [if_pos c]; right; right; omega
  · rw [if_neg c]; right; left; omega
/-- the last that waits becomes a code -/
theorem QS_drop {s o : MS} {b d k k' : Int} (H : QS s b d k) (hd : 1 ≤ d) (hw : b < gI s 104) (h1 : gA o 101 = upZ (gA s 101) (gI s 102).toNat (gA s 103 (gI s 104 - 1).toNat)) (h2 : gI o 102 = gI s 102 + 1) (h3 : gA o 103 = gA s 103) (h4 : gI o 104 = gI s 104 - 1) (h5 : gI s 105 - opn (gA s 103 (gI s 104 - 1).toNat) ≤ gI o 105) (kd : ¬ (20 ≤ gA s 103 (gI s 104 - 1).toNat ∧ gA s 103 (gI s 104 - 1).toNat ≤ 24)) (hk : gI s 2 + k ≤ gI o 2 + k') : QS o b d k' := by
  obtain ⟨a, c, e⟩ := H
  have cb := c.1
  have kk := c.2.2.1 (gI s 104 - 1).toNat (by omega) (by omega)
  refine ⟨?_, ?_, by omega⟩
  · unfold QH at a ⊢
    rw [h1, h2, h3, h4, show (gI s 102 + 1).toNat = (gI s 102).toNat + 1 by omega]
    rw [show (gI s 104).toNat = (gI s 104 - 1).toNat + 1 by omega] at a
    exact hg_drop hd a (by omega)
  · rw [h3, h4]; exact QW_pop c hw h5
theorem QS_dropT {s o : MS} {d k k' : Int} (H : QS s (gI s 104) d k) (hd : 1 ≤ d) (hw : 1 ≤ gI s 104) (h1 : gA o 101 = upZ (gA s 101) (gI s 102).toNat (gA s 103 (gI s 104 - 1).toNat)) (h2 : gI o 102 = gI s 102 + 1) (h3 : gA o 103 = gA s 103) (h4 : gI o 104 = gI s 104 - 1) (h5 : gI s 105 - opn (gA s 103 (gI s 104 - 1).toNat) ≤ gI o 105) (kd : gA s 103 (gI s 104 - 1).toNat ≠ 25) (hk : gI s 2 + k ≤ gI o 2 + k') : QS o (gI o 104) d k' := by
  obtain ⟨a, c, e⟩ := H
  have kk := c.2.1 (gI s 104 - 1).toNat (by omega)
  refine ⟨?_, ?_, by omega⟩
  · unfold QH at a ⊢
    rw [h1, h2, h3, h4, show (gI s 102 + 1).toNat = (gI s 102).toNat + 1 by omega]
    rw [show (gI s 104).toNat = (gI s 104 - 1).toNat + 1 by omega] at a
    exact hg_drop hd a (by omega)
  · rw [h3, h4]; exact QW_popT c hw h5
theorem QS_next {s o : MS} {b d k k' : Int} (H : QS s b d k) (hw : b < gI s 104) (h1 : gA o 101 = gA s 101) (h2 : gI o 102 = gI s 102) (h3 : gA o 103 = upZ (gA s 103) (gI s 104 - 1).toNat (gA s 103 (gI s 104 - 1).toNat + 2)) (h4 : gI o 104 = gI s 104) (h5 : gI o 105 = gI s 105) (kd : gA s 103 (gI s 104 - 1).toNat = 21 ∨ gA s 103 (gI s 104 - 1).toNat = 22) (hk : gI s 2 + k ≤ gI o 2 + k') : QS o b (d - 1) k' := by
  obtain ⟨a, c, e⟩ := H
  have cb := c.1
  refine ⟨?_, ?_, by omega⟩
  · unfold QH at a ⊢
    rw [h1, h2, h3, h4]
    rw [show (gI s 104).toNat = (gI s 104 - 1).toNat + 1 by omega] at a ⊢
    rw [wq_s, if_neg (by omega)] at a
    rw [wq_s, upZ_s, if_pos (by omega), wq_c (g := upZ (gA s 103) (gI s 104 - 1).toNat (gA s 103 (gI s 104 - 1).toNat + 2)) (f := gA s 103) (fun j hj => by rw [upZ_n (by omega)])]
    rw [show wq (gA s 103) (gI s 104 - 1).toNat + 1 + (d - 1) = wq (gA s 103) (gI s 104 - 1).toNat + 0 + d by omega]
    exact a
  · rw [h3, h4, h5]; exact QW_next c hw kd
/-- a sum begins, a sum has ended -/
theorem QS_0 {s : MS} {k : Int} (h2 : gI s 102 = 0) (h4 : gI s 104 = 0) (h5 : gI s 105 = 0) (h : 0 ≤ gI s 2 + k) : QS s (gI s 104) 0 k := by
  refine ⟨?_, ?_, by omega⟩
  · unfold QH; rw [h2, h4]; rfl
  · rw [h4, h5]
    exact ⟨by omega, fun j hj => by omega, fun j hb hj => by omega, Int.le_refl 0⟩
