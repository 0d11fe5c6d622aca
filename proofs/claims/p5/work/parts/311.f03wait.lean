/-! ===== codes that leave a pile as they should; tests lie below sums there ===== -/
def tpd (c g U T : Int) : Prop := ((1000 ≤ c ∨ (40 ≤ c ∧ c < 60)) ∧ T ≤ U) ∨ (c = 13 ∧ (T ≤ U ∨ (g ≤ U ∧ T ≤ g + 1))) ∨ ((1 ≤ c ∧ c ≤ 6) ∧ T ≤ U ∧ T ≤ g - 2) ∨ ((7 ≤ c ∧ c ≤ 9) ∧ ((T ≤ U ∧ T ≤ g - 2) ∨ (g - 2 ≤ U ∧ T ≤ g - 1))) ∨ (c = 10 ∧ g ≤ U ∧ T ≤ g - 1) ∨ (c = 11 ∧ g - 2 ≤ U ∧ T ≤ g - 1) ∨ (c = 12 ∧ g ≤ U ∧ T ≤ g) ∨ ((60 ≤ c ∧ c < 1000) ∧ T ≤ U ∧ T ≤ g - 1)
def stq (k c g h U T : Int) : Prop := stp c g h ∧ tpd c g U T ∧ (60 ≤ c → c < 1000 → k = 3)
def hk (k : Int) (f : Nat → Int) : Nat → Int → Int → Prop
  | 0, h, T => h = 0 ∧ T ≤ 0
  | n + 1, h, T => ∃ g U, hk k f n g U ∧ stq k (f n) g h U T
theorem hk_c {k : Int} {f g : Nat → Int} {n : Nat} {h T : Int} (H : hk k f n h T) (e : ∀ j, j < n → g j = f j) : hk k g n h T := by
  induction n generalizing h T with
  | zero => exact H
  | succ n ih =>
    obtain ⟨q, U, h1, h2⟩ := H
    exact ⟨q, U, ih h1 (fun j hj => e j (by omega)), by rw [e n (by omega)]; exact h2⟩
theorem hk_add {k : Int} {f : Nat → Int} {n : Nat} {g h v U T : Int} (H : hk k f n g U) (s : stq k v g h U T) : hk k (upZ f n v) (n + 1) h T := ⟨g, U, hk_c H (fun j hj => by rw [upZ_n (by omega)]), by rw [upZ_s]; exact s⟩
theorem hk_b {k : Int} {f : Nat → Int} {n : Nat} {h T : Int} (H : hk k f n h T) : 0 ≤ h ∧ h ≤ (n : Int) := by
  induction n generalizing h T with
  | zero => have := H.1; omega
  | succ n ih =>
    obtain ⟨q, U, h1, h2⟩ := H
    have a := ih h1
    have b := h2.1
    unfold stp at b
    omega
theorem wq_mono {f : Nat → Int} {a b : Nat} (h : a ≤ b) : wq f a ≤ wq f b := by
  induction b with
  | zero => rw [show a = 0 by omega]; exact Int.le_refl _
  | succ b ih =>
    by_cases q : a = b + 1
    · rw [q]; exact Int.le_refl _
    · have := ih (by omega)
      rw [wq_s]
      split <;> omega
/-! ===== what waits in a formula of the reference ===== -/
def opn (v : Int) : Int := if v = 12 ∨ (20 ≤ v ∧ v ≤ 25) ∨ 60 ≤ v then 1 else 0
theorem opn_01 (v : Int) : opn v = 0 ∨ opn v = 1 := by unfold opn; split <;> omega
def wo (f : Nat → Int) (n : Nat) : Int := sm n (fun j => opn (f j))
theorem wo_s (f : Nat → Int) (n : Nat) : wo f (n + 1) = wo f n + opn (f n) := rfl
theorem wo_c {f g : Nat → Int} {n : Nat} (e : ∀ j, j < n → g j = f j) : wo g n = wo f n := sm_c (fun j hj => by rw [e j hj])
theorem wo_nn (f : Nat → Int) (n : Nat) : 0 ≤ wo f n := sm_nn (fun j _ => by have := opn_01 (f j); show 0 ≤ opn (f j); omega)
/-- the last bracket of the sum at hand -/
def brk (f : Nat → Int) (b : Int) : Nat → Int
  | 0 => -1
  | n + 1 => if (n : Int) < b then -1 else if 20 ≤ f n ∧ f n ≤ 24 then f n else brk f b n
theorem brk_or (f : Nat → Int) (b : Int) (n : Nat) : brk f b n = -1 ∨ (20 ≤ brk f b n ∧ brk f b n ≤ 24) := by
  induction n with
  | zero => exact Or.inl rfl
  | succ n ih =>
    show (if (n : Int) < b then (-1 : Int) else if 20 ≤ f n ∧ f n ≤ 24 then f n else brk f b n) = -1 ∨ (20 ≤ (if (n : Int) < b then (-1 : Int) else if 20 ≤ f n ∧ f n ≤ 24 then f n else brk f b n) ∧ (if (n : Int) < b then (-1 : Int) else if 20 ≤ f n ∧ f n ≤ 24 then f n else brk f b n) ≤ 24)
    by_cases c : (n : Int) < b
    · rw [if_pos c]; exact Or.inl rfl
    · rw [if_neg c]
      by_cases d : 20 ≤ f n ∧ f n ≤ 24
      · rw [if_pos d]; exact Or.inr d
      · rw [if_neg d]; exact ih
theorem brk_low {f : Nat → Int} {b : Int} {n : Nat} (h : (n : Int) ≤ b) : brk f b n = -1 := by
  cases n with
  | zero => rfl
  | succ n => exact if_pos (by omega)
theorem brk_skip {f : Nat → Int} {b : Int} {n : Nat} (h : b ≤ (n : Int)) (k : ¬ (20 ≤ f n ∧ f n ≤ 24)) : brk f b (n + 1) = brk f b n := by
  show (if (n : Int) < b then (-1 : Int) else if 20 ≤ f n ∧ f n ≤ 24 then f n else brk f b n) = _
  rw [if_neg (by omega), if_neg k]
theorem brk_top {f : Nat → Int} {b : Int} {n : Nat} (h : b ≤ (n : Int)) (k : 20 ≤ f n ∧ f n ≤ 24) : brk f b (n + 1) = f n := by
  show (if (n : Int) < b then (-1 : Int) else if 20 ≤ f n ∧ f n ≤ 24 then f n else brk f b n) = _
  rw [if_neg (by omega), if_pos k]
theorem brk_none {f : Nat → Int} {b : Int} {n : Nat} (h : brk f b n = -1) : ∀ j : Nat, b ≤ (j : Int) → j < n → ¬ (20 ≤ f j ∧ f j ≤ 24) := by
  induction n with
  | zero => intro j _ hj; omega
  | succ n ih =>
    intro j hb hj k
    by_cases c : (n : Int) < b
    · omega
    · by_cases d : 20 ≤ f n ∧ f n ≤ 24
      · rw [brk_top (by omega) d] at h; omega
      · rw [brk_skip (by omega) d] at h
        by_cases e : j = n
        · rw [e] at k; exact d k
        · exact ih h j hb (by omega) k
/-- below b what tests wait for, from b on what the sum at hand waits for -/
def QW (tk : Int) (f : Nat → Int) (w b op : Int) : Prop := (0 ≤ b ∧ b ≤ w) ∧ (∀ j : Nat, (j : Int) < b → f j = 10 ∨ f j = 11 ∨ f j = 12 ∨ f j = 25) ∧ (∀ j : Nat, b ≤ (j : Int) → (j : Int) < w → (1 ≤ f j ∧ f j ≤ 4) ∨ (20 ≤ f j ∧ f j ≤ 24) ∨ ((f j = 60 ∨ f j = 61) ∧ tk = 3)) ∧ wo f w.toNat ≤ op
theorem QW_push {tk : Int} {f : Nat → Int} {w b op v op' : Int} (H : QW tk f w b op) (k : (1 ≤ v ∧ v ≤ 4) ∨ (20 ≤ v ∧ v ≤ 24) ∨ ((v = 60 ∨ v = 61) ∧ tk = 3)) (ho : op + opn v ≤ op') : QW tk (upZ f w.toNat v) (w + 1) b op' := by
  obtain ⟨h1, h2, h3, h4⟩ := H
  refine ⟨by omega, fun j hj => ?_, fun j hb hj => ?_, ?_⟩
  · rw [upZ_n (by omega)]; exact h2 j hj
  · by_cases e : j = w.toNat
    · rw [e, upZ_s]; exact k
    · rw [upZ_n e]; exact h3 j hb (by omega)
  · rw [show (w + 1).toNat = w.toNat + 1 by omega, wo_s, upZ_s, wo_c (f := f) (fun j hj => by rw [upZ_n (by omega)])]
    omega
theorem QW_pushT {tk : Int} {f : Nat → Int} {w op v op' : Int} (H : QW tk f w w op) (k : v = 10 ∨ v = 11 ∨ v = 12 ∨ v = 25) (ho : op + opn v ≤ op') : QW tk (upZ f w.toNat v) (w + 1) (w + 1) op' := by
  obtain ⟨h1, h2, h3, h4⟩ := H
  refine ⟨by omega, fun j hj => ?_, fun j hb hj => by omega, ?_⟩
  · by_cases e : j = w.toNat
    · rw [e, upZ_s]; exact k
    · rw [upZ_n e]; exact h2 j (by omega)
  · rw [show (w + 1).toNat = w.toNat + 1 by omega, wo_s, upZ_s, wo_c (f := f) (fun j hj => by rw [upZ_n (by omega)])]
    omega
theorem wo_pop {f : Nat → Int} {w : Int} (h : 1 ≤ w) : wo f w.toNat = wo f (w - 1).toNat + opn (f (w - 1).toNat) := by
  rw [← wo_s, show (w - 1).toNat + 1 = w.toNat by omega]
theorem QW_pop {tk : Int} {f : Nat → Int} {w b op op' : Int} (H : QW tk f w b op) (hw : b < w) (ho : op - opn (f (w - 1).toNat) ≤ op') : QW tk f (w - 1) b op' := by
  obtain ⟨h1, h2, h3, h4⟩ := H
  refine ⟨by omega, h2, fun j hb hj => h3 j hb (by omega), ?_⟩
  have := wo_pop (f := f) (w := w) (by omega)
  omega
theorem QW_popT {tk : Int} {f : Nat → Int} {w op op' : Int} (H : QW tk f w w op) (hw : 1 ≤ w) (ho : op - opn (f (w - 1).toNat) ≤ op') : QW tk f (w - 1) (w - 1) op' := by
  obtain ⟨h1, h2, h3, h4⟩ := H
  refine ⟨by omega, fun j hj => h2 j (by omega), fun j hb hj => by omega, ?_⟩
  have := wo_pop (f := f) (w := w) (by omega)
  omega
/-- the one that lies last names one that is open: so it was counted -/
theorem QW_op {tk : Int} {f : Nat → Int} {w b op : Int} (H : QW tk f w b op) (hw : 1 ≤ w) (k : opn (f (w - 1).toNat) = 1) : 1 ≤ op := by
  obtain ⟨h1, h2, h3, h4⟩ := H
  have := wo_pop (f := f) (w := w) hw
  have := wo_nn f (w - 1).toNat
  omega
theorem QW_next {tk : Int} {f : Nat → Int} {w b op : Int} (H : QW tk f w b op) (hw : b < w) (k : f (w - 1).toNat = 21 ∨ f (w - 1).toNat = 22) : QW tk (upZ f (w - 1).toNat (f (w - 1).toNat + 2)) w b op := by
  obtain ⟨h1, h2, h3, h4⟩ := H
  refine ⟨h1, fun j hj => ?_, fun j hb hj => ?_, ?_⟩
  · rw [upZ_n (by omega)]; exact h2 j hj
  · by_cases e : j = (w - 1).toNat
    · rw [e, upZ_s]; right; left; omega
    · rw [upZ_n e]; exact h3 j hb (by omega)
  · have a := wo_pop (f := f) (w := w) (by omega)
    have c := wo_pop (f := upZ f (w - 1).toNat (f (w - 1).toNat + 2)) (w := w) (by omega)
    rw [upZ_s, wo_c (f := f) (n := (w - 1).toNat) (fun j hj => by rw [upZ_n (by omega)])] at c
    have o1 : opn (f (w - 1).toNat) = 1 := if_pos (by omega)
    have o2 : opn (f (w - 1).toNat + 2) = 1 := if_pos (by omega)
    omega
/-- the formula at hand: codes, what waits, and that each has a byte of its own; T: so many tests lie lowest on the pile -/
def QG (s : MS) (b d k T : Int) : Prop := hk (gI s 48) (gA s 101) (gI s 102).toNat (wq (gA s 103) (gI s 104).toNat + d) T ∧ QW (gI s 48) (gA s 103) (gI s 104) b (gI s 105) ∧ (0 ≤ gI s 102 ∧ gI s 102 + gI s 104 ≤ gI s 2 + k)
def QS (s : MS) (b d k : Int) : Prop := QG s b d k (wq (gA s 103) b.toNat)
def QT (s : MS) (d k : Int) : Prop := QG s (gI s 104) d k (wq (gA s 103) (gI s 104).toNat + d)
theorem QG_eq {s o : MS} {b d k k' T : Int} (H : QG s b d k T) (h1 : gA o 101 = gA s 101) (h2 : gI o 102 = gI s 102) (h3 : gA o 103 = gA s 103) (h4 : gI o 104 = gI s 104) (h48 : gI o 48 = gI s 48) (h5 : gI s 105 ≤ gI o 105) (hk : gI s 2 + k ≤ gI o 2 + k') : QG o b d k' T := by
  obtain ⟨a, c, e⟩ := H
  refine ⟨?_, ?_, by omega⟩
  · rw [h1, h2, h3, h4, h48]; exact a
  · rw [h3, h4, h48]
    exact ⟨c.1, c.2.1, c.2.2.1, by have := c.2.2.2; omega⟩
theorem QS_eq {s o : MS} {b d k k' : Int} (H : QS s b d k) (h1 : gA o 101 = gA s 101) (h2 : gI o 102 = gI s 102) (h3 : gA o 103 = gA s 103) (h4 : gI o 104 = gI s 104) (h48 : gI o 48 = gI s 48) (h5 : gI s 105 ≤ gI o 105) (hk : gI s 2 + k ≤ gI o 2 + k') : QS o b d k' := by
  unfold QS at H ⊢
  rw [h3]
  exact QG_eq H h1 h2 h3 h4 h48 h5 hk
theorem QT_eq {s o : MS} {d k k' : Int} (H : QT s d k) (h1 : gA o 101 = gA s 101) (h2 : gI o 102 = gI s 102) (h3 : gA o 103 = gA s 103) (h4 : gI o 104 = gI s 104) (h48 : gI o 48 = gI s 48) (h5 : gI s 105 ≤ gI o 105) (hk : gI s 2 + k ≤ gI o 2 + k') : QT o d k' := by
  unfold QT at H ⊢
  rw [h3, h4]
  exact QG_eq H h1 h2 h3 h4 h48 h5 hk
theorem QT_S {s : MS} {k : Int} (H : QT s 0 k) : QS s (gI s 104) 0 k := by
  unfold QT at H
  rw [Int.add_zero] at H
  exact H
theorem wq_le {f : Nat → Int} {b w : Int} (h : 0 ≤ b ∧ b ≤ w) : wq f b.toNat ≤ wq f w.toNat := wq_mono (by omega)
theorem QS_code {s o : MS} {b d d' k k' v : Int} (H : QS s b d k) (h1 : gA o 101 = upZ (gA s 101) (gI s 102).toNat v) (h2 : gI o 102 = gI s 102 + 1) (h3 : gA o 103 = gA s 103) (h4 : gI o 104 = gI s 104) (h48 : gI o 48 = gI s 48) (h5 : gI o 105 = gI s 105) (kd : ((1000 ≤ v ∨ (40 ≤ v ∧ v < 60)) ∧ d' = d + 1) ∨ ((v = 5 ∨ v = 6) ∧ 2 ≤ d ∧ d' = d - 1)) (hk : gI s 2 + k + 1 ≤ gI o 2 + k') : QS o b d' k' := by
  obtain ⟨a, c, e⟩ := H
  have z := wq_le (f := gA s 103) c.1
  have z0 := wq_nn (gA s 103) (gI s 104).toNat
  refine ⟨?_, ?_, by omega⟩
  · rw [h1, h2, h3, h4, h48, show (gI s 102 + 1).toNat = (gI s 102).toNat + 1 by omega]
    refine hk_add a ⟨?_, ?_, fun q1 q2 => by omega⟩
    · unfold stp
      rcases kd with q | q
      · left; omega
      · right; right; omega
    · unfold tpd
      rcases kd with q | q
      · left; omega
      · right; right; left; omega
  · rw [h3, h4, h5, h48]; exact c
/-- all: a test that holds -/
theorem QT_all {s o : MS} {k k' : Int} (H : QT s 0 k) (h1 : gA o 101 = upZ (gA s 101) (gI s 102).toNat 13) (h2 : gI o 102 = gI s 102 + 1) (h3 : gA o 103 = gA s 103) (h4 : gI o 104 = gI s 104) (h48 : gI o 48 = gI s 48) (h5 : gI o 105 = gI s 105) (hk : gI s 2 + k + 1 ≤ gI o 2 + k') : QT o 1 k' := by
  obtain ⟨a, c, e⟩ := H
  refine ⟨?_, ?_, by omega⟩
  · rw [h1, h2, h3, h4, h48, show (gI s 102 + 1).toNat = (gI s 102).toNat + 1 by omega]
    refine hk_add a ⟨?_, ?_, fun q1 q2 => by omega⟩
    · unfold stp; left; omega
    · unfold tpd; right; left; omega
  · rw [h3, h4, h5, h48]; exact c
/-- two sums are compared: a test -/
theorem QT_cmp {s o : MS} {k k' v : Int} (H : QS s (gI s 104) 2 k) (h1 : gA o 101 = upZ (gA s 101) (gI s 102).toNat v) (h2 : gI o 102 = gI s 102 + 1) (h3 : gA o 103 = gA s 103) (h4 : gI o 104 = gI s 104) (h48 : gI o 48 = gI s 48) (h5 : gI o 105 = gI s 105) (kd : 7 ≤ v ∧ v ≤ 9) (hk : gI s 2 + k + 1 ≤ gI o 2 + k') : QT o 1 k' := by
  obtain ⟨a, c, e⟩ := H
  have z0 := wq_nn (gA s 103) (gI s 104).toNat
  refine ⟨?_, ?_, by omega⟩
  · rw [h1, h2, h3, h4, h48, show (gI s 102 + 1).toNat = (gI s 102).toNat + 1 by omega]
    refine hk_add a ⟨?_, ?_, fun q1 q2 => by omega⟩
    · unfold stp; right; right; omega
    · unfold tpd; right; right; right; left; omega
  · rw [h3, h4, h5, h48]; exact c
theorem wq_up {f : Nat → Int} {n m : Nat} {v : Int} (h : n ≤ m) : wq (upZ f m v) n = wq f n := wq_c (fun j hj => by rw [upZ_n (by omega)])
theorem QS_push {s o : MS} {b d d' k k' v : Int} (H : QS s b d k) (h1 : gA o 101 = gA s 101) (h2 : gI o 102 = gI s 102) (h3 : gA o 103 = upZ (gA s 103) (gI s 104).toNat v) (h4 : gI o 104 = gI s 104 + 1) (h48 : gI o 48 = gI s 48) (h5 : gI s 105 + opn v ≤ gI o 105) (kd : (1 ≤ v ∧ v ≤ 4 ∧ d' = d - 1) ∨ (((20 ≤ v ∧ v ≤ 22) ∨ ((v = 60 ∨ v = 61) ∧ gI s 48 = 3)) ∧ d' = d)) (hk : gI s 2 + k + 1 ≤ gI o 2 + k') : QS o b d' k' := by
  obtain ⟨a, c, e⟩ := H
  have cb := c.1
  refine ⟨?_, ?_, by omega⟩
  · rw [h1, h2, h3, h4, h48, show (gI s 104 + 1).toNat = (gI s 104).toNat + 1 by omega, wq_s, upZ_s, wq_up (Nat.le_refl _), wq_up (show b.toNat ≤ (gI s 104).toNat by omega)]
    rcases kd with q | q
    · rw [if_pos (by omega), q.2.2, show wq (gA s 103) (gI s 104).toNat + 1 + (d - 1) = wq (gA s 103) (gI s 104).toNat + d by omega]; exact a
    · rw [if_neg (by omega), q.2, Int.add_zero]; exact a
  · rw [h3, h4, h48]; exact QW_push c (by omega) h5
theorem QT_push {s o : MS} {d d' k k' v : Int} (H : QT s d k) (h1 : gA o 101 = gA s 101) (h2 : gI o 102 = gI s 102) (h3 : gA o 103 = upZ (gA s 103) (gI s 104).toNat v) (h4 : gI o 104 = gI s 104 + 1) (h48 : gI o 48 = gI s 48) (h5 : gI s 105 + opn v ≤ gI o 105) (kd : ((v = 10 ∨ v = 11) ∧ d' = d - 1) ∨ ((v = 12 ∨ v = 25) ∧ d' = d)) (hk : gI s 2 + k + 1 ≤ gI o 2 + k') : QT o d' k' := by
  obtain ⟨a, c, e⟩ := H
  have cb := c.1
  refine ⟨?_, ?_, by omega⟩
  · rw [h1, h2, h3, h4, h48, show (gI s 104 + 1).toNat = (gI s 104).toNat + 1 by omega, wq_s, upZ_s, wq_up (Nat.le_refl _)]
    rcases kd with q | q
    · rw [if_pos (by omega), q.2, show wq (gA s 103) (gI s 104).toNat + 1 + (d - 1) = wq (gA s 103) (gI s 104).toNat + d by omega]; exact a
    · rw [if_neg (by omega), q.2, Int.add_zero]; exact a
  · rw [h3, h4, h48]; exact QW_pushT c (by omega) h5
theorem wq_pop {f : Nat → Int} {w : Int} (h : 1 ≤ w) : wq f w.toNat = wq f (w - 1).toNat + (if (1 ≤ f (w - 1).toNat ∧ f (w - 1).toNat ≤ 11) ∨ f (w - 1).toNat = 23 ∨ f (w - 1).toNat = 24 then 1 else 0) := by
  rw [← wq_s, show (w - 1).toNat + 1 = w.toNat by omega]
/-- the last that waits is gone, with no code -/
theorem QS_pop {s o : MS} {b d d' k k' : Int} (H : QS s b d k) (hw : b < gI s 104) (h1 : gA o 101 = gA s 101) (h2 : gI o 102 = gI s 102) (h3 : gA o 103 = gA s 103) (h4 : gI o 104 = gI s 104 - 1) (h48 : gI o 48 = gI s 48) (h5 : gI s 105 - opn (gA s 103 (gI s 104 - 1).toNat) ≤ gI o 105) (kd : (gA s 103 (gI s 104 - 1).toNat = 20 ∧ d' = d) ∨ ((gA s 103 (gI s 104 - 1).toNat = 23 ∨ gA s 103 (gI s 104 - 1).toNat = 24) ∧ d' = d + 1)) (hk : gI s 2 + k ≤ gI o 2 + k' + 1) : QS o b d' k' := by
  obtain ⟨a, c, e⟩ := H
  have cb := c.1
  refine ⟨?_, ?_, by omega⟩
  · rw [wq_pop (by omega)] at a
    rw [h1, h2, h3, h4, h48]
    rcases kd with q | q
    · rw [if_neg (by omega), Int.add_zero] at a; rw [q.2]; exact a
    · rw [if_pos (by omega)] at a
      rw [q.2, show wq (gA s 103) (gI s 104 - 1).toNat + (d + 1) = wq (gA s 103) (gI s 104 - 1).toNat + 1 + d by omega]; exact a
  · rw [h3, h4, h48]; exact QW_pop c hw h5
theorem QT_pop {s o : MS} {d k k' : Int} (H : QT s d k) (hw : 1 ≤ gI s 104) (h1 : gA o 101 = gA s 101) (h2 : gI o 102 = gI s 102) (h3 : gA o 103 = gA s 103) (h4 : gI o 104 = gI s 104 - 1) (h48 : gI o 48 = gI s 48) (h5 : gI s 105 - opn (gA s 103 (gI s 104 - 1).toNat) ≤ gI o 105) (kd : gA s 103 (gI s 104 - 1).toNat = 25) (hk : gI s 2 + k ≤ gI o 2 + k' + 1) : QT o d k' := by
  obtain ⟨a, c, e⟩ := H
  refine ⟨?_, ?_, by omega⟩
  · rw [wq_pop hw, if_neg (by omega), Int.add_zero] at a
    rw [h1, h2, h3, h4, h48]
    exact a
  · rw [h3, h4, h48]; exact QW_popT c hw h5
/-- the last that waits becomes a code -/
theorem QS_drop {s o : MS} {b d k k' : Int} (H : QS s b d k) (hd : 1 ≤ d) (hw : b < gI s 104) (h1 : gA o 101 = upZ (gA s 101) (gI s 102).toNat (gA s 103 (gI s 104 - 1).toNat)) (h2 : gI o 102 = gI s 102 + 1) (h3 : gA o 103 = gA s 103) (h4 : gI o 104 = gI s 104 - 1) (h48 : gI o 48 = gI s 48) (h5 : gI s 105 - opn (gA s 103 (gI s 104 - 1).toNat) ≤ gI o 105) (kd : ¬ (20 ≤ gA s 103 (gI s 104 - 1).toNat ∧ gA s 103 (gI s 104 - 1).toNat ≤ 24)) (hk : gI s 2 + k ≤ gI o 2 + k') : QS o b d k' := by
  obtain ⟨a, c, e⟩ := H
  have cb := c.1
  have kk := c.2.2.1 (gI s 104 - 1).toNat (by omega) (by omega)
  have z := wq_le (f := gA s 103) (b := b) (w := gI s 104 - 1) (by omega)
  have z0 := wq_nn (gA s 103) b.toNat
  refine ⟨?_, ?_, by omega⟩
  · rw [wq_pop (by omega)] at a
    rw [h1, h2, h3, h4, h48, show (gI s 102 + 1).toNat = (gI s 102).toNat + 1 by omega]
    generalize gA s 103 (gI s 104 - 1).toNat = v at *
    by_cases q : 1 ≤ v ∧ v ≤ 4
    · rw [if_pos (by omega)] at a
      refine hk_add a ⟨?_, ?_, fun q1 q2 => by omega⟩
      · unfold stp; right; right; omega
      · unfold tpd; right; right; left; omega
    · rw [if_neg (by omega)] at a
      refine hk_add a ⟨?_, ?_, fun q1 q2 => by omega⟩
      · unfold stp; right; left; omega
      · unfold tpd; right; right; right; right; right; right; right; omega
  · rw [h3, h4, h48]; exact QW_pop c hw h5
theorem QT_drop {s o : MS} {d k k' : Int} (H : QT s d k) (hd : 1 ≤ d) (hw : 1 ≤ gI s 104) (h1 : gA o 101 = upZ (gA s 101) (gI s 102).toNat (gA s 103 (gI s 104 - 1).toNat)) (h2 : gI o 102 = gI s 102 + 1) (h3 : gA o 103 = gA s 103) (h4 : gI o 104 = gI s 104 - 1) (h48 : gI o 48 = gI s 48) (h5 : gI s 105 - opn (gA s 103 (gI s 104 - 1).toNat) ≤ gI o 105) (kd : gA s 103 (gI s 104 - 1).toNat ≠ 25) (hk : gI s 2 + k ≤ gI o 2 + k') : QT o d k' := by
  obtain ⟨a, c, e⟩ := H
  have kk := c.2.1 (gI s 104 - 1).toNat (by omega)
  have z0 := wq_nn (gA s 103) (gI s 104 - 1).toNat
  refine ⟨?_, ?_, by omega⟩
  · rw [wq_pop hw] at a
    rw [h1, h2, h3, h4, h48, show (gI s 102 + 1).toNat = (gI s 102).toNat + 1 by omega]
    generalize gA s 103 (gI s 104 - 1).toNat = v at *
    by_cases q : v = 10 ∨ v = 11
    · rw [if_pos (by omega)] at a
      refine hk_add a ⟨?_, ?_, fun q1 q2 => by omega⟩
      · unfold stp; right; right; omega
      · unfold tpd
        rcases q with q | q
        · right; right; right; right; left; omega
        · right; right; right; right; right; left; omega
    · rw [if_neg (by omega)] at a
      refine hk_add a ⟨?_, ?_, fun q1 q2 => by omega⟩
      · unfold stp; right; left; omega
      · unfold tpd; right; right; right; right; right; right; left; omega
  · rw [h3, h4, h48]; exact QW_popT c hw h5
theorem QS_next {s o : MS} {b d k k' : Int} (H : QS s b d k) (hw : b < gI s 104) (h1 : gA o 101 = gA s 101) (h2 : gI o 102 = gI s 102) (h3 : gA o 103 = upZ (gA s 103) (gI s 104 - 1).toNat (gA s 103 (gI s 104 - 1).toNat + 2)) (h4 : gI o 104 = gI s 104) (h48 : gI o 48 = gI s 48) (h5 : gI o 105 = gI s 105) (kd : gA s 103 (gI s 104 - 1).toNat = 21 ∨ gA s 103 (gI s 104 - 1).toNat = 22) (hk : gI s 2 + k ≤ gI o 2 + k') : QS o b (d - 1) k' := by
  obtain ⟨a, c, e⟩ := H
  have cb := c.1
  refine ⟨?_, ?_, by omega⟩
  · rw [wq_pop (by omega), if_neg (by omega), Int.add_zero] at a
    rw [h1, h2, h3, h4, h48, wq_pop (by omega), upZ_s, if_pos (by omega), wq_up (Nat.le_refl _), wq_up (show b.toNat ≤ (gI s 104 - 1).toNat by omega), show wq (gA s 103) (gI s 104 - 1).toNat + 1 + (d - 1) = wq (gA s 103) (gI s 104 - 1).toNat + d by omega]
    exact a
  · rw [h3, h4, h5, h48]; exact QW_next c hw kd
/-- a formula begins -/
theorem QT_0 {s : MS} {k : Int} (h2 : gI s 102 = 0) (h4 : gI s 104 = 0) (h5 : gI s 105 = 0) (h : 0 ≤ gI s 2 + k) : QT s 0 k := by
  refine ⟨?_, ?_, by omega⟩
  · rw [h2, h4]; exact ⟨rfl, Int.le_refl 0⟩
  · rw [h4, h5]
    exact ⟨by omega, fun j hj => by omega, fun j hb hj => by omega, Int.le_refl 0⟩
