
/-! ===== sums ===== -/
def sm : Nat → (Nat → Nat) → Nat
  | 0, _ => 0
  | n + 1, f => sm n f + f n
theorem sm_congr {n : Nat} {f g : Nat → Nat} (h : ∀ i, i < n → f i = g i) : sm n f = sm n g := by
  induction n with
  | zero => rfl
  | succ n ih => rw [sm, sm, ih (fun i hi => h i (by omega)), h n (by omega)]
/-- one place alone is unlike -/
theorem sm_one {n i : Nat} {f g : Nat → Nat} (hi : i < n) (h : ∀ j, j < n → j ≠ i → g j = f j) : sm n g + f i = sm n f + g i := by
  induction n with
  | zero => omega
  | succ n ih =>
    rw [sm, sm]
    by_cases hn : i = n
    · subst hn
      rw [sm_congr (fun j hj => h j (by omega) (by omega))]
      omega
    · have := ih (by omega) (fun j hj hne => h j (by omega) hne)
      have h2 := h n (by omega) (fun e => hn e.symm)
      omega
theorem sm_le {n i : Nat} {f : Nat → Nat} (hi : i < n) : f i ≤ sm n f := by
  induction n with
  | zero => omega
  | succ n ih =>
    rw [sm]
    by_cases hn : i = n
    · subst hn; omega
    · have := ih (by omega); omega
theorem sm_zero {n : Nat} {f : Nat → Nat} (h : ∀ i, i < n → f i = 0) : sm n f = 0 := by
  induction n with
  | zero => rfl
  | succ n ih => rw [sm, ih (fun i hi => h i (by omega)), h n (by omega)]
theorem sm_pos {n : Nat} {f : Nat → Nat} (h : 0 < sm n f) : ∃ i, i < n ∧ 0 < f i := by
  induction n with
  | zero => exact absurd h (by simp [sm])
  | succ n ih =>
    rw [sm] at h
    by_cases hn : 0 < f n
    · exact ⟨n, by omega, hn⟩
    · obtain ⟨i, h1, h2⟩ := ih (by omega)
      exact ⟨i, by omega, h2⟩
/-! ===== the trees: counts, levels, sizes, what entries refer to, roots; L: references that are held by nobody yet ===== -/
/-- how often b is among the first n of the row -/
def oc (n : Nat) (f : Nat → Nat) (b : Nat) : Nat := sm n (fun k => if f k = b then 1 else 0)
theorem oc_pos {n k : Nat} {f : Nat → Nat} (h : k < n) : 0 < oc n f (f k) := by
  have := sm_le (f := fun j => if f j = f k then 1 else 0) h
  simp at this
  unfold oc; omega
theorem oc_in {n b : Nat} {f : Nat → Nat} (h : 0 < oc n f b) : ∃ k, k < n ∧ f k = b := by
  obtain ⟨k, h1, h2⟩ := sm_pos h
  refine ⟨k, h1, ?_⟩
  by_cases e : f k = b
  · exact e
  · simp [e] at h2
/-- what a BLOCK's ENTRIES refer to, if it is in use and above level 0 -/
def er (c lv sz : Nat → Nat) (vl : Nat → Nat → Nat) (p b : Nat) : Nat := if 0 < c p ∧ 0 < lv p then oc (sz p) (vl p) b else 0
def rr (rt : Nat → Nat) (b : Nat) : Nat := sm 8 (fun v => if rt v = b then 1 else 0)
def rf_ (c lv sz : Nat → Nat) (vl : Nat → Nat → Nat) (rt L : Nat → Nat) (b : Nat) : Nat := sm 48 (fun p => er c lv sz vl p b) + rr rt b + L b
/-- roots: 48 and above is none -/
def TI (c lv sz : Nat → Nat) (vl : Nat → Nat → Nat) (rt L : Nat → Nat) : Prop :=
  (∀ b, b < 48 → c b = rf_ c lv sz vl rt L b) ∧ (∀ p, p < 48 → 0 < c p → 0 < lv p → ∀ k, k < sz p → vl p k < 48 ∧ lv (vl p k) + 1 = lv p)
theorem er_eq {c lv sz c' lv' sz' : Nat → Nat} {vl vl' : Nat → Nat → Nat} {p b : Nat} (h1 : (0 < c' p ∧ 0 < lv' p) ↔ (0 < c p ∧ 0 < lv p)) (h2 : sz' p = sz p) (h3 : ∀ k, k < sz p → vl' p k = vl p k) : er c' lv' sz' vl' p b = er c lv sz vl p b := by
  unfold er
  by_cases h : 0 < c p ∧ 0 < lv p
  · rw [if_pos h, if_pos (h1.mpr h)]
    unfold oc
    rw [h2]
    exact sm_congr (fun k hk => by rw [h3 k hk])
  · rw [if_neg h, if_neg (fun q => h (h1.mp q))]
/-- a child of a BLOCK in use is in use -/
theorem TI.child {c lv sz : Nat → Nat} {vl : Nat → Nat → Nat} {rt L : Nat → Nat} (h : TI c lv sz vl rt L) {p k : Nat} (hp : p < 48) (hc : 0 < c p) (hl : 0 < lv p) (hk : k < sz p) : 0 < c (vl p k) := by
  have hb := (h.2 p hp hc hl k hk).1
  rw [h.1 _ hb]
  have h1 := sm_le (f := fun q => er c lv sz vl q (vl p k)) hp
  have h2 : 0 < er c lv sz vl p (vl p k) := by unfold er; rw [if_pos ⟨hc, hl⟩]; exact oc_pos hk
  unfold rf_
  omega
theorem TI.root {c lv sz : Nat → Nat} {vl : Nat → Nat → Nat} {rt L : Nat → Nat} (h : TI c lv sz vl rt L) {v : Nat} (hv : v < 8) (hb : rt v < 48) : 0 < c (rt v) := by
  rw [h.1 _ hb]
  have h1 := sm_le (f := fun w => if rt w = rt v then 1 else 0) hv
  simp at h1
  unfold rf_ rr
  omega
/-- one that is not in use is referred to by none -/
theorem TI.free {c lv sz : Nat → Nat} {vl : Nat → Nat → Nat} {rt L : Nat → Nat} (h : TI c lv sz vl rt L) {b : Nat} (hb : b < 48) (h0 : c b = 0) : (∀ p, p < 48 → er c lv sz vl p b = 0) ∧ rr rt b = 0 ∧ L b = 0 := by
  have e := h.1 b hb
  rw [h0] at e
  unfold rf_ at e
  refine ⟨fun p hp => ?_, by omega, by omega⟩
  have h1 := sm_le (f := fun q => er c lv sz vl q b) hp
  omega
/-- TO TAKE one that is not in use: it is held -/
theorem TI.take {c lv sz : Nat → Nat} {vl : Nat → Nat → Nat} {rt L : Nat → Nat} (h : TI c lv sz vl rt L) {b : Nat} (hb : b < 48) (h0 : c b = 0) (n : Nat) : TI (va_up c b 1) (va_up lv b n) (va_up sz b 0) vl rt (va_up L b 1) := by
  obtain ⟨f1, f2, f3⟩ := h.free hb h0
  have hne : ∀ p, p < 48 → ∀ x, er (va_up c b 1) (va_up lv b n) (va_up sz b 0) vl p x = er c lv sz vl p x := by
    intro p hp x
    by_cases e : p = b
    · subst e
      have e1 : er c lv sz vl p x = 0 := by unfold er; rw [if_neg (by rw [h0]; omega)]
      rw [e1]
      unfold er
      by_cases q : 0 < (va_up c p 1 p) ∧ 0 < (va_up lv p n p)
      · rw [if_pos q, va_up_self]; rfl
      · rw [if_neg q]
    · exact er_eq (by rw [va_up_ne _ _ e, va_up_ne _ _ e]) (va_up_ne _ _ e) (fun _ _ => rfl)
  refine ⟨fun x hx => ?_, fun p hp hc hl k hk => ?_⟩
  · unfold rf_
    rw [sm_congr (fun p hp => hne p hp x)]
    by_cases e : x = b
    · subst e
      rw [va_up_self, va_up_self, f2, sm_zero (fun p hp => f1 p hp)]
    · rw [va_up_ne _ _ e, va_up_ne _ _ e]
      exact h.1 x hx
  · by_cases e : p = b
    · subst e
      rw [va_up_self] at hk
      omega
    · rw [va_up_ne _ _ e] at hc hl hk
      obtain ⟨g1, g2⟩ := h.2 p hp hc hl k hk
      refine ⟨g1, ?_⟩
      have hx : vl p k ≠ b := fun q => by
        have := f1 p hp
        unfold er at this
        rw [if_pos ⟨hc, hl⟩, ← q] at this
        have := oc_pos (f := vl p) hk
        omega
      rw [va_up_ne _ _ e, va_up_ne _ _ hx]
      exact g2
/-- a COUNT more: it is held once more -/
theorem TI.inc {c lv sz : Nat → Nat} {vl : Nat → Nat → Nat} {rt L : Nat → Nat} (h : TI c lv sz vl rt L) {b : Nat} (hc0 : 0 < c b) : TI (va_up c b (c b + 1)) lv sz vl rt (va_up L b (L b + 1)) := by
  have hp : ∀ p, (0 < va_up c b (c b + 1) p) ↔ 0 < c p := by
    intro p
    by_cases e : p = b
    · subst e; rw [va_up_self]; omega
    · rw [va_up_ne _ _ e]
  refine ⟨fun x hx => ?_, fun p hp1 hc hl k hk => h.2 p hp1 ((hp p).mp hc) hl k hk⟩
  unfold rf_
  rw [sm_congr (fun p _ => er_eq (c := c) (lv := lv) (sz := sz) (vl := vl) (by rw [hp p]) rfl (fun _ _ => rfl))]
  have h1 := h.1 x hx
  unfold rf_ at h1
  by_cases e : x = b
  · subst e; rw [va_up_self, va_up_self]; omega
  · rw [va_up_ne _ _ e, va_up_ne _ _ e]; exact h1
/-- a COUNT less of one that is held; with it 0, what its ENTRIES refer to is held -/
theorem TI.dec {c lv sz : Nat → Nat} {vl : Nat → Nat → Nat} {rt L : Nat → Nat} (h : TI c lv sz vl rt L) {b : Nat} (hb : b < 48) (hL : 0 < L b) : TI (va_up c b (c b - 1)) lv sz vl rt (fun x => (if x = b then L b - 1 else L x) + (if c b = 1 then er c lv sz vl b x else 0)) := by
  have hc0 : 0 < c b := by rw [h.1 b hb]; unfold rf_; omega
  have hp : ∀ p, p ≠ b → va_up c b (c b - 1) p = c p := fun p e => va_up_ne _ _ e
  refine ⟨fun x hx => ?_, fun p hp1 hc hl k hk => ?_⟩
  · have h1 := h.1 x hx
    unfold rf_ at h1 ⊢
    have h2 := sm_one (n := 48) (i := b) (f := fun p => er c lv sz vl p x) (g := fun p => er (va_up c b (c b - 1)) lv sz vl p x) hb (fun p _ e => er_eq (by rw [hp p e]) rfl (fun _ _ => rfl))
    have h3 : er (va_up c b (c b - 1)) lv sz vl b x + (if c b = 1 then er c lv sz vl b x else 0) = er c lv sz vl b x := by
      by_cases e1 : c b = 1
      · rw [if_pos e1]
        unfold er
        rw [va_up_self, e1, if_neg (by omega)]
        omega
      · rw [if_neg e1]
        rw [Nat.add_zero]
        exact er_eq (by rw [va_up_self]; constructor <;> intro q <;> exact ⟨by omega, q.2⟩) rfl (fun _ _ => rfl)
    by_cases e : x = b
    · subst e
      rw [va_up_self]
      simp only [if_true]
      omega
    · rw [va_up_ne _ _ e]
      simp only [if_neg e]
      omega
  · have hc' : 0 < c p := by
      by_cases e : p = b
      · rw [e]; exact hc0
      · rw [hp p e] at hc; exact hc
    exact h.2 p hp1 hc' hl k hk
/-- a BLOCK's ENTRIES are laid anew: what they referred to is held, what they refer to was -/
theorem TI.lay {c lv sz : Nat → Nat} {vl : Nat → Nat → Nat} {rt L : Nat → Nat} (h : TI c lv sz vl rt L) {p n : Nat} {f : Nat → Nat} (hp : p < 48) (hc : 0 < c p) (hl : 0 < lv p) (hk : ∀ k, k < n → f k < 48 ∧ lv (f k) + 1 = lv p) (L' : Nat → Nat) (hL : ∀ x, x < 48 → L' x + oc n f x = L x + oc (sz p) (vl p) x) : TI c lv (va_up sz p n) (fun q => if q = p then f else vl q) rt L' := by
  refine ⟨fun x hx => ?_, fun q hq hcq hlq k hkq => ?_⟩
  · have h1 := h.1 x hx
    unfold rf_ at h1 ⊢
    have h2 := sm_one (n := 48) (i := p) (f := fun q => er c lv sz vl q x) (g := fun q => er c lv (va_up sz p n) (fun q => if q = p then f else vl q) q x) hp (fun q _ e => er_eq Iff.rfl (va_up_ne _ _ e) (fun _ _ => by rw [if_neg e]))
    have h3 : er c lv sz vl p x = oc (sz p) (vl p) x := by unfold er; rw [if_pos ⟨hc, hl⟩]
    have h4 : er c lv (va_up sz p n) (fun q => if q = p then f else vl q) p x = oc n f x := by unfold er; rw [if_pos ⟨hc, hl⟩, va_up_self]; simp
    have h5 := hL x hx
    omega
  · by_cases e : q = p
    · subst e
      rw [va_up_self] at hkq
      simp only [if_true]
      exact hk k hkq
    · rw [va_up_ne _ _ e] at hkq
      simp only [if_neg e]
      exact h.2 q hq hcq hlq k hkq
/-- a ROOT is laid anew -/
theorem TI.root_lay {c lv sz : Nat → Nat} {vl : Nat → Nat → Nat} {rt L : Nat → Nat} (h : TI c lv sz vl rt L) {v r : Nat} (hv : v < 8) (L' : Nat → Nat) (hL : ∀ x, x < 48 → L' x + (if r = x then 1 else 0) = L x + (if rt v = x then 1 else 0)) : TI c lv sz vl (va_up rt v r) L' := by
  refine ⟨fun x hx => ?_, h.2⟩
  have h1 := h.1 x hx
  unfold rf_ rr at h1 ⊢
  have h2 := sm_one (n := 8) (i := v) (f := fun w => if rt w = x then 1 else 0) (g := fun w => if va_up rt v r w = x then 1 else 0) hv (fun w _ e => by rw [va_up_ne _ _ e])
  simp only [va_up_self] at h2
  have h5 := hL x hx
  omega
/-- a BLOCK of LEVEL 0 may be anything -/
theorem TI.low {c lv sz sz' : Nat → Nat} {vl vl' : Nat → Nat → Nat} {rt L : Nat → Nat} (h : TI c lv sz vl rt L) (hs : ∀ q, q < 48 → 0 < c q → 0 < lv q → sz' q = sz q ∧ ∀ k, k < sz q → vl' q k = vl q k) : TI c lv sz' vl' rt L := by
  refine ⟨fun x hx => ?_, fun q hq hcq hlq k hkq => ?_⟩
  · have h1 := h.1 x hx
    unfold rf_ at h1 ⊢
    rw [sm_congr (fun q hq => ?_)]
    · exact h1
    · unfold er
      by_cases e : 0 < c q ∧ 0 < lv q
      · rw [if_pos e, if_pos e]
        obtain ⟨g1, g2⟩ := hs q hq e.1 e.2
        unfold oc
        rw [g1]
        exact sm_congr (fun k hk => by rw [g2 k hk])
      · rw [if_neg e, if_neg e]
  · obtain ⟨g1, g2⟩ := hs q hq hcq hlq
    rw [g1] at hkq
    rw [g2 k hkq]
    exact h.2 q hq hcq hlq k hkq
