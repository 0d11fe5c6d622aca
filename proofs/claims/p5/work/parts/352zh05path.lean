/-! ===== on: an image's trees: paths and keys ===== -/
def hLa (f : Nat → Int) : SH := (fun p => f (19 + 16 * p), fun p => f (20 + 16 * p), fun p k => if k < 6 then f (27 + 16 * p + k) else 0)
def kLa (f : Nat → Int) : Nat → Nat → Int := fun p k => if k < 6 then f (21 + 16 * p + k) else 0
def cLa (f : Nat → Int) (w : Nat) : Nat → Int := fun p => f (17 + 16 * p + w)
def rLa (f : Nat → Int) (w : Nat) : Nat → Int := fun v => if v < 8 then f (8 * w + v) else 0
/-- a block that is there -/
def DLa (f : Nat → Int) (b : Nat) : Prop := f (17 + 16 * b) + f (18 + 16 * b) ≠ 0
/-- an image as it is laid -/
def IG (f : Nat → Int) (N E : Int) : Prop := (0 ≤ N ∧ N ≤ 48) ∧ (3 ≤ E ∧ E ≤ 6) ∧ (∀ b, b < 48 → LB_r f E b) ∧ (∀ b : Nat, b < 48 → N ≤ (b : Int) → f (17 + 16 * b) = 0 ∧ f (18 + 16 * b) = 0) ∧ (∀ b : Nat, (b : Int) < N → ∀ k : Nat, (k : Int) < f (20 + 16 * b) → AV1 f N b k) ∧ (∀ u, u < 16 → 0 ≤ f u ∧ f u ≤ 255)
theorem IG_there {f : Nat → Int} {N E : Int} {b : Nat} (H : IG f N E) (hb : b < 48) (hd : DLa f b) : (b : Int) < N ∧ (0 ≤ (hLa f).1 b ∧ (hLa f).1 b ≤ 255) ∧ (1 ≤ (hLa f).2.1 b ∧ (hLa f).2.1 b ≤ E) ∧ (∀ k : Nat, (k : Int) < (hLa f).2.1 b → 0 ≤ kLa f b k ∧ kLa f b k ≤ 999) := by
  obtain ⟨hN, hE, hB, hZ, _, _⟩ := H
  have hd' : f (17 + 16 * b) + f (18 + 16 * b) ≠ 0 := hd
  have lt : (b : Int) < N := by
    by_cases w : (b : Int) < N
    · exact w
    · have q := hZ b hb (by omega)
      omega
  rcases (hB b hb).2 with ⟨z, _⟩ | ⟨_, q2, q3, _, q5, _⟩
  · exact absurd z hd'
  · refine ⟨lt, q2, q3, fun k hk => ?_⟩
    have hk' : (k : Int) < f (20 + 16 * b) := hk
    show 0 ≤ (if k < 6 then f (21 + 16 * b + k) else 0) ∧ (if k < 6 then f (21 + 16 * b + k) else 0) ≤ 999
    rw [if_pos (by omega)]
    exact q5 k hk'
theorem IG_kid {f : Nat → Int} {N E : Int} {b k : Nat} (H : IG f N E) (hb : b < 48) (hd : DLa f b) (hl : 0 < (hLa f).1 b) (hk : (k : Int) < (hLa f).2.1 b) : (0 ≤ (hLa f).2.2 b k ∧ (hLa f).2.2 b k < N) ∧ (hLa f).1 ((hLa f).2.2 b k).toNat = (hLa f).1 b - 1 ∧ DLa f ((hLa f).2.2 b k).toNat := by
  have t := IG_there H hb hd
  have v := H.2.2.2.2.1 b t.1 k hk
  have hE := H.2.1
  have e : (hLa f).2.2 b k = f (27 + 16 * b + k) := by
    show (if k < 6 then f (27 + 16 * b + k) else 0) = _
    exact if_pos (by omega)
  rw [e]
  rcases v with ⟨z, _⟩ | ⟨_, a, d, l⟩
  · have : 0 < f (19 + 16 * b) := hl
    omega
  · exact ⟨a, l, d⟩
theorem IG_rise {f : Nat → Int} {N E : Int} {b : Nat} (H : IG f N E) (hb : b < 48) (hd : DLa f b) : ∀ j i : Nat, 1 ≤ i → i ≤ j → (j : Int) < (hLa f).2.1 b → kLa f b i ≤ kLa f b j := by
  have t := IG_there H hb hd
  have hE := H.2.1
  have hd' : f (17 + 16 * b) + f (18 + 16 * b) ≠ 0 := hd
  have q6 : ∀ k : Nat, (k : Int) + 1 < f (20 + 16 * b) → (0 < k ∨ f (19 + 16 * b) = 0) → f (21 + 16 * b + k) < f (21 + 16 * b + (k + 1)) := by
    rcases (H.2.2.1 b hb).2 with ⟨z, _⟩ | ⟨_, _, _, _, _, q⟩
    · exact absurd z hd'
    · exact q
  intro j
  induction j with
  | zero => intro i h1 h2; omega
  | succ j ih =>
    intro i h1 h2 h3
    by_cases z : i = j + 1
    · rw [z]; exact Int.le_refl _
    · have a := ih i h1 (by omega) (by omega)
      have h3' : ((j + 1 : Nat) : Int) < f (20 + 16 * b) := h3
      have c := q6 j (by omega) (Or.inl (by omega))
      have e1 : kLa f b j = f (21 + 16 * b + j) := by
        show (if j < 6 then f (21 + 16 * b + j) else 0) = _
        exact if_pos (by omega)
      have e2 : kLa f b (j + 1) = f (21 + 16 * b + (j + 1)) := by
        show (if j + 1 < 6 then f (21 + 16 * b + (j + 1)) else 0) = _
        exact if_pos (by omega)
      rw [e2]
      rw [e1] at a
      omega
theorem sm_mulr (n : Nat) (f : Nat → Int) (c : Int) : sm n f * c = sm n (fun k => f k * c) := by
  induction n with
  | zero => exact Int.zero_mul c
  | succ n ih =>
    show (sm n f + f n) * c = sm n (fun k => f k * c) + f n * c
    rw [Int.add_mul, ih]
theorem sm_dl {b : Nat} (hb : b < 48) (g : Nat → Int) : sm 48 (fun p => (if b = p then (1 : Int) else 0) * g p) = g b := by
  have h1 := sm_one (n := 48) (i := b) (f := fun _ => 0) (g := fun p => (if b = p then (1 : Int) else 0) * g p) hb (fun j _ hn => by
    show (if b = j then (1 : Int) else 0) * g j = 0
    rw [if_neg (fun w => hn w.symm), Int.zero_mul])
  rw [h1, sm_0 (fun _ _ => rfl)]
  show (0 : Int) - 0 + (if b = b then (1 : Int) else 0) * g b = g b
  rw [if_pos rfl, Int.one_mul]; omega
/-- at most one is 1 -/
theorem sm_le1 {n : Nat} {g : Nat → Int} (h1 : ∀ k, k < n → 0 ≤ g k ∧ g k ≤ 1) (h2 : ∀ i j, i < n → j < n → i ≠ j → 0 < g i → 0 < g j → False) : sm n g ≤ 1 := by
  induction n with
  | zero => show (0 : Int) ≤ 1; omega
  | succ n ih =>
    show sm n g + g n ≤ 1
    have a := h1 n (by omega)
    have b := ih (fun k hk => h1 k (by omega)) (fun i j hi hj => h2 i j (by omega) (by omega))
    by_cases z : 0 < g n
    · have s0 : sm n g = 0 := sm_0 (fun i hi => by
        have c := h1 i (by omega)
        by_cases w : 0 < g i
        · exact absurd z (fun z => h2 i n (by omega) (by omega) (by omega) w z)
        · omega)
      omega
    · omega
theorem sm_cut {n m : Nat} {f : Nat → Int} (h : n ≤ m) (hz : ∀ i, n ≤ i → i < m → f i = 0) : sm m f = sm n f := by
  obtain ⟨d, rfl⟩ : ∃ d, m = n + d := ⟨m - n, by omega⟩
  rw [sm_app, sm_0 (fun j hj => hz (n + j) (by omega) (by omega))]
  omega
/-- how many ways lead from a block to another, down L levels -/
def muL (h : SH) : Nat → Nat → Nat → Int
  | 0, b, x => if b = x then 1 else 0
  | L + 1, b, x => (if b = x then 1 else 0) + sm (h.2.1 b).toNat (fun k => muL h L (h.2.2 b k).toNat x)
theorem muL_0 (h : SH) (b x : Nat) : muL h 0 b x = if b = x then 1 else 0 := rfl
theorem muL_s (h : SH) (L b x : Nat) : muL h (L + 1) b x = (if b = x then 1 else 0) + sm (h.2.1 b).toNat (fun k => muL h L (h.2.2 b k).toNat x) := rfl
theorem muL_nn (h : SH) (L : Nat) : ∀ b x, 0 ≤ muL h L b x := by
  induction L with
  | zero =>
    intro b x
    rw [muL_0]
    split <;> omega
  | succ L ih =>
    intro b x
    rw [muL_s]
    have a := sm_nn (n := (h.2.1 b).toNat) (f := fun k => muL h L (h.2.2 b k).toNat x) (fun k _ => ih _ _)
    by_cases z : b = x
    · rw [if_pos z]; omega
    · rw [if_neg z]; omega
/-- the last step instead of the first -/
theorem muL_eq {f : Nat → Int} {N E : Int} (H : IG f N E) : ∀ (L b : Nat), b < 48 → DLa f b → (hLa f).1 b = (L : Int) → ∀ x : Nat, x < 48 → muL (hLa f) L b x = (if b = x then 1 else 0) + sm 48 (fun p => muL (hLa f) L b p * en (hLa f) p (x : Int)) := by
  have hN := H.1
  intro L
  induction L with
  | zero =>
    intro b hb hd hl x hx
    have s0 : sm 48 (fun p => muL (hLa f) 0 b p * en (hLa f) p (x : Int)) = 0 := sm_0 (fun p hp => by
      rw [muL_0]
      by_cases z : b = p
      · rw [← z, en_leaf (by omega)]; exact Int.mul_zero _
      · rw [if_neg z]; exact Int.zero_mul _)
    rw [s0, muL_0]
    exact (Int.add_zero _).symm
  | succ L ih =>
    intro b hb hd hl x hx
    have t := IG_there H hb hd
    have hE := H.2.1
    have hl0 : 0 < (hLa f).1 b := by omega
    have e1 : ∀ k, k < ((hLa f).2.1 b).toNat → muL (hLa f) L ((hLa f).2.2 b k).toNat x = (if (hLa f).2.2 b k = (x : Int) then 1 else 0) + sm 48 (fun p => muL (hLa f) L ((hLa f).2.2 b k).toNat p * en (hLa f) p (x : Int)) := fun k hk => by
      have kd := IG_kid (k := k) H hb hd hl0 (by omega)
      have q := ih ((hLa f).2.2 b k).toNat (by omega) kd.2.2 (by omega) x hx
      rw [q]
      by_cases z : (hLa f).2.2 b k = (x : Int)
      · rw [if_pos z, if_pos (by omega)]
      · rw [if_neg z, if_neg (by omega)]
    have e2 : sm 48 (fun p => muL (hLa f) (L + 1) b p * en (hLa f) p (x : Int)) = sm 48 (fun p => (if b = p then (1 : Int) else 0) * en (hLa f) p (x : Int)) + sm 48 (fun p => sm ((hLa f).2.1 b).toNat (fun k => muL (hLa f) L ((hLa f).2.2 b k).toNat p * en (hLa f) p (x : Int))) := by
      rw [← sm_add 48 (fun p => (if b = p then (1 : Int) else 0) * en (hLa f) p (x : Int)) (fun p => sm ((hLa f).2.1 b).toNat (fun k => muL (hLa f) L ((hLa f).2.2 b k).toNat p * en (hLa f) p (x : Int)))]
      refine sm_c (fun p hp => ?_)
      show muL (hLa f) (L + 1) b p * en (hLa f) p (x : Int) = (if b = p then (1 : Int) else 0) * en (hLa f) p (x : Int) + sm ((hLa f).2.1 b).toNat (fun k => muL (hLa f) L ((hLa f).2.2 b k).toNat p * en (hLa f) p (x : Int))
      rw [muL_s, Int.add_mul, sm_mulr]
    have e3 := sm_dl (b := b) hb (fun p => en (hLa f) p (x : Int))
    have e4 := sm_sw 48 ((hLa f).2.1 b).toNat (fun p k => muL (hLa f) L ((hLa f).2.2 b k).toNat p * en (hLa f) p (x : Int))
    have e5 := en_sm (h := hLa f) (p := b) (x := (x : Int)) (by omega)
    rw [if_pos hl0] at e5
    have e6 := sm_add ((hLa f).2.1 b).toNat (fun k => if (hLa f).2.2 b k = (x : Int) then (1 : Int) else 0) (fun k => sm 48 (fun p => muL (hLa f) L ((hLa f).2.2 b k).toNat p * en (hLa f) p (x : Int)))
    have e7 : sm ((hLa f).2.1 b).toNat (fun k => muL (hLa f) L ((hLa f).2.2 b k).toNat x) = sm ((hLa f).2.1 b).toNat (fun k => (if (hLa f).2.2 b k = (x : Int) then (1 : Int) else 0) + sm 48 (fun p => muL (hLa f) L ((hLa f).2.2 b k).toNat p * en (hLa f) p (x : Int))) := sm_c e1
    rw [muL_s, e7, e6, e2, e3, e4, e5]
/-- a key under a block -/
def Ukey (f : Nat → Int) : Nat → Nat → Int → Prop
  | 0, b, z => ∃ k : Nat, (k : Int) < (hLa f).2.1 b ∧ kLa f b k = z
  | L + 1, b, z => ∃ k : Nat, (k : Int) < (hLa f).2.1 b ∧ Ukey f L ((hLa f).2.2 b k).toNat z
theorem muL_in {f : Nat → Int} {N E : Int} (H : IG f N E) : ∀ (L b : Nat), b < 48 → DLa f b → (hLa f).1 b = (L : Int) → ∀ x : Nat, x < 48 → 0 < muL (hLa f) L b x → DLa f x ∧ ∃ l : Nat, l ≤ L ∧ (hLa f).1 x = (l : Int) ∧ (l = L → b = x) ∧ ∀ z, Ukey f l x z → Ukey f L b z := by
  have hN := H.1
  intro L
  induction L with
  | zero =>
    intro b hb hd hl x hx hm
    by_cases z : b = x
    · rw [← z]; exact ⟨hd, 0, Nat.le_refl 0, hl, fun _ => rfl, fun _ h => h⟩
    · rw [muL_0, if_neg z] at hm; omega
  | succ L ih =>
    intro b hb hd hl x hx hm
    have t := IG_there H hb hd
    by_cases z : b = x
    · rw [← z]; exact ⟨hd, L + 1, Nat.le_refl _, hl, fun _ => rfl, fun _ h => h⟩
    · rw [muL_s, if_neg z] at hm
      obtain ⟨k, hk, hk2⟩ := sm_ex (n := ((hLa f).2.1 b).toNat) (f := fun k => muL (hLa f) L ((hLa f).2.2 b k).toNat x) (by omega)
      have hk2 : 0 < muL (hLa f) L ((hLa f).2.2 b k).toNat x := hk2
      have kd := IG_kid (k := k) H hb hd (by omega) (by omega)
      obtain ⟨dx, l, h1, h2, _, h4⟩ := ih ((hLa f).2.2 b k).toNat (by omega) kd.2.2 (by omega) x hx hk2
      exact ⟨dx, l, by omega, h2, fun w => by omega, fun v hv => ⟨k, by omega, h4 v hv⟩⟩
theorem Ukey_ex {f : Nat → Int} {N E : Int} (H : IG f N E) : ∀ (L b : Nat), b < 48 → DLa f b → (hLa f).1 b = (L : Int) → ∃ z, Ukey f L b z := by
  have hN := H.1
  intro L
  induction L with
  | zero =>
    intro b hb hd hl
    have t := IG_there H hb hd
    exact ⟨kLa f b 0, 0, by omega, rfl⟩
  | succ L ih =>
    intro b hb hd hl
    have t := IG_there H hb hd
    have kd := IG_kid (k := 0) H hb hd (by omega) (by omega)
    obtain ⟨z, hz⟩ := ih ((hLa f).2.2 b 0).toNat (by omega) kd.2.2 (by omega)
    exact ⟨z, 0, by omega, hz⟩
/-- children whose keys are apart, each without a block twice: then the block too -/
theorem muL_one {f : Nat → Int} {N E : Int} {L b : Nat} (H : IG f N E) (hb : b < 48) (hd : DLa f b) (hl : (hLa f).1 b = ((L + 1 : Nat) : Int)) (kids : ∀ k : Nat, (k : Int) < (hLa f).2.1 b → ∀ x, x < 48 → muL (hLa f) L ((hLa f).2.2 b k).toNat x ≤ 1) (sep : ∀ k j : Nat, (k : Int) < (hLa f).2.1 b → (j : Int) < (hLa f).2.1 b → k < j → ∀ z, Ukey f L ((hLa f).2.2 b k).toNat z → Ukey f L ((hLa f).2.2 b j).toNat z → False) : ∀ x, x < 48 → muL (hLa f) (L + 1) b x ≤ 1 := by
  intro x hx
  have hN := H.1
  have t := IG_there H hb hd
  have kd := fun k hk => IG_kid (k := k) H hb hd (by omega) hk
  rw [muL_s]
  by_cases z : b = x
  · have s0 : sm ((hLa f).2.1 b).toNat (fun k => muL (hLa f) L ((hLa f).2.2 b k).toNat x) = 0 := sm_0 (fun k hk => by
      have nn := muL_nn (hLa f) L ((hLa f).2.2 b k).toNat x
      have q := kd k (by omega)
      by_cases w : 0 < muL (hLa f) L ((hLa f).2.2 b k).toNat x
      · obtain ⟨_, l, h1, h2, _⟩ := muL_in H L ((hLa f).2.2 b k).toNat (by omega) q.2.2 (by omega) x hx w
        rw [← z, hl] at h2
        omega
      · omega)
    rw [if_pos z, s0]; omega
  · rw [if_neg z]
    have two : ∀ i j, i < ((hLa f).2.1 b).toNat → j < ((hLa f).2.1 b).toNat → i < j → 0 < muL (hLa f) L ((hLa f).2.2 b i).toNat x → 0 < muL (hLa f) L ((hLa f).2.2 b j).toNat x → False := by
      intro i j hi hj hij wi wj
      have qi := kd i (by omega)
      have qj := kd j (by omega)
      obtain ⟨dx, l, h1, h2, _, h4⟩ := muL_in H L ((hLa f).2.2 b i).toNat (by omega) qi.2.2 (by omega) x hx wi
      obtain ⟨_, l', h1', h2', _, h4'⟩ := muL_in H L ((hLa f).2.2 b j).toNat (by omega) qj.2.2 (by omega) x hx wj
      have el : l' = l := by omega
      rw [el] at h4'
      obtain ⟨v, hv⟩ := Ukey_ex H l x hx dx h2
      exact sep i j (by omega) (by omega) hij v (h4 v hv) (h4' v hv)
    have s1 := sm_le1 (n := ((hLa f).2.1 b).toNat) (g := fun k => muL (hLa f) L ((hLa f).2.2 b k).toNat x) (fun k hk => ⟨muL_nn _ _ _ _, kids k (by omega) x hx⟩) (fun i j hi hj hij wi wj => by
      by_cases c : i < j
      · exact two i j hi hj c wi wj
      · exact two j i hj hi (by omega) wj wi)
    omega
/-- no block twice under b -/
def KO (f : Nat → Int) (b : Nat) : Prop := ∀ l : Nat, (hLa f).1 b = (l : Int) → ∀ x, x < 48 → muL (hLa f) l b x ≤ 1
theorem KO_0 {f : Nat → Int} {b : Nat} (h : (hLa f).1 b = 0) : KO f b := fun l hl x _ => by
  have : l = 0 := by omega
  rw [this, muL_0]
  split <;> omega
theorem MV_L {f : Nat → Int} {N E : Int} {L b : Nat} (H : IG f N E) (hb : b < 48) (hd : DLa f b) (hl : (hLa f).1 b = (L : Int)) (ko : ∀ x, x < 48 → muL (hLa f) L b x ≤ 1) : MV (hLa f) (muL (hLa f) L b) (b : Int) (fun _ => 0) := by
  have m01 : ∀ x, x < 48 → muL (hLa f) L b x = 0 ∨ muL (hLa f) L b x = 1 := fun x hx => by
    have a := muL_nn (hLa f) L b x
    have c := ko x hx
    omega
  refine ⟨m01, fun x hx => ?_⟩
  have e := muL_eq H L b hb hd hl x hx
  have e2 : sm 48 (fun p => muL (hLa f) L b p * en (hLa f) p (x : Int)) = sm 48 (fun p => if 0 < muL (hLa f) L b p then en (hLa f) p (x : Int) else 0) := sm_c (fun p hp => by
    rcases m01 p hp with q | q
    · rw [q, if_neg (by omega)]; exact Int.zero_mul _
    · rw [q, if_pos (by omega)]; exact Int.one_mul _)
  rw [e2] at e
  have ei : (if (b : Int) = (x : Int) then (1 : Int) else 0) = if b = x then 1 else 0 := by
    by_cases z : b = x
    · rw [if_pos z, if_pos (by omega)]
    · rw [if_neg z, if_neg (by omega)]
  show muL (hLa f) L b x - (rr (sr (b : Int)) (x : Int) + sm 48 (fun p => if 0 < muL (hLa f) L b p then en (hLa f) p (x : Int) else 0)) = 0
  rw [rr_sr, ei]
  omega
/-- what lies under a block, by its own level -/
def UK (f : Nat → Int) (b : Nat) (z : Int) : Prop := ∃ l : Nat, (hLa f).1 b = (l : Int) ∧ Ukey f l b z
/-- under one that waits -/
def UW (f st : Nat → Int) (w : Nat) (z : Int) : Prop := ∃ j, j < w ∧ UK f (st j).toNat z
/-- under an entry from the k-th on -/
def UR (f : Nat → Int) (b : Nat) (k : Int) (z : Int) : Prop := ∃ i : Nat, k ≤ (i : Int) ∧ (i : Int) < (hLa f).2.1 b ∧ (((hLa f).1 b = 0 ∧ kLa f b i = z) ∨ (0 < (hLa f).1 b ∧ UK f ((hLa f).2.2 b i).toNat z))
theorem UK_UR {f : Nat → Int} {N E : Int} {b : Nat} {z : Int} (H : IG f N E) (hb : b < 48) (hd : DLa f b) (h : UK f b z) : UR f b 0 z := by
  obtain ⟨l, h1, h2⟩ := h
  cases l with
  | zero =>
    obtain ⟨k, a, c⟩ := h2
    exact ⟨k, by omega, a, Or.inl ⟨by omega, c⟩⟩
  | succ l =>
    obtain ⟨k, a, c⟩ := h2
    have kd := IG_kid (k := k) H hb hd (by omega) a
    exact ⟨k, by omega, a, Or.inr ⟨by omega, l, by omega, c⟩⟩
theorem UW_pop {f st : Nat → Int} {w : Nat} {z : Int} (h : UW f st (w + 1) z) : UW f st w z ∨ UK f (st w).toNat z := by
  obtain ⟨j, a, c⟩ := h
  by_cases q : j = w
  · rw [q] at c; exact Or.inr c
  · exact Or.inl ⟨j, by omega, c⟩
theorem UW_push {f st : Nat → Int} {w : Nat} {z v : Int} (h : UW f st w z ∨ UK f v.toNat z) : UW f (upZ st w v) (w + 1) z := by
  rcases h with ⟨j, a, c⟩ | c
  · exact ⟨j, by omega, by rw [upZ_n (by omega)]; exact c⟩
  · exact ⟨w, by omega, by rw [upZ_s]; exact c⟩
theorem UR_step {f : Nat → Int} {b : Nat} {k z : Int} (hk : 0 ≤ k) (h : UR f b k z) : UR f b (k + 1) z ∨ (((hLa f).1 b = 0 ∧ kLa f b k.toNat = z) ∨ (0 < (hLa f).1 b ∧ UK f ((hLa f).2.2 b k.toNat).toNat z)) := by
  obtain ⟨i, a, c, d⟩ := h
  by_cases q : (i : Int) = k
  · rw [show i = k.toNat by omega] at d; exact Or.inr d
  · exact Or.inl ⟨i, by omega, c, d⟩
