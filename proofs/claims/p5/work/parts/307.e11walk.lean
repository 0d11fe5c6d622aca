/-! ===== a tree in which no block comes twice, and how it is walked ===== -/
def sr (q : Int) : Nat → Int := fun v => if v = 0 then q else -5
theorem rr_sr (q : Int) (x : Nat) : rr (sr q) (x : Int) = if q = (x : Int) then 1 else 0 := by
  unfold rr
  have e : sm 8 (fun v => if sr q v = (x : Int) then (1 : Int) else 0) = sm 1 (fun v => if sr q v = (x : Int) then (1 : Int) else 0) := by
    show ((((((((0 : Int) + (if sr q 0 = (x : Int) then 1 else 0)) + (if sr q 1 = (x : Int) then 1 else 0)) + (if sr q 2 = (x : Int) then 1 else 0)) + (if sr q 3 = (x : Int) then 1 else 0)) + (if sr q 4 = (x : Int) then 1 else 0)) + (if sr q 5 = (x : Int) then 1 else 0)) + (if sr q 6 = (x : Int) then 1 else 0)) + (if sr q 7 = (x : Int) then 1 else 0) = (0 : Int) + (if sr q 0 = (x : Int) then 1 else 0)
    have z : ∀ v : Nat, v ≠ 0 → ¬ sr q v = (x : Int) := fun v hv => by
      unfold sr
      rw [if_neg hv]; omega
    rw [if_neg (z 1 (by decide)), if_neg (z 2 (by decide)), if_neg (z 3 (by decide)), if_neg (z 4 (by decide)), if_neg (z 5 (by decide)), if_neg (z 6 (by decide)), if_neg (z 7 (by decide))]
    omega
  rw [e]
  show (0 : Int) + (if sr q 0 = (x : Int) then 1 else 0) = _
  have : sr q 0 = q := if_pos rfl
  rw [this]; omega
/-- each block once at the most; how far counts are off -/
def MV (h : SH) (mu : Nat → Int) (q : Int) (D : Nat → Int) : Prop := (∀ x, x < 48 → mu x = 0 ∨ mu x = 1) ∧ (∀ x, x < 48 → df h mu (sr q) x = D x)
/-- a row of blocks that wait: how often one is there -/
def ct (st : Nat → Int) (w : Nat) (x : Int) : Int := sm w (fun j => if st j = x then 1 else 0)
/-- what is still to come, M; what waits in the row; what is about to be put there -/
def WK (h : SH) (M st : Nat → Int) (w : Nat) (Pd : Nat → Int) : Prop := (∀ x, x < 48 → M x = 0 ∨ M x = 1) ∧ (∀ j, j < w → 0 ≤ st j ∧ st j < 48) ∧ (∀ x, x < 48 → 0 ≤ Pd x) ∧ (∀ x, x < 48 → M x = ct st w (x : Int) + Pd x + sm 48 (fun p => if 0 < M p then en h p (x : Int) else 0))
theorem ct_nn (st : Nat → Int) (w : Nat) (x : Int) : 0 ≤ ct st w x := sm_nn (fun j _ => by
  show 0 ≤ if st j = x then (1 : Int) else 0
  split <;> omega)
theorem ct_s (st : Nat → Int) (w : Nat) (x : Int) : ct st (w + 1) x = ct st w x + (if st w = x then 1 else 0) := rfl
theorem ct_up {st : Nat → Int} {w g : Nat} {v x : Int} (hg : w ≤ g) : ct (upZ st g v) w x = ct st w x := sm_c (fun j hj => by rw [upZ_n (by omega)])
theorem sn_nn (h : SH) (M : Nat → Int) (x : Int) : 0 ≤ sm 48 (fun p => if 0 < M p then en h p x else 0) := sm_nn (fun p _ => by
  show 0 ≤ if 0 < M p then en h p x else 0
  split
  · exact en_nn h p x
  · exact Int.le_refl 0)
theorem WK_0 {h : SH} {mu st : Nat → Int} {q : Int} (H : MV h mu q (fun _ => 0)) (hq : 0 ≤ q ∧ q < 48) : WK h mu (upZ st 0 q) 1 (fun _ => 0) := by
  refine ⟨H.1, fun j hj => ?_, fun _ _ => Int.le_refl 0, fun x hx => ?_⟩
  · rw [show j = 0 by omega, upZ_s]; exact hq
  · have e := H.2 x hx
    unfold df rf at e
    rw [rr_sr] at e
    have c : ct (upZ st 0 q) 1 (x : Int) = if q = (x : Int) then 1 else 0 := by
      show (0 : Int) + (if upZ st 0 q 0 = (x : Int) then 1 else 0) = _
      rw [upZ_s]; omega
    rw [c]
    dsimp only at e ⊢
    omega
/-- the last one that waits is taken -/
theorem WK_pop {h : SH} {M st : Nat → Int} {w : Nat} (H : WK h M st (w + 1) (fun _ => 0)) : M (st w).toNat = 1 ∧ WK h (upZ M (st w).toNat 0) st w (fun x => en h (st w).toNat (x : Int)) := by
  have hb := H.2.1 w (by omega)
  have hb48 : (st w).toNat < 48 := by omega
  have e1 := H.2.2.2 (st w).toNat hb48
  have c1 := ct_nn st w (((st w).toNat : Nat) : Int)
  have s1 := sn_nn h M (((st w).toNat : Nat) : Int)
  rw [ct_s, if_pos (show st w = (((st w).toNat : Nat) : Int) by omega)] at e1
  dsimp only at e1
  have m1 : M (st w).toNat = 1 := by
    rcases H.1 _ hb48 with q | q
    · omega
    · exact q
  refine ⟨m1, fun x hx => ?_, fun j hj => H.2.1 j (by omega), fun x hx => en_nn h _ _, fun x hx => ?_⟩
  · by_cases z : x = (st w).toNat
    · rw [z, upZ_s]; exact Or.inl rfl
    · rw [upZ_n z]; exact H.1 x hx
  · have e := H.2.2.2 x hx
    rw [ct_s] at e
    have so := sm_one (n := 48) (i := (st w).toNat) (f := fun p => if 0 < M p then en h p (x : Int) else 0) (g := fun p => if 0 < upZ M (st w).toNat 0 p then en h p (x : Int) else 0) hb48 (fun j _ hn => by
      show (if 0 < upZ M (st w).toNat 0 j then en h j (x : Int) else 0) = _
      rw [upZ_n hn])
    rw [upZ_s, if_pos (show 0 < M (st w).toNat by omega), if_neg (show ¬ (0 : Int) < 0 by omega)] at so
    rw [so]
    dsimp only at e ⊢
    by_cases z : x = (st w).toNat
    · rw [z, upZ_s]
      rw [z, if_pos (show st w = (((st w).toNat : Nat) : Int) by omega), m1] at e
      omega
    · rw [upZ_n z]
      rw [if_neg (show ¬ st w = (x : Int) by omega)] at e
      omega
/-- one that was named is put into the row -/
theorem WK_push {h : SH} {M st : Nat → Int} {w : Nat} {Pd Pd' : Nat → Int} {y : Int} (H : WK h M st w Pd) (hy : 0 ≤ y ∧ y < 48) (hP : ∀ x, x < 48 → Pd x = Pd' x + (if y = (x : Int) then 1 else 0)) (hn : ∀ x, x < 48 → 0 ≤ Pd' x) : WK h M (upZ st w y) (w + 1) Pd' := by
  refine ⟨H.1, fun j hj => ?_, hn, fun x hx => ?_⟩
  · by_cases z : j = w
    · rw [z, upZ_s]; exact hy
    · rw [upZ_n z]; exact H.2.1 j (by omega)
  · have e := H.2.2.2 x hx
    rw [ct_s, ct_up (Nat.le_refl w), upZ_s]
    have := hP x hx
    omega
theorem WK_P {h : SH} {M st : Nat → Int} {w : Nat} {Pd Pd' : Nat → Int} (H : WK h M st w Pd) (hP : ∀ x, x < 48 → Pd' x = Pd x) : WK h M st w Pd' := ⟨H.1, H.2.1, fun x hx => by rw [hP x hx]; exact H.2.2.1 x hx, fun x hx => by rw [hP x hx]; exact H.2.2.2 x hx⟩
/-- no more wait than are still to come -/
theorem WK_le {h : SH} {M st : Nat → Int} {w : Nat} {Pd : Nat → Int} (H : WK h M st w Pd) : (w : Int) ≤ pos M := by
  have e1 : sm 48 (fun x => ct st w (x : Int)) = (w : Int) := by
    unfold ct
    rw [sm_sw 48 w (fun x j => if st j = (x : Int) then 1 else 0)]
    have : ∀ j, j < w → sm 48 (fun x => if st j = (x : Int) then (1 : Int) else 0) = 1 := fun j hj => by
      have hb := H.2.1 j hj
      rw [sm_one (n := 48) (i := (st j).toNat) (f := fun _ => 0) (g := fun x => if st j = (x : Int) then (1 : Int) else 0) (by omega) (fun x _ hn => if_neg (by omega)), sm_0 (fun _ _ => rfl)]
      show (0 : Int) - 0 + (if st j = (((st j).toNat : Nat) : Int) then 1 else 0) = 1
      rw [if_pos (by omega)]; rfl
    rw [sm_c (f := fun j => sm 48 (fun x => if st j = (x : Int) then (1 : Int) else 0)) (g := fun _ => 1) this]
    have : ∀ n : Nat, sm n (fun _ => (1 : Int)) = (n : Int) := fun n => by
      induction n with
      | zero => rfl
      | succ n ih => show sm n (fun _ => (1 : Int)) + 1 = _; rw [ih]; omega
    exact this w
  have e2 : sm 48 (fun x => ct st w (x : Int)) ≤ pos M := by
    unfold pos
    refine sm_le (fun x hx => ?_)
    have e := H.2.2.2 x hx
    have p := H.2.2.1 x hx
    have n := sn_nn h M (x : Int)
    show ct st w (x : Int) ≤ if 0 < M x then 1 else 0
    rcases H.1 x hx with q | q
    · rw [if_neg (by omega)]; omega
    · rw [if_pos (by omega)]; omega
  omega
theorem WK_pos {h : SH} {M st : Nat → Int} {w : Nat} {Pd : Nat → Int} (H : WK h M st w Pd) {b : Nat} (hb : b < 48) (m : M b = 1) : pos (upZ M b 0) = pos M - 1 := by
  rw [pos_up hb, if_pos (show 0 < M b by omega), if_neg (show ¬ (0 : Int) < 0 by omega)]; omega
