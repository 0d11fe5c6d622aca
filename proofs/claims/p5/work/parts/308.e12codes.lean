/-! ===== codes that leave a pile as they should ===== -/
def stp (c g h : Int) : Prop := ((1000 ≤ c ∨ (40 ≤ c ∧ c < 60) ∨ c = 13) ∧ h = g + 1) ∨ ((c = 12 ∨ (60 ≤ c ∧ c < 1000)) ∧ 1 ≤ g ∧ h = g) ∨ ((1 ≤ c ∧ c ≤ 11) ∧ 2 ≤ g ∧ h = g - 1)
def hg (f : Nat → Int) : Nat → Int → Prop
  | 0, h => h = 0
  | n + 1, h => ∃ g, hg f n g ∧ stp (f n) g h
theorem hg_c {f g : Nat → Int} {n : Nat} {h : Int} (H : hg f n h) (e : ∀ j, j < n → g j = f j) : hg g n h := by
  induction n generalizing h with
  | zero => exact H
  | succ n ih =>
    obtain ⟨k, h1, h2⟩ := H
    exact ⟨k, ih h1 (fun j hj => e j (by omega)), by rw [e n (by omega)]; exact h2⟩
theorem hg_nn {f : Nat → Int} {n : Nat} {h : Int} (H : hg f n h) : 0 ≤ h := by
  cases n with
  | zero => have : h = 0 := H; omega
  | succ n =>
    obtain ⟨k, h1, h2⟩ := H
    have := hg_nn h1
    unfold stp at h2
    omega
theorem hg_add {f : Nat → Int} {n : Nat} {g h v : Int} (H : hg f n g) (s : stp v g h) : hg (upZ f n v) (n + 1) h := ⟨g, hg_c H (fun j hj => by rw [upZ_n (by omega)]), by rw [upZ_s]; exact s⟩
theorem hg_le {f : Nat → Int} {n : Nat} {h : Int} (H : hg f n h) : h ≤ (n : Int) := by
  induction n generalizing h with
  | zero => have : h = 0 := H; omega
  | succ n ih =>
    obtain ⟨k, h1, h2⟩ := H
    have := ih h1
    unfold stp at h2
    omega
/-- how many that wait have their first number on the pile -/
def wq (f : Nat → Int) (n : Nat) : Int := sm n (fun j => if (1 ≤ f j ∧ f j ≤ 11) ∨ f j = 23 ∨ f j = 24 then 1 else 0)
theorem wq_s (f : Nat → Int) (n : Nat) : wq f (n + 1) = wq f n + (if (1 ≤ f n ∧ f n ≤ 11) ∨ f n = 23 ∨ f n = 24 then 1 else 0) := rfl
theorem wq_c {f g : Nat → Int} {n : Nat} (e : ∀ j, j < n → g j = f j) : wq g n = wq f n := sm_c (fun j hj => by rw [e j hj])
theorem wq_nn (f : Nat → Int) (n : Nat) : 0 ≤ wq f n := sm_nn (fun j _ => by split <;> omega)
/-- the reference's formula at hand: d more lie on the pile than wait for a second one -/
def QH (s : MS) (d : Int) : Prop := hg (gA s 101) (gI s 102).toNat (wq (gA s 103) (gI s 104).toNat + d)
theorem QH_eq {s o : MS} {d : Int} (H : QH s d) (h1 : gA o 101 = gA s 101) (h2 : gA o 103 = gA s 103) (h3 : gI o 102 = gI s 102) (h4 : gI o 104 = gI s 104) : QH o d := by
  unfold QH at H ⊢
  rw [h1, h2, h3, h4]; exact H
theorem QH_code {s o : MS} {d d' v : Int} (H : QH s d) (h0 : 0 ≤ gI s 102) (e1 : gA o 101 = upZ (gA s 101) (gI s 102).toNat v) (e2 : gI o 102 = gI s 102 + 1) (e3 : gA o 103 = gA s 103) (e4 : gI o 104 = gI s 104) (st : stp v (wq (gA s 103) (gI s 104).toNat + d) (wq (gA s 103) (gI s 104).toNat + d')) : QH o d' := by
  unfold QH at H ⊢
  rw [e1, e2, e3, e4, show (gI s 102 + 1).toNat = (gI s 102).toNat + 1 by omega]
  exact hg_add H st
theorem QH_push {s o : MS} {d v : Int} (H : QH s d) (h0 : 0 ≤ gI s 104) (e1 : gA o 101 = gA s 101) (e2 : gI o 102 = gI s 102) (e3 : gA o 103 = upZ (gA s 103) (gI s 104).toNat v) (e4 : gI o 104 = gI s 104 + 1) : QH o (d - (if (1 ≤ v ∧ v ≤ 11) ∨ v = 23 ∨ v = 24 then 1 else 0)) := by
  unfold QH at H ⊢
  rw [e1, e2, e3, e4, show (gI s 104 + 1).toNat = (gI s 104).toNat + 1 by omega, wq_s, upZ_s, wq_c (g := upZ (gA s 103) (gI s 104).toNat v) (f := gA s 103) (fun j hj => by rw [upZ_n (by omega)])]
  have e : wq (gA s 103) (gI s 104).toNat + (if (1 ≤ v ∧ v ≤ 11) ∨ v = 23 ∨ v = 24 then 1 else 0) + (d - (if (1 ≤ v ∧ v ≤ 11) ∨ v = 23 ∨ v = 24 then 1 else 0)) = wq (gA s 103) (gI s 104).toNat + d := by omega
  rw [e]; exact H
theorem QH_pop {s o : MS} {d : Int} (H : QH s d) (h0 : 1 ≤ gI s 104) (e1 : gA o 101 = gA s 101) (e2 : gI o 102 = gI s 102) (e3 : gA o 103 = gA s 103) (e4 : gI o 104 = gI s 104 - 1) : QH o (d + (if (1 ≤ gA s 103 (gI s 104 - 1).toNat ∧ gA s 103 (gI s 104 - 1).toNat ≤ 11) ∨ gA s 103 (gI s 104 - 1).toNat = 23 ∨ gA s 103 (gI s 104 - 1).toNat = 24 then 1 else 0)) := by
  unfold QH at H ⊢
  rw [e1, e2, e3, e4]
  have e := wq_s (gA s 103) (gI s 104 - 1).toNat
  rw [show (gI s 104 - 1).toNat + 1 = (gI s 104).toNat by omega] at e
  rw [e] at H
  have q : wq (gA s 103) (gI s 104 - 1).toNat + (d + (if (1 ≤ gA s 103 (gI s 104 - 1).toNat ∧ gA s 103 (gI s 104 - 1).toNat ≤ 11) ∨ gA s 103 (gI s 104 - 1).toNat = 23 ∨ gA s 103 (gI s 104 - 1).toNat = 24 then 1 else 0)) = wq (gA s 103) (gI s 104 - 1).toNat + (if (1 ≤ gA s 103 (gI s 104 - 1).toNat ∧ gA s 103 (gI s 104 - 1).toNat ≤ 11) ∨ gA s 103 (gI s 104 - 1).toNat = 23 ∨ gA s 103 (gI s 104 - 1).toNat = 24 then 1 else 0) + d := by omega
  rw [q]; exact H
