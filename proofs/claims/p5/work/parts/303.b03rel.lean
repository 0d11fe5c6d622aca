/-! ===== counts that fall ===== -/
def RelI (h : SH) (r c0 : Nat → Int) (b : Int) (c E : Nat → Int) : Prop := (∀ x, x < 48 → 0 ≤ c x ∧ c x ≤ c0 x) ∧ (∀ x, x < 48 → df h c r x = df h c0 r x - (if (x : Int) = b then 1 else 0) + E x)
theorem RelI_E {h : SH} {r c0 c E E' : Nat → Int} {b : Int} (H : RelI h r c0 b c E) (e : ∀ x, x < 48 → E' x = E x) : RelI h r c0 b c E' := ⟨H.1, fun x hx => by rw [e x hx]; exact H.2 x hx⟩
/-- at first -/
theorem RelI_0 {h : SH} {r c0 : Nat → Int} {b : Nat} (hb : b < 48) (h0 : ∀ x, x < 48 → 0 ≤ c0 x) (h1 : 0 < c0 b) : RelI h r c0 (b : Int) (upZ c0 b (c0 b - 1)) (fun x => if 0 < c0 b - 1 then 0 else en h b (x : Int)) := by
  refine ⟨fun x hx => ?_, fun x hx => ?_⟩
  · by_cases e : x = b
    · subst e; rw [upZ_s]; omega
    · rw [upZ_n e]; have := h0 x hx; omega
  · rw [df_cnt hb, if_pos h1]
    dsimp only
    by_cases q : 0 < c0 b - 1
    · rw [if_pos q, if_pos q]
      by_cases e : x = b
      · subst e
        rw [if_pos rfl, if_pos rfl]; omega
      · rw [if_neg e, if_neg (show ¬ (x : Int) = (b : Int) by omega)]; omega
    · rw [if_neg q, if_neg q]
      by_cases e : x = b
      · subst e
        rw [if_pos rfl, if_pos rfl]; omega
      · rw [if_neg e, if_neg (show ¬ (x : Int) = (b : Int) by omega)]; omega
/-- what is named by a block that has fallen counts still -/
theorem Rel_pos {h : SH} {r c0 c P : Nat → Int} {b : Int} {p k : Nat} (H : RelI h r c0 b c (fun x => P x + enf h p (k : Int) (x : Int))) (hP : ∀ x, x < 48 → 0 ≤ P x) (hD : ∀ x, x < 48 → 0 ≤ df h c0 r x) (hl : 0 < h.1 p) (hk : (k : Int) < h.2.1 p) (h6 : k < 6) {y : Nat} (hy : h.2.2 p k = (y : Int)) (hy48 : y < 48) (hyb : (y : Int) ≠ b) : 1 ≤ c y := by
  have h1 := H.2 y hy48
  rw [if_neg hyb] at h1
  have h2 := enf_pos (i := (k : Int)) hl hk h6 (Int.le_refl _)
  rw [hy] at h2
  have h3 := hP y hy48
  have h4 := hD y hy48
  have h5 := rf_nn h c r (y : Int)
  unfold df at h1 h4
  dsimp only at h1
  unfold df at *
  omega
theorem Rel_step {h : SH} {r c0 c P : Nat → Int} {b : Int} {p k : Nat} (H : RelI h r c0 b c (fun x => P x + enf h p (k : Int) (x : Int))) (hl : 0 < h.1 p) (hk : (k : Int) < h.2.1 p) (h6 : k < 6) {y : Nat} (hy : h.2.2 p k = (y : Int)) (hy48 : y < 48) (hc : 1 ≤ c y) : RelI h r c0 b (upZ c y (c y - 1)) (fun x => P x + enf h p ((k : Int) + 1) (x : Int) + (if 0 < c y - 1 then 0 else en h y (x : Int))) := by
  refine ⟨fun x hx => ?_, fun x hx => ?_⟩
  · have := H.1 x hx
    by_cases e : x = y
    · subst e; rw [upZ_s]; omega
    · rw [upZ_n e]; exact this
  · rw [df_cnt hy48, H.2 x hx]
    dsimp only
    rw [enf_step hl hk h6, hy, if_pos (show 0 < c y by omega)]
    by_cases e : x = y
    · subst e
      rw [if_pos rfl, if_pos rfl]
      split <;> omega
    · rw [if_neg e, if_neg (show ¬ (y : Int) = (x : Int) by omega)]
      split <;> omega
/-- those that wait in a row -/
def pn (h : SH) (ch : Nat → Int) (i f : Int) (x : Nat) : Int := sm 48 (fun j => if i ≤ (j : Int) ∧ (j : Int) < f then en h (ch j).toNat (x : Int) else 0)
theorem pn_nn (h : SH) (ch : Nat → Int) (i f : Int) (x : Nat) : 0 ≤ pn h ch i f x := sm_nn (fun j _ => by
  split
  · exact en_nn h _ _
  · exact Int.le_refl 0)
theorem pn_0 {h : SH} {ch : Nat → Int} {i f : Int} {x : Nat} (hf : f ≤ i) : pn h ch i f x = 0 := sm_0 (fun j _ => if_neg (fun q => by omega))
theorem pn_first {h : SH} {ch : Nat → Int} {i f : Int} {x : Nat} (h0 : 0 ≤ i) (hf : i < f) (h48 : i < 48) : pn h ch i f x = pn h ch (i + 1) f x + en h (ch i.toNat).toNat (x : Int) := by
  unfold pn
  rw [sm_one (n := 48) (i := i.toNat) (f := fun j => if i + 1 ≤ (j : Int) ∧ (j : Int) < f then en h (ch j).toNat (x : Int) else 0) (g := fun j => if i ≤ (j : Int) ∧ (j : Int) < f then en h (ch j).toNat (x : Int) else 0) (by omega) (fun j _ hn => by
    show (if i ≤ (j : Int) ∧ (j : Int) < f then en h (ch j).toNat (x : Int) else 0) = if i + 1 ≤ (j : Int) ∧ (j : Int) < f then en h (ch j).toNat (x : Int) else 0
    by_cases e : i ≤ (j : Int) ∧ (j : Int) < f
    · rw [if_pos e, if_pos ⟨by omega, e.2⟩]
    · rw [if_neg e, if_neg (fun q => e ⟨by omega, q.2⟩)])]
  show _ - (if i + 1 ≤ ((i.toNat : Nat) : Int) ∧ ((i.toNat : Nat) : Int) < f then en h (ch i.toNat).toNat (x : Int) else 0) + (if i ≤ ((i.toNat : Nat) : Int) ∧ ((i.toNat : Nat) : Int) < f then en h (ch i.toNat).toNat (x : Int) else 0) = _
  rw [if_neg (fun q => by omega), if_pos ⟨by omega, by omega⟩]; omega
theorem pn_more {h : SH} {ch : Nat → Int} {i f y : Int} {x : Nat} (h0 : 0 ≤ i) (hf : i ≤ f) (h48 : f < 48) : pn h (upZ ch f.toNat y) i (f + 1) x = pn h ch i f x + en h y.toNat (x : Int) := by
  unfold pn
  rw [sm_one (n := 48) (i := f.toNat) (f := fun j => if i ≤ (j : Int) ∧ (j : Int) < f then en h (ch j).toNat (x : Int) else 0) (g := fun j => if i ≤ (j : Int) ∧ (j : Int) < f + 1 then en h (upZ ch f.toNat y j).toNat (x : Int) else 0) (by omega) (fun j _ hn => by
    show (if i ≤ (j : Int) ∧ (j : Int) < f + 1 then en h (upZ ch f.toNat y j).toNat (x : Int) else 0) = if i ≤ (j : Int) ∧ (j : Int) < f then en h (ch j).toNat (x : Int) else 0
    rw [upZ_n hn]
    by_cases e : i ≤ (j : Int) ∧ (j : Int) < f
    · rw [if_pos e, if_pos ⟨e.1, by omega⟩]
    · rw [if_neg e, if_neg (fun q => e ⟨q.1, by omega⟩)])]
  show _ - (if i ≤ ((f.toNat : Nat) : Int) ∧ ((f.toNat : Nat) : Int) < f then en h (ch f.toNat).toNat (x : Int) else 0) + (if i ≤ ((f.toNat : Nat) : Int) ∧ ((f.toNat : Nat) : Int) < f + 1 then en h (upZ ch f.toNat y f.toNat).toNat (x : Int) else 0) = _
  rw [if_neg (fun q => by omega), if_pos ⟨by omega, by omega⟩, upZ_s]; omega
theorem pn_up {h : SH} {ch : Nat → Int} {i f y : Int} {g : Nat} {x : Nat} (hg : f ≤ (g : Int)) : pn h (upZ ch g y) i f x = pn h ch i f x := sm_c (fun j _ => by
  show (if i ≤ (j : Int) ∧ (j : Int) < f then en h (upZ ch g y j).toNat (x : Int) else 0) = if i ≤ (j : Int) ∧ (j : Int) < f then en h (ch j).toNat (x : Int) else 0
  by_cases e : i ≤ (j : Int) ∧ (j : Int) < f
  · rw [if_pos e, if_pos e, upZ_n (by omega)]
  · rw [if_neg e, if_neg e])
theorem RelI_WN {h : SH} {N : Int} {r c0 c E : Nat → Int} {b : Int} (hW : WN h N c0) (H : RelI h r c0 b c E) : WN h N c := by
  intro p hp
  have h1 := H.1 p hp
  obtain ⟨w1, w2, w3⟩ := hW p hp
  exact ⟨h1.1, fun q => by have := w2 q; omega, fun q => w3 (by omega)⟩
/-- the class's blocks -/
def hN (s : MS) : SH := (gA s 56, gA s 57, fun p k => gA s 59 (6 * p + k))
theorem hN_eq {s o : MS} (h1 : gA o 56 = gA s 56) (h2 : gA o 57 = gA s 57) (h3 : gA o 59 = gA s 59) : hN o = hN s := by
  unfold hN
  rw [h1, h2, h3]
