/-! ===== entries are set, put in, cut; halves ===== -/
theorem Nd_b {h h' : SH} {ky ky' : Nat → Nat → Int} {N : Int} {b : Nat} (hN : N ≤ 48) (hS : SBk h h' ky ky' b) (hl : h'.1 b = h.1 b) (h0 : 0 ≤ h.1 b) (hz : 0 ≤ h'.2.1 b ∧ h'.2.1 b ≤ 6) (hk : 0 < h.1 b → ∀ k : Nat, (k : Int) < h'.2.1 b → (0 ≤ h'.2.2 b k ∧ h'.2.2 b k < N) ∧ h.1 (h'.2.2 b k).toNat = h.1 b - 1) : Nd h' N b := by
  refine ⟨by rw [hl]; exact h0, hz, fun hl0 k hkz => ?_⟩
  rw [hl] at hl0 ⊢
  obtain ⟨a, a2⟩ := hk hl0 k hkz
  refine ⟨a, ?_⟩
  have ne : (h'.2.2 b k).toNat ≠ b := fun q => by rw [q] at a2; omega
  rw [(hS _ (by omega) ne).1]; exact a2
theorem TG_set {h h' : SH} {ky ky' : Nat → Nat → Int} {N E : Int} {c sv r rs D : Nat → Int} {e v : Int} {b k : Nat} (H : TG h ky N E c sv r rs D e) (hb : b < 48) (hsv : sv b ≤ 0) (hc : 0 < c b) (hS : SBk h h' ky ky' b) (hl : h'.1 b = h.1 b) (hz : h'.2.1 b = h.2.1 b) (hk : (k : Int) < h.2.1 b) (h1 : ∀ j, j < 6 → j ≠ k → h'.2.2 b j = h.2.2 b j) (h2 : h'.2.2 b k = v) (h3 : ∀ j, j < 6 → ky' b j = ky b j) (hv : 0 < h.1 b → (0 ≤ v ∧ v < N) ∧ h.1 v.toNat = h.1 b - 1) : TG h' ky' N E c sv r rs (fun x => D x + (if 0 < h.1 b ∧ h.2.2 b k = (x : Int) then 1 else 0) - (if 0 < h.1 b ∧ v = (x : Int) then 1 else 0)) e := by
  have nd := TG_nd H hb hc
  have f1 := H.2.2.2.2 b hb (Or.inl hc)
  have n6 := nd.2.1
  have T := TG_chg (h' := h') (ky' := ky') H hb hsv hc hS hl (Nd_b H.1.1 hS hl nd.1 (by omega) (fun h0 j hj => by
    by_cases q : j = k
    · rw [q, h2]; exact hv h0
    · rw [h1 j (by omega) q]; exact nd.2.2 h0 j (by omega))) (by rw [hz]; exact f1.1) (fun j hj => by rw [h3 j (by omega)]; exact f1.2 j (by omega)) e (fun q => by rw [hz]; exact H.2.2.1.1 b hb hc q) (fun p hp => Or.inl hp)
  refine TG_D T (fun x hx => ?_)
  show _ = D x + en h b (x : Int) - en h' b (x : Int)
  rw [en_set (h := h) (h' := h') (p := b) (k := k) (v := v) (x := (x : Int)) hl nd.2.1 hz hk h1 h2]; omega
theorem TG_ins {h h' : SH} {ky ky' : Nat → Nat → Int} {N E : Int} {c sv r rs D : Nat → Int} {e v ke : Int} {b k : Nat} (H : TG h ky N E c sv r rs D e) (hb : b < 48) (hsv : sv b ≤ 0) (hc : 0 < c b) (hS : SBk h h' ky ky' b) (hl : h'.1 b = h.1 b) (hz0 : h.2.1 b ≤ 5) (hzE : h.2.1 b + 1 ≤ E) (hz : h'.2.1 b = h.2.1 b + 1) (hk : (k : Int) ≤ h.2.1 b) (h1 : ∀ j, j < k → h'.2.2 b j = h.2.2 b j ∧ ky' b j = ky b j) (h2 : h'.2.2 b k = v ∧ ky' b k = ke) (h3 : ∀ j, k ≤ j → (j : Int) < h.2.1 b → h'.2.2 b (j + 1) = h.2.2 b j ∧ ky' b (j + 1) = ky b j) (hv : 0 < h.1 b → (0 ≤ v ∧ v < N) ∧ h.1 v.toNat = h.1 b - 1) (hke : 0 ≤ ke ∧ ke ≤ 999) (he : e = -1 ∨ e = (b : Int)) : TG h' ky' N E c sv r rs (fun x => D x - (if 0 < h.1 b ∧ v = (x : Int) then 1 else 0)) (-1) := by
  have nd := TG_nd H hb hc
  have f1 := H.2.2.2.2 b hb (Or.inl hc)
  have n6 := nd.2.1
  have T := TG_chg (h' := h') (ky' := ky') H hb hsv hc hS hl (Nd_b H.1.1 hS hl nd.1 (by omega) (fun h0 j hj => by
    by_cases q : j = k
    · rw [q, h2.1]; exact hv h0
    · by_cases q2 : j < k
      · rw [(h1 j q2).1]; exact nd.2.2 h0 j (by omega)
      · obtain ⟨i, rfl⟩ : ∃ i, j = i + 1 := ⟨j - 1, by omega⟩
        rw [(h3 i (by omega) (by omega)).1]; exact nd.2.2 h0 i (by omega))) (by omega) (fun j hj => by
    by_cases q : j = k
    · rw [q, h2.2]; exact hke
    · by_cases q2 : j < k
      · rw [(h1 j q2).2]; exact f1.2 j (by omega)
      · obtain ⟨i, rfl⟩ : ∃ i, j = i + 1 := ⟨j - 1, by omega⟩
        rw [(h3 i (by omega) (by omega)).2]; exact f1.2 i (by omega)) (-1) (fun _ => by omega) (fun p hp => by omega)
  refine TG_D T (fun x hx => ?_)
  show _ = D x + en h b (x : Int) - en h' b (x : Int)
  rw [en_ins (h := h) (h' := h') (p := b) (k := k) (v := v) (x := (x : Int)) hl (by omega) hz hk (fun j hj => (h1 j hj).1) h2.1 (fun j hj hn => (h3 j hj hn).1)]; omega
theorem TG_del {h h' : SH} {ky ky' : Nat → Nat → Int} {N E : Int} {c sv r rs D : Nat → Int} {b k : Nat} (H : TG h ky N E c sv r rs D (-1)) (hb : b < 48) (hsv : sv b ≤ 0) (hc : 0 < c b) (hS : SBk h h' ky ky' b) (hl : h'.1 b = h.1 b) (hz : h'.2.1 b = h.2.1 b - 1) (hk : (k : Int) < h.2.1 b) (h1 : ∀ j, j < k → h'.2.2 b j = h.2.2 b j ∧ ky' b j = ky b j) (h3 : ∀ j, k ≤ j → (j : Int) < h.2.1 b - 1 → h'.2.2 b j = h.2.2 b (j + 1) ∧ ky' b j = ky b (j + 1)) : TG h' ky' N E c sv r rs (fun x => D x + (if 0 < h.1 b ∧ h.2.2 b k = (x : Int) then 1 else 0)) (b : Int) := by
  have nd := TG_nd H hb hc
  have f1 := H.2.2.2.2 b hb (Or.inl hc)
  have n6 := nd.2.1
  have T := TG_chg (h' := h') (ky' := ky') H hb hsv hc hS hl (Nd_b H.1.1 hS hl nd.1 (by omega) (fun h0 j hj => by
    by_cases q2 : j < k
    · rw [(h1 j q2).1]; exact nd.2.2 h0 j (by omega)
    · rw [(h3 j (by omega) (by omega)).1]; exact nd.2.2 h0 (j + 1) (by omega))) (by omega) (fun j hj => by
    by_cases q2 : j < k
    · rw [(h1 j q2).2]; exact f1.2 j (by omega)
    · rw [(h3 j (by omega) (by omega)).2]; exact f1.2 (j + 1) (by omega)) (b : Int) (fun w => absurd rfl w) (fun p hp => by omega)
  refine TG_D T (fun x hx => ?_)
  show _ = D x + en h b (x : Int) - en h' b (x : Int)
  rw [en_del (h := h) (h' := h') (p := b) (k := k) (x := (x : Int)) hl (by omega) hz hk (fun j hj => (h1 j hj).1) (fun j hj hn => (h3 j hj hn).1)]; omega
/-- an empty block gets entries of another one of its level -/
theorem TG_fill {h h' : SH} {ky ky' : Nat → Nat → Int} {N E : Int} {c sv r rs D : Nat → Int} {b q : Nat} (H : TG h ky N E c sv r rs D (q : Int)) (hb : b < 48) (hcb : 0 < c b) (hq : q < 48) (hsv : sv q ≤ 0) (hc : 0 < c q) (hS : SBk h h' ky ky' q) (hl : h'.1 q = h.1 q) (hlb : h.1 q = h.1 b) (hz0 : h.2.1 q = 0) (hz : 1 ≤ h'.2.1 q ∧ h'.2.1 q ≤ h.2.1 b) (hcp : ∀ j : Nat, (j : Int) < h'.2.1 q → ∃ i : Nat, (i : Int) < h.2.1 b ∧ h'.2.2 q j = h.2.2 b i ∧ ky' q j = ky b i) : TG h' ky' N E c sv r rs (fun x => D x - en h' q (x : Int)) (-1) := by
  have nd := TG_nd H hb hcb
  have ndq := TG_nd H hq hc
  have f1 := H.2.2.2.2 b hb (Or.inl hcb)
  have n6 := nd.2.1
  have T := TG_chg (h' := h') (ky' := ky') H hq hsv hc hS hl (Nd_b H.1.1 hS hl ndq.1 (by omega) (fun h0 j hj => by
    obtain ⟨i, i1, i2, i3⟩ := hcp j hj
    rw [i2, hlb]; exact nd.2.2 (by omega) i i1)) (by omega) (fun j hj => by
    obtain ⟨i, i1, i2, i3⟩ := hcp j hj
    rw [i3]; exact f1.2 i i1) (-1) (fun _ => hz.1) (fun p hp => by omega)
  refine TG_D T (fun x hx => ?_)
  show _ = D x + en h q (x : Int) - en h' q (x : Int)
  have e0 : en h q (x : Int) = 0 := enf_end (by omega)
  rw [e0]; omega
theorem TG_cut {h h' : SH} {ky ky' : Nat → Nat → Int} {N E : Int} {c sv r rs D : Nat → Int} {b : Nat} (H : TG h ky N E c sv r rs D (-1)) (hb : b < 48) (hsv : sv b ≤ 0) (hc : 0 < c b) (hS : SBk h h' ky ky' b) (hl : h'.1 b = h.1 b) (hz : 1 ≤ h'.2.1 b ∧ h'.2.1 b ≤ h.2.1 b) (h1 : ∀ j, j < 6 → h'.2.2 b j = h.2.2 b j ∧ ky' b j = ky b j) : TG h' ky' N E c sv r rs (fun x => D x + en h b (x : Int) - en h' b (x : Int)) (-1) := by
  have nd := TG_nd H hb hc
  have f1 := H.2.2.2.2 b hb (Or.inl hc)
  have n6 := nd.2.1
  exact TG_chg (h' := h') (ky' := ky') H hb hsv hc hS hl (Nd_b H.1.1 hS hl nd.1 (by omega) (fun h0 j hj => by
    rw [(h1 j (by omega)).1]; exact nd.2.2 h0 j (by omega))) (by omega) (fun j hj => by
    rw [(h1 j (by omega)).2]; exact f1.2 j (by omega)) (-1) (fun _ => hz.1) (fun p hp => by omega)
