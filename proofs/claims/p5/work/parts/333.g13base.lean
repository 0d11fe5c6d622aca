/-! ===== trees of the reference: what is read of them ===== -/
theorem RT_x {s o : MS} (H : RT s) (h : ∀ k, k < 785 → gA o 49 k = gA s 49 k) (h5 : gA o 39 5 = gA s 39 5) (h6 : gA o 39 6 = gA s 39 6) : RT o := by
  obtain ⟨T, M, h1, h2⟩ := H
  have a1 : ∀ p, p < 48 → (hM o).1 p = (hM s).1 p := fun p hp => h (19 + 16 * p) (by omega)
  have a2 : ∀ p, p < 48 → (hM o).2.1 p = (hM s).2.1 p := fun p hp => h (20 + 16 * p) (by omega)
  have a3 : ∀ p, p < 48 → ∀ k, k < 6 → (hM o).2.2 p k = (hM s).2.2 p k ∧ kM o p k = kM s p k := fun p hp k hk => by
    constructor
    · show (if k < 6 then gA o 49 (27 + 16 * p + k) else 0) = if k < 6 then gA s 49 (27 + 16 * p + k) else 0
      rw [if_pos hk, if_pos hk]; exact h _ (by omega)
    · show (if k < 6 then gA o 49 (21 + 16 * p + k) else 0) = if k < 6 then gA s 49 (21 + 16 * p + k) else 0
      rw [if_pos hk, if_pos hk]; exact h _ (by omega)
  have ro : ∀ v, v < 8 → rM o v = rM s v := fun v hv => by rw [rM_v hv, rM_v hv]; exact h v (by omega)
  have rso : ∀ v, v < 8 → rsM o v = rsM s v := fun v hv => by rw [rsM_v hv, rsM_v hv]; exact h (8 + v) (by omega)
  refine ⟨?_, M, fun u hu => ?_, h2⟩
  · have T1 := TG_ext (h' := hM o) (ky' := kM o) (c' := cM o) (sv' := vM o) (r' := rM o) (rs' := rsM o) T a1 a2 a3 (fun p hp => h (17 + 16 * p) (by omega)) (fun p hp => h (18 + 16 * p) (by omega)) ro rso
    unfold TM
    rw [h5, h6]; exact T1
  · rw [h5, h6, h u (by omega)]
    exact TG_ext (h' := hM o) (ky' := kM o) (h1 u hu) a1 a2 a3 (fun _ _ => rfl) (fun _ _ => rfl) (fun _ _ => rfl) (fun _ _ => rfl)
/-- in use, now or in the checkpoint -/
def DW (s : MS) (b : Nat) : Prop := 0 < cM s b ∨ 0 < vM s b
theorem DW_nd {s : MS} {b : Nat} (H : RT s) (hb : b < 48) (hd : DW s b) : (b : Int) < gA s 39 5 ∧ (0 ≤ (hM s).1 b ∧ (hM s).1 b ≤ 47) ∧ (1 ≤ (hM s).2.1 b ∧ (hM s).2.1 b ≤ 6) := by
  have T : TG (hM s) (kM s) (gA s 39 5) (gA s 39 6) (cM s) (vM s) (rM s) (rsM s) (fun _ => 0) (-1) := H.1
  rcases hd with h | h
  · exact ⟨TG_lt T hb h, TG_lev T (fun _ _ => Int.le_refl 0) hb h, T.2.2.1.1 b hb h (by omega), (TG_nd T hb h).2.1.2⟩
  · have S := TG_ss T
    exact ⟨TG_lt S hb h, TG_lev S (fun _ _ => Int.le_refl 0) hb h, S.2.2.1.1 b hb h (by omega), (TG_nd S hb h).2.1.2⟩
theorem DW_kid {s : MS} {b k : Nat} (H : RT s) (hb : b < 48) (hd : DW s b) (hl : 0 < (hM s).1 b) (hk : (k : Int) < (hM s).2.1 b) : (0 ≤ (hM s).2.2 b k ∧ (hM s).2.2 b k < 48) ∧ (hM s).1 ((hM s).2.2 b k).toNat = (hM s).1 b - 1 ∧ DW s ((hM s).2.2 b k).toNat := by
  have T : TG (hM s) (kM s) (gA s 39 5) (gA s 39 6) (cM s) (vM s) (rM s) (rsM s) (fun _ => 0) (-1) := H.1
  have hN := T.1.1
  rcases hd with h | h
  · have q := TG_kid T (fun _ _ => Int.le_refl 0) hb h hl hk
    exact ⟨by omega, q.2.1, Or.inl q.2.2⟩
  · have q := TG_kid (TG_ss T) (fun _ _ => Int.le_refl 0) hb h hl hk
    exact ⟨by omega, q.2.1, Or.inr q.2.2⟩
theorem RT_root {s : MS} {u : Nat} (H : RT s) (hu : u < 16) (h0 : 0 ≤ gA s 49 u) (h1 : gA s 49 u < 254) : gA s 49 u < 48 ∧ DW s (gA s 49 u).toNat ∧ (u < 8 → 0 < cM s (gA s 49 u).toNat) := by
  have T : TG (hM s) (kM s) (gA s 39 5) (gA s 39 6) (cM s) (vM s) (rM s) (rsM s) (fun _ => 0) (-1) := H.1
  have hN := T.1.1
  by_cases h8 : u < 8
  · have q := TG_root_live (v := u) T (fun _ _ => Int.le_refl 0) h8 (by rw [rM_v h8]; exact h0) (by rw [rM_v h8]; exact h1)
    rw [rM_v h8] at q
    exact ⟨by omega, Or.inl q.2, fun _ => q.2⟩
  · have e : rsM s (u - 8) = gA s 49 u := by rw [rsM_v (by omega), show 8 + (u - 8) = u by omega]
    have q := TG_root_live (v := u - 8) (TG_ss T) (fun _ _ => Int.le_refl 0) (by omega) (by rw [e]; exact h0) (by rw [e]; exact h1)
    rw [e] at q
    exact ⟨by omega, Or.inr q.2, fun h => absurd h h8⟩
/-- counts and all others are small -/
theorem RT_bd {s : MS} (H : RT s) {b : Nat} (hb : b < 48) : (0 ≤ cM s b ∧ cM s b ≤ 296) ∧ (0 ≤ vM s b ∧ vM s b ≤ 296) := by
  have T : TG (hM s) (kM s) (gA s 39 5) (gA s 39 6) (cM s) (vM s) (rM s) (rsM s) (fun _ => 0) (-1) := H.1
  have h1 := TG_bd T hb
  have h2 := (T.1.2.1 b hb).1
  exact ⟨by omega, TG_sbd T hb⟩
theorem RT_sz {s : MS} (H : RT s) {b : Nat} (hb : b < 48) : 0 ≤ (hM s).2.1 b ∧ (hM s).2.1 b ≤ 6 := (H.1.1.2.2.2 b hb).1
/-- roots are numbers of blocks, or 254, or 255 -/
def RB_r (s : MS) : Prop := ∀ u, u < 16 → 0 ≤ gA s 49 u ∧ gA s 49 u ≤ 255
theorem RB_w {s o : MS} {v : Nat} (H : RB_r s) (hv : v < 16) (h : RW0 s o v) : RB_r o := fun u hu => by
  by_cases z : u = v
  · rw [z]; have := h.2; omega
  · rw [h.1 u (by omega) z]; exact H u hu
