/-! ===== checkpoints, copies, drops: trees ===== -/
theorem TG_nil {h : SH} {ky : Nat → Nat → Int} {N E : Int} {q : Int} (hN : N ≤ 48) (hU : US h ky) (hq : 254 ≤ q) : TG h ky N E (fun _ => 0) (fun _ => 0) (sr q) (sr q) (fun _ => 0) (-1) := by
  have ro : RO N (sr q) := fun v _ => by
    unfold sr
    by_cases z : v = 0
    · rw [if_pos z]; omega
    · rw [if_neg z]; omega
  have d : ∀ x, x < 48 → df h (fun _ => 0) (sr q) x = 0 := fun x hx => by
    unfold df rf
    rw [rr_sr, if_neg (by omega), sm_0 (fun p _ => if_neg (Int.lt_irrefl 0))]; rfl
  have w : WN h N (fun _ => 0) := fun p _ => ⟨Int.le_refl 0, fun _ => rfl, fun z => absurd z (Int.lt_irrefl 0)⟩
  exact ⟨⟨hN, w, w, hU⟩, ⟨d, d⟩, ⟨fun p _ z _ => absurd z (Int.lt_irrefl 0), fun p _ z => absurd z (Int.lt_irrefl 0)⟩, ⟨ro, ro⟩, fun p _ z => z.elim (fun w => absurd w (Int.lt_irrefl 0)) (fun w => absurd w (Int.lt_irrefl 0))⟩
/-- blocks as they were, whatever counts and roots are -/
def HX (s o : MS) : Prop := ∀ p, p < 48 → ∀ i, 2 ≤ i → i < 16 → gA o 49 (17 + 16 * p + i) = gA s 49 (17 + 16 * p + i)
theorem HX_h {s o : MS} (H : HX s o) : (∀ p, p < 48 → (hM o).1 p = (hM s).1 p) ∧ (∀ p, p < 48 → (hM o).2.1 p = (hM s).2.1 p) ∧ (∀ p, p < 48 → ∀ k, k < 6 → (hM o).2.2 p k = (hM s).2.2 p k ∧ kM o p k = kM s p k) := by
  refine ⟨fun p hp => ?_, fun p hp => ?_, fun p hp k hk => ⟨?_, ?_⟩⟩
  · have := H p hp 2 (by omega) (by omega)
    show gA o 49 (19 + 16 * p) = gA s 49 (19 + 16 * p)
    rw [show 19 + 16 * p = 17 + 16 * p + 2 by omega]; exact this
  · have := H p hp 3 (by omega) (by omega)
    show gA o 49 (20 + 16 * p) = gA s 49 (20 + 16 * p)
    rw [show 20 + 16 * p = 17 + 16 * p + 3 by omega]; exact this
  · have := H p hp (10 + k) (by omega) (by omega)
    show (if k < 6 then gA o 49 (27 + 16 * p + k) else 0) = if k < 6 then gA s 49 (27 + 16 * p + k) else 0
    rw [if_pos hk, if_pos hk, show 27 + 16 * p + k = 17 + 16 * p + (10 + k) by omega]; exact this
  · have := H p hp (4 + k) (by omega) (by omega)
    show (if k < 6 then gA o 49 (21 + 16 * p + k) else 0) = if k < 6 then gA s 49 (21 + 16 * p + k) else 0
    rw [if_pos hk, if_pos hk, show 21 + 16 * p + k = 17 + 16 * p + (4 + k) by omega]; exact this
theorem TG_hx {s o : MS} {c sv r rs D : Nat → Int} {e : Int} (H : HX s o) (h39 : gA o 39 = gA s 39) (T : TG (hM s) (kM s) (gA s 39 5) (gA s 39 6) c sv r rs D e) : TG (hM o) (kM o) (gA o 39 5) (gA o 39 6) c sv r rs D e := by
  obtain ⟨a, b, d⟩ := HX_h H
  rw [h39]
  exact TG_ext (h' := hM o) (ky' := kM o) T a b d (fun _ _ => rfl) (fun _ _ => rfl) (fun _ _ => rfl) (fun _ _ => rfl)
theorem RT_checks {s o : MS} (H : RT s) (h39 : gA o 39 = gA s 39) (h1 : ∀ i, ¬ (8 ≤ i ∧ i < 16) → (∀ p, p < 48 → i ≠ 18 + 16 * p) → gA o 49 i = gA s 49 i) (h2 : ∀ u, u < 8 → gA o 49 (8 + u) = gA s 49 u) (h3 : ∀ p, p < 48 → gA o 49 (18 + 16 * p) = gA s 49 (17 + 16 * p)) : RT o := by
  have hx : HX s o := fun p hp i hi hi2 => h1 _ (by omega) (fun q _ => by omega)
  obtain ⟨T, M, m1, m2⟩ := H
  refine ⟨?_, fun u => if u < 8 then M u else M (u - 8), fun u hu => ?_, fun u hu x hx2 => ?_⟩
  · have T1 := TG_hx hx h39 T
    have T2 := TG_save (sv' := vM o) (rs' := rsM o) T1 (fun _ _ => rfl) (fun p hp => h3 p hp) (fun v hv => by rw [rsM_v hv, rM_v hv]; exact h2 v hv)
    unfold TM
    refine TG_ext T2 (fun _ _ => rfl) (fun _ _ => rfl) (fun _ _ _ _ => ⟨rfl, rfl⟩) (fun p hp => h1 _ (by omega) (fun q _ => by omega)) (fun _ _ => rfl) (fun v hv => ?_) (fun _ _ => rfl)
    rw [rM_v hv, rM_v hv]; exact h1 v (by omega) (fun q _ => by omega)
  · dsimp only
    by_cases z : u < 8
    · rw [if_pos z, h1 u (by omega) (fun q _ => by omega)]; exact TG_hx hx h39 (m1 u hu)
    · have e : gA o 49 u = gA s 49 (u - 8) := by
        have := h2 (u - 8) (by omega)
        rw [show 8 + (u - 8) = u by omega] at this
        exact this
      rw [if_neg z, e]; exact TG_hx hx h39 (m1 (u - 8) (by omega))
  · dsimp only
    by_cases z : u < 8
    · rw [if_pos z]; exact m2 u hu x hx2
    · rw [if_neg z]; exact m2 (u - 8) (by omega) x hx2
theorem RT_crashes {s o : MS} (H : RT s) (h39 : gA o 39 = gA s 39) (h1 : ∀ i, ¬ i < 8 → (∀ p, p < 48 → i ≠ 17 + 16 * p) → gA o 49 i = gA s 49 i) (h2 : ∀ u, u < 8 → gA o 49 u = gA s 49 (8 + u)) (h3 : ∀ p, p < 48 → gA o 49 (17 + 16 * p) = gA s 49 (18 + 16 * p)) : RT o := by
  have hx : HX s o := fun p hp i hi hi2 => h1 _ (by omega) (fun q _ => by omega)
  obtain ⟨T, M, m1, m2⟩ := H
  refine ⟨?_, fun u => if u < 8 then M (8 + u) else M u, fun u hu => ?_, fun u hu x hx2 => ?_⟩
  · have T1 := TG_hx hx h39 T
    have T2 := TG_back (c' := cM o) (r' := rM o) T1 (fun p hp => h3 p hp) (fun v hv => by rw [rM_v hv, rsM_v hv]; exact h2 v hv)
    unfold TM
    refine TG_ext T2 (fun _ _ => rfl) (fun _ _ => rfl) (fun _ _ _ _ => ⟨rfl, rfl⟩) (fun _ _ => rfl) (fun p hp => h1 _ (by omega) (fun q _ => by omega)) (fun _ _ => rfl) (fun v hv => ?_)
    rw [rsM_v hv, rsM_v hv]; exact h1 (8 + v) (by omega) (fun q _ => by omega)
  · dsimp only
    by_cases z : u < 8
    · rw [if_pos z, h2 u z]; exact TG_hx hx h39 (m1 (8 + u) (by omega))
    · rw [if_neg z, h1 u z (fun q _ => by omega)]; exact TG_hx hx h39 (m1 u hu)
  · dsimp only
    by_cases z : u < 8
    · rw [if_pos z]; exact m2 (8 + u) (by omega) x hx2
    · rw [if_neg z]; exact m2 u hu x hx2
theorem CX_x {s o : MS} (H : CX s o) : HX s o := fun p hp i hi hi2 => H _ (fun q _ => by omega)
/-- a root becomes what another is, that has a count more -/
theorem RT_copy {s o : MS} {v t : Nat} (H : RT s) (hv : v < 8) (ht : t < 8) (h39 : gA o 39 = gA s 39) (hg : gA s 49 t = 255) (hx : HX s o) (hr : gA o 49 t = gA s 49 v) (hu : ∀ u, u < 16 → u ≠ t → gA o 49 u = gA s 49 u) (hs : ∀ p, p < 48 → vM o p = vM s p) (hc : (254 ≤ gA s 49 v ∧ ∀ p, p < 48 → cM o p = cM s p) ∨ ((0 ≤ gA s 49 v ∧ gA s 49 v < 254) ∧ ∀ p, p < 48 → cM o p = upZ (cM s) (gA s 49 v).toNat (cM s (gA s 49 v).toNat + 1) p)) : RT o := by
  have vt_r : v ≠ t ∨ v = t := by omega
  have hvt : v = t → gA s 49 v = 255 := fun z => by rw [z]; exact hg
  have RL := fun h0 h1 => RT_root (u := v) H (by omega) h0 h1
  obtain ⟨T, M, m1, m2⟩ := H
  have hN := T.1.1
  refine ⟨?_, fun u => if u = t then M v else M u, fun u hu2 => ?_, fun u hu2 x hx2 => ?_⟩
  · have ro : ∀ w, w < 8 → rM o w = upZ (rM s) t (gA s 49 v) w := fun w hw => by
      rw [rM_v hw]
      by_cases z : w = t
      · rw [z, upZ_s]; exact hr
      · rw [upZ_n z, rM_v hw]; exact hu w (by omega) z
    have rso : ∀ w, w < 8 → rsM o w = rsM s w := fun w hw => by rw [rsM_v hw, rsM_v hw]; exact hu _ (by omega) (by omega)
    have rt : rM s t = 255 := by rw [rM_v ht]; exact hg
    rcases hc with ⟨q, hc⟩ | ⟨q, hc⟩
    · have T1 := TG_root (v := t) (q := gA s 49 v) T ht (Or.inr (Or.inr q))
      rw [rt] at T1
      have T2 := TG_D (D' := fun _ => 0) T1 (fun x hx => by
        show (0 : Int) = 0 + (if (255 : Int) = (x : Int) then 1 else 0) - (if gA s 49 v = (x : Int) then 1 else 0)
        rw [if_neg (by omega), if_neg (by omega)]; rfl)
      have T3 := TG_hx hx h39 T2
      exact TG_ext T3 (fun _ _ => rfl) (fun _ _ => rfl) (fun _ _ _ _ => ⟨rfl, rfl⟩) hc hs ro rso
    · obtain ⟨r1, r2, r3⟩ := RL q.1 q.2
      have cl := r3 hv
      have nN := TG_lt T (p := (gA s 49 v).toNat) (by omega) cl
      have T1 := TG_inc (y := (gA s 49 v).toNat) T (by omega) cl
      have T2 := TG_root (v := t) (q := gA s 49 v) T1 ht (Or.inl ⟨q.1, by omega⟩)
      rw [rt] at T2
      have T3 := TG_D (D' := fun _ => 0) T2 (fun x hx => by
        show (0 : Int) = 0 + (if x = (gA s 49 v).toNat then 1 else 0) + (if (255 : Int) = (x : Int) then 1 else 0) - (if gA s 49 v = (x : Int) then 1 else 0)
        rw [if_neg (show ¬ (255 : Int) = (x : Int) by omega)]
        by_cases z : gA s 49 v = (x : Int)
        · rw [if_pos z, if_pos (by omega)]; rfl
        · rw [if_neg z, if_neg (by omega)]; rfl)
      have T4 := TG_hx hx h39 T3
      exact TG_ext T4 (fun _ _ => rfl) (fun _ _ => rfl) (fun _ _ _ _ => ⟨rfl, rfl⟩) hc hs ro rso
  · dsimp only
    by_cases z : u = t
    · rw [if_pos z, z, hr]; exact TG_hx hx h39 (m1 v (by omega))
    · rw [if_neg z, hu u hu2 z]; exact TG_hx hx h39 (m1 u hu2)
  · dsimp only
    by_cases z : u = t
    · rw [if_pos z]; exact m2 v (by omega) x hx2
    · rw [if_neg z]; exact m2 u hu2 x hx2
/-- a root is gone, and what it named has fallen -/
theorem RT_drop {s o : MS} {v : Nat} (H : RT s) (hv : v < 8) (h39 : gA o 39 = gA s 39) (hx : HX s o) (hr : gA o 49 v = 255) (hu : ∀ u, u < 16 → u ≠ v → gA o 49 u = gA s 49 u) (hs : ∀ p, p < 48 → vM o p = vM s p) {c : Nat → Int} (hco : ∀ p, p < 48 → cM o p = c p) (hc : (254 ≤ gA s 49 v ∧ ∀ p, p < 48 → c p = cM s p) ∨ ((0 ≤ gA s 49 v ∧ gA s 49 v < 254) ∧ RelI (hM s) (rM s) (cM s) (gA s 49 v) c (fun _ => 0))) : RT o := by
  obtain ⟨T, M, m1, m2⟩ := H
  have hN := T.1.1
  refine ⟨?_, fun u => if u = v then fun _ => 0 else M u, fun u hu2 => ?_, fun u hu2 x hx2 => ?_⟩
  · have ro : ∀ w, w < 8 → rM o w = upZ (rM s) v 255 w := fun w hw => by
      rw [rM_v hw]
      by_cases z : w = v
      · rw [z, upZ_s]; exact hr
      · rw [upZ_n z, rM_v hw]; exact hu w (by omega) z
    have rso : ∀ w, w < 8 → rsM o w = rsM s w := fun w hw => by rw [rsM_v hw, rsM_v hw]; exact hu _ (by omega) (by omega)
    rcases hc with ⟨q, hc⟩ | ⟨q, hc⟩
    · have T1 := TG_root (v := v) (q := 255) T hv (Or.inr (Or.inr (by omega)))
      rw [rM_v hv] at T1
      have T2 := TG_D (D' := fun _ => 0) T1 (fun x hx => by
        show (0 : Int) = 0 + (if gA s 49 v = (x : Int) then 1 else 0) - (if (255 : Int) = (x : Int) then 1 else 0)
        rw [if_neg (by omega), if_neg (by omega)]; rfl)
      have T3 := TG_hx hx h39 T2
      exact TG_ext T3 (fun _ _ => rfl) (fun _ _ => rfl) (fun _ _ _ _ => ⟨rfl, rfl⟩) (fun p hp => (hco p hp).trans (hc p hp)) hs ro rso
    · have T1 := TG_rel T hc
      have T2 := TG_root (v := v) (q := 255) T1 hv (Or.inr (Or.inr (by omega)))
      rw [rM_v hv] at T2
      have T3 := TG_D (D' := fun _ => 0) T2 (fun x hx => by
        show (0 : Int) = 0 - (if (x : Int) = gA s 49 v then 1 else 0) + (if gA s 49 v = (x : Int) then 1 else 0) - (if (255 : Int) = (x : Int) then 1 else 0)
        rw [if_neg (show ¬ (255 : Int) = (x : Int) by omega)]
        by_cases z : gA s 49 v = (x : Int)
        · rw [if_pos z, if_pos z.symm]; rfl
        · rw [if_neg z, if_neg (fun w => z w.symm)]; rfl)
      have T4 := TG_hx hx h39 T3
      exact TG_ext T4 (fun _ _ => rfl) (fun _ _ => rfl) (fun _ _ _ _ => ⟨rfl, rfl⟩) hco hs ro rso
  · dsimp only
    by_cases z : u = v
    · rw [if_pos z, z, hr]
      have G := TG_hx hx h39 (m1 v (by omega))
      exact TG_nil G.1.1 G.1.2.2.2 (by omega)
    · rw [if_neg z, hu u hu2 z]; exact TG_hx hx h39 (m1 u hu2)
  · dsimp only
    by_cases z : u = v
    · rw [if_pos z]; exact (by decide : (0 : Int) ≤ 1)
    · rw [if_neg z]; exact m2 u hu2 x hx2
/-- no block, no root -/
theorem RT_zero {o : MS} (hN : gA o 39 5 ≤ 48) (h0 : ∀ u, u < 16 → gA o 49 u = 255) (h1 : ∀ i, 16 ≤ i → i < 785 → gA o 49 i = 0) : RT o := by
  have hz : ∀ p, p < 48 → (hM o).2.1 p = 0 := fun p hp => h1 (20 + 16 * p) (by omega) (by omega)
  have hU : US (hM o) (kM o) := fun p hp => ⟨by rw [hz p hp]; omega, fun _ k hk => by rw [hz p hp] at hk; omega, fun k hk => by rw [hz p hp] at hk; omega⟩
  refine ⟨?_, fun _ _ => 0, fun u hu => by rw [h0 u hu]; exact TG_nil hN hU (by omega), fun _ _ _ _ => (by decide : (0 : Int) ≤ 1)⟩
  have G := TG_nil (E := gA o 39 6) (q := 255) hN hU (by omega)
  have w : WN (hM o) (gA o 39 5) (fun _ => 0) := G.1.2.1
  have ro : ∀ f : Nat → Int, (∀ v, v < 8 → f v = 255) → RO (gA o 39 5) f := fun f hf v hv => by rw [hf v hv]; omega
  have r1 : ∀ v, v < 8 → rM o v = 255 := fun v hv => by rw [rM_v hv]; exact h0 v (by omega)
  have r2 : ∀ v, v < 8 → rsM o v = 255 := fun v hv => by rw [rsM_v hv]; exact h0 _ (by omega)
  have d : ∀ f : Nat → Int, (∀ v, v < 8 → f v = 255) → ∀ x, x < 48 → df (hM o) (fun _ => 0) f x = 0 := fun f hf x hx => by
    unfold df rf rr
    rw [sm_0 (n := 8) (fun v hv => if_neg (by rw [hf v hv]; omega)), sm_0 (n := 48) (fun p _ => if_neg (Int.lt_irrefl 0))]; rfl
  have T : TG (hM o) (kM o) (gA o 39 5) (gA o 39 6) (fun _ => 0) (fun _ => 0) (rM o) (rsM o) (fun _ => 0) (-1) := ⟨⟨hN, w, w, hU⟩, ⟨d _ r1, d _ r2⟩, ⟨fun p _ z _ => absurd z (Int.lt_irrefl 0), fun p _ z => absurd z (Int.lt_irrefl 0)⟩, ⟨ro _ r1, ro _ r2⟩, fun p _ z => z.elim (fun w => absurd w (Int.lt_irrefl 0)) (fun w => absurd w (Int.lt_irrefl 0))⟩
  exact TG_ext T (fun _ _ => rfl) (fun _ _ => rfl) (fun _ _ _ _ => ⟨rfl, rfl⟩) (fun p hp => h1 _ (by omega) (by omega)) (fun p hp => h1 _ (by omega) (by omega)) (fun _ _ => rfl) (fun _ _ => rfl)
