/-! ===== the reference, new ===== -/
def B7 (f : Nat → Int) : Prop := ∀ j, (-1) ≤ f j ∧ f j ≤ 127
theorem B7_z : B7 (fun _ => 0) := fun _ => by show (-1 : Int) ≤ 0 ∧ (0 : Int) ≤ 127; omega
theorem B7_u {f : Nat → Int} {i : Nat} {v : Int} (h : B7 f) (hv : (-1) ≤ v ∧ v ≤ 127) : B7 (upZ f i v) := fun j => by
  by_cases z : j = i
  · rw [z, upZ_s]; exact hv
  · rw [upZ_n z]; exact h j
theorem B7_i {c : Prop} [Decidable c] {f g : Nat → Int} (h1 : B7 f) (h2 : B7 g) : B7 (if c then f else g) := by
  by_cases z : c
  · rw [if_pos z]; exact h1
  · rw [if_neg z]; exact h2
theorem LOr_0 (k : Nat) : LOr k ≤ 0 := by
  unfold LOr
  repeat' split
  all_goals omega
theorem HIr_0 (k : Nat) : 0 ≤ HIr k := by
  unfold HIr
  repeat' split
  all_goals omega
theorem LOAr_0 (k : Nat) : LOAr k ≤ 0 := by
  unfold LOAr
  repeat' split
  all_goals omega
theorem HIAr_0 (k : Nat) : 0 ≤ HIAr k := by
  unfold HIAr
  repeat' split
  all_goals omega
theorem HIAr_w {k : Nat} (h : (11 ≤ k ∧ k ≤ 37) ∨ (79 ≤ k ∧ k ≤ 100)) : HIAr k = 2147483647 := by
  unfold HIAr
  rw [if_neg (show ¬ k = 0 by omega), if_neg (show ¬ k = 42 by omega), if_neg (show ¬ k = 43 by omega), if_neg (show ¬ k = 44 by omega), if_neg (show ¬ k = 54 by omega), if_neg (show ¬ k = 56 by omega), if_neg (show ¬ k = 57 by omega), if_neg (show ¬ k = 58 by omega), if_neg (show ¬ k = 60 by omega), if_neg (show ¬ k = 62 by omega), if_neg (show ¬ k = 63 by omega), if_neg (show ¬ k = 69 by omega), if_neg (show ¬ k = 101 by omega), if_neg (show ¬ k = 103 by omega)]
theorem LOAr_w {k : Nat} (h : (11 ≤ k ∧ k ≤ 37) ∨ (79 ≤ k ∧ k ≤ 100)) : LOAr k = -2147483648 := by
  unfold LOAr
  rw [if_neg (show ¬ k = 0 by omega), if_neg (show ¬ k = 42 by omega), if_neg (show ¬ k = 43 by omega), if_neg (show ¬ k = 44 by omega), if_neg (show ¬ k = 54 by omega), if_neg (show ¬ k = 56 by omega), if_neg (show ¬ k = 57 by omega), if_neg (show ¬ k = 58 by omega), if_neg (show ¬ k = 60 by omega), if_neg (show ¬ k = 62 by omega), if_neg (show ¬ k = 63 by omega), if_neg (show ¬ k = 69 by omega), if_neg (show ¬ k = 101 by omega), if_neg (show ¬ k = 103 by omega)]
theorem rw0_A (k : Nat) (h : (k < 11 ∨ (37 < k ∧ k < 79) ∨ 100 < k) ∧ k ≠ 42) (j : Nat) : gA rw0 k j = 0 := by
  unfold gA rw0
  dsimp only
  rw [if_neg (show ¬ k = 11 by omega), if_neg (show ¬ k = 12 by omega), if_neg (show ¬ k = 13 by omega), if_neg (show ¬ k = 14 by omega), if_neg (show ¬ k = 15 by omega), if_neg (show ¬ k = 16 by omega), if_neg (show ¬ k = 17 by omega), if_neg (show ¬ k = 18 by omega), if_neg (show ¬ k = 19 by omega), if_neg (show ¬ k = 20 by omega), if_neg (show ¬ k = 21 by omega), if_neg (show ¬ k = 22 by omega), if_neg (show ¬ k = 23 by omega), if_neg (show ¬ k = 24 by omega), if_neg (show ¬ k = 25 by omega), if_neg (show ¬ k = 26 by omega), if_neg (show ¬ k = 27 by omega), if_neg (show ¬ k = 28 by omega), if_neg (show ¬ k = 29 by omega), if_neg (show ¬ k = 30 by omega), if_neg (show ¬ k = 31 by omega), if_neg (show ¬ k = 32 by omega), if_neg (show ¬ k = 33 by omega), if_neg (show ¬ k = 34 by omega), if_neg (show ¬ k = 35 by omega), if_neg (show ¬ k = 36 by omega), if_neg (show ¬ k = 37 by omega), if_neg (show ¬ k = 42 by omega), if_neg (show ¬ k = 79 by omega), if_neg (show ¬ k = 80 by omega), if_neg (show ¬ k = 81 by omega), if_neg (show ¬ k = 82 by omega), if_neg (show ¬ k = 83 by omega), if_neg (show ¬ k = 84 by omega), if_neg (show ¬ k = 85 by omega), if_neg (show ¬ k = 86 by omega), if_neg (show ¬ k = 87 by omega), if_neg (show ¬ k = 88 by omega), if_neg (show ¬ k = 89 by omega), if_neg (show ¬ k = 90 by omega), if_neg (show ¬ k = 91 by omega), if_neg (show ¬ k = 92 by omega), if_neg (show ¬ k = 93 by omega), if_neg (show ¬ k = 94 by omega), if_neg (show ¬ k = 95 by omega), if_neg (show ¬ k = 96 by omega), if_neg (show ¬ k = 97 by omega), if_neg (show ¬ k = 98 by omega), if_neg (show ¬ k = 99 by omega), if_neg (show ¬ k = 100 by omega)]
set_option maxRecDepth 10000 in
theorem rw0_B (k : Nat) : B7 (gA rw0 k) := by
  unfold gA rw0
  dsimp only
  exact (B7_i (B7_u (B7_u (B7_u (B7_u (B7_u (B7_u B7_z (by omega)) (by omega)) (by omega)) (by omega)) (by omega)) (by omega))
    (B7_i (B7_u (B7_u (B7_u (B7_u B7_z (by omega)) (by omega)) (by omega)) (by omega))
    (B7_i (B7_u (B7_u (B7_u (B7_u (B7_u (B7_u B7_z (by omega)) (by omega)) (by omega)) (by omega)) (by omega)) (by omega))
    (B7_i (B7_u (B7_u (B7_u (B7_u (B7_u B7_z (by omega)) (by omega)) (by omega)) (by omega)) (by omega))
    (B7_i (B7_u (B7_u B7_z (by omega)) (by omega))
    (B7_i (B7_u (B7_u (B7_u B7_z (by omega)) (by omega)) (by omega))
    (B7_i (B7_u (B7_u (B7_u (B7_u (B7_u (B7_u B7_z (by omega)) (by omega)) (by omega)) (by omega)) (by omega)) (by omega))
    (B7_i (B7_u (B7_u (B7_u (B7_u (B7_u B7_z (by omega)) (by omega)) (by omega)) (by omega)) (by omega))
    (B7_i (B7_u (B7_u (B7_u (B7_u (B7_u (B7_u B7_z (by omega)) (by omega)) (by omega)) (by omega)) (by omega)) (by omega))
    (B7_i (B7_u (B7_u (B7_u (B7_u (B7_u B7_z (by omega)) (by omega)) (by omega)) (by omega)) (by omega))
    (B7_i (B7_u (B7_u (B7_u (B7_u (B7_u B7_z (by omega)) (by omega)) (by omega)) (by omega)) (by omega))
    (B7_i (B7_u (B7_u (B7_u (B7_u (B7_u B7_z (by omega)) (by omega)) (by omega)) (by omega)) (by omega))
    (B7_i (B7_u (B7_u (B7_u (B7_u B7_z (by omega)) (by omega)) (by omega)) (by omega))
    (B7_i (B7_u (B7_u (B7_u (B7_u (B7_u B7_z (by omega)) (by omega)) (by omega)) (by omega)) (by omega))
    (B7_i (B7_u (B7_u (B7_u (B7_u (B7_u (B7_u (B7_u B7_z (by omega)) (by omega)) (by omega)) (by omega)) (by omega)) (by omega)) (by omega))
    (B7_i (B7_u (B7_u (B7_u (B7_u (B7_u (B7_u B7_z (by omega)) (by omega)) (by omega)) (by omega)) (by omega)) (by omega))
    (B7_i (B7_u (B7_u (B7_u (B7_u (B7_u B7_z (by omega)) (by omega)) (by omega)) (by omega)) (by omega))
    (B7_i (B7_u (B7_u (B7_u (B7_u (B7_u B7_z (by omega)) (by omega)) (by omega)) (by omega)) (by omega))
    (B7_i (B7_u (B7_u (B7_u (B7_u (B7_u B7_z (by omega)) (by omega)) (by omega)) (by omega)) (by omega))
    (B7_i (B7_u (B7_u (B7_u (B7_u B7_z (by omega)) (by omega)) (by omega)) (by omega))
    (B7_i (B7_u (B7_u (B7_u B7_z (by omega)) (by omega)) (by omega))
    (B7_i (B7_u (B7_u B7_z (by omega)) (by omega))
    (B7_i (B7_u (B7_u (B7_u B7_z (by omega)) (by omega)) (by omega))
    (B7_i (B7_u (B7_u (B7_u B7_z (by omega)) (by omega)) (by omega))
    (B7_i (B7_u (B7_u (B7_u B7_z (by omega)) (by omega)) (by omega))
    (B7_i (B7_u (B7_u (B7_u B7_z (by omega)) (by omega)) (by omega))
    (B7_i (B7_u (B7_u (B7_u B7_z (by omega)) (by omega)) (by omega))
    (B7_i (B7_u (B7_u (B7_u (B7_u (B7_u (B7_u B7_z (by omega)) (by omega)) (by omega)) (by omega)) (by omega)) (by omega))
    (B7_i (B7_u (B7_u (B7_u (B7_u (B7_u B7_z (by omega)) (by omega)) (by omega)) (by omega)) (by omega))
    (B7_i (B7_u (B7_u (B7_u (B7_u B7_z (by omega)) (by omega)) (by omega)) (by omega))
    (B7_i (B7_u (B7_u (B7_u (B7_u (B7_u B7_z (by omega)) (by omega)) (by omega)) (by omega)) (by omega))
    (B7_i (B7_u (B7_u (B7_u (B7_u (B7_u B7_z (by omega)) (by omega)) (by omega)) (by omega)) (by omega))
    (B7_i (B7_u (B7_u (B7_u (B7_u B7_z (by omega)) (by omega)) (by omega)) (by omega))
    (B7_i (B7_u (B7_u (B7_u (B7_u (B7_u B7_z (by omega)) (by omega)) (by omega)) (by omega)) (by omega))
    (B7_i (B7_u (B7_u (B7_u B7_z (by omega)) (by omega)) (by omega))
    (B7_i (B7_u (B7_u (B7_u B7_z (by omega)) (by omega)) (by omega))
    (B7_i (B7_u (B7_u B7_z (by omega)) (by omega))
    (B7_i (B7_u (B7_u (B7_u B7_z (by omega)) (by omega)) (by omega))
    (B7_i (B7_u (B7_u (B7_u B7_z (by omega)) (by omega)) (by omega))
    (B7_i (B7_u (B7_u (B7_u B7_z (by omega)) (by omega)) (by omega))
    (B7_i (B7_u (B7_u (B7_u (B7_u (B7_u B7_z (by omega)) (by omega)) (by omega)) (by omega)) (by omega))
    (B7_i (B7_u (B7_u (B7_u (B7_u (B7_u B7_z (by omega)) (by omega)) (by omega)) (by omega)) (by omega))
    (B7_i (B7_u (B7_u (B7_u (B7_u B7_z (by omega)) (by omega)) (by omega)) (by omega))
    (B7_i (B7_u (B7_u (B7_u (B7_u (B7_u (B7_u (B7_u B7_z (by omega)) (by omega)) (by omega)) (by omega)) (by omega)) (by omega)) (by omega))
    (B7_i (B7_u (B7_u (B7_u (B7_u (B7_u (B7_u B7_z (by omega)) (by omega)) (by omega)) (by omega)) (by omega)) (by omega))
    (B7_i (B7_u (B7_u (B7_u (B7_u (B7_u B7_z (by omega)) (by omega)) (by omega)) (by omega)) (by omega))
    (B7_i (B7_u (B7_u (B7_u (B7_u (B7_u B7_z (by omega)) (by omega)) (by omega)) (by omega)) (by omega))
    (B7_i (B7_u (B7_u (B7_u (B7_u (B7_u B7_z (by omega)) (by omega)) (by omega)) (by omega)) (by omega))
    (B7_i (B7_u (B7_u (B7_u (B7_u B7_z (by omega)) (by omega)) (by omega)) (by omega))
    (B7_i (B7_u (B7_u (B7_u B7_z (by omega)) (by omega)) (by omega))
    B7_z))))))))))))))))))))))))))))))))))))))))))))))))))
theorem Rr_rw0 : Rr rw0 := by
  refine ⟨fun k => ?_, fun k j _ => ?_, fun k => ?_, fun k j => by show R8 0; decide⟩
  · show LOr k ≤ (if k = 8 then (-1 : Int) else 0) ∧ (if k = 8 then (-1 : Int) else 0) ≤ HIr k
    by_cases e : k = 8
    · rw [if_pos e, e]; show (-2147483648 : Int) ≤ -1 ∧ (-1 : Int) ≤ 2147483647; omega
    · rw [if_neg e]; exact ⟨LOr_0 k, HIr_0 k⟩
  · by_cases e : (11 ≤ k ∧ k ≤ 37) ∨ (79 ≤ k ∧ k ≤ 100)
    · have b := rw0_B k j
      rw [HIAr_w e, LOAr_w e]; omega
    · by_cases e2 : k = 42
      · have b := rw0_B k j
        rw [e2] at b ⊢
        show (-1 : Int) ≤ gA rw0 42 j ∧ gA rw0 42 j ≤ 1600
        omega
      · rw [rw0_A k (by omega) j]; exact ⟨LOAr_0 k, HIAr_0 k⟩
  · show R8 (if k = 78 then (1 : Int) else 0)
    by_cases e : k = 78
    · rw [if_pos e]; decide
    · rw [if_neg e]; decide
theorem JI_rw0 : JI rw0 := by
  have a : ∀ j, gA rw0 49 j = 0 := fun j => rw0_A 49 (by omega) j
  have c : ∀ j, gA rw0 39 j = 0 := fun j => rw0_A 39 (by omega) j
  refine ⟨⟨by rw [a]; omega, by rw [a]; omega⟩, ?_, by rw [c]; omega, Or.inl ⟨rfl, c 5, rfl⟩⟩
  show (0 : Int) ≤ (if 78 = 78 then 1 else 0) ∧ (if 78 = 78 then (1 : Int) else 0) ≤ 2147483647
  rw [if_pos rfl]; omega
/-! ===== the reference's calls that read or write little ===== -/
theorem j_feed {p0 p1 p2 p3 p4 : Int} {t : MS} (hR : Rr t) (hJ : JI t) : wp (m_x12_feed p0 p1 p2 p3 p4 t) (fun q => Rr q.2 ∧ JI q.2 ∧ ((q.1 = -1 ∧ gI q.2 1 = gI t 1 ∧ 1580 < gI t 1) ∨ (q.1 = gI t 1 + 20 ∧ gI q.2 1 = gI t 1 + 20 ∧ gI t 1 ≤ 1580))) :=
  wp_eq (w_x12_feed hR) (fun o e h => by
    have F : F_x12_feed t o.2 := fr_x12_feed e
    exact ⟨h.1, JI_eq hJ ⟨F.2.1 39 (by decide), F.2.1 42 (by decide), F.2.1 43 (by decide), F.2.1 44 (by decide)⟩ (F.2.1 49 (by decide)) (F.2.1 75 (by decide)) (F.1 76 (by decide)) (F.1 77 (by decide)) (F.1 47 (by decide)) (F.2.2.1 78 (by decide)), h.2⟩)
theorem j_end {p0 : Int} {t : MS} (hR : Rr t) (hJ : JI t) (h0 : R2 p0) : wp (m_x12_end p0 t) (fun q => Rr q.2 ∧ JI q.2 ∧ ((q.1 = 0 ∧ gI q.2 1 = gI t 1 ∧ (p0 < 0 ∨ gI t 1 < p0)) ∨ (q.1 = 1 ∧ gI q.2 1 = p0 ∧ 0 ≤ p0 ∧ p0 ≤ gI t 1))) :=
  wp_eq (w_x12_end hR h0) (fun o e h => by
    have F : F_x12_end t o.2 := fr_x12_end e
    exact ⟨h.1, JI_eq hJ ⟨F.2.1 39 (by decide), F.2.1 42 (by decide), F.2.1 43 (by decide), F.2.1 44 (by decide)⟩ (F.2.1 49 (by decide)) (F.2.1 75 (by decide)) (F.1 76 (by decide)) (F.1 77 (by decide)) (F.1 47 (by decide)) (F.2.2.1 78 (by decide)), h.2⟩)
theorem JI_L {s o : MS} (H : JI s) (k : KR s o) (h49 : gA o 49 = gA s 49) (h75 : gA o 75 = gA s 75) (h76 : gI o 76 = gI s 76) (h77 : gI o 77 = gI s 77) (h47 : gI o 47 = gI s 47) (hL : 0 ≤ gL o 78 ∧ gL o 78 ≤ 2147483647) : JI o := by
  refine ⟨by rw [h49]; exact H.1, hL, by rw [k.1]; exact H.2.2.1, ?_⟩
  rcases H.2.2.2 with q | q
  · exact Or.inl (by rw [h47, k.1, h76]; exact q)
  · have G := GA_eq ⟨q.2.1, q.2.2, H.1.1, H.1.2⟩ k h49 h75 h76 h77
    exact Or.inr ⟨by rw [h47]; exact q.1, G.1, G.2.1⟩
theorem j_seed {p0 : Int} {t : MS} (hR : Rr t) (hJ : JI t) (h0 : R2 p0) : wp (m_x12_seed p0 t) (fun q => Rr q.2 ∧ JI q.2 ∧ gI q.2 1 = gI t 1) := by
  have key : wp (m_x12_seed p0 t) (fun q => Rr q.2 ∧ (0 ≤ gL q.2 78 ∧ gL q.2 78 ≤ 2147483647)) := by
    unfold m_x12_seed
    refine wp_rg h0 (wp_if (fun c => wp_rg h0 (wp_stn (fun s4 e4 => ?_))) (fun c => ?_))
    · have hR4 : Rr s4 := e4 ▸ Rr.uL hR (by omega)
      refine wp_some ⟨hR4, ?_⟩
      show 0 ≤ gL s4 78 ∧ gL s4 78 ≤ 2147483647
      rw [(q_LL e4 : gL s4 78 = p0)]; omega
    · refine wp_bn (w_x12_isRefused hR (by omega)) (fun q7 e7 h7 => ?_)
      have F7 : F_x12_isRefused t q7.2 := fr_x12_isRefused e7
      refine wp_bo (Or.inl h7.2) (wp_some ⟨h7.1, ?_⟩)
      show 0 ≤ gL q7.2 78 ∧ gL q7.2 78 ≤ 2147483647
      rw [F7.2.2.1 78 (by decide)]; exact hJ.2.1
  exact wp_eq key (fun o e h => by
    have F : F_x12_seed t o.2 := fr_x12_seed e
    exact ⟨h.1, JI_L hJ ⟨F.2.1 39 (by decide), F.2.1 42 (by decide), F.2.1 43 (by decide), F.2.1 44 (by decide)⟩ (F.2.1 49 (by decide)) (F.2.1 75 (by decide)) (F.1 76 (by decide)) (F.1 77 (by decide)) (F.1 47 (by decide)) h.2, F.1 1 (by decide)⟩)
