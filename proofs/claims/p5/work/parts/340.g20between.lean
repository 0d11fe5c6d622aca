/-! ===== the reference between calls ===== -/
def GA (s : MS) : Prop := GN s ∧ JR s ∧ (0 ≤ gA s 49 16 ∧ gA s 49 16 ≤ 999999) ∧ (0 ≤ gA s 49 785 ∧ gA s 49 785 ≤ 40)
def JI (s : MS) : Prop := ((0 ≤ gA s 49 16 ∧ gA s 49 16 ≤ 999999) ∧ (0 ≤ gA s 49 785 ∧ gA s 49 785 ≤ 40)) ∧ (0 ≤ gL s 78 ∧ gL s 78 ≤ 2147483647) ∧ (0 ≤ gA s 39 7 ∧ gA s 39 7 ≤ 8) ∧ ((gI s 47 = 0 ∧ gA s 39 5 = 0 ∧ gI s 76 = 0) ∨ (gI s 47 = 1 ∧ GN s ∧ JR s))
theorem JI_GA {s : MS} (H : JI s) (h : gI s 47 ≠ 0) : GA s := by
  rcases H.2.2.2 with q | q
  · exact absurd q.1 h
  · exact ⟨q.2.1, q.2.2, H.1.1, H.1.2⟩
theorem JI_N {s : MS} (H : JI s) : 0 ≤ gA s 39 5 ∧ gA s 39 5 ≤ 48 := by
  rcases H.2.2.2 with q | q
  · omega
  · have := q.2.1.2.1.1; omega
theorem GA_eq {s o : MS} (H : GA s) (k : KR s o) (h49 : gA o 49 = gA s 49) (h75 : gA o 75 = gA s 75) (h76 : gI o 76 = gI s 76) (h77 : gI o 77 = gI s 77) : GA o := ⟨GN_x H.1 k (fun j _ _ => by rw [h49]), JR_eq H.2.1 k h75 (by omega) h77, by rw [h49]; exact H.2.2.1, by rw [h49]; exact H.2.2.2⟩
theorem GA_JI {s o : MS} (H : JI s) (h : gI s 47 ≠ 0) (h39 : gA o 39 = gA s 39) (hL : 0 ≤ gL o 78 ∧ gL o 78 ≤ 2147483647) (h47 : gI o 47 = gI s 47) (G : GA o) : JI o := by
  refine ⟨⟨G.2.2.1, G.2.2.2⟩, hL, by rw [h39]; exact H.2.2.1, Or.inr ⟨?_, G.1, G.2.1⟩⟩
  rcases H.2.2.2 with q | q
  · exact absurd q.1 h
  · rw [h47]; exact q.1
theorem JI_eq {s o : MS} (H : JI s) (k : KR s o) (h49 : gA o 49 = gA s 49) (h75 : gA o 75 = gA s 75) (h76 : gI o 76 = gI s 76) (h77 : gI o 77 = gI s 77) (h47 : gI o 47 = gI s 47) (hL : gL o 78 = gL s 78) : JI o := by
  refine ⟨by rw [h49]; exact H.1, by rw [hL]; exact H.2.1, by rw [k.1]; exact H.2.2.1, ?_⟩
  rcases H.2.2.2 with q | q
  · exact Or.inl (by rw [h47, k.1, h76]; exact q)
  · have G := GA_eq ⟨q.2.1, q.2.2, H.1.1, H.1.2⟩ k h49 h75 h76 h77
    exact Or.inr ⟨by rw [h47]; exact q.1, G.1, G.2.1⟩
theorem GA_tries {s o : MS} {v : Nat} (H : GA s) (k : KS s o) (hT : RT o) (hv : v < 8) (hW : RW0 s o v) (h75 : gA o 75 = gA s 75) (h76 : gI o 76 = gI s 76) (h77 : gI o 77 = gI s 77) : GA o := by
  have kr : KR s o := k.1
  exact ⟨GN_k H.1 kr hT (RB_w H.1.1.2 (by omega) hW), JR_eq H.2.1 kr h75 (by omega) h77, by rw [hW.1 16 (by omega) (by omega)]; exact H.2.2.1, by rw [k.2 785 (by omega)]; exact H.2.2.2⟩
theorem GA_kept {s o : MS} (H : GA s) (k : KR s o) (h1 : ∀ i, i < 785 → i ≠ 16 → gA o 49 i = gA s 49 i) (h2 : 0 ≤ gA o 49 16 ∧ gA o 49 16 ≤ 999999) (h3 : 0 ≤ gA o 49 785 ∧ gA o 49 785 ≤ 40) (h75 : gA o 75 = gA s 75) (h76 : gI o 76 = gI s 76) (h77 : gI o 77 = gI s 77) : GA o := ⟨GN_x H.1 k h1, JR_eq H.2.1 k h75 (by omega) h77, h2, h3⟩
theorem GA_keeps {s o : MS} (hR : Rr s) (H : GA s) (k : KR s o) (h49 : gA o 49 = gA s 49) (h77 : gI o 77 = (gI s 77 + 1) % 20) (h76 : gI o 76 ≤ gI s 76 + 1 ∧ gI o 76 ≤ 20) (n : ∀ j, j < 906 → gA o 75 (906 * (gI o 77).toNat + j) = gA s 49 j) (e : ∀ j, j < 906 * (gI o 77).toNat ∨ 906 * (gI o 77).toNat + 906 ≤ j → gA o 75 j = gA s 75 j) : GA o := by
  have r77 : (0 : Int) ≤ gI s 77 ∧ gI s 77 ≤ 19 := hR.1 77
  exact ⟨GN_x H.1 k (fun j _ _ => by rw [h49]), JR_keeps H.2.1 (GR_s H.1 H.2.2.1 H.2.2.2) k h77 h76 (by omega) n e, by rw [h49]; exact H.2.2.1, by rw [h49]; exact H.2.2.2⟩
/-- the tree part is another, the rest is not -/
theorem GA_tree {s o : MS} (H : GA s) (k : KR s o) (hT : RT o) (hB : RB_r o) (h16 : gA o 49 16 = gA s 49 16) (h785 : gA o 49 785 = gA s 49 785) (h75 : gA o 75 = gA s 75) (h76 : gI o 76 = gI s 76) (h77 : gI o 77 = gI s 77) : GA o := ⟨GN_k H.1 k hT hB, JR_eq H.2.1 k h75 (by omega) h77, by rw [h16]; exact H.2.2.1, by rw [h785]; exact H.2.2.2⟩
def ivol (s : MS) (u : Nat) : Int := if gI s 47 ≠ 0 ∧ gA s 49 u ≠ 255 then 1 else 0
theorem ivol_01 (s : MS) (u : Nat) : ivol s u = 0 ∨ ivol s u = 1 := by unfold ivol; split <;> omega
theorem sm_s (f : Nat → Int) (n : Nat) : sm (n + 1) f = sm n f + f n := rfl
set_option maxHeartbeats 1000000 in
theorem wv_x12_isVolume {p0 : Int} {s : MS} (hRs : Rr s) (hp0 : R8 p0) : wp (m_x12_isVolume p0 s) (fun r => ((r = 1 ∧ (0 ≤ p0 ∧ p0 < 8) ∧ gI s 47 ≠ 0 ∧ gA s 49 p0.toNat ≠ 255) ∨ r = 0) ∧ (0 ≤ p0 ∧ p0 < 8 → r = ivol s p0.toNat)) := by
  unfold m_x12_isVolume
  refine wp_bn (w_x12_isIn hRs (by show R8 p0; omega) (by show R8 (0 : Int); omega) (by show R8 (7 : Int); omega)) (fun r4 er4 hr4 => ?_)
  have hr4_0 := hr4
  have hr4_0 : (r4 = 1 ∧ (0 : Int) ≤ p0 ∧ p0 ≤ (7 : Int)) ∨ (r4 = 0 ∧ (p0 < (0 : Int) ∨ (7 : Int) < p0)) := hr4_0
  refine wp_rg (by omega) ?_
  refine wp_if (fun c1 => ?_) (fun c1 => ?_)
  · skip
    unfold m_x12_isVolume_J35
    unfold m_x12_isVolume_J36
    refine wp_bo (by omega) ?_
    exact wp_some ⟨by show ((0 : Int) = 1 ∧ (0 ≤ p0 ∧ p0 < 8) ∧ gI s 47 ≠ 0 ∧ gA s 49 p0.toNat ≠ 255) ∨ (0 : Int) = 0; have : (0 : Int) ≤ gI s 47 ∧ gI s 47 ≤ 1 := hRs.1 47; omega, fun h9 => by unfold ivol; first | (exfalso; omega) | (rw [if_neg (fun w => w.1 (by assumption))]) | (rw [if_neg (fun w => w.2 (by rw [ey9]; assumption))]) | (rw [if_pos ⟨by assumption, by rw [ey9]; assumption⟩])⟩
  · skip
    refine wp_rg (by have : (0 : Int) ≤ gI s 47 ∧ gI s 47 ≤ 1 := hRs.1 47; omega) ?_
    refine wp_if (fun c2 => ?_) (fun c2 => ?_)
    · skip
      unfold m_x12_isVolume_J35
      unfold m_x12_isVolume_J36
      refine wp_bo (by have : (0 : Int) ≤ gI s 47 ∧ gI s 47 ≤ 1 := hRs.1 47; omega) ?_
      exact wp_some ⟨by show ((0 : Int) = 1 ∧ (0 ≤ p0 ∧ p0 < 8) ∧ gI s 47 ≠ 0 ∧ gA s 49 p0.toNat ≠ 255) ∨ (0 : Int) = 0; have : (0 : Int) ≤ gI s 47 ∧ gI s 47 ≤ 1 := hRs.1 47; omega, fun h9 => by unfold ivol; first | (exfalso; omega) | (rw [if_neg (fun w => w.1 (by assumption))]) | (rw [if_neg (fun w => w.2 (by rw [ey9]; assumption))]) | (rw [if_pos ⟨by assumption, by rw [ey9]; assumption⟩])⟩
    · skip
      refine wp_rdIn (by have : (0 : Int) ≤ gI s 47 ∧ gI s 47 ≤ 1 := hRs.1 47; omega) (fun y9 ey9 => ?_)
      have by9 : (-2147483648 : Int) ≤ y9 ∧ y9 ≤ 2147483647 := ey9 ▸ hRs.2.1 49 _ (by show _ < 906; have : (0 : Int) ≤ gI s 47 ∧ gI s 47 ≤ 1 := hRs.1 47; omega)
      have r9 : R2 y9 := ey9 ▸ R49 hRs (by omega)
      refine wp_rg (by have : (0 : Int) ≤ gI s 47 ∧ gI s 47 ≤ 1 := hRs.1 47; omega) ?_
      refine wp_if (fun c3 => ?_) (fun c3 => ?_)
      · skip
        unfold m_x12_isVolume_J35
        unfold m_x12_isVolume_J36
        refine wp_bo (by have : (0 : Int) ≤ gI s 47 ∧ gI s 47 ≤ 1 := hRs.1 47; omega) ?_
        exact wp_some ⟨by show ((0 : Int) = 1 ∧ (0 ≤ p0 ∧ p0 < 8) ∧ gI s 47 ≠ 0 ∧ gA s 49 p0.toNat ≠ 255) ∨ (0 : Int) = 0; have : (0 : Int) ≤ gI s 47 ∧ gI s 47 ≤ 1 := hRs.1 47; omega, fun h9 => by unfold ivol; first | (exfalso; omega) | (rw [if_neg (fun w => w.1 (by assumption))]) | (rw [if_neg (fun w => w.2 (by rw [ey9]; assumption))]) | (rw [if_pos ⟨by assumption, by rw [ey9]; assumption⟩])⟩
      · skip
        unfold m_x12_isVolume_J36
        refine wp_bo (by have : (0 : Int) ≤ gI s 47 ∧ gI s 47 ≤ 1 := hRs.1 47; omega) ?_
        exact wp_some ⟨by show ((1 : Int) = 1 ∧ (0 ≤ p0 ∧ p0 < 8) ∧ gI s 47 ≠ 0 ∧ gA s 49 p0.toNat ≠ 255) ∨ (1 : Int) = 0; have : (0 : Int) ≤ gI s 47 ∧ gI s 47 ≤ 1 := hRs.1 47; omega, fun h9 => by unfold ivol; first | (exfalso; omega) | (rw [if_neg (fun w => w.1 (by assumption))]) | (rw [if_neg (fun w => w.2 (by rw [ey9]; assumption))]) | (rw [if_pos ⟨by assumption, by rw [ey9]; assumption⟩])⟩
set_option maxHeartbeats 1000000 in
theorem wv_x12_volumeMany {s : MS} (hRs : Rr s) : wp (m_x12_volumeMany s) (fun r => (r = sm 8 (ivol s)) ∧ (0 ≤ r ∧ r ≤ 8)) := by
  unfold m_x12_volumeMany
  have L4 : ∀ (n : Nat) (x1 : Int) (x2 : Int), (0 ≤ x1 ∧ x1 ≤ x2 ∧ x2 ≤ 8) → (x1 = sm x2.toNat (ivol s)) → (8 - x2) < (n : Int) → wp (m_x12_volumeMany_L4 s n x1 x2) (fun r => (r = sm 8 (ivol s)) ∧ (0 ≤ r ∧ r ≤ 8)) := by
    refine fr_ind (fun x1 x2 hv4_0 hv4_1 hm4 => ?_) (fun n4 ih4 x1 x2 hv4_0 hv4_1 hm4 => ?_)
    · exfalso; omega
    · show wp (m_x12_volumeMany_b4 s (m_x12_volumeMany_L4 s n4) x1 x2) _
      unfold m_x12_volumeMany_b4
      refine wp_rg (by omega) ?_
      refine wp_if (fun c1 => ?_) (fun c1 => ?_)
      · skip
        exact wp_some ⟨by rw [hv4_1, show x2.toNat = 8 by omega], by show 0 ≤ x1 ∧ x1 ≤ 8; omega⟩
      · skip
        refine wp_rg (by omega) ?_
        refine wp_bn (wv_x12_isVolume hRs (by show R8 x2; omega)) (fun r9 er9 hr9 => ?_)
        obtain ⟨hr9_0, hr9_1⟩ := hr9
        have hr9_0 : (r9 = 1 ∧ (0 ≤ x2 ∧ x2 < 8) ∧ gI s 47 ≠ 0 ∧ gA s 49 x2.toNat ≠ 255) ∨ r9 = 0 := hr9_0
        have hr9_1 : 0 ≤ x2 ∧ x2 < 8 → r9 = ivol s x2.toNat := hr9_1
        refine wp_rg (by have : (0 : Int) ≤ gI s 47 ∧ gI s 47 ≤ 1 := hRs.1 47; omega) ?_
        refine wp_if (fun c2 => ?_) (fun c2 => ?_)
        · skip
          unfold m_x12_volumeMany_J22
          exact ih4 x1 (x2 + 1) (by show 0 ≤ x1 ∧ x1 ≤ (x2 + 1) ∧ (x2 + 1) ≤ 8; have : (0 : Int) ≤ gI s 47 ∧ gI s 47 ≤ 1 := hRs.1 47; omega) (by rw [show ((x2 + 1)).toNat = x2.toNat + 1 by omega, sm_s, ← hv4_1]; have z := hr9_1 (by omega); omega) (by have : (0 : Int) ≤ gI s 47 ∧ gI s 47 ≤ 1 := hRs.1 47; omega)
        · skip
          unfold m_x12_volumeMany_J22
          exact ih4 (x1 + 1) (x2 + 1) (by show 0 ≤ (x1 + 1) ∧ (x1 + 1) ≤ (x2 + 1) ∧ (x2 + 1) ≤ 8; have : (0 : Int) ≤ gI s 47 ∧ gI s 47 ≤ 1 := hRs.1 47; omega) (by rw [show ((x2 + 1)).toNat = x2.toNat + 1 by omega, sm_s, ← hv4_1]; have z := hr9_1 (by omega); omega) (by have : (0 : Int) ≤ gI s 47 ∧ gI s 47 ≤ 1 := hRs.1 47; omega)
  exact L4 FU 0 0 (by show 0 ≤ (0 : Int) ∧ (0 : Int) ≤ (0 : Int) ∧ (0 : Int) ≤ 8; omega) (rfl) (by have := FU_big; have := FU_big2; omega)
set_option maxHeartbeats 1000000 in
theorem w_x12_volumeAt {p0 : Int} {s : MS} (hRs : Rr s) (hp0 : 0 ≤ p0 ∧ p0 < sm 8 (ivol s)) : wp (m_x12_volumeAt p0 s) (fun r => ((0 ≤ r ∧ r < 8) ∧ gI s 47 ≠ 0 ∧ gA s 49 r.toNat ≠ 255)) := by
  unfold m_x12_volumeAt
  have L4 : ∀ (n : Nat) (x1 : Int) (x2 : Int), (0 ≤ x1 ∧ x1 ≤ 8) → (0 ≤ x2 ∧ x2 + sm x1.toNat (ivol s) = p0) → (8 - x1) < (n : Int) → wp (m_x12_volumeAt_L4 s n x1 x2) (fun r => ((0 ≤ r ∧ r < 8) ∧ gI s 47 ≠ 0 ∧ gA s 49 r.toNat ≠ 255)) := by
    refine fr_ind (fun x1 x2 hv4_0 hv4_1 hm4 => ?_) (fun n4 ih4 x1 x2 hv4_0 hv4_1 hm4 => ?_)
    · exfalso; omega
    · show wp (m_x12_volumeAt_b4 s (m_x12_volumeAt_L4 s n4) x1 x2) _
      unfold m_x12_volumeAt_b4
      have kn := sm_nn (n := x1.toNat) (f := ivol s) (fun u _ => by have z := ivol_01 s u; omega)
      have k88 := sm_bd (n := 8) (c := 1) (f := ivol s) (fun u _ => by have z := ivol_01 s u; omega)
      have k8 : x1 ≠ 8 := fun z => by have z2 := hv4_1.2; rw [z] at z2; have z3 : sm (8 : Int).toNat (ivol s) = sm 8 (ivol s) := rfl; omega
      refine wp_rg (by omega) ?_
      refine wp_if (fun c1 => ?_) (fun c1 => ?_)
      · skip
        unfold m_x12_volumeAt_J17
        refine wp_rg (by omega) ?_
        refine wp_bn (wv_x12_isVolume hRs (by show R8 x1; omega)) (fun r9 er9 hr9 => ?_)
        obtain ⟨hr9_0, hr9_1⟩ := hr9
        have hr9_0 : (r9 = 1 ∧ (0 ≤ x1 ∧ x1 < 8) ∧ gI s 47 ≠ 0 ∧ gA s 49 x1.toNat ≠ 255) ∨ r9 = 0 := hr9_0
        have hr9_1 : 0 ≤ x1 ∧ x1 < 8 → r9 = ivol s x1.toNat := hr9_1
        refine wp_rg (by have : (0 : Int) ≤ gI s 47 ∧ gI s 47 ≤ 1 := hRs.1 47; omega) ?_
        refine wp_if (fun c2 => ?_) (fun c2 => ?_)
        · skip
          unfold m_x12_volumeAt_J29
          exact ih4 (x1 + 1) x2 (by show 0 ≤ (x1 + 1) ∧ (x1 + 1) ≤ 8; have : (0 : Int) ≤ gI s 47 ∧ gI s 47 ≤ 1 := hRs.1 47; omega) (by rw [show ((x1 + 1)).toNat = x1.toNat + 1 by omega, sm_s]; have z := hr9_1 (by omega); have z1 := ivol_01 s x1.toNat; omega) (by have : (0 : Int) ≤ gI s 47 ∧ gI s 47 ≤ 1 := hRs.1 47; omega)
        · skip
          unfold m_x12_volumeAt_J29
          exact ih4 (x1 + 1) (x2 + (-1)) (by show 0 ≤ (x1 + 1) ∧ (x1 + 1) ≤ 8; have : (0 : Int) ≤ gI s 47 ∧ gI s 47 ≤ 1 := hRs.1 47; omega) (by rw [show ((x1 + 1)).toNat = x1.toNat + 1 by omega, sm_s]; have z := hr9_1 (by omega); have z1 := ivol_01 s x1.toNat; omega) (by have : (0 : Int) ≤ gI s 47 ∧ gI s 47 ≤ 1 := hRs.1 47; omega)
      · skip
        refine wp_rg (by omega) ?_
        refine wp_bn (wv_x12_isVolume hRs (by show R8 x1; omega)) (fun r16 er16 hr16 => ?_)
        obtain ⟨hr16_0, hr16_1⟩ := hr16
        have hr16_0 : (r16 = 1 ∧ (0 ≤ x1 ∧ x1 < 8) ∧ gI s 47 ≠ 0 ∧ gA s 49 x1.toNat ≠ 255) ∨ r16 = 0 := hr16_0
        have hr16_1 : 0 ≤ x1 ∧ x1 < 8 → r16 = ivol s x1.toNat := hr16_1
        refine wp_rg (by have : (0 : Int) ≤ gI s 47 ∧ gI s 47 ≤ 1 := hRs.1 47; omega) ?_
        refine wp_if (fun c3 => ?_) (fun c3 => ?_)
        · skip
          unfold m_x12_volumeAt_J17
          refine wp_rg (by have : (0 : Int) ≤ gI s 47 ∧ gI s 47 ≤ 1 := hRs.1 47; omega) ?_
          refine wp_bn (wv_x12_isVolume hRs (by show R8 x1; have : (0 : Int) ≤ gI s 47 ∧ gI s 47 ≤ 1 := hRs.1 47; omega)) (fun r9 er9 hr9 => ?_)
          obtain ⟨hr9_0, hr9_1⟩ := hr9
          have hr9_0 : (r9 = 1 ∧ (0 ≤ x1 ∧ x1 < 8) ∧ gI s 47 ≠ 0 ∧ gA s 49 x1.toNat ≠ 255) ∨ r9 = 0 := hr9_0
          have hr9_1 : 0 ≤ x1 ∧ x1 < 8 → r9 = ivol s x1.toNat := hr9_1
          refine wp_rg (by have : (0 : Int) ≤ gI s 47 ∧ gI s 47 ≤ 1 := hRs.1 47; omega) ?_
          refine wp_if (fun c4 => ?_) (fun c4 => ?_)
          · skip
            unfold m_x12_volumeAt_J29
            exact ih4 (x1 + 1) x2 (by show 0 ≤ (x1 + 1) ∧ (x1 + 1) ≤ 8; have : (0 : Int) ≤ gI s 47 ∧ gI s 47 ≤ 1 := hRs.1 47; omega) (by rw [show ((x1 + 1)).toNat = x1.toNat + 1 by omega, sm_s]; have z := hr9_1 (by omega); have z1 := ivol_01 s x1.toNat; omega) (by have : (0 : Int) ≤ gI s 47 ∧ gI s 47 ≤ 1 := hRs.1 47; omega)
          · skip
            unfold m_x12_volumeAt_J29
            exact ih4 (x1 + 1) (x2 + (-1)) (by show 0 ≤ (x1 + 1) ∧ (x1 + 1) ≤ 8; have : (0 : Int) ≤ gI s 47 ∧ gI s 47 ≤ 1 := hRs.1 47; omega) (by rw [show ((x1 + 1)).toNat = x1.toNat + 1 by omega, sm_s]; have z := hr9_1 (by omega); have z1 := ivol_01 s x1.toNat; omega) (by have : (0 : Int) ≤ gI s 47 ∧ gI s 47 ≤ 1 := hRs.1 47; omega)
        · skip
          exact wp_some (by show (0 ≤ x1 ∧ x1 < 8) ∧ gI s 47 ≠ 0 ∧ gA s 49 x1.toNat ≠ 255; have : (0 : Int) ≤ gI s 47 ∧ gI s 47 ≤ 1 := hRs.1 47; omega)
  exact L4 FU 0 p0 (by show 0 ≤ (0 : Int) ∧ (0 : Int) ≤ 8; omega) (⟨by omega, by show p0 + (0 : Int) = p0; omega⟩) (by have := FU_big; have := FU_big2; omega)
set_option maxHeartbeats 1000000 in
theorem w_x12_drawOf {p0 : Int} {s : MS} (hRs : Rr s) (hp0 : 0 ≤ gL s 78 ∧ gL s 78 ≤ 2147483647) (hp1 : 1 ≤ p0 ∧ p0 ≤ 100) : wp (m_x12_drawOf p0 s) (fun q => (Rr q.2) ∧ (0 ≤ q.1 ∧ q.1 < p0) ∧ (0 ≤ gL q.2 78 ∧ gL q.2 78 ≤ 2147483647)) := by
  have km : Int.tmod (1103515245 * gL s 78 + 12345) 2147483648 = (1103515245 * gL s 78 + 12345) % 2147483648 := Int.tmod_eq_emod_of_nonneg (by omega)
  unfold m_x12_drawOf
  refine wp_dvL (by omega) ?_
  refine wp_stn (fun s2 es2 => ?_)
  have hRs2 : Rr s2 := es2 ▸ Rr.uL hRs (by rw [km]; omega)
  have kL : gL s2 78 = (1103515245 * gL s 78 + 12345) % 2147483648 := (q_LL es2).trans km
  have kd : Int.tdiv (gL s2 78) 64 = gL s2 78 / 64 := Int.tdiv_eq_ediv_of_nonneg (by omega)
  have kt1 := Int.tmod_nonneg (a := Int.tdiv (gL s2 78) 64) p0 (by omega)
  have kt2 := Int.tmod_lt_of_pos (Int.tdiv (gL s2 78) 64) (b := p0) (by omega)
  refine wp_dvL (by omega) ?_
  refine wp_rg (by omega) ?_
  refine wp_dvL (by omega) ?_
  exact wp_some ⟨hRs2, by show 0 ≤ (Int.tmod (Int.tdiv (gL s2 78) 64) p0) ∧ (Int.tmod (Int.tdiv (gL s2 78) 64) p0) < p0; omega, by show 0 ≤ gL s2 78 ∧ gL s2 78 ≤ 2147483647; omega⟩
set_option maxHeartbeats 1000000 in
theorem w_x12_freeNumber {s : MS} (hRs : Rr s) : wp (m_x12_freeNumber s) (fun r => ((0 ≤ r ∧ r ≤ 8) ∧ (r < 8 → gA s 49 r.toNat = 255))) := by
  unfold m_x12_freeNumber
  have L2 : ∀ (n : Nat) (x2 : Int), (0 ≤ x2 ∧ x2 ≤ 8) → (8 - x2) < (n : Int) → wp (m_x12_freeNumber_L2 s n x2) (fun r => ((0 ≤ r ∧ r ≤ 8) ∧ (r < 8 → gA s 49 r.toNat = 255))) := by
    refine fr_ind (fun x2 hv2_0 hm2 => ?_) (fun n2 ih2 x2 hv2_0 hm2 => ?_)
    · exfalso; omega
    · show wp (m_x12_freeNumber_b2 s (m_x12_freeNumber_L2 s n2) x2) _
      unfold m_x12_freeNumber_b2
      refine wp_rg (by omega) ?_
      refine wp_if (fun c1 => ?_) (fun c1 => ?_)
      · skip
        unfold m_x12_freeNumber_J26
        exact wp_some (⟨by omega, fun h9 => by first | (exfalso; omega) | (rw [ey5]; assumption)⟩)
      · skip
        refine wp_rdIn (by omega) (fun y5 ey5 => ?_)
        have by5 : (-2147483648 : Int) ≤ y5 ∧ y5 ≤ 2147483647 := ey5 ▸ hRs.2.1 49 _ (by show _ < 906; omega)
        have r5 : R2 y5 := ey5 ▸ R49 hRs (by omega)
        refine wp_rg (by omega) ?_
        refine wp_if (fun c2 => ?_) (fun c2 => ?_)
        · skip
          unfold m_x12_freeNumber_J26
          exact wp_some (⟨by omega, fun h9 => by first | (exfalso; omega) | (rw [ey5]; assumption)⟩)
        · skip
          exact ih2 (x2 + 1) (by show 0 ≤ (x2 + 1) ∧ (x2 + 1) ≤ 8; omega) (by omega)
  exact L2 FU 0 (by show 0 ≤ (0 : Int) ∧ (0 : Int) ≤ 8; omega) (by have := FU_big; have := FU_big2; omega)
