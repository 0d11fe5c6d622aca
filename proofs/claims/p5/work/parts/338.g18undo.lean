/-! ===== states that can come back ===== -/
def slot (s : MS) (i : Nat) : Nat → Int := fun k => gA s 75 (906 * i + k)
/-- a row of a state is good -/
def GR (s : MS) (f : Nat → Int) : Prop := GN (sA s 49 f) ∧ (0 ≤ f 16 ∧ f 16 ≤ 999999) ∧ (0 ≤ f 785 ∧ f 785 ≤ 40)
theorem KR_f {s o : MS} (k : KR s o) (f g : Nat → Int) : KR (sA s 49 f) (sA o 49 g) := by
  unfold KR
  rw [gA_sA, gA_sA, gA_sA, gA_sA, gA_sA, gA_sA, gA_sA, gA_sA, if_neg (by decide), if_neg (by decide), if_neg (by decide), if_neg (by decide), if_neg (by decide), if_neg (by decide), if_neg (by decide), if_neg (by decide)]
  exact k
theorem GR_x {s o : MS} {f g : Nat → Int} (H : GR s f) (k : KR s o) (h : ∀ j, j < 906 → g j = f j) : GR o g := by
  refine ⟨GN_x H.1 (KR_f k f g) (fun j hj _ => ?_), by rw [h 16 (by omega)]; exact H.2.1, by rw [h 785 (by omega)]; exact H.2.2⟩
  rw [gA_sA, if_pos rfl, gA_sA, if_pos rfl]; exact h j (by omega)
theorem sA_self (s : MS) : sA s 49 (gA s 49) = s := by
  unfold sA gA
  have : (fun j => if j = 49 then s.2.2.1 49 else s.2.2.1 j) = s.2.2.1 := by
    funext j
    by_cases z : j = 49
    · rw [if_pos z, z]
    · rw [if_neg z]
  rw [this]
theorem GR_s {s : MS} (H : GN s) (h1 : 0 ≤ gA s 49 16 ∧ gA s 49 16 ≤ 999999) (h2 : 0 ≤ gA s 49 785 ∧ gA s 49 785 ≤ 40) : GR s (gA s 49) := ⟨by rw [sA_self]; exact H, h1, h2⟩
theorem s_GR {s : MS} (H : GR s (gA s 49)) : GN s := by
  have := H.1
  rw [sA_self] at this
  exact this
/-- all that can come back is good -/
def JR (s : MS) : Prop := ∀ i : Nat, (i : Int) < gI s 76 → GR s (slot s ((gI s 77 - (i : Int)) % 20).toNat)
theorem JR_eq {s o : MS} (H : JR s) (k : KR s o) (h75 : gA o 75 = gA s 75) (h76 : gI o 76 ≤ gI s 76) (h77 : gI o 77 = gI s 77) : JR o := fun i hi => by
  rw [h77]
  refine GR_x (H i (by omega)) k (fun j _ => ?_)
  show gA o 75 _ = gA s 75 _
  rw [h75]
theorem JR_0 {o : MS} (h : gI o 76 ≤ 0) : JR o := fun i hi => by omega
theorem JR_keeps {s o : MS} (H : JR s) (G : GR s (gA s 49)) (k : KR s o) (h77 : gI o 77 = (gI s 77 + 1) % 20) (h76 : gI o 76 ≤ gI s 76 + 1 ∧ gI o 76 ≤ 20) (h0 : 0 ≤ gI s 77 ∧ gI s 77 < 20) (n : ∀ j, j < 906 → gA o 75 (906 * (gI o 77).toNat + j) = gA s 49 j) (e : ∀ j, j < 906 * (gI o 77).toNat ∨ 906 * (gI o 77).toNat + 906 ≤ j → gA o 75 j = gA s 75 j) : JR o := fun i hi => by
  by_cases z : i = 0
  · rw [z, show ((gI o 77 - ((0 : Nat) : Int)) % 20).toNat = (gI o 77).toNat by omega]
    exact GR_x G k (fun j hj => n j hj)
  · have e1 : ((gI o 77 - (i : Int)) % 20).toNat = ((gI s 77 - ((i - 1 : Nat) : Int)) % 20).toNat := by omega
    rw [e1]
    refine GR_x (H (i - 1) (by omega)) k (fun j hj => ?_)
    exact e _ (by omega)
theorem JR_undo {s o : MS} (H : JR s) (k : KR s o) (h75 : gA o 75 = gA s 75) (h76 : gI o 76 = gI s 76 - 1) (h77 : gI o 77 = (gI s 77 + 19) % 20) (h0 : 0 ≤ gI s 77 ∧ gI s 77 < 20) : JR o := fun i hi => by
  have e1 : ((gI o 77 - (i : Int)) % 20).toNat = ((gI s 77 - ((i + 1 : Nat) : Int)) % 20).toNat := by omega
  rw [e1]
  refine GR_x (H (i + 1) (by omega)) k (fun j _ => ?_)
  show gA o 75 _ = gA s 75 _
  rw [h75]
set_option maxHeartbeats 1000000 in
theorem w_x12_keeps {s : MS} (hRs : Rr s) : wp (m_x12_keeps s) (fun o => (Rr o) ∧ (gI o 77 = (gI s 77 + 1) % 20) ∧ (gI o 76 ≤ gI s 76 + 1 ∧ gI o 76 ≤ 20) ∧ (∀ j, j < 906 → gA o 75 (906 * (gI o 77).toNat + j) = gA s 49 j) ∧ (∀ j, j < 906 * (gI o 77).toNat ∨ 906 * (gI o 77).toNat + 906 ≤ j → gA o 75 j = gA s 75 j)) := by
  have r77 : (0 : Int) ≤ gI s 77 ∧ gI s 77 ≤ 19 := hRs.1 77
  have km : Int.tmod (gI s 77 + 1) 20 = (gI s 77 + 1) % 20 := Int.tmod_eq_emod_of_nonneg (by omega)
  unfold m_x12_keeps
  refine wp_dv (by have : (0 : Int) ≤ gI s 77 ∧ gI s 77 ≤ 19 := hRs.1 77; omega) ?_
  refine wp_stn (fun s13 es13 => ?_)
  have hRs13 : Rr s13 := es13 ▸ Rr.uI hRs (by show (0 : Int) ≤ (Int.tmod ((gI s 77) + 1) 20) ∧ (Int.tmod ((gI s 77) + 1) 20) ≤ 19; have : (0 : Int) ≤ gI s 77 ∧ gI s 77 ≤ 19 := hRs.1 77; rw [km]; omega)
  have k77 : gI s13 77 = (gI s 77 + 1) % 20 := (q_II es13).trans km
  have L15 : ∀ (n : Nat) (x2 : Int) (s3 : MS), Rr s3 → (0 ≤ x2 ∧ x2 ≤ 906) → (gI s3 77 = (gI s 77 + 1) % 20 ∧ gI s3 76 = gI s 76) → (gA s3 49 = gA s 49) → (∀ j : Nat, (j : Int) < x2 → gA s3 75 (906 * (gI s3 77).toNat + j) = gA s 49 j) → (∀ j, j < 906 * (gI s3 77).toNat ∨ 906 * (gI s3 77).toNat + 906 ≤ j → gA s3 75 j = gA s 75 j) → (906 - x2) < (n : Int) → wp (m_x12_keeps_L15 n x2 s3) (fun o => (Rr o) ∧ (gI o 77 = (gI s 77 + 1) % 20) ∧ (gI o 76 ≤ gI s 76 + 1 ∧ gI o 76 ≤ 20) ∧ (∀ j, j < 906 → gA o 75 (906 * (gI o 77).toNat + j) = gA s 49 j) ∧ (∀ j, j < 906 * (gI o 77).toNat ∨ 906 * (gI o 77).toNat + 906 ≤ j → gA o 75 j = gA s 75 j)) := by
    refine fr_ind (fun x2 s3 hRs3 hv15_0 hv15_1 hv15_2 hv15_3 hv15_4 hm15 => ?_) (fun n15 ih15 x2 s3 hRs3 hv15_0 hv15_1 hv15_2 hv15_3 hv15_4 hm15 => ?_)
    · exfalso; have : (0 : Int) ≤ gI s 76 ∧ gI s 76 ≤ 20 := hRs.1 76; have : (0 : Int) ≤ gI s3 76 ∧ gI s3 76 ≤ 20 := hRs3.1 76; have : (0 : Int) ≤ gI s 77 ∧ gI s 77 ≤ 19 := hRs.1 77; have : (0 : Int) ≤ gI s3 77 ∧ gI s3 77 ≤ 19 := hRs3.1 77; omega
    · show wp (m_x12_keeps_b15 (m_x12_keeps_L15 n15) x2 s3) _
      unfold m_x12_keeps_b15
      refine wp_rg (by have : (0 : Int) ≤ gI s 76 ∧ gI s 76 ≤ 20 := hRs.1 76; have : (0 : Int) ≤ gI s3 76 ∧ gI s3 76 ≤ 20 := hRs3.1 76; have : (0 : Int) ≤ gI s 77 ∧ gI s 77 ≤ 19 := hRs.1 77; have : (0 : Int) ≤ gI s3 77 ∧ gI s3 77 ≤ 19 := hRs3.1 77; omega) ?_
      refine wp_if (fun c1 => ?_) (fun c1 => ?_)
      · skip
        refine wp_rg (by have : (0 : Int) ≤ gI s 76 ∧ gI s 76 ≤ 20 := hRs.1 76; have : (0 : Int) ≤ gI s 77 ∧ gI s 77 ≤ 19 := hRs.1 77; have : (0 : Int) ≤ gI s3 77 ∧ gI s3 77 ≤ 19 := hRs3.1 77; have : (0 : Int) ≤ gI s3 76 ∧ gI s3 76 ≤ 20 := hRs3.1 76; omega) ?_
        refine wp_if (fun c2 => ?_) (fun c2 => ?_)
        · skip
          unfold m_x12_keeps_J68
          exact wp_some ⟨hRs3, by show gI s3 77 = (gI s 77 + 1) % 20; have : (0 : Int) ≤ gI s 76 ∧ gI s 76 ≤ 20 := hRs.1 76; have : (0 : Int) ≤ gI s3 76 ∧ gI s3 76 ≤ 20 := hRs3.1 76; have : (0 : Int) ≤ gI s 77 ∧ gI s 77 ≤ 19 := hRs.1 77; have : (0 : Int) ≤ gI s3 77 ∧ gI s3 77 ≤ 19 := hRs3.1 77; omega, by show gI s3 76 ≤ gI s 76 + 1 ∧ gI s3 76 ≤ 20; have : (0 : Int) ≤ gI s 77 ∧ gI s 77 ≤ 19 := hRs.1 77; have : (0 : Int) ≤ gI s3 77 ∧ gI s3 77 ≤ 19 := hRs3.1 77; have : (0 : Int) ≤ gI s 76 ∧ gI s 76 ≤ 20 := hRs.1 76; have : (0 : Int) ≤ gI s3 76 ∧ gI s3 76 ≤ 20 := hRs3.1 76; omega, fun j hj => by exact hv15_3 j (by omega), fun j hj => by exact hv15_4 j hj⟩
        · skip
          refine wp_stn (fun s8 es8 => ?_)
          have hRs8 : Rr s8 := es8 ▸ Rr.uI hRs3 (by show (0 : Int) ≤ ((gI s3 76) + 1) ∧ ((gI s3 76) + 1) ≤ 20; have : (0 : Int) ≤ gI s 76 ∧ gI s 76 ≤ 20 := hRs.1 76; have : (0 : Int) ≤ gI s 77 ∧ gI s 77 ≤ 19 := hRs.1 77; have : (0 : Int) ≤ gI s3 77 ∧ gI s3 77 ≤ 19 := hRs3.1 77; have : (0 : Int) ≤ gI s3 76 ∧ gI s3 76 ≤ 20 := hRs3.1 76; omega)
          unfold m_x12_keeps_J68
          exact wp_some ⟨hRs8, by show gI s8 77 = (gI s 77 + 1) % 20; have : (0 : Int) ≤ gI s 76 ∧ gI s 76 ≤ 20 := hRs.1 76; have : (0 : Int) ≤ gI s3 76 ∧ gI s3 76 ≤ 20 := hRs3.1 76; have : (0 : Int) ≤ gI s3 77 ∧ gI s3 77 ≤ 19 := hRs3.1 77; have : (0 : Int) ≤ gI s 77 ∧ gI s 77 ≤ 19 := hRs.1 77; have : gI s8 77 = gI s3 77 := q_Ii es8 (by decide); omega, by show gI s8 76 ≤ gI s 76 + 1 ∧ gI s8 76 ≤ 20; have : (0 : Int) ≤ gI s3 76 ∧ gI s3 76 ≤ 20 := hRs3.1 76; have : (0 : Int) ≤ gI s 77 ∧ gI s 77 ≤ 19 := hRs.1 77; have : (0 : Int) ≤ gI s3 77 ∧ gI s3 77 ≤ 19 := hRs3.1 77; have : (0 : Int) ≤ gI s 76 ∧ gI s 76 ≤ 20 := hRs.1 76; have : gI s8 76 = (gI s3 76) + 1 := q_II es8; omega, fun j hj => by rw [((q_Ii es8 (by decide) : gI s8 77 = gI s3 77)), ((q_Ia es8 : gA s8 75 = gA s3 75))]; exact hv15_3 j (by omega), fun j hj => by rw [((q_Ii es8 (by decide) : gI s8 77 = gI s3 77))] at hj; rw [((q_Ia es8 : gA s8 75 = gA s3 75))]; exact hv15_4 j hj⟩
      · skip
        refine wp_rdIn (by have : (0 : Int) ≤ gI s 76 ∧ gI s 76 ≤ 20 := hRs.1 76; have : (0 : Int) ≤ gI s3 76 ∧ gI s3 76 ≤ 20 := hRs3.1 76; have : (0 : Int) ≤ gI s 77 ∧ gI s 77 ≤ 19 := hRs.1 77; have : (0 : Int) ≤ gI s3 77 ∧ gI s3 77 ≤ 19 := hRs3.1 77; omega) (fun y9 ey9 => ?_)
        have by9 : (-2147483648 : Int) ≤ y9 ∧ y9 ≤ 2147483647 := ey9 ▸ hRs3.2.1 49 _ (by show _ < 906; have : (0 : Int) ≤ gI s 76 ∧ gI s 76 ≤ 20 := hRs.1 76; have : (0 : Int) ≤ gI s3 76 ∧ gI s3 76 ≤ 20 := hRs3.1 76; have : (0 : Int) ≤ gI s 77 ∧ gI s 77 ≤ 19 := hRs.1 77; have : (0 : Int) ≤ gI s3 77 ∧ gI s3 77 ≤ 19 := hRs3.1 77; omega)
        have r9 : R2 y9 := ey9 ▸ R49 hRs3 (by omega)
        refine wp_inb (by have : (0 : Int) ≤ gI s 76 ∧ gI s 76 ≤ 20 := hRs.1 76; have : (0 : Int) ≤ gI s3 76 ∧ gI s3 76 ≤ 20 := hRs3.1 76; have : (0 : Int) ≤ gI s 77 ∧ gI s 77 ≤ 19 := hRs.1 77; have : (0 : Int) ≤ gI s3 77 ∧ gI s3 77 ≤ 19 := hRs3.1 77; omega) ?_
        refine wp_stn (fun s11 es11 => ?_)
        have hRs11 : Rr s11 := es11 ▸ Rr.uAu hRs3 (by show (-2147483648 : Int) ≤ y9 ∧ y9 ≤ 2147483647; have : (0 : Int) ≤ gI s 76 ∧ gI s 76 ≤ 20 := hRs.1 76; have : (0 : Int) ≤ gI s3 76 ∧ gI s3 76 ≤ 20 := hRs3.1 76; have : (0 : Int) ≤ gI s 77 ∧ gI s 77 ≤ 19 := hRs.1 77; have : (0 : Int) ≤ gI s3 77 ∧ gI s3 77 ≤ 19 := hRs3.1 77; omega)
        have e77 : gI s11 77 = gI s3 77 := (q_Ai es11 : gI s11 77 = gI s3 77)
        exact ih15 (x2 + 1) s11 hRs11 (by show 0 ≤ (x2 + 1) ∧ (x2 + 1) ≤ 906; have : (0 : Int) ≤ gI s 76 ∧ gI s 76 ≤ 20 := hRs.1 76; have : (0 : Int) ≤ gI s3 76 ∧ gI s3 76 ≤ 20 := hRs3.1 76; have : (0 : Int) ≤ gI s 77 ∧ gI s 77 ≤ 19 := hRs.1 77; have : (0 : Int) ≤ gI s3 77 ∧ gI s3 77 ≤ 19 := hRs3.1 77; omega) (by show gI s11 77 = (gI s 77 + 1) % 20 ∧ gI s11 76 = gI s 76; have : (0 : Int) ≤ gI s3 76 ∧ gI s3 76 ≤ 20 := hRs3.1 76; have : (0 : Int) ≤ gI s3 77 ∧ gI s3 77 ≤ 19 := hRs3.1 77; have : (0 : Int) ≤ gI s 76 ∧ gI s 76 ≤ 20 := hRs.1 76; have : gI s11 76 = gI s3 76 := q_Ai es11; have : (0 : Int) ≤ gI s 77 ∧ gI s 77 ≤ 19 := hRs.1 77; have : gI s11 77 = gI s3 77 := q_Ai es11; omega) (((q_Aa es11 (by decide) : gA s11 49 = gA s3 49)).trans hv15_2) (fun j hj => by
          rw [e77, (q_AA es11 : gA s11 75 = _)]
          by_cases z : j = x2.toNat
          · rw [show (906 * gI s3 77 + x2).toNat = 906 * (gI s3 77).toNat + j by omega, upZ_s, ← ey9, hv15_2, show x2.toNat = j by omega]
          · rw [upZ_n (by omega)]; exact hv15_3 j (by omega)) (fun j hj => by rw [e77] at hj; rw [(q_AA es11 : gA s11 75 = _), upZ_n (by omega)]; exact hv15_4 j hj) (by have : (0 : Int) ≤ gI s 76 ∧ gI s 76 ≤ 20 := hRs.1 76; have : (0 : Int) ≤ gI s3 76 ∧ gI s3 76 ≤ 20 := hRs3.1 76; have : (0 : Int) ≤ gI s 77 ∧ gI s 77 ≤ 19 := hRs.1 77; have : (0 : Int) ≤ gI s3 77 ∧ gI s3 77 ≤ 19 := hRs3.1 77; omega)
  exact L15 FU 0 s13 hRs13 (by show 0 ≤ (0 : Int) ∧ (0 : Int) ≤ 906; omega) (⟨k77, (q_Ii es13 (by decide) : gI s13 76 = gI s 76)⟩) (((q_Ia es13 : gA s13 49 = gA s 49))) (fun j hj => by omega) (fun j _ => by rw [(q_Ia es13 : gA s13 75 = gA s 75)]) (by have := FU_big; have := FU_big2; omega)
set_option maxHeartbeats 1000000 in
theorem w_x12_undo {s : MS} (hRs : Rr s) : wp (m_x12_undo s) (fun q => (Rr q.2) ∧ ((q.1 = 0 ∧ gA q.2 49 = gA s 49 ∧ gI q.2 76 = gI s 76 ∧ gI q.2 77 = gI s 77) ∨ (q.1 = 1 ∧ 1 ≤ gI s 76 ∧ (∀ j, j < 906 → gA q.2 49 j = gA s 75 (906 * (gI s 77).toNat + j)) ∧ gI q.2 76 = gI s 76 - 1 ∧ gI q.2 77 = (gI s 77 + 19) % 20))) := by
  have r77 : (0 : Int) ≤ gI s 77 ∧ gI s 77 ≤ 19 := hRs.1 77
  unfold m_x12_undo
  refine wp_rg (by have : (0 : Int) ≤ gI s 76 ∧ gI s 76 ≤ 20 := hRs.1 76; omega) ?_
  refine wp_if (fun c1 => ?_) (fun c1 => ?_)
  · skip
    refine wp_rdIn (by have : (0 : Int) ≤ gI s 76 ∧ gI s 76 ≤ 20 := hRs.1 76; omega) (fun y13 ey13 => ?_)
    refine wp_inb (by have : (0 : Int) ≤ gI s 76 ∧ gI s 76 ≤ 20 := hRs.1 76; omega) ?_
    refine wp_stn (fun s15 es15 => ?_)
    have hRs15 : Rr s15 := es15 ▸ Rr.uA hRs (fun j hj => absurd hj (Nat.not_lt_zero j))
    exact wp_some ⟨hRs15, by show ((0 : Int) = 0 ∧ gA s15 49 = gA s 49 ∧ gI s15 76 = gI s 76 ∧ gI s15 77 = gI s 77) ∨ ((0 : Int) = 1 ∧ 1 ≤ gI s 76 ∧ (∀ j, j < 906 → gA s15 49 j = gA s 75 (906 * (gI s 77).toNat + j)) ∧ gI s15 76 = gI s 76 - 1 ∧ gI s15 77 = (gI s 77 + 19) % 20); exact (Or.inl ⟨rfl, (q_Aa es15 (by decide) : gA s15 49 = gA s 49), (q_Ai es15 : gI s15 76 = gI s 76), (q_Ai es15 : gI s15 77 = gI s 77)⟩)⟩
  · skip
    have L21 : ∀ (n : Nat) (x1 : Int) (s2 : MS), Rr s2 → (0 ≤ x1 ∧ x1 ≤ 906) → (gI s2 77 = gI s 77 ∧ gI s2 76 = gI s 76 ∧ 1 ≤ gI s 76) → (gA s2 75 = gA s 75) → (∀ j : Nat, (j : Int) < x1 → gA s2 49 j = gA s 75 (906 * (gI s 77).toNat + j)) → (906 - x1) < (n : Int) → wp (m_x12_undo_L21 n x1 s2) (fun q => (Rr q.2) ∧ ((q.1 = 0 ∧ gA q.2 49 = gA s 49 ∧ gI q.2 76 = gI s 76 ∧ gI q.2 77 = gI s 77) ∨ (q.1 = 1 ∧ 1 ≤ gI s 76 ∧ (∀ j, j < 906 → gA q.2 49 j = gA s 75 (906 * (gI s 77).toNat + j)) ∧ gI q.2 76 = gI s 76 - 1 ∧ gI q.2 77 = (gI s 77 + 19) % 20))) := by
      refine fr_ind (fun x1 s2 hRs2 hv21_0 hv21_1 hv21_2 hv21_3 hm21 => ?_) (fun n21 ih21 x1 s2 hRs2 hv21_0 hv21_1 hv21_2 hv21_3 hm21 => ?_)
      · exfalso; have : (0 : Int) ≤ gI s 76 ∧ gI s 76 ≤ 20 := hRs.1 76; have : (0 : Int) ≤ gI s2 76 ∧ gI s2 76 ≤ 20 := hRs2.1 76; have : (0 : Int) ≤ gI s 77 ∧ gI s 77 ≤ 19 := hRs.1 77; have : (0 : Int) ≤ gI s2 77 ∧ gI s2 77 ≤ 19 := hRs2.1 77; omega
      · show wp (m_x12_undo_b21 (m_x12_undo_L21 n21) x1 s2) _
        unfold m_x12_undo_b21
        refine wp_rg (by have : (0 : Int) ≤ gI s2 76 ∧ gI s2 76 ≤ 20 := hRs2.1 76; have : (0 : Int) ≤ gI s 77 ∧ gI s 77 ≤ 19 := hRs.1 77; have : (0 : Int) ≤ gI s2 77 ∧ gI s2 77 ≤ 19 := hRs2.1 77; have : (0 : Int) ≤ gI s 76 ∧ gI s 76 ≤ 20 := hRs.1 76; omega) ?_
        refine wp_if (fun c2 => ?_) (fun c2 => ?_)
        · skip
          refine wp_dv (by have : (0 : Int) ≤ gI s2 76 ∧ gI s2 76 ≤ 20 := hRs2.1 76; have : (0 : Int) ≤ gI s 77 ∧ gI s 77 ≤ 19 := hRs.1 77; have : (0 : Int) ≤ gI s 76 ∧ gI s 76 ≤ 20 := hRs.1 76; have : (0 : Int) ≤ gI s2 77 ∧ gI s2 77 ≤ 19 := hRs2.1 77; omega) ?_
          refine wp_stn (fun s6 es6 => ?_)
          have hRs6 : Rr s6 := es6 ▸ Rr.uI hRs2 (by show (0 : Int) ≤ (Int.tmod (((gI s2 77) + 20) - 1) 20) ∧ (Int.tmod (((gI s2 77) + 20) - 1) 20) ≤ 19; have : (0 : Int) ≤ gI s2 76 ∧ gI s2 76 ≤ 20 := hRs2.1 76; have : (0 : Int) ≤ gI s 77 ∧ gI s 77 ≤ 19 := hRs.1 77; have : (0 : Int) ≤ gI s 76 ∧ gI s 76 ≤ 20 := hRs.1 76; have : (0 : Int) ≤ gI s2 77 ∧ gI s2 77 ≤ 19 := hRs2.1 77; have km : Int.tmod (gI s2 77 + 20 - 1) 20 = (gI s2 77 + 20 - 1) % 20 := Int.tmod_eq_emod_of_nonneg (by omega); rw [km]; omega)
          have km : Int.tmod (gI s2 77 + 20 - 1) 20 = (gI s2 77 + 20 - 1) % 20 := Int.tmod_eq_emod_of_nonneg (by omega)
          have k6 : gI s6 77 = (gI s 77 + 19) % 20 := by rw [(q_II es6 : gI s6 77 = _), km]; omega
          refine wp_stn (fun s7 es7 => ?_)
          have hRs7 : Rr s7 := es7 ▸ Rr.uI hRs6 (by show (0 : Int) ≤ ((gI s6 76) - 1) ∧ ((gI s6 76) - 1) ≤ 20; have : (0 : Int) ≤ gI s2 76 ∧ gI s2 76 ≤ 20 := hRs2.1 76; have : (0 : Int) ≤ gI s 77 ∧ gI s 77 ≤ 19 := hRs.1 77; have : (0 : Int) ≤ gI s2 77 ∧ gI s2 77 ≤ 19 := hRs2.1 77; have : (0 : Int) ≤ gI s 76 ∧ gI s 76 ≤ 20 := hRs.1 76; have : gI s6 76 = gI s2 76 := q_Ii es6 (by decide); omega)
          exact wp_some ⟨hRs7, by show ((1 : Int) = 0 ∧ gA s7 49 = gA s 49 ∧ gI s7 76 = gI s 76 ∧ gI s7 77 = gI s 77) ∨ ((1 : Int) = 1 ∧ 1 ≤ gI s 76 ∧ (∀ j, j < 906 → gA s7 49 j = gA s 75 (906 * (gI s 77).toNat + j)) ∧ gI s7 76 = gI s 76 - 1 ∧ gI s7 77 = (gI s 77 + 19) % 20); exact (Or.inr ⟨rfl, by omega, fun j hj => by rw [((q_Ia es7 : gA s7 49 = gA s6 49).trans (q_Ia es6 : gA s6 49 = gA s2 49))]; exact hv21_3 j (by omega), by rw [(q_II es7 : gI s7 76 = _), ((q_Ii es6 (by decide) : gI s6 76 = gI s2 76))]; omega, by rw [((q_Ii es7 (by decide) : gI s7 77 = gI s6 77))]; exact k6⟩)⟩
        · skip
          refine wp_rdIn (by have : (0 : Int) ≤ gI s2 76 ∧ gI s2 76 ≤ 20 := hRs2.1 76; have : (0 : Int) ≤ gI s 77 ∧ gI s 77 ≤ 19 := hRs.1 77; have : (0 : Int) ≤ gI s 76 ∧ gI s 76 ≤ 20 := hRs.1 76; have : (0 : Int) ≤ gI s2 77 ∧ gI s2 77 ≤ 19 := hRs2.1 77; omega) (fun y8 ey8 => ?_)
          have by8 : (-2147483648 : Int) ≤ y8 ∧ y8 ≤ 2147483647 := ey8 ▸ hRs2.2.1 75 _ (by show _ < 18120; have : (0 : Int) ≤ gI s2 76 ∧ gI s2 76 ≤ 20 := hRs2.1 76; have : (0 : Int) ≤ gI s 77 ∧ gI s 77 ≤ 19 := hRs.1 77; have : (0 : Int) ≤ gI s 76 ∧ gI s 76 ≤ 20 := hRs.1 76; have : (0 : Int) ≤ gI s2 77 ∧ gI s2 77 ≤ 19 := hRs2.1 77; omega)
          have r8 : R2 y8 := ey8 ▸ hRs2.2.1 75 _ (by show _ < 18120; omega)
          refine wp_inb (by have : (0 : Int) ≤ gI s2 76 ∧ gI s2 76 ≤ 20 := hRs2.1 76; have : (0 : Int) ≤ gI s 77 ∧ gI s 77 ≤ 19 := hRs.1 77; have : (0 : Int) ≤ gI s2 77 ∧ gI s2 77 ≤ 19 := hRs2.1 77; have : (0 : Int) ≤ gI s 76 ∧ gI s 76 ≤ 20 := hRs.1 76; omega) ?_
          refine wp_stn (fun s10 es10 => ?_)
          have hRs10 : Rr s10 := es10 ▸ Rr.uAu hRs2 (by show (-2147483648 : Int) ≤ y8 ∧ y8 ≤ 2147483647; have : (0 : Int) ≤ gI s2 76 ∧ gI s2 76 ≤ 20 := hRs2.1 76; have : (0 : Int) ≤ gI s 77 ∧ gI s 77 ≤ 19 := hRs.1 77; have : (0 : Int) ≤ gI s2 77 ∧ gI s2 77 ≤ 19 := hRs2.1 77; have : (0 : Int) ≤ gI s 76 ∧ gI s 76 ≤ 20 := hRs.1 76; omega)
          exact ih21 (x1 + 1) s10 hRs10 (by show 0 ≤ (x1 + 1) ∧ (x1 + 1) ≤ 906; have : (0 : Int) ≤ gI s2 76 ∧ gI s2 76 ≤ 20 := hRs2.1 76; have : (0 : Int) ≤ gI s 77 ∧ gI s 77 ≤ 19 := hRs.1 77; have : (0 : Int) ≤ gI s2 77 ∧ gI s2 77 ≤ 19 := hRs2.1 77; have : (0 : Int) ≤ gI s 76 ∧ gI s 76 ≤ 20 := hRs.1 76; omega) (by show gI s10 77 = gI s 77 ∧ gI s10 76 = gI s 76 ∧ 1 ≤ gI s 76; have : (0 : Int) ≤ gI s2 76 ∧ gI s2 76 ≤ 20 := hRs2.1 76; have : (0 : Int) ≤ gI s2 77 ∧ gI s2 77 ≤ 19 := hRs2.1 77; have : (0 : Int) ≤ gI s 76 ∧ gI s 76 ≤ 20 := hRs.1 76; have : gI s10 76 = gI s2 76 := q_Ai es10; have : (0 : Int) ≤ gI s 77 ∧ gI s 77 ≤ 19 := hRs.1 77; have : gI s10 77 = gI s2 77 := q_Ai es10; omega) (((q_Aa es10 (by decide) : gA s10 75 = gA s2 75)).trans hv21_2) (fun j hj => by
          rw [(q_AA es10 : gA s10 49 = _)]
          by_cases z : j = x1.toNat
          · rw [z, upZ_s, ← ey8, hv21_2, show (906 * gI s2 77 + x1).toNat = 906 * (gI s 77).toNat + x1.toNat by omega]
          · rw [upZ_n z]; exact hv21_3 j (by omega)) (by have : (0 : Int) ≤ gI s2 76 ∧ gI s2 76 ≤ 20 := hRs2.1 76; have : (0 : Int) ≤ gI s 77 ∧ gI s 77 ≤ 19 := hRs.1 77; have : (0 : Int) ≤ gI s2 77 ∧ gI s2 77 ≤ 19 := hRs2.1 77; have : (0 : Int) ≤ gI s 76 ∧ gI s 76 ≤ 20 := hRs.1 76; omega)
    exact L21 FU 0 s hRs (by show 0 ≤ (0 : Int) ∧ (0 : Int) ≤ 906; have : (0 : Int) ≤ gI s 76 ∧ gI s 76 ≤ 20 := hRs.1 76; omega) (by show gI s 77 = gI s 77 ∧ gI s 76 = gI s 76 ∧ 1 ≤ gI s 76; have : (0 : Int) ≤ gI s 76 ∧ gI s 76 ≤ 20 := hRs.1 76; have : (0 : Int) ≤ gI s 77 ∧ gI s 77 ≤ 19 := hRs.1 77; omega) (rfl) (fun j hj => by omega) (by have := FU_big; have := FU_big2; have : (0 : Int) ≤ gI s 76 ∧ gI s 76 ≤ 20 := hRs.1 76; omega)
