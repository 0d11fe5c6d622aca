/-! ===== a block is taken ===== -/
def TkE (s o : MS) (b : Nat) (l : Int) : Prop := (∀ i, ¬ (17 + 16 * b ≤ i ∧ i < 33 + 16 * b) → gA o 49 i = gA s 49 i) ∧ (cM o b = 1 ∧ vM o b = 0) ∧ (hM o).1 b = l ∧ (hM o).2.1 b = 0
theorem TkE_c {s o : MS} {b : Nat} {l : Int} (H : TkE s o b l) : cM o = upZ (cM s) b 1 := by
  funext p
  by_cases z : p = b
  · rw [z, upZ_s]; exact H.2.1.1
  · rw [upZ_n z]; exact H.1 _ (by omega)
theorem TkE_v {s o : MS} {b : Nat} {l : Int} (H : TkE s o b l) (h : vM s b = 0) : vM o = vM s := by
  funext p
  by_cases z : p = b
  · rw [z, h]; exact H.2.1.2
  · exact H.1 _ (by omega)
theorem TkE_s {s o : MS} {b : Nat} {l : Int} (H : TkE s o b l) : SBk (hM s) (hM o) (kM s) (kM o) b := fun q _ hn => ⟨H.1 (19 + 16 * q) (by omega), H.1 (20 + 16 * q) (by omega), fun k hk => ⟨by
  show (if k < 6 then gA o 49 (27 + 16 * q + k) else 0) = if k < 6 then gA s 49 (27 + 16 * q + k) else 0
  rw [if_pos hk, if_pos hk]; exact H.1 _ (by omega), by
  show (if k < 6 then gA o 49 (21 + 16 * q + k) else 0) = if k < 6 then gA s 49 (21 + 16 * q + k) else 0
  rw [if_pos hk, if_pos hk]; exact H.1 _ (by omega)⟩⟩
theorem TkE_u {s o : MS} {b u : Nat} {l : Int} (H : TkE s o b l) (hu : u < 17) : gA o 49 u = gA s 49 u := H.1 u (by omega)
theorem TkE_r {s o : MS} {b : Nat} {l : Int} (H : TkE s o b l) : rM o = rM s := by
  funext p
  show (if p < 8 then gA o 49 p else 0) = if p < 8 then gA s 49 p else 0
  by_cases q : p < 8
  · rw [if_pos q, if_pos q]; exact TkE_u H (by omega)
  · rw [if_neg q, if_neg q]
theorem TkE_rs {s o : MS} {b : Nat} {l : Int} (H : TkE s o b l) : rsM o = rsM s := by
  funext p
  show (if p < 8 then gA o 49 (8 + p) else 0) = if p < 8 then gA s 49 (8 + p) else 0
  by_cases q : p < 8
  · rw [if_pos q, if_pos q]; exact TkE_u H (by omega)
  · rw [if_neg q, if_neg q]
set_option maxHeartbeats 4000000 in
theorem w_x12_taken {p0 : Int} {p1 : Int} {s : MS} (hRs : Rr s) (hp0 : 0 ≤ gA s 39 5 ∧ gA s 39 5 ≤ 48) (hp1 : CE s 0) (hp2 : 0 ≤ p0 ∧ p0 ≤ 1000) (hp3 : 0 ≤ p1 ∧ p1 ≤ 48) : wp (m_x12_taken p0 p1 s) (fun q => (Rr q.2) ∧ (∀ i, 785 ≤ i → gA q.2 49 i = gA s 49 i) ∧ (gI q.2 55 = 1 ∨ (gI q.2 55 = gI s 55 ∧ (0 ≤ q.1 ∧ q.1 < gA s 39 5) ∧ (cM s q.1.toNat ≤ 0 ∧ vM s q.1.toNat ≤ 0) ∧ TkE s q.2 q.1.toNat p0))) := by
  have J102 : ∀ (x17 : Int) (x18 : Int) (s19 : MS), Rr s19 → (x17 = p0) → (x18 = -1 ∨ ((0 ≤ x18 ∧ x18 < gA s 39 5) ∧ cM s x18.toNat ≤ 0 ∧ vM s x18.toNat ≤ 0)) → (gA s19 49 = gA s 49 ∧ gA s19 39 = gA s 39 ∧ gA s19 42 = gA s 42 ∧ gA s19 43 = gA s 43 ∧ gA s19 44 = gA s 44) → (gI s19 55 = gI s 55) → wp (m_x12_taken_J102 x17 x18 s19) (fun q => (Rr q.2) ∧ (∀ i, 785 ≤ i → gA q.2 49 i = gA s 49 i) ∧ (gI q.2 55 = 1 ∨ (gI q.2 55 = gI s 55 ∧ (0 ≤ q.1 ∧ q.1 < gA s 39 5) ∧ (cM s q.1.toNat ≤ 0 ∧ vM s q.1.toNat ≤ 0) ∧ TkE s q.2 q.1.toNat p0))) := by
    intro x17 x18 s19 hRs19 hj102_0 hj102_1 hj102_2 hj102_3
    unfold m_x12_taken_J102
    refine wp_rg (by have : (0 : Int) ≤ gI s 55 ∧ gI s 55 ≤ 1 := hRs.1 55; have : (0 : Int) ≤ gI s19 55 ∧ gI s19 55 ≤ 1 := hRs19.1 55; omega) ?_
    refine wp_if (fun c1 => ?_) (fun c1 => ?_)
    · skip
      refine wp_stn (fun s22 es22 => ?_)
      have hRs22 : Rr s22 := es22 ▸ Rr.uI hRs19 (by show (0 : Int) ≤ (1 : Int) ∧ (1 : Int) ≤ 1; have : (0 : Int) ≤ gI s 55 ∧ gI s 55 ≤ 1 := hRs.1 55; have : (0 : Int) ≤ gI s19 55 ∧ gI s19 55 ≤ 1 := hRs19.1 55; omega)
      exact wp_some ⟨hRs22, by show ∀ i, 785 ≤ i → gA s22 49 i = gA s 49 i; exact (fun i hi => by rw [((q_Ia es22 : gA s22 49 = gA s19 49)), hj102_2.1]), by show gI s22 55 = 1 ∨ (gI s22 55 = gI s 55 ∧ (0 ≤ (0 : Int) ∧ (0 : Int) < gA s 39 5) ∧ (cM s (0 : Int).toNat ≤ 0 ∧ vM s (0 : Int).toNat ≤ 0) ∧ TkE s s22 (0 : Int).toNat p0); exact (Or.inl (q_II es22))⟩
    · skip
      have L126 : ∀ (n : Nat) (x1 : Int) (x2 : Int) (x3 : Int) (x4 : Int) (s5 : MS), Rr s5 → (x1 = p0 ∧ x3 = 17 + 16 * x2 ∧ (0 ≤ x2 ∧ x2 < gA s 39 5) ∧ (0 ≤ x4 ∧ x4 ≤ 16)) → (∀ i, ¬ (17 + 16 * x2.toNat ≤ i ∧ i < 33 + 16 * x2.toNat) → gA s5 49 i = gA s 49 i) → (∀ j : Nat, (j : Int) < x4 → gA s5 49 (17 + 16 * x2.toNat + j) = 0) → (gI s5 55 = gI s 55) → (cM s x2.toNat ≤ 0 ∧ vM s x2.toNat ≤ 0) → (16 - x4) < (n : Int) → wp (m_x12_taken_L126 n x1 x2 x3 x4 s5) (fun q => (Rr q.2) ∧ (∀ i, 785 ≤ i → gA q.2 49 i = gA s 49 i) ∧ (gI q.2 55 = 1 ∨ (gI q.2 55 = gI s 55 ∧ (0 ≤ q.1 ∧ q.1 < gA s 39 5) ∧ (cM s q.1.toNat ≤ 0 ∧ vM s q.1.toNat ≤ 0) ∧ TkE s q.2 q.1.toNat p0))) := by
        refine fr_ind (fun x1 x2 x3 x4 s5 hRs5 hv126_0 hv126_1 hv126_2 hv126_3 hv126_4 hm126 => ?_) (fun n126 ih126 x1 x2 x3 x4 s5 hRs5 hv126_0 hv126_1 hv126_2 hv126_3 hv126_4 hm126 => ?_)
        · exfalso; have : (0 : Int) ≤ gI s 55 ∧ gI s 55 ≤ 1 := hRs.1 55; have : (0 : Int) ≤ gI s5 55 ∧ gI s5 55 ≤ 1 := hRs5.1 55; omega
        · show wp (m_x12_taken_b126 (m_x12_taken_L126 n126) x1 x2 x3 x4 s5) _
          unfold m_x12_taken_b126
          refine wp_rg (by have : (0 : Int) ≤ gI s5 55 ∧ gI s5 55 ≤ 1 := hRs5.1 55; have : (0 : Int) ≤ gI s 55 ∧ gI s 55 ≤ 1 := hRs.1 55; have : (0 : Int) ≤ gI s19 55 ∧ gI s19 55 ≤ 1 := hRs19.1 55; omega) ?_
          refine wp_if (fun c2 => ?_) (fun c2 => ?_)
          · skip
            refine wp_inb (by have : (0 : Int) ≤ gI s5 55 ∧ gI s5 55 ≤ 1 := hRs5.1 55; have : (0 : Int) ≤ gI s 55 ∧ gI s 55 ≤ 1 := hRs.1 55; have : (0 : Int) ≤ gI s19 55 ∧ gI s19 55 ≤ 1 := hRs19.1 55; omega) ?_
            refine wp_stn (fun s9 es9 => ?_)
            have hRs9 : Rr s9 := es9 ▸ Rr.uAu hRs5 (by show (-2147483648 : Int) ≤ (1 : Int) ∧ (1 : Int) ≤ 2147483647; have : (0 : Int) ≤ gI s5 55 ∧ gI s5 55 ≤ 1 := hRs5.1 55; have : (0 : Int) ≤ gI s 55 ∧ gI s 55 ≤ 1 := hRs.1 55; have : (0 : Int) ≤ gI s19 55 ∧ gI s19 55 ≤ 1 := hRs19.1 55; omega)
            refine wp_inb (by have : (0 : Int) ≤ gI s5 55 ∧ gI s5 55 ≤ 1 := hRs5.1 55; have : (0 : Int) ≤ gI s 55 ∧ gI s 55 ≤ 1 := hRs.1 55; have : (0 : Int) ≤ gI s19 55 ∧ gI s19 55 ≤ 1 := hRs19.1 55; omega) ?_
            refine wp_stn (fun s11 es11 => ?_)
            have hRs11 : Rr s11 := es11 ▸ Rr.uAu hRs9 (by show (-2147483648 : Int) ≤ x1 ∧ x1 ≤ 2147483647; have : (0 : Int) ≤ gI s5 55 ∧ gI s5 55 ≤ 1 := hRs5.1 55; have : (0 : Int) ≤ gI s 55 ∧ gI s 55 ≤ 1 := hRs.1 55; have : (0 : Int) ≤ gI s19 55 ∧ gI s19 55 ≤ 1 := hRs19.1 55; omega)
            refine wp_inb (by have : (0 : Int) ≤ gI s5 55 ∧ gI s5 55 ≤ 1 := hRs5.1 55; have : (0 : Int) ≤ gI s 55 ∧ gI s 55 ≤ 1 := hRs.1 55; have : (0 : Int) ≤ gI s19 55 ∧ gI s19 55 ≤ 1 := hRs19.1 55; omega) ?_
            refine wp_bo (by have : (0 : Int) ≤ gI s5 55 ∧ gI s5 55 ≤ 1 := hRs5.1 55; have : (0 : Int) ≤ gI s 55 ∧ gI s 55 ≤ 1 := hRs.1 55; have : (0 : Int) ≤ gI s19 55 ∧ gI s19 55 ≤ 1 := hRs19.1 55; omega) ?_
            refine wp_stn (fun s14 es14 => ?_)
            have hRs14 : Rr s14 := es14 ▸ Rr.uAu hRs11 (by show (0 : Int) ≤ (1 : Int) ∧ (1 : Int) ≤ 1; have : (0 : Int) ≤ gI s5 55 ∧ gI s5 55 ≤ 1 := hRs5.1 55; have : (0 : Int) ≤ gI s 55 ∧ gI s 55 ≤ 1 := hRs.1 55; have : (0 : Int) ≤ gI s19 55 ∧ gI s19 55 ≤ 1 := hRs19.1 55; omega)
            exact wp_some ⟨hRs14, by show ∀ i, 785 ≤ i → gA s14 49 i = gA s 49 i; exact (fun i hi => by rw [((q_Aa es14 (by decide) : gA s14 49 = gA s11 49)), (q_AA es11 : gA s11 49 = _), (q_AA es9 : gA s9 49 = _), upZ_n (by omega), upZ_n (by omega)]; exact hv126_1 i (by omega)), by
          show gI s14 55 = 1 ∨ (gI s14 55 = gI s 55 ∧ (0 ≤ x2 ∧ x2 < gA s 39 5) ∧ (cM s x2.toNat ≤ 0 ∧ vM s x2.toNat ≤ 0) ∧ TkE s s14 x2.toNat p0)
          refine Or.inr ⟨by have : (0 : Int) ≤ gI s5 55 ∧ gI s5 55 ≤ 1 := hRs5.1 55; have : (0 : Int) ≤ gI s 55 ∧ gI s 55 ≤ 1 := hRs.1 55; have : (0 : Int) ≤ gI s19 55 ∧ gI s19 55 ≤ 1 := hRs19.1 55; have : gI s14 55 = gI s11 55 := q_Ai es14; have : gI s11 55 = gI s9 55 := q_Ai es11; have : gI s9 55 = gI s5 55 := q_Ai es9; omega, by omega, by omega, ?_⟩
          have w : gA s14 49 = upZ (upZ (gA s5 49) (17 + 16 * x2.toNat) 1) (19 + 16 * x2.toNat) p0 := by rw [((q_Aa es14 (by decide) : gA s14 49 = gA s11 49)), (q_AA es11 : gA s11 49 = _), (q_AA es9 : gA s9 49 = _), show x3.toNat = 17 + 16 * x2.toNat by omega, show (x3 + 2).toNat = 19 + 16 * x2.toNat by omega, hv126_0.1]
          refine ⟨fun i hi => ?_, ⟨?_, ?_⟩, ?_, ?_⟩
          · rw [w, upZ_n (by omega), upZ_n (by omega)]; exact hv126_1 i hi
          · show gA s14 49 (17 + 16 * x2.toNat) = 1
            rw [w, upZ_n (by omega), upZ_s]
          · show gA s14 49 (18 + 16 * x2.toNat) = 0
            rw [w, upZ_n (by omega), upZ_n (by omega)]
            have z := hv126_2 1 (by omega)
            rw [← z]; congr 1; omega
          · show gA s14 49 (19 + 16 * x2.toNat) = p0
            rw [w, upZ_s]
          · show gA s14 49 (20 + 16 * x2.toNat) = 0
            rw [w, upZ_n (by omega), upZ_n (by omega)]
            have z := hv126_2 3 (by omega)
            rw [← z]; congr 1; omega⟩
          · skip
            refine wp_inb (by have : (0 : Int) ≤ gI s5 55 ∧ gI s5 55 ≤ 1 := hRs5.1 55; have : (0 : Int) ≤ gI s 55 ∧ gI s 55 ≤ 1 := hRs.1 55; have : (0 : Int) ≤ gI s19 55 ∧ gI s19 55 ≤ 1 := hRs19.1 55; omega) ?_
            refine wp_stn (fun s16 es16 => ?_)
            have hRs16 : Rr s16 := es16 ▸ Rr.uAu hRs5 (by show (-2147483648 : Int) ≤ (0 : Int) ∧ (0 : Int) ≤ 2147483647; have : (0 : Int) ≤ gI s5 55 ∧ gI s5 55 ≤ 1 := hRs5.1 55; have : (0 : Int) ≤ gI s 55 ∧ gI s 55 ≤ 1 := hRs.1 55; have : (0 : Int) ≤ gI s19 55 ∧ gI s19 55 ≤ 1 := hRs19.1 55; omega)
            exact ih126 x1 x2 x3 (x4 + 1) s16 hRs16 (by show x1 = p0 ∧ x3 = 17 + 16 * x2 ∧ (0 ≤ x2 ∧ x2 < gA s 39 5) ∧ (0 ≤ (x4 + 1) ∧ (x4 + 1) ≤ 16); have : (0 : Int) ≤ gI s5 55 ∧ gI s5 55 ≤ 1 := hRs5.1 55; have : (0 : Int) ≤ gI s 55 ∧ gI s 55 ≤ 1 := hRs.1 55; have : (0 : Int) ≤ gI s19 55 ∧ gI s19 55 ≤ 1 := hRs19.1 55; omega) (fun i hi => by rw [(q_AA es16 : gA s16 49 = _), upZ_n (by omega)]; exact hv126_1 i hi) (fun j hj => by
          rw [(q_AA es16 : gA s16 49 = _)]
          by_cases z : j = x4.toNat
          · rw [show (x3 + x4).toNat = 17 + 16 * x2.toNat + j by omega, upZ_s]
          · rw [upZ_n (by omega)]; exact hv126_2 j (by omega)) (by show gI s16 55 = gI s 55; have : (0 : Int) ≤ gI s5 55 ∧ gI s5 55 ≤ 1 := hRs5.1 55; have : (0 : Int) ≤ gI s19 55 ∧ gI s19 55 ≤ 1 := hRs19.1 55; have : (0 : Int) ≤ gI s 55 ∧ gI s 55 ≤ 1 := hRs.1 55; have : gI s16 55 = gI s5 55 := q_Ai es16; omega) (by show cM s x2.toNat ≤ 0 ∧ vM s x2.toNat ≤ 0; have : (0 : Int) ≤ gI s5 55 ∧ gI s5 55 ≤ 1 := hRs5.1 55; have : (0 : Int) ≤ gI s 55 ∧ gI s 55 ≤ 1 := hRs.1 55; have : (0 : Int) ≤ gI s19 55 ∧ gI s19 55 ≤ 1 := hRs19.1 55; omega) (by have : (0 : Int) ≤ gI s5 55 ∧ gI s5 55 ≤ 1 := hRs5.1 55; have : (0 : Int) ≤ gI s 55 ∧ gI s 55 ≤ 1 := hRs.1 55; have : (0 : Int) ≤ gI s19 55 ∧ gI s19 55 ≤ 1 := hRs19.1 55; omega)
      exact L126 FU x17 x18 (17 + (16 * x18)) 0 s19 hRs19 (by show x17 = p0 ∧ (17 + (16 * x18)) = 17 + 16 * x18 ∧ (0 ≤ x18 ∧ x18 < gA s 39 5) ∧ (0 ≤ (0 : Int) ∧ (0 : Int) ≤ 16); have : (0 : Int) ≤ gI s 55 ∧ gI s 55 ≤ 1 := hRs.1 55; have : (0 : Int) ≤ gI s19 55 ∧ gI s19 55 ≤ 1 := hRs19.1 55; omega) (fun i hi => by rw [hj102_2.1]) (fun j hj => by omega) (by show gI s19 55 = gI s 55; have : (0 : Int) ≤ gI s 55 ∧ gI s 55 ≤ 1 := hRs.1 55; have : (0 : Int) ≤ gI s19 55 ∧ gI s19 55 ≤ 1 := hRs19.1 55; omega) (by show cM s x18.toNat ≤ 0 ∧ vM s x18.toNat ≤ 0; have : (0 : Int) ≤ gI s 55 ∧ gI s 55 ≤ 1 := hRs.1 55; have : (0 : Int) ≤ gI s19 55 ∧ gI s19 55 ≤ 1 := hRs19.1 55; omega) (by have := FU_big; have := FU_big2; have : (0 : Int) ≤ gI s 55 ∧ gI s 55 ≤ 1 := hRs.1 55; have : (0 : Int) ≤ gI s19 55 ∧ gI s19 55 ≤ 1 := hRs19.1 55; omega)
  unfold m_x12_taken
  have L8 : ∀ (n : Nat) (x23 : Int) (x24 : Int) (x25 : Int) (z26 : Int) (x27 : Int) (s28 : MS), Rr s28 → (x23 = p0 ∧ x24 = p1) → (x25 = -1 ∨ ((0 ≤ x25 ∧ x25 < gA s 39 5) ∧ cM s x25.toNat ≤ 0 ∧ vM s x25.toNat ≤ 0)) → (R8 z26) → (0 ≤ x27 ∧ x27 ≤ 48) → (gA s28 49 = gA s 49 ∧ gA s28 39 = gA s 39 ∧ gA s28 42 = gA s 42 ∧ gA s28 43 = gA s 43 ∧ gA s28 44 = gA s 44) → (gI s28 55 = gI s 55) → (48 - x27) < (n : Int) → wp (m_x12_taken_L8 n x23 x24 x25 z26 x27 s28) (fun q => (Rr q.2) ∧ (∀ i, 785 ≤ i → gA q.2 49 i = gA s 49 i) ∧ (gI q.2 55 = 1 ∨ (gI q.2 55 = gI s 55 ∧ (0 ≤ q.1 ∧ q.1 < gA s 39 5) ∧ (cM s q.1.toNat ≤ 0 ∧ vM s q.1.toNat ≤ 0) ∧ TkE s q.2 q.1.toNat p0))) := by
    refine fr_ind (fun x23 x24 x25 z26 x27 s28 hRs28 hv8_0 hv8_1 hv8_2 hv8_3 hv8_4 hv8_5 hm8 => ?_) (fun n8 ih8 x23 x24 x25 z26 x27 s28 hRs28 hv8_0 hv8_1 hv8_2 hv8_3 hv8_4 hv8_5 hm8 => ?_)
    · exfalso; have : (0 : Int) ≤ gI s 55 ∧ gI s 55 ≤ 1 := hRs.1 55; have : (0 : Int) ≤ gI s28 55 ∧ gI s28 55 ≤ 1 := hRs28.1 55; omega
    · show wp (m_x12_taken_b8 (m_x12_taken_L8 n8) x23 x24 x25 z26 x27 s28) _
      unfold m_x12_taken_b8
      refine wp_bn (w_x12_blockMany hRs28) (fun r53 er53 hr53 => ?_)
      have hr53_0 := hr53
      have hr53_0 : r53 = gA s28 39 5 := hr53_0
      have k53 : r53 = gA s 39 5 := by rw [hr53, hv8_4.2.1]
      refine wp_rg (by have : (0 : Int) ≤ gI s 55 ∧ gI s 55 ≤ 1 := hRs.1 55; have : (0 : Int) ≤ gI s28 55 ∧ gI s28 55 ≤ 1 := hRs28.1 55; omega) ?_
      refine wp_rg (by have : (0 : Int) ≤ gI s 55 ∧ gI s 55 ≤ 1 := hRs.1 55; have : (0 : Int) ≤ gI s28 55 ∧ gI s28 55 ≤ 1 := hRs28.1 55; omega) ?_
      refine wp_if (fun c3 => ?_) (fun c3 => ?_)
      · skip
        exact J102 x23 x25 s28 hRs28 (by show x23 = p0; have : (0 : Int) ≤ gI s 55 ∧ gI s 55 ≤ 1 := hRs.1 55; have : (0 : Int) ≤ gI s28 55 ∧ gI s28 55 ≤ 1 := hRs28.1 55; omega) (by show x25 = -1 ∨ ((0 ≤ x25 ∧ x25 < gA s 39 5) ∧ cM s x25.toNat ≤ 0 ∧ vM s x25.toNat ≤ 0); have : (0 : Int) ≤ gI s 55 ∧ gI s 55 ≤ 1 := hRs.1 55; have : (0 : Int) ≤ gI s28 55 ∧ gI s28 55 ≤ 1 := hRs28.1 55; omega) (hv8_4) (by show gI s28 55 = gI s 55; have : (0 : Int) ≤ gI s 55 ∧ gI s 55 ≤ 1 := hRs.1 55; have : (0 : Int) ≤ gI s28 55 ∧ gI s28 55 ≤ 1 := hRs28.1 55; omega)
      · skip
        refine wp_rg (by have : (0 : Int) ≤ gI s 55 ∧ gI s 55 ≤ 1 := hRs.1 55; have : (0 : Int) ≤ gI s28 55 ∧ gI s28 55 ≤ 1 := hRs28.1 55; omega) ?_
        refine wp_if (fun c4 => ?_) (fun c4 => ?_)
        · skip
          refine wp_bn (w_x12_isThere hRs28 (by show 0 ≤ x27 ∧ x27 < 48; have : (0 : Int) ≤ gI s 55 ∧ gI s 55 ≤ 1 := hRs.1 55; have : (0 : Int) ≤ gI s28 55 ∧ gI s28 55 ≤ 1 := hRs28.1 55; omega)) (fun r60 er60 hr60 => ?_)
          have hr60_0 := hr60
          have hr60_0 : (r60 = 1 ∧ (0 < cM s28 x27.toNat ∨ 0 < vM s28 x27.toNat)) ∨ (r60 = 0 ∧ cM s28 x27.toNat ≤ 0 ∧ vM s28 x27.toNat ≤ 0) := hr60_0
          have kc : cM s28 x27.toNat = cM s x27.toNat := by unfold cM; rw [hv8_4.1]
          have kv : vM s28 x27.toNat = vM s x27.toNat := by unfold vM; rw [hv8_4.1]
          refine wp_rg (by have : (0 : Int) ≤ gI s 55 ∧ gI s 55 ≤ 1 := hRs.1 55; have : (0 : Int) ≤ gI s28 55 ∧ gI s28 55 ≤ 1 := hRs28.1 55; omega) ?_
          refine wp_if (fun c5 => ?_) (fun c5 => ?_)
          · skip
            refine wp_stn (fun s63 es63 => ?_)
            have hRs63 : Rr s63 := es63 ▸ Rr.uI hRs28 (by show (0 : Int) ≤ x27 ∧ x27 ≤ 47; have : (0 : Int) ≤ gI s 55 ∧ gI s 55 ≤ 1 := hRs.1 55; have : (0 : Int) ≤ gI s28 55 ∧ gI s28 55 ≤ 1 := hRs28.1 55; omega)
            refine wp_stn (fun s64 es64 => ?_)
            have hRs64 : Rr s64 := es64 ▸ Rr.uI hRs63 (by show (0 : Int) ≤ x24 ∧ x24 ≤ 48; have : (0 : Int) ≤ gI s 55 ∧ gI s 55 ≤ 1 := hRs.1 55; have : (0 : Int) ≤ gI s28 55 ∧ gI s28 55 ≤ 1 := hRs28.1 55; omega)
            refine wp_stn (fun s65 es65 => ?_)
            have hRs65 : Rr s65 := es65 ▸ Rr.uI hRs64 (by show (0 : Int) ≤ x23 ∧ x23 ≤ 1000; have : (0 : Int) ≤ gI s 55 ∧ gI s 55 ≤ 1 := hRs.1 55; have : (0 : Int) ≤ gI s28 55 ∧ gI s28 55 ≤ 1 := hRs28.1 55; omega)
            refine wp_bn (w_x12_isCoded hRs65 (by show 0 ≤ (0 : Int) ∧ (0 : Int) ≤ 2; have : (0 : Int) ≤ gI s 55 ∧ gI s 55 ≤ 1 := hRs.1 55; have : (0 : Int) ≤ gI s28 55 ∧ gI s28 55 ≤ 1 := hRs28.1 55; omega)) (fun r67 er67 hr67 => ?_)
            have hr67_0 := hr67
            have hr67_0 : (r67 = 1 ∧ gA s65 42 (3 + (0 : Int).toNat) ≠ -1) ∨ (r67 = 0 ∧ gA s65 42 (3 + (0 : Int).toNat) = -1) := hr67_0
            refine wp_rg (by have : (0 : Int) ≤ gI s 55 ∧ gI s 55 ≤ 1 := hRs.1 55; have : (0 : Int) ≤ gI s28 55 ∧ gI s28 55 ≤ 1 := hRs28.1 55; omega) ?_
            refine wp_if (fun c6 => ?_) (fun c6 => ?_)
            · skip
              refine wp_rg (by have : (0 : Int) ≤ gI s 55 ∧ gI s 55 ≤ 1 := hRs.1 55; have : (0 : Int) ≤ gI s28 55 ∧ gI s28 55 ≤ 1 := hRs28.1 55; omega) ?_
              unfold m_x12_taken_J71
              refine wp_rg (by have : (0 : Int) ≤ gI s 55 ∧ gI s 55 ≤ 1 := hRs.1 55; have : (0 : Int) ≤ gI s28 55 ∧ gI s28 55 ≤ 1 := hRs28.1 55; omega) ?_
              refine wp_if (fun c7 => ?_) (fun c7 => ?_)
              · skip
                unfold m_x12_taken_J89
                unfold m_x12_taken_J96
                exact ih8 x23 x24 x27 x27 (x27 + 1) s65 hRs65 (by show x23 = p0 ∧ x24 = p1; have : (0 : Int) ≤ gI s 55 ∧ gI s 55 ≤ 1 := hRs.1 55; have : (0 : Int) ≤ gI s28 55 ∧ gI s28 55 ≤ 1 := hRs28.1 55; omega) (by show x27 = -1 ∨ ((0 ≤ x27 ∧ x27 < gA s 39 5) ∧ cM s x27.toNat ≤ 0 ∧ vM s x27.toNat ≤ 0); have : (0 : Int) ≤ gI s 55 ∧ gI s 55 ≤ 1 := hRs.1 55; have : (0 : Int) ≤ gI s28 55 ∧ gI s28 55 ≤ 1 := hRs28.1 55; omega) (by show R8 x27; have : (0 : Int) ≤ gI s 55 ∧ gI s 55 ≤ 1 := hRs.1 55; have : (0 : Int) ≤ gI s28 55 ∧ gI s28 55 ≤ 1 := hRs28.1 55; omega) (by show 0 ≤ (x27 + 1) ∧ (x27 + 1) ≤ 48; have : (0 : Int) ≤ gI s 55 ∧ gI s 55 ≤ 1 := hRs.1 55; have : (0 : Int) ≤ gI s28 55 ∧ gI s28 55 ≤ 1 := hRs28.1 55; omega) (⟨(((q_Ia es65 : gA s65 49 = gA s64 49).trans ((q_Ia es64 : gA s64 49 = gA s63 49).trans (q_Ia es63 : gA s63 49 = gA s28 49)))).trans hv8_4.1, (((q_Ia es65 : gA s65 39 = gA s64 39).trans ((q_Ia es64 : gA s64 39 = gA s63 39).trans (q_Ia es63 : gA s63 39 = gA s28 39)))).trans hv8_4.2.1, (((q_Ia es65 : gA s65 42 = gA s64 42).trans ((q_Ia es64 : gA s64 42 = gA s63 42).trans (q_Ia es63 : gA s63 42 = gA s28 42)))).trans hv8_4.2.2.1, (((q_Ia es65 : gA s65 43 = gA s64 43).trans ((q_Ia es64 : gA s64 43 = gA s63 43).trans (q_Ia es63 : gA s63 43 = gA s28 43)))).trans hv8_4.2.2.2.1, (((q_Ia es65 : gA s65 44 = gA s64 44).trans ((q_Ia es64 : gA s64 44 = gA s63 44).trans (q_Ia es63 : gA s63 44 = gA s28 44)))).trans hv8_4.2.2.2.2⟩) (by show gI s65 55 = gI s 55; have : (0 : Int) ≤ gI s28 55 ∧ gI s28 55 ≤ 1 := hRs28.1 55; have : (0 : Int) ≤ gI s 55 ∧ gI s 55 ≤ 1 := hRs.1 55; have : gI s65 55 = gI s64 55 := q_Ii es65 (by decide); have : gI s64 55 = gI s63 55 := q_Ii es64 (by decide); have : gI s63 55 = gI s28 55 := q_Ii es63 (by decide); omega) (by have : (0 : Int) ≤ gI s 55 ∧ gI s 55 ≤ 1 := hRs.1 55; have : (0 : Int) ≤ gI s28 55 ∧ gI s28 55 ≤ 1 := hRs28.1 55; omega)
              · skip
                refine wp_rgL (by have : (0 : Int) ≤ gI s 55 ∧ gI s 55 ≤ 1 := hRs.1 55; have : (0 : Int) ≤ gI s28 55 ∧ gI s28 55 ≤ 1 := hRs28.1 55; omega) ?_
                refine wp_rgL (by have : (0 : Int) ≤ gI s 55 ∧ gI s 55 ≤ 1 := hRs.1 55; have : (0 : Int) ≤ gI s28 55 ∧ gI s28 55 ≤ 1 := hRs28.1 55; omega) ?_
                refine wp_if (fun c8 => ?_) (fun c8 => ?_)
                · skip
                  unfold m_x12_taken_J89
                  unfold m_x12_taken_J96
                  exact ih8 x23 x24 x27 x27 (x27 + 1) s65 hRs65 (by show x23 = p0 ∧ x24 = p1; have : (0 : Int) ≤ gI s 55 ∧ gI s 55 ≤ 1 := hRs.1 55; have : (0 : Int) ≤ gI s28 55 ∧ gI s28 55 ≤ 1 := hRs28.1 55; omega) (by show x27 = -1 ∨ ((0 ≤ x27 ∧ x27 < gA s 39 5) ∧ cM s x27.toNat ≤ 0 ∧ vM s x27.toNat ≤ 0); have : (0 : Int) ≤ gI s 55 ∧ gI s 55 ≤ 1 := hRs.1 55; have : (0 : Int) ≤ gI s28 55 ∧ gI s28 55 ≤ 1 := hRs28.1 55; omega) (by show R8 x27; have : (0 : Int) ≤ gI s 55 ∧ gI s 55 ≤ 1 := hRs.1 55; have : (0 : Int) ≤ gI s28 55 ∧ gI s28 55 ≤ 1 := hRs28.1 55; omega) (by show 0 ≤ (x27 + 1) ∧ (x27 + 1) ≤ 48; have : (0 : Int) ≤ gI s 55 ∧ gI s 55 ≤ 1 := hRs.1 55; have : (0 : Int) ≤ gI s28 55 ∧ gI s28 55 ≤ 1 := hRs28.1 55; omega) (⟨(((q_Ia es65 : gA s65 49 = gA s64 49).trans ((q_Ia es64 : gA s64 49 = gA s63 49).trans (q_Ia es63 : gA s63 49 = gA s28 49)))).trans hv8_4.1, (((q_Ia es65 : gA s65 39 = gA s64 39).trans ((q_Ia es64 : gA s64 39 = gA s63 39).trans (q_Ia es63 : gA s63 39 = gA s28 39)))).trans hv8_4.2.1, (((q_Ia es65 : gA s65 42 = gA s64 42).trans ((q_Ia es64 : gA s64 42 = gA s63 42).trans (q_Ia es63 : gA s63 42 = gA s28 42)))).trans hv8_4.2.2.1, (((q_Ia es65 : gA s65 43 = gA s64 43).trans ((q_Ia es64 : gA s64 43 = gA s63 43).trans (q_Ia es63 : gA s63 43 = gA s28 43)))).trans hv8_4.2.2.2.1, (((q_Ia es65 : gA s65 44 = gA s64 44).trans ((q_Ia es64 : gA s64 44 = gA s63 44).trans (q_Ia es63 : gA s63 44 = gA s28 44)))).trans hv8_4.2.2.2.2⟩) (by show gI s65 55 = gI s 55; have : (0 : Int) ≤ gI s28 55 ∧ gI s28 55 ≤ 1 := hRs28.1 55; have : (0 : Int) ≤ gI s 55 ∧ gI s 55 ≤ 1 := hRs.1 55; have : gI s65 55 = gI s64 55 := q_Ii es65 (by decide); have : gI s64 55 = gI s63 55 := q_Ii es64 (by decide); have : gI s63 55 = gI s28 55 := q_Ii es63 (by decide); omega) (by have : (0 : Int) ≤ gI s 55 ∧ gI s 55 ≤ 1 := hRs.1 55; have : (0 : Int) ≤ gI s28 55 ∧ gI s28 55 ≤ 1 := hRs28.1 55; omega)
                · skip
                  unfold m_x12_taken_J96
                  exact ih8 x23 x24 x25 z26 (x27 + 1) s65 hRs65 (by show x23 = p0 ∧ x24 = p1; have : (0 : Int) ≤ gI s 55 ∧ gI s 55 ≤ 1 := hRs.1 55; have : (0 : Int) ≤ gI s28 55 ∧ gI s28 55 ≤ 1 := hRs28.1 55; omega) (by show x25 = -1 ∨ ((0 ≤ x25 ∧ x25 < gA s 39 5) ∧ cM s x25.toNat ≤ 0 ∧ vM s x25.toNat ≤ 0); have : (0 : Int) ≤ gI s 55 ∧ gI s 55 ≤ 1 := hRs.1 55; have : (0 : Int) ≤ gI s28 55 ∧ gI s28 55 ≤ 1 := hRs28.1 55; omega) (by show R8 z26; have : (0 : Int) ≤ gI s 55 ∧ gI s 55 ≤ 1 := hRs.1 55; have : (0 : Int) ≤ gI s28 55 ∧ gI s28 55 ≤ 1 := hRs28.1 55; omega) (by show 0 ≤ (x27 + 1) ∧ (x27 + 1) ≤ 48; have : (0 : Int) ≤ gI s 55 ∧ gI s 55 ≤ 1 := hRs.1 55; have : (0 : Int) ≤ gI s28 55 ∧ gI s28 55 ≤ 1 := hRs28.1 55; omega) (⟨(((q_Ia es65 : gA s65 49 = gA s64 49).trans ((q_Ia es64 : gA s64 49 = gA s63 49).trans (q_Ia es63 : gA s63 49 = gA s28 49)))).trans hv8_4.1, (((q_Ia es65 : gA s65 39 = gA s64 39).trans ((q_Ia es64 : gA s64 39 = gA s63 39).trans (q_Ia es63 : gA s63 39 = gA s28 39)))).trans hv8_4.2.1, (((q_Ia es65 : gA s65 42 = gA s64 42).trans ((q_Ia es64 : gA s64 42 = gA s63 42).trans (q_Ia es63 : gA s63 42 = gA s28 42)))).trans hv8_4.2.2.1, (((q_Ia es65 : gA s65 43 = gA s64 43).trans ((q_Ia es64 : gA s64 43 = gA s63 43).trans (q_Ia es63 : gA s63 43 = gA s28 43)))).trans hv8_4.2.2.2.1, (((q_Ia es65 : gA s65 44 = gA s64 44).trans ((q_Ia es64 : gA s64 44 = gA s63 44).trans (q_Ia es63 : gA s63 44 = gA s28 44)))).trans hv8_4.2.2.2.2⟩) (by show gI s65 55 = gI s 55; have : (0 : Int) ≤ gI s28 55 ∧ gI s28 55 ≤ 1 := hRs28.1 55; have : (0 : Int) ≤ gI s 55 ∧ gI s 55 ≤ 1 := hRs.1 55; have : gI s65 55 = gI s64 55 := q_Ii es65 (by decide); have : gI s64 55 = gI s63 55 := q_Ii es64 (by decide); have : gI s63 55 = gI s28 55 := q_Ii es63 (by decide); omega) (by have : (0 : Int) ≤ gI s 55 ∧ gI s 55 ≤ 1 := hRs.1 55; have : (0 : Int) ≤ gI s28 55 ∧ gI s28 55 ≤ 1 := hRs28.1 55; omega)
            · skip
              refine wp_bn (w_x12_codesTell hRs65 (by show 0 ≤ (0 : Int) ∧ (0 : Int) ≤ 2; have : (0 : Int) ≤ gI s 55 ∧ gI s 55 ≤ 1 := hRs.1 55; have : (0 : Int) ≤ gI s28 55 ∧ gI s28 55 ≤ 1 := hRs28.1 55; omega) (CE_eq hp1 ((((q_Ia es65 : gA s65 42 = gA s64 42).trans ((q_Ia es64 : gA s64 42 = gA s63 42).trans (q_Ia es63 : gA s63 42 = gA s28 42)))).trans hv8_4.2.2.1) ((((q_Ia es65 : gA s65 43 = gA s64 43).trans ((q_Ia es64 : gA s64 43 = gA s63 43).trans (q_Ia es63 : gA s63 43 = gA s28 43)))).trans hv8_4.2.2.2.1) ((((q_Ia es65 : gA s65 44 = gA s64 44).trans ((q_Ia es64 : gA s64 44 = gA s63 44).trans (q_Ia es63 : gA s63 44 = gA s28 44)))).trans hv8_4.2.2.2.2)) (by show gA s65 42 (3 + (0 : Int).toNat) ≠ -1; have : (0 : Int) ≤ gI s 55 ∧ gI s 55 ≤ 1 := hRs.1 55; have : (0 : Int) ≤ gI s28 55 ∧ gI s28 55 ≤ 1 := hRs28.1 55; omega)) (fun qqrl73 eqrl73s hqrl73s => ?_)
              obtain ⟨qrl73r, qrl73s⟩ := qqrl73
              dsimp only at eqrl73s hqrl73s ⊢
              have Fqrl73s : F_x12_codesTell s65 qrl73s := fr_x12_codesTell eqrl73s
              obtain ⟨hRqrl73s, hqrl73s_0⟩ := hqrl73s
              have hqrl73s_0 : R8 qrl73r := hqrl73s_0
              unfold m_x12_taken_J71
              refine wp_rg (by have : (0 : Int) ≤ gI s 55 ∧ gI s 55 ≤ 1 := hRs.1 55; have : (0 : Int) ≤ gI s28 55 ∧ gI s28 55 ≤ 1 := hRs28.1 55; omega) ?_
              refine wp_if (fun c9 => ?_) (fun c9 => ?_)
              · skip
                unfold m_x12_taken_J89
                unfold m_x12_taken_J96
                exact ih8 x23 x24 x27 qrl73r (x27 + 1) qrl73s hRqrl73s (by show x23 = p0 ∧ x24 = p1; have : (0 : Int) ≤ gI s 55 ∧ gI s 55 ≤ 1 := hRs.1 55; have : (0 : Int) ≤ gI s28 55 ∧ gI s28 55 ≤ 1 := hRs28.1 55; omega) (by show x27 = -1 ∨ ((0 ≤ x27 ∧ x27 < gA s 39 5) ∧ cM s x27.toNat ≤ 0 ∧ vM s x27.toNat ≤ 0); have : (0 : Int) ≤ gI s 55 ∧ gI s 55 ≤ 1 := hRs.1 55; have : (0 : Int) ≤ gI s28 55 ∧ gI s28 55 ≤ 1 := hRs28.1 55; omega) (by show R8 qrl73r; have : (0 : Int) ≤ gI s 55 ∧ gI s 55 ≤ 1 := hRs.1 55; have : (0 : Int) ≤ gI s28 55 ∧ gI s28 55 ≤ 1 := hRs28.1 55; omega) (by show 0 ≤ (x27 + 1) ∧ (x27 + 1) ≤ 48; have : (0 : Int) ≤ gI s 55 ∧ gI s 55 ≤ 1 := hRs.1 55; have : (0 : Int) ≤ gI s28 55 ∧ gI s28 55 ≤ 1 := hRs28.1 55; omega) (⟨(((Fqrl73s.2.1 49 (by decide)).trans ((q_Ia es65 : gA s65 49 = gA s64 49).trans ((q_Ia es64 : gA s64 49 = gA s63 49).trans (q_Ia es63 : gA s63 49 = gA s28 49))))).trans hv8_4.1, (((Fqrl73s.2.1 39 (by decide)).trans ((q_Ia es65 : gA s65 39 = gA s64 39).trans ((q_Ia es64 : gA s64 39 = gA s63 39).trans (q_Ia es63 : gA s63 39 = gA s28 39))))).trans hv8_4.2.1, (((Fqrl73s.2.1 42 (by decide)).trans ((q_Ia es65 : gA s65 42 = gA s64 42).trans ((q_Ia es64 : gA s64 42 = gA s63 42).trans (q_Ia es63 : gA s63 42 = gA s28 42))))).trans hv8_4.2.2.1, (((Fqrl73s.2.1 43 (by decide)).trans ((q_Ia es65 : gA s65 43 = gA s64 43).trans ((q_Ia es64 : gA s64 43 = gA s63 43).trans (q_Ia es63 : gA s63 43 = gA s28 43))))).trans hv8_4.2.2.2.1, (((Fqrl73s.2.1 44 (by decide)).trans ((q_Ia es65 : gA s65 44 = gA s64 44).trans ((q_Ia es64 : gA s64 44 = gA s63 44).trans (q_Ia es63 : gA s63 44 = gA s28 44))))).trans hv8_4.2.2.2.2⟩) (by show gI qrl73s 55 = gI s 55; have : (0 : Int) ≤ gI s28 55 ∧ gI s28 55 ≤ 1 := hRs28.1 55; have : (0 : Int) ≤ gI s 55 ∧ gI s 55 ≤ 1 := hRs.1 55; have : gI qrl73s 55 = gI s65 55 := Fqrl73s.1 55 (by decide); have : gI s65 55 = gI s64 55 := q_Ii es65 (by decide); have : gI s64 55 = gI s63 55 := q_Ii es64 (by decide); have : gI s63 55 = gI s28 55 := q_Ii es63 (by decide); omega) (by have : (0 : Int) ≤ gI s 55 ∧ gI s 55 ≤ 1 := hRs.1 55; have : (0 : Int) ≤ gI s28 55 ∧ gI s28 55 ≤ 1 := hRs28.1 55; omega)
              · skip
                refine wp_rgL (by have : (0 : Int) ≤ gI s 55 ∧ gI s 55 ≤ 1 := hRs.1 55; have : (0 : Int) ≤ gI s28 55 ∧ gI s28 55 ≤ 1 := hRs28.1 55; omega) ?_
                refine wp_rgL (by have : (0 : Int) ≤ gI s 55 ∧ gI s 55 ≤ 1 := hRs.1 55; have : (0 : Int) ≤ gI s28 55 ∧ gI s28 55 ≤ 1 := hRs28.1 55; omega) ?_
                refine wp_if (fun c10 => ?_) (fun c10 => ?_)
                · skip
                  unfold m_x12_taken_J89
                  unfold m_x12_taken_J96
                  exact ih8 x23 x24 x27 qrl73r (x27 + 1) qrl73s hRqrl73s (by show x23 = p0 ∧ x24 = p1; have : (0 : Int) ≤ gI s 55 ∧ gI s 55 ≤ 1 := hRs.1 55; have : (0 : Int) ≤ gI s28 55 ∧ gI s28 55 ≤ 1 := hRs28.1 55; omega) (by show x27 = -1 ∨ ((0 ≤ x27 ∧ x27 < gA s 39 5) ∧ cM s x27.toNat ≤ 0 ∧ vM s x27.toNat ≤ 0); have : (0 : Int) ≤ gI s 55 ∧ gI s 55 ≤ 1 := hRs.1 55; have : (0 : Int) ≤ gI s28 55 ∧ gI s28 55 ≤ 1 := hRs28.1 55; omega) (by show R8 qrl73r; have : (0 : Int) ≤ gI s 55 ∧ gI s 55 ≤ 1 := hRs.1 55; have : (0 : Int) ≤ gI s28 55 ∧ gI s28 55 ≤ 1 := hRs28.1 55; omega) (by show 0 ≤ (x27 + 1) ∧ (x27 + 1) ≤ 48; have : (0 : Int) ≤ gI s 55 ∧ gI s 55 ≤ 1 := hRs.1 55; have : (0 : Int) ≤ gI s28 55 ∧ gI s28 55 ≤ 1 := hRs28.1 55; omega) (⟨(((Fqrl73s.2.1 49 (by decide)).trans ((q_Ia es65 : gA s65 49 = gA s64 49).trans ((q_Ia es64 : gA s64 49 = gA s63 49).trans (q_Ia es63 : gA s63 49 = gA s28 49))))).trans hv8_4.1, (((Fqrl73s.2.1 39 (by decide)).trans ((q_Ia es65 : gA s65 39 = gA s64 39).trans ((q_Ia es64 : gA s64 39 = gA s63 39).trans (q_Ia es63 : gA s63 39 = gA s28 39))))).trans hv8_4.2.1, (((Fqrl73s.2.1 42 (by decide)).trans ((q_Ia es65 : gA s65 42 = gA s64 42).trans ((q_Ia es64 : gA s64 42 = gA s63 42).trans (q_Ia es63 : gA s63 42 = gA s28 42))))).trans hv8_4.2.2.1, (((Fqrl73s.2.1 43 (by decide)).trans ((q_Ia es65 : gA s65 43 = gA s64 43).trans ((q_Ia es64 : gA s64 43 = gA s63 43).trans (q_Ia es63 : gA s63 43 = gA s28 43))))).trans hv8_4.2.2.2.1, (((Fqrl73s.2.1 44 (by decide)).trans ((q_Ia es65 : gA s65 44 = gA s64 44).trans ((q_Ia es64 : gA s64 44 = gA s63 44).trans (q_Ia es63 : gA s63 44 = gA s28 44))))).trans hv8_4.2.2.2.2⟩) (by show gI qrl73s 55 = gI s 55; have : (0 : Int) ≤ gI s28 55 ∧ gI s28 55 ≤ 1 := hRs28.1 55; have : (0 : Int) ≤ gI s 55 ∧ gI s 55 ≤ 1 := hRs.1 55; have : gI qrl73s 55 = gI s65 55 := Fqrl73s.1 55 (by decide); have : gI s65 55 = gI s64 55 := q_Ii es65 (by decide); have : gI s64 55 = gI s63 55 := q_Ii es64 (by decide); have : gI s63 55 = gI s28 55 := q_Ii es63 (by decide); omega) (by have : (0 : Int) ≤ gI s 55 ∧ gI s 55 ≤ 1 := hRs.1 55; have : (0 : Int) ≤ gI s28 55 ∧ gI s28 55 ≤ 1 := hRs28.1 55; omega)
                · skip
                  unfold m_x12_taken_J96
                  exact ih8 x23 x24 x25 z26 (x27 + 1) qrl73s hRqrl73s (by show x23 = p0 ∧ x24 = p1; have : (0 : Int) ≤ gI s 55 ∧ gI s 55 ≤ 1 := hRs.1 55; have : (0 : Int) ≤ gI s28 55 ∧ gI s28 55 ≤ 1 := hRs28.1 55; omega) (by show x25 = -1 ∨ ((0 ≤ x25 ∧ x25 < gA s 39 5) ∧ cM s x25.toNat ≤ 0 ∧ vM s x25.toNat ≤ 0); have : (0 : Int) ≤ gI s 55 ∧ gI s 55 ≤ 1 := hRs.1 55; have : (0 : Int) ≤ gI s28 55 ∧ gI s28 55 ≤ 1 := hRs28.1 55; omega) (by show R8 z26; have : (0 : Int) ≤ gI s 55 ∧ gI s 55 ≤ 1 := hRs.1 55; have : (0 : Int) ≤ gI s28 55 ∧ gI s28 55 ≤ 1 := hRs28.1 55; omega) (by show 0 ≤ (x27 + 1) ∧ (x27 + 1) ≤ 48; have : (0 : Int) ≤ gI s 55 ∧ gI s 55 ≤ 1 := hRs.1 55; have : (0 : Int) ≤ gI s28 55 ∧ gI s28 55 ≤ 1 := hRs28.1 55; omega) (⟨(((Fqrl73s.2.1 49 (by decide)).trans ((q_Ia es65 : gA s65 49 = gA s64 49).trans ((q_Ia es64 : gA s64 49 = gA s63 49).trans (q_Ia es63 : gA s63 49 = gA s28 49))))).trans hv8_4.1, (((Fqrl73s.2.1 39 (by decide)).trans ((q_Ia es65 : gA s65 39 = gA s64 39).trans ((q_Ia es64 : gA s64 39 = gA s63 39).trans (q_Ia es63 : gA s63 39 = gA s28 39))))).trans hv8_4.2.1, (((Fqrl73s.2.1 42 (by decide)).trans ((q_Ia es65 : gA s65 42 = gA s64 42).trans ((q_Ia es64 : gA s64 42 = gA s63 42).trans (q_Ia es63 : gA s63 42 = gA s28 42))))).trans hv8_4.2.2.1, (((Fqrl73s.2.1 43 (by decide)).trans ((q_Ia es65 : gA s65 43 = gA s64 43).trans ((q_Ia es64 : gA s64 43 = gA s63 43).trans (q_Ia es63 : gA s63 43 = gA s28 43))))).trans hv8_4.2.2.2.1, (((Fqrl73s.2.1 44 (by decide)).trans ((q_Ia es65 : gA s65 44 = gA s64 44).trans ((q_Ia es64 : gA s64 44 = gA s63 44).trans (q_Ia es63 : gA s63 44 = gA s28 44))))).trans hv8_4.2.2.2.2⟩) (by show gI qrl73s 55 = gI s 55; have : (0 : Int) ≤ gI s28 55 ∧ gI s28 55 ≤ 1 := hRs28.1 55; have : (0 : Int) ≤ gI s 55 ∧ gI s 55 ≤ 1 := hRs.1 55; have : gI qrl73s 55 = gI s65 55 := Fqrl73s.1 55 (by decide); have : gI s65 55 = gI s64 55 := q_Ii es65 (by decide); have : gI s64 55 = gI s63 55 := q_Ii es64 (by decide); have : gI s63 55 = gI s28 55 := q_Ii es63 (by decide); omega) (by have : (0 : Int) ≤ gI s 55 ∧ gI s 55 ≤ 1 := hRs.1 55; have : (0 : Int) ≤ gI s28 55 ∧ gI s28 55 ≤ 1 := hRs28.1 55; omega)
          · skip
            unfold m_x12_taken_J96
            exact ih8 x23 x24 x25 z26 (x27 + 1) s28 hRs28 (by show x23 = p0 ∧ x24 = p1; have : (0 : Int) ≤ gI s 55 ∧ gI s 55 ≤ 1 := hRs.1 55; have : (0 : Int) ≤ gI s28 55 ∧ gI s28 55 ≤ 1 := hRs28.1 55; omega) (by show x25 = -1 ∨ ((0 ≤ x25 ∧ x25 < gA s 39 5) ∧ cM s x25.toNat ≤ 0 ∧ vM s x25.toNat ≤ 0); have : (0 : Int) ≤ gI s 55 ∧ gI s 55 ≤ 1 := hRs.1 55; have : (0 : Int) ≤ gI s28 55 ∧ gI s28 55 ≤ 1 := hRs28.1 55; omega) (by show R8 z26; have : (0 : Int) ≤ gI s 55 ∧ gI s 55 ≤ 1 := hRs.1 55; have : (0 : Int) ≤ gI s28 55 ∧ gI s28 55 ≤ 1 := hRs28.1 55; omega) (by show 0 ≤ (x27 + 1) ∧ (x27 + 1) ≤ 48; have : (0 : Int) ≤ gI s 55 ∧ gI s 55 ≤ 1 := hRs.1 55; have : (0 : Int) ≤ gI s28 55 ∧ gI s28 55 ≤ 1 := hRs28.1 55; omega) (⟨(rfl).trans hv8_4.1, (rfl).trans hv8_4.2.1, (rfl).trans hv8_4.2.2.1, (rfl).trans hv8_4.2.2.2.1, (rfl).trans hv8_4.2.2.2.2⟩) (by show gI s28 55 = gI s 55; have : (0 : Int) ≤ gI s 55 ∧ gI s 55 ≤ 1 := hRs.1 55; have : (0 : Int) ≤ gI s28 55 ∧ gI s28 55 ≤ 1 := hRs28.1 55; omega) (by have : (0 : Int) ≤ gI s 55 ∧ gI s 55 ≤ 1 := hRs.1 55; have : (0 : Int) ≤ gI s28 55 ∧ gI s28 55 ≤ 1 := hRs28.1 55; omega)
        · skip
          exact J102 x23 x25 s28 hRs28 (by show x23 = p0; have : (0 : Int) ≤ gI s 55 ∧ gI s 55 ≤ 1 := hRs.1 55; have : (0 : Int) ≤ gI s28 55 ∧ gI s28 55 ≤ 1 := hRs28.1 55; omega) (by show x25 = -1 ∨ ((0 ≤ x25 ∧ x25 < gA s 39 5) ∧ cM s x25.toNat ≤ 0 ∧ vM s x25.toNat ≤ 0); have : (0 : Int) ≤ gI s 55 ∧ gI s 55 ≤ 1 := hRs.1 55; have : (0 : Int) ≤ gI s28 55 ∧ gI s28 55 ≤ 1 := hRs28.1 55; omega) (hv8_4) (by show gI s28 55 = gI s 55; have : (0 : Int) ≤ gI s 55 ∧ gI s 55 ≤ 1 := hRs.1 55; have : (0 : Int) ≤ gI s28 55 ∧ gI s28 55 ≤ 1 := hRs28.1 55; omega)
  exact L8 FU p0 p1 (-1) 0 0 s hRs (by show p0 = p0 ∧ p1 = p1; omega) (by show (-1 : Int) = -1 ∨ ((0 ≤ (-1 : Int) ∧ (-1 : Int) < gA s 39 5) ∧ cM s (-1 : Int).toNat ≤ 0 ∧ vM s (-1 : Int).toNat ≤ 0); omega) (⟨by decide, by decide⟩) (by show 0 ≤ (0 : Int) ∧ (0 : Int) ≤ 48; omega) (⟨rfl, rfl, rfl, rfl, rfl⟩) (by show gI s 55 = gI s 55; have : (0 : Int) ≤ gI s 55 ∧ gI s 55 ≤ 1 := hRs.1 55; omega) (by have := FU_big; have := FU_big2; omega)
set_option maxHeartbeats 1000000 in
theorem w_x12_doesSplit {p0 : Int} {s : MS} (hRs : Rr s) (hp0 : 0 ≤ p0 ∧ p0 < 48) (hp1 : CE s 1) (hp2 : (0 ≤ (hM s).2.1 p0.toNat ∧ (hM s).2.1 p0.toNat ≤ 6)) (hp3 : 0 ≤ (hM s).1 p0.toNat ∧ (hM s).1 p0.toNat ≤ 1000) (hp4 : R2 (gA s 39 6)) : wp (m_x12_doesSplit p0 s) (fun q => (Rr q.2) ∧ ((q.1 = 1 ∧ (gA s 39 6 ≤ (hM s).2.1 p0.toNat ∨ 2 ≤ (hM s).2.1 p0.toNat)) ∨ (q.1 = 0 ∧ (hM s).2.1 p0.toNat < gA s 39 6))) := by
  unfold m_x12_doesSplit
  refine wp_bn (w_x12_entriesOf hRs (by show 0 ≤ p0 ∧ p0 < 48; omega)) (fun r6 er6 hr6 => ?_)
  obtain ⟨hr6_0, hr6_1⟩ := hr6
  have hr6_0 : r6 = (hM s).2.1 p0.toNat := hr6_0
  have hr6_1 : R2 r6 := hr6_1
  refine wp_bn (w_x12_roomOf hRs) (fun r8 er8 hr8 => ?_)
  have hr8_0 := hr8
  have hr8_0 : r8 = gA s 39 6 := hr8_0
  refine wp_rg (by omega) ?_
  refine wp_rg (by omega) ?_
  refine wp_if (fun c1 => ?_) (fun c1 => ?_)
  · skip
    refine wp_rg (by omega) ?_
    refine wp_if (fun c2 => ?_) (fun c2 => ?_)
    · skip
      unfold m_x12_doesSplit_J29
      exact wp_some ⟨hRs, by show ((0 : Int) = 1 ∧ (gA s 39 6 ≤ (hM s).2.1 p0.toNat ∨ 2 ≤ (hM s).2.1 p0.toNat)) ∨ ((0 : Int) = 0 ∧ (hM s).2.1 p0.toNat < gA s 39 6); omega⟩
    · skip
      refine wp_bn (w_x12_isCoded hRs (by show 0 ≤ (1 : Int) ∧ (1 : Int) ≤ 2; omega)) (fun r15 er15 hr15 => ?_)
      have hr15_0 := hr15
      have hr15_0 : (r15 = 1 ∧ gA s 42 (3 + (1 : Int).toNat) ≠ -1) ∨ (r15 = 0 ∧ gA s 42 (3 + (1 : Int).toNat) = -1) := hr15_0
      refine wp_rg (by omega) ?_
      refine wp_if (fun c3 => ?_) (fun c3 => ?_)
      · skip
        unfold m_x12_doesSplit_J29
        exact wp_some ⟨hRs, by show ((0 : Int) = 1 ∧ (gA s 39 6 ≤ (hM s).2.1 p0.toNat ∨ 2 ≤ (hM s).2.1 p0.toNat)) ∨ ((0 : Int) = 0 ∧ (hM s).2.1 p0.toNat < gA s 39 6); omega⟩
      · skip
        refine wp_bn (w_x12_levelOf hRs (by show 0 ≤ p0 ∧ p0 < 48; omega)) (fun r19 er19 hr19 => ?_)
        obtain ⟨hr19_0, hr19_1⟩ := hr19
        have hr19_0 : r19 = (hM s).1 p0.toNat := hr19_0
        have hr19_1 : R2 r19 := hr19_1
        refine wp_stn (fun s20 es20 => ?_)
        have hRs20 : Rr s20 := es20 ▸ Rr.uI hRs (by show (0 : Int) ≤ r19 ∧ r19 ≤ 1000; omega)
        refine wp_stn (fun s21 es21 => ?_)
        have hRs21 : Rr s21 := es21 ▸ Rr.uI hRs20 (by show (0 : Int) ≤ r6 ∧ r6 ≤ 6; omega)
        refine wp_bn (w_x12_codesTell hRs21 (by show 0 ≤ (1 : Int) ∧ (1 : Int) ≤ 2; omega) (CE_eq hp1 ((q_Ia es21 : gA s21 42 = gA s20 42).trans (q_Ia es20 : gA s20 42 = gA s 42)) ((q_Ia es21 : gA s21 43 = gA s20 43).trans (q_Ia es20 : gA s20 43 = gA s 43)) ((q_Ia es21 : gA s21 44 = gA s20 44).trans (q_Ia es20 : gA s20 44 = gA s 44))) (by rw [((q_Ia es21 : gA s21 42 = gA s20 42).trans (q_Ia es20 : gA s20 42 = gA s 42))]; omega)) (fun qqrl24 eqrl24s hqrl24s => ?_)
        obtain ⟨qrl24r, qrl24s⟩ := qqrl24
        dsimp only at eqrl24s hqrl24s ⊢
        have Fqrl24s : F_x12_codesTell s21 qrl24s := fr_x12_codesTell eqrl24s
        obtain ⟨hRqrl24s, hqrl24s_0⟩ := hqrl24s
        have hqrl24s_0 : R8 qrl24r := hqrl24s_0
        refine wp_rgL (by omega) ?_
        refine wp_if (fun c4 => ?_) (fun c4 => ?_)
        · skip
          unfold m_x12_doesSplit_J60
          refine wp_bo (by omega) ?_
          exact wp_some ⟨hRqrl24s, by show ((1 : Int) = 1 ∧ (gA s 39 6 ≤ (hM s).2.1 p0.toNat ∨ 2 ≤ (hM s).2.1 p0.toNat)) ∨ ((1 : Int) = 0 ∧ (hM s).2.1 p0.toNat < gA s 39 6); omega⟩
        · skip
          unfold m_x12_doesSplit_J60
          refine wp_bo (by omega) ?_
          exact wp_some ⟨hRqrl24s, by show ((0 : Int) = 1 ∧ (gA s 39 6 ≤ (hM s).2.1 p0.toNat ∨ 2 ≤ (hM s).2.1 p0.toNat)) ∨ ((0 : Int) = 0 ∧ (hM s).2.1 p0.toNat < gA s 39 6); omega⟩
  · skip
    exact wp_some ⟨hRs, by show ((1 : Int) = 1 ∧ (gA s 39 6 ≤ (hM s).2.1 p0.toNat ∨ 2 ≤ (hM s).2.1 p0.toNat)) ∨ ((1 : Int) = 0 ∧ (hM s).2.1 p0.toNat < gA s 39 6); omega⟩
