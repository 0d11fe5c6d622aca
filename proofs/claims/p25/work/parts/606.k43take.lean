/-! ===== a block is TAKEN on both sides ===== -/
theorem s_isBk {p : Int} {s : MS} : pc (m_x8_isBlock p s) (fun r => (r = 1 ∧ 0 ≤ p ∧ p < gI s 1060) ∨ (r = 0 ∧ ¬ (0 ≤ p ∧ p < gI s 1060))) := by
  unfold m_x8_isBlock m_x8_isBlock_J16 m_x8_isBlock_J17
  exact pc_rg (pc_if (fun c => pc_bo (pc_some (Or.inr ⟨rfl, by omega⟩))) (fun c => pc_rg (pc_rg (pc_if (fun c2 => pc_bo (pc_some (Or.inr ⟨rfl, by omega⟩))) (fun c2 => pc_bo (pc_some (Or.inl ⟨rfl, by omega, by omega⟩)))))))
theorem s_isFree {p : Int} {s : MS} : pc (m_x8_isFree p s) (fun r => (r = 1 ∧ (0 ≤ p ∧ p < gI s 1060) ∧ gA s 54 p.toNat = 0 ∧ gA s 55 p.toNat = 0) ∨ (r = 0 ∧ ¬ ((0 ≤ p ∧ p < gI s 1060) ∧ gA s 54 p.toNat = 0 ∧ gA s 55 p.toNat = 0))) := by
  unfold m_x8_isFree m_x8_isFree_J30 m_x8_isFree_J31
  refine pc_bq s_isBk (fun r4 h4 => pc_rg (pc_if (fun c => pc_bo (pc_some (Or.inr ⟨rfl, fun q => ?_⟩))) (fun c => pc_rdI (fun _ => pc_rg (pc_if (fun c2 => pc_rdI (fun _ => pc_rg (pc_if (fun c3 => pc_bo (pc_some (Or.inl ⟨rfl, ?_, c2, c3⟩))) (fun c3 => pc_bo (pc_some (Or.inr ⟨rfl, fun q => c3 q.2.2⟩)))))) (fun c2 => pc_bo (pc_some (Or.inr ⟨rfl, fun q => c2 q.2.1⟩))))))))
  · rcases h4 with ⟨a, _⟩ | ⟨_, b⟩
    · omega
    · exact b q.1
  · rcases h4 with ⟨_, b⟩ | ⟨a, _⟩
    · exact b
    · omega
def NFc (s : MS) : Prop := ∀ b : Nat, (b : Int) < gI s 1060 → ¬ (gA s 54 b = 0 ∧ gA s 55 b = 0)
theorem s_take {p0 p1 : Int} {s : MS} : pc (m_x1_take p0 p1 s) (fun q => (q.1 = -1 ∧ NFc s) ∨ (q.1 ≠ -1 ∧ gL q.2 1062 = orL (gL s 1062) (shlLZ 1 q.1))) := by
  have L : ∀ (n : Nat) (x3 x4 x5 x6 x7 : Int) (S : MS), 0 ≤ x7 → (gA S 54 = gA s 54 ∧ gA S 55 = gA s 55 ∧ gI S 1060 = gI s 1060 ∧ gL S 1062 = gL s 1062) → (x4 = -1 ∨ 0 ≤ x4) → (x4 = -1 → ∀ b : Nat, (b : Int) < x7 → (b : Int) < gI s 1060 → ¬ (gA s 54 b = 0 ∧ gA s 55 b = 0)) → pc (m_x1_take_L44 n x3 x4 x5 x6 x7 S) (fun q => (q.1 = -1 ∧ NFc s) ∨ (q.1 ≠ -1 ∧ gL q.2 1062 = orL (gL s 1062) (shlLZ 1 q.1))) := by
    refine fr_ind (fun _ _ _ _ _ _ _ _ _ _ => pc_none) (fun n ih x3 x4 x5 x6 x7 S h7 hS h4 hN => ?_)
    show pc (m_x1_take_b44 (m_x1_take_L44 n) x3 x4 x5 x6 x7 S) _
    unfold m_x1_take_b44
    refine pc_rg (pc_rg (pc_if (fun c => pc_rg (pc_if (fun c4 => ?_) (fun c4 => ?_))) (fun c => pc_bq s_isFree (fun r46 h46 => pc_rg (pc_if (fun c0 => ?_) (fun c0 => pc_stn (fun s49 e49 => ?_)))))))
    · unfold m_x1_take_J189
      exact pc_some (Or.inl ⟨c4, fun b hb => hN c4 b (by omega) hb⟩)
    · refine pc_inb (pc_stn (fun s38 e38 => pc_inb (pc_stn (fun s40 e40 => pc_inb (pc_stn (fun s42 e42 => pc_bn (fun s44 e44 => ?_)))))))
      unfold m_x1_take_J189
      refine pc_some (Or.inr ⟨c4, ?_⟩)
      have g : pc (m_x8_mark x4 s42) (fun o => gL o 1062 = orL (gL s42 1062) (shlLZ 1 x4)) := by
        unfold m_x8_mark
        exact pc_stn (fun s1 e1 => pc_some (q_LL e1))
      rw [g s44 e44, (q_Al e42 : gL s42 1062 = gL s40 1062), (q_Al e40 : gL s40 1062 = gL s38 1062), (q_Al e38 : gL s38 1062 = gL S 1062), hS.2.2.2]
    · unfold m_x1_take_J140
      refine ih x3 x4 x5 x6 (x7 + 1) S (by omega) hS h4 (fun q b hb hbN w => ?_)
      by_cases z : (b : Int) < x7
      · exact hN q b z hbN w
      · have e : x7.toNat = b := by omega
        rcases h46 with ⟨a, _⟩ | ⟨_, d⟩
        · omega
        · exact d ⟨⟨h7, by rw [hS.2.2.1]; omega⟩, by rw [e, hS.1]; exact w.1, by rw [e, hS.2.1]; exact w.2⟩
    · have J119 : ∀ (v : Int) (S' : MS), (gA S' 54 = gA s 54 ∧ gA S' 55 = gA s 55 ∧ gI S' 1060 = gI s 1060 ∧ gL S' 1062 = gL s 1062) → pc (m_x1_take_J119 (m_x1_take_L44 n) x3 x4 x5 x6 x7 v S') (fun q => (q.1 = -1 ∧ NFc s) ∨ (q.1 ≠ -1 ∧ gL q.2 1062 = orL (gL s 1062) (shlLZ 1 q.1))) := fun v S' hS' => by
        unfold m_x1_take_J119 m_x1_take_J133 m_x1_take_J140
        exact pc_rg (pc_if (fun _ => ih _ _ _ _ _ S' (by omega) hS' (Or.inr h7) (fun q => absurd q (by omega))) (fun c4 => pc_rg (pc_rg (pc_if (fun _ => ih _ _ _ _ _ S' (by omega) hS' h4 (fun q => absurd q c4)) (fun _ => ih _ _ _ _ _ S' (by omega) hS' (Or.inr h7) (fun q => absurd q (by omega)))))))
      have hS49 : gA s49 54 = gA s 54 ∧ gA s49 55 = gA s 55 ∧ gI s49 1060 = gI s 1060 ∧ gL s49 1062 = gL s 1062 := ⟨(q_Ia e49).trans hS.1, (q_Ia e49).trans hS.2.1, (q_Ii e49 (by decide)).trans hS.2.2.1, (q_Il e49).trans hS.2.2.2⟩
      refine pc_rg (pc_if (fun _ => J119 _ s49 hS49) (fun _ => pc_rdI (fun _ => pc_rdI (fun _ => pc_bn (fun q56 e56 => J119 _ q56.2 ?_)))))
      have F : F_x3_value s49 q56.2 := fr_x3_value e56
      exact ⟨(F.2.1 54 (by decide)).trans hS49.1, (F.2.1 55 (by decide)).trans hS49.2.1, (F.1 1060 (by decide)).trans hS49.2.2.1, (F.2.2.1 1062 (by decide)).trans hS49.2.2.2⟩
  unfold m_x1_take
  have J23 : ∀ a b : Int, pc (m_x1_take_J23 p0 p1 (-1) a b s) (fun q => (q.1 = -1 ∧ NFc s) ∨ (q.1 ≠ -1 ∧ gL q.2 1062 = orL (gL s 1062) (shlLZ 1 q.1))) := fun a b => by
    unfold m_x1_take_J23
    exact pc_stn (fun s63 e63 => pc_stn (fun s64 e64 => L FU _ _ _ _ _ s64 (by omega) ⟨(q_Ia e64).trans (q_Ia e63), (q_Ia e64).trans (q_Ia e63), (q_Ii e64 (by decide)).trans (q_Ii e63 (by decide)), (q_Il e64).trans (q_Il e63)⟩ (Or.inl rfl) (fun _ b hb => absurd hb (by omega))))
  exact pc_rdI (fun _ => pc_rg (pc_if (fun _ => J23 _ _) (fun _ => J23 _ _)))
/-! the reference -/
theorem m_cnt {p : Int} {t : MS} (hp : 0 ≤ p) : pc (m_x12_countOf p t) (fun r => r = cM t p.toNat) := by
  unfold m_x12_countOf
  exact pc_rdI (fun _ => pc_some (by show gA t 49 (17 + 16 * p).toNat = gA t 49 (17 + 16 * p.toNat); rw [show (17 + 16 * p).toNat = 17 + 16 * p.toNat by omega]))
theorem m_sav {p : Int} {t : MS} (hp : 0 ≤ p) : pc (m_x12_savedOf p t) (fun r => r = vM t p.toNat) := by
  unfold m_x12_savedOf
  exact pc_rdI (fun _ => pc_some (by show gA t 49 (17 + 16 * p + 1).toNat = gA t 49 (18 + 16 * p.toNat); rw [show (17 + 16 * p + 1).toNat = 18 + 16 * p.toNat by omega]))
theorem m_used {p : Int} {t : MS} (hp : 0 ≤ p) : pc (m_x12_isUsed p t) (fun r => (r = 1 ∧ 0 < cM t p.toNat) ∨ (r = 0 ∧ cM t p.toNat ≤ 0)) := by
  unfold m_x12_isUsed m_x12_isUsed_J13
  exact pc_bq (m_cnt hp) (fun r4 h4 => pc_rg (pc_if (fun c => pc_bo (pc_some (Or.inr ⟨rfl, by omega⟩))) (fun c => pc_bo (pc_some (Or.inl ⟨rfl, by omega⟩)))))
theorem m_there {p : Int} {t : MS} (hp : 0 ≤ p) : pc (m_x12_isThere p t) (fun r => (r = 1 ∧ (0 < cM t p.toNat ∨ 0 < vM t p.toNat)) ∨ (r = 0 ∧ ¬ (0 < cM t p.toNat ∨ 0 < vM t p.toNat))) := by
  unfold m_x12_isThere m_x12_isThere_J16 m_x12_isThere_J21
  refine pc_bq (m_used hp) (fun r4 h4 => pc_rg (pc_if (fun c => pc_bq (m_sav hp) (fun r8 h8 => pc_rg (pc_if (fun c2 => pc_bo (pc_some (Or.inr ⟨rfl, ?_⟩))) (fun c2 => pc_bo (pc_some (Or.inl ⟨rfl, ?_⟩)))))) (fun c => pc_bo (pc_some (Or.inl ⟨rfl, ?_⟩)))))
  all_goals omega
def NFm (t : MS) : Prop := ∀ b : Nat, (b : Int) < gA t 39 5 → (0 < cM t b ∨ 0 < vM t b)
theorem m_taken {p0 p1 : Int} {t : MS} (h0 : gI t 55 = 0) : pc (m_x12_taken p0 p1 t) (fun q => (gI q.2 55 = 1 ∧ NFm t) ∨ (gI q.2 55 = 0 ∧ gA q.2 54 = upZ (gA t 54) q.1.toNat 1)) := by
  have L126 : ∀ (n : Nat) (x1 x2 x3 x4 : Int) (S : MS), gI S 55 = 0 → gA S 54 = gA t 54 → pc (m_x12_taken_L126 n x1 x2 x3 x4 S) (fun q => gI q.2 55 = 0 ∧ gA q.2 54 = upZ (gA t 54) q.1.toNat 1) := by
    refine fr_ind (fun _ _ _ _ _ _ _ => pc_none) (fun n ih x1 x2 x3 x4 S h5 h4 => ?_)
    show pc (m_x12_taken_b126 (m_x12_taken_L126 n) x1 x2 x3 x4 S) _
    unfold m_x12_taken_b126
    refine pc_rg (pc_if (fun _ => pc_inb (pc_stn (fun s9 e9 => pc_inb (pc_stn (fun s11 e11 => pc_inb (pc_bo (pc_stn (fun s14 e14 => pc_some ⟨?_, ?_⟩)))))))) (fun _ => pc_inb (pc_stn (fun s16 e16 => ih _ _ _ _ s16 ((q_Ai e16).trans h5) ((q_Aa e16 (by decide)).trans h4)))))
    · exact (q_Ai e14).trans ((q_Ai e11).trans ((q_Ai e9).trans h5))
    · rw [(q_AA e14 : gA s14 54 = _), (q_Aa e11 (by decide) : gA s11 54 = gA s9 54), (q_Aa e9 (by decide) : gA s9 54 = gA S 54), h4]
  have J102 : ∀ (a b : Int) (S : MS), gI S 55 = 0 → gA S 54 = gA t 54 → (b = -1 → NFm t) → pc (m_x12_taken_J102 a b S) (fun q => (gI q.2 55 = 1 ∧ NFm t) ∨ (gI q.2 55 = 0 ∧ gA q.2 54 = upZ (gA t 54) q.1.toNat 1)) := fun a b S h5 h4 hN => by
    unfold m_x12_taken_J102
    exact pc_rg (pc_if (fun c => pc_stn (fun s22 e22 => pc_some (Or.inl ⟨q_II e22, hN c⟩))) (fun _ => pc_mono (L126 FU _ _ _ _ S h5 h4) (fun o ho => Or.inr ho)))
  have L : ∀ (n : Nat) (x23 x24 x25 z26 x27 : Int) (S : MS), 0 ≤ x27 → (gA S 49 = gA t 49 ∧ gA S 39 = gA t 39 ∧ gI S 55 = 0 ∧ gA S 54 = gA t 54) → (x25 = -1 ∨ 0 ≤ x25) → (x25 = -1 → ∀ b : Nat, (b : Int) < x27 → (b : Int) < gA t 39 5 → (0 < cM t b ∨ 0 < vM t b)) → pc (m_x12_taken_L8 n x23 x24 x25 z26 x27 S) (fun q => (gI q.2 55 = 1 ∧ NFm t) ∨ (gI q.2 55 = 0 ∧ gA q.2 54 = upZ (gA t 54) q.1.toNat 1)) := by
    refine fr_ind (fun _ _ _ _ _ _ _ _ _ _ => pc_none) (fun n ih x23 x24 x25 z26 x27 S h7 hS h4 hN => ?_)
    show pc (m_x12_taken_b8 (m_x12_taken_L8 n) x23 x24 x25 z26 x27 S) _
    have cS : cM S = cM t := by unfold cM; rw [hS.1]
    have vS : vM S = vM t := by unfold vM; rw [hS.1]
    have J71 : ∀ (z : Int) (S' : MS), (gA S' 49 = gA t 49 ∧ gA S' 39 = gA t 39 ∧ gI S' 55 = 0 ∧ gA S' 54 = gA t 54) → pc (m_x12_taken_J71 (m_x12_taken_L8 n) x23 x24 x25 z26 x27 z S') (fun q => (gI q.2 55 = 1 ∧ NFm t) ∨ (gI q.2 55 = 0 ∧ gA q.2 54 = upZ (gA t 54) q.1.toNat 1)) := fun z S' hS' => by
      unfold m_x12_taken_J71 m_x12_taken_J89 m_x12_taken_J96
      exact pc_rg (pc_if (fun _ => ih _ _ _ _ _ S' (by omega) hS' (Or.inr h7) (fun q => absurd q (by omega))) (fun c4 => pc_rgL (pc_rgL (pc_if (fun _ => ih _ _ _ _ _ S' (by omega) hS' (Or.inr h7) (fun q => absurd q (by omega))) (fun _ => ih _ _ _ _ _ S' (by omega) hS' h4 (fun q => absurd q c4))))))
    unfold m_x12_taken_b8 m_x12_blockMany
    refine pc_bq (Q := fun r => r = gA t 39 5) (pc_rdI (fun _ => pc_some (by show gA S 39 (Int.toNat 5) = gA t 39 5; rw [hS.2.1]; rfl))) (fun r53 h53 => pc_rg (pc_rg (pc_if (fun c => ?_) (fun c => pc_rg (pc_if (fun c5 => pc_bq (m_there h7) (fun r60 h60 => pc_rg (pc_if (fun c0 => pc_stn (fun s63 e63 => pc_stn (fun s64 e64 => pc_stn (fun s65 e65 => pc_bn (fun r67 _ => ?_))))) (fun c0 => ?_)))) (fun c5 => absurd hS.2.2.1 c5))))))
    · exact J102 _ _ S hS.2.2.1 hS.2.2.2 (fun q b hb => hN q b (by omega) hb)
    · have hS65 : gA s65 49 = gA t 49 ∧ gA s65 39 = gA t 39 ∧ gI s65 55 = 0 ∧ gA s65 54 = gA t 54 := ⟨(q_Ia e65).trans ((q_Ia e64).trans ((q_Ia e63).trans hS.1)), (q_Ia e65).trans ((q_Ia e64).trans ((q_Ia e63).trans hS.2.1)), (q_Ii e65 (by decide)).trans ((q_Ii e64 (by decide)).trans ((q_Ii e63 (by decide)).trans hS.2.2.1)), (q_Ia e65).trans ((q_Ia e64).trans ((q_Ia e63).trans hS.2.2.2))⟩
      refine pc_rg (pc_if (fun _ => pc_rg (J71 _ s65 hS65)) (fun _ => pc_bn (fun q73 e73 => J71 _ q73.2 ?_)))
      have F : F_x12_codesTell s65 q73.2 := fr_x12_codesTell e73
      exact ⟨(F.2.1 49 (by decide)).trans hS65.1, (F.2.1 39 (by decide)).trans hS65.2.1, (F.1 55 (by decide)).trans hS65.2.2.1, (F.2.1 54 (by decide)).trans hS65.2.2.2⟩
    · unfold m_x12_taken_J96
      refine ih _ _ _ _ _ S (by omega) hS h4 (fun q b hb hbN => ?_)
      by_cases z : (b : Int) < x27
      · exact hN q b z hbN
      · have e : x27.toNat = b := by omega
        rcases h60 with ⟨_, d⟩ | ⟨a, _⟩
        · rw [e, cS, vS] at d; exact d
        · omega
  unfold m_x12_taken
  exact L FU _ _ _ _ _ t (by omega) ⟨rfl, rfl, h0, rfl⟩ (Or.inl rfl) (fun _ b hb => absurd hb (by omega))
