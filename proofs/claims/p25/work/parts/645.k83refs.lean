/-! ===== counts of references, with what a refusal says ===== -/
set_option maxHeartbeats 1000000 in
theorem wc_refsAre {s : MS} (hR : Rg s) (hY : HY s 72 78) : wp (m_x4_refsAre s) (fun q => Rg q.2 ∧ ((q.1 = 0 ∧ ∃ x : Nat, (x : Int) < gI s 1420 ∧ gA s 72 x ≠ rf (hJ s) (gA s 72) (gA s 78) (x : Int)) ∨ (q.1 = 1 ∧ ∀ x : Nat, (x : Int) < gI s 1420 → gA s 72 x = rf (hJ s) (gA s 72) (gA s 78) (x : Int)))) := by
  have n48 : (0 : Int) ≤ gI s 1420 ∧ gI s 1420 ≤ 48 := hR.1 1420
  have ks : ∀ S : MS, (∀ k, k ≠ 20 → gA S k = gA s k) → (∀ k, gI S k = gI s k) → True := fun _ _ _ => trivial
  have L151 : ∀ (n : Nat) (i : Int) (S : MS), Rg S → (∀ k, k ≠ 20 → gA S k = gA s k) → gI S 1420 = gI s 1420 → (0 ≤ i ∧ i ≤ gI s 1420) → (∀ x : Nat, (x : Int) < gI s 1420 → gA S 20 x = rf (hJ s) (gA s 72) (gA s 78) (x : Int)) → (∀ x : Nat, (x : Int) < i → gA s 72 x = rf (hJ s) (gA s 72) (gA s 78) (x : Int)) → gI s 1420 - i < (n : Int) → wp (m_x4_refsAre_L151 n i S) (fun q => Rg q.2 ∧ ((q.1 = 0 ∧ ∃ x : Nat, (x : Int) < gI s 1420 ∧ gA s 72 x ≠ rf (hJ s) (gA s 72) (gA s 78) (x : Int)) ∨ (q.1 = 1 ∧ ∀ x : Nat, (x : Int) < gI s 1420 → gA s 72 x = rf (hJ s) (gA s 72) (gA s 78) (x : Int)))) := by
    refine fr_ind (fun i S hRS hA hI hi hF hG hm => by exfalso; omega) (fun n ih i S hRS hA hI hi hF hG hm => ?_)
    show wp (m_x4_refsAre_b151 (m_x4_refsAre_L151 n) i S) _
    unfold m_x4_refsAre_b151
    refine wp_rg (by omega) (wp_rg (by omega) (wp_if (fun c1 => wp_some ⟨hRS, Or.inr ⟨rfl, fun x hx => hG x (by omega)⟩⟩) (fun c1 => ?_)))
    refine wp_rdIn (by omega) (fun y6 e6 => ?_)
    refine wp_rdIn (by omega) (fun y7 e7 => ?_)
    have rl := rf_le (hJ s) (gA s 72) (gA s 78) ((i.toNat : Nat) : Int)
    have rn := rf_nn (hJ s) (gA s 72) (gA s 78) ((i.toNat : Nat) : Int)
    rw [hF i.toNat (by omega)] at e6
    have r7 := hRS.2.1 72 i.toNat (by show _ < 48; omega)
    rw [e7] at r7
    have r7' : (-1 : Int) ≤ y7 ∧ y7 ≤ 100000 := r7
    rw [hA 72 (by decide)] at e7
    refine wp_rg (by omega) (wp_rg (by omega) (wp_if (fun c2 => ?_) (fun c2 => wp_some ⟨hRS, Or.inl ⟨rfl, i.toNat, by omega, fun z => c2 (by rw [← e6, ← e7]; exact z.symm)⟩⟩)))
    refine ih (i + 1) S hRS hA hI (by omega) hF (fun x hx => ?_) (by omega)
    by_cases z : x = i.toNat
    · rw [z, e6, e7, c2]
    · exact hG x (by omega)
  have L65 : ∀ (n : Nat) (b : Int) (S : MS), Rg S → (∀ k, k ≠ 20 → gA S k = gA s k) → gI S 1420 = gI s 1420 → (0 ≤ b ∧ b ≤ gI s 1420) → (∀ x : Nat, (x : Int) < gI s 1420 → gA S 20 x = rr (gA s 78) (x : Int) + sm b.toNat (fun p => if 0 < gA s 72 p then en (hJ s) p (x : Int) else 0)) → gI s 1420 - b < (n : Int) → wp (m_x4_refsAre_L65 n b S) (fun q => Rg q.2 ∧ ((q.1 = 0 ∧ ∃ x : Nat, (x : Int) < gI s 1420 ∧ gA s 72 x ≠ rf (hJ s) (gA s 72) (gA s 78) (x : Int)) ∨ (q.1 = 1 ∧ ∀ x : Nat, (x : Int) < gI s 1420 → gA s 72 x = rf (hJ s) (gA s 72) (gA s 78) (x : Int)))) := by
    refine fr_ind (fun b S hRS hA hI hb hF hm => by exfalso; omega) (fun n ih b S hRS hA hI hb hF hm => ?_)
    show wp (m_x4_refsAre_b65 (m_x4_refsAre_L65 n) b S) _
    unfold m_x4_refsAre_b65 m_x4_refsAre_J101 m_x4_refsAre_J102
    refine wp_rg (by omega) (wp_rg (by omega) (wp_if (fun c1 => ?_) (fun c1 => ?_)))
    · refine L151 FU 0 S hRS hA hI (by omega) (fun x hx => ?_) (fun x hx => absurd hx (by omega)) (by have := FU_big; omega)
      rw [hF x hx]
      unfold rf
      rw [sm_tail (a := b.toNat) (n := 48) (f := fun p => if 0 < gA s 72 p then en (hJ s) p (x : Int) else 0) (by omega) (fun p h1 h2 => if_neg (by rw [hY.1 p h2 (by omega)]; omega))]
    have stp : ∀ x : Nat, sm (b + 1).toNat (fun p => if 0 < gA s 72 p then en (hJ s) p (x : Int) else 0) = sm b.toNat (fun p => if 0 < gA s 72 p then en (hJ s) p (x : Int) else 0) + (if 0 < gA s 72 b.toNat then en (hJ s) b.toNat (x : Int) else 0) := fun x => by
      rw [show (b + 1).toNat = b.toNat + 1 by omega]; rfl
    have L107 : ∀ (m : Nat) (e k : Int) (S : MS), Rg S → (∀ k, k ≠ 20 → gA S k = gA s k) → gI S 1420 = gI s 1420 → ((e = 0 ∧ ∀ x : Nat, (if 0 < gA s 72 b.toNat then en (hJ s) b.toNat (x : Int) else 0) = 0) ∨ (0 < gA s 72 b.toNat ∧ 0 < gA s 74 b.toNat ∧ e = gA s 75 b.toNat)) → (0 ≤ k ∧ k ≤ e) → (∀ x : Nat, (x : Int) < gI s 1420 → gA S 20 x = rr (gA s 78) (x : Int) + sm b.toNat (fun p => if 0 < gA s 72 p then en (hJ s) p (x : Int) else 0) + (en (hJ s) b.toNat (x : Int) - enf (hJ s) b.toNat k (x : Int))) → e - k < (m : Int) → wp (m_x4_refsAre_L107 (m_x4_refsAre_L65 n) m b e k S) (fun q => Rg q.2 ∧ ((q.1 = 0 ∧ ∃ x : Nat, (x : Int) < gI s 1420 ∧ gA s 72 x ≠ rf (hJ s) (gA s 72) (gA s 78) (x : Int)) ∨ (q.1 = 1 ∧ ∀ x : Nat, (x : Int) < gI s 1420 → gA s 72 x = rf (hJ s) (gA s 72) (gA s 78) (x : Int)))) := by
      refine fr_ind (fun e k S hRS hA hI he hk hF hm => by exfalso; omega) (fun m ihm e k S hRS hA hI he hk hF hm2 => ?_)
      show wp (m_x4_refsAre_b107 (m_x4_refsAre_L65 n) (m_x4_refsAre_L107 (m_x4_refsAre_L65 n) m) b e k S) _
      unfold m_x4_refsAre_b107
      have e6 : 0 ≤ e ∧ e ≤ 6 := by
        rcases he with he | he
        · omega
        · have := (hY.2.1 b.toNat (by omega) he.1 he.2.1).1; omega
      refine wp_rg (by omega) (wp_rg (by omega) (wp_if (fun c2 => ?_) (fun c2 => ?_)))
      · refine ih (b + 1) S hRS hA hI (by omega) (fun x hx => ?_) (by omega)
        rw [hF x hx, stp x]
        rcases he with he | he
        · rw [he.2 x, show k = 0 by omega]
          show _ + (en (hJ s) b.toNat (x : Int) - en (hJ s) b.toNat (x : Int)) = _
          omega
        · rw [if_pos he.1, enf_end (by show gA s 75 b.toNat ≤ k; omega)]; omega
      · rcases he with he | he
        · omega
        have hy := hY.2.1 b.toNat (by omega) he.1 he.2.1
        have hv := hy.2 k.toNat (by omega)
        refine wp_bn (w_x8_slot_v2 hRS) (fun r21 _ h21 => ?_)
        refine wp_rdIn (by omega) (fun y22 e22 => ?_)
        rw [hA 77 (by decide), show r21.toNat = 6 * b.toNat + k.toNat by omega] at e22
        rw [e22] at hv
        refine wp_rdIn (by omega) (fun y23 e23 => ?_)
        have f1 := hF y22.toNat (by omega)
        rw [e23] at f1
        have a1 : rr (gA s 78) ((y22.toNat : Nat) : Int) ≤ 8 := by
          have := sm_bd (n := 8) (c := 1) (f := fun v : Nat => if gA s 78 v = ((y22.toNat : Nat) : Int) then (1 : Int) else 0) (fun v _ => by split <;> omega)
          unfold rr; omega
        have a2 := rr_nn (gA s 78) ((y22.toNat : Nat) : Int)
        have a3 : sm b.toNat (fun p => if 0 < gA s 72 p then en (hJ s) p ((y22.toNat : Nat) : Int) else 0) ≤ ((b.toNat : Nat) : Int) * 6 := sm_bd (fun p _ => by
          show (if 0 < gA s 72 p then en (hJ s) p ((y22.toNat : Nat) : Int) else 0) ≤ 6
          split
          · exact en_le _ _ _
          · omega)
        have a4 : 0 ≤ sm b.toNat (fun p => if 0 < gA s 72 p then en (hJ s) p ((y22.toNat : Nat) : Int) else 0) := sm_nn (fun p _ => by
          show 0 ≤ (if 0 < gA s 72 p then en (hJ s) p ((y22.toNat : Nat) : Int) else 0)
          split
          · exact en_nn _ _ _
          · omega)
        have a5 := en_le (hJ s) b.toNat ((y22.toNat : Nat) : Int)
        have a6 := en_nn (hJ s) b.toNat ((y22.toNat : Nat) : Int)
        have a7 := enf_nn (hJ s) b.toNat k ((y22.toNat : Nat) : Int)
        have a8 : enf (hJ s) b.toNat k ((y22.toNat : Nat) : Int) ≤ 6 := by
          unfold enf
          split
          · have := sm_bd (n := 6) (c := 1) (f := fun j : Nat => if k ≤ (j : Int) ∧ (j : Int) < (hJ s).2.1 b.toNat ∧ (hJ s).2.2 b.toNat j = ((y22.toNat : Nat) : Int) then (1 : Int) else 0) (fun j _ => by split <;> omega)
            omega
          · omega
        refine wp_inb (by omega) (wp_stn (fun s25 e25 => ?_))
        have hR25 : Rg s25 := e25 ▸ Rg.uAu hRS (by show (-2147483648 : Int) ≤ y23 + 1 ∧ y23 + 1 ≤ 2147483647; omega)
        have g20 : gA s25 20 = upZ (gA S 20) y22.toNat (y23 + 1) := q_AA e25
        refine ihm e (k + 1) s25 hR25 (fun k' hk' => (q_Aa e25 hk').trans (hA k' hk')) ((q_Ai e25).trans hI) (Or.inr he) (by omega) (fun x hx => ?_) (by omega)
        have st := enf_step (h := hJ s) (p := b.toNat) (k := k.toNat) (x := (x : Int)) he.2.1 (by show ((k.toNat : Nat) : Int) < gA s 75 b.toNat; omega) (by omega)
        rw [show ((k.toNat : Nat) : Int) = k by omega, show (hJ s).2.2 b.toNat k.toNat = y22 from e22] at st
        rw [g20]
        by_cases z : x = y22.toNat
        · rw [z, upZ_s]
          rw [z, if_pos (show y22 = ((y22.toNat : Nat) : Int) by omega)] at st
          omega
        · rw [upZ_n z, hF x hx]
          rw [if_neg (show ¬ y22 = (x : Int) by omega)] at st
          omega
    have base : ∀ x : Nat, (x : Int) < gI s 1420 → gA S 20 x = rr (gA s 78) (x : Int) + sm b.toNat (fun p => if 0 < gA s 72 p then en (hJ s) p (x : Int) else 0) + (en (hJ s) b.toNat (x : Int) - enf (hJ s) b.toNat 0 (x : Int)) := fun x hx => by
      rw [hF x hx]
      show _ = _ + (en (hJ s) b.toNat (x : Int) - en (hJ s) b.toNat (x : Int))
      omega
    refine wp_rdIn (by omega) (fun y34 e34 => ?_)
    have r34 := hRS.2.1 72 b.toNat (by show _ < 48; omega)
    rw [e34] at r34
    have r34' : (-1 : Int) ≤ y34 ∧ y34 ≤ 100000 := r34
    rw [hA 72 (by decide)] at e34
    refine wp_rg (by omega) (wp_if (fun c2 => L107 FU 0 0 S hRS hA hI (Or.inl ⟨rfl, fun x => if_neg (by omega)⟩) (by omega) base (by have := FU_big; omega)) (fun c2 => ?_))
    refine wp_rdIn (by omega) (fun y37 e37 => ?_)
    have r37 := hRS.2.1 74 b.toNat (by show _ < 48; omega)
    rw [e37] at r37
    have r37' : (-1 : Int) ≤ y37 ∧ y37 ≤ 1000 := r37
    rw [hA 74 (by decide)] at e37
    refine wp_rg (by omega) (wp_if (fun c3 => L107 FU 0 0 S hRS hA hI (Or.inl ⟨rfl, fun x => by rw [if_pos (by omega), en_leaf (by show gA s 74 b.toNat ≤ 0; omega)]⟩) (by omega) base (by have := FU_big; omega)) (fun c3 => ?_))
    refine wp_rdIn (by omega) (fun y40 e40 => ?_)
    rw [hA 75 (by decide)] at e40
    have hy := (hY.2.1 b.toNat (by omega) (by omega) (by omega)).1
    exact L107 FU y40 0 S hRS hA hI (Or.inr ⟨by omega, by omega, e40.symm⟩) (by omega) base (by have := FU_big; omega)
  have L29 : ∀ (n : Nat) (v : Int) (S : MS), Rg S → (∀ k, k ≠ 20 → gA S k = gA s k) → gI S 1420 = gI s 1420 → (0 ≤ v ∧ v ≤ 8) → (∀ x : Nat, (x : Int) < gI s 1420 → gA S 20 x = sm v.toNat (fun w => if gA s 78 w = (x : Int) then 1 else 0)) → 8 - v < (n : Int) → wp (m_x4_refsAre_L29 n v S) (fun q => Rg q.2 ∧ ((q.1 = 0 ∧ ∃ x : Nat, (x : Int) < gI s 1420 ∧ gA s 72 x ≠ rf (hJ s) (gA s 72) (gA s 78) (x : Int)) ∨ (q.1 = 1 ∧ ∀ x : Nat, (x : Int) < gI s 1420 → gA s 72 x = rf (hJ s) (gA s 72) (gA s 78) (x : Int)))) := by
    refine fr_ind (fun v S hRS hA hI hv hF hm => by exfalso; omega) (fun n ih v S hRS hA hI hv hF hm => ?_)
    show wp (m_x4_refsAre_b29 (m_x4_refsAre_L29 n) v S) _
    unfold m_x4_refsAre_b29 m_x4_refsAre_J56
    refine wp_rg (by omega) (wp_if (fun c1 => ?_) (fun c1 => ?_))
    · refine L65 FU 0 S hRS hA hI (by omega) (fun x hx => ?_) (by have := FU_big; omega)
      rw [hF x hx, show v.toNat = 8 by omega]
      show rr (gA s 78) (x : Int) = rr (gA s 78) (x : Int) + 0
      omega
    have stp : ∀ x : Nat, sm (v + 1).toNat (fun w => if gA s 78 w = (x : Int) then (1 : Int) else 0) = sm v.toNat (fun w => if gA s 78 w = (x : Int) then 1 else 0) + (if gA s 78 v.toNat = (x : Int) then 1 else 0) := fun x => by
      rw [show (v + 1).toNat = v.toNat + 1 by omega]; rfl
    have ro := hY.2.2 v.toNat (by omega)
    refine wp_rdIn (by omega) (fun y47 e47 => ?_)
    have r47 := hRS.2.1 78 v.toNat (by show _ < 8; omega)
    rw [e47] at r47
    have r47' : (-2 : Int) ≤ y47 ∧ y47 ≤ 253 := r47
    rw [hA 78 (by decide)] at e47
    rw [e47] at ro stp
    refine wp_rg (by omega) (wp_if (fun c2 => ?_) (fun c2 => ?_))
    · refine ih (v + 1) S hRS hA hI (by omega) (fun x hx => ?_) (by omega)
      rw [hF x hx, stp x, if_neg (by omega)]; omega
    refine wp_rdIn (by omega) (fun y50 e50 => ?_)
    rw [hA 78 (by decide), e47] at e50
    have y50e : y50 = y47 := e50.symm
    rw [y50e]
    refine wp_rdIn (by omega) (fun y51 e51 => ?_)
    have f1 := hF y47.toNat (by omega)
    rw [e51] at f1
    have a1 : sm v.toNat (fun w => if gA s 78 w = ((y47.toNat : Nat) : Int) then (1 : Int) else 0) ≤ ((v.toNat : Nat) : Int) * 1 := sm_bd (fun w _ => by
      show (if gA s 78 w = ((y47.toNat : Nat) : Int) then (1 : Int) else 0) ≤ 1
      split <;> omega)
    have a2 : 0 ≤ sm v.toNat (fun w => if gA s 78 w = ((y47.toNat : Nat) : Int) then (1 : Int) else 0) := sm_nn (fun w _ => by
      show 0 ≤ (if gA s 78 w = ((y47.toNat : Nat) : Int) then (1 : Int) else 0)
      split <;> omega)
    refine wp_inb (by omega) (wp_stn (fun s53 e53 => ?_))
    have hR53 : Rg s53 := e53 ▸ Rg.uAu hRS (by show (-2147483648 : Int) ≤ y51 + 1 ∧ y51 + 1 ≤ 2147483647; omega)
    refine ih (v + 1) s53 hR53 (fun k hk => (q_Aa e53 hk).trans (hA k hk)) ((q_Ai e53).trans hI) (by omega) (fun x hx => ?_) (by omega)
    rw [q_AA e53, stp x]
    by_cases z : x = y47.toNat
    · rw [z, upZ_s, if_pos (show y47 = ((y47.toNat : Nat) : Int) by omega), f1]
    · rw [upZ_n z, hF x hx, if_neg (show ¬ y47 = (x : Int) by omega)]; omega
  have L3 : ∀ (n : Nat) (i : Int) (S : MS), Rg S → (∀ k, k ≠ 20 → gA S k = gA s k) → gI S 1420 = gI s 1420 → (0 ≤ i ∧ i ≤ gI s 1420) → (∀ x : Nat, (x : Int) < i → gA S 20 x = 0) → gI s 1420 - i < (n : Int) → wp (m_x4_refsAre_L3 n i S) (fun q => Rg q.2 ∧ ((q.1 = 0 ∧ ∃ x : Nat, (x : Int) < gI s 1420 ∧ gA s 72 x ≠ rf (hJ s) (gA s 72) (gA s 78) (x : Int)) ∨ (q.1 = 1 ∧ ∀ x : Nat, (x : Int) < gI s 1420 → gA s 72 x = rf (hJ s) (gA s 72) (gA s 78) (x : Int)))) := by
    refine fr_ind (fun i S hRS hA hI hi hF hm => by exfalso; omega) (fun n ih i S hRS hA hI hi hF hm => ?_)
    show wp (m_x4_refsAre_b3 (m_x4_refsAre_L3 n) i S) _
    unfold m_x4_refsAre_b3
    refine wp_rg (by omega) (wp_rg (by omega) (wp_if (fun c1 => ?_) (fun c1 => ?_)))
    · exact L29 FU 0 S hRS hA hI (by omega) (fun x hx => hF x (by omega)) (by have := FU_big; omega)
    · refine wp_inb (by omega) (wp_stn (fun s60 e60 => ?_))
      have hR60 : Rg s60 := e60 ▸ Rg.uAu hRS (by show (-2147483648 : Int) ≤ 0 ∧ (0 : Int) ≤ 2147483647; omega)
      refine ih (i + 1) s60 hR60 (fun k hk => (q_Aa e60 hk).trans (hA k hk)) ((q_Ai e60).trans hI) (by omega) (fun x hx => ?_) (by omega)
      rw [q_AA e60]
      by_cases z : x = i.toNat
      · rw [z, upZ_s]
      · rw [upZ_n z]; exact hF x (by omega)
  exact L3 FU 0 s hR (fun _ _ => rfl) rfl (by omega) (fun x hx => absurd hx (by omega)) (by have := FU_big; omega)
set_option maxHeartbeats 1000000 in
theorem wc_refsAre_v2 {s : MS} (hR : Rg s) (hY : HY s 73 79) : wp (m_x4_refsAre_v2 s) (fun q => Rg q.2 ∧ ((q.1 = 0 ∧ ∃ x : Nat, (x : Int) < gI s 1420 ∧ gA s 73 x ≠ rf (hJ s) (gA s 73) (gA s 79) (x : Int)) ∨ (q.1 = 1 ∧ ∀ x : Nat, (x : Int) < gI s 1420 → gA s 73 x = rf (hJ s) (gA s 73) (gA s 79) (x : Int)))) := by
  have n48 : (0 : Int) ≤ gI s 1420 ∧ gI s 1420 ≤ 48 := hR.1 1420
  have ks : ∀ S : MS, (∀ k, k ≠ 20 → gA S k = gA s k) → (∀ k, gI S k = gI s k) → True := fun _ _ _ => trivial
  have L151 : ∀ (n : Nat) (i : Int) (S : MS), Rg S → (∀ k, k ≠ 20 → gA S k = gA s k) → gI S 1420 = gI s 1420 → (0 ≤ i ∧ i ≤ gI s 1420) → (∀ x : Nat, (x : Int) < gI s 1420 → gA S 20 x = rf (hJ s) (gA s 73) (gA s 79) (x : Int)) → (∀ x : Nat, (x : Int) < i → gA s 73 x = rf (hJ s) (gA s 73) (gA s 79) (x : Int)) → gI s 1420 - i < (n : Int) → wp (m_x4_refsAre_v2_L151 n i S) (fun q => Rg q.2 ∧ ((q.1 = 0 ∧ ∃ x : Nat, (x : Int) < gI s 1420 ∧ gA s 73 x ≠ rf (hJ s) (gA s 73) (gA s 79) (x : Int)) ∨ (q.1 = 1 ∧ ∀ x : Nat, (x : Int) < gI s 1420 → gA s 73 x = rf (hJ s) (gA s 73) (gA s 79) (x : Int)))) := by
    refine fr_ind (fun i S hRS hA hI hi hF hG hm => by exfalso; omega) (fun n ih i S hRS hA hI hi hF hG hm => ?_)
    show wp (m_x4_refsAre_v2_b151 (m_x4_refsAre_v2_L151 n) i S) _
    unfold m_x4_refsAre_v2_b151
    refine wp_rg (by omega) (wp_rg (by omega) (wp_if (fun c1 => wp_some ⟨hRS, Or.inr ⟨rfl, fun x hx => hG x (by omega)⟩⟩) (fun c1 => ?_)))
    refine wp_rdIn (by omega) (fun y6 e6 => ?_)
    refine wp_rdIn (by omega) (fun y7 e7 => ?_)
    have rl := rf_le (hJ s) (gA s 73) (gA s 79) ((i.toNat : Nat) : Int)
    have rn := rf_nn (hJ s) (gA s 73) (gA s 79) ((i.toNat : Nat) : Int)
    rw [hF i.toNat (by omega)] at e6
    have r7 := hRS.2.1 73 i.toNat (by show _ < 48; omega)
    rw [e7] at r7
    have r7' : (-1 : Int) ≤ y7 ∧ y7 ≤ 100000 := r7
    rw [hA 73 (by decide)] at e7
    refine wp_rg (by omega) (wp_rg (by omega) (wp_if (fun c2 => ?_) (fun c2 => wp_some ⟨hRS, Or.inl ⟨rfl, i.toNat, by omega, fun z => c2 (by rw [← e6, ← e7]; exact z.symm)⟩⟩)))
    refine ih (i + 1) S hRS hA hI (by omega) hF (fun x hx => ?_) (by omega)
    by_cases z : x = i.toNat
    · rw [z, e6, e7, c2]
    · exact hG x (by omega)
  have L65 : ∀ (n : Nat) (b : Int) (S : MS), Rg S → (∀ k, k ≠ 20 → gA S k = gA s k) → gI S 1420 = gI s 1420 → (0 ≤ b ∧ b ≤ gI s 1420) → (∀ x : Nat, (x : Int) < gI s 1420 → gA S 20 x = rr (gA s 79) (x : Int) + sm b.toNat (fun p => if 0 < gA s 73 p then en (hJ s) p (x : Int) else 0)) → gI s 1420 - b < (n : Int) → wp (m_x4_refsAre_v2_L65 n b S) (fun q => Rg q.2 ∧ ((q.1 = 0 ∧ ∃ x : Nat, (x : Int) < gI s 1420 ∧ gA s 73 x ≠ rf (hJ s) (gA s 73) (gA s 79) (x : Int)) ∨ (q.1 = 1 ∧ ∀ x : Nat, (x : Int) < gI s 1420 → gA s 73 x = rf (hJ s) (gA s 73) (gA s 79) (x : Int)))) := by
    refine fr_ind (fun b S hRS hA hI hb hF hm => by exfalso; omega) (fun n ih b S hRS hA hI hb hF hm => ?_)
    show wp (m_x4_refsAre_v2_b65 (m_x4_refsAre_v2_L65 n) b S) _
    unfold m_x4_refsAre_v2_b65 m_x4_refsAre_v2_J101 m_x4_refsAre_v2_J102
    refine wp_rg (by omega) (wp_rg (by omega) (wp_if (fun c1 => ?_) (fun c1 => ?_)))
    · refine L151 FU 0 S hRS hA hI (by omega) (fun x hx => ?_) (fun x hx => absurd hx (by omega)) (by have := FU_big; omega)
      rw [hF x hx]
      unfold rf
      rw [sm_tail (a := b.toNat) (n := 48) (f := fun p => if 0 < gA s 73 p then en (hJ s) p (x : Int) else 0) (by omega) (fun p h1 h2 => if_neg (by rw [hY.1 p h2 (by omega)]; omega))]
    have stp : ∀ x : Nat, sm (b + 1).toNat (fun p => if 0 < gA s 73 p then en (hJ s) p (x : Int) else 0) = sm b.toNat (fun p => if 0 < gA s 73 p then en (hJ s) p (x : Int) else 0) + (if 0 < gA s 73 b.toNat then en (hJ s) b.toNat (x : Int) else 0) := fun x => by
      rw [show (b + 1).toNat = b.toNat + 1 by omega]; rfl
    have L107 : ∀ (m : Nat) (e k : Int) (S : MS), Rg S → (∀ k, k ≠ 20 → gA S k = gA s k) → gI S 1420 = gI s 1420 → ((e = 0 ∧ ∀ x : Nat, (if 0 < gA s 73 b.toNat then en (hJ s) b.toNat (x : Int) else 0) = 0) ∨ (0 < gA s 73 b.toNat ∧ 0 < gA s 74 b.toNat ∧ e = gA s 75 b.toNat)) → (0 ≤ k ∧ k ≤ e) → (∀ x : Nat, (x : Int) < gI s 1420 → gA S 20 x = rr (gA s 79) (x : Int) + sm b.toNat (fun p => if 0 < gA s 73 p then en (hJ s) p (x : Int) else 0) + (en (hJ s) b.toNat (x : Int) - enf (hJ s) b.toNat k (x : Int))) → e - k < (m : Int) → wp (m_x4_refsAre_v2_L107 (m_x4_refsAre_v2_L65 n) m b e k S) (fun q => Rg q.2 ∧ ((q.1 = 0 ∧ ∃ x : Nat, (x : Int) < gI s 1420 ∧ gA s 73 x ≠ rf (hJ s) (gA s 73) (gA s 79) (x : Int)) ∨ (q.1 = 1 ∧ ∀ x : Nat, (x : Int) < gI s 1420 → gA s 73 x = rf (hJ s) (gA s 73) (gA s 79) (x : Int)))) := by
      refine fr_ind (fun e k S hRS hA hI he hk hF hm => by exfalso; omega) (fun m ihm e k S hRS hA hI he hk hF hm2 => ?_)
      show wp (m_x4_refsAre_v2_b107 (m_x4_refsAre_v2_L65 n) (m_x4_refsAre_v2_L107 (m_x4_refsAre_v2_L65 n) m) b e k S) _
      unfold m_x4_refsAre_v2_b107
      have e6 : 0 ≤ e ∧ e ≤ 6 := by
        rcases he with he | he
        · omega
        · have := (hY.2.1 b.toNat (by omega) he.1 he.2.1).1; omega
      refine wp_rg (by omega) (wp_rg (by omega) (wp_if (fun c2 => ?_) (fun c2 => ?_)))
      · refine ih (b + 1) S hRS hA hI (by omega) (fun x hx => ?_) (by omega)
        rw [hF x hx, stp x]
        rcases he with he | he
        · rw [he.2 x, show k = 0 by omega]
          show _ + (en (hJ s) b.toNat (x : Int) - en (hJ s) b.toNat (x : Int)) = _
          omega
        · rw [if_pos he.1, enf_end (by show gA s 75 b.toNat ≤ k; omega)]; omega
      · rcases he with he | he
        · omega
        have hy := hY.2.1 b.toNat (by omega) he.1 he.2.1
        have hv := hy.2 k.toNat (by omega)
        refine wp_bn (w_x8_slot_v2 hRS) (fun r21 _ h21 => ?_)
        refine wp_rdIn (by omega) (fun y22 e22 => ?_)
        rw [hA 77 (by decide), show r21.toNat = 6 * b.toNat + k.toNat by omega] at e22
        rw [e22] at hv
        refine wp_rdIn (by omega) (fun y23 e23 => ?_)
        have f1 := hF y22.toNat (by omega)
        rw [e23] at f1
        have a1 : rr (gA s 79) ((y22.toNat : Nat) : Int) ≤ 8 := by
          have := sm_bd (n := 8) (c := 1) (f := fun v : Nat => if gA s 79 v = ((y22.toNat : Nat) : Int) then (1 : Int) else 0) (fun v _ => by split <;> omega)
          unfold rr; omega
        have a2 := rr_nn (gA s 79) ((y22.toNat : Nat) : Int)
        have a3 : sm b.toNat (fun p => if 0 < gA s 73 p then en (hJ s) p ((y22.toNat : Nat) : Int) else 0) ≤ ((b.toNat : Nat) : Int) * 6 := sm_bd (fun p _ => by
          show (if 0 < gA s 73 p then en (hJ s) p ((y22.toNat : Nat) : Int) else 0) ≤ 6
          split
          · exact en_le _ _ _
          · omega)
        have a4 : 0 ≤ sm b.toNat (fun p => if 0 < gA s 73 p then en (hJ s) p ((y22.toNat : Nat) : Int) else 0) := sm_nn (fun p _ => by
          show 0 ≤ (if 0 < gA s 73 p then en (hJ s) p ((y22.toNat : Nat) : Int) else 0)
          split
          · exact en_nn _ _ _
          · omega)
        have a5 := en_le (hJ s) b.toNat ((y22.toNat : Nat) : Int)
        have a6 := en_nn (hJ s) b.toNat ((y22.toNat : Nat) : Int)
        have a7 := enf_nn (hJ s) b.toNat k ((y22.toNat : Nat) : Int)
        have a8 : enf (hJ s) b.toNat k ((y22.toNat : Nat) : Int) ≤ 6 := by
          unfold enf
          split
          · have := sm_bd (n := 6) (c := 1) (f := fun j : Nat => if k ≤ (j : Int) ∧ (j : Int) < (hJ s).2.1 b.toNat ∧ (hJ s).2.2 b.toNat j = ((y22.toNat : Nat) : Int) then (1 : Int) else 0) (fun j _ => by split <;> omega)
            omega
          · omega
        refine wp_inb (by omega) (wp_stn (fun s25 e25 => ?_))
        have hR25 : Rg s25 := e25 ▸ Rg.uAu hRS (by show (-2147483648 : Int) ≤ y23 + 1 ∧ y23 + 1 ≤ 2147483647; omega)
        have g20 : gA s25 20 = upZ (gA S 20) y22.toNat (y23 + 1) := q_AA e25
        refine ihm e (k + 1) s25 hR25 (fun k' hk' => (q_Aa e25 hk').trans (hA k' hk')) ((q_Ai e25).trans hI) (Or.inr he) (by omega) (fun x hx => ?_) (by omega)
        have st := enf_step (h := hJ s) (p := b.toNat) (k := k.toNat) (x := (x : Int)) he.2.1 (by show ((k.toNat : Nat) : Int) < gA s 75 b.toNat; omega) (by omega)
        rw [show ((k.toNat : Nat) : Int) = k by omega, show (hJ s).2.2 b.toNat k.toNat = y22 from e22] at st
        rw [g20]
        by_cases z : x = y22.toNat
        · rw [z, upZ_s]
          rw [z, if_pos (show y22 = ((y22.toNat : Nat) : Int) by omega)] at st
          omega
        · rw [upZ_n z, hF x hx]
          rw [if_neg (show ¬ y22 = (x : Int) by omega)] at st
          omega
    have base : ∀ x : Nat, (x : Int) < gI s 1420 → gA S 20 x = rr (gA s 79) (x : Int) + sm b.toNat (fun p => if 0 < gA s 73 p then en (hJ s) p (x : Int) else 0) + (en (hJ s) b.toNat (x : Int) - enf (hJ s) b.toNat 0 (x : Int)) := fun x hx => by
      rw [hF x hx]
      show _ = _ + (en (hJ s) b.toNat (x : Int) - en (hJ s) b.toNat (x : Int))
      omega
    refine wp_rdIn (by omega) (fun y34 e34 => ?_)
    have r34 := hRS.2.1 73 b.toNat (by show _ < 48; omega)
    rw [e34] at r34
    have r34' : (-1 : Int) ≤ y34 ∧ y34 ≤ 100000 := r34
    rw [hA 73 (by decide)] at e34
    refine wp_rg (by omega) (wp_if (fun c2 => L107 FU 0 0 S hRS hA hI (Or.inl ⟨rfl, fun x => if_neg (by omega)⟩) (by omega) base (by have := FU_big; omega)) (fun c2 => ?_))
    refine wp_rdIn (by omega) (fun y37 e37 => ?_)
    have r37 := hRS.2.1 74 b.toNat (by show _ < 48; omega)
    rw [e37] at r37
    have r37' : (-1 : Int) ≤ y37 ∧ y37 ≤ 1000 := r37
    rw [hA 74 (by decide)] at e37
    refine wp_rg (by omega) (wp_if (fun c3 => L107 FU 0 0 S hRS hA hI (Or.inl ⟨rfl, fun x => by rw [if_pos (by omega), en_leaf (by show gA s 74 b.toNat ≤ 0; omega)]⟩) (by omega) base (by have := FU_big; omega)) (fun c3 => ?_))
    refine wp_rdIn (by omega) (fun y40 e40 => ?_)
    rw [hA 75 (by decide)] at e40
    have hy := (hY.2.1 b.toNat (by omega) (by omega) (by omega)).1
    exact L107 FU y40 0 S hRS hA hI (Or.inr ⟨by omega, by omega, e40.symm⟩) (by omega) base (by have := FU_big; omega)
  have L29 : ∀ (n : Nat) (v : Int) (S : MS), Rg S → (∀ k, k ≠ 20 → gA S k = gA s k) → gI S 1420 = gI s 1420 → (0 ≤ v ∧ v ≤ 8) → (∀ x : Nat, (x : Int) < gI s 1420 → gA S 20 x = sm v.toNat (fun w => if gA s 79 w = (x : Int) then 1 else 0)) → 8 - v < (n : Int) → wp (m_x4_refsAre_v2_L29 n v S) (fun q => Rg q.2 ∧ ((q.1 = 0 ∧ ∃ x : Nat, (x : Int) < gI s 1420 ∧ gA s 73 x ≠ rf (hJ s) (gA s 73) (gA s 79) (x : Int)) ∨ (q.1 = 1 ∧ ∀ x : Nat, (x : Int) < gI s 1420 → gA s 73 x = rf (hJ s) (gA s 73) (gA s 79) (x : Int)))) := by
    refine fr_ind (fun v S hRS hA hI hv hF hm => by exfalso; omega) (fun n ih v S hRS hA hI hv hF hm => ?_)
    show wp (m_x4_refsAre_v2_b29 (m_x4_refsAre_v2_L29 n) v S) _
    unfold m_x4_refsAre_v2_b29 m_x4_refsAre_v2_J56
    refine wp_rg (by omega) (wp_if (fun c1 => ?_) (fun c1 => ?_))
    · refine L65 FU 0 S hRS hA hI (by omega) (fun x hx => ?_) (by have := FU_big; omega)
      rw [hF x hx, show v.toNat = 8 by omega]
      show rr (gA s 79) (x : Int) = rr (gA s 79) (x : Int) + 0
      omega
    have stp : ∀ x : Nat, sm (v + 1).toNat (fun w => if gA s 79 w = (x : Int) then (1 : Int) else 0) = sm v.toNat (fun w => if gA s 79 w = (x : Int) then 1 else 0) + (if gA s 79 v.toNat = (x : Int) then 1 else 0) := fun x => by
      rw [show (v + 1).toNat = v.toNat + 1 by omega]; rfl
    have ro := hY.2.2 v.toNat (by omega)
    refine wp_rdIn (by omega) (fun y47 e47 => ?_)
    have r47 := hRS.2.1 79 v.toNat (by show _ < 8; omega)
    rw [e47] at r47
    have r47' : (-2 : Int) ≤ y47 ∧ y47 ≤ 253 := r47
    rw [hA 79 (by decide)] at e47
    rw [e47] at ro stp
    refine wp_rg (by omega) (wp_if (fun c2 => ?_) (fun c2 => ?_))
    · refine ih (v + 1) S hRS hA hI (by omega) (fun x hx => ?_) (by omega)
      rw [hF x hx, stp x, if_neg (by omega)]; omega
    refine wp_rdIn (by omega) (fun y50 e50 => ?_)
    rw [hA 79 (by decide), e47] at e50
    have y50e : y50 = y47 := e50.symm
    rw [y50e]
    refine wp_rdIn (by omega) (fun y51 e51 => ?_)
    have f1 := hF y47.toNat (by omega)
    rw [e51] at f1
    have a1 : sm v.toNat (fun w => if gA s 79 w = ((y47.toNat : Nat) : Int) then (1 : Int) else 0) ≤ ((v.toNat : Nat) : Int) * 1 := sm_bd (fun w _ => by
      show (if gA s 79 w = ((y47.toNat : Nat) : Int) then (1 : Int) else 0) ≤ 1
      split <;> omega)
    have a2 : 0 ≤ sm v.toNat (fun w => if gA s 79 w = ((y47.toNat : Nat) : Int) then (1 : Int) else 0) := sm_nn (fun w _ => by
      show 0 ≤ (if gA s 79 w = ((y47.toNat : Nat) : Int) then (1 : Int) else 0)
      split <;> omega)
    refine wp_inb (by omega) (wp_stn (fun s53 e53 => ?_))
    have hR53 : Rg s53 := e53 ▸ Rg.uAu hRS (by show (-2147483648 : Int) ≤ y51 + 1 ∧ y51 + 1 ≤ 2147483647; omega)
    refine ih (v + 1) s53 hR53 (fun k hk => (q_Aa e53 hk).trans (hA k hk)) ((q_Ai e53).trans hI) (by omega) (fun x hx => ?_) (by omega)
    rw [q_AA e53, stp x]
    by_cases z : x = y47.toNat
    · rw [z, upZ_s, if_pos (show y47 = ((y47.toNat : Nat) : Int) by omega), f1]
    · rw [upZ_n z, hF x hx, if_neg (show ¬ y47 = (x : Int) by omega)]; omega
  have L3 : ∀ (n : Nat) (i : Int) (S : MS), Rg S → (∀ k, k ≠ 20 → gA S k = gA s k) → gI S 1420 = gI s 1420 → (0 ≤ i ∧ i ≤ gI s 1420) → (∀ x : Nat, (x : Int) < i → gA S 20 x = 0) → gI s 1420 - i < (n : Int) → wp (m_x4_refsAre_v2_L3 n i S) (fun q => Rg q.2 ∧ ((q.1 = 0 ∧ ∃ x : Nat, (x : Int) < gI s 1420 ∧ gA s 73 x ≠ rf (hJ s) (gA s 73) (gA s 79) (x : Int)) ∨ (q.1 = 1 ∧ ∀ x : Nat, (x : Int) < gI s 1420 → gA s 73 x = rf (hJ s) (gA s 73) (gA s 79) (x : Int)))) := by
    refine fr_ind (fun i S hRS hA hI hi hF hm => by exfalso; omega) (fun n ih i S hRS hA hI hi hF hm => ?_)
    show wp (m_x4_refsAre_v2_b3 (m_x4_refsAre_v2_L3 n) i S) _
    unfold m_x4_refsAre_v2_b3
    refine wp_rg (by omega) (wp_rg (by omega) (wp_if (fun c1 => ?_) (fun c1 => ?_)))
    · exact L29 FU 0 S hRS hA hI (by omega) (fun x hx => hF x (by omega)) (by have := FU_big; omega)
    · refine wp_inb (by omega) (wp_stn (fun s60 e60 => ?_))
      have hR60 : Rg s60 := e60 ▸ Rg.uAu hRS (by show (-2147483648 : Int) ≤ 0 ∧ (0 : Int) ≤ 2147483647; omega)
      refine ih (i + 1) s60 hR60 (fun k hk => (q_Aa e60 hk).trans (hA k hk)) ((q_Ai e60).trans hI) (by omega) (fun x hx => ?_) (by omega)
      rw [q_AA e60]
      by_cases z : x = i.toNat
      · rw [z, upZ_s]
      · rw [upZ_n z]; exact hF x (by omega)
  exact L3 FU 0 s hR (fun _ _ => rfl) rfl (by omega) (fun x hx => absurd hx (by omega)) (by have := FU_big; omega)
