/-! ===== to remove ===== -/
theorem w_del_neg {p0 p1 : Int} {s : MS} (h : p1 = -1) : wp (m_x8_delete p0 p1 s) (fun o => o = s) := by
  unfold m_x8_delete m_x8_delete_J14
  exact wp_rg (by omega) (wp_if (fun _ => wp_some rfl) (fun c => by omega))
set_option maxHeartbeats 1000000 in
theorem ts_lower {p0 : Int} {s : MS} (hR : Rg s) (H : TS s Z0 (-1)) {s0 : MS} (hp : 0 ≤ p0 ∧ p0 < 8) (hv : RV s0 s p0.toNat) : wp (m_x1_lowerRoot p0 s) (fun o => Rg o ∧ TS o Z0 (-1) ∧ RV s0 o p0.toNat) := by
  have zD : ∀ x, x < 48 → 0 ≤ Z0 x := fun x _ => Int.le_refl 0
  have L2 : ∀ (n : Nat) (i : Int) (S : MS), Rg S → TS S Z0 (-1) → RV s0 S p0.toNat → (0 ≤ i ∧ i ≤ 48) → 48 - i < (n : Int) → wp (m_x1_lowerRoot_L2 n p0 i S) (fun o => Rg o ∧ TS o Z0 (-1) ∧ RV s0 o p0.toNat) := by
    refine fr_ind (fun i S hRS T hV hi hm => by exfalso; omega) (fun n ih i S hRS T hV hi hm => ?_)
    have hv := hV.2
    show wp (m_x1_lowerRoot_b2 (m_x1_lowerRoot_L2 n) p0 i S) _
    unfold m_x1_lowerRoot_b2 m_x1_lowerRoot_J48
    refine wp_rg (by omega) (wp_if (fun c1 => wp_some ⟨hRS, T, hV⟩) (fun c1 => ?_))
    refine wp_rdIn (by omega) (fun y7 e7 => ?_)
    have r60 := hRS.2.1 60 p0.toNat (by show _ < 8; omega)
    have r60' : (-2 : Int) ≤ gA S 60 p0.toNat ∧ gA S 60 p0.toNat ≤ 253 := r60
    have hN48 : gI S 1060 ≤ 48 := T.1.1
    refine wp_rg (by omega) (wp_if (fun c2 => wp_some ⟨hRS, T, hV⟩) (fun c2 => ?_))
    have rl := TG_root_live (v := p0.toNat) T zD (by omega) (by omega) (by omega)
    rw [e7] at rl r60' hv
    have hb48 : y7.toNat < 48 := by omega
    have lv : 0 ≤ gA S 56 y7.toNat ∧ gA S 56 y7.toNat ≤ 47 := TG_lev T zD hb48 rl.2
    have nd := TG_nd T hb48 rl.2
    have n6 : 0 ≤ gA S 57 y7.toNat ∧ gA S 57 y7.toNat ≤ 6 := nd.2.1
    refine wp_rdIn (by omega) (fun y10 e10 => ?_)
    refine wp_rg (by omega) (wp_if (fun c3 => wp_some ⟨hRS, T, hV⟩) (fun c3 => ?_))
    refine wp_rdIn (by omega) (fun y13 e13 => ?_)
    refine wp_rg (by omega) (wp_if (fun c4 => ?_) (fun c4 => wp_some ⟨hRS, T, hV⟩))
    refine wp_bn w_slot (fun r17 _ h17 => ?_)
    refine wp_rdIn (by omega) (fun y18 e18 => ?_)
    have kid := TG_kid (p := y7.toNat) (k := 0) T zD hb48 rl.2 (by show 0 < gA S 56 y7.toNat; omega) (by show ((0 : Nat) : Int) < gA S 57 y7.toNat; omega)
    have v18 : (hN S).2.2 y7.toNat 0 = y18 := by
      show gA S 59 (6 * y7.toNat + 0) = y18
      rw [show 6 * y7.toNat + 0 = r17.toNat by omega]; exact e18
    rw [v18] at kid
    obtain ⟨⟨k0, k1⟩, k2, k3⟩ := kid
    have k2' : gA S 56 y18.toNat = gA S 56 y7.toNat - 1 := k2
    have hy48 : y18.toNat < 48 := by omega
    have ne : y7.toNat ≠ y18.toNat := fun z => by rw [z] at k2'; omega
    have cb : gA S 54 y18.toNat ≤ Z0 y18.toNat + 296 := TG_cb T hy48
    have cb' : gA S 54 y18.toNat ≤ 0 + 296 := cb
    refine wp_rdIn (by omega) (fun y19 e19 => ?_)
    have TI := TG_inc T hy48 k3
    rw [e19] at TI cb' k3
    refine wp_inb (by omega) (wp_stn (fun s21 e21 => ?_))
    have hR21 : Rg s21 := e21 ▸ Rg.uAu hRS (by show (-1 : Int) ≤ y19 + 1 ∧ y19 + 1 ≤ 100000; omega)
    have g54 : gA s21 54 = upZ (gA S 54) y18.toNat (y19 + 1) := q_AA e21
    refine wp_inb (by omega) (wp_stn (fun s23 e23 => ?_))
    have hR23 : Rg s23 := e23 ▸ Rg.uAu hR21 (by show (-2 : Int) ≤ y18 ∧ y18 ≤ 253; omega)
    have g60 : gA s23 60 = upZ (gA S 60) p0.toNat y18 := (q_AA e23).trans (by rw [show gA s21 60 = gA S 60 from q_Aa e21 (by decide)])
    have k54 : gA s23 54 = upZ (gA S 54) y18.toNat (y19 + 1) := (q_Aa e23 (by decide)).trans g54
    have TR := TG_root (v := p0.toNat) (q := y18) TI (by omega) (Or.inl ⟨k0, k1⟩)
    have kk : ∀ k, k ≠ 54 → k ≠ 60 → gA s23 k = gA S k := fun k h1 h2 => (q_Aa e23 h2).trans (q_Aa e21 h1)
    have kI : ∀ k, gI s23 k = gI S k := fun k => (q_Ai e23).trans (q_Ai e21)
    have T2 : TS s23 (fun x => if x = y7.toNat then 1 else 0) (-1) := by
      refine TS_mk (TG_D TR (fun x hx => ?_)) (hN_eq (kk 56 (by decide) (by decide)) (kk 57 (by decide) (by decide)) (kk 59 (by decide) (by decide))) (kN_eq (kk 58 (by decide) (by decide))) (kI _) (kI _) k54 (kk 55 (by decide) (by decide)) g60 (kk 61 (by decide) (by decide))
      show (if x = y7.toNat then (1 : Int) else 0) = 0 + (if x = y18.toNat then 1 else 0) + (if gA S 60 p0.toNat = (x : Int) then 1 else 0) - (if y18 = (x : Int) then 1 else 0)
      rw [e7]
      have a1 : (if y7 = (x : Int) then (1 : Int) else 0) = if x = y7.toNat then 1 else 0 := by
        by_cases z : x = y7.toNat
        · rw [if_pos z, if_pos (by omega)]
        · rw [if_neg z, if_neg (by omega)]
      have a2 : (if y18 = (x : Int) then (1 : Int) else 0) = if x = y18.toNat then 1 else 0 := by
        by_cases z : x = y18.toNat
        · rw [if_pos z, if_pos (by omega)]
        · rw [if_neg z, if_neg (by omega)]
      rw [a1, a2]; omega
    refine wp_bn (w_x1_release_v2 hR23 T2.1.2.1 (by rw [kI]; omega) (by rw [k54, upZ_n ne]; exact rl.2) (fun x hx => by rw [T2.2.1.1 x hx]; show (0 : Int) ≤ if x = y7.toNat then 1 else 0; split <;> omega)) (fun q26 e26 h26 => ?_)
    obtain ⟨m, o⟩ := q26
    dsimp only at h26 ⊢
    obtain ⟨hRo, hRel, _, _⟩ := h26
    have Fo : F_x1_release_v2 s23 o := fr_x1_release_v2 e26
    have T3 : TS o Z0 (-1) := by
      refine TS_mk (TG_D (TG_rel T2 hRel) (fun x hx => ?_)) (hN_eq (Fo.2.1 56 (by decide)) (Fo.2.1 57 (by decide)) (Fo.2.1 59 (by decide))) (kN_eq (Fo.2.1 58 (by decide))) (Fo.1 1060 (by decide)) (Fo.1 581 (by decide)) rfl (Fo.2.1 55 (by decide)) (Fo.2.1 60 (by decide)) (Fo.2.1 61 (by decide))
      show (0 : Int) = (if x = y7.toNat then 1 else 0) - (if (x : Int) = y7 then 1 else 0)
      by_cases z : x = y7.toNat
      · rw [if_pos z, if_pos (by omega)]; rfl
      · rw [if_neg z, if_neg (by omega)]; rfl
    exact ih (i + 1) o hRo T3 (RV_eq (RV_up hV.1 g60 (by omega)) (Fo.2.1 60 (by decide))) (by omega) (by omega)
  exact L2 FU 0 s hR H hv (by omega) (by have := FU_big; omega)
/-- the blocks on the way down, each changeable; which entry led on -/
def PathP (s : MS) (v : Nat) (d : Int) (P : Nat → Nat) (i : Nat) : Prop := gA s 60 v = (P 0 : Int) ∧ (∀ j, j ≤ i → P j < 48 ∧ gA s 54 (P j) = 1 ∧ gA s 55 (P j) = 0 ∧ gA s 56 (P j) = d - (j : Int)) ∧ (∀ j, j < i → (0 ≤ gA s 51 j ∧ gA s 51 j < gA s 57 (P j)) ∧ gA s 59 (6 * P j + (gA s 51 j).toNat) = (P (j + 1) : Int))
set_option maxHeartbeats 2000000 in
theorem ts_prune {p0 p1 : Int} {s s0 : MS} {d : Nat} {P : Nat → Nat} (hR : Rg s) (H : TS s Z0 (-1)) (hp : 0 ≤ p0 ∧ p0 < 8) (hd : d ≤ 47) (hP : PathP s p0.toNat (d : Int) P d) (h1 : R2 p1) (hV0 : RV s0 s p0.toNat) : wp (m_x1_prune p0 p1 (d : Int) s) (fun o => Rg o ∧ TS o Z0 (-1) ∧ RV s0 o p0.toNat) := by
  have inj : ∀ (S : MS) (i : Nat), PathP S p0.toNat (d : Int) P i → ∀ j k, j ≤ i → k ≤ i → j ≠ k → P j ≠ P k := fun S i h j k hj hk hn z => by
    have a1 := (h.2.1 j hj).2.2.2
    have a2 := (h.2.1 k hk).2.2.2
    rw [z] at a1; omega
  have L98 : ∀ (n : Nat) (i : Int) (S : MS), Rg S → ((-1) ≤ i ∧ i ≤ (d : Int)) → RV s0 S p0.toNat → ((i = -1 ∧ TS S Z0 (-1)) ∨ (0 ≤ i ∧ TS S Z0 (P i.toNat : Int) ∧ PathP S p0.toNat (d : Int) P i.toNat ∧ ∀ j : Nat, j ≤ i.toNat → gA S 50 j = (P j : Int))) → i + 1 < (n : Int) → wp (m_x1_prune_L98 n p0 i S) (fun o => Rg o ∧ TS o Z0 (-1) ∧ RV s0 o p0.toNat) := by
    refine fr_ind (fun i S hRS hi hV hc hm => by exfalso; omega) (fun n ih i S hRS hi hV hc hm => ?_)
    show wp (m_x1_prune_b98 (m_x1_prune_L98 n) p0 i S) _
    unfold m_x1_prune_b98 m_x1_prune_J186 m_x1_prune_J180
    refine wp_rg (by omega) (wp_if (fun c1 => ?_) (fun c1 => ?_))
    · rcases hc with ⟨_, T⟩ | ⟨h0, _⟩
      · exact wp_some ⟨hRS, T, hV⟩
      · omega
    · rcases hc with ⟨h0, _⟩ | ⟨h0, T, hP, h50⟩
      · omega
      have hPi := hP.2.1 i.toNat (Nat.le_refl _)
      have e50 := h50 i.toNat (Nat.le_refl _)
      have nd := TG_nd T hPi.1 (by omega)
      have n6 : 0 ≤ gA S 57 (P i.toNat) ∧ gA S 57 (P i.toNat) ≤ 6 := nd.2.1
      refine wp_rdIn (by omega) (fun y10 e10 => ?_)
      rw [e50] at e10
      refine wp_rdIn (by omega) (fun y11 e11 => ?_)
      rw [show y10.toNat = P i.toNat by omega] at e11
      refine wp_rg (by omega) (wp_if (fun c2 => ?_) (fun c2 => ?_))
      · refine wp_rdIn (by omega) (fun y14 e14 => ?_)
        rw [e50] at e14
        have y14e : y14.toNat = P i.toNat := by omega
        refine wp_inb (by omega) (wp_stn (fun s16 e16 => ?_))
        rw [y14e] at e16
        have hR16 : Rg s16 := e16 ▸ Rg.uAu hRS (by show (-1 : Int) ≤ 0 ∧ (0 : Int) ≤ 100000; omega)
        have g54 : gA s16 54 = upZ (gA S 54) (P i.toNat) 0 := q_AA e16
        have kk : ∀ k, k ≠ 54 → gA s16 k = gA S k := fun k h => q_Aa e16 h
        have kI : ∀ k, gI s16 k = gI S k := fun k => q_Ai e16
        have TK := TG_kill T hPi.1 hPi.2.1 (by show gA S 57 (P i.toNat) = 0; omega) (-1) (fun p hp => Or.inr (by omega))
        have T16 : TS s16 (fun x => 0 - (if x = P i.toNat then 1 else 0)) (-1) := TS_mk TK (hN_eq (kk 56 (by decide)) (kk 57 (by decide)) (kk 59 (by decide))) (kN_eq (kk 58 (by decide))) (kI _) (kI _) g54 (kk 55 (by decide)) (kk 60 (by decide)) (kk 61 (by decide))
        refine wp_rg (by omega) (wp_if (fun c3 => ?_) (fun c3 => ?_))
        · refine wp_inb (by omega) (wp_stn (fun s20 e20 => ?_))
          have hR20 : Rg s20 := e20 ▸ Rg.uAu hR16 (by show (-2 : Int) ≤ -1 ∧ (-1 : Int) ≤ 253; omega)
          have g60 : gA s20 60 = upZ (gA s16 60) p0.toNat (-1) := q_AA e20
          have TR := TG_root (v := p0.toNat) (q := -1) T16 (by omega) (Or.inr (Or.inl (by omega)))
          refine ih (i + (-1)) s20 hR20 (by omega) (RV_up (S := s16) (fun w hw => by rw [kk 60 (by decide)]; exact hV.1 w hw) g60 (by omega)) (Or.inl ⟨by omega, ?_⟩) (by omega)
          refine TS_mk (TG_D TR (fun x hx => ?_)) (hN_eq (q_Aa e20 (by decide)) (q_Aa e20 (by decide)) (q_Aa e20 (by decide))) (kN_eq (q_Aa e20 (by decide))) (q_Ai e20) (q_Ai e20) (q_Aa e20 (by decide)) (q_Aa e20 (by decide)) g60 (q_Aa e20 (by decide))
          show (0 : Int) = 0 - (if x = P i.toNat then 1 else 0) + (if gA s16 60 p0.toNat = (x : Int) then 1 else 0) - (if (-1 : Int) = (x : Int) then 1 else 0)
          rw [kk 60 (by decide), hP.1, show P 0 = P i.toNat by rw [show i.toNat = 0 by omega], if_neg (show ¬ (-1 : Int) = (x : Int) by omega)]
          by_cases z : x = P i.toNat
          · rw [if_pos z, if_pos (by omega)]; rfl
          · rw [if_neg z, if_neg (by omega)]; rfl
        · obtain ⟨k, hk⟩ : ∃ k, i.toNat = k + 1 := ⟨i.toNat - 1, by omega⟩
          have ik : (i - 1).toNat = k := by omega
          have hPk := hP.2.1 k (by omega)
          have hLk := hP.2.2 k (by omega)
          have ek := h50 k (by omega)
          have nk : P k ≠ P i.toNat := inj S i.toNat hP k i.toNat (by omega) (Nat.le_refl _) (by omega)
          have ndk := TG_nd T hPk.1 (by omega)
          have n6k : 0 ≤ gA S 57 (P k) ∧ gA S 57 (P k) ≤ 6 := ndk.2.1
          refine wp_rdIn (by omega) (fun y21 e21 => ?_)
          rw [ik, kk 50 (by decide), ek] at e21
          refine wp_rdIn (by omega) (fun y22 e22 => ?_)
          rw [ik, kk 51 (by decide)] at e22
          have y21e : y21.toNat = P k := by omega
          rw [e22] at hLk
          refine wp_bn (ts_delete (p0 := y21) (p1 := y22) hR16 T16 (by omega) (by rw [y21e, g54, upZ_n nk]; omega) (by rw [y21e, kk 55 (by decide)]; omega) (by rw [y21e, kk 57 (by decide)]; exact hLk.1)) (fun s24 e24 h24 => ?_)
          obtain ⟨hR24, F24, n57, noth, TD⟩ := h24
          rw [y21e] at n57 noth TD
          refine ih (i + (-1)) s24 hR24 (by omega) (RV_eq hV ((F24.2.1 60 (by decide)).trans (kk 60 (by decide)))) (Or.inr ⟨by omega, ?_, ⟨?_, fun j hj => ?_, fun j hj => ?_⟩, fun j hj => ?_⟩) (by omega)
          · rw [show (i + (-1)).toNat = k by omega, e21]
            refine TG_D TD (fun x hx => ?_)
            show (0 : Int) = 0 - (if x = P i.toNat then 1 else 0) + (if 0 < gA s16 56 (P k) ∧ gA s16 59 (6 * P k + y22.toNat) = (x : Int) then 1 else 0)
            rw [kk 56 (by decide), kk 59 (by decide), hLk.2, ← hk]
            by_cases z : x = P i.toNat
            · rw [if_pos z, if_pos ⟨by omega, by omega⟩]; rfl
            · rw [if_neg z, if_neg (fun w => z (by omega))]; rfl
          · rw [F24.2.1 60 (by decide), kk 60 (by decide)]; exact hP.1
          · have hPj := hP.2.1 j (by omega)
            have nj : P j ≠ P i.toNat := inj S i.toNat hP j i.toNat (by omega) (Nat.le_refl _) (by omega)
            rw [F24.2.1 54 (by decide), F24.2.1 55 (by decide), F24.2.1 56 (by decide), g54, upZ_n nj, kk 55 (by decide), kk 56 (by decide)]
            exact hPj
          · have hLj := hP.2.2 j (by omega)
            have nj : P j ≠ P k := inj S i.toNat hP j k (by omega) (by omega) (by omega)
            have hPj := hP.2.1 j (by omega)
            have ndj := (TG_nd T hPj.1 (by omega)).2.1
            have ndj' : 0 ≤ gA S 57 (P j) ∧ gA S 57 (P j) ≤ 6 := ndj
            rw [F24.2.1 51 (by decide), kk 51 (by decide), n57, upZ_n nj, kk 57 (by decide)]
            refine ⟨hLj.1, ?_⟩
            rw [(noth (P j) hPj.1 nj _ (by omega)).2, kk 59 (by decide)]
            exact hLj.2
          · rw [F24.2.1 50 (by decide), kk 50 (by decide)]; exact h50 j (by omega)
      · refine wp_some ⟨hRS, TG_ne T (fun p hp hpe => ?_), hV⟩
        show 1 ≤ gA S 57 p
        rw [show p = P i.toNat by omega]; omega
  have L18 : ∀ (n : Nat) (i : Int) (S : MS), Rg S → (0 ≤ i ∧ i ≤ (d : Int)) → (∀ k, k ≠ 50 → gA S k = gA s k) → (∀ k, gI S k = gI s k) → (∀ j : Nat, j ≤ i.toNat → gA S 50 j = (P j : Int)) → (d : Int) - i < (n : Int) → wp (m_x1_prune_L18 n p0 p1 (d : Int) i S) (fun o => Rg o ∧ TS o Z0 (-1) ∧ RV s0 o p0.toNat) := by
    refine fr_ind (fun i S hRS hi hA hI h50 hm => by exfalso; omega) (fun n ih i S hRS hi hA hI h50 hm => ?_)
    show wp (m_x1_prune_b18 (m_x1_prune_L18 n) p0 p1 (d : Int) i S) _
    unfold m_x1_prune_b18
    have T : TS S Z0 (-1) := TS_eq H (hA 54 (by decide)) (hA 55 (by decide)) (hA 56 (by decide)) (hA 57 (by decide)) (hA 58 (by decide)) (hA 59 (by decide)) (hA 60 (by decide)) (hA 61 (by decide)) (hI _) (hI _)
    have hPS : PathP S p0.toNat (d : Int) P d := by
      unfold PathP at hP ⊢
      rw [hA 60 (by decide), hA 54 (by decide), hA 55 (by decide), hA 56 (by decide), hA 51 (by decide), hA 57 (by decide), hA 59 (by decide)]
      exact hP
    refine wp_rg (by omega) (wp_rg (by omega) (wp_if (fun c1 => ?_) (fun c1 => ?_)))
    · have hPd := hPS.2.1 d (Nat.le_refl _)
      have e50 := h50 d (by omega)
      have nd := TG_nd T hPd.1 (by omega)
      have n6 : 0 ≤ gA S 57 (P d) ∧ gA S 57 (P d) ≤ 6 := nd.2.1
      refine wp_rdIn (by omega) (fun y33 e33 => ?_)
      refine wp_rdIn (by omega) (fun y34 e34 => ?_)
      rw [show ((d : Int)).toNat = d by omega, e50] at e33 e34
      have y34e : y34.toNat = P d := by omega
      have y33e : y33.toNat = P d := by omega
      refine wp_bn (w_x8_find hRS (by omega) (by rw [y34e]; exact n6.2) h1) (fun r36 e36 h36 => ?_)
      rw [y34e] at h36
      rcases h36 with h36 | h36
      · refine wp_bn (w_del_neg h36) (fun s38 e38 h38 => ?_)
        subst h38
        exact L98 FU (d : Int) s38 hRS (by omega) (RV_eq hV0 (hA 60 (by decide))) (Or.inr ⟨by omega, TG_e T _, by rw [show ((d : Int)).toNat = d by omega]; exact hPS, fun j hj => h50 j (by omega)⟩) (by have := FU_big; omega)
      · refine wp_bn (ts_delete (p0 := y33) (p1 := r36) hRS T (by omega) (by rw [y33e]; omega) (by rw [y33e]; omega) (by rw [y33e]; exact h36)) (fun s38 e38 h38 => ?_)
        obtain ⟨hR38, F38, n57, noth, TD⟩ := h38
        rw [y33e] at n57 noth TD
        refine L98 FU (d : Int) s38 hR38 (by omega) (RV_eq hV0 ((F38.2.1 60 (by decide)).trans (hA 60 (by decide)))) (Or.inr ⟨by omega, ?_, ?_, fun j hj => by rw [F38.2.1 50 (by decide)]; exact h50 j (by omega)⟩) (by have := FU_big; omega)
        · rw [show ((d : Int)).toNat = d by omega, e33]
          refine TG_D TD (fun x hx => ?_)
          show (0 : Int) = 0 + (if 0 < gA S 56 (P d) ∧ gA S 59 (6 * P d + r36.toNat) = (x : Int) then 1 else 0)
          rw [if_neg (fun w => by omega)]; rfl
        · rw [show ((d : Int)).toNat = d by omega]
          refine ⟨by rw [F38.2.1 60 (by decide)]; exact hPS.1, fun j hj => ?_, fun j hj => ?_⟩
          · rw [F38.2.1 54 (by decide), F38.2.1 55 (by decide), F38.2.1 56 (by decide)]; exact hPS.2.1 j hj
          · have hLj := hPS.2.2 j hj
            have nj : P j ≠ P d := inj S d hPS j d (by omega) (Nat.le_refl _) (by omega)
            have hPj := hPS.2.1 j (by omega)
            have ndj' : 0 ≤ gA S 57 (P j) ∧ gA S 57 (P j) ≤ 6 := (TG_nd T hPj.1 (by omega)).2.1
            rw [F38.2.1 51 (by decide), n57, upZ_n nj]
            refine ⟨hLj.1, ?_⟩
            rw [(noth (P j) hPj.1 nj _ (by omega)).2]
            exact hLj.2
    · have hPi := hPS.2.1 i.toNat (by omega)
      have hLi := hPS.2.2 i.toNat (by omega)
      have e50 := h50 i.toNat (Nat.le_refl _)
      have n6 : 0 ≤ gA S 57 (P i.toNat) ∧ gA S 57 (P i.toNat) ≤ 6 := (TG_nd T hPi.1 (by omega)).2.1
      refine wp_rdIn (by omega) (fun y39 e39 => ?_)
      rw [e50] at e39
      refine wp_rdIn (by omega) (fun y40 e40 => ?_)
      rw [e40] at hLi
      refine wp_bn w_slot (fun r42 _ h42 => ?_)
      refine wp_rdIn (by omega) (fun y43 e43 => ?_)
      rw [show r42.toNat = 6 * P i.toNat + y40.toNat by omega, hLi.2] at e43
      have hPn := hPS.2.1 (i.toNat + 1) (by omega)
      refine wp_inb (by omega) (wp_stn (fun s45 e45 => ?_))
      have hR45 : Rg s45 := e45 ▸ Rg.uAu hRS (by show (0 : Int) ≤ y43 ∧ y43 ≤ 47; omega)
      refine ih (i + 1) s45 hR45 (by omega) (fun k hk => (q_Aa e45 hk).trans (hA k hk)) (fun k => (q_Ai e45).trans (hI k)) (fun j hj => ?_) (by omega)
      rw [q_AA e45]
      by_cases z : j = (i + 1).toNat
      · rw [z, upZ_s, ← e43, show (i + 1).toNat = i.toNat + 1 by omega]
      · rw [upZ_n z]; exact h50 j (by omega)
  unfold m_x1_prune
  have hP0 := hP.2.1 0 (by omega)
  refine wp_rdIn (by omega) (fun y46 e46 => ?_)
  rw [hP.1] at e46
  refine wp_inb (by omega) (wp_stn (fun s48 e48 => ?_))
  have hR48 : Rg s48 := e48 ▸ Rg.uAu hR (by show (0 : Int) ≤ y46 ∧ y46 ≤ 47; omega)
  refine L18 FU 0 s48 hR48 (by omega) (fun k hk => q_Aa e48 hk) (fun k => q_Ai e48) (fun j hj => ?_) (by have := FU_big; omega)
  rw [q_AA e48, show j = Int.toNat 0 by omega, upZ_s, ← e46]
  rfl
set_option maxHeartbeats 2000000 in
theorem ts_uproot0 {p0 p1 : Int} {s : MS} (hR : Rg s) (H : TS s Z0 (-1)) (hE : 3 ≤ gI s 581) (hp : 0 ≤ p0 ∧ p0 < 8) (hv : 0 ≤ gA s 60 p0.toNat) (h1 : R2 p1) : wp (m_x1_uproot p0 p1 s) (fun q => Rg q.2 ∧ (q.1 = 0 ∨ (q.1 = 1 ∧ TS q.2 Z0 (-1) ∧ RV s q.2 p0.toNat))) := by
  have hN48 : gI s 1060 ≤ 48 := H.1.1
  have zD : ∀ x, x < 48 → 0 ≤ Z0 x := fun x _ => Int.le_refl 0
  have zD' : ∀ x, x < 48 → 0 ≤ Z0 x ∧ Z0 x ≤ 10 := fun x _ => ⟨Int.le_refl 0, by show (0 : Int) ≤ 10; omega⟩
  have r60 := hR.2.1 60 p0.toNat (by show _ < 8; omega)
  have r60' : (-2 : Int) ≤ gA s 60 p0.toNat ∧ gA s 60 p0.toNat ≤ 253 := r60
  have rl := TG_root_live (v := p0.toNat) H zD (by omega) (by omega) (by omega)
  have L55 : ∀ (n : Nat) (b i : Int) (S : MS) (d : Nat) (P : Nat → Nat), Rg S → d ≤ 47 → (gI S 581 = gI s 581 ∧ RV s S p0.toNat) → (0 ≤ i ∧ i ≤ (d : Int)) → TS S Z0 (-1) → PathP S p0.toNat (d : Int) P i.toNat → b = (P i.toNat : Int) → (d : Int) - i < (n : Int) → wp (m_x1_uproot_L55 n p0 p1 (d : Int) b i S) (fun q => Rg q.2 ∧ (q.1 = 0 ∨ (q.1 = 1 ∧ TS q.2 Z0 (-1) ∧ RV s q.2 p0.toNat))) := by
    refine fr_ind (fun b i S d P hRS hd hES hi T hP hb hm => by exfalso; omega) (fun n ih b i S d P hRS hd hES hi T hP hb hm => ?_)
    show wp (m_x1_uproot_b55 (m_x1_uproot_L55 n) p0 p1 (d : Int) b i S) _
    unfold m_x1_uproot_b55
    refine wp_rg (by omega) (wp_rg (by omega) (wp_if (fun c1 => ?_) (fun c1 => ?_)))
    · have hid : i.toNat = d := by omega
      rw [hid] at hP
      refine wp_bn (ts_prune (s0 := s) hRS T hp hd hP h1 hES.2) (fun s11 e11 h11 => ?_)
      refine wp_bn (ts_lower h11.1 h11.2.1 hp h11.2.2) (fun s13 e13 h13 => ?_)
      exact wp_some ⟨h13.1, Or.inr ⟨rfl, h13.2⟩⟩
    · have hPi := hP.2.1 i.toNat (Nat.le_refl _)
      have hbe : b.toNat = P i.toNat := by omega
      have hN8 : gI S 1060 ≤ 48 := T.1.1
      have n6 : 0 ≤ gA S 57 (P i.toNat) ∧ gA S 57 (P i.toNat) ≤ 6 := (TG_nd T hPi.1 (by omega)).2.1
      have n1 : 1 ≤ gA S 57 (P i.toNat) := T.2.2.1.1 _ hPi.1 (by omega) (by omega)
      refine wp_bn (w_x8_entryFor hRS (by omega) (by rw [hbe]; omega) h1) (fun r15 e15 h15 => ?_)
      rw [hbe] at h15
      have k15 : 0 ≤ r15 ∧ r15 < gA S 57 (P i.toNat) := by omega
      refine wp_bn w_slot (fun r17 _ h17 => ?_)
      refine wp_rdIn (by omega) (fun y18 e18 => ?_)
      rw [show r17.toNat = 6 * P i.toNat + r15.toNat by omega] at e18
      have kid := TG_kid (p := P i.toNat) (k := r15.toNat) T zD hPi.1 (by omega) (by show 0 < gA S 56 (P i.toNat); omega) (by show ((r15.toNat : Nat) : Int) < gA S 57 (P i.toNat); omega)
      have v18 : (hN S).2.2 (P i.toNat) r15.toNat = y18 := e18
      rw [v18] at kid
      obtain ⟨⟨k0, k1⟩, k2, k3⟩ := kid
      have k2' : gA S 56 y18.toNat = gA S 56 (P i.toNat) - 1 := k2
      refine wp_bn (ts_owned hRS T zD' (by omega) (by omega) k3) (fun q21 e21 h21 => ?_)
      obtain ⟨r, o⟩ := q21
      dsimp only at h21 ⊢
      obtain ⟨hRo, Fo, h21⟩ := h21
      have hr2 : R2 r := by
        rcases h21 with h21 | ⟨w0, ⟨w1, _⟩, _⟩ <;> omega
      refine wp_rg hr2 (wp_if (fun c3 => wp_some ⟨hRo, Or.inl rfl⟩) (fun c3 => ?_))
      rcases h21 with h21 | ⟨r0, ⟨rq, rN⟩, ⟨o54, o55⟩, ⟨o56, o57⟩, oc, oh, oq, T1⟩
      · exact absurd h21 c3
      have nP : ∀ j, j ≤ i.toNat → P j ≠ y18.toNat := fun j hj z => by
        have := (hP.2.1 j hj).2.2.2
        rw [z] at this; omega
      have nQ : ∀ j, j ≤ i.toNat → P j ≠ r.toNat := fun j hj z => by
        rcases oq with oq | oq
        · exact nP j hj (by omega)
        · have := (hP.2.1 j hj).2.1
          rw [z] at this; omega
      have kP : ∀ j, j ≤ i.toNat → P j < 48 ∧ gA o 54 (P j) = 1 ∧ gA o 55 (P j) = 0 ∧ gA o 56 (P j) = (d : Int) - (j : Int) := fun j hj => by
        have w := hP.2.1 j hj
        have ob := oh (P j) w.1 (nQ j hj)
        rw [oc (P j) w.1 (by omega) (by omega) (nP j hj), Fo.2.1 55 (by decide), ob.1]
        exact w
      have ob := oh (P i.toNat) hPi.1 (nQ _ (Nat.le_refl _))
      have c59 : gA o 59 (6 * P i.toNat + r15.toNat) = y18 := by rw [(ob.2.2 r15.toNat (by omega)).2]; exact e18
      have kPi := kP i.toNat (Nat.le_refl _)
      have on : gI o 1060 = gI S 1060 := Fo.1 1060 (by decide)
      refine wp_bn (ts_set (p0 := b) (p1 := r15) (p2 := r) hRo T1 (by omega) (by rw [hbe]; omega) (by rw [hbe]; omega) (by rw [hbe, ob.2.1]; exact k15) (fun _ => ⟨by rw [on]; omega, by rw [hbe]; omega⟩) (by omega)) (fun s25 e25 h25 => ?_)
      obtain ⟨hR25, F25, u59, T2⟩ := h25
      rw [hbe] at u59 T2
      have T3 : TS s25 Z0 (-1) := by
        refine TG_D T2 (fun x hx => ?_)
        show (0 : Int) = 0 + (if x = r.toNat then 1 else 0) - (if x = y18.toNat then 1 else 0) + (if 0 < gA o 56 (P i.toNat) ∧ gA o 59 (6 * P i.toNat + r15.toNat) = (x : Int) then 1 else 0) - (if 0 < gA o 56 (P i.toNat) ∧ r = (x : Int) then 1 else 0)
        rw [c59]
        have hl : 0 < gA o 56 (P i.toNat) := by omega
        have e1 : (if 0 < gA o 56 (P i.toNat) ∧ y18 = (x : Int) then (1 : Int) else 0) = if x = y18.toNat then 1 else 0 := by
          by_cases z : x = y18.toNat
          · rw [if_pos z, if_pos ⟨hl, by omega⟩]
          · rw [if_neg z, if_neg (fun w => z (by omega))]
        have e2 : (if 0 < gA o 56 (P i.toNat) ∧ r = (x : Int) then (1 : Int) else 0) = if x = r.toNat then 1 else 0 := by
          by_cases z : x = r.toNat
          · rw [if_pos z, if_pos ⟨hl, by omega⟩]
          · rw [if_neg z, if_neg (fun w => z (by omega))]
        rw [e1, e2]; omega
      refine wp_inb (by omega) (wp_stn (fun s27 e27 => ?_))
      have hR27 : Rg s27 := e27 ▸ Rg.uAu hR25 (by show (0 : Int) ≤ r15 ∧ r15 ≤ 5; omega)
      have g51 : gA s27 51 = upZ (gA s25 51) i.toNat r15 := q_AA e27
      have kk : ∀ k, k ≠ 51 → gA s27 k = gA s25 k := fun k h => q_Aa e27 h
      have kI : ∀ k, gI s27 k = gI s25 k := fun k => q_Ai e27
      refine ih r (i + 1) s27 d (fun j => if j = i.toNat + 1 then r.toNat else P j) hR27 hd ?_ (by omega) ?_ ⟨?_, fun j hj => ?_, fun j hj => ?_⟩ ?_ (by omega)
      · exact ⟨by rw [kI, F25.1 581 (by decide), Fo.1 581 (by decide)]; exact hES.1, RV_eq hES.2 ((kk 60 (by decide)).trans ((F25.2.1 60 (by decide)).trans (Fo.2.1 60 (by decide))))⟩
      · exact TS_eq T3 (kk 54 (by decide)) (kk 55 (by decide)) (kk 56 (by decide)) (kk 57 (by decide)) (kk 58 (by decide)) (kk 59 (by decide)) (kk 60 (by decide)) (kk 61 (by decide)) (kI _) (kI _)
      · show gA s27 60 p0.toNat = ((if 0 = i.toNat + 1 then r.toNat else P 0 : Nat) : Int)
        rw [if_neg (by omega), kk 60 (by decide), F25.2.1 60 (by decide), Fo.2.1 60 (by decide)]
        exact hP.1
      · rw [kk 54 (by decide), kk 55 (by decide), kk 56 (by decide), F25.2.1 54 (by decide), F25.2.1 55 (by decide), F25.2.1 56 (by decide)]
        by_cases z : j = i.toNat + 1
        · try dsimp only
          rw [if_pos z]
          exact ⟨rq, o54, o55, by rw [o56]; omega⟩
        · try dsimp only
          rw [if_neg z]
          exact kP j (by omega)
      · try dsimp only
        rw [if_neg (show ¬ j = i.toNat + 1 by omega), g51, kk 57 (by decide), kk 59 (by decide), F25.2.1 57 (by decide), F25.2.1 51 (by decide)]
        by_cases z : j = i.toNat
        · rw [z, upZ_s, if_pos rfl, u59, upZ_s, ob.2.1]
          exact ⟨k15, by omega⟩
        · have w := hP.2.2 j (by omega)
          have w1 := hP.2.1 j (by omega)
          have oj := oh (P j) w1.1 (nQ j (by omega))
          have n6j : 0 ≤ gA S 57 (P j) ∧ gA S 57 (P j) ≤ 6 := (TG_nd T w1.1 (by omega)).2.1
          have nji : P j ≠ P i.toNat := fun q => by
            have a1 := w1.2.2.2
            have a2 := hPi.2.2.2
            rw [q] at a1; omega
          rw [upZ_n z, if_neg (show ¬ j + 1 = i.toNat + 1 by omega), Fo.2.1 51 (by decide), oj.2.1]
          refine ⟨w.1, ?_⟩
          rw [u59, upZ_n (by omega), (oj.2.2 _ (by omega)).2]
          exact w.2
      · try dsimp only
        rw [if_pos (show (i + 1).toNat = i.toNat + 1 by omega)]; omega
  unfold m_x1_uproot
  refine wp_rdIn (by omega) (fun y28 e28 => ?_)
  have e28' := e28
  rw [e28] at rl hv
  have hb48 : y28.toNat < 48 := by omega
  have lv : 0 ≤ gA s 56 y28.toNat ∧ gA s 56 y28.toNat ≤ 47 := TG_lev H zD hb48 rl.2
  refine wp_rdIn (by omega) (fun y29 e29 => ?_)
  refine wp_rdIn (by omega) (fun y30 e30 => ?_)
  have y30e : y30 = y28 := by rw [← e30, ← e28']
  rw [y30e]
  refine wp_bn (ts_owned hR H zD' (by omega) (by omega) rl.2) (fun q33 e33 h33 => ?_)
  obtain ⟨r, o⟩ := q33
  dsimp only at h33 ⊢
  obtain ⟨hRo, Fo, h33⟩ := h33
  have hr2 : R2 r := by
    rcases h33 with h33 | ⟨w0, ⟨w1, _⟩, _⟩ <;> omega
  refine wp_rg hr2 (wp_if (fun c3 => wp_some ⟨hRo, Or.inl rfl⟩) (fun c3 => ?_))
  rcases h33 with h33 | ⟨r0, ⟨rq, rN⟩, ⟨o54, o55⟩, ⟨o56, o57⟩, oc, oh, oq, T1⟩
  · exact absurd h33 c3
  refine wp_inb (by omega) (wp_stn (fun s37 e37 => ?_))
  have hR37 : Rg s37 := e37 ▸ Rg.uAu hRo (by show (-2 : Int) ≤ r ∧ r ≤ 253; omega)
  have g60 : gA s37 60 = upZ (gA o 60) p0.toNat r := q_AA e37
  have kk : ∀ k, k ≠ 60 → gA s37 k = gA o k := fun k h => q_Aa e37 h
  have kI : ∀ k, gI s37 k = gI o k := fun k => q_Ai e37
  have TR := TG_root (v := p0.toNat) (q := r) T1 (by omega) (Or.inl ⟨r0, by show r < gI o 1060; rw [Fo.1 1060 (by decide)]; omega⟩)
  have T2 : TS s37 Z0 (-1) := by
    refine TS_mk (TG_D TR (fun x hx => ?_)) (hN_eq (kk 56 (by decide)) (kk 57 (by decide)) (kk 59 (by decide))) (kN_eq (kk 58 (by decide))) (kI _) (kI _) (kk 54 (by decide)) (kk 55 (by decide)) g60 (kk 61 (by decide))
    show (0 : Int) = 0 + (if x = r.toNat then 1 else 0) - (if x = y28.toNat then 1 else 0) + (if gA o 60 p0.toNat = (x : Int) then 1 else 0) - (if r = (x : Int) then 1 else 0)
    rw [Fo.2.1 60 (by decide), e28']
    have e1 : (if y28 = (x : Int) then (1 : Int) else 0) = if x = y28.toNat then 1 else 0 := by
      by_cases z : x = y28.toNat
      · rw [if_pos z, if_pos (by omega)]
      · rw [if_neg z, if_neg (by omega)]
    have e2 : (if r = (x : Int) then (1 : Int) else 0) = if x = r.toNat then 1 else 0 := by
      by_cases z : x = r.toNat
      · rw [if_pos z, if_pos (by omega)]
      · rw [if_neg z, if_neg (by omega)]
    rw [e1, e2]; omega
  have hy29 : y29 = ((y29.toNat : Nat) : Int) := by omega
  rw [hy29]
  refine L55 FU r 0 s37 y29.toNat (fun _ => r.toNat) hR37 (by omega) ⟨by rw [kI, Fo.1 581 (by decide)], RV_up (S := o) (fun w _ => by rw [Fo.2.1 60 (by decide)]) g60 (by omega)⟩ (by omega) T2 ⟨?_, fun j hj => ?_, fun j hj => absurd hj (by omega)⟩ (by show r = ((r.toNat : Nat) : Int); omega) (by have := FU_big; omega)
  · rw [g60, upZ_s]; show r = ((r.toNat : Nat) : Int); omega
  · show r.toNat < 48 ∧ gA s37 54 r.toNat = 1 ∧ gA s37 55 r.toNat = 0 ∧ gA s37 56 r.toNat = ((y29.toNat : Nat) : Int) - (j : Int)
    rw [kk 54 (by decide), kk 55 (by decide), kk 56 (by decide)]
    exact ⟨rq, o54, o55, by rw [o56]; omega⟩
theorem ts_uproot {p0 p1 : Int} {s : MS} (hR : Rg s) (H : TS s Z0 (-1)) (hE : 3 ≤ gI s 581) (hp : 0 ≤ p0 ∧ p0 < 8) (hv : 0 ≤ gA s 60 p0.toNat) (h1 : R2 p1) : wp (m_x1_uproot p0 p1 s) (fun q => Rg q.2 ∧ F_x1_uproot s q.2 ∧ (q.1 = 0 ∨ (q.1 = 1 ∧ TS q.2 Z0 (-1) ∧ RV s q.2 p0.toNat))) := wp_eq (ts_uproot0 hR H hE hp hv h1) (fun q eq hq => ⟨hq.1, fr_x1_uproot eq, hq.2⟩)
