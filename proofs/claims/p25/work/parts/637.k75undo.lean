/-! ===== the latest ACT is undone, on both sides ===== -/
theorem m_undo9 {t : MS} : pc (m_x12_undo t) (fun q => (gI t 76 = 0 ∧ q.1 = 0 ∧ gA q.2 9 = upZ (gA t 9) 4 (gA t 9 4 + 1)) ∨ (gI t 76 ≠ 0 ∧ q.1 = 1 ∧ gA q.2 9 = gA t 9)) := by
  have L : ∀ (n : Nat) (x : Int) (S : MS), gA S 9 = gA t 9 → pc (m_x12_undo_L21 n x S) (fun q => q.1 = 1 ∧ gA q.2 9 = gA t 9) := by
    refine fr_ind (fun _ _ _ => pc_none) (fun n ih x S h => ?_)
    show pc (m_x12_undo_b21 (m_x12_undo_L21 n) x S) _
    unfold m_x12_undo_b21
    exact pc_rg (pc_if (fun _ => pc_dv (pc_stn (fun s6 e6 => pc_stn (fun s7 e7 => pc_some ⟨rfl, (q_Ia e7).trans ((q_Ia e6).trans h)⟩)))) (fun _ => pc_rdI (fun _ => pc_inb (pc_stn (fun s10 e10 => ih _ s10 ((q_Aa e10 (by decide)).trans h))))))
  unfold m_x12_undo
  exact pc_rg (pc_if (fun c => pc_rdI (fun _ => pc_inb (pc_stn (fun s15 e15 => pc_some (Or.inl ⟨c, rfl, q_AA e15⟩))))) (fun c => pc_mono (L FU 0 t rfl) (fun q h => Or.inr ⟨c, h⟩)))
theorem JI_76 {t : MS} (h : JI t) (h0 : gI t 76 ≠ 0) : GA t := by
  rcases h.2.2.2 with ⟨_, _, a⟩ | ⟨a, b, c⟩
  · exact absurd a h0
  · exact ⟨b, c, h.1.1, h.1.2⟩
set_option maxHeartbeats 1000000 in
theorem y_undo {s t : MS} {ts : List MS} (hC : CI s ts) (hRR : Rr t) (hJ : JI t) (B : BT s ts t) (h47 : gI t 47 = gI s 12) : pc (m_x11_undo ts s) (fun q => pc (m_x12_undo t) (fun o => q.1 = o.1 ∧ BT q.2.1 q.2.2 o.2)) := by
  have e76 : gI t 76 = gI s 145 ∧ (gI s 145 ≠ 0 → gI s 143 ≠ 0) := by
    by_cases z : gI s 12 = 0
    · have a : gI s 145 = 0 := by
        rcases hC.2.2.1 with ⟨_, a, _⟩ | ⟨a, _⟩
        · exact a
        · omega
      rcases hJ.2.2.2 with ⟨_, _, b⟩ | ⟨b, _⟩
      · exact ⟨b.trans a.symm, fun w => absurd a w⟩
      · omega
    · obtain ⟨_, _, h1, n, d, h2, h3, _⟩ := B.2.2.2 z
      exact ⟨h1, fun w => by omega⟩
  unfold m_x11_undo
  refine pc_rg (pc_rg (pc_if (fun c => pc_bn (fun q4 e4 => pc_some ?_)) (fun c => pc_stn (fun s2 e2 => pc_inb (pc_if (fun c2 => pc_bn (fun s3 e3 => pc_some ?_)) (fun _ => pc_none))))))
  · have d0 : gI s 145 = 0 := by
      rcases c with c | c
      · exact c
      · exact Classical.byContradiction (fun w => e76.2 w c)
    intro o eo
    have F1 : F_x11_refuse s q4.2 := fr_x11_refuse e4
    have F2 : F_x12_undo t o.2 := fr_x12_undo eo
    have g1 : pc (m_x11_refuse 4 s) (fun q => gA q.2 2 = upZ (gA s 2) 4 (gA s 2 4 + 1)) := by
      unfold m_x11_refuse
      exact pc_rdI (fun _ => pc_inb (pc_stn (fun s3 e3 => pc_some (q_AA e3))))
    have x2 := g1 q4 e4
    have t0 : gI t 76 = 0 := e76.1.trans d0
    rcases m_undo9 o eo with ⟨_, o1, o9⟩ | ⟨a, _⟩
    rotate_left
    · exact absurd t0 a
    obtain ⟨_, W⟩ := wp_det (w_x12_undo hRR) eo
    rcases W with ⟨_, w1, w2, w3⟩ | ⟨w0, _⟩
    rotate_left
    · omega
    refine ⟨o1.symm, BT_k B (fun k hk => F1.1 k (by simp)) (fun k hk => F1.2.1 k (by simp; omega)) (fun k hk => ?_) (fun k hk => ?_) (by rw [F1.1 983 (by simp), F2.2.2.1 78 (by simp)]; exact B.1) (fun k hk => ?_)⟩
    · rcases hk with hk | hk
      · rw [hk]; exact w2
      · rw [hk]; exact w3
    · rcases hk with hk | hk | hk
      · rw [hk]; exact F2.2.1 39 (by decide)
      · rw [hk]; exact w1
      · rw [hk]; exact F2.2.1 75 (by decide)
    · show gA q4.2 2 k = gA o.2 9 k
      rw [x2, o9]
      by_cases z : k = 4
      · rw [z, upZ_s, upZ_s, B.2.1 4 (by decide)]
      · rw [upZ_n z, upZ_n z]; exact B.2.1 k hk
  · have c145 : gI s 145 ≠ 0 := fun z => c (Or.inl z)
    have c76 : gI t 76 ≠ 0 := by rw [e76.1]; exact c145
    have ht : gI s 12 ≠ 0 := fun z => by
      rcases hC.2.2.1 with ⟨_, a, _⟩ | ⟨a, _⟩
      · exact c145 a
      · omega
    obtain ⟨hN, hR0, h1, n, d, ⟨n1, n2⟩, ⟨d1, d2, d3⟩, kp, past⟩ := B.2.2.2 ht
    have i145 : gI s2 145 = (d : Int) - 1 := by
      rw [← e2]
      show (if 145 = 143 then gI s 143 - 1 else if 145 = 145 then gI s 145 - 1 else gI s 145) = (d : Int) - 1
      rw [if_neg (by decide), if_pos rfl, d1]
    have i143 : gI s2 143 = (n : Int) - 1 := by
      rw [← e2]
      show (if 143 = 143 then gI s 143 - 1 else if 143 = 145 then gI s 145 - 1 else gI s 143) = (n : Int) - 1
      rw [if_pos rfl, n1]
    have i2' : ∀ k, k ≠ 145 → k ≠ 143 → gI s2 k = gI s k := fun k k1 k2 => by
      rw [← e2]
      show (if k = 143 then gI s 143 - 1 else if k = 145 then gI s 145 - 1 else gI s k) = gI s k
      rw [if_neg k2, if_neg k1]
    have a2' : ∀ k, gA s2 k = gA s k := fun k => by rw [← e2]; rfl
    have l2' : ∀ k, gL s2 k = gL s k := fun k => by rw [← e2]; rfl
    have d0 : 1 ≤ d := by omega
    have td : (gI s2 145).toNat = d - 1 := by omega
    rw [td] at c2 e3
    obtain ⟨X, x1, x2, ⟨π, σ, lo, hi, x3, x4⟩, x5⟩ := past 0 (by omega)
    have gX : ts.getD (d - 1) s2 = X := by
      have q : ts[d - 1]? = some X := x1
      rw [List.getD_eq_getElem?_getD, q]; rfl
    rw [gX] at e3
    have hX : X ∈ ts := by
      have q : ts[d - 1]? = some X := x1
      exact List.mem_of_getElem? q
    have RBX := hC.2.2.2.2.1 X hX
    have hR2 : Rg s2 := by
      have q1 : Rg (sI s 145 (gI s 145 - 1)) := Rg.uI hC.1 (by show (0 : Int) ≤ gI s 145 - 1 ∧ gI s 145 - 1 ≤ 20; omega)
      rw [← e2]
      exact Rg.uI q1 (by show (0 : Int) ≤ gI s 143 - 1 ∧ gI s 143 - 1 ≤ 60; omega)
    have hRX : Rg (setB s2 X) := Rg_setB hR2 RBX
    obtain ⟨R3, F3, B3⟩ := wp_det (b_P hRX) e3
    intro o eo
    have F2 : F_x12_undo t o.2 := fr_x12_undo eo
    rcases m_undo9 o eo with ⟨a, _⟩ | ⟨_, o1, o9⟩
    · exact absurd a c76
    obtain ⟨_, W⟩ := wp_det (w_x12_undo hRR) eo
    rcases W with ⟨w0, _⟩ | ⟨_, w1, w2, w3, w4⟩
    · omega
    have r77 : (0 : Int) ≤ gI t 77 ∧ gI t 77 ≤ 19 := hRR.1 77
    have pos : ((gI t 77 - ((0 : Nat) : Int)) % 20).toNat = (gI t 77).toNat := by omega
    rw [pos] at x3 x4 x5
    -- the state that comes back
    have fA : ∀ k, ¬ (62 ≤ k ∧ k ≤ 70) → ¬ (54 ≤ k ∧ k ≤ 61) → gA (setB s3 s2) k = gA s k := fun k k1 k2 => by
      rw [setB_A k1, F3.2.1 k (by simp; omega), setB_A k1]; exact a2' k
    have fI : ∀ k, k < 1000 → gI (setB s3 s2) k = gI s2 k := fun k hk => by
      rw [setB_I (by omega), F3.1 k (by simp; omega), setB_I (by omega)]
    have f54 : ∀ k, 54 ≤ k → k ≤ 61 → gA (setB s3 s2) k = gA s3 k := fun k k1 k2 => setB_A (by omega)
    have f1060 : gI (setB s3 s2) 1060 = gI X 1240 := by
      rw [setB_I (by omega), B3.2.2.2.1]
      show gI (setB s2 X) 1240 = gI X 1240
      rw [gI_setB, if_pos (by omega)]
    have G0 := JI_76 hJ c76
    have GS : GN (sA t 49 (slot t (gI t 77).toNat)) := by
      have q := (G0.2.1 0 (by omega)).1
      rw [pos] at q; exact q
    have hKS : KLV (sA t 49 (slot t (gI t 77).toNat)) := KLV_of GS.1.1.1 (fun _ _ => Int.le_refl 0)
    have zz : ∀ x, x < 48 → 0 < cR (slot t (gI t 77).toNat) x ∨ 0 < vR (slot t (gI t 77).toNat) x → (hR (slot t (gI t 77).toNat)).2.1 x ≤ 6 := fun x hx l => (hKS.2.1 x hx l).1.1.2.1.2
    have P1 : TRf π σ (gI X 1240) (setB s2 X) 63 (slot t (gI t 77).toNat) := TRf_rows x3 (fun k k1 k2 => by rw [gA_setB, if_pos (by omega)])
    have P2 : TRf π σ (gI X 1240) (setB s3 s2) 54 (gA o.2 49) := TRf_r (TRf_rows (TRf_c P1 B3 zz) (fun k k1 k2 => f54 k k1 (by omega))) (fun k hk => w2 k (by omega))
    have O2 : OI o.2 lo hi := OI_785 x4 (fun k hk => w2 k (by omega))
    have o39 : gA o.2 39 = gA t 39 := F2.2.1 39 (by decide)
    have o75 : gA o.2 75 = gA t 75 := F2.2.1 75 (by decide)
    have sl : ∀ p, slot o.2 p = slot t p := fun p => by unfold slot; rw [o75]
    refine ⟨o1.symm, ?_, fun k hk => ?_, fun z => ?_, fun _ => ⟨by rw [f1060, x2, o39], ⟨π, σ, lo, hi, by rw [f1060]; exact P2, O2⟩, ?_, n - 1, d - 1, ⟨?_, by omega⟩, ⟨?_, by omega, by omega⟩, ?_, fun i hi' => ?_⟩⟩
    · show gI (setB s3 s2) 983 = gL o.2 78
      rw [fI 983 (by decide), i2' 983 (by decide) (by decide), F2.2.2.1 78 (by simp)]; exact B.1
    · show gA (setB s3 s2) 2 k = gA o.2 9 k
      rw [fA 2 (by decide) (by decide), o9]; exact B.2.1 k hk
    · exfalso
      have z' : gI (setB s3 s2) 12 = 0 := z
      rw [fI 12 (by decide), i2' 12 (by decide) (by decide)] at z'
      exact ht z'
    · show gI o.2 76 = gI (setB s3 s2) 145
      rw [w3, fI 145 (by decide), i145, e76.1, d1]
    · show gI (setB s3 s2) 143 = ((n - 1 : Nat) : Int)
      rw [fI 143 (by decide), i143]; omega
    · show gI (setB s3 s2) 145 = ((d - 1 : Nat) : Int)
      rw [fI 145 (by decide), i145]; omega
    · show KP (gA (setB s3 s2) 8) (gA (setB s3 s2) 9) (gA (setB s3 s2) 10) (n - 1) (gA o.2 49)
      rw [fA 8 (by decide) (by decide), fA 9 (by decide) (by decide), fA 10 (by decide) (by decide)]
      exact KP_f x5 (fun i _ hi' => w2 i hi')
    · obtain ⟨X', y1, y2, ⟨π', σ', lo', hi2, y3, y4⟩, y5⟩ := past (i + 1) (by omega)
      have p2 : ((gI o.2 77 - (i : Int)) % 20).toNat = ((gI t 77 - ((i + 1 : Nat) : Int)) % 20).toNat := by rw [w4]; omega
      refine ⟨X', ?_, by rw [y2, o39], ⟨π', σ', lo', hi2, by rw [p2, sl]; exact y3, ?_⟩, ?_⟩
      · show (ts.set (gI s2 145).toNat s3)[d - 1 - 1 - i]? = some X'
        rw [td, List.getElem?_set_ne (by omega), show d - 1 - 1 - i = d - 1 - (i + 1) by omega]
        exact y1
      · rw [p2, sl]; exact OI_49 y4 rfl
      · show KP (gA (setB s3 s2) 8) (gA (setB s3 s2) 9) (gA (setB s3 s2) 10) (n - 1 - 1 - i) _
        rw [fA 8 (by decide) (by decide), fA 9 (by decide) (by decide), fA 10 (by decide) (by decide), p2, sl, show n - 1 - 1 - i = n - 1 - (i + 1) by omega]
        exact y5
