/-! ===== counts alone change, and roots: both sides stay alike ===== -/
theorem sim_fin {π σ : Nat → Nat} {s s' t t' : MS} (h : SIM π σ s t) (hK : KLV t) (a : ∀ k, 55 ≤ k → k ≤ 61 → k ≠ 60 → gA s' k = gA s k) (a2 : gI s' 1060 = gI s 1060) (a3 : gL s' 1062 = gL s 1062) (m1 : hM t' = hM t) (m2 : kM t' = kM t) (m4 : vM t' = vM t) (b2 : gA t' 39 5 = gA t 39 5) (b3 : gA t' 54 = gA t 54) (b8 : ∀ v, v < 8 → gA t' 49 (8 + v) = gA t 49 (8 + v)) (hr : ∀ v, v < 8 → rtr π (gA s' 60 v) (gA t' 49 v)) (l1 : ∀ x, x < 48 → 0 < gA s' 54 (π x) → LV t x) (l2 : ∀ x, x < 48 → 0 < cM t' x → 0 < cM t x) (S : TS s' Z0 (-1)) (T : TM t' d0 (-1)) : SIM π σ s' t' := by
  have hP := h.1.1
  have N := h.2.1
  have nb : hN s' = hN s := by
    unfold hN
    rw [a 56 (by decide) (by decide) (by decide), a 57 (by decide) (by decide) (by decide), a 59 (by decide) (by decide) (by decide)]
  have kb : kN s' = kN s := by
    unfold kN
    rw [a 58 (by decide) (by decide) (by decide)]
  have C : ∀ x, x < 48 → gA s' 54 (π x) = cM t' x := by
    refine cnt_det (h1 := hN s') (h2 := hM t') (k1 := kN s') (k2 := kM t') (r1 := gA s' 60) (r2 := rM t') (L := LV t) (E1 := fun x => Z0 (π x)) (E2 := d0) (by rw [← a2] at hP; exact hP) (by rw [a2, N, ← b2]; exact T.1.1) (fun x hx hl => ?_) (fun x hx => (S.1.2.1 x hx).1) (fun x hx => (T.1.2.1 x hx).1) l1 (fun x hx w => Or.inl (l2 x hx w)) (fun x hx => S.2.1.1 (π x) (hP x hx).1.1) (fun x hx => T.2.1.1 x hx) (fun _ _ => rfl) (fun v hv => by rw [rM_v hv]; exact hr v hv)
    have q := (hK.2.1 x hx hl).1
    rw [nb, kb, m1, m2, a2, N]
    exact ⟨sim_b h hx hl, q.1, q.2⟩
  have lv : ∀ x, x < 48 → (0 < cM t' x ∨ 0 < vM t' x) → LV t x := fun x hx w => by
    rcases w with w | w
    · exact Or.inl (l2 x hx w)
    · rw [m4] at w; exact Or.inr w
  refine ⟨⟨by rw [a2]; exact hP, fun x hx => ?_, fun x hx q => ?_, fun v hv => ?_⟩, by rw [a2, b2]; exact N, fun x hx q => ?_⟩
  · show gA s' 54 (π x) = cM t' x ∧ gA s' 55 (π x) = vM t' x
    rw [a 55 (by decide) (by decide) (by decide), m4]
    exact ⟨C x hx, (sim_c h hx).2⟩
  · show BR1 π (hN s') (hM t') (kN s') (kM t') x
    rw [nb, kb, m1, m2]
    exact sim_b h hx (lv x hx q)
  · show rtr π (gA s' 60 v) (gA t' 49 v) ∧ rtr π (gA s' 61 v) (gA t' 49 (8 + v))
    rw [a 61 (by decide) (by decide) (by decide), b8 v hv]
    exact ⟨hr v hv, (h.1.2.2.2 v hv).2⟩
  · rw [a3, b3]
    exact h.2.2 x hx (l2 x hx q)
/-- only counts and one root -/
def CXm (v : Nat) (t T : MS) : Prop := (∀ i, i ≠ v → (i < 17 ∨ i % 16 ≠ 1) → gA T 49 i = gA t 49 i) ∧ (∀ k, k ≠ 49 → gA T k = gA t k)
theorem CXm_h {v : Nat} {t T : MS} (hv : v < 8) (h : CXm v t T) : hM T = hM t ∧ kM T = kM t ∧ vM T = vM t := by
  have e : ∀ i, 17 < i → i % 16 ≠ 1 → gA T 49 i = gA t 49 i := fun i h1 h2 => h.1 i (by omega) (Or.inr h2)
  refine ⟨?_, ?_, ?_⟩
  · show ((fun p => gA T 49 (19 + 16 * p), fun p => gA T 49 (20 + 16 * p), fun p k => if k < 6 then gA T 49 (27 + 16 * p + k) else 0) : SH) = (fun p => gA t 49 (19 + 16 * p), fun p => gA t 49 (20 + 16 * p), fun p k => if k < 6 then gA t 49 (27 + 16 * p + k) else 0)
    have f1 : (fun p : Nat => gA T 49 (19 + 16 * p)) = fun p => gA t 49 (19 + 16 * p) := by
      funext p; exact e _ (by omega) (by omega)
    have f2 : (fun p : Nat => gA T 49 (20 + 16 * p)) = fun p => gA t 49 (20 + 16 * p) := by
      funext p; exact e _ (by omega) (by omega)
    have f3 : (fun p k : Nat => if k < 6 then gA T 49 (27 + 16 * p + k) else 0) = fun p k => if k < 6 then gA t 49 (27 + 16 * p + k) else 0 := by
      funext p k
      by_cases z : k < 6
      · rw [if_pos z, if_pos z]; exact e _ (by omega) (by omega)
      · rw [if_neg z, if_neg z]
    rw [f1, f2, f3]
  · funext p k
    show (if k < 6 then gA T 49 (21 + 16 * p + k) else 0) = if k < 6 then gA t 49 (21 + 16 * p + k) else 0
    by_cases z : k < 6
    · rw [if_pos z, if_pos z]; exact e _ (by omega) (by omega)
    · rw [if_neg z, if_neg z]
  · funext p
    exact e (18 + 16 * p) (by omega) (by omega)
def CXs (s S : MS) : Prop := (∀ k, k ≠ 54 → k ≠ 50 → k ≠ 60 → gA S k = gA s k) ∧ (∀ k, gI S k = gI s k) ∧ ∀ k, gL S k = gL s k
/-- a root with one child goes down: the walk -/
theorem y_lower_L {π σ : Nat → Nat} {s t : MS} {v : Nat} (h : SIM π σ s t) (hK : KLV t) (hv : v < 8) (hL : ∀ x, x < 48 → 0 < cM t x → 0 < (hM t).1 x → ∀ k : Nat, (k : Int) < (hM t).2.1 x → 0 < cM t ((hM t).2.2 x k).toNat) : ∀ (n m : Nat) (x3 : Int) (b : Nat) (S T : MS), b < 48 → 0 < cM t b → 0 ≤ x3 → x3 + (hM t).1 b ≤ 47 → CXs s S → CXm v t T → (∀ u, u ≠ v → gA S 60 u = gA s 60 u) → gA S 60 v = (π b : Int) → gA T 49 v = (b : Int) → (∀ x, x < 48 → 0 < gA S 54 (π x) → 0 < cM t x) → (∀ x, x < 48 → 0 < cM T x → 0 < cM t x) → pc (m_x1_lowerRoot_L2 n (v : Int) x3 S) (fun s' => pc (m_x12_lowers_L7 m (v : Int) (b : Int) T) (fun t' => ∃ b', b' < 48 ∧ 0 < cM t b' ∧ CXs s s' ∧ CXm v t t' ∧ (∀ u, u ≠ v → gA s' 60 u = gA s 60 u) ∧ gA s' 60 v = (π b' : Int) ∧ gA t' 49 v = (b' : Int) ∧ (∀ x, x < 48 → 0 < gA s' 54 (π x) → 0 < cM t x) ∧ ∀ x, x < 48 → 0 < cM t' x → 0 < cM t x)) := by
  have tv : ((v : Nat) : Int).toNat = v := Int.toNat_natCast _
  refine fr_ind (fun _ _ _ _ _ _ _ _ _ _ _ _ _ _ _ _ => pc_none) (fun n ih m x3 b S T hb hc h3 hl hS hT r60 rS rT s1 s2 => ?_)
  cases m with
  | zero => exact fun q _ => pc_none
  | succ m =>
    have tb : ((b : Nat) : Int).toNat = b := Int.toNat_natCast _
    have lb : LV t b := Or.inl hc
    have Bb := sim_b h hb lb
    have Kb := (hK.2.1 b hb lb).1
    have hP := h.1.1
    have pb48 := (hP b hb).1.1
    have tp : ((π b : Nat) : Int).toNat = π b := Int.toNat_natCast _
    obtain ⟨e1, e2, e3⟩ := CXm_h hv hT
    have l56 : gA S 56 (π b) = (hM t).1 b := by rw [hS.1 56 (by decide) (by decide) (by decide)]; exact Bb.1
    have z57 : gA S 57 (π b) = (hM t).2.1 b := by rw [hS.1 57 (by decide) (by decide) (by decide)]; exact Bb.2.1
    have done : ∀ (T' : MS), T' = T → ∃ b', b' < 48 ∧ 0 < cM t b' ∧ CXs s S ∧ CXm v t T' ∧ (∀ u, u ≠ v → gA S 60 u = gA s 60 u) ∧ gA S 60 v = (π b' : Int) ∧ gA T' 49 v = (b' : Int) ∧ (∀ x, x < 48 → 0 < gA S 54 (π x) → 0 < cM t x) ∧ ∀ x, x < 48 → 0 < cM T' x → 0 < cM t x := fun T' e => by
      rw [e]; exact ⟨b, hb, hc, hS, hT, r60, rS, rT, s1, s2⟩
    -- the reference's step
    have REF : ∀ Q : MS → Prop, (¬ (0 < (hM t).1 b ∧ (hM t).2.1 b = 1) → Q T) → (0 < (hM t).1 b → (hM t).2.1 b = 1 → ∀ T2 : MS, CXm v t T2 → gA T2 49 v = (hM t).2.2 b 0 → (∀ x, x < 48 → 0 < cM T2 x → 0 < cM t x) → pc (m_x12_lowers_L7 m (v : Int) ((hM t).2.2 b 0) T2) Q) → pc (m_x12_lowers_L7 (m + 1) (v : Int) (b : Int) T) Q := fun Q K0 K1 => by
      show pc (m_x12_lowers_b7 (m_x12_lowers_L7 m) (v : Int) (b : Int) T) Q
      unfold m_x12_lowers_b7 m_x12_lowers_J63 m_x12_lowers_J51
      refine pc_bq (m_lev (by omega)) (fun r11 h11 => ?_)
      rw [tb, e1] at h11
      rw [h11]
      refine pc_rg (pc_if (fun c => pc_some (K0 (fun w => by omega))) (fun c => pc_bq (m_ents (by omega)) (fun r15 h15 => ?_)))
      rw [tb, e1] at h15
      rw [h15]
      refine pc_rg (pc_if (fun c1 => pc_bq (m_val (by omega) (by decide)) (fun r19 h19 => ?_)) (fun c1 => pc_some (K0 (fun w => c1 w.2))))
      rw [tb, e1] at h19
      have h19' : r19 = (hM t).2.2 b 0 := h19
      have kid := (hK.2.1 b hb lb).2 (by omega) 0 (by omega)
      have kc := hL b hb hc (by omega) 0 (by omega)
      rw [h19']
      have cnt : ∀ (p : Nat) (d : Int) (X Y : MS), p < 48 → CXm v t X → m_x12_counts (p : Int) d X = some Y → CXm v t Y ∧ gA Y 49 v = gA X 49 v ∧ ∀ x, x ≠ p → cM Y x = cM X x := fun p d X Y hp hX eY => by
        obtain ⟨_, u1, u2, _⟩ := m_cntT Y eY
        rw [show (17 + 16 * (p : Int)).toNat = 17 + 16 * p by omega] at u1
        refine ⟨⟨fun i hi h2 => by rw [u1, upZ_n (by omega)]; exact hX.1 i hi h2, fun k hk => (u2 k hk).trans (hX.2 k hk)⟩, by rw [u1, upZ_n (by omega)], fun x hx => ?_⟩
        show gA Y 49 (17 + 16 * x) = gA X 49 (17 + 16 * x)
        rw [u1, upZ_n (by omega)]
      obtain ⟨y, hy⟩ : ∃ y, y = ((hM t).2.2 b 0).toNat := ⟨_, rfl⟩
      rw [← hy] at kid kc
      have yi : (hM t).2.2 b 0 = (y : Int) := by omega
      rw [yi]
      refine pc_bn (fun s21 e21 => ?_)
      obtain ⟨X1, X2, X3⟩ := cnt b (-1) T s21 hb hT e21
      have p21 : ∀ x, x < 48 → 0 < cM s21 x → 0 < cM t x := fun x hx w => by
        by_cases e : x = b
        · rw [e]; exact hc
        · rw [X3 x e] at w; exact s2 x hx w
      have fin : ∀ Z : MS, CXm v t Z → gA Z 49 v = gA T 49 v → (∀ x, x < 48 → 0 < cM Z x → 0 < cM t x) → pc (inb 906 (v : Int) (stn (sA Z 49 (upZ (gA Z 49) (Int.toNat (v : Int)) (y : Int))) (fun s9 => m_x12_lowers_L7 m (v : Int) (y : Int) s9))) Q := fun Z z1 z2 z3 => by
        refine pc_inb (pc_stn (fun s9 e9 => ?_))
        rw [tv] at e9
        have u9 : gA s9 49 = upZ (gA Z 49) v (y : Int) := q_AA e9
        have k := K1 (by omega) c1 s9 ⟨fun i hi h2 => by rw [u9, upZ_n hi]; exact z1.1 i hi h2, fun k hk => (q_Aa e9 hk).trans (z1.2 k hk)⟩ (by rw [u9, upZ_s, yi]) (fun x hx w => by
          have w' : 0 < gA s9 49 (17 + 16 * x) := w
          rw [u9, upZ_n (by omega)] at w'
          exact z3 x hx w')
        rw [yi] at k; exact k
      refine pc_bq (m_cnt (by omega)) (fun r23 h23 => pc_rg (pc_if (fun c5 => fin s21 X1 X2 p21) (fun c5 => pc_bn (fun s27 e27 => ?_))))
      obtain ⟨Y1, Y2, Y3⟩ := cnt y 1 s21 s27 (by omega) X1 e27
      exact fin s27 Y1 (Y2.trans X2) (fun x hx w => by
        by_cases e : x = y
        · rw [e]; exact kc
        · rw [Y3 x e] at w; exact p21 x hx w)
    show pc (m_x1_lowerRoot_b2 (m_x1_lowerRoot_L2 n) (v : Int) x3 S) _
    unfold m_x1_lowerRoot_b2 m_x1_lowerRoot_J48 m_x8_slot
    refine pc_rg (pc_if (fun c => absurd c (by have := Kb.1.1; omega)) (fun _ => pc_rdI (fun _ => ?_)))
    rw [tv, rS]
    refine pc_rg (pc_if (fun c => absurd c (by omega)) (fun _ => pc_rdI (fun _ => ?_)))
    rw [tp, l56]
    refine pc_rg (pc_if (fun c => pc_some (REF _ (fun _ => done T rfl) (fun w _ => by omega))) (fun c => pc_rdI (fun _ => ?_)))
    rw [tp, z57]
    refine pc_rg (pc_if (fun c1 => pc_bn (fun r17 e17 => ?_)) (fun c1 => pc_some (REF _ (fun _ => done T rfl) (fun _ w => absurd w c1))))
    cases e17
    have l0 := Kb.1.1
    have kid := (hK.2.1 b hb lb).2 (by omega) 0 (by omega)
    have kidN := (Kb.1.2.2 (by omega) 0 (by omega)).2
    have kc := hL b hb hc (by omega) 0 (by omega)
    have ev := (Bb.2.2 0 (by omega)).2.1 (by omega)
    obtain ⟨y, hy⟩ : ∃ y, y = ((hM t).2.2 b 0).toNat := ⟨_, rfl⟩
    rw [← hy] at kid kidN kc ev
    have yi : (hM t).2.2 b 0 = (y : Int) := by omega
    have y48 : y < 48 := by omega
    have tpy : ((π y : Nat) : Int).toNat = π y := Int.toNat_natCast _
    refine pc_rdI (fun _ => ?_)
    have ev' : gA S 59 ((π b : Int) * 6 + 0).toNat = (π y : Int) := by
      rw [show ((π b : Int) * 6 + 0).toNat = 6 * π b + 0 by omega, hS.1 59 (by decide) (by decide) (by decide)]
      exact ev
    rw [ev']
    refine pc_rdI (fun _ => pc_inb (pc_stn (fun s21 e21 => pc_inb (pc_stn (fun s23 e23 => pc_bq s_rel (fun q26 h26 => ?_))))))
    try rw [tpy] at e21
    try rw [tv] at e23
    have a54 : gA s21 54 = upZ (gA S 54) (π y) (gA S 54 (π y) + 1) := by
      have q : gA s21 54 = _ := q_AA e21
      (try rw [tpy] at q); exact q
    have A26 : ∀ k, k ≠ 54 → k ≠ 50 → k ≠ 60 → gA q26.2 k = gA S k := fun k k1 k2 k3 => (h26.2.1 k k1 k2).trans ((q_Aa e23 k3).trans (q_Aa e21 k1))
    have u60 : gA q26.2 60 = upZ (gA S 60) v (π y : Int) := by
      rw [h26.2.1 60 (by decide) (by decide), (q_AA e23 : gA s23 60 = _), (q_Aa e21 (by decide) : gA s21 60 = gA S 60)]
    refine fun q eq => REF _ (fun w => absurd ⟨by omega, c1⟩ w) (fun _ _ T2 X1 X2 X3 => ?_)
    rw [yi]
    rw [yi] at X2
    refine ih m (x3 + 1) y q26.2 T2 y48 kc (by omega) (by omega) ⟨fun k k1 k2 k3 => (A26 k k1 k2 k3).trans (hS.1 k k1 k2 k3), fun k => (h26.2.2.1 k).trans ((q_Ai e23).trans ((q_Ai e21).trans (hS.2.1 k))), fun k => (h26.2.2.2 k).trans ((q_Al e23).trans ((q_Al e21).trans (hS.2.2 k)))⟩ X1 (fun u hu => by rw [u60, upZ_n hu]; exact r60 u hu) (by rw [u60, upZ_s]) X2 (fun x hx w => ?_) X3 q eq
    have le := h26.1 (π x)
    rw [(q_Aa e23 (by decide) : gA s23 54 = gA s21 54), a54] at le
    by_cases e : π x = π y
    · rw [PB_i hP hx y48 e]; exact kc
    · rw [upZ_n e] at le
      exact s1 x hx (by omega)
theorem y_lower {π σ : Nat → Nat} {s t s0 t0 : MS} {v : Nat} {M : Nat → Nat → Int} (h : SIM π σ s t) (hR : Rg s) (hRt : Rr t) (S0 : TS s Z0 (-1)) (T0 : TM t d0 (-1)) (P : PM t v M d0 (-1)) (hv : v < 8) (hV : RV s0 s v) (hW : RWn t0 t v) : pc (m_x1_lowerRoot (v : Int) s) (fun s' => pc (m_x12_lowers (v : Int) t) (fun t' => SIM π σ s' t' ∧ CXm v t t' ∧ ∀ x, x < 48 → 0 < cM t' x → 0 < cM t x)) := by
  have tv : ((v : Nat) : Int).toNat = v := Int.toNat_natCast _
  have hK : KLV t := KLV_of T0 (fun _ _ => Int.le_refl 0)
  have r2 := hW.2
  obtain ⟨b, hb⟩ : ∃ b, b = (gA t 49 v).toNat := ⟨_, rfl⟩
  have bi : gA t 49 v = (b : Int) := by omega
  have b48 : b < 48 := by omega
  have rl := TG_root_live (v := v) T0 (fun _ _ => Int.le_refl 0) hv (by rw [rM_v hv]; omega) (by rw [rM_v hv]; omega)
  rw [rM_v hv, ← hb] at rl
  have rS : gA s 60 v = (π b : Int) := by
    rcases (h.1.2.2.2 v hv).1 with ⟨a, _⟩ | ⟨a, _⟩ | ⟨_, _, a⟩
    · omega
    · omega
    · rw [← hb] at a; exact a
  have lv := TG_lev T0 (fun _ _ => Int.le_refl 0) b48 rl.2
  have hL : ∀ x, x < 48 → 0 < cM t x → 0 < (hM t).1 x → ∀ k : Nat, (k : Int) < (hM t).2.1 x → 0 < cM t ((hM t).2.2 x k).toNat := fun x hx hc hl k hk => (TG_kid T0 (fun _ _ => Int.le_refl 0) hx hc hl hk).2.2
  have L := y_lower_L h hK hv hL FU FU 0 b s t b48 rl.2 (Int.le_refl 0) (by omega) ⟨fun _ _ _ _ => rfl, fun _ => rfl, fun _ => rfl⟩ ⟨fun _ _ _ => rfl, fun _ _ => rfl⟩ (fun _ _ => rfl) rS bi (fun x hx w => by rw [(sim_c h hx).1] at w; exact w) (fun _ _ w => w)
  intro s' es
  have W1 := wp_det (ts_lower (p0 := (v : Int)) hR S0 (s0 := s0) ⟨by omega, by omega⟩ (by rw [tv]; exact hV)) es
  have L' := L s' es
  have R : pc (m_x12_lowers (v : Int) t) (fun t' => ∃ b', b' < 48 ∧ 0 < cM t b' ∧ CXs s s' ∧ CXm v t t' ∧ (∀ u, u ≠ v → gA s' 60 u = gA s 60 u) ∧ gA s' 60 v = (π b' : Int) ∧ gA t' 49 v = (b' : Int) ∧ (∀ x, x < 48 → 0 < gA s' 54 (π x) → 0 < cM t x) ∧ ∀ x, x < 48 → 0 < cM t' x → 0 < cM t x) := by
    unfold m_x12_lowers
    refine pc_rdI (fun _ => ?_)
    rw [tv, bi]
    exact L'
  intro t' et
  have W2 := wp_det (mt_lowers (s0 := t0) hRt hv rfl T0 P hW) et
  obtain ⟨b', b48', cb', c1, c2, c3, c4, c5, c6, c7⟩ := R t' et
  obtain ⟨e1, e2, e3⟩ := CXm_h hv c2
  refine ⟨?_, c2, c7⟩
  refine sim_fin h hK (fun k k1 k2 k3 => c1.1 k (by omega) (by omega) k3) (c1.2.1 1060) (c1.2.2 1062) e1 e2 e3 (by rw [c2.2 39 (by decide)]) (c2.2 54 (by decide)) (fun u hu => c2.1 (8 + u) (by omega) (Or.inl (by omega))) (fun u hu => ?_) (fun x hx w => Or.inl (c6 x hx w)) c7 W1.2.1 W2.2.2.2.1.1
  by_cases z : u = v
  · rw [z, c4, c5]
    exact Or.inr (Or.inr ⟨by omega, by omega, by rw [Int.toNat_natCast]⟩)
  · rw [c3 u z, c2.1 u z (Or.inl (by omega))]
    exact (h.1.2.2.2 u hu).1
