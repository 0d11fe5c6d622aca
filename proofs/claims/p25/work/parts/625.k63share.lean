/-! ===== a volume is copied on both sides ===== -/
/-- one count more on both sides -/
theorem sim_inc {π σ : Nat → Nat} {s s' t t' : MS} {y : Nat} (h : SIM π σ s t) (hy : y < 48) (hc : 0 < cM t y) (a : ∀ k, 55 ≤ k → k ≤ 61 → gA s' k = gA s k) (a54 : gA s' 54 = upZ (gA s 54) (π y) (gA s 54 (π y) + 1)) (a2 : gI s' 1060 = gI s 1060) (a3 : gL s' 1062 = gL s 1062) (b : gA t' 49 = upZ (gA t 49) (17 + 16 * y) (gA t 49 (17 + 16 * y) + 1)) (b2 : gA t' 39 5 = gA t 39 5) (b3 : gA t' 54 = gA t 54) : SIM π σ s' t' := by
  obtain ⟨⟨p, c, l, r⟩, n, w⟩ := h
  have e1 : hB s' 54 = hB s 54 := by
    unfold hB
    rw [a (54 + 2) (by decide) (by decide), a (54 + 3) (by decide) (by decide), a (54 + 5) (by decide) (by decide)]
  have e2 : kB s' 54 = kB s 54 := by
    unfold kB
    rw [a (54 + 4) (by decide) (by decide)]
  have ne : ∀ i, i ≠ 17 + 16 * y → gA t' 49 i = gA t 49 i := fun i hi => by rw [b, upZ_n hi]
  have vE : ∀ x, vM t' x = vM t x := fun x => ne (18 + 16 * x) (by omega)
  have cE : ∀ x, x ≠ y → cM t' x = cM t x := fun x hx => ne (17 + 16 * x) (by omega)
  have cy : cM t' y = cM t y + 1 := by
    show gA t' 49 (17 + 16 * y) = gA t 49 (17 + 16 * y) + 1
    rw [b, upZ_s]
  have hE : ∀ x, (hM t').1 x = (hM t).1 x ∧ (hM t').2.1 x = (hM t).2.1 x ∧ ∀ k, (hM t').2.2 x k = (hM t).2.2 x k ∧ kM t' x k = kM t x k := fun x => by
    refine ⟨ne (19 + 16 * x) (by omega), ne (20 + 16 * x) (by omega), fun k => ?_⟩
    show (if k < 6 then gA t' 49 (27 + 16 * x + k) else 0) = (if k < 6 then gA t 49 (27 + 16 * x + k) else 0) ∧ (if k < 6 then gA t' 49 (21 + 16 * x + k) else 0) = if k < 6 then gA t 49 (21 + 16 * x + k) else 0
    by_cases z : k < 6
    · rw [if_pos z, if_pos z, if_pos z, if_pos z, ne _ (by omega), ne _ (by omega)]
      exact ⟨rfl, rfl⟩
    · rw [if_neg z, if_neg z, if_neg z, if_neg z]
      exact ⟨rfl, rfl⟩
  have lv : ∀ x, (0 < cM t' x ∨ 0 < vM t' x) → 0 < cM t x ∨ 0 < vM t x := fun x q => by
    by_cases e : x = y
    · rw [e]; exact Or.inl hc
    · rw [cE x e, vE x] at q; exact q
  refine ⟨⟨by rw [a2]; exact p, fun x hx => ?_, fun x hx q => ?_, fun v hv => ?_⟩, by rw [a2, b2]; exact n, fun x hx q => ?_⟩
  · have cc := c x hx
    show gA s' 54 (π x) = cM t' x ∧ gA s' 55 (π x) = vM t' x
    rw [a54, a 55 (by decide) (by decide), vE]
    refine ⟨?_, cc.2⟩
    by_cases e : x = y
    · rw [e, upZ_s, cy]
      rw [e] at cc
      have q : gA s 54 (π y) = cM t y := cc.1
      rw [q]
    · rw [upZ_n (fun w => e (PB_i p hx hy w)), cE x e]; exact cc.1
  · have B := l x hx (lv x q)
    show BR1 π (hB s' 54) (hM t') (kB s' 54) (kM t') x
    rw [e1, e2]
    obtain ⟨B1, B2, B3⟩ := B
    have g := hE x
    refine ⟨B1.trans g.1.symm, B2.trans g.2.1.symm, fun k hk => ?_⟩
    rw [g.2.1] at hk
    rw [g.1, (g.2.2 k).1, (g.2.2 k).2]
    exact B3 k hk
  · show rtr π (gA s' 60 v) (gA t' 49 v) ∧ rtr π (gA s' 61 v) (gA t' 49 (8 + v))
    rw [a 60 (by decide) (by decide), a 61 (by decide) (by decide), ne v (by omega), ne (8 + v) (by omega)]
    exact r v hv
  · rw [a3, b3]
    refine w x hx ?_
    by_cases e : x = y
    · rw [e]; exact hc
    · rw [← cE x e]; exact q
theorem y_share {π σ : Nat → Nat} {s t : MS} {u v : Nat} (h : SIM π σ s t) (hu : u < 8) (hv : v < 8) (hl : 0 ≤ gA t 49 u → gA t 49 u < 254 → gA t 49 u < 48 ∧ 0 < cM t (gA t 49 u).toNat) (h5 : gA t 49 u ≠ 255) : pc (m_x1_share (u : Int) (v : Int) s) (fun s' => pc (m_x12_copies (u : Int) (v : Int) t) (fun t' => SIM π σ s' t')) := by
  have tu : ((u : Nat) : Int).toNat = u := Int.toNat_natCast _
  have tv : ((v : Nat) : Int).toNat = v := Int.toNat_natCast _
  have R := (h.1.2.2.2 u hu).1
  have re := rtr_e R
  unfold m_x1_share m_x1_share_J52
  refine pc_rdI (fun _ => pc_inb (pc_stn (fun s4 e4 => pc_rdI (fun _ => ?_))))
  rw [tu, tv] at e4
  have k60 : gA s4 60 = upZ (gA s 60) v (gA s 60 u) := q_AA e4
  have ru : gA s4 60 u = gA s 60 u := by
    rw [k60]
    by_cases z : u = v
    · rw [z, upZ_s]
    · rw [upZ_n z]
  rw [tu, ru]
  have A4 : ∀ k, k ≠ 60 → gA s4 k = gA s k := fun k hk => q_Aa e4 hk
  -- the reference up to its root
  have REF : ∀ Q : MS → Prop, (∀ T4 : MS, sA t 49 (upZ (gA t 49) v (gA t 49 u)) = T4 → (gA t 49 u = 254 → Q T4) ∧ (gA t 49 u ≠ 254 → ∀ T10 : MS, m_x12_counts (gA t 49 u) 1 T4 = some T10 → Q T10)) → pc (m_x12_copies (u : Int) (v : Int) t) Q := fun Q K => by
    unfold m_x12_copies m_x12_copies_J35
    refine pc_rdI (fun _ => pc_inb (pc_stn (fun T4 f4 => pc_rdI (fun _ => ?_))))
    rw [tu, tv] at f4
    have u4 : gA T4 49 v = gA t 49 u := by rw [(q_AA f4 : gA T4 49 = _), upZ_s]
    rw [tv, u4]
    refine pc_rg (pc_if (fun c => pc_some ((K T4 f4).1 c)) (fun c => pc_rdI (fun _ => ?_)))
    rw [tv, u4]
    exact pc_bn (fun T10 f10 => pc_some ((K T4 f4).2 c T10 f10))
  have ROOT : ∀ T4 : MS, sA t 49 (upZ (gA t 49) v (gA t 49 u)) = T4 → SIM π σ s4 T4 := fun T4 f4 => sim_root h hv (fun k _ _ k3 => A4 k k3) k60 (q_Ai e4) (q_Al e4) (q_AA f4) (by rw [q_Aa f4 (by decide)]) (q_Aa f4 (by decide)) R
  refine pc_rg (pc_if (fun c => pc_some (REF _ (fun T4 f4 => ⟨fun _ => ROOT T4 f4, fun w => absurd (re.2.1.1 c) w⟩))) (fun c => pc_rdI (fun _ => ?_)))
  rw [tu, ru]
  rcases R with ⟨a, b⟩ | ⟨a, _⟩ | ⟨a, a', b⟩
  · exact absurd b c
  · exact absurd a h5
  obtain ⟨y, hy⟩ : ∃ y, y = (gA t 49 u).toNat := ⟨_, rfl⟩
  rw [← hy] at b
  have yv : gA t 49 u = (y : Int) := by omega
  have L := hl a (by omega)
  rw [← hy] at L
  have y48 : y < 48 := by omega
  have tpy : ((π y : Nat) : Int).toNat = π y := Int.toNat_natCast _
  rw [b]
  refine pc_rdI (fun _ => pc_inb (pc_stn (fun s11 e11 => pc_some (REF _ (fun T4 f4 => ⟨fun w => by omega, fun _ T10 f10 => ?_⟩)))))
  try rw [tpy] at e11
  obtain ⟨_, u1, u2, u3⟩ := m_cntT T10 f10
  rw [yv, show (17 + 16 * (y : Int)).toNat = 17 + 16 * y by omega] at u1
  have c4 : cM T4 y = cM t y := by
    show gA T4 49 (17 + 16 * y) = gA t 49 (17 + 16 * y)
    rw [(q_AA f4 : gA T4 49 = _), upZ_n (by omega)]
  have a54 : gA s11 54 = upZ (gA s4 54) (π y) (gA s4 54 (π y) + 1) := by
    have q : gA s11 54 = _ := q_AA e11
    try rw [tpy] at q
    exact q
  exact sim_inc (ROOT T4 f4) y48 (by rw [c4]; exact L.2) (fun k k1 k2 => q_Aa e11 (by omega)) a54 (q_Ai e11) (q_Al e11) u1 (by rw [u2 39 (by decide)]) (u2 54 (by decide))
