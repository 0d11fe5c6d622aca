/-! ===== a volume is copied on both sides ===== -/
/-- one count more on both sides -/
theorem sim_inc {π σ : Nat → Nat} {s s' t t' : MS} {y : Nat} (h : SIM π σ s t) (hy : y < 48) (hc : 0 < cM t y) (a : ∀ k, 55 ≤ k → k ≤ 61 → gA s' k = gA s k) (a54 : gA s' 54 = upZ (gA s 54) (π y) (gA s 54 (π y) + 1)) (a2 : gI s' 1060 = gI s 1060) (a3 : gL s' 1062 = gL s 1062) (b : gA t' 49 = upZ (gA t 49) (17 + 16 * y) (gA t 49 (17 + 16 * y) + 1)) (b2 : gA t' 39 5 = gA t 39 5) (b3 : gA t' 54 = gA t 54) : SIM π σ s' t' := by
  obtain ⟨⟨p, c, l, r⟩, n, w⟩ := h
  have e1 : hB s' 54 = hB s 54 := by
    unfold hB
    rw [a (54 + 2) (by decide) (by decide), a (54 + 3) (by decide) (by decide), a (54 + 5) (by decide) (by decide)]
  have e2 : kB s' 54 = kB s 54 := by
    unfold kB
    rw [a (54 + 4) (by decide) (by decide)]
  have ne : ∀ i, i ≠ 17 + 16 * y → gA t' 49 i = gA t 49 i := fun i hi => by rw [b, upZ_n hi]
  have vE : ∀ x, vM t' x = vM t x := fun x => ne (18 + 16 * x) (by omega)
  have cE : ∀ x, x ≠ y → cM t' x = cM t x := fun x hx => ne (17 + 16 * x) (by omega)
  have cy : cM t' y = cM t y + 1 := by
    show gA t' 49 (17 + 16 * y) = gA t 49 (17 + 16 * y) + 1
    rw [b, upZ_s]
  have hE : ∀ x, (hM t').1 x = (hM t).1 x ∧ (hM t').2.1 x = (hM t).2.1 x ∧ ∀ k, (hM t').2.2 x k = (hM t).2.2 x k ∧ kM t' x k = kM t x k := fun x => by
    refine ⟨ne (19 + 16 * x) (by omega), ne (20 + 16 * x) (by omega), fun k => ?_⟩
    show (if k < 6 then gA t' 49 (27 + 16 * x + k) else 0) = (if k < 6 then gA t 49 (27 + 16 * x + k) else 0) ∧ (if k < 6 then gA t' 49 (21 + 16 * x + k) else 0) = if k < 6 then gA t 49 (21 + 16 * x + k) else 0
    by_cases z : k < 6
    · rw [if_pos z, if_pos z, if_pos z, if_pos z, ne _ (by omega), ne _ (by omega)]
      exact ⟨rfl, rfl⟩
    · rw [if_neg z, if_neg z, if_neg z, if_neg z]
      exact ⟨rfl, rfl⟩
  have lv : ∀ x, (0 < cM t' x ∨ 0 < vM t' x) → 0 < cM t x ∨ 0 < vM t x := fun x q => by
    by_cases e : x = y
    · rw [e]; exact Or.inl hc
    · rw [cE x e, vE x] at q; exact q
  refine ⟨⟨by rw [a2]; exact p, fun x hx => ?_, fun x hx q => ?_, fun v hv => ?_⟩, by rw [a2, b2]; exact n, fun x hx q => ?_⟩
  · have cc := c x hx
    show gA s' 54 (π x) = cM t' x ∧ gA s' 55 (π x) = vM t' x
    rw [a54, a 55 (by decide) (by decide), vE]
    refine ⟨?_, cc.2⟩
    by_cases e : x = y
    · rw [e, upZ_s, cy]
      rw [e] at cc
      have q : gA s 54 (π y) = cM t y := cc.1
      rw [q]
    · rw [upZ_n (fun w => e (PB_i p hx hy w)), cE x e]; exact cc.1
  · have B := l x hx (lv x q)
    show BR1 π (hB s' 54) (hM t') (kB s' 54) (kM t') x
    rw [e1, e2]
    obtain ⟨B1, B2, B3⟩ := B
    have g := hE x
    refine ⟨B1.trans g.1.symm, B2.trans g.2.1.symm, fun k hk => ?_⟩
    rw [g.2.1] at hk
    rw [g.1, (g.2.2 k).1, (g.2.2 k).2]
    exact B3 k hk
  · show rtr π (gA s' 60 v) (gA t' 49 v) ∧ rtr π (gA s' 61 v) (gA t' 49 (8 + v))
    rw [a 60 (by decide) (by decide), a 61 (by decide) (by decide), ne v (by omega), ne (8 + v) (by omega)]
    exact r v hv
  · rw [a3, b3]
    refine w x hx ?_
    by_cases e : x = y
    · rw [e]; exact hc
    · rw [← cE x e]; exact q
theorem y_share {π σ : Nat → Nat} {s t : MS} {u v : Nat} (h : SIM π σ s t) (hu : u < 8) (hv : v < 8) (hl : 0 ≤ gA t 49 u → gA t 49 u < 254 → gA t 49 u < 48 ∧ 0 < cM t (gA t 49 u).toNat) (h5 : gA t 49 u ≠ 255) : pc (m_x1_share (u : Int) (v : Int) s) (fun s' => pc (m_x12_copies (u : Int) (v : Int) t) (fun t' => SIM π σ s' t')) := by
  have tu : ((u : Nat) : Int).toNat = u := Int.toNat_natCast _
  have tv : ((v : Nat) : Int).toNat = v := Int.toNat_natCast _
  have R := (h.1.2.2.2 u hu).1
  have re := rtr_e R
  unfold m_x1_share m_x1_share_J52
  refine pc_rdI (fun _ => pc_inb (pc_stn (fun s4 e4 => pc_rdI (fun _ => ?_))))
  rw [tu, tv] at e4
  have k60 : gA s4 60 = upZ (gA s 60) v (gA s 60 u) := q_AA e4
  have ru : gA s4 60 u = gA s 60 u := by
    rw [k60]
    by_cases z : u = v
    · rw [z, upZ_s]
    · rw [upZ_n z]
  rw [tu, ru]
  have A4 : ∀ k, k ≠ 60 → gA s4 k = gA s k := fun k hk => q_Aa e4 hk
  -- the reference up to its root
  have REF : ∀ Q : MS → Prop, (∀ T4 : MS, sA t 49 (upZ (gA t 49) v (gA t 49 u)) = T4 → (gA t 49 u = 254 → Q T4) ∧ (gA t 49 u ≠ 254 → ∀ T10 : MS, m_x12_counts (gA t 49 u) 1 T4 = some T10 → Q T10)) → pc (m_x12_copies (u : Int) (v : Int) t) Q := fun Q K => by
    unfold m_x12_copies m_x12_copies_J35
    refine pc_rdI (fun _ => pc_inb (pc_stn (fun T4 f4 => pc_rdI (fun _ => ?_))))
    rw [tu, tv] at f4
    have u4 : gA T4 49 v = gA t 49 u := by rw [(q_AA f4 : gA T4 49 = _), upZ_s]
    rw [tv, u4]
    refine pc_rg (pc_if (fun c => pc_some ((K T4 f4).1 c)) (fun c => pc_rdI (fun _ => ?_)))
    rw [tv, u4]
    exact pc_bn (fun T10 f10 => pc_some ((K T4 f4).2 c T10 f10))
  have ROOT : ∀ T4 : MS, sA t 49 (upZ (gA t 49) v (gA t 49 u)) = T4 → SIM π σ s4 T4 := fun T4 f4 => sim_root h hv (fun k _ _ k3 => A4 k k3) k60 (q_Ai e4) (q_Al e4) (q_AA f4) (by rw [q_Aa f4 (by decide)]) (q_Aa f4 (by decide)) R
  refine pc_rg (pc_if (fun c => pc_some (REF _ (fun T4 f4 => ⟨fun _ => ROOT T4 f4, fun w => absurd (re.2.1.1 c) w⟩))) (fun c => pc_rdI (fun _ => ?_)))
  rw [tu, ru]
  rcases R with ⟨a, b⟩ | ⟨a, _⟩ | ⟨a, a', b⟩
  · exact absurd b c
  · exact absurd a h5
  obtain ⟨y, hy⟩ : ∃ y, y = (gA t 49 u).toNat := ⟨_, rfl⟩
  rw [← hy] at b
  have yv : gA t 49 u = (y : Int) := by omega
  have L := hl a (by omega)
  rw [← hy] at L
  have y48 : y < 48 := by omega
  have tpy : ((π y : Nat) : Int).toNat = π y := Int.toNat_natCast _
  rw [b]
  refine pc_rdI (fun _ => pc_inb (pc_stn (fun s11 e11 => pc_some (REF _ (fun T4 f4 => ⟨fun w => by omega, fun _ T10 f10 => ?_⟩)))))
  try rw [tpy] at e11
  obtain ⟨_, u1, u2, u3⟩ := m_cntT T10 f10
  rw [yv, show (17 + 16 * (y : Int)).toNat = 17 + 16 * y by omega] at u1
  have c4 : cM T4 y = cM t y := by
    show gA T4 49 (17 + 16 * y) = gA t 49 (17 + 16 * y)
    rw [(q_AA f4 : gA T4 49 = _), upZ_n (by omega)]
  have a54 : gA s11 54 = upZ (gA s4 54) (π y) (gA s4 54 (π y) + 1) := by
    have q : gA s11 54 = _ := q_AA e11
    try rw [tpy] at q
    exact q
  exact sim_inc (ROOT T4 f4) y48 (by rw [c4]; exact L.2) (fun k k1 k2 => q_Aa e11 (by omega)) a54 (q_Ai e11) (q_Al e11) u1 (by rw [u2 39 (by decide)]) (u2 54 (by decide))
/-! ===== a volume is dropped on both sides ===== -/
theorem s_drop {v : Nat} {s : MS} : pc (m_x1_letGo (v : Int) s) (fun o => (∀ b, gA o 54 b ≤ gA s 54 b) ∧ (∀ k, k ≠ 54 → k ≠ 50 → k ≠ 60 → gA o k = gA s k) ∧ (∀ k, gI o k = gI s k) ∧ (∀ k, gL o k = gL s k) ∧ gA o 60 = upZ (gA s 60) v (-2)) := by
  have tv : ((v : Nat) : Int).toNat = v := Int.toNat_natCast _
  have J : ∀ S : MS, DCs s S → pc (m_x1_letGo_J34 (v : Int) S) (fun o => (∀ b, gA o 54 b ≤ gA s 54 b) ∧ (∀ k, k ≠ 54 → k ≠ 50 → k ≠ 60 → gA o k = gA s k) ∧ (∀ k, gI o k = gI s k) ∧ (∀ k, gL o k = gL s k) ∧ gA o 60 = upZ (gA s 60) v (-2)) := fun S H => by
    unfold m_x1_letGo_J34
    refine pc_inb (pc_stn (fun s4 e4 => pc_some ?_))
    try rw [tv] at e4
    exact ⟨fun b => by rw [(q_Aa e4 (by decide) : gA s4 54 = gA S 54)]; exact H.1 b, fun k k1 k2 k3 => (q_Aa e4 k3).trans (H.2.1 k k1 k2), fun k => (q_Ai e4).trans (H.2.2.1 k), fun k => (q_Al e4).trans (H.2.2.2 k), by rw [(q_AA e4 : gA s4 60 = _), H.2.1 60 (by decide) (by decide)]⟩
  unfold m_x1_letGo
  exact pc_rdI (fun _ => pc_rg (pc_if (fun _ => J s ⟨fun _ => Int.le_refl _, fun _ _ _ => rfl, fun _ => rfl, fun _ => rfl⟩) (fun _ => pc_rdI (fun _ => pc_bq s_rel (fun q11 h11 => J q11.2 h11)))))
theorem m_drop {v : Nat} {t : MS} (hv : v < 8) : pc (m_x12_drops (v : Int) t) (fun o => (∀ x, cM o x ≤ cM t x) ∧ (∀ i, 17 < i → i % 16 ≠ 1 → gA o 49 i = gA t 49 i) ∧ (∀ k, k ≠ 49 → k ≠ 56 → gA o k = gA t k) ∧ gA o 49 v = 255) := by
  have tv : ((v : Nat) : Int).toNat = v := Int.toNat_natCast _
  have J : ∀ T : MS, DCm t T → pc (m_x12_drops_J22 (v : Int) T) (fun o => (∀ x, cM o x ≤ cM t x) ∧ (∀ i, 17 < i → i % 16 ≠ 1 → gA o 49 i = gA t 49 i) ∧ (∀ k, k ≠ 49 → k ≠ 56 → gA o k = gA t k) ∧ gA o 49 v = 255) := fun T H => by
    unfold m_x12_drops_J22
    refine pc_inb (pc_stn (fun s4 e4 => pc_some ?_))
    try rw [tv] at e4
    have u : gA s4 49 = upZ (gA T 49) v 255 := q_AA e4
    refine ⟨fun x => ?_, fun i h1 h2 => ?_, fun k k1 k2 => (q_Aa e4 k1).trans (H.2.2.1 k k1 k2), by rw [u, upZ_s]⟩
    · show gA s4 49 (17 + 16 * x) ≤ gA t 49 (17 + 16 * x)
      rw [u, upZ_n (by omega)]; exact H.1 _
    · rw [u, upZ_n (by omega)]; exact H.2.1 i h2
  unfold m_x12_drops
  exact pc_rdI (fun _ => pc_rg (pc_if (fun _ => J t ⟨fun _ => Int.le_refl _, fun _ _ => rfl, fun _ _ _ => rfl, fun _ => rfl⟩) (fun _ => pc_rdI (fun _ => pc_bq m_falls (fun s10 h10 => J s10 h10)))))
theorem hM_785 {t o : MS} (h : ∀ i, 17 < i → i % 16 ≠ 1 → gA o 49 i = gA t 49 i) : hM o = hM t ∧ kM o = kM t ∧ vM o = vM t := by
  refine ⟨?_, ?_, ?_⟩
  · show ((fun p => gA o 49 (19 + 16 * p), fun p => gA o 49 (20 + 16 * p), fun p k => if k < 6 then gA o 49 (27 + 16 * p + k) else 0) : SH) = (fun p => gA t 49 (19 + 16 * p), fun p => gA t 49 (20 + 16 * p), fun p k => if k < 6 then gA t 49 (27 + 16 * p + k) else 0)
    have f1 : (fun p : Nat => gA o 49 (19 + 16 * p)) = fun p => gA t 49 (19 + 16 * p) := by
      funext p; exact h _ (by omega) (by omega)
    have f2 : (fun p : Nat => gA o 49 (20 + 16 * p)) = fun p => gA t 49 (20 + 16 * p) := by
      funext p; exact h _ (by omega) (by omega)
    have f3 : (fun p k : Nat => if k < 6 then gA o 49 (27 + 16 * p + k) else 0) = fun p k => if k < 6 then gA t 49 (27 + 16 * p + k) else 0 := by
      funext p k
      by_cases z : k < 6
      · rw [if_pos z, if_pos z]; exact h _ (by omega) (by omega)
      · rw [if_neg z, if_neg z]
    rw [f1, f2, f3]
  · funext p k
    show (if k < 6 then gA o 49 (21 + 16 * p + k) else 0) = if k < 6 then gA t 49 (21 + 16 * p + k) else 0
    by_cases z : k < 6
    · rw [if_pos z, if_pos z]; exact h _ (by omega) (by omega)
    · rw [if_neg z, if_neg z]
  · funext p
    exact h (18 + 16 * p) (by omega) (by omega)
theorem y_dropT {π σ : Nat → Nat} {s s' t t' : MS} {v : Nat} (h : SIM π σ s t) (hK : KLV t) (hv : v < 8) (e1 : m_x1_letGo (v : Int) s = some s') (e2 : m_x12_drops (v : Int) t = some t') (hr : ∀ u, u < 16 → u ≠ v → gA t' 49 u = gA t 49 u) (S : TS s' Z0 (-1)) (T : TM t' d0 (-1)) : SIM π σ s' t' := by
  obtain ⟨a1, a2, a3, a4, a5⟩ := s_drop s' e1
  obtain ⟨b1, b2, b3, b4⟩ := m_drop hv t' e2
  obtain ⟨m1, m2, m3⟩ := hM_785 b2
  refine sim_fin h hK (fun k k1 k2 k3 => a2 k (by omega) (by omega) k3) (a3 1060) (a4 1062) m1 m2 m3 (by rw [b3 39 (by decide) (by decide)]) (b3 54 (by decide) (by decide)) (fun u hu => hr (8 + u) (by omega) (by omega)) (fun u hu => ?_) (fun x hx w => ?_) (fun x hx w => Int.lt_of_lt_of_le w (b1 x)) S T
  · by_cases z : u = v
    · rw [z, a5, upZ_s, b4]
      exact Or.inr (Or.inl ⟨rfl, rfl⟩)
    · rw [a5, upZ_n z, hr u (by omega) z]
      exact (h.1.2.2.2 u hu).1
  · have q := a1 (π x)
    rw [(sim_c h hx).1] at q
    exact Or.inl (by omega)
/-! ===== to remove, on both sides: the way back up ===== -/
theorem TM_z {t : MS} {D : Nat → Int} {e : Int} (T : TM t D e) {x : Nat} (hx : x < 48) (hl : LV t x) : Nd (hM t) (gA t 39 5) x := by
  rcases hl with hc | hc
  · exact TG_nd T hx hc
  · exact TG_nd (TG_ss T) hx hc
/-- keys rise in what is in use -/
theorem OI_SOk {t : MS} {lo hi D : Nat → Int} {e : Int} (H : OI t lo hi) (T : TM t D e) (hD : ∀ x, x < 48 → 0 ≤ D x) {x : Nat} (hx : x < 48) (hc : 0 < cM t x) : SO (kM t x) 1 ((hM t).2.1 x) := by
  have hN := T.1.1
  by_cases w : 0 < (hM t).1 x
  · refine SO_step (fun k k1 k2 => ?_)
    have c := (H x hx (Or.inl hc)).2.2 w k (by omega)
    have kid := TG_kid T hD hx hc w (k := k) (by omega)
    have y := (H _ (by omega) (Or.inl kid.2.2)).1
    have c1 := c.2.1 k1
    have c2 := c.2.2 k2
    omega
  · have q := ((H x hx (Or.inl hc)).2.1 (by omega)).1
    exact fun i j _ hij hj => q i j (Nat.zero_le _) hij hj
/-- an entry goes -/
theorem OI_del {t o : MS} {lo hi : Nat → Int} {b k : Nat} (H : OI t lo hi) (hb : b < 48) (lb : LV t b) (hs : SO (kM t b) 1 ((hM t).2.1 b)) (hk : (k : Int) < (hM t).2.1 b) (I : DelE t o b k) : OI o lo hi := fun x hx hl => by
  obtain ⟨B, z, i1, i3⟩ := I
  have hl' : LV t x := by
    unfold LV at hl ⊢
    rw [← BX_c B, ← BX_v B]; exact hl
  by_cases e : x = b
  · rw [e]
    have c := H b hb lb
    refine ⟨c.1, fun w => ?_, fun w j hj => ?_⟩
    · rw [BX_l B] at w
      have c2 := c.2.1 w
      rw [z]
      refine ⟨SO_step (fun j _ hj => ?_), fun j hj => ?_⟩
      · by_cases g : j + 1 < k
        · rw [(i1 j (by omega)).2, (i1 (j + 1) g).2]
          exact c2.1 j (j + 1) (Nat.zero_le _) (by omega) (by omega)
        · by_cases g2 : j < k
          · rw [(i1 j g2).2, (i3 (j + 1) (by omega) (by omega)).2]
            exact c2.1 j (j + 1 + 1) (Nat.zero_le _) (by omega) (by omega)
          · rw [(i3 j (by omega) (by omega)).2, (i3 (j + 1) (by omega) (by omega)).2]
            exact c2.1 (j + 1) (j + 1 + 1) (Nat.zero_le _) (by omega) (by omega)
      · by_cases g : j < k
        · rw [(i1 j g).2, (i1 j g).1]; exact c2.2 j (by omega)
        · rw [(i3 j (by omega) (by omega)).2, (i3 j (by omega) (by omega)).1]; exact c2.2 (j + 1) (by omega)
    · rw [BX_l B] at w
      rw [z] at hj ⊢
      have c2 := c.2.2 w
      by_cases g : j + 1 < k
      · rw [(i1 j (by omega)).1, (i1 j (by omega)).2, (i1 (j + 1) g).2]
        have q := c2 j (by omega)
        exact ⟨q.1, q.2.1, fun _ => q.2.2 (by omega)⟩
      · by_cases g2 : j < k
        · rw [(i1 j g2).1, (i1 j g2).2]
          have q := c2 j (by omega)
          refine ⟨q.1, q.2.1, fun u => ?_⟩
          rw [(i3 (j + 1) (by omega) (by omega)).2]
          have q2 := q.2.2 (by omega)
          have r := hs (j + 1) (j + 1 + 1) (by omega) (by omega) (by omega)
          omega
        · rw [(i3 j (by omega) (by omega)).1, (i3 j (by omega) (by omega)).2]
          have q := c2 (j + 1) (by omega)
          refine ⟨q.1, fun _ => q.2.1 (by omega), fun u => ?_⟩
          rw [(i3 (j + 1) (by omega) (by omega)).2]
          exact q.2.2 (by omega)
  · exact OBk_r (H x hx hl') (ROW_bx B e) ⟨Int.le_refl _, Int.le_refl _⟩ (fun _ _ _ => ⟨Int.le_refl _, Int.le_refl _⟩)
/-- rows stay, who stands stood -/
theorem OI_h {t o : MS} {lo hi : Nat → Int} (H : OI t lo hi) (e1 : hM o = hM t) (e2 : kM o = kM t) (l : ∀ x, x < 48 → LV o x → LV t x) : OI o lo hi := OI_same H (fun x hx hl => ⟨l x hx hl, Or.inl ⟨by rw [e1], by rw [e1], fun k => by rw [e1, e2]; exact ⟨rfl, rfl⟩⟩⟩)
/-- a count falls to none on both sides -/
theorem sim_kill {π σ : Nat → Nat} {s s' t t' : MS} {b : Nat} (h : SIM π σ s t) (hb : b < 48) (a : ∀ k, 55 ≤ k → k ≤ 61 → gA s' k = gA s k) (a54 : gA s' 54 = upZ (gA s 54) (π b) 0) (a2 : gI s' 1060 = gI s 1060) (a3 : gL s' 1062 = gL s 1062) (X : CX t t') (c : cM t' = upZ (cM t) b 0) (b2 : gA t' 39 5 = gA t 39 5) (b3 : gA t' 54 = gA t 54) : SIM π σ s' t' := by
  have hP := h.1.1
  have nb : hN s' = hN s := by
    unfold hN
    rw [a 56 (by decide) (by decide), a 57 (by decide) (by decide), a 59 (by decide) (by decide)]
  have kb : kN s' = kN s := by
    unfold kN
    rw [a 58 (by decide) (by decide)]
  refine ⟨⟨by rw [a2]; exact hP, fun x hx => ?_, fun x hx q => ?_, fun v hv => ?_⟩, by rw [a2, b2]; exact h.2.1, fun x hx q => ?_⟩
  · show gA s' 54 (π x) = cM t' x ∧ gA s' 55 (π x) = vM t' x
    rw [a54, a 55 (by decide) (by decide), c, CX_v X]
    refine ⟨?_, (sim_c h hx).2⟩
    by_cases z : x = b
    · rw [z, upZ_s, upZ_s]
    · rw [upZ_n z, upZ_n (fun w => z (PB_i hP hx hb w))]
      exact (sim_c h hx).1
  · show BR1 π (hN s') (hM t') (kN s') (kM t') x
    rw [nb, kb, CX_h X, CX_k X]
    have q' : 0 < cM t' x ∨ 0 < vM t' x := q
    rw [c, CX_v X] at q'
    refine sim_b h hx ?_
    rcases q' with w | w
    · by_cases z : x = b
      · rw [z, upZ_s] at w; exact absurd w (by decide)
      · rw [upZ_n z] at w; exact Or.inl w
    · exact Or.inr w
  · show rtr π (gA s' 60 v) (gA t' 49 v) ∧ rtr π (gA s' 61 v) (gA t' 49 (8 + v))
    rw [a 60 (by decide) (by decide), a 61 (by decide) (by decide), CX_u X (show v < 17 by omega), CX_u X (show 8 + v < 17 by omega)]
    exact h.1.2.2.2 v hv
  · have q' : 0 < cM t' x := q
    rw [c] at q'
    rw [a3, b3]
    have z : x ≠ b := fun z => by rw [z, upZ_s] at q'; omega
    rw [upZ_n z] at q'
    exact h.2.2 x hx q'
/-- an empty BLOCK goes, and the entry to it: the reference's trees -/
theorem r_prune {S s25 s29 : MS} {v b i : Nat} {M : Nat → Nat → Int} {L : Int} (hv : v < 8) (hRS : Rr S) (TS : TM S d0 (b : Int)) (PS : PM S v M d0 (b : Int)) (hO : OB_r S v M (b : Int) (L - (i : Int))) (hY : WY S v M L (b : Int) (i : Int)) (hz : (hM S).2.1 b = 0) (hi : 0 < i) (e25 : m_x12_counts (b : Int) (-1) S = some s25) (e29 : m_x12_cutsEntry (gA s25 57 (i - 1)) (gA s25 58 (i - 1)) s25 = some s29) : ((Rr s25 ∧ F_x12_counts S s25) ∧ CX S s25 ∧ cM s25 = upZ (cM S) b 0) ∧ (Rr s29 ∧ F_x12_cutsEntry s25 s29 ∧ DelE s25 s29 (gA S 57 (i - 1)).toNat (gA S 58 (i - 1)).toNat) ∧ ∃ M', TM s29 d0 (gA S 57 (i - 1)) ∧ PM s29 v M' d0 (gA S 57 (i - 1)) ∧ OB_r s29 v M' (gA S 57 (i - 1)) (L - ((i - 1 : Nat) : Int)) ∧ WY s29 v M' L (gA S 57 (i - 1)) ((i - 1 : Nat) : Int) := by
  have tb : ((b : Nat) : Int).toNat = b := Int.toNat_natCast _
  obtain ⟨⟨hb, bc, bv⟩, bl, bm, bmu⟩ := hO
  try rw [tb] at bc
  try rw [tb] at bv
  try rw [tb] at bl
  try rw [tb] at bm
  try rw [tb] at bmu
  have b48 : b < 48 := by omega
  have W25 := wp_det (w_x12_counts hRS (p0 := (b : Int)) (p1 := -1) hb (by rw [tb]; omega) (by omega)) e25
  try rw [tb] at W25
  obtain ⟨hR25, u25⟩ := W25
  obtain ⟨x25, c25⟩ := M_cnt b48 u25
  have F25 : F_x12_counts S s25 := fr_x12_counts e25
  have c25' : cM s25 = upZ (cM S) b 0 := by rw [c25, bc]; rfl
  obtain ⟨T1, P1⟩ := MT_kill (b := b) TS PS (by omega) b48 bc bm hz x25 c25' (F25.2.1 39 (by decide))
  have a57 : gA s25 57 = gA S 57 := F25.2.1 57 (by decide)
  have a58 : gA s25 58 = gA S 58 := F25.2.1 58 (by decide)
  have U1 : UP S s25 v M (upM M v (upZ (M v) b 0)) (L - (i : Int)) := fun x hx hc hlx => by
    have ne : x ≠ b := fun z => by rw [z] at hlx; omega
    refine ⟨⟨by rw [c25', upZ_n ne], by rw [CX_v x25], by rw [CX_h x25], by rw [CX_h x25], fun k _ => by rw [CX_h x25]⟩, fun u => ?_⟩
    by_cases z : u = v
    · rw [z, upM_s, upZ_n ne]
    · rw [upM_n z]
  have Y1 := WY_up hY (T_6 TS) a57 a58 (CX_u x25 (by omega)) U1 (Int.le_refl _)
  have yl := Y1.1 (i - 1) (by omega)
  rw [if_pos (by omega), a57, a58] at yl
  rw [a57, a58] at e29
  obtain ⟨y, hy⟩ : ∃ y, y = gA S 57 (i - 1) := ⟨_, rfl⟩
  obtain ⟨k, hk⟩ : ∃ k, k = gA S 58 (i - 1) := ⟨_, rfl⟩
  rw [← hy, ← hk] at yl e29 ⊢
  obtain ⟨yo, yk, ye⟩ := yl
  obtain ⟨⟨ya, yc, yv⟩, yL, ym, ymu⟩ := yo
  have y48 : y.toNat < 48 := by omega
  have n6 := T_6 T1 y.toNat y48 yc
  obtain ⟨hR29, F29, k', k1, k2, D29⟩ := wp_det (w_x12_cutsEntry hR25 ya (by omega) (by omega)) e29
  have kk : k' = k.toNat := k2 (by omega)
  rw [kk] at D29
  obtain ⟨T2, P2⟩ := MT_del (b := y.toNat) (k := k.toNat) T1 P1 D29 (F29.2.1 39 (by decide)) (by omega) y48 (by omega) (by omega) (by omega) (fun u hu hn => by rw [ymu u hu hn]; omega) (by omega)
  have dd : ∀ x : Nat, x < 48 → d0 x = 0 - dq b x + (if 0 < (hM s25).1 y.toNat ∧ (hM s25).2.2 y.toNat k.toNat = (x : Int) then 1 else 0) := fun x hx => by
    show (0 : Int) = _
    rw [ye]
    have lp : 0 < (hM s25).1 y.toNat := by
      have := (TG_nd TS b48 (by omega)).1
      omega
    by_cases z : (b : Int) = (x : Int)
    · rw [if_pos ⟨lp, z⟩]; unfold dq; rw [if_pos (by omega)]; omega
    · rw [if_neg (fun w => z w.2)]; unfold dq; rw [if_neg (by omega)]; omega
  have iB := D29.1
  have T3 : TM s29 d0 y := by
    have := TG_D T2 dd
    rw [show ((y.toNat : Nat) : Int) = y by omega] at this
    exact this
  have P3 : PM s29 v (upM M v (upZ (M v) b 0)) d0 y := by
    have := PM_D P2 dd
    rw [show ((y.toNat : Nat) : Int) = y by omega] at this
    exact this
  have Y2 : WY s25 v (upM M v (upZ (M v) b 0)) L y ((i - 1 : Nat) : Int) := by
    refine ⟨fun j hj => ?_, ?_⟩
    · obtain ⟨q1, q2, q3⟩ := Y1.1 j (by omega)
      refine ⟨q1, q2, ?_⟩
      rw [if_neg (by omega)] at q3
      rw [q3]
      by_cases w : (j : Int) + 1 = ((i - 1 : Nat) : Int)
      · rw [if_pos w, show j + 1 = i - 1 by omega, a57]; exact hy.symm
      · rw [if_neg w]
    · rw [Y1.2, if_neg (by omega)]
      by_cases w : ((i - 1 : Nat) : Int) = 0
      · rw [if_pos w, show (0 : Nat) = i - 1 by omega, a57]; exact hy.symm
      · rw [if_neg w]
  have U2 : UP s25 s29 v (upM M v (upZ (M v) b 0)) (upM M v (upZ (M v) b 0)) (L - ((i - 1 : Nat) : Int)) := UP_BX iB (by omega)
  have Y3 := WY_up Y2 (T_6 T1) (F29.2.1 57 (by decide)) (F29.2.1 58 (by decide)) (BX_u iB (by omega)) U2 (Int.le_refl _)
  exact ⟨⟨⟨hR25, F25⟩, x25, c25'⟩, ⟨hR29, F29, D29⟩, _, T3, P3, ⟨⟨ya, by rw [BX_c iB]; exact yc, by rw [BX_v iB]; exact yv⟩, by rw [BX_l iB, yL], ym, ymu⟩, Y3⟩
theorem s_prEnd {v x : Int} {S : MS} (hx : x < 0) : ∀ n, pc (m_x1_prune_L98 n v x S) (fun o => o = S) := by
  intro n
  cases n with
  | zero => exact pc_none
  | succ n =>
    show pc (m_x1_prune_b98 (m_x1_prune_L98 n) v x S) _
    unfold m_x1_prune_b98 m_x1_prune_J186
    exact pc_rg (pc_if (fun _ => pc_some rfl) (fun c => absurd hx c))
theorem s_lowE {v : Nat} {S : MS} (hr : gA S 60 v = -1) : pc (m_x1_lowerRoot (v : Int) S) (fun o => o = S) := by
  have tv : ((v : Nat) : Int).toNat = v := Int.toNat_natCast _
  have L : ∀ n, pc (m_x1_lowerRoot_L2 n (v : Int) 0 S) (fun o => o = S) := fun n => by
    cases n with
    | zero => exact pc_none
    | succ n =>
      show pc (m_x1_lowerRoot_b2 (m_x1_lowerRoot_L2 n) (v : Int) 0 S) _
      unfold m_x1_lowerRoot_b2 m_x1_lowerRoot_J48
      refine pc_rg (pc_if (fun _ => pc_some rfl) (fun _ => pc_rdI (fun _ => ?_)))
      rw [tv, hr]
      exact pc_rg (pc_if (fun _ => pc_some rfl) (fun c => absurd rfl c))
  unfold m_x1_lowerRoot
  exact L FU
/-- both sides on the way back up -/
def PRJ (t0 : MS) (v : Nat) (L : Int) (π σ : Nat → Nat) (lo hi : Nat → Int) (b i : Nat) (S T : MS) : Prop := SIM π σ S T ∧ (Rg S ∧ Rr T) ∧ KS t0 T ∧ (gI T 55 = 0 ∧ RWn t0 T v ∧ i ≤ 47) ∧ (∃ M, TM T d0 (b : Int) ∧ PM T v M d0 (b : Int) ∧ OB_r T v M (b : Int) (L - (i : Int)) ∧ WY T v M L (b : Int) (i : Int)) ∧ (gA S 50 i = (π b : Int) ∧ ∀ j, j < i → gA S 50 j = (π (gA T 57 j).toNat : Int) ∧ gA S 51 j = gA T 58 j) ∧ OI T lo hi
set_option maxHeartbeats 4000000 in
theorem y_prune_L {s0 t0 : MS} {v : Nat} {L : Int} {π σ : Nat → Nat} {lo hj : Nat → Int} (hv : v < 8) : ∀ (n m i b : Nat) (S T : MS), PRJ t0 v L π σ lo hj b i S T → pc (m_x1_prune_L98 n (v : Int) (i : Int) S) (fun s11 => ∀ s13, Rg s11 → TS s11 Z0 (-1) → RV s0 s11 v → m_x1_lowerRoot (v : Int) s11 = some s13 → pc (m_x12_removes_L137 m (v : Int) (b : Int) (i : Int) T) (fun t' => SIM π σ s13 t' ∧ OI t' lo hj ∧ gI t' 55 = 0)) := by
  have tv : ((v : Nat) : Int).toNat = v := Int.toNat_natCast _
  refine fr_ind (fun _ _ _ _ _ _ => pc_none) (fun n ih m i b S T G => ?_)
  cases m with
  | zero => exact fun q _ s13 _ _ _ _ => pc_none
  | succ m =>
    obtain ⟨h, ⟨hR, hRt⟩, hKS, ⟨h55, hW, hi⟩, ⟨M, TT, P, hO, hY⟩, ⟨c50, cj⟩, hOI⟩ := G
    have hO0 := hO
    obtain ⟨⟨hb, bc, bv⟩, bl, bm, bmu⟩ := hO
    have tb : ((b : Nat) : Int).toNat = b := Int.toNat_natCast _
    have ti : ((i : Nat) : Int).toNat = i := Int.toNat_natCast _
    try rw [tb] at bc
    try rw [tb] at bv
    try rw [tb] at bl
    try rw [tb] at bm
    try rw [tb] at bmu
    have b48 : b < 48 := by omega
    have lb : LV T b := Or.inl (by omega)
    have hP := h.1.1
    have pb48 := (hP b b48).1.1
    have tp : ((π b : Nat) : Int).toNat = π b := Int.toNat_natCast _
    have Bb := sim_b h b48 lb
    have z57 : gA S 57 (π b) = (hM T).2.1 b := Bb.2.1
    have nb := (TM_z TT b48 lb).2.1
    -- the reference's step
    have REF : ∀ Q : MS → Prop, ((hM T).2.1 b ≠ 0 → pc (m_x12_lowers (v : Int) T) Q) → ((hM T).2.1 b = 0 → i = 0 → ∀ s11 s13 : MS, m_x12_counts (b : Int) (-1) T = some s11 → sA s11 49 (upZ (gA s11 49) v 254) = s13 → Q s13) → ((hM T).2.1 b = 0 → 0 < i → ∀ s25 s29 : MS, m_x12_counts (b : Int) (-1) T = some s25 → m_x12_cutsEntry (gA s25 57 (i - 1)) (gA s25 58 (i - 1)) s25 = some s29 → pc (m_x12_removes_L137 m (v : Int) (gA s25 57 (i - 1)) ((i : Int) + (-1)) s29) Q) → pc (m_x12_removes_L137 (m + 1) (v : Int) (b : Int) (i : Int) T) Q := fun Q K1 K2 K3 => by
      show pc (m_x12_removes_b137 (m_x12_removes_L137 m) (v : Int) (b : Int) (i : Int) T) Q
      have J : ((hM T).2.1 b = 0 → i = 0) → pc (m_x12_removes_J182 (v : Int) (b : Int) T) Q := fun w => by
        unfold m_x12_removes_J182
        refine pc_bq (m_ents (by omega)) (fun r5 h5 => ?_)
        try rw [tb] at h5
        rw [h5]
        refine pc_rg (pc_if (fun c => pc_bn (fun s11 e11 => pc_inb (pc_stn (fun s13 e13 => pc_some ?_)))) (fun c => pc_bn (fun s9 e9 => pc_some (K1 c s9 e9))))
        try rw [tv] at e13
        exact K2 c (w c) s11 s13 e11 e13
      unfold m_x12_removes_b137
      refine pc_bq (m_ents (by omega)) (fun r19 h19 => ?_)
      try rw [tb] at h19
      rw [h19]
      refine pc_rg (pc_if (fun c => pc_rg (pc_if (fun c2 => J (fun _ => by omega)) (fun c2 => pc_bn (fun s25 e25 => pc_rdI (fun _ => pc_rdI (fun _ => ?_)))))) (fun c => J (fun z => absurd z c)))
      rw [show ((i : Int) + (-1)).toNat = i - 1 by omega]
      exact pc_bn (fun s29 e29 => K3 c (by omega) s25 s29 e25 e29)
    show pc (m_x1_prune_b98 (m_x1_prune_L98 n) (v : Int) (i : Int) S) _
    unfold m_x1_prune_b98 m_x1_prune_J186 m_x1_prune_J180
    refine pc_rg (pc_if (fun c => absurd c (by omega)) (fun _ => pc_rdI (fun _ => ?_)))
    rw [ti, c50]
    refine pc_rdI (fun _ => ?_)
    rw [tp, z57]
    refine pc_rg (pc_if (fun c => ?_) (fun c => pc_some (fun s13 hR11 T11 V11 e13 => ?_)))
    · refine pc_rdI (fun _ => ?_)
      rw [ti, c50]
      refine pc_inb (pc_stn (fun s16 e16 => ?_))
      try rw [tp] at e16
      have g54 : gA s16 54 = upZ (gA S 54) (π b) 0 := q_AA e16
      have kk : ∀ k, k ≠ 54 → gA s16 k = gA S k := fun k hk => q_Aa e16 hk
      have hR16 : Rg s16 := e16 ▸ Rg.uAu hR (by show (-1 : Int) ≤ 0 ∧ (0 : Int) ≤ 100000; omega)
      have KILL : ∀ s25 : MS, m_x12_counts (b : Int) (-1) T = some s25 → Rr s25 ∧ F_x12_counts T s25 ∧ CX T s25 ∧ cM s25 = upZ (cM T) b 0 ∧ SIM π σ s16 s25 := fun s25 e25 => by
        have W25 := wp_det (w_x12_counts hRt (p0 := (b : Int)) (p1 := -1) hb (by rw [tb]; omega) (by omega)) e25
        try rw [tb] at W25
        obtain ⟨hR25, u25⟩ := W25
        obtain ⟨x25, c25⟩ := M_cnt b48 u25
        have F25 : F_x12_counts T s25 := fr_x12_counts e25
        have c25' : cM s25 = upZ (cM T) b 0 := by rw [c25, bc]; rfl
        exact ⟨hR25, F25, x25, c25', sim_kill h b48 (fun k k1 k2 => kk k (by omega)) g54 (q_Ai e16) (q_Al e16) x25 c25' (by rw [F25.2.1 39 (by decide)]) (F25.2.1 54 (by decide))⟩
      have LVk : ∀ X : MS, CX T X → cM X = upZ (cM T) b 0 → ∀ x, x < 48 → LV X x → LV T x := fun X x1 x2 x hx hl => by
        unfold LV at hl ⊢
        rw [x2, CX_v x1] at hl
        rcases hl with w | w
        · by_cases z : x = b
          · rw [z]; exact lb
          · rw [upZ_n z] at w; exact Or.inl w
        · exact Or.inr w
      refine pc_rg (pc_if (fun c3 => ?_) (fun c3 => ?_))
      · refine pc_inb (pc_stn (fun s20 e20 => ?_))
        try rw [tv] at e20
        refine pc_mono (s_prEnd (by omega) n) (fun o ho => ?_)
        subst ho
        intro s13 hR11 T11 V11 e13
        have u60 : gA o 60 = upZ (gA s16 60) v (-1) := q_AA e20
        have e := s_lowE (v := v) (S := o) (by rw [u60, upZ_s]) s13 e13
        refine REF _ (fun z => absurd c z) (fun _ _ u11 u13 f11 f13 => ?_) (fun _ z => absurd z (by omega))
        obtain ⟨k1, k2, k3, k4, k5⟩ := KILL u11 f11
        have v49 : gA u13 49 = upZ (gA u11 49) v 254 := q_AA f13
        obtain ⟨⟨m1, m2⟩, ⟨m3, m4⟩, _⟩ := M_root hv v49
        rw [e]
        refine ⟨sim_root k5 hv (fun k _ _ z => q_Aa e20 z) u60 (q_Ai e20) (q_Al e20) v49 (by rw [(q_Aa f13 (by decide) : gA u13 39 = gA u11 39)]) (q_Aa f13 (by decide)) (Or.inl ⟨rfl, rfl⟩), OI_h hOI (m1.trans (CX_h k3)) (m2.trans (CX_k k3)) (fun x hx hl => LVk u11 k3 k4 x hx ?_), (q_Ai f13).trans ((k2.1 55 (by decide)).trans h55)⟩
        unfold LV at hl ⊢
        rw [← m3, ← m4]; exact hl
      · obtain ⟨cj1, cj2⟩ := cj (i - 1) (by omega)
        refine pc_rdI (fun _ => pc_rdI (fun _ => ?_))
        rw [show ((i : Int) - 1).toNat = i - 1 by omega, kk 50 (by decide), kk 51 (by decide), cj1, cj2]
        refine pc_bn (fun s24 e24 => ?_)
        intro s11 e11 s13 hR11 T11 V11 e13
        refine REF _ (fun z => absurd c z) (fun _ z => absurd z (by omega)) (fun _ _ s25 s29 e25 e29 => ?_)
        obtain ⟨_, _, _, _, K5⟩ := KILL s25 e25
        obtain ⟨⟨⟨hR25, F25⟩, x25, c25⟩, ⟨hR29, F29, D29⟩, M', T3, P3, O3, Y3⟩ := r_prune hv hRt TT P hO0 hY c (by omega) e25 e29
        obtain ⟨yo, yk, ye⟩ := hY.1 (i - 1) (by omega)
        have a57 : gA s25 57 = gA T 57 := F25.2.1 57 (by decide)
        have a58 : gA s25 58 = gA T 58 := F25.2.1 58 (by decide)
        rw [a57, a58] at e29
        rw [a57]
        have r57 := yo.1.1
        obtain ⟨a, ha⟩ : ∃ a, a = (gA T 57 (i - 1)).toNat := ⟨_, rfl⟩
        have ai : gA T 57 (i - 1) = (a : Int) := by omega
        have ta : ((a : Nat) : Int).toNat = a := Int.toNat_natCast _
        rw [ai] at e29 T3 P3 O3 Y3 D29 yo yk ye ⊢
        try rw [← ha] at e24
        try rw [ta] at e24
        try rw [ta] at D29
        try rw [ta] at yk
        try rw [ta] at ye
        have a48 : a < 48 := by omega
        have yc := yo.1.2.1
        have yl := yo.2.1
        try rw [ta] at yc
        try rw [ta] at yl
        have nab : a ≠ b := fun z => by rw [z] at yl; omega
        have la25 : LV s25 a := Or.inl (by rw [c25, upZ_n nab]; omega)
        have K25 : ∀ x, x < 48 → LV s25 x → 0 ≤ (hM s25).2.1 x ∧ (hM s25).2.1 x ≤ 6 := fun x hx hl => by
          rw [CX_h x25]; exact (TM_z TT hx (LVk s25 x25 c25 x hx hl)).2.1
        have za : (hM s25).2.1 a = (hM T).2.1 a := by rw [CX_h x25]
        obtain ⟨H29, B29, Z29⟩ := y_del K5 K25 hR16 hR25 a48 la25 (p1 := gA T 58 (i - 1)) (by rw [za]; exact yk) e24 e29
        have pa48 := (hP a a48).1.1
        have tpa : ((π a : Nat) : Int).toNat = π a := Int.toNat_natCast _
        have z16 : gA s16 57 (π a) = (hM T).2.1 a := by
          have q : gA s16 57 (π a) = (hM s25).2.1 a := (sim_b K5 a48 la25).2.1
          rw [q, za]
        have n6 := K25 a a48 la25
        have hR24 := (wp_det (w_x8_delete hR16 (p0 := (π a : Int)) (p1 := gA T 58 (i - 1)) ⟨by omega, by omega⟩ ⟨yk.1, by rw [tpa, z16]; exact yk.2, by rw [tpa, z16, ← za]; exact n6.2⟩) e24).1
        have F24 : F_x8_delete s16 s24 := fr_x8_delete e24
        have so : SO (kM s25 a) 1 ((hM s25).2.1 a) := by
          rw [CX_h x25, CX_k x25]
          exact OI_SOk hOI TT (fun _ _ => Int.le_refl 0) a48 (by omega)
        have O25 : OI s25 lo hj := OI_h hOI (CX_h x25) (CX_k x25) (LVk s25 x25 c25)
        have O29 : OI s29 lo hj := OI_del O25 a48 la25 so (by rw [za]; omega) D29
        have K29 : KS t0 s29 := KS_t hKS ⟨⟨(F29.2.1 39 (by decide)).trans (F25.2.1 39 (by decide)), (F29.2.1 42 (by decide)).trans (F25.2.1 42 (by decide)), (F29.2.1 43 (by decide)).trans (F25.2.1 43 (by decide)), (F29.2.1 44 (by decide)).trans (F25.2.1 44 (by decide))⟩, fun j hj' => by rw [BX_k B29 a48 hj', CX_n x25 hj']⟩
        have ei : (i : Int) + (-1) = ((i - 1 : Nat) : Int) := by omega
        rw [ei] at e11 ⊢
        have c24 : ∀ j, gA s24 50 j = gA S 50 j := fun j => by rw [F24.2.1 50 (by decide), kk 50 (by decide)]
        have d24 : ∀ j, gA s24 51 j = gA S 51 j := fun j => by rw [F24.2.1 51 (by decide), kk 51 (by decide)]
        have f57 : gA s29 57 = gA T 57 := (F29.2.1 57 (by decide)).trans a57
        have f58 : gA s29 58 = gA T 58 := (F29.2.1 58 (by decide)).trans a58
        refine ih m (i - 1) a s24 s29 ⟨H29, ⟨hR24, hR29⟩, K29, ⟨(F29.1 55 (by decide)).trans ((F25.1 55 (by decide)).trans h55), ⟨fun u hu hn => by rw [BX_u B29 hu, CX_u x25 hu]; exact hW.1 u hu hn, by rw [BX_u B29 (by omega), CX_u x25 (by omega)]; exact hW.2⟩, by omega⟩, ⟨M', T3, P3, O3, Y3⟩, ⟨by rw [c24, cj1, ai, ta], fun j hj' => by rw [c24, d24, f57, f58]; exact cj j (by omega)⟩, O29⟩ s11 e11 s13 hR11 T11 V11 e13
    · refine REF _ (fun _ => ?_) (fun z => absurd z c) (fun z => absurd z c)
      have ne : ∀ p : Nat, p < 48 → (p : Int) = (b : Int) → 1 ≤ (hM T).2.1 p := fun p _ hq => by
        rw [show p = b by omega]; omega
      have T1 : TM T d0 (-1) := TG_ne TT ne
      have P1 : PM T v M d0 (-1) := ⟨fun u hu hn => TG_ne (P.1 u hu hn) ne, P.2⟩
      intro t' et
      obtain ⟨Y1, Y2, Y3⟩ := y_lower h hR hRt T11 T1 P1 hv V11 hW s13 e13 t' et
      have F9 : F_x12_lowers T t' := fr_x12_lowers et
      obtain ⟨m1, m2, m3⟩ := CXm_h hv Y2
      refine ⟨Y1, OI_h hOI m1 m2 (fun x hx hl => ?_), (F9.1 55 (by decide)).trans h55⟩
      unfold LV at hl ⊢
      rw [m3] at hl
      exact hl.imp (Y3 x hx) id
/-! ===== to remove, on both sides: the way down ===== -/
/-- the key is where the way from a BLOCK leads -/
def HS (t : MS) (key : Int) : Nat → Nat → Prop
  | 0, b => ∃ k : Nat, (k : Int) < (hM t).2.1 b ∧ kM t b k = key
  | l + 1, b => ∃ k : Nat, (k : Int) < (hM t).2.1 b ∧ PF (kM t b) ((hM t).2.1 b) key (k : Int) ∧ HS t key l ((hM t).2.2 b k).toNat
theorem HS_r {t o : MS} {key : Int} (hK : KLV t) : ∀ (l x y : Nat), y < 48 → LV t y → (hM t).1 y = (l : Int) → ROW t y o x → (∀ z, z < 48 → LV t z → (hM t).1 z < (hM t).1 y → ROW t z o z) → HS t key l y → HS o key l x := by
  intro l
  induction l with
  | zero =>
    intro x y _ _ _ r _ H
    obtain ⟨k, h1, h2⟩ := H
    exact ⟨k, by rw [r.2.1]; exact h1, by rw [(r.2.2 k).2]; exact h2⟩
  | succ l ih =>
    intro x y hy hl lev r hz H
    obtain ⟨k, h1, h2, h3⟩ := H
    have e : kM o x = kM t y := funext (fun j => (r.2.2 j).2)
    have kb := hK.2.1 y hy hl
    have kid := kb.2 (by omega) k h1
    have kl := (kb.1.1.2.2 (by omega) k h1).2
    refine ⟨k, by rw [r.2.1]; exact h1, by rw [r.2.1, e]; exact h2, ?_⟩
    rw [(r.2.2 k).1]
    obtain ⟨z, hzz⟩ : ∃ z, z = ((hM t).2.2 y k).toNat := ⟨_, rfl⟩
    rw [← hzz] at h3 kid kl ⊢
    exact ih z z (by omega) kid.2 (by omega) (hz z (by omega) kid.2 (by omega)) (fun w w1 w2 w3 => hz w w1 w2 (by omega)) h3
/-- one step of the class -/
theorem s_ust1 {n B j : Nat} {v key d : Int} {S : MS} {Q : Int × MS → Prop} (hi : (j : Int) < d) (K : ∀ (r : Int) (q30 : Int × MS), EF (fun k => gA S 58 (6 * B + k)) (gA S 57 B) key r → m_x1_owned (gA S 59 (6 * B + r.toNat)) S = some q30 → (q30.1 = -1 → Q (0, q30.2)) ∧ (q30.1 ≠ -1 → ∀ s34 s27 : MS, m_x8_set (B : Int) r q30.1 q30.2 = some s34 → sA s34 51 (upZ (gA s34 51) j r) = s27 → pc (m_x1_uproot_L55 n v key d q30.1 ((j : Int) + 1) s27) Q)) : pc (m_x1_uproot_L55 (n + 1) v key d (B : Int) (j : Int) S) Q := by
  have tB : ((B : Nat) : Int).toNat = B := Int.toNat_natCast _
  have tj : ((j : Nat) : Int).toNat = j := Int.toNat_natCast _
  show pc (m_x1_uproot_b55 (m_x1_uproot_L55 n) v key d (B : Int) (j : Int) S) Q
  unfold m_x1_uproot_b55 m_x8_slot
  refine pc_rg (pc_rg (pc_if (fun c => absurd c (by omega)) (fun _ => pc_bq (s_entryFor (by omega)) (fun r15 h15 => pc_bn (fun r17 e17 => ?_)))))
  cases e17
  rw [tB] at h15
  have r0 := h15.1
  refine pc_rdI (fun _ => ?_)
  rw [show ((B : Int) * 6 + r15).toNat = 6 * B + r15.toNat by omega]
  refine pc_bn (fun q30 e30 => ?_)
  have k := K r15 q30 h15 e30
  refine pc_rg (pc_if (fun c => pc_some (k.1 c)) (fun c => pc_bn (fun s34 e34 => pc_inb (pc_stn (fun s27 e27 => ?_)))))
  rw [tj] at e27
  exact (k.2 c) s34 s27 e34 e27
theorem s_ust0 {n : Nat} {v key d i b : Int} {S : MS} {Q : Int × MS → Prop} (hi : d ≤ i) (K : ∀ s11 s13 : MS, m_x1_prune v key d S = some s11 → m_x1_lowerRoot v s11 = some s13 → Q (1, s13)) : pc (m_x1_uproot_L55 (n + 1) v key d b i S) Q := by
  show pc (m_x1_uproot_b55 (m_x1_uproot_L55 n) v key d b i S) Q
  unfold m_x1_uproot_b55
  exact pc_rg (pc_rg (pc_if (fun _ => pc_bn (fun s11 e11 => pc_bn (fun s13 e13 => pc_some (K s11 s13 e11 e13)))) (fun c => absurd hi c)))
/-! the reference -/
theorem m_ustF {v key : Int} : ∀ (m : Nat) (b n : Int) (T : MS), gI T 55 = 1 → pc (m_x12_removes_L29 m v key b n T) (fun o => gI o 55 = 1) := by
  refine fr_ind (fun _ _ _ _ => pc_none) (fun m _ b n T h => ?_)
  show pc (m_x12_removes_b29 (m_x12_removes_L29 m) v key b n T) _
  unfold m_x12_removes_b29 m_x12_removes_J118
  exact pc_rg (pc_if (fun c => absurd (h.symm.trans c) (by decide)) (fun _ => pc_rg (pc_if (fun c => absurd (h.symm.trans c) (by decide)) (fun _ => pc_some h))))
theorem m_J92F {m : Nat} {v key b n r c : Int} {X : MS} (h : gI X 55 = 1) : pc (m_x12_removes_J92 (m_x12_removes_L29 m) v key b n r c X) (fun o => gI o 55 = 1) := by
  unfold m_x12_removes_J92
  exact pc_inb (pc_stn (fun s54 e54 => pc_inb (pc_stn (fun s56 e56 => m_ustF m c (n + 1) s56 ((q_Ai e56).trans ((q_Ai e54).trans h))))))
theorem m_ust0 {m b : Nat} {v key n : Int} {T : MS} {Q : MS → Prop} (h55 : gI T 55 = 0) (hl : (hM T).1 b ≤ 0) (hz : 0 ≤ (hM T).2.1 b ∧ (hM T).2.1 b ≤ 6) (K : ∀ (r : Int) (s40 : MS), PI (kM T b) ((hM T).2.1 b) key r → m_x12_cutsEntry (b : Int) r T = some s40 → pc (m_x12_removes_L137 FU v (b : Int) n s40) Q) : pc (m_x12_removes_L29 (m + 1) v key (b : Int) n T) Q := by
  have tb : ((b : Nat) : Int).toNat = b := Int.toNat_natCast _
  show pc (m_x12_removes_b29 (m_x12_removes_L29 m) v key (b : Int) n T) Q
  unfold m_x12_removes_b29 m_x12_removes_J118
  refine pc_rg (pc_if (fun _ => pc_bq (m_lev (by omega)) (fun r60 h60 => ?_)) (fun c => absurd h55 c))
  try rw [tb] at h60
  refine pc_rg (pc_if (fun _ => pc_rg (pc_if (fun _ => pc_bq (m_placeIn (by omega) (by rw [tb]; exact hz)) (fun r38 h38 => pc_bn (fun s40 e40 => ?_))) (fun c => absurd h55 c))) (fun c => absurd (by omega) c))
  try rw [tb] at h38
  exact K r38 s40 h38 e40
theorem m_ust1 {m b : Nat} {v key n : Int} {T : MS} {Q : MS → Prop} (h55 : gI T 55 = 0) (hl : 0 < (hM T).1 b) (hz : 1 ≤ (hM T).2.1 b ∧ (hM T).2.1 b ≤ 6) (K : ∀ (r : Int) (q46 : Int × MS), PF (kM T b) ((hM T).2.1 b) key r → m_x12_owned ((hM T).2.2 b r.toNat) T = some q46 → (q46.1 = (hM T).2.2 b r.toNat → pc (m_x12_removes_J92 (m_x12_removes_L29 m) v key (b : Int) n r q46.1 q46.2) Q) ∧ (q46.1 ≠ (hM T).2.2 b r.toNat → ∀ s53 : MS, m_x12_setsEntry (b : Int) r (kM q46.2 b r.toNat) q46.1 q46.2 = some s53 → pc (m_x12_removes_J92 (m_x12_removes_L29 m) v key (b : Int) n r q46.1 s53) Q)) : pc (m_x12_removes_L29 (m + 1) v key (b : Int) n T) Q := by
  have tb : ((b : Nat) : Int).toNat = b := Int.toNat_natCast _
  show pc (m_x12_removes_b29 (m_x12_removes_L29 m) v key (b : Int) n T) Q
  unfold m_x12_removes_b29
  refine pc_rg (pc_if (fun _ => pc_bq (m_lev (by omega)) (fun r60 h60 => ?_)) (fun c => absurd h55 c))
  try rw [tb] at h60
  refine pc_rg (pc_if (fun c => absurd c (by omega)) (fun _ => pc_bq (m_placeFor (by omega) (by rw [tb]; exact hz.2)) (fun r64 h64 => ?_)))
  try rw [tb] at h64
  have r0 := h64.1
  have r1 := h64.2.1
  refine pc_bq (m_val (by omega) ⟨r0, by omega⟩) (fun r66 h66 => ?_)
  try rw [tb] at h66
  rw [h66]
  refine pc_bn (fun q46 e46 => ?_)
  have k := K r64 q46 h64 e46
  refine pc_rg (pc_rg (pc_if (fun c => k.1 c) (fun c => pc_bq (m_key (by omega) ⟨r0, by omega⟩) (fun r74 h74 => ?_))))
  try rw [tb] at h74
  rw [h74]
  exact pc_bn (fun s53 e53 => k.2 c s53 e53)
/-- the same, and what lies above is as it was -/
theorem r_nextU {t0 T X : MS} {v b : Nat} {i r : Int} {q46 : Int × MS} (hv : v < 8) (hR : Rr T) (hKS : KS t0 T) (hC0 : CE t0 0) (hE : 3 ≤ gA t0 39 6 ∧ gA t0 39 6 ≤ 6) (h55 : gI T 55 = 0) {M : Nat → Nat → Int} (hW : RWn t0 T v) (TT : TM T d0 (-1)) (P : PM T v M d0 (-1)) (hA : CurMo T v M (b : Int) i) (hi : 0 < i) (hk : 0 ≤ r ∧ r < (hM T).2.1 b) (e46 : m_x12_owned ((hM T).2.2 b r.toNat) T = some q46) (z55 : gI q46.2 55 = 0)
    (hX : ((hM q46.2).2.2 b r.toNat = q46.1 ∧ X = q46.2) ∨ ((hM q46.2).2.2 b r.toNat ≠ q46.1 ∧ m_x12_setsEntry (b : Int) r (kM q46.2 b r.toNat) q46.1 q46.2 = some X)) :
    Rr X ∧ KS t0 X ∧ gI X 55 = 0 ∧ (RWn t0 X v ∧ gA X 49 v = gA T 49 v) ∧ (0 ≤ q46.1 ∧ q46.1 < 48) ∧ (0 ≤ (hM T).2.2 b r.toNat ∧ (hM T).2.2 b r.toNat < 48) ∧ (BX q46.2 X b ∧ (hM X).2.1 b = (hM q46.2).2.1 b ∧ ((hM X).2.2 b r.toNat = q46.1 ∧ ∀ j, j ≠ r.toNat → (hM X).2.2 b j = (hM q46.2).2.2 b j) ∧ ∀ j, kM X b j = kM q46.2 b j) ∧ (∃ M', UP T X v M M' i ∧ TM X d0 (-1) ∧ PM X v M' d0 (-1) ∧ CurMo X v M' (b : Int) i ∧ ((cM X q46.1.toNat = 1 ∧ vM X q46.1.toNat = 0) ∧ (hM X).1 q46.1.toNat = i - 1 ∧ (M' v q46.1.toNat = 1 ∧ ∀ u, u < 16 → u ≠ v → M' u q46.1.toNat = 0))) ∧ (q46.1.toNat = ((hM T).2.2 b r.toNat).toNat → cM T ((hM T).2.2 b r.toNat).toNat = 1 ∧ vM T ((hM T).2.2 b r.toNat).toNat = 0) := by
  obtain ⟨⟨ha, a54, a55⟩, a56, am, amu⟩ := hA
  have tb : ((b : Nat) : Int).toNat = b := Int.toNat_natCast _
  try rw [tb] at a54
  try rw [tb] at a55
  try rw [tb] at a56
  try rw [tb] at am
  try rw [tb] at amu
  have ha48 : b < 48 := by omega
  have S39 := hKS.1.1
  obtain ⟨y, ey⟩ : ∃ y, y = (hM T).2.2 b r.toNat := ⟨_, rfl⟩
  rw [← ey] at e46 ⊢
  have na := (TG_nd TT ha48 (by omega)).2.1
  have kid := TG_kid (p := b) (k := r.toNat) TT (fun _ _ => Int.le_refl 0) ha48 (by omega) (by omega) (by omega)
  have km := kid_mu (k := r.toNat) hv P ha48 (by omega) (by omega) (by omega)
  have ke := enf_pos (h := hM T) (p := b) (k := r.toNat) (i := 0) (by omega) (by omega) (by omega) (by omega)
  rw [← ey] at kid km ke
  obtain ⟨⟨k0, k1⟩, k2, k3⟩ := kid
  have hNS : gA T 39 5 ≤ 48 := TT.1.1
  have y48 : y.toNat < 48 := by omega
  have ke' : 0 < en (hM T) b ((y.toNat : Nat) : Int) := by
    rw [show ((y.toNat : Nat) : Int) = y by omega]
    have : 1 ≤ en (hM T) b y := ke
    omega
  obtain ⟨hRo, Fo, ko, h46⟩ := wp_det (mt_owned (M := M) hR hv TT P (KS_CE hKS hC0) (by rw [S39]; omega) h55 (p0 := y) (by omega) k3 km (own_x hv TT P y48 (Or.inr ⟨b, ha48, by omega, ke', fun u hu hn => by rw [amu u hu hn]; omega⟩))) e46
  obtain ⟨q, o⟩ := q46
  (try dsimp only at hRo Fo ko h46 z55 hX ⊢)
  have KSo : KS T o := ⟨⟨Fo.2.1 39 (by decide), Fo.2.1 42 (by decide), Fo.2.1 43 (by decide), Fo.2.1 44 (by decide)⟩, ko⟩
  have KSo' : KS t0 o := KS_t hKS KSo
  rcases h46 with ⟨h46, _⟩ | ⟨z0, w0, M', ⟨⟨rq, rN⟩, ⟨o54, o55⟩, ⟨o56, o57⟩⟩, oc, oh, oq, ou, ⟨To, Po⟩, om, omu, omn, omx⟩
  · omega
  have nb : b ≠ y.toNat := fun z => by rw [← z] at k2; omega
  have nq : b ≠ q.toNat := fun z => by
    rcases oq with oq | oq
    · exact nb (by omega)
    · rw [← z] at oq; omega
  have ob := oh b nq
  have cb : cM o b = 1 := by rw [oc b ha48 (by omega) (by omega) nb]; exact a54
  have vb : vM o b = 0 := by rw [ob.1]; exact a55
  have lb : (hM o).1 b = i := by rw [ob.2.1]; exact a56
  have eb : (hM o).2.2 b r.toNat = y := by rw [(ob.2.2.2 r.toNat (by omega)).1]; exact ey.symm
  have mb : M' v b = 1 := by rw [omx b nq nb]; exact am
  have mub : ∀ u, u < 16 → u ≠ v → M' u b = 0 := fun u hu hn => by rw [omn u hn]; exact amu u hu hn
  have hWo : RWn t0 o v := ⟨fun u hu hn => by rw [ou u hu]; exact hW.1 u hu hn, by rw [ou v (by omega)]; exact hW.2⟩
  have U1 : UP T o v M M' i := fun x hx hc hlx => by
    have xy : x ≠ y.toNat := fun z => by rw [z] at hlx; omega
    have xq : x ≠ q.toNat := fun z => by
      rcases oq with oq | oq
      · exact xy (by omega)
      · rw [← z] at oq; omega
    have ox := oh x xq
    refine ⟨⟨oc x hx (by omega) (by omega) xy, ox.1, ox.2.1, ox.2.2.1, fun k hk => (ox.2.2.2 k hk).1⟩, fun u => ?_⟩
    by_cases z : u = v
    · rw [z]; exact omx x xq xy
    · rw [omn u z]
  have rto : gA o 49 v = gA T 49 v := ou v (by omega)
  have last : q.toNat = y.toNat → cM T y.toNat = 1 ∧ vM T y.toNat = 0 := fun e => by
    rcases Classical.em (cM T y.toNat = 1 ∧ vM T y.toNat = 0) with w | w
    · exact w
    · exfalso
      -- a copy is another block
      have g2 := m_own (p := y) (t := T) (by omega) h55 (fun o1 eo z => by
        have lvy := (TG_nd TT y48 k3)
        have lvl := (TG_lev TT (fun _ _ => Int.le_refl 0) y48 k3)
        have W := (wp_det (w_x12_taken hR ⟨by omega, hNS⟩ (KS_CE hKS hC0) (p0 := (hM T).1 y.toNat) (p1 := y) ⟨lvl.1, by omega⟩ ⟨by omega, by omega⟩) eo).2.2
        rcases W with W | ⟨_, W2, W3, W4⟩
        · omega
        · have ne : y.toNat ≠ o1.1.toNat := fun e2 => by rw [← e2] at W3; omega
          refine ⟨W2.1, fun e2 => ne e2.symm, ?_⟩
          have := W4.1 (20 + 16 * y.toNat) (by omega)
          show gA o1.2 49 (20 + 16 * y.toNat) ≤ 6
          rw [this]; exact lvy.2.1.2) (q, o) e46
      rcases g2 with ⟨a, _⟩ | ⟨_, o1, eo1, a2⟩
      · exact w ⟨a.2, a.1.2⟩
      · rcases a2 with ⟨x, e2⟩ | ⟨x, e2, _⟩
        · have : o = o1.2 := (Prod.mk.inj e2).2
          rw [this] at z55; exact x z55
        · have lvl := (TG_lev TT (fun _ _ => Int.le_refl 0) y48 k3)
          have W := (wp_det (w_x12_taken hR ⟨by omega, hNS⟩ (KS_CE hKS hC0) (p0 := (hM T).1 y.toNat) (p1 := y) ⟨lvl.1, by omega⟩ ⟨by omega, by omega⟩) eo1).2.2
          rcases W with W | ⟨_, _, W3, _⟩
          · omega
          · have e3 : q = o1.1 := e2
            rw [← e3, e] at W3; omega
  rcases hX with ⟨x1, x2⟩ | ⟨x1, x2⟩
  · have yq : q = y := x1.symm.trans eb
    subst x2
    exact ⟨hRo, KSo', z0, ⟨hWo, rto⟩, ⟨w0, by omega⟩, ⟨k0, by omega⟩, ⟨BX_0 _ _, rfl, ⟨x1, fun _ _ => rfl⟩, fun _ => rfl⟩, ⟨M', U1, TG_D To (dq_0 (by omega)), PM_D Po (dq_0 (by omega)), ⟨⟨ha, by rw [tb]; exact cb, by rw [tb]; exact vb⟩, by rw [tb]; exact lb, by rw [tb]; exact mb, fun u hu hn => by rw [tb]; exact mub u hu hn⟩, ⟨o54, o55⟩, by rw [o56, k2]; omega, om, omu⟩, last⟩
  · have r51 : R2 (kM o b r.toNat) := by
      show R2 (if r.toNat < 6 then gA o 49 (21 + 16 * b + r.toNat) else 0)
      rw [if_pos (by omega)]; exact R49 hRo (by omega)
    obtain ⟨hR53, u53⟩ := wp_det (w_x12_setsEntry hRo ha (p1 := r) ⟨hk.1, by omega⟩ r51 (by omega)) x2
    try rw [tb] at u53
    have F53 : F_x12_setsEntry o X := fr_x12_setsEntry x2
    obtain ⟨iB, iz, T2, P2⟩ := MT_set (b := b) (k := r.toNat) To Po (by omega) u53 (F53.2.1 39 (by decide)) (by omega) ha48 (by omega) (by omega) (by omega) (fun u hu hn => by rw [mub u hu hn]; omega) (by rw [ob.2.2.1]; omega) (fun _ => ⟨by rw [KSo.1.1]; omega, by rw [o56, k2, lb]; omega⟩)
    obtain ⟨_, _, g1, g2⟩ := M_set (k := r.toNat) (by omega) u53
    have dd : ∀ x : Nat, x < 48 → d0 x = dq q.toNat x - dq y.toNat x + (if 0 < (hM o).1 b ∧ (hM o).2.2 b r.toNat = (x : Int) then 1 else 0) - (if 0 < (hM o).1 b ∧ q = (x : Int) then 1 else 0) := fun x hx => by
      show (0 : Int) = _
      rw [eb]
      have e1 : (if 0 < (hM o).1 b ∧ y = (x : Int) then (1 : Int) else 0) = dq y.toNat x := by
        rw [← dd_0 k0]
        by_cases z : y = (x : Int)
        · rw [if_pos z, if_pos ⟨by omega, z⟩]
        · rw [if_neg z, if_neg (fun w => z w.2)]
      have e2 : (if 0 < (hM o).1 b ∧ q = (x : Int) then (1 : Int) else 0) = dq q.toNat x := by
        rw [← dd_0 w0]
        by_cases z : q = (x : Int)
        · rw [if_pos z, if_pos ⟨by omega, z⟩]
        · rw [if_neg z, if_neg (fun w => z w.2)]
      rw [e1, e2]; omega
    have K53 : KS t0 X := KS_t KSo' ⟨⟨F53.2.1 39 (by decide), F53.2.1 42 (by decide), F53.2.1 43 (by decide), F53.2.1 44 (by decide)⟩, fun j hj => BX_k iB ha48 hj⟩
    have kk : ∀ j, kM X b j = kM o b j := fun j => by
      by_cases z : j = r.toNat
      · rw [z]; exact g1.2
      · exact (g2 j z).2
    exact ⟨hR53, K53, (F53.1 55 (by decide)).trans z0, ⟨⟨fun u hu hn => by rw [BX_u iB hu]; exact hWo.1 u hu hn, by rw [BX_u iB (by omega)]; exact hWo.2⟩, by rw [BX_u iB (by omega)]; exact rto⟩, ⟨w0, by omega⟩, ⟨k0, by omega⟩, ⟨iB, iz, ⟨g1.1, fun j hj => (g2 j hj).1⟩, kk⟩, ⟨M', UP_tr U1 (UP_BX iB (by omega)), TG_D T2 dd, PM_D P2 dd, ⟨⟨ha, by rw [tb, BX_c iB]; exact cb, by rw [tb, BX_v iB]; exact vb⟩, by rw [tb, BX_l iB]; exact lb, by rw [tb]; exact mb, fun u hu hn => by rw [tb]; exact mub u hu hn⟩, ⟨by rw [BX_c iB]; exact o54, by rw [BX_v iB]; exact o55⟩, by rw [BX_l iB, o56, k2]; omega, om, omu⟩, last⟩
/-- the way down is alike on both sides -/
theorem way_path {π σ : Nat → Nat} {S T : MS} {v b i d : Nat} {M : Nat → Nat → Int} {P : Nat → Nat} (h : SIM π σ S T) (hv : v < 8) (hid : i ≤ d) (hb : OB_r T v M (b : Int) ((d : Int) - (i : Int))) (hY : WY T v M (d : Int) (b : Int) (i : Int)) (ht : ∀ j, j < i → gA S 51 j = gA T 58 j) (hPi : P i = π b) (hPj : ∀ j, j < i → P j = π (gA T 57 j).toNat) : PathP S v (d : Int) P i := by
  have wb : ∀ (x l : Int), OB_r T v M x l → (0 ≤ x ∧ x < 48) ∧ π x.toNat < 48 ∧ gA S 54 (π x.toNat) = 1 ∧ gA S 55 (π x.toNat) = 0 ∧ gA S 56 (π x.toNat) = l ∧ BR1 π (hN S) (hM T) (kN S) (kM T) x.toNat := fun x l o => by
    obtain ⟨⟨a, c, u⟩, e, _⟩ := o
    have x48 : x.toNat < 48 := by omega
    have q := sim_c h x48
    have B := sim_b h x48 (Or.inl (by omega))
    exact ⟨a, (h.1.1 x.toNat x48).1.1, q.1.trans c, q.2.trans u, B.1.trans e, B⟩
  refine ⟨?_, fun j hj => ?_, fun j hj => ?_⟩
  · have r := (h.1.2.2.2 v hv).1
    have w := hY.2
    have b48 := hb.1.1
    by_cases z : i = 0
    · have e0 : P 0 = π b := by rw [z] at hPi; exact hPi
      rw [if_pos (by omega)] at w
      rcases r with ⟨a, _⟩ | ⟨a, _⟩ | ⟨_, _, a⟩
      · omega
      · omega
      · rw [a, w, e0, Int.toNat_natCast]
    · have o := (hY.1 0 (by omega)).1.1.1
      rw [if_neg (by omega)] at w
      rcases r with ⟨a, _⟩ | ⟨a, _⟩ | ⟨_, _, a⟩
      · omega
      · omega
      · rw [a, w, hPj 0 (by omega)]
  · by_cases z : j = i
    · have q := wb _ _ hb
      rw [Int.toNat_natCast] at q
      rw [z, hPi]
      exact ⟨q.2.1, q.2.2.1, q.2.2.2.1, q.2.2.2.2.1⟩
    · have q := wb _ _ (hY.1 j (by omega)).1
      rw [hPj j (by omega)]
      exact ⟨q.2.1, q.2.2.1, q.2.2.2.1, q.2.2.2.2.1⟩
  · obtain ⟨o, k, e⟩ := hY.1 j (by omega)
    have q := wb _ _ o
    have B := q.2.2.2.2.2
    have lv := o.2.1
    rw [hPj j hj, ht j hj]
    have B2 := B.2.2 (gA T 58 j).toNat (by omega)
    have z : gA S 57 (π (gA T 57 j).toNat) = (hM T).2.1 (gA T 57 j).toNat := B.2.1
    refine ⟨⟨k.1, by rw [z]; exact k.2⟩, ?_⟩
    have e2 : gA S 59 (6 * π (gA T 57 j).toNat + (gA T 58 j).toNat) = (π ((hM T).2.2 (gA T 57 j).toNat (gA T 58 j).toNat).toNat : Int) := B2.2.1 (by omega)
    rw [e2, e]
    by_cases w : (j : Int) + 1 = (i : Int)
    · rw [if_pos w, show j + 1 = i by omega, hPi, Int.toNat_natCast]
    · rw [if_neg w, hPj (j + 1) (by omega)]
/-- the class: the row of the way, the key's entry -/
theorem s_prune {v d : Nat} {key : Int} {S : MS} {P : Nat → Nat} {Q : MS → Prop} (hR : Rg S) (hP : PathP S v (d : Int) P d) (K : ∀ (S' : MS) (r : Int) (s38 : MS), Rg S' → (∀ k, k ≠ 50 → gA S' k = gA S k) → (∀ k, gI S' k = gI S k) → (∀ k, gL S' k = gL S k) → (∀ j, j ≤ d → gA S' 50 j = (P j : Int)) → FDc (fun k => gA S 58 (6 * P d + k)) (gA S 57 (P d)) key r → m_x8_delete (P d : Int) r S' = some s38 → pc (m_x1_prune_L98 FU (v : Int) (d : Int) s38) Q) : pc (m_x1_prune (v : Int) key (d : Int) S) Q := by
  have tv : ((v : Nat) : Int).toNat = v := Int.toNat_natCast _
  have td : ((d : Nat) : Int).toNat = d := Int.toNat_natCast _
  have L18 : ∀ (n i : Nat) (S' : MS), i ≤ d → Rg S' → (∀ k, k ≠ 50 → gA S' k = gA S k) → (∀ k, gI S' k = gI S k) → (∀ k, gL S' k = gL S k) → (∀ j, j ≤ i → gA S' 50 j = (P j : Int)) → pc (m_x1_prune_L18 n (v : Int) key (d : Int) (i : Int) S') Q := by
    refine fr_ind (fun _ _ _ _ _ _ _ _ => pc_none) (fun n ih i S' hi hR' hA hI hL h50 => ?_)
    have ti : ((i : Nat) : Int).toNat = i := Int.toNat_natCast _
    show pc (m_x1_prune_b18 (m_x1_prune_L18 n) (v : Int) key (d : Int) (i : Int) S') Q
    unfold m_x1_prune_b18 m_x8_slot
    refine pc_rg (pc_rg (pc_if (fun c => ?_) (fun c => ?_)))
    · have e : i = d := by omega
      rw [e] at h50
      refine pc_rdI (fun _ => pc_rdI (fun _ => ?_))
      rw [td, h50 d (Nat.le_refl _)]
      refine pc_bq (s_find (by omega)) (fun r36 h36 => pc_bn (fun s38 e38 => ?_))
      rw [Int.toNat_natCast, hA 58 (by decide), hA 57 (by decide)] at h36
      exact K S' r36 s38 hR' hA hI hL h50 h36 e38
    · have hLi := hP.2.2 i (by omega)
      refine pc_rdI (fun _ => pc_rdI (fun _ => pc_bn (fun r42 e42 => ?_)))
      cases e42
      rw [ti, h50 i (Nat.le_refl _), hA 51 (by decide)]
      refine pc_rdI (fun _ => pc_inb (pc_stn (fun s45 e45 => ?_)))
      rw [show ((P i : Int) * 6 + gA S 51 i).toNat = 6 * P i + (gA S 51 i).toNat by omega, hA 59 (by decide), hLi.2, show ((i : Int) + 1).toNat = i + 1 by omega] at e45
      have e50 : gA s45 50 = upZ (gA S' 50) (i + 1) (P (i + 1) : Int) := q_AA e45
      have hPn := hP.2.1 (i + 1) (by omega)
      have ei : (i : Int) + 1 = ((i + 1 : Nat) : Int) := by omega
      rw [ei]
      refine ih (i + 1) s45 (by omega) (e45 ▸ Rg.uAu hR' (by show (0 : Int) ≤ (P (i + 1) : Int) ∧ (P (i + 1) : Int) ≤ 47; omega)) (fun k hk => (q_Aa e45 hk).trans (hA k hk)) (fun k => (q_Ai e45).trans (hI k)) (fun k => (q_Al e45).trans (hL k)) (fun j hj => ?_)
      rw [e50]
      by_cases z : j = i + 1
      · rw [z, upZ_s]
      · rw [upZ_n z]; exact h50 j (by omega)
  unfold m_x1_prune
  refine pc_rdI (fun _ => pc_inb (pc_stn (fun s48 e48 => ?_)))
  rw [tv, hP.1] at e48
  have e50 : gA s48 50 = upZ (gA S 50) (Int.toNat 0) (P 0 : Int) := q_AA e48
  have hP0 := hP.2.1 0 (by omega)
  refine L18 FU 0 s48 (by omega) (e48 ▸ Rg.uAu hR (by show (0 : Int) ≤ (P 0 : Int) ∧ (P 0 : Int) ≤ 47; omega)) (fun k hk => q_Aa e48 hk) (fun k => q_Ai e48) (fun k => q_Al e48) (fun j hj => ?_)
  have j0 : j = 0 := by omega
  rw [j0, e50]
  show (if 0 = Int.toNat 0 then (P 0 : Int) else gA S 50 0) = (P 0 : Int)
  exact if_pos (by decide)
/-- both sides on the way down -/
def GU (s0 t0 : MS) (v : Nat) (key : Int) (d : Nat) (S T : MS) (π σ : Nat → Nat) (lo hi : Nat → Int) (b i : Nat) : Prop := SIM π σ S T ∧ (Rg S ∧ Rr T) ∧ KS t0 T ∧ (TS S Z0 (-1) ∧ 3 ≤ gI S 581 ∧ RV s0 S v) ∧ (gI T 55 = 0 ∧ RWn t0 T v ∧ ∃ M, TM T d0 (-1) ∧ PM T v M d0 (-1) ∧ OB_r T v M (b : Int) ((d : Int) - (i : Int)) ∧ WY T v M (d : Int) (b : Int) (i : Int)) ∧ OI T lo hi ∧ (lo b ≤ key ∧ key ≤ hi b) ∧ (i ≤ d ∧ d ≤ 47) ∧ (∀ j, j < i → gA S 51 j = gA T 58 j) ∧ HS T key (d - i) b
def CONu (q : Int × MS) (o : MS) : Prop := (q.1 = 0 ∧ gI o 55 = 1) ∨ (q.1 = 1 ∧ gI o 55 = 0 ∧ ∃ π σ lo hi, SIM π σ q.2 o ∧ OI o lo hi)
set_option maxHeartbeats 4000000 in
theorem y_uproot_L {s0 t0 : MS} {v d : Nat} {key : Int} (hv : v < 8) (hkey : R2 key) (hC0 : CE t0 0) (hE : 3 ≤ gA t0 39 6 ∧ gA t0 39 6 ≤ 6) (hN0 : 0 ≤ gA t0 39 5) : ∀ (n m i b : Nat) (S T : MS) (π σ : Nat → Nat) (lo hj : Nat → Int), GU s0 t0 v key d S T π σ lo hj b i → pc (m_x1_uproot_L55 n (v : Int) key (d : Int) (π b : Int) (i : Int) S) (fun q => pc (m_x12_removes_L29 m (v : Int) key (b : Int) (i : Int) T) (fun o => CONu q o)) := by
  have tv : ((v : Nat) : Int).toNat = v := Int.toNat_natCast _
  refine fr_ind (fun _ _ _ _ _ _ _ _ _ _ => pc_none) (fun n ih m i b S T π σ lo hj G => ?_)
  cases m with
  | zero => exact fun q _ => pc_none
  | succ m =>
    obtain ⟨h, ⟨hR, hRt⟩, hKS, ⟨TSs, h581, hV⟩, ⟨h55, hW, M, TT, P, hO, hY⟩, hOI, hky, ⟨hid, hd⟩, ht, hHS⟩ := G
    have hO0 := hO
    obtain ⟨⟨ha, bc, bv⟩, bl, bm, bmu⟩ := hO
    have tb : ((b : Nat) : Int).toNat = b := Int.toNat_natCast _
    have tp : ((π b : Nat) : Int).toNat = π b := Int.toNat_natCast _
    try rw [tb] at bc
    try rw [tb] at bv
    try rw [tb] at bl
    try rw [tb] at bm
    try rw [tb] at bmu
    have hb : b < 48 := by omega
    have S39 := hKS.1.1
    have hK : KLV T := KLV_of TT (fun _ _ => Int.le_refl 0)
    have lb : LV T b := Or.inl (by omega)
    have hKs : ∀ x, x < 48 → LV T x → 0 ≤ (hM T).2.1 x ∧ (hM T).2.1 x ≤ 6 := fun x hx l => (hK.2.1 x hx l).1.1.2.1
    have Bb := sim_b h hb lb
    have hP := h.1.1
    have pb48 := (hP b hb).1.1
    have z1 : gA S 57 (π b) = (hM T).2.1 b := Bb.2.1
    have n1 : 1 ≤ (hM T).2.1 b := TT.2.2.1.1 b hb (by omega) (by omega)
    have sb := hKs b hb lb
    by_cases hi : d ≤ i
    · have ed : d = i := by omega
      subst ed
      have hHS0 : ∃ k : Nat, (k : Int) < (hM T).2.1 b ∧ kM T b k = key := by
        rw [Nat.sub_self] at hHS; exact hHS
      refine s_ust0 (Int.le_refl _) (fun s11 s13 e11 e13 => m_ust0 h55 (by omega) sb (fun r' s40 hPI e40 => ?_))
      obtain ⟨P', hPi, hPj⟩ : ∃ P' : Nat → Nat, P' d = π b ∧ ∀ j, j < d → P' j = π (gA T 57 j).toNat := ⟨fun j => if j = d then π b else π (gA T 57 j).toNat, if_pos rfl, fun j hj' => if_neg (by omega)⟩
      have PP := way_path h hv hid hO0 hY ht hPi hPj
      have W11 := wp_det (ts_prune (s0 := s0) (p0 := (v : Int)) hR TSs ⟨by omega, by omega⟩ hd (by rw [tv]; exact PP) hkey (by rw [tv]; exact hV)) e11
      obtain ⟨R11, T11, V11⟩ := W11
      try rw [tv] at V11
      have so0 := ((hOI b hb lb).2.1 (by omega)).1
      have J := s_prune (Q := fun s11 => ∀ s13, Rg s11 → TS s11 Z0 (-1) → RV s0 s11 v → m_x1_lowerRoot (v : Int) s11 = some s13 → pc (m_x12_removes_L137 FU (v : Int) (b : Int) (d : Int) s40) (fun t' => SIM π σ s13 t' ∧ OI t' lo hj ∧ gI t' 55 = 0)) hR PP (fun S' r s38 hR' hA hI hL h50 hFD e38 => by
        rw [hPi] at hFD e38
        rw [z1] at hFD
        have H' : SIM π σ S' T := SIM_k h (fun k k1 k2 => hA k (by omega)) (hI 1060) (hL 1062) rfl rfl rfl
        have e1 : ∀ k : Nat, (k : Int) < (hM T).2.1 b → kM T b k = gA S 58 (6 * π b + k) := fun k hk => ((Bb.2.2 k hk).1).symm
        have so1 : SO (fun k => gA S 58 (6 * π b + k)) 0 ((hM T).2.1 b) := fun x y _ xy yz => by
          show gA S 58 (6 * π b + x) < gA S 58 (6 * π b + y)
          rw [← e1 x (by omega), ← e1 y yz]
          exact so0 x y (Nat.zero_le _) xy yz
        have fd : r = r' ∧ 0 ≤ r ∧ r < (hM T).2.1 b := by
          rcases FD_PI so1 e1 hFD hPI with ⟨_, w2⟩ | ⟨w1, w2, w3, _⟩
          · exfalso
            obtain ⟨k0, g1, g2⟩ := hHS0
            obtain ⟨⟨p1, p2⟩, p3, p4⟩ := hPI
            have g3 : ¬ (k0 : Int) < r' := fun w => by
              have := p3 k0 w
              omega
            have q4 := p4 (by omega)
            by_cases e : r'.toNat = k0
            · exact w2 ⟨by omega, by rw [e]; exact g2⟩
            · have := so0 r'.toNat k0 (Nat.zero_le _) (by omega) g1
              omega
          · exact ⟨w1, w2, w3⟩
        obtain ⟨fr, f0, f1⟩ := fd
        rw [← fr] at e40
        have R38 := (wp_det (w_x8_delete hR' (p0 := (π b : Int)) (p1 := r) ⟨by omega, by omega⟩ ⟨f0, by rw [tp, hA 57 (by decide), z1]; exact f1, by rw [tp, hA 57 (by decide), z1]; exact sb.2⟩) e38).1
        have F38 : F_x8_delete S' s38 := fr_x8_delete e38
        obtain ⟨H40, B40, Z40⟩ := y_del H' hKs hR' hRt hb lb (p1 := r) ⟨f0, f1⟩ e38 e40
        have W40 := wp_det (w_x12_cutsEntry hRt (p0 := (b : Int)) (p1 := r) ⟨by omega, by omega⟩ ⟨f0, by rw [tb]; omega⟩ (by rw [tb]; omega)) e40
        try rw [tb] at W40
        obtain ⟨R40, F40, k, k1, k2, D40⟩ := W40
        obtain ⟨T2, P2⟩ := MT_del (b := b) (k := k) TT P D40 (F40.2.1 39 (by decide)) (by omega) hb (by omega) (by omega) (by omega) (fun u hu hn => by rw [bmu u hu hn]; omega) k1
        have dd : ∀ x : Nat, x < 48 → d0 x = d0 x + (if 0 < (hM T).1 b ∧ (hM T).2.2 b k = (x : Int) then 1 else 0) := fun x _ => by
          rw [if_neg (fun w => by omega)]; omega
        have O40 : OI s40 lo hj := OI_del hOI hb lb (OI_SOk hOI TT (fun _ _ => Int.le_refl 0) hb (by omega)) k1 D40
        have Y40 := WY_up hY (T_6 TT) (F40.2.1 57 (by decide)) (F40.2.1 58 (by decide)) (BX_u B40 (by omega)) (UP_BX (v := v) (M := M) B40 (l := (d : Int) - (d : Int)) (by omega)) (Int.le_refl _)
        have K40 : KS t0 s40 := KS_t hKS ⟨⟨F40.2.1 39 (by decide), F40.2.1 42 (by decide), F40.2.1 43 (by decide), F40.2.1 44 (by decide)⟩, fun j hj' => BX_k B40 hb hj'⟩
        have f57 : gA s40 57 = gA T 57 := F40.2.1 57 (by decide)
        have f58 : gA s40 58 = gA T 58 := F40.2.1 58 (by decide)
        refine y_prune_L (L := (d : Int)) hv FU FU d b s38 s40 ⟨H40, ⟨R38, R40⟩, K40, ⟨(F40.1 55 (by decide)).trans h55, ⟨fun u hu hn => by rw [BX_u B40 hu]; exact hW.1 u hu hn, by rw [BX_u B40 (by omega)]; exact hW.2⟩, hd⟩, ⟨M, TG_D T2 dd, PM_D P2 dd, ⟨⟨ha, by rw [tb, BX_c B40]; exact bc, by rw [tb, BX_v B40]; exact bv⟩, by rw [tb, BX_l B40]; exact bl, by rw [tb]; exact bm, fun u hu hn => by rw [tb]; exact bmu u hu hn⟩, Y40⟩, ⟨by rw [F38.2.1 50 (by decide), h50 d (Nat.le_refl _), hPi], fun j hj' => ?_⟩, O40⟩
        rw [F38.2.1 50 (by decide), F38.2.1 51 (by decide), h50 j (by omega), hPj j hj', hA 51 (by decide), ht j hj', f57, f58]
        exact ⟨rfl, rfl⟩)
      exact pc_mono (J s11 e11 s13 R11 T11 V11 e13) (fun o ho => Or.inr ⟨rfl, ho.2.2, π, σ, lo, hj, ho.1, ho.2.1⟩)
    · have lev : 0 < (hM T).1 b := by omega
      have ev : ∀ k : Nat, (k : Int) < (hM T).2.1 b → gA S 59 (6 * π b + k) = (π ((hM T).2.2 b k).toNat : Int) := fun k hk => (Bb.2.2 k hk).2.1 lev
      obtain ⟨l, hl⟩ : ∃ l, d - i = l + 1 := ⟨d - i - 1, by omega⟩
      have hHS1 : ∃ k : Nat, (k : Int) < (hM T).2.1 b ∧ PF (kM T b) ((hM T).2.1 b) key (k : Int) ∧ HS T key l ((hM T).2.2 b k).toNat := by
        rw [hl] at hHS; exact hHS
      refine s_ust1 (by omega) (fun r q30 hEF e30 => ?_)
      have e30o := e30
      have r0 := hEF.1
      have r1 : r < (hM T).2.1 b := by
        rcases hEF.2.1 with w | w
        · omega
        · rw [← z1]; exact w.1
      have EFT : EF (kM T b) ((hM T).2.1 b) key r := by
        have q := EF_c (g := kM T b) (fun k hk => ((Bb.2.2 k (by rw [← z1]; exact hk)).1).symm) hEF
        rw [z1] at q; exact q
      rw [ev r.toNat (by omega)] at e30
      have kid := (hK.2.1 b hb lb).2 lev r.toNat (by omega)
      have kidN := (hK.2.1 b hb lb).1.1.2.2 lev r.toNat (by omega)
      obtain ⟨y, hy⟩ : ∃ y, y = ((hM T).2.2 b r.toNat).toNat := ⟨_, rfl⟩
      rw [← hy] at e30 kid kidN
      have y48 : y < 48 := by omega
      have yv : (hM T).2.2 b r.toNat = (y : Int) := by omega
      have ty : ((y : Nat) : Int).toNat = y := Int.toNat_natCast _
      have tpy : ((π y : Nat) : Int).toNat = π y := Int.toNat_natCast _
      have py48 := (hP y y48).1.1
      have nby : b ≠ y := fun e => by rw [← e] at kidN; omega
      have hcy : 0 < cM T y := by
        have k := TG_kid (p := b) (k := r.toNat) TT (fun _ _ => Int.le_refl 0) hb (by omega) lev (by omega)
        rw [yv, ty] at k; exact k.2.2
      have cy := sim_c h y48
      have zD' : ∀ x, x < 48 → 0 ≤ Z0 x ∧ Z0 x ≤ 10 := fun x _ => ⟨Int.le_refl 0, by show (0 : Int) ≤ 10; omega⟩
      have W30 := wp_det (ts_owned hR TSs zD' (by omega) (p0 := (π y : Int)) ⟨by omega, by omega⟩ (by rw [tpy, cy.1]; exact hcy)) e30
      have km := kid_mu (k := r.toNat) hv P hb (by omega) lev (by omega)
      have ke := enf_pos (h := hM T) (p := b) (k := r.toNat) (i := 0) lev (by omega) (by omega) (by omega)
      rw [yv] at km ke
      have MTO : ∀ q46 : Int × MS, m_x12_owned (y : Int) T = some q46 → (Rr q46.2 ∧ F_x12_owned T q46.2 ∧ (∀ i, 785 ≤ i → gA q46.2 49 i = gA T 49 i) ∧ ((gI q46.2 55 = 1 ∧ q46.1 = (y : Int)) ∨ (gI q46.2 55 = 0 ∧ 0 ≤ q46.1 ∧ ∃ M', OwnM T q46.2 v M M' y q46.1.toNat))) := fun q46 e46 => by
        have W46 := wp_det (mt_owned (M := M) hRt hv TT P (KS_CE hKS hC0) (by rw [S39]; omega) h55 (p0 := (y : Int)) ⟨by omega, by omega⟩ (by rw [ty]; exact hcy) km (own_x hv TT P (by rw [ty]; exact y48) (Or.inr ⟨b, hb, by omega, by
          rw [ty]
          have q : 1 ≤ en (hM T) b (y : Int) := ke
          omega, fun u hu hn => by rw [bmu u hu hn]; omega⟩))) e46
        rw [ty] at W46; exact W46
      have OWN : ∀ q46 : Int × MS, m_x12_owned (y : Int) T = some q46 → (q30.1 = -1 ∧ gI q46.2 55 = 1) ∨ (gI q46.2 55 = 0 ∧ 0 ≤ q30.1 ∧ 0 ≤ q46.1 ∧ ∃ π' σ', SIM π' σ' q30.2 q46.2 ∧ q30.1 = (π' q46.1.toNat : Int) ∧ (∀ x, x < 48 → LV T x → π' x = π x) ∧ CPY T q46.2 y q46.1.toNat) := fun q46 e46 => by
        have Y := y_ownB (v := v) (M := M) h hK hR hRt TSs TT (KS_CE hKS hC0) (by omega) (by rw [S39]; omega) h55 (p := (π y : Int)) (p' := (y : Int)) ⟨by omega, by omega⟩ (by rw [ty]) (by rw [ty]; exact hcy) e30 e46 W30.2.2 (by rw [ty]; exact (MTO q46 e46).2.2.2)
        rw [ty] at Y; exact Y
      have PFr : ∀ r' : Int, PF (kM T b) ((hM T).2.1 b) key r' → r' = r := fun r' hPF => (EF_PF (OI_SO hOI hK hb lb) (fun _ _ => rfl) EFT hPF).symm
      refine ⟨fun c => ?_, fun c s34 s27 e34 e27 => ?_⟩
      · refine m_ust1 h55 lev ⟨n1, sb.2⟩ (fun r' q46 hPF e46 => ?_)
        rw [PFr r' hPF, yv] at e46
        rw [PFr r' hPF]
        have f : gI q46.2 55 = 1 := by
          rcases OWN q46 e46 with x | x
          · exact x.2
          · exact absurd c (by have := x.2.1; omega)
        refine ⟨fun _ => pc_mono (m_J92F f) (fun o ho => Or.inl ⟨rfl, ho⟩), fun _ s53 e53 => ?_⟩
        have F53 : F_x12_setsEntry q46.2 s53 := fr_x12_setsEntry e53
        exact pc_mono (m_J92F ((F53.1 55 (by decide)).trans f)) (fun o ho => Or.inl ⟨rfl, ho⟩)
      · -- the child is each side's own
        have hCO : CurO S (π b : Int) ((d : Int) - (i : Int)) := by
          have cb := sim_c h hb
          refine ⟨⟨by omega, by omega⟩, ?_, ?_, ?_⟩
          · rw [tp, cb.1]; exact bc
          · rw [tp, cb.2]; exact bv
          · rw [tp]; exact Bb.1.trans bl
        have C := c_next hR TSs hCO (by omega) (by omega) (r := r) ⟨r0, by rw [tp, z1]; exact r1⟩ (by rw [tp]; exact e30o) c e34
        try rw [tp] at C
        obtain ⟨hR34, T34, q30r, ⟨g54, g55, g56⟩, Cb, ge, g57⟩ := C
        have F30 : F_x1_owned S q30.2 := fr_x1_owned e30
        have F34 : F_x8_set q30.2 s34 := fr_x8_set e34
        intro q eq
        refine m_ust1 h55 lev ⟨n1, sb.2⟩ (fun r' q46 hPF e46 => ?_)
        rw [PFr r' hPF] at e46 ⊢
        rw [yv] at e46 ⊢
        rcases OWN q46 e46 with x | ⟨x55, x1, x2, π1, σ1, H1, x3, x4, CP⟩
        · exact absurd x.1 c
        have fin : ∀ X : MS, (((hM q46.2).2.2 b r.toNat = q46.1 ∧ X = q46.2) ∨ ((hM q46.2).2.2 b r.toNat ≠ q46.1 ∧ m_x12_setsEntry (b : Int) r (kM q46.2 b r.toNat) q46.1 q46.2 = some X)) → pc (m_x12_removes_J92 (m_x12_removes_L29 m) (v : Int) key (b : Int) (i : Int) r q46.1 X) (fun o => CONu q o) := fun X hX => by
          obtain ⟨cc, hcc⟩ : ∃ cc, cc = q46.1.toNat := ⟨_, rfl⟩
          have ci : q46.1 = (cc : Int) := by omega
          have CP' := CP
          try rw [← hcc] at x3
          try rw [← hcc] at CP'
          obtain ⟨CP1, CP2, CP3, CP4⟩ := CP'
          have RN := r_nextU hv hRt hKS hC0 hE h55 hW TT P hO0 (by omega) ⟨r0, r1⟩ (by rw [yv]; exact e46) x55 hX
          rw [yv, ty, ← hcc] at RN
          obtain ⟨RX, KX, X55, ⟨WX, rtX⟩, cR, _, ⟨BXx, zX, ⟨vX, vX'⟩, kX⟩, MX, lastX⟩ := RN
          obtain ⟨M', UX, TX, PX, hAX, hc1, hc2, hc3⟩ := MX
          have c48 : cc < 48 := by omega
          have ncb : b ≠ cc := fun e => by
            rcases CP4 with w | w
            · exact nby (e.trans w)
            · exact w (by rw [← e]; exact lb)
          have rb := CP2 b ncb
          have LVb : LV q46.2 b := by
            have q := hAX.1.2.1
            rw [tb, BX_c BXx] at q
            exact Or.inl (by omega)
          have K46 : ∀ x, x < 48 → LV q46.2 x → 0 ≤ (hM q46.2).2.1 x ∧ (hM q46.2).2.1 x ≤ 6 := fun x hx hl => by
            rcases CP3 x hx hl with w | w
            · rw [w, CP1.2.1]; exact hKs y y48 kid.2
            · by_cases e : x = cc
              · rw [e, CP1.2.1]; exact hKs y y48 kid.2
              · rw [(CP2 x e).2.1]; exact hKs x hx w
          have eb : (hM q46.2).2.2 b r.toNat = (y : Int) := by rw [(rb.2.2 r.toNat).1]; exact yv
          have B46 := sim_b H1 hb LVb
          have kb : π1 b = π b := x4 b hb lb
          have P1 := H1.1.1
          have R46 : Rr q46.2 := (MTO q46 e46).1
          have lev46 : 0 < (hM q46.2).1 b := by rw [rb.1]; omega
          have vc := (B46.2.2 r.toNat (by rw [rb.2.1]; omega)).2.1 lev46
          rw [eb, ty] at vc
          have Y2 := y_set H1 K46 W30.1 R46 hb LVb (p1 := r) (v1 := q30.1) (v2 := q46.1) ⟨r0, by rw [rb.2.1]; exact r1⟩ ⟨by omega, by omega⟩ ⟨by omega, by omega⟩ ⟨fun _ => by rw [← hcc]; exact x3, fun w => by omega⟩ (by
            rw [eb, show gA q30.2 59 (6 * π1 b + r.toNat) = (π1 y : Int) from vc, x3, ci]
            constructor
            · intro e
              rw [show y = cc by omega]
            · intro e
              have := PB_i P1 y48 c48 (by omega)
              omega) (by rw [kb]; exact e34) (by
            rcases hX with w | w
            · exact Or.inl ⟨w.1, w.2⟩
            · exact Or.inr w)
          obtain ⟨H2, _, _⟩ := Y2
          have F46 : F_x12_owned T q46.2 := fr_x12_owned e46
          have XA : ∀ k, k = 57 ∨ k = 58 → gA X k = gA T k := fun k hk => by
            rcases hX with w | w
            · rw [w.2]; exact F46.2.1 k (by simp; omega)
            · have F53 : F_x12_setsEntry q46.2 X := fr_x12_setsEntry w.2
              rw [F53.2.1 k (by simp; omega)]; exact F46.2.1 k (by simp; omega)
          have OX := OI_own (S := X) (b := b) (y := y) (r := cc) (k := r.toNat) (key := key) hOI hK hb lb lev (by omega) yv hky (by
              rw [show ((r.toNat : Nat) : Int) = r by omega]
              obtain ⟨f1, f2, f3⟩ := EFT
              refine ⟨f1, f2.imp id (fun w => w.1), fun k k1 k2 => ?_, fun w => ?_⟩
              · rcases f2 with w | w
                · omega
                · by_cases e : k = r.toNat
                  · rw [e]; exact w.2
                  · have := OI_SO hOI hK hb lb k r.toNat k1 (by omega) (by omega)
                    omega
              · exact f3 (r + 1).toNat (by omega) (by omega) (by omega))
            (ROW_t CP1 (ROW_bx BXx (fun e => ncb e.symm))) (fun e => ncb e.symm) (fun x x1' x2' => ROW_t (CP2 x x1') (ROW_bx BXx x2')) ⟨by rw [BX_l BXx]; exact rb.1, by rw [zX]; exact rb.2.1, fun j => by rw [kX j]; exact (rb.2.2 j).2, vX.trans ci, fun j hj' => by rw [vX' j hj']; exact (rb.2.2 j).1⟩ (fun x hx hl => by
              refine CP3 x hx ?_
              unfold LV at hl ⊢
              rw [← BX_c BXx, ← BX_v BXx]; exact hl) (by
              rcases CP4 with w | w
              · refine Or.inl ⟨w, fun p k' hp lp hlp hk' hv' => ?_⟩
                have cv := lastX w
                have OP := one_par TT y48 rfl hb (by omega) lev (k := r.toNat) (by omega) yv cv.1
                rcases lp with cp | cp
                · exact OP p k' hp cp hlp hk' hv'
                · exfalso
                  have kd := TG_kid (TG_ss TT) (fun _ _ => Int.le_refl 0) hp cp hlp hk'
                  have kd2 := kd.2.2
                  rw [hv', ty] at kd2
                  omega
              · exact Or.inr w)
          obtain ⟨OX1, OX2⟩ := OX
          unfold m_x12_removes_J92
          refine pc_inb (pc_stn (fun s54 e54 => pc_inb (pc_stn (fun s56 e56 => ?_))))
          have hR54 : Rr s54 := e54 ▸ Rr.uAu RX (by show (0 : Int) ≤ (b : Int) ∧ (b : Int) ≤ 47; omega)
          have hR56 : Rr s56 := e56 ▸ Rr.uAu hR54 (by show (0 : Int) ≤ r ∧ r ≤ 6; omega)
          have a57 : gA s56 57 = upZ (gA X 57) ((i : Nat) : Int).toNat (b : Int) := (q_Aa e56 (by decide)).trans (q_AA e54)
          have a58 : gA s56 58 = upZ (gA X 58) ((i : Nat) : Int).toNat r := by rw [(q_AA e56 : gA s56 58 = _), show gA s54 58 = gA X 58 from q_Aa e54 (by decide)]
          have a49 : gA s56 49 = gA X 49 := (q_Aa e56 (by decide)).trans (q_Aa e54 (by decide))
          have kA : ∀ k, k ≠ 57 → k ≠ 58 → gA s56 k = gA X k := fun k k1 k2 => (q_Aa e56 k2).trans (q_Aa e54 k1)
          have a39 : gA s56 39 = gA X 39 := kA 39 (by decide) (by decide)
          have a55 : gI s56 55 = gI X 55 := (q_Ai e56).trans (q_Ai e54)
          obtain ⟨m1, m2, m3, m4⟩ := eq49 a49
          have K56 : KS t0 s56 := KS_t KX ⟨⟨a39, kA 42 (by decide) (by decide), kA 43 (by decide) (by decide), kA 44 (by decide) (by decide)⟩, fun j _ => by rw [a49]⟩
          have YX := WY_up hY (T_6 TT) (XA 57 (Or.inl rfl)) (XA 58 (Or.inr rfl)) rtX UX (Int.le_refl _)
          have yX : (hM X).2.2 ((b : Nat) : Int).toNat r.toNat = (cc : Int) := by rw [tb]; exact vX.trans ci
          have YW := WY_push YX (by omega) a57 a58 a49 hAX ⟨r0, by rw [tb, zX, rb.2.1]; exact r1⟩ yX
          have k51 : gA s27 51 = upZ (gA s34 51) i r := q_AA e27
          have k27 : ∀ k, k ≠ 51 → gA s27 k = gA s34 k := fun k hk => q_Aa e27 hk
          have i27 : ∀ k, gI s27 k = gI s34 k := fun k => q_Ai e27
          have hR27 : Rg s27 := e27 ▸ Rg.uAu hR34 (by show (0 : Int) ≤ r ∧ r ≤ 5; omega)
          have T27 : TS s27 Z0 (-1) := TS_eq T34 (k27 54 (by decide)) (k27 55 (by decide)) (k27 56 (by decide)) (k27 57 (by decide)) (k27 58 (by decide)) (k27 59 (by decide)) (k27 60 (by decide)) (k27 61 (by decide)) (i27 _) (i27 _)
          have ei : (i : Int) + 1 = ((i + 1 : Nat) : Int) := by omega
          rw [ci]
          rw [x3, ei] at eq
          rw [ei] at YW ⊢
          refine ih m (i + 1) cc s27 s56 π1 σ1 _ _ ⟨SIM_k H2 (fun k k1 k2 => k27 k (by omega)) (i27 1060) (q_Al e27) a49 (by rw [a39]) (kA 54 (by decide) (by decide)), ⟨hR27, hR56⟩, K56, ⟨T27, by rw [i27, ge]; exact h581, RV_eq hV ((k27 60 (by decide)).trans ((F34.2.1 60 (by decide)).trans (F30.2.1 60 (by decide))))⟩, ⟨a55.trans X55, ⟨fun u hu hn => by rw [a49]; exact WX.1 u hu hn, by rw [a49]; exact WX.2⟩, M', TM_eq TX a49 a39, PM_e PX a49 a39 (by omega), ⟨⟨⟨by omega, by omega⟩, by rw [Int.toNat_natCast, m3]; exact hc1.1, by rw [Int.toNat_natCast, m4]; exact hc1.2⟩, by rw [Int.toNat_natCast, m1, hc2]; omega, by rw [Int.toNat_natCast]; exact hc3.1, fun u hu hn => by rw [Int.toNat_natCast]; exact hc3.2 u hu hn⟩, YW⟩, OI_49 OX1 a49, OX2, ⟨by omega, hd⟩, fun j hj' => ?_, ?_⟩ q eq
          · rw [k51, a58, Int.toNat_natCast]
            by_cases z : j = i
            · rw [z, upZ_s, upZ_s]
            · rw [upZ_n z, upZ_n z, F34.2.1 51 (by decide), F30.2.1 51 (by decide), XA 58 (Or.inr rfl)]
              exact ht j (by omega)
          · obtain ⟨k, gk1, gk2, gk3⟩ := hHS1
            have kr : k = r.toNat := by
              have := PFr (k : Int) gk2
              omega
            rw [kr, ← hy] at gk3
            have rX : ∀ x, ROW X x s56 x := fun x => ⟨by rw [m1], by rw [m1], fun j => by rw [m1, m2]; exact ⟨rfl, rfl⟩⟩
            have ey : (hM T).1 y = (l : Int) := by omega
            rw [show d - (i + 1) = l by omega]
            refine HS_r hK l cc y y48 kid.2 ey (ROW_t (ROW_t CP1 (ROW_bx BXx (fun e => ncb e.symm))) (rX cc)) (fun z z1' z2 z3 => ?_) gk3
            have zb : z ≠ b := fun e => by rw [e] at z3; omega
            have zc : z ≠ cc := fun e => by
              rcases CP4 with w | w
              · rw [e, w] at z3; omega
              · exact w (by rw [← e]; exact z2)
            exact ROW_t (ROW_t (CP2 z zc) (ROW_bx BXx zb)) (rX z)
        have eb2 : (hM q46.2).2.2 b r.toNat = (y : Int) := by
          have ncb : b ≠ q46.1.toNat := fun e => by
            rcases CP.2.2.2 with w | w
            · exact nby (e.trans w)
            · exact w (by rw [← e]; exact lb)
          rw [((CP.2.1 b ncb).2.2 r.toNat).1]; exact yv
        exact ⟨fun w => fin q46.2 (Or.inl ⟨by rw [eb2, w], rfl⟩), fun w s53 e53 => fin s53 (Or.inr ⟨fun w2 => w (by rw [← w2, eb2]), e53⟩)⟩
theorem m_rem1 {v : Nat} {key : Int} {t : MS} {Q : MS → Prop} (K : ∀ q60 : Int × MS, m_x12_owned (gA t 49 v) t = some q60 → (gI q60.2 55 ≠ 0 → Q q60.2) ∧ (gI q60.2 55 = 0 → ∀ s64 : MS, sA q60.2 49 (upZ (gA q60.2 49) v q60.1) = s64 → pc (m_x12_removes_L29 FU (v : Int) key q60.1 0 s64) Q)) : pc (m_x12_removes (v : Int) key t) Q := by
  have tv : ((v : Nat) : Int).toNat = v := Int.toNat_natCast _
  unfold m_x12_removes
  refine pc_rdI (fun _ => ?_)
  rw [tv]
  refine pc_bn (fun q60 e60 => pc_rg (pc_if (fun c => pc_inb (pc_stn (fun s64 e64 => ?_))) (fun c => pc_some ((K q60 e60).1 c))))
  exact (K q60 e60).2 c s64 e64
set_option maxHeartbeats 2000000 in
theorem y_uproot {π σ : Nat → Nat} {s t : MS} {lo hj : Nat → Int} {v : Nat} {key : Int} (h : SIM π σ s t) (hR : Rg s) (hRt : Rr t) (S0 : TS s Z0 (-1)) (H : RT t) (hC0 : CE t 0) (hN0 : 0 ≤ gA t 39 5) (hE : 3 ≤ gA t 39 6 ∧ gA t 39 6 ≤ 6) (h581 : 3 ≤ gI s 581) (hf : gI t 55 = 0) (hv : v < 8) (hrt : 0 ≤ gA t 49 v ∧ gA t 49 v < 254) (hO : OI t lo hj) (hkey : R2 key) (hHS : HS t key ((hM t).1 (gA t 49 v).toNat).toNat (gA t 49 v).toNat) : pc (m_x1_uproot (v : Int) key s) (fun q => pc (m_x12_removes (v : Int) key t) (fun o => CONu q o)) := by
  obtain ⟨M0, P0⟩ := RT_PM v (by omega) H
  have T0 : TM t d0 (-1) := H.1
  have tv : ((v : Nat) : Int).toNat = v := Int.toNat_natCast _
  have zD : ∀ x, x < 48 → 0 ≤ Z0 x := fun x _ => Int.le_refl 0
  have zD' : ∀ x, x < 48 → 0 ≤ Z0 x ∧ Z0 x ≤ 10 := fun x _ => ⟨Int.le_refl 0, by show (0 : Int) ≤ 10; omega⟩
  have hK : KLV t := KLV_of T0 (fun _ _ => Int.le_refl 0)
  have hN48 : gA t 39 5 ≤ 48 := T0.1.1
  have rl := TG_root_live (v := v) T0 (fun _ _ => Int.le_refl 0) hv (by rw [rM_v hv]; omega) (by rw [rM_v hv]; omega)
  rw [rM_v hv] at rl
  have rm := root_mu hv P0 hrt.1 hrt.2
  obtain ⟨y, hy⟩ : ∃ y, y = (gA t 49 v).toNat := ⟨_, rfl⟩
  rw [← hy] at rl rm
  have yv : gA t 49 v = (y : Int) := by omega
  have y48 : y < 48 := by omega
  have ty : ((y : Nat) : Int).toNat = y := Int.toNat_natCast _
  have ly : LV t y := Or.inl rl.2
  have lv : 0 ≤ (hM t).1 y ∧ (hM t).1 y ≤ 47 := TG_lev T0 (fun _ _ => Int.le_refl 0) y48 rl.2
  have cy := sim_c h y48
  have py48 := (h.1.1 y y48).1.1
  have tpy : ((π y : Nat) : Int).toNat = π y := Int.toNat_natCast _
  have s60 : gA s 60 v = (π y : Int) := by
    rcases (h.1.2.2.2 v hv).1 with ⟨a, _⟩ | ⟨a, _⟩ | ⟨_, _, a⟩
    · omega
    · omega
    · rw [← hy] at a; exact a
  rw [← hy] at hHS
  obtain ⟨d, hd⟩ : ∃ d, d = ((hM t).1 y).toNat := ⟨_, rfl⟩
  rw [← hd] at hHS
  have e56 : gA s 56 (π y) = (d : Int) := by
    have q : gA s 56 (π y) = (hM t).1 y := (sim_b h y48 ly).1
    omega
  unfold m_x1_uproot
  refine pc_rdI (fun _ => pc_rdI (fun _ => pc_rdI (fun _ => ?_)))
  rw [tv, s60, tpy, e56]
  refine pc_bn (fun q87 e87 => ?_)
  have W1 := wp_det (ts_owned hR S0 zD' (by omega) (p0 := (π y : Int)) ⟨by omega, by omega⟩ (by rw [tpy, cy.1]; exact rl.2)) e87
  obtain ⟨R87, F87, W1⟩ := W1
  have OWN : ∀ q60 : Int × MS, m_x12_owned (gA t 49 v) t = some q60 → (Rr q60.2 ∧ F_x12_owned t q60.2 ∧ (∀ i, 785 ≤ i → gA q60.2 49 i = gA t 49 i) ∧ ((gI q60.2 55 = 1 ∧ q60.1 = (y : Int)) ∨ (gI q60.2 55 = 0 ∧ 0 ≤ q60.1 ∧ ∃ M', OwnM t q60.2 v M0 M' y q60.1.toNat))) ∧ ((q87.1 = -1 ∧ gI q60.2 55 = 1) ∨ (gI q60.2 55 = 0 ∧ 0 ≤ q87.1 ∧ 0 ≤ q60.1 ∧ ∃ π' σ', SIM π' σ' q87.2 q60.2 ∧ q87.1 = (π' q60.1.toNat : Int) ∧ (∀ x, x < 48 → LV t x → π' x = π x) ∧ CPY t q60.2 y q60.1.toNat)) := fun q60 e60 => by
    rw [yv] at e60
    have W2 := wp_det (mt_owned (M := M0) hRt hv T0 P0 hC0 (by omega) hf (p0 := (y : Int)) ⟨by omega, by omega⟩ (by rw [ty]; exact rl.2) (by rw [ty]; exact rm) (own_x hv T0 P0 (by rw [ty]; exact y48) (Or.inl (by rw [ty]; exact yv)))) e60
    have Y := y_ownB (v := v) (M := M0) h hK hR hRt S0 T0 hC0 (by omega) (by omega) hf (p := (π y : Int)) (p' := (y : Int)) ⟨by omega, by omega⟩ (by rw [ty]) (by rw [ty]; exact rl.2) e87 e60 W1 W2.2.2.2
    rw [ty] at Y W2
    exact ⟨W2, Y⟩
  refine pc_rg (pc_if (fun c => pc_some (m_rem1 (fun q60 e60 => ?_))) (fun c => pc_inb (pc_stn (fun s67 e67 => ?_))))
  · rcases (OWN q60 e60).2 with x | x
    · exact ⟨fun _ => Or.inl ⟨rfl, x.2⟩, fun w => by omega⟩
    · have := x.2.1; omega
  try rw [tv] at e67
  -- the root is each side's own
  have hR67 : 0 ≤ q87.1 → q87.1 < 48 → Rg s67 := fun a b => e67 ▸ Rg.uAu R87 (by show (-2 : Int) ≤ q87.1 ∧ q87.1 ≤ 253; omega)
  have ROOT : ∀ (q60 : Int × MS) (s64 : MS), m_x12_owned (gA t 49 v) t = some q60 → gI q60.2 55 = 0 → sA q60.2 49 (upZ (gA q60.2 49) v q60.1) = s64 → ∃ (cc : Nat) (π1 σ1 : Nat → Nat) (lo1 hj1 : Nat → Int), (q60.1 = (cc : Int) ∧ cc < 48 ∧ q87.1 = (π1 cc : Int)) ∧ SIM π1 σ1 s67 s64 ∧ (OI s64 lo1 hj1 ∧ (lo1 cc ≤ key ∧ key ≤ hj1 cc)) ∧ (Rr s64 ∧ KS t s64 ∧ gI s64 55 = 0 ∧ RWn t s64 v) ∧ (gA s64 49 v = (cc : Int) ∧ ∃ M', TM s64 d0 (-1) ∧ PM s64 v M' d0 (-1) ∧ ((cM s64 cc = 1 ∧ vM s64 cc = 0) ∧ (hM s64).1 cc = (hM t).1 y ∧ (M' v cc = 1 ∧ ∀ u, u < 16 → u ≠ v → M' u cc = 0))) ∧ ((ROW t y s64 cc ∧ ∀ x, x ≠ cc → ROW t x s64 x) ∧ (cc = y ∨ ¬ LV t cc)) := fun q60 s64 e60 x55 e64 => by
    obtain ⟨⟨hRo, Fo, ko, h60⟩, Y⟩ := OWN q60 e60
    rcases Y with x | ⟨_, x1, x2, π1, σ1, H1, x3, x4, CP⟩
    · omega
    rcases h60 with ⟨h60, _⟩ | ⟨z0, w0, M', ⟨⟨rq, rN⟩, ⟨o54, o55⟩, ⟨o56, o57⟩⟩, oc, oh, oq, ou, ⟨To, Po⟩, om, omu, omn, omx⟩
    · omega
    obtain ⟨cc, hcc⟩ : ∃ cc, cc = q60.1.toNat := ⟨_, rfl⟩
    try rw [← hcc] at x3
    try rw [← hcc] at CP
    try rw [← hcc] at rq
    try rw [← hcc] at rN
    try rw [← hcc] at o54
    try rw [← hcc] at o55
    try rw [← hcc] at o56
    try rw [← hcc] at o57
    try rw [← hcc] at oc
    try rw [← hcc] at oh
    try rw [← hcc] at oq
    try rw [← hcc] at om
    try rw [← hcc] at omu
    try rw [← hcc] at omx
    try rw [← hcc] at To
    try rw [← hcc] at Po
    have ci : q60.1 = (cc : Int) := by omega
    rw [ci] at e64
    have tcc : ((cc : Nat) : Int).toNat = cc := Int.toNat_natCast _
    have KSo : KS t q60.2 := ⟨⟨Fo.2.1 39 (by decide), Fo.2.1 42 (by decide), Fo.2.1 43 (by decide), Fo.2.1 44 (by decide)⟩, ko⟩
    have hR64 : Rr s64 := e64 ▸ Rr.uAu hRo (by show (-2147483648 : Int) ≤ (cc : Int) ∧ (cc : Int) ≤ 2147483647; omega)
    have u64 : gA s64 49 = upZ (gA q60.2 49) v (cc : Int) := q_AA e64
    have a39 : gA s64 39 = gA q60.2 39 := q_Aa e64 (by decide)
    obtain ⟨T1, P1⟩ := MT_root (q := (cc : Int)) To Po hv u64 a39 (Or.inl ⟨by omega, by rw [KSo.1.1]; omega⟩)
    obtain ⟨⟨w1, w2⟩, ⟨w3, w4⟩, _⟩ := M_root hv u64
    have rX : ∀ x, ROW q60.2 x s64 x := fun x => ⟨by rw [w1], by rw [w1], fun j => by rw [w1, w2]; exact ⟨rfl, rfl⟩⟩
    have dd : ∀ x : Nat, x < 48 → d0 x = dq cc x - dq y x + (if gA q60.2 49 v = (x : Int) then 1 else 0) - (if (cc : Int) = (x : Int) then 1 else 0) := fun x hx => by
      show (0 : Int) = _
      rw [ou v (by omega), yv, dd_0 (r := (cc : Int)) (by omega), dd_0 (r := (y : Int)) (by omega), tcc, ty]; omega
    have K64 : KS t s64 := KS_t KSo ⟨⟨a39, q_Aa e64 (by decide), q_Aa e64 (by decide), q_Aa e64 (by decide)⟩, fun j hj' => by rw [u64, upZ_n (by omega)]⟩
    have H64 : SIM π1 σ1 s67 s64 := sim_root H1 hv (fun k k1 k2 k3 => q_Aa e67 k3) (by rw [(q_AA e67 : gA s67 60 = _), x3]) (q_Ai e67) (q_Al e67) u64 (by rw [a39]) (q_Aa e64 (by decide)) (Or.inr (Or.inr ⟨by omega, by omega, by rw [tcc]⟩))
    have OR := OI_rt (key := key) hO hK y48 ly CP.1 CP.2.1 CP.2.2.1 (by
      rcases CP.2.2.2 with w | w
      · refine Or.inl ⟨w, fun p k' hp lp hlp hk' hv' => ?_⟩
        have cv : cM t y = 1 ∧ vM t y = 0 := by
          rcases Classical.em (cM t y = 1 ∧ vM t y = 0) with u | u
          · exact u
          · exfalso
            have lvy := (TG_nd T0 y48 rl.2)
            have tk : ∀ o1 : Int × MS, m_x12_taken ((hM t).1 y) (y : Int) t = some o1 → gI o1.2 55 = 0 → (0 ≤ o1.1 ∧ o1.1 < gA t 39 5) ∧ (cM t o1.1.toNat ≤ 0 ∧ vM t o1.1.toNat ≤ 0) ∧ TkE t o1.2 o1.1.toNat ((hM t).1 y) := fun o1 eo z => by
              have W := (wp_det (w_x12_taken hRt ⟨hN0, hN48⟩ hC0 (p0 := (hM t).1 y) (p1 := (y : Int)) ⟨lv.1, by omega⟩ ⟨by omega, by omega⟩) eo).2.2
              rcases W with W | ⟨_, W⟩
              · omega
              · exact W
            have e60' := e60
            rw [yv] at e60'
            have g2 := m_own (p := (y : Int)) (t := t) (by omega) hf (fun o1 eo z => by
              rw [ty] at eo ⊢
              obtain ⟨W2, W3, W4⟩ := tk o1 eo z
              have ne : y ≠ o1.1.toNat := fun e2 => by rw [← e2] at W3; omega
              refine ⟨W2.1, fun e2 => ne e2.symm, ?_⟩
              have := W4.1 (20 + 16 * y) (by omega)
              show gA o1.2 49 (20 + 16 * y) ≤ 6
              rw [this]; exact lvy.2.1.2) q60 e60'
            rw [ty] at g2
            rcases g2 with ⟨a, _⟩ | ⟨_, o1, eo1, a2⟩
            · exact u ⟨a.2, a.1.2⟩
            · rcases a2 with ⟨x, e2⟩ | ⟨x, e2, _⟩
              · have : q60.2 = o1.2 := by rw [e2]
                rw [this] at x55; exact x x55
              · obtain ⟨_, W3, _⟩ := tk o1 eo1 x
                rw [← e2, ci, tcc, w] at W3; omega
        rcases lp with cp | cp
        · exact one_rt T0 hv y48 rfl yv cv.1 p k' hp cp hlp hk' hv'
        · have kd := TG_kid (TG_ss T0) (fun _ _ => Int.le_refl 0) hp cp hlp hk'
          have kd2 := kd.2.2
          rw [hv', ty] at kd2
          omega
      · exact Or.inr w)
    refine ⟨cc, π1, σ1, _, _, ⟨ci, rq, x3⟩, H64, ⟨OI_same OR.1 (fun x hx hl => ⟨by unfold LV at hl ⊢; rw [← w3, ← w4]; exact hl, Or.inl ⟨by rw [w1], by rw [w1], fun k => by rw [w1, w2]; exact ⟨rfl, rfl⟩⟩⟩), OR.2⟩, ⟨hR64, K64, (q_Ai e64).trans z0, fun u hu hn => by rw [u64, upZ_n hn]; exact ou u hu, by rw [u64, upZ_s]; omega⟩, ⟨by rw [u64, upZ_s], M', TG_D T1 dd, PM_D P1 dd, ⟨by rw [w3]; exact o54, by rw [w4]; exact o55⟩, by rw [w1]; exact o56, om, omu⟩, ⟨ROW_t CP.1 (rX cc), fun x hx => ROW_t (CP.2.1 x hx) (rX x)⟩, CP.2.2.2⟩
  -- the class behind the root
  rcases W1 with w | ⟨r0, ⟨rq, rN⟩, ⟨o54, o55⟩, ⟨o56, o57⟩, _, _, _, T1⟩
  · exact absurd w c
  have i67 : gI s67 1060 = gI q87.2 1060 := q_Ai e67
  have g60 : gA s67 60 = upZ (gA q87.2 60) v q87.1 := q_AA e67
  have h60s : gA q87.2 60 = gA s 60 := F87.2.1 60 (by decide)
  have R67 := hR67 r0 (by omega)
  have T1r := TG_root (v := v) (q := q87.1) T1 hv (Or.inl ⟨r0, by show q87.1 < gI q87.2 1060; rw [F87.1 1060 (by decide)]; omega⟩)
  have T67 : TS s67 Z0 (-1) := by
    refine TS_mk (TG_D T1r (fun x hx => ?_)) (hN_eq (q_Aa e67 (by decide)) (q_Aa e67 (by decide)) (q_Aa e67 (by decide))) (kN_eq (q_Aa e67 (by decide))) (q_Ai e67) (q_Ai e67) (q_Aa e67 (by decide)) (q_Aa e67 (by decide)) g60 (q_Aa e67 (by decide))
    show (0 : Int) = 0 + (if x = q87.1.toNat then 1 else 0) - (if x = ((π y : Nat) : Int).toNat then 1 else 0) + (if gA q87.2 60 v = (x : Int) then 1 else 0) - (if q87.1 = (x : Int) then 1 else 0)
    rw [h60s, s60, tpy]
    by_cases z : x = q87.1.toNat
    · rw [if_pos z, if_pos (show q87.1 = (x : Int) by omega)]
      by_cases z2 : x = π y
      · rw [if_pos z2, if_pos (show (π y : Int) = (x : Int) by omega)]; omega
      · rw [if_neg z2, if_neg (show ¬ (π y : Int) = (x : Int) by omega)]; omega
    · rw [if_neg z, if_neg (show ¬ q87.1 = (x : Int) by omega)]
      by_cases z2 : x = π y
      · rw [if_pos z2, if_pos (show (π y : Int) = (x : Int) by omega)]; omega
      · rw [if_neg z2, if_neg (show ¬ (π y : Int) = (x : Int) by omega)]; omega
  intro q eq
  refine m_rem1 (fun q60 e60 => ⟨fun w => ?_, fun x55 s64 e64 => ?_⟩)
  · rcases (OWN q60 e60).2 with x | x
    · exact absurd x.1 c
    · exact absurd x.1 w
  obtain ⟨cc, π1, σ1, lo1, hj1, ⟨ci, c48, x3⟩, H64, ⟨O1, O2⟩, ⟨R64, K64, f55, W64⟩, ⟨r49, M', T64, P64, ⟨u1, u2⟩, u3, u4, u5⟩, ⟨rw1, rw2⟩, rw3⟩ := ROOT q60 s64 e60 x55 e64
  have tcc : ((cc : Nat) : Int).toNat = cc := Int.toNat_natCast _
  rw [x3] at eq
  rw [ci]
  have hz : ((0 : Nat) : Int) = 0 := rfl
  refine y_uproot_L (s0 := s) (t0 := t) (d := d) hv hkey hC0 hE hN0 FU FU 0 cc s67 s64 π1 σ1 lo1 hj1 ⟨H64, ⟨R67, R64⟩, K64, ⟨T67, by rw [(q_Ai e67 : gI s67 581 = gI q87.2 581), F87.1 581 (by decide)]; exact h581, RV_up (S := q87.2) (fun w _ => by rw [F87.2.1 60 (by decide)]) g60 (by omega)⟩, ⟨f55, W64, M', T64, P64, ⟨⟨⟨by omega, by omega⟩, by rw [tcc]; exact u1, by rw [tcc]; exact u2⟩, by rw [tcc, u3]; omega, by rw [tcc]; exact u4, fun u hu hn => by rw [tcc]; exact u5 u hu hn⟩, fun j hj' => absurd hj' (by omega), by rw [if_pos hz]; exact r49⟩, O1, O2, ⟨Nat.zero_le _, by omega⟩, fun j hj' => absurd hj' (Nat.not_lt_zero j), ?_⟩ q eq
  show HS s64 key d cc
  refine HS_r hK d cc y y48 ly (by omega) rw1 (fun z z1 z2 z3 => rw2 z (fun e => ?_)) hHS
  rcases rw3 with w | w
  · rw [e, w] at z3; omega
  · exact w (by rw [← e]; exact z2)
/-! ===== what a KEY's VALUE is, on both sides ===== -/
theorem m_val0 {m b : Nat} {key : Int} {T : MS} (hl : (hM T).1 b ≤ 0) (hz : 0 ≤ (hM T).2.1 b ∧ (hM T).2.1 b ≤ 6) : pc (m_x12_valueFrom_L11 T (m + 1) key (b : Int)) (fun o => ∃ q, PI (kM T b) ((hM T).2.1 b) key q ∧ ((¬ (q < (hM T).2.1 b ∧ kM T b q.toNat = key) ∧ o = -1) ∨ ((q < (hM T).2.1 b ∧ kM T b q.toNat = key) ∧ o = (hM T).2.2 b q.toNat))) := by
  have tb : ((b : Nat) : Int).toNat = b := Int.toNat_natCast _
  show pc (m_x12_valueFrom_b11 T (m_x12_valueFrom_L11 T m) key (b : Int)) _
  unfold m_x12_valueFrom_b11 m_x12_valueFrom_J73 m_x12_valueFrom_J74
  refine pc_bq (m_lev (by omega)) (fun r5 h5 => ?_)
  try rw [tb] at h5
  refine pc_rg (pc_if (fun _ => pc_bq (m_placeIn (by omega) (by rw [tb]; exact hz)) (fun r9 h9 => pc_bq (m_ents (by omega)) (fun r11 h11 => ?_))) (fun c => absurd (by omega) c))
  try rw [tb] at h9
  try rw [tb] at h11
  rw [h11]
  have p0 := h9.1
  refine pc_rg (pc_rg (pc_if (fun c => pc_some ⟨r9, h9, Or.inl ⟨fun w => by omega, rfl⟩⟩) (fun c => pc_bq (m_key (by omega) ⟨p0.1, by omega⟩) (fun r16 h16 => ?_))))
  try rw [tb] at h16
  refine pc_rg (pc_rg (pc_if (fun c2 => pc_bq (m_val (by omega) ⟨p0.1, by omega⟩) (fun r21 h21 => pc_some ?_)) (fun c2 => pc_some ⟨r9, h9, Or.inl ⟨fun w => c2 (h16.trans w.2), rfl⟩⟩)))
  try rw [tb] at h21
  exact ⟨r9, h9, Or.inr ⟨⟨by omega, h16.symm.trans c2⟩, h21⟩⟩
theorem m_val1 {m b : Nat} {key : Int} {T : MS} {Q : Int → Prop} (hl : 0 < (hM T).1 b) (hz : 1 ≤ (hM T).2.1 b ∧ (hM T).2.1 b ≤ 6) (K : ∀ r, PF (kM T b) ((hM T).2.1 b) key r → pc (m_x12_valueFrom_L11 T m key ((hM T).2.2 b r.toNat)) Q) : pc (m_x12_valueFrom_L11 T (m + 1) key (b : Int)) Q := by
  have tb : ((b : Nat) : Int).toNat = b := Int.toNat_natCast _
  show pc (m_x12_valueFrom_b11 T (m_x12_valueFrom_L11 T m) key (b : Int)) _
  unfold m_x12_valueFrom_b11
  refine pc_bq (m_lev (by omega)) (fun r5 h5 => ?_)
  try rw [tb] at h5
  refine pc_rg (pc_if (fun c => absurd c (by omega)) (fun _ => pc_bq (m_placeFor (by omega) (by rw [tb]; exact hz.2)) (fun r23 h23 => ?_)))
  try rw [tb] at h23
  have r0 := h23.1
  have r1 := h23.2.1
  refine pc_bq (m_val (by omega) ⟨r0, by omega⟩) (fun r25 h25 => ?_)
  try rw [tb] at h25
  rw [h25]
  exact K r23 h23
theorem y_val_L {π : Nat → Nat} {s t : MS} {lo hj : Nat → Int} {key : Int} (h : ∀ x, x < 48 → LV t x → BR1 π (hN s) (hM t) (kN s) (kM t) x) (hK : KLV t) (hO : OI t lo hj) (n1 : ∀ x, x < 48 → LV t x → 0 < (hM t).1 x → 1 ≤ (hM t).2.1 x) : ∀ (n m b i : Nat), b < 48 → LV t b → (hM t).1 b = (i : Int) → pc (m_x8_valueAt_L16 s n key (π b : Int) (i : Int)) (fun r => pc (m_x12_valueFrom_L11 t m key (b : Int)) (fun o => r = o ∧ (o ≠ -1 → HS t key i b))) := by
  refine fr_ind (fun _ _ _ _ _ _ => pc_none) (fun n ih m b i hb lb hl => ?_)
  cases m with
  | zero => exact fun q _ => pc_none
  | succ m =>
    have Bb := h b hb lb
    have Kb := hK.2.1 b hb lb
    have sb := Kb.1.1.2.1
    have tp : ((π b : Nat) : Int).toNat = π b := Int.toNat_natCast _
    have z1 : gA s 57 (π b) = (hM t).2.1 b := Bb.2.1
    show pc (m_x8_valueAt_b16 s (m_x8_valueAt_L16 s n) key (π b : Int) (i : Int)) _
    unfold m_x8_valueAt_b16 m_x8_valueAt_J64 m_x8_below m_x8_slot
    refine pc_rg (pc_if (fun c => ?_) (fun c => ?_))
    · have i0 : i = 0 := by omega
      have so0 := ((hO b hb lb).2.1 (by omega)).1
      have e1 : ∀ k : Nat, (k : Int) < (hM t).2.1 b → kM t b k = gA s 58 (6 * π b + k) := fun k hk => ((Bb.2.2 k hk).1).symm
      have so1 : SO (fun k => gA s 58 (6 * π b + k)) 0 ((hM t).2.1 b) := fun x y _ xy yz => by
        show gA s 58 (6 * π b + x) < gA s 58 (6 * π b + y)
        rw [← e1 x (by omega), ← e1 y yz]
        exact so0 x y (Nat.zero_le _) xy yz
      refine pc_bq (s_find (by omega)) (fun r8 h8 => ?_)
      rw [tp, z1] at h8
      refine pc_rg (pc_if (fun c2 => pc_some (pc_mono (m_val0 (by omega) sb) (fun o ho => ?_))) (fun c2 => pc_bn (fun r12 e12 => ?_)))
      · obtain ⟨q, hq, w⟩ := ho
        rcases w with ⟨_, w2⟩ | ⟨w1, _⟩
        · exact ⟨w2.symm, fun z => absurd w2 z⟩
        · exfalso
          rcases FD_PI so1 e1 h8 hq with ⟨_, u2⟩ | ⟨_, u2, _⟩
          · exact u2 w1
          · omega
      · cases e12
        refine pc_rdI (fun _ => pc_some (pc_mono (m_val0 (by omega) sb) (fun o ho => ?_)))
        obtain ⟨q, hq, w⟩ := ho
        rcases FD_PI so1 e1 h8 hq with ⟨u1, _⟩ | ⟨u1, u2, u3, u4⟩
        · exact absurd u1 c2
        · rcases w with ⟨w1, _⟩ | ⟨w1, w2⟩
          · exact absurd ⟨by omega, u4⟩ w1
          · have ev := (Bb.2.2 q.toNat (by omega)).2.2 (by omega)
            have ev' : gA s 59 (6 * π b + q.toNat) = (hM t).2.2 b q.toNat := ev
            rw [show ((π b : Int) * 6 + r8).toNat = 6 * π b + q.toNat by omega, ev', w2]
            refine ⟨rfl, fun _ => ?_⟩
            rw [i0]
            exact ⟨q.toNat, by omega, u4⟩
    · have lev : 0 < (hM t).1 b := by omega
      have nb := n1 b hb lb lev
      obtain ⟨l, hl'⟩ : ∃ l, i = l + 1 := ⟨i - 1, by omega⟩
      refine pc_bn (fun r15 e15 => ?_)
      obtain ⟨r2, hEF, er⟩ : ∃ r2, EF (fun k => gA s 58 (6 * π b + k)) (gA s 57 (π b)) key r2 ∧ r15 = gA s 59 (6 * π b + r2.toNat) := by
        have g : pc (bn (m_x8_entryFor (π b : Int) key s) (fun r2 => bn (some ((π b : Int) * 6 + r2)) (fun r4 => rdI (gA s 59) 288 r4 (fun y5 => some y5)))) (fun r15 => ∃ r2, EF (fun k => gA s 58 (6 * π b + k)) (gA s 57 (π b)) key r2 ∧ r15 = gA s 59 (6 * π b + r2.toNat)) := by
          refine pc_bq (s_entryFor (by omega)) (fun r2 h2 => pc_bn (fun r4 e4 => ?_))
          cases e4
          try rw [tp] at h2
          have r0 := h2.1
          refine pc_rdI (fun _ => pc_some ⟨r2, h2, ?_⟩)
          rw [show ((π b : Int) * 6 + r2).toNat = 6 * π b + r2.toNat by omega]
        exact g r15 e15
      have r0 := hEF.1
      have r1 : r2 < (hM t).2.1 b := by
        rcases hEF.2.1 with w | w
        · omega
        · rw [← z1]; exact w.1
      have EFT : EF (kM t b) ((hM t).2.1 b) key r2 := by
        have q := EF_c (g := kM t b) (fun k hk => ((Bb.2.2 k (by rw [← z1]; exact hk)).1).symm) hEF
        rw [z1] at q; exact q
      have ev := (Bb.2.2 r2.toNat (by omega)).2.1 lev
      have ev' : gA s 59 (6 * π b + r2.toNat) = (π ((hM t).2.2 b r2.toNat).toNat : Int) := ev
      have kid := Kb.2 lev r2.toNat (by omega)
      have kidN := Kb.1.1.2.2 lev r2.toNat (by omega)
      obtain ⟨y, hy⟩ : ∃ y, y = ((hM t).2.2 b r2.toNat).toNat := ⟨_, rfl⟩
      rw [← hy] at ev' kid kidN
      have yv : (hM t).2.2 b r2.toNat = (y : Int) := by omega
      rw [er, ev', show (i : Int) + (-1) = (l : Int) by omega]
      intro q eq
      refine m_val1 lev ⟨nb, sb.2⟩ (fun r hPF => ?_)
      have rr2 : r = r2 := (EF_PF (OI_SO hO hK hb lb) (fun _ _ => rfl) EFT hPF).symm
      rw [rr2, yv]
      refine pc_mono (ih m y l (by omega) kid.2 (by omega) q eq) (fun o ho => ⟨ho.1, fun z => ?_⟩)
      rw [hl']
      refine ⟨r2.toNat, by omega, ?_, ?_⟩
      · rw [show ((r2.toNat : Nat) : Int) = r2 by omega, ← rr2]; exact hPF
      · rw [← hy]; exact ho.2 z
theorem y_val {π : Nat → Nat} {s t : MS} {lo hj : Nat → Int} {key r1 r2 : Int} (h : ∀ x, x < 48 → LV t x → BR1 π (hN s) (hM t) (kN s) (kM t) x) (hK : KLV t) (hO : OI t lo hj) (n1 : ∀ x, x < 48 → LV t x → 0 < (hM t).1 x → 1 ≤ (hM t).2.1 x) (hr : rtr π r1 r2) (hl : 0 ≤ r2 → r2 < 48 → LV t r2.toNat) : pc (m_x8_valueAt r1 key s) (fun r => pc (m_x12_valueFrom r2 key t) (fun o => r = o ∧ (o ≠ -1 → (0 ≤ r2 ∧ r2 < 254) ∧ HS t key ((hM t).1 r2.toNat).toNat r2.toNat))) := by
  unfold m_x8_valueAt m_x12_valueFrom
  rcases hr with ⟨a, b⟩ | ⟨a, b⟩ | ⟨a, b, c⟩
  · refine pc_rg (pc_if (fun z => absurd z (by omega)) (fun _ => pc_some (pc_rg (pc_if (fun z => absurd z (by omega)) (fun _ => pc_some ⟨rfl, fun z => absurd rfl z⟩)))))
  · refine pc_rg (pc_if (fun z => absurd z (by omega)) (fun _ => pc_some (pc_rg (pc_if (fun z => absurd z (by omega)) (fun _ => pc_some ⟨rfl, fun z => absurd rfl z⟩)))))
  · obtain ⟨y, hy⟩ : ∃ y, y = r2.toNat := ⟨_, rfl⟩
    rw [← hy] at c hl ⊢
    have yi : r2 = (y : Int) := by omega
    have ly := hl a b
    have y48 : y < 48 := by omega
    have Bb := h y y48 ly
    have l0 := (hK.2.1 y y48 ly).1.1.1
    have tp : ((π y : Nat) : Int).toNat = π y := Int.toNat_natCast _
    have e56 : gA s 56 (π y) = (((hM t).1 y).toNat : Int) := by
      have q : gA s 56 (π y) = (hM t).1 y := Bb.1
      omega
    rw [c, yi]
    refine pc_rg (pc_if (fun _ => pc_rdI (fun _ => ?_)) (fun z => absurd (by omega) z))
    rw [tp, e56]
    intro q eq
    refine pc_rg (pc_if (fun _ => ?_) (fun z => absurd (by omega) z))
    exact pc_mono (y_val_L h hK hO n1 FU FU y ((hM t).1 y).toNat y48 ly (by omega) q eq) (fun o ho => ⟨ho.1, fun z => ⟨⟨by omega, by omega⟩, ho.2 z⟩⟩)
/-! ===== to remove, tried ===== -/
theorem sim_785 {π σ : Nat → Nat} {s t o : MS} (h : SIM π σ s t) (e : ∀ i, i < 785 → gA o 49 i = gA t 49 i) (e54 : ∀ x, x < 48 → gA o 54 x = gA t 54 x) (e39 : gA o 39 5 = gA t 39 5) : SIM π σ s o := ⟨TRf_r h.1 e, by rw [e39]; exact h.2.1, fun x hx q => by
  have q' : 0 < cM t x := by
    have e' : cM o x = cM t x := e (17 + 16 * x) (by omega)
    rw [← e']; exact q
  rw [e54 x hx]; exact h.2.2 x hx q'⟩
/-- what was put by; that the key is there -/
def SV0 (t X : MS) : Prop := (∀ k, k ≠ 59 → k ≠ 60 → gA X k = gA t k) ∧ (∀ i, i < 785 → gA X 59 i = gA t 49 i) ∧ (∀ i, i < 48 → gA X 60 i = gA t 54 i) ∧ (∀ i, i ≠ 55 → gI X i = gI t i)
theorem m_tries3 {v : Nat} {key val : Int} {t : MS} : pc (m_x12_tries 3 (v : Int) key val t) (fun o => ∃ Z r, (gA Z 49 = gA t 49 ∧ gA Z 39 = gA t 39 ∧ gA Z 54 = gA t 54) ∧ m_x12_valueOf (v : Int) key Z = some r ∧ ((r = -1 ∧ o.1 = 0 ∧ ∃ X, SV0 t X ∧ BKm X o.2) ∨ (r ≠ -1 ∧ ∃ X Y, SVm t X ∧ m_x12_removes (v : Int) key X = some Y ∧ ((gI Y 55 = 0 ∧ o = (1, Y)) ∨ (gI Y 55 ≠ 0 ∧ o.1 = 0 ∧ BKm Y o.2))))) := by
  have L34 : ∀ (n : Nat) (x : Int) (S : MS), (0 ≤ x ∧ x ≤ 48) → (∀ k, k ≠ 59 → k ≠ 60 → gA S k = gA t k) → (∀ i, i < 785 → gA S 59 i = gA t 49 i) → (∀ i : Nat, (i : Int) < x → gA S 60 i = gA t 54 i) → (∀ i, gI S i = gI t i) → (Rr t → Rr S) → pc (m_x12_tries_L34 n 3 (v : Int) key val x S) (fun o => ∃ Z r, (gA Z 49 = gA t 49 ∧ gA Z 39 = gA t 39 ∧ gA Z 54 = gA t 54) ∧ m_x12_valueOf (v : Int) key Z = some r ∧ ((r = -1 ∧ o.1 = 0 ∧ ∃ X, SV0 t X ∧ BKm X o.2) ∨ (r ≠ -1 ∧ ∃ X Y, SVm t X ∧ m_x12_removes (v : Int) key X = some Y ∧ ((gI Y 55 = 0 ∧ o = (1, Y)) ∨ (gI Y 55 ≠ 0 ∧ o.1 = 0 ∧ BKm Y o.2))))) := by
    refine fr_ind (fun _ _ _ _ _ _ _ _ => pc_none) (fun n ih x S hx h1 h2 h3 h5 h6 => ?_)
    show pc (m_x12_tries_b34 (m_x12_tries_L34 n) 3 (v : Int) key val x S) _
    unfold m_x12_tries_b34 m_x12_tries_J81 m_x12_tries_J82 m_x12_tries_J108 m_x12_tries_J121
    refine pc_rg (pc_if (fun c => pc_rg (pc_if (fun _ => pc_bn (fun r57 e57 => pc_rg (pc_if (fun c2 => ?_) (fun c2 => ?_)))) (fun c2 => absurd rfl c2))) (fun c => pc_rdI (fun _ => pc_inb (pc_bo2 (fun b01 => pc_stn (fun s63 e63 => ih (x + 1) s63 (by omega) (fun k k1 k2 => (q_Aa e63 k2).trans (h1 k k1 k2)) (fun i hi => by rw [(q_Aa e63 (by decide) : gA s63 59 = gA S 59)]; exact h2 i hi) (fun i hi => ?_) (fun i => (q_Ai e63).trans (h5 i)) (fun hr => e63 ▸ Rr.uAu (h6 hr) (by show (0 : Int) ≤ gA S 54 x.toNat ∧ gA S 54 x.toNat ≤ 1; omega))))))))
    · refine pc_bo (pc_stn (fun X eX => pc_rg (pc_if (fun c3 => absurd ((q_II eX).symm.trans c3) (by decide)) (fun _ => pc_rg (pc_if (fun c3 => absurd ((q_II eX).symm.trans c3) (by decide)) (fun _ => pc_rg (pc_if (fun c3 => absurd ((q_II eX).symm.trans c3) (by decide)) (fun _ => ?_))))))))
      have SX : SV0 t X := ⟨fun k k1 k2 => (q_Ia eX).trans (h1 k k1 k2), fun i hi => by rw [(q_Ia eX : gA X 59 = gA S 59)]; exact h2 i hi, fun i hi => by rw [(q_Ia eX : gA X 60 = gA S 60)]; exact h3 i (by omega), fun i hi => (q_Ii eX hi).trans (h5 i)⟩
      exact pc_mono m_back (fun o ho => ⟨S, r57, ⟨h1 49 (by decide) (by decide), h1 39 (by decide) (by decide), h1 54 (by decide) (by decide)⟩, e57, Or.inl ⟨c2, ho.1, X, SX, ho.2⟩⟩)
    · refine pc_bo (pc_stn (fun X eX => pc_rg (pc_if (fun _ => pc_rg (pc_if (fun c4 => absurd c4 (by decide)) (fun _ => pc_rg (pc_if (fun _ => pc_bn (fun Y eY => ?_)) (fun c3 => absurd (q_II eX) c3))))) (fun c3 => absurd (q_II eX) c3))))
      have SX : SVm t X := ⟨fun k k1 k2 => (q_Ia eX).trans (h1 k k1 k2), fun i hi => by rw [(q_Ia eX : gA X 59 = gA S 59)]; exact h2 i hi, fun i hi => by rw [(q_Ia eX : gA X 60 = gA S 60)]; exact h3 i (by omega), fun i hi => (q_Ii eX hi).trans (h5 i), q_II eX, fun hr => eX ▸ Rr.uI (h6 hr) (by show (0 : Int) ≤ 0 ∧ (0 : Int) ≤ 1; omega)⟩
      have Z0' : gA S 49 = gA t 49 ∧ gA S 39 = gA t 39 ∧ gA S 54 = gA t 54 := ⟨h1 49 (by decide) (by decide), h1 39 (by decide) (by decide), h1 54 (by decide) (by decide)⟩
      exact pc_rg (pc_if (fun c5 => pc_some ⟨S, r57, Z0', e57, Or.inr ⟨c2, X, Y, SX, eY, Or.inl ⟨c5, rfl⟩⟩⟩) (fun c5 => pc_mono m_back (fun o ho => ⟨S, r57, Z0', e57, Or.inr ⟨c2, X, Y, SX, eY, Or.inr ⟨c5, ho.1, ho.2⟩⟩⟩)))
    · rw [(q_AA e63 : gA s63 60 = _)]
      by_cases z : i = x.toNat
      · rw [z, upZ_s, h1 54 (by decide) (by decide)]
      · rw [upZ_n z]; exact h3 i (by omega)
  have L3 : ∀ (n : Nat) (x : Int) (S : MS), (0 ≤ x ∧ x ≤ 785) → (∀ k, k ≠ 59 → gA S k = gA t k) → (∀ i : Nat, (i : Int) < x → gA S 59 i = gA t 49 i) → (∀ i, gI S i = gI t i) → (Rr t → Rr S) → pc (m_x12_tries_L3 n 3 (v : Int) key val x S) (fun o => ∃ Z r, (gA Z 49 = gA t 49 ∧ gA Z 39 = gA t 39 ∧ gA Z 54 = gA t 54) ∧ m_x12_valueOf (v : Int) key Z = some r ∧ ((r = -1 ∧ o.1 = 0 ∧ ∃ X, SV0 t X ∧ BKm X o.2) ∨ (r ≠ -1 ∧ ∃ X Y, SVm t X ∧ m_x12_removes (v : Int) key X = some Y ∧ ((gI Y 55 = 0 ∧ o = (1, Y)) ∨ (gI Y 55 ≠ 0 ∧ o.1 = 0 ∧ BKm Y o.2))))) := by
    refine fr_ind (fun _ _ _ _ _ _ _ => pc_none) (fun n ih x S hx h1 h2 h5 h6 => ?_)
    show pc (m_x12_tries_b3 (m_x12_tries_L3 n) 3 (v : Int) key val x S) _
    unfold m_x12_tries_b3
    refine pc_rg (pc_if (fun c => L34 FU 0 S (by omega) (fun k k1 _ => h1 k k1) (fun i hi => h2 i (by omega)) (fun i hi => absurd hi (by omega)) h5 h6) (fun c => pc_rdI (fun _ => pc_inb (pc_stn (fun s74 e74 => ih (x + 1) s74 (by omega) (fun k hk => (q_Aa e74 hk).trans (h1 k hk)) (fun i hi => ?_) (fun i => (q_Ai e74).trans (h5 i)) (fun hr => e74 ▸ Rr.uAu (h6 hr) (by show R2 (gA S 49 x.toNat); exact R49 (h6 hr) (by omega))))))))
    rw [(q_AA e74 : gA s74 59 = _)]
    by_cases z : i = x.toNat
    · rw [z, upZ_s, h1 49 (by decide)]
    · rw [upZ_n z]; exact h2 i (by omega)
  unfold m_x12_tries
  exact L3 FU 0 t (by omega) (fun _ _ => rfl) (fun i hi => absurd hi (by omega)) (fun _ => rfl) id
theorem n1_of {t : MS} {D : Nat → Int} (T : TM t D (-1)) : ∀ x, x < 48 → LV t x → 0 < (hM t).1 x → 1 ≤ (hM t).2.1 x := fun x hx hl _ => by
  rcases hl with w | w
  · exact T.2.2.1.1 x hx w (by omega)
  · exact T.2.2.1.2 x hx w
set_option maxHeartbeats 1000000 in
theorem y_tryUproot {π σ : Nat → Nat} {s t : MS} {lo hj : Nat → Int} {v : Nat} {key val : Int} (h : SIM π σ s t) (hZ : ZP s t) (hR : Rg s) (S0 : TS s Z0 (-1)) (H : RT t) (hC0 : CE t 0) (hN0 : 0 ≤ gA t 39 5) (hE : 3 ≤ gA t 39 6 ∧ gA t 39 6 ≤ 6) (h581 : 3 ≤ gI s 581) (hsp : gI s 1061 ≤ 999999) (hv : v < 8) (hO : OI t lo hj) (hkey : R2 key) (hRt : Rr t) : pc (m_x1_tryUproot (v : Int) key s) (fun q => pc (m_x12_tries 3 (v : Int) key val t) (fun o => TRY q o)) := by
  have tv : ((v : Nat) : Int).toNat = v := Int.toNat_natCast _
  have hK : KLV t := KLV_of H.1 (fun _ _ => Int.le_refl 0)
  have n1 := n1_of H.1
  have rts : rtr π (gA s 60 v) (gA t 49 v) := (h.1.2.2.2 v hv).1
  have lvr : 0 ≤ gA t 49 v → gA t 49 v < 48 → LV t (gA t 49 v).toNat := hK.2.2 v (by omega)
  -- both know whether the key is there
  have VAL : ∀ (r6 : Int) (Z : MS) (r : Int), m_x8_valueAt (gA s 60 v) key s = some r6 → (gA Z 49 = gA t 49 ∧ gA Z 39 = gA t 39 ∧ gA Z 54 = gA t 54) → m_x12_valueOf (v : Int) key Z = some r → r6 = r ∧ (r ≠ -1 → (0 ≤ gA t 49 v ∧ gA t 49 v < 254) ∧ HS t key ((hM t).1 (gA t 49 v).toNat).toNat (gA t 49 v).toNat) := fun r6 Z r e6 hZ' er => by
    obtain ⟨z1, z2, z3⟩ := hZ'
    obtain ⟨m1, m2, m3, m4⟩ := eq49 z1
    have HZ : SIM π σ s Z := SIM_k h (fun _ _ _ => rfl) rfl rfl z1 (by rw [z2]) z3
    have KZ : KLV Z := KLV_of (TM_eq H.1 z1 z2) (fun _ _ => Int.le_refl 0)
    have nZ := n1_of (TM_eq H.1 z1 z2)
    have g : pc (m_x12_valueOf (v : Int) key Z) (fun r => r6 = r ∧ (r ≠ -1 → (0 ≤ gA t 49 v ∧ gA t 49 v < 254) ∧ HS Z key ((hM Z).1 (gA t 49 v).toNat).toNat (gA t 49 v).toNat)) := by
      unfold m_x12_valueOf
      refine pc_rdI (fun _ => ?_)
      rw [tv, z1]
      exact pc_bq (y_val (fun x hx l => sim_b HZ hx l) KZ (OI_49 hO z1) nZ rts (fun a b => by have q := lvr a b; unfold LV at q ⊢; rw [m3, m4]; exact q) r6 e6) (fun r3 h3 => pc_some h3)
    obtain ⟨g1, g2⟩ := g r er
    refine ⟨g1, fun z => ?_⟩
    obtain ⟨g3, g4⟩ := g2 z
    refine ⟨g3, ?_⟩
    rw [m1] at g4
    have y48 : (gA t 49 v).toNat < 48 := by
      rcases rts with ⟨a, _⟩ | ⟨a, _⟩ | ⟨a, b, _⟩ <;> omega
    have ly : LV t (gA t 49 v).toNat := lvr g3.1 (by omega)
    have lyZ : LV Z (gA t 49 v).toNat := by unfold LV at ly ⊢; rw [m3, m4]; exact ly
    have l0 := (hK.2.1 _ y48 ly).1.1.1
    exact HS_r KZ _ _ _ y48 lyZ (by rw [m1]; omega) ⟨by rw [m1], by rw [m1], fun j => by rw [m1, m2]; exact ⟨rfl, rfl⟩⟩ (fun z _ _ _ => ⟨by rw [m1], by rw [m1], fun j => by rw [m1, m2]; exact ⟨rfl, rfl⟩⟩) g4
  unfold m_x1_tryUproot m_x1_tryUproot_J56
  refine pc_rdI (fun _ => ?_)
  rw [tv]
  refine pc_bn (fun r6 e6 => pc_rg (pc_if (fun c => pc_some (pc_mono m_tries3 (fun o ho => ?_))) (fun c => pc_bn (fun s5 e5 => pc_bn (fun q8 e8 => ?_)))))
  · obtain ⟨Z, r, hZ', er, w⟩ := ho
    have V := VAL r6 Z r e6 hZ' er
    rcases w with ⟨_, o1, X, SX, B⟩ | ⟨w, _⟩
    · have e49 : ∀ i, i < 785 → gA o.2 49 i = gA t 49 i := fun i hi => by rw [B.2.1 i hi, SX.2.1 i hi]
      refine ⟨o1.symm, B.2.2.2.2.2, π, σ, lo, hj, sim_785 h e49 (fun x hx => by rw [B.2.2.2.1 x hx, SX.2.2.1 x hx]) (by rw [B.1 39 (by decide) (by decide), SX.1 39 (by decide) (by decide)]), ZP_k hZ rfl rfl (fun _ _ _ => rfl) (fun k hk => by rw [B.1 k (by omega) (by omega), SX.1 k (by omega) (by omega)]), OI_785 hO e49⟩
    · exact absurd (V.1.symm.trans c) w
  obtain ⟨R5, b3⟩ := BC_v3 hR e5
  have l3 := s_v3 s5 e5
  have F5 : F_x8_become_v3 s s5 := fr_x8_become_v3 e5
  have F8 : F_x1_uproot s5 q8.2 := fr_x1_uproot e8
  have T5 : TS s5 Z0 (-1) := TS_eq S0 (F5.2.1 54 (by decide)) (F5.2.1 55 (by decide)) (F5.2.1 56 (by decide)) (F5.2.1 57 (by decide)) (F5.2.1 58 (by decide)) (F5.2.1 59 (by decide)) (F5.2.1 60 (by decide)) (F5.2.1 61 (by decide)) (F5.1 1060 (by decide)) (F5.1 581 (by decide))
  have JO : (0 ≤ gA t 49 v ∧ gA t 49 v < 254) → HS t key ((hM t).1 (gA t 49 v).toNat).toNat (gA t 49 v).toNat → ∀ X, SVm t X → pc (m_x12_removes (v : Int) key X) (fun Y => CONu q8 Y) := fun hrt hHS X SX => by
    have x49 : gA X 49 = gA t 49 := SX.1 49 (by decide) (by decide)
    have x39 : gA X 39 = gA t 39 := SX.1 39 (by decide) (by decide)
    obtain ⟨m1, m2, m3, m4⟩ := eq49 x49
    have HX : SIM π σ s5 X := SIM_k h (fun k k1 k2 => F5.2.1 k (by simp; omega)) (F5.1 1060 (by decide)) (F5.2.2.1 1062 (by decide)) x49 (by rw [x39]) (SX.1 54 (by decide) (by decide))
    have y48 : (gA t 49 v).toNat < 48 := by
      rcases rts with ⟨a, _⟩ | ⟨a, _⟩ | ⟨a, b, _⟩ <;> omega
    have ly : LV t (gA t 49 v).toNat := lvr hrt.1 (by omega)
    have l0 := (hK.2.1 _ y48 ly).1.1.1
    have hHX : HS X key ((hM X).1 (gA X 49 v).toNat).toNat (gA X 49 v).toNat := by
      rw [x49, m1]
      exact HS_r hK _ _ _ y48 ly (by omega) ⟨by rw [m1], by rw [m1], fun j => by rw [m1, m2]; exact ⟨rfl, rfl⟩⟩ (fun z _ _ _ => ⟨by rw [m1], by rw [m1], fun j => by rw [m1, m2]; exact ⟨rfl, rfl⟩⟩) hHS
    exact y_uproot HX R5 (SX.2.2.2.2.2 hRt) T5 (RT_x H (fun k _ => by rw [x49]) (by rw [x39]) (by rw [x39])) (CE_eq hC0 (SX.1 42 (by decide) (by decide)) (SX.1 43 (by decide) (by decide)) (SX.1 44 (by decide) (by decide))) (by rw [x39]; exact hN0) (by rw [x39]; exact hE) (by rw [F5.1 581 (by decide)]; exact h581) SX.2.2.2.2.1 hv (by rw [x49]; exact hrt) (OI_49 hO x49) hkey hHX q8 e8
  refine pc_rg (pc_if (fun c0 => pc_bn (fun s12 e12 => pc_bo (pc_some ?_))) (fun c0 => pc_bo (pc_some ?_)))
  · refine pc_mono m_tries3 (fun o ho => ?_)
    obtain ⟨Z, r, hZ', er, w⟩ := ho
    have V := VAL r6 Z r e6 hZ' er
    rcases w with ⟨w, _⟩ | ⟨w, X, Y, SX, eY, hY⟩
    · exact absurd (V.1.trans w) c
    obtain ⟨hrt, hHS⟩ := V.2 w
    rcases JO hrt hHS X SX Y eY with ⟨_, y55⟩ | ⟨z, _⟩
    · rcases hY with ⟨z, _⟩ | ⟨_, o1, B⟩
      · omega
      have FY' : F_x12_removes X Y := fr_x12_removes eY
      have r60 : 0 ≤ gA s5 60 v := by
        rw [F5.2.1 60 (by decide)]
        rcases rts with ⟨a, _⟩ | ⟨a, _⟩ | ⟨_, _, a⟩ <;> omega
      have R8' : Rg q8.2 := (wp_det (ts_uproot R5 T5 (by rw [F5.1 581 (by decide)]; exact h581) (p0 := (v : Int)) ⟨by omega, by omega⟩ (by rw [tv]; exact r60) hkey) e8).1
      have i1421 : gI q8.2 1421 = gI s 1061 := by rw [F8.1 1421 (by decide)]; exact b3.2.2.2.2
      obtain ⟨R12, b4⟩ := BC_v4 R8' (by rw [i1421]; exact hsp) e12
      have F12 : F_x8_become_v4 q8.2 s12 := fr_x8_become_v4 e12
      have K := sim_back h hK b3 l3 (fun k k1 k2 => F8.2.1 k (by simp; omega)) (fun k hk => F8.1 k (by simp; omega)) (F8.2.2.1 1422 (by decide)) b4 (s_v4 s12 e12) SX (FY'.2.1 59 (by decide)) (FY'.2.1 60 (by decide)) (FY'.2.1 39 (by decide)) B
      refine ⟨c0.trans o1.symm, B.2.2.2.2.2, π, σ, lo, hj, K.1, ZP_k hZ ?_ ?_ (fun k k1 k2 => ?_) (fun k hk => ?_), OI_785 hO K.2⟩
      · rw [F12.1 581 (by decide), F8.1 581 (by decide), F5.1 581 (by decide)]
      · rw [F12.1 741 (by decide), F8.1 741 (by decide), F5.1 741 (by decide)]
      · rw [F12.2.1 k (by simp; omega), F8.2.1 k (by simp; omega), F5.2.1 k (by simp; omega)]
      · rw [B.1 k (by omega) (by omega), FY'.2.1 k (by simp; omega), SX.1 k (by omega) (by omega)]
    · omega
  · refine pc_mono m_tries3 (fun o ho => ?_)
    obtain ⟨Z, r, hZ', er, w⟩ := ho
    have V := VAL r6 Z r e6 hZ' er
    rcases w with ⟨w, _⟩ | ⟨w, X, Y, SX, eY, hY⟩
    · exact absurd (V.1.trans w) c
    obtain ⟨hrt, hHS⟩ := V.2 w
    rcases JO hrt hHS X SX Y eY with ⟨z, _⟩ | ⟨z, y55, π', σ', lo', hi', G1, G2⟩
    · exact absurd z c0
    · rcases hY with ⟨_, rfl⟩ | ⟨w, _⟩
      · have FY' : F_x12_removes X Y := fr_x12_removes eY
        refine ⟨z, y55, π', σ', lo', hi', G1, ZP_k hZ ?_ ?_ (fun k k1 k2 => ?_) (fun k hk => ?_), G2⟩
        · rw [F8.1 581 (by decide), F5.1 581 (by decide)]
        · rw [F8.1 741 (by decide), F5.1 741 (by decide)]
        · rw [F8.2.1 k (by simp; omega), F5.2.1 k (by simp; omega)]
        · rw [FY'.2.1 k (by simp; omega), SX.1 k (by omega) (by omega)]
      · exact absurd y55 w
/-! ===== draws, VOLUMES counted, CHECKPOINTS, CRASHES: on both sides ===== -/
theorem and_mod {x : Int} (h : 0 ≤ x ∧ x ≤ 9223372036854775807) : andL x 2147483647 = Int.tmod x 2147483648 := by
  have n1 : ((i8 x).toBitVec.toNat : Int) = x := by
    have e' : (i8 x).toBitVec.toInt = x := i8_t ⟨by omega, h.2⟩
    have c := BitVec.toInt_eq_toNat_cond (i8 x).toBitVec
    have l := (i8 x).toBitVec.isLt
    rw [e'] at c
    split at c <;> omega
  have h1 : (i8 x &&& i8 2147483647) = Int64.ofBitVec ((i8 x).toBitVec &&& 2147483647#64) := rfl
  have h2 : (Int64.ofBitVec ((i8 x).toBitVec &&& 2147483647#64)).toInt = ((i8 x).toBitVec &&& 2147483647#64).toInt := rfl
  have h3 : ((i8 x).toBitVec &&& 2147483647#64).toNat = (i8 x).toBitVec.toNat % 2 ^ 31 := by
    rw [BitVec.toNat_and, show (2147483647#64).toNat = 2 ^ 31 - 1 from rfl, Nat.and_two_pow_sub_one_eq_mod]
  have p : (2 : Nat) ^ 31 = 2147483648 := by decide +kernel
  rw [p] at h3
  unfold andL
  rw [h1, h2, BitVec.toInt_eq_toNat_of_lt (by omega), h3, Int.tmod_eq_emod_of_nonneg h.1]
  omega
theorem s_draw {p : Int} {s : MS} (hp : 0 < p) : pc (m_x1_draw p s) (fun q => gI q.2 983 = andL (1103515245 * gI s 983 + 12345) 2147483647 ∧ q.1 = Int.tmod (Int.tdiv (gI q.2 983) 64) p) := by
  unfold m_x1_draw m_x1_draw_J39
  exact pc_rg (pc_stn (fun s4 e4 => pc_rg (pc_if (fun c => absurd c (by omega)) (fun _ => pc_dv (pc_dv (pc_some ⟨q_II e4, rfl⟩))))))
theorem pc_dvL2 {α : Type} {x y : Int} {k : Option α} {P : α → Prop} (h : pc k P) : pc (dvL x y k) P := by
  unfold dvL
  split
  · exact h
  · exact pc_none
theorem m_draw {p : Int} {t : MS} : pc (m_x12_drawOf p t) (fun q => gL q.2 78 = Int.tmod (1103515245 * gL t 78 + 12345) 2147483648 ∧ q.1 = Int.tmod (Int.tdiv (gL q.2 78) 64) p) := by
  unfold m_x12_drawOf
  exact pc_dvL2 (pc_stn (fun s2 e2 => pc_dvL2 (pc_rg (pc_dvL2 (pc_some ⟨q_LL e2, rfl⟩)))))
theorem y_draw {p : Int} {s t : MS} (hp : 0 < p) (hd : gI s 983 = gL t 78) (hb : 0 ≤ gL t 78 ∧ gL t 78 ≤ 2147483647) {q o : Int × MS} (e1 : m_x1_draw p s = some q) (e2 : m_x12_drawOf p t = some o) : q.1 = o.1 ∧ gI q.2 983 = gL o.2 78 := by
  obtain ⟨a1, a2⟩ := s_draw hp q e1
  obtain ⟨b1, b2⟩ := m_draw o e2
  have e : gI q.2 983 = gL o.2 78 := by
    rw [a1, b1, hd]
    exact and_mod ⟨by omega, by omega⟩
  exact ⟨by rw [a2, b2, e], e⟩
/-- which VOLUMES there are -/
def VJ (s t : MS) : Prop := ∀ v, v < 8 → (gA s 60 v = -2 ↔ (gI t 47 = 0 ∨ gA t 49 v = 255))
theorem VJ_of {π σ : Nat → Nat} {s t : MS} (h : SIM π σ s t) (h47 : gI t 47 ≠ 0) : VJ s t := fun v hv => by
  have e := (rtr_e (h.1.2.2.2 v hv).1).1
  constructor
  · intro w; exact Or.inr (e.1 w)
  · rintro (w | w)
    · exact absurd w h47
    · exact e.2 w
theorem s_isVol {p : Int} {s : MS} : pc (m_x8_isVolume p s) (fun r => (r = 1 ∧ (0 ≤ p ∧ p < 8) ∧ gA s 60 p.toNat ≠ -2) ∨ (r = 0 ∧ ¬ ((0 ≤ p ∧ p < 8) ∧ gA s 60 p.toNat ≠ -2))) := by
  unfold m_x8_isVolume m_x8_isVolume_J25 m_x8_isVolume_J26
  exact pc_rg (pc_if (fun c => pc_bo (pc_some (Or.inr ⟨rfl, fun w => by omega⟩))) (fun c => pc_rg (pc_if (fun c2 => pc_bo (pc_some (Or.inr ⟨rfl, fun w => by omega⟩))) (fun c2 => pc_rdI (fun _ => pc_rg (pc_if (fun c3 => pc_bo (pc_some (Or.inr ⟨rfl, fun w => w.2 c3⟩))) (fun c3 => pc_bo (pc_some (Or.inl ⟨rfl, ⟨by omega, by omega⟩, c3⟩)))))))))
theorem m_isIn {p a b : Int} {t : MS} : pc (m_x12_isIn p a b t) (fun r => (r = 1 ∧ a ≤ p ∧ p ≤ b) ∨ (r = 0 ∧ ¬ (a ≤ p ∧ p ≤ b))) := by
  have rgl : ∀ {x : Int} {k : Option Int} {P : Int → Prop}, pc k P → pc (rgL x k) P := fun {x k P} h => by
    unfold rgL
    split
    · exact h
    · exact pc_none
  unfold m_x12_isIn m_x12_isIn_J17 m_x12_isIn_J18
  exact rgl (rgl (pc_if (fun c => pc_bo (pc_some (Or.inr ⟨rfl, fun w => by omega⟩))) (fun c => rgl (rgl (pc_if (fun c2 => pc_bo (pc_some (Or.inr ⟨rfl, fun w => by omega⟩))) (fun c2 => pc_bo (pc_some (Or.inl ⟨rfl, by omega, by omega⟩))))))))
theorem m_isVol {p : Int} {t : MS} : pc (m_x12_isVolume p t) (fun r => (r = 1 ∧ (0 ≤ p ∧ p < 8) ∧ gI t 47 ≠ 0 ∧ gA t 49 p.toNat ≠ 255) ∨ (r = 0 ∧ ¬ ((0 ≤ p ∧ p < 8) ∧ gI t 47 ≠ 0 ∧ gA t 49 p.toNat ≠ 255))) := by
  unfold m_x12_isVolume m_x12_isVolume_J35 m_x12_isVolume_J36
  refine pc_bq m_isIn (fun r4 h4 => pc_rg (pc_if (fun c => pc_bo (pc_some (Or.inr ⟨rfl, fun w => ?_⟩))) (fun c => pc_rg (pc_if (fun c2 => pc_bo (pc_some (Or.inr ⟨rfl, fun w => w.2.1 c2⟩))) (fun c2 => pc_rdI (fun _ => pc_rg (pc_if (fun c3 => pc_bo (pc_some (Or.inr ⟨rfl, fun w => w.2.2 c3⟩))) (fun c3 => pc_bo (pc_some (Or.inl ⟨rfl, ?_, c2, c3⟩))))))))))
  · rcases h4 with ⟨a, _⟩ | ⟨_, b⟩
    · omega
    · exact b ⟨w.1.1, by omega⟩
  · rcases h4 with ⟨_, a, b⟩ | ⟨a, _⟩
    · exact ⟨a, by omega⟩
    · exact absurd a c
/-- both sides ask for a VOLUME -/
theorem y_isVol {p : Int} {s t : MS} (V : VJ s t) {r q : Int} (e1 : m_x8_isVolume p s = some r) (e2 : m_x12_isVolume p t = some q) : r = q ∧ ((r = 1 ∧ (0 ≤ p ∧ p < 8) ∧ gA s 60 p.toNat ≠ -2 ∧ gI t 47 ≠ 0 ∧ gA t 49 p.toNat ≠ 255) ∨ (r = 0 ∧ ¬ ((0 ≤ p ∧ p < 8) ∧ gA s 60 p.toNat ≠ -2))) := by
  rcases s_isVol r e1 with ⟨a, b, c⟩ | ⟨a, b⟩
  · rcases m_isVol q e2 with ⟨a', b', c', d'⟩ | ⟨a', b'⟩
    · exact ⟨a.trans a'.symm, Or.inl ⟨a, b, c, c', d'⟩⟩
    · exfalso
      have w := V p.toNat (by omega)
      refine b' ⟨b, fun z => c (w.2 (Or.inl z)), fun z => c (w.2 (Or.inr z))⟩
  · rcases m_isVol q e2 with ⟨a', b', c', d'⟩ | ⟨a', b'⟩
    · exfalso
      have w := V p.toNat (by omega)
      refine b ⟨b', fun z => ?_⟩
      rcases w.1 z with u | u
      · exact c' u
      · exact d' u
    · exact ⟨a.trans a'.symm, Or.inr ⟨a, b⟩⟩
theorem vc_eq {s t : MS} (V : VJ s t) : vcn (gA s 60) 8 = sm 8 (ivol t) := by
  unfold vcn
  refine sm_c (fun v hv => ?_)
  show (if gA s 60 v = -2 then (0 : Int) else 1) = ivol t v
  unfold ivol
  have w := V v hv
  by_cases z : gA s 60 v = -2
  · rw [if_pos z, if_neg (fun u => ?_)]
    rcases w.1 z with x | x
    · exact u.1 x
    · exact u.2 x
  · rw [if_neg z, if_pos ⟨fun x => z (w.2 (Or.inl x)), fun x => z (w.2 (Or.inr x))⟩]
theorem m_volEnd {t : MS} : ∀ (m : Nat) (v x : Int), 8 ≤ v → pc (m_x12_volumeAt_L4 t m v x) (fun _ => False) := by
  refine fr_ind (fun _ _ _ => pc_none) (fun m ih v x hv => ?_)
  show pc (m_x12_volumeAt_b4 t (m_x12_volumeAt_L4 t m) v x) _
  have J : pc (m_x12_volumeAt_J17 t (m_x12_volumeAt_L4 t m) v x) (fun _ => False) := by
    unfold m_x12_volumeAt_J17 m_x12_volumeAt_J29
    exact pc_rg (pc_bn (fun r9 _ => pc_rg (pc_if (fun _ => ih _ _ (by omega)) (fun _ => ih _ _ (by omega)))))
  unfold m_x12_volumeAt_b4
  refine pc_rg (pc_if (fun _ => J) (fun _ => pc_rg (pc_bq m_isVol (fun r16 h16 => pc_rg (pc_if (fun _ => J) (fun c => ?_))))))
  rcases h16 with ⟨_, b, _⟩ | ⟨a, _⟩
  · omega
  · exact absurd a c
theorem y_volAt {s t : MS} (V : VJ s t) : ∀ (n m : Nat) (x v : Int), 0 ≤ v → 0 ≤ x → pc (m_x1_volumeAt_L4 s n x v) (fun r => pc (m_x12_volumeAt_L4 t m v x) (fun q => r = q)) := by
  refine fr_ind (fun _ _ _ _ _ => pc_none) (fun n ih m x v hv hx => ?_)
  cases m with
  | zero => exact fun q _ => pc_none
  | succ m =>
    show pc (m_x1_volumeAt_b4 s (m_x1_volumeAt_L4 s n) x v) _
    unfold m_x1_volumeAt_b4 m_x1_volumeAt_J30
    refine pc_rg (pc_if (fun c => pc_some (pc_mono (m_volEnd (m + 1) v x c) (fun _ w => w.elim))) (fun c => pc_bn (fun r8 e8 => ?_)))
    -- the reference's step
    have REF : ∀ Q : Int → Prop, (r8 = 0 → pc (m_x12_volumeAt_L4 t m (v + 1) x) Q) → (r8 ≠ 0 → x = 0 → Q v) → (r8 ≠ 0 → x ≠ 0 → pc (m_x12_volumeAt_L4 t m (v + 1) (x + (-1))) Q) → pc (m_x12_volumeAt_L4 t (m + 1) v x) Q := fun Q K1 K2 K3 => by
      show pc (m_x12_volumeAt_b4 t (m_x12_volumeAt_L4 t m) v x) Q
      have J : (r8 ≠ 0 → x ≠ 0) → pc (m_x12_volumeAt_J17 t (m_x12_volumeAt_L4 t m) v x) Q := fun w => by
        unfold m_x12_volumeAt_J17 m_x12_volumeAt_J29
        refine pc_rg (pc_bn (fun r9 e9 => ?_))
        have Y := (y_isVol V e8 e9).1
        exact pc_rg (pc_if (fun z => K1 (Y.trans z)) (fun z => K3 (fun u => z (Y.symm.trans u)) (w (fun u => z (Y.symm.trans u)))))
      unfold m_x12_volumeAt_b4
      refine pc_rg (pc_if (fun z => J (fun _ => by omega)) (fun z => pc_rg (pc_bn (fun r16 e16 => ?_))))
      have Y := (y_isVol V e8 e16).1
      exact pc_rg (pc_if (fun u => J (fun w => absurd (Y.trans u) w)) (fun u => pc_some (K2 (fun w => u (Y.symm.trans w)) (by omega))))
    refine pc_rg (pc_if (fun c1 => ?_) (fun c1 => pc_rg (pc_if (fun c2 => pc_some (REF _ (fun w => absurd w c1) (fun _ _ => rfl) (fun _ w => absurd c2 w))) (fun c2 => ?_))))
    · exact fun q eq => REF _ (fun _ => ih m x (v + 1) (by omega) hx q eq) (fun w => absurd c1 w) (fun w => absurd c1 w)
    · exact fun q eq => REF _ (fun w => absurd w c1) (fun _ w => absurd w c2) (fun _ _ => ih m (x + (-1)) (v + 1) (by omega) (by omega) q eq)
/-- CHECKPOINT -/
theorem y_save {π σ : Nat → Nat} {s t s' t' : MS} (h : SIM π σ s t) (hR : Rg s) (hRt : Rr t) (e1 : m_x8_save s = some s') (e2 : m_x12_checks t = some t') : SIM π σ s' t' := by
  obtain ⟨_, a1, a2⟩ := wp_det (w_x8_save hR) e1
  obtain ⟨_, b1, b2, b3⟩ := wp_det (w_x12_checks hRt) e2
  have F1 : F_x8_save s s' := fr_x8_save e1
  have F2 : F_x12_checks t t' := fr_x12_checks e2
  have hP := h.1.1
  have nb : hN s' = hN s := by
    unfold hN
    rw [F1.2.1 56 (by decide), F1.2.1 57 (by decide), F1.2.1 59 (by decide)]
  have kb : kN s' = kN s := by
    unfold kN
    rw [F1.2.1 58 (by decide)]
  have cE : ∀ x, x < 48 → cM t' x = cM t x := fun x hx => b1 (17 + 16 * x) (by omega) (fun p hp => by omega)
  have vE : ∀ x, x < 48 → vM t' x = cM t x := fun x hx => b3 x hx
  have e19 : ∀ x, x < 48 → gA t' 49 (19 + 16 * x) = gA t 49 (19 + 16 * x) := fun x hx => b1 _ (by omega) (fun p hp => by omega)
  have e20 : ∀ x, x < 48 → gA t' 49 (20 + 16 * x) = gA t 49 (20 + 16 * x) := fun x hx => b1 _ (by omega) (fun p hp => by omega)
  have eE : ∀ x, x < 48 → ∀ k, (hM t').2.2 x k = (hM t).2.2 x k ∧ kM t' x k = kM t x k := fun x hx k => by
    show (if k < 6 then gA t' 49 (27 + 16 * x + k) else 0) = (if k < 6 then gA t 49 (27 + 16 * x + k) else 0) ∧ (if k < 6 then gA t' 49 (21 + 16 * x + k) else 0) = if k < 6 then gA t 49 (21 + 16 * x + k) else 0
    by_cases z : k < 6
    · rw [if_pos z, if_pos z, if_pos z, if_pos z, b1 (27 + 16 * x + k) (by omega) (fun p hp => by omega), b1 (21 + 16 * x + k) (by omega) (fun p hp => by omega)]
      exact ⟨rfl, rfl⟩
    · rw [if_neg z, if_neg z, if_neg z, if_neg z]
      exact ⟨rfl, rfl⟩
  refine ⟨⟨by rw [F1.1 1060 (by decide)]; exact hP, fun x hx => ?_, fun x hx q => ?_, fun v hv => ?_⟩, by rw [F1.1 1060 (by decide), F2.2.1 39 (by decide)]; exact h.2.1, fun x hx q => ?_⟩
  · show gA s' 54 (π x) = cM t' x ∧ gA s' 55 (π x) = vM t' x
    have c := sim_c h hx
    rw [cE x hx, vE x hx, F1.2.1 54 (by decide), a1 (π x) (hP x hx).1.1]
    exact ⟨c.1, c.1⟩
  · show BR1 π (hN s') (hM t') (kN s') (kM t') x
    have q' : 0 < cM t' x ∨ 0 < vM t' x := q
    rw [cE x hx, vE x hx] at q'
    have B := sim_b h hx (Or.inl (q'.elim id id))
    rw [nb, kb]
    unfold BR1 at B ⊢
    have z1 : (hM t').1 x = (hM t).1 x := e19 x hx
    have z2 : (hM t').2.1 x = (hM t).2.1 x := e20 x hx
    rw [z1, z2]
    exact ⟨B.1, B.2.1, fun k hk => by rw [(eE x hx k).1, (eE x hx k).2]; exact B.2.2 k hk⟩
  · show rtr π (gA s' 60 v) (gA t' 49 v) ∧ rtr π (gA s' 61 v) (gA t' 49 (8 + v))
    rw [F1.2.1 60 (by decide), a2 v hv, b1 v (by omega) (fun p hp => by omega), b2 v hv]
    exact ⟨(h.1.2.2.2 v hv).1, (h.1.2.2.2 v hv).1⟩
  · have q' : 0 < cM t' x := q
    rw [cE x hx] at q'
    rw [F1.2.2.1 1062 (by decide), F2.2.1 54 (by decide)]
    exact h.2.2 x hx q'
/-- the order of keys behind a CHECKPOINT, a CRASH: who stands stood -/
theorem OI_x {t o : MS} {lo hi : Nat → Int} (H : OI t lo hi) (hx : ∀ x, x < 48 → ∀ i, 2 ≤ i → i < 16 → gA o 49 (17 + 16 * x + i) = gA t 49 (17 + 16 * x + i)) (l : ∀ x, x < 48 → LV o x → LV t x) : OI o lo hi := by
  refine OI_same H (fun x hx' hl => ⟨l x hx' hl, Or.inl ⟨?_, ?_, fun k => ?_⟩⟩)
  · have a := hx x hx' 2 (by decide) (by decide)
    rw [show 17 + 16 * x + 2 = 19 + 16 * x by omega] at a
    exact a
  · have a := hx x hx' 3 (by decide) (by decide)
    rw [show 17 + 16 * x + 3 = 20 + 16 * x by omega] at a
    exact a
  · show (if k < 6 then gA o 49 (27 + 16 * x + k) else 0) = (if k < 6 then gA t 49 (27 + 16 * x + k) else 0) ∧ (if k < 6 then gA o 49 (21 + 16 * x + k) else 0) = if k < 6 then gA t 49 (21 + 16 * x + k) else 0
    by_cases z : k < 6
    · have a := hx x hx' (10 + k) (by omega) (by omega)
      have b := hx x hx' (4 + k) (by omega) (by omega)
      rw [show 17 + 16 * x + (10 + k) = 27 + 16 * x + k by omega] at a
      rw [show 17 + 16 * x + (4 + k) = 21 + 16 * x + k by omega] at b
      rw [if_pos z, if_pos z, if_pos z, if_pos z, a, b]
      exact ⟨rfl, rfl⟩
    · rw [if_neg z, if_neg z, if_neg z, if_neg z]
      exact ⟨rfl, rfl⟩
theorem OI_checks {t t' : MS} {lo hi : Nat → Int} (H : OI t lo hi) (hRt : Rr t) (e2 : m_x12_checks t = some t') : OI t' lo hi := by
  obtain ⟨_, b1, b2, b3⟩ := wp_det (w_x12_checks hRt) e2
  refine OI_x H (fun x hx i i2 i16 => b1 _ (by omega) (fun p hp => by omega)) (fun x hx hl => ?_)
  have cE : cM t' x = cM t x := b1 (17 + 16 * x) (by omega) (fun p hp => by omega)
  have vE : vM t' x = cM t x := b3 x hx
  unfold LV at hl
  rw [cE, vE] at hl
  exact Or.inl (hl.elim id id)
/-- CRASH -/
theorem y_crash {π σ : Nat → Nat} {s t s' t' : MS} (h : SIM π σ s t) (hR : Rg s) (hRt : Rr t) (hw : ∀ x, x < 48 → (bW (gL s 1062) (π x) ↔ gA t 54 x ≠ 0)) (e1 : m_x8_fallBack s = some s') (e2 : m_x12_crashes t = some t') : SIM π σ s' t' := by
  obtain ⟨_, a1, a2⟩ := wp_det (w_x8_fallBack hR) e1
  obtain ⟨_, b1, b2, b3⟩ := wp_det (w_x12_crashes hRt) e2
  have F1 : F_x8_fallBack s s' := fr_x8_fallBack e1
  have F2 : F_x12_crashes t t' := fr_x12_crashes e2
  have hP := h.1.1
  have nb : hN s' = hN s := by
    unfold hN
    rw [F1.2.1 56 (by decide), F1.2.1 57 (by decide), F1.2.1 59 (by decide)]
  have kb : kN s' = kN s := by
    unfold kN
    rw [F1.2.1 58 (by decide)]
  have cE : ∀ x, x < 48 → cM t' x = vM t x := fun x hx => b3 x hx
  have vE : ∀ x, x < 48 → vM t' x = vM t x := fun x hx => b1 (18 + 16 * x) (by omega) (fun p hp => by omega)
  have e19 : ∀ x, x < 48 → gA t' 49 (19 + 16 * x) = gA t 49 (19 + 16 * x) := fun x hx => b1 _ (by omega) (fun p hp => by omega)
  have e20 : ∀ x, x < 48 → gA t' 49 (20 + 16 * x) = gA t 49 (20 + 16 * x) := fun x hx => b1 _ (by omega) (fun p hp => by omega)
  have eE : ∀ x, x < 48 → ∀ k, (hM t').2.2 x k = (hM t).2.2 x k ∧ kM t' x k = kM t x k := fun x hx k => by
    show (if k < 6 then gA t' 49 (27 + 16 * x + k) else 0) = (if k < 6 then gA t 49 (27 + 16 * x + k) else 0) ∧ (if k < 6 then gA t' 49 (21 + 16 * x + k) else 0) = if k < 6 then gA t 49 (21 + 16 * x + k) else 0
    by_cases z : k < 6
    · rw [if_pos z, if_pos z, if_pos z, if_pos z, b1 (27 + 16 * x + k) (by omega) (fun p hp => by omega), b1 (21 + 16 * x + k) (by omega) (fun p hp => by omega)]
      exact ⟨rfl, rfl⟩
    · rw [if_neg z, if_neg z, if_neg z, if_neg z]
      exact ⟨rfl, rfl⟩
  refine ⟨⟨by rw [F1.1 1060 (by decide)]; exact hP, fun x hx => ?_, fun x hx q => ?_, fun v hv => ?_⟩, by rw [F1.1 1060 (by decide), F2.2.1 39 (by decide)]; exact h.2.1, fun x hx _ => ?_⟩
  · show gA s' 54 (π x) = cM t' x ∧ gA s' 55 (π x) = vM t' x
    have c := sim_c h hx
    rw [cE x hx, vE x hx, F1.2.1 55 (by decide), a1 (π x) (hP x hx).1.1]
    exact ⟨c.2, c.2⟩
  · show BR1 π (hN s') (hM t') (kN s') (kM t') x
    have q' : 0 < cM t' x ∨ 0 < vM t' x := q
    rw [cE x hx, vE x hx] at q'
    have B := sim_b h hx (Or.inr (q'.elim id id))
    rw [nb, kb]
    unfold BR1 at B ⊢
    have z1 : (hM t').1 x = (hM t).1 x := e19 x hx
    have z2 : (hM t').2.1 x = (hM t).2.1 x := e20 x hx
    rw [z1, z2]
    exact ⟨B.1, B.2.1, fun k hk => by rw [(eE x hx k).1, (eE x hx k).2]; exact B.2.2 k hk⟩
  · show rtr π (gA s' 60 v) (gA t' 49 v) ∧ rtr π (gA s' 61 v) (gA t' 49 (8 + v))
    rw [F1.2.1 61 (by decide), a2 v hv, b1 (8 + v) (by omega) (fun p hp => by omega), b2 v hv]
    exact ⟨(h.1.2.2.2 v hv).2, (h.1.2.2.2 v hv).2⟩
  · rw [F1.2.2.1 1062 (by decide), F2.2.1 54 (by decide)]
    exact hw x hx
theorem OI_crash {t t' : MS} {lo hi : Nat → Int} (H : OI t lo hi) (hRt : Rr t) (e2 : m_x12_crashes t = some t') : OI t' lo hi := by
  obtain ⟨_, b1, b2, b3⟩ := wp_det (w_x12_crashes hRt) e2
  refine OI_x H (fun x hx i i2 i16 => b1 _ (by omega) (fun p hp => by omega)) (fun x hx hl => ?_)
  have cE : cM t' x = vM t x := b3 x hx
  have vE : vM t' x = vM t x := b1 (18 + 16 * x) (by omega) (fun p hp => by omega)
  unfold LV at hl
  rw [cE, vE] at hl
  exact Or.inr (hl.elim id id)
/-- both sides, but for what is KEPT -/
def J2 (s t : MS) : Prop := (∃ π σ lo hi, SIM π σ s t ∧ OI t lo hi) ∧ ZP s t
theorem GA_rt {t : MS} (G : GA t) {v : Nat} (hv : v < 8) (hn : gA t 49 v ≠ 255) : (0 ≤ gA t 49 v ∧ gA t 49 v < 254) ∨ gA t 49 v = 254 := by
  have b := G.1.1.2 v (by omega)
  omega
theorem y_plantJ {s t : MS} {v : Nat} {key val : Int} (h : J2 s t) (hT : TE s) (hRt : Rr t) (G : GA t) (hv : v < 8) (hn : gA t 49 v ≠ 255) (hkey : 0 ≤ key ∧ key ≤ 999) (hval : 0 ≤ val ∧ val ≤ 999) : pc (m_x1_tryPlant (v : Int) key val s) (fun q => pc (m_x12_tries 2 (v : Int) key val t) (fun o => q.1 = o.1 ∧ J2 q.2 o.2)) := by
  obtain ⟨⟨π, σ, lo, hi, H, O⟩, Z⟩ := h
  have r1061 : (-70000 : Int) ≤ gI s 1061 ∧ gI s 1061 ≤ 999999 := hT.1.1 1061
  have N := G.1.2.1
  refine pc_mono (y_tryPlant H Z hT.1 hRt hT.2.1 G.1.1.1 G.1.2.2.1 G.1.2.2.2.1 (by omega) N.2 hT.2.2 r1061.2 hv (GA_rt G hv hn) O hkey hval) (fun q hq => pc_mono hq (fun o ho => ?_))
  obtain ⟨a, _, π', σ', lo', hi', H', Z', O'⟩ := ho
  exact ⟨a, ⟨π', σ', lo', hi', H', O'⟩, Z'⟩
theorem y_uprootJ {s t : MS} {v : Nat} {key val : Int} (h : J2 s t) (hT : TE s) (hRt : Rr t) (G : GA t) (hv : v < 8) (hkey : R2 key) : pc (m_x1_tryUproot (v : Int) key s) (fun q => pc (m_x12_tries 3 (v : Int) key val t) (fun o => q.1 = o.1 ∧ J2 q.2 o.2)) := by
  obtain ⟨⟨π, σ, lo, hi, H, O⟩, Z⟩ := h
  have r1061 : (-70000 : Int) ≤ gI s 1061 ∧ gI s 1061 ≤ 999999 := hT.1.1 1061
  have N := G.1.2.1
  refine pc_mono (y_tryUproot (val := val) H Z hT.1 hT.2.1 G.1.1.1 G.1.2.2.1 (by omega) N.2 hT.2.2 r1061.2 hv O hkey hRt) (fun q hq => pc_mono hq (fun o ho => ?_))
  obtain ⟨a, _, π', σ', lo', hi', H', Z', O'⟩ := ho
  exact ⟨a, ⟨π', σ', lo', hi', H', O'⟩, Z'⟩
/-! ===== an act by the seed, on both sides ===== -/
theorem J2_k {s s' t t' : MS} (h : J2 s t) (a : ∀ k, (54 ≤ k ∧ k ≤ 61) ∨ (35 ≤ k ∧ k ≤ 38) → gA s' k = gA s k) (a2 : gI s' 1060 = gI s 1060) (a3 : gL s' 1062 = gL s 1062) (a4 : gI s' 581 = gI s 581) (a5 : gI s' 741 = gI s 741) (b : ∀ k, k = 49 ∨ k = 54 ∨ k = 39 ∨ (42 ≤ k ∧ k ≤ 44) → gA t' k = gA t k) : J2 s' t' := by
  obtain ⟨⟨π, σ, lo, hi, H, O⟩, Z⟩ := h
  exact ⟨⟨π, σ, lo, hi, SIM_k H (fun k k1 k2 => a k (Or.inl ⟨k1, k2⟩)) a2 a3 (b 49 (Or.inl rfl)) (by rw [b 39 (by omega)]) (b 54 (by omega)), OI_49 O (b 49 (Or.inl rfl))⟩, ZP_k Z a4 a5 (fun k k1 k2 => a k (Or.inr ⟨k1, k2⟩)) (fun k hk => b k (by omega))⟩
def AJ (s t : MS) : Prop := J2 s t ∧ TE s ∧ Rr t ∧ GA t ∧ gI t 47 ≠ 0 ∧ gI s 983 = gL t 78 ∧ (0 ≤ gL t 78 ∧ gL t 78 ≤ 2147483647) ∧ gA t 39 9 = gI s 582
theorem AJ_V {s t : MS} (h : AJ s t) : VJ s t := by
  obtain ⟨⟨⟨π, σ, lo, hi, H, O⟩, Z⟩, _, _, _, h47, _⟩ := h
  exact VJ_of H h47
theorem AJ_draw {s t : MS} (h : AJ s t) {p : Int} (hp : 1 ≤ p ∧ p ≤ 100) {q o : Int × MS} (e1 : m_x1_draw p s = some q) (e2 : m_x12_drawOf p t = some o) : (AJ q.2 o.2 ∧ F_x1_draw s q.2 ∧ F_x12_drawOf t o.2) ∧ q.1 = o.1 ∧ 0 ≤ o.1 ∧ o.1 < p := by
  obtain ⟨hJ, hT, hRt, hG, h47, hd, hb, h9⟩ := h
  obtain ⟨d1, d2⟩ := y_draw (by omega) hd hb e1 e2
  obtain ⟨hR1, F1, _⟩ := wp_det (w_draw hT.1 (p0 := p) (by omega)) e1
  obtain ⟨hR2, w1, w2⟩ := wp_det (w_x12_drawOf hRt hb (p0 := p) hp) e2
  have F2 : F_x12_drawOf t o.2 := fr_x12_drawOf e2
  refine ⟨⟨⟨J2_k hJ (fun k _ => F1.2.1 k (by simp)) (F1.1 1060 (by decide)) (F1.2.2.1 1062 (by simp)) (F1.1 581 (by decide)) (F1.1 741 (by decide)) (fun k _ => F2.2.1 k (by simp)), TE_fr hT hR1 (fun k _ _ => F1.2.1 k (by simp)) ⟨F1.1 1060 (by decide), F1.1 581 (by decide)⟩, hR2, GA_eq hG ⟨F2.2.1 39 (by simp), F2.2.1 42 (by simp), F2.2.1 43 (by simp), F2.2.1 44 (by simp)⟩ (F2.2.1 49 (by simp)) (F2.2.1 75 (by simp)) (F2.1 76 (by simp)) (F2.1 77 (by simp)), by rw [F2.1 47 (by simp)]; exact h47, d2, w2, by rw [F2.2.1 39 (by simp), F1.1 582 (by decide)]; exact h9⟩, F1, F2⟩, d1, w1⟩
/-- what is KEPT stays in a try -/
theorem tr785 {k : Int} {v : Nat} {key val : Int} {X : MS} (RX : Rr X) (GX : GA X) (hk : k = 2 ∨ k = 3) (hv : v < 8) (hn : gA X 49 v ≠ 255) (hkv : k = 2 → (0 ≤ key ∧ key ≤ 999) ∧ (0 ≤ val ∧ val ≤ 999)) (h2 : R2 key) (h3 : R2 val) {q : Int × MS} (e : m_x12_tries k (v : Int) key val X = some q) : ∀ i, 785 ≤ i → gA q.2 49 i = gA X 49 i := (wp_det (w_x12_tries RX hk (p1 := (v : Int)) ⟨by omega, by omega⟩ GX.1.1.1 GX.1.2.2.1 GX.1.2.2.2.1 (by have := GX.1.2.1; omega) GX.1.2.1.2 (by rw [Int.toNat_natCast]; exact GA_rt GX hv hn) hkv h2 h3) e).2.2.1.2
theorem y_act23 {S T : MS} (A : AJ S T) : pc (m_x1_actBySeed_J23 S) (fun q => pc (m_x12_isDrawn_J20 T) (fun o => q.1 = o.1 ∧ J2 q.2 o.2 ∧ gI q.2 983 = gL o.2 78 ∧ ∀ i, 785 ≤ i → gA o.2 49 i = gA T 49 i)) := by
  have V := AJ_V A
  have A' := A
  obtain ⟨hJ, hT, hRt, hG, h47, hd, hb, h9⟩ := A'
  unfold m_x1_actBySeed_J23
  refine pc_bn (fun r3 e3 => ?_)
  have v3 := wp_det (w_vols hT.1) e3
  have v6 : ∀ r6, m_x12_volumeMany T = some r6 → r6 = r3 ∧ 0 ≤ r6 ∧ r6 ≤ 8 := fun r6 e6 => by
    obtain ⟨a, b⟩ := wp_det (wv_x12_volumeMany hRt) e6
    exact ⟨by rw [a, v3, vc_eq V], b⟩
  refine pc_rg (pc_if (fun c1 => pc_some ?_) (fun c1 => pc_bn (fun q8 e8 => pc_bn (fun r10 e10 => pc_bn (fun q13 e13 => pc_bn (fun q16 e16 => ?_))))))
  · unfold m_x12_isDrawn_J20
    exact pc_bn (fun r6 e6 => pc_rg (pc_if (fun _ => pc_some ⟨rfl, hJ, hd, fun _ _ => rfl⟩) (fun c => absurd ((v6 r6 e6).1.trans c1) c)))
  -- what the draws give
  have DR : ∀ (r6 : Int) (o13 : Int × MS) (r15 : Int) (o18 o21 : Int × MS), m_x12_volumeMany T = some r6 → m_x12_drawOf r6 T = some o13 → m_x12_volumeAt o13.1 o13.2 = some r15 → m_x12_drawOf 3 o13.2 = some o18 → m_x12_drawOf 40 o18.2 = some o21 → AJ q16.2 o21.2 ∧ r10 = r15 ∧ ((0 ≤ r15 ∧ r15 < 8) ∧ gA o21.2 49 r15.toNat ≠ 255 ∧ gA o21.2 49 = gA T 49) ∧ (q13.1 = o18.1 ∧ 0 ≤ o18.1 ∧ o18.1 < 3) ∧ (q16.1 = o21.1 ∧ 0 ≤ o21.1 ∧ o21.1 < 40) := fun r6 o13 r15 o18 o21 f6 f13 f15 f18 f21 => by
    obtain ⟨u1, u2, u3⟩ := v6 r6 f6
    rw [← u1] at e8
    obtain ⟨⟨A1, G1, H1⟩, d1, d2, d3⟩ := AJ_draw A (by omega) e8 f13
    have V1 := AJ_V A1
    obtain ⟨⟨A2, G2, H2⟩, g1, g2, g3⟩ := AJ_draw A1 (by omega) e13 f18
    obtain ⟨⟨A3, G3, H3⟩, k1, k2, k3⟩ := AJ_draw A2 (by omega) e16 f21
    have iv : ∀ u, ivol o13.2 u = ivol T u := fun u => by
      unfold ivol
      rw [H1.1 47 (by simp), H1.2.1 49 (by simp)]
    have bd : o13.1 < sm 8 (ivol o13.2) := by
      rw [sm_c (g := ivol T) (fun u _ => iv u)]
      obtain ⟨a, _⟩ := wp_det (wv_x12_volumeMany hRt) f6
      omega
    have va := wp_det (w_x12_volumeAt A1.2.2.1 (p0 := o13.1) ⟨d2, bd⟩) f15
    have e : r10 = r15 := by
      have q := y_volAt V1 FU FU o13.1 0 (Int.le_refl 0) d2
      rw [d1] at e10
      exact q r10 e10 r15 f15
    refine ⟨A3, e, ⟨va.1, ?_, (H3.2.1 49 (by simp)).trans ((H2.2.1 49 (by simp)).trans (H1.2.1 49 (by simp)))⟩, ⟨g1, g2, g3⟩, ⟨k1, k2, k3⟩⟩
    rw [H3.2.1 49 (by simp), H2.2.1 49 (by simp)]
    exact va.2.2
  refine pc_rg (pc_if (fun c2 => pc_bn (fun q28 e28 => pc_bo (pc_some ?_))) (fun c2 => pc_bn (fun q21 e21 => pc_bn (fun q24 e24 => pc_bo (pc_some ?_)))))
  · unfold m_x12_isDrawn_J20 m_x12_isDrawn_J84
    refine pc_bn (fun r6 e6 => pc_rg (pc_if (fun c => absurd ((v6 r6 e6).1.symm.trans c) c1) (fun _ => pc_bn (fun r7 e7 => pc_bn (fun o13 f13 => pc_bn (fun r15 f15 => pc_bn (fun o18 f18 => pc_bn (fun o21 f21 => pc_rg (pc_if (fun d => pc_bn (fun o26 f26 => pc_bo (pc_some ?_))) (fun d => ?_))))))))))
    · obtain ⟨A3, x1, ⟨x2, x3, xT⟩, ⟨x4, x5, x6⟩, ⟨x7, x8, x9⟩⟩ := DR r7 o13 r15 o18 o21 e7 f13 f15 f18 f21
      obtain ⟨v, hv⟩ : ∃ v : Nat, r15 = (v : Int) := ⟨r15.toNat, by omega⟩
      rw [x1, x7, hv] at e28
      rw [hv] at f26 x2 x3
      rw [Int.toNat_natCast] at x3
      have Y := y_uprootJ (v := v) (key := o21.1) (val := 0) A3.1 A3.2.1 A3.2.2.1 A3.2.2.2.1 (by omega) ⟨by omega, by omega⟩ q28 e28 o26 f26
      have F1 : F_x1_tryUproot q16.2 q28.2 := fr_x1_tryUproot e28
      have F2 : F_x12_tries o21.2 o26.2 := fr_x12_tries f26
      exact ⟨Y.1, Y.2, by rw [F1.1 983 (by decide), F2.2.2.1 78 (by simp)]; exact A3.2.2.2.2.2.1, fun i hi => by rw [tr785 A3.2.2.1 A3.2.2.2.1 (Or.inr rfl) (by omega) x3 (fun z => absurd z (by decide)) ⟨by omega, by omega⟩ (by decide) f26 i hi, xT]⟩
    · exfalso
      obtain ⟨_, _, _, ⟨x4, _, _⟩, _⟩ := DR r7 o13 r15 o18 o21 e7 f13 f15 f18 f21
      omega
  · unfold m_x12_isDrawn_J20 m_x12_isDrawn_J84
    refine pc_bn (fun r6 e6 => pc_rg (pc_if (fun c => absurd ((v6 r6 e6).1.symm.trans c) c1) (fun _ => pc_bn (fun r7 e7 => pc_bn (fun o13 f13 => pc_bn (fun r15 f15 => pc_bn (fun o18 f18 => pc_bn (fun o21 f21 => pc_rg (pc_if (fun d => ?_) (fun d => pc_bn (fun o29 f29 => pc_bn (fun o32 f32 => pc_bo (pc_some ?_)))))))))))))
    · obtain ⟨_, _, _, ⟨x4, x5, x6⟩, _⟩ := DR r7 o13 r15 o18 o21 e7 f13 f15 f18 f21
      exact absurd (show q13.1 = 2 by omega) c2
    · obtain ⟨A3, x1, ⟨x2, x3, xT⟩, ⟨x4, x5, x6⟩, ⟨x7, x8, x9⟩⟩ := DR r7 o13 r15 o18 o21 e7 f13 f15 f18 f21
      obtain ⟨⟨A4, G4, H4⟩, k1, k2, k3⟩ := AJ_draw A3 (by omega) e21 f29
      obtain ⟨v, hv⟩ : ∃ v : Nat, r15 = (v : Int) := ⟨r15.toNat, by omega⟩
      rw [x1, x7, k1, hv] at e24
      rw [hv] at f32 x2 x3
      rw [Int.toNat_natCast] at x3
      have Y := y_plantJ (v := v) (key := o21.1) (val := o29.1) A4.1 A4.2.1 A4.2.2.1 A4.2.2.2.1 (by omega) (by rw [H4.2.1 49 (by simp)]; exact x3) ⟨by omega, by omega⟩ ⟨by omega, by omega⟩ q24 e24 o32 f32
      have F1 : F_x1_tryPlant q21.2 q24.2 := fr_x1_tryPlant e24
      have F2 : F_x12_tries o29.2 o32.2 := fr_x12_tries f32
      exact ⟨Y.1, Y.2, by rw [F1.1 983 (by decide), F2.2.2.1 78 (by simp)]; exact A4.2.2.2.2.2.1, fun i hi => by rw [tr785 A4.2.2.1 A4.2.2.2.1 (Or.inl rfl) (by omega) (by rw [H4.2.1 49 (by simp)]; exact x3) (fun _ => ⟨⟨by omega, by omega⟩, ⟨by omega, by omega⟩⟩) ⟨by omega, by omega⟩ ⟨by omega, by omega⟩ f32 i hi, H4.2.1 49 (by simp), xT]⟩
theorem AJ_save {s t s' t' : MS} (h : AJ s t) (e1 : m_x8_save s = some s') (e2 : m_x12_checks t = some t') : AJ s' t' := by
  obtain ⟨⟨⟨π, σ, lo, hi, H, O⟩, Z⟩, hT, hRt, hG, h47, hd, hb, h9⟩ := h
  have T1 := (wp_det (ts_save hT) e1).1
  have F1 : F_x8_save s s' := fr_x8_save e1
  have F2 : F_x12_checks t t' := fr_x12_checks e2
  obtain ⟨hR2, b1, b2, b3⟩ := wp_det (w_x12_checks hRt) e2
  refine ⟨⟨⟨π, σ, lo, hi, y_save H hT.1 hRt e1 e2, OI_checks O hRt e2⟩, ZP_k Z (F1.1 581 (by simp)) (F1.1 741 (by simp)) (fun k k1 k2 => F1.2.1 k (by simp; omega)) (fun k hk => F2.2.1 k (by simp; omega))⟩, T1, hR2, ?_, by rw [F2.1 47 (by simp)]; exact h47, by rw [F1.1 983 (by simp), F2.2.2.1 78 (by simp)]; exact hd, by rw [F2.2.2.1 78 (by simp)]; exact hb, by rw [F2.2.1 39 (by decide), F1.1 582 (by simp)]; exact h9⟩
  exact GA_tree hG ⟨F2.2.1 39 (by decide), F2.2.1 42 (by decide), F2.2.1 43 (by decide), F2.2.1 44 (by decide)⟩ (RT_checks hG.1.1.1 (F2.2.1 39 (by decide)) b1 b2 b3) (fun u hu => by
    by_cases z : u < 8
    · rw [b1 u (by omega) (fun q _ => by omega)]; exact hG.1.1.2 u hu
    · have z2 := b2 (u - 8) (by omega)
      rw [show 8 + (u - 8) = u by omega] at z2
      rw [z2]; exact hG.1.1.2 (u - 8) (by omega)) (b1 16 (by omega) (fun q _ => by omega)) (b1 785 (by omega) (fun q _ => by omega)) (F2.2.1 75 (by decide)) (F2.1 76 (by simp)) (F2.1 77 (by simp))
theorem y_actS {s t : MS} (h : AJ s t) : pc (m_x1_actBySeed s) (fun q => pc (m_x12_isDrawn t) (fun o => q.1 = o.1 ∧ AJ q.2 o.2 ∧ ∀ i, 785 ≤ i → gA o.2 49 i = gA t 49 i)) := by
  intro q eq o eo
  have core : pc (m_x1_actBySeed s) (fun q => pc (m_x12_isDrawn t) (fun o => q.1 = o.1 ∧ J2 q.2 o.2 ∧ gI q.2 983 = gL o.2 78 ∧ ∀ i, 785 ≤ i → gA o.2 49 i = gA t 49 i)) := by
    unfold m_x1_actBySeed
    refine pc_bn (fun q32 e32 => pc_rg (pc_rg (pc_if (fun c => ?_) (fun c => pc_bn (fun s37 e37 => ?_)))))
    · intro q eq
      unfold m_x12_isDrawn
      refine pc_bn (fun o35 f35 => pc_rdI (fun _ => pc_rg (pc_rg (pc_if (fun d => ?_) (fun d => ?_)))))
      · obtain ⟨⟨A1, _, H1⟩, _⟩ := AJ_draw h (by omega) e32 f35
        exact pc_mono (y_act23 A1 q eq) (fun o ho => ⟨ho.1, ho.2.1, ho.2.2.1, fun i hi => by rw [ho.2.2.2 i hi, H1.2.1 49 (by simp)]⟩)
      · exfalso
        obtain ⟨⟨A1, _, _⟩, d1, _⟩ := AJ_draw h (by omega) e32 f35
        have e9 : gA o35.2 39 9 = gI q32.2 582 := A1.2.2.2.2.2.2.2
        have e9' : gA o35.2 39 (Int.toNat 9) = gI q32.2 582 := e9
        omega
    · intro q eq
      unfold m_x12_isDrawn
      refine pc_bn (fun o35 f35 => pc_rdI (fun _ => pc_rg (pc_rg (pc_if (fun d => ?_) (fun d => pc_bn (fun s41 f41 => ?_))))))
      · exfalso
        obtain ⟨⟨A1, _, _⟩, d1, _⟩ := AJ_draw h (by omega) e32 f35
        have e9 : gA o35.2 39 9 = gI q32.2 582 := A1.2.2.2.2.2.2.2
        have e9' : gA o35.2 39 (Int.toNat 9) = gI q32.2 582 := e9
        omega
      · obtain ⟨⟨A1, _, H1⟩, _⟩ := AJ_draw h (by omega) e32 f35
        have CK := (wp_det (w_x12_checks A1.2.2.1) f41).2.1
        exact pc_mono (y_act23 (AJ_save A1 e37 f41) q eq) (fun o ho => ⟨ho.1, ho.2.1, ho.2.2.1, fun i hi => by rw [ho.2.2.2 i hi, CK i (by omega) (fun p hp => by omega), H1.2.1 49 (by simp)]⟩)
  obtain ⟨c1, c2, c3, c4⟩ := core q eq o eo
  obtain ⟨_, hT, hRt, hG, h47, _, hb, h9⟩ := h
  obtain ⟨T1, F1, _⟩ := wp_det (ts_act hT) eq
  obtain ⟨hR2, _, G2, ⟨_, k47, k39⟩, b2⟩ := wp_det (w_x12_isDrawn hRt hG hb h47) eo
  exact ⟨c1, ⟨c2, T1, hR2, G2, by rw [k47]; exact h47, c3, b2, by rw [k39, F1.1 582 (by decide)]; exact h9⟩, c4⟩
/-! ===== counting BLOCKS on both sides ===== -/
def cn (N : Int) (g : Nat → Int) : Int := sm 48 (fun b => if (b : Int) < N then g b else 0)
theorem cn_sm {N : Int} {g : Nat → Int} (h : N ≤ 48) : sm N.toNat g = cn N g := by
  unfold cn
  rw [sm_cut (n := N.toNat) (m := 48) (f := fun b => if (b : Int) < N then g b else 0) (by omega) (fun i h1 _ => if_neg (by omega))]
  exact sm_c (fun i hi => (if_pos (by omega) : (if (i : Int) < N then g i else 0) = g i).symm)
theorem cn_pm {π σ : Nat → Nat} {N : Int} (h : PNM π σ N) {f g : Nat → Int} (e : ∀ x : Nat, x < 48 → (x : Int) < N → f (π x) = g x) : cn N f = cn N g := by
  unfold cn
  rw [sm_pm h]
  refine sm_c (fun x hx => ?_)
  show (if ((π x : Nat) : Int) < N then f (π x) else 0) = if (x : Int) < N then g x else 0
  have w := (h x hx).2.2
  by_cases z : (x : Int) < N
  · rw [if_pos z, if_pos (w.2 z)]; exact e x hx z
  · rw [if_neg z, if_neg (fun u => z (w.1 u))]
theorem cn_c {N : Int} {f g : Nat → Int} (e : ∀ x : Nat, x < 48 → (x : Int) < N → f x = g x) : cn N f = cn N g := by
  unfold cn
  refine sm_c (fun x hx => ?_)
  show (if (x : Int) < N then f x else 0) = if (x : Int) < N then g x else 0
  by_cases z : (x : Int) < N
  · rw [if_pos z, if_pos z]; exact e x hx z
  · rw [if_neg z, if_neg z]
theorem cn_add (N : Int) (f g : Nat → Int) : cn N (fun x => f x + g x) = cn N f + cn N g := by
  unfold cn
  rw [← sm_add]
  refine sm_c (fun x _ => ?_)
  show (if (x : Int) < N then f x + g x else 0) = (if (x : Int) < N then f x else 0) + if (x : Int) < N then g x else 0
  by_cases z : (x : Int) < N
  · rw [if_pos z, if_pos z, if_pos z]
  · rw [if_neg z, if_neg z, if_neg z]; rfl
theorem cn_1 {N : Int} (h : 0 ≤ N ∧ N ≤ 48) : cn N (fun _ => 1) = N := by
  rw [← cn_sm h.2]
  have L : ∀ n : Nat, sm n (fun _ => (1 : Int)) = (n : Int) := by
    intro n
    induction n with
    | zero => rfl
    | succ n ih =>
      show sm n (fun _ => (1 : Int)) + 1 = ((n + 1 : Nat) : Int)
      rw [ih]; omega
  rw [L]; omega
theorem s_inUse {p : Int} {s : MS} : pc (m_x8_inUse p s) (fun r => (r = 1 ∧ (0 ≤ p ∧ p < gI s 1060) ∧ 0 < gA s 54 p.toNat) ∨ (r = 0 ∧ ¬ ((0 ≤ p ∧ p < gI s 1060) ∧ 0 < gA s 54 p.toNat))) := by
  unfold m_x8_inUse m_x8_inUse_J21 m_x8_inUse_J22
  refine pc_bq s_isBk (fun r4 h4 => pc_rg (pc_if (fun c => pc_bo (pc_some (Or.inr ⟨rfl, fun w => ?_⟩))) (fun c => pc_rdI (fun _ => pc_rg (pc_if (fun c2 => pc_bo (pc_some (Or.inr ⟨rfl, fun w => ?_⟩))) (fun c2 => pc_bo (pc_some (Or.inl ⟨rfl, ?_, by omega⟩))))))))
  · rcases h4 with ⟨a, _⟩ | ⟨_, b⟩
    · omega
    · exact b w.1
  · have := w.2
    omega
  · rcases h4 with ⟨_, b⟩ | ⟨a, _⟩
    · exact b
    · exact absurd a c
theorem s_isHeld {p : Int} {s : MS} : pc (m_x8_isHeld p s) (fun r => (r = 1 ∧ (0 ≤ p ∧ p < gI s 1060) ∧ gA s 54 p.toNat = 0 ∧ 0 < gA s 55 p.toNat) ∨ (r = 0 ∧ ¬ ((0 ≤ p ∧ p < gI s 1060) ∧ gA s 54 p.toNat = 0 ∧ 0 < gA s 55 p.toNat))) := by
  unfold m_x8_isHeld m_x8_isHeld_J30 m_x8_isHeld_J31
  refine pc_bq s_isBk (fun r4 h4 => pc_rg (pc_if (fun c => pc_bo (pc_some (Or.inr ⟨rfl, fun w => ?_⟩))) (fun c => pc_rdI (fun _ => pc_rg (pc_if (fun c2 => pc_rdI (fun _ => pc_rg (pc_if (fun c3 => pc_bo (pc_some (Or.inr ⟨rfl, fun w => ?_⟩))) (fun c3 => pc_bo (pc_some (Or.inl ⟨rfl, ?_, c2, by omega⟩)))))) (fun c2 => pc_bo (pc_some (Or.inr ⟨rfl, fun w => c2 w.2.1⟩))))))))
  · rcases h4 with ⟨a, _⟩ | ⟨_, b⟩
    · omega
    · exact b w.1
  · have := w.2.2
    omega
  · rcases h4 with ⟨_, b⟩ | ⟨a, _⟩
    · exact b
    · exact absurd a c
theorem s_isWr {p : Int} {s : MS} : pc (m_x1_isWritten p s) (fun r => (r = 1 ∧ (0 ≤ p ∧ p < gI s 1060) ∧ 0 < gA s 54 p.toNat ∧ bW (gL s 1062) p.toNat) ∨ (r = 0 ∧ ¬ ((0 ≤ p ∧ p < gI s 1060) ∧ 0 < gA s 54 p.toNat ∧ bW (gL s 1062) p.toNat))) := by
  have rgl : ∀ {x : Int} {k : Option Int} {P : Int → Prop}, pc k P → pc (rgL x k) P := fun {x k P} h => by
    unfold rgL
    split
    · exact h
    · exact pc_none
  unfold m_x1_isWritten m_x1_isWritten_J31 m_x1_isWritten_J32
  refine pc_bq s_inUse (fun r4 h4 => pc_rg (pc_if (fun c => pc_bo (pc_some (Or.inr ⟨rfl, fun w => ?_⟩))) (fun c => rgl (pc_if (fun c2 => pc_bo (pc_some (Or.inr ⟨rfl, fun w => ?_⟩))) (fun c2 => pc_bo (pc_some (Or.inl ⟨rfl, ?_⟩)))))))
  · rcases h4 with ⟨a, _⟩ | ⟨_, b⟩
    · omega
    · exact b ⟨w.1, w.2.1⟩
  · have q := w.2.2
    unfold bW at q
    rw [show ((p.toNat : Nat) : Int) = p by omega] at q
    exact q c2
  · rcases h4 with ⟨_, b1, b2⟩ | ⟨a, _⟩
    · refine ⟨b1, b2, ?_⟩
      unfold bW
      rw [show ((p.toNat : Nat) : Int) = p by omega]
      exact c2
    · exact absurd a c
theorem m_isHeld {p : Int} {t : MS} (hp : 0 ≤ p) : pc (m_x12_isHeld p t) (fun r => (r = 1 ∧ cM t p.toNat ≤ 0 ∧ 0 < vM t p.toNat) ∨ (r = 0 ∧ ¬ (cM t p.toNat ≤ 0 ∧ 0 < vM t p.toNat))) := by
  unfold m_x12_isHeld m_x12_isHeld_J20 m_x12_isHeld_J21
  refine pc_bq (m_used hp) (fun r4 h4 => pc_rg (pc_if (fun c => pc_bq (m_sav hp) (fun r8 h8 => pc_rg (pc_if (fun c2 => pc_bo (pc_some (Or.inr ⟨rfl, fun w => ?_⟩))) (fun c2 => pc_bo (pc_some (Or.inl ⟨rfl, ?_, ?_⟩)))))) (fun c => pc_bo (pc_some (Or.inr ⟨rfl, fun w => ?_⟩)))))
  all_goals omega
theorem m_bm {t : MS} : pc (m_x12_blockMany t) (fun r => r = gA t 39 5) := by
  unfold m_x12_blockMany
  exact pc_rdI (fun _ => pc_some rfl)
theorem s_used {s : MS} (hN : 0 ≤ gI s 1060 ∧ gI s 1060 ≤ 48) : pc (m_x8_used s) (fun r => r = cn (gI s 1060) (fun b => if 0 < gA s 54 b then 1 else 0)) := by
  have L : ∀ (n : Nat) (x1 x2 : Int), (0 ≤ x2 ∧ x2 ≤ gI s 1060) → x1 = sm x2.toNat (fun b => if 0 < gA s 54 b then 1 else 0) → pc (m_x8_used_L4 s n x1 x2) (fun r => r = cn (gI s 1060) (fun b => if 0 < gA s 54 b then 1 else 0)) := by
    refine fr_ind (fun _ _ _ _ => pc_none) (fun n ih x1 x2 h2 h1 => ?_)
    show pc (m_x8_used_b4 s (m_x8_used_L4 s n) x1 x2) _
    unfold m_x8_used_b4 m_x8_used_J27
    have st : sm (x2 + 1).toNat (fun b => if 0 < gA s 54 b then (1 : Int) else 0) = sm x2.toNat (fun b => if 0 < gA s 54 b then (1 : Int) else 0) + (if 0 < gA s 54 x2.toNat then 1 else 0) := by
      rw [show (x2 + 1).toNat = x2.toNat + 1 by omega]; rfl
    refine pc_rg (pc_rg (pc_if (fun c => pc_some ?_) (fun c => pc_rdI (fun _ => pc_rg (pc_if (fun c2 => ih _ _ (by omega) ?_) (fun c2 => ih _ _ (by omega) ?_))))))
    · rw [h1, show x2 = gI s 1060 by omega]; exact cn_sm hN.2
    · rw [st, if_neg (by omega)]; omega
    · rw [st, if_pos (by omega)]; omega
  unfold m_x8_used
  exact L FU 0 0 ⟨Int.le_refl 0, hN.1⟩ rfl
theorem s_kept {s : MS} (hN : 0 ≤ gI s 1060 ∧ gI s 1060 ≤ 48) : pc (m_x8_keptBlocks s) (fun r => r = cn (gI s 1060) (fun b => if 0 < gA s 55 b then 1 else 0)) := by
  have L : ∀ (n : Nat) (x1 x2 : Int), (0 ≤ x2 ∧ x2 ≤ gI s 1060) → x1 = sm x2.toNat (fun b => if 0 < gA s 55 b then 1 else 0) → pc (m_x8_keptBlocks_L4 s n x1 x2) (fun r => r = cn (gI s 1060) (fun b => if 0 < gA s 55 b then 1 else 0)) := by
    refine fr_ind (fun _ _ _ _ => pc_none) (fun n ih x1 x2 h2 h1 => ?_)
    show pc (m_x8_keptBlocks_b4 s (m_x8_keptBlocks_L4 s n) x1 x2) _
    unfold m_x8_keptBlocks_b4 m_x8_keptBlocks_J27
    have st : sm (x2 + 1).toNat (fun b => if 0 < gA s 55 b then (1 : Int) else 0) = sm x2.toNat (fun b => if 0 < gA s 55 b then (1 : Int) else 0) + (if 0 < gA s 55 x2.toNat then 1 else 0) := by
      rw [show (x2 + 1).toNat = x2.toNat + 1 by omega]; rfl
    refine pc_rg (pc_rg (pc_if (fun c => pc_some ?_) (fun c => pc_rdI (fun _ => pc_rg (pc_if (fun c2 => ih _ _ (by omega) ?_) (fun c2 => ih _ _ (by omega) ?_))))))
    · rw [h1, show x2 = gI s 1060 by omega]; exact cn_sm hN.2
    · rw [st, if_neg (by omega)]; omega
    · rw [st, if_pos (by omega)]; omega
  unfold m_x8_keptBlocks
  exact L FU 0 0 ⟨Int.le_refl 0, hN.1⟩ rfl
theorem s_held {s : MS} (hN : 0 ≤ gI s 1060 ∧ gI s 1060 ≤ 48) : pc (m_x8_held s) (fun r => r = cn (gI s 1060) (fun b => if gA s 54 b = 0 ∧ 0 < gA s 55 b then 1 else 0)) := by
  have L : ∀ (n : Nat) (x1 x2 : Int), (0 ≤ x2 ∧ x2 ≤ gI s 1060) → x1 = sm x2.toNat (fun b => if gA s 54 b = 0 ∧ 0 < gA s 55 b then 1 else 0) → pc (m_x8_held_L4 s n x1 x2) (fun r => r = cn (gI s 1060) (fun b => if gA s 54 b = 0 ∧ 0 < gA s 55 b then 1 else 0)) := by
    refine fr_ind (fun _ _ _ _ => pc_none) (fun n ih x1 x2 h2 h1 => ?_)
    show pc (m_x8_held_b4 s (m_x8_held_L4 s n) x1 x2) _
    unfold m_x8_held_b4 m_x8_held_J26
    have st : sm (x2 + 1).toNat (fun b => if gA s 54 b = 0 ∧ 0 < gA s 55 b then (1 : Int) else 0) = sm x2.toNat (fun b => if gA s 54 b = 0 ∧ 0 < gA s 55 b then (1 : Int) else 0) + (if gA s 54 x2.toNat = 0 ∧ 0 < gA s 55 x2.toNat then 1 else 0) := by
      rw [show (x2 + 1).toNat = x2.toNat + 1 by omega]; rfl
    refine pc_rg (pc_rg (pc_if (fun c => pc_some ?_) (fun c => pc_bq s_isHeld (fun r10 h10 => pc_rg (pc_if (fun c2 => ih _ _ (by omega) ?_) (fun c2 => ih _ _ (by omega) ?_))))))
    · rw [h1, show x2 = gI s 1060 by omega]; exact cn_sm hN.2
    · have w : ¬ (gA s 54 x2.toNat = 0 ∧ 0 < gA s 55 x2.toNat) := fun w => by
        rcases h10 with ⟨a, _⟩ | ⟨_, d⟩
        · omega
        · exact d ⟨⟨h2.1, by omega⟩, w⟩
      rw [st, if_neg w]; omega
    · have w : gA s 54 x2.toNat = 0 ∧ 0 < gA s 55 x2.toNat := by
        rcases h10 with ⟨_, _, d⟩ | ⟨a, _⟩
        · exact d
        · exact absurd a c2
      rw [st, if_pos w]; omega
  unfold m_x8_held
  exact L FU 0 0 ⟨Int.le_refl 0, hN.1⟩ rfl
theorem s_freshB {s : MS} (hN : 0 ≤ gI s 1060 ∧ gI s 1060 ≤ 48) : pc (m_x8_freshBlocks s) (fun r => r = cn (gI s 1060) (fun b => if 0 < gA s 54 b ∧ gA s 55 b = 0 then 1 else 0)) := by
  have L : ∀ (n : Nat) (x1 x2 : Int), (0 ≤ x2 ∧ x2 ≤ gI s 1060) → x1 = sm x2.toNat (fun b => if 0 < gA s 54 b ∧ gA s 55 b = 0 then 1 else 0) → pc (m_x8_freshBlocks_L4 s n x1 x2) (fun r => r = cn (gI s 1060) (fun b => if 0 < gA s 54 b ∧ gA s 55 b = 0 then 1 else 0)) := by
    refine fr_ind (fun _ _ _ _ => pc_none) (fun n ih x1 x2 h2 h1 => ?_)
    show pc (m_x8_freshBlocks_b4 s (m_x8_freshBlocks_L4 s n) x1 x2) _
    unfold m_x8_freshBlocks_b4 m_x8_freshBlocks_J26
    have st : sm (x2 + 1).toNat (fun b => if 0 < gA s 54 b ∧ gA s 55 b = 0 then (1 : Int) else 0) = sm x2.toNat (fun b => if 0 < gA s 54 b ∧ gA s 55 b = 0 then (1 : Int) else 0) + (if 0 < gA s 54 x2.toNat ∧ gA s 55 x2.toNat = 0 then 1 else 0) := by
      rw [show (x2 + 1).toNat = x2.toNat + 1 by omega]; rfl
    refine pc_rg (pc_rg (pc_if (fun c => pc_some ?_) (fun c => pc_bq s_fresh (fun r10 h10 => pc_rg (pc_if (fun c2 => ih _ _ (by omega) ?_) (fun c2 => ih _ _ (by omega) ?_))))))
    · rw [h1, show x2 = gI s 1060 by omega]; exact cn_sm hN.2
    · have w : ¬ (0 < gA s 54 x2.toNat ∧ gA s 55 x2.toNat = 0) := fun w => by
        rcases h10 with ⟨a, _⟩ | ⟨_, d⟩
        · omega
        · exact d ⟨⟨h2.1, by omega⟩, w⟩
      rw [st, if_neg w]; omega
    · have w : 0 < gA s 54 x2.toNat ∧ gA s 55 x2.toNat = 0 := by
        rcases h10 with ⟨_, _, d⟩ | ⟨a, _⟩
        · exact d
        · exact absurd a c2
      rw [st, if_pos w]; omega
  unfold m_x8_freshBlocks
  exact L FU 0 0 ⟨Int.le_refl 0, hN.1⟩ rfl
def bW1 (w : Int) (x : Nat) : Int := if andL (ushrLZ w (x : Int)) 1 = 0 then 0 else 1
theorem bW1_1 {w : Int} {x : Nat} (h : bW w x) : bW1 w x = 1 := if_neg h
theorem bW1_0 {w : Int} {x : Nat} (h : ¬ bW w x) : bW1 w x = 0 := if_pos (Classical.byContradiction h)
theorem s_isWr1 {p : Int} {s : MS} : pc (m_x1_isWritten p s) (fun r => (r = 1 ∧ (0 ≤ p ∧ p < gI s 1060) ∧ 0 < gA s 54 p.toNat ∧ bW1 (gL s 1062) p.toNat = 1) ∨ (r = 0 ∧ ¬ ((0 ≤ p ∧ p < gI s 1060) ∧ 0 < gA s 54 p.toNat ∧ bW1 (gL s 1062) p.toNat = 1))) := by
  refine pc_mono s_isWr (fun r h => ?_)
  rcases h with ⟨a, b, c, d⟩ | ⟨a, b⟩
  · exact Or.inl ⟨a, b, c, bW1_1 d⟩
  · refine Or.inr ⟨a, fun w => b ⟨w.1, w.2.1, ?_⟩⟩
    intro z
    have q : bW1 (gL s 1062) p.toNat = 0 := if_pos z
    rw [q] at w
    exact absurd w.2.2 (by decide)
theorem s_wrote {s : MS} (hN : 0 ≤ gI s 1060 ∧ gI s 1060 ≤ 48) : pc (m_x1_wrote s) (fun r => r = cn (gI s 1060) (fun b => if 0 < gA s 54 b ∧ bW1 (gL s 1062) b = 1 then 1 else 0)) := by
  have L : ∀ (n : Nat) (x1 x2 : Int), (0 ≤ x2 ∧ x2 ≤ gI s 1060) → x1 = sm x2.toNat (fun b => if 0 < gA s 54 b ∧ bW1 (gL s 1062) b = 1 then 1 else 0) → pc (m_x1_wrote_L4 s n x1 x2) (fun r => r = cn (gI s 1060) (fun b => if 0 < gA s 54 b ∧ bW1 (gL s 1062) b = 1 then 1 else 0)) := by
    refine fr_ind (fun _ _ _ _ => pc_none) (fun n ih x1 x2 h2 h1 => ?_)
    show pc (m_x1_wrote_b4 s (m_x1_wrote_L4 s n) x1 x2) _
    unfold m_x1_wrote_b4 m_x1_wrote_J29
    have st : sm (x2 + 1).toNat (fun b => if 0 < gA s 54 b ∧ bW1 (gL s 1062) b = 1 then (1 : Int) else 0) = sm x2.toNat (fun b => if 0 < gA s 54 b ∧ bW1 (gL s 1062) b = 1 then (1 : Int) else 0) + (if 0 < gA s 54 x2.toNat ∧ bW1 (gL s 1062) x2.toNat = 1 then 1 else 0) := by
      rw [show (x2 + 1).toNat = x2.toNat + 1 by omega]; rfl
    refine pc_rg (pc_rg (pc_if (fun c => pc_some ?_) (fun c => pc_bq s_isWr1 (fun r10 h10 => pc_rg (pc_if (fun c2 => ih _ _ (by omega) ?_) (fun c2 => ih _ _ (by omega) ?_))))))
    · rw [h1, show x2 = gI s 1060 by omega]; exact cn_sm hN.2
    · have w : ¬ (0 < gA s 54 x2.toNat ∧ bW1 (gL s 1062) x2.toNat = 1) := fun w => by
        rcases h10 with ⟨a, _⟩ | ⟨_, d⟩
        · omega
        · exact d ⟨⟨h2.1, by omega⟩, w⟩
      rw [st, if_neg w]; omega
    · have w : 0 < gA s 54 x2.toNat ∧ bW1 (gL s 1062) x2.toNat = 1 := by
        rcases h10 with ⟨_, _, d⟩ | ⟨a, _⟩
        · exact d
        · exact absurd a c2
      rw [st, if_pos w]; omega
  unfold m_x1_wrote
  exact L FU 0 0 ⟨Int.le_refl 0, hN.1⟩ rfl
theorem m_usedN {t : MS} (hN : 0 ≤ gA t 39 5 ∧ gA t 39 5 ≤ 48) : pc (m_x12_usedMany t) (fun r => r = cn (gA t 39 5) (fun b => if 0 < cM t b then 1 else 0)) := by
  have L : ∀ (n : Nat) (x1 x2 : Int), (0 ≤ x2 ∧ x2 ≤ gA t 39 5) → x1 = sm x2.toNat (fun b => if 0 < cM t b then 1 else 0) → pc (m_x12_usedMany_L4 t n x1 x2) (fun r => r = cn (gA t 39 5) (fun b => if 0 < cM t b then 1 else 0)) := by
    refine fr_ind (fun _ _ _ _ => pc_none) (fun n ih x1 x2 h2 h1 => ?_)
    show pc (m_x12_usedMany_b4 t (m_x12_usedMany_L4 t n) x1 x2) _
    unfold m_x12_usedMany_b4 m_x12_usedMany_J23
    have st : sm (x2 + 1).toNat (fun b => if 0 < cM t b then (1 : Int) else 0) = sm x2.toNat (fun b => if 0 < cM t b then (1 : Int) else 0) + (if 0 < cM t x2.toNat then 1 else 0) := by
      rw [show (x2 + 1).toNat = x2.toNat + 1 by omega]; rfl
    refine pc_bq m_bm (fun r6 h6 => ?_)
    rw [h6]
    refine pc_rg (pc_rg (pc_if (fun c => pc_some ?_) (fun c => pc_bq (m_used h2.1) (fun r11 h11 => pc_rg (pc_if (fun c2 => ih _ _ (by omega) ?_) (fun c2 => ih _ _ (by omega) ?_))))))
    · rw [h1, show x2 = gA t 39 5 by omega]; exact cn_sm hN.2
    · have w : ¬ (0 < cM t x2.toNat) := fun w => by
        rcases h11 with ⟨a, _⟩ | ⟨_, d⟩
        · omega
        · omega
      rw [st, if_neg w]; omega
    · have w : 0 < cM t x2.toNat := by
        rcases h11 with ⟨_, d⟩ | ⟨a, _⟩
        · exact d
        · exact absurd a c2
      rw [st, if_pos w]; omega
  unfold m_x12_usedMany
  exact L FU 0 0 ⟨Int.le_refl 0, hN.1⟩ rfl
theorem m_heldN {t : MS} (hN : 0 ≤ gA t 39 5 ∧ gA t 39 5 ≤ 48) : pc (m_x12_heldMany t) (fun r => r = cn (gA t 39 5) (fun b => if cM t b ≤ 0 ∧ 0 < vM t b then 1 else 0)) := by
  have L : ∀ (n : Nat) (x1 x2 : Int), (0 ≤ x2 ∧ x2 ≤ gA t 39 5) → x1 = sm x2.toNat (fun b => if cM t b ≤ 0 ∧ 0 < vM t b then 1 else 0) → pc (m_x12_heldMany_L4 t n x1 x2) (fun r => r = cn (gA t 39 5) (fun b => if cM t b ≤ 0 ∧ 0 < vM t b then 1 else 0)) := by
    refine fr_ind (fun _ _ _ _ => pc_none) (fun n ih x1 x2 h2 h1 => ?_)
    show pc (m_x12_heldMany_b4 t (m_x12_heldMany_L4 t n) x1 x2) _
    unfold m_x12_heldMany_b4 m_x12_heldMany_J23
    have st : sm (x2 + 1).toNat (fun b => if cM t b ≤ 0 ∧ 0 < vM t b then (1 : Int) else 0) = sm x2.toNat (fun b => if cM t b ≤ 0 ∧ 0 < vM t b then (1 : Int) else 0) + (if cM t x2.toNat ≤ 0 ∧ 0 < vM t x2.toNat then 1 else 0) := by
      rw [show (x2 + 1).toNat = x2.toNat + 1 by omega]; rfl
    refine pc_bq m_bm (fun r6 h6 => ?_)
    rw [h6]
    refine pc_rg (pc_rg (pc_if (fun c => pc_some ?_) (fun c => pc_bq (m_isHeld h2.1) (fun r11 h11 => pc_rg (pc_if (fun c2 => ih _ _ (by omega) ?_) (fun c2 => ih _ _ (by omega) ?_))))))
    · rw [h1, show x2 = gA t 39 5 by omega]; exact cn_sm hN.2
    · have w : ¬ (cM t x2.toNat ≤ 0 ∧ 0 < vM t x2.toNat) := fun w => by
        rcases h11 with ⟨a, _⟩ | ⟨_, d⟩
        · omega
        · exact d w
      rw [st, if_neg w]; omega
    · have w : cM t x2.toNat ≤ 0 ∧ 0 < vM t x2.toNat := by
        rcases h11 with ⟨_, d⟩ | ⟨a, _⟩
        · exact d
        · exact absurd a c2
      rw [st, if_pos w]; omega
  unfold m_x12_heldMany
  exact L FU 0 0 ⟨Int.le_refl 0, hN.1⟩ rfl
theorem m_wroteN {t : MS} (hN : 0 ≤ gA t 39 5 ∧ gA t 39 5 ≤ 48) : pc (m_x12_writtenMany t) (fun r => r = cn (gA t 39 5) (fun b => if gA t 54 b ≠ 0 ∧ 0 < cM t b then 1 else 0)) := by
  have L : ∀ (n : Nat) (x1 x2 : Int), (0 ≤ x2 ∧ x2 ≤ gA t 39 5) → x1 = sm x2.toNat (fun b => if gA t 54 b ≠ 0 ∧ 0 < cM t b then 1 else 0) → pc (m_x12_writtenMany_L4 t n x1 x2) (fun r => r = cn (gA t 39 5) (fun b => if gA t 54 b ≠ 0 ∧ 0 < cM t b then 1 else 0)) := by
    refine fr_ind (fun _ _ _ _ => pc_none) (fun n ih x1 x2 h2 h1 => ?_)
    show pc (m_x12_writtenMany_b4 t (m_x12_writtenMany_L4 t n) x1 x2) _
    unfold m_x12_writtenMany_b4 m_x12_writtenMany_J32
    have st : sm (x2 + 1).toNat (fun b => if gA t 54 b ≠ 0 ∧ 0 < cM t b then (1 : Int) else 0) = sm x2.toNat (fun b => if gA t 54 b ≠ 0 ∧ 0 < cM t b then (1 : Int) else 0) + (if gA t 54 x2.toNat ≠ 0 ∧ 0 < cM t x2.toNat then 1 else 0) := by
      rw [show (x2 + 1).toNat = x2.toNat + 1 by omega]; rfl
    refine pc_bq m_bm (fun r6 h6 => ?_)
    rw [h6]
    refine pc_rg (pc_rg (pc_if (fun c => pc_some ?_) (fun c => pc_rdI (fun _ => pc_rg (pc_if (fun c2 => ih _ _ (by omega) ?_) (fun c2 => pc_bq (m_used h2.1) (fun r14 h14 => pc_rg (pc_if (fun c3 => ih _ _ (by omega) ?_) (fun c3 => ih _ _ (by omega) ?_)))))))))
    · rw [h1, show x2 = gA t 39 5 by omega]; exact cn_sm hN.2
    · rw [st, if_neg (fun w => w.1 c2)]; omega
    · have w : ¬ (gA t 54 x2.toNat ≠ 0 ∧ 0 < cM t x2.toNat) := fun w => by
        rcases h14 with ⟨a, _⟩ | ⟨_, d⟩
        · omega
        · have := w.2
          omega
      rw [st, if_neg w]; omega
    · have w : gA t 54 x2.toNat ≠ 0 ∧ 0 < cM t x2.toNat := by
        rcases h14 with ⟨_, d⟩ | ⟨a, _⟩
        · exact ⟨c2, d⟩
        · exact absurd a c3
      rw [st, if_pos w]; omega
  unfold m_x12_writtenMany
  exact L FU 0 0 ⟨Int.le_refl 0, hN.1⟩ rfl
theorem m_free {t : MS} (hN : 0 ≤ gA t 39 5 ∧ gA t 39 5 ≤ 48) : pc (m_x12_freeMany t) (fun r => r = gA t 39 5 - cn (gA t 39 5) (fun b => if 0 < cM t b then 1 else 0) - cn (gA t 39 5) (fun b => if cM t b ≤ 0 ∧ 0 < vM t b then 1 else 0)) := by
  unfold m_x12_freeMany
  exact pc_bq m_bm (fun r2 h2 => pc_bq (m_usedN hN) (fun r4 h4 => pc_bq (m_heldN hN) (fun r6 h6 => pc_some (by rw [h2, h4, h6]))))
/-- counts and what the checkpoint has, alike by names -/
def CC (π σ : Nat → Nat) (s t : MS) : Prop := PNM π σ (gI s 1060) ∧ gI s 1060 = gA t 39 5 ∧ ∀ x, x < 48 → (gA s 54 (π x) = cM t x ∧ gA s 55 (π x) = vM t x) ∧ 0 ≤ cM t x ∧ 0 ≤ vM t x
theorem CC_of {π σ : Nat → Nat} {s t : MS} {D : Nat → Int} {e : Int} (h : TRf π σ (gI s 1060) s 54 (gA t 49)) (hN : gI s 1060 = gA t 39 5) (T : TM t D e) : CC π σ s t := ⟨h.1, hN, fun x hx => ⟨h.2.1 x hx, (T.1.2.1 x hx).1, (T.1.2.2.1 x hx).1⟩⟩
theorem CC_used {π σ : Nat → Nat} {s t : MS} (h : CC π σ s t) : cn (gI s 1060) (fun b => if 0 < gA s 54 b then 1 else 0) = cn (gA t 39 5) (fun b => if 0 < cM t b then 1 else 0) := by
  rw [← h.2.1]
  refine cn_pm h.1 (fun x hx _ => ?_)
  show (if 0 < gA s 54 (π x) then (1 : Int) else 0) = if 0 < cM t x then 1 else 0
  rw [(h.2.2 x hx).1.1]
theorem CC_held {π σ : Nat → Nat} {s t : MS} (h : CC π σ s t) : cn (gI s 1060) (fun b => if gA s 54 b = 0 ∧ 0 < gA s 55 b then 1 else 0) = cn (gA t 39 5) (fun b => if cM t b ≤ 0 ∧ 0 < vM t b then 1 else 0) := by
  rw [← h.2.1]
  refine cn_pm h.1 (fun x hx _ => ?_)
  show (if gA s 54 (π x) = 0 ∧ 0 < gA s 55 (π x) then (1 : Int) else 0) = if cM t x ≤ 0 ∧ 0 < vM t x then 1 else 0
  have c := h.2.2 x hx
  rw [c.1.1, c.1.2]
  by_cases z : cM t x = 0 ∧ 0 < vM t x
  · rw [if_pos z, if_pos ⟨by omega, z.2⟩]
  · rw [if_neg z, if_neg (fun w => z ⟨by omega, w.2⟩)]
theorem CC_fresh {π σ : Nat → Nat} {s t : MS} (h : CC π σ s t) : cn (gI s 1060) (fun b => if 0 < gA s 54 b ∧ gA s 55 b = 0 then 1 else 0) = cn (gA t 39 5) (fun b => if 0 < cM t b ∧ vM t b = 0 then 1 else 0) := by
  rw [← h.2.1]
  refine cn_pm h.1 (fun x hx _ => ?_)
  show (if 0 < gA s 54 (π x) ∧ gA s 55 (π x) = 0 then (1 : Int) else 0) = if 0 < cM t x ∧ vM t x = 0 then 1 else 0
  rw [(h.2.2 x hx).1.1, (h.2.2 x hx).1.2]
theorem CC_kept {π σ : Nat → Nat} {s t : MS} (h : CC π σ s t) : cn (gI s 1060) (fun b => if 0 < gA s 55 b then 1 else 0) = cn (gA t 39 5) (fun b => if 0 < vM t b then 1 else 0) := by
  rw [← h.2.1]
  refine cn_pm h.1 (fun x hx _ => ?_)
  show (if 0 < gA s 55 (π x) then (1 : Int) else 0) = if 0 < vM t x then 1 else 0
  rw [(h.2.2 x hx).1.2]
theorem sim_wrote {π σ : Nat → Nat} {s t : MS} (h : SIM π σ s t) : cn (gI s 1060) (fun b => if 0 < gA s 54 b ∧ bW1 (gL s 1062) b = 1 then 1 else 0) = cn (gA t 39 5) (fun b => if gA t 54 b ≠ 0 ∧ 0 < cM t b then 1 else 0) := by
  rw [← h.2.1]
  refine cn_pm h.1.1 (fun x hx _ => ?_)
  show (if 0 < gA s 54 (π x) ∧ bW1 (gL s 1062) (π x) = 1 then (1 : Int) else 0) = if gA t 54 x ≠ 0 ∧ 0 < cM t x then 1 else 0
  rw [(sim_c h hx).1]
  by_cases c : 0 < cM t x
  · have w := h.2.2 x hx c
    by_cases z : gA t 54 x ≠ 0
    · rw [if_pos ⟨c, bW1_1 (w.2 z)⟩, if_pos ⟨z, c⟩]
    · rw [if_neg (fun u => ?_), if_neg (fun u => z u.1)]
      rw [bW1_0 (fun y => z (w.1 y))] at u
      exact absurd u.2 (by decide)
  · rw [if_neg (fun u => c u.1), if_neg (fun u => c u.2)]
/-! ===== what is KEPT, what can be undone: on both sides ===== -/
/-- the COST counts for nothing -/
theorem TRf_x {π σ : Nat → Nat} {N : Int} {s : MS} {b : Nat} {f g : Nat → Int} (H : TRf π σ N s b f) (e : ∀ k, k < 785 → k ≠ 16 → g k = f k) : TRf π σ N s b g := by
  obtain ⟨p, c, l, r⟩ := H
  refine ⟨p, fun x hx => ?_, fun x hx q => ?_, fun v hv => ?_⟩
  · have := c x hx
    show gA s b (π x) = g (17 + 16 * x) ∧ gA s (b + 1) (π x) = g (18 + 16 * x)
    rw [e _ (by omega) (by omega), e _ (by omega) (by omega)]
    exact this
  · have q' : 0 < cR f x ∨ 0 < vR f x := by
      show 0 < f (17 + 16 * x) ∨ 0 < f (18 + 16 * x)
      rw [← e (17 + 16 * x) (by omega) (by omega), ← e (18 + 16 * x) (by omega) (by omega)]
      exact q
    have B := l x hx q'
    unfold BR1 at B ⊢
    have e1 : (hR g).1 x = (hR f).1 x := e _ (by omega) (by omega)
    have e2 : (hR g).2.1 x = (hR f).2.1 x := e _ (by omega) (by omega)
    have e3 : ∀ k, (hR g).2.2 x k = (hR f).2.2 x k := fun k => by
      show (if k < 6 then g (27 + 16 * x + k) else 0) = if k < 6 then f (27 + 16 * x + k) else 0
      by_cases z : k < 6
      · rw [if_pos z, if_pos z]; exact e _ (by omega) (by omega)
      · rw [if_neg z, if_neg z]
    have e4 : ∀ k, kR g x k = kR f x k := fun k => by
      show (if k < 6 then g (21 + 16 * x + k) else 0) = if k < 6 then f (21 + 16 * x + k) else 0
      by_cases z : k < 6
      · rw [if_pos z, if_pos z]; exact e _ (by omega) (by omega)
      · rw [if_neg z, if_neg z]
    rw [e1, e2]
    exact ⟨B.1, B.2.1, fun k hk => by rw [e3, e4]; exact B.2.2 k hk⟩
  · rw [e _ (by omega) (by omega), e _ (by omega) (by omega)]; exact r v hv
theorem sim_x {π σ : Nat → Nat} {s t o : MS} (h : SIM π σ s t) (e : ∀ i, i < 785 → i ≠ 16 → gA o 49 i = gA t 49 i) (e54 : ∀ x, x < 48 → gA o 54 x = gA t 54 x) (e39 : gA o 39 5 = gA t 39 5) : SIM π σ s o := ⟨TRf_x h.1 e, by rw [e39]; exact h.2.1, fun x hx q => by
  have q' : 0 < cM t x := by
    have e' : cM o x = cM t x := e (17 + 16 * x) (by omega) (by omega)
    rw [← e']; exact q
  rw [e54 x hx]; exact h.2.2 x hx q'⟩
theorem OI_16 {t o : MS} {lo hi : Nat → Int} (H : OI t lo hi) (e : ∀ i, i < 785 → i ≠ 16 → gA o 49 i = gA t 49 i) : OI o lo hi := OI_x H (fun x hx i i2 i16 => e _ (by omega) (by omega)) (fun x hx hl => by
  have c1 : cM o x = cM t x := e (17 + 16 * x) (by omega) (by omega)
  have c2 : vM o x = vM t x := e (18 + 16 * x) (by omega) (by omega)
  unfold LV at hl ⊢
  rw [← c1, ← c2]; exact hl)
theorem m_clears {t : MS} : pc (m_x12_clearsTouched t) (fun o => ∀ x : Nat, x < 48 → gA o 54 x = 0) := by
  have L : ∀ (n : Nat) (x : Int) (S : MS), (0 ≤ x ∧ x ≤ 48) → (∀ i : Nat, (i : Int) < x → gA S 54 i = 0) → pc (m_x12_clearsTouched_L2 n x S) (fun o => ∀ x : Nat, x < 48 → gA o 54 x = 0) := by
    refine fr_ind (fun _ _ _ _ => pc_none) (fun n ih x S hx h => ?_)
    show pc (m_x12_clearsTouched_b2 (m_x12_clearsTouched_L2 n) x S) _
    unfold m_x12_clearsTouched_b2
    refine pc_rg (pc_if (fun c => pc_some (fun i hi => h i (by omega))) (fun c => pc_inb (pc_bo (pc_stn (fun s7 e7 => ih (x + 1) s7 (by omega) (fun i hi => ?_))))))
    rw [(q_AA e7 : gA s7 54 = _)]
    by_cases z : i = x.toNat
    · rw [z, upZ_s]
    · rw [upZ_n z]; exact h i (by omega)
  unfold m_x12_clearsTouched
  exact L FU 0 t (by omega) (fun i hi => absurd hi (by omega))
/-- what is KEPT: the class's rows up to n against the reference's row of numbers -/
def KP (a8 a9 a10 : Nat → Int) (n : Nat) (f : Nat → Int) : Prop := ∃ m : Nat, (m ≤ n ∧ m ≤ 40 ∧ (m = n ∨ m = 40)) ∧ f 785 = (m : Int) ∧ ∀ k : Nat, k < m → f (786 + 3 * k) = a8 (n - m + k) ∧ f (787 + 3 * k) = a9 (n - m + k) ∧ f (788 + 3 * k) = a10 (n - m + k)
theorem KP_f {a8 a9 a10 : Nat → Int} {n : Nat} {f g : Nat → Int} (H : KP a8 a9 a10 n f) (e : ∀ i, 785 ≤ i → i < 906 → g i = f i) : KP a8 a9 a10 n g := by
  obtain ⟨m, ⟨m1, m2, m3⟩, h, r⟩ := H
  refine ⟨m, ⟨m1, m2, m3⟩, by rw [e 785 (by omega) (by omega)]; exact h, fun k hk => ?_⟩
  rw [e _ (by omega) (by omega), e _ (by omega) (by omega), e _ (by omega) (by omega)]
  exact r k hk
theorem KP_le {a8 a9 a10 b8 b9 b10 : Nat → Int} {n : Nat} {f : Nat → Int} (H : KP a8 a9 a10 n f) (e : ∀ j, j < n → b8 j = a8 j ∧ b9 j = a9 j ∧ b10 j = a10 j) : KP b8 b9 b10 n f := by
  obtain ⟨m, ⟨m1, m2, m3⟩, h, r⟩ := H
  refine ⟨m, ⟨m1, m2, m3⟩, h, fun k hk => ?_⟩
  have q := e (n - m + k) (by omega)
  rw [q.1, q.2.1, q.2.2]
  exact r k hk
theorem KP_sh {a8 a9 a10 b8 b9 b10 : Nat → Int} {n : Nat} {f : Nat → Int} (H : KP a8 a9 a10 (n + 1) f) (h40 : 40 ≤ n) (e : ∀ j, j < n → b8 j = a8 (j + 1) ∧ b9 j = a9 (j + 1) ∧ b10 j = a10 (j + 1)) : KP b8 b9 b10 n f := by
  obtain ⟨m, ⟨m1, m2, m3⟩, h, r⟩ := H
  have em : m = 40 := by omega
  refine ⟨m, ⟨by omega, m2, Or.inr em⟩, h, fun k hk => ?_⟩
  have q := e (n - m + k) (by omega)
  have rr := r k hk
  rw [show n + 1 - m + k = n - m + k + 1 by omega] at rr
  rw [q.1, q.2.1, q.2.2]
  exact rr
/-- how the class keeps a row -/
def KPc (a8 a9 a10 b8 b9 b10 : Nat → Int) (n n' : Nat) (x y z : Int) : Prop := (n = 60 ∧ n' = 60 ∧ (∀ j, j < 59 → b8 j = a8 (j + 1) ∧ b9 j = a9 (j + 1) ∧ b10 j = a10 (j + 1)) ∧ (b8 59 = x ∧ b9 59 = y ∧ b10 59 = z)) ∨ (n < 60 ∧ n' = n + 1 ∧ (∀ j, j ≠ n → b8 j = a8 j ∧ b9 j = a9 j ∧ b10 j = a10 j) ∧ (b8 n = x ∧ b9 n = y ∧ b10 n = z))
/-- how the reference does -/
def KPm (f g : Nat → Int) (x y z : Int) : Prop := (f 785 = 40 ∧ g 785 = 40 ∧ (∀ i, i < 117 → g (786 + i) = f (789 + i)) ∧ (g 903 = x ∧ g 904 = y ∧ g 905 = z)) ∨ (f 785 ≠ 40 ∧ g 785 = f 785 + 1 ∧ (∀ i : Nat, (i : Int) < 3 * f 785 → g (786 + i) = f (786 + i)) ∧ (g (786 + 3 * (f 785).toNat) = x ∧ g (787 + 3 * (f 785).toNat) = y ∧ g (788 + 3 * (f 785).toNat) = z))
theorem KP_new {a8 a9 a10 b8 b9 b10 : Nat → Int} {n n' : Nat} {f g : Nat → Int} {x y z : Int} (H : KP a8 a9 a10 n f) (hb : KPc a8 a9 a10 b8 b9 b10 n n' x y z) (hg : KPm f g x y z) : KP b8 b9 b10 n' g := by
  obtain ⟨m, ⟨m1, m2, m3⟩, h, r⟩ := H
  rcases hg with ⟨g1, g2, g3, g4, g5, g6⟩ | ⟨g1, g2, g3, g4, g5, g6⟩
  · have em : m = 40 := by omega
    rw [em] at r
    refine ⟨40, ⟨?_, Nat.le_refl _, Or.inr rfl⟩, g2, fun k hk => ?_⟩
    · rcases hb with ⟨_, b2, _⟩ | ⟨_, b2, _⟩ <;> omega
    · by_cases w : k = 39
      · rw [w]
        show g 903 = _ ∧ g 904 = _ ∧ g 905 = _
        rw [g4, g5, g6]
        rcases hb with ⟨_, b2, _, b4, b5, b6⟩ | ⟨b1, b2, _, b4, b5, b6⟩
        · rw [show n' - 40 + 39 = 59 by omega]; exact ⟨b4.symm, b5.symm, b6.symm⟩
        · rw [show n' - 40 + 39 = n by omega]; exact ⟨b4.symm, b5.symm, b6.symm⟩
      · have q1 := g3 (3 * k) (by omega)
        have q2 := g3 (1 + 3 * k) (by omega)
        have q3 := g3 (2 + 3 * k) (by omega)
        rw [show 786 + (1 + 3 * k) = 787 + 3 * k by omega, show 789 + (1 + 3 * k) = 787 + 3 * (k + 1) by omega] at q2
        rw [show 786 + (2 + 3 * k) = 788 + 3 * k by omega, show 789 + (2 + 3 * k) = 788 + 3 * (k + 1) by omega] at q3
        rw [show 789 + 3 * k = 786 + 3 * (k + 1) by omega] at q1
        have rr := r (k + 1) (by omega)
        rw [q1, q2, q3, rr.1, rr.2.1, rr.2.2]
        rcases hb with ⟨b1, b2, b3, _⟩ | ⟨b1, b2, b3, _⟩
        · have bb := b3 (n' - 40 + k) (by omega)
          rw [bb.1, bb.2.1, bb.2.2, show n' - 40 + k + 1 = n - 40 + (k + 1) by omega]
          exact ⟨rfl, rfl, rfl⟩
        · have bb := b3 (n' - 40 + k) (by omega)
          rw [bb.1, bb.2.1, bb.2.2, show n' - 40 + k = n - 40 + (k + 1) by omega]
          exact ⟨rfl, rfl, rfl⟩
  · have em : m = n := by omega
    rcases hb with ⟨b1, _⟩ | ⟨b1, b2, b3, b4, b5, b6⟩
    · omega
    rw [em] at r h
    refine ⟨n + 1, ⟨by omega, by omega, by omega⟩, by rw [g2, h]; omega, fun k hk => ?_⟩
    rw [show n' - (n + 1) + k = k by omega]
    rw [show (f 785).toNat = n by omega] at g4 g5 g6
    by_cases w : k = n
    · rw [w, g4, g5, g6, b4, b5, b6]; exact ⟨rfl, rfl, rfl⟩
    · have q1 := g3 (3 * k) (by omega)
      have q2 := g3 (1 + 3 * k) (by omega)
      have q3 := g3 (2 + 3 * k) (by omega)
      rw [show 786 + (1 + 3 * k) = 787 + 3 * k by omega] at q2
      rw [show 786 + (2 + 3 * k) = 788 + 3 * k by omega] at q3
      have rr := r k (by omega)
      rw [show n - n + k = k by omega] at rr
      have bb := b3 k w
      rw [q1, q2, q3, rr.1, rr.2.1, rr.2.2, bb.1, bb.2.1, bb.2.2]
      exact ⟨rfl, rfl, rfl⟩
theorem s_J70 {a v w : Int} {S : MS} : pc (m_x2_keep_J70 a v w S) (fun o => gI o 143 = gI S 143 + 1 ∧ gA o 8 = upZ (gA S 8) (gI S 143).toNat a ∧ gA o 9 = upZ (gA S 9) (gI S 143).toNat v ∧ gA o 10 = upZ (gA S 10) (gI S 143).toNat w) := by
  unfold m_x2_keep_J70
  refine pc_inb (pc_stn (fun s6 e6 => pc_inb (pc_stn (fun s8 e8 => pc_inb (pc_stn (fun s10 e10 => pc_stn (fun s11 e11 => pc_some ?_)))))))
  have i6 : gI s6 143 = gI S 143 := q_Ai e6
  have i8 : gI s8 143 = gI S 143 := (q_Ai e8).trans i6
  have i10 : gI s10 143 = gI S 143 := (q_Ai e10).trans i8
  refine ⟨by rw [(q_II e11 : gI s11 143 = _), i10], ?_, ?_, ?_⟩
  · rw [(q_Ia e11 : gA s11 8 = gA s10 8), (q_Aa e10 (by decide) : gA s10 8 = gA s8 8), (q_Aa e8 (by decide) : gA s8 8 = gA s6 8), (q_AA e6 : gA s6 8 = _)]
  · rw [(q_Ia e11 : gA s11 9 = gA s10 9), (q_Aa e10 (by decide) : gA s10 9 = gA s8 9), (q_AA e8 : gA s8 9 = _), i6, (q_Aa e6 (by decide) : gA s6 9 = gA S 9)]
  · rw [(q_Ia e11 : gA s11 10 = gA s10 10), (q_AA e10 : gA s10 10 = _), i8, (q_Aa e8 (by decide) : gA s8 10 = gA s6 10), (q_Aa e6 (by decide) : gA s6 10 = gA S 10)]
theorem s_keep {a v w : Int} {s : MS} {n : Nat} (hn : gI s 143 = (n : Int)) (h60 : n ≤ 60) : pc (m_x2_keep a v w s) (fun o => ∃ n' : Nat, gI o 143 = (n' : Int) ∧ KPc (gA s 8) (gA s 9) (gA s 10) (gA o 8) (gA o 9) (gA o 10) n n' a v w) := by
  unfold m_x2_keep
  refine pc_rg (pc_if (fun c => pc_stn (fun s14 e14 => pc_cpg (pc_stn (fun s16 e16 => pc_cpg (pc_stn (fun s18 e18 => pc_cpg (pc_stn (fun s20 e20 => ?_)))))))) (fun c => ?_))
  · have n60 : n = 60 := by omega
    have i14 : gI s14 143 = 59 := by rw [(q_II e14 : gI s14 143 = _), c]; rfl
    have i16 : gI s16 143 = 59 := (q_Ai e16).trans i14
    have i18 : gI s18 143 = 59 := (q_Ai e18).trans i16
    have i20 : gI s20 143 = 59 := (q_Ai e20).trans i18
    rw [i14] at e16
    rw [i16] at e18
    rw [i18] at e20
    refine pc_mono s_J70 (fun o ho => ⟨60, by rw [ho.1, i20]; rfl, Or.inl ⟨n60, rfl, fun j hj => ?_, ?_⟩⟩)
    · obtain ⟨_, h8, h9, h10⟩ := ho
      have t59 : (gI s20 143).toNat = 59 := by rw [i20]; rfl
      rw [t59] at h8 h9 h10
      have c8 : gA s20 8 = gA s16 8 := (q_Aa e20 (by decide)).trans (q_Aa e18 (by decide))
      have c9 : gA s20 9 = gA s18 9 := q_Aa e20 (by decide)
      rw [h8, h9, h10, upZ_n (by omega), upZ_n (by omega), upZ_n (by omega), c8, c9, (q_AA e16 : gA s16 8 = _), (q_AA e18 : gA s18 9 = _), (q_AA e20 : gA s20 10 = _), (q_Aa e16 (by decide) : gA s16 9 = gA s14 9), (q_Aa e18 (by decide) : gA s18 10 = gA s16 10), (q_Aa e16 (by decide) : gA s16 10 = gA s14 10), (q_Ia e14 : gA s14 8 = gA s 8), (q_Ia e14 : gA s14 9 = gA s 9), (q_Ia e14 : gA s14 10 = gA s 10)]
      have cp : ∀ f : Nat → Int, va_cpy f f (Int.toNat 1) (Int.toNat 0) (Int.toNat 59) j = f (j + 1) := fun f => by
        have q := cpa_at (f := f) (g := f) (sp := 1) (dp := 0) (n := 59) (k := j) hj
        rw [Nat.zero_add, Nat.add_comm 1 j] at q
        exact q
      exact ⟨cp _, cp _, cp _⟩
    · obtain ⟨_, h8, h9, h10⟩ := ho
      have t59 : (gI s20 143).toNat = 59 := by rw [i20]; rfl
      rw [t59] at h8 h9 h10
      rw [h8, h9, h10, upZ_s, upZ_s, upZ_s]
      exact ⟨rfl, rfl, rfl⟩
  · refine pc_mono s_J70 (fun o ho => ⟨n + 1, by rw [ho.1, hn]; omega, Or.inr ⟨by omega, rfl, fun j hj => ?_, ?_⟩⟩)
    · obtain ⟨_, h8, h9, h10⟩ := ho
      rw [h8, h9, h10, hn, Int.toNat_natCast, upZ_n hj, upZ_n hj, upZ_n hj]
      exact ⟨rfl, rfl, rfl⟩
    · obtain ⟨_, h8, h9, h10⟩ := ho
      rw [h8, h9, h10, hn, Int.toNat_natCast, upZ_s, upZ_s, upZ_s]
      exact ⟨rfl, rfl, rfl⟩
theorem m_J105 {a v w : Int} {S : MS} (h : 1 ≤ gA S 49 785 ∧ gA S 49 785 ≤ 40) : pc (m_x12_isKept_J105 a v w S) (fun o => gA o 49 = upZ (upZ (upZ (gA S 49) (783 + 3 * (gA S 49 785).toNat) a) (784 + 3 * (gA S 49 785).toNat) v) (785 + 3 * (gA S 49 785).toNat) w) := by
  unfold m_x12_isKept_J105
  refine pc_rdI (fun _ => pc_inb (pc_stn (fun s7 e7 => pc_inb (pc_stn (fun s9 e9 => pc_inb (pc_stn (fun s11 e11 => pc_some ?_)))))))
  have g : gA S 49 (Int.toNat 785) = gA S 49 785 := rfl
  rw [g] at e7 e9 e11
  rw [show (786 + 3 * gA S 49 785 - 3).toNat = 783 + 3 * (gA S 49 785).toNat by omega] at e7
  rw [show (786 + 3 * gA S 49 785 - 3 + 1).toNat = 784 + 3 * (gA S 49 785).toNat by omega] at e9
  rw [show (786 + 3 * gA S 49 785 - 3 + 2).toNat = 785 + 3 * (gA S 49 785).toNat by omega] at e11
  rw [(q_AA e11 : gA s11 49 = _), (q_AA e9 : gA s9 49 = _), (q_AA e7 : gA s7 49 = _)]
theorem m_J42 {a v w : Int} {S : MS} (h : 0 ≤ gA S 49 785 ∧ gA S 49 785 ≤ 40) : pc (m_x12_isKept_J42 a v w S) (fun o => KPm (gA S 49) (gA o 49) a v w) := by
  have L : ∀ (n : Nat) (x : Int) (X : MS), (786 ≤ x ∧ x ≤ 903) → gA S 49 785 = 40 → (∀ i : Nat, 786 ≤ i → (i : Int) < x → gA X 49 i = gA S 49 (i + 3)) → (∀ i : Nat, (i < 786 ∨ x ≤ (i : Int)) → gA X 49 i = gA S 49 i) → pc (m_x12_isKept_L60 n a v w x X) (fun o => KPm (gA S 49) (gA o 49) a v w) := by
    refine fr_ind (fun _ _ _ _ _ _ => pc_none) (fun n ih x X hx h4 h1 h2 => ?_)
    show pc (m_x12_isKept_b60 (m_x12_isKept_L60 n) a v w x X) _
    unfold m_x12_isKept_b60
    refine pc_rg (pc_if (fun c => ?_) (fun c => pc_rdI (fun _ => pc_inb (pc_stn (fun s21 e21 => ?_)))))
    · have x5 : gA X 49 785 = 40 := by rw [h2 785 (by omega)]; exact h4
      refine pc_mono (m_J105 (by omega)) (fun o ho => Or.inl ⟨h4, ?_, fun i hi => ?_, ?_⟩)
      · rw [ho, x5]
        show upZ (upZ (upZ (gA X 49) 903 a) 904 v) 905 w 785 = 40
        rw [upZ_n (by decide), upZ_n (by decide), upZ_n (by decide)]; exact x5
      · rw [ho, x5]
        show upZ (upZ (upZ (gA X 49) 903 a) 904 v) 905 w (786 + i) = gA S 49 (789 + i)
        rw [upZ_n (by omega), upZ_n (by omega), upZ_n (by omega), h1 (786 + i) (by omega) (by omega), show 786 + i + 3 = 789 + i by omega]
      · rw [ho, x5]
        show upZ (upZ (upZ (gA X 49) 903 a) 904 v) 905 w 903 = a ∧ upZ (upZ (upZ (gA X 49) 903 a) 904 v) 905 w 904 = v ∧ upZ (upZ (upZ (gA X 49) 903 a) 904 v) 905 w 905 = w
        rw [upZ_n (by decide), upZ_n (by decide), upZ_s, upZ_n (by decide), upZ_s, upZ_s]
        exact ⟨rfl, rfl, rfl⟩
    · have u : gA s21 49 = upZ (gA X 49) x.toNat (gA X 49 (x + 3).toNat) := q_AA e21
      refine ih (x + 1) s21 (by omega) h4 (fun i i1 i2 => ?_) (fun i hi => ?_)
      · rw [u]
        by_cases z : i = x.toNat
        · rw [z, upZ_s, h2 (x + 3).toNat (by omega), show (x + 3).toNat = x.toNat + 3 by omega]
        · rw [upZ_n z]; exact h1 i i1 (by omega)
      · rw [u, upZ_n (by omega)]; exact h2 i (by omega)
  unfold m_x12_isKept_J42
  refine pc_rdI (fun _ => pc_rg (pc_if (fun c => L FU 786 S (by omega) c (fun i i1 i2 => absurd i2 (by omega)) (fun i _ => rfl)) (fun c => pc_rdI (fun _ => pc_inb (pc_stn (fun s31 e31 => ?_))))))
  have c' : gA S 49 785 ≠ 40 := c
  have u : gA s31 49 = upZ (gA S 49) 785 (gA S 49 785 + 1) := q_AA e31
  have x5 : gA s31 49 785 = gA S 49 785 + 1 := by rw [u, upZ_s]
  refine pc_mono (m_J105 (by omega)) (fun o ho => Or.inr ⟨c', ?_, fun i hi => ?_, ?_⟩)
  · rw [ho, upZ_n (by omega), upZ_n (by omega), upZ_n (by omega)]; exact x5
  · rw [ho, upZ_n (by omega), upZ_n (by omega), upZ_n (by omega), u, upZ_n (by omega)]
  · rw [ho, x5, show (gA S 49 785 + 1).toNat = (gA S 49 785).toNat + 1 by omega]
    rw [show 783 + 3 * ((gA S 49 785).toNat + 1) = 786 + 3 * (gA S 49 785).toNat by omega, show 784 + 3 * ((gA S 49 785).toNat + 1) = 787 + 3 * (gA S 49 785).toNat by omega, show 785 + 3 * ((gA S 49 785).toNat + 1) = 788 + 3 * (gA S 49 785).toNat by omega]
    rw [upZ_n (by omega), upZ_n (by omega), upZ_s, upZ_n (by omega), upZ_s, upZ_s]
    exact ⟨rfl, rfl, rfl⟩
theorem m_kept {a v : Int} {t : MS} (h : 0 ≤ gA t 49 785 ∧ gA t 49 785 ≤ 40) : pc (m_x12_isKept a v t) (fun o => ∃ w, m_x12_writtenMany t = some w ∧ KPm (gA t 49) (gA o 49) a v w) := by
  unfold m_x12_isKept
  refine pc_bn (fun r33 e33 => pc_rdI (fun _ => pc_bn (fun q37 e37 => pc_inb (pc_stn (fun s39 e39 => ?_)))))
  have F37 : F_x12_writtenCost t q37.2 := fr_x12_writtenCost e37
  have a37 : gA q37.2 49 = gA t 49 := F37.2.1 49 (by simp)
  have k39 : ∀ i, i ≠ 16 → gA s39 49 i = gA t 49 i := fun i hi => by rw [(q_AA e39 : gA s39 49 = _), upZ_n (show i ≠ Int.toNat 16 from hi), a37]
  have fin : ∀ X : MS, (∀ i, i ≠ 16 → gA X 49 i = gA t 49 i) → pc (m_x12_isKept_J42 a v r33 X) (fun o => ∃ w, m_x12_writtenMany t = some w ∧ KPm (gA t 49) (gA o 49) a v w) := fun X hX => by
    refine pc_mono (m_J42 (by rw [hX 785 (by decide)]; exact h)) (fun o ho => ⟨r33, e33, ?_⟩)
    unfold KPm at ho ⊢
    rw [hX 785 (by decide)] at ho
    rcases ho with ⟨a1, a2, a3, a4⟩ | ⟨a1, a2, a3, a4⟩
    · exact Or.inl ⟨a1, a2, fun i hi => by rw [a3 i hi, hX _ (by omega)], a4⟩
    · exact Or.inr ⟨a1, a2, fun i hi => by rw [a3 i hi, hX _ (by omega)], a4⟩
  refine pc_rdI (fun _ => pc_rg (pc_if (fun _ => fin s39 k39) (fun _ => pc_inb (pc_stn (fun s44 e44 => fin s44 (fun i hi => ?_))))))
  rw [(q_AA e44 : gA s44 49 = _), upZ_n (show i ≠ Int.toNat 16 from hi)]; exact k39 i hi
theorem m_keeps76 {t : MS} : pc (m_x12_keeps t) (fun o => gI o 76 = if 20 ≤ gI t 76 then gI t 76 else gI t 76 + 1) := by
  have L : ∀ (n : Nat) (x : Int) (S : MS), gI S 76 = gI t 76 → pc (m_x12_keeps_L15 n x S) (fun o => gI o 76 = if 20 ≤ gI t 76 then gI t 76 else gI t 76 + 1) := by
    refine fr_ind (fun _ _ _ => pc_none) (fun n ih x S h => ?_)
    show pc (m_x12_keeps_b15 (m_x12_keeps_L15 n) x S) _
    unfold m_x12_keeps_b15 m_x12_keeps_J68
    refine pc_rg (pc_if (fun _ => pc_rg (pc_if (fun c => pc_some ?_) (fun c => pc_stn (fun s8 e8 => pc_some ?_)))) (fun _ => pc_rdI (fun _ => pc_inb (pc_stn (fun s11 e11 => ih _ s11 ((q_Ai e11).trans h))))))
    · rw [h] at c
      rw [if_pos c]; exact h
    · rw [h] at c
      rw [if_neg c, (q_II e8 : gI s8 76 = _), h]
  unfold m_x12_keeps
  exact pc_dv (pc_stn (fun s13 e13 => L FU 0 s13 (q_Ii e13 (by decide))))
/-- what the ring of the reference holds behind keeps() -/
def PSTm (t0 t : MS) (f : Nat → Int) : Prop := gI t 77 = (gI t0 77 + 1) % 20 ∧ gI t 76 = (if 20 ≤ gI t0 76 then gI t0 76 else gI t0 76 + 1) ∧ (∀ j, j < 906 → gA t 75 (906 * (gI t 77).toNat + j) = f j) ∧ (∀ j, j < 906 * (gI t 77).toNat ∨ 906 * (gI t 77).toNat + 906 ≤ j → gA t 75 j = gA t0 75 j)
theorem m_keeps {t o : MS} (hRt : Rr t) (e : m_x12_keeps t = some o) : Rr o ∧ F_x12_keeps t o ∧ PSTm t o (gA t 49) := by
  obtain ⟨r, a, _, c, d⟩ := wp_det (w_x12_keeps hRt) e
  exact ⟨r, fr_x12_keeps e, a, m_keeps76 o e, c, d⟩
/-- what the list of past states holds behind remember() -/
theorem s_rem {s : MS} {ts : List MS} {d : Nat} (hd : gI s 145 = (d : Int)) (hl : d ≤ ts.length ∧ ts.length ≤ 20) : pc (m_remember s ts) (fun w => ∃ d' : Nat, gI w.1 145 = (d' : Int) ∧ ((d = 20 ∧ d' = 20) ∨ (d < 20 ∧ d' = d + 1)) ∧ (∀ k, ¬ (62 ≤ k ∧ k ≤ 70) → gA w.1 k = gA s k) ∧ (∀ k, ¬ (1240 ≤ k ∧ k < 1260) → k ≠ 145 → gI w.1 k = gI s k) ∧ (∀ k, ¬ (1240 ≤ k ∧ k < 1260) → gL w.1 k = gL s k) ∧ (∃ Y : MS, (∀ k, gA Y k = gA s k) ∧ (∀ k, k ≠ 145 → gI Y k = gI s k) ∧ w.2[d' - 1]? = some Y) ∧ ∀ i : Nat, i + 1 < d' → w.2[d' - 1 - (i + 1)]? = ts[d - 1 - i]?) := by
  unfold m_remember
  refine pc_rg (pc_if (fun c1 => ?_) (fun c1 => pc_inb (pc_stn (fun s1 e1 => ?_))))
  · have d20 : d = 20 := by omega
    refine pc_if (fun c2 => pc_some ?_) (fun c2 => pc_none)
    obtain ⟨t0, tl, rfl⟩ : ∃ t0 tl, ts = t0 :: tl := by
      cases ts with
      | nil => exact absurd c2 (by decide)
      | cons a b => exact ⟨a, b, rfl⟩
    have hl2 : tl.length = 19 := by
      have : (t0 :: tl).length = tl.length + 1 := rfl
      omega
    refine ⟨20, ?_, Or.inl ⟨d20, rfl⟩, fun k hk => setB_A hk, fun k hk _ => setB_I hk, fun k hk => ?_, ⟨s, fun _ => rfl, fun _ _ => rfl, ?_⟩, fun i hi => ?_⟩
    · show gI (setB s ((t0 :: tl).headD s)) 145 = _
      rw [setB_I (by omega)]; exact c1
    · show gL (setB s ((t0 :: tl).headD s)) k = gL s k
      rw [gL_setB, if_neg hk]
    · show (tl ++ [s])[20 - 1]? = some s
      rw [List.getElem?_append_right (by omega), hl2]; rfl
    · show (tl ++ [s])[20 - 1 - (i + 1)]? = (t0 :: tl)[d - 1 - i]?
      rw [List.getElem?_append_left (by omega), show d - 1 - i = (20 - 1 - (i + 1)) + 1 by omega]; rfl
  · have g145 : gI s1 145 = gI s 145 + 1 := q_II e1
    have kA : ∀ k, gA s1 k = gA s k := fun k => q_Ia e1
    have kI : ∀ k, k ≠ 145 → gI s1 k = gI s k := fun k h => q_Ii e1 h
    have kL : ∀ k, gL s1 k = gL s k := fun k => q_Il e1
    have td : (gI s 145).toNat = d := by omega
    have com : ∀ X : MS, gI (setB s1 X) 145 = ((d + 1 : Nat) : Int) ∧ (∀ k, ¬ (62 ≤ k ∧ k ≤ 70) → gA (setB s1 X) k = gA s k) ∧ (∀ k, ¬ (1240 ≤ k ∧ k < 1260) → k ≠ 145 → gI (setB s1 X) k = gI s k) ∧ (∀ k, ¬ (1240 ≤ k ∧ k < 1260) → gL (setB s1 X) k = gL s k) := fun X => ⟨by rw [setB_I (by omega), g145, hd]; omega, fun k hk => (setB_A hk).trans (kA k), fun k hk h5 => (setB_I hk).trans (kI k h5), fun k hk => by rw [gL_setB, if_neg hk]; exact kL k⟩
    rw [td]
    refine pc_if (fun c2 => pc_some ?_) (fun c2 => pc_if (fun c3 => pc_some ?_) (fun c3 => pc_none))
    · obtain ⟨a1, a2, a3, a4⟩ := com (ts.getD d s)
      refine ⟨d + 1, a1, Or.inr ⟨by omega, rfl⟩, a2, a3, a4, ⟨s1, kA, kI, ?_⟩, fun i hi => ?_⟩
      · show (ts.set d s1)[d + 1 - 1]? = some s1
        rw [show d + 1 - 1 = d by omega]
        exact List.getElem?_set_self c2
      · show (ts.set d s1)[d + 1 - 1 - (i + 1)]? = ts[d - 1 - i]?
        rw [show d + 1 - 1 - (i + 1) = d - 1 - i by omega]
        exact List.getElem?_set_ne (by omega)
    · obtain ⟨a1, a2, a3, a4⟩ := com st0
      refine ⟨d + 1, a1, Or.inr ⟨by omega, rfl⟩, a2, a3, a4, ⟨s1, kA, kI, ?_⟩, fun i hi => ?_⟩
      · show (ts ++ [s1])[d + 1 - 1]? = some s1
        rw [show d + 1 - 1 = d by omega, List.getElem?_append_right (by omega), show d - ts.length = 0 by omega]; rfl
      · show (ts ++ [s1])[d + 1 - 1 - (i + 1)]? = ts[d - 1 - i]?
        rw [show d + 1 - 1 - (i + 1) = d - 1 - i by omega]
        exact List.getElem?_append_left (by omega)
/-! ===== past states on both sides ===== -/
theorem TRf_rows {π σ : Nat → Nat} {N : Int} {s o : MS} {b : Nat} {f : Nat → Int} (H : TRf π σ N s b f) (kA : ∀ k, b ≤ k → k ≤ b + 7 → gA o k = gA s k) : TRf π σ N o b f := by
  obtain ⟨p, c, l, r⟩ := H
  have e1 : hB o b = hB s b := by
    unfold hB
    rw [kA (b + 2) (by omega) (by omega), kA (b + 3) (by omega) (by omega), kA (b + 5) (by omega) (by omega)]
  have e2 : kB o b = kB s b := by
    unfold kB
    rw [kA (b + 4) (by omega) (by omega)]
  refine ⟨p, fun x hx => ?_, fun x hx q => ?_, fun v hv => ?_⟩
  · rw [kA b (by omega) (by omega), kA (b + 1) (by omega) (by omega)]; exact c x hx
  · rw [e1, e2]; exact l x hx q
  · rw [kA (b + 6) (by omega) (by omega), kA (b + 7) (by omega) (by omega)]; exact r v hv
/-- the i-th state from the latest on -/
def PSJ (s : MS) (ts : List MS) (t : MS) (n d i : Nat) : Prop := ∃ X : MS, ts[d - 1 - i]? = some X ∧ gI X 1240 = gA t 39 5 ∧ (∃ π σ lo hi, TRf π σ (gI X 1240) X 63 (slot t ((gI t 77 - (i : Int)) % 20).toNat) ∧ OI (sA t 49 (slot t ((gI t 77 - (i : Int)) % 20).toNat)) lo hi) ∧ KP (gA s 8) (gA s 9) (gA s 10) (n - 1 - i) (slot t ((gI t 77 - (i : Int)) % 20).toNat)
def HJ (s : MS) (ts : List MS) (t : MS) : Prop := gI t 76 = gI s 145 ∧ ∃ n d : Nat, (gI s 143 = (n : Int) ∧ n ≤ 60) ∧ (gI s 145 = (d : Int) ∧ d ≤ 20 ∧ d ≤ n) ∧ KP (gA s 8) (gA s 9) (gA s 10) n (gA t 49) ∧ ∀ i : Nat, i < d → PSJ s ts t n d i
theorem HJ_k {s s' t t' : MS} {ts : List MS} (H : HJ s ts t) (a1 : gI s' 145 = gI s 145) (a2 : gI s' 143 = gI s 143) (a3 : ∀ k, k = 8 ∨ k = 9 ∨ k = 10 → gA s' k = gA s k) (b1 : gI t' 76 = gI t 76) (b2 : gI t' 77 = gI t 77) (b3 : gA t' 75 = gA t 75) (b4 : gA t' 39 = gA t 39) (b5 : ∀ i, 785 ≤ i → i < 906 → gA t' 49 i = gA t 49 i) : HJ s' ts t' := by
  obtain ⟨h1, n, d, h2, h3, h4, h5⟩ := H
  have sl : ∀ p, slot t' p = slot t p := fun p => by unfold slot; rw [b3]
  refine ⟨by rw [b1, a1]; exact h1, n, d, by rw [a2]; exact h2, by rw [a1]; exact h3, ?_, fun i hi => ?_⟩
  · rw [a3 8 (Or.inl rfl), a3 9 (by omega), a3 10 (by omega)]; exact KP_f h4 b5
  · obtain ⟨X, x1, x2, ⟨π, σ, lo, hi', x3, x4⟩, x5⟩ := h5 i hi
    refine ⟨X, x1, by rw [b4]; exact x2, ⟨π, σ, lo, hi', by rw [b2, sl]; exact x3, ?_⟩, ?_⟩
    · rw [b2, sl]
      exact OI_49 x4 rfl
    · rw [a3 8 (Or.inl rfl), a3 9 (by omega), a3 10 (by omega), b2, sl]; exact x5
theorem s_settle {s : MS} : pc (m_x1_settle s) (fun q => m_x1_wrote q.2 = some q.1) := by
  unfold m_x1_settle
  exact pc_bn (fun q3 _ => pc_rg (pc_stn (fun s5 _ => pc_bn (fun r7 e7 => pc_some e7))))
set_option maxHeartbeats 2000000 in
/-- an ACT ends on both sides -/
theorem y_fin {s0 s t0 t : MS} {ts : List MS} {a v : Int} {π σ : Nat → Nat} {lo hi f0 : Nat → Int} (hH : HJ s0 ts t0) (C1 : BC s0 s 54 63 1060 1240) (C2 : gI s 143 = gI s0 143 ∧ gI s 145 = gI s0 145) (C3 : ∀ k, k = 8 ∨ k = 9 ∨ k = 10 → gA s k = gA s0 k)
    (M1 : PSTm t0 t f0) (M2 : ∀ i, i < 906 → f0 i = gA t0 49 i) (M3 : ∀ i, 785 ≤ i → i < 906 → gA t 49 i = gA t0 49 i) (M4 : gA t 39 = gA t0 39) (r77 : 0 ≤ gI t0 77 ∧ gI t0 77 ≤ 19)
    (old : ∃ π σ lo hi, TRf π σ (gI s0 1060) s0 54 (gA t0 49) ∧ OI t0 lo hi) (oN : gI s0 1060 = gA t0 39 5) (oz : ∀ x, x < 48 → 0 < cR (gA t0 49) x ∨ 0 < vR (gA t0 49) x → (hR (gA t0 49)).2.1 x ≤ 6)
    (hl : gI s0 145 ≤ (ts.length : Int) ∧ ts.length ≤ 20) (h : SIM π σ s t) (O : OI t lo hi) (hRt : Rr t) (G : GN t) (h16 : 0 ≤ gA t 49 16 ∧ gA t 49 16 ≤ 999999) (h785 : 0 ≤ gA t 49 785 ∧ gA t 49 785 ≤ 40) (ha : R2 a) (hv : R2 v) :
    pc (m_finish a v s ts) (fun w => pc (m_x12_isKept a v t) (fun o => HJ w.2.1 w.2.2 o ∧ SIM π σ w.2.1 o ∧ OI o lo hi ∧ (∀ r, m_x12_writtenMany o = some r → w.1 = r) ∧ (∀ k, k < 1000 → k ≠ 143 → k ≠ 145 → gI w.2.1 k = gI s k) ∧ ∀ k, k < 50 → k ≠ 8 → k ≠ 9 → k ≠ 10 → gA w.2.1 k = gA s k)) := by
  obtain ⟨hd, n, d, ⟨n1, n2⟩, ⟨d1, d2, d3⟩, kp, past⟩ := hH
  unfold m_finish
  refine pc_bn (fun q1 e1 => pc_bn (fun s2 e2 => pc_bn (fun w ew => pc_some (fun o eo => ?_))))
  have F1 : F_x1_settle s q1.2 := fr_x1_settle e1
  have F2 : F_x2_keep q1.2 s2 := fr_x2_keep e2
  have FK : F_x12_isKept t o := fr_x12_isKept eo
  have b5 := G.2.1.1
  obtain ⟨_, K1, _, _⟩ := wp_det (w_x12_isKept hRt G ha hv h16 h785) eo
  obtain ⟨w', ew', KM⟩ := m_kept h785 o eo
  have H1 : SIM π σ q1.2 t := SIM_k h (fun k k1 k2 => F1.2.1 k (by simp; omega)) (F1.1 1060 (by decide)) (F1.2.2.1 1062 (by simp)) rfl rfl rfl
  have N1 : 0 ≤ gI q1.2 1060 ∧ gI q1.2 1060 ≤ 48 := by rw [H1.2.1]; omega
  have wn : q1.1 = w' := by
    rw [s_wrote N1 q1.1 (s_settle q1 e1), m_wroteN (by omega) w' ew']
    exact sim_wrote H1
  have q143 : gI q1.2 143 = (n : Int) := by rw [F1.1 143 (by decide), C2.1]; exact n1
  obtain ⟨n', en', KC⟩ := s_keep (n := n) q143 n2 s2 e2
  have arr : ∀ k, k = 8 ∨ k = 9 ∨ k = 10 → gA q1.2 k = gA s0 k := fun k hk => by rw [F1.2.1 k (by simp; omega)]; exact C3 k hk
  rw [arr 8 (Or.inl rfl), arr 9 (by omega), arr 10 (by omega)] at KC
  have s145 : gI s2 145 = (d : Int) := by rw [F2.1 145 (by decide), F1.1 145 (by decide), C2.2]; exact d1
  obtain ⟨d', ed', dd, kA, kI, kL, ⟨Y, yA, yI, yG⟩, yO⟩ := s_rem (d := d) s145 ⟨by omega, hl.2⟩ w ew
  have wA : ∀ k, k = 8 ∨ k = 9 ∨ k = 10 → gA w.1 k = gA s2 k := fun k hk => kA k (by omega)
  have o75 : gA o 75 = gA t 75 := FK.2.1 75 (by decide)
  have o77 : gI o 77 = gI t 77 := FK.1 77 (by decide)
  have o39 : gA o 39 = gA t0 39 := (FK.2.1 39 (by decide)).trans M4
  obtain ⟨m77, m76, m3, m4⟩ := M1
  have HS1 : SIM π σ w.1 t := SIM_k H1 (fun k k1 k2 => by rw [kA k (by omega), F2.2.1 k (by simp; omega)]) (by rw [kI 1060 (by omega) (by decide), F2.1 1060 (by decide)]) (by rw [kL 1062 (by omega), F2.2.2.1 1062 (by simp)]) rfl rfl rfl
  have o54 : ∀ x, x < 48 → gA o 54 x = gA t 54 x := fun x _ => by rw [FK.2.1 54 (by decide)]
  refine ⟨⟨?_, n', d', ⟨?_, ?_⟩, ⟨ed', ?_, ?_⟩, ?_, fun i hi => ?_⟩, sim_x HS1 K1 o54 (by rw [FK.2.1 39 (by decide)]), OI_16 O K1, fun r er => ?_, fun k k1 k2 k3 => ?_, fun k k1 k2 k3 k4 => ?_⟩
  · rw [FK.1 76 (by decide), m76, hd, d1]
    show (if (20 : Int) ≤ (d : Int) then (d : Int) else (d : Int) + 1) = gI w.1 145
    rw [ed']
    rcases dd with ⟨x, y⟩ | ⟨x, y⟩
    · rw [if_pos (by omega)]; omega
    · rw [if_neg (by omega)]; omega
  · rw [kI 143 (by omega) (by decide)]; exact en'
  · rcases KC with ⟨_, x, _⟩ | ⟨x, y, _⟩ <;> omega
  · rcases dd with ⟨x, y⟩ | ⟨x, y⟩ <;> omega
  · rcases KC with ⟨_, x, _⟩ | ⟨x, y, _⟩ <;> rcases dd with ⟨u, z⟩ | ⟨u, z⟩ <;> omega
  · show KP (gA w.1 8) (gA w.1 9) (gA w.1 10) n' (gA o 49)
    rw [wA 8 (Or.inl rfl), wA 9 (by omega), wA 10 (by omega)]
    rw [← wn] at KM
    exact KP_new (KP_f kp M3) KC KM
  · have KO : ∀ (m m' : Nat) (f : Nat → Int), KP (gA s0 8) (gA s0 9) (gA s0 10) m f → m ≤ n → ((n < 60 ∧ m' = m) ∨ (n = 60 ∧ m = m' + 1 ∧ 40 ≤ m' ∧ m' ≤ 59)) → KP (gA w.1 8) (gA w.1 9) (gA w.1 10) m' f := fun m m' f hk hm hc => by
      rw [wA 8 (Or.inl rfl), wA 9 (by omega), wA 10 (by omega)]
      rcases KC with ⟨c1, c2, c3, _⟩ | ⟨c1, c2, c3, _⟩
      · rcases hc with ⟨x, _⟩ | ⟨_, y, z, u⟩
        · omega
        · rw [y] at hk
          exact KP_sh hk z (fun j hj => c3 j (by omega))
      · rcases hc with ⟨_, x⟩ | ⟨x, _⟩
        · rw [x]
          exact KP_le hk (fun j hj => c3 j (by omega))
        · omega
    cases i with
    | zero =>
      have pos : ((gI o 77 - ((0 : Nat) : Int)) % 20).toNat = (gI t 77).toNat := by rw [o77]; omega
      have sl : ∀ k, k < 906 → slot o (gI t 77).toNat k = gA t0 49 k := fun k hk => by
        show gA o 75 (906 * (gI t 77).toNat + k) = gA t0 49 k
        rw [o75, m3 k hk, M2 k hk]
      obtain ⟨π0, σ0, lo0, hi0, old1, old2⟩ := old
      have y1240 : gI Y 1240 = gI s0 1060 := by rw [yI 1240 (by decide), F2.1 1240 (by decide), F1.1 1240 (by decide)]; exact C1.2.2.2.1
      refine ⟨Y, yG, by rw [y1240, oN, o39], ⟨π0, σ0, lo0, hi0, ?_, ?_⟩, ?_⟩
      · rw [pos, y1240]
        exact TRf_r (TRf_rows (TRf_c old1 C1 oz) (fun k k1 k2 => by rw [yA k, F2.2.1 k (by simp; omega), F1.2.1 k (by simp; omega)])) (fun k hk => sl k (by omega))
      · rw [pos]
        exact OI_785 old2 (fun k hk => sl k (by omega))
      · rw [pos]
        refine KO n (n' - 1 - 0) _ (KP_f kp (fun k _ hk => sl k hk)) (Nat.le_refl n) ?_
        rcases KC with ⟨c1, c2, _⟩ | ⟨c1, c2, _⟩
        · exact Or.inr ⟨c1, by omega, by omega, by omega⟩
        · exact Or.inl ⟨c1, by omega⟩
    | succ i =>
      have i1 : i < d ∧ i ≤ 18 := by rcases dd with ⟨x, y⟩ | ⟨x, y⟩ <;> omega
      obtain ⟨X, x1, x2, ⟨π0, σ0, lo0, hi0, x3, x4⟩, x5⟩ := past i i1.1
      obtain ⟨q, hq⟩ : ∃ q, q = ((gI t0 77 - (i : Int)) % 20).toNat := ⟨_, rfl⟩
      have pos : ((gI o 77 - ((i + 1 : Nat) : Int)) % 20).toNat = q := by rw [o77, m77, hq]; omega
      have qp : q ≠ (gI t 77).toNat := by rw [hq, m77]; omega
      have sl : ∀ k, k < 906 → slot o q k = slot t0 q k := fun k hk => by
        show gA o 75 (906 * q + k) = gA t0 75 (906 * q + k)
        rw [o75, m4 _ (by omega)]
      rw [← hq] at x3 x4 x5
      refine ⟨X, by rw [yO i hi]; exact x1, by rw [x2, o39], ⟨π0, σ0, lo0, hi0, ?_, ?_⟩, ?_⟩
      · rw [pos]; exact TRf_r x3 (fun k hk => sl k (by omega))
      · rw [pos]; exact OI_785 x4 (fun k hk => sl k (by omega))
      · rw [pos]
        refine KO (n - 1 - i) (n' - 1 - (i + 1)) _ (KP_f x5 (fun k _ hk => sl k hk)) (by omega) ?_
        rcases KC with ⟨c1, c2, _⟩ | ⟨c1, c2, _⟩
        · exact Or.inr ⟨c1, by omega, by omega, by omega⟩
        · exact Or.inl ⟨c1, by omega⟩
  · show q1.1 = r
    have cE : ∀ x, x < 48 → cM o x = cM t x := fun x hx => K1 (17 + 16 * x) (by omega) (by omega)
    rw [wn, m_wroteN (by omega) w' ew', m_wroteN (by rw [FK.2.1 39 (by decide)]; omega) r er, FK.2.1 39 (by decide), FK.2.1 54 (by decide)]
    refine cn_c (fun x hx _ => ?_)
    show (if gA t 54 x ≠ 0 ∧ 0 < cM t x then (1 : Int) else 0) = if gA t 54 x ≠ 0 ∧ 0 < cM o x then 1 else 0
    rw [cE x hx]
  · show gI w.1 k = gI s k
    rw [kI k (by omega) k3, F2.1 k (by simp; omega), F1.1 k (by simp; omega)]
  · show gA w.1 k = gA s k
    rw [kA k (by omega), F2.2.1 k (by simp; omega), F1.2.1 k (by simp; omega)]
/-! ===== an act that is tried, and kept ===== -/
def ASm (t X : MS) : Prop := (∀ k, k ≠ 61 → gA X k = gA t k) ∧ (∀ i, i < 785 → gA X 61 i = gA t 49 i) ∧ (∀ k, gI X k = gI t k) ∧ (∀ k, gL X k = gL t k) ∧ (Rr t → Rr X)
def SWm (q Y : MS) : Prop := (∀ i, i < 785 → gA Y 49 i = gA q 61 i ∧ gA Y 61 i = gA q 49 i) ∧ (∀ i, 785 ≤ i → gA Y 49 i = gA q 49 i) ∧ (∀ k, k ≠ 49 → k ≠ 61 → gA Y k = gA q k) ∧ (∀ k, gI Y k = gI q k) ∧ (∀ k, gL Y k = gL q k) ∧ (Rr q → Rr Y)
def RSm (Z o : MS) : Prop := (∀ i, i < 785 → gA o 49 i = gA Z 61 i) ∧ (∀ i, 785 ≤ i → gA o 49 i = gA Z 49 i) ∧ (∀ k, k ≠ 49 → gA o k = gA Z k) ∧ (∀ k, gI o k = gI Z k) ∧ (∀ k, gL o k = gL Z k)
theorem m_canBe {k v key val : Int} {t : MS} : pc (m_x12_canBe k v key val t) (fun o => ∃ X q, ASm t X ∧ m_x12_tries k v key val X = some q ∧ ((q.1 = 0 ∧ o = (0, q.2)) ∨ (q.1 ≠ 0 ∧ o.1 = 1 ∧ ∃ Y Z, SWm q.2 Y ∧ m_x12_keeps Y = some Z ∧ RSm Z o.2))) := by
  have L101 : ∀ (Z : MS) (n : Nat) (x : Int) (S : MS), (0 ≤ x ∧ x ≤ 785) → (∀ i : Nat, (i : Int) < x → gA S 49 i = gA Z 61 i) → (∀ i, 785 ≤ i → gA S 49 i = gA Z 49 i) → (∀ k, k ≠ 49 → gA S k = gA Z k) → (∀ k, gI S k = gI Z k) → (∀ k, gL S k = gL Z k) → pc (m_x12_canBe_L101 n x S) (fun o => o.1 = 1 ∧ RSm Z o.2) := fun Z => by
    refine fr_ind (fun _ _ _ _ _ _ _ _ => pc_none) (fun n ih x S hx h1 h2 h3 h4 h5 => ?_)
    show pc (m_x12_canBe_b101 (m_x12_canBe_L101 n) x S) _
    unfold m_x12_canBe_b101
    refine pc_rg (pc_if (fun c => pc_some ⟨rfl, fun i hi => h1 i (by omega), h2, h3, h4, h5⟩) (fun c => pc_rdI (fun _ => pc_inb (pc_stn (fun s7 e7 => ih (x + 1) s7 (by omega) (fun i hi => ?_) (fun i hi => by rw [(q_AA e7 : gA s7 49 = _), upZ_n (by omega)]; exact h2 i hi) (fun k hk => (q_Aa e7 hk).trans (h3 k hk)) (fun k => (q_Ai e7).trans (h4 k)) (fun k => (q_Al e7).trans (h5 k)))))))
    rw [(q_AA e7 : gA s7 49 = _)]
    by_cases z : i = x.toNat
    · rw [z, upZ_s, h3 61 (by decide)]
    · rw [upZ_n z]; exact h1 i (by omega)
  have L48 : ∀ (q : MS) (n : Nat) (x : Int) (S : MS), (0 ≤ x ∧ x ≤ 785) → (∀ i : Nat, (i : Int) < x → gA S 49 i = gA q 61 i ∧ gA S 61 i = gA q 49 i) → (∀ i : Nat, x ≤ (i : Int) → gA S 49 i = gA q 49 i ∧ gA S 61 i = gA q 61 i) → (∀ k, k ≠ 49 → k ≠ 61 → gA S k = gA q k) → (∀ k, gI S k = gI q k) → (∀ k, gL S k = gL q k) → (Rr q → Rr S) → pc (m_x12_canBe_L48 n x S) (fun o => o.1 = 1 ∧ ∃ Y Z, SWm q Y ∧ m_x12_keeps Y = some Z ∧ RSm Z o.2) := fun q => by
    refine fr_ind (fun _ _ _ _ _ _ _ _ _ => pc_none) (fun n ih x S hx h1 h2 h3 h4 h5 h6 => ?_)
    show pc (m_x12_canBe_b48 (m_x12_canBe_L48 n) x S) _
    unfold m_x12_canBe_b48
    refine pc_rg (pc_if (fun c => pc_bn (fun Z eZ => ?_)) (fun c => pc_rdI (fun _ => pc_rdI (fun _ => pc_inb (pc_stn (fun s17 e17 => pc_inb (pc_stn (fun s19 e19 => ?_))))))))
    · refine pc_mono (L101 Z FU 0 Z (by omega) (fun i hi => absurd hi (by omega)) (fun _ _ => rfl) (fun _ _ => rfl) (fun _ => rfl) (fun _ => rfl)) (fun o ho => ⟨ho.1, S, Z, ⟨fun i hi => h1 i (by omega), fun i hi => (h2 i (by omega)).1, h3, h4, h5, h6⟩, eZ, ho.2⟩)
    · have a17 : gA s17 49 = upZ (gA S 49) x.toNat (gA S 61 x.toNat) := q_AA e17
      have b17 : gA s17 61 = gA S 61 := q_Aa e17 (by decide)
      have a19 : gA s19 49 = gA s17 49 := q_Aa e19 (by decide)
      have b19 : gA s19 61 = upZ (gA S 61) x.toNat (gA S 49 x.toNat) := by rw [(q_AA e19 : gA s19 61 = _), b17]
      refine ih (x + 1) s19 (by omega) (fun i hi => ?_) (fun i hi => ?_) (fun k k1 k2 => (q_Aa e19 k2).trans ((q_Aa e17 k1).trans (h3 k k1 k2))) (fun k => (q_Ai e19).trans ((q_Ai e17).trans (h4 k))) (fun k => (q_Al e19).trans ((q_Al e17).trans (h5 k))) (fun hr => ?_)
      · rw [a19, a17, b19]
        by_cases z : i = x.toNat
        · rw [z, upZ_s, upZ_s]
          have w := h2 x.toNat (by omega)
          exact ⟨w.2, w.1⟩
        · rw [upZ_n z, upZ_n z]; exact h1 i (by omega)
      · rw [a19, a17, b19, upZ_n (by omega), upZ_n (by omega)]; exact h2 i (by omega)
      · have hS := h6 hr
        have r61 : R2 (gA S 61 x.toNat) := hS.2.1 61 x.toNat (by show x.toNat < 785; omega)
        have r49 : R2 (gA S 49 x.toNat) := R49 hS (by omega)
        have h17 : Rr s17 := e17 ▸ Rr.uAu hS (by show R2 (gA S 61 x.toNat); exact r61)
        exact e19 ▸ Rr.uAu h17 (by show R2 (gA S 49 x.toNat); exact r49)
  have L3 : ∀ (n : Nat) (x : Int) (S : MS), (0 ≤ x ∧ x ≤ 785) → (∀ k, k ≠ 61 → gA S k = gA t k) → (∀ i : Nat, (i : Int) < x → gA S 61 i = gA t 49 i) → (∀ k, gI S k = gI t k) → (∀ k, gL S k = gL t k) → (Rr t → Rr S) → pc (m_x12_canBe_L3 n k v key val x S) (fun o => ∃ X q, ASm t X ∧ m_x12_tries k v key val X = some q ∧ ((q.1 = 0 ∧ o = (0, q.2)) ∨ (q.1 ≠ 0 ∧ o.1 = 1 ∧ ∃ Y Z, SWm q.2 Y ∧ m_x12_keeps Y = some Z ∧ RSm Z o.2))) := by
    refine fr_ind (fun _ _ _ _ _ _ _ _ => pc_none) (fun n ih x S hx h1 h2 h4 h5 h6 => ?_)
    show pc (m_x12_canBe_b3 (m_x12_canBe_L3 n) k v key val x S) _
    unfold m_x12_canBe_b3
    refine pc_rg (pc_if (fun c => pc_bn (fun q30 e30 => ?_)) (fun c => pc_rdI (fun _ => pc_inb (pc_stn (fun s35 e35 => ?_)))))
    · have AS : ASm t S := ⟨h1, fun i hi => h2 i (by omega), h4, h5, h6⟩
      refine pc_rg (pc_if (fun c2 => pc_some ⟨S, q30, AS, e30, Or.inl ⟨c2, rfl⟩⟩) (fun c2 => pc_mono (L48 q30.2 FU 0 q30.2 (by omega) (fun i hi => absurd hi (by omega)) (fun _ _ => ⟨rfl, rfl⟩) (fun _ _ _ => rfl) (fun _ => rfl) (fun _ => rfl) id) (fun o ho => ⟨S, q30, AS, e30, Or.inr ⟨c2, ho.1, ho.2⟩⟩)))
    · refine ih (x + 1) s35 (by omega) (fun k hk => (q_Aa e35 hk).trans (h1 k hk)) (fun i hi => ?_) (fun k => (q_Ai e35).trans (h4 k)) (fun k => (q_Al e35).trans (h5 k)) (fun hr => e35 ▸ Rr.uAu (h6 hr) (by show R2 (gA S 49 x.toNat); exact R49 (h6 hr) (by omega)))
      rw [(q_AA e35 : gA s35 61 = _)]
      by_cases z : i = x.toNat
      · rw [z, upZ_s, h1 49 (by decide)]
      · rw [upZ_n z]; exact h2 i (by omega)
  unfold m_x12_canBe
  exact L3 FU 0 t (by omega) (fun _ _ => rfl) (fun i hi => absurd hi (by omega)) (fun _ => rfl) (fun _ => rfl) id
/-! ===== acts on both sides ===== -/
def R0 (s t : MS) : Prop := ∃ π σ lo hi, TRf π σ (gI s 1060) s 54 (gA t 49) ∧ OI t lo hi
/-- no store was told yet -/
def UT (s t : MS) : Prop := gI s 1060 = 0 ∧ gI s 1061 = 0 ∧ gI s 143 = 0 ∧ (∀ v, v < 8 → gA s 61 v = -2) ∧ gA t 49 785 = 0 ∧ gA t 49 16 = 0
/-- between calls -/
def BT (s : MS) (ts : List MS) (t : MS) : Prop := gI s 983 = gL t 78 ∧ (∀ k, k < 6 → gA s 2 k = gA t 9 k) ∧ (gI s 12 = 0 → UT s t) ∧ (gI s 12 ≠ 0 → gI s 1060 = gA t 39 5 ∧ R0 s t ∧ HJ s ts t)
theorem R0_J2 {s t : MS} (h : J2 s t) : gI s 1060 = gA t 39 5 ∧ R0 s t := by
  obtain ⟨⟨π, σ, lo, hi, H, O⟩, _⟩ := h
  exact ⟨H.2.1, π, σ, lo, hi, H.1, O⟩
theorem BT_V {s t : MS} {ts : List MS} (h : BT s ts t) (hC : CI s ts) (h47 : gI t 47 = gI s 12) : VJ s t := fun v hv => by
  by_cases z : gI s 12 = 0
  · rcases hC.2.2.1 with ⟨_, _, a⟩ | ⟨a, _⟩
    · exact ⟨fun _ => Or.inl (h47.trans z), fun _ => a v hv⟩
    · omega
  · obtain ⟨_, ⟨π, σ, lo, hi, H, _⟩, _⟩ := h.2.2.2 z
    have e := (rtr_e (H.2.2.2 v hv).1).1
    constructor
    · intro w; exact Or.inr (e.1 w)
    · rintro (w | w)
      · exact absurd (h47.symm.trans w) z
      · exact e.2 w
/-- nothing but refusals, the rows of before -/
theorem BT_k {s s' t t' : MS} {ts : List MS} (h : BT s ts t) (a1 : ∀ k, k = 12 ∨ k = 143 ∨ k = 145 ∨ k = 1060 ∨ k = 1061 → gI s' k = gI s k) (a2 : ∀ k, k = 8 ∨ k = 9 ∨ k = 10 ∨ (54 ≤ k ∧ k ≤ 61) → gA s' k = gA s k) (b1 : ∀ k, k = 76 ∨ k = 77 → gI t' k = gI t k) (b2 : ∀ k, k = 39 ∨ k = 49 ∨ k = 75 → gA t' k = gA t k) (c1 : gI s' 983 = gL t' 78) (c2 : ∀ k, k < 6 → gA s' 2 k = gA t' 9 k) : BT s' ts t' := by
  obtain ⟨_, _, h3, h4⟩ := h
  refine ⟨c1, c2, fun z => ?_, fun z => ?_⟩
  · obtain ⟨u1, u2, u3, u4, u5, u6⟩ := h3 (by rw [← a1 12 (Or.inl rfl)]; exact z)
    refine ⟨by rw [a1 1060 (by omega)]; exact u1, by rw [a1 1061 (by omega)]; exact u2, by rw [a1 143 (by omega)]; exact u3, fun v hv => by rw [a2 61 (by omega)]; exact u4 v hv, by rw [b2 49 (by omega)]; exact u5, by rw [b2 49 (by omega)]; exact u6⟩
  · obtain ⟨g1, ⟨π, σ, lo, hi, g2, g3⟩, g4⟩ := h4 (by rw [← a1 12 (Or.inl rfl)]; exact z)
    refine ⟨by rw [a1 1060 (by omega), b2 39 (Or.inl rfl)]; exact g1, ⟨π, σ, lo, hi, ?_, OI_49 g3 (b2 49 (by omega))⟩, HJ_k g4 (a1 145 (by omega)) (a1 143 (by omega)) (fun k hk => a2 k (by omega)) (b1 76 (Or.inl rfl)) (b1 77 (Or.inr rfl)) (b2 75 (by omega)) (b2 39 (Or.inl rfl)) (fun i _ _ => by rw [b2 49 (by omega)])⟩
    rw [a1 1060 (by omega), b2 49 (by omega)]
    exact TRf_rows g2 (fun k k1 k2 => a2 k (by omega))
/-- a call is refused -/
theorem BT_rf {s t : MS} {ts : List MS} {p : Int} (h : BT s ts t) (hp : 0 ≤ p ∧ p < 6) {q o : Int × MS} (e1 : m_x11_refuse p s = some q) (e2 : m_x12_refuses p t = some o) : q.1 = o.1 ∧ BT q.2 ts o.2 := by
  have F1 : F_x11_refuse s q.2 := fr_x11_refuse e1
  have F2 : F_x12_refuses t o.2 := fr_x12_refuses e2
  have g1 : pc (m_x11_refuse p s) (fun q => q.1 = -1 ∧ gA q.2 2 = upZ (gA s 2) p.toNat (gA s 2 p.toNat + 1)) := by
    unfold m_x11_refuse
    exact pc_rdI (fun _ => pc_inb (pc_stn (fun s3 e3 => pc_some ⟨rfl, q_AA e3⟩)))
  have g2 : pc (m_x12_refuses p t) (fun q => q.1 = -1 ∧ gA q.2 9 = upZ (gA t 9) p.toNat (gA t 9 p.toNat + 1)) := by
    unfold m_x12_refuses
    exact pc_rdI (fun _ => pc_inb (pc_stn (fun s3 e3 => pc_some ⟨rfl, q_AA e3⟩)))
  obtain ⟨x1, x2⟩ := g1 q e1
  obtain ⟨y1, y2⟩ := g2 o e2
  refine ⟨x1.trans y1.symm, BT_k h (fun k hk => F1.1 k (by simp)) (fun k hk => F1.2.1 k (by simp; omega)) (fun k hk => F2.1 k (by simp)) (fun k hk => F2.2.1 k (by simp; omega)) (by rw [F1.1 983 (by simp), F2.2.2.1 78 (by simp)]; exact h.1) (fun k hk => ?_)⟩
  rw [x2, y2]
  by_cases z : k = p.toNat
  · rw [z, upZ_s, upZ_s, h.2.1 p.toNat (by omega)]
  · rw [upZ_n z, upZ_n z]; exact h.2.1 k hk
theorem s_begin0 {s : MS} : pc (m_x1_begin s) (fun o => gL o 1062 = 0) := by
  unfold m_x1_begin
  exact pc_bn (fun s2 _ => pc_stn (fun s3 e3 => pc_some (q_LL e3)))
/-- an act begins -/
theorem y_begA {s s' t t' : MS} (N : gI s 1060 = gA t 39 5) (R : R0 s t) (Z : ZP s t) (hT : TE s) (e1 : m_x1_begin s = some s') (b : ∀ k, k = 49 ∨ k = 39 ∨ (42 ≤ k ∧ k ≤ 44) → gA t' k = gA t k) (c : ∀ x : Nat, x < 48 → gA t' 54 x = 0) : J2 s' t' ∧ TE s' ∧ F_x1_begin s s' ∧ BC s s' 54 63 1060 1240 ∧ gL s' 1062 = 0 := by
  obtain ⟨T1, F1, B1⟩ := wp_det (ts_begin hT) e1
  have l0 := s_begin0 s' e1
  obtain ⟨π, σ, lo, hi, H, O⟩ := R
  have P : TRf π σ (gI s' 1060) s' 54 (gA t' 49) := by
    rw [F1.1 1060 (by decide), b 49 (Or.inl rfl)]
    exact TRf_rows H (fun k k1 k2 => F1.2.1 k (by simp; omega))
  refine ⟨⟨⟨π, σ, lo, hi, ⟨P, by rw [F1.1 1060 (by decide), b 39 (by omega)]; exact N, fun x hx _ => ?_⟩, OI_49 O (b 49 (Or.inl rfl))⟩, ZP_k Z (F1.1 581 (by decide)) (F1.1 741 (by decide)) (fun k k1 k2 => F1.2.1 k (by simp; omega)) (fun k hk => b k (by omega))⟩, T1, F1, B1, l0⟩
  rw [l0, c x hx]
  exact ⟨fun w => absurd w (bW_0 (P.1 x hx).1.1), fun w => absurd rfl w⟩
theorem PSTm_k {t0 t t' : MS} {f : Nat → Int} (h : PSTm t0 t f) (a1 : gI t' 77 = gI t 77) (a2 : gI t' 76 = gI t 76) (a3 : gA t' 75 = gA t 75) : PSTm t0 t' f := by
  unfold PSTm at h ⊢
  rw [a1, a2, a3]; exact h
/-- an act that was done is KEPT -/
theorem act_ok {s sa t ta : MS} {ts : List MS} {a v : Int} {f0 : Nat → Int} (hC : CI s ts) (ht : gI s 12 ≠ 0) (hRR : Rr t) (G0 : GA t) (B : BT s ts t) (C1 : BC s sa 54 63 1060 1240) (C2 : ∀ k, k = 12 ∨ k = 143 ∨ k = 145 → gI sa k = gI s k) (C3 : ∀ k, k = 2 ∨ k = 8 ∨ k = 9 ∨ k = 10 → gA sa k = gA s k) (hs : gI sa 983 = gL ta 78)
    (M1 : PSTm t ta f0) (M2 : ∀ i, i < 906 → f0 i = gA t 49 i) (M3 : ∀ i, 785 ≤ i → i < 906 → gA ta 49 i = gA t 49 i) (M4 : gA ta 39 = gA t 39) (M5 : gA ta 9 = gA t 9) (H : J2 sa ta) (hRa : Rr ta) (Ga : GA ta) (ha : R2 a) (hv : R2 v) :
    pc (m_finish a v sa ts) (fun w => pc (m_x12_isKept a v ta) (fun o => BT w.2.1 w.2.2 o ∧ (∀ r, m_x12_writtenMany o = some r → w.1 = r) ∧ J2 w.2.1 o)) := by
  obtain ⟨N, R, hH⟩ := B.2.2.2 ht
  obtain ⟨⟨π, σ, lo, hi, HS1, O⟩, Z⟩ := H
  have hK : KLV t := KLV_of G0.1.1.1.1 (fun _ _ => Int.le_refl 0)
  have oz : ∀ x, x < 48 → 0 < cR (gA t 49) x ∨ 0 < vR (gA t 49) x → (hR (gA t 49)).2.1 x ≤ 6 := fun x hx l => (hK.2.1 x hx l).1.1.2.1.2
  have hl : gI s 145 ≤ (ts.length : Int) ∧ ts.length ≤ 20 := ⟨hC.2.2.2.1.2.1, hC.2.2.2.1.2.2⟩
  intro w ew o eo
  have Y := y_fin hH C1 ⟨C2 143 (by omega), C2 145 (by omega)⟩ (fun k hk => C3 k (by omega)) M1 M2 M3 M4 (show (0 : Int) ≤ gI t 77 ∧ gI t 77 ≤ 19 from hRR.1 77) R N oz hl HS1 O hRa Ga.1 Ga.2.2.1 Ga.2.2.2 ha hv w ew o eo
  obtain ⟨y1, y2, y3, y4, y5, y6⟩ := Y
  have FK : F_x12_isKept ta o := fr_x12_isKept eo
  refine ⟨⟨?_, fun k hk => ?_, fun z => ?_, fun _ => ⟨y2.2.1, ⟨π, σ, lo, hi, y2.1, y3⟩, y1⟩⟩, y4, ⟨⟨π, σ, lo, hi, y2, y3⟩, ZP_k Z (y5 581 (by decide) (by decide) (by decide)) (y5 741 (by decide) (by decide) (by decide)) (fun k k1 k2 => y6 k (by omega) (by omega) (by omega) (by omega)) (fun k hk => FK.2.1 k (by simp; omega))⟩⟩
  · rw [y5 983 (by decide) (by decide) (by decide), FK.2.2.1 78 (by simp)]; exact hs
  · rw [y6 2 (by decide) (by decide) (by decide) (by decide), C3 2 (Or.inl rfl), FK.2.1 9 (by decide), M5]; exact B.2.1 k hk
  · exfalso
    rw [y5 12 (by decide) (by decide) (by decide), C2 12 (Or.inl rfl)] at z
    exact ht z
/-- what is told of the store, as acts want it -/
def ZT (s t : MS) : Prop := gI s 12 ≠ 0 → ZP s t ∧ gA t 39 9 = gI s 582
theorem GA_clr {t o : MS} (G : GA t) (F : F_x12_clearsTouched t o) : GA o := GA_eq G ⟨F.2.1 39 (by decide), F.2.1 42 (by decide), F.2.1 43 (by decide), F.2.1 44 (by decide)⟩ (F.2.1 49 (by decide)) (F.2.1 75 (by decide)) (F.1 76 (by simp)) (F.1 77 (by simp))
theorem GA_ASm {t X : MS} (G : GA t) (A : ASm t X) : GA X := GA_eq G ⟨A.1 39 (by decide), A.1 42 (by decide), A.1 43 (by decide), A.1 44 (by decide)⟩ (A.1 49 (by decide)) (A.1 75 (by decide)) (A.2.2.1 76) (A.2.2.1 77)
/-- PUT, REMOVE: tried and kept -/
theorem y_tried {s s18 t t21 : MS} {ts : List MS} {k : Int} {v : Nat} {key val : Int} {q21 : Int × MS} (hC : CI s ts) (ht : gI s 12 ≠ 0) (hRR : Rr t) (G0 : GA t) (B : BT s ts t) (Z : ZP s t) (e18 : m_x1_begin s = some s18) (f21 : m_x12_clearsTouched t = some t21)
    (hk : k = 2 ∨ k = 3) (hv : v < 8) (hrt : (0 ≤ gA t 49 v ∧ gA t 49 v < 254) ∨ gA t 49 v = 254) (hkv : k = 2 → (0 ≤ key ∧ key ≤ 999) ∧ (0 ≤ val ∧ val ≤ 999)) (h2 : R2 key) (h3 : R2 val)
    (F1 : F_x1_tryPlant s18 q21.2 ∨ F_x1_tryUproot s18 q21.2) (TRYJ : ∀ X : MS, J2 s18 X → Rr X → GA X → gA X 49 = gA t 49 → pc (m_x12_tries k (v : Int) key val X) (fun o => q21.1 = o.1 ∧ J2 q21.2 o.2)) :
    pc (m_x12_canBe k (v : Int) key val t21) (fun o => q21.1 = o.1 ∧ (q21.1 = 0 → BT q21.2 ts o.2) ∧ (q21.1 ≠ 0 → ∀ a u : Int, R2 a → R2 u → pc (m_finish a u q21.2 ts) (fun w => pc (m_x12_isKept a u o.2) (fun o => BT w.2.1 w.2.2 o ∧ ∀ r, m_x12_writtenMany o = some r → w.1 = r)))) := by
  obtain ⟨N, R, hH⟩ := B.2.2.2 ht
  have FC : F_x12_clearsTouched t t21 := fr_x12_clearsTouched f21
  have R21 := wp_det (w_x12_clearsTouched hRR) f21
  have G21 := GA_clr G0 FC
  obtain ⟨J18, T18, F18, B18, _⟩ := y_begA N R Z (CI_TE hC ht) e18 (t' := t21) (fun k hk => FC.2.1 k (by simp; omega)) (m_clears t21 f21)
  have cI : ∀ i, i = 12 ∨ i = 143 ∨ i = 145 ∨ i = 983 → gI q21.2 i = gI s i := fun i hi => by
    rcases F1 with F1 | F1
    · rw [F1.1 i (by simp; omega), F18.1 i (by simp; omega)]
    · rw [F1.1 i (by simp; omega), F18.1 i (by simp; omega)]
  have cA : ∀ i, i = 2 ∨ i = 8 ∨ i = 9 ∨ i = 10 → gA q21.2 i = gA s i := fun i hi => by
    rcases F1 with F1 | F1
    · rw [F1.2.1 i (by simp; omega), F18.2.1 i (by simp; omega)]
    · rw [F1.2.1 i (by simp; omega), F18.2.1 i (by simp; omega)]
  have C1 : BC s q21.2 54 63 1060 1240 := by
    rcases F1 with F1 | F1
    · exact BC_fr B18 (fun i i1 i2 => F1.2.1 i (by simp; omega)) ⟨F1.1 1240 (by decide), F1.1 1241 (by decide)⟩
    · exact BC_fr B18 (fun i i1 i2 => F1.2.1 i (by simp; omega)) ⟨F1.1 1240 (by decide), F1.1 1241 (by decide)⟩
  intro o eo
  obtain ⟨X, q, AS, eq, w⟩ := m_canBe o eo
  have RX := AS.2.2.2.2 R21
  have GX := GA_ASm G21 AS
  have x49 : gA X 49 = gA t 49 := (AS.1 49 (by decide)).trans (FC.2.1 49 (by decide))
  have JX : J2 s18 X := J2_k J18 (fun _ _ => rfl) rfl rfl rfl rfl (fun i hi => AS.1 i (by omega))
  obtain ⟨c1, c2⟩ := TRYJ X JX RX GX x49 q eq
  have FT : F_x12_tries X q.2 := fr_x12_tries eq
  obtain ⟨Rq, _, KSq, RTq, RWq, _⟩ := wp_det (w_x12_tries RX hk (p1 := (v : Int)) ⟨by omega, by omega⟩ GX.1.1.1 GX.1.2.2.1 GX.1.2.2.2.1 (by have := GX.1.2.1; omega) GX.1.2.1.2 (by rw [Int.toNat_natCast, x49]; exact hrt) hkv h2 h3) eq
  have Gq : GA q.2 := GA_tries (v := v) GX KSq RTq hv (by rw [Int.toNat_natCast] at RWq; exact RWq) (FT.2.1 75 (by decide)) (FT.1 76 (by decide)) (FT.1 77 (by decide))
  have q75 : gA q.2 75 = gA t 75 := (FT.2.1 75 (by decide)).trans ((AS.1 75 (by decide)).trans (FC.2.1 75 (by decide)))
  have q76 : gI q.2 76 = gI t 76 := (FT.1 76 (by decide)).trans ((AS.2.2.1 76).trans (FC.1 76 (by simp)))
  have q77 : gI q.2 77 = gI t 77 := (FT.1 77 (by decide)).trans ((AS.2.2.1 77).trans (FC.1 77 (by simp)))
  have q39 : gA q.2 39 = gA t 39 := (FT.2.1 39 (by decide)).trans ((AS.1 39 (by decide)).trans (FC.2.1 39 (by decide)))
  have q9 : gA q.2 9 = gA t 9 := (FT.2.1 9 (by decide)).trans ((AS.1 9 (by decide)).trans (FC.2.1 9 (by decide)))
  have q78 : gL q.2 78 = gL t 78 := (FT.2.2.1 78 (by simp)).trans ((AS.2.2.2.1 78).trans (FC.2.2.1 78 (by simp)))
  have qk : ∀ i, 785 ≤ i → gA q.2 49 i = gA t 49 i := fun i hi => by rw [KSq.2 i hi, x49]
  rcases w with ⟨w1, w2⟩ | ⟨w1, w2, Y, Zz, SW, eZ, RS⟩
  · rw [w2]
    refine ⟨c1.trans w1, fun _ => ?_, fun z => absurd (c1.trans w1) z⟩
    obtain ⟨N', R'⟩ := R0_J2 c2
    refine ⟨by rw [cI 983 (by omega), q78]; exact B.1, fun i hi => by rw [cA 2 (Or.inl rfl), q9]; exact B.2.1 i hi, fun z => ?_, fun _ => ⟨N', R', HJ_k hH (cI 145 (by omega)) (cI 143 (by omega)) (fun i hi => cA i (by omega)) q76 q77 q75 q39 (fun i i1 _ => qk i i1)⟩⟩
    exfalso
    rw [cI 12 (Or.inl rfl)] at z
    exact ht z
  · have n1 : q21.1 ≠ 0 := fun z => w1 (c1.symm.trans z)
    have o01 : q.1 = 0 ∨ q.1 = 1 := (wp_det (w_x12_tries RX hk (p1 := (v : Int)) ⟨by omega, by omega⟩ GX.1.1.1 GX.1.2.2.1 GX.1.2.2.2.1 (by have := GX.1.2.1; omega) GX.1.2.1.2 (by rw [Int.toNat_natCast, x49]; exact hrt) hkv h2 h3) eq).2.1
    refine ⟨by omega, fun z => absurd z n1, fun _ a u ha hu => ?_⟩
    obtain ⟨y1, y2, y3, y4, y5, y6⟩ := SW
    have RY := y6 Rq
    obtain ⟨RZ, FZ, P1⟩ := m_keeps RY eZ
    obtain ⟨z1, z2, z3, z4, z5⟩ := RS
    have o49 : gA o.2 49 = gA q.2 49 := by
      funext i
      by_cases hi : i < 785
      · rw [z1 i hi, FZ.2.1 61 (by decide), (y1 i hi).2]
      · rw [z2 i (by omega), FZ.2.1 49 (by decide), y2 i (by omega)]
    have oA : ∀ i, i ≠ 49 → i ≠ 61 → i ≠ 75 → gA o.2 i = gA q.2 i := fun i i1 i2 i3 => by rw [z3 i i1, FZ.2.1 i (by simp; omega), y3 i i1 i2]
    have f61 : gA q.2 61 = gA X 61 := FT.2.1 61 (by decide)
    have M2 : ∀ i, i < 906 → gA Y 49 i = gA t 49 i := fun i hi => by
      by_cases h785 : i < 785
      · rw [(y1 i h785).1, f61, AS.2.1 i h785, FC.2.1 49 (by decide)]
      · rw [y2 i (by omega)]; exact qk i (by omega)
    have M1 : PSTm t o.2 (gA Y 49) := by
      obtain ⟨p1, p2, p3, p4⟩ := P1
      have e77 : gI Y 77 = gI t 77 := (y4 77).trans q77
      have e76 : gI Y 76 = gI t 76 := (y4 76).trans q76
      have e75 : gA Y 75 = gA t 75 := (y3 75 (by decide) (by decide)).trans q75
      refine PSTm_k (t := Zz) ⟨by rw [p1, e77], by rw [p2, e76], p3, fun j hj => by rw [p4 j hj, e75]⟩ (z4 77) (z4 76) (z3 75 (by decide))
    have JO : J2 q21.2 o.2 := J2_k c2 (fun _ _ => rfl) rfl rfl rfl rfl (fun i hi => by
      by_cases h49 : i = 49
      · rw [h49]; exact o49
      · exact oA i h49 (by omega) (by omega))
    obtain ⟨Ro, _, GNo, JRo, O16, O785⟩ := wp_det (w_x12_canBe R21 hk (p1 := (v : Int)) ⟨by omega, by omega⟩ G21.1 G21.2.1 G21.2.2.1 G21.2.2.2 (by rw [Int.toNat_natCast, FC.2.1 49 (by decide)]; omega) hkv h2 h3) eo
    exact pc_mono (act_ok hC ht hRR G0 B C1 (fun i hi => cI i (by omega)) cA (by rw [cI 983 (by omega), z5, FZ.2.2.1 78 (by simp), y5, q78]; exact B.1) M1 M2 (fun i i1 _ => by rw [o49]; exact qk i i1) ((oA 39 (by decide) (by decide) (by decide)).trans q39) ((oA 9 (by decide) (by decide) (by decide)).trans q9) JO Ro ⟨GNo, JRo, O16, O785⟩ ha hu) (fun w hw => pc_mono hw (fun o ho => ⟨ho.1, ho.2.1⟩))
theorem s_isKey {p : Int} {s : MS} : pc (m_x11_isKey p s) (fun r => (r = 1 ∧ 0 ≤ p ∧ p ≤ 999) ∨ (r = 0 ∧ ¬ (0 ≤ p ∧ p ≤ 999))) := by
  unfold m_x11_isKey m_x11_isKey_J15 m_x11_isKey_J16
  exact pc_rg (pc_if (fun c => pc_bo (pc_some (Or.inr ⟨rfl, fun w => by omega⟩))) (fun c => pc_rg (pc_if (fun c2 => pc_bo (pc_some (Or.inr ⟨rfl, fun w => by omega⟩))) (fun c2 => pc_bo (pc_some (Or.inl ⟨rfl, by omega, by omega⟩))))))
theorem y_isKey {p : Int} {s t : MS} {r q : Int} (e1 : m_x11_isKey p s = some r) (e2 : m_x12_isIn p 0 999 t = some q) : r = q ∧ (r ≠ 0 → 0 ≤ p ∧ p ≤ 999) := by
  rcases s_isKey r e1 with ⟨a, b⟩ | ⟨a, b⟩ <;> rcases m_isIn q e2 with ⟨c, d⟩ | ⟨c, d⟩
  · exact ⟨a.trans c.symm, fun _ => b⟩
  · exact absurd b d
  · exact absurd d b
  · exact ⟨a.trans c.symm, fun z => absurd a z⟩
/-- PUT -/
theorem y_putA {s t : MS} {ts : List MS} {p0 p1 p2 : Int} (hC : CI s ts) (hRR : Rr t) (hJ : JI t) (B : BT s ts t) (h47 : gI t 47 = gI s 12) (hZ : ZT s t) (h1 : R2 p1) (h2 : R2 p2) : pc (m_x11_put ts p0 p1 p2 s) (fun q => pc (m_x12_put p0 p1 p2 t) (fun o => q.1 = o.1 ∧ BT q.2.1 q.2.2 o.2)) := by
  have V := BT_V B hC h47
  have RF : ∀ q4 : Int × MS, m_x11_refuse 2 s = some q4 → ∀ (Q : Int × MS → Prop), (∀ o4 : Int × MS, m_x12_refuses 2 t = some o4 → (q4.1 = o4.1 ∧ BT q4.2 ts o4.2) → Q o4) → pc (m_x12_put_J33 t) Q := fun q4 e4 Q K => by
    unfold m_x12_put_J33
    exact pc_bn (fun o4 f4 => pc_some (K o4 f4 (BT_rf B (by decide) e4 f4)))
  unfold m_x11_put m_x11_put_J28
  refine pc_bn (fun r6 e6 => pc_rg (pc_if (fun c1 => pc_bn (fun q4 e4 => pc_some ?_)) (fun c1 => pc_bn (fun r10 e10 => pc_rg (pc_if (fun c2 => pc_bn (fun q4 e4 => pc_some ?_)) (fun c2 => pc_bn (fun r14 e14 => pc_rg (pc_if (fun c3 => pc_bn (fun q4 e4 => pc_some ?_)) (fun c3 => pc_bn (fun s18 e18 => pc_bn (fun q21 e21 => ?_)))))))))))
  · unfold m_x12_put
    refine pc_rg (pc_bn (fun r7 f7 => pc_rg (pc_if (fun _ => RF q4 e4 _ (fun o4 _ h => h)) (fun d => absurd ((y_isVol V e6 f7).1.symm.trans c1) d))))
  · unfold m_x12_put
    refine pc_rg (pc_bn (fun r7 f7 => pc_rg (pc_if (fun _ => RF q4 e4 _ (fun o4 _ h => h)) (fun _ => pc_rg (pc_bn (fun r12 f12 => pc_rg (pc_if (fun _ => RF q4 e4 _ (fun o4 _ h => h)) (fun d => absurd ((y_isKey e10 f12).1.symm.trans c2) d))))))))
  · unfold m_x12_put
    refine pc_rg (pc_bn (fun r7 f7 => pc_rg (pc_if (fun _ => RF q4 e4 _ (fun o4 _ h => h)) (fun _ => pc_rg (pc_bn (fun r12 f12 => pc_rg (pc_if (fun _ => RF q4 e4 _ (fun o4 _ h => h)) (fun _ => pc_rg (pc_bn (fun r17 f17 => pc_rg (pc_if (fun _ => RF q4 e4 _ (fun o4 _ h => h)) (fun d => absurd ((y_isKey e14 f17).1.symm.trans c3) d))))))))))))
  -- the act
  have vol := s_isVol r6 e6
  have v0 : (0 ≤ p0 ∧ p0 < 8) ∧ gA s 60 p0.toNat ≠ -2 := by
    rcases vol with ⟨_, a⟩ | ⟨a, _⟩
    · exact a
    · exact absurd a c1
  obtain ⟨v, hv⟩ : ∃ v : Nat, p0 = (v : Int) := ⟨p0.toNat, by omega⟩
  rw [hv] at e21 v0 ⊢
  rw [Int.toNat_natCast] at v0
  have v8 : v < 8 := by omega
  have ht := CI_told hC v8 v0.2
  have t47 : gI t 47 ≠ 0 := by rw [h47]; exact ht
  have G0 := JI_GA hJ t47
  have n255 : gA t 49 v ≠ 255 := fun z => v0.2 ((V v v8).2 (Or.inr z))
  have k1 : 0 ≤ p1 ∧ p1 ≤ 999 := by
    rcases s_isKey r10 e10 with ⟨_, a⟩ | ⟨a, _⟩
    · exact a
    · exact absurd a c2
  have k2 : 0 ≤ p2 ∧ p2 ≤ 999 := by
    rcases s_isKey r14 e14 with ⟨_, a⟩ | ⟨a, _⟩
    · exact a
    · exact absurd a c3
  have TR : ∀ t21 : MS, m_x12_clearsTouched t = some t21 → pc (m_x12_canBe 2 (v : Int) p1 p2 t21) (fun o => q21.1 = o.1 ∧ (q21.1 = 0 → BT q21.2 ts o.2) ∧ (q21.1 ≠ 0 → ∀ a u : Int, R2 a → R2 u → pc (m_finish a u q21.2 ts) (fun w => pc (m_x12_isKept a u o.2) (fun o => BT w.2.1 w.2.2 o ∧ ∀ r, m_x12_writtenMany o = some r → w.1 = r)))) := fun t21 f21 => by
    have T18 := (wp_det (ts_begin (CI_TE hC ht)) e18).1
    exact y_tried hC ht hRR G0 B (hZ ht).1 e18 f21 (Or.inl rfl) v8 (GA_rt G0 v8 n255) (fun _ => ⟨k1, k2⟩) h1 h2 (Or.inl (fr_x1_tryPlant e21)) (fun X JX RX GX x49 => y_plantJ JX T18 RX GX v8 (by rw [x49]; exact n255) k1 k2 q21 e21)
  refine pc_rg (pc_if (fun c4 => pc_bn (fun q30 e30 => pc_some ?_)) (fun c4 => pc_bn (fun q25 e25 => pc_some ?_)))
  · unfold m_x12_put
    refine pc_rg (pc_bn (fun r7 f7 => pc_rg (pc_if (fun d => absurd ((y_isVol V e6 (by rw [hv]; exact f7)).1.trans d) c1) (fun _ => pc_rg (pc_bn (fun r12 f12 => pc_rg (pc_if (fun d => absurd ((y_isKey e10 f12).1.trans d) c2) (fun _ => pc_rg (pc_bn (fun r17 f17 => pc_rg (pc_if (fun d => absurd ((y_isKey e14 f17).1.trans d) c3) (fun _ => pc_bn (fun t21 f21 => pc_bq (TR t21 f21) (fun o24 h24 => pc_rg (pc_if (fun _ => pc_bn (fun o33 f33 => pc_some ?_)) (fun d => absurd (h24.1.symm.trans c4) d))))))))))))))))
    exact BT_rf (h24.2.1 c4) (by decide) e30 f33
  · unfold m_x12_put
    refine pc_rg (pc_bn (fun r7 f7 => pc_rg (pc_if (fun d => absurd ((y_isVol V e6 (by rw [hv]; exact f7)).1.trans d) c1) (fun _ => pc_rg (pc_bn (fun r12 f12 => pc_rg (pc_if (fun d => absurd ((y_isKey e10 f12).1.trans d) c2) (fun _ => pc_rg (pc_bn (fun r17 f17 => pc_rg (pc_if (fun d => absurd ((y_isKey e14 f17).1.trans d) c3) (fun _ => pc_bn (fun t21 f21 => pc_bq (TR t21 f21) (fun o24 h24 => pc_rg (pc_if (fun d => absurd (h24.1.trans d) c4) (fun _ => pc_bn (fun s28 f28 => pc_bn (fun r30 f30 => pc_some ?_))))))))))))))))))
    have K := h24.2.2 c4 0 (v : Int) (by decide) ⟨by omega, by omega⟩ q25 e25 s28 f28
    exact ⟨K.2 r30 f30, K.1⟩
/-- REMOVE -/
theorem y_removeA {s t : MS} {ts : List MS} {p0 p1 : Int} (hC : CI s ts) (hRR : Rr t) (hJ : JI t) (B : BT s ts t) (h47 : gI t 47 = gI s 12) (hZ : ZT s t) (h1 : R2 p1) : pc (m_x11_remove ts p0 p1 s) (fun q => pc (m_x12_remove p0 p1 t) (fun o => q.1 = o.1 ∧ BT q.2.1 q.2.2 o.2)) := by
  have V := BT_V B hC h47
  unfold m_x11_remove
  refine pc_bn (fun r6 e6 => pc_rg (pc_if (fun c1 => pc_bn (fun q4 e4 => pc_some ?_)) (fun c1 => pc_bn (fun s18 e18 => pc_bn (fun q21 e21 => ?_)))))
  · unfold m_x12_remove
    exact pc_rg (pc_bn (fun r7 f7 => pc_rg (pc_if (fun _ => pc_bn (fun o4 f4 => pc_some (BT_rf B (by decide) e4 f4))) (fun d => absurd ((y_isVol V e6 f7).1.symm.trans c1) d))))
  have v0 : (0 ≤ p0 ∧ p0 < 8) ∧ gA s 60 p0.toNat ≠ -2 := by
    rcases s_isVol r6 e6 with ⟨_, a⟩ | ⟨a, _⟩
    · exact a
    · exact absurd a c1
  obtain ⟨v, hv⟩ : ∃ v : Nat, p0 = (v : Int) := ⟨p0.toNat, by omega⟩
  rw [hv] at e21 v0 ⊢
  rw [Int.toNat_natCast] at v0
  have v8 : v < 8 := by omega
  have ht := CI_told hC v8 v0.2
  have t47 : gI t 47 ≠ 0 := by rw [h47]; exact ht
  have G0 := JI_GA hJ t47
  have n255 : gA t 49 v ≠ 255 := fun z => v0.2 ((V v v8).2 (Or.inr z))
  have TR : ∀ t21 : MS, m_x12_clearsTouched t = some t21 → pc (m_x12_canBe 3 (v : Int) p1 0 t21) (fun o => q21.1 = o.1 ∧ (q21.1 = 0 → BT q21.2 ts o.2) ∧ (q21.1 ≠ 0 → ∀ a u : Int, R2 a → R2 u → pc (m_finish a u q21.2 ts) (fun w => pc (m_x12_isKept a u o.2) (fun o => BT w.2.1 w.2.2 o ∧ ∀ r, m_x12_writtenMany o = some r → w.1 = r)))) := fun t21 f21 => by
    have T18 := (wp_det (ts_begin (CI_TE hC ht)) e18).1
    exact y_tried hC ht hRR G0 B (hZ ht).1 e18 f21 (Or.inr rfl) v8 (GA_rt G0 v8 n255) (fun z => absurd z (by decide)) h1 (by decide) (Or.inr (fr_x1_tryUproot e21)) (fun X JX RX GX x49 => y_uprootJ JX T18 RX GX v8 h1 q21 e21)
  refine pc_rg (pc_if (fun c4 => pc_bn (fun q30 e30 => pc_some ?_)) (fun c4 => pc_bn (fun q25 e25 => pc_some ?_)))
  · unfold m_x12_remove
    refine pc_rg (pc_bn (fun r7 f7 => pc_rg (pc_if (fun d => absurd ((y_isVol V e6 (by rw [hv]; exact f7)).1.trans d) c1) (fun _ => pc_bn (fun t21 f21 => pc_bq (TR t21 f21) (fun o24 h24 => pc_rg (pc_if (fun _ => pc_bn (fun o33 f33 => pc_some ?_)) (fun d => absurd (h24.1.symm.trans c4) d))))))))
    exact BT_rf (h24.2.1 c4) (by decide) e30 f33
  · unfold m_x12_remove
    refine pc_rg (pc_bn (fun r7 f7 => pc_rg (pc_if (fun d => absurd ((y_isVol V e6 (by rw [hv]; exact f7)).1.trans d) c1) (fun _ => pc_bn (fun t21 f21 => pc_bq (TR t21 f21) (fun o24 h24 => pc_rg (pc_if (fun d => absurd (h24.1.trans d) c4) (fun _ => pc_bn (fun s28 f28 => pc_bn (fun r30 f30 => pc_some ?_))))))))))
    have K := h24.2.2 c4 1 (v : Int) (by decide) ⟨by omega, by omega⟩ q25 e25 s28 f28
    exact ⟨K.2 r30 f30, K.1⟩
