/-! ===== to remove, on both sides: the way back up ===== -/
theorem TM_z {t : MS} {D : Nat → Int} {e : Int} (T : TM t D e) {x : Nat} (hx : x < 48) (hl : LV t x) : Nd (hM t) (gA t 39 5) x := by
  rcases hl with hc | hc
  · exact TG_nd T hx hc
  · exact TG_nd (TG_ss T) hx hc
/-- keys rise in what is in use -/
theorem OI_SOk {t : MS} {lo hi D : Nat → Int} {e : Int} (H : OI t lo hi) (T : TM t D e) (hD : ∀ x, x < 48 → 0 ≤ D x) {x : Nat} (hx : x < 48) (hc : 0 < cM t x) : SO (kM t x) 1 ((hM t).2.1 x) := by
  have hN := T.1.1
  by_cases w : 0 < (hM t).1 x
  · refine SO_step (fun k k1 k2 => ?_)
    have c := (H x hx (Or.inl hc)).2.2 w k (by omega)
    have kid := TG_kid T hD hx hc w (k := k) (by omega)
    have y := (H _ (by omega) (Or.inl kid.2.2)).1
    have c1 := c.2.1 k1
    have c2 := c.2.2 k2
    omega
  · have q := ((H x hx (Or.inl hc)).2.1 (by omega)).1
    exact fun i j _ hij hj => q i j (Nat.zero_le _) hij hj
/-- an entry goes -/
theorem OI_del {t o : MS} {lo hi : Nat → Int} {b k : Nat} (H : OI t lo hi) (hb : b < 48) (lb : LV t b) (hs : SO (kM t b) 1 ((hM t).2.1 b)) (hk : (k : Int) < (hM t).2.1 b) (I : DelE t o b k) : OI o lo hi := fun x hx hl => by
  obtain ⟨B, z, i1, i3⟩ := I
  have hl' : LV t x := by
    unfold LV at hl ⊢
    rw [← BX_c B, ← BX_v B]; exact hl
  by_cases e : x = b
  · rw [e]
    have c := H b hb lb
    refine ⟨c.1, fun w => ?_, fun w j hj => ?_⟩
    · rw [BX_l B] at w
      have c2 := c.2.1 w
      rw [z]
      refine ⟨SO_step (fun j _ hj => ?_), fun j hj => ?_⟩
      · by_cases g : j + 1 < k
        · rw [(i1 j (by omega)).2, (i1 (j + 1) g).2]
          exact c2.1 j (j + 1) (Nat.zero_le _) (by omega) (by omega)
        · by_cases g2 : j < k
          · rw [(i1 j g2).2, (i3 (j + 1) (by omega) (by omega)).2]
            exact c2.1 j (j + 1 + 1) (Nat.zero_le _) (by omega) (by omega)
          · rw [(i3 j (by omega) (by omega)).2, (i3 (j + 1) (by omega) (by omega)).2]
            exact c2.1 (j + 1) (j + 1 + 1) (Nat.zero_le _) (by omega) (by omega)
      · by_cases g : j < k
        · rw [(i1 j g).2]; exact c2.2 j (by omega)
        · rw [(i3 j (by omega) (by omega)).2]; exact c2.2 (j + 1) (by omega)
    · rw [BX_l B] at w
      rw [z] at hj ⊢
      have c2 := c.2.2 w
      by_cases g : j + 1 < k
      · rw [(i1 j (by omega)).1, (i1 j (by omega)).2, (i1 (j + 1) g).2]
        have q := c2 j (by omega)
        exact ⟨q.1, q.2.1, fun _ => q.2.2 (by omega)⟩
      · by_cases g2 : j < k
        · rw [(i1 j g2).1, (i1 j g2).2]
          have q := c2 j (by omega)
          refine ⟨q.1, q.2.1, fun u => ?_⟩
          rw [(i3 (j + 1) (by omega) (by omega)).2]
          have q2 := q.2.2 (by omega)
          have r := hs (j + 1) (j + 1 + 1) (by omega) (by omega) (by omega)
          omega
        · rw [(i3 j (by omega) (by omega)).1, (i3 j (by omega) (by omega)).2]
          have q := c2 (j + 1) (by omega)
          refine ⟨q.1, fun _ => q.2.1 (by omega), fun u => ?_⟩
          rw [(i3 (j + 1) (by omega) (by omega)).2]
          exact q.2.2 (by omega)
  · exact OBk_r (H x hx hl') (ROW_bx B e) ⟨Int.le_refl _, Int.le_refl _⟩ (fun _ _ _ => ⟨Int.le_refl _, Int.le_refl _⟩)
/-- rows stay, who stands stood -/
theorem OI_h {t o : MS} {lo hi : Nat → Int} (H : OI t lo hi) (e1 : hM o = hM t) (e2 : kM o = kM t) (l : ∀ x, x < 48 → LV o x → LV t x) : OI o lo hi := OI_same H (fun x hx hl => ⟨l x hx hl, Or.inl ⟨by rw [e1], by rw [e1], fun k => by rw [e1, e2]; exact ⟨rfl, rfl⟩⟩⟩)
/-- a count falls to none on both sides -/
theorem sim_kill {π σ : Nat → Nat} {s s' t t' : MS} {b : Nat} (h : SIM π σ s t) (hb : b < 48) (a : ∀ k, 55 ≤ k → k ≤ 61 → gA s' k = gA s k) (a54 : gA s' 54 = upZ (gA s 54) (π b) 0) (a2 : gI s' 1060 = gI s 1060) (a3 : gL s' 1062 = gL s 1062) (X : CX t t') (c : cM t' = upZ (cM t) b 0) (b2 : gA t' 39 5 = gA t 39 5) (b3 : gA t' 54 = gA t 54) : SIM π σ s' t' := by
  have hP := h.1.1
  have nb : hN s' = hN s := by
    unfold hN
    rw [a 56 (by decide) (by decide), a 57 (by decide) (by decide), a 59 (by decide) (by decide)]
  have kb : kN s' = kN s := by
    unfold kN
    rw [a 58 (by decide) (by decide)]
  refine ⟨⟨by rw [a2]; exact hP, fun x hx => ?_, fun x hx q => ?_, fun v hv => ?_⟩, by rw [a2, b2]; exact h.2.1, fun x hx q => ?_⟩
  · show gA s' 54 (π x) = cM t' x ∧ gA s' 55 (π x) = vM t' x
    rw [a54, a 55 (by decide) (by decide), c, CX_v X]
    refine ⟨?_, (sim_c h hx).2⟩
    by_cases z : x = b
    · rw [z, upZ_s, upZ_s]
    · rw [upZ_n z, upZ_n (fun w => z (PB_i hP hx hb w))]
      exact (sim_c h hx).1
  · show BR1 π (hN s') (hM t') (kN s') (kM t') x
    rw [nb, kb, CX_h X, CX_k X]
    have q' : 0 < cM t' x ∨ 0 < vM t' x := q
    rw [c, CX_v X] at q'
    refine sim_b h hx ?_
    rcases q' with w | w
    · by_cases z : x = b
      · rw [z, upZ_s] at w; exact absurd w (by decide)
      · rw [upZ_n z] at w; exact Or.inl w
    · exact Or.inr w
  · show rtr π (gA s' 60 v) (gA t' 49 v) ∧ rtr π (gA s' 61 v) (gA t' 49 (8 + v))
    rw [a 60 (by decide) (by decide), a 61 (by decide) (by decide), CX_u X (show v < 17 by omega), CX_u X (show 8 + v < 17 by omega)]
    exact h.1.2.2.2 v hv
  · have q' : 0 < cM t' x := q
    rw [c] at q'
    rw [a3, b3]
    have z : x ≠ b := fun z => by rw [z, upZ_s] at q'; omega
    rw [upZ_n z] at q'
    exact h.2.2 x hx q'
/-- an empty BLOCK goes, and the entry to it: the reference's trees -/
theorem r_prune {S s25 s29 : MS} {v b i : Nat} {M : Nat → Nat → Int} {L : Int} (hv : v < 8) (hRS : Rr S) (TS : TM S d0 (b : Int)) (PS : PM S v M d0 (b : Int)) (hO : OB_r S v M (b : Int) (L - (i : Int))) (hY : WY S v M L (b : Int) (i : Int)) (hz : (hM S).2.1 b = 0) (hi : 0 < i) (e25 : m_x12_counts (b : Int) (-1) S = some s25) (e29 : m_x12_cutsEntry (gA s25 57 (i - 1)) (gA s25 58 (i - 1)) s25 = some s29) : ((Rr s25 ∧ F_x12_counts S s25) ∧ CX S s25 ∧ cM s25 = upZ (cM S) b 0) ∧ (Rr s29 ∧ F_x12_cutsEntry s25 s29 ∧ DelE s25 s29 (gA S 57 (i - 1)).toNat (gA S 58 (i - 1)).toNat) ∧ ∃ M', TM s29 d0 (gA S 57 (i - 1)) ∧ PM s29 v M' d0 (gA S 57 (i - 1)) ∧ OB_r s29 v M' (gA S 57 (i - 1)) (L - ((i - 1 : Nat) : Int)) ∧ WY s29 v M' L (gA S 57 (i - 1)) ((i - 1 : Nat) : Int) := by
  have tb : ((b : Nat) : Int).toNat = b := Int.toNat_natCast _
  obtain ⟨⟨hb, bc, bv⟩, bl, bm, bmu⟩ := hO
  try rw [tb] at bc
  try rw [tb] at bv
  try rw [tb] at bl
  try rw [tb] at bm
  try rw [tb] at bmu
  have b48 : b < 48 := by omega
  have W25 := wp_det (w_x12_counts hRS (p0 := (b : Int)) (p1 := -1) hb (by rw [tb]; omega) (by omega)) e25
  try rw [tb] at W25
  obtain ⟨hR25, u25⟩ := W25
  obtain ⟨x25, c25⟩ := M_cnt b48 u25
  have F25 : F_x12_counts S s25 := fr_x12_counts e25
  have c25' : cM s25 = upZ (cM S) b 0 := by rw [c25, bc]; rfl
  obtain ⟨T1, P1⟩ := MT_kill (b := b) TS PS (by omega) b48 bc bm hz x25 c25' (F25.2.1 39 (by decide))
  have a57 : gA s25 57 = gA S 57 := F25.2.1 57 (by decide)
  have a58 : gA s25 58 = gA S 58 := F25.2.1 58 (by decide)
  have U1 : UP S s25 v M (upM M v (upZ (M v) b 0)) (L - (i : Int)) := fun x hx hc hlx => by
    have ne : x ≠ b := fun z => by rw [z] at hlx; omega
    refine ⟨⟨by rw [c25', upZ_n ne], by rw [CX_v x25], by rw [CX_h x25], by rw [CX_h x25], fun k _ => by rw [CX_h x25]⟩, fun u => ?_⟩
    by_cases z : u = v
    · rw [z, upM_s, upZ_n ne]
    · rw [upM_n z]
  have Y1 := WY_up hY (T_6 TS) a57 a58 (CX_u x25 (by omega)) U1 (Int.le_refl _)
  have yl := Y1.1 (i - 1) (by omega)
  rw [if_pos (by omega), a57, a58] at yl
  rw [a57, a58] at e29
  obtain ⟨y, hy⟩ : ∃ y, y = gA S 57 (i - 1) := ⟨_, rfl⟩
  obtain ⟨k, hk⟩ : ∃ k, k = gA S 58 (i - 1) := ⟨_, rfl⟩
  rw [← hy, ← hk] at yl e29 ⊢
  obtain ⟨yo, yk, ye⟩ := yl
  obtain ⟨⟨ya, yc, yv⟩, yL, ym, ymu⟩ := yo
  have y48 : y.toNat < 48 := by omega
  have n6 := T_6 T1 y.toNat y48 yc
  obtain ⟨hR29, F29, k', k1, k2, D29⟩ := wp_det (w_x12_cutsEntry hR25 ya (by omega) (by omega)) e29
  have kk : k' = k.toNat := k2 (by omega)
  rw [kk] at D29
  obtain ⟨T2, P2⟩ := MT_del (b := y.toNat) (k := k.toNat) T1 P1 D29 (F29.2.1 39 (by decide)) (by omega) y48 (by omega) (by omega) (by omega) (fun u hu hn => by rw [ymu u hu hn]; omega) (by omega)
  have dd : ∀ x : Nat, x < 48 → d0 x = 0 - dq b x + (if 0 < (hM s25).1 y.toNat ∧ (hM s25).2.2 y.toNat k.toNat = (x : Int) then 1 else 0) := fun x hx => by
    show (0 : Int) = _
    rw [ye]
    have lp : 0 < (hM s25).1 y.toNat := by
      have := (TG_nd TS b48 (by omega)).1
      omega
    by_cases z : (b : Int) = (x : Int)
    · rw [if_pos ⟨lp, z⟩]; unfold dq; rw [if_pos (by omega)]; omega
    · rw [if_neg (fun w => z w.2)]; unfold dq; rw [if_neg (by omega)]; omega
  have iB := D29.1
  have T3 : TM s29 d0 y := by
    have := TG_D T2 dd
    rw [show ((y.toNat : Nat) : Int) = y by omega] at this
    exact this
  have P3 : PM s29 v (upM M v (upZ (M v) b 0)) d0 y := by
    have := PM_D P2 dd
    rw [show ((y.toNat : Nat) : Int) = y by omega] at this
    exact this
  have Y2 : WY s25 v (upM M v (upZ (M v) b 0)) L y ((i - 1 : Nat) : Int) := by
    refine ⟨fun j hj => ?_, ?_⟩
    · obtain ⟨q1, q2, q3⟩ := Y1.1 j (by omega)
      refine ⟨q1, q2, ?_⟩
      rw [if_neg (by omega)] at q3
      rw [q3]
      by_cases w : (j : Int) + 1 = ((i - 1 : Nat) : Int)
      · rw [if_pos w, show j + 1 = i - 1 by omega, a57]; exact hy.symm
      · rw [if_neg w]
    · rw [Y1.2, if_neg (by omega)]
      by_cases w : ((i - 1 : Nat) : Int) = 0
      · rw [if_pos w, show (0 : Nat) = i - 1 by omega, a57]; exact hy.symm
      · rw [if_neg w]
  have U2 : UP s25 s29 v (upM M v (upZ (M v) b 0)) (upM M v (upZ (M v) b 0)) (L - ((i - 1 : Nat) : Int)) := UP_BX iB (by omega)
  have Y3 := WY_up Y2 (T_6 T1) (F29.2.1 57 (by decide)) (F29.2.1 58 (by decide)) (BX_u iB (by omega)) U2 (Int.le_refl _)
  exact ⟨⟨⟨hR25, F25⟩, x25, c25'⟩, ⟨hR29, F29, D29⟩, _, T3, P3, ⟨⟨ya, by rw [BX_c iB]; exact yc, by rw [BX_v iB]; exact yv⟩, by rw [BX_l iB, yL], ym, ymu⟩, Y3⟩
theorem s_prEnd {v x : Int} {S : MS} (hx : x < 0) : ∀ n, pc (m_x1_prune_L98 n v x S) (fun o => o = S) := by
  intro n
  cases n with
  | zero => exact pc_none
  | succ n =>
    show pc (m_x1_prune_b98 (m_x1_prune_L98 n) v x S) _
    unfold m_x1_prune_b98 m_x1_prune_J186
    exact pc_rg (pc_if (fun _ => pc_some rfl) (fun c => absurd hx c))
theorem s_lowE {v : Nat} {S : MS} (hr : gA S 60 v = -1) : pc (m_x1_lowerRoot (v : Int) S) (fun o => o = S) := by
  have tv : ((v : Nat) : Int).toNat = v := Int.toNat_natCast _
  have L : ∀ n, pc (m_x1_lowerRoot_L2 n (v : Int) 0 S) (fun o => o = S) := fun n => by
    cases n with
    | zero => exact pc_none
    | succ n =>
      show pc (m_x1_lowerRoot_b2 (m_x1_lowerRoot_L2 n) (v : Int) 0 S) _
      unfold m_x1_lowerRoot_b2 m_x1_lowerRoot_J48
      refine pc_rg (pc_if (fun _ => pc_some rfl) (fun _ => pc_rdI (fun _ => ?_)))
      rw [tv, hr]
      exact pc_rg (pc_if (fun _ => pc_some rfl) (fun c => absurd rfl c))
  unfold m_x1_lowerRoot
  exact L FU
/-- both sides on the way back up -/
def PRJ (t0 : MS) (v : Nat) (L : Int) (π σ : Nat → Nat) (lo hi : Nat → Int) (b i : Nat) (S T : MS) : Prop := SIM π σ S T ∧ (Rg S ∧ Rr T) ∧ KS t0 T ∧ (gI T 55 = 0 ∧ RWn t0 T v ∧ i ≤ 47) ∧ (∃ M, TM T d0 (b : Int) ∧ PM T v M d0 (b : Int) ∧ OB_r T v M (b : Int) (L - (i : Int)) ∧ WY T v M L (b : Int) (i : Int)) ∧ (gA S 50 i = (π b : Int) ∧ ∀ j, j < i → gA S 50 j = (π (gA T 57 j).toNat : Int) ∧ gA S 51 j = gA T 58 j) ∧ OI T lo hi
set_option maxHeartbeats 4000000 in
theorem y_prune_L {s0 t0 : MS} {v : Nat} {L : Int} {π σ : Nat → Nat} {lo hj : Nat → Int} (hv : v < 8) : ∀ (n m i b : Nat) (S T : MS), PRJ t0 v L π σ lo hj b i S T → pc (m_x1_prune_L98 n (v : Int) (i : Int) S) (fun s11 => ∀ s13, Rg s11 → TS s11 Z0 (-1) → RV s0 s11 v → m_x1_lowerRoot (v : Int) s11 = some s13 → pc (m_x12_removes_L137 m (v : Int) (b : Int) (i : Int) T) (fun t' => SIM π σ s13 t' ∧ OI t' lo hj ∧ gI t' 55 = 0)) := by
  have tv : ((v : Nat) : Int).toNat = v := Int.toNat_natCast _
  refine fr_ind (fun _ _ _ _ _ _ => pc_none) (fun n ih m i b S T G => ?_)
  cases m with
  | zero => exact fun q _ s13 _ _ _ _ => pc_none
  | succ m =>
    obtain ⟨h, ⟨hR, hRt⟩, hKS, ⟨h55, hW, hi⟩, ⟨M, TT, P, hO, hY⟩, ⟨c50, cj⟩, hOI⟩ := G
    have hO0 := hO
    obtain ⟨⟨hb, bc, bv⟩, bl, bm, bmu⟩ := hO
    have tb : ((b : Nat) : Int).toNat = b := Int.toNat_natCast _
    have ti : ((i : Nat) : Int).toNat = i := Int.toNat_natCast _
    try rw [tb] at bc
    try rw [tb] at bv
    try rw [tb] at bl
    try rw [tb] at bm
    try rw [tb] at bmu
    have b48 : b < 48 := by omega
    have lb : LV T b := Or.inl (by omega)
    have hP := h.1.1
    have pb48 := (hP b b48).1.1
    have tp : ((π b : Nat) : Int).toNat = π b := Int.toNat_natCast _
    have Bb := sim_b h b48 lb
    have z57 : gA S 57 (π b) = (hM T).2.1 b := Bb.2.1
    have nb := (TM_z TT b48 lb).2.1
    -- the reference's step
    have REF : ∀ Q : MS → Prop, ((hM T).2.1 b ≠ 0 → pc (m_x12_lowers (v : Int) T) Q) → ((hM T).2.1 b = 0 → i = 0 → ∀ s11 s13 : MS, m_x12_counts (b : Int) (-1) T = some s11 → sA s11 49 (upZ (gA s11 49) v 254) = s13 → Q s13) → ((hM T).2.1 b = 0 → 0 < i → ∀ s25 s29 : MS, m_x12_counts (b : Int) (-1) T = some s25 → m_x12_cutsEntry (gA s25 57 (i - 1)) (gA s25 58 (i - 1)) s25 = some s29 → pc (m_x12_removes_L137 m (v : Int) (gA s25 57 (i - 1)) ((i : Int) + (-1)) s29) Q) → pc (m_x12_removes_L137 (m + 1) (v : Int) (b : Int) (i : Int) T) Q := fun Q K1 K2 K3 => by
      show pc (m_x12_removes_b137 (m_x12_removes_L137 m) (v : Int) (b : Int) (i : Int) T) Q
      have J : ((hM T).2.1 b = 0 → i = 0) → pc (m_x12_removes_J182 (v : Int) (b : Int) T) Q := fun w => by
        unfold m_x12_removes_J182
        refine pc_bq (m_ents (by omega)) (fun r5 h5 => ?_)
        try rw [tb] at h5
        rw [h5]
        refine pc_rg (pc_if (fun c => pc_bn (fun s11 e11 => pc_inb (pc_stn (fun s13 e13 => pc_some ?_)))) (fun c => pc_bn (fun s9 e9 => pc_some (K1 c s9 e9))))
        try rw [tv] at e13
        exact K2 c (w c) s11 s13 e11 e13
      unfold m_x12_removes_b137
      refine pc_bq (m_ents (by omega)) (fun r19 h19 => ?_)
      try rw [tb] at h19
      rw [h19]
      refine pc_rg (pc_if (fun c => pc_rg (pc_if (fun c2 => J (fun _ => by omega)) (fun c2 => pc_bn (fun s25 e25 => pc_rdI (fun _ => pc_rdI (fun _ => ?_)))))) (fun c => J (fun z => absurd z c)))
      rw [show ((i : Int) + (-1)).toNat = i - 1 by omega]
      exact pc_bn (fun s29 e29 => K3 c (by omega) s25 s29 e25 e29)
    show pc (m_x1_prune_b98 (m_x1_prune_L98 n) (v : Int) (i : Int) S) _
    unfold m_x1_prune_b98 m_x1_prune_J186 m_x1_prune_J180
    refine pc_rg (pc_if (fun c => absurd c (by omega)) (fun _ => pc_rdI (fun _ => ?_)))
    rw [ti, c50]
    refine pc_rdI (fun _ => ?_)
    rw [tp, z57]
    refine pc_rg (pc_if (fun c => ?_) (fun c => pc_some (fun s13 hR11 T11 V11 e13 => ?_)))
    · refine pc_rdI (fun _ => ?_)
      rw [ti, c50]
      refine pc_inb (pc_stn (fun s16 e16 => ?_))
      try rw [tp] at e16
      have g54 : gA s16 54 = upZ (gA S 54) (π b) 0 := q_AA e16
      have kk : ∀ k, k ≠ 54 → gA s16 k = gA S k := fun k hk => q_Aa e16 hk
      have hR16 : Rg s16 := e16 ▸ Rg.uAu hR (by show (-1 : Int) ≤ 0 ∧ (0 : Int) ≤ 100000; omega)
      have KILL : ∀ s25 : MS, m_x12_counts (b : Int) (-1) T = some s25 → Rr s25 ∧ F_x12_counts T s25 ∧ CX T s25 ∧ cM s25 = upZ (cM T) b 0 ∧ SIM π σ s16 s25 := fun s25 e25 => by
        have W25 := wp_det (w_x12_counts hRt (p0 := (b : Int)) (p1 := -1) hb (by rw [tb]; omega) (by omega)) e25
        try rw [tb] at W25
        obtain ⟨hR25, u25⟩ := W25
        obtain ⟨x25, c25⟩ := M_cnt b48 u25
        have F25 : F_x12_counts T s25 := fr_x12_counts e25
        have c25' : cM s25 = upZ (cM T) b 0 := by rw [c25, bc]; rfl
        exact ⟨hR25, F25, x25, c25', sim_kill h b48 (fun k k1 k2 => kk k (by omega)) g54 (q_Ai e16) (q_Al e16) x25 c25' (by rw [F25.2.1 39 (by decide)]) (F25.2.1 54 (by decide))⟩
      have LVk : ∀ X : MS, CX T X → cM X = upZ (cM T) b 0 → ∀ x, x < 48 → LV X x → LV T x := fun X x1 x2 x hx hl => by
        unfold LV at hl ⊢
        rw [x2, CX_v x1] at hl
        rcases hl with w | w
        · by_cases z : x = b
          · rw [z]; exact lb
          · rw [upZ_n z] at w; exact Or.inl w
        · exact Or.inr w
      refine pc_rg (pc_if (fun c3 => ?_) (fun c3 => ?_))
      · refine pc_inb (pc_stn (fun s20 e20 => ?_))
        try rw [tv] at e20
        refine pc_mono (s_prEnd (by omega) n) (fun o ho => ?_)
        subst ho
        intro s13 hR11 T11 V11 e13
        have u60 : gA o 60 = upZ (gA s16 60) v (-1) := q_AA e20
        have e := s_lowE (v := v) (S := o) (by rw [u60, upZ_s]) s13 e13
        refine REF _ (fun z => absurd c z) (fun _ _ u11 u13 f11 f13 => ?_) (fun _ z => absurd z (by omega))
        obtain ⟨k1, k2, k3, k4, k5⟩ := KILL u11 f11
        have v49 : gA u13 49 = upZ (gA u11 49) v 254 := q_AA f13
        obtain ⟨⟨m1, m2⟩, ⟨m3, m4⟩, _⟩ := M_root hv v49
        rw [e]
        refine ⟨sim_root k5 hv (fun k _ _ z => q_Aa e20 z) u60 (q_Ai e20) (q_Al e20) v49 (by rw [(q_Aa f13 (by decide) : gA u13 39 = gA u11 39)]) (q_Aa f13 (by decide)) (Or.inl ⟨rfl, rfl⟩), OI_h hOI (m1.trans (CX_h k3)) (m2.trans (CX_k k3)) (fun x hx hl => LVk u11 k3 k4 x hx ?_), (q_Ai f13).trans ((k2.1 55 (by decide)).trans h55)⟩
        unfold LV at hl ⊢
        rw [← m3, ← m4]; exact hl
      · obtain ⟨cj1, cj2⟩ := cj (i - 1) (by omega)
        refine pc_rdI (fun _ => pc_rdI (fun _ => ?_))
        rw [show ((i : Int) - 1).toNat = i - 1 by omega, kk 50 (by decide), kk 51 (by decide), cj1, cj2]
        refine pc_bn (fun s24 e24 => ?_)
        intro s11 e11 s13 hR11 T11 V11 e13
        refine REF _ (fun z => absurd c z) (fun _ z => absurd z (by omega)) (fun _ _ s25 s29 e25 e29 => ?_)
        obtain ⟨_, _, _, _, K5⟩ := KILL s25 e25
        obtain ⟨⟨⟨hR25, F25⟩, x25, c25⟩, ⟨hR29, F29, D29⟩, M', T3, P3, O3, Y3⟩ := r_prune hv hRt TT P hO0 hY c (by omega) e25 e29
        obtain ⟨yo, yk, ye⟩ := hY.1 (i - 1) (by omega)
        have a57 : gA s25 57 = gA T 57 := F25.2.1 57 (by decide)
        have a58 : gA s25 58 = gA T 58 := F25.2.1 58 (by decide)
        rw [a57, a58] at e29
        rw [a57]
        have r57 := yo.1.1
        obtain ⟨a, ha⟩ : ∃ a, a = (gA T 57 (i - 1)).toNat := ⟨_, rfl⟩
        have ai : gA T 57 (i - 1) = (a : Int) := by omega
        have ta : ((a : Nat) : Int).toNat = a := Int.toNat_natCast _
        rw [ai] at e29 T3 P3 O3 Y3 D29 yo yk ye ⊢
        try rw [← ha] at e24
        try rw [ta] at e24
        try rw [ta] at D29
        try rw [ta] at yk
        try rw [ta] at ye
        have a48 : a < 48 := by omega
        have yc := yo.1.2.1
        have yl := yo.2.1
        try rw [ta] at yc
        try rw [ta] at yl
        have nab : a ≠ b := fun z => by rw [z] at yl; omega
        have la25 : LV s25 a := Or.inl (by rw [c25, upZ_n nab]; omega)
        have K25 : ∀ x, x < 48 → LV s25 x → 0 ≤ (hM s25).2.1 x ∧ (hM s25).2.1 x ≤ 6 := fun x hx hl => by
          rw [CX_h x25]; exact (TM_z TT hx (LVk s25 x25 c25 x hx hl)).2.1
        have za : (hM s25).2.1 a = (hM T).2.1 a := by rw [CX_h x25]
        obtain ⟨H29, B29, Z29⟩ := y_del K5 K25 hR16 hR25 a48 la25 (p1 := gA T 58 (i - 1)) (by rw [za]; exact yk) e24 e29
        have pa48 := (hP a a48).1.1
        have tpa : ((π a : Nat) : Int).toNat = π a := Int.toNat_natCast _
        have z16 : gA s16 57 (π a) = (hM T).2.1 a := by
          have q : gA s16 57 (π a) = (hM s25).2.1 a := (sim_b K5 a48 la25).2.1
          rw [q, za]
        have n6 := K25 a a48 la25
        have hR24 := (wp_det (w_x8_delete hR16 (p0 := (π a : Int)) (p1 := gA T 58 (i - 1)) ⟨by omega, by omega⟩ ⟨yk.1, by rw [tpa, z16]; exact yk.2, by rw [tpa, z16, ← za]; exact n6.2⟩) e24).1
        have F24 : F_x8_delete s16 s24 := fr_x8_delete e24
        have so : SO (kM s25 a) 1 ((hM s25).2.1 a) := by
          rw [CX_h x25, CX_k x25]
          exact OI_SOk hOI TT (fun _ _ => Int.le_refl 0) a48 (by omega)
        have O25 : OI s25 lo hj := OI_h hOI (CX_h x25) (CX_k x25) (LVk s25 x25 c25)
        have O29 : OI s29 lo hj := OI_del O25 a48 la25 so (by rw [za]; omega) D29
        have K29 : KS t0 s29 := KS_t hKS ⟨⟨(F29.2.1 39 (by decide)).trans (F25.2.1 39 (by decide)), (F29.2.1 42 (by decide)).trans (F25.2.1 42 (by decide)), (F29.2.1 43 (by decide)).trans (F25.2.1 43 (by decide)), (F29.2.1 44 (by decide)).trans (F25.2.1 44 (by decide))⟩, fun j hj' => by rw [BX_k B29 a48 hj', CX_n x25 hj']⟩
        have ei : (i : Int) + (-1) = ((i - 1 : Nat) : Int) := by omega
        rw [ei] at e11 ⊢
        have c24 : ∀ j, gA s24 50 j = gA S 50 j := fun j => by rw [F24.2.1 50 (by decide), kk 50 (by decide)]
        have d24 : ∀ j, gA s24 51 j = gA S 51 j := fun j => by rw [F24.2.1 51 (by decide), kk 51 (by decide)]
        have f57 : gA s29 57 = gA T 57 := (F29.2.1 57 (by decide)).trans a57
        have f58 : gA s29 58 = gA T 58 := (F29.2.1 58 (by decide)).trans a58
        refine ih m (i - 1) a s24 s29 ⟨H29, ⟨hR24, hR29⟩, K29, ⟨(F29.1 55 (by decide)).trans ((F25.1 55 (by decide)).trans h55), ⟨fun u hu hn => by rw [BX_u B29 hu, CX_u x25 hu]; exact hW.1 u hu hn, by rw [BX_u B29 (by omega), CX_u x25 (by omega)]; exact hW.2⟩, by omega⟩, ⟨M', T3, P3, O3, Y3⟩, ⟨by rw [c24, cj1, ai, ta], fun j hj' => by rw [c24, d24, f57, f58]; exact cj j (by omega)⟩, O29⟩ s11 e11 s13 hR11 T11 V11 e13
    · refine REF _ (fun _ => ?_) (fun z => absurd z c) (fun z => absurd z c)
      have ne : ∀ p : Nat, p < 48 → (p : Int) = (b : Int) → 1 ≤ (hM T).2.1 p := fun p _ hq => by
        rw [show p = b by omega]; omega
      have T1 : TM T d0 (-1) := TG_ne TT ne
      have P1 : PM T v M d0 (-1) := ⟨fun u hu hn => TG_ne (P.1 u hu hn) ne, P.2⟩
      intro t' et
      obtain ⟨Y1, Y2, Y3⟩ := y_lower h hR hRt T11 T1 P1 hv V11 hW s13 e13 t' et
      have F9 : F_x12_lowers T t' := fr_x12_lowers et
      obtain ⟨m1, m2, m3⟩ := CXm_h hv Y2
      refine ⟨Y1, OI_h hOI m1 m2 (fun x hx hl => ?_), (F9.1 55 (by decide)).trans h55⟩
      unfold LV at hl ⊢
      rw [m3] at hl
      exact hl.imp (Y3 x hx) id
