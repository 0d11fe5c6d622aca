/-! ===== draws, VOLUMES counted, CHECKPOINTS, CRASHES: on both sides ===== -/
theorem and_mod {x : Int} (h : 0 ≤ x ∧ x ≤ 9223372036854775807) : andL x 2147483647 = Int.tmod x 2147483648 := by
  have n1 : ((i8 x).toBitVec.toNat : Int) = x := by
    have e' : (i8 x).toBitVec.toInt = x := i8_t ⟨by omega, h.2⟩
    have c := BitVec.toInt_eq_toNat_cond (i8 x).toBitVec
    have l := (i8 x).toBitVec.isLt
    rw [e'] at c
    split at c <;> omega
  have h1 : (i8 x &&& i8 2147483647) = Int64.ofBitVec ((i8 x).toBitVec &&& 2147483647#64) := rfl
  have h2 : (Int64.ofBitVec ((i8 x).toBitVec &&& 2147483647#64)).toInt = ((i8 x).toBitVec &&& 2147483647#64).toInt := rfl
  have h3 : ((i8 x).toBitVec &&& 2147483647#64).toNat = (i8 x).toBitVec.toNat % 2 ^ 31 := by
    rw [BitVec.toNat_and, show (2147483647#64).toNat = 2 ^ 31 - 1 from rfl, Nat.and_two_pow_sub_one_eq_mod]
  have p : (2 : Nat) ^ 31 = 2147483648 := by decide
  rw [p] at h3
  unfold andL
  rw [h1, h2, BitVec.toInt_eq_toNat_of_lt (by omega), h3, Int.tmod_eq_emod_of_nonneg h.1]
  omega
theorem s_draw {p : Int} {s : MS} (hp : 0 < p) : pc (m_x1_draw p s) (fun q => gI q.2 983 = andL (1103515245 * gI s 983 + 12345) 2147483647 ∧ q.1 = Int.tmod (Int.tdiv (gI q.2 983) 64) p) := by
  unfold m_x1_draw m_x1_draw_J39
  exact pc_rg (pc_stn (fun s4 e4 => pc_rg (pc_if (fun c => absurd c (by omega)) (fun _ => pc_dv (pc_dv (pc_some ⟨q_II e4, rfl⟩))))))
theorem pc_dvL2 {α : Type} {x y : Int} {k : Option α} {P : α → Prop} (h : pc k P) : pc (dvL x y k) P := by
  unfold dvL
  split
  · exact h
  · exact pc_none
theorem m_draw {p : Int} {t : MS} : pc (m_x12_drawOf p t) (fun q => gL q.2 78 = Int.tmod (1103515245 * gL t 78 + 12345) 2147483648 ∧ q.1 = Int.tmod (Int.tdiv (gL q.2 78) 64) p) := by
  unfold m_x12_drawOf
  exact pc_dvL2 (pc_stn (fun s2 e2 => pc_dvL2 (pc_rg (pc_dvL2 (pc_some ⟨q_LL e2, rfl⟩)))))
theorem y_draw {p : Int} {s t : MS} (hp : 0 < p) (hd : gI s 983 = gL t 78) (hb : 0 ≤ gL t 78 ∧ gL t 78 ≤ 2147483647) {q o : Int × MS} (e1 : m_x1_draw p s = some q) (e2 : m_x12_drawOf p t = some o) : q.1 = o.1 ∧ gI q.2 983 = gL o.2 78 := by
  obtain ⟨a1, a2⟩ := s_draw hp q e1
  obtain ⟨b1, b2⟩ := m_draw o e2
  have e : gI q.2 983 = gL o.2 78 := by
    rw [a1, b1, hd]
    exact and_mod ⟨by omega, by omega⟩
  exact ⟨by rw [a2, b2, e], e⟩
/-- which VOLUMES there are -/
def VJ (s t : MS) : Prop := ∀ v, v < 8 → (gA s 60 v = -2 ↔ (gI t 47 = 0 ∨ gA t 49 v = 255))
theorem VJ_of {π σ : Nat → Nat} {s t : MS} (h : SIM π σ s t) (h47 : gI t 47 ≠ 0) : VJ s t := fun v hv => by
  have e := (rtr_e (h.1.2.2.2 v hv).1).1
  constructor
  · intro w; exact Or.inr (e.1 w)
  · rintro (w | w)
    · exact absurd w h47
    · exact e.2 w
theorem s_isVol {p : Int} {s : MS} : pc (m_x8_isVolume p s) (fun r => (r = 1 ∧ (0 ≤ p ∧ p < 8) ∧ gA s 60 p.toNat ≠ -2) ∨ (r = 0 ∧ ¬ ((0 ≤ p ∧ p < 8) ∧ gA s 60 p.toNat ≠ -2))) := by
  unfold m_x8_isVolume m_x8_isVolume_J25 m_x8_isVolume_J26
  exact pc_rg (pc_if (fun c => pc_bo (pc_some (Or.inr ⟨rfl, fun w => by omega⟩))) (fun c => pc_rg (pc_if (fun c2 => pc_bo (pc_some (Or.inr ⟨rfl, fun w => by omega⟩))) (fun c2 => pc_rdI (fun _ => pc_rg (pc_if (fun c3 => pc_bo (pc_some (Or.inr ⟨rfl, fun w => w.2 c3⟩))) (fun c3 => pc_bo (pc_some (Or.inl ⟨rfl, ⟨by omega, by omega⟩, c3⟩)))))))))
theorem m_isIn {p a b : Int} {t : MS} : pc (m_x12_isIn p a b t) (fun r => (r = 1 ∧ a ≤ p ∧ p ≤ b) ∨ (r = 0 ∧ ¬ (a ≤ p ∧ p ≤ b))) := by
  have rgl : ∀ {x : Int} {k : Option Int} {P : Int → Prop}, pc k P → pc (rgL x k) P := fun {x k P} h => by
    unfold rgL
    split
    · exact h
    · exact pc_none
  unfold m_x12_isIn m_x12_isIn_J17 m_x12_isIn_J18
  exact rgl (rgl (pc_if (fun c => pc_bo (pc_some (Or.inr ⟨rfl, fun w => by omega⟩))) (fun c => rgl (rgl (pc_if (fun c2 => pc_bo (pc_some (Or.inr ⟨rfl, fun w => by omega⟩))) (fun c2 => pc_bo (pc_some (Or.inl ⟨rfl, by omega, by omega⟩))))))))
theorem m_isVol {p : Int} {t : MS} : pc (m_x12_isVolume p t) (fun r => (r = 1 ∧ (0 ≤ p ∧ p < 8) ∧ gI t 47 ≠ 0 ∧ gA t 49 p.toNat ≠ 255) ∨ (r = 0 ∧ ¬ ((0 ≤ p ∧ p < 8) ∧ gI t 47 ≠ 0 ∧ gA t 49 p.toNat ≠ 255))) := by
  unfold m_x12_isVolume m_x12_isVolume_J35 m_x12_isVolume_J36
  refine pc_bq m_isIn (fun r4 h4 => pc_rg (pc_if (fun c => pc_bo (pc_some (Or.inr ⟨rfl, fun w => ?_⟩))) (fun c => pc_rg (pc_if (fun c2 => pc_bo (pc_some (Or.inr ⟨rfl, fun w => w.2.1 c2⟩))) (fun c2 => pc_rdI (fun _ => pc_rg (pc_if (fun c3 => pc_bo (pc_some (Or.inr ⟨rfl, fun w => w.2.2 c3⟩))) (fun c3 => pc_bo (pc_some (Or.inl ⟨rfl, ?_, c2, c3⟩))))))))))
  · rcases h4 with ⟨a, _⟩ | ⟨_, b⟩
    · omega
    · exact b ⟨w.1.1, by omega⟩
  · rcases h4 with ⟨_, a, b⟩ | ⟨a, _⟩
    · exact ⟨a, by omega⟩
    · exact absurd a c
/-- both sides ask for a VOLUME -/
theorem y_isVol {p : Int} {s t : MS} (V : VJ s t) {r q : Int} (e1 : m_x8_isVolume p s = some r) (e2 : m_x12_isVolume p t = some q) : r = q ∧ ((r = 1 ∧ (0 ≤ p ∧ p < 8) ∧ gA s 60 p.toNat ≠ -2 ∧ gI t 47 ≠ 0 ∧ gA t 49 p.toNat ≠ 255) ∨ (r = 0 ∧ ¬ ((0 ≤ p ∧ p < 8) ∧ gA s 60 p.toNat ≠ -2))) := by
  rcases s_isVol r e1 with ⟨a, b, c⟩ | ⟨a, b⟩
  · rcases m_isVol q e2 with ⟨a', b', c', d'⟩ | ⟨a', b'⟩
    · exact ⟨a.trans a'.symm, Or.inl ⟨a, b, c, c', d'⟩⟩
    · exfalso
      have w := V p.toNat (by omega)
      refine b' ⟨b, fun z => c (w.2 (Or.inl z)), fun z => c (w.2 (Or.inr z))⟩
  · rcases m_isVol q e2 with ⟨a', b', c', d'⟩ | ⟨a', b'⟩
    · exfalso
      have w := V p.toNat (by omega)
      refine b ⟨b', fun z => ?_⟩
      rcases w.1 z with u | u
      · exact c' u
      · exact d' u
    · exact ⟨a.trans a'.symm, Or.inr ⟨a, b⟩⟩
theorem vc_eq {s t : MS} (V : VJ s t) : vcn (gA s 60) 8 = sm 8 (ivol t) := by
  unfold vcn
  refine sm_c (fun v hv => ?_)
  show (if gA s 60 v = -2 then (0 : Int) else 1) = ivol t v
  unfold ivol
  have w := V v hv
  by_cases z : gA s 60 v = -2
  · rw [if_pos z, if_neg (fun u => ?_)]
    rcases w.1 z with x | x
    · exact u.1 x
    · exact u.2 x
  · rw [if_neg z, if_pos ⟨fun x => z (w.2 (Or.inl x)), fun x => z (w.2 (Or.inr x))⟩]
theorem m_volEnd {t : MS} : ∀ (m : Nat) (v x : Int), 8 ≤ v → pc (m_x12_volumeAt_L4 t m v x) (fun _ => False) := by
  refine fr_ind (fun _ _ _ => pc_none) (fun m ih v x hv => ?_)
  show pc (m_x12_volumeAt_b4 t (m_x12_volumeAt_L4 t m) v x) _
  have J : pc (m_x12_volumeAt_J17 t (m_x12_volumeAt_L4 t m) v x) (fun _ => False) := by
    unfold m_x12_volumeAt_J17 m_x12_volumeAt_J29
    exact pc_rg (pc_bn (fun r9 _ => pc_rg (pc_if (fun _ => ih _ _ (by omega)) (fun _ => ih _ _ (by omega)))))
  unfold m_x12_volumeAt_b4
  refine pc_rg (pc_if (fun _ => J) (fun _ => pc_rg (pc_bq m_isVol (fun r16 h16 => pc_rg (pc_if (fun _ => J) (fun c => ?_))))))
  rcases h16 with ⟨_, b, _⟩ | ⟨a, _⟩
  · omega
  · exact absurd a c
theorem y_volAt {s t : MS} (V : VJ s t) : ∀ (n m : Nat) (x v : Int), 0 ≤ v → 0 ≤ x → pc (m_x1_volumeAt_L4 s n x v) (fun r => pc (m_x12_volumeAt_L4 t m v x) (fun q => r = q)) := by
  refine fr_ind (fun _ _ _ _ _ => pc_none) (fun n ih m x v hv hx => ?_)
  cases m with
  | zero => exact fun q _ => pc_none
  | succ m =>
    show pc (m_x1_volumeAt_b4 s (m_x1_volumeAt_L4 s n) x v) _
    unfold m_x1_volumeAt_b4 m_x1_volumeAt_J30
    refine pc_rg (pc_if (fun c => pc_some (pc_mono (m_volEnd (m + 1) v x c) (fun _ w => w.elim))) (fun c => pc_bn (fun r8 e8 => ?_)))
    -- the reference's step
    have REF : ∀ Q : Int → Prop, (r8 = 0 → pc (m_x12_volumeAt_L4 t m (v + 1) x) Q) → (r8 ≠ 0 → x = 0 → Q v) → (r8 ≠ 0 → x ≠ 0 → pc (m_x12_volumeAt_L4 t m (v + 1) (x + (-1))) Q) → pc (m_x12_volumeAt_L4 t (m + 1) v x) Q := fun Q K1 K2 K3 => by
      show pc (m_x12_volumeAt_b4 t (m_x12_volumeAt_L4 t m) v x) Q
      have J : (r8 ≠ 0 → x ≠ 0) → pc (m_x12_volumeAt_J17 t (m_x12_volumeAt_L4 t m) v x) Q := fun w => by
        unfold m_x12_volumeAt_J17 m_x12_volumeAt_J29
        refine pc_rg (pc_bn (fun r9 e9 => ?_))
        have Y := (y_isVol V e8 e9).1
        exact pc_rg (pc_if (fun z => K1 (Y.trans z)) (fun z => K3 (fun u => z (Y.symm.trans u)) (w (fun u => z (Y.symm.trans u)))))
      unfold m_x12_volumeAt_b4
      refine pc_rg (pc_if (fun z => J (fun _ => by omega)) (fun z => pc_rg (pc_bn (fun r16 e16 => ?_))))
      have Y := (y_isVol V e8 e16).1
      exact pc_rg (pc_if (fun u => J (fun w => absurd (Y.trans u) w)) (fun u => pc_some (K2 (fun w => u (Y.symm.trans w)) (by omega))))
    refine pc_rg (pc_if (fun c1 => ?_) (fun c1 => pc_rg (pc_if (fun c2 => pc_some (REF _ (fun w => absurd w c1) (fun _ _ => rfl) (fun _ w => absurd c2 w))) (fun c2 => ?_))))
    · exact fun q eq => REF _ (fun _ => ih m x (v + 1) (by omega) hx q eq) (fun w => absurd c1 w) (fun w => absurd c1 w)
    · exact fun q eq => REF _ (fun w => absurd w c1) (fun _ w => absurd w c2) (fun _ _ => ih m (x + (-1)) (v + 1) (by omega) (by omega) q eq)
/-- CHECKPOINT -/
theorem y_save {π σ : Nat → Nat} {s t s' t' : MS} (h : SIM π σ s t) (hR : Rg s) (hRt : Rr t) (e1 : m_x8_save s = some s') (e2 : m_x12_checks t = some t') : SIM π σ s' t' := by
  obtain ⟨_, a1, a2⟩ := wp_det (w_x8_save hR) e1
  obtain ⟨_, b1, b2, b3⟩ := wp_det (w_x12_checks hRt) e2
  have F1 : F_x8_save s s' := fr_x8_save e1
  have F2 : F_x12_checks t t' := fr_x12_checks e2
  have hP := h.1.1
  have nb : hN s' = hN s := by
    unfold hN
    rw [F1.2.1 56 (by decide), F1.2.1 57 (by decide), F1.2.1 59 (by decide)]
  have kb : kN s' = kN s := by
    unfold kN
    rw [F1.2.1 58 (by decide)]
  have cE : ∀ x, x < 48 → cM t' x = cM t x := fun x hx => b1 (17 + 16 * x) (by omega) (fun p hp => by omega)
  have vE : ∀ x, x < 48 → vM t' x = cM t x := fun x hx => b3 x hx
  have e19 : ∀ x, x < 48 → gA t' 49 (19 + 16 * x) = gA t 49 (19 + 16 * x) := fun x hx => b1 _ (by omega) (fun p hp => by omega)
  have e20 : ∀ x, x < 48 → gA t' 49 (20 + 16 * x) = gA t 49 (20 + 16 * x) := fun x hx => b1 _ (by omega) (fun p hp => by omega)
  have eE : ∀ x, x < 48 → ∀ k, (hM t').2.2 x k = (hM t).2.2 x k ∧ kM t' x k = kM t x k := fun x hx k => by
    show (if k < 6 then gA t' 49 (27 + 16 * x + k) else 0) = (if k < 6 then gA t 49 (27 + 16 * x + k) else 0) ∧ (if k < 6 then gA t' 49 (21 + 16 * x + k) else 0) = if k < 6 then gA t 49 (21 + 16 * x + k) else 0
    by_cases z : k < 6
    · rw [if_pos z, if_pos z, if_pos z, if_pos z, b1 (27 + 16 * x + k) (by omega) (fun p hp => by omega), b1 (21 + 16 * x + k) (by omega) (fun p hp => by omega)]
      exact ⟨rfl, rfl⟩
    · rw [if_neg z, if_neg z, if_neg z, if_neg z]
      exact ⟨rfl, rfl⟩
  refine ⟨⟨by rw [F1.1 1060 (by decide)]; exact hP, fun x hx => ?_, fun x hx q => ?_, fun v hv => ?_⟩, by rw [F1.1 1060 (by decide), F2.2.1 39 (by decide)]; exact h.2.1, fun x hx q => ?_⟩
  · show gA s' 54 (π x) = cM t' x ∧ gA s' 55 (π x) = vM t' x
    have c := sim_c h hx
    rw [cE x hx, vE x hx, F1.2.1 54 (by decide), a1 (π x) (hP x hx).1.1]
    exact ⟨c.1, c.1⟩
  · show BR1 π (hN s') (hM t') (kN s') (kM t') x
    have q' : 0 < cM t' x ∨ 0 < vM t' x := q
    rw [cE x hx, vE x hx] at q'
    have B := sim_b h hx (Or.inl (q'.elim id id))
    rw [nb, kb]
    unfold BR1 at B ⊢
    have z1 : (hM t').1 x = (hM t).1 x := e19 x hx
    have z2 : (hM t').2.1 x = (hM t).2.1 x := e20 x hx
    rw [z1, z2]
    exact ⟨B.1, B.2.1, fun k hk => by rw [(eE x hx k).1, (eE x hx k).2]; exact B.2.2 k hk⟩
  · show rtr π (gA s' 60 v) (gA t' 49 v) ∧ rtr π (gA s' 61 v) (gA t' 49 (8 + v))
    rw [F1.2.1 60 (by decide), a2 v hv, b1 v (by omega) (fun p hp => by omega), b2 v hv]
    exact ⟨(h.1.2.2.2 v hv).1, (h.1.2.2.2 v hv).1⟩
  · have q' : 0 < cM t' x := q
    rw [cE x hx] at q'
    rw [F1.2.2.1 1062 (by decide), F2.2.1 54 (by decide)]
    exact h.2.2 x hx q'
/-- the order of keys behind a CHECKPOINT, a CRASH: who stands stood -/
theorem OI_x {t o : MS} {lo hi : Nat → Int} (H : OI t lo hi) (hx : ∀ x, x < 48 → ∀ i, 2 ≤ i → i < 16 → gA o 49 (17 + 16 * x + i) = gA t 49 (17 + 16 * x + i)) (l : ∀ x, x < 48 → LV o x → LV t x) : OI o lo hi := by
  refine OI_same H (fun x hx' hl => ⟨l x hx' hl, Or.inl ⟨?_, ?_, fun k => ?_⟩⟩)
  · exact hx x hx' 2 (by decide) (by decide)
  · exact hx x hx' 3 (by decide) (by decide)
  · show (if k < 6 then gA o 49 (27 + 16 * x + k) else 0) = (if k < 6 then gA t 49 (27 + 16 * x + k) else 0) ∧ (if k < 6 then gA o 49 (21 + 16 * x + k) else 0) = if k < 6 then gA t 49 (21 + 16 * x + k) else 0
    by_cases z : k < 6
    · have a := hx x hx' (10 + k) (by omega) (by omega)
      have b := hx x hx' (4 + k) (by omega) (by omega)
      rw [show 17 + 16 * x + (10 + k) = 27 + 16 * x + k by omega] at a
      rw [show 17 + 16 * x + (4 + k) = 21 + 16 * x + k by omega] at b
      rw [if_pos z, if_pos z, if_pos z, if_pos z, a, b]
      exact ⟨rfl, rfl⟩
    · rw [if_neg z, if_neg z, if_neg z, if_neg z]
      exact ⟨rfl, rfl⟩
theorem OI_checks {t t' : MS} {lo hi : Nat → Int} (H : OI t lo hi) (hRt : Rr t) (e2 : m_x12_checks t = some t') : OI t' lo hi := by
  obtain ⟨_, b1, b2, b3⟩ := wp_det (w_x12_checks hRt) e2
  refine OI_x H (fun x hx i i2 i16 => b1 _ (by omega) (fun p hp => by omega)) (fun x hx hl => ?_)
  have cE : cM t' x = cM t x := b1 (17 + 16 * x) (by omega) (fun p hp => by omega)
  have vE : vM t' x = cM t x := b3 x hx
  unfold LV at hl
  rw [cE, vE] at hl
  exact Or.inl (hl.elim id id)
/-- CRASH -/
theorem y_crash {π σ : Nat → Nat} {s t s' t' : MS} (h : SIM π σ s t) (hR : Rg s) (hRt : Rr t) (hw : ∀ x, x < 48 → (bW (gL s 1062) (π x) ↔ gA t 54 x ≠ 0)) (e1 : m_x8_fallBack s = some s') (e2 : m_x12_crashes t = some t') : SIM π σ s' t' := by
  obtain ⟨_, a1, a2⟩ := wp_det (w_x8_fallBack hR) e1
  obtain ⟨_, b1, b2, b3⟩ := wp_det (w_x12_crashes hRt) e2
  have F1 : F_x8_fallBack s s' := fr_x8_fallBack e1
  have F2 : F_x12_crashes t t' := fr_x12_crashes e2
  have hP := h.1.1
  have nb : hN s' = hN s := by
    unfold hN
    rw [F1.2.1 56 (by decide), F1.2.1 57 (by decide), F1.2.1 59 (by decide)]
  have kb : kN s' = kN s := by
    unfold kN
    rw [F1.2.1 58 (by decide)]
  have cE : ∀ x, x < 48 → cM t' x = vM t x := fun x hx => b3 x hx
  have vE : ∀ x, x < 48 → vM t' x = vM t x := fun x hx => b1 (18 + 16 * x) (by omega) (fun p hp => by omega)
  have e19 : ∀ x, x < 48 → gA t' 49 (19 + 16 * x) = gA t 49 (19 + 16 * x) := fun x hx => b1 _ (by omega) (fun p hp => by omega)
  have e20 : ∀ x, x < 48 → gA t' 49 (20 + 16 * x) = gA t 49 (20 + 16 * x) := fun x hx => b1 _ (by omega) (fun p hp => by omega)
  have eE : ∀ x, x < 48 → ∀ k, (hM t').2.2 x k = (hM t).2.2 x k ∧ kM t' x k = kM t x k := fun x hx k => by
    show (if k < 6 then gA t' 49 (27 + 16 * x + k) else 0) = (if k < 6 then gA t 49 (27 + 16 * x + k) else 0) ∧ (if k < 6 then gA t' 49 (21 + 16 * x + k) else 0) = if k < 6 then gA t 49 (21 + 16 * x + k) else 0
    by_cases z : k < 6
    · rw [if_pos z, if_pos z, if_pos z, if_pos z, b1 (27 + 16 * x + k) (by omega) (fun p hp => by omega), b1 (21 + 16 * x + k) (by omega) (fun p hp => by omega)]
      exact ⟨rfl, rfl⟩
    · rw [if_neg z, if_neg z, if_neg z, if_neg z]
      exact ⟨rfl, rfl⟩
  refine ⟨⟨by rw [F1.1 1060 (by decide)]; exact hP, fun x hx => ?_, fun x hx q => ?_, fun v hv => ?_⟩, by rw [F1.1 1060 (by decide), F2.2.1 39 (by decide)]; exact h.2.1, fun x hx _ => ?_⟩
  · show gA s' 54 (π x) = cM t' x ∧ gA s' 55 (π x) = vM t' x
    have c := sim_c h hx
    rw [cE x hx, vE x hx, F1.2.1 55 (by decide), a1 (π x) (hP x hx).1.1]
    exact ⟨c.2, c.2⟩
  · show BR1 π (hN s') (hM t') (kN s') (kM t') x
    have q' : 0 < cM t' x ∨ 0 < vM t' x := q
    rw [cE x hx, vE x hx] at q'
    have B := sim_b h hx (Or.inr (q'.elim id id))
    rw [nb, kb]
    unfold BR1 at B ⊢
    have z1 : (hM t').1 x = (hM t).1 x := e19 x hx
    have z2 : (hM t').2.1 x = (hM t).2.1 x := e20 x hx
    rw [z1, z2]
    exact ⟨B.1, B.2.1, fun k hk => by rw [(eE x hx k).1, (eE x hx k).2]; exact B.2.2 k hk⟩
  · show rtr π (gA s' 60 v) (gA t' 49 v) ∧ rtr π (gA s' 61 v) (gA t' 49 (8 + v))
    rw [F1.2.1 61 (by decide), a2 v hv, b1 (8 + v) (by omega) (fun p hp => by omega), b2 v hv]
    exact ⟨(h.1.2.2.2 v hv).2, (h.1.2.2.2 v hv).2⟩
  · rw [F1.2.2.1 1062 (by decide), F2.2.1 54 (by decide)]
    exact hw x hx
theorem OI_crash {t t' : MS} {lo hi : Nat → Int} (H : OI t lo hi) (hRt : Rr t) (e2 : m_x12_crashes t = some t') : OI t' lo hi := by
  obtain ⟨_, b1, b2, b3⟩ := wp_det (w_x12_crashes hRt) e2
  refine OI_x H (fun x hx i i2 i16 => b1 _ (by omega) (fun p hp => by omega)) (fun x hx hl => ?_)
  have cE : cM t' x = vM t x := b3 x hx
  have vE : vM t' x = vM t x := b1 (18 + 16 * x) (by omega) (fun p hp => by omega)
  unfold LV at hl
  rw [cE, vE] at hl
  exact Or.inr (hl.elim id id)
/-- both sides, but for what is KEPT -/
def J2 (s t : MS) : Prop := (∃ π σ lo hi, SIM π σ s t ∧ OI t lo hi) ∧ ZP s t
theorem GA_rt {t : MS} (G : GA t) {v : Nat} (hv : v < 8) (hn : gA t 49 v ≠ 255) : (0 ≤ gA t 49 v ∧ gA t 49 v < 254) ∨ gA t 49 v = 254 := by
  have b := G.1.1.2 v (by omega)
  omega
theorem y_plantJ {s t : MS} {v : Nat} {key val : Int} (h : J2 s t) (hT : TE s) (hRt : Rr t) (G : GA t) (hv : v < 8) (hn : gA t 49 v ≠ 255) (hkey : 0 ≤ key ∧ key ≤ 999) (hval : 0 ≤ val ∧ val ≤ 999) : pc (m_x1_tryPlant (v : Int) key val s) (fun q => pc (m_x12_tries 2 (v : Int) key val t) (fun o => q.1 = o.1 ∧ J2 q.2 o.2)) := by
  obtain ⟨⟨π, σ, lo, hi, H, O⟩, Z⟩ := h
  have r1061 : (0 : Int) ≤ gI s 1061 ∧ gI s 1061 ≤ 999999 := hT.1.1 1061
  have N := G.1.2.1
  refine pc_mono (y_tryPlant H Z hT.1 hRt hT.2.1 G.1.1.1 G.1.2.2.1 G.1.2.2.2.1 (by omega) N.2 hT.2.2 r1061.2 hv (GA_rt G hv hn) O hkey hval) (fun q hq => pc_mono hq (fun o ho => ?_))
  obtain ⟨a, _, π', σ', lo', hi', H', Z', O'⟩ := ho
  exact ⟨a, ⟨π', σ', lo', hi', H', O'⟩, Z'⟩
theorem y_uprootJ {s t : MS} {v : Nat} {key val : Int} (h : J2 s t) (hT : TE s) (hRt : Rr t) (G : GA t) (hv : v < 8) (hkey : R2 key) : pc (m_x1_tryUproot (v : Int) key s) (fun q => pc (m_x12_tries 3 (v : Int) key val t) (fun o => q.1 = o.1 ∧ J2 q.2 o.2)) := by
  obtain ⟨⟨π, σ, lo, hi, H, O⟩, Z⟩ := h
  have r1061 : (0 : Int) ≤ gI s 1061 ∧ gI s 1061 ≤ 999999 := hT.1.1 1061
  have N := G.1.2.1
  refine pc_mono (y_tryUproot (val := val) H Z hT.1 hT.2.1 G.1.1.1 G.1.2.2.1 (by omega) N.2 hT.2.2 r1061.2 hv O hkey hRt) (fun q hq => pc_mono hq (fun o ho => ?_))
  obtain ⟨a, _, π', σ', lo', hi', H', Z', O'⟩ := ho
  exact ⟨a, ⟨π', σ', lo', hi', H', O'⟩, Z'⟩
