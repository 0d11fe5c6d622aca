/-! ===== entries of one block change on both sides ===== -/
def LM (s o : MS) (c : Nat) : Prop := ∀ x, x < 48 → (bW (gL o 1062) x ↔ (x = c ∨ bW (gL s 1062) x))
def TT (t o : MS) (b : Nat) : Prop := gA o 54 b ≠ 0 ∧ ∀ x, x ≠ b → gA o 54 x = gA t 54 x
theorem TT_t {t o q : MS} {b : Nat} (h : TT t o b) (g : TT o q b) : TT t q b := ⟨g.1, fun x hx => (g.2 x hx).trans (h.2 x hx)⟩
theorem s_mark {p : Int} {s : MS} (hp : 0 ≤ p ∧ p < 48) : pc (m_x8_mark p s) (fun o => LM s o p.toNat) := by
  unfold m_x8_mark
  refine pc_stn (fun s1 e1 => pc_some (fun x hx => ?_))
  rw [(q_LL e1 : gL s1 1062 = _), show p = (p.toNat : Int) by omega, bW_or (by omega) hx]
  rw [show (((p.toNat : Nat) : Int)).toNat = p.toNat by omega]
theorem LM_e {s s' o : MS} {c : Nat} (h : LM s' o c) (e : gL s' 1062 = gL s 1062) : LM s o c := fun x hx => by rw [h x hx, e]
theorem s_insM {p0 p1 p2 p3 : Int} {s : MS} (hp : 0 ≤ p0 ∧ p0 < 48) (h1 : 0 ≤ p1 ∧ p1 ≤ gA s 57 p0.toNat ∧ gA s 57 p0.toNat ≤ 5) : pc (m_x8_insert p0 p1 p2 p3 s) (fun o => LM s o p0.toNat) := by
  have L : ∀ (n : Nat) (x1 x2 x3 x4 x5 : Int) (S : MS), x1 = p0 → gL S 1062 = gL s 1062 → pc (m_x8_insert_L47 n x1 x2 x3 x4 x5 S) (fun o => LM s o p0.toNat) := by
    refine fr_ind (fun _ _ _ _ _ _ _ _ => pc_none) (fun n ih x1 x2 x3 x4 x5 S e hL => ?_)
    show pc (m_x8_insert_b47 (m_x8_insert_L47 n) x1 x2 x3 x4 x5 S) _
    unfold m_x8_insert_b47
    refine pc_rg (pc_rg (pc_if (fun _ => pc_inb (pc_stn (fun s11 e11 => pc_inb (pc_stn (fun s13 e13 => pc_rdI (fun _ => pc_inb (pc_stn (fun s16 e16 => pc_bn (fun s18 e18 => pc_some ?_))))))))) (fun _ => pc_rdI (fun _ => pc_inb (pc_stn (fun s21 e21 => pc_rdI (fun _ => pc_inb (pc_stn (fun s24 e24 => ih _ _ _ _ _ s24 e ((q_Al e24).trans ((q_Al e21).trans hL)))))))))))
    rw [e] at e18
    exact LM_e (s_mark hp s18 e18) ((q_Al e16).trans ((q_Al e13).trans ((q_Al e11).trans hL)))
  unfold m_x8_insert m_x8_slot
  refine pc_rg (pc_if (fun c => absurd c (by omega)) (fun _ => pc_rdI (fun _ => pc_rg (pc_rg (pc_if (fun c => absurd c (by omega)) (fun _ => pc_rdI (fun _ => pc_rg (pc_if (fun _ => pc_bn (fun r36 _ => pc_rdI (fun _ => pc_bn (fun r39 _ => L FU _ _ _ _ _ s rfl rfl)))) (fun c => absurd (by omega) c)))))))))
theorem s_delM {p0 p1 : Int} {s : MS} (hp : 0 ≤ p0 ∧ p0 < 48) (h1 : 0 ≤ p1 ∧ p1 < gA s 57 p0.toNat) : pc (m_x8_delete p0 p1 s) (fun o => LM s o p0.toNat) := by
  have L : ∀ (n : Nat) (x1 x2 x3 : Int) (S : MS), x1 = p0 → gL S 1062 = gL s 1062 → pc (m_x8_delete_L45 n x1 x2 x3 S) (fun o => LM s o p0.toNat) := by
    refine fr_ind (fun _ _ _ _ _ _ => pc_none) (fun n ih x1 x2 x3 S e hL => ?_)
    show pc (m_x8_delete_b45 (m_x8_delete_L45 n) x1 x2 x3 S) _
    unfold m_x8_delete_b45
    refine pc_rg (pc_rg (pc_if (fun _ => pc_bn (fun s9 e9 => pc_some ?_)) (fun _ => pc_rdI (fun _ => pc_inb (pc_stn (fun s12 e12 => pc_rdI (fun _ => pc_inb (pc_stn (fun s15 e15 => ih _ _ _ s15 e ((q_Al e15).trans ((q_Al e12).trans hL)))))))))))
    rw [e] at e9
    exact LM_e (s_mark hp s9 e9) hL
  unfold m_x8_delete m_x8_slot
  exact pc_rg (pc_if (fun c => absurd c (by omega)) (fun _ => pc_rdI (fun _ => pc_rg (pc_rg (pc_if (fun _ => pc_rdI (fun _ => pc_inb (pc_stn (fun s25 e25 => pc_rdI (fun _ => pc_bn (fun r28 _ => pc_bn (fun r30 _ => L FU _ _ _ s25 rfl (q_Al e25)))))))) (fun c => absurd h1.2 c))))))
theorem s_setM {p0 p1 p2 : Int} {s : MS} (hp : 0 ≤ p0 ∧ p0 < 48) (h1 : 0 ≤ p1) : pc (m_x8_set p0 p1 p2 s) (fun o => (gA s 59 (6 * p0.toNat + p1.toNat) = p2 ∧ o = s) ∨ (gA s 59 (6 * p0.toNat + p1.toNat) ≠ p2 ∧ LM s o p0.toNat)) := by
  unfold m_x8_set m_x8_slot m_x8_set_J32
  refine pc_bn (fun r3 e3 => ?_)
  cases e3
  refine pc_rdI (fun _ => pc_rg (pc_rg (pc_if (fun c => pc_some (Or.inl ⟨?_, rfl⟩)) (fun c => pc_inb (pc_stn (fun s9 e9 => pc_bn (fun s11 e11 => pc_some (Or.inr ⟨?_, ?_⟩))))))))
  · rw [show 6 * p0.toNat + p1.toNat = (p0 * 6 + p1).toNat by omega]; exact c
  · rw [show 6 * p0.toNat + p1.toNat = (p0 * 6 + p1).toNat by omega]; exact c
  · exact LM_e (s_mark hp s11 e11) (q_Al e9)
/-! the reference -/
theorem m_setT {p0 p1 p2 p3 : Int} {t : MS} (hp : 0 ≤ p0) : pc (m_x12_setsEntry p0 p1 p2 p3 t) (fun o => TT t o p0.toNat) := by
  unfold m_x12_setsEntry
  refine pc_inb (pc_stn (fun s2 e2 => pc_inb (pc_stn (fun s4 e4 => pc_inb (pc_bo (pc_stn (fun s7 e7 => pc_some ⟨?_, fun x hx => ?_⟩)))))))
  · rw [(q_AA e7 : gA s7 54 = _), upZ_s]; decide
  · rw [(q_AA e7 : gA s7 54 = _), upZ_n hx, (q_Aa e4 (by decide) : gA s4 54 = gA s2 54), (q_Aa e2 (by decide) : gA s2 54 = gA t 54)]
theorem m_insT {p0 p1 p2 p3 : Int} {t : MS} (hp : 0 ≤ p0) : pc (m_x12_inserts p0 p1 p2 p3 t) (fun o => TT t o p0.toNat) := by
  have L : ∀ (n : Nat) (x1 x2 x3 x4 x5 : Int) (S : MS), x1 = p0 → (∀ x, x ≠ p0.toNat → gA S 54 x = gA t 54 x) → pc (m_x12_inserts_L7 n x1 x2 x3 x4 x5 S) (fun o => TT t o p0.toNat) := by
    refine fr_ind (fun _ _ _ _ _ _ _ _ => pc_none) (fun n ih x1 x2 x3 x4 x5 S e hS => ?_)
    show pc (m_x12_inserts_b7 (m_x12_inserts_L7 n) x1 x2 x3 x4 x5 S) _
    unfold m_x12_inserts_b7
    refine pc_rg (pc_rg (pc_if (fun _ => pc_bn (fun s11 e11 => pc_rdI (fun _ => pc_inb (pc_stn (fun s14 e14 => pc_some ?_))))) (fun _ => pc_bn (fun r16 _ => pc_bn (fun r18 _ => pc_bn (fun s20 e20 => ih _ _ _ _ _ s20 e (fun x hx => ?_)))))))
    · rw [e] at e11
      have k := m_setT hp s11 e11
      exact ⟨by rw [(q_Aa e14 (by decide) : gA s14 54 = gA s11 54)]; exact k.1, fun x hx => by rw [(q_Aa e14 (by decide) : gA s14 54 = gA s11 54), k.2 x hx, hS x hx]⟩
    · rw [e] at e20
      have k := m_setT hp s20 e20
      rw [k.2 x hx, hS x hx]
  unfold m_x12_inserts
  exact pc_bn (fun r22 _ => L FU _ _ _ _ _ t rfl (fun _ _ => rfl))
theorem m_cutT {p0 p1 : Int} {t : MS} (hp : 0 ≤ p0) : pc (m_x12_cutsEntry p0 p1 t) (fun o => TT t o p0.toNat) := by
  have L : ∀ (n : Nat) (x1 x2 : Int) (S : MS), x1 = p0 → (∀ x, x ≠ p0.toNat → gA S 54 x = gA t 54 x) → pc (m_x12_cutsEntry_L2 n x1 x2 S) (fun o => TT t o p0.toNat) := by
    refine fr_ind (fun _ _ _ _ _ => pc_none) (fun n ih x1 x2 S e hS => ?_)
    show pc (m_x12_cutsEntry_b2 (m_x12_cutsEntry_L2 n) x1 x2 S) _
    unfold m_x12_cutsEntry_b2
    refine pc_bn (fun r5 _ => pc_rg (pc_rg (pc_if (fun _ => pc_rdI (fun _ => pc_inb (pc_stn (fun s11 e11 => pc_inb (pc_bo (pc_stn (fun s14 e14 => pc_some ?_))))))) (fun _ => pc_bn (fun r16 _ => pc_bn (fun r18 _ => pc_bn (fun s20 e20 => ih _ _ s20 e (fun x hx => ?_))))))))
    · rw [e] at e14
      refine ⟨by rw [(q_AA e14 : gA s14 54 = _), upZ_s]; decide, fun x hx => ?_⟩
      rw [(q_AA e14 : gA s14 54 = _), upZ_n hx, (q_Aa e11 (by decide) : gA s11 54 = gA S 54), hS x hx]
    · rw [e] at e20
      have k := m_setT hp s20 e20
      rw [k.2 x hx, hS x hx]
  unfold m_x12_cutsEntry
  exact L FU _ _ t rfl (fun _ _ => rfl)
/-- one block changes, the marks with it -/
theorem sim_blk {π σ : Nat → Nat} {s s' t t' : MS} {b : Nat} (h : SIM π σ s t) (hK : ∀ x, x < 48 → LV t x → 0 ≤ (hM t).2.1 x ∧ (hM t).2.1 x ≤ 6) (hb : b < 48)
    (c54 : gA s' 54 = gA s 54) (c55 : gA s' 55 = gA s 55) (c56 : gA s' 56 = gA s 56) (c60 : gA s' 60 = gA s 60) (c61 : gA s' 61 = gA s 61) (i60 : gI s' 1060 = gI s 1060)
    (z57 : ∀ x, x < 48 → x ≠ π b → gA s' 57 x = gA s 57 x) (z58 : ∀ x, x < 48 → x ≠ π b → ∀ k, k < 6 → gA s' 58 (6 * x + k) = gA s 58 (6 * x + k) ∧ gA s' 59 (6 * x + k) = gA s 59 (6 * x + k))
    (hX : BX t t' b) (t39 : gA t' 39 = gA t 39)
    (nz : gA s' 57 (π b) = (hM t').2.1 b) (ne : ∀ k : Nat, (k : Int) < (hM t').2.1 b → gA s' 58 (6 * π b + k) = kM t' b k ∧ (0 < (hM t).1 b → gA s' 59 (6 * π b + k) = (π ((hM t').2.2 b k).toNat : Int)) ∧ ((hM t).1 b ≤ 0 → gA s' 59 (6 * π b + k) = (hM t').2.2 b k))
    (hl : LV t b) (hW : (LM s s' (π b) ∧ TT t t' b) ∨ (gL s' 1062 = gL s 1062 ∧ gA t' 54 = gA t 54)) : SIM π σ s' t' := by
  have hP := h.1.1
  have cE : cM t' = cM t := BX_c hX
  have vE : vM t' = vM t := BX_v hX
  have lE : (hM t').1 = (hM t).1 := BX_l hX
  refine ⟨⟨by rw [i60]; exact hP, fun x hx => ?_, fun x hx hl' => ?_, fun v hv => ?_⟩, by rw [i60, t39]; exact h.2.1, fun x hx hc => ?_⟩
  · rw [c54, c55]
    show gA s 54 (π x) = cM t' x ∧ gA s 55 (π x) = vM t' x
    rw [cE, vE]; exact sim_c h hx
  · have hl2 : LV t x := by
      unfold LV
      rw [← cE, ← vE]; exact hl'
    have B := sim_b h hx hl2
    show BR1 π (hN s') (hM t') (kN s') (kM t') x
    by_cases z : x = b
    · rw [z]
      rw [z] at B
      refine ⟨?_, nz, fun k hk => ?_⟩
      · show gA s' 56 (π b) = (hM t').1 b
        rw [c56, lE]; exact B.1
      · show gA s' 58 (6 * π b + k) = _ ∧ (_ → gA s' 59 (6 * π b + k) = _) ∧ (_ → gA s' 59 (6 * π b + k) = _)
        rw [lE]; exact ne k hk
    · have px := (hP x hx).1.1
      have pz : π x ≠ π b := fun e => z (PB_i hP hx hb e)
      have sz := hK x hx hl2
      have eZ : (hM t').2.1 x = (hM t).2.1 x := BX_z hX z
      refine ⟨?_, ?_, fun k hk => ?_⟩
      · show gA s' 56 (π x) = (hM t').1 x
        rw [c56, lE]; exact B.1
      · show gA s' 57 (π x) = (hM t').2.1 x
        rw [z57 _ px pz, eZ]; exact B.2.1
      · rw [eZ] at hk
        have zz := z58 _ px pz k (by omega)
        have ee := BX_e (j := k) hX z
        show gA s' 58 (6 * π x + k) = _ ∧ (_ → gA s' 59 (6 * π x + k) = _) ∧ (_ → gA s' 59 (6 * π x + k) = _)
        rw [zz.1, zz.2, ee.1, ee.2, lE]
        exact B.2.2 k hk
  · show rtr π (gA s' 60 v) (gA t' 49 v) ∧ rtr π (gA s' 61 v) (gA t' 49 (8 + v))
    rw [c60, c61, BX_u hX (show v < 17 by omega), BX_u hX (show 8 + v < 17 by omega)]
    exact h.1.2.2.2 v hv
  · have hc' : 0 < cM t x := by rw [← cE]; exact hc
    have W := h.2.2 x hx hc'
    have px := (hP x hx).1.1
    rcases hW with ⟨a1, a2⟩ | ⟨a1, a2⟩
    · rw [a1 _ px]
      by_cases z : x = b
      · rw [z]
        exact ⟨fun _ => a2.1, fun _ => Or.inl rfl⟩
      · rw [a2.2 x z]
        exact ⟨fun w => W.1 (w.resolve_left (fun e => z (PB_i hP hx hb e))), fun w => Or.inr (W.2 w)⟩
    · rw [a1, a2]; exact W
