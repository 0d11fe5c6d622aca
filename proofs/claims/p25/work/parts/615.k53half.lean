/-! ===== a BLOCK splits on both sides ===== -/
def HLv (o S : MS) (r b : Nat) (n : Int) : Prop := BX o S r ∧ (hM S).2.1 r = Int.tdiv n 2 ∧ (∀ j : Nat, (j : Int) < Int.tdiv n 2 → (hM S).2.2 r j = (hM o).2.2 b ((n - Int.tdiv n 2).toNat + j) ∧ kM S r j = kM o b ((n - Int.tdiv n 2).toNat + j)) ∧ gA S 39 = gA o 39 ∧ gA S 54 r ≠ 0 ∧ ∀ x, x ≠ r → gA S 54 x = gA o 54 x
def SZv (S q : MS) (b : Nat) (n : Int) : Prop := BX S q b ∧ (hM q).2.1 b = n - Int.tdiv n 2 ∧ (∀ j, (hM q).2.2 b j = (hM S).2.2 b j ∧ kM q b j = kM S b j) ∧ gA q 39 = gA S 39 ∧ TT S q b
/-- what the reference does where it splits b under a -/
def HFm (a b : Nat) (p1 key : Int) (t : MS) (o1 o : Int × MS) : Prop := (gI o1.2 55 = 1 ∧ o = ((b : Int), o1.2)) ∨ (gI o1.2 55 = 0 ∧ ∃ S q s, HLv o1.2 S o1.1.toNat b ((hM t).2.1 b) ∧ SZv S q b ((hM t).2.1 b) ∧ Rr q ∧ gI q 55 = 0 ∧ m_x12_inserts (a : Int) (p1 + 1) (kM q o1.1.toNat 0) o1.1 q = some s ∧ o.2 = s ∧ ((key < kM s o1.1.toNat 0 ∧ o.1 = (b : Int)) ∨ (¬ key < kM s o1.1.toNat 0 ∧ o.1 = o1.1)))
set_option maxHeartbeats 2000000 in
theorem m_half {a b : Nat} {p1 key : Int} {t : MS} (hR : Rr t) (hN : 0 ≤ gA t 39 5 ∧ gA t 39 5 ≤ 48) (hC : CE t 0) (h0 : gI t 55 = 0) (hb : b < 48) (lb : LV t b) (lev : 0 ≤ (hM t).1 b ∧ (hM t).1 b ≤ 48) (hz : 2 ≤ (hM t).2.1 b ∧ (hM t).2.1 b ≤ 6) : pc (m_x12_half (a : Int) p1 (b : Int) key t) (fun o => ∃ o1, m_x12_taken ((hM t).1 b) (b : Int) t = some o1 ∧ HFm a b p1 key t o1 o) := by
  have tb : ((b : Nat) : Int).toNat = b := Int.toNat_natCast _
  unfold m_x12_half
  refine pc_bq (m_lev (by omega)) (fun r36 h36 => pc_bn (fun o1 e1 => ?_))
  rw [tb] at h36
  rw [h36] at e1
  have W := wp_det (w_x12_taken hR hN hC (p0 := (hM t).1 b) (p1 := (b : Int)) ⟨lev.1, by omega⟩ ⟨by omega, by omega⟩) e1
  obtain ⟨hRo, _, W3⟩ := W
  have Fo : F_x12_taken t o1.2 := fr_x12_taken e1
  have r55 : (0 : Int) ≤ gI o1.2 55 ∧ gI o1.2 55 ≤ 1 := hRo.1 55
  refine pc_rg (pc_if (fun c1 => ?_) (fun c1 => pc_some ⟨o1, e1, Or.inl ⟨by omega, rfl⟩⟩))
  rcases W3 with w | ⟨_, ⟨r0, r1⟩, ⟨c0, v0⟩, TK⟩
  · omega
  obtain ⟨r, hrr⟩ : ∃ r, r = o1.1.toNat := ⟨_, rfl⟩
  have ri : o1.1 = (r : Int) := by omega
  have tr : ((r : Nat) : Int).toNat = r := Int.toNat_natCast _
  rw [← hrr] at c0 v0 TK
  have r48 : r < 48 := by omega
  have nrb : b ≠ r := fun e => by
    rw [e] at lb; unfold LV at lb; omega
  have zb : (hM o1.2).2.1 b = (hM t).2.1 b := TK.1 (20 + 16 * b) (by omega)
  have T54 : gA o1.2 54 r ≠ 0 := by
    rcases m_taken h0 o1 e1 with ⟨z, _⟩ | ⟨_, z⟩
    · omega
    · rw [z, ← hrr, upZ_s]; decide
  obtain ⟨n, hn⟩ : ∃ n, n = (hM t).2.1 b := ⟨_, rfl⟩
  have td := half_b (z := n) (E := 100) (by omega) (by omega) (by omega)
  obtain ⟨⟨t1, _, t2⟩, t3, _, t5⟩ := td
  refine pc_bq (m_ents (by omega)) (fun r43 h43 => pc_dv (pc_bq (m_ents (by omega)) (fun r46 h46 => ?_)))
  rw [tb, zb, ← hn] at h43 h46
  rw [h43, h46, ri]
  have L43 : ∀ (m : Nat) (x : Int) (S : MS), Rr S → gI S 55 = 0 → (0 ≤ x ∧ x ≤ Int.tdiv n 2) → BX o1.2 S r → (hM S).2.1 r = x → (∀ j : Nat, (j : Int) < x → (hM S).2.2 r j = (hM o1.2).2.2 b ((n - Int.tdiv n 2).toNat + j) ∧ kM S r j = kM o1.2 b ((n - Int.tdiv n 2).toNat + j)) → gA S 39 = gA o1.2 39 → (gA S 54 r ≠ 0 ∧ ∀ x, x ≠ r → gA S 54 x = gA o1.2 54 x) → pc (m_x12_half_L43 m (a : Int) p1 (b : Int) key (r : Int) (Int.tdiv n 2) (n - Int.tdiv n 2) x S) (fun o => ∃ o1, m_x12_taken ((hM t).1 b) (b : Int) t = some o1 ∧ HFm a b p1 key t o1 o) := by
    refine fr_ind (fun _ _ _ _ _ _ _ _ _ _ => pc_none) (fun m ih x S hRS s55 hx hBX hsz hcp s39 s54 => ?_)
    show pc (m_x12_half_b43 (m_x12_half_L43 m) (a : Int) p1 (b : Int) key (r : Int) (Int.tdiv n 2) (n - Int.tdiv n 2) x S) _
    unfold m_x12_half_b43 m_x12_half_J142
    refine pc_rg (pc_rg (pc_if (fun c2 => ?_) (fun c2 => ?_)))
    · have xg : x = Int.tdiv n 2 := by omega
      refine pc_inb (pc_stn (fun s16 e16 => pc_inb (pc_bo (pc_stn (fun s19 e19 => ?_)))))
      have hR16 : Rr s16 := e16 ▸ Rr.uAu hRS (by show (-2147483648 : Int) ≤ n - Int.tdiv n 2 ∧ n - Int.tdiv n 2 ≤ 2147483647; omega)
      have hR19 : Rr s19 := e19 ▸ Rr.uAu hR16 (by show (0 : Int) ≤ 1 ∧ (1 : Int) ≤ 1; omega)
      have u16 : gA s16 49 = upZ (gA S 49) (20 + 16 * b) (n - Int.tdiv n 2) := by
        rw [(q_AA e16 : gA s16 49 = _), show (17 + 16 * (b : Int) + 3).toNat = 20 + 16 * b by omega]
      obtain ⟨b2, z2, r2⟩ := M_size u16
      have u19 : gA s19 49 = gA s16 49 := q_Aa e19 (by decide)
      have hM' : hM s19 = hM s16 := by unfold hM; rw [u19]
      have kM' : kM s19 = kM s16 := by unfold kM; rw [u19]
      have SZ : SZv S s19 b n := by
        refine ⟨fun j hj => by rw [u19]; exact b2 j hj, by rw [hM']; exact z2, fun j => by rw [hM', kM']; exact r2 j, (q_Aa e19 (by decide)).trans (q_Aa e16 (by decide)), ?_, fun y hy => ?_⟩
        · rw [(q_AA e19 : gA s19 54 = _), tb, upZ_s]; decide
        · rw [(q_AA e19 : gA s19 54 = _), tb, upZ_n hy, (q_Aa e16 (by decide) : gA s16 54 = gA S 54)]
      refine pc_bq (m_key (by omega) (by decide)) (fun r21 h21 => pc_bn (fun s23 e23 => pc_bq (m_key (by omega) (by decide)) (fun r25 h25 => pc_rg (pc_rg (pc_if (fun c => pc_some ?_) (fun c => pc_some ?_))))))
      · rw [tr] at h21 h25
        rw [h21] at e23
        rw [h25] at c
        refine ⟨o1, e1, Or.inr ⟨c1, S, s19, s23, ?_, ?_, hR19, ((q_Ai e19).trans (q_Ai e16)).trans s55, ?_, rfl, Or.inl ⟨?_, rfl⟩⟩⟩
        · rw [← hrr, ← hn]; exact ⟨hBX, hsz.trans xg, fun j hj => hcp j (by omega), s39, s54.1, s54.2⟩
        · rw [← hn]; exact SZ
        · rw [← hrr, ri]; exact e23
        · rw [← hrr]; exact c
      · rw [tr] at h21 h25
        rw [h21] at e23
        rw [h25] at c
        refine ⟨o1, e1, Or.inr ⟨c1, S, s19, s23, ?_, ?_, hR19, ((q_Ai e19).trans (q_Ai e16)).trans s55, ?_, rfl, Or.inr ⟨?_, ri.symm⟩⟩⟩
        · rw [← hrr, ← hn]; exact ⟨hBX, hsz.trans xg, fun j hj => hcp j (by omega), s39, s54.1, s54.2⟩
        · rw [← hn]; exact SZ
        · rw [← hrr, ri]; exact e23
        · rw [← hrr]; exact c
    · refine pc_bq (m_key (by omega) ⟨by omega, by omega⟩) (fun r30 h30 => pc_bq (m_val (by omega) ⟨by omega, by omega⟩) (fun r32 h32 => pc_bn (fun s34 e34 => ?_)))
      rw [tb] at h30 h32
      have k30 : R2 r30 := by
        rw [h30]
        show R2 (if (n - Int.tdiv n 2 + x).toNat < 6 then gA S 49 (21 + 16 * b + (n - Int.tdiv n 2 + x).toNat) else 0)
        rw [if_pos (by omega)]; exact R49 hRS (by omega)
      have k32 : R2 r32 := by
        rw [h32]
        show R2 (if (n - Int.tdiv n 2 + x).toNat < 6 then gA S 49 (27 + 16 * b + (n - Int.tdiv n 2 + x).toNat) else 0)
        rw [if_pos (by omega)]; exact R49 hRS (by omega)
      have W2 := wp_det (w_x12_inserts hRS (p0 := (r : Int)) ⟨by omega, by omega⟩ ⟨hx.1, by rw [tr, hsz]; exact Int.le_refl _⟩ (by rw [tr, hsz]; omega) k30 k32) e34
      rw [tr] at W2
      obtain ⟨hR34, F34, iB, iz, ilo, iat, ihi⟩ := W2
      have TT2 := m_insT (p0 := (r : Int)) (by omega) s34 e34
      rw [tr] at TT2
      refine ih (x + 1) s34 hR34 ((F34.1 55 (by decide)).trans s55) (by omega) (BX_t hBX iB) (by rw [iz, hsz]) (fun j hj => ?_) ((F34.2.1 39 (by decide)).trans s39) ⟨TT2.1, fun y hy => (TT2.2 y hy).trans (s54.2 y hy)⟩
      by_cases z : j = x.toNat
      · rw [z, iat.1, iat.2, h32, h30, (BX_e hBX nrb).1, (BX_e hBX nrb).2, show (n - Int.tdiv n 2 + x).toNat = (n - Int.tdiv n 2).toNat + x.toNat by omega]; exact ⟨rfl, rfl⟩
      · rw [(ilo j (by omega)).1, (ilo j (by omega)).2]; exact hcp j (by omega)
  exact L43 FU 0 o1.2 hRo c1 (by omega) (BX_0 _ _) TK.2.2.2 (fun j hj => absurd hj (by omega)) rfl ⟨T54, fun _ _ => rfl⟩
/-- what the class does -/
def HFc (A B : Nat) (p1 key : Int) (q1 q : Int × MS) : Prop := ∃ s13 s15 s17 s22, m_x1_layEntries (B : Int) (gA q1.2 57 B - Int.tdiv (gA q1.2 57 B) 2) q1.1 q1.2 = some s13 ∧ sA s13 57 (upZ (gA s13 57) B (gA q1.2 57 B - Int.tdiv (gA q1.2 57 B) 2)) = s15 ∧ m_x8_mark (B : Int) s15 = some s17 ∧ m_x8_insert (A : Int) (p1 + 1) (gA s17 58 (6 * q1.1.toNat)) q1.1 s17 = some s22 ∧ q.2 = s22 ∧ ((key < gA s17 58 (6 * q1.1.toNat) ∧ q.1 = (B : Int)) ∨ (¬ key < gA s17 58 (6 * q1.1.toNat) ∧ q.1 = q1.1))
theorem s_half {A B : Nat} {p1 key : Int} {s : MS} : pc (m_x1_split (A : Int) p1 (B : Int) key s) (fun q => ∃ q1, m_x1_take (gA s 56 B) (B : Int) s = some q1 ∧ ((q1.1 = -1 ∧ q.1 = -1) ∨ (q1.1 ≠ -1 ∧ HFc A B p1 key q1 q))) := by
  have tB : ((B : Nat) : Int).toNat = B := Int.toNat_natCast _
  unfold m_x1_split m_x1_split_J123 m_x8_slot
  rw [tB]
  refine pc_rdI (fun _ => ?_)
  rw [tB]
  refine pc_bn (fun q6 e6 => pc_rg (pc_if (fun c => pc_some ⟨q6, e6, Or.inl ⟨c, rfl⟩⟩) (fun c => pc_rdI (fun _ => pc_rdI (fun _ => pc_dv (pc_bn (fun s13 e13 => pc_inb (pc_stn (fun s15 e15 => pc_bn (fun s17 e17 => pc_bn (fun r19 e19 => ?_))))))))))) 
  cases e19
  rw [tB] at e13 e15
  refine pc_rdI (fun g => pc_bn (fun s22 e22 => ?_))
  have ix : (q6.1 * 6 + 0).toNat = 6 * q6.1.toNat := by omega
  rw [ix] at e22 ⊢
  exact pc_rg (pc_rg (pc_if (fun c5 => pc_some ⟨q6, e6, Or.inr ⟨c, s13, s15, s17, s22, e13, e15, e17, e22, rfl, Or.inl ⟨c5, rfl⟩⟩⟩) (fun c5 => pc_some ⟨q6, e6, Or.inr ⟨c, s13, s15, s17, s22, e13, e15, e17, e22, rfl, Or.inr ⟨c5, rfl⟩⟩⟩)))
set_option maxHeartbeats 2000000 in
theorem y_split {π σ : Nat → Nat} {s t : MS} {a b : Nat} {p1 key : Int} {q o : Int × MS} {D : Nat → Int} (h : SIM π σ s t) (hK : KLV t) (hR : Rg s) (hRt : Rr t) (S0 : TS s D (-1)) (hD : ∀ x, x < 48 → 0 ≤ D x) (hN : 0 ≤ gA t 39 5 ∧ gA t 39 5 ≤ 48) (hC : CE t 0) (hE1 : 0 ≤ gI s 581) (h0 : gI t 55 = 0)
    (ha : a < 48) (hb : b < 48) (hab : a ≠ b) (la : LV t a) (lb : LV t b) (hz : 2 ≤ (hM t).2.1 b) (hk : 0 ≤ p1 ∧ p1 < (hM t).2.1 a) (hz5 : (hM t).2.1 a ≤ 5) (hl : 0 < (hM t).1 a) (e1 : m_x1_split (π a : Int) p1 (π b : Int) key s = some q) (e2 : m_x12_half (a : Int) p1 (b : Int) key t = some o) :
    (q.1 = -1 ∧ gI o.2 55 = 1) ∨ (gI o.2 55 = 0 ∧ 0 ≤ q.1 ∧ (0 ≤ o.1 ∧ o.1 < 48) ∧ ∃ π' σ', SIM π' σ' q.2 o.2 ∧ q.1 = (π' o.1.toNat : Int) ∧ ∀ x, x < 48 → LV t x → π' x = π x) := by
  have hP := h.1.1
  have Kb := hK.2.1 b hb lb
  have Ka := hK.2.1 a ha la
  have sz := Kb.1.1.2.1
  have Bb := sim_b h hb lb
  obtain ⟨o1, eo1, O⟩ := m_half hRt hN hC h0 hb lb ⟨Kb.1.1.1, Kb.1.2⟩ ⟨hz, sz.2⟩ o e2
  obtain ⟨q1, eq1, Qc⟩ := s_half q e1
  have lev : gA s 56 (π b) = (hM t).1 b := Bb.1
  rw [lev] at eq1
  have pb48 := (hP b hb).1.1
  have WR1 := wp_det (ts_take hR S0 hD hE1 ⟨Kb.1.1.1, by have := Kb.1.2; omega⟩ (p1 := (π b : Int)) ⟨by omega, by omega⟩) eq1
  obtain ⟨R1, F1, W1⟩ := WR1
  have W2 := wp_det (w_x12_taken hRt hN hC (p0 := (hM t).1 b) (p1 := (b : Int)) ⟨Kb.1.1.1, by have := Kb.1.2; omega⟩ ⟨by omega, by omega⟩) eo1
  have Y := y_take h hK (by rw [h.2.1]; exact hN.2) h0 eq1 eo1 (W1.imp id (fun w => ⟨w.1, w.2.1, w.2.2.1⟩)) W2.2.2
  rcases Y with ⟨y1, y2⟩ | ⟨y1, y2, y3, y3', y4, TK, π1, σ1, H1, y5, y6⟩
  · rcases Qc with ⟨_, z⟩ | ⟨z, _⟩
    · rcases O with ⟨z2, rfl⟩ | ⟨z2, _⟩
      · exact Or.inl ⟨z, y2⟩
      · omega
    · exact absurd y1 z
  rcases Qc with ⟨z, _⟩ | ⟨_, s13, s15, s17, s22, e13, e15, e17, e22, qq, qa⟩
  · omega
  rcases O with ⟨z2, _⟩ | ⟨_, S, u, v, HL, SZ, hRu, u55, ev, oq, oa⟩
  · omega
  obtain ⟨r, hrr⟩ : ∃ r, r = o1.1.toNat := ⟨_, rfl⟩
  obtain ⟨c, hcc⟩ : ∃ c, c = q1.1.toNat := ⟨_, rfl⟩
  rw [← hrr] at TK y4 y5 HL ev oa
  have ri : o1.1 = (r : Int) := by omega
  have ci : q1.1 = (c : Int) := by omega
  rw [ri] at ev oa
  rw [← hcc] at e22 qa
  rw [ci] at e13 e22 qa
  have r48 : r < 48 := by omega
  have cr1 : π1 r = c := by omega
  have P1 := H1.1.1
  have c48 : c < 48 := by rw [← cr1]; exact (P1 r r48).1.1
  have kb : π1 b = π b := y6 b hb lb
  have ka : π1 a = π a := y6 a ha la
  have nbr : b ≠ r := fun e => y4 (by rw [← e]; exact lb)
  have nar : a ≠ r := fun e => y4 (by rw [← e]; exact la)
  have npb : π b ≠ c := fun e => nbr (PB_i P1 hb r48 (by rw [kb, cr1]; exact e))
  have npab : π a ≠ π b := fun e => hab (PB_i hP ha hb e)
  have npa : π a ≠ c := fun e => nar (PB_i P1 ha r48 (by rw [ka, cr1]; exact e))
  obtain ⟨n, hn⟩ : ∃ n, n = (hM t).2.1 b := ⟨_, rfl⟩
  rw [← hn] at HL SZ hz sz
  have td := half_b (z := n) (E := 100) hz sz.2 (by omega)
  obtain ⟨⟨t1, _, t2⟩, t3, _, t5⟩ := td
  -- after the taking
  have same : ∀ x, x ≠ r → (hM o1.2).1 x = (hM t).1 x ∧ (hM o1.2).2.1 x = (hM t).2.1 x ∧ cM o1.2 x = cM t x ∧ vM o1.2 x = vM t x := fun x hx => ⟨TK.1 (19 + 16 * x) (by omega), TK.1 (20 + 16 * x) (by omega), TK.1 (17 + 16 * x) (by omega), TK.1 (18 + 16 * x) (by omega)⟩
  have LVo : ∀ x, x < 48 → LV o1.2 x → x = r ∨ LV t x := fun x _ hl => by
    by_cases e : x = r
    · exact Or.inl e
    · refine Or.inr ?_
      unfold LV at hl ⊢
      rw [← (same x e).2.2.1, ← (same x e).2.2.2]; exact hl
  have LVi : ∀ x, LV t x → LV o1.2 x := fun x hl => by
    have e : x ≠ r := fun e => y4 (by rw [← e]; exact hl)
    unfold LV at hl ⊢
    rw [(same x e).2.2.1, (same x e).2.2.2]; exact hl
  have LVr : LV o1.2 r := Or.inl (by rw [TK.2.1.1]; decide)
  have K1 : ∀ x, x < 48 → LV o1.2 x → 0 ≤ (hM o1.2).2.1 x ∧ (hM o1.2).2.1 x ≤ 6 := fun x hx hl => by
    by_cases e : x = r
    · rw [e, TK.2.2.2]; decide
    · rcases LVo x hx hl with w | w
      · exact absurd w e
      · rw [(same x e).2.1]; exact (hK.2.1 x hx w).1.1.2.1
  have nB : gA q1.2 57 (π b) = n := by
    have B1 := sim_b H1 hb (LVi b lb)
    have z : gA q1.2 57 (π1 b) = (hM o1.2).2.1 b := B1.2.1
    rw [kb, (same b nbr).2.1, ← hn] at z
    exact z
  rw [nB] at e13 e15
  have tpb : ((π b : Nat) : Int).toNat = π b := Int.toNat_natCast _
  have tc : ((c : Nat) : Int).toNat = c := Int.toNat_natCast _
  obtain ⟨R13, l57, l58, l59⟩ := wp_det (w_x1_layEntries R1 (p0 := (π b : Int)) (p2 := (c : Int)) ⟨by omega, by omega⟩ ⟨by omega, by omega⟩ (p1 := n - Int.tdiv n 2) ⟨by omega, by rw [tpb, nB]; omega, by rw [tpb, nB]; exact sz.2⟩) e13
  rw [tpb, tc, nB, show n - (n - Int.tdiv n 2) = Int.tdiv n 2 by omega] at l57 l58 l59
  have F13 : F_x1_layEntries q1.2 s13 := fr_x1_layEntries e13
  obtain ⟨hlB, hlz, hlc, hl39, hl54, hl54'⟩ := HL
  -- the new block's entries
  have mk1 : bW (gL q1.2 1062) c := by
    have w := (H1.2.2 r r48 (by rw [TK.2.1.1]; decide))
    rw [cr1] at w
    refine w.2 ?_
    rcases m_taken h0 o1 eo1 with ⟨z, _⟩ | ⟨_, z⟩
    · omega
    · rw [z, ← hrr, upZ_s]; decide
  have H2 : SIM π1 σ1 s13 S := by
    refine sim_blk H1 K1 r48 (F13.2.1 54 (by decide)) (F13.2.1 55 (by decide)) (F13.2.1 56 (by decide)) (F13.2.1 60 (by decide)) (F13.2.1 61 (by decide)) (F13.1 1060 (by decide)) (fun x hx hn' => by rw [l57, upZ_n (by rw [← cr1]; exact hn')]) (fun x hx hn' k h6 => ?_) hlB hl39 (by rw [l57, cr1, upZ_s, hlz]) (fun k hk' => ?_) LVr (Or.inl ⟨fun x hx => ?_, hl54, hl54'⟩)
    · rw [cr1] at hn'
      rw [l58, l59, cpa_out (by omega), cpa_out (by omega)]
      exact ⟨rfl, rfl⟩
    · rw [hlz] at hk'
      have c2 := hlc k hk'
      have B1 := (sim_b H1 hb (LVi b lb)).2.2 ((n - Int.tdiv n 2).toNat + k) (by rw [(same b nbr).2.1, ← hn]; omega)
      rw [kb] at B1
      have lr : (hM o1.2).1 r = (hM o1.2).1 b := by rw [TK.2.2.1, (same b nbr).1]
      rw [cr1, l58, l59, cpa_at (by omega), cpa_at (by omega), c2.1, c2.2, lr, show 6 * π b + (n - Int.tdiv n 2).toNat + k = 6 * π b + ((n - Int.tdiv n 2).toNat + k) by omega]
      exact B1
    · rw [F13.2.2.1 1062 (by decide), cr1]
      exact ⟨fun w => Or.inr w, fun w => w.elim (fun e => by rw [e]; exact mk1) id⟩
  -- the old one's size
  obtain ⟨szB, szz, szr, sz39, szT⟩ := SZ
  have cS : cM S = cM o1.2 := BX_c hlB
  have vS : vM S = vM o1.2 := BX_v hlB
  have LVS : ∀ x, LV S x → LV o1.2 x := fun x hl => by unfold LV at hl ⊢; rw [← cS, ← vS]; exact hl
  have LVS' : ∀ x, LV o1.2 x → LV S x := fun x hl => by unfold LV at hl ⊢; rw [cS, vS]; exact hl
  have K2 : ∀ x, x < 48 → LV S x → 0 ≤ (hM S).2.1 x ∧ (hM S).2.1 x ≤ 6 := fun x hx hl => by
    by_cases e : x = r
    · rw [e, hlz]; omega
    · rw [BX_z hlB e]; exact K1 x hx (LVS x hl)
  have zbS : (hM S).2.1 b = n := by rw [BX_z hlB nbr, (same b nbr).2.1, hn]
  have g17 : LM s15 s17 (π b) := by
    have m := s_mark (p := (π b : Int)) (s := s15) ⟨by omega, by omega⟩ s17 e17
    rw [tpb] at m; exact m
  have F17 : F_x8_mark s15 s17 := fr_x8_mark e17
  have A17 : ∀ k, k ≠ 57 → gA s17 k = gA s13 k := fun k hk' => (F17.2.1 k (by simp)).trans (q_Aa e15 hk')
  have A57 : gA s17 57 = upZ (gA s13 57) (π b) (n - Int.tdiv n 2) := (F17.2.1 57 (by simp)).trans (q_AA e15)
  have H3 : SIM π1 σ1 s17 u := by
    refine sim_blk H2 K2 hb (A17 54 (by decide)) (A17 55 (by decide)) (A17 56 (by decide)) (A17 60 (by decide)) (A17 61 (by decide)) ((F17.1 1060 (by simp)).trans (q_Ai e15)) (fun x hx hn' => by rw [A57, upZ_n (by rw [← kb]; exact hn')]) (fun x hx hn' k h6 => by rw [A17 58 (by decide), A17 59 (by decide)]; exact ⟨rfl, rfl⟩) szB sz39 (by rw [A57, kb, upZ_s, szz]) (fun k hk' => ?_) (LVS' b (LVi b lb)) (Or.inl ⟨?_, szT⟩)
    · rw [szz] at hk'
      rw [(szr k).1, (szr k).2, A17 58 (by decide), A17 59 (by decide)]
      exact (sim_b H2 hb (LVS' b (LVi b lb))).2.2 k (by rw [zbS]; omega)
    · rw [kb]
      exact LM_e g17 (q_Al e15)
  -- the entry above
  have cU : cM u = cM S := BX_c szB
  have vU : vM u = vM S := BX_v szB
  have LVU : ∀ x, LV u x → LV S x := fun x hl => by unfold LV at hl ⊢; rw [← cU, ← vU]; exact hl
  have LVU' : ∀ x, LV t x → LV u x := fun x hl => by
    have w := LVS' x (LVi x hl)
    unfold LV at w ⊢; rw [cU, vU]; exact w
  have K3 : ∀ x, x < 48 → LV u x → 0 ≤ (hM u).2.1 x ∧ (hM u).2.1 x ≤ 6 := fun x hx hl => by
    by_cases e : x = b
    · rw [e, szz]; omega
    · rw [BX_z szB e]; exact K2 x hx (LVU x hl)
  have zaU : (hM u).2.1 a = (hM t).2.1 a := by rw [BX_z szB hab, BX_z hlB nar, (same a nar).2.1]
  have laU : (hM u).1 a = (hM t).1 a := by rw [BX_l szB, BX_l hlB, (same a nar).1]
  have LrU : LV u r := by
    have w := LVS' r LVr
    unfold LV at w ⊢; rw [cU, vU]; exact w
  have zrU : (hM u).2.1 r = Int.tdiv n 2 := by rw [BX_z szB (fun e => nbr e.symm), hlz]
  have kr := ((sim_b H3 r48 LrU).2.2 0 (by rw [zrU]; omega)).1
  rw [cr1] at kr
  have kr' : gA s17 58 (6 * c) = kM u r 0 := kr
  have hR15 : Rg s15 := e15 ▸ Rg.uAu R13 (by show (-1 : Int) ≤ n - Int.tdiv n 2 ∧ n - Int.tdiv n 2 ≤ 255; omega)
  have hR17 : Rg s17 := wp_det (w_x8_mark hR15 (by omega)) e17
  rw [kr', ← ka] at e22
  have rk : (-257 : Int) ≤ gA s17 58 (6 * c) ∧ gA s17 58 (6 * c) ≤ 65535 := hR17.2.1 58 _ (by show _ < 288; omega)
  rw [kr'] at rk
  have Y3 := y_ins H3 K3 hR17 hRu ha (LVU' a la) ⟨by omega, by rw [zaU]; omega⟩ (by rw [zaU]; exact hz5) rk (v1 := (c : Int)) (v2 := (r : Int)) ⟨by omega, by omega⟩ ⟨by omega, by omega⟩ ⟨fun _ => by rw [Int.toNat_natCast, cr1], fun w => by rw [laU] at w; omega⟩ e22 ev
  obtain ⟨H4, BXa, _⟩ := Y3
  have kv : kM v r 0 = kM u r 0 := (BX_e (j := 0) BXa (fun e => nar e.symm)).2
  have v55 : gI v 55 = 0 := by
    have Fv : F_x12_inserts u v := fr_x12_inserts ev
    exact (Fv.1 55 (by decide)).trans u55
  refine Or.inr ⟨by rw [oq]; exact v55, ?_⟩
  rw [kr'] at qa
  rw [kv] at oa
  rcases qa with ⟨x1, x2⟩ | ⟨x1, x2⟩
  · rcases oa with ⟨z1, z2⟩ | ⟨z1, _⟩
    · refine ⟨by rw [x2]; omega, by rw [z2]; omega, π1, σ1, by rw [qq, oq]; exact H4, ?_, y6⟩
      rw [x2, z2, Int.toNat_natCast, kb]
    · exact absurd x1 z1
  · rcases oa with ⟨z1, _⟩ | ⟨_, z2⟩
    · exact absurd z1 x1
    · refine ⟨by rw [x2]; omega, by rw [z2]; omega, π1, σ1, by rw [qq, oq]; exact H4, ?_, y6⟩
      rw [x2, z2, Int.toNat_natCast, cr1]
