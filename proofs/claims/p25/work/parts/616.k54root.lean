/-! ===== a root rises on both sides ===== -/
theorem KLV_take {t o : MS} {r : Nat} {l : Int} (hK : KLV t) (TK : TkE t o r l) (nl : ¬ LV t r) (hl : 0 ≤ l ∧ l ≤ 48) (h39 : gA o 39 = gA t 39) : KLV o := by
  have same : ∀ x, x ≠ r → (hM o).1 x = (hM t).1 x ∧ (hM o).2.1 x = (hM t).2.1 x ∧ cM o x = cM t x ∧ vM o x = vM t x := fun x hx => ⟨TK.1 (19 + 16 * x) (by omega), TK.1 (20 + 16 * x) (by omega), TK.1 (17 + 16 * x) (by omega), TK.1 (18 + 16 * x) (by omega)⟩
  have vals : ∀ x, x ≠ r → ∀ k, (hM o).2.2 x k = (hM t).2.2 x k := fun x hx k => by
    show (if k < 6 then gA o 49 (27 + 16 * x + k) else 0) = if k < 6 then gA t 49 (27 + 16 * x + k) else 0
    by_cases z : k < 6
    · rw [if_pos z, if_pos z, TK.1 _ (by omega)]
    · rw [if_neg z, if_neg z]
  have up : ∀ x, LV t x → LV o x ∧ x ≠ r := fun x hl => by
    have e : x ≠ r := fun e => nl (by rw [← e]; exact hl)
    refine ⟨?_, e⟩
    unfold LV at hl ⊢
    rw [(same x e).2.2.1, (same x e).2.2.2]; exact hl
  have dn : ∀ x, x ≠ r → LV o x → LV t x := fun x e hl => by
    unfold LV at hl ⊢
    rw [← (same x e).2.2.1, ← (same x e).2.2.2]; exact hl
  refine ⟨fun x hx => ?_, fun x hx hl' => ?_, fun v hv h0 h1 => ?_⟩
  · by_cases e : x = r
    · rw [e, TK.2.1.1, TK.2.1.2]; decide
    · rw [(same x e).2.2.1, (same x e).2.2.2]; exact hK.1 x hx
  · rw [h39]
    by_cases e : x = r
    · rw [e]
      refine ⟨⟨⟨by rw [TK.2.2.1]; exact hl.1, by rw [TK.2.2.2]; decide, fun _ k hk => ?_⟩, by rw [TK.2.2.1]; exact hl.2⟩, fun _ k hk => ?_⟩
      · rw [TK.2.2.2] at hk; omega
      · rw [TK.2.2.2] at hk; omega
    · have q := hK.2.1 x hx (dn x e hl')
      have s := same x e
      refine ⟨⟨Nd_ext q.1.1 s.1 s.2.1 (fun k _ => vals x e k) (fun w k hk => (same _ (up _ (q.2 w k hk).2).2).1), by rw [s.1]; exact q.1.2⟩, fun w k hk => ?_⟩
      rw [s.1] at w
      rw [s.2.1] at hk
      rw [vals x e k]
      exact ⟨(q.2 w k hk).1, (up _ (q.2 w k hk).2).1⟩
  · have e := TK.1 v (by omega)
    rw [e] at h0 h1 ⊢
    exact (up _ (hK.2.2 v hv h0 h1)).1
theorem KLV_ins {t o : MS} {a k : Nat} {key val : Int} (hK : KLV t) (I : InsE t o a k key val) (h39 : gA o 39 = gA t 39) (hz5 : (hM t).2.1 a ≤ 5) (hk : (k : Int) ≤ (hM t).2.1 a) (hv : 0 < (hM t).1 a → ((0 ≤ val ∧ val < gA t 39 5) ∧ val < 48) ∧ (hM t).1 val.toNat = (hM t).1 a - 1 ∧ LV t val.toNat) : KLV o := by
  obtain ⟨B, z, i1, i2, i3⟩ := I
  have c := BX_c B
  have v' := BX_v B
  have l := BX_l B
  have LE : ∀ x, LV o x ↔ LV t x := fun x => by unfold LV; rw [c, v']
  refine ⟨fun x hx => by rw [c, v']; exact hK.1 x hx, fun x hx hl => ?_, fun u hu h0 h1 => ?_⟩
  · have hl' := (LE x).1 hl
    have q := hK.2.1 x hx hl'
    rw [h39]
    by_cases e : x = a
    · rw [e] at q ⊢
      have key' : 0 < (hM t).1 a → ∀ j : Nat, (j : Int) < (hM t).2.1 a + 1 → ((0 ≤ (hM o).2.2 a j ∧ (hM o).2.2 a j < gA t 39 5) ∧ (hM o).2.2 a j < 48) ∧ (hM t).1 ((hM o).2.2 a j).toNat = (hM t).1 a - 1 ∧ LV t ((hM o).2.2 a j).toNat := fun w j hj => by
        rcases Nat.lt_trichotomy j k with g | g | g
        · rw [(i1 j g).1]
          have n := q.1.1.2.2 w j (by omega)
          have m := q.2 w j (by omega)
          exact ⟨⟨n.1, m.1.2⟩, n.2, m.2⟩
        · rw [g, i2.1]; exact hv w
        · obtain ⟨j', hj'⟩ : ∃ j', j = j' + 1 := ⟨j - 1, by omega⟩
          rw [hj', (i3 j' (by omega) (by omega)).1]
          have n := q.1.1.2.2 w j' (by omega)
          have m := q.2 w j' (by omega)
          exact ⟨⟨n.1, m.1.2⟩, n.2, m.2⟩
      have q1 := q.1.1.1
      have q2 := q.1.1.2.1
      refine ⟨⟨⟨by rw [l]; exact q1, by rw [z]; omega, fun w j hj => ?_⟩, by rw [l]; exact q.1.2⟩, fun w j hj => ?_⟩
      · rw [l] at w ⊢
        rw [z] at hj
        have r := key' w j hj
        exact ⟨r.1.1, r.2.1⟩
      · rw [l] at w
        rw [z] at hj
        have r := key' w j hj
        exact ⟨⟨r.1.1.1, r.1.2⟩, (LE _).2 r.2.2⟩
    · have s := BX_z B e
      refine ⟨⟨Nd_ext q.1.1 (by rw [l]) s (fun j _ => (BX_e B e).1) (fun _ _ _ => by rw [l]), by rw [l]; exact q.1.2⟩, fun w j hj => ?_⟩
      rw [l] at w
      rw [s] at hj
      rw [(BX_e (j := j) B e).1]
      exact ⟨(q.2 w j hj).1, (LE _).2 (q.2 w j hj).2⟩
  · by_cases hu17 : u < 17
    · rw [BX_u B hu17] at h0 h1 ⊢
      exact (LE _).2 (hK.2.2 u hu h0 h1)
    · omega
theorem KLV_root {t o : MS} {v : Nat} {q : Int} (hK : KLV t) (hv : v < 8) (e : gA o 49 = upZ (gA t 49) v q) (h39 : gA o 39 = gA t 39) (hq : 0 ≤ q → q < 48 → LV t q.toNat) : KLV o := by
  obtain ⟨⟨m1, m2⟩, ⟨m3, m4⟩, _⟩ := M_root hv e
  have LE : ∀ x, LV o x ↔ LV t x := fun x => by unfold LV; rw [m3, m4]
  refine ⟨fun x hx => by rw [m3, m4]; exact hK.1 x hx, fun x hx hl => ?_, fun u hu h0 h1 => ?_⟩
  · have r := hK.2.1 x hx ((LE x).1 hl)
    rw [m1, h39]
    exact ⟨r.1, fun w k hk => ⟨(r.2 w k hk).1, (LE _).2 (r.2 w k hk).2⟩⟩
  · rw [e] at h0 h1 ⊢
    by_cases z : u = v
    · rw [z, upZ_s] at h0 h1 ⊢
      exact (LE _).2 (hq h0 h1)
    · rw [upZ_n z] at h0 h1 ⊢
      exact (LE _).2 (hK.2.2 u hu h0 h1)
theorem sim_root {π σ : Nat → Nat} {s s' t t' : MS} {v : Nat} {q1 q2 : Int} (h : SIM π σ s t) (hv : v < 8) (a : ∀ k, 54 ≤ k → k ≤ 61 → k ≠ 60 → gA s' k = gA s k) (a60 : gA s' 60 = upZ (gA s 60) v q1) (a2 : gI s' 1060 = gI s 1060) (a3 : gL s' 1062 = gL s 1062) (b : gA t' 49 = upZ (gA t 49) v q2) (b2 : gA t' 39 5 = gA t 39 5) (b3 : gA t' 54 = gA t 54) (hr : rtr π q1 q2) : SIM π σ s' t' := by
  obtain ⟨⟨p, c, l, r⟩, n, w⟩ := h
  obtain ⟨⟨m1, m2⟩, ⟨m3, m4⟩, _⟩ := M_root hv b
  have e1 : hB s' 54 = hB s 54 := by
    unfold hB
    rw [a (54 + 2) (by decide) (by decide) (by decide), a (54 + 3) (by decide) (by decide) (by decide), a (54 + 5) (by decide) (by decide) (by decide)]
  have e2 : kB s' 54 = kB s 54 := by
    unfold kB
    rw [a (54 + 4) (by decide) (by decide) (by decide)]
  refine ⟨⟨by rw [a2]; exact p, fun x hx => ?_, fun x hx q => ?_, fun u hu => ?_⟩, by rw [a2, b2]; exact n, fun x hx q => ?_⟩
  · show gA s' 54 (π x) = cM t' x ∧ gA s' 55 (π x) = vM t' x
    rw [a 54 (by decide) (by decide) (by decide), a 55 (by decide) (by decide) (by decide), m3, m4]
    exact c x hx
  · show BR1 π (hB s' 54) (hM t') (kB s' 54) (kM t') x
    have q' : 0 < cM t' x ∨ 0 < vM t' x := q
    rw [m3, m4] at q'
    rw [e1, e2, m1, m2]
    exact l x hx q'
  · show rtr π (gA s' 60 u) (gA t' 49 u) ∧ rtr π (gA s' 61 u) (gA t' 49 (8 + u))
    rw [a60, a 61 (by decide) (by decide) (by decide), b, upZ_n (show 8 + u ≠ v by omega)]
    by_cases z : u = v
    · rw [z, upZ_s, upZ_s]
      exact ⟨hr, by have := (r v hv).2; exact this⟩
    · rw [upZ_n z, upZ_n z]; exact r u hu
  · rw [a3, b3]
    rw [m3] at q
    exact w x hx q
/-- what the reference does -/
theorem m_root {b v : Nat} {key : Int} {t : MS} : pc (m_x12_rootSplit (v : Int) (b : Int) key t) (fun o => ∃ o1, m_x12_taken ((hM t).1 b + 1) 48 t = some o1 ∧ ((gI o1.2 55 ≠ 0 ∧ o = ((b : Int), o1.2)) ∨ (gI o1.2 55 = 0 ∧ ∃ u w, m_x12_inserts o1.1 0 (kM o1.2 b 0) (b : Int) o1.2 = some u ∧ sA u 49 (upZ (gA u 49) v o1.1) = w ∧ m_x12_half o1.1 0 (b : Int) key w = some o))) := by
  have tb : ((b : Nat) : Int).toNat = b := Int.toNat_natCast _
  have tv : ((v : Nat) : Int).toNat = v := Int.toNat_natCast _
  unfold m_x12_rootSplit
  refine pc_bq (m_lev (by omega)) (fun r2 h2 => pc_bn (fun o1 e1 => pc_rg (pc_if (fun c => ?_) (fun c => pc_some ?_))))
  · rw [tb] at h2
    rw [h2] at e1
    refine pc_bq (m_key (by omega) (by decide)) (fun r9 h9 => pc_bn (fun u eu => pc_inb (pc_stn (fun w ew => pc_bn (fun o16 e16 => pc_some ?_)))))
    rw [tb] at h9
    rw [h9] at eu
    rw [tv] at ew
    exact ⟨o1, e1, Or.inr ⟨c, u, w, eu, ew, e16⟩⟩
  · rw [tb] at h2
    rw [h2] at e1
    exact ⟨o1, e1, Or.inl ⟨c, rfl⟩⟩
/-- what the class does -/
theorem s_root {B v : Nat} {s : MS} (hr : gA s 60 v = (B : Int)) : pc (m_x1_raiseRoot (v : Int) s) (fun q => ∃ q1, m_x1_take (gA s 56 B + 1) (B : Int) s = some q1 ∧ ((q1.1 = -1 ∧ q.1 = -1) ∨ (q1.1 ≠ -1 ∧ ∃ s14, m_x8_insert q1.1 0 (gA q1.2 58 (6 * B)) (B : Int) q1.2 = some s14 ∧ sA s14 60 (upZ (gA s14 60) v q1.1) = q.2 ∧ q.1 = q1.1))) := by
  have tB : ((B : Nat) : Int).toNat = B := Int.toNat_natCast _
  have tv : ((v : Nat) : Int).toNat = v := Int.toNat_natCast _
  unfold m_x1_raiseRoot m_x1_raiseRoot_J69 m_x8_slot
  refine pc_rdI (fun _ => ?_)
  rw [tv, hr]
  refine pc_rdI (fun _ => ?_)
  rw [tB]
  refine pc_bn (fun q7 e7 => pc_rg (pc_if (fun c => pc_some ⟨q7, e7, Or.inl ⟨c, c⟩⟩) (fun c => pc_bn (fun r11 e11 => ?_))))
  cases e11
  refine pc_rdI (fun _ => pc_bn (fun s14 e14 => pc_inb (pc_stn (fun s16 e16 => pc_some ?_))))
  rw [show ((B : Int) * 6 + 0).toNat = 6 * B by omega] at e14
  exact ⟨q7, e7, Or.inr ⟨c, s14, e14, e16, rfl⟩⟩
set_option maxHeartbeats 2000000 in
theorem y_raise {π σ : Nat → Nat} {s t : MS} {b v : Nat} {key : Int} {q o : Int × MS} {D : Nat → Int} (h : SIM π σ s t) (hK : KLV t) (hR : Rg s) (hRt : Rr t) (S0 : TS s D (-1)) (hD : ∀ x, x < 48 → 0 ≤ D x) (hN : 0 ≤ gA t 39 5 ∧ gA t 39 5 ≤ 48) (hC : CE t 0) (hE1 : 0 ≤ gI s 581) (h0 : gI t 55 = 0) (hv : v < 8)
    (hb : b < 48) (lb : LV t b) (hl : (hM t).1 b ≤ 47) (hz : 1 ≤ (hM t).2.1 b) (hr : gA s 60 v = (π b : Int)) (e1 : m_x1_raiseRoot (v : Int) s = some q) (e2 : m_x12_rootSplit (v : Int) (b : Int) key t = some o) :
    (q.1 = -1 ∧ gI o.2 55 = 1) ∨ (q.1 ≠ -1 ∧ ∃ r w π1 σ1, r < 48 ∧ SIM π1 σ1 q.2 w ∧ q.1 = (π1 r : Int) ∧ (∀ x, x < 48 → LV t x → π1 x = π x) ∧ KLV w ∧ Rr w ∧ (gA w 39 = gA t 39 ∧ ∀ k, 42 ≤ k → k ≤ 44 → gA w k = gA t k) ∧ gI w 55 = 0 ∧ LV w r ∧ (hM w).2.1 r = 1 ∧ (hM w).1 r = (hM t).1 b + 1 ∧ (b ≠ r ∧ LV w b ∧ (hM w).2.1 b = (hM t).2.1 b ∧ (hM w).1 b = (hM t).1 b) ∧ ((hM w).2.2 r 0 = (b : Int) ∧ ¬ LV t r ∧ (∀ x, x ≠ r → ROW t x w x) ∧ ∀ x, x < 48 → LV w x → x = r ∨ LV t x) ∧ m_x12_half (r : Int) 0 (b : Int) key w = some o) := by
  have hP := h.1.1
  have Kb := hK.2.1 b hb lb
  have Bb := sim_b h hb lb
  have lev : gA s 56 (π b) = (hM t).1 b := Bb.1
  have pb48 := (hP b hb).1.1
  have tpb : ((π b : Nat) : Int).toNat = π b := Int.toNat_natCast _
  obtain ⟨o1, eo1, O⟩ := m_root o e2
  obtain ⟨q1, eq1, Qc⟩ := s_root hr q e1
  rw [lev] at eq1
  have l0 := Kb.1.1.1
  obtain ⟨R1, F1, W1⟩ := wp_det (ts_take hR S0 hD hE1 (p0 := (hM t).1 b + 1) ⟨by omega, by omega⟩ (p1 := (π b : Int)) ⟨by omega, by omega⟩) eq1
  obtain ⟨Ro, _, W2⟩ := wp_det (w_x12_taken hRt hN hC (p0 := (hM t).1 b + 1) (p1 := 48) ⟨by omega, by omega⟩ ⟨by omega, by omega⟩) eo1
  have Fo : F_x12_taken t o1.2 := fr_x12_taken eo1
  have Y := y_take h hK (by rw [h.2.1]; exact hN.2) h0 eq1 eo1 (W1.imp id (fun w => ⟨w.1, w.2.1, w.2.2.1⟩)) W2
  rcases Y with ⟨y1, y2⟩ | ⟨y1, y2, y3, y3', y4, TK, π1, σ1, H1, y5, y6⟩
  · rcases Qc with ⟨_, z⟩ | ⟨z, _⟩
    · rcases O with ⟨_, rfl⟩ | ⟨z2, _⟩
      · exact Or.inl ⟨z, y2⟩
      · omega
    · exact absurd y1 z
  rcases Qc with ⟨z, _⟩ | ⟨_, s14, e14, e16, qa⟩
  · omega
  rcases O with ⟨z2, _⟩ | ⟨_, u, w, eu, ew, eh⟩
  · exact absurd y1 z2
  obtain ⟨r, hrr⟩ : ∃ r, r = o1.1.toNat := ⟨_, rfl⟩
  rw [← hrr] at TK y4 y5
  have ri : o1.1 = (r : Int) := by omega
  rw [ri] at eu ew eh
  rw [y5] at e14 e16 qa
  have r48 : r < 48 := by omega
  have P1 := H1.1.1
  have pr48 := (P1 r r48).1.1
  have tr : ((r : Nat) : Int).toNat = r := Int.toNat_natCast _
  have kb : π1 b = π b := y6 b hb lb
  have nbr : b ≠ r := fun e => y4 (by rw [← e]; exact lb)
  have K1 := KLV_take hK TK y4 ⟨by omega, by omega⟩ (Fo.2.1 39 (by decide))
  have sb1 : (hM o1.2).1 b = (hM t).1 b ∧ (hM o1.2).2.1 b = (hM t).2.1 b ∧ cM o1.2 b = cM t b ∧ vM o1.2 b = vM t b := ⟨TK.1 (19 + 16 * b) (by omega), TK.1 (20 + 16 * b) (by omega), TK.1 (17 + 16 * b) (by omega), TK.1 (18 + 16 * b) (by omega)⟩
  have lb1 : LV o1.2 b := by
    unfold LV at lb ⊢
    rw [sb1.2.2.1, sb1.2.2.2]; exact lb
  have lr1 : LV o1.2 r := Or.inl (by rw [TK.2.1.1]; decide)
  have k0 := ((sim_b H1 hb lb1).2.2 0 (by rw [sb1.2.1]; omega)).1
  rw [kb] at k0
  have k0' : gA q1.2 58 (6 * π b) = kM o1.2 b 0 := k0
  have rk : (-257 : Int) ≤ gA q1.2 58 (6 * π b) ∧ gA q1.2 58 (6 * π b) ≤ 65535 := R1.2.1 58 _ (by show _ < 288; omega)
  rw [k0'] at e14 rk
  have rb : LV o1.2 ((b : Nat) : Int).toNat := by rw [Int.toNat_natCast]; exact lb1
  have bN : (b : Int) < gA o1.2 39 5 := by
    rw [Fo.2.1 39 (by decide), ← h.2.1]
    refine (hP b hb).2.2.1 ?_
    have nl := (S0.1.2.1 (π b) pb48).2.1
    have ns := (S0.1.2.2.1 (π b) pb48).2.1
    have cb := sim_c h hb
    unfold LV at lb
    omega
  have Y2 := y_ins H1 (fun x hx hl => (K1.2.1 x hx hl).1.1.2.1) R1 Ro r48 lr1 (p1 := 0) (key := kM o1.2 b 0) (v1 := (π b : Int)) (v2 := (b : Int)) ⟨Int.le_refl 0, by rw [TK.2.2.2]; decide⟩ (by rw [TK.2.2.2]; decide) rk ⟨by omega, by omega⟩ ⟨by omega, by omega⟩ ⟨fun _ => by rw [Int.toNat_natCast, kb], fun w => by rw [TK.2.2.1] at w; omega⟩ e14 eu
  obtain ⟨H2, BXu, zu⟩ := Y2
  have WI := wp_det (w_x12_inserts Ro (p0 := (r : Int)) (p1 := 0) (p2 := kM o1.2 b 0) (p3 := (b : Int)) ⟨by omega, by omega⟩ ⟨Int.le_refl 0, by rw [tr, TK.2.2.2]; decide⟩ (by rw [tr, TK.2.2.2]; decide) ⟨by omega, by omega⟩ ⟨by omega, by omega⟩) eu
  rw [tr] at WI
  obtain ⟨Ru, Fu, Iu⟩ := WI
  have K2 := KLV_ins K1 Iu (Fu.2.1 39 (by decide)) (by rw [TK.2.2.2]; decide) (by rw [TK.2.2.2]; decide) (fun _ => ⟨⟨⟨by omega, bN⟩, by omega⟩, by rw [Int.toNat_natCast, sb1.1, TK.2.2.1]; omega, rb⟩)
  have lru : LV u r := by unfold LV; rw [BX_c BXu, BX_v BXu]; exact lr1
  have lbu : LV u b := by unfold LV; rw [BX_c BXu, BX_v BXu]; exact lb1
  have w49 : gA w 49 = upZ (gA u 49) v (r : Int) := q_AA ew
  have wA : ∀ k, k ≠ 49 → gA w k = gA u k := fun k hk => q_Aa ew hk
  have K3 : KLV w := KLV_root K2 hv w49 (wA 39 (by decide)) (fun _ _ => by rw [tr]; exact lru)
  obtain ⟨⟨m1, m2⟩, ⟨m3, m4⟩, _⟩ := M_root hv w49
  have Rw : Rr w := ew ▸ Rr.uAu Ru (by show (-2147483648 : Int) ≤ (r : Int) ∧ (r : Int) ≤ 2147483647; omega)
  have H3 : SIM π1 σ1 q.2 w := sim_root H2 hv (fun k k1 k2 k3 => q_Aa e16 k3) (q_AA e16) (q_Ai e16) (q_Al e16) w49 (by rw [wA 39 (by decide)]) (wA 54 (by decide)) (Or.inr (Or.inr ⟨by omega, by omega, by rw [tr]⟩))
  have LVw : ∀ x, LV u x → LV w x := fun x hl => by unfold LV at hl ⊢; rw [m3, m4]; exact hl
  refine Or.inr ⟨by rw [qa]; omega, r, w, π1, σ1, r48, H3, qa, y6, K3, Rw, ⟨?_, fun k k1 k2 => ?_⟩, ?_, LVw r lru, ?_, ?_, ⟨nbr, LVw b lbu, ?_, ?_⟩, ⟨?_, y4, fun x hx => ?_, fun x hx hl => ?_⟩, eh⟩
  · rw [wA 39 (by decide), Fu.2.1 39 (by decide)]; exact Fo.2.1 39 (by decide)
  · rw [wA k (by omega), Fu.2.1 k (by simp; omega)]; exact Fo.2.1 k (by simp; omega)
  · rw [(q_Ai ew : gI w 55 = gI u 55), Fu.1 55 (by decide)]; exact y1
  · rw [m1, zu, TK.2.2.2]; decide
  · rw [m1, BX_l BXu, TK.2.2.1]
  · rw [m1, BX_z BXu nbr]; exact sb1.2.1
  · rw [m1, BX_l BXu]; exact sb1.1
  · rw [m1]; exact Iu.2.2.2.1.1
  · exact ROW_t (ROW_t (ROW_tk TK hx) (ROW_bx BXu hx)) ⟨by rw [m1], by rw [m1], fun k => by rw [m1, m2]; exact ⟨rfl, rfl⟩⟩
  · by_cases e : x = r
    · exact Or.inl e
    · refine Or.inr ?_
      unfold LV at hl ⊢
      rw [m3, m4, BX_c BXu, BX_v BXu] at hl
      have c1 : cM o1.2 x = cM t x := TK.1 (17 + 16 * x) (by omega)
      have c2 : vM o1.2 x = vM t x := TK.1 (18 + 16 * x) (by omega)
      rw [← c1, ← c2]; exact hl
