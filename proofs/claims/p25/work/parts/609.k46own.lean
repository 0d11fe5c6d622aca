/-! ===== what is OWNED has a name on both sides ===== -/
theorem cpa_at {f g : Nat → Int} {sp dp n k : Nat} (h : k < n) : va_cpy f g sp dp n (dp + k) = f (sp + k) := by
  unfold va_cpy
  rw [if_pos (by omega), show sp + (dp + k - dp) = sp + k by omega]
theorem cpa_out {f g : Nat → Int} {sp dp n k : Nat} (h : k < dp ∨ dp + n ≤ k) : va_cpy f g sp dp n k = g k := by
  unfold va_cpy
  rw [if_neg (by omega)]
set_option maxHeartbeats 2000000 in
theorem y_ownB {π σ : Nat → Nat} {s t : MS} {p p' : Int} {q o : Int × MS} {v : Nat} {M : Nat → Nat → Int} (h : SIM π σ s t) (hK : KLV t) (hR : Rg s) (hRt : Rr t) (S0 : TS s Z0 (-1)) (T0 : TM t d0 (-1)) (hC : CE t 0) (hE1 : 0 ≤ gI s 581) (hE2 : 0 ≤ gA t 39 6) (h0 : gI t 55 = 0)
    (hp' : 0 ≤ p' ∧ p' < 48) (hpp : p = (π p'.toNat : Int)) (hc : 0 < cM t p'.toNat) (e1 : m_x1_owned p s = some q) (e2 : m_x12_owned p' t = some o)
    (w1 : q.1 = -1 ∨ (0 ≤ q.1 ∧ OwnP s q.2 p.toNat q.1.toNat Z0))
    (w2 : (gI o.2 55 = 1 ∧ o.1 = p') ∨ (gI o.2 55 = 0 ∧ 0 ≤ o.1 ∧ ∃ M', OwnM t o.2 v M M' p'.toNat o.1.toNat)) :
    (q.1 = -1 ∧ gI o.2 55 = 1) ∨ (gI o.2 55 = 0 ∧ 0 ≤ q.1 ∧ 0 ≤ o.1 ∧ ∃ π' σ', SIM π' σ' q.2 o.2 ∧ q.1 = (π' o.1.toNat : Int) ∧ (∀ x, x < 48 → LV t x → π' x = π x) ∧ CPY t o.2 p'.toNat o.1.toNat) := by
  have hP := h.1.1
  have hN0 := T0.1.1
  have hb := h.2.1
  obtain ⟨b, hbb⟩ : ∃ b, b = p'.toNat := ⟨_, rfl⟩
  have hb48 : b < 48 := by omega
  have pb := (hP b hb48).1.1
  have pn : p.toNat = π b := by rw [hpp, ← hbb]; omega
  have pi : p = (π b : Int) := by rw [hpp, ← hbb]
  have lb : LV t b := Or.inl (by rw [hbb]; exact hc)
  have cb := sim_c h hb48
  have BB := sim_b h hb48 lb
  have KB := hK.2.1 b hb48 lb
  have ltN : (π b : Int) < gI s 1060 := by
    rw [(hP b hb48).2.2, hb]
    have := (T0.1.2.1 b hb48).2.1
    have c' : 0 < cM t b := by rw [hbb]; exact hc
    omega
  have hNn : 0 ≤ gA t 39 5 := by
    have w := (T0.1.2.1 b hb48).2.1
    have c' : 0 < cM t b := by rw [hbb]; exact hc
    omega
  have hq : ∀ o1, m_x12_taken ((hM t).1 p'.toNat) p' t = some o1 → gI o1.2 55 = 0 → (0 ≤ o1.1 ∧ o1.1 < gA t 39 5) ∧ (cM t o1.1.toNat ≤ 0 ∧ vM t o1.1.toNat ≤ 0) ∧ TkE t o1.2 o1.1.toNat ((hM t).1 p'.toNat) := fun o1 eo z => by
    have lv := KB.1
    rw [hbb] at lv
    have W := (wp_det (w_x12_taken hRt ⟨hNn, hN0⟩ hC ⟨lv.1.1, by omega⟩ ⟨hp'.1, by omega⟩) eo).2.2
    rcases W with w | w
    · omega
    · exact w.2
  have g1 := s_own (by omega) q e1
  have g2 := m_own hp'.1 h0 (fun o1 eo z => by
    have w := hq o1 eo z
    refine ⟨w.1.1, fun e => ?_, ?_⟩
    · rw [e] at w; have := w.2.1.1; omega
    · rw [← hbb]
      have ne : o1.1.toNat ≠ b := fun e => by rw [e] at w; have := w.2.1.1; rw [hbb] at this; omega
      have : (hM o1.2).2.1 b = (hM t).2.1 b := w.2.2.1 (20 + 16 * b) (by omega)
      rw [this]; exact KB.1.1.2.1.2) o e2
  rw [pn] at g1
  rw [← hbb] at g2
  rcases g1 with ⟨a1, rfl⟩ | ⟨a1, q1, eq1, a2⟩
  · rcases g2 with ⟨a3, rfl⟩ | ⟨a3, _⟩
    · refine Or.inr ⟨h0, by show 0 ≤ p; omega, hp'.1, π, σ, h, ?_, fun _ _ _ => rfl, ROW_rf _ _, fun _ _ => ROW_rf _ _, fun _ _ hl => Or.inr hl, Or.inl rfl⟩
      show p = (π p'.toNat : Int)
      exact hpp
    · exact absurd ⟨⟨by have := a1.1.2.1; omega, by have := a1.1.2.2; omega⟩, by have := a1.2; omega⟩ a3
  · rcases g2 with ⟨a3, _⟩ | ⟨_, o1, eo1, a4⟩
    · exact absurd ⟨⟨⟨by omega, by omega⟩, by rw [cb.1]; exact a3.1.1, by rw [cb.2]; exact a3.1.2⟩, by rw [cb.1]; exact a3.2⟩ a1
    have lev : gA s 56 (π b) = (hM t).1 b := BB.1
    rw [lev] at eq1
    have lvb := KB.1
    have W1 := (wp_det (ts_take hR S0 zZ hE1 ⟨lvb.1.1, by omega⟩ (p1 := p) ⟨by omega, by omega⟩) eq1).2.2
    have W1' : q1.1 = -1 ∨ ((0 ≤ q1.1 ∧ q1.1 < gI s 1060) ∧ (gA s 54 q1.1.toNat = 0 ∧ gA s 55 q1.1.toNat = 0) ∧ (gA q1.2 54 = upZ (gA s 54) q1.1.toNat 1 ∧ gA q1.2 56 = upZ (gA s 56) q1.1.toNat ((hM t).1 b) ∧ gA q1.2 57 = upZ (gA s 57) q1.1.toNat 0)) := W1.imp id (fun w => ⟨w.1, w.2.1, w.2.2.1⟩)
    have hq' := hq
    rw [← hbb] at hq'
    have Y := y_take h hK (by rw [hb]; exact hN0) h0 eq1 eo1 W1' (by
      have W := (wp_det (w_x12_taken hRt ⟨hNn, hN0⟩ hC ⟨lvb.1.1, by omega⟩ ⟨hp'.1, by omega⟩) eo1).2.2
      exact W)
    rcases Y with ⟨y1, y2⟩ | ⟨y1, y2, y3, y3', y4, TK, π1, σ1, H1, y5, y6⟩
    · rcases a2 with ⟨_, z⟩ | ⟨z, _⟩
      · rcases a4 with ⟨_, rfl⟩ | ⟨w, _⟩
        · exact Or.inl ⟨z, y2⟩
        · omega
      · exact absurd y1 z
    rcases a2 with ⟨z, _⟩ | ⟨_, O1⟩
    · omega
    rcases a4 with ⟨z, _⟩ | ⟨_, oo, O2⟩
    · exact absurd y1 z
    obtain ⟨qq, s2, el, lA, lI, lL, lc⟩ := O1
    obtain ⟨c, hcc⟩ : ∃ c, c = q1.1.toNat := ⟨_, rfl⟩
    obtain ⟨r, hrr⟩ : ∃ r, r = o1.1.toNat := ⟨_, rfl⟩
    rw [← hrr] at TK y4 y5 O2
    have hr : r < 48 := by omega
    have cr : π1 r = c := by omega
    have c48 : c < 48 := by rw [← cr]; exact (H1.1.1 r hr).1.1
    have rb : r ≠ b := fun e => y4 (by rw [e]; exact lb)
    have P1 := H1.1.1
    have F1 : F_x1_take s q1.2 := fr_x1_take eq1
    have kb1 : π1 b = π b := y6 b hb48 lb
    have ub : gA q1.2 57 (π b) = gA s 57 (π b) := by
      rcases W1' with w | w
      · omega
      · rw [w.2.2.2.2, upZ_n]
        intro e
        have z := w.2.1
        rw [← e, cb.1, cb.2] at z
        unfold LV at lb; omega
    have z6 : gA s 57 (π b) = (hM t).2.1 b := BB.2.1
    have R1 : Rg q1.2 := (wp_det (ts_take hR S0 zZ hE1 ⟨lvb.1.1, by omega⟩ (p1 := p) ⟨by omega, by omega⟩) eq1).1
    obtain ⟨R2, l57, l58, l59⟩ := wp_det (w_x1_layEntries R1 ⟨by omega, by omega⟩ ⟨by omega, by omega⟩ (p1 := 0) ⟨by omega, by rw [pn, ub, z6]; exact lvb.1.2.1.1, by rw [pn, ub, z6]; exact lvb.1.2.1.2⟩) el
    rw [pn, ub, z6, ← hcc] at l57 l58 l59
    have F2 : F_x1_layEntries q1.2 s2 := fr_x1_layEntries el
    -- the class's rows at the end
    have A54 : ∀ k, k ≠ 54 → k ≠ 50 → k ≠ 57 → k ≠ 58 → k ≠ 59 → gA q.2 k = gA q1.2 k := fun k k1 k2 k3 k4 k5 => (lA k k1 k2).trans (F2.2.1 k (by simp; omega))
    have A57 : gA q.2 57 = upZ (gA q1.2 57) c ((hM t).2.1 b) := by
      rw [lA 57 (by decide) (by decide), l57, show (hM t).2.1 b - 0 = (hM t).2.1 b by omega]
    have szb := lvb.1.2.1
    have E58 : ∀ k : Nat, (k : Int) < (hM t).2.1 b → gA q.2 58 (6 * c + k) = gA s 58 (6 * π b + k) ∧ gA q.2 59 (6 * c + k) = gA s 59 (6 * π b + k) := fun k hk => by
      rw [lA 58 (by decide) (by decide), lA 59 (by decide) (by decide), l58, l59, cpa_at (by omega), cpa_at (by omega), F1.2.1 58 (by decide), F1.2.1 59 (by decide), show 6 * π b + Int.toNat 0 + k = 6 * π b + k by omega]
      exact ⟨rfl, rfl⟩
    have N58 : ∀ i : Nat, ¬ (6 * c ≤ i ∧ i < 6 * c + 6) → gA q.2 58 i = gA s 58 i ∧ gA q.2 59 i = gA s 59 i := fun i hi => by
      rw [lA 58 (by decide) (by decide), lA 59 (by decide) (by decide), l58, l59, cpa_out (by omega), cpa_out (by omega), F1.2.1 58 (by decide), F1.2.1 59 (by decide)]
      exact ⟨rfl, rfl⟩
    -- the reference's
    obtain ⟨m1, m2, m3, m4, m5⟩ := O2
    have t1 : ∀ i, ¬ (17 + 16 * r ≤ i ∧ i < 33 + 16 * r) → gA o1.2 49 i = gA t 49 i := TK.1
    have H2 : ∀ x, x ≠ r → (hM o.2).1 x = (hM t).1 x ∧ (hM o.2).2.1 x = (hM t).2.1 x ∧ (∀ k, (hM o.2).2.2 x k = (hM t).2.2 x k ∧ kM o.2 x k = kM t x k) ∧ vM o.2 x = vM t x := fun x hx => by
      refine ⟨?_, ?_, fun k => ?_, ?_⟩
      · show gA o.2 49 (19 + 16 * x) = gA t 49 (19 + 16 * x)
        rw [m2 _ (by omega) (by omega), t1 _ (by omega)]
      · show gA o.2 49 (20 + 16 * x) = gA t 49 (20 + 16 * x)
        rw [m2 _ (by omega) (by omega), t1 _ (by omega)]
      · show (if k < 6 then gA o.2 49 (27 + 16 * x + k) else 0) = (if k < 6 then gA t 49 (27 + 16 * x + k) else 0) ∧ (if k < 6 then gA o.2 49 (21 + 16 * x + k) else 0) = if k < 6 then gA t 49 (21 + 16 * x + k) else 0
        by_cases z : k < 6
        · rw [if_pos z, if_pos z, if_pos z, if_pos z, m2 _ (by omega) (by omega), m2 _ (by omega) (by omega), t1 _ (by omega), t1 _ (by omega)]
          exact ⟨rfl, rfl⟩
        · rw [if_neg z, if_neg z, if_neg z, if_neg z]
          exact ⟨rfl, rfl⟩
      · show gA o.2 49 (18 + 16 * x) = gA t 49 (18 + 16 * x)
        rw [m2 _ (by omega) (by omega), t1 _ (by omega)]
    have Hr : (hM o.2).1 r = (hM t).1 b ∧ (hM o.2).2.1 r = (hM t).2.1 b ∧ (∀ k, (hM o.2).2.2 r k = (hM t).2.2 b k ∧ kM o.2 r k = kM t b k) ∧ vM o.2 r = 0 := by
      have cp : ∀ j : Nat, 3 ≤ j → j < 16 → gA o.2 49 (17 + 16 * r + j) = gA t 49 (17 + 16 * b + j) := fun j a1 a2 => by
        rw [m1 j a1 a2, t1 _ (by omega)]
      refine ⟨?_, ?_, fun k => ?_, ?_⟩
      · show gA o.2 49 (19 + 16 * r) = _
        rw [m2 _ (by omega) (by omega)]; exact TK.2.2.1
      · have := cp 3 (by omega) (by omega)
        rw [show 17 + 16 * r + 3 = 20 + 16 * r by omega, show 17 + 16 * b + 3 = 20 + 16 * b by omega] at this
        exact this
      · show (if k < 6 then gA o.2 49 (27 + 16 * r + k) else 0) = (if k < 6 then gA t 49 (27 + 16 * b + k) else 0) ∧ (if k < 6 then gA o.2 49 (21 + 16 * r + k) else 0) = if k < 6 then gA t 49 (21 + 16 * b + k) else 0
        by_cases z : k < 6
        · have d1 := cp (10 + k) (by omega) (by omega)
          have d2 := cp (4 + k) (by omega) (by omega)
          rw [show 17 + 16 * r + (10 + k) = 27 + 16 * r + k by omega, show 17 + 16 * b + (10 + k) = 27 + 16 * b + k by omega] at d1
          rw [show 17 + 16 * r + (4 + k) = 21 + 16 * r + k by omega, show 17 + 16 * b + (4 + k) = 21 + 16 * b + k by omega] at d2
          rw [if_pos z, if_pos z, if_pos z, if_pos z, d1, d2]
          exact ⟨rfl, rfl⟩
        · rw [if_neg z, if_neg z, if_neg z, if_neg z]
          exact ⟨rfl, rfl⟩
      · show gA o.2 49 (18 + 16 * r) = 0
        rw [m2 _ (by omega) (by omega)]; exact TK.2.1.2
    have c1v : vM o1.2 = vM t := by
      have nr : ¬ 0 < vM t r := fun z => y4 (Or.inr z)
      have := (hK.1 r hr).2
      exact TkE_v TK (by omega)
    have c1c : cM o1.2 = upZ (cM t) r 1 := TkE_c TK
    -- who stood then
    have LO : ∀ x, x < 48 → LV o1.2 x → x = r ∨ LV t x := fun x hx hl => by
      by_cases z : x = r
      · exact Or.inl z
      · unfold LV at hl ⊢
        rw [c1c, c1v, upZ_n z] at hl
        exact Or.inr hl
    have BX1 : ∀ x, x < 48 → LV o1.2 x → BR1 π1 (hN q.2) (hM o.2) (kN q.2) (kM o.2) x := fun x hx hl => by
      rcases LO x hx hl with z | z
      · rw [z]
        refine ⟨?_, ?_, fun k hk => ?_⟩
        · show gA q.2 56 (π1 r) = (hM o.2).1 r
          rw [A54 56 (by decide) (by decide) (by decide) (by decide) (by decide), Hr.1, cr]
          rcases W1' with w | w
          · omega
          · rw [w.2.2.2.1, ← hcc, upZ_s]
        · show gA q.2 57 (π1 r) = (hM o.2).2.1 r
          rw [A57, cr, upZ_s, Hr.2.1]
        · rw [Hr.2.1] at hk
          have e := E58 k hk
          have B2 := BB.2.2 k hk
          have k1 := (Hr.2.2.1 k).1
          have k2 := (Hr.2.2.1 k).2
          show gA q.2 58 (6 * π1 r + k) = _ ∧ (_ → gA q.2 59 (6 * π1 r + k) = _) ∧ (_ → gA q.2 59 (6 * π1 r + k) = _)
          rw [cr, e.1, e.2, k1, k2, Hr.1]
          refine ⟨B2.1, fun w => ?_, B2.2.2⟩
          have kid := KB.2 w k hk
          rw [y6 _ (by omega) kid.2]
          exact B2.2.1 w
      · have xr : x ≠ r := fun e => y4 (by rw [← e]; exact z)
        have B := sim_b h hx z
        have S := H2 x xr
        have kx := y6 x hx z
        have xc : π x ≠ c := fun e => xr (PB_i P1 hx hr (by rw [kx, e, cr]))
        have KX' := hK.2.1 x hx z
        refine ⟨?_, ?_, fun k hk => ?_⟩
        · show gA q.2 56 (π1 x) = (hM o.2).1 x
          rw [A54 56 (by decide) (by decide) (by decide) (by decide) (by decide), S.1, kx]
          rcases W1' with w | w
          · omega
          · rw [w.2.2.2.1, ← hcc, upZ_n xc]; exact B.1
        · show gA q.2 57 (π1 x) = (hM o.2).2.1 x
          rw [A57, kx, upZ_n xc, S.2.1]
          rcases W1' with w | w
          · omega
          · rw [w.2.2.2.2, ← hcc, upZ_n xc]; exact B.2.1
        · rw [S.2.1] at hk
          have B2 := B.2.2 k hk
          have sz := KX'.1.1.2.1
          have nn := N58 (6 * π x + k) (by omega)
          show gA q.2 58 (6 * π1 x + k) = _ ∧ (_ → gA q.2 59 (6 * π1 x + k) = _) ∧ (_ → gA q.2 59 (6 * π1 x + k) = _)
          rw [kx, nn.1, nn.2, (S.2.2.1 k).1, (S.2.2.1 k).2, S.1]
          refine ⟨B2.1, fun w => ?_, B2.2.2⟩
          have kid := KX'.2 w k hk
          rw [y6 _ (by omega) kid.2]
          exact B2.2.1 w
    -- nodes
    have lev0 : ∀ x, x < 48 → LV t x → (hM o.2).1 x = (hM t).1 x := fun x hx hl => (H2 x (fun e => y4 (by rw [← e]; exact hl))).1
    have NX : ∀ x, x < 48 → LV o1.2 x → Nd (hM o.2) (gI q.2 1060) x ∧ (hM o.2).1 x ≤ 48 := fun x hx hl => by
      have e60 : gI q.2 1060 = gA t 39 5 := by rw [lI, F2.1 1060 (by decide), F1.1 1060 (by decide)]; exact hb
      rw [e60]
      rcases LO x hx hl with z | z
      · rw [z]
        refine ⟨⟨by rw [Hr.1]; exact lvb.1.1, by rw [Hr.2.1]; exact lvb.1.2.1, fun w k hk => ?_⟩, by rw [Hr.1]; exact lvb.2⟩
        rw [Hr.1] at w ⊢
        rw [Hr.2.1] at hk
        rw [(Hr.2.2.1 k).1]
        have kid := KB.2 w k hk
        rw [lev0 _ (by omega) kid.2]
        exact lvb.1.2.2 w k hk
      · have S := H2 x (fun e => y4 (by rw [← e]; exact z))
        have KX' := hK.2.1 x hx z
        refine ⟨Nd_ext KX'.1.1 S.1 S.2.1 (fun k _ => (S.2.2.1 k).1) (fun w k hk => ?_), by rw [S.1]; exact KX'.1.2⟩
        have kid := KX'.2 w k hk
        exact lev0 _ (by omega) kid.2
    -- counts
    rcases w1 with w1 | ⟨w10, w1⟩
    · omega
    rcases w2 with w2 | ⟨w20, w21, M', w2⟩
    · have := w2.1; rw [m4] at this; omega
    have TSq := w1.2.2.2.2.2.2
    have TMo := w2.2.2.2.2.2.1.1
    have N2 : (∀ x, x < 48 → 0 ≤ gA q.2 54 x) ∧ ∀ x, x < 48 → 0 ≤ cM o.2 x := ⟨fun x hx => (TSq.1.2.1 x hx).1, fun x hx => (TMo.1.2.1 x hx).1⟩
    have PBq : PNM π1 σ1 (gI q.2 1060) := by
      rw [lI, F2.1 1060 (by decide)]; exact P1
    have oq : o.1.toNat = r := by rw [oo, hrr]
    have qc : q.1.toNat = c := by rw [qq, hcc]
    have rts : ∀ u, u < 8 → rtr π1 (gA q.2 60 u) (gA o.2 49 u) ∧ rtr π1 (gA q.2 61 u) (gA o.2 49 (8 + u)) := fun u hu => by
      rw [A54 60 (by decide) (by decide) (by decide) (by decide) (by decide), A54 61 (by decide) (by decide) (by decide) (by decide) (by decide)]
      rw [w2.2.2.2.2.1 u (by omega), w2.2.2.2.2.1 (8 + u) (by omega), ← TkE_u TK (show u < 17 by omega), ← TkE_u TK (show 8 + u < 17 by omega)]
      exact H1.1.2.2.2 u hu
    have CD : ∀ x, x < 48 → gA q.2 54 (π1 x) = cM o.2 x := by
      refine cnt_det (k1 := kN q.2) (k2 := kM o.2) (h1 := hN q.2) (h2 := hM o.2) (r1 := gA q.2 60) (r2 := rM o.2) (L := LV o1.2) (E1 := fun x => Z0 (π1 x) + (if π1 x = q.1.toNat then 1 else 0) - (if π1 x = p.toNat then 1 else 0)) (E2 := fun x => dq o.1.toNat x - dq p'.toNat x) PBq (by rw [lI, F2.1 1060 (by decide), F1.1 1060 (by decide), hb]; exact hN0) (fun x hx hl => ⟨BX1 x hx hl, NX x hx hl⟩) N2.1 N2.2 (fun x hx w => ?_) (fun x hx w => ?_) (fun x hx => TSq.2.1.1 (π1 x) (P1 x hx).1.1) (fun x hx => TMo.2.1.1 x hx) (fun x hx => ?_) (fun u hu => ?_)
      · refine Classical.byContradiction (fun nl => ?_)
        have cx := sim_c H1 hx
        have ub1 : gA q.2 54 (π1 x) ≤ gA s2 54 (π1 x) := by
          refine lc (π1 x) (fun k w1 hk e => nl ?_)
          rw [← hcc] at w1 hk e
          rw [l57, upZ_s] at hk
          have hk' : (k : Int) < (hM t).2.1 b := by omega
          rw [l59, cpa_at (by omega), F1.2.1 59 (by decide), show 6 * π b + Int.toNat 0 + k = 6 * π b + k by omega] at e
          have w3 : 0 < (hM t).1 b := by
            rw [F2.2.1 56 (by decide)] at w1
            rcases W1' with w4 | w4
            · omega
            · rw [w4.2.2.2.1, ← hcc, upZ_s] at w1; exact w1
          have B2 := (BB.2.2 k hk').2.1 w3
          have kid := KB.2 w3 k hk'
          have e2 : gA s 59 (6 * π b + k) = (π ((hM t).2.2 b k).toNat : Int) := B2
          rw [e2, ← y6 _ (by omega) kid.2] at e
          have e3 : ((hM t).2.2 b k).toNat = x := PB_i P1 (by omega) hx (by omega)
          have k2 := kid.2
          rw [e3] at k2
          unfold LV at k2 ⊢
          rw [c1c, c1v]
          by_cases z : x = r
          · exact absurd k2 (by rw [z]; exact y4)
          · rw [upZ_n z]; exact k2
        rw [F2.2.1 54 (by decide), cx.1] at ub1
        have : 0 < cM o1.2 x := by omega
        exact nl (Or.inl this)
      · refine Classical.byContradiction (fun nl => ?_)
        have ub1 := m5 x (fun k w1 hk e => nl ?_)
        · have : 0 < cM o1.2 x := by omega
          exact nl (Or.inl this)
        · have e1 : (hM o1.2).1 b = (hM t).1 b := t1 _ (by omega)
          have e2 : (hM o1.2).2.1 b = (hM t).2.1 b := t1 _ (by omega)
          rw [e1] at w1
          rw [e2] at hk
          have e3 : (hM o1.2).2.2 b k = (hM t).2.2 b k := by
            show (if k < 6 then gA o1.2 49 (27 + 16 * b + k) else 0) = if k < 6 then gA t 49 (27 + 16 * b + k) else 0
            by_cases z : k < 6
            · rw [if_pos z, if_pos z]; exact t1 _ (by omega)
            · rw [if_neg z, if_neg z]
          rw [e3] at e
          have kid := KB.2 w1 k hk
          have k2 := kid.2
          rw [e, Int.toNat_natCast] at k2
          unfold LV at k2 ⊢
          rw [c1c, c1v]
          by_cases z : x = r
          · exact absurd k2 (by rw [z]; exact y4)
          · rw [upZ_n z]; exact k2
      · show Z0 (π1 x) + (if π1 x = q.1.toNat then 1 else 0) - (if π1 x = p.toNat then 1 else 0) = dq o.1.toNat x - dq p'.toNat x
        have i1 : π1 x = q.1.toNat ↔ x = o.1.toNat := by
          rw [qc, oq, ← cr]
          exact ⟨fun e => PB_i P1 hx hr e, fun e => by rw [e]⟩
        have i2 : π1 x = p.toNat ↔ x = p'.toNat := by
          rw [pn, ← hbb, ← kb1]
          exact ⟨fun e => PB_i P1 hx hb48 e, fun e => by rw [e]⟩
        have zz : Z0 (π1 x) = 0 := rfl
        have d1 : dq o.1.toNat x = if x = o.1.toNat then 1 else 0 := rfl
        have d2 : dq p'.toNat x = if x = p'.toNat then 1 else 0 := rfl
        rw [zz, d1, d2]
        by_cases z1 : x = o.1.toNat
        · rw [if_pos (i1.2 z1), if_pos z1]
          by_cases z2 : x = p'.toNat
          · rw [if_pos (i2.2 z2), if_pos z2]; rfl
          · rw [if_neg (fun w => z2 (i2.1 w)), if_neg z2]; rfl
        · rw [if_neg (fun w => z1 (i1.1 w)), if_neg z1]
          by_cases z2 : x = p'.toNat
          · rw [if_pos (i2.2 z2), if_pos z2]; rfl
          · rw [if_neg (fun w => z2 (i2.1 w)), if_neg z2]; rfl
      · rw [rM_v hu]; exact (rts u hu).1
    -- all
    have vq : ∀ x, x < 48 → gA q.2 55 (π1 x) = vM o.2 x := fun x hx => by
      rw [A54 55 (by decide) (by decide) (by decide) (by decide) (by decide), (sim_c H1 hx).2, c1v]
      by_cases z : x = r
      · have nr : ¬ 0 < vM t r := fun w => y4 (Or.inr w)
        have := (hK.1 r hr).2
        rw [z, Hr.2.2.2]; omega
      · exact (H2 x z).2.2.2.symm
    have LB : ∀ x, x < 48 → LV o.2 x → LV o1.2 x := fun x hx hl => by
      refine Classical.byContradiction (fun nl => ?_)
      rcases hl with w | w
      · have ub1 := m5 x (fun k w1 hk e => nl ?_)
        · have : 0 < cM o1.2 x := by omega
          exact nl (Or.inl this)
        · have e1 : (hM o1.2).1 b = (hM t).1 b := t1 _ (by omega)
          have e2 : (hM o1.2).2.1 b = (hM t).2.1 b := t1 _ (by omega)
          rw [e1] at w1
          rw [e2] at hk
          have e3 : (hM o1.2).2.2 b k = (hM t).2.2 b k := by
            show (if k < 6 then gA o1.2 49 (27 + 16 * b + k) else 0) = if k < 6 then gA t 49 (27 + 16 * b + k) else 0
            by_cases z : k < 6
            · rw [if_pos z, if_pos z]; exact t1 _ (by omega)
            · rw [if_neg z, if_neg z]
          rw [e3] at e
          have kid := KB.2 w1 k hk
          have k2 := kid.2
          rw [e, Int.toNat_natCast] at k2
          unfold LV at k2 ⊢
          rw [c1c, c1v]
          by_cases z : x = r
          · exact absurd k2 (by rw [z]; exact y4)
          · rw [upZ_n z]; exact k2
      · rw [← vq x hx, A54 55 (by decide) (by decide) (by decide) (by decide) (by decide), (sim_c H1 hx).2] at w
        exact nl (Or.inr w)
    refine Or.inr ⟨by rw [m4]; exact y1, by omega, by omega, π1, σ1, ⟨⟨PBq, fun x hx => ⟨CD x hx, vq x hx⟩, fun x hx hl => BX1 x hx (LB x hx hl), rts⟩, ?_, fun x hx hl => ?_⟩, by rw [oq]; omega, y6, by
      rw [oq, ← hbb]
      exact ⟨⟨Hr.1, Hr.2.1, Hr.2.2.1⟩, fun x hx => ⟨(H2 x hx).1, (H2 x hx).2.1, (H2 x hx).2.2.1⟩, fun x hx hl => LO x hx (LB x hx hl), Or.inr y4⟩⟩
    · rw [lI, F2.1 1060 (by decide), m3 39 (by decide) (by decide)]; exact H1.2.1
    · have l1 := LB x hx (Or.inl hl)
      have e54 : gA o.2 54 = gA o1.2 54 := m3 54 (by decide) (by decide)
      rw [lL, F2.2.2.1 1062 (by decide), e54]
      rcases l1 with w | w
      · exact H1.2.2 x hx w
      · -- counted anew: it was named by the block copied
        have c2 : 0 < cM o1.2 x := Classical.byContradiction (fun nc => by
          have ub1 := m5 x (fun k w1 hk e => nc ?_)
          · omega
          · have e1 : (hM o1.2).1 b = (hM t).1 b := t1 _ (by omega)
            have e2 : (hM o1.2).2.1 b = (hM t).2.1 b := t1 _ (by omega)
            rw [e1] at w1
            rw [e2] at hk
            have e3 : (hM o1.2).2.2 b k = (hM t).2.2 b k := by
              show (if k < 6 then gA o1.2 49 (27 + 16 * b + k) else 0) = if k < 6 then gA t 49 (27 + 16 * b + k) else 0
              by_cases z : k < 6
              · rw [if_pos z, if_pos z]; exact t1 _ (by omega)
              · rw [if_neg z, if_neg z]
            rw [e3] at e
            have c' : 0 < cM t b := by rw [hbb]; exact hc
            have kd := (TG_kid T0 (fun x _ => Int.le_refl 0) hb48 c' w1 hk).2.2
            rw [e, Int.toNat_natCast] at kd
            rw [c1c]
            by_cases z : x = r
            · rw [z, upZ_s]; decide
            · rw [upZ_n z]; exact kd)
        exact H1.2.2 x hx c2
