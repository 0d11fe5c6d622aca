/-! ===== an entry comes, goes, changes: on both sides ===== -/
theorem y_ins {π σ : Nat → Nat} {s s' t t' : MS} {b : Nat} {p1 key v1 v2 : Int} (h : SIM π σ s t) (hK : ∀ x, x < 48 → LV t x → 0 ≤ (hM t).2.1 x ∧ (hM t).2.1 x ≤ 6) (hR : Rg s) (hRt : Rr t) (hb : b < 48) (hl : LV t b)
    (hk : 0 ≤ p1 ∧ p1 ≤ (hM t).2.1 b) (hz : (hM t).2.1 b ≤ 5) (hkey : (-257) ≤ key ∧ key ≤ 65535) (hv1 : (-257) ≤ v1 ∧ v1 ≤ 65535) (hv2 : R2 v2) (hv : (0 < (hM t).1 b → v1 = (π v2.toNat : Int)) ∧ ((hM t).1 b ≤ 0 → v1 = v2))
    (e1 : m_x8_insert (π b : Int) p1 key v1 s = some s') (e2 : m_x12_inserts (b : Int) p1 key v2 t = some t') : SIM π σ s' t' ∧ BX t t' b ∧ (hM t').2.1 b = (hM t).2.1 b + 1 := by
  have hP := h.1.1
  have B := sim_b h hb hl
  have z1 : gA s 57 (π b) = (hM t).2.1 b := B.2.1
  have px := (hP b hb).1.1
  have tp : ((π b : Nat) : Int).toNat = π b := Int.toNat_natCast _
  have tb : ((b : Nat) : Int).toNat = b := Int.toNat_natCast _
  have W1 := wp_det (w_x8_insert hR (p0 := (π b : Int)) ⟨by omega, by omega⟩ ⟨hk.1, by rw [tp, z1]; exact hk.2, by rw [tp, z1]; exact hz⟩ ⟨by omega, by omega⟩ hv1) e1
  have W2 := wp_det (w_x12_inserts hRt (p0 := (b : Int)) ⟨by omega, by omega⟩ ⟨hk.1, by rw [tb]; exact hk.2⟩ (by rw [tb]; exact hz) ⟨by omega, by omega⟩ hv2) e2
  rw [tp, z1] at W1
  rw [tb] at W2
  obtain ⟨_, u57, ⟨a1, a2, a3⟩, ⟨d1, d2, d3⟩⟩ := W1
  obtain ⟨_, F2, hX, zz, g1, g2, g3⟩ := W2
  have F1 : F_x8_insert s s' := fr_x8_insert e1
  refine ⟨sim_blk h hK hb (F1.2.1 54 (by decide)) (F1.2.1 55 (by decide)) (F1.2.1 56 (by decide)) (F1.2.1 60 (by decide)) (F1.2.1 61 (by decide)) (F1.1 1060 (by decide)) (fun x hx hn => by rw [u57, upZ_n hn]) (fun x hx hn k h6 => ⟨a1 _ (by omega), d1 _ (by omega)⟩) hX (F2.2.1 39 (by decide)) (by rw [u57, upZ_s, zz]) (fun j hj => ?_) hl (Or.inl ⟨?_, ?_⟩), hX, zz⟩
  · have B2 := B.2.2
    rcases Nat.lt_trichotomy j p1.toNat with q | q | q
    · have c := B2 j (by omega)
      rw [a1 _ (by omega), d1 _ (by omega), (g1 j q).1, (g1 j q).2]
      exact c
    · rw [q, a2, d2, g2.1, g2.2]
      exact ⟨rfl, hv⟩
    · obtain ⟨i, hi⟩ : ∃ i, j = i + 1 := ⟨j - 1, by omega⟩
      rw [hi]
      have c := B2 i (by omega)
      have f1 := a3 i (by omega) (by omega)
      have f2 := d3 i (by omega) (by omega)
      have f3 := g3 i (by omega) (by omega)
      rw [f1, f2, f3.1, f3.2]
      exact c
  · have m := s_insM (p1 := p1) (p2 := key) (p3 := v1) (s := s) (p0 := (π b : Int)) ⟨by omega, by omega⟩ ⟨hk.1, by rw [tp, z1]; exact hk.2, by rw [tp, z1]; exact hz⟩ s' e1
    rw [tp] at m; exact m
  · have m := m_insT (p0 := (b : Int)) (by omega) t' e2
    rw [tb] at m; exact m
theorem y_set {π σ : Nat → Nat} {s s' t t' : MS} {b : Nat} {p1 v1 v2 : Int} (h : SIM π σ s t) (hK : ∀ x, x < 48 → LV t x → 0 ≤ (hM t).2.1 x ∧ (hM t).2.1 x ≤ 6) (hR : Rg s) (hRt : Rr t) (hb : b < 48) (hl : LV t b)
    (hk : 0 ≤ p1 ∧ p1 < (hM t).2.1 b) (hv1 : (-257) ≤ v1 ∧ v1 ≤ 65535) (hv2 : R2 v2) (hv : (0 < (hM t).1 b → v1 = (π v2.toNat : Int)) ∧ ((hM t).1 b ≤ 0 → v1 = v2)) (hd : (hM t).2.2 b p1.toNat = v2 ↔ gA s 59 (6 * π b + p1.toNat) = v1)
    (e1 : m_x8_set (π b : Int) p1 v1 s = some s') (e2 : ((hM t).2.2 b p1.toNat = v2 ∧ t' = t) ∨ ((hM t).2.2 b p1.toNat ≠ v2 ∧ m_x12_setsEntry (b : Int) p1 (kM t b p1.toNat) v2 t = some t')) : SIM π σ s' t' ∧ BX t t' b ∧ (hM t').2.1 b = (hM t).2.1 b := by
  have hP := h.1.1
  have B := sim_b h hb hl
  have px := (hP b hb).1.1
  have tp : ((π b : Nat) : Int).toNat = π b := Int.toNat_natCast _
  have tb : ((b : Nat) : Int).toNat = b := Int.toNat_natCast _
  have sz := hK b hb hl
  have m := s_setM (p0 := (π b : Int)) ⟨by omega, by omega⟩ hk.1 s' e1
  rw [tp] at m
  rcases e2 with ⟨q1, rfl⟩ | ⟨q1, e2⟩
  · rcases m with ⟨_, rfl⟩ | ⟨n, _⟩
    · exact ⟨h, BX_0 _ _, rfl⟩
    · exact absurd (hd.1 q1) n
  · rcases m with ⟨n, _⟩ | ⟨_, lm⟩
    · exact absurd (hd.2 n) q1
    have W1 := (wp_det (w_x8_set hR (p0 := (π b : Int)) ⟨by omega, by omega⟩ ⟨hk.1, by omega⟩ hv1) e1).2
    have W2 := (wp_det (w_x12_setsEntry hRt (p0 := (b : Int)) ⟨by omega, by omega⟩ ⟨hk.1, by omega⟩ (by
      have : R2 (gA t 49 (21 + 16 * b + p1.toNat)) := R49 hRt (by omega)
      show R2 (if p1.toNat < 6 then gA t 49 (21 + 16 * b + p1.toNat) else 0)
      rw [if_pos (by omega)]; exact this) hv2) e2).2
    rw [tp] at W1
    rw [tb] at W2
    obtain ⟨hX, zz, g2, g1⟩ := M_set (k := p1.toNat) (by omega) W2
    have F1 : F_x8_set s s' := fr_x8_set e1
    have F2 : F_x12_setsEntry t t' := fr_x12_setsEntry e2
    refine ⟨sim_blk h hK hb (F1.2.1 54 (by decide)) (F1.2.1 55 (by decide)) (F1.2.1 56 (by decide)) (F1.2.1 60 (by decide)) (F1.2.1 61 (by decide)) (F1.1 1060 (by decide)) (fun x hx hn => by rw [F1.2.1 57 (by decide)]) (fun x hx hn k h6 => ⟨by rw [F1.2.1 58 (by decide)], by rw [W1, upZ_n (by omega)]⟩) hX (F2.2.1 39 (by decide)) (by rw [F1.2.1 57 (by decide), zz]; exact B.2.1) (fun j hj => ?_) hl (Or.inl ⟨lm, ?_⟩), hX, zz⟩
    · rw [zz] at hj
      have c := B.2.2 j hj
      rw [F1.2.1 58 (by decide), W1]
      by_cases q : j = p1.toNat
      · rw [q, upZ_s, g2.1, g2.2]
        rw [q] at c
        exact ⟨c.1, hv⟩
      · rw [upZ_n (by omega), (g1 j q).1, (g1 j q).2]
        exact c
    · have m := m_setT (p0 := (b : Int)) (by omega) t' e2
      rw [tb] at m; exact m
theorem y_del {π σ : Nat → Nat} {s s' t t' : MS} {b : Nat} {p1 : Int} (h : SIM π σ s t) (hK : ∀ x, x < 48 → LV t x → 0 ≤ (hM t).2.1 x ∧ (hM t).2.1 x ≤ 6) (hR : Rg s) (hRt : Rr t) (hb : b < 48) (hl : LV t b)
    (hk : 0 ≤ p1 ∧ p1 < (hM t).2.1 b) (e1 : m_x8_delete (π b : Int) p1 s = some s') (e2 : m_x12_cutsEntry (b : Int) p1 t = some t') : SIM π σ s' t' ∧ BX t t' b ∧ (hM t').2.1 b = (hM t).2.1 b - 1 := by
  have hP := h.1.1
  have B := sim_b h hb hl
  have z1 : gA s 57 (π b) = (hM t).2.1 b := B.2.1
  have px := (hP b hb).1.1
  have tp : ((π b : Nat) : Int).toNat = π b := Int.toNat_natCast _
  have tb : ((b : Nat) : Int).toNat = b := Int.toNat_natCast _
  have sz := hK b hb hl
  have W1 := wp_det (w_x8_delete hR (p0 := (π b : Int)) ⟨by omega, by omega⟩ ⟨hk.1, by rw [tp, z1]; exact hk.2, by rw [tp, z1]; exact sz.2⟩) e1
  have W2 := wp_det (w_x12_cutsEntry hRt (p0 := (b : Int)) ⟨by omega, by omega⟩ ⟨hk.1, by rw [tb]; omega⟩ (by rw [tb]; omega)) e2
  rw [tp, z1] at W1
  rw [tb] at W2
  obtain ⟨_, u57, ⟨a1, a3⟩, ⟨d1, d3⟩⟩ := W1
  obtain ⟨_, F2, k, k1, k2, hX, zz, g1, g3⟩ := W2
  have kk := k2 hk.2
  have F1 : F_x8_delete s s' := fr_x8_delete e1
  refine ⟨sim_blk h hK hb (F1.2.1 54 (by decide)) (F1.2.1 55 (by decide)) (F1.2.1 56 (by decide)) (F1.2.1 60 (by decide)) (F1.2.1 61 (by decide)) (F1.1 1060 (by decide)) (fun x hx hn => by rw [u57, upZ_n hn]) (fun x hx hn k h6 => ⟨a1 _ (by omega), d1 _ (by omega)⟩) hX (F2.2.1 39 (by decide)) (by rw [u57, upZ_s, zz]) (fun j hj => ?_) hl (Or.inl ⟨?_, ?_⟩), hX, zz⟩
  · have B2 := B.2.2
    by_cases q : j < p1.toNat
    · have c := B2 j (by omega)
      rw [a1 _ (by omega), d1 _ (by omega), (g1 j (by omega)).1, (g1 j (by omega)).2]
      exact c
    · have c := B2 (j + 1) (by omega)
      have f1 := a3 j (by omega) (by omega)
      have f2 := d3 j (by omega) (by omega)
      have f3 := g3 j (by omega) (by omega)
      rw [f1, f2, f3.1, f3.2]
      exact c
  · have m := s_delM (p1 := p1) (s := s) (p0 := (π b : Int)) ⟨by omega, by omega⟩ ⟨hk.1, by rw [tp, z1]; exact hk.2⟩ s' e1
    rw [tp] at m; exact m
  · have m := m_cutT (p0 := (b : Int)) (by omega) t' e2
    rw [tb] at m; exact m
