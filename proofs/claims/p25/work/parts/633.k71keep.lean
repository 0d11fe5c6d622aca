/-! ===== what is KEPT, what can be undone: on both sides ===== -/
/-- the COST counts for nothing -/
theorem TRf_x {π σ : Nat → Nat} {N : Int} {s : MS} {b : Nat} {f g : Nat → Int} (H : TRf π σ N s b f) (e : ∀ k, k < 785 → k ≠ 16 → g k = f k) : TRf π σ N s b g := by
  obtain ⟨p, c, l, r⟩ := H
  refine ⟨p, fun x hx => ?_, fun x hx q => ?_, fun v hv => ?_⟩
  · have := c x hx
    show gA s b (π x) = g (17 + 16 * x) ∧ gA s (b + 1) (π x) = g (18 + 16 * x)
    rw [e _ (by omega) (by omega), e _ (by omega) (by omega)]
    exact this
  · have q' : 0 < cR f x ∨ 0 < vR f x := by
      show 0 < f (17 + 16 * x) ∨ 0 < f (18 + 16 * x)
      rw [← e (17 + 16 * x) (by omega) (by omega), ← e (18 + 16 * x) (by omega) (by omega)]
      exact q
    have B := l x hx q'
    unfold BR1 at B ⊢
    have e1 : (hR g).1 x = (hR f).1 x := e _ (by omega) (by omega)
    have e2 : (hR g).2.1 x = (hR f).2.1 x := e _ (by omega) (by omega)
    have e3 : ∀ k, (hR g).2.2 x k = (hR f).2.2 x k := fun k => by
      show (if k < 6 then g (27 + 16 * x + k) else 0) = if k < 6 then f (27 + 16 * x + k) else 0
      by_cases z : k < 6
      · rw [if_pos z, if_pos z]; exact e _ (by omega) (by omega)
      · rw [if_neg z, if_neg z]
    have e4 : ∀ k, kR g x k = kR f x k := fun k => by
      show (if k < 6 then g (21 + 16 * x + k) else 0) = if k < 6 then f (21 + 16 * x + k) else 0
      by_cases z : k < 6
      · rw [if_pos z, if_pos z]; exact e _ (by omega) (by omega)
      · rw [if_neg z, if_neg z]
    rw [e1, e2]
    exact ⟨B.1, B.2.1, fun k hk => by rw [e3, e4]; exact B.2.2 k hk⟩
  · rw [e _ (by omega) (by omega), e _ (by omega) (by omega)]; exact r v hv
theorem sim_x {π σ : Nat → Nat} {s t o : MS} (h : SIM π σ s t) (e : ∀ i, i < 785 → i ≠ 16 → gA o 49 i = gA t 49 i) (e54 : ∀ x, x < 48 → gA o 54 x = gA t 54 x) (e39 : gA o 39 5 = gA t 39 5) : SIM π σ s o := ⟨TRf_x h.1 e, by rw [e39]; exact h.2.1, fun x hx q => by
  have q' : 0 < cM t x := by
    have e' : cM o x = cM t x := e (17 + 16 * x) (by omega) (by omega)
    rw [← e']; exact q
  rw [e54 x hx]; exact h.2.2 x hx q'⟩
theorem OI_16 {t o : MS} {lo hi : Nat → Int} (H : OI t lo hi) (e : ∀ i, i < 785 → i ≠ 16 → gA o 49 i = gA t 49 i) : OI o lo hi := OI_x H (fun x hx i i2 i16 => e _ (by omega) (by omega)) (fun x hx hl => by
  have c1 : cM o x = cM t x := e (17 + 16 * x) (by omega) (by omega)
  have c2 : vM o x = vM t x := e (18 + 16 * x) (by omega) (by omega)
  unfold LV at hl ⊢
  rw [← c1, ← c2]; exact hl)
theorem m_clears {t : MS} : pc (m_x12_clearsTouched t) (fun o => ∀ x : Nat, x < 48 → gA o 54 x = 0) := by
  have L : ∀ (n : Nat) (x : Int) (S : MS), (0 ≤ x ∧ x ≤ 48) → (∀ i : Nat, (i : Int) < x → gA S 54 i = 0) → pc (m_x12_clearsTouched_L2 n x S) (fun o => ∀ x : Nat, x < 48 → gA o 54 x = 0) := by
    refine fr_ind (fun _ _ _ _ => pc_none) (fun n ih x S hx h => ?_)
    show pc (m_x12_clearsTouched_b2 (m_x12_clearsTouched_L2 n) x S) _
    unfold m_x12_clearsTouched_b2
    refine pc_rg (pc_if (fun c => pc_some (fun i hi => h i (by omega))) (fun c => pc_inb (pc_bo (pc_stn (fun s7 e7 => ih (x + 1) s7 (by omega) (fun i hi => ?_))))))
    rw [(q_AA e7 : gA s7 54 = _)]
    by_cases z : i = x.toNat
    · rw [z, upZ_s]
    · rw [upZ_n z]; exact h i (by omega)
  unfold m_x12_clearsTouched
  exact L FU 0 t (by omega) (fun i hi => absurd hi (by omega))
/-- what is KEPT: the class's rows up to n against the reference's row of numbers -/
def KP (a8 a9 a10 : Nat → Int) (n : Nat) (f : Nat → Int) : Prop := ∃ m : Nat, (m ≤ n ∧ m ≤ 40 ∧ (m = n ∨ m = 40)) ∧ f 785 = (m : Int) ∧ ∀ k : Nat, k < m → f (786 + 3 * k) = a8 (n - m + k) ∧ f (787 + 3 * k) = a9 (n - m + k) ∧ f (788 + 3 * k) = a10 (n - m + k)
theorem KP_f {a8 a9 a10 : Nat → Int} {n : Nat} {f g : Nat → Int} (H : KP a8 a9 a10 n f) (e : ∀ i, 785 ≤ i → i < 906 → g i = f i) : KP a8 a9 a10 n g := by
  obtain ⟨m, ⟨m1, m2, m3⟩, h, r⟩ := H
  refine ⟨m, ⟨m1, m2, m3⟩, by rw [e 785 (by omega) (by omega)]; exact h, fun k hk => ?_⟩
  rw [e _ (by omega) (by omega), e _ (by omega) (by omega), e _ (by omega) (by omega)]
  exact r k hk
theorem KP_le {a8 a9 a10 b8 b9 b10 : Nat → Int} {n : Nat} {f : Nat → Int} (H : KP a8 a9 a10 n f) (e : ∀ j, j < n → b8 j = a8 j ∧ b9 j = a9 j ∧ b10 j = a10 j) : KP b8 b9 b10 n f := by
  obtain ⟨m, ⟨m1, m2, m3⟩, h, r⟩ := H
  refine ⟨m, ⟨m1, m2, m3⟩, h, fun k hk => ?_⟩
  have q := e (n - m + k) (by omega)
  rw [q.1, q.2.1, q.2.2]
  exact r k hk
theorem KP_sh {a8 a9 a10 b8 b9 b10 : Nat → Int} {n : Nat} {f : Nat → Int} (H : KP a8 a9 a10 (n + 1) f) (h40 : 40 ≤ n) (e : ∀ j, j < n → b8 j = a8 (j + 1) ∧ b9 j = a9 (j + 1) ∧ b10 j = a10 (j + 1)) : KP b8 b9 b10 n f := by
  obtain ⟨m, ⟨m1, m2, m3⟩, h, r⟩ := H
  have em : m = 40 := by omega
  refine ⟨m, ⟨by omega, m2, Or.inr em⟩, h, fun k hk => ?_⟩
  have q := e (n - m + k) (by omega)
  have rr := r k hk
  rw [show n + 1 - m + k = n - m + k + 1 by omega] at rr
  rw [q.1, q.2.1, q.2.2]
  exact rr
/-- how the class keeps a row -/
def KPc (a8 a9 a10 b8 b9 b10 : Nat → Int) (n n' : Nat) (x y z : Int) : Prop := (n = 60 ∧ n' = 60 ∧ (∀ j, j < 59 → b8 j = a8 (j + 1) ∧ b9 j = a9 (j + 1) ∧ b10 j = a10 (j + 1)) ∧ (b8 59 = x ∧ b9 59 = y ∧ b10 59 = z)) ∨ (n < 60 ∧ n' = n + 1 ∧ (∀ j, j ≠ n → b8 j = a8 j ∧ b9 j = a9 j ∧ b10 j = a10 j) ∧ (b8 n = x ∧ b9 n = y ∧ b10 n = z))
/-- how the reference does -/
def KPm (f g : Nat → Int) (x y z : Int) : Prop := (f 785 = 40 ∧ g 785 = 40 ∧ (∀ i, i < 117 → g (786 + i) = f (789 + i)) ∧ (g 903 = x ∧ g 904 = y ∧ g 905 = z)) ∨ (f 785 ≠ 40 ∧ g 785 = f 785 + 1 ∧ (∀ i : Nat, (i : Int) < 3 * f 785 → g (786 + i) = f (786 + i)) ∧ (g (786 + 3 * (f 785).toNat) = x ∧ g (787 + 3 * (f 785).toNat) = y ∧ g (788 + 3 * (f 785).toNat) = z))
theorem KP_new {a8 a9 a10 b8 b9 b10 : Nat → Int} {n n' : Nat} {f g : Nat → Int} {x y z : Int} (H : KP a8 a9 a10 n f) (hb : KPc a8 a9 a10 b8 b9 b10 n n' x y z) (hg : KPm f g x y z) : KP b8 b9 b10 n' g := by
  obtain ⟨m, ⟨m1, m2, m3⟩, h, r⟩ := H
  rcases hg with ⟨g1, g2, g3, g4, g5, g6⟩ | ⟨g1, g2, g3, g4, g5, g6⟩
  · have em : m = 40 := by omega
    rw [em] at r
    refine ⟨40, ⟨?_, Nat.le_refl _, Or.inr rfl⟩, g2, fun k hk => ?_⟩
    · rcases hb with ⟨_, b2, _⟩ | ⟨_, b2, _⟩ <;> omega
    · by_cases w : k = 39
      · rw [w]
        show g 903 = _ ∧ g 904 = _ ∧ g 905 = _
        rw [g4, g5, g6]
        rcases hb with ⟨_, b2, _, b4, b5, b6⟩ | ⟨b1, b2, _, b4, b5, b6⟩
        · rw [show n' - 40 + 39 = 59 by omega]; exact ⟨b4.symm, b5.symm, b6.symm⟩
        · rw [show n' - 40 + 39 = n by omega]; exact ⟨b4.symm, b5.symm, b6.symm⟩
      · have q1 := g3 (3 * k) (by omega)
        have q2 := g3 (1 + 3 * k) (by omega)
        have q3 := g3 (2 + 3 * k) (by omega)
        rw [show 786 + (1 + 3 * k) = 787 + 3 * k by omega, show 789 + (1 + 3 * k) = 787 + 3 * (k + 1) by omega] at q2
        rw [show 786 + (2 + 3 * k) = 788 + 3 * k by omega, show 789 + (2 + 3 * k) = 788 + 3 * (k + 1) by omega] at q3
        rw [show 789 + 3 * k = 786 + 3 * (k + 1) by omega] at q1
        have rr := r (k + 1) (by omega)
        rw [q1, q2, q3, rr.1, rr.2.1, rr.2.2]
        rcases hb with ⟨b1, b2, b3, _⟩ | ⟨b1, b2, b3, _⟩
        · have bb := b3 (n' - 40 + k) (by omega)
          rw [bb.1, bb.2.1, bb.2.2, show n' - 40 + k + 1 = n - 40 + (k + 1) by omega]
          exact ⟨rfl, rfl, rfl⟩
        · have bb := b3 (n' - 40 + k) (by omega)
          rw [bb.1, bb.2.1, bb.2.2, show n' - 40 + k = n - 40 + (k + 1) by omega]
          exact ⟨rfl, rfl, rfl⟩
  · have em : m = n := by omega
    rcases hb with ⟨b1, _⟩ | ⟨b1, b2, b3, b4, b5, b6⟩
    · omega
    rw [em] at r h
    refine ⟨n + 1, ⟨by omega, by omega, by omega⟩, by rw [g2, h]; omega, fun k hk => ?_⟩
    rw [show n' - (n + 1) + k = k by omega]
    rw [show (f 785).toNat = n by omega] at g4 g5 g6
    by_cases w : k = n
    · rw [w, g4, g5, g6, b4, b5, b6]; exact ⟨rfl, rfl, rfl⟩
    · have q1 := g3 (3 * k) (by omega)
      have q2 := g3 (1 + 3 * k) (by omega)
      have q3 := g3 (2 + 3 * k) (by omega)
      rw [show 786 + (1 + 3 * k) = 787 + 3 * k by omega] at q2
      rw [show 786 + (2 + 3 * k) = 788 + 3 * k by omega] at q3
      have rr := r k (by omega)
      rw [show n - n + k = k by omega] at rr
      have bb := b3 k w
      rw [q1, q2, q3, rr.1, rr.2.1, rr.2.2, bb.1, bb.2.1, bb.2.2]
      exact ⟨rfl, rfl, rfl⟩
theorem s_J70 {a v w : Int} {S : MS} : pc (m_x2_keep_J70 a v w S) (fun o => gI o 143 = gI S 143 + 1 ∧ gA o 8 = upZ (gA S 8) (gI S 143).toNat a ∧ gA o 9 = upZ (gA S 9) (gI S 143).toNat v ∧ gA o 10 = upZ (gA S 10) (gI S 143).toNat w) := by
  unfold m_x2_keep_J70
  refine pc_inb (pc_stn (fun s6 e6 => pc_inb (pc_stn (fun s8 e8 => pc_inb (pc_stn (fun s10 e10 => pc_stn (fun s11 e11 => pc_some ?_)))))))
  have i6 : gI s6 143 = gI S 143 := q_Ai e6
  have i8 : gI s8 143 = gI S 143 := (q_Ai e8).trans i6
  have i10 : gI s10 143 = gI S 143 := (q_Ai e10).trans i8
  refine ⟨by rw [(q_II e11 : gI s11 143 = _), i10], ?_, ?_, ?_⟩
  · rw [(q_Ia e11 : gA s11 8 = gA s10 8), (q_Aa e10 (by decide) : gA s10 8 = gA s8 8), (q_Aa e8 (by decide) : gA s8 8 = gA s6 8), (q_AA e6 : gA s6 8 = _)]
  · rw [(q_Ia e11 : gA s11 9 = gA s10 9), (q_Aa e10 (by decide) : gA s10 9 = gA s8 9), (q_AA e8 : gA s8 9 = _), i6, (q_Aa e6 (by decide) : gA s6 9 = gA S 9)]
  · rw [(q_Ia e11 : gA s11 10 = gA s10 10), (q_AA e10 : gA s10 10 = _), i8, (q_Aa e8 (by decide) : gA s8 10 = gA s6 10), (q_Aa e6 (by decide) : gA s6 10 = gA S 10)]
theorem s_keep {a v w : Int} {s : MS} {n : Nat} (hn : gI s 143 = (n : Int)) (h60 : n ≤ 60) : pc (m_x2_keep a v w s) (fun o => ∃ n' : Nat, gI o 143 = (n' : Int) ∧ KPc (gA s 8) (gA s 9) (gA s 10) (gA o 8) (gA o 9) (gA o 10) n n' a v w) := by
  unfold m_x2_keep
  refine pc_rg (pc_if (fun c => pc_stn (fun s14 e14 => pc_cpg (pc_stn (fun s16 e16 => pc_cpg (pc_stn (fun s18 e18 => pc_cpg (pc_stn (fun s20 e20 => ?_)))))))) (fun c => ?_))
  · have n60 : n = 60 := by omega
    have i14 : gI s14 143 = 59 := by rw [(q_II e14 : gI s14 143 = _), c]; rfl
    have i16 : gI s16 143 = 59 := (q_Ai e16).trans i14
    have i18 : gI s18 143 = 59 := (q_Ai e18).trans i16
    have i20 : gI s20 143 = 59 := (q_Ai e20).trans i18
    rw [i14] at e16
    rw [i16] at e18
    rw [i18] at e20
    refine pc_mono s_J70 (fun o ho => ⟨60, by rw [ho.1, i20]; rfl, Or.inl ⟨n60, rfl, fun j hj => ?_, ?_⟩⟩)
    · obtain ⟨_, h8, h9, h10⟩ := ho
      have t59 : (gI s20 143).toNat = 59 := by rw [i20]; rfl
      rw [t59] at h8 h9 h10
      have c8 : gA s20 8 = gA s16 8 := (q_Aa e20 (by decide)).trans (q_Aa e18 (by decide))
      have c9 : gA s20 9 = gA s18 9 := q_Aa e20 (by decide)
      rw [h8, h9, h10, upZ_n (by omega), upZ_n (by omega), upZ_n (by omega), c8, c9, (q_AA e16 : gA s16 8 = _), (q_AA e18 : gA s18 9 = _), (q_AA e20 : gA s20 10 = _), (q_Aa e16 (by decide) : gA s16 9 = gA s14 9), (q_Aa e18 (by decide) : gA s18 10 = gA s16 10), (q_Aa e16 (by decide) : gA s16 10 = gA s14 10), (q_Ia e14 : gA s14 8 = gA s 8), (q_Ia e14 : gA s14 9 = gA s 9), (q_Ia e14 : gA s14 10 = gA s 10)]
      have cp : ∀ f : Nat → Int, va_cpy f f (Int.toNat 1) (Int.toNat 0) (Int.toNat 59) j = f (j + 1) := fun f => by
        have q := cpa_at (f := f) (g := f) (sp := 1) (dp := 0) (n := 59) (k := j) hj
        rw [Nat.zero_add, Nat.add_comm 1 j] at q
        exact q
      exact ⟨cp _, cp _, cp _⟩
    · obtain ⟨_, h8, h9, h10⟩ := ho
      have t59 : (gI s20 143).toNat = 59 := by rw [i20]; rfl
      rw [t59] at h8 h9 h10
      rw [h8, h9, h10, upZ_s, upZ_s, upZ_s]
      exact ⟨rfl, rfl, rfl⟩
  · refine pc_mono s_J70 (fun o ho => ⟨n + 1, by rw [ho.1, hn]; omega, Or.inr ⟨by omega, rfl, fun j hj => ?_, ?_⟩⟩)
    · obtain ⟨_, h8, h9, h10⟩ := ho
      rw [h8, h9, h10, hn, Int.toNat_natCast, upZ_n hj, upZ_n hj, upZ_n hj]
      exact ⟨rfl, rfl, rfl⟩
    · obtain ⟨_, h8, h9, h10⟩ := ho
      rw [h8, h9, h10, hn, Int.toNat_natCast, upZ_s, upZ_s, upZ_s]
      exact ⟨rfl, rfl, rfl⟩
theorem m_J105 {a v w : Int} {S : MS} (h : 1 ≤ gA S 49 785 ∧ gA S 49 785 ≤ 40) : pc (m_x12_isKept_J105 a v w S) (fun o => gA o 49 = upZ (upZ (upZ (gA S 49) (783 + 3 * (gA S 49 785).toNat) a) (784 + 3 * (gA S 49 785).toNat) v) (785 + 3 * (gA S 49 785).toNat) w) := by
  unfold m_x12_isKept_J105
  refine pc_rdI (fun _ => pc_inb (pc_stn (fun s7 e7 => pc_inb (pc_stn (fun s9 e9 => pc_inb (pc_stn (fun s11 e11 => pc_some ?_)))))))
  have g : gA S 49 (Int.toNat 785) = gA S 49 785 := rfl
  rw [g] at e7 e9 e11
  rw [show (786 + 3 * gA S 49 785 - 3).toNat = 783 + 3 * (gA S 49 785).toNat by omega] at e7
  rw [show (786 + 3 * gA S 49 785 - 3 + 1).toNat = 784 + 3 * (gA S 49 785).toNat by omega] at e9
  rw [show (786 + 3 * gA S 49 785 - 3 + 2).toNat = 785 + 3 * (gA S 49 785).toNat by omega] at e11
  rw [(q_AA e11 : gA s11 49 = _), (q_AA e9 : gA s9 49 = _), (q_AA e7 : gA s7 49 = _)]
theorem m_J42 {a v w : Int} {S : MS} (h : 0 ≤ gA S 49 785 ∧ gA S 49 785 ≤ 40) : pc (m_x12_isKept_J42 a v w S) (fun o => KPm (gA S 49) (gA o 49) a v w) := by
  have L : ∀ (n : Nat) (x : Int) (X : MS), (786 ≤ x ∧ x ≤ 903) → gA S 49 785 = 40 → (∀ i : Nat, 786 ≤ i → (i : Int) < x → gA X 49 i = gA S 49 (i + 3)) → (∀ i : Nat, (i < 786 ∨ x ≤ (i : Int)) → gA X 49 i = gA S 49 i) → pc (m_x12_isKept_L60 n a v w x X) (fun o => KPm (gA S 49) (gA o 49) a v w) := by
    refine fr_ind (fun _ _ _ _ _ _ => pc_none) (fun n ih x X hx h4 h1 h2 => ?_)
    show pc (m_x12_isKept_b60 (m_x12_isKept_L60 n) a v w x X) _
    unfold m_x12_isKept_b60
    refine pc_rg (pc_if (fun c => ?_) (fun c => pc_rdI (fun _ => pc_inb (pc_stn (fun s21 e21 => ?_)))))
    · have x5 : gA X 49 785 = 40 := by rw [h2 785 (by omega)]; exact h4
      refine pc_mono (m_J105 (by omega)) (fun o ho => Or.inl ⟨h4, ?_, fun i hi => ?_, ?_⟩)
      · rw [ho, x5]
        show upZ (upZ (upZ (gA X 49) 903 a) 904 v) 905 w 785 = 40
        rw [upZ_n (by decide), upZ_n (by decide), upZ_n (by decide)]; exact x5
      · rw [ho, x5]
        show upZ (upZ (upZ (gA X 49) 903 a) 904 v) 905 w (786 + i) = gA S 49 (789 + i)
        rw [upZ_n (by omega), upZ_n (by omega), upZ_n (by omega), h1 (786 + i) (by omega) (by omega), show 786 + i + 3 = 789 + i by omega]
      · rw [ho, x5]
        show upZ (upZ (upZ (gA X 49) 903 a) 904 v) 905 w 903 = a ∧ upZ (upZ (upZ (gA X 49) 903 a) 904 v) 905 w 904 = v ∧ upZ (upZ (upZ (gA X 49) 903 a) 904 v) 905 w 905 = w
        rw [upZ_n (by decide), upZ_n (by decide), upZ_s, upZ_n (by decide), upZ_s, upZ_s]
        exact ⟨rfl, rfl, rfl⟩
    · have u : gA s21 49 = upZ (gA X 49) x.toNat (gA X 49 (x + 3).toNat) := q_AA e21
      refine ih (x + 1) s21 (by omega) h4 (fun i i1 i2 => ?_) (fun i hi => ?_)
      · rw [u]
        by_cases z : i = x.toNat
        · rw [z, upZ_s, h2 (x + 3).toNat (by omega), show (x + 3).toNat = x.toNat + 3 by omega]
        · rw [upZ_n z]; exact h1 i i1 (by omega)
      · rw [u, upZ_n (by omega)]; exact h2 i (by omega)
  unfold m_x12_isKept_J42
  refine pc_rdI (fun _ => pc_rg (pc_if (fun c => L FU 786 S (by omega) c (fun i i1 i2 => absurd i2 (by omega)) (fun i _ => rfl)) (fun c => pc_rdI (fun _ => pc_inb (pc_stn (fun s31 e31 => ?_))))))
  have c' : gA S 49 785 ≠ 40 := c
  have u : gA s31 49 = upZ (gA S 49) 785 (gA S 49 785 + 1) := q_AA e31
  have x5 : gA s31 49 785 = gA S 49 785 + 1 := by rw [u, upZ_s]
  refine pc_mono (m_J105 (by omega)) (fun o ho => Or.inr ⟨c', ?_, fun i hi => ?_, ?_⟩)
  · rw [ho, upZ_n (by omega), upZ_n (by omega), upZ_n (by omega)]; exact x5
  · rw [ho, upZ_n (by omega), upZ_n (by omega), upZ_n (by omega), u, upZ_n (by omega)]
  · rw [ho, x5, show (gA S 49 785 + 1).toNat = (gA S 49 785).toNat + 1 by omega]
    rw [show 783 + 3 * ((gA S 49 785).toNat + 1) = 786 + 3 * (gA S 49 785).toNat by omega, show 784 + 3 * ((gA S 49 785).toNat + 1) = 787 + 3 * (gA S 49 785).toNat by omega, show 785 + 3 * ((gA S 49 785).toNat + 1) = 788 + 3 * (gA S 49 785).toNat by omega]
    rw [upZ_n (by omega), upZ_n (by omega), upZ_s, upZ_n (by omega), upZ_s, upZ_s]
    exact ⟨rfl, rfl, rfl⟩
theorem m_kept {a v : Int} {t : MS} (h : 0 ≤ gA t 49 785 ∧ gA t 49 785 ≤ 40) : pc (m_x12_isKept a v t) (fun o => ∃ w, m_x12_writtenMany t = some w ∧ KPm (gA t 49) (gA o 49) a v w) := by
  unfold m_x12_isKept
  refine pc_bn (fun r33 e33 => pc_rdI (fun _ => pc_bn (fun q37 e37 => pc_inb (pc_stn (fun s39 e39 => ?_)))))
  have F37 : F_x12_writtenCost t q37.2 := fr_x12_writtenCost e37
  have a37 : gA q37.2 49 = gA t 49 := F37.2.1 49 (by simp)
  have k39 : ∀ i, i ≠ 16 → gA s39 49 i = gA t 49 i := fun i hi => by rw [(q_AA e39 : gA s39 49 = _), upZ_n hi, a37]
  have fin : ∀ X : MS, (∀ i, i ≠ 16 → gA X 49 i = gA t 49 i) → pc (m_x12_isKept_J42 a v r33 X) (fun o => ∃ w, m_x12_writtenMany t = some w ∧ KPm (gA t 49) (gA o 49) a v w) := fun X hX => by
    refine pc_mono (m_J42 (by rw [hX 785 (by decide)]; exact h)) (fun o ho => ⟨r33, e33, ?_⟩)
    unfold KPm at ho ⊢
    rw [hX 785 (by decide)] at ho
    rcases ho with ⟨a1, a2, a3, a4⟩ | ⟨a1, a2, a3, a4⟩
    · exact Or.inl ⟨a1, a2, fun i hi => by rw [a3 i hi, hX _ (by omega)], a4⟩
    · exact Or.inr ⟨a1, a2, fun i hi => by rw [a3 i hi, hX _ (by omega)], a4⟩
  refine pc_rdI (fun _ => pc_rg (pc_if (fun _ => fin s39 k39) (fun _ => pc_inb (pc_stn (fun s44 e44 => fin s44 (fun i hi => ?_))))))
  rw [(q_AA e44 : gA s44 49 = _), upZ_n hi]; exact k39 i hi
theorem m_keeps76 {t : MS} : pc (m_x12_keeps t) (fun o => gI o 76 = if 20 ≤ gI t 76 then gI t 76 else gI t 76 + 1) := by
  have L : ∀ (n : Nat) (x : Int) (S : MS), gI S 76 = gI t 76 → pc (m_x12_keeps_L15 n x S) (fun o => gI o 76 = if 20 ≤ gI t 76 then gI t 76 else gI t 76 + 1) := by
    refine fr_ind (fun _ _ _ => pc_none) (fun n ih x S h => ?_)
    show pc (m_x12_keeps_b15 (m_x12_keeps_L15 n) x S) _
    unfold m_x12_keeps_b15 m_x12_keeps_J68
    refine pc_rg (pc_if (fun _ => pc_rg (pc_if (fun c => pc_some ?_) (fun c => pc_stn (fun s8 e8 => pc_some ?_)))) (fun _ => pc_rdI (fun _ => pc_inb (pc_stn (fun s11 e11 => ih _ s11 ((q_Ai e11).trans h))))))
    · rw [h] at c
      rw [if_pos c]; exact h
    · rw [h] at c
      rw [if_neg c, (q_II e8 : gI s8 76 = _), h]
  unfold m_x12_keeps
  exact pc_dv (pc_stn (fun s13 e13 => L FU 0 s13 (q_Ii e13 (by decide))))
/-- what the ring of the reference holds behind keeps() -/
def PSTm (t0 t : MS) (f : Nat → Int) : Prop := gI t 77 = (gI t0 77 + 1) % 20 ∧ gI t 76 = (if 20 ≤ gI t0 76 then gI t0 76 else gI t0 76 + 1) ∧ (∀ j, j < 906 → gA t 75 (906 * (gI t 77).toNat + j) = f j) ∧ (∀ j, j < 906 * (gI t 77).toNat ∨ 906 * (gI t 77).toNat + 906 ≤ j → gA t 75 j = gA t0 75 j)
theorem m_keeps {t o : MS} (hRt : Rr t) (e : m_x12_keeps t = some o) : Rr o ∧ F_x12_keeps t o ∧ PSTm t o (gA t 49) := by
  obtain ⟨r, a, _, c, d⟩ := wp_det (w_x12_keeps hRt) e
  exact ⟨r, fr_x12_keeps e, a, m_keeps76 o e, c, d⟩
/-- what the list of past states holds behind remember() -/
theorem s_rem {s : MS} {ts : List MS} {d : Nat} (hd : gI s 145 = (d : Int)) (hl : d ≤ ts.length ∧ ts.length ≤ 20) : pc (m_remember s ts) (fun w => ∃ d' : Nat, gI w.1 145 = (d' : Int) ∧ ((d = 20 ∧ d' = 20) ∨ (d < 20 ∧ d' = d + 1)) ∧ (∀ k, ¬ (62 ≤ k ∧ k ≤ 70) → gA w.1 k = gA s k) ∧ (∀ k, ¬ (1240 ≤ k ∧ k < 1260) → k ≠ 145 → gI w.1 k = gI s k) ∧ (∀ k, ¬ (1240 ≤ k ∧ k < 1260) → gL w.1 k = gL s k) ∧ (∃ Y : MS, (∀ k, gA Y k = gA s k) ∧ (∀ k, k ≠ 145 → gI Y k = gI s k) ∧ w.2[d' - 1]? = some Y) ∧ ∀ i : Nat, i + 1 < d' → w.2[d' - 1 - (i + 1)]? = ts[d - 1 - i]?) := by
  unfold m_remember
  refine pc_rg (pc_if (fun c1 => ?_) (fun c1 => pc_inb (pc_stn (fun s1 e1 => ?_))))
  · have d20 : d = 20 := by omega
    refine pc_if (fun c2 => pc_some ?_) (fun c2 => pc_none)
    obtain ⟨t0, tl, rfl⟩ : ∃ t0 tl, ts = t0 :: tl := by
      cases ts with
      | nil => exact absurd c2 (by decide)
      | cons a b => exact ⟨a, b, rfl⟩
    have hl2 : tl.length = 19 := by
      have : (t0 :: tl).length = tl.length + 1 := rfl
      omega
    refine ⟨20, ?_, Or.inl ⟨d20, rfl⟩, fun k hk => setB_A hk, fun k hk _ => setB_I hk, fun k hk => ?_, ⟨s, fun _ => rfl, fun _ _ => rfl, ?_⟩, fun i hi => ?_⟩
    · show gI (setB s ((t0 :: tl).headD s)) 145 = _
      rw [setB_I (by omega)]; exact c1
    · show gL (setB s ((t0 :: tl).headD s)) k = gL s k
      rw [gL_setB, if_neg hk]
    · show (tl ++ [s])[20 - 1]? = some s
      rw [List.getElem?_append_right (by omega), hl2]; rfl
    · show (tl ++ [s])[20 - 1 - (i + 1)]? = (t0 :: tl)[d - 1 - i]?
      rw [List.getElem?_append_left (by omega), show d - 1 - i = (20 - 1 - (i + 1)) + 1 by omega]; rfl
  · have g145 : gI s1 145 = gI s 145 + 1 := q_II e1
    have kA : ∀ k, gA s1 k = gA s k := fun k => q_Ia e1
    have kI : ∀ k, k ≠ 145 → gI s1 k = gI s k := fun k h => q_Ii e1 h
    have kL : ∀ k, gL s1 k = gL s k := fun k => q_Il e1
    have td : (gI s 145).toNat = d := by omega
    have com : ∀ X : MS, gI (setB s1 X) 145 = ((d + 1 : Nat) : Int) ∧ (∀ k, ¬ (62 ≤ k ∧ k ≤ 70) → gA (setB s1 X) k = gA s k) ∧ (∀ k, ¬ (1240 ≤ k ∧ k < 1260) → k ≠ 145 → gI (setB s1 X) k = gI s k) ∧ (∀ k, ¬ (1240 ≤ k ∧ k < 1260) → gL (setB s1 X) k = gL s k) := fun X => ⟨by rw [setB_I (by omega), g145, hd]; omega, fun k hk => (setB_A hk).trans (kA k), fun k hk h5 => (setB_I hk).trans (kI k h5), fun k hk => by rw [gL_setB, if_neg hk]; exact kL k⟩
    rw [td]
    refine pc_if (fun c2 => pc_some ?_) (fun c2 => pc_if (fun c3 => pc_some ?_) (fun c3 => pc_none))
    · obtain ⟨a1, a2, a3, a4⟩ := com (ts.getD d s)
      refine ⟨d + 1, a1, Or.inr ⟨by omega, rfl⟩, a2, a3, a4, ⟨s1, kA, kI, ?_⟩, fun i hi => ?_⟩
      · show (ts.set d s1)[d + 1 - 1]? = some s1
        rw [show d + 1 - 1 = d by omega]
        exact List.getElem?_set_self c2
      · show (ts.set d s1)[d + 1 - 1 - (i + 1)]? = ts[d - 1 - i]?
        rw [show d + 1 - 1 - (i + 1) = d - 1 - i by omega]
        exact List.getElem?_set_ne (by omega)
    · obtain ⟨a1, a2, a3, a4⟩ := com st0
      refine ⟨d + 1, a1, Or.inr ⟨by omega, rfl⟩, a2, a3, a4, ⟨s1, kA, kI, ?_⟩, fun i hi => ?_⟩
      · show (ts ++ [s1])[d + 1 - 1]? = some s1
        rw [show d + 1 - 1 = d by omega, List.getElem?_append_right (by omega), show d - ts.length = 0 by omega]; rfl
      · show (ts ++ [s1])[d + 1 - 1 - (i + 1)]? = ts[d - 1 - i]?
        rw [show d + 1 - 1 - (i + 1) = d - 1 - i by omega]
        exact List.getElem?_append_left (by omega)
