/-! ===== a whole STORE is read on both sides ===== -/
theorem PLJ_t {s t o : MS} (h : PLJ s t) (h45 : gI o 45 = gI t 45) (kA : ∀ k, gA o k = gA t k) (kB : ∀ k, gB o k = gB t k) : PLJ s o := by
  unfold PLJ NMS ACS HDS CDS at h ⊢
  rw [kA 39, kA 41, kA 42, kA 43, kA 44, kB 40, h45]
  exact h
theorem y_readStore {s t : MS} (hR : Rg s) (hW : W6 s) (hl : gI s 61 = gI t 1) (hT : ∀ j : Nat, (j : Int) < gI s 61 → gA s 4 j = gA t 0 j) (hD : RWD t) : pc (m_x6_readStore s) (fun q => pc (m_x12_store t) (fun o => FINS q o)) := by
  unfold m_x6_readStore
  refine pc_bn (fun s27 e27 => pc_bn (fun s29 e29 => ?_))
  obtain ⟨⟨c783, c784, c785, c782, c941⟩, c45⟩ := s_clear s27 e27
  have F27 : F_x5_clear s s27 := fr_x5_clear e27
  have F29 : F_x6_begin s27 s29 := fr_x6_begin e29
  have R27 := (wp_det (w_x5_clear hR) e27).1
  obtain ⟨R29, h99, h100⟩ := wp_det (w_x6_begin R27) e29
  have h783 : gI s29 783 = 0 := (F29.1 783 (by decide)).trans c783
  have h784 : gI s29 784 = 0 := (F29.1 784 (by decide)).trans c784
  have h785 : gI s29 785 = 0 := (F29.1 785 (by decide)).trans c785
  have h782 : gI s29 782 = 0 := (F29.1 782 (by decide)).trans c782
  have h941 : gI s29 941 = 0 := (F29.1 941 (by decide)).trans c941
  have k61 : gI s27 61 = gI s 61 := F27.1 61 (by decide)
  have k4 : gA s27 4 = gA s 4 := F27.2.1 4 (by decide)
  have k6 : gA s27 6 = gA s 6 := F27.2.1 6 (by decide)
  have k45 : ∀ w : Nat, w < 3 → gA s29 45 w = -1 := fun w hw => by rw [F29.2.1 45 (by decide)]; exact c45 w hw
  have Y : ∀ T, SIN t T → SY s29 T ∧ PLH s29 T ∧ gI s29 941 ≤ gI s29 108 := fun T hT' => by
    obtain ⟨⟨a3, a1, a2, a4, a5, a6, a45⟩, ⟨b39, _⟩, ⟨b42, _⟩, G⟩ := hT'
    have A0 : gA T 0 = gA t 0 := G.2.1 0 (by decide)
    have TXT : TX s27 T := ⟨by rw [a3, k61, hl], fun j hj => by rw [A0, k4]; exact (hT j (by omega)).symm⟩
    obtain ⟨y, y106⟩ := y_begin R27 (W6_e hW k6) TXT a2 a4 a5 (RWD_e hD (fun k hk => G.2.1 k (by simp; omega))) s29 e29
    have p108 := (TK_le y.2.2.1.1).1
    refine ⟨y, ⟨⟨⟨by rw [b39 2 (by decide), h784], by omega, by omega⟩, fun v hv => absurd hv (by omega)⟩, ⟨⟨by rw [b39 3 (by decide), h785], by omega⟩, fun a ha => absurd ha (by omega)⟩, by rw [b39 4 (by decide), h782], ⟨⟨by rw [a45, h941], by omega⟩, fun j hj => absurd hj (by omega), fun w hw => ⟨by rw [b42 w hw, k45 w hw], fun z => absurd (k45 w hw) z⟩, fun z => absurd (k45 1 (by decide)) z⟩, y106⟩, by omega⟩
  have main : ∀ n : Nat, pc (m_x6_readStore_L14 n 0 s29) (fun q => pc (m_x12_store t) (fun o => FINS q o)) := fun n => by
    cases n with
    | zero => exact pc_none
    | succ n =>
      show pc (m_x6_readStore_b14 (m_x6_readStore_L14 n) 0 s29) _
      unfold m_x6_readStore_b14
      refine pc_rg (pc_if (fun c => absurd c (by decide)) (fun _ => pc_rg (pc_if (fun c => ?_) (fun c => pc_bn (fun s25 e25 => ?_)))))
      · unfold m_x6_readStore_J38 m_x6_readStore_J75 m_x6_readStore_J87
        refine pc_rg (pc_if (fun _ => pc_rg (pc_if (fun _ => pc_bq (s_fail h100) (fun q14 h14 => ?_)) (fun c2 => absurd h783 c2))) (fun c2 => absurd c c2))
        have n0 : gI q14.2 100 ≠ 0 := by rw [h14.1]; decide
        refine pc_rg (pc_if (fun c3 => absurd c3 n0) (fun _ => pc_bo (pc_some ?_)))
        refine m_sin (fun T hT' _ => pc_bq (m_first_end (Y T hT').1 c) (fun s26 g26 => pc_stn (fun o2 e2 => ?_)))
        exact fin_br (q := (0, q14.2)) rfl (BR_mk (by decide) h14 ⟨(q_Ii e2 (by decide)).trans g26.1, (q_Ii e2 (by decide)).trans g26.2⟩) FU
      · have W := wp_det (w_x6_readStatement R29 ⟨by omega, by omega⟩ h99) e25
        have F25 : F_x6_readStatement s29 s25 := fr_x6_readStatement e25
        intro q eq
        refine m_sin (fun T hT' _ => pc_bn (fun o eo => pc_stn (fun o2 e2 => ?_)))
        obtain ⟨y, p, b⟩ := Y T hT'
        rcases y_first y p b h783 e25 o eo with ⟨d1, d2, d3, d4⟩ | B
        · have o6 : gI o 6 = -1 := nb_x12_storeTold o eo (fun _ => hT'.1.2.2.2.2.2.1) d1.2.1.2
          have w785 := W.2.1.1
          have I2 : ∀ i, i ≠ 46 → gI o2 i = gI o i := fun i hi => q_Ii e2 hi
          exact y_sloop n (0 + 1) s25 o2 ⟨SY_f d1 (I2 2 (by decide)) (I2 3 (by decide)) (I2 4 (by decide)) (I2 5 (by decide)) (fun k _ => q_Ia e2), PLJ_t d2 (I2 45 (by decide)) (fun k => q_Ia e2) (fun k => q_Ib e2), d3, by rw [(q_II e2 : gI o2 46 = 1), d4], by omega, by omega, W.1, w785, (F25.1 9999 (by decide)).trans h99, (I2 6 (by decide)).trans o6⟩ q eq FU
        · have g := s_gone n (0 + 1) s25 B.1 q eq
          exact fin_br g.1 (BR_go B g.2 (FKp.i e2 (by decide) (by decide))) FU
  exact main FU
/-! ===== the reference: a STORE stands ===== -/
def STD3 (t T : MS) : Prop := ((∀ k : Nat, k < 5 → gA T 39 (5 + k) = gA t 39 k) ∧ ∀ k : Nat, k < 5 → gA T 39 k = gA t 39 k) ∧ (∀ w : Nat, w < 3 → gA T 42 (3 + w) = gA t 42 w ∧ gA T 43 (3 + w) = gA t 43 w) ∧ (∀ v : Nat, v < 8 → gB T 40 (8 + v) = gB t 40 v) ∧ (∀ j : Nat, (j : Int) < gI t 45 → gA T 44 (1600 + j) = gA t 44 j) ∧ ((∀ v : Nat, v < 16 → gA T 49 v = 255) ∧ ∀ k : Nat, 16 ≤ k → k < 906 → gA T 49 k = 0) ∧ gI T 47 = 1 ∧ Fr [47] [39, 42, 43, 44, 49] [] [40] t T
theorem st158 {s : MS} {P : MS → Prop} (h : ∀ k : Nat, k < 906 → gA s 49 k = 0) (g : ∀ T, ((∀ v : Nat, v < 16 → gA T 49 v = 255) ∧ ∀ k : Nat, 16 ≤ k → k < 906 → gA T 49 k = 0) → Fr [] [49] [] [] s T → pc (m_x12_stands_L193 FU 0 T) P) : pc (m_x12_stands_L158 FU 0 s) P := by
  have L : ∀ (n : Nat) (x : Int) (S : MS), (0 ≤ x ∧ x ≤ 8) → (∀ v : Nat, (v : Int) < x → gA S 49 v = 255 ∧ gA S 49 (8 + v) = 255) → (∀ k : Nat, 16 ≤ k → k < 906 → gA S 49 k = 0) → Fr [] [49] [] [] s S → pc (m_x12_stands_L158 n x S) P := by
    refine fr_ind (fun _ _ _ _ _ _ => pc_none) (fun n ih x S hx h1 h2 hF => ?_)
    show pc (m_x12_stands_b158 (m_x12_stands_L158 n) x S) P
    unfold m_x12_stands_b158
    refine pc_rg (pc_if (fun c => g S ⟨fun v hv => ?_, h2⟩ hF) (fun c => pc_inb (pc_stn (fun s24 e24 => pc_inb (pc_stn (fun s26 e26 => ih (x + 1) s26 (by omega) ?_ ?_ ?_))))))
    · by_cases z : v < 8
      · exact (h1 v (by omega)).1
      · have := (h1 (v - 8) (by omega)).2
        rw [show 8 + (v - 8) = v by omega] at this
        exact this
    · intro v hv
      have a1 : gA s26 49 = upZ (gA s24 49) (Int.toNat (8 + x)) 255 := q_AA e26
      have a2 : gA s24 49 = upZ (gA S 49) (Int.toNat x) 255 := q_AA e24
      rw [a1, a2]
      by_cases z : (v : Int) = x
      · rw [upZ_n (show v ≠ Int.toNat (8 + x) by omega), show v = Int.toNat x by omega, upZ_s, show 8 + Int.toNat x = Int.toNat (8 + x) by omega, upZ_s]
        exact ⟨rfl, rfl⟩
      · rw [upZ_n (show v ≠ Int.toNat (8 + x) by omega), upZ_n (show v ≠ Int.toNat x by omega), upZ_n (show 8 + v ≠ Int.toNat (8 + x) by omega), upZ_n (show 8 + v ≠ Int.toNat x by omega)]
        exact h1 v (by omega)
    · intro k hk hk2
      rw [(q_AA e26 : gA s26 49 = _), upZ_n (by omega), (q_AA e24 : gA s24 49 = _), upZ_n (by omega)]
      exact h2 k hk hk2
    · subst e26; subst e24
      exact Fr.uA (Fr.uA hF (by decide)) (by decide)
  exact L FU 0 s (by omega) (fun v hv => absurd hv (by omega)) (fun k _ hk => h k hk) (Fr.rf s)
theorem st136 {s : MS} {P : MS → Prop} (g : ∀ T, (∀ k : Nat, k < 906 → gA T 49 k = 0) → Fr [] [49] [] [] s T → pc (m_x12_stands_L158 FU 0 T) P) : pc (m_x12_stands_L136 FU 0 s) P := by
  have L : ∀ (n : Nat) (x : Int) (S : MS), (0 ≤ x ∧ x ≤ 906) → (∀ k : Nat, (k : Int) < x → gA S 49 k = 0) → Fr [] [49] [] [] s S → pc (m_x12_stands_L136 n x S) P := by
    refine fr_ind (fun _ _ _ _ _ => pc_none) (fun n ih x S hx h1 hF => ?_)
    show pc (m_x12_stands_b136 (m_x12_stands_L136 n) x S) P
    unfold m_x12_stands_b136
    refine pc_rg (pc_if (fun c => g S (fun k hk => h1 k (by omega)) hF) (fun c => pc_inb (pc_stn (fun s32 e32 => ih (x + 1) s32 (by omega) ?_ ?_))))
    · intro k hk
      rw [(q_AA e32 : gA s32 49 = _)]
      by_cases z : k = Int.toNat x
      · rw [z, upZ_s]
      · rw [upZ_n z]; exact h1 k (by omega)
    · subst e32; exact Fr.uA hF (by decide)
  exact L FU 0 s (by omega) (fun v hv => absurd hv (by omega)) (Fr.rf s)
theorem st104 {s : MS} {P : MS → Prop} (h45 : 0 ≤ gI s 45 ∧ gI s 45 ≤ 1600) (g : ∀ T, (∀ j : Nat, (j : Int) < gI s 45 → gA T 44 (1600 + j) = gA s 44 j) → Fr [] [44] [] [] s T → pc (m_x12_stands_L136 FU 0 T) P) : pc (m_x12_stands_L104 FU 0 s) P := by
  have L : ∀ (n : Nat) (x : Int) (S : MS), (0 ≤ x ∧ x ≤ gI s 45) → (∀ j : Nat, (j : Int) < x → gA S 44 (1600 + j) = gA s 44 j) → (∀ j : Nat, j < 1600 → gA S 44 j = gA s 44 j) → Fr [] [44] [] [] s S → pc (m_x12_stands_L104 n x S) P := by
    refine fr_ind (fun _ _ _ _ _ _ => pc_none) (fun n ih x S hx h1 h2 hF => ?_)
    have k45 : gI S 45 = gI s 45 := hF.1 45 (by decide)
    show pc (m_x12_stands_b104 (m_x12_stands_L104 n) x S) P
    unfold m_x12_stands_b104
    refine pc_rg (pc_rg (pc_if (fun c => g S (fun j hj => h1 j (by omega)) hF) (fun c => pc_rdI (fun _ => pc_inb (pc_stn (fun s40 e40 => ih (x + 1) s40 (by omega) ?_ ?_ ?_))))))
    · intro j hj
      rw [(q_AA e40 : gA s40 44 = _)]
      by_cases z : (j : Int) = x
      · rw [show 1600 + j = Int.toNat (1600 + x) by omega, upZ_s, h2 _ (by omega), show Int.toNat x = j by omega]
      · rw [upZ_n (by omega)]; exact h1 j (by omega)
    · intro j hj
      rw [(q_AA e40 : gA s40 44 = _), upZ_n (by omega)]
      exact h2 j hj
    · subst e40; exact Fr.uA hF (by decide)
  exact L FU 0 s (by omega) (fun v hv => absurd hv (by omega)) (fun _ _ => rfl) (Fr.rf s)
theorem st75 {s : MS} {P : MS → Prop} (g : ∀ T, (∀ v : Nat, v < 8 → gB T 40 (8 + v) = gB s 40 v) → Fr [] [] [] [40] s T → pc (m_x12_stands_L104 FU 0 T) P) : pc (m_x12_stands_L75 FU 0 s) P := by
  have L : ∀ (n : Nat) (x : Int) (S : MS), (0 ≤ x ∧ x ≤ 8) → (∀ v : Nat, (v : Int) < x → gB S 40 (8 + v) = gB s 40 v) → (∀ v : Nat, v < 8 → gB S 40 v = gB s 40 v) → Fr [] [] [] [40] s S → pc (m_x12_stands_L75 n x S) P := by
    refine fr_ind (fun _ _ _ _ _ _ => pc_none) (fun n ih x S hx h1 h2 hF => ?_)
    show pc (m_x12_stands_b75 (m_x12_stands_L75 n) x S) P
    unfold m_x12_stands_b75
    refine pc_rg (pc_if (fun c => g S (fun j hj => h1 j (by omega)) hF) (fun c => pc_rdL (pc_inb (pc_stn (fun s47 e47 => ih (x + 1) s47 (by omega) ?_ ?_ ?_)))))
    · intro j hj
      rw [(q_BB e47 : gB s47 40 = _)]
      by_cases z : (j : Int) = x
      · rw [show 8 + j = Int.toNat (8 + x) by omega, upZ_s, h2 _ (by omega), show Int.toNat x = j by omega]
      · rw [upZ_n (by omega)]; exact h1 j (by omega)
    · intro j hj
      rw [(q_BB e47 : gB s47 40 = _), upZ_n (by omega)]
      exact h2 j hj
    · subst e47; exact Fr.uB hF (by decide)
  exact L FU 0 s (by omega) (fun v hv => absurd hv (by omega)) (fun _ _ => rfl) (Fr.rf s)
theorem st34 {s : MS} {P : MS → Prop} (g : ∀ T, (∀ w : Nat, w < 3 → gA T 42 (3 + w) = gA s 42 w ∧ gA T 43 (3 + w) = gA s 43 w) → Fr [] [42, 43] [] [] s T → pc (m_x12_stands_L75 FU 0 T) P) : pc (m_x12_stands_L34 FU 0 s) P := by
  have L : ∀ (n : Nat) (x : Int) (S : MS), (0 ≤ x ∧ x ≤ 3) → (∀ w : Nat, (w : Int) < x → gA S 42 (3 + w) = gA s 42 w ∧ gA S 43 (3 + w) = gA s 43 w) → (∀ w : Nat, w < 3 → gA S 42 w = gA s 42 w ∧ gA S 43 w = gA s 43 w) → Fr [] [42, 43] [] [] s S → pc (m_x12_stands_L34 n x S) P := by
    refine fr_ind (fun _ _ _ _ _ _ => pc_none) (fun n ih x S hx h1 h2 hF => ?_)
    show pc (m_x12_stands_b34 (m_x12_stands_L34 n) x S) P
    unfold m_x12_stands_b34
    refine pc_rg (pc_if (fun c => g S (fun j hj => h1 j (by omega)) hF) (fun c => pc_rdI (fun _ => pc_inb (pc_stn (fun s54 e54 => pc_rdI (fun _ => pc_inb (pc_stn (fun s57 e57 => ih (x + 1) s57 (by omega) ?_ ?_ ?_))))))))
    · intro j hj
      rw [(q_Aa e57 (by decide) : gA s57 42 = gA s54 42), (q_AA e54 : gA s54 42 = _), (q_AA e57 : gA s57 43 = _), (q_Aa e54 (by decide) : gA s54 43 = gA S 43)]
      by_cases z : (j : Int) = x
      · have zx : Int.toNat x = j := by omega
        have q := h2 j (by omega)
        rw [show 3 + j = Int.toNat (3 + x) by omega, upZ_s, upZ_s, zx]
        exact q
      · rw [upZ_n (by omega), upZ_n (by omega)]; exact h1 j (by omega)
    · intro j hj
      rw [(q_Aa e57 (by decide) : gA s57 42 = gA s54 42), (q_AA e54 : gA s54 42 = _), (q_AA e57 : gA s57 43 = _), (q_Aa e54 (by decide) : gA s54 43 = gA S 43), upZ_n (by omega), upZ_n (by omega)]
      exact h2 j hj
    · subst e57; subst e54; exact Fr.uA (Fr.uA hF (by decide)) (by decide)
  exact L FU 0 s (by omega) (fun v hv => absurd hv (by omega)) (fun _ _ => ⟨rfl, rfl⟩) (Fr.rf s)
theorem st7 {s : MS} {P : MS → Prop} (g : ∀ T, ((∀ k : Nat, k < 5 → gA T 39 (5 + k) = gA s 39 k) ∧ ∀ k : Nat, k < 5 → gA T 39 k = gA s 39 k) → Fr [] [39] [] [] s T → pc (m_x12_stands_L34 FU 0 T) P) : pc (m_x12_stands_L7 FU 0 s) P := by
  have L : ∀ (n : Nat) (x : Int) (S : MS), (0 ≤ x ∧ x ≤ 5) → (∀ v : Nat, (v : Int) < x → gA S 39 (5 + v) = gA s 39 v) → (∀ v : Nat, v < 5 → gA S 39 v = gA s 39 v) → Fr [] [39] [] [] s S → pc (m_x12_stands_L7 n x S) P := by
    refine fr_ind (fun _ _ _ _ _ _ => pc_none) (fun n ih x S hx h1 h2 hF => ?_)
    show pc (m_x12_stands_b7 (m_x12_stands_L7 n) x S) P
    unfold m_x12_stands_b7
    refine pc_rg (pc_if (fun c => g S ⟨fun j hj => h1 j (by omega), h2⟩ hF) (fun c => pc_rdI (fun _ => pc_inb (pc_stn (fun s64 e64 => ih (x + 1) s64 (by omega) ?_ ?_ ?_)))))
    · intro j hj
      rw [(q_AA e64 : gA s64 39 = _)]
      by_cases z : (j : Int) = x
      · rw [show 5 + j = Int.toNat (5 + x) by omega, upZ_s, h2 _ (by omega), show Int.toNat x = j by omega]
      · rw [upZ_n (by omega)]; exact h1 j (by omega)
    · intro j hj
      rw [(q_AA e64 : gA s64 39 = _), upZ_n (by omega)]
      exact h2 j hj
    · subst e64; exact Fr.uA hF (by decide)
  exact L FU 0 s (by omega) (fun v hv => absurd hv (by omega)) (fun _ _ => rfl) (Fr.rf s)
theorem m_std {t : MS} {P : MS → Prop} (h45 : 0 ≤ gI t 45 ∧ gI t 45 ≤ 1600) (g : ∀ T, STD3 t T → pc (m_x12_stands_L193 FU 0 T) P) : pc (m_x12_stands t) P := by
  unfold m_x12_stands
  refine pc_stn (fun s0 e0 => st7 (fun s1 h1 F1 => st34 (fun s2 h2 F2 => st75 (fun s3 h3 F3 => ?_))))
  have F0 : Fr [47] [] [] [] t s0 := FI1 e0
  have i3 : gI s3 45 = gI t 45 := (F3.1 45 (by decide)).trans ((F2.1 45 (by decide)).trans ((F1.1 45 (by decide)).trans (F0.1 45 (by decide))))
  refine st104 (by omega) (fun s4 h4 F4 => st136 (fun s5 h5 F5 => st158 h5 (fun T h6 F6 => g T ⟨⟨fun k hk => ?_, fun k hk => ?_⟩, fun w hw => ?_, fun v hv => ?_, fun j hj => ?_, h6, ?_, ?_⟩)))
  · rw [F6.2.1 39 (by decide), F5.2.1 39 (by decide), F4.2.1 39 (by decide), F3.2.1 39 (by decide), F2.2.1 39 (by decide), h1.1 k hk, F0.2.1 39 (by decide)]
  · rw [F6.2.1 39 (by decide), F5.2.1 39 (by decide), F4.2.1 39 (by decide), F3.2.1 39 (by decide), F2.2.1 39 (by decide), h1.2 k hk, F0.2.1 39 (by decide)]
  · rw [F6.2.1 42 (by decide), F5.2.1 42 (by decide), F4.2.1 42 (by decide), F3.2.1 42 (by decide), F6.2.1 43 (by decide), F5.2.1 43 (by decide), F4.2.1 43 (by decide), F3.2.1 43 (by decide), (h2 w hw).1, (h2 w hw).2, F1.2.1 42 (by decide), F1.2.1 43 (by decide), F0.2.1 42 (by decide), F0.2.1 43 (by decide)]
    exact ⟨rfl, rfl⟩
  · rw [F6.2.2.2 40 (by decide), F5.2.2.2 40 (by decide), F4.2.2.2 40 (by decide), h3 v hv, F2.2.2.2 40 (by decide), F1.2.2.2 40 (by decide), F0.2.2.2 40 (by decide)]
  · rw [F6.2.1 44 (by decide), F5.2.1 44 (by decide), h4 j (by omega), F3.2.1 44 (by decide), F2.2.1 44 (by decide), F1.2.1 44 (by decide), F0.2.1 44 (by decide)]
  · rw [F6.1 47 (by decide), F5.1 47 (by decide), F4.1 47 (by decide), F3.1 47 (by decide), F2.1 47 (by decide), F1.1 47 (by decide)]
    exact q_II e0
  · have Z : Fr [47] [39, 42, 43, 44, 49] [] [40] t t := Fr.rf t
    exact Fr.tr (Fr.tr (Fr.tr (Fr.tr (Fr.tr (Fr.tr (Fr.tr Z F0 (by decide)) F1 (by decide)) F2 (by decide)) F3 (by decide)) F4 (by decide)) F5 (by decide)) F6 (by decide)
theorem m_std2 : ∀ (n : Nat) (x : Int) (S : MS), pc (m_x12_stands_L193 n x S) (fun o => Fr [48, 50, 51, 52, 53, 55, 73, 76, 108] [49, 54, 56, 57, 58, 59, 60] [] [107] S o) := by
  refine fr_ind (fun _ _ => pc_none) (fun n ih x S => ?_)
  show pc (m_x12_stands_b193 (m_x12_stands_L193 n) x S) _
  unfold m_x12_stands_b193
  refine pc_rdI (fun _ => pc_rg (pc_rg (pc_if (fun _ => pc_bn (fun s8 e8 => pc_inb (pc_stn (fun s10 e10 => pc_stn (fun s11 e11 => pc_stn (fun s12 e12 => pc_some ?_)))))) (fun _ => pc_rdI (fun _ => pc_rdI (fun _ => pc_rdI (fun _ => pc_rdI (fun _ => pc_bn (fun s18 e18 => ?_)))))))))
  · have F8 : F_x12_checks S s8 := fr_x12_checks e8
    subst e12; subst e11; subst e10
    exact Fr.uI (Fr.uI (Fr.uA (Fr.tr (Fr.rf S) F8 (by decide)) (by decide)) (by decide)) (by decide)
  · have F18 : F_x12_actGoes S s18 := fr_x12_actGoes e18
    exact pc_mono (ih (x + 1) s18) (fun o ho => Fr.tr (Fr.tr (Fr.rf S) F18 (by decide)) ho ⟨fun _ q => q, fun _ q => q, fun _ q => q, fun _ q => q⟩)
