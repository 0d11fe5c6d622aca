/-! ===== an image, as the reference judges it ===== -/
def HDr (f g : Nat → Int) : Prop := f 16 = cst g ∧ ∀ u, u < 8 → f u = g (3 + 2 * u) ∧ f (8 + u) = g (4 + 2 * u)
def PLd (g : Nat → Int) (e N : Nat) (C : Prop) (T : MS) (q : Int × MS) : Prop := (q.1 = 0 ∨ q.1 = 1) ∧ (q.1 = 1 ↔ C) ∧ (q.1 = 1 → RRA (gA q.2 113) g N ∧ HDr (gA q.2 113) g) ∧ (∀ k, k ≠ 113 → gA q.2 k = gA T k) ∧ ∀ i, i ≠ 114 → gI q.2 i = gI T i
set_option maxHeartbeats 1000000 in
theorem m_isLaid {N e : Nat} {E : Int} {g : Nat → Int} {T : MS} (hN : N ≤ 48) (hE : E ≤ 6) (BY : ∀ j, j ≤ e → 0 ≤ g j ∧ g j ≤ 255) (he : 19 ≤ e) (h5 : gA T 39 5 = (N : Int)) (h6 : gA T 39 6 = E) (hT : TPr T g e) : pc (m_x12_isLaid (e : Int) T) (PLd g e N (cst g ≤ 999999 ∧ IMR g e N E 0 19) T) := by
  unfold m_x12_isLaid m_x12_isLaid_J54
  refine pc_stn (fun s51 e51 => ?_)
  have A51 : ∀ k, gA s51 k = gA T k := fun k => q_Ia e51
  have I51 : ∀ i, i ≠ 114 → gI s51 i = gI T i := fun i hi => q_Ii e51 hi
  refine pc_bq (m_byte (e := e) (p := 0) (TPr_k hT (A51 0)) (q_II e51)) (fun q54 h54 => ?_)
  obtain ⟨a1, a2, a3, a4⟩ := h54
  refine pc_bq (m_two (e := e) (p := 1) BY (TPr_k hT ((a3 0).trans (A51 0))) (by rw [a2]; rfl)) (fun q57 h57 => pc_inb (pc_stn (fun s59 e59 => ?_)))
  obtain ⟨b1, b2, b3, b4⟩ := h57
  rw [br_in (by omega)] at a1
  rw [tw2_in (by omega)] at b1
  have y0 := BY 0 (by omega)
  have y1 := BY 1 (by omega)
  have y2 := BY (1 + 1) (by omega)
  have k113 : gA s59 113 = upZ (gA T 113) 16 (cst g) := by
    rw [(q_AA e59 : gA s59 113 = _), b3, a3, A51, a1, b1]
    rfl
  have A59 : ∀ k, k ≠ 113 → gA s59 k = gA T k := fun k hk => by rw [(q_Aa e59 hk : gA s59 k = _), b3, a3, A51]
  have I59 : ∀ i, i ≠ 114 → gI s59 i = gI T i := fun i hi => by rw [(q_Ai e59 : gI s59 i = _), b4 i hi, a4 i hi, I51 i hi]
  have i59 : gI s59 114 = ((3 + 2 * 0 : Nat) : Int) := by rw [(q_Ai e59 : gI s59 114 = _), b2]; rfl
  have L59 : ∀ (n u : Nat) (X : MS), u ≤ 8 → cst g ≤ 999999 → gI X 114 = ((3 + 2 * u : Nat) : Int) → gA X 113 16 = cst g → (∀ v, v < u → gA X 113 v = g (3 + 2 * v) ∧ gA X 113 (8 + v) = g (4 + 2 * v)) → (∀ k, k ≠ 113 → gA X k = gA T k) → (∀ i, i ≠ 114 → gI X i = gI T i) → pc (m_x12_isLaid_L59 n (e : Int) (u : Int) X) (PLd g e N (cst g ≤ 999999 ∧ IMR g e N E 0 19) T) := by
    refine fr_ind (fun _ _ _ _ _ _ _ _ _ => pc_none) (fun n ih u X hu hC hp h16 hv kA kI => ?_)
    show pc (m_x12_isLaid_b59 (m_x12_isLaid_L59 n) (e : Int) (u : Int) X) _
    unfold m_x12_isLaid_b59
    have hX0 : TPr X g e := TPr_k hT (kA 0 (by decide))
    refine pc_rg (pc_if (fun c => ?_) (fun c => ?_))
    · have u8 : u = 8 := by omega
      rw [u8] at hp hv
      have L := m_L102 hN hE BY FU 0 19 X (by omega) (by rw [kA 39 (by decide)]; exact h5) (by rw [kA 39 (by decide)]; exact h6) hX0 hp (fun _ => ⟨rfl, fun x hx => absurd hx (by omega)⟩)
      refine pc_mono L (fun q hq => ?_)
      obtain ⟨c1, c2, c3, c4, c5, c6⟩ := hq
      exact ⟨c1, c2.trans ⟨fun w => ⟨hC, w⟩, fun w => w.2⟩, fun w => ⟨c3 w, by rw [c4 16 (by omega)]; exact h16, fun v hv8 => by rw [c4 v (by omega), c4 (8 + v) (by omega)]; exact hv v hv8⟩, fun k hk => (c5 k hk).trans (kA k hk), fun i hi => (c6 i hi).trans (kI i hi)⟩
    · refine pc_bq (m_byte (e := e) hX0 hp) (fun q42 h42 => pc_inb (pc_stn (fun s44 e44 => ?_)))
      obtain ⟨d1, d2, d3, d4⟩ := h42
      rw [Int.toNat_natCast] at e44
      refine pc_bq (m_byte (e := e) (p := 4 + 2 * u) (TPr_k hX0 (by rw [(q_Aa e44 (by decide) : gA s44 0 = _), d3])) (by rw [(q_Ai e44 : gI s44 114 = _), d2]; omega)) (fun q47 h47 => pc_inb (pc_stn (fun s49 e49 => ?_)))
      obtain ⟨f1, f2, f3, f4⟩ := h47
      rw [show (8 + (u : Int)).toNat = 8 + u by omega] at e49
      rw [br_in (by omega)] at d1 f1
      have k49 : gA s49 113 = upZ (upZ (gA X 113) u q42.1) (8 + u) q47.1 := by
        rw [(q_AA e49 : gA s49 113 = _), f3, (q_AA e44 : gA s44 113 = _), d3]
      rw [show ((u : Int) + 1) = ((u + 1 : Nat) : Int) by omega]
      refine ih (u + 1) s49 (by omega) hC (by rw [(q_Ai e49 : gI s49 114 = _), f2]; omega) (by rw [k49, upZ_n (by omega), upZ_n (by omega)]; exact h16) (fun v hv1 => ?_) (fun k hk => by rw [(q_Aa e49 hk : gA s49 k = _), f3, (q_Aa e44 hk : gA s44 k = _), d3]; exact kA k hk) (fun i hi => by rw [(q_Ai e49 : gI s49 i = _), f4 i hi, (q_Ai e44 : gI s44 i = _), d4 i hi]; exact kI i hi)
      rw [k49]
      by_cases z : v = u
      · rw [z, upZ_n (show u ≠ 8 + u by omega), upZ_s, upZ_s]; exact ⟨d1, f1⟩
      · rw [upZ_n (show v ≠ 8 + u by omega), upZ_n z, upZ_n (show 8 + v ≠ 8 + u by omega), upZ_n (show 8 + v ≠ u by omega)]; exact hv v (by omega)
  refine pc_rg (pc_if (fun c => absurd (a1.symm.trans c) (by omega)) (fun _ => pc_rg (pc_if (fun c => absurd (b1.symm.trans c) (by omega)) (fun _ => pc_rdI (fun _ => ?_)))))
  rw [show Int.toNat 16 = 16 from rfl, k113, upZ_s]
  refine pc_rg (pc_if (fun c => L59 FU 0 s59 (by omega) c i59 (by rw [k113, upZ_s]) (fun v hv => absurd hv (by omega)) A59 I59) (fun c => pc_some ⟨Or.inl rfl, ⟨fun w => absurd w (show ¬ ((0 : Int) = 1) by decide), fun w => absurd w.1 c⟩, fun w => absurd w (show ¬ ((0 : Int) = 1) by decide), A59, I59⟩))
/-- all that the reference asks of an image, behind its bytes -/
def CIM (f : Nat → Int) (N E : Int) : Prop := IG f N E ∧ (CQ f N 0 ∧ CQ f N 1) ∧ ∀ b, b < 48 → DLa f b → 0 < (hLa f).1 b → ∀ k : Nat, (k : Int) < (hLa f).2.1 b → KSe f b k
set_option maxHeartbeats 1000000 in
/-- an image that has all of it is none that is refused -/
theorem m_img0 {N e : Nat} {E : Int} {g : Nat → Int} {T : MS} (hR : Rr T) (hN : N ≤ 48) (hE : 3 ≤ E ∧ E ≤ 6) (BY : ∀ j, j ≤ e → 0 ≤ g j ∧ g j ≤ 255) (he : 19 ≤ e ∧ e ≤ 1599) (h47 : gI T 47 ≠ 0) (h5 : gA T 39 5 = (N : Int)) (h6 : gA T 39 6 = E) (hT : TPr T g e) (hK : ∀ r, m_x12_checked_v2 (e : Int) T = some r → g e = r) (hC : cst g ≤ 999999) (hI : IMR g e N E 0 19) (hF : ∀ f, RRA f g N → HDr f g → CIM f (N : Int) E) : pc (m_x12_isImage ((e : Int) + 1) T) (fun q => q.1 = 1 ∧ RRA (gA q.2 113) g N ∧ HDr (gA q.2 113) g) := by
  have E1 : (e : Int) + 1 - 1 = (e : Int) := by omega
  unfold m_x12_isImage m_x12_isImage_J44
  refine pc_rg (pc_if (fun c => absurd c h47) (fun _ => pc_rg (pc_if (fun c => absurd c (by omega)) (fun _ => pc_rdI (fun _ => ?_)))))
  rw [E1, Int.toNat_natCast, hT e (Nat.le_refl _)]
  refine pc_bn (fun r55 e55 => pc_rg (pc_rg (pc_if (fun _ => pc_bn (fun q61 e61 => ?_)) (fun c => absurd (hK r55 e55) c))))
  obtain ⟨p1, p2, p3, p4, p5⟩ := m_isLaid hN hE.2 BY he.1 h5 h6 hT q61 e61
  have q1 := p2.2 ⟨hC, hI⟩
  have R61 : Rr q61.2 := (wp_det (w_x12_isLaid hR (p0 := (e : Int)) ⟨by omega, by omega⟩ ⟨by omega, by omega⟩ (by rw [h6]; exact hE)) e61).1
  obtain ⟨hA, hH⟩ := p3 q1
  obtain ⟨f, hf⟩ : ∃ f, f = gA q61.2 113 := ⟨_, rfl⟩
  rw [← hf] at hA hH
  obtain ⟨IGf, ⟨C0, C1⟩, KS'⟩ := hF f hA hH
  have n5 : ∀ X : MS, gA X 39 = gA T 39 → gA X 39 5 = (N : Int) := fun X h => by rw [h]; exact h5
  have L92 : ∀ (n x : Nat) (X : MS), 1 ≤ x → gA X 113 = f → gA X 39 = gA T 39 → pc (m_x12_isImage_L92 n (x : Int) X) (fun q => q.1 = 1 ∧ RRA (gA q.2 113) g N ∧ HDr (gA q.2 113) g) := by
    refine fr_ind (fun _ _ _ _ _ => pc_none) (fun n ih x X hx h1 h2 => ?_)
    show pc (m_x12_isImage_b92 (m_x12_isImage_L92 n) (x : Int) X) _
    unfold m_x12_isImage_b92
    refine pc_rg (pc_if (fun _ => pc_some ⟨rfl, by rw [h1]; exact hA, by rw [h1]; exact hH⟩) (fun _ => ?_))
    have L101 : ∀ (m y : Nat) (X : MS), gA X 113 = f → gA X 39 = gA T 39 → pc (m_x12_isImage_L101 (m_x12_isImage_L92 n) m (x : Int) (y : Int) X) (fun q => q.1 = 1 ∧ RRA (gA q.2 113) g N ∧ HDr (gA q.2 113) g) := by
      refine fr_ind (fun _ _ _ _ => pc_none) (fun m ihm y X h1 h2 => ?_)
      show pc (m_x12_isImage_b101 (m_x12_isImage_L92 n) (m_x12_isImage_L101 (m_x12_isImage_L92 n) m) (x : Int) (y : Int) X) _
      unfold m_x12_isImage_b101 m_x12_isImage_J129
      refine pc_bq m_blkMany (fun r10 h10 => ?_)
      rw [h10, n5 X h2]
      have NX : ∀ Y : MS, gA Y 113 = f → gA Y 39 = gA T 39 → pc (m_x12_isImage_L101 (m_x12_isImage_L92 n) m (x : Int) ((y : Int) + 1) Y) (fun q => q.1 = 1 ∧ RRA (gA q.2 113) g N ∧ HDr (gA q.2 113) g) := fun Y y1 y2 => by
        rw [show ((y : Int) + 1) = ((y + 1 : Nat) : Int) by omega]
        exact ihm (y + 1) Y y1 y2
      refine pc_rg (pc_rg (pc_if (fun _ => ?_) (fun c2 => pc_bq m_laid (fun r15 h15 => ?_))))
      · rw [show ((x : Int) + 1) = ((x + 1 : Nat) : Int) by omega]
        exact ih (x + 1) X (by omega) h1 h2
      rw [h1, show (17 + 16 * (y : Int) + 2).toNat = 19 + 16 * y by omega] at h15
      have y48 : y < 48 := by omega
      refine pc_rg (pc_rg (pc_if (fun c3 => pc_bn (fun q21 e21 => ?_)) (fun _ => NX X h1 h2)))
      have lv : (hLa f).1 y = (x : Int) := h15.symm.trans c3
      have dl : DLa f y := IG_lev IGf y48 (by omega)
      have F21 : F_x12_areKeys X q21.2 := fr_x12_areKeys e21
      have y0 := m_keys0 IGf y48 dl h1 q21 e21
      refine pc_rg (pc_if (fun c4 => ?_) (fun _ => NX q21.2 ((F21.2.1 113 (by decide)).trans h1) ((F21.2.1 39 (by decide)).trans h2)))
      exfalso
      obtain ⟨_, k, k1, k2⟩ := y0 c4
      exact k2 (KS' y y48 dl (by omega) k k1)
    exact L101 FU 0 X h1 h2
  have L48 : ∀ (n y : Nat), pc (m_x12_isImage_L48 n (y : Int) q61.2) (fun q => q.1 = 1 ∧ RRA (gA q.2 113) g N ∧ HDr (gA q.2 113) g) := by
    refine fr_ind (fun _ => pc_none) (fun n ih y => ?_)
    show pc (m_x12_isImage_b48 (m_x12_isImage_L48 n) (y : Int) q61.2) _
    unfold m_x12_isImage_b48 m_x12_isImage_J88
    have h39 : gA q61.2 39 = gA T 39 := p4 39 (by decide)
    refine pc_bq m_blkMany (fun r30 h30 => ?_)
    rw [h30, n5 q61.2 h39]
    refine pc_rg (pc_rg (pc_if (fun _ => pc_bn (fun q36 e36 => ?_)) (fun c2 => pc_bn (fun r45 e45 => ?_))))
    · have IG61 : IG (gA q61.2 113) (gA q61.2 39 5) E := by rw [← hf, n5 q61.2 h39]; exact IGf
      obtain ⟨R36, F36, w36⟩ := wp_det (mc_areCounts R61 IG61 (Or.inl rfl)) e36
      rw [← hf, n5 q61.2 h39] at w36
      have f36 : gA q36.2 113 = f := (F36.2.1 113 (by decide)).trans hf.symm
      have g36 : gA q36.2 39 = gA T 39 := (F36.2.1 39 (by decide)).trans h39
      refine pc_rg (pc_if (fun c => ?_) (fun _ => pc_bn (fun q41 e41 => ?_)))
      · exfalso
        rcases w36 with ⟨_, a⟩ | ⟨a, _⟩
        · exact a C0
        · exact absurd (a.symm.trans c) (by decide)
      have IG36 : IG (gA q36.2 113) (gA q36.2 39 5) E := by rw [f36, n5 q36.2 g36]; exact IGf
      obtain ⟨R41, F41, w41⟩ := wp_det (mc_areCounts R36 IG36 (Or.inr rfl)) e41
      rw [f36, n5 q36.2 g36] at w41
      refine pc_rg (pc_if (fun c => ?_) (fun _ => L92 FU 1 q41.2 (Nat.le_refl _) ((F41.2.1 113 (by decide)).trans f36) ((F41.2.1 39 (by decide)).trans g36)))
      exfalso
      rcases w41 with ⟨_, a⟩ | ⟨a, _⟩
      · exact a C1
      · exact absurd (a.symm.trans c) (by decide)
    · have v0 := m_vals0 (b := y) hf.symm (n5 q61.2 h39) FU 0
      have v1 : r45 = 0 → ∃ j : Nat, (j : Int) < f (20 + 16 * y) ∧ ¬ AV1 f (N : Int) y j := by
        unfold m_x12_areValues at e45
        exact v0 r45 e45
      refine pc_rg (pc_if (fun c => ?_) (fun _ => ?_))
      · exfalso
        obtain ⟨j, j1, j2⟩ := v1 c
        exact j2 (IGf.2.2.2.2.1 y (by omega) j j1)
      · rw [show ((y : Int) + 1) = ((y + 1 : Nat) : Int) by omega]
        exact ih (y + 1)
  exact pc_rg (pc_if (fun c => absurd (q1.symm.trans c) (by decide)) (fun _ => L48 FU 0))
set_option maxHeartbeats 1000000 in
/-- an image that is taken: what its bytes are -/
theorem m_img1 {N e : Nat} {E : Int} {g : Nat → Int} {T : MS} (hN : N ≤ 48) (hE : 3 ≤ E ∧ E ≤ 6) (BY : ∀ j, j ≤ e → 0 ≤ g j ∧ g j ≤ 255) (h5 : gA T 39 5 = (N : Int)) (h6 : gA T 39 6 = E) (hT : TPr T g e) : pc (m_x12_isImage ((e : Int) + 1) T) (fun q => (q.1 = 0 ∨ q.1 = 1) ∧ (q.1 = 1 → 19 ≤ e ∧ (∀ r, m_x12_checked_v2 (e : Int) T = some r → g e = r) ∧ cst g ≤ 999999 ∧ IMR g e N E 0 19 ∧ RRA (gA q.2 113) g N ∧ HDr (gA q.2 113) g ∧ (IG (gA q.2 113) (N : Int) E → ∀ b, b < 48 → DLa (gA q.2 113) b → 0 < (hLa (gA q.2 113)).1 b → ∀ k : Nat, (k : Int) < (hLa (gA q.2 113)).2.1 b → KSe (gA q.2 113) b k))) := by
  have E1 : (e : Int) + 1 - 1 = (e : Int) := by omega
  have ZZ : ∀ (X : MS) (P : Prop), ((0 : Int) = 0 ∨ (0 : Int) = 1) ∧ ((0 : Int) = 1 → P) := fun X P => ⟨Or.inl rfl, fun w => absurd w (by decide)⟩
  unfold m_x12_isImage m_x12_isImage_J44
  refine pc_rg (pc_if (fun _ => pc_some (ZZ T _)) (fun _ => pc_rg (pc_if (fun _ => pc_some (ZZ T _)) (fun c2 => pc_rdI (fun _ => ?_)))))
  rw [E1, Int.toNat_natCast, hT e (Nat.le_refl _)]
  have he : 19 ≤ e := by omega
  refine pc_bn (fun r55 e55 => pc_rg (pc_rg (pc_if (fun ck => pc_bn (fun q61 e61 => ?_)) (fun _ => pc_some (ZZ T _)))))
  obtain ⟨p1, p2, p3, p4, p5⟩ := m_isLaid hN hE.2 BY he h5 h6 hT q61 e61
  refine pc_rg (pc_if (fun _ => pc_some (ZZ q61.2 _)) (fun c3 => ?_))
  have q1 := p1.resolve_left c3
  obtain ⟨hA, hH⟩ := p3 q1
  have cc := p2.1 q1
  have hk : ∀ r, m_x12_checked_v2 (e : Int) T = some r → g e = r := fun r er => by
    rw [e55] at er
    have := Option.some.inj er
    rw [← this]; exact ck
  -- the rest leaves the bytes as they lie
  obtain ⟨f, hf⟩ : ∃ f, f = gA q61.2 113 := ⟨_, rfl⟩
  rw [← hf] at hA hH
  have FIN : ∀ X : MS, gA X 113 = f → (IG f (N : Int) E → ∀ b, b < 48 → DLa f b → 0 < (hLa f).1 b → ∀ k : Nat, (k : Int) < (hLa f).2.1 b → KSe f b k) → 19 ≤ e ∧ (∀ r, m_x12_checked_v2 (e : Int) T = some r → g e = r) ∧ cst g ≤ 999999 ∧ IMR g e N E 0 19 ∧ RRA (gA X 113) g N ∧ HDr (gA X 113) g ∧ (IG (gA X 113) (N : Int) E → ∀ b, b < 48 → DLa (gA X 113) b → 0 < (hLa (gA X 113)).1 b → ∀ k : Nat, (k : Int) < (hLa (gA X 113)).2.1 b → KSe (gA X 113) b k) := fun X h hk2 => ⟨he, hk, cc.1, cc.2, by rw [h]; exact hA, by rw [h]; exact hH, by rw [h]; exact hk2⟩
  have L92 : ∀ (n x : Nat) (X : MS), 1 ≤ x → gA X 113 = f → gA X 39 = gA T 39 → (IG f (N : Int) E → ∀ b, b < 48 → DLa f b → 0 < (hLa f).1 b → ((hLa f).1 b < (x : Int) ∨ ((hLa f).1 b = (x : Int) ∧ b < 0)) → ∀ k : Nat, (k : Int) < (hLa f).2.1 b → KSe f b k) → pc (m_x12_isImage_L92 n (x : Int) X) (fun q => (q.1 = 0 ∨ q.1 = 1) ∧ (q.1 = 1 → 19 ≤ e ∧ (∀ r, m_x12_checked_v2 (e : Int) T = some r → g e = r) ∧ cst g ≤ 999999 ∧ IMR g e N E 0 19 ∧ RRA (gA q.2 113) g N ∧ HDr (gA q.2 113) g ∧ (IG (gA q.2 113) (N : Int) E → ∀ b, b < 48 → DLa (gA q.2 113) b → 0 < (hLa (gA q.2 113)).1 b → ∀ k : Nat, (k : Int) < (hLa (gA q.2 113)).2.1 b → KSe (gA q.2 113) b k))) := by
    refine fr_ind (fun _ _ _ _ _ _ => pc_none) (fun n ih x X hx h1 h39 hD => ?_)
    show pc (m_x12_isImage_b92 (m_x12_isImage_L92 n) (x : Int) X) _
    unfold m_x12_isImage_b92
    refine pc_rg (pc_if (fun c => pc_some ⟨Or.inr rfl, fun _ => FIN X h1 (fun H b hb hd hl k hk => hD H b hb hd hl (Or.inl (by have t := IG_there H hb hd; omega)) k hk)⟩) (fun _ => ?_))
    have L101 : ∀ (m y : Nat) (X : MS), gA X 113 = f → gA X 39 = gA T 39 → (IG f (N : Int) E → ∀ b, b < 48 → DLa f b → 0 < (hLa f).1 b → ((hLa f).1 b < (x : Int) ∨ ((hLa f).1 b = (x : Int) ∧ b < y)) → ∀ k : Nat, (k : Int) < (hLa f).2.1 b → KSe f b k) → pc (m_x12_isImage_L101 (m_x12_isImage_L92 n) m (x : Int) (y : Int) X) (fun q => (q.1 = 0 ∨ q.1 = 1) ∧ (q.1 = 1 → 19 ≤ e ∧ (∀ r, m_x12_checked_v2 (e : Int) T = some r → g e = r) ∧ cst g ≤ 999999 ∧ IMR g e N E 0 19 ∧ RRA (gA q.2 113) g N ∧ HDr (gA q.2 113) g ∧ (IG (gA q.2 113) (N : Int) E → ∀ b, b < 48 → DLa (gA q.2 113) b → 0 < (hLa (gA q.2 113)).1 b → ∀ k : Nat, (k : Int) < (hLa (gA q.2 113)).2.1 b → KSe (gA q.2 113) b k))) := by
      refine fr_ind (fun _ _ _ _ _ => pc_none) (fun m ihm y X h1 h39 hD => ?_)
      show pc (m_x12_isImage_b101 (m_x12_isImage_L92 n) (m_x12_isImage_L101 (m_x12_isImage_L92 n) m) (x : Int) (y : Int) X) _
      unfold m_x12_isImage_b101 m_x12_isImage_J129
      refine pc_bq m_blkMany (fun r10 h10 => ?_)
      rw [h10, h39, h5]
      refine pc_rg (pc_rg (pc_if (fun c2 => ?_) (fun c2 => pc_bq m_laid (fun r15 h15 => ?_))))
      · rw [show ((x : Int) + 1) = ((x + 1 : Nat) : Int) by omega]
        refine ih (x + 1) X (by omega) h1 h39 (fun H b hb hd hl hlv k hk => hD H b hb hd hl ?_ k hk)
        have t := (IG_there H hb hd).1
        omega
      rw [h1, show (17 + 16 * (y : Int) + 2).toNat = 19 + 16 * y by omega] at h15
      have y48 : y < 48 := by omega
      rw [show ((y : Int) + 1) = ((y + 1 : Nat) : Int) by omega]
      refine pc_rg (pc_rg (pc_if (fun c3 => pc_bn (fun q21 e21 => ?_)) (fun c3 => ihm (y + 1) X h1 h39 (fun H b hb hd hl hlv k hk => hD H b hb hd hl ?_ k hk))))
      rotate_left
      · have : b = y → (hLa f).1 b ≠ (x : Int) := fun z w => c3 (by rw [h15]; rw [z] at w; exact w)
        omega
      have F21 : F_x12_areKeys X q21.2 := fr_x12_areKeys e21
      refine pc_rg (pc_if (fun _ => pc_some (ZZ q21.2 _)) (fun c4 => ihm (y + 1) q21.2 ((F21.2.1 113 (by decide)).trans h1) ((F21.2.1 39 (by decide)).trans h39) (fun H b hb hd hl hlv k hk => ?_)))
      by_cases z : b = y
      · rw [z] at hd hl hk ⊢
        have q1 : q21.1 = 1 := (b_keys q21 e21).resolve_left c4
        exact m_keys1 H y48 hd hl h1 q21 e21 q1 k hk
      · exact hD H b hb hd hl (by omega) k hk
    exact L101 FU 0 X h1 h39 (fun H b hb hd hl hlv k hk => hD H b hb hd hl (by omega) k hk)
  have L48 : ∀ (n : Nat) (y : Int), pc (m_x12_isImage_L48 n y q61.2) (fun q => (q.1 = 0 ∨ q.1 = 1) ∧ (q.1 = 1 → 19 ≤ e ∧ (∀ r, m_x12_checked_v2 (e : Int) T = some r → g e = r) ∧ cst g ≤ 999999 ∧ IMR g e N E 0 19 ∧ RRA (gA q.2 113) g N ∧ HDr (gA q.2 113) g ∧ (IG (gA q.2 113) (N : Int) E → ∀ b, b < 48 → DLa (gA q.2 113) b → 0 < (hLa (gA q.2 113)).1 b → ∀ k : Nat, (k : Int) < (hLa (gA q.2 113)).2.1 b → KSe (gA q.2 113) b k))) := by
    refine fr_ind (fun _ => pc_none) (fun n ih y => ?_)
    show pc (m_x12_isImage_b48 (m_x12_isImage_L48 n) y q61.2) _
    unfold m_x12_isImage_b48 m_x12_isImage_J88
    refine pc_bn (fun r30 _ => pc_rg (pc_rg (pc_if (fun _ => pc_bn (fun q36 e36 => pc_rg (pc_if (fun _ => pc_some (ZZ q36.2 _)) (fun _ => pc_bn (fun q41 e41 => pc_rg (pc_if (fun _ => pc_some (ZZ q41.2 _)) (fun _ => ?_))))))) (fun _ => pc_bn (fun r45 _ => pc_rg (pc_if (fun _ => pc_some (ZZ q61.2 _)) (fun _ => ih _)))))))
    have F36 : F_x12_areCounts q61.2 q36.2 := fr_x12_areCounts e36
    have F41 : F_x12_areCounts q36.2 q41.2 := fr_x12_areCounts e41
    exact L92 FU 1 q41.2 (Nat.le_refl _) ((F41.2.1 113 (by decide)).trans ((F36.2.1 113 (by decide)).trans hf.symm)) ((F41.2.1 39 (by decide)).trans ((F36.2.1 39 (by decide)).trans (p4 39 (by decide)))) (fun H b hb hd hl hlv k hk => by exfalso; omega)
  exact L48 FU 0
