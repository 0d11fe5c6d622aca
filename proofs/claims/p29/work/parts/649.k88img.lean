/-! ===== an image, as the reference judges it ===== -/
def HDr (f g : Nat → Int) : Prop := f 16 = cst g ∧ ∀ u, u < 8 → f u = g (3 + 2 * u) ∧ f (8 + u) = g (4 + 2 * u)
def PLd (g : Nat → Int) (e N : Nat) (C : Prop) (T : MS) (q : Int × MS) : Prop := (q.1 = 0 ∨ q.1 = 1) ∧ (q.1 = 1 ↔ C) ∧ (q.1 = 1 → RRA (gA q.2 113) g N ∧ HDr (gA q.2 113) g) ∧ (∀ k, k ≠ 113 → gA q.2 k = gA T k) ∧ ∀ i, i ≠ 114 → gI q.2 i = gI T i
set_option maxHeartbeats 1000000 in
theorem m_isLaid {N e : Nat} {E : Int} {g : Nat → Int} {T : MS} (hN : N ≤ 48) (hE : E ≤ 6) (BY : ∀ j, j ≤ e → 0 ≤ g j ∧ g j ≤ 255) (he : 19 ≤ e) (h5 : gA T 39 5 = (N : Int)) (h6 : gA T 39 6 = E) (hT : TPr T g e) : pc (m_x12_isLaid (e : Int) T) (PLd g e N (cst g ≤ 999999 ∧ IMR g e N E 0 19) T) := by
  unfold m_x12_isLaid m_x12_isLaid_J54
  refine pc_stn (fun s51 e51 => ?_)
  have A51 : ∀ k, gA s51 k = gA T k := fun k => q_Ia e51
  have I51 : ∀ i, i ≠ 114 → gI s51 i = gI T i := fun i hi => q_Ii e51 hi
  refine pc_bq (m_byte (e := e) (p := 0) (TPr_k hT (A51 0)) (q_II e51)) (fun q54 h54 => ?_)
  obtain ⟨a1, a2, a3, a4⟩ := h54
  refine pc_bq (m_two (e := e) (p := 1) BY (TPr_k hT ((a3 0).trans (A51 0))) (by rw [a2]; rfl)) (fun q57 h57 => pc_inb (pc_stn (fun s59 e59 => ?_)))
  obtain ⟨b1, b2, b3, b4⟩ := h57
  rw [br_in (by omega)] at a1
  rw [tw2_in (by omega)] at b1
  have y0 := BY 0 (by omega)
  have y1 := BY 1 (by omega)
  have y2 := BY (1 + 1) (by omega)
  have k113 : gA s59 113 = upZ (gA T 113) 16 (cst g) := by
    rw [(q_AA e59 : gA s59 113 = _), b3, a3, A51, a1, b1]
    rfl
  have A59 : ∀ k, k ≠ 113 → gA s59 k = gA T k := fun k hk => by rw [(q_Aa e59 hk : gA s59 k = _), b3, a3, A51]
  have I59 : ∀ i, i ≠ 114 → gI s59 i = gI T i := fun i hi => by rw [(q_Ai e59 : gI s59 i = _), b4 i hi, a4 i hi, I51 i hi]
  have i59 : gI s59 114 = ((3 + 2 * 0 : Nat) : Int) := by rw [(q_Ai e59 : gI s59 114 = _), b2]; rfl
  have L59 : ∀ (n u : Nat) (X : MS), u ≤ 8 → cst g ≤ 999999 → gI X 114 = ((3 + 2 * u : Nat) : Int) → gA X 113 16 = cst g → (∀ v, v < u → gA X 113 v = g (3 + 2 * v) ∧ gA X 113 (8 + v) = g (4 + 2 * v)) → (∀ k, k ≠ 113 → gA X k = gA T k) → (∀ i, i ≠ 114 → gI X i = gI T i) → pc (m_x12_isLaid_L59 n (e : Int) (u : Int) X) (PLd g e N (cst g ≤ 999999 ∧ IMR g e N E 0 19) T) := by
    refine fr_ind (fun _ _ _ _ _ _ _ _ _ => pc_none) (fun n ih u X hu hC hp h16 hv kA kI => ?_)
    show pc (m_x12_isLaid_b59 (m_x12_isLaid_L59 n) (e : Int) (u : Int) X) _
    unfold m_x12_isLaid_b59
    have hX0 : TPr X g e := TPr_k hT (kA 0 (by decide))
    refine pc_rg (pc_if (fun c => ?_) (fun c => ?_))
    · have u8 : u = 8 := by omega
      rw [u8] at hp hv
      have L := m_L102 hN hE BY FU 0 19 X (by omega) (by rw [kA 39 (by decide)]; exact h5) (by rw [kA 39 (by decide)]; exact h6) hX0 hp (fun _ => ⟨rfl, fun x hx => absurd hx (by omega)⟩)
      refine pc_mono L (fun q hq => ?_)
      obtain ⟨c1, c2, c3, c4, c5, c6⟩ := hq
      exact ⟨c1, c2.trans ⟨fun w => ⟨hC, w⟩, fun w => w.2⟩, fun w => ⟨c3 w, by rw [c4 16 (by omega)]; exact h16, fun v hv8 => by rw [c4 v (by omega), c4 (8 + v) (by omega)]; exact hv v hv8⟩, fun k hk => (c5 k hk).trans (kA k hk), fun i hi => (c6 i hi).trans (kI i hi)⟩
    · refine pc_bq (m_byte (e := e) hX0 hp) (fun q42 h42 => pc_inb (pc_stn (fun s44 e44 => ?_)))
      obtain ⟨d1, d2, d3, d4⟩ := h42
      rw [Int.toNat_natCast] at e44
      refine pc_bq (m_byte (e := e) (p := 4 + 2 * u) (TPr_k hX0 (by rw [(q_Aa e44 (by decide) : gA s44 0 = _), d3])) (by rw [(q_Ai e44 : gI s44 114 = _), d2]; omega)) (fun q47 h47 => pc_inb (pc_stn (fun s49 e49 => ?_)))
      obtain ⟨f1, f2, f3, f4⟩ := h47
      rw [show (8 + (u : Int)).toNat = 8 + u by omega] at e49
      rw [br_in (by omega)] at d1 f1
      have k49 : gA s49 113 = upZ (upZ (gA X 113) u q42.1) (8 + u) q47.1 := by
        rw [(q_AA e49 : gA s49 113 = _), f3, (q_AA e44 : gA s44 113 = _), d3]
      rw [show ((u : Int) + 1) = ((u + 1 : Nat) : Int) by omega]
      refine ih (u + 1) s49 (by omega) hC (by rw [(q_Ai e49 : gI s49 114 = _), f2]; omega) (by rw [k49, upZ_n (by omega), upZ_n (by omega)]; exact h16) (fun v hv1 => ?_) (fun k hk => by rw [(q_Aa e49 hk : gA s49 k = _), f3, (q_Aa e44 hk : gA s44 k = _), d3]; exact kA k hk) (fun i hi => by rw [(q_Ai e49 : gI s49 i = _), f4 i hi, (q_Ai e44 : gI s44 i = _), d4 i hi]; exact kI i hi)
      rw [k49]
      by_cases z : v = u
      · rw [z, upZ_n (show u ≠ 8 + u by omega), upZ_s, upZ_s]; exact ⟨d1, f1⟩
      · rw [upZ_n (show v ≠ 8 + u by omega), upZ_n z, upZ_n (show 8 + v ≠ 8 + u by omega), upZ_n (show 8 + v ≠ u by omega)]; exact hv v (by omega)
  refine pc_rg (pc_if (fun c => absurd (a1.symm.trans c) (by omega)) (fun _ => pc_rg (pc_if (fun c => absurd (b1.symm.trans c) (by omega)) (fun _ => pc_rdI (fun _ => ?_)))))
  rw [show Int.toNat 16 = 16 from rfl, k113, upZ_s]
  refine pc_rg (pc_if (fun c => L59 FU 0 s59 (by omega) c i59 (by rw [k113, upZ_s]) (fun v hv => absurd hv (by omega)) A59 I59) (fun c => pc_some ⟨Or.inl rfl, ⟨fun w => absurd w (show ¬ ((0 : Int) = 1) by decide), fun w => absurd w.1 c⟩, fun w => absurd w (show ¬ ((0 : Int) = 1) by decide), A59, I59⟩))
/-- all that the reference asks of an image, behind its bytes -/
def CIM (f : Nat → Int) (N E : Int) : Prop := IG f N E ∧ (CQ f N 0 ∧ CQ f N 1) ∧ ∀ b, b < 48 → DLa f b → 0 < (hLa f).1 b → ∀ k : Nat, (k : Int) < (hLa f).2.1 b → KSe f b k
set_option maxHeartbeats 1000000 in
/-- an image that has all of it is none that is refused -/
theorem m_img0 {N e : Nat} {E : Int} {g : Nat → Int} {T : MS} (hR : Rr T) (hN : N ≤ 48) (hE : 3 ≤ E ∧ E ≤ 6) (BY : ∀ j, j ≤ e → 0 ≤ g j ∧ g j ≤ 255) (he : 19 ≤ e ∧ e ≤ 1599) (h47 : gI T 47 ≠ 0) (h5 : gA T 39 5 = (N : Int)) (h6 : gA T 39 6 = E) (hT : TPr T g e) (hK : ∀ r, m_x12_checked_v2 (e : Int) T = some r → g e = r) (hC : cst g ≤ 999999) (hI : IMR g e N E 0 19) (hF : ∀ f, RRA f g N → HDr f g → CIM f (N : Int) E) : pc (m_x12_isImage ((e : Int) + 1) T) (fun q => q.1 = 1 ∧ RRA (gA q.2 113) g N ∧ HDr (gA q.2 113) g) := by
  have E1 : (e : Int) + 1 - 1 = (e : Int) := by omega
  unfold m_x12_isImage m_x12_isImage_J44
  refine pc_rg (pc_if (fun c => absurd c h47) (fun _ => pc_rg (pc_if (fun c => absurd c (by omega)) (fun _ => pc_rdI (fun _ => ?_)))))
  rw [E1, Int.toNat_natCast, hT e (Nat.le_refl _)]
  refine pc_bn (fun r55 e55 => pc_rg (pc_rg (pc_if (fun _ => pc_bn (fun q61 e61 => ?_)) (fun c => absurd (hK r55 e55) c))))
  obtain ⟨p1, p2, p3, p4, p5⟩ := m_isLaid hN hE.2 BY he.1 h5 h6 hT q61 e61
  have q1 := p2.2 ⟨hC, hI⟩
  have R61 : Rr q61.2 := (wp_det (w_x12_isLaid hR (p0 := (e : Int)) ⟨by omega, by omega⟩ ⟨by omega, by omega⟩ (by rw [h6]; exact hE)) e61).1
  obtain ⟨hA, hH⟩ := p3 q1
  obtain ⟨f, hf⟩ : ∃ f, f = gA q61.2 113 := ⟨_, rfl⟩
  rw [← hf] at hA hH
  obtain ⟨IGf, ⟨C0, C1⟩, KS'⟩ := hF f hA hH
  have n5 : ∀ X : MS, gA X 39 = gA T 39 → gA X 39 5 = (N : Int) := fun X h => by rw [h]; exact h5
  have L92 : ∀ (n x : Nat) (X : MS), 1 ≤ x → gA X 113 = f → gA X 39 = gA T 39 → pc (m_x12_isImage_L92 n (x : Int) X) (fun q => q.1 = 1 ∧ RRA (gA q.2 113) g N ∧ HDr (gA q.2 113) g) := by
    refine fr_ind (fun _ _ _ _ _ => pc_none) (fun n ih x X hx h1 h2 => ?_)
    show pc (m_x12_isImage_b92 (m_x12_isImage_L92 n) (x : Int) X) _
    unfold m_x12_isImage_b92
    refine pc_rg (pc_if (fun _ => pc_some ⟨rfl, by rw [h1]; exact hA, by rw [h1]; exact hH⟩) (fun _ => ?_))
    have L101 : ∀ (m y : Nat) (X : MS), gA X 113 = f → gA X 39 = gA T 39 → pc (m_x12_isImage_L101 (m_x12_isImage_L92 n) m (x : Int) (y : Int) X) (fun q => q.1 = 1 ∧ RRA (gA q.2 113) g N ∧ HDr (gA q.2 113) g) := by
      refine fr_ind (fun _ _ _ _ => pc_none) (fun m ihm y X h1 h2 => ?_)
      show pc (m_x12_isImage_b101 (m_x12_isImage_L92 n) (m_x12_isImage_L101 (m_x12_isImage_L92 n) m) (x : Int) (y : Int) X) _
      unfold m_x12_isImage_b101 m_x12_isImage_J129
      refine pc_bq m_blkMany (fun r10 h10 => ?_)
      rw [h10, n5 X h2]
      have NX : ∀ Y : MS, gA Y 113 = f → gA Y 39 = gA T 39 → pc (m_x12_isImage_L101 (m_x12_isImage_L92 n) m (x : Int) ((y : Int) + 1) Y) (fun q => q.1 = 1 ∧ RRA (gA q.2 113) g N ∧ HDr (gA q.2 113) g) := fun Y y1 y2 => by
        rw [show ((y : Int) + 1) = ((y + 1 : Nat) : Int) by omega]
        exact ihm (y + 1) Y y1 y2
      refine pc_rg (pc_rg (pc_if (fun _ => ?_) (fun c2 => pc_bq m_laid (fun r15 h15 => ?_))))
      · rw [show ((x : Int) + 1) = ((x + 1 : Nat) : Int) by omega]
        exact ih (x + 1) X (by omega) h1 h2
      rw [h1, show (17 + 16 * (y : Int) + 2).toNat = 19 + 16 * y by omega] at h15
      have y48 : y < 48 := by omega
      refine pc_rg (pc_rg (pc_if (fun c3 => pc_bn (fun q21 e21 => ?_)) (fun _ => NX X h1 h2)))
      have lv : (hLa f).1 y = (x : Int) := h15.symm.trans c3
      have dl : DLa f y := IG_lev IGf y48 (by omega)
      have F21 : F_x12_areKeys X q21.2 := fr_x12_areKeys e21
      have y0 := m_keys0 IGf y48 dl h1 q21 e21
      refine pc_rg (pc_if (fun c4 => ?_) (fun _ => NX q21.2 ((F21.2.1 113 (by decide)).trans h1) ((F21.2.1 39 (by decide)).trans h2)))
      exfalso
      obtain ⟨_, k, k1, k2⟩ := y0 c4
      exact k2 (KS' y y48 dl (by omega) k k1)
    exact L101 FU 0 X h1 h2
  have L48 : ∀ (n y : Nat), pc (m_x12_isImage_L48 n (y : Int) q61.2) (fun q => q.1 = 1 ∧ RRA (gA q.2 113) g N ∧ HDr (gA q.2 113) g) := by
    refine fr_ind (fun _ => pc_none) (fun n ih y => ?_)
    show pc (m_x12_isImage_b48 (m_x12_isImage_L48 n) (y : Int) q61.2) _
    unfold m_x12_isImage_b48 m_x12_isImage_J88
    have h39 : gA q61.2 39 = gA T 39 := p4 39 (by decide)
    refine pc_bq m_blkMany (fun r30 h30 => ?_)
    rw [h30, n5 q61.2 h39]
    refine pc_rg (pc_rg (pc_if (fun _ => pc_bn (fun q36 e36 => ?_)) (fun c2 => pc_bn (fun r45 e45 => ?_))))
    · have IG61 : IG (gA q61.2 113) (gA q61.2 39 5) E := by rw [← hf, n5 q61.2 h39]; exact IGf
      obtain ⟨R36, F36, w36⟩ := wp_det (mc_areCounts R61 IG61 (Or.inl rfl)) e36
      rw [← hf, n5 q61.2 h39] at w36
      have f36 : gA q36.2 113 = f := (F36.2.1 113 (by decide)).trans hf.symm
      have g36 : gA q36.2 39 = gA T 39 := (F36.2.1 39 (by decide)).trans h39
      refine pc_rg (pc_if (fun c => ?_) (fun _ => pc_bn (fun q41 e41 => ?_)))
      · exfalso
        rcases w36 with ⟨_, a⟩ | ⟨a, _⟩
        · exact a C0
        · exact absurd (a.symm.trans c) (by decide)
      have IG36 : IG (gA q36.2 113) (gA q36.2 39 5) E := by rw [f36, n5 q36.2 g36]; exact IGf
      obtain ⟨R41, F41, w41⟩ := wp_det (mc_areCounts R36 IG36 (Or.inr rfl)) e41
      rw [f36, n5 q36.2 g36] at w41
      refine pc_rg (pc_if (fun c => ?_) (fun _ => L92 FU 1 q41.2 (Nat.le_refl _) ((F41.2.1 113 (by decide)).trans f36) ((F41.2.1 39 (by decide)).trans g36)))
      exfalso
      rcases w41 with ⟨_, a⟩ | ⟨a, _⟩
      · exact a C1
      · exact absurd (a.symm.trans c) (by decide)
    · have v0 := m_vals0 (b := y) hf.symm (n5 q61.2 h39) FU 0
      have v1 : r45 = 0 → ∃ j : Nat, (j : Int) < f (20 + 16 * y) ∧ ¬ AV1 f (N : Int) y j := by
        unfold m_x12_areValues at e45
        exact v0 r45 e45
      refine pc_rg (pc_if (fun c => ?_) (fun _ => ?_))
      · exfalso
        obtain ⟨j, j1, j2⟩ := v1 c
        exact j2 (IGf.2.2.2.2.1 y (by omega) j j1)
      · rw [show ((y : Int) + 1) = ((y + 1 : Nat) : Int) by omega]
        exact ih (y + 1)
  exact pc_rg (pc_if (fun c => absurd (q1.symm.trans c) (by decide)) (fun _ => L48 FU 0))
set_option maxHeartbeats 1000000 in
/-- an image that is taken: what its bytes are -/
theorem m_img1 {N e : Nat} {E : Int} {g : Nat → Int} {T : MS} (hN : N ≤ 48) (hE : 3 ≤ E ∧ E ≤ 6) (BY : ∀ j, j ≤ e → 0 ≤ g j ∧ g j ≤ 255) (h5 : gA T 39 5 = (N : Int)) (h6 : gA T 39 6 = E) (hT : TPr T g e) : pc (m_x12_isImage ((e : Int) + 1) T) (fun q => (q.1 = 0 ∨ q.1 = 1) ∧ (q.1 = 1 → 19 ≤ e ∧ (∀ r, m_x12_checked_v2 (e : Int) T = some r → g e = r) ∧ cst g ≤ 999999 ∧ IMR g e N E 0 19 ∧ RRA (gA q.2 113) g N ∧ HDr (gA q.2 113) g ∧ (IG (gA q.2 113) (N : Int) E → ∀ b, b < 48 → DLa (gA q.2 113) b → 0 < (hLa (gA q.2 113)).1 b → ∀ k : Nat, (k : Int) < (hLa (gA q.2 113)).2.1 b → KSe (gA q.2 113) b k))) := by
  have E1 : (e : Int) + 1 - 1 = (e : Int) := by omega
  have ZZ : ∀ (X : MS) (P : Prop), ((0 : Int) = 0 ∨ (0 : Int) = 1) ∧ ((0 : Int) = 1 → P) := fun X P => ⟨Or.inl rfl, fun w => absurd w (by decide)⟩
  unfold m_x12_isImage m_x12_isImage_J44
  refine pc_rg (pc_if (fun _ => pc_some (ZZ T _)) (fun _ => pc_rg (pc_if (fun _ => pc_some (ZZ T _)) (fun c2 => pc_rdI (fun _ => ?_)))))
  rw [E1, Int.toNat_natCast, hT e (Nat.le_refl _)]
  have he : 19 ≤ e := by omega
  refine pc_bn (fun r55 e55 => pc_rg (pc_rg (pc_if (fun ck => pc_bn (fun q61 e61 => ?_)) (fun _ => pc_some (ZZ T _)))))
  obtain ⟨p1, p2, p3, p4, p5⟩ := m_isLaid hN hE.2 BY he h5 h6 hT q61 e61
  refine pc_rg (pc_if (fun _ => pc_some (ZZ q61.2 _)) (fun c3 => ?_))
  have q1 := p1.resolve_left c3
  obtain ⟨hA, hH⟩ := p3 q1
  have cc := p2.1 q1
  have hk : ∀ r, m_x12_checked_v2 (e : Int) T = some r → g e = r := fun r er => by
    rw [e55] at er
    have := Option.some.inj er
    rw [← this]; exact ck
  -- the rest leaves the bytes as they lie
  obtain ⟨f, hf⟩ : ∃ f, f = gA q61.2 113 := ⟨_, rfl⟩
  rw [← hf] at hA hH
  have FIN : ∀ X : MS, gA X 113 = f → (IG f (N : Int) E → ∀ b, b < 48 → DLa f b → 0 < (hLa f).1 b → ∀ k : Nat, (k : Int) < (hLa f).2.1 b → KSe f b k) → 19 ≤ e ∧ (∀ r, m_x12_checked_v2 (e : Int) T = some r → g e = r) ∧ cst g ≤ 999999 ∧ IMR g e N E 0 19 ∧ RRA (gA X 113) g N ∧ HDr (gA X 113) g ∧ (IG (gA X 113) (N : Int) E → ∀ b, b < 48 → DLa (gA X 113) b → 0 < (hLa (gA X 113)).1 b → ∀ k : Nat, (k : Int) < (hLa (gA X 113)).2.1 b → KSe (gA X 113) b k) := fun X h hk2 => ⟨he, hk, cc.1, cc.2, by rw [h]; exact hA, by rw [h]; exact hH, by rw [h]; exact hk2⟩
  have L92 : ∀ (n x : Nat) (X : MS), 1 ≤ x → gA X 113 = f → gA X 39 = gA T 39 → (IG f (N : Int) E → ∀ b, b < 48 → DLa f b → 0 < (hLa f).1 b → ((hLa f).1 b < (x : Int) ∨ ((hLa f).1 b = (x : Int) ∧ b < 0)) → ∀ k : Nat, (k : Int) < (hLa f).2.1 b → KSe f b k) → pc (m_x12_isImage_L92 n (x : Int) X) (fun q => (q.1 = 0 ∨ q.1 = 1) ∧ (q.1 = 1 → 19 ≤ e ∧ (∀ r, m_x12_checked_v2 (e : Int) T = some r → g e = r) ∧ cst g ≤ 999999 ∧ IMR g e N E 0 19 ∧ RRA (gA q.2 113) g N ∧ HDr (gA q.2 113) g ∧ (IG (gA q.2 113) (N : Int) E → ∀ b, b < 48 → DLa (gA q.2 113) b → 0 < (hLa (gA q.2 113)).1 b → ∀ k : Nat, (k : Int) < (hLa (gA q.2 113)).2.1 b → KSe (gA q.2 113) b k))) := by
    refine fr_ind (fun _ _ _ _ _ _ => pc_none) (fun n ih x X hx h1 h39 hD => ?_)
    show pc (m_x12_isImage_b92 (m_x12_isImage_L92 n) (x : Int) X) _
    unfold m_x12_isImage_b92
    refine pc_rg (pc_if (fun c => pc_some ⟨Or.inr rfl, fun _ => FIN X h1 (fun H b hb hd hl k hk => hD H b hb hd hl (Or.inl (by have t := IG_there H hb hd; omega)) k hk)⟩) (fun _ => ?_))
    have L101 : ∀ (m y : Nat) (X : MS), gA X 113 = f → gA X 39 = gA T 39 → (IG f (N : Int) E → ∀ b, b < 48 → DLa f b → 0 < (hLa f).1 b → ((hLa f).1 b < (x : Int) ∨ ((hLa f).1 b = (x : Int) ∧ b < y)) → ∀ k : Nat, (k : Int) < (hLa f).2.1 b → KSe f b k) → pc (m_x12_isImage_L101 (m_x12_isImage_L92 n) m (x : Int) (y : Int) X) (fun q => (q.1 = 0 ∨ q.1 = 1) ∧ (q.1 = 1 → 19 ≤ e ∧ (∀ r, m_x12_checked_v2 (e : Int) T = some r → g e = r) ∧ cst g ≤ 999999 ∧ IMR g e N E 0 19 ∧ RRA (gA q.2 113) g N ∧ HDr (gA q.2 113) g ∧ (IG (gA q.2 113) (N : Int) E → ∀ b, b < 48 → DLa (gA q.2 113) b → 0 < (hLa (gA q.2 113)).1 b → ∀ k : Nat, (k : Int) < (hLa (gA q.2 113)).2.1 b → KSe (gA q.2 113) b k))) := by
      refine fr_ind (fun _ _ _ _ _ => pc_none) (fun m ihm y X h1 h39 hD => ?_)
      show pc (m_x12_isImage_b101 (m_x12_isImage_L92 n) (m_x12_isImage_L101 (m_x12_isImage_L92 n) m) (x : Int) (y : Int) X) _
      unfold m_x12_isImage_b101 m_x12_isImage_J129
      refine pc_bq m_blkMany (fun r10 h10 => ?_)
      rw [h10, h39, h5]
      refine pc_rg (pc_rg (pc_if (fun c2 => ?_) (fun c2 => pc_bq m_laid (fun r15 h15 => ?_))))
      · rw [show ((x : Int) + 1) = ((x + 1 : Nat) : Int) by omega]
        refine ih (x + 1) X (by omega) h1 h39 (fun H b hb hd hl hlv k hk => hD H b hb hd hl ?_ k hk)
        have t := (IG_there H hb hd).1
        omega
      rw [h1, show (17 + 16 * (y : Int) + 2).toNat = 19 + 16 * y by omega] at h15
      have y48 : y < 48 := by omega
      rw [show ((y : Int) + 1) = ((y + 1 : Nat) : Int) by omega]
      refine pc_rg (pc_rg (pc_if (fun c3 => pc_bn (fun q21 e21 => ?_)) (fun c3 => ihm (y + 1) X h1 h39 (fun H b hb hd hl hlv k hk => hD H b hb hd hl ?_ k hk))))
      rotate_left
      · have : b = y → (hLa f).1 b ≠ (x : Int) := fun z w => c3 (by rw [h15]; rw [z] at w; exact w)
        omega
      have F21 : F_x12_areKeys X q21.2 := fr_x12_areKeys e21
      refine pc_rg (pc_if (fun _ => pc_some (ZZ q21.2 _)) (fun c4 => ihm (y + 1) q21.2 ((F21.2.1 113 (by decide)).trans h1) ((F21.2.1 39 (by decide)).trans h39) (fun H b hb hd hl hlv k hk => ?_)))
      by_cases z : b = y
      · rw [z] at hd hl hk ⊢
        have q1 : q21.1 = 1 := (b_keys q21 e21).resolve_left c4
        exact m_keys1 H y48 hd hl h1 q21 e21 q1 k hk
      · exact hD H b hb hd hl (by omega) k hk
    exact L101 FU 0 X h1 h39 (fun H b hb hd hl hlv k hk => hD H b hb hd hl (by omega) k hk)
  have L48 : ∀ (n : Nat) (y : Int), pc (m_x12_isImage_L48 n y q61.2) (fun q => (q.1 = 0 ∨ q.1 = 1) ∧ (q.1 = 1 → 19 ≤ e ∧ (∀ r, m_x12_checked_v2 (e : Int) T = some r → g e = r) ∧ cst g ≤ 999999 ∧ IMR g e N E 0 19 ∧ RRA (gA q.2 113) g N ∧ HDr (gA q.2 113) g ∧ (IG (gA q.2 113) (N : Int) E → ∀ b, b < 48 → DLa (gA q.2 113) b → 0 < (hLa (gA q.2 113)).1 b → ∀ k : Nat, (k : Int) < (hLa (gA q.2 113)).2.1 b → KSe (gA q.2 113) b k))) := by
    refine fr_ind (fun _ => pc_none) (fun n ih y => ?_)
    show pc (m_x12_isImage_b48 (m_x12_isImage_L48 n) y q61.2) _
    unfold m_x12_isImage_b48 m_x12_isImage_J88
    refine pc_bn (fun r30 _ => pc_rg (pc_rg (pc_if (fun _ => pc_bn (fun q36 e36 => pc_rg (pc_if (fun _ => pc_some (ZZ q36.2 _)) (fun _ => pc_bn (fun q41 e41 => pc_rg (pc_if (fun _ => pc_some (ZZ q41.2 _)) (fun _ => ?_))))))) (fun _ => pc_bn (fun r45 _ => pc_rg (pc_if (fun _ => pc_some (ZZ q61.2 _)) (fun _ => ih _)))))))
    have F36 : F_x12_areCounts q61.2 q36.2 := fr_x12_areCounts e36
    have F41 : F_x12_areCounts q36.2 q41.2 := fr_x12_areCounts e41
    exact L92 FU 1 q41.2 (Nat.le_refl _) ((F41.2.1 113 (by decide)).trans ((F36.2.1 113 (by decide)).trans hf.symm)) ((F41.2.1 39 (by decide)).trans ((F36.2.1 39 (by decide)).trans (p4 39 (by decide)))) (fun H b hb hd hl hlv k hk => by exfalso; omega)
  exact L48 FU 0
/-! ===== all blocks of an image, sound as the class sees it ===== -/
def nfr (S : MS) (x : Nat) : Prop := ¬ (gA S 72 x = 0 ∧ gA S 73 x = 0)
/-- what is done when the blocks of lower levels, and the first ones of this, were seen -/
def DNE (S : MS) (N l b : Nat) : Prop := ∀ x, x < N → nfr S x → (gA S 74 x < (l : Int) ∨ (gA S 74 x = (l : Int) ∧ x < b)) → SBkI S x ∧ LHk S S x
/-- rows that are read only -/
def KRd (S o : MS) : Prop := (∀ k, k ≠ 18 → k ≠ 19 → k ≠ 20 → gA o k = gA S k) ∧ ∀ i, gI o i = gI S i
theorem KRd_tr {S o q : MS} (h : KRd S o) (g : KRd o q) : KRd S q := ⟨fun k k1 k2 k3 => (g.1 k k1 k2 k3).trans (h.1 k k1 k2 k3), fun i => (g.2 i).trans (h.2 i)⟩
theorem KRd_rf (S : MS) : KRd S S := ⟨fun _ _ _ _ => rfl, fun _ => rfl⟩
theorem nfr_k {S o : MS} {x : Nat} (h : KRd S o) : nfr o x ↔ nfr S x := by
  unfold nfr
  rw [h.1 72 (by decide) (by decide) (by decide), h.1 73 (by decide) (by decide) (by decide)]
/-- one more block, on the level l -/
theorem DNE_step {S o : MS} {N l b : Nat} (hN : ∀ x, x < N → nfr S x → 1 ≤ gA S 75 x) (hbN : b < N) (hb : nfr S b) (D : DNE S N l b) (hl : gA S 74 b = (l : Int)) (hs : SBkI S b) (hh : LHk S o b) (K : KLH S o b) : DNE o N l (b + 1) := by
  obtain ⟨k1, k2, k3⟩ := K
  have e72 := k2 72 (by decide) (by decide)
  have e73 := k2 73 (by decide) (by decide)
  have e74 := k2 74 (by decide) (by decide)
  have e75 := k2 75 (by decide) (by decide)
  have e76 := k2 76 (by decide) (by decide)
  have e77 := k2 77 (by decide) (by decide)
  -- a child lies one level below: it is another block
  have CH : ∀ x k : Nat, CHK S x k → gA S 74 x ≤ (l : Int) → (gA S 77 (6 * x + k)).toNat ≠ b := fun x k c hx z => by
    have w := c.1.2.2
    rw [z, hl] at w
    omega
  have SB : ∀ x, SBkI S x → gA S 74 x ≤ (l : Int) → SBkI o x := fun x s hx => by
    refine ⟨fun k h1 h2 => ?_, fun h1 k h2 => ?_⟩
    · rw [e74] at h1
      rw [e75] at h2
      rw [e76]; exact s.1 k h1 h2
    · rw [e74] at h1
      rw [e75] at h2
      have c := s.2 h1 k h2
      have n := CH x k c hx
      have w := k1 _ n
      unfold CHK at c ⊢
      rw [e72, e73, e74, e75, e76, e77, k3 1420, w.1, w.2]
      exact c
  have LHx : ∀ x, SBkI S x → gA S 74 x ≤ (l : Int) → 1 ≤ gA S 75 x → ∀ o1 : MS, LHk S o1 x → LHk o o1 x := fun x s hx hc o1 h => by
    refine ⟨fun h1 => ?_, fun h1 => ?_⟩
    · rw [e74] at h1
      rw [e75, e76]; exact h.1 h1
    · rw [e74] at h1
      have y := h.2 h1
      have c0 := k1 _ (CH x 0 (s.2 h1 0 (by omega)) hx)
      have c1 := k1 _ (CH x (gA S 75 x - 1).toNat (s.2 h1 _ (by omega)) hx)
      rw [Nat.add_zero] at c0
      rw [e75, e77, c0.1, c1.2]
      exact y
  intro x hx nf hlv
  rw [e74] at hlv
  have nf' : nfr S x := by
    unfold nfr at nf ⊢
    rw [e72, e73] at nf; exact nf
  by_cases z : x = b
  · rw [z]
    exact ⟨SB b hs (by omega), LHx b hs (by omega) (hN b hbN hb) o hh⟩
  · obtain ⟨d1, d2⟩ := D x hx nf' (by omega)
    have w := k1 x z
    refine ⟨SB x d1 (by omega), LHx x d1 (by omega) (hN x hx nf') o ?_⟩
    unfold LHk at d2 ⊢
    rw [w.1, w.2]
    exact d2
theorem s_free3 {b : Nat} {S : MS} (hb : (b : Int) < gI S 1420) : pc (m_x8_isFree_v2 (b : Int) S) (fun r => (r = 1 ∧ ¬ nfr S b) ∨ (r = 0 ∧ nfr S b)) := by
  refine pc_mono (s_free2 hb) (fun r hr => ?_)
  rcases hr with ⟨a, b, c⟩ | ⟨a, b⟩
  · exact Or.inl ⟨a, fun w => w ⟨b, c⟩⟩
  · exact Or.inr ⟨a, b⟩
/-- the whole of it: what a yes says, and what brings one -/
def ALLs (S : MS) (N : Nat) : Prop := (∀ x, x < N → nfr S x → SBkI S x ∧ LHk S S x) ∧ (∀ x : Nat, x < N → gA S 72 x = rf (hJ S) (gA S 72) (gA S 78) (x : Int)) ∧ ∀ x : Nat, x < N → gA S 73 x = rf (hJ S) (gA S 73) (gA S 79) (x : Int)
def HYs (S : MS) (N : Nat) : Prop := (∀ (l b : Nat) (Y : MS), KRd S Y → b < N → nfr S b → gA S 74 b = (l : Int) → DNE Y N l b → SBkI Y b) ∧ (∀ x : Nat, x < N → gA S 72 x = rf (hJ S) (gA S 72) (gA S 78) (x : Int)) ∧ ∀ x : Nat, x < N → gA S 73 x = rf (hJ S) (gA S 73) (gA S 79) (x : Int)
theorem hJ_k {S o : MS} (h : KRd S o) : hJ o = hJ S := by
  unfold hJ
  rw [h.1 74 (by decide) (by decide) (by decide), h.1 75 (by decide) (by decide) (by decide), h.1 77 (by decide) (by decide) (by decide)]
theorem all_20 {S o : MS} {N x : Nat} (k : ∀ j, j ≠ 20 → gA o j = gA S j) (i : ∀ j, gI o j = gI S j) (h : SBkI S x ∧ LHk S S x) : SBkI o x ∧ LHk o o x := by
  unfold SBkI LHk CHK at h ⊢
  rw [k 18 (by decide), k 19 (by decide), k 72 (by decide), k 73 (by decide), k 74 (by decide), k 75 (by decide), k 76 (by decide), k 77 (by decide), i 1420]
  exact h
def PSn (S0 : MS) (N : Nat) (q : Int × MS) : Prop := (q.1 = 0 ∨ q.1 = 1) ∧ KRd S0 q.2 ∧ (q.1 = 1 → ALLs q.2 N) ∧ (HYs S0 N → q.1 = 1)
theorem PSn_0 {S0 X : MS} {N : Nat} (h : KRd S0 X) (n : ¬ HYs S0 N) : PSn S0 N (0, X) := ⟨Or.inl rfl, h, fun w => absurd w (show ¬ ((0 : Int) = 1) by decide), fun w => absurd w n⟩
set_option maxHeartbeats 2000000 in
theorem s_isSound {S0 : MS} {N : Nat} (hR : Rg S0) (hN : N ≤ 48) (h20 : gI S0 1420 = (N : Int)) (hc : ∀ x, x < N → nfr S0 x → (1 ≤ gA S0 75 x ∧ gA S0 75 x ≤ 6) ∧ (0 ≤ gA S0 74 x ∧ gA S0 74 x < 48)) (hz : ∀ p, p < 48 → N ≤ p → gA S0 72 p = 0 ∧ gA S0 73 p = 0) (hb0 : ∀ p, p < N → 0 ≤ gA S0 72 p ∧ 0 ≤ gA S0 73 p) (hr : ∀ v, v < 8 → gA S0 78 v < (N : Int) ∧ gA S0 79 v < (N : Int)) : pc (m_x4_isSound S0) (PSn S0 N) := by
  have ar : ∀ {S : MS}, KRd S0 S → ∀ k, 72 ≤ k → k ≤ 79 → gA S k = gA S0 k := fun K k h1 h2 => K.1 k (by omega) (by omega) (by omega)
  have L2 : ∀ (n l : Nat) (S : MS), l ≤ 48 → Rg S → KRd S0 S → DNE S N l 0 → pc (m_x4_isSound_L2 n (l : Int) S) (PSn S0 N) := by
    refine fr_ind (fun _ _ _ _ _ _ => pc_none) (fun n ih l S hl hRS K D => ?_)
    show pc (m_x4_isSound_b2 (m_x4_isSound_L2 n) (l : Int) S) _
    unfold m_x4_isSound_b2 m_x4_isSound_J95 m_x4_isSound_J96
    refine pc_rg (pc_if (fun c => pc_bn (fun q33 e33 => ?_)) (fun c => ?_))
    · have l48 : l = 48 := by omega
      rw [l48] at D
      have all : ∀ x, x < N → nfr S x → SBkI S x ∧ LHk S S x := fun x hx nf => D x hx nf (Or.inl (by
        have y := (hc x hx ((nfr_k K).1 nf)).2
        rw [ar K 74 (by decide) (by decide)]; omega))
      have HYc : ∀ (c r : Nat), (c = 72 ∨ c = 73) → (r = c + 6) → HY S c r := fun c r h1 h2 => by
        have ec : gA S c = gA S0 c := ar K c (by omega) (by omega)
        have er : gA S r = gA S0 r := ar K r (by omega) (by omega)
        unfold HY
        rw [K.2 1420, h20, ec, er]
        refine ⟨fun p hp q => ?_, fun p hp hcp hlp => ?_, fun v hv => ?_⟩
        · have y := hz p hp (by omega)
          rcases h1 with z | z
          · rw [z]; exact y.1
          · rw [z]; exact y.2
        · have pN : p < N := by
            refine Classical.byContradiction (fun w => ?_)
            have y := hz p hp (by omega)
            rcases h1 with z | z
            · rw [z, y.1] at hcp; omega
            · rw [z, y.2] at hcp; omega
          have nf0 : nfr S0 p := fun w => by
            rcases h1 with z | z
            · rw [z, w.1] at hcp; omega
            · rw [z, w.2] at hcp; omega
          have nf : nfr S p := (nfr_k K).2 nf0
          have cc := (hc p pN nf0).1
          have e75 : gA S 75 = gA S0 75 := ar K 75 (by decide) (by decide)
          refine ⟨by rw [e75]; omega, fun k hk => ?_⟩
          have y := ((all p pN nf).1.2 (by omega) k hk).1.1
          rw [K.2 1420, h20] at y
          exact y
        · have y := hr v hv
          rcases h1 with z | z
          · rw [h2, z]; exact y.1
          · rw [h2, z]; exact y.2
      have hJe := hJ_k K
      obtain ⟨R33, w33⟩ := wp_det (wc_refsAre hRS (HYc 72 78 (Or.inl rfl) rfl)) e33
      rw [K.2 1420, h20, hJe, ar K 72 (by decide) (by decide), ar K 78 (by decide) (by decide)] at w33
      have F33 : F_x4_refsAre S q33.2 := fr_x4_refsAre e33
      have K33 : KRd S0 q33.2 := KRd_tr K ⟨fun k _ _ k3 => F33.2.1 k (by simp; omega), fun i => F33.1 i (by simp)⟩
      refine pc_rg (pc_if (fun c2 => pc_bo (pc_some (PSn_0 K33 (fun w => ?_)))) (fun c2 => pc_bn (fun q38 e38 => ?_)))
      · rcases w33 with ⟨_, x, x1, x2⟩ | ⟨a, _⟩
        · exact x2 (w.2.1 x (by omega))
        · exact absurd (a.symm.trans c2) (by decide)
      have HY33 : HY q33.2 73 79 := by
        have y := HYc 73 79 (Or.inr rfl) rfl
        unfold HY at y ⊢
        rw [F33.2.1 73 (by decide), F33.2.1 74 (by decide), F33.2.1 75 (by decide), F33.2.1 77 (by decide), F33.2.1 79 (by decide), F33.1 1420 (by simp)]
        exact y
      obtain ⟨R38, w38⟩ := wp_det (wc_refsAre_v2 R33 HY33) e38
      rw [K33.2 1420, h20, hJ_k K33, ar K33 73 (by decide) (by decide), ar K33 79 (by decide) (by decide)] at w38
      have F38 : F_x4_refsAre_v2 q33.2 q38.2 := fr_x4_refsAre_v2 e38
      have K38 : KRd S0 q38.2 := KRd_tr K33 ⟨fun k _ _ k3 => F38.2.1 k (by simp; omega), fun i => F38.1 i (by simp)⟩
      refine pc_rg (pc_if (fun c3 => pc_bo (pc_some (PSn_0 K38 (fun w => ?_)))) (fun c3 => pc_bo (pc_some ⟨Or.inr rfl, K38, fun _ => ⟨fun x hx nf => ?_, fun x hx => ?_, fun x hx => ?_⟩, fun _ => rfl⟩)))
      · rcases w38 with ⟨_, x, x1, x2⟩ | ⟨a, _⟩
        · exact x2 (w.2.2 x (by omega))
        · exact absurd (a.symm.trans c3) (by decide)
      · exact all_20 (N := N) (fun j hj => (F38.2.1 j (by simp; omega)).trans (F33.2.1 j (by simp; omega))) (fun j => (F38.1 j (by simp)).trans (F33.1 j (by simp))) (all x hx ((nfr_k K).2 ((nfr_k K38).1 nf)))
      · show gA q38.2 72 x = rf (hJ q38.2) (gA q38.2 72) (gA q38.2 78) (x : Int)
        rw [hJ_k K38, ar K38 72 (by decide) (by decide), ar K38 78 (by decide) (by decide)]
        rcases w33 with ⟨a, _⟩ | ⟨_, a⟩
        · exact absurd a c2
        · exact a x (by omega)
      · show gA q38.2 73 x = rf (hJ q38.2) (gA q38.2 73) (gA q38.2 79) (x : Int)
        rw [hJ_k K38, ar K38 73 (by decide) (by decide), ar K38 79 (by decide) (by decide)]
        rcases w38 with ⟨a, _⟩ | ⟨_, a⟩
        · exact absurd a c3
        · exact a x (by omega)
    · have L10 : ∀ (m b : Nat) (S : MS), b ≤ N → Rg S → KRd S0 S → DNE S N l b → pc (m_x4_isSound_L10 (m_x4_isSound_L2 n) m (l : Int) (b : Int) S) (PSn S0 N) := by
        refine fr_ind (fun _ _ _ _ _ _ => pc_none) (fun m ihm b S hb hRS K D => ?_)
        show pc (m_x4_isSound_b10 (m_x4_isSound_L2 n) (m_x4_isSound_L10 (m_x4_isSound_L2 n) m) (l : Int) (b : Int) S) _
        unfold m_x4_isSound_b10 m_x4_isSound_J47
        rw [K.2 1420, h20]
        refine pc_rg (pc_rg (pc_if (fun d => ?_) (fun d => ?_)))
        · rw [show ((l : Int) + 1) = ((l + 1 : Nat) : Int) by omega]
          exact ih (l + 1) S (by omega) hRS K (fun x hx nf hlv => D x hx nf (by omega))
        have bN : b < N := by omega
        have tb : ((b : Nat) : Int).toNat = b := Int.toNat_natCast _
        have NX : ∀ Y : MS, Rg Y → KRd S0 Y → DNE Y N l (b + 1) → pc (m_x4_isSound_L10 (m_x4_isSound_L2 n) m (l : Int) ((b : Int) + 1) Y) (PSn S0 N) := fun Y y1 y2 y3 => by
          rw [show ((b : Int) + 1) = ((b + 1 : Nat) : Int) by omega]
          exact ihm (b + 1) Y (by omega) y1 y2 y3
        refine pc_bq (s_free3 (by rw [K.2 1420, h20]; omega)) (fun r17 h17 => pc_rg (pc_if (fun c2 => pc_rdI (fun _ => ?_)) (fun c2 => NX S hRS K (fun x hx nf hlv => ?_))))
        rotate_left
        · rcases h17 with ⟨_, a⟩ | ⟨a, _⟩
          · refine D x hx nf ?_
            have : x ≠ b := fun z => a (z ▸ nf)
            omega
          · exact absurd a c2
        have nf : nfr S b := by
          rcases h17 with ⟨a, _⟩ | ⟨_, a⟩
          · exact absurd (a.symm.trans c2) (by decide)
          · exact a
        have nf0 := (nfr_k K).1 nf
        rw [tb]
        refine pc_rg (pc_rg (pc_if (fun c3 => pc_bn (fun q26 e26 => ?_)) (fun c3 => NX S hRS K (fun x hx nf hlv => D x hx nf ?_))))
        rotate_left
        · have : x = b → gA S 74 x ≠ (l : Int) := fun z => by rw [z]; exact c3
          omega
        have e75 : gA S 75 = gA S0 75 := ar K 75 (by decide) (by decide)
        have cc := (hc b bN nf0).1
        have F26 : F_x4_isSoundBlock S q26.2 := fr_x4_isSoundBlock e26
        have K26 : KRd S0 q26.2 := KRd_tr K ⟨fun k k1 k2 _ => F26.2.1 k (by simp; omega), fun i => F26.1 i (by simp)⟩
        have R26 := (wp_det (w_x4_isSoundBlock hRS (p1 := (b : Int)) ⟨by omega, by omega⟩ (by rw [tb, e75]; exact cc)) e26).1
        have Y := s_sblock (b := b) (S := S) (by rw [e75]; exact cc) (fun _ k _ w z => by rw [z] at w; omega) q26 e26
        rcases Y with ⟨y1, y2, y3, y4⟩ | ⟨y1, y2⟩
        · refine pc_rg (pc_if (fun c4 => absurd (y1.symm.trans c4) (by decide)) (fun _ => NX q26.2 R26 K26 (DNE_step (fun x hx nf => ?_) bN nf D c3 y2 y3 y4)))
          rw [e75]
          exact (hc x hx ((nfr_k K).1 nf)).1.1
        · refine pc_rg (pc_if (fun _ => pc_some (PSn_0 K26 (fun w => y2 (w.1 l b S K bN nf0 (by rw [← ar K 74 (by decide) (by decide)]; exact c3) D)))) (fun c4 => absurd y1 c4))
      exact L10 FU 0 S (by omega) hRS K D
  unfold m_x4_isSound
  refine L2 FU 0 S0 (by omega) hR (KRd_rf S0) (fun x hx nf hlv => ?_)
  have y := (hc x hx nf).2.1
  omega
/-! ===== an image, as the class judges it ===== -/
theorem y_seal {S T : MS} {e : Nat} (he : e ≤ 1599) (ht : ∀ j, j < e → gA S 4 j = gA T 0 j) : pc (m_x4_seal_v2 (e : Int) S) (fun r => pc (m_x12_checked_v2 (e : Int) T) (fun r2 => r = r2)) := by
  have L : ∀ (n m : Nat) (acc i : Int), 0 ≤ i → pc (m_x4_seal_v2_L6 S n (e : Int) acc i) (fun r => pc (m_x12_checked_v2_L6 T m (e : Int) acc i) (fun r2 => r = r2)) := by
    refine fr_ind (fun _ _ _ _ => pc_none) (fun n ih m acc i hi => ?_)
    cases m with
    | zero => exact fun q _ => pc_none
    | succ m =>
      show pc (m_x4_seal_v2_b6 S (m_x4_seal_v2_L6 S n) (e : Int) acc i) _
      unfold m_x4_seal_v2_b6 m_x4_seal_v2_J35
      refine pc_rg (pc_rg (pc_if (fun c => pc_some ?_) (fun c => pc_rg (pc_if (fun c2 => absurd c2 (by omega)) (fun _ => pc_rdI (fun _ => pc_dv (fun q eq => ?_)))))))
      · show pc (m_x12_checked_v2_b6 T (m_x12_checked_v2_L6 T m) (e : Int) acc i) _
        unfold m_x12_checked_v2_b6
        exact pc_rg (pc_rg (pc_if (fun _ => pc_some rfl) (fun d => absurd c d)))
      · show pc (m_x12_checked_v2_b6 T (m_x12_checked_v2_L6 T m) (e : Int) acc i) _
        unfold m_x12_checked_v2_b6
        refine pc_rg (pc_rg (pc_if (fun d => absurd d c) (fun _ => pc_rdI (fun _ => pc_dv ?_))))
        rw [← ht i.toNat (by omega)]
        exact ih m _ (i + 1) (by omega) q eq
  unfold m_x4_seal_v2 m_x12_checked_v2
  exact L FU FU 157 0 (Int.le_refl 0)
/-- the rows that the class has read -/
def RWs (g : Nat → Int) (N : Nat) (X : MS) : Prop := (∀ x, x < N → CRB X g (PO g x) x) ∧ HRT X g 8 ∧ (gI X 1421 = cst g ∧ gI X 1420 = (N : Int)) ∧ Rg X ∧ ∀ x, N ≤ x → x < 48 → gA X 72 x = 0 ∧ gA X 73 x = 0
def CLc (g : Nat → Int) (e N : Nat) (E : Int) (S : MS) : Prop := 19 ≤ e ∧ (∀ r, m_x4_seal_v2 (e : Int) S = some r → g e = r) ∧ cst g ≤ 999999 ∧ HLT g (N : Int) 8 ∧ IMC g e N E 0 19
set_option maxHeartbeats 1000000 in
theorem s_load {g : Nat → Int} {e N : Nat} {E : Int} {S : MS} (hR : Rg S) (hN : N ≤ 48) (hE : 3 ≤ E ∧ E ≤ 6) (BY : ∀ j, j ≤ e → 0 ≤ g j ∧ g j ≤ 255) (hT : gA S 4 = g) (h61 : gI S 61 = (e : Int) + 1) : pc (m_x4_load (N : Int) E S) (fun q => (q.1 = 0 ∨ q.1 = 1) ∧ (q.1 = 1 → CLc g e N E S ∧ ∃ (X : MS) (q' : Int × MS), m_x4_isSound X = some q' ∧ RWs g N X ∧ q'.1 ≠ 0 ∧ q.2 = q'.2) ∧ (CLc g e N E S → ∃ (X : MS) (q' : Int × MS), m_x4_isSound X = some q' ∧ RWs g N X ∧ (q'.1 ≠ 0 → q.1 = 1))) := by
  have E1 : gI S 61 - 1 = (e : Int) := by omega
  have F0 : ∀ (X : MS), ¬ CLc g e N E S → ((0 : Int) = 0 ∨ (0 : Int) = 1) ∧ ((0 : Int) = 1 → CLc g e N E S ∧ ∃ (X' : MS) (q' : Int × MS), m_x4_isSound X' = some q' ∧ RWs g N X' ∧ q'.1 ≠ 0 ∧ X = q'.2) ∧ (CLc g e N E S → ∃ (X' : MS) (q' : Int × MS), m_x4_isSound X' = some q' ∧ RWs g N X' ∧ (q'.1 ≠ 0 → (0 : Int) = 1)) := fun X w => ⟨Or.inl rfl, fun v => absurd v (by decide), fun v => absurd v w⟩
  unfold m_x4_load m_x4_load_J33
  rw [E1]
  refine pc_rg (pc_if (fun c => pc_some (F0 S (fun w => by have := w.1; omega))) (fun c => pc_bq s_at (fun r30 h30 => pc_bn (fun r32 e32 => pc_rg (pc_rg (pc_if (fun c2 => ?_) (fun c2 => pc_some (F0 S (fun w => c2 ?_)))))))))
  rotate_left
  · rw [hT, h61, Int.toNat_natCast] at h30
    have y := w.2.1 r32 e32
    rcases h30 with ⟨_, a⟩ | ⟨a, _⟩
    · rw [a]; exact y
    · exfalso; omega
  rw [hT, h61, Int.toNat_natCast] at h30
  have r30e : r30 = g e := by
    rcases h30 with ⟨_, a⟩ | ⟨a, _⟩
    · exact a
    · exfalso; omega
  have hk : ∀ r, m_x4_seal_v2 (e : Int) S = some r → g e = r := fun r er => by
    rw [e32] at er
    have := Option.some.inj er
    rw [← this, ← r30e]; exact c2
  have he : 19 ≤ e := by omega
  refine pc_bn (fun s37 e37 => pc_stn (fun s38 e38 => pc_bn (fun q41 e41 => ?_)))
  obtain ⟨R37, n37, z37⟩ := wp_det (w_clear hR (p0 := (N : Int)) ⟨by omega, by omega⟩) e37
  have F37 : F_x8_clear S s37 := fr_x8_clear e37
  have T38 : TPc s38 g e := ⟨((q_Ia e38).trans (F37.2.1 4 (by decide))).trans hT, ((q_Ii e38 (by decide)).trans (F37.1 61 (by decide))).trans h61⟩
  have n38 : gI s38 1420 = (N : Int) := (q_Ii e38 (by decide)).trans n37
  have R38 : Rg s38 := e38 ▸ Rg.uI R37 (by show (0 : Int) ≤ 0 ∧ (0 : Int) ≤ 100000; omega)
  obtain ⟨a1, a2, a3, a4, a5, a6, a7, a8⟩ := s_head he n38 T38 (q_II e38) q41 e41
  have W41 := wp_det (w_x4_loadHead R38 (q_II e38)) e41
  refine pc_rg (pc_if (fun c3 => pc_some (F0 q41.2 (fun w => ?_))) (fun c3 => ?_))
  · have y := a4.2 ⟨w.2.2.1, w.2.2.2.1⟩
    omega
  have q1 : q41.1 = 1 := a1.resolve_left c3
  have hd := a4.1 q1
  have L := s_L59 hN hE BY FU 0 19 q41.2 (by omega) (by rw [a8 1420 (by decide) (by decide)]; exact n38) a2 a3 (fun _ => ⟨rfl, fun x hx => absurd hx (by omega)⟩) W41.1 (by omega) (fun x _ x2 => by
    have y := z37 x x2
    rw [a7 72 (by decide) (by decide), a7 73 (by decide) (by decide), a7 75 (by decide) (by decide), (q_Ia e38 : gA s38 72 = _), (q_Ia e38 : gA s38 73 = _), (q_Ia e38 : gA s38 75 = _)]
    exact ⟨y.1, y.2.1, y.2.2.2⟩)
  refine pc_mono L (fun q hq => ?_)
  have ROW : ∀ (X : MS) (x2 : ∀ x, x < N → CRB X g (PO g x) x) (x3 : FRX q41.2 X) (x6 : Rg X) (x7 : ∀ x, N ≤ x → x < 48 → gA X 72 x = 0 ∧ gA X 73 x = 0), RWs g N X := fun X x2 x3 x6 x7 => by
    refine ⟨x2, fun v hv => ?_, ⟨by rw [x3.2 1421 (by decide)]; exact a6, by rw [x3.2 1420 (by decide), a8 1420 (by decide) (by decide)]; exact n38⟩, x6, x7⟩
    rw [x3.1 78 (by decide), x3.1 79 (by decide)]; exact a5 v hv
  by_cases w : IMC g e N E 0 19
  · obtain ⟨X, q', x1, x2, x3, x4, x5, x6, x7⟩ := hq.1 w
    refine ⟨?_, fun v => ⟨⟨he, hk, hd.1, hd.2, w⟩, X, q', x1, ROW X x2 x3 x6 x7, fun z => ?_, x5⟩, fun _ => ⟨X, q', x1, ROW X x2 x3 x6 x7, fun z => by rw [x4, if_neg z]⟩⟩
    · rw [x4]; split
      · exact Or.inl rfl
      · exact Or.inr rfl
    · rw [x4, if_pos z] at v
      exact absurd v (by decide)
  · have z := hq.2 w
    exact ⟨Or.inl z, fun v => absurd (z.symm.trans v) (by decide), fun v => absurd v.2.2.2.2 w⟩
/-! ===== the least and the greatest key under each block of an image ===== -/
def RLY (Y : MS) (f : Nat → Int) (N : Nat) : Prop := (∀ x, x < N → DLa f x → gA Y 74 x = (hLa f).1 x ∧ gA Y 75 x = (hLa f).2.1 x ∧ ∀ k : Nat, (k : Int) < (hLa f).2.1 x → gA Y 76 (6 * x + k) = kLa f x k ∧ gA Y 77 (6 * x + k) = (hLa f).2.2 x k) ∧ (∀ x, x < N → (nfr Y x ↔ DLa f x)) ∧ gI Y 1420 = (N : Int)
theorem RLY_k {X Y : MS} {f : Nat → Int} {N : Nat} (h : RLY X f N) (K : KRd X Y) : RLY Y f N := by
  obtain ⟨h1, h2, h3⟩ := h
  refine ⟨?_, fun x hx => (nfr_k K).trans (h2 x hx), (K.2 1420).trans h3⟩
  rw [K.1 74 (by decide) (by decide) (by decide), K.1 75 (by decide) (by decide) (by decide), K.1 76 (by decide) (by decide) (by decide), K.1 77 (by decide) (by decide) (by decide)]
  exact h1
theorem mono_step {u : Nat → Int} {c : Int} (h : ∀ k : Nat, (k : Int) + 1 < c → u k ≤ u (k + 1)) {i : Nat} : ∀ d : Nat, ((i + d : Nat) : Int) < c → u i ≤ u (i + d) := by
  intro d
  induction d with
  | zero => intro _; exact Int.le_refl _
  | succ d ih =>
    intro hj
    have a := ih (by omega)
    have b := h (i + d) (by omega)
    rw [show i + (d + 1) = i + d + 1 by omega]
    exact Int.le_trans a b
theorem mono_all {u : Nat → Int} {c : Int} (h : ∀ k : Nat, (k : Int) + 1 < c → u k ≤ u (k + 1)) {i j : Nat} (hij : i ≤ j) (hj : (j : Int) < c) : u i ≤ u j := by
  obtain ⟨d, hd⟩ : ∃ d, j = i + d := ⟨j - i, by omega⟩
  rw [hd] at hj ⊢
  exact mono_step h d hj
/-- all blocks up to the level L are seen -/
def SNL (Y : MS) (N : Nat) (L : Int) : Prop := ∀ x, x < N → nfr Y x → gA Y 74 x ≤ L → SBkI Y x ∧ LHk Y Y x
def ITV (Y : MS) (f : Nat → Int) (L x : Nat) : Prop := Ukey f L x (gA Y 18 x) ∧ Ukey f L x (gA Y 19 x) ∧ ∀ z, Ukey f L x z → gA Y 18 x ≤ z ∧ z ≤ gA Y 19 x
/-- what the children of a seen block are -/
theorem SB_kid {f : Nat → Int} {E : Int} {N : Nat} {Y : MS} (H : IG f (N : Int) E) (R : RLY Y f N) {x k : Nat} (hx : x < N) (hd : DLa f x) (hs : SBkI Y x) (hl : 0 < (hLa f).1 x) (hk : (k : Int) < (hLa f).2.1 x) : ∃ y : Nat, (hLa f).2.2 x k = (y : Int) ∧ y < N ∧ nfr Y y ∧ DLa f y ∧ (hLa f).1 y = (hLa f).1 x - 1 ∧ gA Y 74 y = gA Y 74 x - 1 ∧ (0 < k → kLa f x k ≤ gA Y 18 y) ∧ ((k : Int) + 1 < (hLa f).2.1 x → gA Y 19 y < kLa f x (k + 1)) := by
  have n48 := H.1
  obtain ⟨r1, r2, r3⟩ := R.1 x hx hd
  have kd := IG_kid (k := k) H (by omega) hd hl hk
  obtain ⟨y, hy⟩ : ∃ y : Nat, (hLa f).2.2 x k = (y : Int) := ⟨((hLa f).2.2 x k).toNat, by omega⟩
  rw [hy, Int.toNat_natCast] at kd
  have yN : y < N := by omega
  have c := hs.2 (by rw [r1]; omega) k (by rw [r2]; exact hk)
  unfold CHK at c
  rw [(r3 k hk).1, (r3 k hk).2, hy, Int.toNat_natCast] at c
  refine ⟨y, hy, yN, (R.2.1 y yN).2 kd.2.2, kd.2.2, kd.2.1, c.1.2.2, c.2.1, fun h => ?_⟩
  have w := c.2.2 (by rw [r2]; exact h)
  rw [(r3 (k + 1) (by omega)).1] at w
  exact w
theorem INT_L {f : Nat → Int} {E : Int} {N : Nat} {Y : MS} (H : IG f (N : Int) E) (R : RLY Y f N) : ∀ (L : Nat), SNL Y N (L : Int) → ∀ x, x < N → DLa f x → (hLa f).1 x = (L : Int) → ITV Y f L x := by
  have n48 := H.1
  intro L
  induction L with
  | zero =>
    intro S x hx hd hl
    have t := IG_there H (by omega) hd
    obtain ⟨r1, r2, r3⟩ := R.1 x hx hd
    obtain ⟨s1, s2⟩ := S x hx ((R.2.1 x hx).2 hd) (by rw [r1, hl]; exact Int.le_refl _)
    have z0 : gA Y 74 x = 0 := by rw [r1, hl]; rfl
    obtain ⟨l1, l2⟩ := s2.1 z0
    obtain ⟨c, hc⟩ : ∃ c : Nat, (hLa f).2.1 x = ((c + 1 : Nat) : Int) := ⟨((hLa f).2.1 x - 1).toNat, by omega⟩
    have e0 := (r3 0 (by omega)).1
    rw [Nat.add_zero] at e0
    rw [e0] at l1
    rw [r2, show ((hLa f).2.1 x - 1).toNat = c by omega, (r3 c (by omega)).1] at l2
    have up : ∀ k : Nat, (k : Int) + 1 < (hLa f).2.1 x → kLa f x k ≤ kLa f x (k + 1) := fun k hk => by
      have w := s1.1 k (Or.inl z0) (by rw [r2]; exact hk)
      rw [(r3 k (by omega)).1, (r3 (k + 1) (by omega)).1] at w
      omega
    refine ⟨⟨0, by omega, l1.symm⟩, ⟨c, by omega, l2.symm⟩, fun z hz => ?_⟩
    obtain ⟨k, k1, k2⟩ := hz
    have a := mono_all up (i := 0) (j := k) (by omega) k1
    have b := mono_all up (i := k) (j := c) (by omega) (by omega)
    rw [l1, l2, ← k2]
    exact ⟨a, b⟩
  | succ L ih =>
    intro S x hx hd hl
    have t := IG_there H (by omega) hd
    obtain ⟨r1, r2, r3⟩ := R.1 x hx hd
    obtain ⟨s1, s2⟩ := S x hx ((R.2.1 x hx).2 hd) (by rw [r1, hl]; exact Int.le_refl _)
    have hl0 : 0 < (hLa f).1 x := by omega
    have S' : SNL Y N (L : Int) := fun y hy nf hlv => S y hy nf (by omega)
    obtain ⟨l1, l2⟩ := s2.2 (by rw [r1]; omega)
    obtain ⟨c, hc⟩ : ∃ c : Nat, (hLa f).2.1 x = ((c + 1 : Nat) : Int) := ⟨((hLa f).2.1 x - 1).toNat, by omega⟩
    have e0 := (r3 0 (by omega)).2
    rw [Nat.add_zero] at e0
    rw [e0] at l1
    rw [r2, show ((hLa f).2.1 x - 1).toNat = c by omega, (r3 c (by omega)).2] at l2
    -- each child's interval
    have K : ∀ k : Nat, (k : Int) < (hLa f).2.1 x → ITV Y f L ((hLa f).2.2 x k).toNat ∧ (0 < k → kLa f x k ≤ gA Y 18 ((hLa f).2.2 x k).toNat) ∧ ((k : Int) + 1 < (hLa f).2.1 x → gA Y 19 ((hLa f).2.2 x k).toNat < kLa f x (k + 1)) := fun k hk => by
      obtain ⟨y, y1, y2, y3, y4, y5, y6, y7, y8⟩ := SB_kid H R hx hd s1 hl0 hk
      rw [y1, Int.toNat_natCast]
      exact ⟨ih S' y y2 y4 (by omega), y7, y8⟩
    have le : ∀ k : Nat, (k : Int) < (hLa f).2.1 x → gA Y 18 ((hLa f).2.2 x k).toNat ≤ gA Y 19 ((hLa f).2.2 x k).toNat := fun k hk => ((K k hk).1.2.2 _ (K k hk).1.1).2
    have st : ∀ k : Nat, (k : Int) + 1 < (hLa f).2.1 x → gA Y 19 ((hLa f).2.2 x k).toNat < gA Y 18 ((hLa f).2.2 x (k + 1)).toNat := fun k hk => by
      have a := (K k (by omega)).2.2 hk
      have b := (K (k + 1) (by omega)).2.1 (by omega)
      omega
    have up1 : ∀ k : Nat, (k : Int) + 1 < (hLa f).2.1 x → gA Y 18 ((hLa f).2.2 x k).toNat ≤ gA Y 18 ((hLa f).2.2 x (k + 1)).toNat := fun k hk => by
      have a := st k hk
      have b := le k (by omega)
      omega
    have up2 : ∀ k : Nat, (k : Int) + 1 < (hLa f).2.1 x → gA Y 19 ((hLa f).2.2 x k).toNat ≤ gA Y 19 ((hLa f).2.2 x (k + 1)).toNat := fun k hk => by
      have a := st k hk
      have b := le (k + 1) (by omega)
      omega
    refine ⟨⟨0, by omega, ?_⟩, ⟨c, by omega, ?_⟩, fun z hz => ?_⟩
    · rw [l1]; exact (K 0 (by omega)).1.1
    · rw [l2]; exact (K c (by omega)).1.2.1
    · obtain ⟨k, k1, k2⟩ := hz
      have w := (K k k1).1.2.2 z k2
      have a := mono_all (u := fun k => gA Y 18 ((hLa f).2.2 x k).toNat) up1 (i := 0) (j := k) (by omega) k1
      have b := mono_all (u := fun k => gA Y 19 ((hLa f).2.2 x k).toNat) up2 (i := k) (j := c) (by omega) (by omega)
      (try dsimp only at a b)
      rw [l1, l2]
      omega
/-- an image of the reference's is sound for the class -/
theorem HYs_of {f : Nat → Int} {E : Int} {N : Nat} {X : MS} (C : CIM f (N : Int) E) (R : RLY X f N) (c1 : ∀ x : Nat, x < N → gA X 72 x = rf (hJ X) (gA X 72) (gA X 78) (x : Int)) (c2 : ∀ x : Nat, x < N → gA X 73 x = rf (hJ X) (gA X 73) (gA X 79) (x : Int)) : HYs X N := by
  obtain ⟨H, _, KS'⟩ := C
  have n48 := H.1
  refine ⟨fun l b Y K hb nf hl D => ?_, c1, c2⟩
  have RY := RLY_k R K
  have hd : DLa f b := (R.2.1 b hb).1 nf
  obtain ⟨r1, r2, r3⟩ := RY.1 b hb hd
  have e74 : gA Y 74 = gA X 74 := K.1 74 (by decide) (by decide) (by decide)
  have hlv : (hLa f).1 b = (l : Int) := by rw [← r1, e74]; exact hl
  have lb : b < 48 := by omega
  have t := IG_there H lb hd
  have B := H.2.2.1 b lb
  refine ⟨fun k h1 h2 => ?_, fun h1 k h2 => ?_⟩
  · rw [r1] at h1
    rw [r2] at h2
    rw [(r3 k (by omega)).1, (r3 (k + 1) (by omega)).1]
    have k6 : k + 1 < 6 := by have := H.2.1; omega
    rcases B.2 with q | q
    · exact absurd q.1 hd
    · have w := q.2.2.2.2.2 k h2 (by
        rcases h1 with z | z
        · exact Or.inr z
        · exact Or.inl z)
      show (if k < 6 then f (21 + 16 * b + k) else 0) < if k + 1 < 6 then f (21 + 16 * b + (k + 1)) else 0
      rw [if_pos (by omega), if_pos k6]; exact w
  · rw [r1] at h1
    rw [r2] at h2
    have hl0 : 0 < (hLa f).1 b := by omega
    have kd := IG_kid (k := k) H lb hd hl0 h2
    obtain ⟨y, hy⟩ : ∃ y : Nat, (hLa f).2.2 b k = (y : Int) := ⟨((hLa f).2.2 b k).toNat, by omega⟩
    rw [hy, Int.toNat_natCast] at kd
    have yN : y < N := by omega
    obtain ⟨l', hl'⟩ : ∃ l', l = l' + 1 := ⟨l - 1, by omega⟩
    have S : SNL Y N (l' : Int) := fun x hx nfx hlx => D x hx nfx (Or.inl (by omega))
    have I := INT_L H RY l' S y yN kd.2.2 (by omega)
    have ks := KS' b lb hd hl0 k h2
    unfold KSe at ks
    rw [hy, Int.toNat_natCast] at ks
    have nfy := (RY.2.1 y yN).2 kd.2.2
    obtain ⟨q1, q2, q3⟩ := RY.1 y yN kd.2.2
    unfold CHK
    rw [(r3 k h2).1, (r3 k h2).2, hy, Int.toNat_natCast, RY.2.2, r1, r2, q1]
    refine ⟨⟨⟨by omega, by omega⟩, nfy, kd.2.1⟩, fun h => (ks _ ⟨l', by omega, I.1⟩).1 h, fun h => ?_⟩
    rw [(r3 (k + 1) (by omega)).1]
    exact (ks _ ⟨l', by omega, I.2.1⟩).2 h
/-- the order of keys, by the class's least and greatest ones -/
theorem OI_img {f : Nat → Int} {E : Int} {N : Nat} {Y o : MS} (H : IG f (N : Int) E) (R : RLY Y f N) (S : ∀ x, x < N → nfr Y x → SBkI Y x ∧ LHk Y Y x) (e : ∀ i, i < 785 → gA o 49 i = f i) : OI o (gA Y 18) (gA Y 19) := by
  have n48 := H.1
  have SL : ∀ L, SNL Y N L := fun L x hx nf _ => S x hx nf
  intro x hx hl
  have cE : cM o x = f (17 + 16 * x) := e _ (by omega)
  have vE : vM o x = f (18 + 16 * x) := e _ (by omega)
  have e1 : (hM o).1 x = (hLa f).1 x := e _ (by omega)
  have e2 : (hM o).2.1 x = (hLa f).2.1 x := e _ (by omega)
  have e3 : ∀ k, (hM o).2.2 x k = (hLa f).2.2 x k := fun k => by
    show (if k < 6 then gA o 49 (27 + 16 * x + k) else 0) = if k < 6 then f (27 + 16 * x + k) else 0
    by_cases z : k < 6
    · rw [if_pos z, if_pos z]; exact e _ (by omega)
    · rw [if_neg z, if_neg z]
  have e4 : ∀ k, kM o x k = kLa f x k := fun k => by
    show (if k < 6 then gA o 49 (21 + 16 * x + k) else 0) = if k < 6 then f (21 + 16 * x + k) else 0
    by_cases z : k < 6
    · rw [if_pos z, if_pos z]; exact e _ (by omega)
    · rw [if_neg z, if_neg z]
  have b := (H.2.2.1 x hx).1
  have hd : DLa f x := by
    unfold DLa
    unfold LV at hl
    rw [cE, vE] at hl
    omega
  have hxN : x < N := by have t := (IG_there H hx hd).1; omega
  have t := IG_there H hx hd
  obtain ⟨l, hlv⟩ : ∃ l : Nat, (hLa f).1 x = (l : Int) := ⟨((hLa f).1 x).toNat, by omega⟩
  have I := INT_L H R l (SL _) x hxN hd hlv
  obtain ⟨s1, s2⟩ := S x hxN ((R.2.1 x hxN).2 hd)
  obtain ⟨r1, r2, r3⟩ := R.1 x hxN hd
  unfold OBk
  rw [e1, e2]
  refine ⟨(I.2.2 _ I.1).2, fun h0 => ⟨?_, fun j hj => ?_⟩, fun h0 k hk => ?_⟩
  · have z0 : (hLa f).1 x = 0 := by omega
    rw [show kM o x = kLa f x from funext e4]
    refine SO_step (fun k _ k2 => ?_)
    have w := s1.1 k (Or.inl (r1.trans z0)) (by rw [r2]; exact k2)
    rw [(r3 k (by omega)).1, (r3 (k + 1) (by omega)).1] at w
    exact w
  · have l0 : l = 0 := by omega
    rw [l0] at I
    rw [e4, e3]
    have av := H.2.2.2.2.1 x (by omega) j hj
    exact ⟨(I.2.2 _ ⟨j, hj, rfl⟩).1, (I.2.2 _ ⟨j, hj, rfl⟩).2, by
      show (0 : Int) ≤ if j < 6 then f (27 + 16 * x + j) else 0
      rcases av with w | w
      · have w1 := w.2.1
        split <;> omega
      · have w1 := w.2.1
        split <;> omega⟩
  · obtain ⟨y, y1, y2, y3, y4, y5, y6, y7, y8⟩ := SB_kid H R hxN hd s1 h0 hk
    obtain ⟨l', hl'⟩ : ∃ l', l = l' + 1 := ⟨l - 1, by omega⟩
    have Iy := INT_L H R l' (SL _) y y2 y4 (by omega)
    rw [hl'] at I
    rw [e3, e4, e4, y1, Int.toNat_natCast]
    refine ⟨⟨(I.2.2 _ ⟨k, hk, ?_⟩).1, (I.2.2 _ ⟨k, hk, ?_⟩).2⟩, fun h => y7 h, fun h => y8 h⟩
    · rw [y1, Int.toNat_natCast]; exact Iy.1
    · rw [y1, Int.toNat_natCast]; exact Iy.2.1
/-! ===== ON: an image on both sides ===== -/
theorem po_in {g : Nat → Int} {e N x : Nat} (P : PO g N = e) (hx : x < N) : nxp g (PO g x) ≤ e := by
  have m := PO_le (g := g) (show x + 1 ≤ N by omega)
  rw [PO_s, P] at m
  exact m
theorem dl_thr {f g : Nat → Int} {e N x : Nat} (BY : ∀ j, j ≤ e → 0 ≤ g j ∧ g j ≤ 255) (P : PO g N = e) (A : RRA f g N) (hx : x < N) : DLa f x ↔ thr g (PO g x) := by
  have l := po_in P hx
  have l2 := nxp_lt g (PO g x)
  have a := (A.1 x hx).1
  have y1 := (BY (PO g x) (by omega)).1
  have y2 := (BY (PO g x + 1) (by omega)).1
  unfold DLa thr
  rw [a.1, a.2]
  constructor
  · intro w v
    rw [v.1, v.2] at w; exact w rfl
  · intro w v
    exact w ⟨by omega, by omega⟩
theorem rly_of {f g : Nat → Int} {e N : Nat} {X : MS} (BY : ∀ j, j ≤ e → 0 ≤ g j ∧ g j ≤ 255) (P : PO g N = e) (A : RRA f g N) (W : RWs g N X) (cn : ∀ x, x < N → thr g (PO g x) → g (PO g x + 3) ≤ 6) : RLY X f N := by
  refine ⟨fun x hx hd => ?_, fun x hx => ?_, W.2.2.1.2⟩
  · have t := (dl_thr BY P A hx).1 hd
    obtain ⟨c1, c2, c3⟩ := (W.1 x hx).2 t
    obtain ⟨r1, r2, r3⟩ := (A.1 x hx).2.1 t
    have n6 := cn x hx t
    refine ⟨c1.trans r1.symm, c2.trans r2.symm, fun k hk => ?_⟩
    have hk' : (k : Int) < g (PO g x + 3) := by rw [← r2]; exact hk
    have k6 : k < 6 := by omega
    have a := c3 k k6 hk'
    have b := r3 k k6 hk'
    refine ⟨a.1.trans ?_, a.2.trans ?_⟩
    · show _ = if k < 6 then f (21 + 16 * x + k) else 0
      rw [if_pos k6]; exact b.1.symm
    · show _ = if k < 6 then f (27 + 16 * x + k) else 0
      rw [if_pos k6]; exact b.2.symm
  · rw [dl_thr BY P A hx]
    unfold nfr thr
    rw [(W.1 x hx).1.1, (W.1 x hx).1.2]
theorem rtr_rto {r : Int} {N : Nat} (h0 : 0 ≤ r) (h : rto r < (N : Int)) (hN : N ≤ 48) : rtr (fun b => b) (rto r) r := by
  unfold rto at h ⊢
  by_cases z : r = 255
  · rw [if_pos z]; exact Or.inr (Or.inl ⟨z, rfl⟩)
  · rw [if_neg z] at h ⊢
    by_cases z2 : r = 254
    · rw [if_pos z2]; exact Or.inl ⟨z2, rfl⟩
    · rw [if_neg z2] at h ⊢
      exact Or.inr (Or.inr ⟨h0, by omega, by show r = ((r.toNat : Nat) : Int); omega⟩)
theorem trf_of {f g : Nat → Int} {e N : Nat} {E : Int} {X : MS} (H : IG f (N : Int) E) (he : 19 ≤ e) (BY : ∀ j, j ≤ e → 0 ≤ g j ∧ g j ≤ 255) (A : RRA f g N) (Hd : HDr f g) (W : RWs g N X) (R : RLY X f N) (hl : HLT g (N : Int) 8) : TRf (fun b => b) (fun b => b) (N : Int) X 72 f := by
  have n48 := H.1
  refine ⟨PB_id _, fun x hx => ?_, fun x hx l => ?_, fun v hv => ?_⟩
  · by_cases z : x < N
    · have a := (W.1 x z).1
      have b := (A.1 x z).1
      exact ⟨a.1.trans b.1.symm, a.2.trans b.2.symm⟩
    · have a := W.2.2.2.2 x (by omega) hx
      have b0 := A.2 x 0 (by omega) hx (by omega)
      have b1 := A.2 x 1 (by omega) hx (by omega)
      refine ⟨a.1.trans ?_, a.2.trans ?_⟩
      · show (0 : Int) = f (17 + 16 * x); exact b0.symm
      · show (0 : Int) = f (18 + 16 * x)
        rw [show 18 + 16 * x = 17 + 16 * x + 1 by omega]; exact b1.symm
  · have nn := (H.2.2.1 x hx).1
    have hd : DLa f x := by
      unfold DLa
      have l' : 0 < f (17 + 16 * x) ∨ 0 < f (18 + 16 * x) := l
      omega
    have t := (IG_there H hx hd).1
    obtain ⟨r1, r2, r3⟩ := R.1 x (by omega) hd
    refine ⟨r1, r2, fun k hk => ⟨(r3 k hk).1, fun h0 => ?_, fun _ => (r3 k hk).2⟩⟩
    have kd := IG_kid (k := k) H hx hd h0 hk
    have q := (r3 k hk).2
    show gA X 77 (6 * x + k) = ((((hLa f).2.2 x k).toNat : Nat) : Int)
    rw [q]; omega
  · have a := W.2.1 v hv
    have b := Hd.2 v hv
    have c := hl v hv
    refine ⟨?_, ?_⟩
    · show rtr (fun b => b) (gA X 78 v) (f v)
      rw [a.1, b.1]
      exact rtr_rto (BY _ (by omega)).1 c.1 (by omega)
    · show rtr (fun b => b) (gA X 79 v) (f (8 + v))
      rw [a.2, b.2]
      exact rtr_rto (BY _ (by omega)).1 c.2 (by omega)
/- references counted alike -/
set_option maxHeartbeats 2000000 in
theorem rf_eq {f : Nat → Int} {N : Nat} {E : Int} {X : MS} {c r w : Nat} (H : IG f (N : Int) E) (T : TRf (fun b => b) (fun b => b) (N : Int) X 72 f) (hc : (c = 72 ∧ r = 78 ∧ w = 0) ∨ (c = 73 ∧ r = 79 ∧ w = 1)) {x : Nat} (hx : x < 48) : rf (hJ X) (gA X c) (gA X r) (x : Int) = rf (hLa f) (cLa f w) (rLa f w) (x : Int) := by
  have n48 := H.1
  have cc : ∀ p, p < 48 → gA X c p = cLa f w p := fun p hp => by
    have y := T.2.1 p hp
    rcases hc with ⟨a, _, b⟩ | ⟨a, _, b⟩
    · rw [a, b]; exact y.1
    · rw [a, b]
      show gA X 73 p = f (17 + 16 * p + 1)
      rw [show 17 + 16 * p + 1 = 18 + 16 * p by omega]; exact y.2
  have rt : ∀ v, v < 8 → rtr (fun b => b) (gA X r v) (rLa f w v) := fun v hv => by
    have y := T.2.2.2 v hv
    rcases hc with ⟨_, a, b⟩ | ⟨_, a, b⟩
    · rw [a, b]
      show rtr (fun b => b) (gA X 78 v) (if v < 8 then f (8 * 0 + v) else 0)
      rw [if_pos hv, show 8 * 0 + v = v by omega]; exact y.1
    · rw [a, b]
      show rtr (fun b => b) (gA X 79 v) (if v < 8 then f (8 * 1 + v) else 0)
      rw [if_pos hv, show 8 * 1 + v = 8 + v by omega]; exact y.2
  have e1 : rr (gA X r) (x : Int) = rr (rLa f w) (x : Int) := rr_pm (π := fun b => b) (σ := fun b => b) (N := (N : Int)) (r1 := gA X r) (r2 := rLa f w) (x := x) T.1 rt hx
  have S : sm 48 (fun p => if 0 < gA X c p then en (hJ X) p (x : Int) else 0) = sm 48 (fun p => if 0 < cLa f w p then en (hLa f) p (x : Int) else 0) := sm_c (fun p hp => by
    (try dsimp only)
    rw [cc p hp]
    by_cases z : 0 < cLa f w p
    · rw [if_pos z, if_pos z]
      have nn := (H.2.2.1 p hp).1
      have lv : 0 < cR f p ∨ 0 < vR f p := by
        rcases hc with ⟨_, _, b⟩ | ⟨_, _, b⟩
        · rw [b] at z; exact Or.inl z
        · rw [b] at z
          have z' : 0 < f (17 + 16 * p + 1) := z
          rw [show 17 + 16 * p + 1 = 18 + 16 * p by omega] at z'
          exact Or.inr z'
      have hd : DLa f p := by
        unfold DLa
        have l' : 0 < f (17 + 16 * p) ∨ 0 < f (18 + 16 * p) := lv
        omega
      have t := IG_there H hp hd
      have nd : Nd (hLa f) (N : Int) p := ⟨t.2.1.1, by have := H.2.1; omega, fun h0 k hk => by have q := IG_kid (k := k) H hp hd h0 hk; exact ⟨q.1, q.2.1⟩⟩
      exact en_pm (π := fun b => b) (σ := fun b => b) (h1 := hJ X) (h2 := hLa f) (b := p) (x := x) T.1 n48.2 (T.2.2.1 p hp lv) nd hx
    · rw [if_neg z, if_neg z])
  unfold rf
  rw [e1, S]
/-- what the class has found sound has all that the reference asks -/
theorem cim_of {f g : Nat → Int} {e N : Nat} {E : Int} {X Y : MS} (hN : N ≤ 48) (hE : 3 ≤ E ∧ E ≤ 6) (he : 19 ≤ e) (BY : ∀ j, j ≤ e → 0 ≤ g j ∧ g j ≤ 255) (P : PO g N = e) (G : ∀ x, x < N → GOK g (PO g x) E) (A : RRA f g N) (Hd : HDr f g) (W : RWs g N X) (hl : HLT g (N : Int) 8) (K : KRd X Y) (S : ALLs Y N) : CIM f (N : Int) E := by
  have cn : ∀ x, x < N → thr g (PO g x) → g (PO g x + 3) ≤ 6 := fun x hx t => by have q := (G x hx t).2.1; omega
  have RX := rly_of BY P A W cn
  have RY := RLY_k RX K
  have lb : ∀ b : Nat, b < 48 → LB_r f E b := fun b hb => by
    by_cases z : b < N
    · have l := po_in P z
      have l2 := nxp_lt g (PO g b)
      have a := (A.1 b z).1
      refine ⟨⟨by rw [a.1]; exact BY _ (by omega), by rw [a.2]; exact BY _ (by omega)⟩, ?_⟩
      by_cases t : thr g (PO g b)
      · have hd := (dl_thr BY P A z).2 t
        obtain ⟨r1, r2, r3⟩ := (A.1 b z).2.1 t
        obtain ⟨g1, g2, g3⟩ := G b z t
        rw [nxp_1 t] at l
        have s := (S.1 b z ((RY.2.1 b z).2 hd)).1
        obtain ⟨q1, q2, q3⟩ := RY.1 b z hd
        refine Or.inr ⟨hd, by rw [r1]; exact BY _ (by omega), by rw [r2]; exact g2, fun k hk => ?_, fun k hk => ?_, fun k hk h0 => ?_⟩
        · rw [r2] at hk
          rw [(r3 k (by omega) hk).2]
          have y := (g3 k hk).2
          omega
        · rw [r2] at hk
          rw [(r3 k (by omega) hk).1]
          exact (g3 k hk).1
        · have hk2 : (k : Int) + 1 < (hLa f).2.1 b := hk
          have w := s.1 k (by
            rw [q1]
            rcases h0 with y | y
            · exact Or.inr y
            · exact Or.inl y) (by rw [q2]; exact hk2)
          rw [(q3 k (by omega)).1, (q3 (k + 1) (by omega)).1] at w
          rw [r2] at hk
          have w' : (if k < 6 then f (21 + 16 * b + k) else 0) < (if k + 1 < 6 then f (21 + 16 * b + (k + 1)) else 0) := w
          rw [if_pos (by omega), if_pos (by omega)] at w'
          exact w'
      · have zz := (A.1 b z).2.2 t
        have t' := Classical.not_not.1 t
        exact Or.inl ⟨by rw [a.1, a.2, t'.1, t'.2]; rfl, zz⟩
    · have z0 := A.2 b 0 (by omega) hb (by omega)
      have z1 := A.2 b 1 (by omega) hb (by omega)
      rw [show 17 + 16 * b + 1 = 18 + 16 * b by omega] at z1
      rw [Nat.add_zero] at z0
      exact ⟨⟨by rw [z0]; omega, by rw [z1]; omega⟩, Or.inl ⟨by rw [z0, z1]; rfl, fun i i1 i2 => A.2 b i (by omega) hb i2⟩⟩
  have IGf : IG f (N : Int) E := by
    refine ⟨⟨by omega, by omega⟩, hE, lb, fun b hb hbN => ?_, fun b hb k hk => ?_, fun u hu => ?_⟩
    · have z0 := A.2 b 0 (by omega) hb (by omega)
      have z1 := A.2 b 1 (by omega) hb (by omega)
      rw [show 17 + 16 * b + 1 = 18 + 16 * b by omega] at z1
      exact ⟨z0, z1⟩
    · have bN : b < N := by omega
      by_cases t : thr g (PO g b)
      · have hd := (dl_thr BY P A bN).2 t
        obtain ⟨r1, r2, r3⟩ := (A.1 b bN).2.1 t
        have s := (S.1 b bN ((RY.2.1 b bN).2 hd)).1
        obtain ⟨q1, q2, q3⟩ := RY.1 b bN hd
        have hk' : (k : Int) < (hLa f).2.1 b := hk
        have e1 : (hLa f).1 b = f (19 + 16 * b) := rfl
        rw [r2] at hk
        have k6 : k < 6 := by have := cn b bN t; omega
        have vv := (q3 k hk').2
        have v2 : (hLa f).2.2 b k = f (27 + 16 * b + k) := if_pos k6
        by_cases z : f (19 + 16 * b) = 0
        · refine Or.inl ⟨z, ?_⟩
          rw [(r3 k k6 hk).2]
          exact ((G b bN t).2.2 k hk).2
        · have c := s.2 (by rw [q1, e1]; exact z) k (by rw [q2]; exact hk')
          unfold CHK at c
          rw [vv, v2, RY.2.2, q1, e1] at c
          obtain ⟨⟨c1, c2, c3⟩, _⟩ := c
          have yN : (f (27 + 16 * b + k)).toNat < N := by omega
          have dy := (RY.2.1 _ yN).1 c2
          refine Or.inr ⟨z, c1, dy, ?_⟩
          rw [← c3]
          exact (RY.1 _ yN dy).1.symm
      · exfalso
        have zz := (A.1 b bN).2.2 t 3 (by omega) (by omega)
        rw [show 17 + 16 * b + 3 = 20 + 16 * b by omega] at zz
        omega
    · by_cases z : u < 8
      · rw [(Hd.2 u z).1]; exact BY _ (by omega)
      · have w := (Hd.2 (u - 8) (by omega)).2
        rw [show 8 + (u - 8) = u by omega] at w
        rw [w]; exact BY _ (by omega)
  have T := trf_of IGf he BY A Hd W RX hl
  have eY : ∀ k, 72 ≤ k → k ≤ 79 → gA Y k = gA X k := fun k h1 h2 => K.1 k (by omega) (by omega) (by omega)
  have CQw : ∀ c r w : Nat, ((c = 72 ∧ r = 78 ∧ w = 0) ∨ (c = 73 ∧ r = 79 ∧ w = 1)) → (∀ x : Nat, x < N → gA X c x = rf (hJ X) (gA X c) (gA X r) (x : Int)) → CQ f (N : Int) w := fun c r w hc hs => by
    have w2 : w < 2 := by omega
    have ro : RO (N : Int) (rLa f w) := fun v hv => by
      have y := rtr_rto (N := N) (r := rLa f w v) (by
        show 0 ≤ (if v < 8 then f (8 * w + v) else 0)
        rw [if_pos hv]; exact (IGf.2.2.2.2.2 (8 * w + v) (by omega)).1) (by
        have q := hl v hv
        have b := Hd.2 v hv
        show rto (if v < 8 then f (8 * w + v) else 0) < (N : Int)
        rw [if_pos hv]
        rcases hc with ⟨_, _, z⟩ | ⟨_, _, z⟩
        · rw [z, show 8 * 0 + v = v by omega, b.1]; exact q.1
        · rw [z, show 8 * 1 + v = 8 + v by omega, b.2]; exact q.2) hN
      have q := hl v hv
      have b := Hd.2 v hv
      by_cases z : 254 ≤ rLa f w v
      · exact Or.inr (Or.inr z)
      · refine Or.inl ?_
        rcases y with ⟨y1, _⟩ | ⟨y1, _⟩ | ⟨y1, _, y3⟩
        · omega
        · omega
        · refine ⟨y1, ?_⟩
          have lt : rto (rLa f w v) < (N : Int) := by
            show rto (if v < 8 then f (8 * w + v) else 0) < (N : Int)
            rw [if_pos hv]
            rcases hc with ⟨_, _, z⟩ | ⟨_, _, z⟩
            · rw [z, show 8 * 0 + v = v by omega, b.1]; exact q.1
            · rw [z, show 8 * 1 + v = 8 + v by omega, b.2]; exact q.2
          have y3' : rto (rLa f w v) = (((rLa f w v).toNat : Nat) : Int) := y3
          omega
    refine ⟨ro, fun x hx => ?_⟩
    show cLa f w x - rf (hLa f) (cLa f w) (rLa f w) (x : Int) = 0
    by_cases z : x < N
    · have y := hs x z
      rw [rf_eq IGf T hc hx] at y
      have cc : gA X c x = cLa f w x := by
        have y := T.2.1 x hx
        rcases hc with ⟨a, _, b⟩ | ⟨a, _, b⟩
        · rw [a, b]; exact y.1
        · rw [a, b]
          show gA X 73 x = f (17 + 16 * x + 1)
          rw [show 17 + 16 * x + 1 = 18 + 16 * x by omega]; exact y.2
      omega
    · rw [CQ_out IGf w2 ro hx (by omega), (cLa_nn IGf w2 hx).2.2.1 (by omega)]; rfl
  have hJe := hJ_k K
  have s1 := S.2.1
  have s2 := S.2.2
  rw [hJe, eY 72 (by decide) (by decide), eY 78 (by decide) (by decide)] at s1
  rw [hJe, eY 73 (by decide) (by decide), eY 79 (by decide) (by decide)] at s2
  refine ⟨IGf, ⟨CQw 72 78 0 (Or.inl ⟨rfl, rfl, rfl⟩) s1, CQw 73 79 1 (Or.inr ⟨rfl, rfl, rfl⟩) s2⟩, fun b hb hd h0 k hk z hz => ?_⟩
  have t := IG_there IGf hb hd
  have bN : b < N := by omega
  have s := (S.1 b bN ((RY.2.1 b bN).2 hd)).1
  obtain ⟨y, y1, y2, y3, y4, y5, y6, y7, y8⟩ := SB_kid IGf RY bN hd s h0 hk
  rw [y1, Int.toNat_natCast] at hz
  obtain ⟨l, l1, l2⟩ := hz
  have I := INT_L IGf RY l (fun x hx nf _ => S.1 x hx nf) y y2 y4 l1
  have w := I.2.2 z l2
  exact ⟨fun h => by have := y7 h; omega, fun h => by have := y8 h; omega⟩
/-! ===== ON on both sides ===== -/
theorem pig : ∀ (m n : Nat) (u : Nat → Int), (∀ i : Nat, i < n → ∃ p, p < m ∧ u p = (i : Int)) → n ≤ m := by
  intro m
  induction m with
  | zero =>
    intro n u h
    refine Classical.byContradiction (fun z => ?_)
    obtain ⟨p, p1, _⟩ := h 0 (by omega)
    omega
  | succ m ih =>
    intro n u h
    by_cases z : ∃ i : Nat, i < n ∧ u m = (i : Int)
    · obtain ⟨i0, i1, i2⟩ := z
      have w := ih (n - 1) (fun p => if u p > (i0 : Int) then u p - 1 else u p) (fun i hi => by
        by_cases y : i < i0
        · obtain ⟨p, p1, p2⟩ := h i (by omega)
          refine ⟨p, ?_, ?_⟩
          · have : p ≠ m := fun q => by rw [q] at p2; omega
            omega
          · (try dsimp only)
            rw [if_neg (by omega)]; exact p2
        · obtain ⟨p, p1, p2⟩ := h (i + 1) (by omega)
          refine ⟨p, ?_, ?_⟩
          · have : p ≠ m := fun q => by rw [q] at p2; omega
            omega
          · (try dsimp only)
            rw [if_pos (by omega), p2]; omega)
      omega
    · have w := ih n u (fun i hi => by
        obtain ⟨p, p1, p2⟩ := h i hi
        refine ⟨p, ?_, p2⟩
        have : p ≠ m := fun q => z ⟨i, hi, by rw [← q]; exact p2⟩
        omega)
      omega
theorem lev_chn {f : Nat → Int} {N E : Int} (H : IG f N E) : ∀ (l b : Nat), b < 48 → DLa f b → (hLa f).1 b = (l : Int) → ∀ i : Nat, i < l + 1 → ∃ p, p < 48 ∧ (hLa f).1 p = (i : Int) := by
  have n48 := H.1
  intro l
  induction l with
  | zero => intro b hb hd hl i hi; exact ⟨b, hb, by rw [hl]; omega⟩
  | succ l ih =>
    intro b hb hd hl i hi
    by_cases z : i = l + 1
    · exact ⟨b, hb, by rw [hl, z]⟩
    · have t := IG_there H hb hd
      have kd := IG_kid (k := 0) H hb hd (by omega) (by omega)
      exact ih _ (by omega) kd.2.2 (by omega) i (by omega)
theorem lev47 {f : Nat → Int} {N E : Int} (H : IG f N E) : ∀ b : Nat, b < 48 → DLa f b → f (19 + 16 * b) < 48 := fun b hb hd => by
  have t := IG_there H hb hd
  obtain ⟨l, hl⟩ : ∃ l : Nat, (hLa f).1 b = (l : Int) := ⟨((hLa f).1 b).toNat, by omega⟩
  have w := pig 48 (l + 1) (hLa f).1 (lev_chn H l b hb hd hl)
  have e : (hLa f).1 b = f (19 + 16 * b) := rfl
  omega
set_option maxHeartbeats 2000000 in
theorem y_img {N : Nat} {E len : Int} {x T : MS} (hRx : Rg x) (hRT : Rr T) (hN : N ≤ 48) (hE : 3 ≤ E ∧ E ≤ 6) (h47 : gI T 47 ≠ 0) (h5 : gA T 39 5 = (N : Int)) (h6 : gA T 39 6 = E) (hlen : len = gI x 61) (tape : ∀ j : Nat, (j : Int) < gI x 61 → gA x 4 j = gA T 0 j) : pc (m_x4_load (N : Int) E x) (fun q => pc (m_x12_isImage len T) (fun o => q.1 = o.1 ∧ (q.1 = 0 ∨ q.1 = 1) ∧ (q.1 = 1 → ∃ lo hi : Nat → Int, (gI q.2 1421 ≤ 999999 ∧ gI q.2 1420 = (N : Int)) ∧ IG (gA o.2 113) (N : Int) E ∧ TRf (fun b => b) (fun b => b) (N : Int) q.2 72 (gA o.2 113) ∧ ∀ t' : MS, (∀ i, i < 785 → gA t' 49 i = gA o.2 113 i) → OI t' lo hi))) := by
  have r61 : (0 : Int) ≤ gI x 61 ∧ gI x 61 ≤ 1600 := hRx.1 61
  intro q eq o eo
  by_cases z : gI x 61 < 20
  · have c0 : pc (m_x4_load (N : Int) E x) (fun q => q.1 = 0) := by
      unfold m_x4_load m_x4_load_J33
      exact pc_rg (pc_if (fun _ => pc_some rfl) (fun c => absurd (by omega) c))
    have d0 : pc (m_x12_isImage len T) (fun q => q.1 = 0) := by
      unfold m_x12_isImage m_x12_isImage_J44
      exact pc_rg (pc_if (fun c => absurd c h47) (fun _ => pc_rg (pc_if (fun _ => pc_some rfl) (fun c => absurd (by omega) c))))
    have a := c0 q eq
    have b := d0 o eo
    exact ⟨a.trans b.symm, Or.inl a, fun w => absurd (a.symm.trans w) (by decide)⟩
  obtain ⟨e, he⟩ : ∃ e : Nat, gI x 61 = (e : Int) + 1 := ⟨(gI x 61 - 1).toNat, by omega⟩
  have e19 : 19 ≤ e ∧ e ≤ 1599 := by omega
  rw [hlen, he] at eo
  obtain ⟨g, hg⟩ : ∃ g, g = gA x 4 := ⟨_, rfl⟩
  have BY : ∀ j, j ≤ e → 0 ≤ g j ∧ g j ≤ 255 := fun j hj => by
    rw [hg]
    exact hRx.2.1 4 j (show j < 1600 by omega)
  have hT : TPr T g e := fun j hj => by rw [hg]; exact (tape j (by omega)).symm
  obtain ⟨a1, a2, a3⟩ := s_load hRx hN hE BY hg.symm he q eq
  obtain ⟨b1, b2⟩ := m_img1 hN hE BY h5 h6 hT o eo
  have n48 : (0 : Int) ≤ (N : Int) ∧ (N : Int) ≤ 48 := by omega
  obtain ⟨_, _, IMo⟩ := wp_det (mt_isImage hRT (p0 := (e : Int) + 1) ⟨by omega, by omega⟩ (fun _ => ⟨by omega, by omega⟩)) eo
  -- the checks at the end of the tape
  have CK : (∀ r, m_x4_seal_v2 (e : Int) x = some r → g e = r) → ∀ r, m_x12_checked_v2 (e : Int) T = some r → g e = r := fun h r er => by
    cases hs : m_x4_seal_v2 (e : Int) x with
    | none =>
      exfalso
      have w : pc (m_x4_load (N : Int) E x) (fun _ => False) := by
        unfold m_x4_load m_x4_load_J33
        rw [show gI x 61 - 1 = (e : Int) by omega]
        exact pc_rg (pc_if (fun c => absurd c (by omega)) (fun _ => pc_bn (fun r30 _ => pc_bn (fun r32 e32 => by rw [hs] at e32; cases e32))))
      exact w q eq
    | some r' =>
      have y := y_seal (S := x) (T := T) e19.2 (fun j hj => tape j (by omega)) r' hs r er
      rw [← y]; exact h r' hs
  have KC : (∀ r, m_x12_checked_v2 (e : Int) T = some r → g e = r) → ∀ r, m_x4_seal_v2 (e : Int) x = some r → g e = r := fun h r er => by
    cases hs : m_x12_checked_v2 (e : Int) T with
    | none =>
      exfalso
      have w : pc (m_x12_isImage ((e : Int) + 1) T) (fun _ => False) := by
        unfold m_x12_isImage m_x12_isImage_J44
        rw [show (e : Int) + 1 - 1 = (e : Int) by omega]
        exact pc_rg (pc_if (fun c => absurd c h47) (fun _ => pc_rg (pc_if (fun c => absurd c (by omega)) (fun _ => pc_rdI (fun _ => pc_bn (fun r55 e55 => by rw [hs] at e55; cases e55))))))
      exact w o eo
    | some r' =>
      have y := y_seal (S := x) (T := T) e19.2 (fun j hj => tape j (by omega)) r er r' hs
      rw [y]; exact h r' hs
  -- what the class's rows must be to be judged
  have SND : (∀ x, x < N → GOK g (PO g x) E) → PO g N = e → HLT g (N : Int) 8 → ∀ X : MS, RWs g N X → pc (m_x4_isSound X) (PSn X N) := fun G P hl X W => by
    refine s_isSound W.2.2.2.1 hN W.2.2.1.2 (fun y hy nf => ?_) (fun p hp hpN => W.2.2.2.2 p hpN hp) (fun p hp => ?_) (fun v hv => ?_)
    · have c := W.1 y hy
      have t : thr g (PO g y) := by
        unfold nfr at nf
        unfold thr
        rw [c.1.1, c.1.2] at nf; exact nf
      obtain ⟨c1, c2, _⟩ := c.2 t
      obtain ⟨g1, g2, _⟩ := G y hy t
      rw [c1, c2]
      exact ⟨⟨g2.1, by omega⟩, g1⟩
    · have c := (W.1 p hp).1
      have l := po_in P hp
      have l2 := nxp_lt g (PO g p)
      rw [c.1, c.2]
      exact ⟨(BY _ (by omega)).1, (BY _ (by omega)).1⟩
    · have c := W.2.1 v hv
      have h := hl v hv
      rw [c.1, c.2]; exact h
  by_cases q1 : q.1 = 1
  · obtain ⟨⟨_, ck, cs, hl, im⟩, X, q', x1, W, x3, x4⟩ := a2 q1
    have P := im.2.1
    have G : ∀ y, y < N → GOK g (PO g y) E := fun y hy => im.2.2 y (by omega) hy
    have S := SND G P hl X W q' x1
    have q'1 : q'.1 = 1 := S.1.resolve_left x3
    have AL := S.2.2.1 q'1
    have cn : ∀ y, y < N → thr g (PO g y) → g (PO g y + 3) ≤ 6 := fun y hy t => by have w := (G y hy t).2.1; omega
    have CI' : ∀ f, RRA f g N → HDr f g → CIM f (N : Int) E := fun f A Hd => cim_of hN hE e19.1 BY P G A Hd W hl S.2.1 AL
    -- the keys in order, as the reference wants them
    have IR : IMR g e N E 0 19 := by
      refine ⟨by omega, P, fun y _ hy t => ?_⟩
      obtain ⟨g1, g2, g3⟩ := G y hy t
      refine ⟨g2, fun j hj => ⟨?_, (g3 j hj).1.2⟩⟩
      unfold lwk
      by_cases w : j = 0 ∨ (j = 1 ∧ 0 < g (PO g y + 2))
      · rw [if_pos w]; exact (g3 j hj).1.1
      · rw [if_neg w]
        have c := W.1 y hy
        obtain ⟨c1, c2, c3⟩ := c.2 t
        have nf : nfr q'.2 y := by
          rw [nfr_k S.2.1]
          unfold nfr
          rw [c.1.1, c.1.2]; exact t
        have s := (AL.1 y hy nf).1
        have k74 : gA q'.2 74 = gA X 74 := S.2.1.1 74 (by decide) (by decide) (by decide)
        have k75 : gA q'.2 75 = gA X 75 := S.2.1.1 75 (by decide) (by decide) (by decide)
        have k76 : gA q'.2 76 = gA X 76 := S.2.1.1 76 (by decide) (by decide) (by decide)
        have n6 := cn y hy t
        have v := s.1 (j - 1) (by rw [k74, c1]; omega) (by rw [k75, c2]; omega)
        rw [k76, show j - 1 + 1 = j by omega, (c3 (j - 1) (by omega) (by omega)).1, (c3 j (by omega) hj).1] at v
        omega
    obtain ⟨o1, A, Hd⟩ := m_img0 hRT hN hE BY e19 h47 h5 h6 hT (CK ck) cs IR CI' o eo
    have RX := rly_of BY P A W cn
    have IGf := (CI' _ A Hd).1
    have TX := trf_of IGf e19.1 BY A Hd W RX hl
    refine ⟨q1.trans o1.symm, Or.inr q1, fun _ => ⟨gA q'.2 18, gA q'.2 19, ⟨?_, ?_⟩, IGf, ?_, fun t' ht => OI_img IGf (RLY_k RX S.2.1) AL.1 ht⟩⟩
    · rw [x4, S.2.1.2 1421, W.2.2.1.1]; exact cs
    · rw [x4, S.2.1.2 1420]; exact W.2.2.1.2
    · rw [x4]
      exact TRf_rows TX (fun k k1 k2 => S.2.1.1 k (by omega) (by omega) (by omega))
  · have q0 : q.1 = 0 := a1.resolve_right q1
    refine ⟨?_, Or.inl q0, fun w => absurd w q1⟩
    rw [q0]
    refine Eq.symm (b1.resolve_right (fun o1 => ?_))
    obtain ⟨_, ck, cs, im, A, Hd, KS'⟩ := b2 o1
    obtain ⟨IGf, f16, ⟨C0, C1⟩, _⟩ : IM (gA o.2 113) (N : Int) E := by
      rcases IMo with w | w
      · exact absurd (w.symm.trans o1) (by decide)
      · have y := w.2.2
        rw [h5, h6] at y; exact y
    have P := im.2.1
    have Rk : ∀ y, y < N → ROK g (PO g y) E := fun y hy => im.2.2 y (by omega) hy
    have cn : ∀ y, y < N → thr g (PO g y) → g (PO g y + 3) ≤ 6 := fun y hy t => by have w := (Rk y hy t).1; omega
    have DT : ∀ y, y < N → (DLa (gA o.2 113) y ↔ thr g (PO g y)) := fun y hy => dl_thr BY P A hy
    -- what the class asks of each block
    have G : ∀ y, y < N → GOK g (PO g y) E := fun y hy t => by
      have hd := (DT y hy).2 t
      obtain ⟨r1, r2, r3⟩ := (A.1 y hy).2.1 t
      have n6 := cn y hy t
      have rk := Rk y hy t
      have l := po_in P hy
      rw [nxp_1 t] at l
      refine ⟨⟨(BY _ (by omega)).1, ?_⟩, rk.1, fun k hk => ?_⟩
      · rw [← r1]
        exact lev47 IGf y (by omega) hd
      · have kk := r3 k (by omega) hk
        have tt := (IG_there IGf (by omega) hd).2.2.2 k (show (k : Int) < gA o.2 113 (20 + 16 * y) by rw [r2]; exact hk)
        have k6 : k < 6 := by omega
        have e1 : kLa (gA o.2 113) y k = gA o.2 113 (21 + 16 * y + k) := if_pos k6
        rw [e1, kk.1] at tt
        have av := IGf.2.2.2.2.1 y (by omega) k (by rw [r2]; exact hk)
        unfold AV1 at av
        rw [kk.2] at av
        exact ⟨tt, by omega⟩
    have hl : HLT g (N : Int) 8 := fun v hv => by
      have b := Hd.2 v hv
      have y0 := C0.1 v hv
      have y1 := C1.1 v hv
      have n0 := BY (3 + 2 * v) (by omega)
      have n1 := BY (4 + 2 * v) (by omega)
      have s0 : rLa (gA o.2 113) 0 v = g (3 + 2 * v) := by
        show (if v < 8 then gA o.2 113 (8 * 0 + v) else 0) = _
        rw [if_pos hv, show 8 * 0 + v = v by omega]; exact b.1
      have s1 : rLa (gA o.2 113) 1 v = g (4 + 2 * v) := by
        show (if v < 8 then gA o.2 113 (8 * 1 + v) else 0) = _
        rw [if_pos hv, show 8 * 1 + v = 8 + v by omega]; exact b.2
      rw [s0] at y0
      rw [s1] at y1
      have rt : ∀ r : Int, 0 ≤ r → r ≤ 255 → ((0 ≤ r ∧ r < (N : Int)) ∨ r < 0 ∨ 254 ≤ r) → rto r < (N : Int) := fun r r0 r1 h => by
        unfold rto
        split
        · omega
        · split
          · omega
          · omega
      exact ⟨rt _ n0.1 n0.2 y0, rt _ n1.1 n1.2 y1⟩
    obtain ⟨X, q', x1, W, x3⟩ := a3 ⟨e19.1, KC ck, cs, hl, by omega, P, fun y _ hy => G y hy⟩
    have S := SND G P hl X W q' x1
    have RX := rly_of BY P A W cn
    have TX := trf_of IGf e19.1 BY A Hd W RX hl
    have cnt : ∀ c r w : Nat, ((c = 72 ∧ r = 78 ∧ w = 0) ∨ (c = 73 ∧ r = 79 ∧ w = 1)) → CQ (gA o.2 113) (N : Int) w → ∀ y : Nat, y < N → gA X c y = rf (hJ X) (gA X c) (gA X r) (y : Int) := fun c r w hc C y hy => by
      rw [rf_eq IGf TX hc (by omega)]
      have d := C.2 y (by omega)
      unfold df at d
      have cc : gA X c y = cLa (gA o.2 113) w y := by
        have v := TX.2.1 y (by omega)
        rcases hc with ⟨a, _, b⟩ | ⟨a, _, b⟩
        · rw [a, b]; exact v.1
        · rw [a, b]
          show gA X 73 y = gA o.2 113 (17 + 16 * y + 1)
          rw [show 17 + 16 * y + 1 = 18 + 16 * y by omega]; exact v.2
      omega
    have HS : HYs X N := HYs_of ⟨IGf, ⟨C0, C1⟩, KS' IGf⟩ RX (cnt 72 78 0 (Or.inl ⟨rfl, rfl, rfl⟩) C0) (cnt 73 79 1 (Or.inr ⟨rfl, rfl, rfl⟩) C1)
    have y1 := S.2.2.2 HS
    exact q1 (x3 (by rw [y1]; decide))
theorem m_L26 {T : MS} : pc (m_x12_on_L26 FU 0 T) (fun o => o.1 = 1 ∧ (∀ i, i < 785 → gA o.2 49 i = gA T 113 i) ∧ gA o.2 49 785 = 0 ∧ gI o.2 76 = 0 ∧ (∀ k, k ≠ 49 → gA o.2 k = gA T k) ∧ (∀ i, i ≠ 76 → gI o.2 i = gI T i) ∧ ∀ k, gL o.2 k = gL T k) := by
  have L : ∀ (n : Nat) (x : Int) (S : MS), (0 ≤ x ∧ x ≤ 785) → (∀ i : Nat, (i : Int) < x → gA S 49 i = gA T 113 i) → (∀ k, k ≠ 49 → gA S k = gA T k) → (∀ i, gI S i = gI T i) → (∀ k, gL S k = gL T k) → pc (m_x12_on_L26 n x S) (fun o => o.1 = 1 ∧ (∀ i, i < 785 → gA o.2 49 i = gA T 113 i) ∧ gA o.2 49 785 = 0 ∧ gI o.2 76 = 0 ∧ (∀ k, k ≠ 49 → gA o.2 k = gA T k) ∧ (∀ i, i ≠ 76 → gI o.2 i = gI T i) ∧ ∀ k, gL o.2 k = gL T k) := by
    refine fr_ind (fun _ _ _ _ _ _ _ => pc_none) (fun n ih x S hx h1 h2 h3 h4 => ?_)
    show pc (m_x12_on_b26 (m_x12_on_L26 n) x S) _
    unfold m_x12_on_b26
    refine pc_rg (pc_if (fun c => pc_inb (pc_stn (fun s6 e6 => pc_stn (fun s7 e7 => pc_some ⟨rfl, fun i hi => ?_, ?_, q_II e7, fun k hk => ?_, fun i hi => ?_, fun k => ?_⟩)))) (fun c => pc_rdI (fun _ => pc_inb (pc_stn (fun s10 e10 => ih (x + 1) s10 (by omega) (fun i hi => ?_) (fun k hk => (q_Aa e10 hk).trans (h2 k hk)) (fun i => (q_Ai e10).trans (h3 i)) (fun k => (q_Al e10).trans (h4 k)))))))
    · show gA s7 49 i = _
      rw [(q_Ia e7 : gA s7 49 = gA s6 49), (q_AA e6 : gA s6 49 = _), show Int.toNat 785 = 785 from rfl, upZ_n (by omega)]
      exact h1 i (by omega)
    · show gA s7 49 785 = 0
      rw [(q_Ia e7 : gA s7 49 = gA s6 49), (q_AA e6 : gA s6 49 = _), show Int.toNat 785 = 785 from rfl, upZ_s]
    · show gA s7 k = _
      rw [(q_Ia e7 : gA s7 k = gA s6 k), (q_Aa e6 hk : gA s6 k = gA S k)]; exact h2 k hk
    · show gI s7 i = _
      rw [(q_Ii e7 hi : gI s7 i = gI s6 i), (q_Ai e6 : gI s6 i = gI S i)]; exact h3 i
    · show gL s7 k = _
      rw [(q_Il e7 : gL s7 k = gL s6 k), (q_Al e6 : gL s6 k = gL S k)]; exact h4 k
    · rw [(q_AA e10 : gA s10 49 = _)]
      by_cases z : i = x.toNat
      · rw [z, upZ_s, h2 113 (by decide)]
      · rw [upZ_n z]; exact h1 i (by omega)
  exact L FU 0 T (by omega) (fun i hi => absurd hi (by omega)) (fun _ _ => rfl) (fun _ => rfl) (fun _ => rfl)
theorem s_isRefused {p : Int} {t : MS} : pc (m_x12_isRefused p t) (fun q => q.1 = 0 ∧ gA q.2 9 = upZ (gA t 9) p.toNat (gA t 9 p.toNat + 1)) := by
  unfold m_x12_isRefused
  exact pc_rdI (fun _ => pc_inb (pc_stn (fun s3 e3 => pc_some ⟨rfl, q_AA e3⟩)))
set_option maxHeartbeats 2000000 in
theorem y_on {x t : MS} {ts : List MS} (hC : CI x ts) (hR : Rr t) (hJ : JI t) (hl : gI x 61 = gI t 1) (tape : ∀ j : Nat, (j : Int) < gI x 61 → gA x 4 j = gA t 0 j) (h47 : gI t 47 = gI x 12) (hP : gI x 12 ≠ 0 → gA t 39 5 = gI x 580 ∧ gA t 39 6 = gI x 581) (B : BT x ts t) : pc (m_x11_on x) (fun q => pc (m_x12_on t) (fun o => q.1 = o.1 ∧ BT q.2 ts o.2)) := by
  have r61 : (0 : Int) ≤ gI x 61 ∧ gI x 61 ≤ 1600 := hC.1.1 61
  -- the reference, up to its answer
  have REF : ∀ Q : Int × MS → Prop, (∀ T : MS, (∀ k, gA T k = gA t k) → (∀ i, i ≠ 1 → gI T i = gI t i) → (∀ k, gL T k = gL t k) → (Rr T) → ∀ q14 : Int × MS, m_x12_isImage (gI t 1) T = some q14 → (q14.1 = 0 → ∀ q19 : Int × MS, m_x12_isRefused 5 q14.2 = some q19 → Q q19) ∧ (q14.1 ≠ 0 → pc (m_x12_on_L26 FU 0 q14.2) Q)) → pc (m_x12_on t) Q := fun Q K => by
    unfold m_x12_on
    refine pc_stn (fun s11 e11 => pc_bn (fun q14 e14 => ?_))
    have k := K s11 (fun k => q_Ia e11) (fun i hi => q_Ii e11 hi) (fun k => q_Il e11) (e11 ▸ Rr.uI hR (by show (0 : Int) ≤ 0 ∧ (0 : Int) ≤ 1600; omega)) q14 e14
    exact pc_rg (pc_if (fun c => pc_bn (fun q19 e19 => pc_bo (pc_some (k.1 c q19 e19)))) (fun c => k.2 c))
  -- both refuse
  have RF : ∀ (S s3 : MS) (q12 : Int × MS) (T : MS) (q14 q19 : Int × MS), (∀ i, i ≠ 61 → i ∉ [322, 1420, 1421] → gI s3 i = gI x i) → (∀ k, k ∉ [18, 19, 20, 72, 73, 74, 75, 76, 77, 78, 79] → gA s3 k = gA x k) → m_x11_refuse 5 s3 = some q12 → (∀ k, gA T k = gA t k) → (∀ i, i ≠ 1 → gI T i = gI t i) → (∀ k, gL T k = gL t k) → F_x12_isImage T q14.2 → m_x12_isRefused 5 q14.2 = some q19 → (0 : Int) = q19.1 ∧ BT q12.2 ts q19.2 := fun S s3 q12 T q14 q19 a1 a2 e12 b1 b2 b3 F14 e19 => by
    have F12 : F_x11_refuse s3 q12.2 := fr_x11_refuse e12
    have F19 : F_x12_isRefused q14.2 q19.2 := fr_x12_isRefused e19
    have u1 := s_rf2 q12 e12
    obtain ⟨u3, u2⟩ := s_isRefused q19 e19
    have cA : ∀ k, k ≠ 9 → k ∉ [62, 113, 115] → gA q19.2 k = gA t k := fun k h1 h2 => ((F19.2.1 k (by simp; omega)).trans (F14.2.1 k h2)).trans (b1 k)
    have cI : ∀ i, i ≠ 1 → i ≠ 114 → gI q19.2 i = gI t i := fun i h1 h2 => ((F19.1 i (by simp)).trans (F14.1 i (by simp; omega))).trans (b2 i h1)
    refine ⟨u3.symm, BT_k5 B (fun k hk => (F12.1 k (by simp)).trans (a1 k (by omega) (by simp; omega))) (fun k hk => (F12.2.1 k (by simp; omega)).trans (a2 k (by simp; omega))) (fun k hk => cI k (by omega) (by omega)) (fun k hk => cA k (by omega) (by simp; omega)) (by rw [cA 39 (by decide) (by decide)]) ?_ (fun k hk => ?_)⟩
    · rw [F12.1 983 (by simp), a1 983 (by decide) (by decide), F19.2.2.1 78 (by simp), F14.2.2.1 78 (by simp), b3]; exact B.1
    · rw [u1, u2, a2 2 (by decide), F14.2.1 9 (by decide), b1]
      by_cases z : k = Int.toNat 5
      · rw [z, upZ_s, upZ_s, B.2.1 (Int.toNat 5) (by decide)]
      · rw [upZ_n z, upZ_n z]; exact B.2.1 k hk
  unfold m_x11_on m_x11_on_J46 m_x11_on_J47
  refine pc_rg (pc_if (fun c => pc_stn (fun s3 e3 => pc_rg (pc_if (fun _ => pc_bn (fun q12 e12 => pc_some ?_)) (fun d => absurd rfl d)))) (fun c => pc_bn (fun q18 e18 => ?_)))
  · refine REF _ (fun T b1 b2 b3 RT q14 e14 => ⟨fun _ q19 e19 => RF x s3 q12 T q14 q19 (fun i hi _ => q_Ii e3 hi) (fun k _ => q_Ia e3) e12 b1 b2 b3 (fr_x12_isImage e14) e19, fun n => ?_⟩)
    exfalso
    have z : pc (m_x12_isImage (gI t 1) T) (fun q => q.1 = 0) := by
      unfold m_x12_isImage m_x12_isImage_J44
      exact pc_rg (pc_if (fun _ => pc_some rfl) (fun d => absurd (by rw [b2 47 (by decide), h47]; exact c) d))
    exact n (z q14 e14)
  have t47 : gI t 47 ≠ 0 := by rw [h47]; exact c
  have G := JI_GA hJ t47
  obtain ⟨p5, p6⟩ := hP c
  have gb := G.1.2.1
  obtain ⟨N, hN⟩ : ∃ N : Nat, gI x 580 = (N : Int) := ⟨(gI x 580).toNat, by omega⟩
  have N48 : N ≤ 48 := by omega
  rw [hN] at e18
  have F18 : F_x4_load x q18.2 := fr_x4_load e18
  have R18 := (wp_det (w_load hC.1 (p2 := (N : Int)) (p3 := gI x 581) ⟨by omega, by omega⟩ (by rw [← p6]; exact gb.2)) e18).1
  have IMG : ∀ T : MS, (∀ k, gA T k = gA t k) → (∀ i, i ≠ 1 → gI T i = gI t i) → Rr T → ∀ q14 : Int × MS, m_x12_isImage (gI t 1) T = some q14 → _ := fun T b1 b2 RT q14 e14 => y_img hC.1 RT N48 (E := gI x 581) (len := gI t 1) (by rw [← p6]; exact gb.2) (by rw [b2 47 (by decide)]; exact t47) (by rw [b1 39, p5]; exact hN) (by rw [b1 39]; exact p6) hl.symm (fun j hj => by rw [b1 0]; exact tape j hj) q18 e18 q14 e14
  refine pc_rg (pc_if (fun c2 => pc_stn (fun s3 e3 => pc_rg (pc_if (fun _ => pc_bn (fun q12 e12 => pc_some ?_)) (fun d => absurd rfl d)))) (fun c2 => pc_stn (fun s3 e3 => pc_rg (pc_if (fun d => absurd d (by decide)) (fun _ => pc_bn (fun s7 e7 => pc_bn (fun s9 e9 => pc_some ?_)))))))
  · refine REF _ (fun T b1 b2 b3 RT q14 e14 => ⟨fun _ q19 e19 => RF x s3 q12 T q14 q19 (fun i hi h => (q_Ii e3 hi).trans (F18.1 i h)) (fun k h => (q_Ia e3).trans (F18.2.1 k h)) e12 b1 b2 b3 (fr_x12_isImage e14) e19, fun n => ?_⟩)
    exact absurd ((IMG T b1 b2 RT q14 e14).1.symm.trans c2) n
  · refine REF _ (fun T b1 b2 b3 RT q14 e14 => ?_)
    obtain ⟨i1, i2, i3⟩ := IMG T b1 b2 RT q14 e14
    have q1 : q18.1 = 1 := i2.resolve_left c2
    refine ⟨fun z => absurd (i1.trans z) c2, fun _ => pc_mono m_L26 (fun o ho => ?_)⟩
    obtain ⟨lo, hi, ⟨j1, j2⟩, IGf, TF, OIf⟩ := i3 q1
    obtain ⟨o1, o2, o3, o4, o5, o6, o7⟩ := ho
    have F14 : F_x12_isImage T q14.2 := fr_x12_isImage e14
    have R3 : Rg s3 := e3 ▸ Rg.uI R18 (by show (0 : Int) ≤ 0 ∧ (0 : Int) ≤ 1600; omega)
    have k1421 : gI s3 1421 = gI q18.2 1421 := q_Ii e3 (by decide)
    obtain ⟨R7, B7⟩ := BC_v4 R3 (by rw [k1421]; exact j1) e7
    have F7 : F_x8_become_v4 s3 s7 := fr_x8_become_v4 e7
    have F9 : F_x2_clear s7 s9 := fr_x2_clear e9
    have cl : gI s9 143 = 0 ∧ gI s9 145 = 0 := by
      have k : pc (m_x2_clear s7) (fun o => gI o 143 = 0 ∧ gI o 145 = 0) := by
        unfold m_x2_clear
        exact pc_stn (fun s1 f1 => pc_stn (fun s2 f2 => pc_some ⟨(q_Ii f2 (by decide)).trans (q_II f1), q_II f2⟩))
      exact k s9 e9
    have kI : ∀ i, i ∉ [61, 143, 145, 322, 1060, 1061, 1420, 1421] → gI s9 i = gI x i := fun i hi => by
      rw [F9.1 i (by simp at hi ⊢; omega), F7.1 i (by simp at hi ⊢; omega), (q_Ii e3 (by simp at hi; omega) : gI s3 i = gI q18.2 i), F18.1 i (by simp at hi ⊢; omega)]
    have k60 : gI s9 1060 = (N : Int) := by
      rw [F9.1 1060 (by decide), B7.2.2.2.1, (q_Ii e3 (by decide) : gI s3 1420 = _)]; exact j2
    have o39 : gA o.2 39 = gA t 39 := by rw [o5 39 (by decide), F14.2.1 39 (by decide), b1]
    have T54 : TRf (fun b => b) (fun b => b) (N : Int) s9 54 (gA o.2 49) := by
      have a := TRf_rows TF (o := s3) (fun k _ _ => q_Ia e3)
      have b := TRf_c a B7 (fun y hy l => by
        have nn := (IGf.2.2.1 y hy).1
        have hd : DLa (gA q14.2 113) y := by
          unfold DLa
          have l' : 0 < gA q14.2 113 (17 + 16 * y) ∨ 0 < gA q14.2 113 (18 + 16 * y) := l
          omega
        have t6 : (hLa (gA q14.2 113)).2.1 y ≤ 6 := by
          have t := (IG_there IGf hy hd).2.2.1.2
          omega
        exact t6)
      exact TRf_r (TRf_rows b (fun k _ _ => F9.2.1 k (by simp))) o2
    refine ⟨o1.symm, ?_, fun k hk => ?_, fun z => ?_, fun _ => ⟨?_, ⟨fun b => b, fun b => b, lo, hi, ?_, OIf o.2 o2⟩, ?_⟩⟩
    · rw [kI 983 (by decide), o7, F14.2.2.1 78 (by simp), b3]; exact B.1
    · rw [F9.2.1 2 (by simp), F7.2.1 2 (by decide), (q_Ia e3 : gA s3 2 = _), F18.2.1 2 (by decide), o5 9 (by decide), F14.2.1 9 (by decide), b1]; exact B.2.1 k hk
    · rw [kI 12 (by decide)] at z; exact absurd z c
    · rw [k60, o39, p5, hN]
    · rw [k60]; exact T54
    · refine ⟨?_, 0, 0, ⟨?_, by decide⟩, ⟨?_, by decide, by decide⟩, ⟨0, by decide, o3, fun k hk => absurd hk (by omega)⟩, fun i hi => absurd hi (by omega)⟩
      · rw [o4, cl.2]
      · rw [cl.1]; rfl
      · rw [cl.2]; rfl
/-! ===== the calls that touch no tree: what stands between calls ===== -/
/-- frames that leave all of it, refusals aside -/
def ZX (s o : MS) : Prop := (∀ k, k = 12 ∨ k = 143 ∨ k = 145 ∨ k = 1060 ∨ k = 1061 → gI o k = gI s k) ∧ ∀ k, k = 8 ∨ k = 9 ∨ k = 10 ∨ (54 ≤ k ∧ k ≤ 61) → gA o k = gA s k
def ZY (t o : MS) : Prop := (∀ k, k = 76 ∨ k = 77 → gI o k = gI t k) ∧ (∀ k, k = 49 ∨ k = 75 → gA o k = gA t k) ∧ gA o 39 5 = gA t 39 5
theorem ZX_rf (s : MS) : ZX s s := ⟨fun _ _ => rfl, fun _ _ => rfl⟩
theorem ZY_rf (t : MS) : ZY t t := ⟨fun _ _ => rfl, fun _ _ => rfl, rfl⟩
theorem BT_z {s s' t t' : MS} {ts : List MS} (h : BT s ts t) (a : ZX s s') (b : ZY t t') (c1 : gI s' 983 = gL t' 78) (c2 : ∀ k, k < 6 → gA s' 2 k = gA t' 9 k) : BT s' ts t' := BT_k5 h a.1 a.2 b.1 b.2.1 b.2.2 c1 c2
/-- nothing is refused -/
theorem BT_n {s s' t t' : MS} {ts : List MS} (h : BT s ts t) (a : ZX s s') (b : ZY t t') (s1 : gI s' 983 = gI s 983) (s2 : gA s' 2 = gA s 2) (t1 : gL t' 78 = gL t 78) (t2 : gA t' 9 = gA t 9) : BT s' ts t' := BT_z h a b (by rw [s1, t1]; exact h.1) (fun k hk => by rw [s2, t2]; exact h.2.1 k hk)
/-- both sides refuse -/
theorem BT_u {s s' t t' : MS} {ts : List MS} {p : Nat} (h : BT s ts t) (hp : p < 6) (a : ZX s s') (b : ZY t t') (s1 : gI s' 983 = gI s 983) (s2 : gA s' 2 = upZ (gA s 2) p (gA s 2 p + 1)) (t1 : gL t' 78 = gL t 78) (t2 : gA t' 9 = upZ (gA t 9) p (gA t 9 p + 1)) : BT s' ts t' := BT_z h a b (by rw [s1, t1]; exact h.1) (fun k hk => by
  rw [s2, t2]
  by_cases z : k = p
  · rw [z, upZ_s, upZ_s, h.2.1 p hp]
  · rw [upZ_n z, upZ_n z]; exact h.2.1 k hk)
theorem s_room {s : MS} : pc (m_x9_hasRoom s) (fun r => r = 0 ↔ 1600 < gI s 61 + 20) := by
  unfold m_x9_hasRoom m_x9_hasRoom_J18
  exact pc_rg (pc_if (fun c => pc_bo (pc_some ⟨fun _ => c, fun _ => rfl⟩)) (fun c => pc_bo (pc_some ⟨fun w => absurd w (by decide), fun w => absurd w c⟩)))
theorem s_feed2 {p1 p2 p3 p4 p5 : Int} {s : MS} : pc (m_x11_feed p1 p2 p3 p4 p5 s) (fun q => (1600 < gI s 61 + 20 ∧ gA q.2 2 = upZ (gA s 2) 0 (gA s 2 0 + 1)) ∨ (gI s 61 + 20 ≤ 1600 ∧ gA q.2 2 = gA s 2)) := by
  unfold m_x11_feed
  refine pc_bq s_room (fun r2 h2 => pc_rg (pc_if (fun c => pc_bq s_rf2 (fun q17 h17 => pc_some (Or.inl ⟨h2.1 c, h17⟩))) (fun c => pc_bn (fun s6 e6 => pc_bn (fun s8 e8 => pc_bn (fun s10 e10 => pc_bn (fun s12 e12 => pc_bn (fun s14 e14 => pc_some (Or.inr ⟨?_, ?_⟩)))))))))
  · refine Classical.byContradiction (fun w => c (h2.2 (by omega)))
  · show gA s14 2 = gA s 2
    rw [(fr_x9_append e14).2.1 2 (by decide), (fr_x9_append e12).2.1 2 (by decide), (fr_x9_append e10).2.1 2 (by decide), (fr_x9_append e8).2.1 2 (by decide), (fr_x9_append e6).2.1 2 (by decide)]
theorem m_feed9 {p1 p2 p3 p4 p5 : Int} {t : MS} : pc (m_x12_feed p1 p2 p3 p4 p5 t) (fun o => (1600 < gI t 1 + 20 ∧ gA o.2 9 = upZ (gA t 9) 0 (gA t 9 0 + 1)) ∨ (gI t 1 + 20 ≤ 1600 ∧ gA o.2 9 = gA t 9)) := by
  have L : ∀ (n : Nat) (x : Int) (S : MS), gA S 9 = gA t 9 → pc (m_x12_feed_L28 n p1 p2 p3 p4 p5 x S) (fun o => gA o.2 9 = gA t 9) := by
    refine fr_ind (fun _ _ _ => pc_none) (fun n ih x S h => ?_)
    have J : ∀ a : Int, pc (m_x12_feed_J81 (m_x12_feed_L28 n) p1 p2 p3 p4 p5 x a S) (fun o => gA o.2 9 = gA t 9) := fun a => by
      unfold m_x12_feed_J81
      exact pc_dv (pc_inb (pc_stn (fun s18 e18 => pc_stn (fun s19 e19 => ih (x + 1) s19 (((q_Ia e19).trans (q_Aa e18 (by decide))).trans h)))))
    show pc (m_x12_feed_b28 (m_x12_feed_L28 n) p1 p2 p3 p4 p5 x S) _
    unfold m_x12_feed_b28
    exact pc_rg (pc_if (fun _ => pc_some h) (fun _ => pc_rg (pc_if (fun _ => pc_rg (pc_if (fun _ => pc_rg (pc_if (fun _ => pc_rg (pc_if (fun _ => J _) (fun _ => J _))) (fun _ => J _))) (fun _ => J _))) (fun _ => J _))))
  unfold m_x12_feed
  exact pc_rg (pc_if (fun c => pc_mono (L FU 0 t rfl) (fun o ho => Or.inr ⟨c, ho⟩)) (fun c => pc_rdI (fun _ => pc_inb (pc_stn (fun s34 e34 => pc_some (Or.inl ⟨by omega, q_AA e34⟩))))))
theorem y_feedB {x t : MS} {ts : List MS} {p1 p2 p3 p4 p5 : Int} (hl : gI x 61 = gI t 1) (B : BT x ts t) : pc (m_x11_feed p1 p2 p3 p4 p5 x) (fun q => pc (m_x12_feed p1 p2 p3 p4 p5 t) (fun o => BT q.2 ts o.2)) := by
  intro q eq o eo
  have F1 : F_x11_feed x q.2 := fr_x11_feed eq
  have F2 : F_x12_feed t o.2 := fr_x12_feed eo
  have a : ZX x q.2 := ⟨fun k hk => F1.1 k (by simp; omega), fun k hk => F1.2.1 k (by simp; omega)⟩
  have b : ZY t o.2 := ⟨fun k hk => F2.1 k (by simp; omega), fun k hk => F2.2.1 k (by simp; omega), by rw [F2.2.1 39 (by decide)]⟩
  rcases s_feed2 q eq with ⟨c1, c2⟩ | ⟨c1, c2⟩ <;> rcases m_feed9 o eo with ⟨d1, d2⟩ | ⟨d1, d2⟩
  · exact BT_u B (p := 0) (by decide) a b (F1.1 983 (by decide)) c2 (F2.2.2.1 78 (by simp)) d2
  · exfalso; omega
  · exfalso; omega
  · exact BT_n B a b (F1.1 983 (by decide)) c2 (F2.2.2.1 78 (by simp)) d2
theorem s_end2 {p : Int} {s : MS} : pc (m_x11_end p s) (fun q => ((p < 0 ∨ gI s 61 < p) ∧ gA q.2 2 = upZ (gA s 2) 0 (gA s 2 0 + 1)) ∨ ((0 ≤ p ∧ p ≤ gI s 61) ∧ gA q.2 2 = gA s 2)) := by
  unfold m_x11_end m_x11_end_J15
  exact pc_rg (pc_if (fun c => pc_bq s_rf2 (fun q4 h4 => pc_some (Or.inl ⟨Or.inl c, h4⟩))) (fun c => pc_rg (pc_rg (pc_if (fun c2 => pc_stn (fun s10 e10 => pc_some (Or.inr ⟨by omega, q_Ia e10⟩))) (fun c2 => pc_bq s_rf2 (fun q4 h4 => pc_some (Or.inl ⟨Or.inr (by omega), h4⟩)))))))
theorem m_end9 {p : Int} {t : MS} : pc (m_x12_end p t) (fun o => ((p < 0 ∨ gI t 1 < p) ∧ gA o.2 9 = upZ (gA t 9) 0 (gA t 9 0 + 1)) ∨ ((0 ≤ p ∧ p ≤ gI t 1) ∧ gA o.2 9 = gA t 9)) := by
  unfold m_x12_end m_x12_end_J12
  exact pc_rg (pc_if (fun c => pc_rdI (fun _ => pc_inb (pc_stn (fun s4 e4 => pc_some (Or.inl ⟨Or.inl c, q_AA e4⟩))))) (fun c => pc_rg (pc_rg (pc_if (fun c2 => pc_stn (fun s10 e10 => pc_some (Or.inr ⟨by omega, q_Ia e10⟩))) (fun c2 => pc_rdI (fun _ => pc_inb (pc_stn (fun s4 e4 => pc_some (Or.inl ⟨Or.inr (by omega), q_AA e4⟩)))))))))
theorem y_endB {x t : MS} {ts : List MS} {p : Int} (hl : gI x 61 = gI t 1) (B : BT x ts t) : pc (m_x11_end p x) (fun q => pc (m_x12_end p t) (fun o => BT q.2 ts o.2)) := by
  intro q eq o eo
  have F1 : F_x11_end x q.2 := fr_x11_end eq
  have F2 : F_x12_end t o.2 := fr_x12_end eo
  have a : ZX x q.2 := ⟨fun k hk => F1.1 k (by simp; omega), fun k hk => F1.2.1 k (by simp; omega)⟩
  have b : ZY t o.2 := ⟨fun k hk => F2.1 k (by simp; omega), fun k hk => F2.2.1 k (by simp; omega), by rw [F2.2.1 39 (by decide)]⟩
  rcases s_end2 q eq with ⟨c1, c2⟩ | ⟨c1, c2⟩ <;> rcases m_end9 o eo with ⟨d1, d2⟩ | ⟨d1, d2⟩
  · exact BT_u B (p := 0) (by decide) a b (F1.1 983 (by decide)) c2 (F2.2.2.1 78 (by simp)) d2
  · exfalso; omega
  · exfalso; omega
  · exact BT_n B a b (F1.1 983 (by decide)) c2 (F2.2.2.1 78 (by simp)) d2
theorem y_seedB {x t : MS} {ts : List MS} {p : Int} (B : BT x ts t) : pc (m_x11_seed p x) (fun q => pc (m_x12_seed p t) (fun o => q.1 = o.1 ∧ BT q.2 ts o.2)) := by
  unfold m_x11_seed
  refine pc_rg (pc_if (fun c => pc_stn (fun s3 e3 => pc_some ?_)) (fun c => pc_bn (fun q6 e6 => pc_some ?_)))
  · unfold m_x12_seed
    refine pc_rg (pc_if (fun _ => pc_rg (pc_stn (fun s4 e4 => pc_some ⟨rfl, ?_⟩))) (fun d => absurd c d))
    refine BT_z B ⟨fun k hk => q_Ii e3 (by omega), fun k _ => q_Ia e3⟩ ⟨fun k _ => q_Li e4, fun k _ => q_La e4, by rw [(q_La e4 : gA s4 39 = gA t 39)]⟩ ((q_II e3).trans (q_LL e4).symm) (fun k hk => ?_)
    rw [(q_Ia e3 : gA s3 2 = gA x 2), (q_La e4 : gA s4 9 = gA t 9)]; exact B.2.1 k hk
  · unfold m_x12_seed
    refine pc_rg (pc_if (fun d => absurd d c) (fun _ => pc_bn (fun o7 e7 => pc_bo (pc_some ?_))))
    have F6 : F_x11_refuse x q6.2 := fr_x11_refuse e6
    have F7 : F_x12_isRefused t o7.2 := fr_x12_isRefused e7
    obtain ⟨u3, u2⟩ := s_isRefused o7 e7
    exact ⟨u3.symm, BT_u B (p := 5) (by decide) ⟨fun k hk => F6.1 k (by simp), fun k hk => F6.2.1 k (by simp; omega)⟩ ⟨fun k hk => F7.1 k (by simp), fun k hk => F7.2.1 k (by simp; omega), by rw [F7.2.1 39 (by decide)]⟩ (F6.1 983 (by simp)) (s_rf2 q6 e6) (F7.2.2.1 78 (by simp)) u2⟩
/-! ===== the reads: what stands between calls is kept ===== -/
/-- the class's trees as they were, by what they hold -/
def ZB (s o : MS) : Prop := BC s o 54 54 1060 1060 ∧ (∀ k, k = 12 ∨ k = 143 ∨ k = 145 ∨ k = 983 → gI o k = gI s k) ∧ ∀ k, k = 2 ∨ k = 8 ∨ k = 9 ∨ k = 10 → gA o k = gA s k
theorem ZB_rf (s : MS) : ZB s s := ⟨⟨fun _ _ => ⟨rfl, rfl, rfl, rfl⟩, fun _ _ => ⟨rfl, rfl⟩, fun _ _ => ⟨rfl, rfl⟩, rfl, rfl⟩, fun _ _ => rfl, fun _ _ => rfl⟩
theorem ZB_tr {s o u : MS} (h : ZB s o) (g : ZB o u) : ZB s u := ⟨BC_tr h.1 g.1, fun k hk => (g.2.1 k hk).trans (h.2.1 k hk), fun k hk => (g.2.2 k hk).trans (h.2.2 k hk)⟩
theorem BT_c {s s' t t' : MS} {ts : List MS} (hJ : JI t) (h47 : gI t 47 = gI s 12) (h : BT s ts t) (a : ZB s s') (b : ZY t t') (c1 : gL t' 78 = gL t 78) (c2 : gA t' 9 = gA t 9) : BT s' ts t' := by
  obtain ⟨B, aI, aA⟩ := a
  obtain ⟨h1, h2, h3, h4⟩ := h
  have b49 : gA t' 49 = gA t 49 := b.2.1 49 (Or.inl rfl)
  refine ⟨by rw [aI 983 (by omega), c1]; exact h1, fun k hk => by rw [aA 2 (Or.inl rfl), c2]; exact h2 k hk, fun z => ?_, fun z => ?_⟩
  · obtain ⟨u1, u2, u3, u4, u5, u6⟩ := h3 (by rw [← aI 12 (Or.inl rfl)]; exact z)
    exact ⟨B.2.2.2.1.trans u1, B.2.2.2.2.trans u2, (aI 143 (by omega)).trans u3, fun v hv => ((B.2.2.1 v hv).2).trans (u4 v hv), by rw [b49]; exact u5, by rw [b49]; exact u6⟩
  · have z' : gI s 12 ≠ 0 := by rw [← aI 12 (Or.inl rfl)]; exact z
    obtain ⟨g1, ⟨π, σ, lo, hi, g2, g3⟩, g4⟩ := h4 z'
    have G0 := JI_GA hJ (by rw [h47]; exact z')
    have hK : KLV t := KLV_of G0.1.1.1.1 (fun _ _ => Int.le_refl 0)
    have oz : ∀ x, x < 48 → 0 < cR (gA t 49) x ∨ 0 < vR (gA t 49) x → (hR (gA t 49)).2.1 x ≤ 6 := fun x hx l => (hK.2.1 x hx l).1.1.2.1.2
    refine ⟨by rw [B.2.2.2.1, b.2.2]; exact g1, ⟨π, σ, lo, hi, ?_, OI_49 g3 b49⟩, HJ_k5 g4 (aI 145 (by omega)) (aI 143 (by omega)) (fun k hk => aA k (by omega)) (b.1 76 (Or.inl rfl)) (b.1 77 (Or.inr rfl)) (b.2.1 75 (Or.inr rfl)) b.2.2 (fun i _ _ => by rw [b49])⟩
    rw [B.2.2.2.1, b49]
    exact TRf_c g2 B oz
/-! the class puts back what it tried -/
theorem isVol_y {p : Int} {s : MS} {r : Int} (e : m_x8_isVolume p s = some r) (c : ¬ r = 0) : (0 ≤ p ∧ p < 8) ∧ gA s 60 p.toNat ≠ -2 := by
  rcases s_isVol r e with ⟨_, a⟩ | ⟨a, _⟩
  · exact a
  · exact absurd a c
theorem z_write {s : MS} {p0 p1 : Int} (hT : TE s) (h0 : 0 ≤ p0 ∧ p0 < 8) (hv : gA s 60 p0.toNat ≠ -2) (h1 : 0 ≤ p1 ∧ p1 ≤ 999) : pc (m_x1_wouldWrite p0 p1 s) (fun q => TE q.2 ∧ ZB s q.2) := fun q e => by
  have g := wp_det (ts_wouldWrite hT h0 hv h1) e
  exact ⟨g.1, g.2.2.2, fun k hk => g.2.1.1 k (by simp; omega), fun k hk => g.2.1.2.1 k (by simp; omega)⟩
theorem z_cost {s : MS} {p0 p1 : Int} (hT : TE s) (h0 : 0 ≤ p0 ∧ p0 < 8) (hv : gA s 60 p0.toNat ≠ -2) (h1 : 0 ≤ p1 ∧ p1 ≤ 999) : pc (m_x1_wouldCost p0 p1 s) (fun q => TE q.2 ∧ ZB s q.2) := fun q e => by
  have g := wp_det (ts_wouldCost hT h0 hv h1) e
  exact ⟨g.1, g.2.2, fun k hk => g.2.1.1 k (by simp; omega), fun k hk => g.2.1.2.1 k (by simp; omega)⟩
theorem z_writes {s : MS} {ts : List MS} {p0 p1 p2 : Int} (h : CI s ts) : pc (m_x11_writes p0 p1 p2 s) (fun q => ZB s q.2) := by
  unfold m_x11_writes m_x11_writes_J21 m_x11_writes_J55
  refine pc_bn (fun r6 e6 => pc_rg (pc_if (fun _ => pc_some (ZB_rf s)) (fun c1 => pc_bn (fun r10 e10 => pc_rg (pc_if (fun _ => pc_some (ZB_rf s)) (fun c2 => ?_))))))
  have v0 := isVol_y e6 c1
  have k1 : 0 ≤ p1 ∧ p1 ≤ 999 := by
    rcases s_isKey r10 e10 with ⟨_, a⟩ | ⟨a, _⟩
    · exact a
    · exact absurd a c2
  have hT := CI_TE h (CI_told h (v := p0.toNat) (by omega) v0.2)
  exact pc_rg (pc_if (fun _ => pc_bn (fun q e => pc_some (z_write hT v0.1 v0.2 k1 q e).2)) (fun _ => pc_rg (pc_if (fun _ => pc_bn (fun q e => pc_some (z_cost hT v0.1 v0.2 k1 q e).2)) (fun _ => pc_some (ZB_rf s)))))
theorem z_spread {s : MS} {ts : List MS} {p0 p1 : Int} (h : CI s ts) : pc (m_x11_spread p0 p1 s) (fun q => ZB s q.2) := by
  unfold m_x11_spread m_x11_spread_J19
  refine pc_bn (fun r6 e6 => pc_rg (pc_if (fun _ => pc_some (ZB_rf s)) (fun c1 => pc_rg (pc_if (fun _ => ?_) (fun _ => pc_some (ZB_rf s))))))
  have v0 := isVol_y e6 c1
  have hT := CI_TE h (CI_told h (v := p0.toNat) (by omega) v0.2)
  have L : ∀ (n : Nat) (f i : Int) (S : MS), TE S → ZB s S → 0 ≤ i → pc (m_x11_spread_L26 n p0 p1 f i S) (fun q => ZB s q.2) := by
    refine fr_ind (fun _ _ _ _ _ _ => pc_none) (fun n ih f i S hS hz hi => ?_)
    show pc (m_x11_spread_b26 (m_x11_spread_L26 n) p0 p1 f i S) _
    unfold m_x11_spread_b26 m_x11_spread_J50
    refine pc_rg (pc_if (fun _ => pc_some hz) (fun c => pc_bn (fun q e => ?_)))
    have g := z_write hS v0.1 (by rw [(hz.1.2.2.1 p0.toNat (by omega)).1]; exact v0.2) (by omega) q e
    have hz2 := ZB_tr hz g.2
    exact pc_rg (pc_rg (pc_if (fun _ => ih _ _ _ g.1 hz2 (by omega)) (fun _ => ih _ _ _ g.1 hz2 (by omega))))
  exact L FU 0 0 s hT (ZB_rf s) (Int.le_refl 0)
/-! the reference puts back what it tried -/
def RS0 (t S : MS) : Prop := Rr S ∧ (∀ k, k = 39 ∨ k = 42 ∨ k = 43 ∨ k = 44 ∨ k = 49 ∨ k = 75 → gA S k = gA t k) ∧ ∀ k, k = 47 ∨ k = 76 ∨ k = 77 → gI S k = gI t k
theorem RS0_GA {t S : MS} (G : GA t) (h : RS0 t S) : GA S := GA_eq G ⟨h.2.1 39 (by omega), h.2.1 42 (by omega), h.2.1 43 (by omega), h.2.1 44 (by omega)⟩ (h.2.1 49 (by omega)) (h.2.1 75 (by omega)) (h.2.2 76 (by omega)) (h.2.2 77 (by omega))
theorem rs0_write {t S : MS} {p0 p1 : Int} (G : GA t) (h : RS0 t S) (h0 : 0 ≤ p0 ∧ p0 < 8) (hv : gA t 49 p0.toNat ≠ 255) (h1 : 0 ≤ p1 ∧ p1 ≤ 999) : pc (m_x12_laysWrites p0 p1 S) (fun o => RS0 t o) := fun o e => by
  have GS := RS0_GA G h
  have r := GA_rt G (v := p0.toNat) (by omega) hv
  have g := wp_det (w_x12_laysWrites h.1 h0 h1 GS.1 (by rw [h.2.1 49 (by omega)]; omega)) e
  have F : F_x12_laysWrites S o := fr_x12_laysWrites e
  refine ⟨g.1, fun k hk => ?_, fun k hk => (F.1 k (by simp; omega)).trans (h.2.2 k hk)⟩
  by_cases z : k = 49
  · rw [z, g.2]; exact h.2.1 49 (by omega)
  · exact (F.2.1 k (by simp; omega)).trans (h.2.1 k hk)
theorem rs0_drop {t S : MS} {p0 : Int} (G : GA t) (h : RS0 t S) (h0 : 0 ≤ p0 ∧ p0 < 8) (hv : gA t 49 p0.toNat ≠ 255) : pc (m_x12_dropsMany p0 S) (fun q => RS0 t q.2) := fun o e => by
  have GS := RS0_GA G h
  have r := GA_rt G (v := p0.toNat) (by omega) hv
  have g := wp_det (w_x12_dropsMany h.1 h0 GS.1.1.1 (by have := GS.1.2.1; omega) (by rw [h.2.1 49 (by omega)]; omega)) e
  have F : F_x12_dropsMany S o.2 := fr_x12_dropsMany e
  refine ⟨g.1, fun k hk => ?_, fun k hk => (F.1 k (by simp)).trans (h.2.2 k hk)⟩
  by_cases z : k = 49
  · rw [z, g.2.2]; exact h.2.1 49 (by omega)
  · exact (F.2.1 k (by simp; omega)).trans (h.2.1 k hk)
theorem RS0_rf {t : MS} (h : Rr t) : RS0 t t := ⟨h, fun _ _ => rfl, fun _ _ => rfl⟩
theorem mVol_y {p : Int} {t : MS} {r : Int} (e : m_x12_isVolume p t = some r) (c : ¬ r = 0) : (0 ≤ p ∧ p < 8) ∧ gI t 47 ≠ 0 ∧ gA t 49 p.toNat ≠ 255 := by
  rcases m_isVol r e with ⟨_, a⟩ | ⟨a, _⟩
  · exact a
  · exact absurd a c
theorem r49_writes {t : MS} {p0 p1 p2 : Int} (hR : Rr t) (hJ : JI t) : pc (m_x12_writes p0 p1 p2 t) (fun o => gA o.2 49 = gA t 49) := by
  unfold m_x12_writes m_x12_writes_J54 m_x12_writes_J31
  refine pc_rg (pc_bn (fun r6 e6 => pc_rg (pc_if (fun _ => pc_some rfl) (fun c1 => pc_rg (pc_bn (fun r11 e11 => pc_rg (pc_if (fun _ => pc_some rfl) (fun c2 => pc_rg (pc_bn (fun r16 _ => pc_rg (pc_if (fun _ => pc_some rfl) (fun _ => pc_bn (fun s20 e20 => ?_)))))))))))))
  have v0 := mVol_y e6 c1
  have k1 : 0 ≤ p1 ∧ p1 ≤ 999 := by
    rcases m_isIn r11 e11 with ⟨_, a⟩ | ⟨a, _⟩
    · exact a
    · exact absurd a c2
  have g := (rs0_write (JI_GA hJ v0.2.1) (RS0_rf hR) v0.1 v0.2.2 k1 s20 e20).2.1 49 (by omega)
  exact pc_rg (pc_if (fun _ => pc_some g) (fun _ => pc_some g))
theorem r49_spread {t : MS} {p0 p1 : Int} (hR : Rr t) (hJ : JI t) : pc (m_x12_spread p0 p1 t) (fun o => gA o.2 49 = gA t 49) := by
  unfold m_x12_spread m_x12_spread_J14
  refine pc_rg (pc_bn (fun r6 e6 => pc_rg (pc_if (fun _ => pc_some rfl) (fun c1 => pc_rg (pc_if (fun _ => ?_) (fun _ => pc_some rfl))))))
  have v0 := mVol_y e6 c1
  have G := JI_GA hJ v0.2.1
  have L : ∀ (n : Nat) (f i : Int) (S : MS), RS0 t S → 0 ≤ i → pc (m_x12_spread_L21 n p0 p1 f i S) (fun o => gA o.2 49 = gA t 49) := by
    refine fr_ind (fun _ _ _ _ _ => pc_none) (fun n ih f i S hS hi => ?_)
    show pc (m_x12_spread_b21 (m_x12_spread_L21 n) p0 p1 f i S) _
    unfold m_x12_spread_b21 m_x12_spread_J46
    refine pc_rg (pc_if (fun _ => pc_some (hS.2.1 49 (by omega))) (fun c => pc_bn (fun s14 e14 => ?_)))
    have g := rs0_write G hS v0.1 v0.2.2 (p1 := i) (by omega) s14 e14
    exact pc_rg (pc_rg (pc_if (fun _ => ih _ _ _ g (by omega)) (fun _ => ih _ _ _ g (by omega))))
  exact L FU 0 0 t (RS0_rf hR) (Int.le_refl 0)
theorem r49_volume {t : MS} {p0 p1 : Int} (hR : Rr t) (hJ : JI t) (h1 : R2 p1) : pc (m_x12_volume p0 p1 t) (fun o => gA o.2 49 = gA t 49) := by
  unfold m_x12_volume m_x12_volume_J72 m_x12_volume_J96
  refine pc_rg (pc_bn (fun r7 e7 => pc_rg (pc_if (fun _ => pc_some rfl) (fun c1 => pc_rdI (fun _ => pc_bn (fun s12 e12 => ?_))))))
  obtain ⟨v0, t47, n255⟩ := mVol_y e7 c1
  have G := JI_GA hJ t47
  have r := GA_rt G (v := p0.toNat) (by omega) n255
  have F : F_x12_laysTree t s12 := fr_x12_laysTree e12
  have f : gA s12 49 = gA t 49 := F.2.1 49 (by decide)
  have R12 := (wp_det (mt_laysTree hR G.1.1.1 (by show (-2147483648 : Int) ≤ _ ∧ _ ≤ (2147483647 : Int); omega) (fun h9 => by
    have z := RT_tree (u := p0.toNat) G.1.1.1 (by omega) (by omega) (by omega)
    have z2 := RT_root (u := p0.toNat) G.1.1.1 (by omega) (by omega) (by omega)
    exact ⟨by omega, z⟩)) e12).1
  have S12 : RS0 t s12 := ⟨R12, fun k hk => F.2.1 k (by simp; omega), fun k hk => F.1 k (by simp; omega)⟩
  refine pc_rg (pc_if (fun _ => pc_rg (pc_if (fun _ => pc_some f) (fun _ => pc_some f))) (fun _ => pc_if (fun _ => pc_some f) (fun _ => pc_if (fun _ => pc_rg (pc_if (fun _ => pc_some f) (fun _ => pc_bn (fun r22 _ => pc_some f)))) (fun _ => pc_if (fun _ => pc_some f) (fun _ => pc_if (fun _ => pc_bn (fun q e => pc_some ?_)) (fun _ => pc_some f))))))
  exact (rs0_drop G S12 v0 n255 q e).2.1 49 (by omega)
theorem r49_victim {t : MS} {p0 : Int} (hR : Rr t) (hJ : JI t) : pc (m_x12_victim p0 t) (fun o => gA o.2 49 = gA t 49) := by
  unfold m_x12_victim
  refine pc_rg (pc_bn (fun r _ => pc_rg (pc_if (fun _ => pc_some rfl) (fun _ => ?_))))
  have L : ∀ (n : Nat) (x3 x4 x5 x6 : Int) (S : MS), RS0 t S → pc (m_x12_victim_L19 n x3 x4 x5 x6 S) (fun o => gA o.2 49 = gA t 49) := by
    refine fr_ind (fun _ _ _ _ _ _ => pc_none) (fun n ih x3 x4 x5 x6 S hS => ?_)
    show pc (m_x12_victim_b19 (m_x12_victim_L19 n) x3 x4 x5 x6 S) _
    unfold m_x12_victim_b19 m_x12_victim_J78
    have f := hS.2.1 49 (by omega)
    have J46 : ∀ (a b c d e : Int) (X : MS), RS0 t X → pc (m_x12_victim_J46 (m_x12_victim_L19 n) a b c d e X) (fun o => gA o.2 49 = gA t 49) := fun a b c d e X hX => by
      unfold m_x12_victim_J46 m_x12_victim_J63
      exact pc_rg (pc_rg (pc_if (fun _ => ih _ _ _ _ _ hX) (fun _ => ih _ _ _ _ _ hX)))
    refine pc_rg (pc_if (fun _ => pc_rg (pc_if (fun _ => pc_some f) (fun _ => pc_some f))) (fun _ => pc_rg (pc_bn (fun r28 e28 => pc_rg (pc_if (fun _ => J46 _ _ _ _ _ S hS) (fun c => pc_bn (fun q e => J46 _ _ _ _ _ q.2 ?_)))))))
    obtain ⟨v0, t47, n255⟩ := mVol_y e28 c
    rw [f] at n255
    exact rs0_drop (JI_GA hJ (by rw [← hS.2.2 47 (by omega)]; exact t47)) hS v0 n255 q e
  exact L FU _ _ _ _ t (RS0_rf hR)
/-! see -/
theorem s_see3 {s : MS} : pc (m_x11_see s) (fun q => (q.1 = -1 ∧ gA q.2 2 = upZ (gA s 2) 1 (gA s 2 1 + 1)) ∨ (q.1 = gI q.2 220 ∧ gA q.2 2 = gA s 2)) := by
  unfold m_x11_see m_x11_see_J39
  refine pc_bn (fun q5 e5 => pc_stn (fun s6 e6 => pc_rg (pc_if (fun _ => pc_bn (fun q11 e11 => pc_some (Or.inl ?_))) (fun _ => pc_some (Or.inr ?_)))))
  · have F5 : F_x7_take s q5.2 := fr_x7_take e5
    have e : gA s6 2 = gA s 2 := (q_Ia e6 : gA s6 2 = gA q5.2 2).trans (F5.2.1 2 (by decide))
    have g1 : pc (m_x11_refuse 1 s6) (fun q => q.1 = -1) := by
      unfold m_x11_refuse
      exact pc_rdI (fun _ => pc_inb (pc_stn (fun s3 _ => pc_some rfl)))
    have u := s_rf2 q11 e11
    refine ⟨g1 q11 e11, ?_⟩
    rw [e] at u
    exact u
  · have F5 : F_x7_take s q5.2 := fr_x7_take e5
    exact ⟨rfl, (q_Ia e6 : gA s6 2 = gA q5.2 2).trans (F5.2.1 2 (by decide))⟩
theorem m_see3 {t : MS} : pc (m_x12_see t) (fun o => (o.1 = -1 ∧ gA o.2 9 = upZ (gA t 9) 1 (gA t 9 1 + 1)) ∨ (o.1 = gI o.2 73 ∧ gA o.2 9 = gA t 9)) := by
  have L121 : ∀ (n : Nat) (x1 x2 : Int) (S : MS), gA S 9 = gA t 9 → pc (m_x12_see_L121 n x1 x2 S) (fun o => (o.1 = -1 ∧ gA o.2 9 = upZ (gA t 9) 1 (gA t 9 1 + 1)) ∨ (o.1 = gI o.2 73 ∧ gA o.2 9 = gA t 9)) := by
    refine fr_ind (fun _ _ _ _ => pc_none) (fun n ih x1 x2 S h => ?_)
    show pc (m_x12_see_b121 (m_x12_see_L121 n) x1 x2 S) _
    unfold m_x12_see_b121
    exact pc_dv (pc_rg (pc_rg (pc_if (fun _ => pc_dv (pc_stn (fun s9 e9 => pc_some (Or.inr ⟨rfl, (q_Ia e9 : gA s9 9 = gA S 9).trans h⟩)))) (fun _ => pc_rdI (fun _ => pc_rdI (fun _ => pc_inb (pc_stn (fun s13 e13 => ih _ _ _ ((q_Aa e13 (by decide) : gA s13 9 = gA S 9).trans h)))))))))
  have J109 : ∀ (x14 x15 : Int) (S : MS), gA S 9 = gA t 9 → pc (m_x12_see_J109 x14 x15 S) (fun o => (o.1 = -1 ∧ gA o.2 9 = upZ (gA t 9) 1 (gA t 9 1 + 1)) ∨ (o.1 = gI o.2 73 ∧ gA o.2 9 = gA t 9)) := fun x14 x15 S h => by
    unfold m_x12_see_J109
    refine pc_rg (pc_if (fun _ => pc_bn (fun q21 e21 => pc_some (Or.inl ?_))) (fun _ => L121 _ _ _ _ h))
    have g1 : pc (m_x12_refuses 1 S) (fun q => q.1 = -1) := by
      unfold m_x12_refuses
      exact pc_rdI (fun _ => pc_inb (pc_stn (fun s3 _ => pc_some rfl)))
    have u := m_rf9 q21 e21
    rw [h] at u
    exact ⟨g1 q21 e21, u⟩
  have L36 : ∀ (n : Nat) (x22 x23 x24 : Int) (S : MS), gA S 9 = gA t 9 → pc (m_x12_see_L36 n x22 x23 x24 S) (fun o => (o.1 = -1 ∧ gA o.2 9 = upZ (gA t 9) 1 (gA t 9 1 + 1)) ∨ (o.1 = gI o.2 73 ∧ gA o.2 9 = gA t 9)) := by
    refine fr_ind (fun _ _ _ _ _ => pc_none) (fun n ih x22 x23 x24 S h => ?_)
    show pc (m_x12_see_b36 (m_x12_see_L36 n) x22 x23 x24 S) _
    unfold m_x12_see_b36 m_x12_see_J101 m_x12_see_J102
    exact pc_rg (pc_rg (pc_if (fun _ => J109 _ _ _ h) (fun _ => pc_rg (pc_if (fun _ => J109 _ _ _ h) (fun _ => pc_rdI (fun _ => pc_rdI (fun _ => pc_rg (pc_if (fun _ => ih _ _ _ _ h) (fun _ => pc_rdI (fun _ => pc_rdI (fun _ => pc_rg (pc_if (fun _ => ih _ _ _ _ h) (fun _ => ih _ _ _ _ h)))))))))))))
  unfold m_x12_see m_x12_see_J32 m_x12_see_J33
  exact pc_stn (fun s51 e51 => by
    have h : gA s51 9 = gA t 9 := q_Ia e51
    exact pc_rg (pc_if (fun _ => L36 _ _ _ _ _ h) (fun _ => pc_dv (pc_rg (pc_if (fun _ => pc_dv (pc_rg (pc_if (fun _ => L36 _ _ _ _ _ h) (fun _ => L36 _ _ _ _ _ h)))) (fun _ => L36 _ _ _ _ _ h))))))
theorem y_seeB {x t : MS} {ts : List MS} (hC : CI x ts) (hR : Rr t) (hJ : JI t) (hl : gI x 61 = gI t 1) (hT : TBJ x t) (B : BT x ts t) : pc (m_x11_see x) (fun q => pc (m_x12_see t) (fun o => q.1 = o.1 ∧ BT q.2 ts o.2)) := by
  intro q eq o eo
  have F1 : F_x11_see x q.2 := fr_x11_see eq
  have F2 : F_x12_see t o.2 := fr_x12_see eo
  have a : ZX x q.2 := ⟨fun k hk => F1.1 k (by simp; omega), fun k hk => F1.2.1 k (by simp; omega)⟩
  have b : ZY t o.2 := ⟨fun k hk => F2.1 k (by simp; omega), fun k hk => F2.2.1 k (by simp; omega), by rw [F2.2.1 39 (by decide)]⟩
  have E := see_alike hl hT (t_see1 hC.1 q eq) (t_see2 hR o eo)
  have g1 := (wp_det (c_see hC) eq).1.1.1 220
  have n1 : (0 : Int) ≤ gI q.2 220 := g1.1
  have g2 := (wp_det (w_x12_see hR hJ) eo).1.1 73
  have n2 : (0 : Int) ≤ gI o.2 73 := g2.1
  refine ⟨E, ?_⟩
  rcases s_see3 q eq with ⟨c1, c2⟩ | ⟨c1, c2⟩ <;> rcases m_see3 o eo with ⟨d1, d2⟩ | ⟨d1, d2⟩
  · exact BT_u B (p := 1) (by decide) a b (F1.1 983 (by decide)) c2 (F2.2.2.1 78 (by simp)) d2
  · exfalso; omega
  · exfalso; omega
  · exact BT_n B a b (F1.1 983 (by decide)) c2 (F2.2.2.1 78 (by simp)) d2
/-! ===== both sides together, with stores and trees ===== -/
def IvT (x : MS) (ts : List MS) (t : MS) : Prop := CI x ts ∧ (Rr t ∧ JI t) ∧ PJ x t ∧ BT x ts t
theorem PJ_ZT {x t : MS} {ts : List MS} (hC : CI x ts) (h : PJ x t) : ZT x t := fun z => ⟨ZP_of h.2.2.2 z (show (0 : Int) ≤ gI x 741 ∧ gI x 741 ≤ 1600 from hC.1.1 741).2, (h.2.2.2.2.1 z).1.2.2⟩
theorem x_feed : ∀ (x : MS) (ts : List MS) (t : MS) (p1 : Int) (p2 : Int) (p3 : Int) (p4 : Int) (p5 : Int), R2 p1 → R2 p2 → R2 p3 → R2 p4 → R2 p5 → IvT x ts t → ∃ (x1 : MS) (r : Int) (t1 : MS) (r2 : Int), m_x11_feed p1 p2 p3 p4 p5 x = some (r, x1) ∧ m_x12_feed p1 p2 p3 p4 p5 t = some (r2, t1) ∧ IvT x1 ts t1 := by
  intro x ts t p1 p2 p3 p4 p5 hp1 hp2 hp3 hp4 hp5 ⟨hC, ⟨hR, hJ⟩, hPJ, B⟩
  have hl := hPJ.2.1.1
  have r61 : (0 : Int) ≤ gI x 61 ∧ gI x 61 ≤ 1600 := hC.1.1 61
  have h47 := hPJ.2.2.2.1.1
  obtain ⟨q1, e1, g1⟩ := c_feed hC hp1 hp2 hp3 hp4 hp5
  obtain ⟨q2, e2, g2⟩ := j_feed hR hJ
  have YB := y_feedB hl B q1 e1 q2 e2
  obtain ⟨r, x1⟩ := q1
  dsimp only at g1
  obtain ⟨r2, t1⟩ := q2
  dsimp only at g2
  dsimp only at YB
  exact ⟨x1, r, t1, r2, e1, e2, ⟨g1.1, ⟨g2.1, g2.2.1⟩, PJ_g hPJ (FX_of (fr_x11_feed e1) (by decide) (by decide)) (FY_of (fr_x12_feed e2) (by decide) (by decide) (by decide) (by decide)) (⟨by have a := g1.2; have b := g2.2.2; omega, TB_feed hPJ.2.1.2 hl r61.1 (t_feed1 hC.1 _ e1) (t_feed2 hR _ e2) (by have a := g1.2; omega) (show (0 : Int) ≤ gI x1 61 ∧ gI x1 61 ≤ 1600 from g1.1.1.1 61).2⟩), YB⟩⟩
theorem x_end : ∀ (x : MS) (ts : List MS) (t : MS) (p1 : Int), R2 p1 → IvT x ts t → ∃ (x1 : MS) (r : Int) (t1 : MS) (r2 : Int), m_x11_end p1 x = some (r, x1) ∧ m_x12_end p1 t = some (r2, t1) ∧ IvT x1 ts t1 := by
  intro x ts t p1 hp1 ⟨hC, ⟨hR, hJ⟩, hPJ, B⟩
  have hl := hPJ.2.1.1
  have r61 : (0 : Int) ≤ gI x 61 ∧ gI x 61 ≤ 1600 := hC.1.1 61
  have h47 := hPJ.2.2.2.1.1
  obtain ⟨q1, e1, g1⟩ := c_end hC hp1
  obtain ⟨q2, e2, g2⟩ := j_end hR hJ hp1
  have YB := y_endB hl B q1 e1 q2 e2
  obtain ⟨r, x1⟩ := q1
  dsimp only at g1
  obtain ⟨r2, t1⟩ := q2
  dsimp only at g2
  dsimp only at YB
  exact ⟨x1, r, t1, r2, e1, e2, ⟨g1.1, ⟨g2.1, g2.2.1⟩, PJ_g hPJ (FX_of (fr_x11_end e1) (by decide) (by decide)) (FY_of (fr_x12_end e2) (by decide) (by decide) (by decide) (by decide)) (TPJ_k hPJ.2.1 (by have a := g1.2; have b := g2.2.2; omega) ((fr_x11_end e1).2.1 4 (by decide)) ((fr_x12_end e2).2.1 0 (by decide)) (by have a := g1.2; omega)), YB⟩⟩
theorem x_store : ∀ (x : MS) (ts : List MS) (t : MS), IvT x ts t → ∃ (x1 : MS) (r : Int) (t1 : MS) (r2 : Int), m_x11_store x = some (r, x1) ∧ m_x12_store t = some (r2, t1) ∧ IvT x1 ts t1 := by
  intro x ts t  ⟨hC, ⟨hR, hJ⟩, hPJ, B⟩
  have hl := hPJ.2.1.1
  have r61 : (0 : Int) ≤ gI x 61 ∧ gI x 61 ≤ 1600 := hC.1.1 61
  have h47 := hPJ.2.2.2.1.1
  obtain ⟨q1, e1, g1⟩ := c_store hC 
  obtain ⟨q2, e2, g2⟩ := w_x12_store hR  hJ
  have Y := y_store hC hR hJ hPJ q1 e1 q2 e2
  have YB := y_storeB hC hR hJ hPJ B q1 e1 q2 e2
  obtain ⟨r, x1⟩ := q1
  dsimp only at g1
  obtain ⟨r2, t1⟩ := q2
  dsimp only at g2
  dsimp only at YB
  exact ⟨x1, r, t1, r2, e1, e2, ⟨g1.1, ⟨g2.1, g2.2.1⟩, Y.2, YB⟩⟩
theorem x_fault : ∀ (x : MS) (ts : List MS) (t : MS) (p1 : Int), R2 p1 → IvT x ts t → ∃ (r : Int) (r2 : Int), m_x11_fault p1 x = some r ∧ m_x12_fault p1 t = some r2 ∧ IvT x ts t := by
  intro x ts t p1 hp1 ⟨hC, ⟨hR, hJ⟩, hPJ, B⟩
  have hl := hPJ.2.1.1
  have r61 : (0 : Int) ≤ gI x 61 ∧ gI x 61 ≤ 1600 := hC.1.1 61
  have h47 := hPJ.2.2.2.1.1
  obtain ⟨r, e1, _⟩ := w_x11_fault hC.1  hp1
  obtain ⟨r2, e2, _⟩ := w_x12_fault hR hp1
  exact ⟨r, r2, e1, e2, ⟨hC, ⟨hR, hJ⟩, hPJ, B⟩⟩
theorem x_has : ∀ (x : MS) (ts : List MS) (t : MS) (p1 : Int), R2 p1 → IvT x ts t → ∃ (r : Int) (r2 : Int), m_x11_has p1 x = some r ∧ m_x12_has p1 t = some r2 ∧ IvT x ts t := by
  intro x ts t p1 hp1 ⟨hC, ⟨hR, hJ⟩, hPJ, B⟩
  have hl := hPJ.2.1.1
  have r61 : (0 : Int) ≤ gI x 61 ∧ gI x 61 ≤ 1600 := hC.1.1 61
  have h47 := hPJ.2.2.2.1.1
  obtain ⟨r, e1, _⟩ := w_x11_has hC.1  hp1
  obtain ⟨r2, e2, _⟩ := w_x12_has hR hp1 (JI_N hJ)
  exact ⟨r, r2, e1, e2, ⟨hC, ⟨hR, hJ⟩, hPJ, B⟩⟩
theorem x_letter : ∀ (x : MS) (ts : List MS) (t : MS) (p1 : Int) (p2 : Int), R2 p1 → R2 p2 → IvT x ts t → ∃ (r : Int) (r2 : Int), m_x11_letter p1 p2 x = some r ∧ m_x12_letter p1 p2 t = some r2 ∧ IvT x ts t := by
  intro x ts t p1 p2 hp1 hp2 ⟨hC, ⟨hR, hJ⟩, hPJ, B⟩
  have hl := hPJ.2.1.1
  have r61 : (0 : Int) ≤ gI x 61 ∧ gI x 61 ≤ 1600 := hC.1.1 61
  have h47 := hPJ.2.2.2.1.1
  obtain ⟨r, e1, _⟩ := w_x11_letter hC.1  hp1 hp2
  obtain ⟨r2, e2, _⟩ := w_x12_letter hR hp1 hp2 hJ
  exact ⟨r, r2, e1, e2, ⟨hC, ⟨hR, hJ⟩, hPJ, B⟩⟩
theorem x_volume : ∀ (x : MS) (ts : List MS) (t : MS) (p1 : Int) (p2 : Int), R2 p1 → R2 p2 → IvT x ts t → ∃ (x1 : MS) (r : Int) (t1 : MS) (r2 : Int), m_x11_volume p1 p2 x = some (r, x1) ∧ m_x12_volume p1 p2 t = some (r2, t1) ∧ IvT x1 ts t1 := by
  intro x ts t p1 p2 hp1 hp2 ⟨hC, ⟨hR, hJ⟩, hPJ, B⟩
  have hl := hPJ.2.1.1
  have r61 : (0 : Int) ≤ gI x 61 ∧ gI x 61 ≤ 1600 := hC.1.1 61
  have h47 := hPJ.2.2.2.1.1
  obtain ⟨q1, e1, g1⟩ := c_volume hC hp1 hp2
  obtain ⟨q2, e2, g2⟩ := w_x12_volume hR hp1 hp2 hJ
  obtain ⟨r, x1⟩ := q1
  dsimp only at g1
  obtain ⟨r2, t1⟩ := q2
  dsimp only at g2
  have f49 := r49_volume hR hJ hp2 _ e2
  have by_ : ZY t t1 := ⟨fun k hk => (fr_x12_volume e2).1 k (by simp <;> omega), fun k hk => by rcases hk with hk | hk; exact hk ▸ f49; exact (fr_x12_volume e2).2.1 k (by simp <;> omega), by rw [(fr_x12_volume e2).2.1 39 (by decide)]⟩
  exact ⟨x1, r, t1, r2, e1, e2, ⟨g1.1, ⟨g2.1, g2.2.1⟩, PJ_g hPJ (FX_of (fr_x11_volume e1) (by decide) (by decide)) (FY_of (fr_x12_volume e2) (by decide) (by decide) (by decide) (by decide)) (TPJ_k hPJ.2.1 ((g1.2).trans (hl.trans (g2.2.2).symm)) ((fr_x11_volume e1).2.1 4 (by decide)) ((fr_x12_volume e2).2.1 0 (by decide)) (by have a := g1.2; omega)), BT_n B ⟨fun k hk => (fr_x11_volume e1).1 k (by simp <;> omega), fun k hk => (fr_x11_volume e1).2.1 k (by simp <;> omega)⟩ by_ ((fr_x11_volume e1).1 983 (by decide)) ((fr_x11_volume e1).2.1 2 (by decide)) ((fr_x12_volume e2).2.2.1 78 (by simp)) ((fr_x12_volume e2).2.1 9 (by decide))⟩⟩
theorem x_block : ∀ (x : MS) (ts : List MS) (t : MS) (p1 : Int) (p2 : Int), R2 p1 → R2 p2 → IvT x ts t → ∃ (r : Int) (r2 : Int), m_x11_block p1 p2 x = some r ∧ m_x12_block p1 p2 t = some r2 ∧ IvT x ts t := by
  intro x ts t p1 p2 hp1 hp2 ⟨hC, ⟨hR, hJ⟩, hPJ, B⟩
  have hl := hPJ.2.1.1
  have r61 : (0 : Int) ≤ gI x 61 ∧ gI x 61 ≤ 1600 := hC.1.1 61
  have h47 := hPJ.2.2.2.1.1
  obtain ⟨r, e1, _⟩ := w_x11_block hC.1  hp1 hp2
  obtain ⟨r2, e2, _⟩ := w_x12_block hR hp1 hp2 hJ
  exact ⟨r, r2, e1, e2, ⟨hC, ⟨hR, hJ⟩, hPJ, B⟩⟩
theorem x_entry : ∀ (x : MS) (ts : List MS) (t : MS) (p1 : Int) (p2 : Int) (p3 : Int), R2 p1 → R2 p2 → R2 p3 → IvT x ts t → ∃ (r : Int) (r2 : Int), m_x11_entry p1 p2 p3 x = some r ∧ m_x12_entry p1 p2 p3 t = some r2 ∧ IvT x ts t := by
  intro x ts t p1 p2 p3 hp1 hp2 hp3 ⟨hC, ⟨hR, hJ⟩, hPJ, B⟩
  have hl := hPJ.2.1.1
  have r61 : (0 : Int) ≤ gI x 61 ∧ gI x 61 ≤ 1600 := hC.1.1 61
  have h47 := hPJ.2.2.2.1.1
  obtain ⟨r, e1, _⟩ := w_x11_entry hC.1 hC.2.1.1.2.2.2 hp1 hp2 hp3
  obtain ⟨r2, e2, _⟩ := w_x12_entry hR hp1 hp2 hp3 hJ
  exact ⟨r, r2, e1, e2, ⟨hC, ⟨hR, hJ⟩, hPJ, B⟩⟩
theorem x_kept : ∀ (x : MS) (ts : List MS) (t : MS) (p1 : Int) (p2 : Int), R2 p1 → R2 p2 → IvT x ts t → ∃ (r : Int) (r2 : Int), m_x11_kept p1 p2 x = some r ∧ m_x12_kept p1 p2 t = some r2 ∧ IvT x ts t := by
  intro x ts t p1 p2 hp1 hp2 ⟨hC, ⟨hR, hJ⟩, hPJ, B⟩
  have hl := hPJ.2.1.1
  have r61 : (0 : Int) ≤ gI x 61 ∧ gI x 61 ≤ 1600 := hC.1.1 61
  have h47 := hPJ.2.2.2.1.1
  obtain ⟨r, e1, _⟩ := w_x11_kept hC.1  hp1 hp2
  obtain ⟨r2, e2, _⟩ := w_x12_kept hR hp1 hp2 hJ
  exact ⟨r, r2, e1, e2, ⟨hC, ⟨hR, hJ⟩, hPJ, B⟩⟩
theorem x_read : ∀ (x : MS) (ts : List MS) (t : MS) (p1 : Int) (p2 : Int), R2 p1 → R2 p2 → IvT x ts t → ∃ (r : Int) (r2 : Int), m_x11_read p1 p2 x = some r ∧ m_x12_read p1 p2 t = some r2 ∧ IvT x ts t := by
  intro x ts t p1 p2 hp1 hp2 ⟨hC, ⟨hR, hJ⟩, hPJ, B⟩
  have hl := hPJ.2.1.1
  have r61 : (0 : Int) ≤ gI x 61 ∧ gI x 61 ≤ 1600 := hC.1.1 61
  have h47 := hPJ.2.2.2.1.1
  obtain ⟨r, e1, _⟩ := w_x11_read hC.1 (CI_VR hC) hp1 hp2
  obtain ⟨r2, e2, _⟩ := w_x12_read hR hp1 hp2 hJ
  exact ⟨r, r2, e1, e2, ⟨hC, ⟨hR, hJ⟩, hPJ, B⟩⟩
theorem x_key : ∀ (x : MS) (ts : List MS) (t : MS) (p1 : Int) (p2 : Int), R2 p1 → R2 p2 → IvT x ts t → ∃ (x1 : MS) (r : Int) (t1 : MS) (r2 : Int), m_x11_key p1 p2 x = some (r, x1) ∧ m_x12_key p1 p2 t = some (r2, t1) ∧ IvT x1 ts t1 := by
  intro x ts t p1 p2 hp1 hp2 ⟨hC, ⟨hR, hJ⟩, hPJ, B⟩
  have hl := hPJ.2.1.1
  have r61 : (0 : Int) ≤ gI x 61 ∧ gI x 61 ≤ 1600 := hC.1.1 61
  have h47 := hPJ.2.2.2.1.1
  obtain ⟨q1, e1, g1⟩ := c_key hC hp1 hp2
  obtain ⟨q2, e2, g2⟩ := w_x12_key hR hp1 hp2 hJ
  obtain ⟨r, x1⟩ := q1
  dsimp only at g1
  obtain ⟨r2, t1⟩ := q2
  dsimp only at g2
  exact ⟨x1, r, t1, r2, e1, e2, ⟨g1.1, ⟨g2.1, g2.2.1⟩, PJ_g hPJ (FX_of (fr_x11_key e1) (by decide) (by decide)) (FY_of (fr_x12_key e2) (by decide) (by decide) (by decide) (by decide)) (TPJ_k hPJ.2.1 ((g1.2).trans (hl.trans (g2.2.2).symm)) ((fr_x11_key e1).2.1 4 (by decide)) ((fr_x12_key e2).2.1 0 (by decide)) (by have a := g1.2; omega)), BT_n B ⟨fun k hk => (fr_x11_key e1).1 k (by simp <;> omega), fun k hk => (fr_x11_key e1).2.1 k (by simp <;> omega)⟩ ⟨fun k hk => (fr_x12_key e2).1 k (by simp <;> omega), fun k hk => (fr_x12_key e2).2.1 k (by simp <;> omega), by rw [(fr_x12_key e2).2.1 39 (by decide)]⟩ ((fr_x11_key e1).1 983 (by decide)) ((fr_x11_key e1).2.1 2 (by decide)) ((fr_x12_key e2).2.2.1 78 (by simp)) ((fr_x12_key e2).2.1 9 (by decide))⟩⟩
theorem x_total : ∀ (x : MS) (ts : List MS) (t : MS) (p1 : Int) (p2 : Int) (p3 : Int), R2 p1 → R2 p2 → R2 p3 → IvT x ts t → ∃ (x1 : MS) (r : Int) (t1 : MS) (r2 : Int), m_x11_total p1 p2 p3 x = some (r, x1) ∧ m_x12_total p1 p2 p3 t = some (r2, t1) ∧ IvT x1 ts t1 := by
  intro x ts t p1 p2 p3 hp1 hp2 hp3 ⟨hC, ⟨hR, hJ⟩, hPJ, B⟩
  have hl := hPJ.2.1.1
  have r61 : (0 : Int) ≤ gI x 61 ∧ gI x 61 ≤ 1600 := hC.1.1 61
  have h47 := hPJ.2.2.2.1.1
  obtain ⟨q1, e1, g1⟩ := c_total hC hp1 hp2 hp3
  obtain ⟨q2, e2, g2⟩ := w_x12_total hR hp1 hp2 hp3 hJ
  obtain ⟨r, x1⟩ := q1
  dsimp only at g1
  obtain ⟨r2, t1⟩ := q2
  dsimp only at g2
  exact ⟨x1, r, t1, r2, e1, e2, ⟨g1.1, ⟨g2.1, g2.2.1⟩, PJ_g hPJ (FX_of (fr_x11_total e1) (by decide) (by decide)) (FY_of (fr_x12_total e2) (by decide) (by decide) (by decide) (by decide)) (TPJ_k hPJ.2.1 ((g1.2).trans (hl.trans (g2.2.2).symm)) ((fr_x11_total e1).2.1 4 (by decide)) ((fr_x12_total e2).2.1 0 (by decide)) (by have a := g1.2; omega)), BT_n B ⟨fun k hk => (fr_x11_total e1).1 k (by simp <;> omega), fun k hk => (fr_x11_total e1).2.1 k (by simp <;> omega)⟩ ⟨fun k hk => (fr_x12_total e2).1 k (by simp <;> omega), fun k hk => (fr_x12_total e2).2.1 k (by simp <;> omega), by rw [(fr_x12_total e2).2.1 39 (by decide)]⟩ ((fr_x11_total e1).1 983 (by decide)) ((fr_x11_total e1).2.1 2 (by decide)) ((fr_x12_total e2).2.2.1 78 (by simp)) ((fr_x12_total e2).2.1 9 (by decide))⟩⟩
theorem x_path : ∀ (x : MS) (ts : List MS) (t : MS) (p1 : Int) (p2 : Int) (p3 : Int), R2 p1 → R2 p2 → R2 p3 → IvT x ts t → ∃ (r : Int) (r2 : Int), m_x11_path p1 p2 p3 x = some r ∧ m_x12_path p1 p2 p3 t = some r2 ∧ IvT x ts t := by
  intro x ts t p1 p2 p3 hp1 hp2 hp3 ⟨hC, ⟨hR, hJ⟩, hPJ, B⟩
  have hl := hPJ.2.1.1
  have r61 : (0 : Int) ≤ gI x 61 ∧ gI x 61 ≤ 1600 := hC.1.1 61
  have h47 := hPJ.2.2.2.1.1
  obtain ⟨r, e1, _⟩ := w_x11_path hC.1 (CI_VR hC) hp1 hp2 hp3
  obtain ⟨r2, e2, _⟩ := w_x12_path hR hp1 hp2 hp3 hJ
  exact ⟨r, r2, e1, e2, ⟨hC, ⟨hR, hJ⟩, hPJ, B⟩⟩
theorem x_shared : ∀ (x : MS) (ts : List MS) (t : MS) (p1 : Int) (p2 : Int), R2 p1 → R2 p2 → IvT x ts t → ∃ (x1 : MS) (r : Int) (t1 : MS) (r2 : Int), m_x11_shared p1 p2 x = some (r, x1) ∧ m_x12_shared p1 p2 t = some (r2, t1) ∧ IvT x1 ts t1 := by
  intro x ts t p1 p2 hp1 hp2 ⟨hC, ⟨hR, hJ⟩, hPJ, B⟩
  have hl := hPJ.2.1.1
  have r61 : (0 : Int) ≤ gI x 61 ∧ gI x 61 ≤ 1600 := hC.1.1 61
  have h47 := hPJ.2.2.2.1.1
  obtain ⟨q1, e1, g1⟩ := c_shared hC hp1 hp2
  obtain ⟨q2, e2, g2⟩ := w_x12_shared hR hp1 hp2 hJ
  obtain ⟨r, x1⟩ := q1
  dsimp only at g1
  obtain ⟨r2, t1⟩ := q2
  dsimp only at g2
  exact ⟨x1, r, t1, r2, e1, e2, ⟨g1.1, ⟨g2.1, g2.2.1⟩, PJ_g hPJ (FX_of (fr_x11_shared e1) (by decide) (by decide)) (FY_of (fr_x12_shared e2) (by decide) (by decide) (by decide) (by decide)) (TPJ_k hPJ.2.1 ((g1.2).trans (hl.trans (g2.2.2).symm)) ((fr_x11_shared e1).2.1 4 (by decide)) ((fr_x12_shared e2).2.1 0 (by decide)) (by have a := g1.2; omega)), BT_n B ⟨fun k hk => (fr_x11_shared e1).1 k (by simp <;> omega), fun k hk => (fr_x11_shared e1).2.1 k (by simp <;> omega)⟩ ⟨fun k hk => (fr_x12_shared e2).1 k (by simp <;> omega), fun k hk => (fr_x12_shared e2).2.1 k (by simp <;> omega), by rw [(fr_x12_shared e2).2.1 39 (by decide)]⟩ ((fr_x11_shared e1).1 983 (by decide)) ((fr_x11_shared e1).2.1 2 (by decide)) ((fr_x12_shared e2).2.2.1 78 (by simp)) ((fr_x12_shared e2).2.1 9 (by decide))⟩⟩
theorem x_differs : ∀ (x : MS) (ts : List MS) (t : MS) (p1 : Int) (p2 : Int) (p3 : Int), R2 p1 → R2 p2 → R2 p3 → IvT x ts t → ∃ (x1 : MS) (r : Int) (r2 : Int), m_x11_differs p1 p2 p3 x = some (r, x1) ∧ m_x12_differs p1 p2 p3 t = some r2 ∧ IvT x1 ts t := by
  intro x ts t p1 p2 p3 hp1 hp2 hp3 ⟨hC, ⟨hR, hJ⟩, hPJ, B⟩
  have hl := hPJ.2.1.1
  have r61 : (0 : Int) ≤ gI x 61 ∧ gI x 61 ≤ 1600 := hC.1.1 61
  have h47 := hPJ.2.2.2.1.1
  obtain ⟨q1, e1, g1⟩ := c_differs hC hp1 hp2 hp3
  obtain ⟨r2, e2, _⟩ := w_x12_differs hR hp1 hp2 hp3 hJ
  obtain ⟨r, x1⟩ := q1
  dsimp only at g1
  exact ⟨x1, r, r2, e1, e2, ⟨g1.1, ⟨hR, hJ⟩, PJ_g hPJ (FX_of (fr_x11_differs e1) (by decide) (by decide)) (FY.rf t) (TPJ_k hPJ.2.1 (g1.2.trans hl) ((fr_x11_differs e1).2.1 4 (by decide)) (rfl) (by have a := g1.2; omega)), BT_n B ⟨fun k hk => (fr_x11_differs e1).1 k (by simp <;> omega), fun k hk => (fr_x11_differs e1).2.1 k (by simp <;> omega)⟩ (ZY_rf t) ((fr_x11_differs e1).1 983 (by decide)) ((fr_x11_differs e1).2.1 2 (by decide)) rfl rfl⟩⟩
theorem x_writes : ∀ (x : MS) (ts : List MS) (t : MS) (p1 : Int) (p2 : Int) (p3 : Int), R2 p1 → R2 p2 → R2 p3 → IvT x ts t → ∃ (x1 : MS) (r : Int) (t1 : MS) (r2 : Int), m_x11_writes p1 p2 p3 x = some (r, x1) ∧ m_x12_writes p1 p2 p3 t = some (r2, t1) ∧ IvT x1 ts t1 := by
  intro x ts t p1 p2 p3 hp1 hp2 hp3 ⟨hC, ⟨hR, hJ⟩, hPJ, B⟩
  have hl := hPJ.2.1.1
  have r61 : (0 : Int) ≤ gI x 61 ∧ gI x 61 ≤ 1600 := hC.1.1 61
  have h47 := hPJ.2.2.2.1.1
  obtain ⟨q1, e1, g1⟩ := c_writes hC hp1 hp2 hp3
  obtain ⟨q2, e2, g2⟩ := w_x12_writes hR hp1 hp2 hp3 hJ
  obtain ⟨r, x1⟩ := q1
  dsimp only at g1
  obtain ⟨r2, t1⟩ := q2
  dsimp only at g2
  have f49 := r49_writes hR hJ _ e2
  have by_ : ZY t t1 := ⟨fun k hk => (fr_x12_writes e2).1 k (by simp <;> omega), fun k hk => by rcases hk with hk | hk; exact hk ▸ f49; exact (fr_x12_writes e2).2.1 k (by simp <;> omega), by rw [(fr_x12_writes e2).2.1 39 (by decide)]⟩
  exact ⟨x1, r, t1, r2, e1, e2, ⟨g1.1, ⟨g2.1, g2.2.1⟩, PJ_g hPJ (FX_of (fr_x11_writes e1) (by decide) (by decide)) (FY_of (fr_x12_writes e2) (by decide) (by decide) (by decide) (by decide)) (TPJ_k hPJ.2.1 ((g1.2).trans (hl.trans (g2.2.2).symm)) ((fr_x11_writes e1).2.1 4 (by decide)) ((fr_x12_writes e2).2.1 0 (by decide)) (by have a := g1.2; omega)), BT_c hJ h47 B (z_writes hC _ e1) by_ ((fr_x12_writes e2).2.2.1 78 (by simp)) ((fr_x12_writes e2).2.1 9 (by decide))⟩⟩
theorem x_spread : ∀ (x : MS) (ts : List MS) (t : MS) (p1 : Int) (p2 : Int), R2 p1 → R2 p2 → IvT x ts t → ∃ (x1 : MS) (r : Int) (t1 : MS) (r2 : Int), m_x11_spread p1 p2 x = some (r, x1) ∧ m_x12_spread p1 p2 t = some (r2, t1) ∧ IvT x1 ts t1 := by
  intro x ts t p1 p2 hp1 hp2 ⟨hC, ⟨hR, hJ⟩, hPJ, B⟩
  have hl := hPJ.2.1.1
  have r61 : (0 : Int) ≤ gI x 61 ∧ gI x 61 ≤ 1600 := hC.1.1 61
  have h47 := hPJ.2.2.2.1.1
  have hZ := PJ_ZT hC hPJ
  obtain ⟨q1, e1, g1⟩ := c_spread hC hp1 hp2
  obtain ⟨q2, e2, g2⟩ := w_x12_spread hR hp1 hp2 hJ
  obtain ⟨r, x1⟩ := q1
  dsimp only at g1
  obtain ⟨r2, t1⟩ := q2
  dsimp only at g2
  have f49 := r49_spread hR hJ _ e2
  have by_ : ZY t t1 := ⟨fun k hk => (fr_x12_spread e2).1 k (by simp <;> omega), fun k hk => by rcases hk with hk | hk; exact hk ▸ f49; exact (fr_x12_spread e2).2.1 k (by simp <;> omega), by rw [(fr_x12_spread e2).2.1 39 (by decide)]⟩
  exact ⟨x1, r, t1, r2, e1, e2, ⟨g1.1, ⟨g2.1, g2.2.1⟩, PJ_g hPJ (FX_of (fr_x11_spread e1) (by decide) (by decide)) (FY_of (fr_x12_spread e2) (by decide) (by decide) (by decide) (by decide)) (TPJ_k hPJ.2.1 ((g1.2).trans (hl.trans (g2.2.2).symm)) ((fr_x11_spread e1).2.1 4 (by decide)) ((fr_x12_spread e2).2.1 0 (by decide)) (by have a := g1.2; omega)), BT_c hJ h47 B (z_spread hC _ e1) by_ ((fr_x12_spread e2).2.2.1 78 (by simp)) ((fr_x12_spread e2).2.1 9 (by decide))⟩⟩
theorem x_lost : ∀ (x : MS) (ts : List MS) (t : MS) (p1 : Int), R2 p1 → IvT x ts t → ∃ (x1 : MS) (r : Int) (t1 : MS) (r2 : Int), m_x11_lost p1 x = some (r, x1) ∧ m_x12_lost p1 t = some (r2, t1) ∧ IvT x1 ts t1 := by
  intro x ts t p1 hp1 ⟨hC, ⟨hR, hJ⟩, hPJ, B⟩
  have hl := hPJ.2.1.1
  have r61 : (0 : Int) ≤ gI x 61 ∧ gI x 61 ≤ 1600 := hC.1.1 61
  have h47 := hPJ.2.2.2.1.1
  obtain ⟨q1, e1, g1⟩ := c_lost hC hp1
  obtain ⟨q2, e2, g2⟩ := w_x12_lost hR hp1 hJ
  obtain ⟨r, x1⟩ := q1
  dsimp only at g1
  obtain ⟨r2, t1⟩ := q2
  dsimp only at g2
  exact ⟨x1, r, t1, r2, e1, e2, ⟨g1.1, ⟨g2.1, g2.2.1⟩, PJ_g hPJ (FX_of (fr_x11_lost e1) (by decide) (by decide)) (FY_of (fr_x12_lost e2) (by decide) (by decide) (by decide) (by decide)) (TPJ_k hPJ.2.1 ((g1.2).trans (hl.trans (g2.2.2).symm)) ((fr_x11_lost e1).2.1 4 (by decide)) ((fr_x12_lost e2).2.1 0 (by decide)) (by have a := g1.2; omega)), BT_n B ⟨fun k hk => (fr_x11_lost e1).1 k (by simp <;> omega), fun k hk => (fr_x11_lost e1).2.1 k (by simp <;> omega)⟩ ⟨fun k hk => (fr_x12_lost e2).1 k (by simp <;> omega), fun k hk => (fr_x12_lost e2).2.1 k (by simp <;> omega), by rw [(fr_x12_lost e2).2.1 39 (by decide)]⟩ ((fr_x11_lost e1).1 983 (by decide)) ((fr_x11_lost e1).2.1 2 (by decide)) ((fr_x12_lost e2).2.2.1 78 (by simp)) ((fr_x12_lost e2).2.1 9 (by decide))⟩⟩
theorem x_worst : ∀ (x : MS) (ts : List MS) (t : MS) (p1 : Int), R2 p1 → IvT x ts t → ∃ (x1 : MS) (r : Int) (t1 : MS) (r2 : Int), m_x11_worst p1 x = some (r, x1) ∧ m_x12_worst p1 t = some (r2, t1) ∧ IvT x1 ts t1 := by
  intro x ts t p1 hp1 ⟨hC, ⟨hR, hJ⟩, hPJ, B⟩
  have hl := hPJ.2.1.1
  have r61 : (0 : Int) ≤ gI x 61 ∧ gI x 61 ≤ 1600 := hC.1.1 61
  have h47 := hPJ.2.2.2.1.1
  obtain ⟨q1, e1, g1⟩ := c_worst hC hp1
  obtain ⟨q2, e2, g2⟩ := w_x12_worst hR hp1 hJ
  obtain ⟨r, x1⟩ := q1
  dsimp only at g1
  obtain ⟨r2, t1⟩ := q2
  dsimp only at g2
  exact ⟨x1, r, t1, r2, e1, e2, ⟨g1.1, ⟨g2.1, g2.2.1⟩, PJ_g hPJ (FX_of (fr_x11_worst e1) (by decide) (by decide)) (FY_of (fr_x12_worst e2) (by decide) (by decide) (by decide) (by decide)) (TPJ_k hPJ.2.1 ((g1.2).trans (hl.trans (g2.2.2).symm)) ((fr_x11_worst e1).2.1 4 (by decide)) ((fr_x12_worst e2).2.1 0 (by decide)) (by have a := g1.2; omega)), BT_n B ⟨fun k hk => (fr_x11_worst e1).1 k (by simp <;> omega), fun k hk => (fr_x11_worst e1).2.1 k (by simp <;> omega)⟩ ⟨fun k hk => (fr_x12_worst e2).1 k (by simp <;> omega), fun k hk => (fr_x12_worst e2).2.1 k (by simp <;> omega), by rw [(fr_x12_worst e2).2.1 39 (by decide)]⟩ ((fr_x11_worst e1).1 983 (by decide)) ((fr_x11_worst e1).2.1 2 (by decide)) ((fr_x12_worst e2).2.2.1 78 (by simp)) ((fr_x12_worst e2).2.1 9 (by decide))⟩⟩
theorem x_victim : ∀ (x : MS) (ts : List MS) (t : MS) (p1 : Int), R2 p1 → IvT x ts t → ∃ (x1 : MS) (r : Int) (t1 : MS) (r2 : Int), m_x11_victim p1 x = some (r, x1) ∧ m_x12_victim p1 t = some (r2, t1) ∧ IvT x1 ts t1 := by
  intro x ts t p1 hp1 ⟨hC, ⟨hR, hJ⟩, hPJ, B⟩
  have hl := hPJ.2.1.1
  have r61 : (0 : Int) ≤ gI x 61 ∧ gI x 61 ≤ 1600 := hC.1.1 61
  have h47 := hPJ.2.2.2.1.1
  have hZ := PJ_ZT hC hPJ
  obtain ⟨q1, e1, g1⟩ := c_victim hC hp1
  obtain ⟨q2, e2, g2⟩ := w_x12_victim hR hp1 hJ
  obtain ⟨r, x1⟩ := q1
  dsimp only at g1
  obtain ⟨r2, t1⟩ := q2
  dsimp only at g2
  have f49 := r49_victim hR hJ _ e2
  have by_ : ZY t t1 := ⟨fun k hk => (fr_x12_victim e2).1 k (by simp <;> omega), fun k hk => by rcases hk with hk | hk; exact hk ▸ f49; exact (fr_x12_victim e2).2.1 k (by simp <;> omega), by rw [(fr_x12_victim e2).2.1 39 (by decide)]⟩
  exact ⟨x1, r, t1, r2, e1, e2, ⟨g1.1, ⟨g2.1, g2.2.1⟩, PJ_g hPJ (FX_of (fr_x11_victim e1) (by decide) (by decide)) (FY_of (fr_x12_victim e2) (by decide) (by decide) (by decide) (by decide)) (TPJ_k hPJ.2.1 ((g1.2).trans (hl.trans (g2.2.2).symm)) ((fr_x11_victim e1).2.1 4 (by decide)) ((fr_x12_victim e2).2.1 0 (by decide)) (by have a := g1.2; omega)), BT_n B ⟨fun k hk => (fr_x11_victim e1).1 k (by simp <;> omega), fun k hk => (fr_x11_victim e1).2.1 k (by simp <;> omega)⟩ by_ ((fr_x11_victim e1).1 983 (by decide)) ((fr_x11_victim e1).2.1 2 (by decide)) ((fr_x12_victim e2).2.2.1 78 (by simp)) ((fr_x12_victim e2).2.1 9 (by decide))⟩⟩
theorem x_room : ∀ (x : MS) (ts : List MS) (t : MS) (p1 : Int), R2 p1 → IvT x ts t → ∃ (r : Int) (r2 : Int), m_x11_room p1 x = some r ∧ m_x12_room p1 t = some r2 ∧ IvT x ts t := by
  intro x ts t p1 hp1 ⟨hC, ⟨hR, hJ⟩, hPJ, B⟩
  have hl := hPJ.2.1.1
  have r61 : (0 : Int) ≤ gI x 61 ∧ gI x 61 ≤ 1600 := hC.1.1 61
  have h47 := hPJ.2.2.2.1.1
  obtain ⟨r, e1, _⟩ := w_x11_room hC.1  hp1
  obtain ⟨r2, e2, _⟩ := w_x12_room hR hp1 hJ
  exact ⟨r, r2, e1, e2, ⟨hC, ⟨hR, hJ⟩, hPJ, B⟩⟩
theorem x_back : ∀ (x : MS) (ts : List MS) (t : MS) (p1 : Int), R2 p1 → IvT x ts t → ∃ (x1 : MS) (r : Int) (r2 : Int), m_x11_back p1 x = some (r, x1) ∧ m_x12_back p1 t = some r2 ∧ IvT x1 ts t := by
  intro x ts t p1 hp1 ⟨hC, ⟨hR, hJ⟩, hPJ, B⟩
  have hl := hPJ.2.1.1
  have r61 : (0 : Int) ≤ gI x 61 ∧ gI x 61 ≤ 1600 := hC.1.1 61
  have h47 := hPJ.2.2.2.1.1
  obtain ⟨q1, e1, g1⟩ := c_back hC hp1
  obtain ⟨r2, e2, _⟩ := w_x12_back hR hp1 hJ
  obtain ⟨r, x1⟩ := q1
  dsimp only at g1
  exact ⟨x1, r, r2, e1, e2, ⟨g1.1, ⟨hR, hJ⟩, PJ_g hPJ (FX_of (fr_x11_back e1) (by decide) (by decide)) (FY.rf t) (TPJ_k hPJ.2.1 (g1.2.trans hl) ((fr_x11_back e1).2.1 4 (by decide)) (rfl) (by have a := g1.2; omega)), BT_n B ⟨fun k hk => (fr_x11_back e1).1 k (by simp <;> omega), fun k hk => (fr_x11_back e1).2.1 k (by simp <;> omega)⟩ (ZY_rf t) ((fr_x11_back e1).1 983 (by decide)) ((fr_x11_back e1).2.1 2 (by decide)) rfl rfl⟩⟩
theorem x_see : ∀ (x : MS) (ts : List MS) (t : MS), IvT x ts t → ∃ (x1 : MS) (r : Int) (t1 : MS) (r2 : Int), m_x11_see x = some (r, x1) ∧ m_x12_see t = some (r2, t1) ∧ IvT x1 ts t1 := by
  intro x ts t  ⟨hC, ⟨hR, hJ⟩, hPJ, B⟩
  have hl := hPJ.2.1.1
  have r61 : (0 : Int) ≤ gI x 61 ∧ gI x 61 ≤ 1600 := hC.1.1 61
  have h47 := hPJ.2.2.2.1.1
  obtain ⟨q1, e1, g1⟩ := c_see hC 
  obtain ⟨q2, e2, g2⟩ := w_x12_see hR  hJ
  have YB := y_seeB hC hR hJ hl hPJ.2.1.2 B q1 e1 q2 e2
  obtain ⟨r, x1⟩ := q1
  dsimp only at g1
  obtain ⟨r2, t1⟩ := q2
  dsimp only at g2
  dsimp only at YB
  exact ⟨x1, r, t1, r2, e1, e2, ⟨g1.1, ⟨g2.1, g2.2.1⟩, PJ_g hPJ (FX_of (fr_x11_see e1) (by decide) (by decide)) (FY_of (fr_x12_see e2) (by decide) (by decide) (by decide) (by decide)) (TPJ_0 g1.2 g2.2.2), YB.2⟩⟩
theorem x_fits : ∀ (x : MS) (ts : List MS) (t : MS) (p1 : Int), R2 p1 → IvT x ts t → ∃ (x1 : MS) (r : Int) (r2 : Int), m_x11_fits p1 x = some (r, x1) ∧ m_x12_fits p1 t = some r2 ∧ IvT x1 ts t := by
  intro x ts t p1 hp1 ⟨hC, ⟨hR, hJ⟩, hPJ, B⟩
  have hl := hPJ.2.1.1
  have r61 : (0 : Int) ≤ gI x 61 ∧ gI x 61 ≤ 1600 := hC.1.1 61
  have h47 := hPJ.2.2.2.1.1
  obtain ⟨q1, e1, g1⟩ := c_fits hC hp1
  obtain ⟨r2, e2, _⟩ := w_x12_fits hR hp1 hJ
  obtain ⟨r, x1⟩ := q1
  dsimp only at g1
  exact ⟨x1, r, r2, e1, e2, ⟨g1.1, ⟨hR, hJ⟩, PJ_g hPJ (FX_of (fr_x11_fits e1) (by decide) (by decide)) (FY.rf t) (TPJ_k hPJ.2.1 (g1.2.trans hl) ((fr_x11_fits e1).2.1 4 (by decide)) (rfl) (by have a := g1.2; omega)), BT_n B ⟨fun k hk => (fr_x11_fits e1).1 k (by simp <;> omega), fun k hk => (fr_x11_fits e1).2.1 k (by simp <;> omega)⟩ (ZY_rf t) ((fr_x11_fits e1).1 983 (by decide)) ((fr_x11_fits e1).2.1 2 (by decide)) rfl rfl⟩⟩
theorem x_tells : ∀ (x : MS) (ts : List MS) (t : MS) (p1 : Int), R2 p1 → IvT x ts t → ∃ (x1 : MS) (r : Int) (r2 : Int), m_x11_tells p1 x = some (r, x1) ∧ m_x12_tells p1 t = some r2 ∧ IvT x1 ts t := by
  intro x ts t p1 hp1 ⟨hC, ⟨hR, hJ⟩, hPJ, B⟩
  have hl := hPJ.2.1.1
  have r61 : (0 : Int) ≤ gI x 61 ∧ gI x 61 ≤ 1600 := hC.1.1 61
  have h47 := hPJ.2.2.2.1.1
  obtain ⟨q1, e1, g1⟩ := c_tells hC hp1
  obtain ⟨r2, e2, _⟩ := w_x12_tells hR hp1 hJ
  obtain ⟨r, x1⟩ := q1
  dsimp only at g1
  exact ⟨x1, r, r2, e1, e2, ⟨g1.1, ⟨hR, hJ⟩, PJ_g hPJ (FX_of (fr_x11_tells e1) (by decide) (by decide)) (FY.rf t) (TPJ_k hPJ.2.1 (g1.2.trans hl) ((fr_x11_tells e1).2.1 4 (by decide)) (rfl) (by have a := g1.2; omega)), BT_n B ⟨fun k hk => (fr_x11_tells e1).1 k (by simp <;> omega), fun k hk => (fr_x11_tells e1).2.1 k (by simp <;> omega)⟩ (ZY_rf t) ((fr_x11_tells e1).1 983 (by decide)) ((fr_x11_tells e1).2.1 2 (by decide)) rfl rfl⟩⟩
theorem x_put : ∀ (x : MS) (ts : List MS) (t : MS) (p1 : Int) (p2 : Int) (p3 : Int), R2 p1 → R2 p2 → R2 p3 → IvT x ts t → ∃ (x1 : MS) (ts1 : List MS) (r : Int) (t1 : MS) (r2 : Int), m_x11_put ts p1 p2 p3 x = some (r, x1, ts1) ∧ m_x12_put p1 p2 p3 t = some (r2, t1) ∧ IvT x1 ts1 t1 := by
  intro x ts t p1 p2 p3 hp1 hp2 hp3 ⟨hC, ⟨hR, hJ⟩, hPJ, B⟩
  have hl := hPJ.2.1.1
  have r61 : (0 : Int) ≤ gI x 61 ∧ gI x 61 ≤ 1600 := hC.1.1 61
  have h47 := hPJ.2.2.2.1.1
  have hZ := PJ_ZT hC hPJ
  obtain ⟨q1, e1, g1⟩ := c_put hC hp1 hp2 hp3
  obtain ⟨q2, e2, g2⟩ := w_x12_put hR hp1 hp2 hp3 hJ
  have YB := y_putA hC hR hJ B h47 hZ hp2 hp3 q1 e1 q2 e2
  obtain ⟨r, x1, ts1⟩ := q1
  dsimp only at g1
  obtain ⟨r2, t1⟩ := q2
  dsimp only at g2
  dsimp only at YB
  exact ⟨x1, ts1, r, t1, r2, e1, e2, ⟨g1.1, ⟨g2.1, g2.2.1⟩, PJ_g hPJ (FX_FA (fa_put _ e1)) (FY_of (fr_x12_put e2) (by decide) (by decide) (by decide) (by decide)) (TPJ_k hPJ.2.1 ((g1.2).trans (hl.trans (g2.2.2).symm)) ((fa_put _ e1).2 4 (by decide) (by decide) (by decide) (by decide) (by decide)) ((fr_x12_put e2).2.1 0 (by decide)) (by have a := g1.2; omega)), YB.2⟩⟩
theorem x_remove : ∀ (x : MS) (ts : List MS) (t : MS) (p1 : Int) (p2 : Int), R2 p1 → R2 p2 → IvT x ts t → ∃ (x1 : MS) (ts1 : List MS) (r : Int) (t1 : MS) (r2 : Int), m_x11_remove ts p1 p2 x = some (r, x1, ts1) ∧ m_x12_remove p1 p2 t = some (r2, t1) ∧ r = r2 ∧ IvT x1 ts1 t1 := by
  intro x ts t p1 p2 hp1 hp2 ⟨hC, ⟨hR, hJ⟩, hPJ, B⟩
  have hl := hPJ.2.1.1
  have r61 : (0 : Int) ≤ gI x 61 ∧ gI x 61 ≤ 1600 := hC.1.1 61
  have h47 := hPJ.2.2.2.1.1
  have hZ := PJ_ZT hC hPJ
  obtain ⟨q1, e1, g1⟩ := c_remove hC hp1 hp2
  obtain ⟨q2, e2, g2⟩ := w_x12_remove hR hp1 hp2 hJ
  have YB := y_removeA hC hR hJ B h47 hZ hp2 q1 e1 q2 e2
  obtain ⟨r, x1, ts1⟩ := q1
  dsimp only at g1
  obtain ⟨r2, t1⟩ := q2
  dsimp only at g2
  dsimp only at YB
  exact ⟨x1, ts1, r, t1, r2, e1, e2, YB.1, ⟨g1.1, ⟨g2.1, g2.2.1⟩, PJ_g hPJ (FX_FA (fa_remove _ e1)) (FY_of (fr_x12_remove e2) (by decide) (by decide) (by decide) (by decide)) (TPJ_k hPJ.2.1 ((g1.2).trans (hl.trans (g2.2.2).symm)) ((fa_remove _ e1).2 4 (by decide) (by decide) (by decide) (by decide) (by decide)) ((fr_x12_remove e2).2.1 0 (by decide)) (by have a := g1.2; omega)), YB.2⟩⟩
theorem x_copy : ∀ (x : MS) (ts : List MS) (t : MS) (p1 : Int), R2 p1 → IvT x ts t → ∃ (x1 : MS) (ts1 : List MS) (r : Int) (t1 : MS) (r2 : Int), m_x11_copy ts p1 x = some (r, x1, ts1) ∧ m_x12_copy p1 t = some (r2, t1) ∧ IvT x1 ts1 t1 := by
  intro x ts t p1 hp1 ⟨hC, ⟨hR, hJ⟩, hPJ, B⟩
  have hl := hPJ.2.1.1
  have r61 : (0 : Int) ≤ gI x 61 ∧ gI x 61 ≤ 1600 := hC.1.1 61
  have h47 := hPJ.2.2.2.1.1
  have hZ := PJ_ZT hC hPJ
  obtain ⟨q1, e1, g1⟩ := c_copy hC hp1
  obtain ⟨q2, e2, g2⟩ := w_x12_copy hR hp1 hJ
  have YB := y_copy hC hR hJ B h47 hZ q1 e1 q2 e2
  obtain ⟨r, x1, ts1⟩ := q1
  dsimp only at g1
  obtain ⟨r2, t1⟩ := q2
  dsimp only at g2
  dsimp only at YB
  exact ⟨x1, ts1, r, t1, r2, e1, e2, ⟨g1.1, ⟨g2.1, g2.2.1⟩, PJ_g hPJ (FX_FA (fa_copy _ e1)) (FY_of (fr_x12_copy e2) (by decide) (by decide) (by decide) (by decide)) (TPJ_k hPJ.2.1 ((g1.2).trans (hl.trans (g2.2.2).symm)) ((fa_copy _ e1).2 4 (by decide) (by decide) (by decide) (by decide) (by decide)) ((fr_x12_copy e2).2.1 0 (by decide)) (by have a := g1.2; omega)), YB.2⟩⟩
theorem x_drop : ∀ (x : MS) (ts : List MS) (t : MS) (p1 : Int), R2 p1 → IvT x ts t → ∃ (x1 : MS) (ts1 : List MS) (r : Int) (t1 : MS) (r2 : Int), m_x11_drop ts p1 x = some (r, x1, ts1) ∧ m_x12_drop p1 t = some (r2, t1) ∧ IvT x1 ts1 t1 := by
  intro x ts t p1 hp1 ⟨hC, ⟨hR, hJ⟩, hPJ, B⟩
  have hl := hPJ.2.1.1
  have r61 : (0 : Int) ≤ gI x 61 ∧ gI x 61 ≤ 1600 := hC.1.1 61
  have h47 := hPJ.2.2.2.1.1
  have hZ := PJ_ZT hC hPJ
  obtain ⟨q1, e1, g1⟩ := c_drop hC hp1
  obtain ⟨q2, e2, g2⟩ := w_x12_drop hR hp1 hJ
  have YB := y_dropA hC hR hJ B h47 hZ q1 e1 q2 e2
  obtain ⟨r, x1, ts1⟩ := q1
  dsimp only at g1
  obtain ⟨r2, t1⟩ := q2
  dsimp only at g2
  dsimp only at YB
  exact ⟨x1, ts1, r, t1, r2, e1, e2, ⟨g1.1, ⟨g2.1, g2.2.1⟩, PJ_g hPJ (FX_FA (fa_drop _ e1)) (FY_of (fr_x12_drop e2) (by decide) (by decide) (by decide) (by decide)) (TPJ_k hPJ.2.1 ((g1.2).trans (hl.trans (g2.2.2).symm)) ((fa_drop _ e1).2 4 (by decide) (by decide) (by decide) (by decide) (by decide)) ((fr_x12_drop e2).2.1 0 (by decide)) (by have a := g1.2; omega)), YB.2⟩⟩
theorem x_checkpoint : ∀ (x : MS) (ts : List MS) (t : MS), IvT x ts t → ∃ (x1 : MS) (ts1 : List MS) (r : Int) (t1 : MS) (r2 : Int), m_x11_checkpoint ts x = some (r, x1, ts1) ∧ m_x12_checkpoint t = some (r2, t1) ∧ IvT x1 ts1 t1 := by
  intro x ts t  ⟨hC, ⟨hR, hJ⟩, hPJ, B⟩
  have hl := hPJ.2.1.1
  have r61 : (0 : Int) ≤ gI x 61 ∧ gI x 61 ≤ 1600 := hC.1.1 61
  have h47 := hPJ.2.2.2.1.1
  have hZ := PJ_ZT hC hPJ
  obtain ⟨q1, e1, g1⟩ := c_checkpoint hC 
  obtain ⟨q2, e2, g2⟩ := w_x12_checkpoint hR  hJ
  have YB := y_check hC hR hJ B h47 hZ q1 e1 q2 e2
  obtain ⟨r, x1, ts1⟩ := q1
  dsimp only at g1
  obtain ⟨r2, t1⟩ := q2
  dsimp only at g2
  dsimp only at YB
  exact ⟨x1, ts1, r, t1, r2, e1, e2, ⟨g1.1, ⟨g2.1, g2.2.1⟩, PJ_g hPJ (FX_FA (fa_checkpoint _ e1)) (FY_of (fr_x12_checkpoint e2) (by decide) (by decide) (by decide) (by decide)) (TPJ_k hPJ.2.1 ((g1.2).trans (hl.trans (g2.2.2).symm)) ((fa_checkpoint _ e1).2 4 (by decide) (by decide) (by decide) (by decide) (by decide)) ((fr_x12_checkpoint e2).2.1 0 (by decide)) (by have a := g1.2; omega)), YB.2⟩⟩
theorem x_crash : ∀ (x : MS) (ts : List MS) (t : MS), IvT x ts t → ∃ (x1 : MS) (ts1 : List MS) (r : Int) (t1 : MS) (r2 : Int), m_x11_crash ts x = some (r, x1, ts1) ∧ m_x12_crash t = some (r2, t1) ∧ IvT x1 ts1 t1 := by
  intro x ts t  ⟨hC, ⟨hR, hJ⟩, hPJ, B⟩
  have hl := hPJ.2.1.1
  have r61 : (0 : Int) ≤ gI x 61 ∧ gI x 61 ≤ 1600 := hC.1.1 61
  have h47 := hPJ.2.2.2.1.1
  have hZ := PJ_ZT hC hPJ
  obtain ⟨q1, e1, g1⟩ := c_crash hC 
  obtain ⟨q2, e2, g2⟩ := w_x12_crash hR  hJ
  have YB := y_crashA hC hR hJ B h47 hZ q1 e1 q2 e2
  obtain ⟨r, x1, ts1⟩ := q1
  dsimp only at g1
  obtain ⟨r2, t1⟩ := q2
  dsimp only at g2
  dsimp only at YB
  exact ⟨x1, ts1, r, t1, r2, e1, e2, ⟨g1.1, ⟨g2.1, g2.2.1⟩, PJ_g hPJ (FX_FA (fa_crash _ e1)) (FY_of (fr_x12_crash e2) (by decide) (by decide) (by decide) (by decide)) (TPJ_k hPJ.2.1 ((g1.2).trans (hl.trans (g2.2.2).symm)) ((fa_crash _ e1).2 4 (by decide) (by decide) (by decide) (by decide) (by decide)) ((fr_x12_crash e2).2.1 0 (by decide)) (by have a := g1.2; omega)), YB.2⟩⟩
theorem x_chance : ∀ (x : MS) (ts : List MS) (t : MS) (p1 : Int), R2 p1 → IvT x ts t → ∃ (x1 : MS) (ts1 : List MS) (r : Int) (t1 : MS) (r2 : Int), m_x11_chance ts p1 x = some (r, x1, ts1) ∧ m_x12_chance p1 t = some (r2, t1) ∧ IvT x1 ts1 t1 := by
  intro x ts t p1 hp1 ⟨hC, ⟨hR, hJ⟩, hPJ, B⟩
  have hl := hPJ.2.1.1
  have r61 : (0 : Int) ≤ gI x 61 ∧ gI x 61 ≤ 1600 := hC.1.1 61
  have h47 := hPJ.2.2.2.1.1
  have hZ := PJ_ZT hC hPJ
  obtain ⟨q1, e1, g1⟩ := c_chance hC hp1
  obtain ⟨q2, e2, g2⟩ := w_x12_chance hR hp1 hJ
  have YB := y_chance hC hR hJ B h47 hZ q1 e1 q2 e2
  obtain ⟨r, x1, ts1⟩ := q1
  dsimp only at g1
  obtain ⟨r2, t1⟩ := q2
  dsimp only at g2
  dsimp only at YB
  exact ⟨x1, ts1, r, t1, r2, e1, e2, ⟨g1.1, ⟨g2.1, g2.2.1⟩, PJ_g hPJ (FX_FA (fa_chance _ e1)) (FY_of (fr_x12_chance e2) (by decide) (by decide) (by decide) (by decide)) (TPJ_k hPJ.2.1 ((g1.2).trans (hl.trans (g2.2.2).symm)) ((fa_chance _ e1).2 4 (by decide) (by decide) (by decide) (by decide) (by decide)) ((fr_x12_chance e2).2.1 0 (by decide)) (by have a := g1.2; omega)), YB.2⟩⟩
theorem x_undo : ∀ (x : MS) (ts : List MS) (t : MS), IvT x ts t → ∃ (x1 : MS) (ts1 : List MS) (r : Int) (t1 : MS) (r2 : Int), m_x11_undo ts x = some (r, x1, ts1) ∧ m_x12_undo t = some (r2, t1) ∧ IvT x1 ts1 t1 := by
  intro x ts t  ⟨hC, ⟨hR, hJ⟩, hPJ, B⟩
  have hl := hPJ.2.1.1
  have r61 : (0 : Int) ≤ gI x 61 ∧ gI x 61 ≤ 1600 := hC.1.1 61
  have h47 := hPJ.2.2.2.1.1
  have hZ := PJ_ZT hC hPJ
  obtain ⟨q1, e1, g1⟩ := c_undo hC 
  obtain ⟨q2, e2, g2⟩ := r_undo hR hJ
  have YB := y_undo hC hR hJ B h47 q1 e1 q2 e2
  obtain ⟨r, x1, ts1⟩ := q1
  dsimp only at g1
  obtain ⟨r2, t1⟩ := q2
  dsimp only at g2
  dsimp only at YB
  exact ⟨x1, ts1, r, t1, r2, e1, e2, ⟨g1.1, ⟨g2.1, g2.2.1⟩, PJ_g hPJ (FX_FA (fa_undo _ e1)) (FY_of (fr_x12_undo e2) (by decide) (by decide) (by decide) (by decide)) (TPJ_k hPJ.2.1 ((g1.2).trans (hl.trans (g2.2.2).symm)) ((fa_undo _ e1).2 4 (by decide) (by decide) (by decide) (by decide) (by decide)) ((fr_x12_undo e2).2.1 0 (by decide)) (by have a := g1.2; omega)), YB.2⟩⟩
theorem x_seed : ∀ (x : MS) (ts : List MS) (t : MS) (p1 : Int), R2 p1 → IvT x ts t → ∃ (x1 : MS) (r : Int) (t1 : MS) (r2 : Int), m_x11_seed p1 x = some (r, x1) ∧ m_x12_seed p1 t = some (r2, t1) ∧ IvT x1 ts t1 := by
  intro x ts t p1 hp1 ⟨hC, ⟨hR, hJ⟩, hPJ, B⟩
  have hl := hPJ.2.1.1
  have r61 : (0 : Int) ≤ gI x 61 ∧ gI x 61 ≤ 1600 := hC.1.1 61
  have h47 := hPJ.2.2.2.1.1
  obtain ⟨q1, e1, g1⟩ := c_seed hC hp1
  obtain ⟨q2, e2, g2⟩ := j_seed hR hJ hp1
  have YB := y_seedB B q1 e1 q2 e2
  obtain ⟨r, x1⟩ := q1
  dsimp only at g1
  obtain ⟨r2, t1⟩ := q2
  dsimp only at g2
  dsimp only at YB
  exact ⟨x1, r, t1, r2, e1, e2, ⟨g1.1, ⟨g2.1, g2.2.1⟩, PJ_g hPJ (FX_of (fr_x11_seed e1) (by decide) (by decide)) (FY_of (fr_x12_seed e2) (by decide) (by decide) (by decide) (by decide)) (TPJ_k hPJ.2.1 ((g1.2).trans (hl.trans (g2.2.2).symm)) ((fr_x11_seed e1).2.1 4 (by decide)) ((fr_x12_seed e2).2.1 0 (by decide)) (by have a := g1.2; omega)), YB.2⟩⟩
theorem x_ask : ∀ (x : MS) (ts : List MS) (t : MS), IvT x ts t → ∃ (x1 : MS) (r : Int) (t1 : MS) (r2 : Int), m_x11_ask x = some (r, x1) ∧ m_x12_ask t = some (r2, t1) ∧ IvT x1 ts t1 := by
  intro x ts t  ⟨hC, ⟨hR, hJ⟩, hPJ, B⟩
  have hl := hPJ.2.1.1
  have r61 : (0 : Int) ≤ gI x 61 ∧ gI x 61 ≤ 1600 := hC.1.1 61
  have h47 := hPJ.2.2.2.1.1
  obtain ⟨q1, e1, g1⟩ := c_ask hC 
  obtain ⟨q2, e2, g2⟩ := w_x12_ask hR  hJ
  have Y := y_ask hC hR hJ hPJ q1 e1 q2 e2
  obtain ⟨r, x1⟩ := q1
  dsimp only at g1
  obtain ⟨r2, t1⟩ := q2
  dsimp only at g2
  exact ⟨x1, r, t1, r2, e1, e2, ⟨g1.1, ⟨g2.1, g2.2.1⟩, Y, BT_n B ⟨fun k hk => (fr_x11_ask e1).1 k (by simp <;> omega), fun k hk => (fr_x11_ask e1).2.1 k (by simp <;> omega)⟩ ⟨fun k hk => (fr_x12_ask e2).1 k (by simp <;> omega), fun k hk => (fr_x12_ask e2).2.1 k (by simp <;> omega), by rw [(fr_x12_ask e2).2.1 39 (by decide)]⟩ ((fr_x11_ask e1).1 983 (by decide)) ((fr_x11_ask e1).2.1 2 (by decide)) ((fr_x12_ask e2).2.2.1 78 (by simp)) ((fr_x12_ask e2).2.1 9 (by decide))⟩⟩
theorem x_image : ∀ (x : MS) (ts : List MS) (t : MS), IvT x ts t → ∃ (x1 : MS) (r : Int) (t1 : MS) (r2 : Int), m_x11_image x = some (r, x1) ∧ m_x12_image t = some (r2, t1) ∧ IvT x1 ts t1 := by
  intro x ts t  ⟨hC, ⟨hR, hJ⟩, hPJ, B⟩
  have hl := hPJ.2.1.1
  have r61 : (0 : Int) ≤ gI x 61 ∧ gI x 61 ≤ 1600 := hC.1.1 61
  have h47 := hPJ.2.2.2.1.1
  obtain ⟨q1, e1, g1⟩ := c_image hC 
  obtain ⟨q2, e2, g2⟩ := w_x12_image hR  hJ
  obtain ⟨r, x1⟩ := q1
  dsimp only at g1
  obtain ⟨r2, t1⟩ := q2
  dsimp only at g2
  exact ⟨x1, r, t1, r2, e1, e2, ⟨g1.1, ⟨g2.1, g2.2.1⟩, PJ_g hPJ (FX_of (fr_x11_image e1) (by decide) (by decide)) (FY_of (fr_x12_image e2) (by decide) (by decide) (by decide) (by decide)) (TPJ_k hPJ.2.1 ((g1.2).trans (hl.trans (g2.2.2).symm)) ((fr_x11_image e1).2.1 4 (by decide)) ((fr_x12_image e2).2.1 0 (by decide)) (by have a := g1.2; omega)), BT_n B ⟨fun k hk => (fr_x11_image e1).1 k (by simp <;> omega), fun k hk => (fr_x11_image e1).2.1 k (by simp <;> omega)⟩ ⟨fun k hk => (fr_x12_image e2).1 k (by simp <;> omega), fun k hk => (fr_x12_image e2).2.1 k (by simp <;> omega), by rw [(fr_x12_image e2).2.1 39 (by decide)]⟩ ((fr_x11_image e1).1 983 (by decide)) ((fr_x11_image e1).2.1 2 (by decide)) ((fr_x12_image e2).2.2.1 78 (by simp)) ((fr_x12_image e2).2.1 9 (by decide))⟩⟩
theorem x_octet : ∀ (x : MS) (ts : List MS) (t : MS) (p1 : Int), R2 p1 → IvT x ts t → ∃ (r : Int) (r2 : Int), m_x11_octet p1 x = some r ∧ m_x12_octet p1 t = some r2 ∧ IvT x ts t := by
  intro x ts t p1 hp1 ⟨hC, ⟨hR, hJ⟩, hPJ, B⟩
  have hl := hPJ.2.1.1
  have r61 : (0 : Int) ≤ gI x 61 ∧ gI x 61 ≤ 1600 := hC.1.1 61
  have h47 := hPJ.2.2.2.1.1
  obtain ⟨r, e1, _⟩ := w_x11_octet hC.1  hp1
  obtain ⟨r2, e2, _⟩ := w_x12_octet hR hp1
  exact ⟨r, r2, e1, e2, ⟨hC, ⟨hR, hJ⟩, hPJ, B⟩⟩
theorem x_on : ∀ (x : MS) (ts : List MS) (t : MS), IvT x ts t → ∃ (x1 : MS) (r : Int) (t1 : MS) (r2 : Int), m_x11_on x = some (r, x1) ∧ m_x12_on t = some (r2, t1) ∧ IvT x1 ts t1 := by
  intro x ts t  ⟨hC, ⟨hR, hJ⟩, hPJ, B⟩
  have hl := hPJ.2.1.1
  have r61 : (0 : Int) ≤ gI x 61 ∧ gI x 61 ≤ 1600 := hC.1.1 61
  have h47 := hPJ.2.2.2.1.1
  obtain ⟨q1, e1, g1⟩ := c_on hC 
  obtain ⟨q2, e2, g2⟩ := mt_on hR hJ
  have YB := y_on hC hR hJ hl hPJ.2.1.2 h47 (fun z => ⟨(hPJ.2.2.2.2.1 z).1.1, (hPJ.2.2.2.2.1 z).1.2.1⟩) B q1 e1 q2 e2
  obtain ⟨r, x1⟩ := q1
  dsimp only at g1
  obtain ⟨r2, t1⟩ := q2
  dsimp only at g2
  dsimp only at YB
  exact ⟨x1, r, t1, r2, e1, e2, ⟨g1.1, ⟨g2.1, g2.2.1⟩, PJ_g hPJ (FX_of (fr_x11_on e1) (by decide) (by decide)) (FY_of (fr_x12_on e2) (by decide) (by decide) (by decide) (by decide)) (TPJ_0 g1.2 g2.2.2), YB.2⟩⟩
theorem x_status : ∀ (x : MS) (ts : List MS) (t : MS) (p1 : Int), R2 p1 → IvT x ts t → ∃ (r : Int) (r2 : Int), m_x11_status p1 x = some r ∧ m_x12_status p1 t = some r2 ∧ IvT x ts t := by
  intro x ts t p1 hp1 ⟨hC, ⟨hR, hJ⟩, hPJ, B⟩
  have hl := hPJ.2.1.1
  have r61 : (0 : Int) ≤ gI x 61 ∧ gI x 61 ≤ 1600 := hC.1.1 61
  have h47 := hPJ.2.2.2.1.1
  obtain ⟨r, e1, _⟩ := w_x11_status hC.1  hp1
  obtain ⟨r2, e2, _⟩ := w_x12_status hR hp1
  exact ⟨r, r2, e1, e2, ⟨hC, ⟨hR, hJ⟩, hPJ, B⟩⟩
theorem LSt_IvT : LSt IvT := ⟨x_feed, x_end, x_store, x_fault, x_has, x_letter, x_volume, x_block, x_entry, x_kept, x_read, x_key, x_total, x_path, x_shared, x_differs, x_writes, x_spread, x_lost, x_worst, x_victim, x_room, x_back, x_see, x_fits, x_tells, x_put, x_remove, x_copy, x_drop, x_checkpoint, x_crash, x_chance, x_undo, x_seed, x_ask, x_image, x_octet, x_on, x_status⟩
/-! ===== contracts over larger worlds ===== -/
theorem Met_imp {l : Launch} {y : MethodName} {ws : List Cond} {rm : Room} {Pc Pc' : Array Value → State → Prop} {Qc Qc' : Array Value → State → Outcome → State → Prop} {mc ms : Nat} {free free' : Addr → Prop} (h : Met l y ws rm Pc Qc mc ms free) (hp : ∀ a s, Pc' a s → Pc a s) (hq : ∀ a st o t, Pc' a st → Qc a st o t → Qc' a st o t) (hf : ∀ q, free q → free' q) : Met l y ws rm Pc' Qc' mc ms free' := by
  intro p e h1 h2 h3 s m args below hfr hap hP hK
  obtain ⟨n, o, g1, g2, g3, g4, L, g5, g6⟩ := h p e h1 h2 h3 s m args below hfr hap (hp _ _ hP) trivial
  exact ⟨n, o, g1, g2, g3, hq _ _ _ _ hP g4, L, g5, fun q hq => hf _ (g6 q hq)⟩
theorem va_P_mem {D : va_G} {cl : List vw_C} {ws ws' : va_W} {H : Heap} (h : va_P D cl ws H) (hm : ∀ q, q ∈ ws' → q ∈ ws) : va_P D cl ws' H := by
  intro k q hk
  obtain ⟨i, hi⟩ := List.getElem?_of_mem (hm q (List.mem_of_getElem? hk))
  exact h i q hi
theorem va_P_app {D : va_G} {cl : List vw_C} {w1 w2 : va_W} {H : Heap} (h1 : va_P D cl w1 H) (h2 : va_P D cl w2 H) : va_P D cl (w1 ++ w2) H := by
  intro k q hk
  rcases List.mem_append.mp (List.mem_of_getElem? hk) with h | h
  · obtain ⟨i, hi⟩ := List.getElem?_of_mem h
    exact h1 i q hi
  · obtain ⟨i, hi⟩ := List.getElem?_of_mem h
    exact h2 i q hi
theorem va_P_l {D : va_G} {cl : List vw_C} {w1 w2 : va_W} {H : Heap} (h : va_P D cl (w1 ++ w2) H) : va_P D cl w1 H := va_P_mem h (fun q hq => List.mem_append_left _ hq)
theorem va_P_r {D : va_G} {cl : List vw_C} {w1 w2 : va_W} {H : Heap} (h : va_P D cl (w1 ++ w2) H) : va_P D cl w2 H := va_P_mem h (fun q hq => List.mem_append_right _ hq)
theorem va_D_iff {A : Nat → Prop} {ws : va_W} : va_D A ws ↔ ws.Pairwise (fun p q => p.1 ≠ q.1) ∧ ∀ q, q ∈ ws → A q.1 := by
  constructor
  · intro h
    refine ⟨List.pairwise_iff_getElem.mpr (fun i j hi hj hij e => ?_), fun q hq => ?_⟩
    · have := h.1 i j _ _ (List.getElem?_eq_getElem hi) (List.getElem?_eq_getElem hj) e
      omega
    · obtain ⟨i, hi⟩ := List.getElem?_of_mem hq
      exact h.2 i q hi
  · intro h
    refine ⟨fun i j x y hi hj e => ?_, fun k q hk => h.2 q (List.mem_of_getElem? hk)⟩
    obtain ⟨hi1, hi2⟩ := List.getElem?_eq_some_iff.mp hi
    obtain ⟨hj1, hj2⟩ := List.getElem?_eq_some_iff.mp hj
    rcases Nat.lt_trichotomy i j with hl | hl | hl
    · exact absurd (by rw [hi2, hj2]; exact e) (List.pairwise_iff_getElem.mp h.1 i j hi1 hj1 hl)
    · exact hl
    · exact absurd (by rw [hi2, hj2]; exact e.symm) (List.pairwise_iff_getElem.mp h.1 j i hj1 hi1 hl)
theorem va_D_perm {A : Nat → Prop} {ws ws' : va_W} (h : va_D A ws) (p : ws'.Perm ws) : va_D A ws' := by
  rw [va_D_iff] at h ⊢
  exact ⟨(p.pairwise_iff (fun h => fun e => h e.symm)).mpr h.1, fun q hq => h.2 q (p.mem_iff.mp hq)⟩
theorem va_D_l {A : Nat → Prop} {w1 w2 : va_W} (h : va_D A (w1 ++ w2)) : va_D A w1 := by
  rw [va_D_iff] at h ⊢
  exact ⟨(List.pairwise_append.mp h.1).1, fun q hq => h.2 q (List.mem_append_left _ hq)⟩
theorem va_A_mem {ws : va_W} {sz q : Nat} : va_A ws sz q ↔ (∃ e, (q, e) ∈ ws) ∨ sz ≤ q := by
  constructor
  · rintro (⟨k, e, h⟩ | h)
    · exact Or.inl ⟨e, List.mem_of_getElem? h⟩
    · exact Or.inr h
  · rintro (⟨e, h⟩ | h)
    · obtain ⟨k, hk⟩ := List.getElem?_of_mem h
      exact Or.inl ⟨k, e, hk⟩
    · exact Or.inr h
theorem va_A_up {w w' : va_W} {sz : Nat} (hm : ∀ q, q ∈ w → q ∈ w') : ∀ q, va_A w sz q → va_A w' sz q := by
  intro q h
  rw [va_A_mem] at h ⊢
  rcases h with ⟨e, h⟩ | h
  · exact Or.inl ⟨e, hm _ h⟩
  · exact Or.inr h
/-- the heart of the frame: beside P lies T, which stays -/
theorem y_beside {D : va_G} {P P' T : va_W} {st t : State} (hz : zW D st.heap.size (P ++ T) st) (hB : zB D (va_A P st.heap.size) P' t) (hF : va_F (va_A P st.heap.size) st t) : zB D (va_A (P ++ T) st.heap.size) (P' ++ T) t ∧ va_F (va_A (P ++ T) st.heap.size) st t := by
  obtain ⟨-, hP, hK, hD⟩ := hz
  obtain ⟨hP', hK', hD'⟩ := hB
  have hD0 := va_D_iff.mp hD
  have hT : va_P D vwCl T st.heap := va_P_r hP
  have hlt : ∀ q, q ∈ T → q.1 < st.heap.size := fun q hq => by
    obtain ⟨k, hk⟩ := List.getElem?_of_mem hq
    exact (hT k q hk).lt
  have hno : ∀ q, q ∈ T → ¬ va_A P st.heap.size q.1 := fun q hq h => by
    rw [va_A_mem] at h
    rcases h with ⟨e, h⟩ | h
    · exact (List.pairwise_append.mp hD0.1).2.2 _ h q hq rfl
    · have := hlt q hq
      omega
  refine ⟨⟨va_P_app hP' (hT.kept (fun k q hq => hF.2 q.1 (hlt q (List.mem_of_getElem? hq)) (hno q (List.mem_of_getElem? hq)))), hK', ?_⟩, hF.1, fun q h1 h2 => hF.2 q h1 (fun h => h2 (va_A_up (fun x hx => List.mem_append_left _ hx) q h))⟩
  rw [va_D_iff] at hD' ⊢
  refine ⟨List.pairwise_append.mpr ⟨hD'.1, (List.pairwise_append.mp hD0.1).2.1, fun x hx y hy e => hno y hy ?_⟩, fun q hq => ?_⟩
  · rw [← e]
    exact hD'.2 x hx
  · rcases List.mem_append.mp hq with h | h
    · exact va_A_up (fun x hx => List.mem_append_left _ hx) q.1 (hD'.2 q h)
    · rw [va_A_mem]
      exact Or.inl ⟨q.2, List.mem_append_right _ h⟩
theorem zW_l {D : va_G} {sz : Nat} {P T : va_W} {U : State} (h : zW D sz (P ++ T) U) : zW D sz P U := ⟨h.1, va_P_l h.2.1, h.2.2.1, va_D_l h.2.2.2⟩
section FR
variable {l : Launch} {y : MethodName} {bytes : ByteArray} {maxL : Nat} {ret : Option FieldType} {rm : Room} {D : va_G} {sz : Nat} {av : List Value} {P P' : va_W}
theorem yRi_f {r : Int32} (T : va_W) (h : yRi l y bytes maxL ret rm D av P r) : yRi l y bytes maxL ret rm D av (P ++ T) r := Met_imp h (fun a s hp => ⟨hp.1, ⟨va_P_l hp.2.1.1, hp.2.1.2⟩, hp.2.2⟩) (fun _ _ _ _ _ hq => hq) (fun _ h => h)
theorem yRl_f {r : Int64} (T : va_W) (h : yRl l y bytes maxL ret rm D av P r) : yRl l y bytes maxL ret rm D av (P ++ T) r := Met_imp h (fun a s hp => ⟨hp.1, ⟨va_P_l hp.2.1.1, hp.2.1.2⟩, hp.2.2⟩) (fun _ _ _ _ _ hq => hq) (fun _ h => h)
theorem yWi_f {r : Int32} (T : va_W) (h : yWi l y bytes maxL ret rm D sz av P P' r) : yWi l y bytes maxL ret rm D sz av (P ++ T) (P' ++ T) r := by
  refine Met_imp h (fun a s hp => ⟨hp.1, zW_l hp.2.1, hp.2.2⟩) (fun a st o t hp hq => ?_) (va_A_up (fun x hx => List.mem_append_left _ hx))
  obtain ⟨-, hz, -⟩ := hp
  obtain ⟨⟨q, u, h1, h2, h3⟩, hF⟩ := hq
  obtain rfl := hz.1
  obtain ⟨g1, g2⟩ := y_beside hz h3 hF
  exact ⟨⟨q, u, h1, h2, g1⟩, g2⟩
theorem yWl_f {r : Int64} (T : va_W) (h : yWl l y bytes maxL ret rm D sz av P P' r) : yWl l y bytes maxL ret rm D sz av (P ++ T) (P' ++ T) r := by
  refine Met_imp h (fun a s hp => ⟨hp.1, zW_l hp.2.1, hp.2.2⟩) (fun a st o t hp hq => ?_) (va_A_up (fun x hx => List.mem_append_left _ hx))
  obtain ⟨-, hz, -⟩ := hp
  obtain ⟨⟨q, u, h1, h2, h3⟩, hF⟩ := hq
  obtain rfl := hz.1
  obtain ⟨g1, g2⟩ := y_beside hz h3 hF
  exact ⟨⟨q, u, h1, h2, g1⟩, g2⟩
theorem yWv_f (T : va_W) (h : yWv l y bytes maxL ret rm D sz av P P') : yWv l y bytes maxL ret rm D sz av (P ++ T) (P' ++ T) := by
  refine Met_imp h (fun a s hp => ⟨hp.1, zW_l hp.2.1, hp.2.2⟩) (fun a st o t hp hq => ?_) (va_A_up (fun x hx => List.mem_append_left _ hx))
  obtain ⟨-, hz, -⟩ := hp
  obtain ⟨⟨u, h1, h2, h3⟩, hF⟩ := hq
  obtain rfl := hz.1
  obtain ⟨g1, g2⟩ := y_beside hz h3 hF
  exact ⟨⟨u, h1, h2, g1⟩, g2⟩
end FR
theorem ap_g {α : Type} {P T : List α} {k : Nat} {q : α} (h : P[k]? = some q) : (P ++ T)[k]? = some q := by
  rw [List.getElem?_append_left (List.getElem?_eq_some_iff.mp h).1]
  exact h
theorem ap_s {α : Type} {P P' T : List α} {k : Nat} {q q0 : α} (h0 : P[k]? = some q0) (h : P.set k q = P') : (P ++ T).set k q = P' ++ T := by
  rw [List.set_append_left _ _ (List.getElem?_eq_some_iff.mp h0).1, h]
theorem pm_swap {α : Type} (X S Y T Z : List α) : (X ++ (S ++ (Y ++ (T ++ Z)))).Perm (X ++ (T ++ (Y ++ (S ++ Z)))) := by
  refine List.Perm.append_left X ?_
  have h1 : (S ++ (Y ++ (T ++ Z))).Perm (S ++ (T ++ (Y ++ Z))) := List.Perm.append_left S (List.perm_append_comm_assoc Y T Z)
  have h2 : (S ++ (T ++ (Y ++ Z))).Perm (T ++ (S ++ (Y ++ Z))) := List.perm_append_comm_assoc S T (Y ++ Z)
  have h3 : (T ++ (S ++ (Y ++ Z))).Perm (T ++ (Y ++ (S ++ Z))) := List.Perm.append_left T (List.perm_append_comm_assoc S Y Z)
  exact (h1.trans h2).trans h3
theorem z_rot {D : va_G} {cl : List vw_C} {A : Nat → Prop} {H : Heap} {x q : Nat × va_E} {r : va_W} (hP : va_P D cl ((x :: r) ++ [q]) H) (hD : va_D A ((x :: r) ++ [q])) : va_P D cl (x :: q :: r) H ∧ va_D A (x :: q :: r) := by
  have p : (x :: q :: r).Perm ((x :: r) ++ [q]) := by
    show (x :: q :: r).Perm (x :: (r ++ [q]))
    refine List.Perm.cons x ?_
    show ([q] ++ r).Perm (r ++ [q])
    exact List.perm_append_comm
  exact ⟨va_P_mem hP (fun y hy => p.mem_iff.mp hy), va_D_perm hD p⟩
theorem z_cls_obj {D : va_G} {s : State} {cA : ClassId} (h : va_K D vwCl (TY D) s) (h2 : va_K D vwCl (TY D ++ [(cA, .object "CloneVolumes$State")]) s) : cA = D.1 17 := by
  obtain ⟨_, _, _, _, _, e2⟩ := (h2.2 5 _ rfl).2
  obtain ⟨_, _, _, _, _, e1⟩ := (h.2 4 _ rfl).2
  exact Option.some.inj (e2.symm.trans e1)
def irl (n : Nat) : List Nat := (List.range n).map (· + 1)
theorem irl_map {α : Type} {x : α} {r : List α} : (irl r.length).map (fun i => (x :: r)[i]?) = r.map some := by
  apply List.ext_getElem
  · simp [irl]
  · intro i h1 h2
    simp [irl]
theorem va_nd_of {l : List Nat} (h : l.Nodup) : va_nd l = true := by
  induction l with
  | nil => rfl
  | cons a r ih =>
    rw [List.nodup_cons] at h
    simp [va_nd, h.1, ih h.2]
theorem irl_nd {n : Nat} : va_nd (irl n) = true := va_nd_of (List.Pairwise.map (S := (· ≠ ·)) (· + 1) (fun a b h e => h (Nat.add_right_cancel e)) List.nodup_range)
theorem irl_dis {n : Nat} : ∀ i ∈ irl n, i ∉ [0] := by
  intro i hi h
  simp [irl] at hi h
  obtain ⟨x, -, e⟩ := hi
  omega
theorem z_rot2 {D : va_G} {cl : List vw_C} {A : Nat → Prop} {H : Heap} {q : Nat × va_E} {r : va_W} (hP : va_P D cl (r ++ [q]) H) (hD : va_D A (r ++ [q])) : va_P D cl (q :: r) H ∧ va_D A (q :: r) := by
  have p : ([q] ++ r).Perm (r ++ [q]) := List.perm_append_comm
  exact ⟨va_P_mem hP (fun y hy => p.mem_iff.mp hy), va_D_perm hD p⟩
theorem c_i2 {F : Nat → Int} {k : Nat} {c : Int32} {v : Int} (hv : c = i2 v) : upd (fun j => i2 (F j)) k c = fun j => i2 (upZ F k v j) := by rw [hv]; exact upZ_i2
set_option maxRecDepth 100000 in
/-- a State's cells, those of the one ahead of an ACT -/
def SB (D : va_G) (a : Nat → Nat) (s : MS) : va_W :=
  ((a 62), .inr (8, [.int (i2 (gI s 1240)), .int (i2 (gI s 1241)), .long (i8 (gL s 1242)), .ref (a 63), .ref (a 64), .ref (a 65), .ref (a 66), .ref (a 67), .ref (a 68), .ref (a 69), .ref (a 70)])) ::
  ((a 63), .inl (D.1 13, 48, .inl (fun j => i2 (gA s 63 j)))) ::
  ((a 64), .inl (D.1 13, 48, .inl (fun j => i2 (gA s 64 j)))) ::
  ((a 65), .inl (D.1 13, 48, .inl (fun j => i2 (gA s 65 j)))) ::
  ((a 66), .inl (D.1 13, 48, .inl (fun j => i2 (gA s 66 j)))) ::
  ((a 67), .inl (D.1 13, 288, .inl (fun j => i2 (gA s 67 j)))) ::
  ((a 68), .inl (D.1 13, 288, .inl (fun j => i2 (gA s 68 j)))) ::
  ((a 69), .inl (D.1 13, 8, .inl (fun j => i2 (gA s 69 j)))) ::
  ((a 70), .inl (D.1 13, 8, .inl (fun j => i2 (gA s 70 j)))) :: []
set_option maxRecDepth 100000 in
def CWl (D : va_G) (a : Nat → Nat) (c1 c2 c3 c4 : Value) (s : MS) : va_W :=
  ((a 0), .inr (11, [.ref (a 3), .ref (a 5), .ref (a 7), .ref (a 11), .ref (a 16), .ref (a 21), .ref (a 25), .ref (a 1), .ref (a 2), c2, c3, .ref (a 49), .int (i2 (gI s 12))])) ::
  ((a 1), .inl (D.1 15, 8, .inr (.inl (fun j => i8 (gB s 1 j))))) ::
  ((a 2), .inl (D.1 13, 6, .inl (fun j => i2 (gA s 2 j)))) ::
  ((a 3), .inr (9, [.ref (a 4), .int (i2 (gI s 61))])) ::
  ((a 4), .inl (D.1 13, 1600, .inl (fun j => i2 (gA s 4 j)))) ::
  ((a 5), .inr (6, [.int (i2 (gI s 100)), .int (i2 (gI s 101)), .ref (a 3), .ref (a 6), rcv a (gI s 9999), .int (i2 (gI s 105)), .int (i2 (gI s 106)), .int (i2 (gI s 107)), .int (i2 (gI s 108)), .int (i2 (gI s 109)), .int (i2 (gI s 110)), .int (i2 (gI s 111))])) ::
  ((a 6), .inl (D.1 14, 179, .inl (fun j => i2 (gA s 6 j)))) ::
  ((a 7), .inr (2, [.ref (a 8), .ref (a 9), .ref (a 10), .int (i2 (gI s 143)), .ref (a 90), .int (i2 (gI s 145))])) ::
  ((a 8), .inl (D.1 13, 60, .inl (fun j => i2 (gA s 8 j)))) ::
  ((a 9), .inl (D.1 13, 60, .inl (fun j => i2 (gA s 9 j)))) ::
  ((a 10), .inl (D.1 13, 60, .inl (fun j => i2 (gA s 10 j)))) ::
  ((a 11), .inr (7, [.int (i2 (gI s 220)), .ref (a 12), .ref (a 13), .ref (a 14), .int (i2 (gI s 224)), .ref (a 15)])) ::
  ((a 12), .inl (D.1 13, 12, .inl (fun j => i2 (gA s 12 j)))) ::
  ((a 13), .inl (D.1 13, 12, .inl (fun j => i2 (gA s 13 j)))) ::
  ((a 14), .inl (D.1 13, 8, .inl (fun j => i2 (gA s 14 j)))) ::
  ((a 15), .inl (D.1 13, 8, .inl (fun j => i2 (gA s 15 j)))) ::
  ((a 16), .inr (4, [.ref (a 17), .int (i2 (gI s 321)), .int (i2 (gI s 322)), .ref (a 18), .ref (a 19), .ref (a 20)])) ::
  ((a 17), .inl (D.1 13, 1364, .inl (fun j => i2 (gA s 17 j)))) ::
  ((a 18), .inl (D.1 13, 48, .inl (fun j => i2 (gA s 18 j)))) ::
  ((a 19), .inl (D.1 13, 48, .inl (fun j => i2 (gA s 19 j)))) ::
  ((a 20), .inl (D.1 13, 48, .inl (fun j => i2 (gA s 20 j)))) ::
  ((a 21), .inr (10, [.ref (a 22), .int (i2 (gI s 421)), .ref (a 23), .ref (a 24)])) ::
  ((a 22), .inl (D.1 13, 48, .inl (fun j => i2 (gA s 22 j)))) ::
  ((a 23), .inl (D.1 13, 288, .inl (fun j => i2 (gA s 23 j)))) ::
  ((a 24), .inl (D.1 13, 288, .inl (fun j => i2 (gA s 24 j)))) ::
  ((a 25), .inr (10, [.ref (a 26), .int (i2 (gI s 501)), .ref (a 27), .ref (a 28)])) ::
  ((a 26), .inl (D.1 13, 48, .inl (fun j => i2 (gA s 26 j)))) ::
  ((a 27), .inl (D.1 13, 288, .inl (fun j => i2 (gA s 27 j)))) ::
  ((a 28), .inl (D.1 13, 288, .inl (fun j => i2 (gA s 28 j)))) ::
  ((a 29), .inr (5, [.int (i2 (gI s 580)), .int (i2 (gI s 581)), .int (i2 (gI s 582)), .int (i2 (gI s 583)), .int (i2 (gI s 584)), .int (i2 (gI s 585)), .ref (a 30), .ref (a 31), .ref (a 32), .ref (a 33), .ref (a 34), .ref (a 37), .ref (a 35), .ref (a 36)])) ::
  ((a 30), .inl (D.1 13, 48, .inl (fun j => i2 (gA s 30 j)))) ::
  ((a 31), .inl (D.1 13, 60, .inl (fun j => i2 (gA s 31 j)))) ::
  ((a 32), .inl (D.1 13, 60, .inl (fun j => i2 (gA s 32 j)))) ::
  ((a 33), .inl (D.1 13, 60, .inl (fun j => i2 (gA s 33 j)))) ::
  ((a 34), .inl (D.1 13, 60, .inl (fun j => i2 (gA s 34 j)))) ::
  ((a 35), .inl (D.1 13, 3, .inl (fun j => i2 (gA s 35 j)))) ::
  ((a 36), .inl (D.1 13, 3, .inl (fun j => i2 (gA s 36 j)))) ::
  ((a 37), .inr (0, [.ref (a 38), .int (i2 (gI s 741))])) ::
  ((a 38), .inl (D.1 13, 1600, .inl (fun j => i2 (gA s 38 j)))) ::
  ((a 39), .inr (5, [.int (i2 (gI s 780)), .int (i2 (gI s 781)), .int (i2 (gI s 782)), .int (i2 (gI s 783)), .int (i2 (gI s 784)), .int (i2 (gI s 785)), .ref (a 40), .ref (a 41), .ref (a 42), .ref (a 43), .ref (a 44), .ref (a 47), .ref (a 45), .ref (a 46)])) ::
  ((a 40), .inl (D.1 13, 48, .inl (fun j => i2 (gA s 40 j)))) ::
  ((a 41), .inl (D.1 13, 60, .inl (fun j => i2 (gA s 41 j)))) ::
  ((a 42), .inl (D.1 13, 60, .inl (fun j => i2 (gA s 42 j)))) ::
  ((a 43), .inl (D.1 13, 60, .inl (fun j => i2 (gA s 43 j)))) ::
  ((a 44), .inl (D.1 13, 60, .inl (fun j => i2 (gA s 44 j)))) ::
  ((a 45), .inl (D.1 13, 3, .inl (fun j => i2 (gA s 45 j)))) ::
  ((a 46), .inl (D.1 13, 3, .inl (fun j => i2 (gA s 46 j)))) ::
  ((a 47), .inr (0, [.ref (a 48), .int (i2 (gI s 941))])) ::
  ((a 48), .inl (D.1 13, 1600, .inl (fun j => i2 (gA s 48 j)))) ::
  ((a 49), .inr (1, [.ref (a 53), c4, .ref (a 71), .int (i2 (gI s 983)), c1, .ref (a 80), .ref (a 50), .ref (a 51), .ref (a 52)])) ::
  ((a 50), .inl (D.1 13, 48, .inl (fun j => i2 (gA s 50 j)))) ::
  ((a 51), .inl (D.1 13, 48, .inl (fun j => i2 (gA s 51 j)))) ::
  ((a 52), .inl (D.1 13, 48, .inl (fun j => i2 (gA s 52 j)))) ::
  ((a 53), .inr (8, [.int (i2 (gI s 1060)), .int (i2 (gI s 1061)), .long (i8 (gL s 1062)), .ref (a 54), .ref (a 55), .ref (a 56), .ref (a 57), .ref (a 58), .ref (a 59), .ref (a 60), .ref (a 61)])) ::
  ((a 54), .inl (D.1 13, 48, .inl (fun j => i2 (gA s 54 j)))) ::
  ((a 55), .inl (D.1 13, 48, .inl (fun j => i2 (gA s 55 j)))) ::
  ((a 56), .inl (D.1 13, 48, .inl (fun j => i2 (gA s 56 j)))) ::
  ((a 57), .inl (D.1 13, 48, .inl (fun j => i2 (gA s 57 j)))) ::
  ((a 58), .inl (D.1 13, 288, .inl (fun j => i2 (gA s 58 j)))) ::
  ((a 59), .inl (D.1 13, 288, .inl (fun j => i2 (gA s 59 j)))) ::
  ((a 60), .inl (D.1 13, 8, .inl (fun j => i2 (gA s 60 j)))) ::
  ((a 61), .inl (D.1 13, 8, .inl (fun j => i2 (gA s 61 j)))) :: []
set_option maxRecDepth 100000 in
def CWr (D : va_G) (a : Nat → Nat) (c1 c2 c3 c4 : Value) (s : MS) : va_W :=
  ((a 71), .inr (8, [.int (i2 (gI s 1420)), .int (i2 (gI s 1421)), .long (i8 (gL s 1422)), .ref (a 72), .ref (a 73), .ref (a 74), .ref (a 75), .ref (a 76), .ref (a 77), .ref (a 78), .ref (a 79)])) ::
  ((a 72), .inl (D.1 13, 48, .inl (fun j => i2 (gA s 72 j)))) ::
  ((a 73), .inl (D.1 13, 48, .inl (fun j => i2 (gA s 73 j)))) ::
  ((a 74), .inl (D.1 13, 48, .inl (fun j => i2 (gA s 74 j)))) ::
  ((a 75), .inl (D.1 13, 48, .inl (fun j => i2 (gA s 75 j)))) ::
  ((a 76), .inl (D.1 13, 288, .inl (fun j => i2 (gA s 76 j)))) ::
  ((a 77), .inl (D.1 13, 288, .inl (fun j => i2 (gA s 77 j)))) ::
  ((a 78), .inl (D.1 13, 8, .inl (fun j => i2 (gA s 78 j)))) ::
  ((a 79), .inl (D.1 13, 8, .inl (fun j => i2 (gA s 79 j)))) ::
  ((a 80), .inr (3, [.ref (a 81), .int (i2 (gI s 1601)), .int (i2 (gI s 1602)), .int (i2 (gI s 1603)), .int (i2 (gI s 1604)), .int (i2 (gI s 1605)), .int (i2 (gI s 1606)), .int (i2 (gI s 1607)), .int (i2 (gI s 1608)), .ref (a 53)])) ::
  ((a 81), .inl (D.1 13, 64, .inl (fun j => i2 (gA s 81 j)))) :: []
set_option maxRecDepth 100000 in
theorem CW_split {D : va_G} {a : Nat → Nat} {c1 c2 c3 c4 : Value} {s : MS} : CW D a c1 c2 c3 c4 s = CWl D a c1 c2 c3 c4 s ++ (SB D a s ++ CWr D a c1 c2 c3 c4 s) := rfl
def setP (a b : Nat → Nat) : Nat → Nat := fun k => if 62 ≤ k ∧ k ≤ 70 then b k else a k
theorem setP_out {a b : Nat → Nat} {k : Nat} (h : k < 62 ∨ 70 < k) : setP a b k = a k := by unfold setP; rw [if_neg (by omega)]
set_option maxRecDepth 100000 in
theorem SB_set {D : va_G} {a b : Nat → Nat} {s t : MS} : SB D (setP a b) (setB s t) = SB D b t := rfl
set_option maxRecDepth 100000 in
theorem CWl_set {D : va_G} {a b : Nat → Nat} {c1 c2 c3 c4 : Value} {s t : MS} : CWl D (setP a b) c1 c2 c3 c4 (setB s t) = CWl D a c1 c2 c3 c4 s := rfl
set_option maxRecDepth 100000 in
theorem CWr_set {D : va_G} {a b : Nat → Nat} {c1 c2 c3 c4 : Value} {s t : MS} : CWr D (setP a b) c1 c2 c3 c4 (setB s t) = CWr D a c1 c2 c3 c4 s := rfl
/-- the row of past States, and the States -/
def PC (D : va_G) (p : Nat) (f : Nat → Option Nat) : Nat × va_E := (p, .inl (D.1 17, 20, .inr (.inr (.inr (.inr f)))))
def PLs (D : va_G) (ps : List ((Nat → Nat) × MS)) : va_W := ps.flatMap (fun q => SB D q.1 q.2)
def pf (ps : List ((Nat → Nat) × MS)) : Nat → Option Nat := fun i => (ps[i]?).map (fun q => q.1 62)
def PT (D : va_G) (p : Nat) (ps : List ((Nat → Nat) × MS)) : va_W := PC D p (pf ps) :: PLs D ps
/-- the class's whole world -/
abbrev XW (D : va_G) (a : Nat → Nat) (s : MS) (ps : List ((Nat → Nat) × MS)) : va_W := CS D a s ++ PT D (a 90) ps
theorem PLs_app {D : va_G} {p q : List ((Nat → Nat) × MS)} : PLs D (p ++ q) = PLs D p ++ PLs D q := List.flatMap_append
theorem PLs_one {D : va_G} {b : Nat → Nat} {t : MS} : PLs D [(b, t)] = SB D b t := by unfold PLs; simp
theorem pf_some {ps : List ((Nat → Nat) × MS)} {i : Nat} {q : (Nat → Nat) × MS} (h : ps[i]? = some q) : pf ps i = some (q.1 62) := by unfold pf; rw [h]; rfl
theorem pf_none {ps : List ((Nat → Nat) × MS)} {i : Nat} (h : ps.length ≤ i) : pf ps i = none := by unfold pf; rw [List.getElem?_eq_none h]; rfl
theorem pf_up {ps : List ((Nat → Nat) × MS)} {i : Nat} {q : (Nat → Nat) × MS} (h : i < ps.length) : va_up (pf ps) i (some (q.1 62)) = pf (ps.set i q) := by
  funext k
  by_cases e : k = i
  · subst e
    rw [va_up_self]
    unfold pf
    rw [List.getElem?_set_self h]
    rfl
  · rw [va_up_ne _ _ e]
    unfold pf
    rw [List.getElem?_set_ne (fun q => e q.symm)]
theorem pf_push {ps : List ((Nat → Nat) × MS)} {q : (Nat → Nat) × MS} : va_up (pf ps) ps.length (some (q.1 62)) = pf (ps ++ [q]) := by
  funext k
  by_cases e : k = ps.length
  · subst e
    rw [va_up_self]
    unfold pf
    rw [List.getElem?_append_right (Nat.le_refl _)]
    simp
  · rw [va_up_ne _ _ e]
    unfold pf
    by_cases h : k < ps.length
    · rw [List.getElem?_append_left h]
    · rw [List.getElem?_eq_none (by omega), List.getElem?_eq_none (by simp; omega)]
