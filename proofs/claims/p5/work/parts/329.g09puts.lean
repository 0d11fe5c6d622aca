/-! ===== a root splits; a key goes into its leaf ===== -/
theorem dd_0 {r : Int} {x : Nat} (h : 0 ≤ r) : (if r = (x : Int) then (1 : Int) else 0) = dq r.toNat x := by
  unfold dq
  by_cases z : x = r.toNat
  · rw [if_pos z, if_pos (by omega)]
  · rw [if_neg z, if_neg (by omega)]
set_option maxHeartbeats 2000000 in
theorem mt_rootSplit {p0 p1 p2 : Int} {s : MS} {v : Nat} {M : Nat → Nat → Int} {i : Int} (hR : Rr s) (hv : v < 8) (hp0 : p0 = (v : Int)) (T : TM s d0 (-1)) (P : PM s v M d0 (-1)) (hC : CE s 0) (hE : 3 ≤ gA s 39 6 ∧ gA s 39 6 ≤ 6) (hf : gI s 55 = 0) (hrt : gA s 49 v = p1) (hB : ((0 ≤ p1 ∧ p1 < 48) ∧ cM s p1.toNat = 1 ∧ vM s p1.toNat = 0) ∧ (hM s).1 p1.toNat = i ∧ 2 ≤ (hM s).2.1 p1.toNat ∧ (M v p1.toNat = 1 ∧ ∀ u, u < 16 → u ≠ v → M u p1.toNat = 0)) (h3 : R2 p2) : wp (m_x12_rootSplit p0 p1 p2 s) (fun q => Rr q.2 ∧ F_x12_rootSplit s q.2 ∧ (∀ j, 785 ≤ j → gA q.2 49 j = gA s 49 j) ∧ (∀ u, u < 17 → u ≠ v → gI q.2 55 = 0 → gA q.2 49 u = gA s 49 u) ∧ (gI q.2 55 = 1 ∨ (gI q.2 55 = 0 ∧ (0 ≤ gA q.2 49 v ∧ gA q.2 49 v < 48) ∧ ∃ M', TM q.2 d0 (-1) ∧ PM q.2 v M' d0 (-1) ∧ CurM q.2 v M' q.1 i))) := by
  have hB0 := hB
  obtain ⟨⟨hb, b54, b55⟩, b56, b57, bm, bmu⟩ := hB
  have hN48 : gA s 39 5 ≤ 48 := T.1.1
  have hb48 : p1.toNat < 48 := by omega
  have n1 : 1 ≤ (hM s).2.1 p1.toNat := by omega
  have lv : 0 ≤ (hM s).1 p1.toNat ∧ (hM s).1 p1.toNat ≤ 47 := TG_lev T (fun _ _ => Int.le_refl 0) hb48 (by omega)
  have bN : ((p1.toNat : Nat) : Int) < gA s 39 5 := TG_lt T hb48 (by omega)
  have key : wp (m_x12_rootSplit p0 p1 p2 s) (fun q => Rr q.2 ∧ (∀ j, 785 ≤ j → gA q.2 49 j = gA s 49 j) ∧ (∀ u, u < 17 → u ≠ v → gI q.2 55 = 0 → gA q.2 49 u = gA s 49 u) ∧ (gI q.2 55 = 1 ∨ (gI q.2 55 = 0 ∧ (0 ≤ gA q.2 49 v ∧ gA q.2 49 v < 48) ∧ ∃ M', TM q.2 d0 (-1) ∧ PM q.2 v M' d0 (-1) ∧ CurM q.2 v M' q.1 i))) := by
    unfold m_x12_rootSplit
    refine wp_bn (w_x12_levelOf hR hb) (fun r2 e2 h2 => ?_)
    have l2 := h2.1
    refine wp_bn (w_x12_taken hR ⟨by omega, hN48⟩ hC (by omega) (by omega)) (fun q5 e5 h5 => ?_)
    obtain ⟨r, o⟩ := q5
    dsimp only at e5 h5 ⊢
    obtain ⟨hRo, k7, h5⟩ := h5
    have Fo : F_x12_taken s o := fr_x12_taken e5
    have o39 : gA o 39 = gA s 39 := Fo.2.1 39 (by decide)
    have o55 : (0 : Int) ≤ gI o 55 ∧ gI o 55 ≤ 1 := hRo.1 55
    refine wp_rg (by omega) (wp_if (fun c1 => ?_) (fun c1 => wp_some ⟨hRo, k7, fun u hu _ h0 => by exfalso; have h0' : gI o 55 = 0 := h0; omega, Or.inl (by show gI o 55 = 1; omega)⟩))
    rcases h5 with h5 | ⟨_, ⟨r0, r1⟩, hcv, hK⟩
    · omega
    have hq48 : r.toNat < 48 := by omega
    obtain ⟨⟨c0, v0, m0⟩, T1, P1⟩ := TM_take (b := r.toNat) T P hv (by omega) (by omega) hcv hK (by omega) o39
    have nqb : p1.toNat ≠ r.toNat := fun z => by rw [z] at b54; omega
    have ob := TkE_s hK p1.toNat hb48 nqb
    have oqz : (hM o).2.1 r.toNat = 0 := hK.2.2.2
    have oql : (hM o).1 r.toNat = i + 1 := by rw [hK.2.2.1, l2, b56]
    have oc : cM o = upZ (cM s) r.toNat 1 := TkE_c hK
    have ov : vM o = vM s := TkE_v hK v0
    refine wp_bn (w_x12_keyAt hRo hb (by omega)) (fun r9 e9 h9 => ?_)
    have ky := (T.2.2.2.2 p1.toNat hb48 (Or.inl (by omega))).2 0 (by omega)
    have ky' : 0 ≤ r9 ∧ r9 ≤ 999 := by rw [h9.1, (ob.2.2 _ (by omega)).2]; exact ky
    refine wp_bn (w_x12_inserts hRo (by omega) (by omega) (by omega) h9.2 (by omega)) (fun s11 e11 h11 => ?_)
    obtain ⟨hR11, F11, I11⟩ := h11
    have a39 : gA s11 39 = gA s 39 := (F11.2.1 39 (by decide)).trans o39
    obtain ⟨T2, P2⟩ := MT_ins (b := r.toNat) (k := (0 : Int).toNat) T1 P1 I11 (F11.2.1 39 (by decide)) (by omega) hq48 (by rw [hK.2.1.1]; omega) (by rw [hK.2.1.2]; omega) (by rw [upM_s, upZ_s]; omega) (fun u hu hn => by rw [upM_n hn, m0 u hu]; omega) (by omega) (by rw [oqz, o39]; omega) (by rw [oqz]; exact Int.le_refl 0) (fun _ => ⟨by rw [o39]; omega, by rw [oql, ob.1, b56]; omega⟩) ky' (Or.inr rfl)
    obtain ⟨iB, iz, _⟩ := I11
    refine wp_inb (by omega) (wp_stn (fun s13 e13 => ?_))
    have hR13 : Rr s13 := e13 ▸ Rr.uAu hR11 (by show (-2147483648 : Int) ≤ r ∧ r ≤ 2147483647; omega)
    have u13 : gA s13 49 = upZ (gA s11 49) v r := by rw [(q_AA e13 : gA s13 49 = _), show p0.toNat = v by omega]
    have b39 : gA s13 39 = gA s 39 := (q_Aa e13 (by decide)).trans a39
    obtain ⟨T3, P3⟩ := MT_root (q := r) T2 P2 hv u13 (q_Aa e13 (by decide)) (Or.inl ⟨r0, by rw [a39]; omega⟩)
    obtain ⟨⟨w1, w2⟩, ⟨w3, w4⟩, _⟩ := M_root hv u13
    have rt11 : gA s11 49 v = p1 := by rw [BX_u iB (by omega), TkE_u hK (by omega)]; exact hrt
    have dd : ∀ x : Nat, x < 48 → (0 : Int) = dq r.toNat x - (if 0 < (hM o).1 r.toNat ∧ p1 = (x : Int) then 1 else 0) + (if gA s11 49 v = (x : Int) then 1 else 0) - (if r = (x : Int) then 1 else 0) := fun x hx => by
      rw [rt11, dd_0 r0]
      by_cases z : p1 = (x : Int)
      · rw [if_pos ⟨by omega, z⟩, if_pos z]; omega
      · rw [if_neg (fun w => z w.2), if_neg z]; omega
    have T4 : TM s13 d0 (-1) := TG_D T3 dd
    have P4 := PM_D (D' := d0) P3 dd
    have z13 : (hM s13).2.1 r.toNat = 1 := by rw [w1, iz, oqz]; rfl
    have f55 : gI s13 55 = 0 := (q_Ai e13).trans ((F11.1 55 (by decide)).trans c1)
    have C13 : CE s13 0 := CE_eq hC ((q_Aa e13 (by decide)).trans ((F11.2.1 42 (by decide)).trans (Fo.2.1 42 (by decide)))) ((q_Aa e13 (by decide)).trans ((F11.2.1 43 (by decide)).trans (Fo.2.1 43 (by decide)))) ((q_Aa e13 (by decide)).trans ((F11.2.1 44 (by decide)).trans (Fo.2.1 44 (by decide))))
    have K13 : ∀ j, 785 ≤ j → gA s13 49 j = gA s 49 j := fun j hj => by rw [u13, upZ_n (by omega), BX_k iB hq48 hj]; exact k7 j hj
    have U13 : ∀ u, u < 17 → u ≠ v → gA s13 49 u = gA s 49 u := fun u hu hn => by rw [u13, upZ_n hn, BX_u iB hu]; exact TkE_u hK hu
    refine wp_bn (mt_half (i := i) (M := upM M v (upZ (M v) r.toNat 1)) hR13 hv T4 P4 C13 (by rw [b39]; exact hE) f55 ⟨⟨⟨r0, by omega⟩, ?_, ?_⟩, ?_, ?_, ?_, ?_⟩ (by rw [z13]; omega) ⟨⟨hb, ?_, ?_⟩, ?_, ?_, ?_, ?_⟩ h3) (fun q16 e16 h16 => ?_)
    · rw [w3, BX_c iB]; exact hK.2.1.1
    · rw [w4, BX_v iB]; exact hK.2.1.2
    · rw [w1, BX_l iB]; exact oql
    · rw [z13, b39]; omega
    · rw [upM_s, upZ_s]
    · intro u hu hn; rw [upM_n hn]; exact m0 u hu
    · rw [w3, BX_c iB, oc, upZ_n nqb]; exact b54
    · rw [w4, BX_v iB, ov]; exact b55
    · rw [w1, BX_l iB, ob.1]; exact b56
    · rw [w1, BX_z iB nqb, ob.2.1]; exact b57
    · rw [upM_s, upZ_n nqb]; exact bm
    · intro u hu hn; rw [upM_n hn]; exact bmu u hu hn
    · obtain ⟨r16, s16⟩ := q16
      dsimp only at h16 ⊢
      obtain ⟨hR16, F16, k16, u16, h16⟩ := h16
      refine wp_some ⟨hR16, fun j hj => by rw [k16 j hj]; exact K13 j hj, fun u hu hn h0 => by rw [u16 u hu h0]; exact U13 u hu hn, ?_⟩
      rcases h16 with h16 | ⟨h0, M', t1, t2, t3⟩
      · exact Or.inl h16
      · refine Or.inr ⟨h0, ?_, M', t1, t2, t3⟩
        show 0 ≤ gA s16 49 v ∧ gA s16 49 v < 48
        rw [u16 v (by omega) h0, u13, upZ_s]; omega
  exact wp_eq key (fun q eq hq => ⟨hq.1, fr_x12_rootSplit eq, hq.2⟩)
set_option maxHeartbeats 1000000 in
theorem mt_putsIn {p0 p1 p2 : Int} {s : MS} {v : Nat} {M : Nat → Nat → Int} (hR : Rr s) (hv : v < 8) (T : TM s d0 (-1)) (P : PM s v M d0 (-1)) (hE : 3 ≤ gA s 39 6 ∧ gA s 39 6 ≤ 6) (hA : CurM s v M p0 0) (h1 : 0 ≤ p1 ∧ p1 ≤ 999) (h2 : 0 ≤ p2 ∧ p2 ≤ 999) : wp (m_x12_putsIn p0 p1 p2 s) (fun o => Rr o ∧ F_x12_putsIn s o ∧ (∀ j, 785 ≤ j → gA o 49 j = gA s 49 j) ∧ (∀ u, u < 17 → gA o 49 u = gA s 49 u) ∧ TM o d0 (-1) ∧ PM o v M d0 (-1)) := by
  obtain ⟨⟨ha, a54, a55⟩, a56, a57, am, amu⟩ := hA
  have ha48 : p0.toNat < 48 := by omega
  have na := (TG_nd T ha48 (by omega)).2.1
  have key : wp (m_x12_putsIn p0 p1 p2 s) (fun o => Rr o ∧ (∀ j, 785 ≤ j → gA o 49 j = gA s 49 j) ∧ (∀ u, u < 17 → gA o 49 u = gA s 49 u) ∧ TM o d0 (-1) ∧ PM o v M d0 (-1)) := by
    have J34 : ∀ (x5 x6 : Int), (0 ≤ x5 ∧ x5 ≤ (hM s).2.1 p0.toNat) → (x6 = 0 ∨ (x6 = 1 ∧ x5 < (hM s).2.1 p0.toNat ∧ kM s p0.toNat x5.toNat = p1)) → wp (m_x12_putsIn_J34 p0 p1 p2 x5 x6 s) (fun o => Rr o ∧ (∀ j, 785 ≤ j → gA o 49 j = gA s 49 j) ∧ (∀ u, u < 17 → gA o 49 u = gA s 49 u) ∧ TM o d0 (-1) ∧ PM o v M d0 (-1)) := by
      intro x5 x6 h5 h6
      unfold m_x12_putsIn_J34
      refine wp_rg (by omega) (wp_if (fun c1 => ?_) (fun c1 => ?_))
      · refine wp_bn (w_x12_inserts hR ha h5 (by omega) (by omega) (by omega)) (fun s18 e18 h18 => ?_)
        obtain ⟨hR18, F18, I18⟩ := h18
        obtain ⟨T2, P2⟩ := MT_ins (b := p0.toNat) (k := x5.toNat) T P I18 (F18.2.1 39 (by decide)) (by omega) ha48 (by omega) (by omega) (by omega) (fun u hu hn => by rw [amu u hu hn]; omega) (by omega) (by omega) (by omega) (fun w => by omega) h1 (Or.inl rfl)
        have dd : ∀ x : Nat, x < 48 → (0 : Int) = 0 - (if 0 < (hM s).1 p0.toNat ∧ p2 = (x : Int) then 1 else 0) := fun x hx => by rw [if_neg (fun w => by omega)]; omega
        unfold m_x12_putsIn_J73
        exact wp_some ⟨hR18, fun j hj => BX_k I18.1 ha48 hj, fun u hu => BX_u I18.1 hu, TG_D T2 dd, PM_D P2 dd⟩
      · refine wp_bn (w_x12_valueAt hR ha (by omega)) (fun r11 e11 h11 => ?_)
        refine wp_rg h11.2 (wp_rg (by omega) (wp_if (fun c2 => ?_) (fun c2 => ?_)))
        · unfold m_x12_putsIn_J73
          exact wp_some ⟨hR, fun j hj => rfl, fun u hu => rfl, T, P⟩
        · refine wp_bn (w_x12_setsEntry hR ha (by omega) (by omega) (by omega)) (fun s16 e16 h16 => ?_)
          obtain ⟨hR16, u16⟩ := h16
          have F16 : F_x12_setsEntry s s16 := fr_x12_setsEntry e16
          have kk : kM s p0.toNat x5.toNat = p1 := by omega
          rw [← kk] at u16
          obtain ⟨iB, iz, T2, P2⟩ := MT_set (b := p0.toNat) (k := x5.toNat) T P (by omega) u16 (F16.2.1 39 (by decide)) (by omega) ha48 (by omega) (by omega) (by omega) (fun u hu hn => by rw [amu u hu hn]; omega) (by omega) (fun w => by omega)
          have dd : ∀ x : Nat, x < 48 → (0 : Int) = 0 + (if 0 < (hM s).1 p0.toNat ∧ (hM s).2.2 p0.toNat x5.toNat = (x : Int) then 1 else 0) - (if 0 < (hM s).1 p0.toNat ∧ p2 = (x : Int) then 1 else 0) := fun x hx => by rw [if_neg (fun w => by omega), if_neg (fun w => by omega)]; omega
          unfold m_x12_putsIn_J73
          exact wp_some ⟨hR16, fun j hj => BX_k iB ha48 hj, fun u hu => BX_u iB hu, TG_D T2 dd, PM_D P2 dd⟩
    unfold m_x12_putsIn
    refine wp_bn (w_x12_placeIn hR ha (by omega) na) (fun r25 e25 h25 => ?_)
    refine wp_bn (w_x12_entriesOf hR ha) (fun r27 e27 h27 => ?_)
    have z27 := h27.1
    refine wp_rg (by omega) (wp_rg h27.2 (wp_if (fun c1 => ?_) (fun c1 => ?_)))
    · unfold m_x12_putsIn_J33
      exact J34 r25 0 h25 (Or.inl rfl)
    · refine wp_bn (w_x12_keyAt hR ha (by omega)) (fun r32 e32 h32 => ?_)
      refine wp_rg h32.2 (wp_rg (by omega) (wp_if (fun c2 => ?_) (fun c2 => ?_)))
      · exact J34 r25 1 h25 (Or.inr ⟨rfl, by omega, by rw [← h32.1]; exact c2⟩)
      · unfold m_x12_putsIn_J33
        exact J34 r25 0 h25 (Or.inl rfl)
  exact wp_eq key (fun q eq hq => ⟨hq.1, fr_x12_putsIn eq, hq.2⟩)
/-- a block on the way down: it is the root's, or one that is owned names it -/
theorem own_x {s : MS} {v : Nat} {M : Nat → Nat → Int} (hv : v < 8) (T : TM s d0 (-1)) (P : PM s v M d0 (-1)) {b : Nat} (hb : b < 48) (h : gA s 49 v = (b : Int) ∨ ∃ a, a < 48 ∧ 0 < cM s a ∧ 0 < en (hM s) a (b : Int) ∧ ∀ u, u < 16 → u ≠ v → M u a ≤ 0) : cM s b = 1 → vM s b = 0 → ∀ u, u < 16 → u ≠ v → M u b = 0 := by
  intro hc hs u hu hn
  obtain ⟨l1, l2⟩ := PM_live T (fun _ _ => Int.le_refl 0) P hv
  have G := P.1 u hu hn
  have nn := (G.1.2.2.1 b hb).1
  have G' := TG_ss G
  have T' : TG (hM s) (kM s) (gA s 39 5) (gA s 39 6) (cM s) (vM s) (rM s) (rsM s) d0 (-1) := T
  have le : M u b ≤ 0 := by
    by_cases h8 : u < 8
    · rcases h with h | ⟨a, ha, hca, hen, hma⟩
      · exact mu_own0 T' rfl G' (l1 u h8) hb hc h8 hv hn (rM_v h8) (by rw [rM_v hv]; exact h)
      · exact mu_own T' rfl G' (l1 u h8) hb hc h8 (rM_v h8) ha hca (hma u hu hn) hen
    · by_cases z : 0 < M u b
      · have := l2 u (by omega) hu b hb z; omega
      · omega
  omega
/-- a block named by one in the tree at hand is in it -/
theorem kid_mu {s : MS} {v : Nat} {M : Nat → Nat → Int} (hv : v < 8) (P : PM s v M d0 (-1)) {a k : Nat} (ha : a < 48) (hm : 0 < M v a) (hl : 0 < (hM s).1 a) (hk : (k : Int) < (hM s).2.1 a) : M v ((hM s).2.2 a k).toNat = 1 := by
  have G := P.1 8 (by omega) (by omega)
  have kd := TG_kid G (fun _ _ => Int.le_refl 0) ha hm hl hk
  have hN := G.1.1
  have := P.2 v (by omega) ((hM s).2.2 a k).toNat (by omega)
  omega
theorem root_mu {s : MS} {v : Nat} {M : Nat → Nat → Int} (hv : v < 8) (P : PM s v M d0 (-1)) (h0 : 0 ≤ gA s 49 v) (h1 : gA s 49 v < 254) : M v (gA s 49 v).toNat = 1 := by
  have G := P.1 8 (by omega) (by omega)
  have kd := TG_root_live (v := 0) G (fun _ _ => Int.le_refl 0) (by omega) (by rw [sr_0]; exact h0) (by rw [sr_0]; exact h1)
  rw [sr_0] at kd
  have hN := G.1.1
  have := P.2 v (by omega) (gA s 49 v).toNat (by omega)
  omega
