/-! ===== ON on both sides ===== -/
theorem pig : ∀ (m n : Nat) (u : Nat → Int), (∀ i : Nat, i < n → ∃ p, p < m ∧ u p = (i : Int)) → n ≤ m := by
  intro m
  induction m with
  | zero =>
    intro n u h
    refine Classical.byContradiction (fun z => ?_)
    obtain ⟨p, p1, _⟩ := h 0 (by omega)
    omega
  | succ m ih =>
    intro n u h
    by_cases z : ∃ i : Nat, i < n ∧ u m = (i : Int)
    · obtain ⟨i0, i1, i2⟩ := z
      have w := ih (n - 1) (fun p => if u p > (i0 : Int) then u p - 1 else u p) (fun i hi => by
        by_cases y : i < i0
        · obtain ⟨p, p1, p2⟩ := h i (by omega)
          refine ⟨p, ?_, ?_⟩
          · have : p ≠ m := fun q => by rw [q] at p2; omega
            omega
          · (try dsimp only)
            rw [if_neg (by omega)]; exact p2
        · obtain ⟨p, p1, p2⟩ := h (i + 1) (by omega)
          refine ⟨p, ?_, ?_⟩
          · have : p ≠ m := fun q => by rw [q] at p2; omega
            omega
          · (try dsimp only)
            rw [if_pos (by omega), p2]; omega)
      omega
    · have w := ih n u (fun i hi => by
        obtain ⟨p, p1, p2⟩ := h i hi
        refine ⟨p, ?_, p2⟩
        have : p ≠ m := fun q => z ⟨i, hi, by rw [← q]; exact p2⟩
        omega)
      omega
theorem lev_chn {f : Nat → Int} {N E : Int} (H : IG f N E) : ∀ (l b : Nat), b < 48 → DLa f b → (hLa f).1 b = (l : Int) → ∀ i : Nat, i < l + 1 → ∃ p, p < 48 ∧ (hLa f).1 p = (i : Int) := by
  have n48 := H.1
  intro l
  induction l with
  | zero => intro b hb hd hl i hi; exact ⟨b, hb, by rw [hl]; omega⟩
  | succ l ih =>
    intro b hb hd hl i hi
    by_cases z : i = l + 1
    · exact ⟨b, hb, by rw [hl, z]⟩
    · have t := IG_there H hb hd
      have kd := IG_kid (k := 0) H hb hd (by omega) (by omega)
      exact ih _ (by omega) kd.2.2 (by omega) i (by omega)
theorem lev47 {f : Nat → Int} {N E : Int} (H : IG f N E) : ∀ b : Nat, b < 48 → DLa f b → f (19 + 16 * b) < 48 := fun b hb hd => by
  have t := IG_there H hb hd
  obtain ⟨l, hl⟩ : ∃ l : Nat, (hLa f).1 b = (l : Int) := ⟨((hLa f).1 b).toNat, by omega⟩
  have w := pig 48 (l + 1) (hLa f).1 (lev_chn H l b hb hd hl)
  have e : (hLa f).1 b = f (19 + 16 * b) := rfl
  omega
set_option maxHeartbeats 2000000 in
theorem y_img {N : Nat} {E len : Int} {x T : MS} (hRx : Rg x) (hRT : Rr T) (hN : N ≤ 48) (hE : 3 ≤ E ∧ E ≤ 6) (h47 : gI T 47 ≠ 0) (h5 : gA T 39 5 = (N : Int)) (h6 : gA T 39 6 = E) (hlen : len = gI x 61) (tape : ∀ j : Nat, (j : Int) < gI x 61 → gA x 4 j = gA T 0 j) : pc (m_x4_load (N : Int) E x) (fun q => pc (m_x12_isImage len T) (fun o => q.1 = o.1 ∧ (q.1 = 0 ∨ q.1 = 1) ∧ (q.1 = 1 → ∃ lo hi : Nat → Int, (gI q.2 1421 ≤ 999999 ∧ gI q.2 1420 = (N : Int)) ∧ IG (gA o.2 113) (N : Int) E ∧ TRf (fun b => b) (fun b => b) (N : Int) q.2 72 (gA o.2 113) ∧ ∀ t' : MS, (∀ i, i < 785 → gA t' 49 i = gA o.2 113 i) → OI t' lo hi))) := by
  have r61 : (0 : Int) ≤ gI x 61 ∧ gI x 61 ≤ 1600 := hRx.1 61
  intro q eq o eo
  by_cases z : gI x 61 < 20
  · have c0 : pc (m_x4_load (N : Int) E x) (fun q => q.1 = 0) := by
      unfold m_x4_load m_x4_load_J33
      exact pc_rg (pc_if (fun _ => pc_some rfl) (fun c => absurd (by omega) c))
    have d0 : pc (m_x12_isImage len T) (fun q => q.1 = 0) := by
      unfold m_x12_isImage m_x12_isImage_J44
      exact pc_rg (pc_if (fun c => absurd c h47) (fun _ => pc_rg (pc_if (fun _ => pc_some rfl) (fun c => absurd (by omega) c))))
    have a := c0 q eq
    have b := d0 o eo
    exact ⟨a.trans b.symm, Or.inl a, fun w => absurd (a.symm.trans w) (by decide)⟩
  obtain ⟨e, he⟩ : ∃ e : Nat, gI x 61 = (e : Int) + 1 := ⟨(gI x 61 - 1).toNat, by omega⟩
  have e19 : 19 ≤ e ∧ e ≤ 1599 := by omega
  rw [hlen, he] at eo
  obtain ⟨g, hg⟩ : ∃ g, g = gA x 4 := ⟨_, rfl⟩
  have BY : ∀ j, j ≤ e → 0 ≤ g j ∧ g j ≤ 255 := fun j hj => by
    rw [hg]
    exact hRx.2.1 4 j (show j < 1600 by omega)
  have hT : TPr T g e := fun j hj => by rw [hg]; exact (tape j (by omega)).symm
  obtain ⟨a1, a2, a3⟩ := s_load hRx hN hE BY hg.symm he q eq
  obtain ⟨b1, b2⟩ := m_img1 hN hE BY h5 h6 hT o eo
  have n48 : (0 : Int) ≤ (N : Int) ∧ (N : Int) ≤ 48 := by omega
  obtain ⟨_, _, IMo⟩ := wp_det (mt_isImage hRT (p0 := (e : Int) + 1) ⟨by omega, by omega⟩ (fun _ => ⟨by omega, by omega⟩)) eo
  -- the checks at the end of the tape
  have CK : (∀ r, m_x4_seal_v2 (e : Int) x = some r → g e = r) → ∀ r, m_x12_checked_v2 (e : Int) T = some r → g e = r := fun h r er => by
    cases hs : m_x4_seal_v2 (e : Int) x with
    | none =>
      exfalso
      have w : pc (m_x4_load (N : Int) E x) (fun _ => False) := by
        unfold m_x4_load m_x4_load_J33
        rw [show gI x 61 - 1 = (e : Int) by omega]
        exact pc_rg (pc_if (fun c => absurd c (by omega)) (fun _ => pc_bn (fun r30 _ => pc_bn (fun r32 e32 => by rw [hs] at e32; cases e32))))
      exact w q eq
    | some r' =>
      have y := y_seal (S := x) (T := T) e19.2 (fun j hj => tape j (by omega)) r' hs r er
      rw [← y]; exact h r' hs
  have KC : (∀ r, m_x12_checked_v2 (e : Int) T = some r → g e = r) → ∀ r, m_x4_seal_v2 (e : Int) x = some r → g e = r := fun h r er => by
    cases hs : m_x12_checked_v2 (e : Int) T with
    | none =>
      exfalso
      have w : pc (m_x12_isImage ((e : Int) + 1) T) (fun _ => False) := by
        unfold m_x12_isImage m_x12_isImage_J44
        rw [show (e : Int) + 1 - 1 = (e : Int) by omega]
        exact pc_rg (pc_if (fun c => absurd c h47) (fun _ => pc_rg (pc_if (fun c => absurd c (by omega)) (fun _ => pc_rdI (fun _ => pc_bn (fun r55 e55 => by rw [hs] at e55; cases e55))))))
      exact w o eo
    | some r' =>
      have y := y_seal (S := x) (T := T) e19.2 (fun j hj => tape j (by omega)) r er r' hs
      rw [y]; exact h r' hs
  -- what the class's rows must be to be judged
  have SND : (∀ x, x < N → GOK g (PO g x) E) → PO g N = e → HLT g (N : Int) 8 → ∀ X : MS, RWs g N X → pc (m_x4_isSound X) (PSn X N) := fun G P hl X W => by
    refine s_isSound W.2.2.2.1 hN W.2.2.1.2 (fun y hy nf => ?_) (fun p hp hpN => W.2.2.2.2 p hpN hp) (fun p hp => ?_) (fun v hv => ?_)
    · have c := W.1 y hy
      have t : thr g (PO g y) := by
        unfold nfr at nf
        unfold thr
        rw [c.1.1, c.1.2] at nf; exact nf
      obtain ⟨c1, c2, _⟩ := c.2 t
      obtain ⟨g1, g2, _⟩ := G y hy t
      rw [c1, c2]
      exact ⟨⟨g2.1, by omega⟩, g1⟩
    · have c := (W.1 p hp).1
      have l := po_in P hp
      have l2 := nxp_lt g (PO g p)
      rw [c.1, c.2]
      exact ⟨(BY _ (by omega)).1, (BY _ (by omega)).1⟩
    · have c := W.2.1 v hv
      have h := hl v hv
      rw [c.1, c.2]; exact h
  by_cases q1 : q.1 = 1
  · obtain ⟨⟨_, ck, cs, hl, im⟩, X, q', x1, W, x3, x4⟩ := a2 q1
    have P := im.2.1
    have G : ∀ y, y < N → GOK g (PO g y) E := fun y hy => im.2.2 y (by omega) hy
    have S := SND G P hl X W q' x1
    have q'1 : q'.1 = 1 := S.1.resolve_left x3
    have AL := S.2.2.1 q'1
    have cn : ∀ y, y < N → thr g (PO g y) → g (PO g y + 3) ≤ 6 := fun y hy t => by have w := (G y hy t).2.1; omega
    have CI' : ∀ f, RRA f g N → HDr f g → CIM f (N : Int) E := fun f A Hd => cim_of hN hE e19.1 BY P G A Hd W hl S.2.1 AL
    -- the keys in order, as the reference wants them
    have IR : IMR g e N E 0 19 := by
      refine ⟨by omega, P, fun y _ hy t => ?_⟩
      obtain ⟨g1, g2, g3⟩ := G y hy t
      refine ⟨g2, fun j hj => ⟨?_, (g3 j hj).1.2⟩⟩
      unfold lwk
      by_cases w : j = 0 ∨ (j = 1 ∧ 0 < g (PO g y + 2))
      · rw [if_pos w]; exact (g3 j hj).1.1
      · rw [if_neg w]
        have c := W.1 y hy
        obtain ⟨c1, c2, c3⟩ := c.2 t
        have nf : nfr q'.2 y := by
          rw [nfr_k S.2.1]
          unfold nfr
          rw [c.1.1, c.1.2]; exact t
        have s := (AL.1 y hy nf).1
        have k74 : gA q'.2 74 = gA X 74 := S.2.1.1 74 (by decide) (by decide) (by decide)
        have k75 : gA q'.2 75 = gA X 75 := S.2.1.1 75 (by decide) (by decide) (by decide)
        have k76 : gA q'.2 76 = gA X 76 := S.2.1.1 76 (by decide) (by decide) (by decide)
        have n6 := cn y hy t
        have v := s.1 (j - 1) (by rw [k74, c1]; omega) (by rw [k75, c2]; omega)
        rw [k76, show j - 1 + 1 = j by omega, (c3 (j - 1) (by omega) (by omega)).1, (c3 j (by omega) hj).1] at v
        omega
    obtain ⟨o1, A, Hd⟩ := m_img0 hRT hN hE BY e19 h47 h5 h6 hT (CK ck) cs IR CI' o eo
    have RX := rly_of BY P A W cn
    have IGf := (CI' _ A Hd).1
    have TX := trf_of IGf e19.1 BY A Hd W RX hl
    refine ⟨q1.trans o1.symm, Or.inr q1, fun _ => ⟨gA q'.2 18, gA q'.2 19, ⟨?_, ?_⟩, IGf, ?_, fun t' ht => OI_img IGf (RLY_k RX S.2.1) AL.1 ht⟩⟩
    · rw [x4, S.2.1.2 1421, W.2.2.1.1]; exact cs
    · rw [x4, S.2.1.2 1420]; exact W.2.2.1.2
    · rw [x4]
      exact TRf_rows TX (fun k k1 k2 => S.2.1.1 k (by omega) (by omega) (by omega))
  · have q0 : q.1 = 0 := a1.resolve_right q1
    refine ⟨?_, Or.inl q0, fun w => absurd w q1⟩
    rw [q0]
    refine Eq.symm (b1.resolve_right (fun o1 => ?_))
    obtain ⟨_, ck, cs, im, A, Hd, KS'⟩ := b2 o1
    obtain ⟨IGf, f16, ⟨C0, C1⟩, _⟩ : IM (gA o.2 113) (N : Int) E := by
      rcases IMo with w | w
      · exact absurd (w.symm.trans o1) (by decide)
      · have y := w.2.2
        rw [h5, h6] at y; exact y
    have P := im.2.1
    have Rk : ∀ y, y < N → ROK g (PO g y) E := fun y hy => im.2.2 y (by omega) hy
    have cn : ∀ y, y < N → thr g (PO g y) → g (PO g y + 3) ≤ 6 := fun y hy t => by have w := (Rk y hy t).1; omega
    have DT : ∀ y, y < N → (DLa (gA o.2 113) y ↔ thr g (PO g y)) := fun y hy => dl_thr BY P A hy
    -- what the class asks of each block
    have G : ∀ y, y < N → GOK g (PO g y) E := fun y hy t => by
      have hd := (DT y hy).2 t
      obtain ⟨r1, r2, r3⟩ := (A.1 y hy).2.1 t
      have n6 := cn y hy t
      have rk := Rk y hy t
      have l := po_in P hy
      rw [nxp_1 t] at l
      refine ⟨⟨(BY _ (by omega)).1, ?_⟩, rk.1, fun k hk => ?_⟩
      · rw [← r1]
        exact lev47 IGf y (by omega) hd
      · have kk := r3 k (by omega) hk
        have tt := (IG_there IGf (by omega) hd).2.2.2 k (show (k : Int) < gA o.2 113 (20 + 16 * y) by rw [r2]; exact hk)
        have k6 : k < 6 := by omega
        have e1 : kLa (gA o.2 113) y k = gA o.2 113 (21 + 16 * y + k) := if_pos k6
        rw [e1, kk.1] at tt
        have av := IGf.2.2.2.2.1 y (by omega) k (by rw [r2]; exact hk)
        unfold AV1 at av
        rw [kk.2] at av
        exact ⟨tt, by omega⟩
    have hl : HLT g (N : Int) 8 := fun v hv => by
      have b := Hd.2 v hv
      have y0 := C0.1 v hv
      have y1 := C1.1 v hv
      have n0 := BY (3 + 2 * v) (by omega)
      have n1 := BY (4 + 2 * v) (by omega)
      have s0 : rLa (gA o.2 113) 0 v = g (3 + 2 * v) := by
        show (if v < 8 then gA o.2 113 (8 * 0 + v) else 0) = _
        rw [if_pos hv, show 8 * 0 + v = v by omega]; exact b.1
      have s1 : rLa (gA o.2 113) 1 v = g (4 + 2 * v) := by
        show (if v < 8 then gA o.2 113 (8 * 1 + v) else 0) = _
        rw [if_pos hv, show 8 * 1 + v = 8 + v by omega]; exact b.2
      rw [s0] at y0
      rw [s1] at y1
      have rt : ∀ r : Int, 0 ≤ r → r ≤ 255 → ((0 ≤ r ∧ r < (N : Int)) ∨ r < 0 ∨ 254 ≤ r) → rto r < (N : Int) := fun r r0 r1 h => by
        unfold rto
        split
        · omega
        · split
          · omega
          · omega
      exact ⟨rt _ n0.1 n0.2 y0, rt _ n1.1 n1.2 y1⟩
    obtain ⟨X, q', x1, W, x3⟩ := a3 ⟨e19.1, KC ck, cs, hl, by omega, P, fun y _ hy => G y hy⟩
    have S := SND G P hl X W q' x1
    have RX := rly_of BY P A W cn
    have TX := trf_of IGf e19.1 BY A Hd W RX hl
    have cnt : ∀ c r w : Nat, ((c = 72 ∧ r = 78 ∧ w = 0) ∨ (c = 73 ∧ r = 79 ∧ w = 1)) → CQ (gA o.2 113) (N : Int) w → ∀ y : Nat, y < N → gA X c y = rf (hJ X) (gA X c) (gA X r) (y : Int) := fun c r w hc C y hy => by
      rw [rf_eq IGf TX hc (by omega)]
      have d := C.2 y (by omega)
      unfold df at d
      have cc : gA X c y = cLa (gA o.2 113) w y := by
        have v := TX.2.1 y (by omega)
        rcases hc with ⟨a, _, b⟩ | ⟨a, _, b⟩
        · rw [a, b]; exact v.1
        · rw [a, b]
          show gA X 73 y = gA o.2 113 (17 + 16 * y + 1)
          rw [show 17 + 16 * y + 1 = 18 + 16 * y by omega]; exact v.2
      omega
    have HS : HYs X N := HYs_of ⟨IGf, ⟨C0, C1⟩, KS' IGf⟩ RX (cnt 72 78 0 (Or.inl ⟨rfl, rfl, rfl⟩) C0) (cnt 73 79 1 (Or.inr ⟨rfl, rfl, rfl⟩) C1)
    have y1 := S.2.2.2 HS
    exact q1 (x3 (by rw [y1]; decide))
theorem m_L26 {T : MS} : pc (m_x12_on_L26 FU 0 T) (fun o => o.1 = 1 ∧ (∀ i, i < 785 → gA o.2 49 i = gA T 113 i) ∧ gA o.2 49 785 = 0 ∧ gI o.2 76 = 0 ∧ (∀ k, k ≠ 49 → gA o.2 k = gA T k) ∧ (∀ i, i ≠ 76 → gI o.2 i = gI T i) ∧ ∀ k, gL o.2 k = gL T k) := by
  have L : ∀ (n : Nat) (x : Int) (S : MS), (0 ≤ x ∧ x ≤ 785) → (∀ i : Nat, (i : Int) < x → gA S 49 i = gA T 113 i) → (∀ k, k ≠ 49 → gA S k = gA T k) → (∀ i, gI S i = gI T i) → (∀ k, gL S k = gL T k) → pc (m_x12_on_L26 n x S) (fun o => o.1 = 1 ∧ (∀ i, i < 785 → gA o.2 49 i = gA T 113 i) ∧ gA o.2 49 785 = 0 ∧ gI o.2 76 = 0 ∧ (∀ k, k ≠ 49 → gA o.2 k = gA T k) ∧ (∀ i, i ≠ 76 → gI o.2 i = gI T i) ∧ ∀ k, gL o.2 k = gL T k) := by
    refine fr_ind (fun _ _ _ _ _ _ _ => pc_none) (fun n ih x S hx h1 h2 h3 h4 => ?_)
    show pc (m_x12_on_b26 (m_x12_on_L26 n) x S) _
    unfold m_x12_on_b26
    refine pc_rg (pc_if (fun c => pc_inb (pc_stn (fun s6 e6 => pc_stn (fun s7 e7 => pc_some ⟨rfl, fun i hi => ?_, ?_, q_II e7, fun k hk => ?_, fun i hi => ?_, fun k => ?_⟩)))) (fun c => pc_rdI (fun _ => pc_inb (pc_stn (fun s10 e10 => ih (x + 1) s10 (by omega) (fun i hi => ?_) (fun k hk => (q_Aa e10 hk).trans (h2 k hk)) (fun i => (q_Ai e10).trans (h3 i)) (fun k => (q_Al e10).trans (h4 k)))))))
    · show gA s7 49 i = _
      rw [(q_Ia e7 : gA s7 49 = gA s6 49), (q_AA e6 : gA s6 49 = _), show Int.toNat 785 = 785 from rfl, upZ_n (by omega)]
      exact h1 i (by omega)
    · show gA s7 49 785 = 0
      rw [(q_Ia e7 : gA s7 49 = gA s6 49), (q_AA e6 : gA s6 49 = _), show Int.toNat 785 = 785 from rfl, upZ_s]
    · show gA s7 k = _
      rw [(q_Ia e7 : gA s7 k = gA s6 k), (q_Aa e6 hk : gA s6 k = gA S k)]; exact h2 k hk
    · show gI s7 i = _
      rw [(q_Ii e7 hi : gI s7 i = gI s6 i), (q_Ai e6 : gI s6 i = gI S i)]; exact h3 i
    · show gL s7 k = _
      rw [(q_Il e7 : gL s7 k = gL s6 k), (q_Al e6 : gL s6 k = gL S k)]; exact h4 k
    · rw [(q_AA e10 : gA s10 49 = _)]
      by_cases z : i = x.toNat
      · rw [z, upZ_s, h2 113 (by decide)]
      · rw [upZ_n z]; exact h1 i (by omega)
  exact L FU 0 T (by omega) (fun i hi => absurd hi (by omega)) (fun _ _ => rfl) (fun _ => rfl) (fun _ => rfl)
theorem s_isRefused {p : Int} {t : MS} : pc (m_x12_isRefused p t) (fun q => q.1 = 0 ∧ gA q.2 9 = upZ (gA t 9) p.toNat (gA t 9 p.toNat + 1)) := by
  unfold m_x12_isRefused
  exact pc_rdI (fun _ => pc_inb (pc_stn (fun s3 e3 => pc_some ⟨rfl, q_AA e3⟩)))
set_option maxHeartbeats 2000000 in
theorem y_on {x t : MS} {ts : List MS} (hC : CI x ts) (hR : Rr t) (hJ : JI t) (hl : gI x 61 = gI t 1) (tape : ∀ j : Nat, (j : Int) < gI x 61 → gA x 4 j = gA t 0 j) (h47 : gI t 47 = gI x 12) (hP : gI x 12 ≠ 0 → gA t 39 5 = gI x 580 ∧ gA t 39 6 = gI x 581) (B : BT x ts t) : pc (m_x11_on x) (fun q => pc (m_x12_on t) (fun o => q.1 = o.1 ∧ BT q.2 ts o.2)) := by
  have r61 : (0 : Int) ≤ gI x 61 ∧ gI x 61 ≤ 1600 := hC.1.1 61
  -- the reference, up to its answer
  have REF : ∀ Q : Int × MS → Prop, (∀ T : MS, (∀ k, gA T k = gA t k) → (∀ i, i ≠ 1 → gI T i = gI t i) → (∀ k, gL T k = gL t k) → (Rr T) → ∀ q14 : Int × MS, m_x12_isImage (gI t 1) T = some q14 → (q14.1 = 0 → ∀ q19 : Int × MS, m_x12_isRefused 5 q14.2 = some q19 → Q q19) ∧ (q14.1 ≠ 0 → pc (m_x12_on_L26 FU 0 q14.2) Q)) → pc (m_x12_on t) Q := fun Q K => by
    unfold m_x12_on
    refine pc_stn (fun s11 e11 => pc_bn (fun q14 e14 => ?_))
    have k := K s11 (fun k => q_Ia e11) (fun i hi => q_Ii e11 hi) (fun k => q_Il e11) (e11 ▸ Rr.uI hR (by show (0 : Int) ≤ 0 ∧ (0 : Int) ≤ 1600; omega)) q14 e14
    exact pc_rg (pc_if (fun c => pc_bn (fun q19 e19 => pc_bo (pc_some (k.1 c q19 e19)))) (fun c => k.2 c))
  -- both refuse
  have RF : ∀ (S s3 : MS) (q12 : Int × MS) (T : MS) (q14 q19 : Int × MS), (∀ i, i ≠ 61 → i ∉ [322, 1420, 1421] → gI s3 i = gI x i) → (∀ k, k ∉ [18, 19, 20, 72, 73, 74, 75, 76, 77, 78, 79] → gA s3 k = gA x k) → m_x11_refuse 5 s3 = some q12 → (∀ k, gA T k = gA t k) → (∀ i, i ≠ 1 → gI T i = gI t i) → (∀ k, gL T k = gL t k) → F_x12_isImage T q14.2 → m_x12_isRefused 5 q14.2 = some q19 → (0 : Int) = q19.1 ∧ BT q12.2 ts q19.2 := fun S s3 q12 T q14 q19 a1 a2 e12 b1 b2 b3 F14 e19 => by
    have F12 : F_x11_refuse s3 q12.2 := fr_x11_refuse e12
    have F19 : F_x12_isRefused q14.2 q19.2 := fr_x12_isRefused e19
    have u1 := s_rf2 q12 e12
    obtain ⟨u3, u2⟩ := s_isRefused q19 e19
    have cA : ∀ k, k ≠ 9 → k ∉ [62, 113, 115] → gA q19.2 k = gA t k := fun k h1 h2 => ((F19.2.1 k (by simp; omega)).trans (F14.2.1 k h2)).trans (b1 k)
    have cI : ∀ i, i ≠ 1 → i ≠ 114 → gI q19.2 i = gI t i := fun i h1 h2 => ((F19.1 i (by simp)).trans (F14.1 i (by simp; omega))).trans (b2 i h1)
    refine ⟨u3.symm, BT_k5 B (fun k hk => (F12.1 k (by simp)).trans (a1 k (by omega) (by simp; omega))) (fun k hk => (F12.2.1 k (by simp; omega)).trans (a2 k (by simp; omega))) (fun k hk => cI k (by omega) (by omega)) (fun k hk => cA k (by omega) (by simp; omega)) (by rw [cA 39 (by decide) (by decide)]) ?_ (fun k hk => ?_)⟩
    · rw [F12.1 983 (by simp), a1 983 (by decide) (by decide), F19.2.2.1 78 (by simp), F14.2.2.1 78 (by simp), b3]; exact B.1
    · rw [u1, u2, a2 2 (by decide), F14.2.1 9 (by decide), b1]
      by_cases z : k = Int.toNat 5
      · rw [z, upZ_s, upZ_s, B.2.1 (Int.toNat 5) (by decide)]
      · rw [upZ_n z, upZ_n z]; exact B.2.1 k hk
  unfold m_x11_on m_x11_on_J46 m_x11_on_J47
  refine pc_rg (pc_if (fun c => pc_stn (fun s3 e3 => pc_rg (pc_if (fun _ => pc_bn (fun q12 e12 => pc_some ?_)) (fun d => absurd rfl d)))) (fun c => pc_bn (fun q18 e18 => ?_)))
  · refine REF _ (fun T b1 b2 b3 RT q14 e14 => ⟨fun _ q19 e19 => RF x s3 q12 T q14 q19 (fun i hi _ => q_Ii e3 hi) (fun k _ => q_Ia e3) e12 b1 b2 b3 (fr_x12_isImage e14) e19, fun n => ?_⟩)
    exfalso
    have z : pc (m_x12_isImage (gI t 1) T) (fun q => q.1 = 0) := by
      unfold m_x12_isImage m_x12_isImage_J44
      exact pc_rg (pc_if (fun _ => pc_some rfl) (fun d => absurd (by rw [b2 47 (by decide), h47]; exact c) d))
    exact n (z q14 e14)
  have t47 : gI t 47 ≠ 0 := by rw [h47]; exact c
  have G := JI_GA hJ t47
  obtain ⟨p5, p6⟩ := hP c
  have gb := G.1.2.1
  obtain ⟨N, hN⟩ : ∃ N : Nat, gI x 580 = (N : Int) := ⟨(gI x 580).toNat, by omega⟩
  have N48 : N ≤ 48 := by omega
  rw [hN] at e18
  have F18 : F_x4_load x q18.2 := fr_x4_load e18
  have R18 := (wp_det (w_load hC.1 (p2 := (N : Int)) (p3 := gI x 581) ⟨by omega, by omega⟩ (by rw [← p6]; exact gb.2)) e18).1
  have IMG : ∀ T : MS, (∀ k, gA T k = gA t k) → (∀ i, i ≠ 1 → gI T i = gI t i) → Rr T → ∀ q14 : Int × MS, m_x12_isImage (gI t 1) T = some q14 → _ := fun T b1 b2 RT q14 e14 => y_img hC.1 RT N48 (E := gI x 581) (len := gI t 1) (by rw [← p6]; exact gb.2) (by rw [b2 47 (by decide)]; exact t47) (by rw [b1 39, p5]; exact hN) (by rw [b1 39]; exact p6) hl.symm (fun j hj => by rw [b1 0]; exact tape j hj) q18 e18 q14 e14
  refine pc_rg (pc_if (fun c2 => pc_stn (fun s3 e3 => pc_rg (pc_if (fun _ => pc_bn (fun q12 e12 => pc_some ?_)) (fun d => absurd rfl d)))) (fun c2 => pc_stn (fun s3 e3 => pc_rg (pc_if (fun d => absurd d (by decide)) (fun _ => pc_bn (fun s7 e7 => pc_bn (fun s9 e9 => pc_some ?_)))))))
  · refine REF _ (fun T b1 b2 b3 RT q14 e14 => ⟨fun _ q19 e19 => RF x s3 q12 T q14 q19 (fun i hi h => (q_Ii e3 hi).trans (F18.1 i h)) (fun k h => (q_Ia e3).trans (F18.2.1 k h)) e12 b1 b2 b3 (fr_x12_isImage e14) e19, fun n => ?_⟩)
    exact absurd ((IMG T b1 b2 RT q14 e14).1.symm.trans c2) n
  · refine REF _ (fun T b1 b2 b3 RT q14 e14 => ?_)
    obtain ⟨i1, i2, i3⟩ := IMG T b1 b2 RT q14 e14
    have q1 : q18.1 = 1 := i2.resolve_left c2
    refine ⟨fun z => absurd (i1.trans z) c2, fun _ => pc_mono m_L26 (fun o ho => ?_)⟩
    obtain ⟨lo, hi, ⟨j1, j2⟩, IGf, TF, OIf⟩ := i3 q1
    obtain ⟨o1, o2, o3, o4, o5, o6, o7⟩ := ho
    have F14 : F_x12_isImage T q14.2 := fr_x12_isImage e14
    have R3 : Rg s3 := e3 ▸ Rg.uI R18 (by show (0 : Int) ≤ 0 ∧ (0 : Int) ≤ 1600; omega)
    have k1421 : gI s3 1421 = gI q18.2 1421 := q_Ii e3 (by decide)
    obtain ⟨R7, B7⟩ := BC_v4 R3 (by rw [k1421]; exact j1) e7
    have F7 : F_x8_become_v4 s3 s7 := fr_x8_become_v4 e7
    have F9 : F_x2_clear s7 s9 := fr_x2_clear e9
    have cl : gI s9 143 = 0 ∧ gI s9 145 = 0 := by
      have k : pc (m_x2_clear s7) (fun o => gI o 143 = 0 ∧ gI o 145 = 0) := by
        unfold m_x2_clear
        exact pc_stn (fun s1 f1 => pc_stn (fun s2 f2 => pc_some ⟨(q_Ii f2 (by decide)).trans (q_II f1), q_II f2⟩))
      exact k s9 e9
    have kI : ∀ i, i ∉ [61, 143, 145, 322, 1060, 1061, 1420, 1421] → gI s9 i = gI x i := fun i hi => by
      rw [F9.1 i (by simp at hi ⊢; omega), F7.1 i (by simp at hi ⊢; omega), (q_Ii e3 (by simp at hi; omega) : gI s3 i = gI q18.2 i), F18.1 i (by simp at hi ⊢; omega)]
    have k60 : gI s9 1060 = (N : Int) := by
      rw [F9.1 1060 (by decide), B7.2.2.2.1, (q_Ii e3 (by decide) : gI s3 1420 = _)]; exact j2
    have o39 : gA o.2 39 = gA t 39 := by rw [o5 39 (by decide), F14.2.1 39 (by decide), b1]
    have T54 : TRf (fun b => b) (fun b => b) (N : Int) s9 54 (gA o.2 49) := by
      have a := TRf_rows TF (o := s3) (fun k _ _ => q_Ia e3)
      have b := TRf_c a B7 (fun y hy l => by
        have nn := (IGf.2.2.1 y hy).1
        have hd : DLa (gA q14.2 113) y := by
          unfold DLa
          have l' : 0 < gA q14.2 113 (17 + 16 * y) ∨ 0 < gA q14.2 113 (18 + 16 * y) := l
          omega
        have t6 : (hLa (gA q14.2 113)).2.1 y ≤ 6 := by
          have t := (IG_there IGf hy hd).2.2.1.2
          omega
        exact t6)
      exact TRf_r (TRf_rows b (fun k _ _ => F9.2.1 k (by simp))) o2
    refine ⟨o1.symm, ?_, fun k hk => ?_, fun z => ?_, fun _ => ⟨?_, ⟨_, _, lo, hi, ?_, OIf o.2 o2⟩, ?_⟩⟩
    · rw [kI 983 (by decide), o7, F14.2.2.1 78 (by simp), b3]; exact B.1
    · rw [F9.2.1 2 (by simp), F7.2.1 2 (by decide), (q_Ia e3 : gA s3 2 = _), F18.2.1 2 (by decide), o5 9 (by decide), F14.2.1 9 (by decide), b1]; exact B.2.1 k hk
    · rw [kI 12 (by decide)] at z; exact absurd z c
    · rw [k60, o39, p5, hN]
    · rw [k60]; exact T54
    · refine ⟨?_, 0, 0, ⟨?_, by decide⟩, ⟨?_, by decide, by decide⟩, ⟨0, by decide, o3, fun k hk => absurd hk (by omega)⟩, fun i hi => absurd hi (by omega)⟩
      · rw [o4, cl.2]
      · rw [cl.1]; rfl
      · rw [cl.2]; rfl
