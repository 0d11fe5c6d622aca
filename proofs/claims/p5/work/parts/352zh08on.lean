/-! ===== on: an image whose trees are good ===== -/
def IM (f : Nat → Int) (N E : Int) : Prop := IG f N E ∧ (0 ≤ f 16 ∧ f 16 ≤ 999999) ∧ (CQ f N 0 ∧ CQ f N 1) ∧ ∀ b, b < 48 → DLa f b → KO f b
theorem IG_lev {f : Nat → Int} {N E : Int} {b : Nat} (H : IG f N E) (hb : b < 48) (hl : 0 < (hLa f).1 b) : DLa f b := by
  have hl' : 0 < f (19 + 16 * b) := hl
  rcases (H.2.2.1 b hb).2 with ⟨_, q⟩ | ⟨q, _⟩
  · have e := q 2 (by omega) (by omega)
    rw [show 17 + 16 * b + 2 = 19 + 16 * b by omega] at e
    omega
  · exact q
theorem IG_US {f : Nat → Int} {N E : Int} (H : IG f N E) : US (hLa f) (kLa f) := by
  intro p hp
  have hE := H.2.1
  have hN := H.1
  by_cases d : DLa f p
  · have t := IG_there H hp d
    exact ⟨by omega, fun hl k hk => by have q := (IG_kid (k := k) H hp d hl hk).1; omega, t.2.2.2⟩
  · rcases (H.2.2.1 p hp).2 with ⟨_, q⟩ | ⟨q, _⟩
    · have e := q 3 (by omega) (by omega)
      rw [show 17 + 16 * p + 3 = 20 + 16 * p by omega] at e
      have e' : (hLa f).2.1 p = 0 := e
      exact ⟨by omega, fun _ k hk => by omega, fun k hk => by omega⟩
    · exact absurd q d
theorem IG_WN {f : Nat → Int} {N E : Int} {c : Nat → Int} (H : IG f N E) (hc : ∀ p, p < 48 → 0 ≤ c p ∧ (0 < c p → DLa f p)) : WN (hLa f) N c ∧ (∀ p, p < 48 → 0 < c p → 1 ≤ (hLa f).2.1 p) := by
  have hE := H.2.1
  refine ⟨fun p hp => ⟨(hc p hp).1, fun h => ?_, fun h => ?_⟩, fun p hp h => (IG_there H hp ((hc p hp).2 h)).2.2.1.1⟩
  · have a := hc p hp
    by_cases z : 0 < c p
    · have t := IG_there H hp (a.2 z)
      omega
    · omega
  · have d := (hc p hp).2 h
    have t := IG_there H hp d
    exact ⟨t.2.1.1, by omega, fun hl k hk => by have q := IG_kid (k := k) H hp d hl hk; exact ⟨q.1, q.2.1⟩⟩
theorem TG_IG {f : Nat → Int} {N E : Int} {c sv r rs : Nat → Int} (H : IG f N E) (hc : ∀ p, p < 48 → 0 ≤ c p ∧ (0 < c p → DLa f p)) (hs : ∀ p, p < 48 → 0 ≤ sv p ∧ (0 < sv p → DLa f p)) (d1 : ∀ x, x < 48 → df (hLa f) c r x = 0) (d2 : ∀ x, x < 48 → df (hLa f) sv rs x = 0) (r1 : RO N r) (r2 : RO N rs) : TG (hLa f) (kLa f) N E c sv r rs (fun _ => 0) (-1) := by
  obtain ⟨w1, n1⟩ := IG_WN H hc
  obtain ⟨w2, n2⟩ := IG_WN H hs
  refine ⟨⟨H.1.2, w1, w2, IG_US H⟩, ⟨d1, d2⟩, ⟨fun p hp h _ => n1 p hp h, n2⟩, ⟨r1, r2⟩, fun p hp h => ?_⟩
  have t := IG_there H hp (h.elim (fun q => (hc p hp).2 q) (fun q => (hs p hp).2 q))
  exact ⟨t.2.2.1.2, t.2.2.2⟩
/-- the row of a root's tree -/
def muR (f : Nat → Int) (q : Int) (x : Nat) : Int := if q < 254 then muL (hLa f) ((hLa f).1 q.toNat).toNat q.toNat x else 0
theorem muR_TG {f : Nat → Int} {N E : Int} {q : Int} (H : IM f N E) (hq : 254 ≤ q ∨ ((0 ≤ q ∧ q < N) ∧ DLa f q.toNat)) : TG (hLa f) (kLa f) N E (muR f q) (muR f q) (sr q) (sr q) (fun _ => 0) (-1) ∧ ∀ x, x < 48 → muR f q x ≤ 1 := by
  have hN := H.1.1
  by_cases z : 254 ≤ q
  · have e : muR f q = fun _ => 0 := by
      funext x
      unfold muR
      exact if_neg (by omega)
    rw [e]
    exact ⟨TG_nil hN.2 (IG_US H.1) z, fun x _ => by show (0 : Int) ≤ 1; omega⟩
  · obtain ⟨hq1, hd⟩ : (0 ≤ q ∧ q < N) ∧ DLa f q.toNat := by
      rcases hq with w | w
      · omega
      · exact w
    have b48 : q.toNat < 48 := by omega
    have t := IG_there H.1 b48 hd
    have hl : (hLa f).1 q.toNat = ((((hLa f).1 q.toNat).toNat : Nat) : Int) := by omega
    have ko := H.2.2.2 q.toNat b48 hd _ hl
    have mv := MV_L H.1 b48 hd hl ko
    rw [show ((q.toNat : Nat) : Int) = q by omega] at mv
    have e : muR f q = muL (hLa f) ((hLa f).1 q.toNat).toNat q.toNat := by
      funext x
      unfold muR
      exact if_pos (by omega)
    rw [e]
    have hc : ∀ p, p < 48 → 0 ≤ muL (hLa f) ((hLa f).1 q.toNat).toNat q.toNat p ∧ (0 < muL (hLa f) ((hLa f).1 q.toNat).toNat q.toNat p → DLa f p) := fun p hp => ⟨muL_nn _ _ _ _, fun w => (muL_in H.1 _ q.toNat b48 hd hl p hp w).1⟩
    have ro : RO N (sr q) := fun v _ => by
      unfold sr
      by_cases g : v = 0
      · rw [if_pos g]; omega
      · rw [if_neg g]; omega
    exact ⟨TG_IG H.1 hc hc mv.2 mv.2 ro ro, ko⟩
/-- a root is none, or a block that is there -/
theorem CQ_root {f : Nat → Int} {N E : Int} {w v : Nat} (H : IG f N E) (hw : w < 2) (C : CQ f N w) (hv : v < 8) : 254 ≤ rLa f w v ∨ ((0 ≤ rLa f w v ∧ rLa f w v < N) ∧ DLa f (rLa f w v).toNat) := by
  have hN := H.1
  have b : 0 ≤ rLa f w v := by
    have q := H.2.2.2.2.2 (8 * w + v) (by omega)
    show 0 ≤ if v < 8 then f (8 * w + v) else 0
    rw [if_pos hv]; exact q.1
  rcases C.1 v hv with q | q | q
  · refine Or.inr ⟨q, ?_⟩
    have x48 : (rLa f w v).toNat < 48 := by omega
    have d := C.2 (rLa f w v).toNat x48
    have rp := rr_pos (r := rLa f w) hv
    have sn := sm_nn (n := 48) (f := fun p => if 0 < cLa f w p then en (hLa f) p (rLa f w v) else 0) (fun j _ => by
      show 0 ≤ if 0 < cLa f w j then en (hLa f) j (rLa f w v) else 0
      split
      · exact en_nn _ j _
      · exact Int.le_refl 0)
    unfold df rf at d
    rw [show (((rLa f w v).toNat : Nat) : Int) = rLa f w v by omega] at d
    exact (cLa_nn H hw x48).2.2.2 (by omega)
  · omega
  · exact Or.inl q
theorem RT_IM {X : MS} {f : Nat → Int} {N E : Int} (e49 : gA X 49 = f) (e5 : gA X 39 5 = N) (e6 : gA X 39 6 = E) (H : IM f N E) : RT X := by
  have eh : hM X = hLa f := by rw [← e49]; rfl
  have ek : kM X = kLa f := by rw [← e49]; rfl
  have c0 := fun p hp => cLa_nn (w := 0) (p := p) H.1 (by decide) hp
  have c1 := fun p hp => cLa_nn (w := 1) (p := p) H.1 (by decide) hp
  refine ⟨?_, fun u => muR f (f u), fun u hu => ?_, fun u hu => ?_⟩
  · have T := TG_IG (c := cLa f 0) (sv := cLa f 1) (r := rLa f 0) (rs := rLa f 1) H.1 (fun p hp => ⟨(c0 p hp).1, fun h => (c0 p hp).2.2.2 (by omega)⟩) (fun p hp => ⟨(c1 p hp).1, fun h => (c1 p hp).2.2.2 (by omega)⟩) H.2.2.1.1.2 H.2.2.1.2.2 H.2.2.1.1.1 H.2.2.1.2.1
    refine TM_mk T eh ek e5 e6 ?_ ?_ ?_ ?_
    · funext p
      show gA X 49 (17 + 16 * p) = f (17 + 16 * p + 0)
      rw [e49, show 17 + 16 * p + 0 = 17 + 16 * p by omega]
    · funext p
      show gA X 49 (18 + 16 * p) = f (17 + 16 * p + 1)
      rw [e49, show 17 + 16 * p + 1 = 18 + 16 * p by omega]
    · funext v
      show (if v < 8 then gA X 49 v else 0) = if v < 8 then f (8 * 0 + v) else 0
      rw [e49, show 8 * 0 + v = v by omega]
    · funext v
      show (if v < 8 then gA X 49 (8 + v) else 0) = if v < 8 then f (8 * 1 + v) else 0
      rw [e49, show 8 * 1 + v = 8 + v by omega]
  · rw [eh, ek, e5, e6, e49]
    refine (muR_TG H ?_).1
    by_cases z : u < 8
    · have q := CQ_root (w := 0) (v := u) H.1 (by decide) H.2.2.1.1 z
      have e : rLa f 0 u = f u := by
        show (if u < 8 then f (8 * 0 + u) else 0) = f u
        rw [if_pos z, show 8 * 0 + u = u by omega]
      rw [e] at q; exact q
    · have q := CQ_root (w := 1) (v := u - 8) H.1 (by decide) H.2.2.1.2 (by omega)
      have e : rLa f 1 (u - 8) = f u := by
        show (if u - 8 < 8 then f (8 * 1 + (u - 8)) else 0) = f u
        rw [if_pos (by omega), show 8 * 1 + (u - 8) = u by omega]
      rw [e] at q; exact q
  · refine (muR_TG H ?_).2
    by_cases z : u < 8
    · have q := CQ_root (w := 0) (v := u) H.1 (by decide) H.2.2.1.1 z
      have e : rLa f 0 u = f u := by
        show (if u < 8 then f (8 * 0 + u) else 0) = f u
        rw [if_pos z, show 8 * 0 + u = u by omega]
      rw [e] at q; exact q
    · have q := CQ_root (w := 1) (v := u - 8) H.1 (by decide) H.2.2.1.2 (by omega)
      have e : rLa f 1 (u - 8) = f u := by
        show (if u - 8 < 8 then f (8 * 1 + (u - 8)) else 0) = f u
        rw [if_pos (by omega), show 8 * 1 + (u - 8) = u by omega]
      rw [e] at q; exact q
set_option maxHeartbeats 2000000 in
theorem mt_isImage {p0 : Int} {s : MS} (hRs : Rr s) (hp : 0 ≤ p0 ∧ p0 ≤ 1600) (hNE : gI s 47 ≠ 0 → (0 ≤ gA s 39 5 ∧ gA s 39 5 ≤ 48) ∧ (3 ≤ gA s 39 6 ∧ gA s 39 6 ≤ 6)) : wp (m_x12_isImage p0 s) (fun q => Rr q.2 ∧ F_x12_isImage s q.2 ∧ (q.1 = 0 ∨ (q.1 = 1 ∧ gI s 47 ≠ 0 ∧ IM (gA q.2 113) (gA s 39 5) (gA s 39 6)))) := by
  obtain ⟨N, hN⟩ : ∃ N, N = gA s 39 5 := ⟨_, rfl⟩
  obtain ⟨E, hE⟩ : ∃ E, E = gA s 39 6 := ⟨_, rfl⟩
  rw [← hN, ← hE] at hNE
  rw [← hN, ← hE]
  have r47 : (0 : Int) ≤ gI s 47 ∧ gI s 47 ≤ 1 := hRs.1 47
  have key : wp (m_x12_isImage p0 s) (fun q => Rr q.2 ∧ (q.1 = 0 ∨ (q.1 = 1 ∧ gI s 47 ≠ 0 ∧ IM (gA q.2 113) N E))) := by
    have L92 : gI s 47 ≠ 0 → ∀ f : Nat → Int, IG f N E → (0 ≤ f 16 ∧ f 16 ≤ 999999) → CQ f N 0 → CQ f N 1 → ∀ (n : Nat) (x : Int) (S : MS), Rr S → gA S 113 = f → gA S 39 5 = N → (1 ≤ x ∧ x ≤ 256) → (∀ b, b < 48 → DLa f b → (hLa f).1 b < x → KO f b) → 256 - x < (n : Int) → wp (m_x12_isImage_L92 n x S) (fun q => Rr q.2 ∧ (q.1 = 0 ∨ (q.1 = 1 ∧ gI s 47 ≠ 0 ∧ IM (gA q.2 113) N E))) := by
      intro h47 f H h16 C0 C1
      have n48 := H.1
      refine fr_ind (fun x S hRS h113 h39 hx hK hm => by exfalso; omega) (fun n ih x S hRS h113 h39 hx hK hm => ?_)
      show wp (m_x12_isImage_b92 (m_x12_isImage_L92 n) x S) _
      unfold m_x12_isImage_b92
      refine wp_rg (by omega) (wp_if (fun c1 => wp_some ⟨hRS, Or.inr ⟨rfl, h47, ?_⟩⟩) (fun c1 => ?_))
      · show IM (gA S 113) N E
        rw [h113]
        exact ⟨H, h16, ⟨C0, C1⟩, fun b hb hd => hK b hb hd (by have t := IG_there H hb hd; omega)⟩
      have L101 : ∀ (m : Nat) (y : Int) (T : MS), Rr T → gA T 113 = f → gA T 39 5 = N → (0 ≤ y ∧ y ≤ N) → (∀ b : Nat, (b : Int) < y → DLa f b → (hLa f).1 b = x → KO f b) → 48 - y < (m : Int) → wp (m_x12_isImage_L101 (m_x12_isImage_L92 n) m x y T) (fun q => Rr q.2 ∧ (q.1 = 0 ∨ (q.1 = 1 ∧ gI s 47 ≠ 0 ∧ IM (gA q.2 113) N E))) := by
        refine fr_ind (fun y T hRT t113 t39 hy hY hm2 => by exfalso; omega) (fun m ihm y T hRT t113 t39 hy hY hm2 => ?_)
        show wp (m_x12_isImage_b101 (m_x12_isImage_L92 n) (m_x12_isImage_L101 (m_x12_isImage_L92 n) m) x y T) _
        unfold m_x12_isImage_b101
        refine wp_bn (w_x12_blockMany hRT) (fun r10 e10 h10 => ?_)
        have h10 : r10 = gA T 39 5 := h10
        rw [t39] at h10
        refine wp_rg (by omega) (wp_rg (by omega) (wp_if (fun c2 => ?_) (fun c2 => ?_)))
        · refine ih (x + 1) T hRT t113 t39 (by omega) (fun b hb hd hl => ?_) (by omega)
          by_cases z : (hLa f).1 b < x
          · exact hK b hb hd z
          · have t := IG_there H hb hd
            exact hY b (by omega) hd (by omega)
        · refine wp_bn (ld_lev hRT t113 (by omega)) (fun r15 e15 h15 => ?_)
          have v15 := h15.1
          have b48 : y.toNat < 48 := by omega
          refine wp_rg h15.2 (wp_rg (by omega) (wp_if (fun c3 => ?_) (fun c3 => ?_)))
          · have dy := IG_lev H b48 (by omega)
            refine wp_bn (mt_areKeys (N := N) (E := E) hRT (by rw [t113]; exact H) (by omega) (by rw [t113]; exact dy) (by rw [t113]; omega) (by
              rw [t113]
              intro k hk
              have kd := IG_kid (k := k) H b48 dy (by omega) hk
              exact hK _ (by omega) kd.2.2 (by omega))) (fun q21 e21 h21 => ?_)
            obtain ⟨r21, s21⟩ := q21
            obtain ⟨hR21, F21, h21⟩ := h21
            dsimp only at hR21 F21 h21 ⊢
            rw [t113] at h21
            have f39 : gA s21 39 = gA T 39 := F21.2.1 39 (by decide)
            refine wp_rg (by omega) (wp_if (fun c4 => wp_some ⟨hR21, Or.inl rfl⟩) (fun c4 => ?_))
            unfold m_x12_isImage_J129
            refine ihm (y + 1) s21 hR21 ((F21.2.1 113 (by decide)).trans t113) (by rw [f39]; exact t39) (by omega) (fun b hb hd hl => ?_) (by omega)
            by_cases z : b = y.toNat
            · rw [z]
              rcases h21 with q | q
              · omega
              · exact q.2
            · exact hY b (by omega) hd hl
          · unfold m_x12_isImage_J129
            refine ihm (y + 1) T hRT t113 t39 (by omega) (fun b hb hd hl => ?_) (by omega)
            by_cases z : b = y.toNat
            · rw [z] at hl; omega
            · exact hY b (by omega) hd hl
      exact L101 FU 0 S hRS h113 h39 (by omega) (fun b hb => by omega) (by have := FU_big; omega)
    have L48 : gI s 47 ≠ 0 → ∀ (n : Nat) (x : Int) (S : MS), Rr S → gA S 39 = gA s 39 → LBs S → (0 ≤ gA S 113 16 ∧ gA S 113 16 ≤ 999999) → (∀ u, u < 16 → 0 ≤ gA S 113 u ∧ gA S 113 u ≤ 255) → (∀ b : Nat, b < 48 → gA S 39 5 ≤ (b : Int) → gA S 113 (17 + 16 * b) = 0 ∧ gA S 113 (18 + 16 * b) = 0) → (0 ≤ x ∧ x ≤ N) → (∀ b : Nat, (b : Int) < x → ∀ k : Nat, (k : Int) < gA S 113 (20 + 16 * b) → AV1 (gA S 113) N b k) → 48 - x < (n : Int) → wp (m_x12_isImage_L48 n x S) (fun q => Rr q.2 ∧ (q.1 = 0 ∨ (q.1 = 1 ∧ gI s 47 ≠ 0 ∧ IM (gA q.2 113) N E))) := by
      intro h47
      have ne := hNE h47
      refine fr_ind (fun x S hRS h39 hLB h16 hro hz hx hA hm => by exfalso; omega) (fun n ih x S hRS h39 hLB h16 hro hz hx hA hm => ?_)
      show wp (m_x12_isImage_b48 (m_x12_isImage_L48 n) x S) _
      unfold m_x12_isImage_b48
      have g5 : gA S 39 5 = N := by rw [h39, hN]
      have g6 : gA S 39 6 = E := by rw [h39, hE]
      refine wp_bn (w_x12_blockMany hRS) (fun r30 e30 h30 => ?_)
      have h30 : r30 = gA S 39 5 := h30
      rw [g5] at h30
      refine wp_rg (by omega) (wp_rg (by omega) (wp_if (fun c1 => ?_) (fun c1 => ?_)))
      · have hl := hLB.2.2
        rw [g6] at hl
        rw [g5] at hz
        have G : IG (gA S 113) N E := ⟨ne.1, ne.2, hl, hz, fun b hb => hA b (by omega), hro⟩
        refine wp_bn (mt_areCounts (p0 := 0) (E := E) hRS (by rw [g5]; exact G) (Or.inl rfl)) (fun q36 e36 h36 => ?_)
        obtain ⟨r36, s36⟩ := q36
        obtain ⟨hR36, F36, h36⟩ := h36
        dsimp only at hR36 F36 h36 ⊢
        rw [g5] at h36
        have a113 : gA s36 113 = gA S 113 := F36.2.1 113 (by decide)
        have a39 : gA s36 39 = gA S 39 := F36.2.1 39 (by decide)
        refine wp_rg (by omega) (wp_if (fun c2 => ?_) (fun c2 => ?_))
        · unfold m_x12_isImage_J88
          exact wp_some ⟨hR36, Or.inl rfl⟩
        have C0 : CQ (gA S 113) N 0 := by
          rcases h36 with q | q
          · omega
          · exact q.2
        refine wp_bn (mt_areCounts (p0 := 1) (E := E) hR36 (by rw [a113, a39, g5]; exact G) (Or.inr rfl)) (fun q41 e41 h41 => ?_)
        obtain ⟨r41, s41⟩ := q41
        obtain ⟨hR41, F41, h41⟩ := h41
        dsimp only at hR41 F41 h41 ⊢
        rw [a113, a39, g5] at h41
        have b113 : gA s41 113 = gA S 113 := (F41.2.1 113 (by decide)).trans a113
        have b39 : gA s41 39 = gA S 39 := (F41.2.1 39 (by decide)).trans a39
        refine wp_rg (by omega) (wp_if (fun c3 => ?_) (fun c3 => ?_))
        · unfold m_x12_isImage_J88
          exact wp_some ⟨hR41, Or.inl rfl⟩
        have C1 : CQ (gA S 113) N 1 := by
          rcases h41 with q | q
          · omega
          · exact q.2
        exact L92 h47 (gA S 113) G h16 C0 C1 FU 1 s41 hR41 b113 (by rw [b39]; exact g5) (by omega) (fun b hb hd hl => KO_0 (by have t := IG_there G hb hd; omega)) (by have := FU_big; omega)
      · refine wp_bn (w_x12_areValues hRS (by omega) hLB) (fun r45 e45 h45 => ?_)
        have h45 : r45 = 0 ∨ (r45 = 1 ∧ ∀ k : Nat, (k : Int) < gA S 113 (20 + 16 * x.toNat) → AV1 (gA S 113) (gA S 39 5) x.toNat k) := h45
        rw [g5] at h45
        refine wp_rg (by omega) (wp_if (fun c2 => wp_some ⟨hRS, Or.inl rfl⟩) (fun c2 => ?_))
        refine ih (x + 1) S hRS h39 hLB h16 hro hz (by omega) (fun b hb => ?_) (by omega)
        by_cases z : b = x.toNat
        · rw [z]
          rcases h45 with q | q
          · omega
          · exact q.2
        · exact hA b (by omega)
    unfold m_x12_isImage
    unfold m_x12_isImage_J44
    refine wp_rg (by omega) (wp_if (fun c1 => wp_some ⟨hRs, Or.inl rfl⟩) (fun c1 => ?_))
    have ne := hNE c1
    refine wp_rg (by omega) (wp_if (fun c2 => wp_some ⟨hRs, Or.inl rfl⟩) (fun c2 => ?_))
    refine wp_rdIn (by omega) (fun y53 e53 => ?_)
    have b53 : (0 : Int) ≤ y53 ∧ y53 ≤ 255 := e53 ▸ hRs.2.1 0 _ (by show _ < 1600; omega)
    refine wp_bn (w_x12_checked_v2 hRs (by omega)) (fun r55 e55 h55 => ?_)
    have h55 : (-251) ≤ r55 ∧ r55 ≤ 251 := h55
    refine wp_rg (by omega) (wp_rg (by omega) (wp_if (fun c3 => ?_) (fun c3 => wp_some ⟨hRs, Or.inl rfl⟩)))
    refine wp_bn (w_x12_isLaid hRs (by omega) (by rw [← hN]; exact ne.1) (by rw [← hE]; exact ne.2)) (fun q61 e61 h61 => ?_)
    have F61 : F_x12_isLaid s q61.2 := fr_x12_isLaid e61
    obtain ⟨r61, s61⟩ := q61
    obtain ⟨hR61, h61⟩ := h61
    dsimp only at hR61 F61 h61 ⊢
    have a39 : gA s61 39 = gA s 39 := F61.2.1 39 (by decide)
    refine wp_rg (by omega) (wp_if (fun c4 => wp_some ⟨hR61, Or.inl rfl⟩) (fun c4 => ?_))
    rcases h61 with q | ⟨_, q1, q2, q3, q4⟩
    · exact absurd q c4
    · exact L48 c1 FU 0 s61 hR61 a39 q1 q2 q3 q4 (by omega) (fun b hb => by omega) (by have := FU_big; omega)
  exact wp_eq key (fun o eo ho => ⟨ho.1, fr_x12_isImage eo, ho.2⟩)
set_option maxHeartbeats 2000000 in
theorem mt_on {s : MS} (hRs : Rr s) (hJ : JI s) : wp (m_x12_on s) (fun q => Rr q.2 ∧ JI q.2 ∧ gI q.2 1 = 0) := by
  have r1 : (0 : Int) ≤ gI s 1 ∧ gI s 1 ≤ 1600 := hRs.1 1
  unfold m_x12_on
  refine wp_stn (fun s11 e11 => ?_)
  have hR11 : Rr s11 := e11 ▸ Rr.uI hRs (by show (0 : Int) ≤ 0 ∧ (0 : Int) ≤ 1600; omega)
  have i47 : gI s11 47 = gI s 47 := q_Ii e11 (by decide)
  have i76 : gI s11 76 = gI s 76 := q_Ii e11 (by decide)
  have i77 : gI s11 77 = gI s 77 := q_Ii e11 (by decide)
  have i1 : gI s11 1 = 0 := q_II e11
  have a11 : ∀ k, gA s11 k = gA s k := fun k => q_Ia e11
  have l11 : ∀ k, gL s11 k = gL s k := fun k => q_Il e11
  refine wp_bn (mt_isImage hR11 r1 (fun h => by
    rw [a11 39]
    have g := JI_GA hJ (by rw [← i47]; exact h)
    have q := g.1.2.1
    omega)) (fun q14 e14 h14 => ?_)
  obtain ⟨r14, s14⟩ := q14
  obtain ⟨hR14, F14, h14⟩ := h14
  dsimp only at hR14 F14 h14 ⊢
  rw [a11 39] at h14
  have kr14 : KR s s14 := ⟨(F14.2.1 39 (by decide)).trans (a11 39), (F14.2.1 42 (by decide)).trans (a11 42), (F14.2.1 43 (by decide)).trans (a11 43), (F14.2.1 44 (by decide)).trans (a11 44)⟩
  have b49 : gA s14 49 = gA s 49 := (F14.2.1 49 (by decide)).trans (a11 49)
  have b75 : gA s14 75 = gA s 75 := (F14.2.1 75 (by decide)).trans (a11 75)
  have b76 : gI s14 76 = gI s 76 := (F14.1 76 (by decide)).trans i76
  have b77 : gI s14 77 = gI s 77 := (F14.1 77 (by decide)).trans i77
  have b47 : gI s14 47 = gI s 47 := (F14.1 47 (by decide)).trans i47
  have b1 : gI s14 1 = 0 := (F14.1 1 (by decide)).trans i1
  have bL : gL s14 78 = gL s 78 := (F14.2.2.1 78 (by decide)).trans (l11 78)
  refine wp_rg (by omega) (wp_if (fun c1 => ?_) (fun c1 => ?_))
  · refine wp_bn (w_x12_isRefused hR14 (by omega)) (fun q19 e19 h19 => ?_)
    have F19 : F_x12_isRefused s14 q19.2 := fr_x12_isRefused e19
    obtain ⟨r19, s19⟩ := q19
    obtain ⟨hR19, h19⟩ := h19
    dsimp only at hR19 F19 h19 ⊢
    have kr : KR s s19 := KR_t kr14 ⟨F19.2.1 39 (by decide), F19.2.1 42 (by decide), F19.2.1 43 (by decide), F19.2.1 44 (by decide)⟩
    exact wp_bo (by omega) (wp_some ⟨hR19, JI_eq hJ kr ((F19.2.1 49 (by decide)).trans b49) ((F19.2.1 75 (by decide)).trans b75) ((F19.1 76 (by decide)).trans b76) ((F19.1 77 (by decide)).trans b77) ((F19.1 47 (by decide)).trans b47) ((F19.2.2.1 78 (by decide)).trans bL), (F19.1 1 (by decide)).trans b1⟩)
  · obtain ⟨h47, him⟩ : gI s11 47 ≠ 0 ∧ IM (gA s14 113) (gA s 39 5) (gA s 39 6) := by
      rcases h14 with q | q
      · exact absurd q c1
      · exact q.2
    rw [i47] at h47
    obtain ⟨f, hf⟩ : ∃ f, f = gA s14 113 := ⟨_, rfl⟩
    rw [← hf] at him
    have ga := JI_GA hJ h47
    have L26 : ∀ (n : Nat) (x : Int) (S : MS), Rr S → KR s S → gA S 113 = f → gI S 47 = gI s 47 → gI S 1 = 0 → gL S 78 = gL s 78 → (0 ≤ x ∧ x ≤ 785) → (∀ j : Nat, (j : Int) < x → gA S 49 j = f j) → 785 - x < (n : Int) → wp (m_x12_on_L26 n x S) (fun q => Rr q.2 ∧ JI q.2 ∧ gI q.2 1 = 0) := by
      refine fr_ind (fun x S hRS hk h113 s47 s1 sL hx hj hm => by exfalso; omega) (fun n ih x S hRS hk h113 s47 s1 sL hx hj hm => ?_)
      show wp (m_x12_on_b26 (m_x12_on_L26 n) x S) _
      unfold m_x12_on_b26
      refine wp_rg (by omega) (wp_if (fun c2 => ?_) (fun c2 => ?_))
      · refine wp_inb (by omega) (wp_stn (fun s6 e6 => wp_stn (fun s7 e7 => ?_)))
        have hR6 : Rr s6 := e6 ▸ Rr.uAu hRS (by show (-2147483648 : Int) ≤ 0 ∧ (0 : Int) ≤ 2147483647; omega)
        have hR7 : Rr s7 := e7 ▸ Rr.uI hR6 (by show (0 : Int) ≤ 0 ∧ (0 : Int) ≤ 20; omega)
        have u49 : gA s7 49 = upZ (gA S 49) 785 0 := (q_Ia e7).trans (q_AA e6)
        have uA : ∀ k, k ≠ 49 → gA s7 k = gA S k := fun k hk => (q_Ia e7).trans (q_Aa e6 hk)
        have kr : KR s s7 := KR_t hk ⟨uA 39 (by decide), uA 42 (by decide), uA 43 (by decide), uA 44 (by decide)⟩
        have u47 : gI s7 47 = gI s 47 := (q_Ii e7 (by decide)).trans ((q_Ai e6).trans s47)
        have u1 : gI s7 1 = 0 := (q_Ii e7 (by decide)).trans ((q_Ai e6).trans s1)
        have u76 : gI s7 76 = 0 := q_II e7
        have uL : gL s7 78 = gL s 78 := (q_Il e7).trans ((q_Al e6).trans sL)
        have g49 : ∀ j, j < 785 → gA s7 49 j = f j := fun j h => by rw [u49, upZ_n (by omega)]; exact hj j (by omega)
        have hT0 : RT (sA s 49 f) := RT_IM (by rw [gA_sA, if_pos rfl]) (by rw [gA_sA, if_neg (by decide)]) (by rw [gA_sA, if_neg (by decide)]) him
        have hT : RT s7 := RT_x hT0 (fun k hk2 => by rw [g49 k hk2, gA_sA, if_pos rfl]) (by rw [gA_sA, if_neg (by decide), kr.1]) (by rw [gA_sA, if_neg (by decide), kr.1])
        have hB : RB_r s7 := fun u hu => by rw [g49 u (by omega)]; exact him.1.2.2.2.2.2 u hu
        have G : GA s7 := ⟨GN_k ga.1 kr hT hB, JR_0 (by omega), by rw [g49 16 (by omega)]; exact him.2.1, by rw [u49, upZ_s]; omega⟩
        exact wp_some ⟨hR7, GA_JI hJ h47 kr.1 (by rw [uL]; exact hJ.2.1) u47 G, u1⟩
      · refine wp_rdIn (by omega) (fun y8 e8 => ?_)
        have r8 : R2 y8 := e8 ▸ hRS.2.1 113 _ (by show _ < 785; omega)
        refine wp_inb (by omega) (wp_stn (fun s10 e10 => ?_))
        have hR10 : Rr s10 := e10 ▸ Rr.uAu hRS (by show (-2147483648 : Int) ≤ y8 ∧ y8 ≤ 2147483647; omega)
        have u49 : gA s10 49 = upZ (gA S 49) x.toNat y8 := q_AA e10
        have uA : ∀ k, k ≠ 49 → gA s10 k = gA S k := fun k hk => q_Aa e10 hk
        refine ih (x + 1) s10 hR10 (KR_t hk ⟨uA 39 (by decide), uA 42 (by decide), uA 43 (by decide), uA 44 (by decide)⟩) ((uA 113 (by decide)).trans h113) ((q_Ai e10).trans s47) ((q_Ai e10).trans s1) ((q_Al e10).trans sL) (by omega) (fun j hj2 => ?_) (by omega)
        rw [u49]
        by_cases z : j = x.toNat
        · rw [z, upZ_s, ← e8, h113]
        · rw [upZ_n z]; exact hj j (by omega)
    exact L26 FU 0 s14 hR14 kr14 hf.symm b47 b1 bL (by omega) (fun j hj => by omega) (by have := FU_big; omega)
