theorem w_slot {p0 p1 : Int} {s : MS} : wp (m_x8_slot p0 p1 s) (fun r => r = p0 * 6 + p1) := wp_some rfl
def RI (s S : MS) (C : Nat) (p0 f i : Int) (E : Nat → Int) : Prop := Rg S ∧ (gA S 56 = gA s 56 ∧ gA S 57 = gA s 57 ∧ gA S 59 = gA s 59) ∧ (0 ≤ i ∧ i ≤ f ∧ f + pos (gA S C) ≤ 48) ∧ RelI (hN s) (gA s 60) (gA s C) p0 (gA S C) E ∧ (∀ j : Nat, (j : Int) < f → 0 ≤ gA S 50 j ∧ gA S 50 j < gI s 1060 ∧ 0 < gA s C (gA S 50 j).toNat ∧ gA s 56 (gA S 50 j).toNat ≤ gA s 56 p0.toNat) ∧ (∀ x : Nat, x < 48 → gA s 56 p0.toNat ≤ gA s 56 x → x ≠ p0.toNat → gA S C x = gA s C x)
set_option maxHeartbeats 1000000 in
theorem w_x1_release_v2 {p0 : Int} {s : MS} (hRs : Rg s) (hW : WN (hN s) (gI s 1060) (gA s 54)) (hp : 0 ≤ p0 ∧ p0 < gI s 1060) (hc : 0 < gA s 54 p0.toNat) (hD : ∀ x, x < 48 → 0 ≤ df (hN s) (gA s 54) (gA s 60) x) : wp (m_x1_release_v2 p0 s) (fun q => (Rg q.2) ∧ (RelI (hN s) (gA s 60) (gA s 54) p0 (gA q.2 54) (fun _ => 0)) ∧ (0 ≤ q.1 ∧ q.1 ≤ 48) ∧ (∀ x : Nat, x < 48 → gA s 56 p0.toNat ≤ gA s 56 x → x ≠ p0.toNat → gA q.2 54 x = gA s 54 x)) := by
  have hN48 : gI s 1060 ≤ 48 := (hRs.1 1060).2
  have L28 : ∀ (n : Nat) (f i : Int) (S : MS), RI s S 54 p0 f i (fun x => pn (hN s) (gA S 50) i f x) → 48 - i < (n : Int) → wp (m_x1_release_v2_L28 n f i S) (fun q => (Rg q.2) ∧ (RelI (hN s) (gA s 60) (gA s 54) p0 (gA q.2 54) (fun _ => 0)) ∧ (0 ≤ q.1 ∧ q.1 ≤ 48) ∧ (∀ x : Nat, x < 48 → gA s 56 p0.toNat ≤ gA s 56 x → x ≠ p0.toNat → gA q.2 54 x = gA s 54 x)) := by
    refine fr_ind (fun f i S H hm => ?_) (fun n ih f i S H hm => ?_)
    · exfalso
      have h1 := H.2.2.1
      have h2 := pos_b (gA S 54)
      omega
    · show wp (m_x1_release_v2_b28 (m_x1_release_v2_L28 n) f i S) _
      unfold m_x1_release_v2_b28 m_x1_release_v2_J160
      obtain ⟨hR, ⟨q1, q2, q3⟩, hb, hr, hch, hlv⟩ := H
      have hpos := pos_b (gA S 54)
      refine wp_rg (by omega) (wp_rg (by omega) (wp_if (fun c1 => ?_) (fun c1 => ?_)))
      · exact wp_some ⟨hR, RelI_E hr (fun x _ => (pn_0 c1).symm), by show 0 ≤ f ∧ f ≤ 48; omega, hlv⟩
      · refine wp_rg (by omega) (wp_if (fun c2 => by omega) (fun c2 => ?_))
        refine wp_rdIn (by omega) (fun y42 e42 => ?_)
        have i2 := hch i.toNat (by omega)
        rw [e42] at i2
        refine wp_rdIn (by omega) (fun y43 e43 => ?_)
        have r43 : (-1 : Int) ≤ y43 ∧ y43 ≤ 1000 := e43 ▸ hR.2.1 56 _ (by show _ < 48; omega)
        rw [q1] at e43
        have nd := (hW y42.toNat (by omega)).2.2 i2.2.2.1
        have nz : 0 ≤ gA s 57 y42.toNat ∧ gA s 57 y42.toNat ≤ 6 := nd.2.1
        have hE : ∀ x, x < 48 → pn (hN s) (gA S 50) (i + 1) f x + enf (hN s) (gA S 50 i.toNat).toNat 0 (x : Int) = pn (hN s) (gA S 50) i f x := fun x _ => (pn_first (by omega) (by omega) (by omega)).symm
        have H2 : RI s S 54 p0 f (i + 1) (fun x => pn (hN s) (gA S 50) (i + 1) f x + enf (hN s) (gA S 50 i.toNat).toNat 0 (x : Int)) := ⟨hR, ⟨q1, q2, q3⟩, by omega, RelI_E hr hE, hch, hlv⟩
        have L83 : ∀ (m : Nat) (f e k : Int) (S : MS), RI s S 54 p0 f (i + 1) (fun x => pn (hN s) (gA S 50) (i + 1) f x + enf (hN s) (gA S 50 i.toNat).toNat k (x : Int)) → (gA S 50 i.toNat = y42) → (0 ≤ k ∧ k ≤ e) → ((0 < gA s 56 y42.toNat ∧ e = gA s 57 y42.toNat) ∨ (gA s 56 y42.toNat ≤ 0 ∧ e = 0)) → e - k < (m : Int) → wp (m_x1_release_v2_L83 (m_x1_release_v2_L28 n) m f i e k S) (fun q => (Rg q.2) ∧ (RelI (hN s) (gA s 60) (gA s 54) p0 (gA q.2 54) (fun _ => 0)) ∧ (0 ≤ q.1 ∧ q.1 ≤ 48) ∧ (∀ x : Nat, x < 48 → gA s 56 p0.toNat ≤ gA s 56 x → x ≠ p0.toNat → gA q.2 54 x = gA s 54 x)) := by
          refine fr_ind (fun f e k S H h1 h2 h3 hm => ?_) (fun m ihm f e k S H h1 h2 h3 hm => ?_)
          · exfalso; omega
          · show wp (m_x1_release_v2_b83 (m_x1_release_v2_L28 n) (m_x1_release_v2_L83 (m_x1_release_v2_L28 n) m) f i e k S) _
            unfold m_x1_release_v2_b83 m_x1_release_v2_J148
            obtain ⟨hR, ⟨q1, q2, q3⟩, hb, hr, hch, hlv⟩ := H
            have hpos := pos_b (gA S 54)
            refine wp_rg (by omega) (wp_rg (by omega) (wp_if (fun c3 => ?_) (fun c3 => ?_)))
            · refine ih f (i + 1) S ⟨hR, ⟨q1, q2, q3⟩, by omega, RelI_E hr (fun x _ => ?_), hch, hlv⟩ (by omega)
              show pn (hN s) (gA S 50) (i + 1) f x = pn (hN s) (gA S 50) (i + 1) f x + enf (hN s) (gA S 50 i.toNat).toNat k (x : Int)
              have : enf (hN s) y42.toNat k (x : Int) = 0 := by
                rcases h3 with h3 | h3
                · exact enf_end (by show gA s 57 y42.toNat ≤ k; omega)
                · unfold enf; exact if_neg (by show ¬ 0 < gA s 56 y42.toNat; omega)
              rw [h1, this]; omega
            · have hl : 0 < gA s 56 y42.toNat := by rcases h3 with h3 | h3 <;> omega
              have he : e = gA s 57 y42.toNat := by omega
              refine wp_rdIn (by omega) (fun y19 e19 => ?_)
              rw [h1] at e19
              rw [← e19]
              refine wp_bn w_slot (fun r21 _ h21 => ?_)
              refine wp_rdIn (by omega) (fun y22 e22 => ?_)
              have ev : (hN s).2.2 y42.toNat k.toNat = y22 := by
                show gA s 59 (6 * y42.toNat + k.toNat) = y22
                rw [← e22, q3, show r21.toNat = 6 * y42.toNat + k.toNat by omega]
              have hkz : ((k.toNat : Nat) : Int) < (hN s).2.1 y42.toNat := by show ((k.toNat : Nat) : Int) < gA s 57 y42.toNat; omega
              have kd := nd.2.2 hl k.toNat hkz
              rw [ev] at kd
              have kl : gA s 56 y22.toNat = gA s 56 y42.toNat - 1 := kd.2
              have kb := kd.1
              refine wp_rdIn (by omega) (fun y23 e23 => ?_)
              have hr' : RelI (hN s) (gA s 60) (gA s 54) p0 (gA S 54) (fun x => pn (hN s) (gA S 50) (i + 1) f x + enf (hN s) y42.toNat ((k.toNat : Nat) : Int) (x : Int)) := RelI_E hr (fun x _ => by
                show pn (hN s) (gA S 50) (i + 1) f x + enf (hN s) y42.toNat ((k.toNat : Nat) : Int) (x : Int) = pn (hN s) (gA S 50) (i + 1) f x + enf (hN s) (gA S 50 i.toNat).toNat k (x : Int)
                rw [h1, show ((k.toNat : Nat) : Int) = k by omega])
              have yv : (hN s).2.2 y42.toNat k.toNat = ((y22.toNat : Nat) : Int) := by rw [ev]; omega
              have c1 : 1 ≤ gA S 54 y22.toNat := Rel_pos hr' (fun x _ => pn_nn _ _ _ _ x) hD hl hkz (by omega) yv (by omega) (fun q => by
                have : y22.toNat = p0.toNat := by omega
                rw [this] at kl; omega)
              have st := Rel_step hr' hl hkz (by omega) yv (by omega) c1
              have r23 := hR.2.1 54 y22.toNat (by show _ < 48; omega)
              have c0 := hr.1 y22.toNat (by omega)
              rw [e23] at c1 st r23 c0
              have r23b : (-1 : Int) ≤ y23 ∧ y23 ≤ 100000 := r23
              refine wp_inb (by omega) (wp_stn (fun s25 e25 => ?_))
              have hR25 : Rg s25 := e25 ▸ Rg.uAu hR ⟨by have : (-1 : Int) ≤ y23 - 1 := (by omega); exact this, by have : y23 - 1 ≤ 100000 := (by have : y23 ≤ 100000 := r23.2; omega); exact this⟩
              have g25 : gA s25 54 = upZ (gA S 54) y22.toNat (y23 - 1) := q_AA e25
              have g50 : gA s25 50 = gA S 50 := q_Aa e25 (by decide)
              have f25 : gA s25 56 = gA s 56 ∧ gA s25 57 = gA s 57 ∧ gA s25 59 = gA s 59 := ⟨(q_Aa e25 (by decide)).trans q1, (q_Aa e25 (by decide)).trans q2, (q_Aa e25 (by decide)).trans q3⟩
              have p25 : pos (gA s25 54) = pos (gA S 54) - 1 + (if 0 < y23 - 1 then 1 else 0) := by rw [g25, pos_up (by omega), if_pos (show 0 < gA S 54 y22.toNat by rw [e23]; omega)]
              have hlv25 : ∀ x : Nat, x < 48 → gA s 56 p0.toNat ≤ gA s 56 x → x ≠ p0.toNat → gA s25 54 x = gA s 54 x := fun x hx w1 w2 => by
                rw [g25, upZ_n (fun q => by rw [q] at w1; omega)]
                exact hlv x hx w1 w2
              refine wp_rdIn (by omega) (fun y26 e26 => ?_)
              rw [g25, upZ_s] at e26
              refine wp_rg (by omega) (wp_if (fun c4 => ?_) (fun c4 => ?_))
              · rw [if_neg (show ¬ 0 < y23 - 1 by omega)] at p25
                refine wp_rg (by omega) (wp_if (fun c5 => by have := pos_b (gA s25 54); omega) (fun c5 => ?_))
                refine wp_inb (by omega) (wp_stn (fun s32 e32 => ?_))
                have hR32 : Rg s32 := e32 ▸ Rg.uAu hR25 (by show (0 : Int) ≤ y22 ∧ y22 ≤ 47; omega)
                have g32 : gA s32 54 = gA s25 54 := q_Aa e32 (by decide)
                have h32 : gA s32 50 = upZ (gA s25 50) f.toNat y22 := q_AA e32
                refine ihm (f + 1) e (k + 1) s32 ⟨hR32, ⟨(q_Aa e32 (by decide)).trans f25.1, (q_Aa e32 (by decide)).trans f25.2.1, (q_Aa e32 (by decide)).trans f25.2.2⟩, by rw [g32]; omega, ?_, ?_, fun x hx w1 w2 => by rw [g32]; exact hlv25 x hx w1 w2⟩ ?_ (by omega) h3 (by omega)
                · rw [g32, g25]
                  refine RelI_E st (fun x _ => ?_)
                  show pn (hN s) (gA s32 50) (i + 1) (f + 1) x + enf (hN s) (gA s32 50 i.toNat).toNat (k + 1) (x : Int) = pn (hN s) (gA S 50) (i + 1) f x + enf (hN s) y42.toNat (((k.toNat : Nat) : Int) + 1) (x : Int) + (if 0 < y23 - 1 then 0 else en (hN s) y22.toNat (x : Int))
                  rw [h32, g50, pn_more (by omega) (by omega) (by omega), upZ_n (show i.toNat ≠ f.toNat by omega), h1, if_neg (show ¬ 0 < y23 - 1 by omega), show ((k.toNat : Nat) : Int) = k by omega]; omega
                · intro j hj
                  rw [h32, g50]
                  by_cases ej : j = f.toNat
                  · rw [ej, upZ_s]
                    exact ⟨by omega, by omega, by omega, by omega⟩
                  · rw [upZ_n ej]; exact hch j (by omega)
                · rw [h32, g50, upZ_n (show i.toNat ≠ f.toNat by omega)]; exact h1
              · rw [if_pos (show 0 < y23 - 1 by omega)] at p25
                refine ihm f e (k + 1) s25 ⟨hR25, f25, by omega, ?_, ?_, hlv25⟩ ?_ (by omega) h3 (by omega)
                · rw [g25]
                  refine RelI_E st (fun x _ => ?_)
                  show pn (hN s) (gA s25 50) (i + 1) f x + enf (hN s) (gA s25 50 i.toNat).toNat (k + 1) (x : Int) = pn (hN s) (gA S 50) (i + 1) f x + enf (hN s) y42.toNat (((k.toNat : Nat) : Int) + 1) (x : Int) + (if 0 < y23 - 1 then 0 else en (hN s) y22.toNat (x : Int))
                  rw [g50, h1, if_pos (show 0 < y23 - 1 by omega), show ((k.toNat : Nat) : Int) = k by omega]; omega
                · rw [g50]; exact hch
                · rw [g50]; exact h1
        refine wp_rg (by omega) (wp_if (fun c3 => ?_) (fun c3 => ?_))
        · unfold m_x1_release_v2_J78
          exact L83 FU f 0 0 S H2 e42 (by omega) (Or.inr ⟨by omega, rfl⟩) (by have := FU_big; omega)
        · refine wp_rdIn (by omega) (fun y46 e46 => ?_)
          rw [e42] at e46
          rw [← e46]
          refine wp_rdIn (by omega) (fun y47 e47 => ?_)
          rw [q2] at e47
          unfold m_x1_release_v2_J78
          exact L83 FU f y47 0 S H2 e42 (by omega) (Or.inl ⟨by omega, e47.symm⟩) (by have := FU_big; omega)
  unfold m_x1_release_v2 m_x1_release_v2_J25
  have hpos := pos_b (gA s 54)
  refine wp_rdIn (by omega) (fun y50 e50 => ?_)
  have r50 := hRs.2.1 54 p0.toNat (by show _ < 48; omega)
  have r0 := RelI_0 (h := hN s) (r := gA s 60) (c0 := gA s 54) (b := p0.toNat) (by omega) (fun x hx => (hW x hx).1) hc
  have hcp := hc
  rw [show ((p0.toNat : Nat) : Int) = p0 by omega, e50] at r0
  rw [e50] at hc r50
  have r50b : (-1 : Int) ≤ y50 ∧ y50 ≤ 100000 := r50
  refine wp_inb (by omega) (wp_stn (fun s52 e52 => ?_))
  have hR52 : Rg s52 := e52 ▸ Rg.uAu hRs ⟨by have : (-1 : Int) ≤ y50 - 1 := (by omega); exact this, by have : y50 - 1 ≤ 100000 := (by have : y50 ≤ 100000 := r50.2; omega); exact this⟩
  have g52 : gA s52 54 = upZ (gA s 54) p0.toNat (y50 - 1) := q_AA e52
  have f52 : gA s52 56 = gA s 56 ∧ gA s52 57 = gA s 57 ∧ gA s52 59 = gA s 59 := ⟨q_Aa e52 (by decide), q_Aa e52 (by decide), q_Aa e52 (by decide)⟩
  have p52 : pos (gA s52 54) = pos (gA s 54) - 1 + (if 0 < y50 - 1 then 1 else 0) := by rw [g52, pos_up (by omega), if_pos hcp]
  refine wp_rdIn (by omega) (fun y53 e53 => ?_)
  rw [g52, upZ_s] at e53
  refine wp_rg (by omega) (wp_if (fun c1 => ?_) (fun c1 => ?_))
  · rw [if_neg (show ¬ 0 < y50 - 1 by omega)] at p52
    refine wp_inb (by omega) (wp_stn (fun s57 e57 => ?_))
    have hR57 : Rg s57 := e57 ▸ Rg.uAu hR52 (by show (0 : Int) ≤ p0 ∧ p0 ≤ 47; omega)
    have g57 : gA s57 54 = gA s52 54 := q_Aa e57 (by decide)
    have h57 : gA s57 50 = upZ (gA s52 50) (Int.toNat 0) p0 := q_AA e57
    refine L28 FU 1 0 s57 ⟨hR57, ⟨(q_Aa e57 (by decide)).trans f52.1, (q_Aa e57 (by decide)).trans f52.2.1, (q_Aa e57 (by decide)).trans f52.2.2⟩, by rw [g57]; omega, ?_, ?_, fun x hx w1 w2 => by rw [g57, g52, upZ_n w2]⟩ (by have := FU_big; omega)
    · rw [g57, g52]
      refine RelI_E r0 (fun x _ => ?_)
      show pn (hN s) (gA s57 50) 0 1 x = if 0 < y50 - 1 then 0 else en (hN s) p0.toNat (x : Int)
      rw [h57, if_neg (show ¬ 0 < y50 - 1 by omega)]
      have := pn_more (h := hN s) (ch := gA s52 50) (i := 0) (f := 0) (y := p0) (x := x) (by omega) (by omega) (by omega)
      rw [pn_0 (Int.le_refl 0)] at this
      rw [show (1 : Int) = 0 + 1 from rfl, this]; omega
    · intro j hj
      have ej : j = 0 := by omega
      subst ej
      have e0 : gA s57 50 0 = p0 := by rw [h57]; exact upZ_s _ _ _
      rw [e0]
      exact ⟨by omega, by omega, hcp, Int.le_refl _⟩
  · rw [if_pos (show 0 < y50 - 1 by omega)] at p52
    refine L28 FU 0 0 s52 ⟨hR52, f52, by omega, ?_, fun j hj => by omega, fun x hx w1 w2 => by rw [g52, upZ_n w2]⟩ (by have := FU_big; omega)
    rw [g52]
    refine RelI_E r0 (fun x _ => ?_)
    show pn (hN s) (gA s52 50) 0 0 x = if 0 < y50 - 1 then 0 else en (hN s) p0.toNat (x : Int)
    rw [pn_0 (Int.le_refl 0), if_pos (show 0 < y50 - 1 by omega)]
set_option maxHeartbeats 1000000 in
theorem w_x1_release {p0 : Int} {s : MS} (hRs : Rg s) (hW : WN (hN s) (gI s 1060) (gA s 52)) (hp : 0 ≤ p0 ∧ p0 < gI s 1060) (hc : 0 < gA s 52 p0.toNat) (hD : ∀ x, x < 48 → 0 ≤ df (hN s) (gA s 52) (gA s 60) x) : wp (m_x1_release p0 s) (fun q => (Rg q.2) ∧ (RelI (hN s) (gA s 60) (gA s 52) p0 (gA q.2 52) (fun _ => 0)) ∧ (0 ≤ q.1 ∧ q.1 ≤ 48) ∧ (∀ x : Nat, x < 48 → gA s 56 p0.toNat ≤ gA s 56 x → x ≠ p0.toNat → gA q.2 52 x = gA s 52 x)) := by
  have hN48 : gI s 1060 ≤ 48 := (hRs.1 1060).2
  have L28 : ∀ (n : Nat) (f i : Int) (S : MS), RI s S 52 p0 f i (fun x => pn (hN s) (gA S 50) i f x) → 48 - i < (n : Int) → wp (m_x1_release_L28 n f i S) (fun q => (Rg q.2) ∧ (RelI (hN s) (gA s 60) (gA s 52) p0 (gA q.2 52) (fun _ => 0)) ∧ (0 ≤ q.1 ∧ q.1 ≤ 48) ∧ (∀ x : Nat, x < 48 → gA s 56 p0.toNat ≤ gA s 56 x → x ≠ p0.toNat → gA q.2 52 x = gA s 52 x)) := by
    refine fr_ind (fun f i S H hm => ?_) (fun n ih f i S H hm => ?_)
    · exfalso
      have h1 := H.2.2.1
      have h2 := pos_b (gA S 52)
      omega
    · show wp (m_x1_release_b28 (m_x1_release_L28 n) f i S) _
      unfold m_x1_release_b28 m_x1_release_J160
      obtain ⟨hR, ⟨q1, q2, q3⟩, hb, hr, hch, hlv⟩ := H
      have hpos := pos_b (gA S 52)
      refine wp_rg (by omega) (wp_rg (by omega) (wp_if (fun c1 => ?_) (fun c1 => ?_)))
      · exact wp_some ⟨hR, RelI_E hr (fun x _ => (pn_0 c1).symm), by show 0 ≤ f ∧ f ≤ 48; omega, hlv⟩
      · refine wp_rg (by omega) (wp_if (fun c2 => by omega) (fun c2 => ?_))
        refine wp_rdIn (by omega) (fun y42 e42 => ?_)
        have i2 := hch i.toNat (by omega)
        rw [e42] at i2
        refine wp_rdIn (by omega) (fun y43 e43 => ?_)
        have r43 : (-1 : Int) ≤ y43 ∧ y43 ≤ 1000 := e43 ▸ hR.2.1 56 _ (by show _ < 48; omega)
        rw [q1] at e43
        have nd := (hW y42.toNat (by omega)).2.2 i2.2.2.1
        have nz : 0 ≤ gA s 57 y42.toNat ∧ gA s 57 y42.toNat ≤ 6 := nd.2.1
        have hE : ∀ x, x < 48 → pn (hN s) (gA S 50) (i + 1) f x + enf (hN s) (gA S 50 i.toNat).toNat 0 (x : Int) = pn (hN s) (gA S 50) i f x := fun x _ => (pn_first (by omega) (by omega) (by omega)).symm
        have H2 : RI s S 52 p0 f (i + 1) (fun x => pn (hN s) (gA S 50) (i + 1) f x + enf (hN s) (gA S 50 i.toNat).toNat 0 (x : Int)) := ⟨hR, ⟨q1, q2, q3⟩, by omega, RelI_E hr hE, hch, hlv⟩
        have L83 : ∀ (m : Nat) (f e k : Int) (S : MS), RI s S 52 p0 f (i + 1) (fun x => pn (hN s) (gA S 50) (i + 1) f x + enf (hN s) (gA S 50 i.toNat).toNat k (x : Int)) → (gA S 50 i.toNat = y42) → (0 ≤ k ∧ k ≤ e) → ((0 < gA s 56 y42.toNat ∧ e = gA s 57 y42.toNat) ∨ (gA s 56 y42.toNat ≤ 0 ∧ e = 0)) → e - k < (m : Int) → wp (m_x1_release_L83 (m_x1_release_L28 n) m f i e k S) (fun q => (Rg q.2) ∧ (RelI (hN s) (gA s 60) (gA s 52) p0 (gA q.2 52) (fun _ => 0)) ∧ (0 ≤ q.1 ∧ q.1 ≤ 48) ∧ (∀ x : Nat, x < 48 → gA s 56 p0.toNat ≤ gA s 56 x → x ≠ p0.toNat → gA q.2 52 x = gA s 52 x)) := by
          refine fr_ind (fun f e k S H h1 h2 h3 hm => ?_) (fun m ihm f e k S H h1 h2 h3 hm => ?_)
          · exfalso; omega
          · show wp (m_x1_release_b83 (m_x1_release_L28 n) (m_x1_release_L83 (m_x1_release_L28 n) m) f i e k S) _
            unfold m_x1_release_b83 m_x1_release_J148
            obtain ⟨hR, ⟨q1, q2, q3⟩, hb, hr, hch, hlv⟩ := H
            have hpos := pos_b (gA S 52)
            refine wp_rg (by omega) (wp_rg (by omega) (wp_if (fun c3 => ?_) (fun c3 => ?_)))
            · refine ih f (i + 1) S ⟨hR, ⟨q1, q2, q3⟩, by omega, RelI_E hr (fun x _ => ?_), hch, hlv⟩ (by omega)
              show pn (hN s) (gA S 50) (i + 1) f x = pn (hN s) (gA S 50) (i + 1) f x + enf (hN s) (gA S 50 i.toNat).toNat k (x : Int)
              have : enf (hN s) y42.toNat k (x : Int) = 0 := by
                rcases h3 with h3 | h3
                · exact enf_end (by show gA s 57 y42.toNat ≤ k; omega)
                · unfold enf; exact if_neg (by show ¬ 0 < gA s 56 y42.toNat; omega)
              rw [h1, this]; omega
            · have hl : 0 < gA s 56 y42.toNat := by rcases h3 with h3 | h3 <;> omega
              have he : e = gA s 57 y42.toNat := by omega
              refine wp_rdIn (by omega) (fun y19 e19 => ?_)
              rw [h1] at e19
              rw [← e19]
              refine wp_bn w_slot (fun r21 _ h21 => ?_)
              refine wp_rdIn (by omega) (fun y22 e22 => ?_)
              have ev : (hN s).2.2 y42.toNat k.toNat = y22 := by
                show gA s 59 (6 * y42.toNat + k.toNat) = y22
                rw [← e22, q3, show r21.toNat = 6 * y42.toNat + k.toNat by omega]
              have hkz : ((k.toNat : Nat) : Int) < (hN s).2.1 y42.toNat := by show ((k.toNat : Nat) : Int) < gA s 57 y42.toNat; omega
              have kd := nd.2.2 hl k.toNat hkz
              rw [ev] at kd
              have kl : gA s 56 y22.toNat = gA s 56 y42.toNat - 1 := kd.2
              have kb := kd.1
              refine wp_rdIn (by omega) (fun y23 e23 => ?_)
              have hr' : RelI (hN s) (gA s 60) (gA s 52) p0 (gA S 52) (fun x => pn (hN s) (gA S 50) (i + 1) f x + enf (hN s) y42.toNat ((k.toNat : Nat) : Int) (x : Int)) := RelI_E hr (fun x _ => by
                show pn (hN s) (gA S 50) (i + 1) f x + enf (hN s) y42.toNat ((k.toNat : Nat) : Int) (x : Int) = pn (hN s) (gA S 50) (i + 1) f x + enf (hN s) (gA S 50 i.toNat).toNat k (x : Int)
                rw [h1, show ((k.toNat : Nat) : Int) = k by omega])
              have yv : (hN s).2.2 y42.toNat k.toNat = ((y22.toNat : Nat) : Int) := by rw [ev]; omega
              have c1 : 1 ≤ gA S 52 y22.toNat := Rel_pos hr' (fun x _ => pn_nn _ _ _ _ x) hD hl hkz (by omega) yv (by omega) (fun q => by
                have : y22.toNat = p0.toNat := by omega
                rw [this] at kl; omega)
              have st := Rel_step hr' hl hkz (by omega) yv (by omega) c1
              have r23 := hR.2.1 52 y22.toNat (by show _ < 48; omega)
              have c0 := hr.1 y22.toNat (by omega)
              rw [e23] at c1 st r23 c0
              have r23b : (-2147483648 : Int) ≤ y23 ∧ y23 ≤ 2147483647 := r23
              refine wp_inb (by omega) (wp_stn (fun s25 e25 => ?_))
              have hR25 : Rg s25 := e25 ▸ Rg.uAu hR ⟨by have : (-2147483648 : Int) ≤ y23 - 1 := (by omega); exact this, by have : y23 - 1 ≤ 2147483647 := (by have : y23 ≤ 2147483647 := r23.2; omega); exact this⟩
              have g25 : gA s25 52 = upZ (gA S 52) y22.toNat (y23 - 1) := q_AA e25
              have g50 : gA s25 50 = gA S 50 := q_Aa e25 (by decide)
              have f25 : gA s25 56 = gA s 56 ∧ gA s25 57 = gA s 57 ∧ gA s25 59 = gA s 59 := ⟨(q_Aa e25 (by decide)).trans q1, (q_Aa e25 (by decide)).trans q2, (q_Aa e25 (by decide)).trans q3⟩
              have p25 : pos (gA s25 52) = pos (gA S 52) - 1 + (if 0 < y23 - 1 then 1 else 0) := by rw [g25, pos_up (by omega), if_pos (show 0 < gA S 52 y22.toNat by rw [e23]; omega)]
              have hlv25 : ∀ x : Nat, x < 48 → gA s 56 p0.toNat ≤ gA s 56 x → x ≠ p0.toNat → gA s25 52 x = gA s 52 x := fun x hx w1 w2 => by
                rw [g25, upZ_n (fun q => by rw [q] at w1; omega)]
                exact hlv x hx w1 w2
              refine wp_rdIn (by omega) (fun y26 e26 => ?_)
              rw [g25, upZ_s] at e26
              refine wp_rg (by omega) (wp_if (fun c4 => ?_) (fun c4 => ?_))
              · rw [if_neg (show ¬ 0 < y23 - 1 by omega)] at p25
                refine wp_rg (by omega) (wp_if (fun c5 => by have := pos_b (gA s25 52); omega) (fun c5 => ?_))
                refine wp_inb (by omega) (wp_stn (fun s32 e32 => ?_))
                have hR32 : Rg s32 := e32 ▸ Rg.uAu hR25 (by show (0 : Int) ≤ y22 ∧ y22 ≤ 47; omega)
                have g32 : gA s32 52 = gA s25 52 := q_Aa e32 (by decide)
                have h32 : gA s32 50 = upZ (gA s25 50) f.toNat y22 := q_AA e32
                refine ihm (f + 1) e (k + 1) s32 ⟨hR32, ⟨(q_Aa e32 (by decide)).trans f25.1, (q_Aa e32 (by decide)).trans f25.2.1, (q_Aa e32 (by decide)).trans f25.2.2⟩, by rw [g32]; omega, ?_, ?_, fun x hx w1 w2 => by rw [g32]; exact hlv25 x hx w1 w2⟩ ?_ (by omega) h3 (by omega)
                · rw [g32, g25]
                  refine RelI_E st (fun x _ => ?_)
                  show pn (hN s) (gA s32 50) (i + 1) (f + 1) x + enf (hN s) (gA s32 50 i.toNat).toNat (k + 1) (x : Int) = pn (hN s) (gA S 50) (i + 1) f x + enf (hN s) y42.toNat (((k.toNat : Nat) : Int) + 1) (x : Int) + (if 0 < y23 - 1 then 0 else en (hN s) y22.toNat (x : Int))
                  rw [h32, g50, pn_more (by omega) (by omega) (by omega), upZ_n (show i.toNat ≠ f.toNat by omega), h1, if_neg (show ¬ 0 < y23 - 1 by omega), show ((k.toNat : Nat) : Int) = k by omega]; omega
                · intro j hj
                  rw [h32, g50]
                  by_cases ej : j = f.toNat
                  · rw [ej, upZ_s]
                    exact ⟨by omega, by omega, by omega, by omega⟩
                  · rw [upZ_n ej]; exact hch j (by omega)
                · rw [h32, g50, upZ_n (show i.toNat ≠ f.toNat by omega)]; exact h1
              · rw [if_pos (show 0 < y23 - 1 by omega)] at p25
                refine ihm f e (k + 1) s25 ⟨hR25, f25, by omega, ?_, ?_, hlv25⟩ ?_ (by omega) h3 (by omega)
                · rw [g25]
                  refine RelI_E st (fun x _ => ?_)
                  show pn (hN s) (gA s25 50) (i + 1) f x + enf (hN s) (gA s25 50 i.toNat).toNat (k + 1) (x : Int) = pn (hN s) (gA S 50) (i + 1) f x + enf (hN s) y42.toNat (((k.toNat : Nat) : Int) + 1) (x : Int) + (if 0 < y23 - 1 then 0 else en (hN s) y22.toNat (x : Int))
                  rw [g50, h1, if_pos (show 0 < y23 - 1 by omega), show ((k.toNat : Nat) : Int) = k by omega]; omega
                · rw [g50]; exact hch
                · rw [g50]; exact h1
        refine wp_rg (by omega) (wp_if (fun c3 => ?_) (fun c3 => ?_))
        · unfold m_x1_release_J78
          exact L83 FU f 0 0 S H2 e42 (by omega) (Or.inr ⟨by omega, rfl⟩) (by have := FU_big; omega)
        · refine wp_rdIn (by omega) (fun y46 e46 => ?_)
          rw [e42] at e46
          rw [← e46]
          refine wp_rdIn (by omega) (fun y47 e47 => ?_)
          rw [q2] at e47
          unfold m_x1_release_J78
          exact L83 FU f y47 0 S H2 e42 (by omega) (Or.inl ⟨by omega, e47.symm⟩) (by have := FU_big; omega)
  unfold m_x1_release m_x1_release_J25
  have hpos := pos_b (gA s 52)
  refine wp_rdIn (by omega) (fun y50 e50 => ?_)
  have r50 := hRs.2.1 52 p0.toNat (by show _ < 48; omega)
  have r0 := RelI_0 (h := hN s) (r := gA s 60) (c0 := gA s 52) (b := p0.toNat) (by omega) (fun x hx => (hW x hx).1) hc
  have hcp := hc
  rw [show ((p0.toNat : Nat) : Int) = p0 by omega, e50] at r0
  rw [e50] at hc r50
  have r50b : (-2147483648 : Int) ≤ y50 ∧ y50 ≤ 2147483647 := r50
  refine wp_inb (by omega) (wp_stn (fun s52 e52 => ?_))
  have hR52 : Rg s52 := e52 ▸ Rg.uAu hRs ⟨by have : (-2147483648 : Int) ≤ y50 - 1 := (by omega); exact this, by have : y50 - 1 ≤ 2147483647 := (by have : y50 ≤ 2147483647 := r50.2; omega); exact this⟩
  have g52 : gA s52 52 = upZ (gA s 52) p0.toNat (y50 - 1) := q_AA e52
  have f52 : gA s52 56 = gA s 56 ∧ gA s52 57 = gA s 57 ∧ gA s52 59 = gA s 59 := ⟨q_Aa e52 (by decide), q_Aa e52 (by decide), q_Aa e52 (by decide)⟩
  have p52 : pos (gA s52 52) = pos (gA s 52) - 1 + (if 0 < y50 - 1 then 1 else 0) := by rw [g52, pos_up (by omega), if_pos hcp]
  refine wp_rdIn (by omega) (fun y53 e53 => ?_)
  rw [g52, upZ_s] at e53
  refine wp_rg (by omega) (wp_if (fun c1 => ?_) (fun c1 => ?_))
  · rw [if_neg (show ¬ 0 < y50 - 1 by omega)] at p52
    refine wp_inb (by omega) (wp_stn (fun s57 e57 => ?_))
    have hR57 : Rg s57 := e57 ▸ Rg.uAu hR52 (by show (0 : Int) ≤ p0 ∧ p0 ≤ 47; omega)
    have g57 : gA s57 52 = gA s52 52 := q_Aa e57 (by decide)
    have h57 : gA s57 50 = upZ (gA s52 50) (Int.toNat 0) p0 := q_AA e57
    refine L28 FU 1 0 s57 ⟨hR57, ⟨(q_Aa e57 (by decide)).trans f52.1, (q_Aa e57 (by decide)).trans f52.2.1, (q_Aa e57 (by decide)).trans f52.2.2⟩, by rw [g57]; omega, ?_, ?_, fun x hx w1 w2 => by rw [g57, g52, upZ_n w2]⟩ (by have := FU_big; omega)
    · rw [g57, g52]
      refine RelI_E r0 (fun x _ => ?_)
      show pn (hN s) (gA s57 50) 0 1 x = if 0 < y50 - 1 then 0 else en (hN s) p0.toNat (x : Int)
      rw [h57, if_neg (show ¬ 0 < y50 - 1 by omega)]
      have := pn_more (h := hN s) (ch := gA s52 50) (i := 0) (f := 0) (y := p0) (x := x) (by omega) (by omega) (by omega)
      rw [pn_0 (Int.le_refl 0)] at this
      rw [show (1 : Int) = 0 + 1 from rfl, this]; omega
    · intro j hj
      have ej : j = 0 := by omega
      subst ej
      have e0 : gA s57 50 0 = p0 := by rw [h57]; exact upZ_s _ _ _
      rw [e0]
      exact ⟨by omega, by omega, hcp, Int.le_refl _⟩
  · rw [if_pos (show 0 < y50 - 1 by omega)] at p52
    refine L28 FU 0 0 s52 ⟨hR52, f52, by omega, ?_, fun j hj => by omega, fun x hx w1 w2 => by rw [g52, upZ_n w2]⟩ (by have := FU_big; omega)
    rw [g52]
    refine RelI_E r0 (fun x _ => ?_)
    show pn (hN s) (gA s52 50) 0 0 x = if 0 < y50 - 1 then 0 else en (hN s) p0.toNat (x : Int)
    rw [pn_0 (Int.le_refl 0), if_pos (show 0 < y50 - 1 by omega)]
/-! ===== blocks in use, closed under entries ===== -/
def CL (s : MS) (c : Nat → Int) : Prop := ∀ p : Nat, p < 48 → 0 < c p → Nd (hN s) (gI s 1060) p ∧ 1 ≤ gA s 57 p ∧ (0 < gA s 56 p → ∀ k : Nat, (k : Int) < gA s 57 p → 0 < c (gA s 59 (6 * p + k)).toNat)
theorem CL_of {s : MS} {c r : Nat → Int} (hN48 : gI s 1060 ≤ 48) (hW : WN (hN s) (gI s 1060) c) (hE : Ne (hN s) c) (hD : ∀ x, x < 48 → 0 ≤ df (hN s) c r x) : CL s c := by
  intro p hp hc
  have nd := (hW p hp).2.2 hc
  refine ⟨nd, hE p hp hc, fun hl k hk => ?_⟩
  have kd := (nd.2.2 hl k hk).1
  have h1 : (hN s).2.2 p k = gA s 59 (6 * p + k) := rfl
  rw [h1] at kd
  exact kid_live (r := r) hN48 hW hp hc hl hk (hD _ (by rw [h1]; omega))
set_option maxHeartbeats 1000000 in
theorem w_x8_slot {p0 : Int} {p1 : Int} {s : MS} (hRs : Rg s) : wp (m_x8_slot p0 p1 s) (fun r => (r = p0 * 6 + p1)) := by
  unfold m_x8_slot
  exact wp_some (by show ((p0 * 6) + p1) = p0 * 6 + p1; omega)
set_option maxHeartbeats 1000000 in
theorem w_x8_isVolume {p0 : Int} {s : MS} (hRs : Rg s) (hp0 : R2 p0) : wp (m_x8_isVolume p0 s) (fun r => ((r = 1 ∧ 0 ≤ p0 ∧ p0 < 8 ∧ gA s 60 p0.toNat ≠ -2) ∨ (r = 0 ∧ (p0 < 0 ∨ 8 ≤ p0 ∨ gA s 60 p0.toNat = -2)))) := by
  unfold m_x8_isVolume
  refine wp_rg (by omega) ?_
  refine wp_if (fun c1 => ?_) (fun c1 => ?_)
  · skip
    unfold m_x8_isVolume_J25
    unfold m_x8_isVolume_J26
    refine wp_bo (by omega) ?_
    exact wp_some (by show ((0 : Int) = 1 ∧ 0 ≤ p0 ∧ p0 < 8 ∧ gA s 60 p0.toNat ≠ -2) ∨ ((0 : Int) = 0 ∧ (p0 < 0 ∨ 8 ≤ p0 ∨ gA s 60 p0.toNat = -2)); omega)
  · skip
    refine wp_rg (by omega) ?_
    refine wp_if (fun c2 => ?_) (fun c2 => ?_)
    · skip
      unfold m_x8_isVolume_J25
      unfold m_x8_isVolume_J26
      refine wp_bo (by omega) ?_
      exact wp_some (by show ((0 : Int) = 1 ∧ 0 ≤ p0 ∧ p0 < 8 ∧ gA s 60 p0.toNat ≠ -2) ∨ ((0 : Int) = 0 ∧ (p0 < 0 ∨ 8 ≤ p0 ∨ gA s 60 p0.toNat = -2)); omega)
    · skip
      refine wp_rdIn (by omega) (fun y7 ey7 => ?_)
      have by7 : (-2 : Int) ≤ y7 ∧ y7 ≤ 253 := ey7 ▸ hRs.2.1 60 _ (by show _ < 8; omega)
      refine wp_rg (by omega) ?_
      refine wp_if (fun c3 => ?_) (fun c3 => ?_)
      · skip
        unfold m_x8_isVolume_J25
        unfold m_x8_isVolume_J26
        refine wp_bo (by omega) ?_
        exact wp_some (by show ((0 : Int) = 1 ∧ 0 ≤ p0 ∧ p0 < 8 ∧ gA s 60 p0.toNat ≠ -2) ∨ ((0 : Int) = 0 ∧ (p0 < 0 ∨ 8 ≤ p0 ∨ gA s 60 p0.toNat = -2)); omega)
      · skip
        unfold m_x8_isVolume_J26
        refine wp_bo (by omega) ?_
        exact wp_some (by show ((1 : Int) = 1 ∧ 0 ≤ p0 ∧ p0 < 8 ∧ gA s 60 p0.toNat ≠ -2) ∨ ((1 : Int) = 0 ∧ (p0 < 0 ∨ 8 ≤ p0 ∨ gA s 60 p0.toNat = -2)); omega)
set_option maxHeartbeats 1000000 in
theorem w_x8_isBlock {p0 : Int} {s : MS} (hRs : Rg s) (hp0 : R2 p0) : wp (m_x8_isBlock p0 s) (fun r => ((r = 1 ∧ 0 ≤ p0 ∧ p0 < gI s 1060) ∨ (r = 0 ∧ (p0 < 0 ∨ gI s 1060 ≤ p0)))) := by
  unfold m_x8_isBlock
  refine wp_rg (by omega) ?_
  refine wp_if (fun c1 => ?_) (fun c1 => ?_)
  · skip
    unfold m_x8_isBlock_J16
    unfold m_x8_isBlock_J17
    refine wp_bo (by omega) ?_
    exact wp_some (by show ((0 : Int) = 1 ∧ 0 ≤ p0 ∧ p0 < gI s 1060) ∨ ((0 : Int) = 0 ∧ (p0 < 0 ∨ gI s 1060 ≤ p0)); have : (0 : Int) ≤ gI s 1060 ∧ gI s 1060 ≤ 48 := hRs.1 1060; omega)
  · skip
    refine wp_rg (by omega) ?_
    refine wp_rg (by have : (0 : Int) ≤ gI s 1060 ∧ gI s 1060 ≤ 48 := hRs.1 1060; omega) ?_
    refine wp_if (fun c2 => ?_) (fun c2 => ?_)
    · skip
      unfold m_x8_isBlock_J16
      unfold m_x8_isBlock_J17
      refine wp_bo (by have : (0 : Int) ≤ gI s 1060 ∧ gI s 1060 ≤ 48 := hRs.1 1060; omega) ?_
      exact wp_some (by show ((0 : Int) = 1 ∧ 0 ≤ p0 ∧ p0 < gI s 1060) ∨ ((0 : Int) = 0 ∧ (p0 < 0 ∨ gI s 1060 ≤ p0)); have : (0 : Int) ≤ gI s 1060 ∧ gI s 1060 ≤ 48 := hRs.1 1060; omega)
    · skip
      unfold m_x8_isBlock_J17
      refine wp_bo (by have : (0 : Int) ≤ gI s 1060 ∧ gI s 1060 ≤ 48 := hRs.1 1060; omega) ?_
      exact wp_some (by show ((1 : Int) = 1 ∧ 0 ≤ p0 ∧ p0 < gI s 1060) ∨ ((1 : Int) = 0 ∧ (p0 < 0 ∨ gI s 1060 ≤ p0)); have : (0 : Int) ≤ gI s 1060 ∧ gI s 1060 ≤ 48 := hRs.1 1060; omega)
set_option maxHeartbeats 1000000 in
theorem w_x8_inUse {p0 : Int} {s : MS} (hRs : Rg s) (hp0 : R2 p0) : wp (m_x8_inUse p0 s) (fun r => ((r = 1 ∧ 0 ≤ p0 ∧ p0 < gI s 1060 ∧ 0 < gA s 54 p0.toNat) ∨ (r = 0 ∧ (p0 < 0 ∨ gI s 1060 ≤ p0 ∨ ¬ (0 < gA s 54 p0.toNat))))) := by
  unfold m_x8_inUse
  refine wp_bn (w_x8_isBlock hRs (by show R2 p0; omega)) (fun r4 er4 hr4 => ?_)
  have hr4_0 := hr4
  have hr4_0 : (r4 = 1 ∧ 0 ≤ p0 ∧ p0 < gI s 1060) ∨ (r4 = 0 ∧ (p0 < 0 ∨ gI s 1060 ≤ p0)) := hr4_0
  refine wp_rg (by have : (0 : Int) ≤ gI s 1060 ∧ gI s 1060 ≤ 48 := hRs.1 1060; omega) ?_
  refine wp_if (fun c1 => ?_) (fun c1 => ?_)
  · skip
    unfold m_x8_inUse_J21
    unfold m_x8_inUse_J22
    refine wp_bo (by have : (0 : Int) ≤ gI s 1060 ∧ gI s 1060 ≤ 48 := hRs.1 1060; omega) ?_
    exact wp_some (by show ((0 : Int) = 1 ∧ 0 ≤ p0 ∧ p0 < gI s 1060 ∧ 0 < gA s 54 p0.toNat) ∨ ((0 : Int) = 0 ∧ (p0 < 0 ∨ gI s 1060 ≤ p0 ∨ ¬ (0 < gA s 54 p0.toNat))); have : (0 : Int) ≤ gI s 1060 ∧ gI s 1060 ≤ 48 := hRs.1 1060; omega)
  · skip
    refine wp_rdIn (by have : (0 : Int) ≤ gI s 1060 ∧ gI s 1060 ≤ 48 := hRs.1 1060; omega) (fun y7 ey7 => ?_)
    have by7 : (-1 : Int) ≤ y7 ∧ y7 ≤ 100000 := ey7 ▸ hRs.2.1 54 _ (by show _ < 48; have : (0 : Int) ≤ gI s 1060 ∧ gI s 1060 ≤ 48 := hRs.1 1060; omega)
    refine wp_rg (by have : (0 : Int) ≤ gI s 1060 ∧ gI s 1060 ≤ 48 := hRs.1 1060; omega) ?_
    refine wp_if (fun c2 => ?_) (fun c2 => ?_)
    · skip
      unfold m_x8_inUse_J21
      unfold m_x8_inUse_J22
      refine wp_bo (by have : (0 : Int) ≤ gI s 1060 ∧ gI s 1060 ≤ 48 := hRs.1 1060; omega) ?_
      exact wp_some (by show ((0 : Int) = 1 ∧ 0 ≤ p0 ∧ p0 < gI s 1060 ∧ 0 < gA s 54 p0.toNat) ∨ ((0 : Int) = 0 ∧ (p0 < 0 ∨ gI s 1060 ≤ p0 ∨ ¬ (0 < gA s 54 p0.toNat))); have : (0 : Int) ≤ gI s 1060 ∧ gI s 1060 ≤ 48 := hRs.1 1060; omega)
    · skip
      unfold m_x8_inUse_J22
      refine wp_bo (by have : (0 : Int) ≤ gI s 1060 ∧ gI s 1060 ≤ 48 := hRs.1 1060; omega) ?_
      exact wp_some (by show ((1 : Int) = 1 ∧ 0 ≤ p0 ∧ p0 < gI s 1060 ∧ 0 < gA s 54 p0.toNat) ∨ ((1 : Int) = 0 ∧ (p0 < 0 ∨ gI s 1060 ≤ p0 ∨ ¬ (0 < gA s 54 p0.toNat))); have : (0 : Int) ≤ gI s 1060 ∧ gI s 1060 ≤ 48 := hRs.1 1060; omega)
set_option maxHeartbeats 1000000 in
theorem w_x8_isHeld {p0 : Int} {s : MS} (hRs : Rg s) (hp0 : R2 p0) : wp (m_x8_isHeld p0 s) (fun r => ((r = 1 ∧ 0 ≤ p0 ∧ p0 < gI s 1060 ∧ gA s 54 p0.toNat = 0 ∧ 0 < gA s 55 p0.toNat) ∨ (r = 0 ∧ (p0 < 0 ∨ gI s 1060 ≤ p0 ∨ ¬ (gA s 54 p0.toNat = 0 ∧ 0 < gA s 55 p0.toNat))))) := by
  unfold m_x8_isHeld
  refine wp_bn (w_x8_isBlock hRs (by show R2 p0; omega)) (fun r4 er4 hr4 => ?_)
  have hr4_0 := hr4
  have hr4_0 : (r4 = 1 ∧ 0 ≤ p0 ∧ p0 < gI s 1060) ∨ (r4 = 0 ∧ (p0 < 0 ∨ gI s 1060 ≤ p0)) := hr4_0
  refine wp_rg (by have : (0 : Int) ≤ gI s 1060 ∧ gI s 1060 ≤ 48 := hRs.1 1060; omega) ?_
  refine wp_if (fun c1 => ?_) (fun c1 => ?_)
  · skip
    unfold m_x8_isHeld_J30
    unfold m_x8_isHeld_J31
    refine wp_bo (by have : (0 : Int) ≤ gI s 1060 ∧ gI s 1060 ≤ 48 := hRs.1 1060; omega) ?_
    exact wp_some (by show ((0 : Int) = 1 ∧ 0 ≤ p0 ∧ p0 < gI s 1060 ∧ gA s 54 p0.toNat = 0 ∧ 0 < gA s 55 p0.toNat) ∨ ((0 : Int) = 0 ∧ (p0 < 0 ∨ gI s 1060 ≤ p0 ∨ ¬ (gA s 54 p0.toNat = 0 ∧ 0 < gA s 55 p0.toNat))); have : (0 : Int) ≤ gI s 1060 ∧ gI s 1060 ≤ 48 := hRs.1 1060; omega)
  · skip
    refine wp_rdIn (by have : (0 : Int) ≤ gI s 1060 ∧ gI s 1060 ≤ 48 := hRs.1 1060; omega) (fun y7 ey7 => ?_)
    have by7 : (-1 : Int) ≤ y7 ∧ y7 ≤ 100000 := ey7 ▸ hRs.2.1 54 _ (by show _ < 48; have : (0 : Int) ≤ gI s 1060 ∧ gI s 1060 ≤ 48 := hRs.1 1060; omega)
    refine wp_rg (by have : (0 : Int) ≤ gI s 1060 ∧ gI s 1060 ≤ 48 := hRs.1 1060; omega) ?_
    refine wp_if (fun c2 => ?_) (fun c2 => ?_)
    · skip
      refine wp_rdIn (by have : (0 : Int) ≤ gI s 1060 ∧ gI s 1060 ≤ 48 := hRs.1 1060; omega) (fun y10 ey10 => ?_)
      have by10 : (-1 : Int) ≤ y10 ∧ y10 ≤ 100000 := ey10 ▸ hRs.2.1 55 _ (by show _ < 48; have : (0 : Int) ≤ gI s 1060 ∧ gI s 1060 ≤ 48 := hRs.1 1060; omega)
      refine wp_rg (by have : (0 : Int) ≤ gI s 1060 ∧ gI s 1060 ≤ 48 := hRs.1 1060; omega) ?_
      refine wp_if (fun c3 => ?_) (fun c3 => ?_)
      · skip
        unfold m_x8_isHeld_J30
        unfold m_x8_isHeld_J31
        refine wp_bo (by have : (0 : Int) ≤ gI s 1060 ∧ gI s 1060 ≤ 48 := hRs.1 1060; omega) ?_
        exact wp_some (by show ((0 : Int) = 1 ∧ 0 ≤ p0 ∧ p0 < gI s 1060 ∧ gA s 54 p0.toNat = 0 ∧ 0 < gA s 55 p0.toNat) ∨ ((0 : Int) = 0 ∧ (p0 < 0 ∨ gI s 1060 ≤ p0 ∨ ¬ (gA s 54 p0.toNat = 0 ∧ 0 < gA s 55 p0.toNat))); have : (0 : Int) ≤ gI s 1060 ∧ gI s 1060 ≤ 48 := hRs.1 1060; omega)
      · skip
        unfold m_x8_isHeld_J31
        refine wp_bo (by have : (0 : Int) ≤ gI s 1060 ∧ gI s 1060 ≤ 48 := hRs.1 1060; omega) ?_
        exact wp_some (by show ((1 : Int) = 1 ∧ 0 ≤ p0 ∧ p0 < gI s 1060 ∧ gA s 54 p0.toNat = 0 ∧ 0 < gA s 55 p0.toNat) ∨ ((1 : Int) = 0 ∧ (p0 < 0 ∨ gI s 1060 ≤ p0 ∨ ¬ (gA s 54 p0.toNat = 0 ∧ 0 < gA s 55 p0.toNat))); have : (0 : Int) ≤ gI s 1060 ∧ gI s 1060 ≤ 48 := hRs.1 1060; omega)
    · skip
      unfold m_x8_isHeld_J30
      unfold m_x8_isHeld_J31
      refine wp_bo (by have : (0 : Int) ≤ gI s 1060 ∧ gI s 1060 ≤ 48 := hRs.1 1060; omega) ?_
      exact wp_some (by show ((0 : Int) = 1 ∧ 0 ≤ p0 ∧ p0 < gI s 1060 ∧ gA s 54 p0.toNat = 0 ∧ 0 < gA s 55 p0.toNat) ∨ ((0 : Int) = 0 ∧ (p0 < 0 ∨ gI s 1060 ≤ p0 ∨ ¬ (gA s 54 p0.toNat = 0 ∧ 0 < gA s 55 p0.toNat))); have : (0 : Int) ≤ gI s 1060 ∧ gI s 1060 ≤ 48 := hRs.1 1060; omega)
set_option maxHeartbeats 1000000 in
theorem w_x8_isFresh {p0 : Int} {s : MS} (hRs : Rg s) (hp0 : R2 p0) : wp (m_x8_isFresh p0 s) (fun r => ((r = 1 ∧ 0 ≤ p0 ∧ p0 < gI s 1060 ∧ 0 < gA s 54 p0.toNat ∧ gA s 55 p0.toNat = 0) ∨ (r = 0 ∧ (p0 < 0 ∨ gI s 1060 ≤ p0 ∨ ¬ (0 < gA s 54 p0.toNat ∧ gA s 55 p0.toNat = 0))))) := by
  unfold m_x8_isFresh
  refine wp_bn (w_x8_isBlock hRs (by show R2 p0; omega)) (fun r4 er4 hr4 => ?_)
  have hr4_0 := hr4
  have hr4_0 : (r4 = 1 ∧ 0 ≤ p0 ∧ p0 < gI s 1060) ∨ (r4 = 0 ∧ (p0 < 0 ∨ gI s 1060 ≤ p0)) := hr4_0
  refine wp_rg (by have : (0 : Int) ≤ gI s 1060 ∧ gI s 1060 ≤ 48 := hRs.1 1060; omega) ?_
  refine wp_if (fun c1 => ?_) (fun c1 => ?_)
  · skip
    unfold m_x8_isFresh_J30
    unfold m_x8_isFresh_J31
    refine wp_bo (by have : (0 : Int) ≤ gI s 1060 ∧ gI s 1060 ≤ 48 := hRs.1 1060; omega) ?_
    exact wp_some (by show ((0 : Int) = 1 ∧ 0 ≤ p0 ∧ p0 < gI s 1060 ∧ 0 < gA s 54 p0.toNat ∧ gA s 55 p0.toNat = 0) ∨ ((0 : Int) = 0 ∧ (p0 < 0 ∨ gI s 1060 ≤ p0 ∨ ¬ (0 < gA s 54 p0.toNat ∧ gA s 55 p0.toNat = 0))); have : (0 : Int) ≤ gI s 1060 ∧ gI s 1060 ≤ 48 := hRs.1 1060; omega)
  · skip
    refine wp_rdIn (by have : (0 : Int) ≤ gI s 1060 ∧ gI s 1060 ≤ 48 := hRs.1 1060; omega) (fun y7 ey7 => ?_)
    have by7 : (-1 : Int) ≤ y7 ∧ y7 ≤ 100000 := ey7 ▸ hRs.2.1 54 _ (by show _ < 48; have : (0 : Int) ≤ gI s 1060 ∧ gI s 1060 ≤ 48 := hRs.1 1060; omega)
    refine wp_rg (by have : (0 : Int) ≤ gI s 1060 ∧ gI s 1060 ≤ 48 := hRs.1 1060; omega) ?_
    refine wp_if (fun c2 => ?_) (fun c2 => ?_)
    · skip
      unfold m_x8_isFresh_J30
      unfold m_x8_isFresh_J31
      refine wp_bo (by have : (0 : Int) ≤ gI s 1060 ∧ gI s 1060 ≤ 48 := hRs.1 1060; omega) ?_
      exact wp_some (by show ((0 : Int) = 1 ∧ 0 ≤ p0 ∧ p0 < gI s 1060 ∧ 0 < gA s 54 p0.toNat ∧ gA s 55 p0.toNat = 0) ∨ ((0 : Int) = 0 ∧ (p0 < 0 ∨ gI s 1060 ≤ p0 ∨ ¬ (0 < gA s 54 p0.toNat ∧ gA s 55 p0.toNat = 0))); have : (0 : Int) ≤ gI s 1060 ∧ gI s 1060 ≤ 48 := hRs.1 1060; omega)
    · skip
      refine wp_rdIn (by have : (0 : Int) ≤ gI s 1060 ∧ gI s 1060 ≤ 48 := hRs.1 1060; omega) (fun y10 ey10 => ?_)
      have by10 : (-1 : Int) ≤ y10 ∧ y10 ≤ 100000 := ey10 ▸ hRs.2.1 55 _ (by show _ < 48; have : (0 : Int) ≤ gI s 1060 ∧ gI s 1060 ≤ 48 := hRs.1 1060; omega)
      refine wp_rg (by have : (0 : Int) ≤ gI s 1060 ∧ gI s 1060 ≤ 48 := hRs.1 1060; omega) ?_
      refine wp_if (fun c3 => ?_) (fun c3 => ?_)
      · skip
        unfold m_x8_isFresh_J31
        refine wp_bo (by have : (0 : Int) ≤ gI s 1060 ∧ gI s 1060 ≤ 48 := hRs.1 1060; omega) ?_
        exact wp_some (by show ((1 : Int) = 1 ∧ 0 ≤ p0 ∧ p0 < gI s 1060 ∧ 0 < gA s 54 p0.toNat ∧ gA s 55 p0.toNat = 0) ∨ ((1 : Int) = 0 ∧ (p0 < 0 ∨ gI s 1060 ≤ p0 ∨ ¬ (0 < gA s 54 p0.toNat ∧ gA s 55 p0.toNat = 0))); have : (0 : Int) ≤ gI s 1060 ∧ gI s 1060 ≤ 48 := hRs.1 1060; omega)
      · skip
        unfold m_x8_isFresh_J30
        unfold m_x8_isFresh_J31
        refine wp_bo (by have : (0 : Int) ≤ gI s 1060 ∧ gI s 1060 ≤ 48 := hRs.1 1060; omega) ?_
        exact wp_some (by show ((0 : Int) = 1 ∧ 0 ≤ p0 ∧ p0 < gI s 1060 ∧ 0 < gA s 54 p0.toNat ∧ gA s 55 p0.toNat = 0) ∨ ((0 : Int) = 0 ∧ (p0 < 0 ∨ gI s 1060 ≤ p0 ∨ ¬ (0 < gA s 54 p0.toNat ∧ gA s 55 p0.toNat = 0))); have : (0 : Int) ≤ gI s 1060 ∧ gI s 1060 ≤ 48 := hRs.1 1060; omega)
set_option maxHeartbeats 1000000 in
theorem w_x8_isFree {p0 : Int} {s : MS} (hRs : Rg s) (hp0 : R2 p0) : wp (m_x8_isFree p0 s) (fun r => ((r = 1 ∧ 0 ≤ p0 ∧ p0 < gI s 1060 ∧ gA s 54 p0.toNat = 0 ∧ gA s 55 p0.toNat = 0) ∨ (r = 0 ∧ (p0 < 0 ∨ gI s 1060 ≤ p0 ∨ ¬ (gA s 54 p0.toNat = 0 ∧ gA s 55 p0.toNat = 0))))) := by
  unfold m_x8_isFree
  refine wp_bn (w_x8_isBlock hRs (by show R2 p0; omega)) (fun r4 er4 hr4 => ?_)
  have hr4_0 := hr4
  have hr4_0 : (r4 = 1 ∧ 0 ≤ p0 ∧ p0 < gI s 1060) ∨ (r4 = 0 ∧ (p0 < 0 ∨ gI s 1060 ≤ p0)) := hr4_0
  refine wp_rg (by have : (0 : Int) ≤ gI s 1060 ∧ gI s 1060 ≤ 48 := hRs.1 1060; omega) ?_
  refine wp_if (fun c1 => ?_) (fun c1 => ?_)
  · skip
    unfold m_x8_isFree_J30
    unfold m_x8_isFree_J31
    refine wp_bo (by have : (0 : Int) ≤ gI s 1060 ∧ gI s 1060 ≤ 48 := hRs.1 1060; omega) ?_
    exact wp_some (by show ((0 : Int) = 1 ∧ 0 ≤ p0 ∧ p0 < gI s 1060 ∧ gA s 54 p0.toNat = 0 ∧ gA s 55 p0.toNat = 0) ∨ ((0 : Int) = 0 ∧ (p0 < 0 ∨ gI s 1060 ≤ p0 ∨ ¬ (gA s 54 p0.toNat = 0 ∧ gA s 55 p0.toNat = 0))); have : (0 : Int) ≤ gI s 1060 ∧ gI s 1060 ≤ 48 := hRs.1 1060; omega)
  · skip
    refine wp_rdIn (by have : (0 : Int) ≤ gI s 1060 ∧ gI s 1060 ≤ 48 := hRs.1 1060; omega) (fun y7 ey7 => ?_)
    have by7 : (-1 : Int) ≤ y7 ∧ y7 ≤ 100000 := ey7 ▸ hRs.2.1 54 _ (by show _ < 48; have : (0 : Int) ≤ gI s 1060 ∧ gI s 1060 ≤ 48 := hRs.1 1060; omega)
    refine wp_rg (by have : (0 : Int) ≤ gI s 1060 ∧ gI s 1060 ≤ 48 := hRs.1 1060; omega) ?_
    refine wp_if (fun c2 => ?_) (fun c2 => ?_)
    · skip
      refine wp_rdIn (by have : (0 : Int) ≤ gI s 1060 ∧ gI s 1060 ≤ 48 := hRs.1 1060; omega) (fun y10 ey10 => ?_)
      have by10 : (-1 : Int) ≤ y10 ∧ y10 ≤ 100000 := ey10 ▸ hRs.2.1 55 _ (by show _ < 48; have : (0 : Int) ≤ gI s 1060 ∧ gI s 1060 ≤ 48 := hRs.1 1060; omega)
      refine wp_rg (by have : (0 : Int) ≤ gI s 1060 ∧ gI s 1060 ≤ 48 := hRs.1 1060; omega) ?_
      refine wp_if (fun c3 => ?_) (fun c3 => ?_)
      · skip
        unfold m_x8_isFree_J31
        refine wp_bo (by have : (0 : Int) ≤ gI s 1060 ∧ gI s 1060 ≤ 48 := hRs.1 1060; omega) ?_
        exact wp_some (by show ((1 : Int) = 1 ∧ 0 ≤ p0 ∧ p0 < gI s 1060 ∧ gA s 54 p0.toNat = 0 ∧ gA s 55 p0.toNat = 0) ∨ ((1 : Int) = 0 ∧ (p0 < 0 ∨ gI s 1060 ≤ p0 ∨ ¬ (gA s 54 p0.toNat = 0 ∧ gA s 55 p0.toNat = 0))); have : (0 : Int) ≤ gI s 1060 ∧ gI s 1060 ≤ 48 := hRs.1 1060; omega)
      · skip
        unfold m_x8_isFree_J30
        unfold m_x8_isFree_J31
        refine wp_bo (by have : (0 : Int) ≤ gI s 1060 ∧ gI s 1060 ≤ 48 := hRs.1 1060; omega) ?_
        exact wp_some (by show ((0 : Int) = 1 ∧ 0 ≤ p0 ∧ p0 < gI s 1060 ∧ gA s 54 p0.toNat = 0 ∧ gA s 55 p0.toNat = 0) ∨ ((0 : Int) = 0 ∧ (p0 < 0 ∨ gI s 1060 ≤ p0 ∨ ¬ (gA s 54 p0.toNat = 0 ∧ gA s 55 p0.toNat = 0))); have : (0 : Int) ≤ gI s 1060 ∧ gI s 1060 ≤ 48 := hRs.1 1060; omega)
    · skip
      unfold m_x8_isFree_J30
      unfold m_x8_isFree_J31
      refine wp_bo (by have : (0 : Int) ≤ gI s 1060 ∧ gI s 1060 ≤ 48 := hRs.1 1060; omega) ?_
      exact wp_some (by show ((0 : Int) = 1 ∧ 0 ≤ p0 ∧ p0 < gI s 1060 ∧ gA s 54 p0.toNat = 0 ∧ gA s 55 p0.toNat = 0) ∨ ((0 : Int) = 0 ∧ (p0 < 0 ∨ gI s 1060 ≤ p0 ∨ ¬ (gA s 54 p0.toNat = 0 ∧ gA s 55 p0.toNat = 0))); have : (0 : Int) ≤ gI s 1060 ∧ gI s 1060 ≤ 48 := hRs.1 1060; omega)
set_option maxHeartbeats 1000000 in
theorem w_x8_levelOf {p0 : Int} {s : MS} (hRs : Rg s) (hp0 : R2 p0) : wp (m_x8_levelOf p0 s) (fun r => (r = 0 ∨ (r = gA s 56 p0.toNat ∧ 0 ≤ p0 ∧ p0 < gI s 1060 ∧ (0 < gA s 54 p0.toNat ∨ 0 < gA s 55 p0.toNat))) ∧ ((-1) ≤ r ∧ r ≤ 1000)) := by
  unfold m_x8_levelOf
  refine wp_bn (w_x8_inUse hRs (by show R2 p0; omega)) (fun r5 er5 hr5 => ?_)
  have hr5_0 := hr5
  have hr5_0 : (r5 = 1 ∧ 0 ≤ p0 ∧ p0 < gI s 1060 ∧ 0 < gA s 54 p0.toNat) ∨ (r5 = 0 ∧ (p0 < 0 ∨ gI s 1060 ≤ p0 ∨ ¬ (0 < gA s 54 p0.toNat))) := hr5_0
  refine wp_rg (by have : (0 : Int) ≤ gI s 1060 ∧ gI s 1060 ≤ 48 := hRs.1 1060; omega) ?_
  refine wp_if (fun c1 => ?_) (fun c1 => ?_)
  · skip
    refine wp_bn (w_x8_isHeld hRs (by show R2 p0; have : (0 : Int) ≤ gI s 1060 ∧ gI s 1060 ≤ 48 := hRs.1 1060; omega)) (fun r9 er9 hr9 => ?_)
    have hr9_0 := hr9
    have hr9_0 : (r9 = 1 ∧ 0 ≤ p0 ∧ p0 < gI s 1060 ∧ gA s 54 p0.toNat = 0 ∧ 0 < gA s 55 p0.toNat) ∨ (r9 = 0 ∧ (p0 < 0 ∨ gI s 1060 ≤ p0 ∨ ¬ (gA s 54 p0.toNat = 0 ∧ 0 < gA s 55 p0.toNat))) := hr9_0
    refine wp_rg (by have : (0 : Int) ≤ gI s 1060 ∧ gI s 1060 ≤ 48 := hRs.1 1060; omega) ?_
    refine wp_if (fun c2 => ?_) (fun c2 => ?_)
    · skip
      unfold m_x8_levelOf_J26
      exact wp_some ⟨by show (0 : Int) = 0 ∨ ((0 : Int) = gA s 56 p0.toNat ∧ 0 ≤ p0 ∧ p0 < gI s 1060 ∧ (0 < gA s 54 p0.toNat ∨ 0 < gA s 55 p0.toNat)); have : (0 : Int) ≤ gI s 1060 ∧ gI s 1060 ≤ 48 := hRs.1 1060; omega, by show (-1) ≤ (0 : Int) ∧ (0 : Int) ≤ 1000; have : (0 : Int) ≤ gI s 1060 ∧ gI s 1060 ≤ 48 := hRs.1 1060; omega⟩
    · skip
      unfold m_x8_levelOf_J16
      refine wp_rdIn (by have : (0 : Int) ≤ gI s 1060 ∧ gI s 1060 ≤ 48 := hRs.1 1060; omega) (fun y3 ey3 => ?_)
      have by3 : (-1 : Int) ≤ y3 ∧ y3 ≤ 1000 := ey3 ▸ hRs.2.1 56 _ (by show _ < 48; have : (0 : Int) ≤ gI s 1060 ∧ gI s 1060 ≤ 48 := hRs.1 1060; omega)
      unfold m_x8_levelOf_J26
      exact wp_some ⟨by show y3 = 0 ∨ (y3 = gA s 56 p0.toNat ∧ 0 ≤ p0 ∧ p0 < gI s 1060 ∧ (0 < gA s 54 p0.toNat ∨ 0 < gA s 55 p0.toNat)); have : (0 : Int) ≤ gI s 1060 ∧ gI s 1060 ≤ 48 := hRs.1 1060; omega, by show (-1) ≤ y3 ∧ y3 ≤ 1000; have : (0 : Int) ≤ gI s 1060 ∧ gI s 1060 ≤ 48 := hRs.1 1060; omega⟩
  · skip
    unfold m_x8_levelOf_J16
    refine wp_rdIn (by have : (0 : Int) ≤ gI s 1060 ∧ gI s 1060 ≤ 48 := hRs.1 1060; omega) (fun y3 ey3 => ?_)
    have by3 : (-1 : Int) ≤ y3 ∧ y3 ≤ 1000 := ey3 ▸ hRs.2.1 56 _ (by show _ < 48; have : (0 : Int) ≤ gI s 1060 ∧ gI s 1060 ≤ 48 := hRs.1 1060; omega)
    unfold m_x8_levelOf_J26
    exact wp_some ⟨by show y3 = 0 ∨ (y3 = gA s 56 p0.toNat ∧ 0 ≤ p0 ∧ p0 < gI s 1060 ∧ (0 < gA s 54 p0.toNat ∨ 0 < gA s 55 p0.toNat)); have : (0 : Int) ≤ gI s 1060 ∧ gI s 1060 ≤ 48 := hRs.1 1060; omega, by show (-1) ≤ y3 ∧ y3 ≤ 1000; have : (0 : Int) ≤ gI s 1060 ∧ gI s 1060 ≤ 48 := hRs.1 1060; omega⟩
set_option maxHeartbeats 1000000 in
theorem w_x8_sizeOf {p0 : Int} {s : MS} (hRs : Rg s) (hp0 : R2 p0) : wp (m_x8_sizeOf p0 s) (fun r => (r = 0 ∨ (r = gA s 57 p0.toNat ∧ 0 ≤ p0 ∧ p0 < gI s 1060 ∧ (0 < gA s 54 p0.toNat ∨ 0 < gA s 55 p0.toNat))) ∧ ((-1) ≤ r ∧ r ≤ 255)) := by
  unfold m_x8_sizeOf
  refine wp_bn (w_x8_inUse hRs (by show R2 p0; omega)) (fun r5 er5 hr5 => ?_)
  have hr5_0 := hr5
  have hr5_0 : (r5 = 1 ∧ 0 ≤ p0 ∧ p0 < gI s 1060 ∧ 0 < gA s 54 p0.toNat) ∨ (r5 = 0 ∧ (p0 < 0 ∨ gI s 1060 ≤ p0 ∨ ¬ (0 < gA s 54 p0.toNat))) := hr5_0
  refine wp_rg (by have : (0 : Int) ≤ gI s 1060 ∧ gI s 1060 ≤ 48 := hRs.1 1060; omega) ?_
  refine wp_if (fun c1 => ?_) (fun c1 => ?_)
  · skip
    refine wp_bn (w_x8_isHeld hRs (by show R2 p0; have : (0 : Int) ≤ gI s 1060 ∧ gI s 1060 ≤ 48 := hRs.1 1060; omega)) (fun r9 er9 hr9 => ?_)
    have hr9_0 := hr9
    have hr9_0 : (r9 = 1 ∧ 0 ≤ p0 ∧ p0 < gI s 1060 ∧ gA s 54 p0.toNat = 0 ∧ 0 < gA s 55 p0.toNat) ∨ (r9 = 0 ∧ (p0 < 0 ∨ gI s 1060 ≤ p0 ∨ ¬ (gA s 54 p0.toNat = 0 ∧ 0 < gA s 55 p0.toNat))) := hr9_0
    refine wp_rg (by have : (0 : Int) ≤ gI s 1060 ∧ gI s 1060 ≤ 48 := hRs.1 1060; omega) ?_
    refine wp_if (fun c2 => ?_) (fun c2 => ?_)
    · skip
      unfold m_x8_sizeOf_J26
      exact wp_some ⟨by show (0 : Int) = 0 ∨ ((0 : Int) = gA s 57 p0.toNat ∧ 0 ≤ p0 ∧ p0 < gI s 1060 ∧ (0 < gA s 54 p0.toNat ∨ 0 < gA s 55 p0.toNat)); have : (0 : Int) ≤ gI s 1060 ∧ gI s 1060 ≤ 48 := hRs.1 1060; omega, by show (-1) ≤ (0 : Int) ∧ (0 : Int) ≤ 255; have : (0 : Int) ≤ gI s 1060 ∧ gI s 1060 ≤ 48 := hRs.1 1060; omega⟩
    · skip
      unfold m_x8_sizeOf_J16
      refine wp_rdIn (by have : (0 : Int) ≤ gI s 1060 ∧ gI s 1060 ≤ 48 := hRs.1 1060; omega) (fun y3 ey3 => ?_)
      have by3 : (-1 : Int) ≤ y3 ∧ y3 ≤ 255 := ey3 ▸ hRs.2.1 57 _ (by show _ < 48; have : (0 : Int) ≤ gI s 1060 ∧ gI s 1060 ≤ 48 := hRs.1 1060; omega)
      unfold m_x8_sizeOf_J26
      exact wp_some ⟨by show y3 = 0 ∨ (y3 = gA s 57 p0.toNat ∧ 0 ≤ p0 ∧ p0 < gI s 1060 ∧ (0 < gA s 54 p0.toNat ∨ 0 < gA s 55 p0.toNat)); have : (0 : Int) ≤ gI s 1060 ∧ gI s 1060 ≤ 48 := hRs.1 1060; omega, by show (-1) ≤ y3 ∧ y3 ≤ 255; have : (0 : Int) ≤ gI s 1060 ∧ gI s 1060 ≤ 48 := hRs.1 1060; omega⟩
  · skip
    unfold m_x8_sizeOf_J16
    refine wp_rdIn (by have : (0 : Int) ≤ gI s 1060 ∧ gI s 1060 ≤ 48 := hRs.1 1060; omega) (fun y3 ey3 => ?_)
    have by3 : (-1 : Int) ≤ y3 ∧ y3 ≤ 255 := ey3 ▸ hRs.2.1 57 _ (by show _ < 48; have : (0 : Int) ≤ gI s 1060 ∧ gI s 1060 ≤ 48 := hRs.1 1060; omega)
    unfold m_x8_sizeOf_J26
    exact wp_some ⟨by show y3 = 0 ∨ (y3 = gA s 57 p0.toNat ∧ 0 ≤ p0 ∧ p0 < gI s 1060 ∧ (0 < gA s 54 p0.toNat ∨ 0 < gA s 55 p0.toNat)); have : (0 : Int) ≤ gI s 1060 ∧ gI s 1060 ≤ 48 := hRs.1 1060; omega, by show (-1) ≤ y3 ∧ y3 ≤ 255; have : (0 : Int) ≤ gI s 1060 ∧ gI s 1060 ≤ 48 := hRs.1 1060; omega⟩
set_option maxHeartbeats 1000000 in
theorem w_x8_volumes {s : MS} (hRs : Rg s) : wp (m_x8_volumes s) (fun r => (0 ≤ r ∧ r ≤ 8)) := by
  unfold m_x8_volumes
  have L4 : ∀ (n : Nat) (x1 : Int) (x2 : Int), (0 ≤ x1 ∧ x1 ≤ x2 ∧ x2 ≤ 8) → (8 - x2) < (n : Int) → wp (m_x8_volumes_L4 s n x1 x2) (fun r => (0 ≤ r ∧ r ≤ 8)) := by
    refine fr_ind (fun x1 x2 hv4_0 hm4 => ?_) (fun n4 ih4 x1 x2 hv4_0 hm4 => ?_)
    · exfalso; omega
    · show wp (m_x8_volumes_b4 s (m_x8_volumes_L4 s n4) x1 x2) _
      unfold m_x8_volumes_b4
      refine wp_rg (by omega) ?_
      refine wp_if (fun c1 => ?_) (fun c1 => ?_)
      · skip
        exact wp_some (by show 0 ≤ x1 ∧ x1 ≤ 8; omega)
      · skip
        refine wp_bn (w_x8_isVolume hRs (by show R2 x2; omega)) (fun r9 er9 hr9 => ?_)
        have hr9_0 := hr9
        have hr9_0 : (r9 = 1 ∧ 0 ≤ x2 ∧ x2 < 8 ∧ gA s 60 x2.toNat ≠ -2) ∨ (r9 = 0 ∧ (x2 < 0 ∨ 8 ≤ x2 ∨ gA s 60 x2.toNat = -2)) := hr9_0
        refine wp_rg (by omega) ?_
        refine wp_if (fun c2 => ?_) (fun c2 => ?_)
        · skip
          unfold m_x8_volumes_J24
          exact ih4 (x1 + 0) (x2 + 1) (by show 0 ≤ (x1 + 0) ∧ (x1 + 0) ≤ (x2 + 1) ∧ (x2 + 1) ≤ 8; omega) (by omega)
        · skip
          unfold m_x8_volumes_J24
          exact ih4 (x1 + 1) (x2 + 1) (by show 0 ≤ (x1 + 1) ∧ (x1 + 1) ≤ (x2 + 1) ∧ (x2 + 1) ≤ 8; omega) (by omega)
  exact L4 FU 0 0 (by show 0 ≤ (0 : Int) ∧ (0 : Int) ≤ (0 : Int) ∧ (0 : Int) ≤ 8; omega) (by have := FU_big; have := FU_big2; omega)
set_option maxHeartbeats 1000000 in
theorem w_x8_freeNumber {s : MS} (hRs : Rg s) : wp (m_x8_freeNumber s) (fun r => (r = -1 ∨ (0 ≤ r ∧ r < 8 ∧ gA s 60 r.toNat = -2))) := by
  unfold m_x8_freeNumber
  have L2 : ∀ (n : Nat) (x1 : Int), (0 ≤ x1 ∧ x1 ≤ 8) → (8 - x1) < (n : Int) → wp (m_x8_freeNumber_L2 s n x1) (fun r => (r = -1 ∨ (0 ≤ r ∧ r < 8 ∧ gA s 60 r.toNat = -2))) := by
    refine fr_ind (fun x1 hv2_0 hm2 => ?_) (fun n2 ih2 x1 hv2_0 hm2 => ?_)
    · exfalso; omega
    · show wp (m_x8_freeNumber_b2 s (m_x8_freeNumber_L2 s n2) x1) _
      unfold m_x8_freeNumber_b2
      refine wp_rg (by omega) ?_
      refine wp_if (fun c1 => ?_) (fun c1 => ?_)
      · skip
        exact wp_some (by show (-1 : Int) = -1 ∨ (0 ≤ (-1 : Int) ∧ (-1 : Int) < 8 ∧ gA s 60 (-1 : Int).toNat = -2); omega)
      · skip
        refine wp_bn (w_x8_isVolume hRs (by show R2 x1; omega)) (fun r5 er5 hr5 => ?_)
        have hr5_0 := hr5
        have hr5_0 : (r5 = 1 ∧ 0 ≤ x1 ∧ x1 < 8 ∧ gA s 60 x1.toNat ≠ -2) ∨ (r5 = 0 ∧ (x1 < 0 ∨ 8 ≤ x1 ∨ gA s 60 x1.toNat = -2)) := hr5_0
        refine wp_rg (by omega) ?_
        refine wp_if (fun c2 => ?_) (fun c2 => ?_)
        · skip
          exact wp_some (by show x1 = -1 ∨ (0 ≤ x1 ∧ x1 < 8 ∧ gA s 60 x1.toNat = -2); omega)
        · skip
          exact ih2 (x1 + 1) (by show 0 ≤ (x1 + 1) ∧ (x1 + 1) ≤ 8; omega) (by omega)
  exact L2 FU 0 (by show 0 ≤ (0 : Int) ∧ (0 : Int) ≤ 8; omega) (by have := FU_big; have := FU_big2; omega)
set_option maxHeartbeats 1000000 in
theorem w_x8_used {s : MS} (hRs : Rg s) : wp (m_x8_used s) (fun r => (0 ≤ r ∧ r ≤ 48)) := by
  unfold m_x8_used
  have L4 : ∀ (n : Nat) (x1 : Int) (x2 : Int), (0 ≤ x1 ∧ x1 ≤ x2 ∧ x2 ≤ 48) → (48 - x2) < (n : Int) → wp (m_x8_used_L4 s n x1 x2) (fun r => (0 ≤ r ∧ r ≤ 48)) := by
    refine fr_ind (fun x1 x2 hv4_0 hm4 => ?_) (fun n4 ih4 x1 x2 hv4_0 hm4 => ?_)
    · exfalso; omega
    · show wp (m_x8_used_b4 s (m_x8_used_L4 s n4) x1 x2) _
      unfold m_x8_used_b4
      refine wp_rg (by omega) ?_
      refine wp_rg (by have : (0 : Int) ≤ gI s 1060 ∧ gI s 1060 ≤ 48 := hRs.1 1060; omega) ?_
      refine wp_if (fun c1 => ?_) (fun c1 => ?_)
      · skip
        exact wp_some (by show 0 ≤ x1 ∧ x1 ≤ 48; have : (0 : Int) ≤ gI s 1060 ∧ gI s 1060 ≤ 48 := hRs.1 1060; omega)
      · skip
        refine wp_rdIn (by have : (0 : Int) ≤ gI s 1060 ∧ gI s 1060 ≤ 48 := hRs.1 1060; omega) (fun y9 ey9 => ?_)
        have by9 : (-1 : Int) ≤ y9 ∧ y9 ≤ 100000 := ey9 ▸ hRs.2.1 54 _ (by show _ < 48; have : (0 : Int) ≤ gI s 1060 ∧ gI s 1060 ≤ 48 := hRs.1 1060; omega)
        refine wp_rg (by have : (0 : Int) ≤ gI s 1060 ∧ gI s 1060 ≤ 48 := hRs.1 1060; omega) ?_
        refine wp_if (fun c2 => ?_) (fun c2 => ?_)
        · skip
          unfold m_x8_used_J27
          exact ih4 (x1 + 0) (x2 + 1) (by show 0 ≤ (x1 + 0) ∧ (x1 + 0) ≤ (x2 + 1) ∧ (x2 + 1) ≤ 48; have : (0 : Int) ≤ gI s 1060 ∧ gI s 1060 ≤ 48 := hRs.1 1060; omega) (by have : (0 : Int) ≤ gI s 1060 ∧ gI s 1060 ≤ 48 := hRs.1 1060; omega)
        · skip
          unfold m_x8_used_J27
          exact ih4 (x1 + 1) (x2 + 1) (by show 0 ≤ (x1 + 1) ∧ (x1 + 1) ≤ (x2 + 1) ∧ (x2 + 1) ≤ 48; have : (0 : Int) ≤ gI s 1060 ∧ gI s 1060 ≤ 48 := hRs.1 1060; omega) (by have : (0 : Int) ≤ gI s 1060 ∧ gI s 1060 ≤ 48 := hRs.1 1060; omega)
  exact L4 FU 0 0 (by show 0 ≤ (0 : Int) ∧ (0 : Int) ≤ (0 : Int) ∧ (0 : Int) ≤ 48; omega) (by have := FU_big; have := FU_big2; omega)
set_option maxHeartbeats 1000000 in
theorem w_x8_held {s : MS} (hRs : Rg s) : wp (m_x8_held s) (fun r => (0 ≤ r ∧ r ≤ 48)) := by
  unfold m_x8_held
  have L4 : ∀ (n : Nat) (x1 : Int) (x2 : Int), (0 ≤ x1 ∧ x1 ≤ x2 ∧ x2 ≤ 48) → (48 - x2) < (n : Int) → wp (m_x8_held_L4 s n x1 x2) (fun r => (0 ≤ r ∧ r ≤ 48)) := by
    refine fr_ind (fun x1 x2 hv4_0 hm4 => ?_) (fun n4 ih4 x1 x2 hv4_0 hm4 => ?_)
    · exfalso; omega
    · show wp (m_x8_held_b4 s (m_x8_held_L4 s n4) x1 x2) _
      unfold m_x8_held_b4
      refine wp_rg (by omega) ?_
      refine wp_rg (by have : (0 : Int) ≤ gI s 1060 ∧ gI s 1060 ≤ 48 := hRs.1 1060; omega) ?_
      refine wp_if (fun c1 => ?_) (fun c1 => ?_)
      · skip
        exact wp_some (by show 0 ≤ x1 ∧ x1 ≤ 48; have : (0 : Int) ≤ gI s 1060 ∧ gI s 1060 ≤ 48 := hRs.1 1060; omega)
      · skip
        refine wp_bn (w_x8_isHeld hRs (by show R2 x2; have : (0 : Int) ≤ gI s 1060 ∧ gI s 1060 ≤ 48 := hRs.1 1060; omega)) (fun r10 er10 hr10 => ?_)
        have hr10_0 := hr10
        have hr10_0 : (r10 = 1 ∧ 0 ≤ x2 ∧ x2 < gI s 1060 ∧ gA s 54 x2.toNat = 0 ∧ 0 < gA s 55 x2.toNat) ∨ (r10 = 0 ∧ (x2 < 0 ∨ gI s 1060 ≤ x2 ∨ ¬ (gA s 54 x2.toNat = 0 ∧ 0 < gA s 55 x2.toNat))) := hr10_0
        refine wp_rg (by have : (0 : Int) ≤ gI s 1060 ∧ gI s 1060 ≤ 48 := hRs.1 1060; omega) ?_
        refine wp_if (fun c2 => ?_) (fun c2 => ?_)
        · skip
          unfold m_x8_held_J26
          exact ih4 (x1 + 0) (x2 + 1) (by show 0 ≤ (x1 + 0) ∧ (x1 + 0) ≤ (x2 + 1) ∧ (x2 + 1) ≤ 48; have : (0 : Int) ≤ gI s 1060 ∧ gI s 1060 ≤ 48 := hRs.1 1060; omega) (by have : (0 : Int) ≤ gI s 1060 ∧ gI s 1060 ≤ 48 := hRs.1 1060; omega)
        · skip
          unfold m_x8_held_J26
          exact ih4 (x1 + 1) (x2 + 1) (by show 0 ≤ (x1 + 1) ∧ (x1 + 1) ≤ (x2 + 1) ∧ (x2 + 1) ≤ 48; have : (0 : Int) ≤ gI s 1060 ∧ gI s 1060 ≤ 48 := hRs.1 1060; omega) (by have : (0 : Int) ≤ gI s 1060 ∧ gI s 1060 ≤ 48 := hRs.1 1060; omega)
  exact L4 FU 0 0 (by show 0 ≤ (0 : Int) ∧ (0 : Int) ≤ (0 : Int) ∧ (0 : Int) ≤ 48; omega) (by have := FU_big; have := FU_big2; omega)
set_option maxHeartbeats 1000000 in
theorem w_x8_freshBlocks {s : MS} (hRs : Rg s) : wp (m_x8_freshBlocks s) (fun r => (0 ≤ r ∧ r ≤ 48)) := by
  unfold m_x8_freshBlocks
  have L4 : ∀ (n : Nat) (x1 : Int) (x2 : Int), (0 ≤ x1 ∧ x1 ≤ x2 ∧ x2 ≤ 48) → (48 - x2) < (n : Int) → wp (m_x8_freshBlocks_L4 s n x1 x2) (fun r => (0 ≤ r ∧ r ≤ 48)) := by
    refine fr_ind (fun x1 x2 hv4_0 hm4 => ?_) (fun n4 ih4 x1 x2 hv4_0 hm4 => ?_)
    · exfalso; omega
    · show wp (m_x8_freshBlocks_b4 s (m_x8_freshBlocks_L4 s n4) x1 x2) _
      unfold m_x8_freshBlocks_b4
      refine wp_rg (by omega) ?_
      refine wp_rg (by have : (0 : Int) ≤ gI s 1060 ∧ gI s 1060 ≤ 48 := hRs.1 1060; omega) ?_
      refine wp_if (fun c1 => ?_) (fun c1 => ?_)
      · skip
        exact wp_some (by show 0 ≤ x1 ∧ x1 ≤ 48; have : (0 : Int) ≤ gI s 1060 ∧ gI s 1060 ≤ 48 := hRs.1 1060; omega)
      · skip
        refine wp_bn (w_x8_isFresh hRs (by show R2 x2; have : (0 : Int) ≤ gI s 1060 ∧ gI s 1060 ≤ 48 := hRs.1 1060; omega)) (fun r10 er10 hr10 => ?_)
        have hr10_0 := hr10
        have hr10_0 : (r10 = 1 ∧ 0 ≤ x2 ∧ x2 < gI s 1060 ∧ 0 < gA s 54 x2.toNat ∧ gA s 55 x2.toNat = 0) ∨ (r10 = 0 ∧ (x2 < 0 ∨ gI s 1060 ≤ x2 ∨ ¬ (0 < gA s 54 x2.toNat ∧ gA s 55 x2.toNat = 0))) := hr10_0
        refine wp_rg (by have : (0 : Int) ≤ gI s 1060 ∧ gI s 1060 ≤ 48 := hRs.1 1060; omega) ?_
        refine wp_if (fun c2 => ?_) (fun c2 => ?_)
        · skip
          unfold m_x8_freshBlocks_J26
          exact ih4 (x1 + 0) (x2 + 1) (by show 0 ≤ (x1 + 0) ∧ (x1 + 0) ≤ (x2 + 1) ∧ (x2 + 1) ≤ 48; have : (0 : Int) ≤ gI s 1060 ∧ gI s 1060 ≤ 48 := hRs.1 1060; omega) (by have : (0 : Int) ≤ gI s 1060 ∧ gI s 1060 ≤ 48 := hRs.1 1060; omega)
        · skip
          unfold m_x8_freshBlocks_J26
          exact ih4 (x1 + 1) (x2 + 1) (by show 0 ≤ (x1 + 1) ∧ (x1 + 1) ≤ (x2 + 1) ∧ (x2 + 1) ≤ 48; have : (0 : Int) ≤ gI s 1060 ∧ gI s 1060 ≤ 48 := hRs.1 1060; omega) (by have : (0 : Int) ≤ gI s 1060 ∧ gI s 1060 ≤ 48 := hRs.1 1060; omega)
  exact L4 FU 0 0 (by show 0 ≤ (0 : Int) ∧ (0 : Int) ≤ (0 : Int) ∧ (0 : Int) ≤ 48; omega) (by have := FU_big; have := FU_big2; omega)
set_option maxHeartbeats 1000000 in
theorem w_x8_keptBlocks {s : MS} (hRs : Rg s) : wp (m_x8_keptBlocks s) (fun r => (0 ≤ r ∧ r ≤ 48)) := by
  unfold m_x8_keptBlocks
  have L4 : ∀ (n : Nat) (x1 : Int) (x2 : Int), (0 ≤ x1 ∧ x1 ≤ x2 ∧ x2 ≤ 48) → (48 - x2) < (n : Int) → wp (m_x8_keptBlocks_L4 s n x1 x2) (fun r => (0 ≤ r ∧ r ≤ 48)) := by
    refine fr_ind (fun x1 x2 hv4_0 hm4 => ?_) (fun n4 ih4 x1 x2 hv4_0 hm4 => ?_)
    · exfalso; omega
    · show wp (m_x8_keptBlocks_b4 s (m_x8_keptBlocks_L4 s n4) x1 x2) _
      unfold m_x8_keptBlocks_b4
      refine wp_rg (by omega) ?_
      refine wp_rg (by have : (0 : Int) ≤ gI s 1060 ∧ gI s 1060 ≤ 48 := hRs.1 1060; omega) ?_
      refine wp_if (fun c1 => ?_) (fun c1 => ?_)
      · skip
        exact wp_some (by show 0 ≤ x1 ∧ x1 ≤ 48; have : (0 : Int) ≤ gI s 1060 ∧ gI s 1060 ≤ 48 := hRs.1 1060; omega)
      · skip
        refine wp_rdIn (by have : (0 : Int) ≤ gI s 1060 ∧ gI s 1060 ≤ 48 := hRs.1 1060; omega) (fun y9 ey9 => ?_)
        have by9 : (-1 : Int) ≤ y9 ∧ y9 ≤ 100000 := ey9 ▸ hRs.2.1 55 _ (by show _ < 48; have : (0 : Int) ≤ gI s 1060 ∧ gI s 1060 ≤ 48 := hRs.1 1060; omega)
        refine wp_rg (by have : (0 : Int) ≤ gI s 1060 ∧ gI s 1060 ≤ 48 := hRs.1 1060; omega) ?_
        refine wp_if (fun c2 => ?_) (fun c2 => ?_)
        · skip
          unfold m_x8_keptBlocks_J27
          exact ih4 (x1 + 0) (x2 + 1) (by show 0 ≤ (x1 + 0) ∧ (x1 + 0) ≤ (x2 + 1) ∧ (x2 + 1) ≤ 48; have : (0 : Int) ≤ gI s 1060 ∧ gI s 1060 ≤ 48 := hRs.1 1060; omega) (by have : (0 : Int) ≤ gI s 1060 ∧ gI s 1060 ≤ 48 := hRs.1 1060; omega)
        · skip
          unfold m_x8_keptBlocks_J27
          exact ih4 (x1 + 1) (x2 + 1) (by show 0 ≤ (x1 + 1) ∧ (x1 + 1) ≤ (x2 + 1) ∧ (x2 + 1) ≤ 48; have : (0 : Int) ≤ gI s 1060 ∧ gI s 1060 ≤ 48 := hRs.1 1060; omega) (by have : (0 : Int) ≤ gI s 1060 ∧ gI s 1060 ≤ 48 := hRs.1 1060; omega)
  exact L4 FU 0 0 (by show 0 ≤ (0 : Int) ∧ (0 : Int) ≤ (0 : Int) ∧ (0 : Int) ≤ 48; omega) (by have := FU_big; have := FU_big2; omega)
set_option maxHeartbeats 1000000 in
theorem w_x8_entryFor {p0 : Int} {p1 : Int} {s : MS} (hRs : Rg s) (hp0 : 0 ≤ p0 ∧ p0 < 48) (hp1 : gA s 57 p0.toNat ≤ 6) (hp2 : R2 p1) : wp (m_x8_entryFor p0 p1 s) (fun r => (r = 0 ∨ (1 ≤ r ∧ r < gA s 57 p0.toNat))) := by
  unfold m_x8_entryFor
  have L5 : ∀ (n : Nat) (x1 : Int) (x2 : Int) (x3 : Int) (x4 : Int), (x1 = p0 ∧ x2 = p1) → (x3 = 0 ∨ (1 ≤ x3 ∧ x3 < gA s 57 p0.toNat)) → (1 ≤ x4 ∧ x4 ≤ 7) → (x3 < x4) → (7 - x4) < (n : Int) → wp (m_x8_entryFor_L5 s n x1 x2 x3 x4) (fun r => (r = 0 ∨ (1 ≤ r ∧ r < gA s 57 p0.toNat))) := by
    refine fr_ind (fun x1 x2 x3 x4 hv5_0 hv5_1 hv5_2 hv5_3 hm5 => ?_) (fun n5 ih5 x1 x2 x3 x4 hv5_0 hv5_1 hv5_2 hv5_3 hm5 => ?_)
    · exfalso; omega
    · show wp (m_x8_entryFor_b5 s (m_x8_entryFor_L5 s n5) x1 x2 x3 x4) _
      unfold m_x8_entryFor_b5
      have hx5 : gA s 57 x1.toNat = gA s 57 p0.toNat := by rw [hv5_0.1]
      refine wp_rdIn (by omega) (fun y9 ey9 => ?_)
      have by9 : (-1 : Int) ≤ y9 ∧ y9 ≤ 255 := ey9 ▸ hRs.2.1 57 _ (by show _ < 48; omega)
      refine wp_rg (by omega) ?_
      refine wp_rg (by omega) ?_
      refine wp_if (fun c1 => ?_) (fun c1 => ?_)
      · skip
        exact wp_some (by show x3 = 0 ∨ (1 ≤ x3 ∧ x3 < gA s 57 p0.toNat); omega)
      · skip
        refine wp_bn (w_x8_slot hRs) (fun r14 er14 hr14 => ?_)
        have hr14_0 := hr14
        have hr14_0 : r14 = x1 * 6 + x4 := hr14_0
        refine wp_rdIn (by omega) (fun y15 ey15 => ?_)
        have by15 : (-257 : Int) ≤ y15 ∧ y15 ≤ 65535 := ey15 ▸ hRs.2.1 58 _ (by show _ < 288; omega)
        refine wp_rg (by omega) ?_
        refine wp_rg (by omega) ?_
        refine wp_if (fun c2 => ?_) (fun c2 => ?_)
        · skip
          unfold m_x8_entryFor_J35
          exact ih5 x1 x2 x3 (x4 + 1) (by show x1 = p0 ∧ x2 = p1; omega) (by show x3 = 0 ∨ (1 ≤ x3 ∧ x3 < gA s 57 p0.toNat); omega) (by show 1 ≤ (x4 + 1) ∧ (x4 + 1) ≤ 7; omega) (by show x3 < (x4 + 1); omega) (by omega)
        · skip
          unfold m_x8_entryFor_J35
          exact ih5 x1 x2 x4 (x4 + 1) (by show x1 = p0 ∧ x2 = p1; omega) (by show x4 = 0 ∨ (1 ≤ x4 ∧ x4 < gA s 57 p0.toNat); omega) (by show 1 ≤ (x4 + 1) ∧ (x4 + 1) ≤ 7; omega) (by show x4 < (x4 + 1); omega) (by omega)
  exact L5 FU p0 p1 0 1 (by show p0 = p0 ∧ p1 = p1; omega) (by show (0 : Int) = 0 ∨ (1 ≤ (0 : Int) ∧ (0 : Int) < gA s 57 p0.toNat); omega) (by show 1 ≤ (1 : Int) ∧ (1 : Int) ≤ 7; omega) (by show (0 : Int) < (1 : Int); omega) (by have := FU_big; have := FU_big2; omega)
set_option maxHeartbeats 1000000 in
theorem w_x8_find {p0 : Int} {p1 : Int} {s : MS} (hRs : Rg s) (hp0 : 0 ≤ p0 ∧ p0 < 48) (hp1 : gA s 57 p0.toNat ≤ 6) (hp2 : R2 p1) : wp (m_x8_find p0 p1 s) (fun r => (r = -1 ∨ (0 ≤ r ∧ r < gA s 57 p0.toNat))) := by
  unfold m_x8_find
  have L2 : ∀ (n : Nat) (x1 : Int) (x2 : Int) (x3 : Int), (x1 = p0 ∧ x2 = p1) → (0 ≤ x3 ∧ x3 ≤ 7) → (7 - x3) < (n : Int) → wp (m_x8_find_L2 s n x1 x2 x3) (fun r => (r = -1 ∨ (0 ≤ r ∧ r < gA s 57 p0.toNat))) := by
    refine fr_ind (fun x1 x2 x3 hv2_0 hv2_1 hm2 => ?_) (fun n2 ih2 x1 x2 x3 hv2_0 hv2_1 hm2 => ?_)
    · exfalso; omega
    · show wp (m_x8_find_b2 s (m_x8_find_L2 s n2) x1 x2 x3) _
      unfold m_x8_find_b2
      have hx2 : gA s 57 x1.toNat = gA s 57 p0.toNat := by rw [hv2_0.1]
      refine wp_rdIn (by omega) (fun y4 ey4 => ?_)
      have by4 : (-1 : Int) ≤ y4 ∧ y4 ≤ 255 := ey4 ▸ hRs.2.1 57 _ (by show _ < 48; omega)
      refine wp_rg (by omega) ?_
      refine wp_rg (by omega) ?_
      refine wp_if (fun c1 => ?_) (fun c1 => ?_)
      · skip
        exact wp_some (by show (-1 : Int) = -1 ∨ (0 ≤ (-1 : Int) ∧ (-1 : Int) < gA s 57 p0.toNat); omega)
      · skip
        refine wp_bn (w_x8_slot hRs) (fun r9 er9 hr9 => ?_)
        have hr9_0 := hr9
        have hr9_0 : r9 = x1 * 6 + x3 := hr9_0
        refine wp_rdIn (by omega) (fun y10 ey10 => ?_)
        have by10 : (-257 : Int) ≤ y10 ∧ y10 ≤ 65535 := ey10 ▸ hRs.2.1 58 _ (by show _ < 288; omega)
        refine wp_rg (by omega) ?_
        refine wp_rg (by omega) ?_
        refine wp_if (fun c2 => ?_) (fun c2 => ?_)
        · skip
          exact wp_some (by show x3 = -1 ∨ (0 ≤ x3 ∧ x3 < gA s 57 p0.toNat); omega)
        · skip
          exact ih2 x1 x2 (x3 + 1) (by show x1 = p0 ∧ x2 = p1; omega) (by show 0 ≤ (x3 + 1) ∧ (x3 + 1) ≤ 7; omega) (by omega)
  exact L2 FU p0 p1 0 (by show p0 = p0 ∧ p1 = p1; omega) (by show 0 ≤ (0 : Int) ∧ (0 : Int) ≤ 7; omega) (by have := FU_big; have := FU_big2; omega)
set_option maxHeartbeats 1000000 in
theorem w_x8_below {p0 : Int} {p1 : Int} {s : MS} (hRs : Rg s) (hp0 : 0 ≤ p0 ∧ p0 < 48) (hp1 : 1 ≤ gA s 57 p0.toNat ∧ gA s 57 p0.toNat ≤ 6) (hp2 : R2 p1) : wp (m_x8_below p0 p1 s) (fun r => (∃ k : Nat, (k : Int) < gA s 57 p0.toNat ∧ r = gA s 59 (6 * p0.toNat + k))) := by
  unfold m_x8_below
  refine wp_bn (w_x8_entryFor hRs (by show 0 ≤ p0 ∧ p0 < 48; omega) (by show gA s 57 p0.toNat ≤ 6; omega) (by show R2 p1; omega)) (fun r2 er2 hr2 => ?_)
  have hr2_0 := hr2
  have hr2_0 : r2 = 0 ∨ (1 ≤ r2 ∧ r2 < gA s 57 p0.toNat) := hr2_0
  refine wp_bn (w_x8_slot hRs) (fun r4 er4 hr4 => ?_)
  have hr4_0 := hr4
  have hr4_0 : r4 = p0 * 6 + r2 := hr4_0
  refine wp_rdIn (by omega) (fun y5 ey5 => ?_)
  have by5 : (-257 : Int) ≤ y5 ∧ y5 ≤ 65535 := ey5 ▸ hRs.2.1 59 _ (by show _ < 288; omega)
  exact wp_some (⟨r2.toNat, by omega, by rw [← ey5, show r4.toNat = 6 * p0.toNat + r2.toNat by omega]⟩)
set_option maxHeartbeats 1000000 in
theorem w_x8_valueAt {p0 : Int} {p1 : Int} {c : Nat → Int} {s : MS} (hRs : Rg s) (hp0 : CL s c) (hp1 : 0 ≤ p0 → p0 < 48 ∧ 0 < c p0.toNat) (hp2 : R2 p0) (hp3 : R2 p1) : wp (m_x8_valueAt p0 p1 s) (fun r => ((-257) ≤ r ∧ r ≤ 65535) ∧ (p0 < 0 → r = -1)) := by
  unfold m_x8_valueAt
  refine wp_rg (by omega) ?_
  refine wp_if (fun c1 => ?_) (fun c1 => ?_)
  · skip
    refine wp_rdIn (by have := hp1 (by omega); omega) (fun y18 ey18 => ?_)
    have by18 : (-1 : Int) ≤ y18 ∧ y18 ≤ 1000 := ey18 ▸ hRs.2.1 56 _ (by show _ < 48; have := hp1 (by omega); omega)
    have hq1 := hp1 (by omega)
    have L16 : ∀ (n : Nat) (x2 : Int) (x3 : Int) (x4 : Int), (x2 = p1) → (0 ≤ x3 ∧ x3 < 48 ∧ 0 < c x3.toNat) → (gA s 56 x3.toNat = x4) → (0 ≤ x4 ∧ x4 ≤ 1000) → (x4) < (n : Int) → wp (m_x8_valueAt_L16 s n x2 x3 x4) (fun r => ((-257) ≤ r ∧ r ≤ 65535) ∧ (p0 < 0 → r = -1)) := by
      refine fr_ind (fun x2 x3 x4 hv16_0 hv16_1 hv16_2 hv16_3 hm16 => ?_) (fun n16 ih16 x2 x3 x4 hv16_0 hv16_1 hv16_2 hv16_3 hm16 => ?_)
      · exfalso; omega
      · show wp (m_x8_valueAt_b16 s (m_x8_valueAt_L16 s n16) x2 x3 x4) _
        unfold m_x8_valueAt_b16
        have cl := hp0 x3.toNat (by omega) hv16_1.2.2
        have cz : 0 ≤ gA s 57 x3.toNat ∧ gA s 57 x3.toNat ≤ 6 := cl.1.2.1
        have cz1 := cl.2.1
        refine wp_rg (by omega) ?_
        refine wp_if (fun c2 => ?_) (fun c2 => ?_)
        · skip
          refine wp_bn (w_x8_find hRs (by show 0 ≤ x3 ∧ x3 < 48; omega) (by show gA s 57 x3.toNat ≤ 6; omega) (by show R2 x2; omega)) (fun r8 er8 hr8 => ?_)
          have hr8_0 := hr8
          have hr8_0 : r8 = -1 ∨ (0 ≤ r8 ∧ r8 < gA s 57 x3.toNat) := hr8_0
          refine wp_rg (by omega) ?_
          refine wp_if (fun c3 => ?_) (fun c3 => ?_)
          · skip
            unfold m_x8_valueAt_J64
            exact wp_some ⟨by show (-257) ≤ (-1 : Int) ∧ (-1 : Int) ≤ 65535; omega, by show p0 < 0 → (-1 : Int) = -1; omega⟩
          · skip
            refine wp_bn (w_x8_slot hRs) (fun r12 er12 hr12 => ?_)
            have hr12_0 := hr12
            have hr12_0 : r12 = x3 * 6 + r8 := hr12_0
            refine wp_rdIn (by omega) (fun y13 ey13 => ?_)
            have by13 : (-257 : Int) ≤ y13 ∧ y13 ≤ 65535 := ey13 ▸ hRs.2.1 59 _ (by show _ < 288; omega)
            unfold m_x8_valueAt_J64
            exact wp_some ⟨by show (-257) ≤ y13 ∧ y13 ≤ 65535; omega, by show p0 < 0 → y13 = -1; omega⟩
        · skip
          refine wp_bn (w_x8_below hRs (by show 0 ≤ x3 ∧ x3 < 48; omega) (by show 1 ≤ gA s 57 x3.toNat ∧ gA s 57 x3.toNat ≤ 6; omega) (by show R2 x2; omega)) (fun r15 er15 hr15 => ?_)
          have hr15_0 := hr15
          have hr15_0 : ∃ k : Nat, (k : Int) < gA s 57 x3.toNat ∧ r15 = gA s 59 (6 * x3.toNat + k) := hr15_0
          obtain ⟨kk, hk1, hk2⟩ := hr15_0
          have kd := cl.1.2.2 (by show 0 < gA s 56 x3.toNat; omega) kk hk1
          have kv : (hN s).2.2 x3.toNat kk = r15 := hk2.symm
          rw [kv] at kd
          have kl : gA s 56 r15.toNat = gA s 56 x3.toNat - 1 := kd.2
          have kb := kd.1
          have kc := cl.2.2 (by omega) kk hk1
          rw [← hk2] at kc
          have k48 : (0 : Int) ≤ gI s 1060 ∧ gI s 1060 ≤ 48 := hRs.1 1060
          exact ih16 x2 r15 (x4 + (-1)) (by show x2 = p1; omega) (by show 0 ≤ r15 ∧ r15 < 48 ∧ 0 < c r15.toNat; omega) (by show gA s 56 r15.toNat = (x4 + (-1)); omega) (by show 0 ≤ (x4 + (-1)) ∧ (x4 + (-1)) ≤ 1000; omega) (by omega)
    exact L16 FU p1 p0 y18 (by show p1 = p1; omega) (⟨by omega, (hp1 (by omega)).1, (hp1 (by omega)).2⟩) (by show gA s 56 p0.toNat = y18; omega) (by show 0 ≤ y18 ∧ y18 ≤ 1000; have ndr := (hp0 p0.toNat (by have := hp1 (by omega); omega) (hp1 (by omega)).2).1.1; have ndr2 : 0 ≤ gA s 56 p0.toNat := ndr; omega) (by have := FU_big; have := FU_big2; omega)
  · skip
    exact wp_some ⟨by show (-257) ≤ (-1 : Int) ∧ (-1 : Int) ≤ 65535; omega, by show p0 < 0 → (-1 : Int) = -1; omega⟩
/-! ===== rows that shift ===== -/
theorem R8_or (x y : Int) : R8 (orL x y) := ⟨Int64.le_toInt _, Int.le_of_lt_add_one (Int64.toInt_lt _)⟩
def ShI (f g : Nat → Int) (i t : Int) : Prop := ∀ j : Nat, ((j : Int) ≤ i ∨ t < (j : Int) → g j = f j) ∧ (i < (j : Int) ∧ (j : Int) ≤ t → g j = f (j - 1))
theorem ShI_0 (f : Nat → Int) (t : Int) : ShI f f t t := fun j => ⟨fun _ => rfl, fun h => by omega⟩
theorem ShI_step {f g g' : Nat → Int} {i t y : Int} (H : ShI f g i t) (h0 : 0 < i ∧ i ≤ t) (ey : g (i - 1).toNat = y) (e : g' = upZ g i.toNat y) : ShI f g' (i + -1) t := by
  intro j
  rw [e]
  refine ⟨fun h => ?_, fun h => ?_⟩
  · rw [upZ_n (show j ≠ i.toNat by omega)]; exact (H j).1 (by omega)
  · by_cases ej : j = i.toNat
    · rw [ej, upZ_s, ← ey, (H (i - 1).toNat).1 (by omega), show (i - 1).toNat = i.toNat - 1 by omega]
    · rw [upZ_n ej]; exact (H j).2 (by omega)
def InsR (f g : Nat → Int) (a z k : Nat) (v : Int) : Prop := (∀ j, j < a + k ∨ a + z < j → g j = f j) ∧ g (a + k) = v ∧ (∀ j, k ≤ j → j < z → g (a + (j + 1)) = f (a + j))
theorem Ins_fin {f g g' : Nat → Int} {i t : Int} {a z k : Nat} {v : Int} (H : ShI f g i t) (hi : i = ((a + k : Nat) : Int)) (ht : t = ((a + z : Nat) : Int)) (hk : k ≤ z) (e : g' = upZ g i.toNat v) : InsR f g' a z k v := by
  rw [e]
  refine ⟨fun j h => ?_, ?_, fun j h1 h2 => ?_⟩
  · rw [upZ_n (show j ≠ i.toNat by omega)]; exact (H j).1 (by omega)
  · rw [show a + k = i.toNat by omega, upZ_s]
  · rw [upZ_n (show a + (j + 1) ≠ i.toNat by omega), (H (a + (j + 1))).2 (by omega), show a + (j + 1) - 1 = a + j by omega]
def ShD (f g : Nat → Int) (a i : Int) : Prop := ∀ j : Nat, ((j : Int) < a ∨ i ≤ (j : Int) → g j = f j) ∧ (a ≤ (j : Int) ∧ (j : Int) < i → g j = f (j + 1))
theorem ShD_0 (f : Nat → Int) (a : Int) : ShD f f a a := fun j => ⟨fun _ => rfl, fun h => by omega⟩
theorem ShD_step {f g g' : Nat → Int} {a i y : Int} (H : ShD f g a i) (h0 : 0 ≤ a ∧ a ≤ i) (ey : g (i + 1).toNat = y) (e : g' = upZ g i.toNat y) : ShD f g' a (i + 1) := by
  intro j
  rw [e]
  refine ⟨fun h => ?_, fun h => ?_⟩
  · rw [upZ_n (show j ≠ i.toNat by omega)]; exact (H j).1 (by omega)
  · by_cases ej : j = i.toNat
    · rw [ej, upZ_s, ← ey, (H (i + 1).toNat).1 (by omega), show (i + 1).toNat = i.toNat + 1 by omega]
    · rw [upZ_n ej]; exact (H j).2 (by omega)
def DelR (f g : Nat → Int) (a z k : Nat) : Prop := (∀ j, j < a + k ∨ a + z ≤ j + 1 → g j = f j) ∧ (∀ j, k ≤ j → j + 1 < z → g (a + j) = f (a + (j + 1)))
theorem Del_fin {f g : Nat → Int} {i t : Int} {a z k : Nat} (H : ShD f g i t) (hi : i = ((a + k : Nat) : Int)) (ht : t = ((a + z : Nat) : Int) - 1) (hk : k < z) : DelR f g a z k := by
  refine ⟨fun j h => (H j).1 (by omega), fun j h1 h2 => ?_⟩
  rw [(H (a + j)).2 (by omega), Nat.add_assoc]
set_option maxHeartbeats 1000000 in
theorem w_x8_mark {p0 : Int} {s : MS} (hRs : Rg s) (hp0 : R2 p0) : wp (m_x8_mark p0 s) (fun o => (Rg o)) := by
  unfold m_x8_mark
  refine wp_stn (fun s1 es1 => ?_)
  have hRs1 : Rg s1 := es1 ▸ Rg.uL hRs (R8_or _ _)
  exact wp_some (hRs1)
set_option maxHeartbeats 1000000 in
theorem w_x8_insert {p0 : Int} {p1 : Int} {p2 : Int} {p3 : Int} {s : MS} (hRs : Rg s) (hp0 : 0 ≤ p0 ∧ p0 < 48) (hp1 : 0 ≤ p1 ∧ p1 ≤ gA s 57 p0.toNat ∧ gA s 57 p0.toNat ≤ 5) (hp2 : (-257) ≤ p2 ∧ p2 ≤ 65535) (hp3 : (-257) ≤ p3 ∧ p3 ≤ 65535) : wp (m_x8_insert p0 p1 p2 p3 s) (fun o => (Rg o) ∧ (gA o 57 = upZ (gA s 57) p0.toNat (gA s 57 p0.toNat + 1)) ∧ (InsR (gA s 58) (gA o 58) (6 * p0.toNat) (gA s 57 p0.toNat).toNat p1.toNat p2) ∧ (InsR (gA s 59) (gA o 59) (6 * p0.toNat) (gA s 57 p0.toNat).toNat p1.toNat p3)) := by
  unfold m_x8_insert
  refine wp_rg (by omega) ?_
  refine wp_if (fun c1 => ?_) (fun c1 => ?_)
  · skip
    unfold m_x8_insert_J25
    exact wp_some ⟨hRs, by exfalso; omega, by exfalso; omega, by exfalso; omega⟩
  · skip
    refine wp_rdIn (by omega) (fun y28 ey28 => ?_)
    have by28 : (-1 : Int) ≤ y28 ∧ y28 ≤ 255 := ey28 ▸ hRs.2.1 57 _ (by show _ < 48; omega)
    refine wp_rg (by omega) ?_
    refine wp_rg (by omega) ?_
    refine wp_if (fun c2 => ?_) (fun c2 => ?_)
    · skip
      unfold m_x8_insert_J25
      exact wp_some ⟨hRs, by exfalso; omega, by exfalso; omega, by exfalso; omega⟩
    · skip
      refine wp_rdIn (by omega) (fun y32 ey32 => ?_)
      have by32 : (-1 : Int) ≤ y32 ∧ y32 ≤ 255 := ey32 ▸ hRs.2.1 57 _ (by show _ < 48; omega)
      refine wp_rg (by omega) ?_
      refine wp_if (fun c3 => ?_) (fun c3 => ?_)
      · skip
        refine wp_bn (w_x8_slot hRs) (fun r36 er36 hr36 => ?_)
        have hr36_0 := hr36
        have hr36_0 : r36 = p0 * 6 + p1 := hr36_0
        refine wp_rdIn (by omega) (fun y37 ey37 => ?_)
        have by37 : (-1 : Int) ≤ y37 ∧ y37 ≤ 255 := ey37 ▸ hRs.2.1 57 _ (by show _ < 48; omega)
        refine wp_bn (w_x8_slot hRs) (fun r39 er39 hr39 => ?_)
        have hr39_0 := hr39
        have hr39_0 : r39 = p0 * 6 + y37 := hr39_0
        have L47 : ∀ (n : Nat) (x1 : Int) (x2 : Int) (x3 : Int) (x4 : Int) (x5 : Int) (s6 : MS), Rg s6 → (x1 = p0 ∧ x2 = p2 ∧ x3 = p3 ∧ x4 = p0 * 6 + p1) → (x4 ≤ x5 ∧ x5 ≤ p0 * 6 + gA s 57 p0.toNat) → (gA s6 57 = gA s 57) → (ShI (gA s 58) (gA s6 58) x5 (p0 * 6 + gA s 57 p0.toNat)) → (ShI (gA s 59) (gA s6 59) x5 (p0 * 6 + gA s 57 p0.toNat)) → (x5 - x4) < (n : Int) → wp (m_x8_insert_L47 n x1 x2 x3 x4 x5 s6) (fun o => (Rg o) ∧ (gA o 57 = upZ (gA s 57) p0.toNat (gA s 57 p0.toNat + 1)) ∧ (InsR (gA s 58) (gA o 58) (6 * p0.toNat) (gA s 57 p0.toNat).toNat p1.toNat p2) ∧ (InsR (gA s 59) (gA o 59) (6 * p0.toNat) (gA s 57 p0.toNat).toNat p1.toNat p3)) := by
          refine fr_ind (fun x1 x2 x3 x4 x5 s6 hRs6 hv47_0 hv47_1 hv47_2 hv47_3 hv47_4 hm47 => ?_) (fun n47 ih47 x1 x2 x3 x4 x5 s6 hRs6 hv47_0 hv47_1 hv47_2 hv47_3 hv47_4 hm47 => ?_)
          · exfalso; omega
          · show wp (m_x8_insert_b47 (m_x8_insert_L47 n47) x1 x2 x3 x4 x5 s6) _
            unfold m_x8_insert_b47
            refine wp_rg (by omega) ?_
            refine wp_rg (by omega) ?_
            refine wp_if (fun c4 => ?_) (fun c4 => ?_)
            · skip
              refine wp_inb (by omega) ?_
              refine wp_stn (fun s11 es11 => ?_)
              have hRs11 : Rg s11 := es11 ▸ Rg.uAu hRs6 (by show (-257 : Int) ≤ x2 ∧ x2 ≤ 65535; omega)
              refine wp_inb (by omega) ?_
              refine wp_stn (fun s13 es13 => ?_)
              have hRs13 : Rg s13 := es13 ▸ Rg.uAu hRs11 (by show (-257 : Int) ≤ x3 ∧ x3 ≤ 65535; omega)
              refine wp_rdIn (by omega) (fun y14 ey14 => ?_)
              have by14 : (-1 : Int) ≤ y14 ∧ y14 ≤ 255 := ey14 ▸ hRs13.2.1 57 _ (by show _ < 48; omega)
              refine wp_inb (by omega) ?_
              refine wp_stn (fun s16 es16 => ?_)
              have hRs16 : Rg s16 := es16 ▸ Rg.uAu hRs13 (by show (-1 : Int) ≤ (y14 + 1) ∧ (y14 + 1) ≤ 255; have := congrFun hv47_2 x1.toNat; have : gA s13 57 x1.toNat = gA s6 57 x1.toNat := congrFun ((q_Aa es13 (by decide) : gA s13 57 = gA s11 57).trans (q_Aa es11 (by decide) : gA s11 57 = gA s6 57)) _; have : gA s 57 x1.toNat = gA s 57 p0.toNat := (by rw [hv47_0.1]); omega)
              refine wp_bn (w_x8_mark hRs16 (by show R2 x1; omega)) (fun s18 es18 hs18 => ?_)
              have Fs18 := fr_x8_mark es18
              have hRs18 := hs18
              exact wp_some ⟨hRs18, by first | (exfalso; omega) | rw [(Fs18.2.1 57 (by decide)), q_AA es16, ← ey14, ((q_Aa es13 (by decide) : gA s13 57 = gA s11 57).trans (q_Aa es11 (by decide) : gA s11 57 = gA s6 57)), hv47_2, hv47_0.1], Ins_fin (i := x5) hv47_3 (by omega) (by omega) (by omega) (by rw [((Fs18.2.1 58 (by decide)).trans ((q_Aa es16 (by decide) : gA s16 58 = gA s13 58).trans (q_Aa es13 (by decide) : gA s13 58 = gA s11 58))), q_AA es11, hv47_0.2.1, show x4 = x5 by omega]), Ins_fin (i := x5) hv47_4 (by omega) (by omega) (by omega) (by rw [((Fs18.2.1 59 (by decide)).trans (q_Aa es16 (by decide) : gA s16 59 = gA s13 59)), q_AA es13, (q_Aa es11 (by decide) : gA s11 59 = gA s6 59), hv47_0.2.2.1, show x4 = x5 by omega])⟩
            · skip
              refine wp_rdIn (by omega) (fun y19 ey19 => ?_)
              have by19 : (-257 : Int) ≤ y19 ∧ y19 ≤ 65535 := ey19 ▸ hRs6.2.1 58 _ (by show _ < 288; omega)
              refine wp_inb (by omega) ?_
              refine wp_stn (fun s21 es21 => ?_)
              have hRs21 : Rg s21 := es21 ▸ Rg.uAu hRs6 (by show (-257 : Int) ≤ y19 ∧ y19 ≤ 65535; omega)
              refine wp_rdIn (by omega) (fun y22 ey22 => ?_)
              have by22 : (-257 : Int) ≤ y22 ∧ y22 ≤ 65535 := ey22 ▸ hRs21.2.1 59 _ (by show _ < 288; omega)
              refine wp_inb (by omega) ?_
              refine wp_stn (fun s24 es24 => ?_)
              have hRs24 : Rg s24 := es24 ▸ Rg.uAu hRs21 (by show (-257 : Int) ≤ y22 ∧ y22 ≤ 65535; omega)
              exact ih47 x1 x2 x3 x4 (x5 + (-1)) s24 hRs24 (by show x1 = p0 ∧ x2 = p2 ∧ x3 = p3 ∧ x4 = p0 * 6 + p1; omega) (by show x4 ≤ (x5 + (-1)) ∧ (x5 + (-1)) ≤ p0 * 6 + gA s 57 p0.toNat; omega) ((((q_Aa es24 (by decide) : gA s24 57 = gA s21 57).trans (q_Aa es21 (by decide) : gA s21 57 = gA s6 57))).trans hv47_2) (ShI_step hv47_3 (by omega) ey19 (((q_Aa es24 (by decide) : gA s24 58 = gA s21 58)).trans (q_AA es21))) (ShI_step (y := y22) hv47_4 (by omega) (by rw [← (q_Aa es21 (by decide) : gA s21 59 = gA s6 59)]; exact ey22) ((q_AA es24).trans (by rw [(q_Aa es21 (by decide) : gA s21 59 = gA s6 59)]))) (by omega)
        exact L47 FU p0 p2 p3 r36 r39 s hRs (by show p0 = p0 ∧ p2 = p2 ∧ p3 = p3 ∧ r36 = p0 * 6 + p1; omega) (by show r36 ≤ r39 ∧ r39 ≤ p0 * 6 + gA s 57 p0.toNat; omega) (rfl) (by rw [show r39 = p0 * 6 + gA s 57 p0.toNat by omega]; exact ShI_0 _ _) (by rw [show r39 = p0 * 6 + gA s 57 p0.toNat by omega]; exact ShI_0 _ _) (by have := FU_big; have := FU_big2; omega)
      · skip
        unfold m_x8_insert_J25
        exact wp_some ⟨hRs, by exfalso; omega, by exfalso; omega, by exfalso; omega⟩
set_option maxHeartbeats 1000000 in
theorem w_x8_delete {p0 : Int} {p1 : Int} {s : MS} (hRs : Rg s) (hp0 : 0 ≤ p0 ∧ p0 < 48) (hp1 : 0 ≤ p1 ∧ p1 < gA s 57 p0.toNat ∧ gA s 57 p0.toNat ≤ 6) : wp (m_x8_delete p0 p1 s) (fun o => (Rg o) ∧ (gA o 57 = upZ (gA s 57) p0.toNat (gA s 57 p0.toNat - 1)) ∧ (DelR (gA s 58) (gA o 58) (6 * p0.toNat) (gA s 57 p0.toNat).toNat p1.toNat) ∧ (DelR (gA s 59) (gA o 59) (6 * p0.toNat) (gA s 57 p0.toNat).toNat p1.toNat)) := by
  unfold m_x8_delete
  refine wp_rg (by omega) ?_
  refine wp_if (fun c1 => ?_) (fun c1 => ?_)
  · skip
    unfold m_x8_delete_J14
    exact wp_some ⟨hRs, by exfalso; omega, by exfalso; omega, by exfalso; omega⟩
  · skip
    refine wp_rdIn (by omega) (fun y19 ey19 => ?_)
    have by19 : (-1 : Int) ≤ y19 ∧ y19 ≤ 255 := ey19 ▸ hRs.2.1 57 _ (by show _ < 48; omega)
    refine wp_rg (by omega) ?_
    refine wp_rg (by omega) ?_
    refine wp_if (fun c2 => ?_) (fun c2 => ?_)
    · skip
      refine wp_rdIn (by omega) (fun y23 ey23 => ?_)
      have by23 : (-1 : Int) ≤ y23 ∧ y23 ≤ 255 := ey23 ▸ hRs.2.1 57 _ (by show _ < 48; omega)
      refine wp_inb (by omega) ?_
      refine wp_stn (fun s25 es25 => ?_)
      have hRs25 : Rg s25 := es25 ▸ Rg.uAu hRs (by show (-1 : Int) ≤ (y23 - 1) ∧ (y23 - 1) ≤ 255; omega)
      have g25 : gA s25 57 = upZ (gA s 57) p0.toNat (gA s 57 p0.toNat - 1) := by rw [q_AA es25, ey23]
      refine wp_rdIn (by omega) (fun y26 ey26 => ?_)
      have by26 : (-1 : Int) ≤ y26 ∧ y26 ≤ 255 := ey26 ▸ hRs25.2.1 57 _ (by show _ < 48; omega)
      have g26 : y26 = gA s 57 p0.toNat - 1 := by rw [← ey26, g25, upZ_s]
      refine wp_bn (w_x8_slot hRs25) (fun r28 er28 hr28 => ?_)
      have hr28_0 := hr28
      have hr28_0 : r28 = p0 * 6 + y26 := hr28_0
      refine wp_bn (w_x8_slot hRs25) (fun r30 er30 hr30 => ?_)
      have hr30_0 := hr30
      have hr30_0 : r30 = p0 * 6 + p1 := hr30_0
      have L45 : ∀ (n : Nat) (x1 : Int) (x2 : Int) (x3 : Int) (s4 : MS), Rg s4 → (x1 = p0 ∧ x2 = p0 * 6 + gA s 57 p0.toNat - 1) → (p0 * 6 + p1 ≤ x3 ∧ x3 ≤ x2) → (gA s4 57 = upZ (gA s 57) p0.toNat (gA s 57 p0.toNat - 1)) → (ShD (gA s 58) (gA s4 58) (p0 * 6 + p1) x3) → (ShD (gA s 59) (gA s4 59) (p0 * 6 + p1) x3) → (x2 - x3) < (n : Int) → wp (m_x8_delete_L45 n x1 x2 x3 s4) (fun o => (Rg o) ∧ (gA o 57 = upZ (gA s 57) p0.toNat (gA s 57 p0.toNat - 1)) ∧ (DelR (gA s 58) (gA o 58) (6 * p0.toNat) (gA s 57 p0.toNat).toNat p1.toNat) ∧ (DelR (gA s 59) (gA o 59) (6 * p0.toNat) (gA s 57 p0.toNat).toNat p1.toNat)) := by
        refine fr_ind (fun x1 x2 x3 s4 hRs4 hv45_0 hv45_1 hv45_2 hv45_3 hv45_4 hm45 => ?_) (fun n45 ih45 x1 x2 x3 s4 hRs4 hv45_0 hv45_1 hv45_2 hv45_3 hv45_4 hm45 => ?_)
        · exfalso; omega
        · show wp (m_x8_delete_b45 (m_x8_delete_L45 n45) x1 x2 x3 s4) _
          unfold m_x8_delete_b45
          refine wp_rg (by omega) ?_
          refine wp_rg (by omega) ?_
          refine wp_if (fun c3 => ?_) (fun c3 => ?_)
          · skip
            refine wp_bn (w_x8_mark hRs4 (by show R2 x1; omega)) (fun s9 es9 hs9 => ?_)
            have Fs9 := fr_x8_mark es9
            have hRs9 := hs9
            exact wp_some ⟨hRs9, ((Fs9.2.1 57 (by decide))).trans hv45_2, Del_fin (t := x3) (by rw [(Fs9.2.1 58 (by decide))]; exact hv45_3) (by omega) (by omega) (by omega), Del_fin (t := x3) (by rw [(Fs9.2.1 59 (by decide))]; exact hv45_4) (by omega) (by omega) (by omega)⟩
          · skip
            refine wp_rdIn (by omega) (fun y10 ey10 => ?_)
            have by10 : (-257 : Int) ≤ y10 ∧ y10 ≤ 65535 := ey10 ▸ hRs4.2.1 58 _ (by show _ < 288; omega)
            refine wp_inb (by omega) ?_
            refine wp_stn (fun s12 es12 => ?_)
            have hRs12 : Rg s12 := es12 ▸ Rg.uAu hRs4 (by show (-257 : Int) ≤ y10 ∧ y10 ≤ 65535; omega)
            refine wp_rdIn (by omega) (fun y13 ey13 => ?_)
            have by13 : (-257 : Int) ≤ y13 ∧ y13 ≤ 65535 := ey13 ▸ hRs12.2.1 59 _ (by show _ < 288; omega)
            refine wp_inb (by omega) ?_
            refine wp_stn (fun s15 es15 => ?_)
            have hRs15 : Rg s15 := es15 ▸ Rg.uAu hRs12 (by show (-257 : Int) ≤ y13 ∧ y13 ≤ 65535; omega)
            exact ih45 x1 x2 (x3 + 1) s15 hRs15 (by show x1 = p0 ∧ x2 = p0 * 6 + gA s 57 p0.toNat - 1; omega) (by show p0 * 6 + p1 ≤ (x3 + 1) ∧ (x3 + 1) ≤ x2; omega) ((((q_Aa es15 (by decide) : gA s15 57 = gA s12 57).trans (q_Aa es12 (by decide) : gA s12 57 = gA s4 57))).trans hv45_2) (ShD_step hv45_3 (by omega) ey10 (((q_Aa es15 (by decide) : gA s15 58 = gA s12 58)).trans (q_AA es12))) (ShD_step (y := y13) hv45_4 (by omega) (by rw [← (q_Aa es12 (by decide) : gA s12 59 = gA s4 59)]; exact ey13) ((q_AA es15).trans (by rw [(q_Aa es12 (by decide) : gA s12 59 = gA s4 59)]))) (by omega)
      exact L45 FU p0 r28 r30 s25 hRs25 (by show p0 = p0 ∧ r28 = p0 * 6 + gA s 57 p0.toNat - 1; omega) (by show p0 * 6 + p1 ≤ r30 ∧ r30 ≤ r28; omega) (g25) (by rw [(q_Aa es25 (by decide) : gA s25 58 = gA s 58), show r30 = p0 * 6 + p1 by omega]; exact ShD_0 _ _) (by rw [(q_Aa es25 (by decide) : gA s25 59 = gA s 59), show r30 = p0 * 6 + p1 by omega]; exact ShD_0 _ _) (by have := FU_big; have := FU_big2; omega)
    · skip
      unfold m_x8_delete_J14
      exact wp_some ⟨hRs, by exfalso; omega, by exfalso; omega, by exfalso; omega⟩
set_option maxHeartbeats 1000000 in
theorem w_x8_set {p0 : Int} {p1 : Int} {p2 : Int} {s : MS} (hRs : Rg s) (hp0 : 0 ≤ p0 ∧ p0 < 48) (hp1 : 0 ≤ p1 ∧ p1 < 6) (hp2 : (-257) ≤ p2 ∧ p2 ≤ 65535) : wp (m_x8_set p0 p1 p2 s) (fun o => (Rg o) ∧ (gA o 59 = upZ (gA s 59) (6 * p0.toNat + p1.toNat) p2)) := by
  unfold m_x8_set
  refine wp_bn (w_x8_slot hRs) (fun r3 er3 hr3 => ?_)
  have hr3_0 := hr3
  have hr3_0 : r3 = p0 * 6 + p1 := hr3_0
  refine wp_rdIn (by omega) (fun y4 ey4 => ?_)
  have by4 : (-257 : Int) ≤ y4 ∧ y4 ≤ 65535 := ey4 ▸ hRs.2.1 59 _ (by show _ < 288; omega)
  refine wp_rg (by omega) ?_
  refine wp_rg (by omega) ?_
  refine wp_if (fun c1 => ?_) (fun c1 => ?_)
  · skip
    unfold m_x8_set_J32
    exact wp_some ⟨hRs, by
      funext j
      by_cases ej : j = 6 * p0.toNat + p1.toNat
      · rw [ej, upZ_s, ← c1, ← ey4, show r3.toNat = 6 * p0.toNat + p1.toNat by omega]
      · rw [upZ_n ej]⟩
  · skip
    refine wp_inb (by omega) ?_
    refine wp_stn (fun s9 es9 => ?_)
    have hRs9 : Rg s9 := es9 ▸ Rg.uAu hRs (by show (-257 : Int) ≤ p2 ∧ p2 ≤ 65535; omega)
    refine wp_bn (w_x8_mark hRs9 (by show R2 p0; omega)) (fun s11 es11 hs11 => ?_)
    have Fs11 := fr_x8_mark es11
    have hRs11 := hs11
    unfold m_x8_set_J32
    exact wp_some ⟨hRs11, by rw [(Fs11.2.1 59 (by decide)), q_AA es9, show r3.toNat = 6 * p0.toNat + p1.toNat by omega]⟩
/-! ===== numbers ===== -/
theorem R8_2 {x : Int} (h : R2 x) : R8 x := ⟨by have := h.1; omega, by have := h.2; omega⟩
theorem tm_b (a b : Int) (hb : ¬ b = 0) (h : (-1000000) ≤ b ∧ b ≤ 1000001) : (-1000001) ≤ Int.tmod a b ∧ Int.tmod a b ≤ 1000001 := by
  have h1 := Int.natAbs_tmod a b
  have h2 := Nat.mod_lt a.natAbs (show 0 < b.natAbs by omega)
  omega
theorem td_b (a b : Int) (h : (-9000000) ≤ a ∧ a ≤ 9000000) : (-9000000) ≤ Int.tdiv a b ∧ Int.tdiv a b ≤ 9000000 := by
  have h1 := Int.natAbs_tdiv_le_natAbs a b
  omega
theorem mul_b (a b : Int) (h : (-1000000) ≤ a ∧ a ≤ 1000001) (h2 : (-1000000) ≤ b ∧ b ≤ 1000001) : R8 (a * b) := by
  have h3 := Int.natAbs_mul a b
  have h4 : a.natAbs * b.natAbs ≤ 1000001 * 1000001 := Nat.mul_le_mul (by omega) (by omega)
  constructor <;> omega
theorem Rg.cpy {s : MS} {k k2 sp dp n : Nat} (h : Rg s) (h1 : LOA k ≤ LOA k2) (h2 : HIA k2 ≤ HIA k) (h3 : sp + n ≤ LNA k2) : Rg (sA s k (va_cpy (gA s k2) (gA s k) sp dp n)) := by
  refine h.uA (fun j hj => ?_)
  unfold va_cpy
  split
  · have := h.2.1 k2 (sp + (j - dp)) (by omega)
    exact ⟨Int.le_trans h1 this.1, Int.le_trans this.2 h2⟩
  · exact h.2.1 k j hj
theorem cpy_o {f : Nat → Int} {a b n q k : Nat} (hq : q ≠ b) (hk : k < 6) (hn : n ≤ 6) : va_cpy f f a (6 * b) n (6 * q + k) = f (6 * q + k) := if_neg (fun w => by omega)
theorem cpy_i {f : Nat → Int} {a b n k : Nat} (hk : k < n) : va_cpy f f a (6 * b) n (6 * b + k) = f (a + k) := by
  unfold va_cpy
  rw [if_pos (by omega), show 6 * b + k - 6 * b = k by omega]
theorem cpy_all {f g : Nat → Int} {n j : Nat} (hj : j < n) : va_cpy f g (Int.toNat 0) (Int.toNat 0) n j = f j := by
  show (if 0 ≤ j ∧ j < 0 + n then f (0 + (j - 0)) else g j) = f j
  rw [if_pos (by omega), Nat.zero_add, Nat.sub_zero]
theorem R8_and (x y : Int) : R8 (andL x y) := ⟨Int64.le_toInt _, Int.le_of_lt_add_one (Int64.toInt_lt _)⟩
theorem mm_b (x : Int) : (minZ 99 x ≤ 99 ∧ (minZ 99 x = 99 ∨ minZ 99 x = x)) ∧ 0 ≤ maxZ 0 (minZ 99 x) ∧ maxZ 0 (minZ 99 x) ≤ 99 := by
  unfold maxZ minZ
  split <;> split <;> omega
theorem mn_b (a x : Int) : minZ a x ≤ a ∧ minZ a x ≤ x ∧ (minZ a x = a ∨ minZ a x = x) := by
  unfold minZ
  split <;> omega
theorem mx_b (a x : Int) : a ≤ maxZ a x ∧ x ≤ maxZ a x ∧ (maxZ a x = a ∨ maxZ a x = x) := by
  unfold maxZ
  split <;> omega
set_option maxHeartbeats 1000000 in
theorem w_x3_pop {s : MS} (hRs : Rg s) : wp (m_x3_pop s) (fun q => (Rg q.2) ∧ ((-1000000) ≤ q.1 ∧ q.1 ≤ 1000001)) := by
  unfold m_x3_pop
  refine wp_rg (by have : (0 : Int) ≤ gI s 1601 ∧ gI s 1601 ≤ 64 := hRs.1 1601; omega) ?_
  refine wp_if (fun c1 => ?_) (fun c1 => ?_)
  · skip
    refine wp_stn (fun s3 es3 => ?_)
    have hRs3 : Rg s3 := es3 ▸ Rg.uI hRs (by show (0 : Int) ≤ ((gI s 1601) - 1) ∧ ((gI s 1601) - 1) ≤ 64; have : (0 : Int) ≤ gI s 1601 ∧ gI s 1601 ≤ 64 := hRs.1 1601; omega)
    refine wp_rdIn (by have : (0 : Int) ≤ gI s 1601 ∧ gI s 1601 ≤ 64 := hRs.1 1601; have : gI s3 1601 = (gI s 1601) - 1 := q_II es3; omega) (fun y4 ey4 => ?_)
    have by4 : (-1000000 : Int) ≤ y4 ∧ y4 ≤ 1000001 := ey4 ▸ hRs3.2.1 81 _ (by show _ < 64; have : (0 : Int) ≤ gI s 1601 ∧ gI s 1601 ≤ 64 := hRs.1 1601; have : gI s3 1601 = (gI s 1601) - 1 := q_II es3; omega)
    exact wp_some ⟨hRs3, by show (-1000000) ≤ y4 ∧ y4 ≤ 1000001; have : (0 : Int) ≤ gI s 1601 ∧ gI s 1601 ≤ 64 := hRs.1 1601; omega⟩
  · skip
    exact wp_some ⟨hRs, by show (-1000000) ≤ (0 : Int) ∧ (0 : Int) ≤ 1000001; have : (0 : Int) ≤ gI s 1601 ∧ gI s 1601 ≤ 64 := hRs.1 1601; omega⟩
set_option maxHeartbeats 1000000 in
theorem w_x3_push {p0 : Int} {s : MS} (hRs : Rg s) (hp0 : (-1000000) ≤ p0 ∧ p0 ≤ 1000001) : wp (m_x3_push p0 s) (fun o => (Rg o)) := by
  unfold m_x3_push
  refine wp_rg (by have : (0 : Int) ≤ gI s 1601 ∧ gI s 1601 ≤ 64 := hRs.1 1601; omega) ?_
  refine wp_if (fun c1 => ?_) (fun c1 => ?_)
  · skip
    unfold m_x3_push_J29
    exact wp_some (hRs)
  · skip
    refine wp_inb (by have : (0 : Int) ≤ gI s 1601 ∧ gI s 1601 ≤ 64 := hRs.1 1601; omega) ?_
    refine wp_stn (fun s5 es5 => ?_)
    have hRs5 : Rg s5 := es5 ▸ Rg.uAu hRs (by show (-1000000 : Int) ≤ p0 ∧ p0 ≤ 1000001; have : (0 : Int) ≤ gI s 1601 ∧ gI s 1601 ≤ 64 := hRs.1 1601; omega)
    refine wp_stn (fun s6 es6 => ?_)
    have hRs6 : Rg s6 := es6 ▸ Rg.uI hRs5 (by show (0 : Int) ≤ ((gI s5 1601) + 1) ∧ ((gI s5 1601) + 1) ≤ 64; have : (0 : Int) ≤ gI s 1601 ∧ gI s 1601 ≤ 64 := hRs.1 1601; have : gI s5 1601 = gI s 1601 := q_Ai es5; omega)
    unfold m_x3_push_J29
    exact wp_some (hRs6)
set_option maxHeartbeats 1000000 in
theorem w_x3_joined {p0 : Int} {p1 : Int} {p2 : Int} {s : MS} (hRs : Rg s) (hp0 : R2 p0) (hp1 : (-1000000) ≤ p1 ∧ p1 ≤ 1000001) (hp2 : (-1000000) ≤ p2 ∧ p2 ≤ 1000001) : wp (m_x3_joined p0 p1 p2 s) (fun r => ((-1000000) ≤ r ∧ r ≤ 1000001)) := by
  unfold m_x3_joined
  refine wp_rg (by omega) ?_
  refine wp_if (fun c1 => ?_) (fun c1 => ?_)
  · skip
    refine wp_rg (R2_or _ _) ?_
    unfold m_x3_joined_J199
    refine wp_rgL (R8_2 (R2_or _ _)) ?_
    refine wp_if (fun c2 => ?_) (fun c2 => ?_)
    · skip
      refine wp_rgL (R8_2 (R2_or _ _)) ?_
      refine wp_if (fun c3 => ?_) (fun c3 => ?_)
      · skip
        unfold m_x3_joined_J225
        exact wp_some (by show (-1000000) ≤ (orZ p1 p2) ∧ (orZ p1 p2) ≤ 1000001; omega)
      · skip
        unfold m_x3_joined_J225
        exact wp_some (by show (-1000000) ≤ (-1000000 : Int) ∧ (-1000000 : Int) ≤ 1000001; omega)
    · skip
      exact wp_some (by show (-1000000) ≤ (1000000 : Int) ∧ (1000000 : Int) ≤ 1000001; omega)
  · skip
    refine wp_if (fun c4 => ?_) (fun c4 => ?_)
    · skip
      refine wp_rg (R2_and _ _) ?_
      unfold m_x3_joined_J199
      refine wp_rgL (R8_2 (R2_and _ _)) ?_
      refine wp_if (fun c5 => ?_) (fun c5 => ?_)
      · skip
        refine wp_rgL (R8_2 (R2_and _ _)) ?_
        refine wp_if (fun c6 => ?_) (fun c6 => ?_)
        · skip
          unfold m_x3_joined_J225
          exact wp_some (by show (-1000000) ≤ (andZ p1 p2) ∧ (andZ p1 p2) ≤ 1000001; omega)
        · skip
          unfold m_x3_joined_J225
          exact wp_some (by show (-1000000) ≤ (-1000000 : Int) ∧ (-1000000 : Int) ≤ 1000001; omega)
      · skip
        exact wp_some (by show (-1000000) ≤ (1000000 : Int) ∧ (1000000 : Int) ≤ 1000001; omega)
    · skip
      refine wp_if (fun c7 => ?_) (fun c7 => ?_)
      · skip
        refine wp_rg (by omega) ?_
        refine wp_rg (by omega) ?_
        refine wp_if (fun c8 => ?_) (fun c8 => ?_)
        · skip
          unfold m_x3_joined_J179
          unfold m_x3_joined_J199
          refine wp_rgL (by omega) ?_
          refine wp_if (fun c9 => ?_) (fun c9 => ?_)
          · skip
            refine wp_rgL (by omega) ?_
            refine wp_if (fun c10 => ?_) (fun c10 => ?_)
            · skip
              unfold m_x3_joined_J225
              exact wp_some (by show (-1000000) ≤ (1 : Int) ∧ (1 : Int) ≤ 1000001; omega)
            · skip
              unfold m_x3_joined_J225
              exact wp_some (by show (-1000000) ≤ (-1000000 : Int) ∧ (-1000000 : Int) ≤ 1000001; omega)
          · skip
            exact wp_some (by show (-1000000) ≤ (1000000 : Int) ∧ (1000000 : Int) ≤ 1000001; omega)
        · skip
          unfold m_x3_joined_J179
          unfold m_x3_joined_J199
          refine wp_rgL (by omega) ?_
          refine wp_if (fun c11 => ?_) (fun c11 => ?_)
          · skip
            refine wp_rgL (by omega) ?_
            refine wp_if (fun c12 => ?_) (fun c12 => ?_)
            · skip
              unfold m_x3_joined_J225
              exact wp_some (by show (-1000000) ≤ (0 : Int) ∧ (0 : Int) ≤ 1000001; omega)
            · skip
              unfold m_x3_joined_J225
              exact wp_some (by show (-1000000) ≤ (-1000000 : Int) ∧ (-1000000 : Int) ≤ 1000001; omega)
          · skip
            exact wp_some (by show (-1000000) ≤ (1000000 : Int) ∧ (1000000 : Int) ≤ 1000001; omega)
      · skip
        refine wp_if (fun c13 => ?_) (fun c13 => ?_)
        · skip
          refine wp_rg (by omega) ?_
          refine wp_rg (by omega) ?_
          refine wp_if (fun c14 => ?_) (fun c14 => ?_)
          · skip
            unfold m_x3_joined_J165
            unfold m_x3_joined_J199
            refine wp_rgL (by omega) ?_
            refine wp_if (fun c15 => ?_) (fun c15 => ?_)
            · skip
              refine wp_rgL (by omega) ?_
              refine wp_if (fun c16 => ?_) (fun c16 => ?_)
              · skip
                unfold m_x3_joined_J225
                exact wp_some (by show (-1000000) ≤ (0 : Int) ∧ (0 : Int) ≤ 1000001; omega)
              · skip
                unfold m_x3_joined_J225
                exact wp_some (by show (-1000000) ≤ (-1000000 : Int) ∧ (-1000000 : Int) ≤ 1000001; omega)
            · skip
              exact wp_some (by show (-1000000) ≤ (1000000 : Int) ∧ (1000000 : Int) ≤ 1000001; omega)
          · skip
            unfold m_x3_joined_J165
            unfold m_x3_joined_J199
            refine wp_rgL (by omega) ?_
            refine wp_if (fun c17 => ?_) (fun c17 => ?_)
            · skip
              refine wp_rgL (by omega) ?_
              refine wp_if (fun c18 => ?_) (fun c18 => ?_)
              · skip
                unfold m_x3_joined_J225
                exact wp_some (by show (-1000000) ≤ (1 : Int) ∧ (1 : Int) ≤ 1000001; omega)
              · skip
                unfold m_x3_joined_J225
                exact wp_some (by show (-1000000) ≤ (-1000000 : Int) ∧ (-1000000 : Int) ≤ 1000001; omega)
            · skip
              exact wp_some (by show (-1000000) ≤ (1000000 : Int) ∧ (1000000 : Int) ≤ 1000001; omega)
        · skip
          refine wp_if (fun c19 => ?_) (fun c19 => ?_)
          · skip
            refine wp_rg (by omega) ?_
            refine wp_rg (by omega) ?_
            refine wp_if (fun c20 => ?_) (fun c20 => ?_)
            · skip
              unfold m_x3_joined_J151
              unfold m_x3_joined_J199
              refine wp_rgL (by omega) ?_
              refine wp_if (fun c21 => ?_) (fun c21 => ?_)
              · skip
                refine wp_rgL (by omega) ?_
                refine wp_if (fun c22 => ?_) (fun c22 => ?_)
                · skip
                  unfold m_x3_joined_J225
                  exact wp_some (by show (-1000000) ≤ (0 : Int) ∧ (0 : Int) ≤ 1000001; omega)
                · skip
                  unfold m_x3_joined_J225
                  exact wp_some (by show (-1000000) ≤ (-1000000 : Int) ∧ (-1000000 : Int) ≤ 1000001; omega)
              · skip
                exact wp_some (by show (-1000000) ≤ (1000000 : Int) ∧ (1000000 : Int) ≤ 1000001; omega)
            · skip
              unfold m_x3_joined_J151
              unfold m_x3_joined_J199
              refine wp_rgL (by omega) ?_
              refine wp_if (fun c23 => ?_) (fun c23 => ?_)
              · skip
                refine wp_rgL (by omega) ?_
                refine wp_if (fun c24 => ?_) (fun c24 => ?_)
                · skip
                  unfold m_x3_joined_J225
                  exact wp_some (by show (-1000000) ≤ (1 : Int) ∧ (1 : Int) ≤ 1000001; omega)
                · skip
                  unfold m_x3_joined_J225
                  exact wp_some (by show (-1000000) ≤ (-1000000 : Int) ∧ (-1000000 : Int) ≤ 1000001; omega)
              · skip
                exact wp_some (by show (-1000000) ≤ (1000000 : Int) ∧ (1000000 : Int) ≤ 1000001; omega)
          · skip
            refine wp_if (fun c25 => ?_) (fun c25 => ?_)
            · skip
              refine wp_rg (by omega) ?_
              refine wp_rg (by omega) ?_
              refine wp_if (fun c26 => ?_) (fun c26 => ?_)
              · skip
                refine wp_rg (by omega) ?_
                unfold m_x3_joined_J137
                unfold m_x3_joined_J199
                refine wp_rgL (by omega) ?_
                refine wp_if (fun c27 => ?_) (fun c27 => ?_)
                · skip
                  refine wp_rgL (by omega) ?_
                  refine wp_if (fun c28 => ?_) (fun c28 => ?_)
                  · skip
                    unfold m_x3_joined_J225
                    exact wp_some (by show (-1000000) ≤ p2 ∧ p2 ≤ 1000001; omega)
                  · skip
                    unfold m_x3_joined_J225
                    exact wp_some (by show (-1000000) ≤ (-1000000 : Int) ∧ (-1000000 : Int) ≤ 1000001; omega)
                · skip
                  exact wp_some (by show (-1000000) ≤ (1000000 : Int) ∧ (1000000 : Int) ≤ 1000001; omega)
              · skip
                refine wp_rg (by omega) ?_
                unfold m_x3_joined_J137
                unfold m_x3_joined_J199
                refine wp_rgL (by omega) ?_
                refine wp_if (fun c29 => ?_) (fun c29 => ?_)
                · skip
                  refine wp_rgL (by omega) ?_
                  refine wp_if (fun c30 => ?_) (fun c30 => ?_)
                  · skip
                    unfold m_x3_joined_J225
                    exact wp_some (by show (-1000000) ≤ p1 ∧ p1 ≤ 1000001; omega)
                  · skip
                    unfold m_x3_joined_J225
                    exact wp_some (by show (-1000000) ≤ (-1000000 : Int) ∧ (-1000000 : Int) ≤ 1000001; omega)
                · skip
                  exact wp_some (by show (-1000000) ≤ (1000000 : Int) ∧ (1000000 : Int) ≤ 1000001; omega)
            · skip
              refine wp_if (fun c31 => ?_) (fun c31 => ?_)
              · skip
                refine wp_rg (by omega) ?_
                refine wp_rg (by omega) ?_
                refine wp_if (fun c32 => ?_) (fun c32 => ?_)
                · skip
                  refine wp_rg (by omega) ?_
                  unfold m_x3_joined_J121
                  unfold m_x3_joined_J199
                  refine wp_rgL (by omega) ?_
                  refine wp_if (fun c33 => ?_) (fun c33 => ?_)
                  · skip
                    refine wp_rgL (by omega) ?_
                    refine wp_if (fun c34 => ?_) (fun c34 => ?_)
                    · skip
                      unfold m_x3_joined_J225
                      exact wp_some (by show (-1000000) ≤ p2 ∧ p2 ≤ 1000001; omega)
                    · skip
                      unfold m_x3_joined_J225
                      exact wp_some (by show (-1000000) ≤ (-1000000 : Int) ∧ (-1000000 : Int) ≤ 1000001; omega)
                  · skip
                    exact wp_some (by show (-1000000) ≤ (1000000 : Int) ∧ (1000000 : Int) ≤ 1000001; omega)
                · skip
                  refine wp_rg (by omega) ?_
                  unfold m_x3_joined_J121
                  unfold m_x3_joined_J199
                  refine wp_rgL (by omega) ?_
                  refine wp_if (fun c35 => ?_) (fun c35 => ?_)
                  · skip
                    refine wp_rgL (by omega) ?_
                    refine wp_if (fun c36 => ?_) (fun c36 => ?_)
                    · skip
                      unfold m_x3_joined_J225
                      exact wp_some (by show (-1000000) ≤ p1 ∧ p1 ≤ 1000001; omega)
                    · skip
                      unfold m_x3_joined_J225
                      exact wp_some (by show (-1000000) ≤ (-1000000 : Int) ∧ (-1000000 : Int) ≤ 1000001; omega)
                  · skip
                    exact wp_some (by show (-1000000) ≤ (1000000 : Int) ∧ (1000000 : Int) ≤ 1000001; omega)
              · skip
                refine wp_if (fun c37 => ?_) (fun c37 => ?_)
                · skip
                  refine wp_rg (by omega) ?_
                  refine wp_if (fun c38 => ?_) (fun c38 => ?_)
                  · skip
                    unfold m_x3_joined_J105
                    unfold m_x3_joined_J199
                    refine wp_rgL (by omega) ?_
                    refine wp_if (fun c39 => ?_) (fun c39 => ?_)
                    · skip
                      refine wp_rgL (by omega) ?_
                      refine wp_if (fun c40 => ?_) (fun c40 => ?_)
                      · skip
                        unfold m_x3_joined_J225
                        exact wp_some (by show (-1000000) ≤ (0 : Int) ∧ (0 : Int) ≤ 1000001; omega)
                      · skip
                        unfold m_x3_joined_J225
                        exact wp_some (by show (-1000000) ≤ (-1000000 : Int) ∧ (-1000000 : Int) ≤ 1000001; omega)
                    · skip
                      exact wp_some (by show (-1000000) ≤ (1000000 : Int) ∧ (1000000 : Int) ≤ 1000001; omega)
                  · skip
                    have t1 := tm_b p1 p2 (by omega) hp2
                    have t2 := tm_b (Int.tmod p1 p2 + p2) p2 (by omega) hp2
                    have t3 := td_b (p1 - Int.tmod (Int.tmod p1 p2 + p2) p2) p2 (by omega)
                    refine wp_dv (by omega) ?_
                    refine wp_dv (by omega) ?_
                    refine wp_dv (by omega) ?_
                    refine wp_rg (by omega) ?_
                    unfold m_x3_joined_J105
                    unfold m_x3_joined_J199
                    refine wp_rgL (by omega) ?_
                    refine wp_if (fun c41 => ?_) (fun c41 => ?_)
                    · skip
                      refine wp_rgL (by omega) ?_
                      refine wp_if (fun c42 => ?_) (fun c42 => ?_)
                      · skip
                        unfold m_x3_joined_J225
                        exact wp_some (by show (-1000000) ≤ (Int.tdiv (p1 - (Int.tmod ((Int.tmod p1 p2) + p2) p2)) p2) ∧ (Int.tdiv (p1 - (Int.tmod ((Int.tmod p1 p2) + p2) p2)) p2) ≤ 1000001; omega)
                      · skip
                        unfold m_x3_joined_J225
                        exact wp_some (by show (-1000000) ≤ (-1000000 : Int) ∧ (-1000000 : Int) ≤ 1000001; omega)
                    · skip
                      exact wp_some (by show (-1000000) ≤ (1000000 : Int) ∧ (1000000 : Int) ≤ 1000001; omega)
                · skip
                  refine wp_if (fun c43 => ?_) (fun c43 => ?_)
                  · skip
                    refine wp_rg (by omega) ?_
                    refine wp_rg (by omega) ?_
                    unfold m_x3_joined_J199
                    refine wp_rgL (mul_b _ _ hp1 hp2) ?_
                    refine wp_if (fun c44 => ?_) (fun c44 => ?_)
                    · skip
                      refine wp_rgL (mul_b _ _ hp1 hp2) ?_
                      refine wp_if (fun c45 => ?_) (fun c45 => ?_)
                      · skip
                        unfold m_x3_joined_J225
                        exact wp_some (by show (-1000000) ≤ (p1 * p2) ∧ (p1 * p2) ≤ 1000001; omega)
                      · skip
                        unfold m_x3_joined_J225
                        exact wp_some (by show (-1000000) ≤ (-1000000 : Int) ∧ (-1000000 : Int) ≤ 1000001; omega)
                    · skip
                      exact wp_some (by show (-1000000) ≤ (1000000 : Int) ∧ (1000000 : Int) ≤ 1000001; omega)
                  · skip
                    refine wp_if (fun c46 => ?_) (fun c46 => ?_)
                    · skip
                      refine wp_rg (by omega) ?_
                      unfold m_x3_joined_J199
                      refine wp_rgL (by omega) ?_
                      refine wp_if (fun c47 => ?_) (fun c47 => ?_)
                      · skip
                        refine wp_rgL (by omega) ?_
                        refine wp_if (fun c48 => ?_) (fun c48 => ?_)
                        · skip
                          unfold m_x3_joined_J225
                          exact wp_some (by show (-1000000) ≤ (p1 - p2) ∧ (p1 - p2) ≤ 1000001; omega)
                        · skip
                          unfold m_x3_joined_J225
                          exact wp_some (by show (-1000000) ≤ (-1000000 : Int) ∧ (-1000000 : Int) ≤ 1000001; omega)
                      · skip
                        exact wp_some (by show (-1000000) ≤ (1000000 : Int) ∧ (1000000 : Int) ≤ 1000001; omega)
                    · skip
                      refine wp_if (fun c49 => ?_) (fun c49 => ?_)
                      · skip
                        refine wp_rg (by omega) ?_
                        unfold m_x3_joined_J199
                        refine wp_rgL (by omega) ?_
                        refine wp_if (fun c50 => ?_) (fun c50 => ?_)
                        · skip
                          refine wp_rgL (by omega) ?_
                          refine wp_if (fun c51 => ?_) (fun c51 => ?_)
                          · skip
                            unfold m_x3_joined_J225
                            exact wp_some (by show (-1000000) ≤ (p1 + p2) ∧ (p1 + p2) ≤ 1000001; omega)
                          · skip
                            unfold m_x3_joined_J225
                            exact wp_some (by show (-1000000) ≤ (-1000000 : Int) ∧ (-1000000 : Int) ≤ 1000001; omega)
                        · skip
                          exact wp_some (by show (-1000000) ≤ (1000000 : Int) ∧ (1000000 : Int) ≤ 1000001; omega)
                      · skip
                        unfold m_x3_joined_J199
                        refine wp_rgL (by omega) ?_
                        refine wp_if (fun c52 => ?_) (fun c52 => ?_)
                        · skip
                          refine wp_rgL (by omega) ?_
                          refine wp_if (fun c53 => ?_) (fun c53 => ?_)
                          · skip
                            unfold m_x3_joined_J225
                            exact wp_some (by show (-1000000) ≤ (0 : Int) ∧ (0 : Int) ≤ 1000001; omega)
                          · skip
                            unfold m_x3_joined_J225
                            exact wp_some (by show (-1000000) ≤ (-1000000 : Int) ∧ (-1000000 : Int) ≤ 1000001; omega)
                        · skip
                          exact wp_some (by show (-1000000) ≤ (1000000 : Int) ∧ (1000000 : Int) ≤ 1000001; omega)
set_option maxHeartbeats 1000000 in
theorem w_x3_changed {p0 : Int} {p1 : Int} {s : MS} (hRs : Rg s) (hp0 : R2 p0) (hp1 : (-1000000) ≤ p1 ∧ p1 ≤ 1000001) : wp (m_x3_changed p0 p1 s) (fun r => ((-1000000) ≤ r ∧ r ≤ 1000001)) := by
  unfold m_x3_changed
  refine wp_rg (by omega) ?_
  refine wp_if (fun c1 => ?_) (fun c1 => ?_)
  · skip
    exact wp_some (by show (-1000000) ≤ (1 - p1) ∧ (1 - p1) ≤ 1000001; omega)
  · skip
    refine wp_rg (by omega) ?_
    refine wp_if (fun c2 => ?_) (fun c2 => ?_)
    · skip
      unfold m_x3_changed_J37
      exact wp_some (by show (-1000000) ≤ (0 : Int) ∧ (0 : Int) ≤ 1000001; omega)
    · skip
      refine wp_rg (by omega) ?_
      refine wp_rg (by have : (0 : Int) ≤ gI s 1060 ∧ gI s 1060 ≤ 48 := hRs.1 1060; omega) ?_
      refine wp_if (fun c3 => ?_) (fun c3 => ?_)
      · skip
        unfold m_x3_changed_J37
        exact wp_some (by show (-1000000) ≤ (0 : Int) ∧ (0 : Int) ≤ 1000001; have : (0 : Int) ≤ gI s 1060 ∧ gI s 1060 ≤ 48 := hRs.1 1060; omega)
      · skip
        refine wp_rdIn (by have : (0 : Int) ≤ gI s 1060 ∧ gI s 1060 ≤ 48 := hRs.1 1060; omega) (fun y9 ey9 => ?_)
        have by9 : (-1 : Int) ≤ y9 ∧ y9 ≤ 100000 := ey9 ▸ hRs.2.1 54 _ (by show _ < 48; have : (0 : Int) ≤ gI s 1060 ∧ gI s 1060 ≤ 48 := hRs.1 1060; omega)
        refine wp_rg (by have : (0 : Int) ≤ gI s 1060 ∧ gI s 1060 ≤ 48 := hRs.1 1060; omega) ?_
        refine wp_if (fun c4 => ?_) (fun c4 => ?_)
        · skip
          unfold m_x3_changed_J37
          exact wp_some (by show (-1000000) ≤ (0 : Int) ∧ (0 : Int) ≤ 1000001; have : (0 : Int) ≤ gI s 1060 ∧ gI s 1060 ≤ 48 := hRs.1 1060; omega)
        · skip
          refine wp_rg (by have : (0 : Int) ≤ gI s 1060 ∧ gI s 1060 ≤ 48 := hRs.1 1060; omega) ?_
          refine wp_if (fun c5 => ?_) (fun c5 => ?_)
          · skip
            refine wp_rdIn (by have : (0 : Int) ≤ gI s 1060 ∧ gI s 1060 ≤ 48 := hRs.1 1060; omega) (fun y15 ey15 => ?_)
            have by15 : (-1 : Int) ≤ y15 ∧ y15 ≤ 100000 := ey15 ▸ hRs.2.1 54 _ (by show _ < 48; have : (0 : Int) ≤ gI s 1060 ∧ gI s 1060 ≤ 48 := hRs.1 1060; omega)
            unfold m_x3_changed_J69
            exact wp_some (by show (-1000000) ≤ y15 ∧ y15 ≤ 1000001; have : (0 : Int) ≤ gI s 1060 ∧ gI s 1060 ≤ 48 := hRs.1 1060; omega)
          · skip
            refine wp_rdIn (by have : (0 : Int) ≤ gI s 1060 ∧ gI s 1060 ≤ 48 := hRs.1 1060; omega) (fun y14 ey14 => ?_)
            have by14 : (-257 : Int) ≤ y14 ∧ y14 ≤ 65535 := ey14 ▸ hRs.2.1 58 _ (by show _ < 288; have : (0 : Int) ≤ gI s 1060 ∧ gI s 1060 ≤ 48 := hRs.1 1060; omega)
            unfold m_x3_changed_J69
            exact wp_some (by show (-1000000) ≤ y14 ∧ y14 ≤ 1000001; have : (0 : Int) ≤ gI s 1060 ∧ gI s 1060 ≤ 48 := hRs.1 1060; omega)
set_option maxHeartbeats 1000000 in
theorem w_x3_fact {p0 : Int} {s : MS} (hRs : Rg s) (hp0 : R2 p0) : wp (m_x3_fact p0 s) (fun r => ((-1000000) ≤ r ∧ r ≤ 1000001)) := by
  unfold m_x3_fact
  refine wp_rg (by omega) ?_
  refine wp_if (fun c1 => ?_) (fun c1 => ?_)
  · skip
    unfold m_x3_fact_J48
    exact wp_some (by show (-1000000) ≤ (gI s 1602) ∧ (gI s 1602) ≤ 1000001; have : (-1000000 : Int) ≤ gI s 1602 ∧ gI s 1602 ≤ 1000000 := hRs.1 1602; omega)
  · skip
    refine wp_if (fun c2 => ?_) (fun c2 => ?_)
    · skip
      exact wp_some (by show (-1000000) ≤ (gI s 1603) ∧ (gI s 1603) ≤ 1000001; have : (-1000000 : Int) ≤ gI s 1603 ∧ gI s 1603 ≤ 1000000 := hRs.1 1603; omega)
    · skip
      refine wp_if (fun c3 => ?_) (fun c3 => ?_)
      · skip
        exact wp_some (by show (-1000000) ≤ (gI s 1604) ∧ (gI s 1604) ≤ 1000001; have : (-1000000 : Int) ≤ gI s 1604 ∧ gI s 1604 ≤ 1000000 := hRs.1 1604; omega)
      · skip
        refine wp_if (fun c4 => ?_) (fun c4 => ?_)
        · skip
          exact wp_some (by show (-1000000) ≤ (gI s 1605) ∧ (gI s 1605) ≤ 1000001; have : (-1000000 : Int) ≤ gI s 1605 ∧ gI s 1605 ≤ 1000000 := hRs.1 1605; omega)
        · skip
          refine wp_if (fun c5 => ?_) (fun c5 => ?_)
          · skip
            unfold m_x3_fact_J48
            exact wp_some (by show (-1000000) ≤ (gI s 1602) ∧ (gI s 1602) ≤ 1000001; have : (-1000000 : Int) ≤ gI s 1602 ∧ gI s 1602 ≤ 1000000 := hRs.1 1602; omega)
          · skip
            refine wp_if (fun c6 => ?_) (fun c6 => ?_)
            · skip
              exact wp_some (by show (-1000000) ≤ (gI s 1606) ∧ (gI s 1606) ≤ 1000001; have : (-1000000 : Int) ≤ gI s 1606 ∧ gI s 1606 ≤ 1000000 := hRs.1 1606; omega)
            · skip
              refine wp_if (fun c7 => ?_) (fun c7 => ?_)
              · skip
                exact wp_some (by show (-1000000) ≤ (gI s 1607) ∧ (gI s 1607) ≤ 1000001; have : (-1000000 : Int) ≤ gI s 1607 ∧ gI s 1607 ≤ 1000000 := hRs.1 1607; omega)
              · skip
                refine wp_if (fun c8 => ?_) (fun c8 => ?_)
                · skip
                  exact wp_some (by show (-1000000) ≤ (gI s 1608) ∧ (gI s 1608) ≤ 1000001; have : (-1000000 : Int) ≤ gI s 1608 ∧ gI s 1608 ≤ 1000000 := hRs.1 1608; omega)
                · skip
                  exact wp_some (by show (-1000000) ≤ (0 : Int) ∧ (0 : Int) ≤ 1000001; omega)
set_option maxHeartbeats 1000000 in
theorem w_x3_value {p1 : Int} {p2 : Int} {s : MS} (hRs : Rg s) (hp0 : R2 p1) (hp1 : R2 p2) : wp (m_x3_value p1 p2 s) (fun q => (Rg q.2) ∧ ((-1000000) ≤ q.1 ∧ q.1 ≤ 1000001)) := by
  unfold m_x3_value
  refine wp_stn (fun s49 es49 => ?_)
  have hRs49 : Rg s49 := es49 ▸ Rg.uI hRs (by show (0 : Int) ≤ (0 : Int) ∧ (0 : Int) ≤ 64; omega)
  have L8 : ∀ (n : Nat) (x5 : Int) (x6 : Int) (s7 : MS), Rg s7 → (x5 = p2) → (R2 x6) → (5000000000 - x6) < (n : Int) → wp (m_x3_value_L8 n x5 x6 s7) (fun q => (Rg q.2) ∧ ((-1000000) ≤ q.1 ∧ q.1 ≤ 1000001)) := by
    refine fr_ind (fun x5 x6 s7 hRs7 hv8_0 hv8_1 hm8 => ?_) (fun n8 ih8 x5 x6 s7 hRs7 hv8_0 hv8_1 hm8 => ?_)
    · exfalso; omega
    · show wp (m_x3_value_b8 (m_x3_value_L8 n8) x5 x6 s7) _
      unfold m_x3_value_b8
      refine wp_rg (by omega) ?_
      refine wp_if (fun c1 => ?_) (fun c1 => ?_)
      · skip
        unfold m_x3_value_J125
        refine wp_bn (w_x3_pop hRs7) (fun qqr4 eqr4s hqr4s => ?_)
        obtain ⟨qr4r, qr4s⟩ := qqr4
        dsimp only at eqr4s hqr4s ⊢
        have Fqr4s := fr_x3_pop eqr4s
        obtain ⟨hRqr4s, hqr4s_0⟩ := hqr4s
        have hqr4s_0 : (-1000000) ≤ qr4r ∧ qr4r ≤ 1000001 := hqr4s_0
        exact wp_some ⟨hRqr4s, by show (-1000000) ≤ qr4r ∧ qr4r ≤ 1000001; omega⟩
      · skip
        refine wp_rg (by omega) ?_
        refine wp_rg (by omega) ?_
        refine wp_if (fun c2 => ?_) (fun c2 => ?_)
        · skip
          unfold m_x3_value_J125
          refine wp_bn (w_x3_pop hRs7) (fun qqr4 eqr4s hqr4s => ?_)
          obtain ⟨qr4r, qr4s⟩ := qqr4
          dsimp only at eqr4s hqr4s ⊢
          have Fqr4s := fr_x3_pop eqr4s
          obtain ⟨hRqr4s, hqr4s_0⟩ := hqr4s
          have hqr4s_0 : (-1000000) ≤ qr4r ∧ qr4r ≤ 1000001 := hqr4s_0
          exact wp_some ⟨hRqr4s, by show (-1000000) ≤ qr4r ∧ qr4r ≤ 1000001; omega⟩
        · skip
          refine wp_rg (by omega) ?_
          refine wp_rg (by have : (0 : Int) ≤ gI s7 741 ∧ gI s7 741 ≤ 1600 := hRs7.1 741; omega) ?_
          refine wp_if (fun c3 => ?_) (fun c3 => ?_)
          · skip
            unfold m_x3_value_J125
            refine wp_bn (w_x3_pop hRs7) (fun qqr4 eqr4s hqr4s => ?_)
            obtain ⟨qr4r, qr4s⟩ := qqr4
            dsimp only at eqr4s hqr4s ⊢
            have Fqr4s := fr_x3_pop eqr4s
            obtain ⟨hRqr4s, hqr4s_0⟩ := hqr4s
            have hqr4s_0 : (-1000000) ≤ qr4r ∧ qr4r ≤ 1000001 := hqr4s_0
            exact wp_some ⟨hRqr4s, by show (-1000000) ≤ qr4r ∧ qr4r ≤ 1000001; have : (0 : Int) ≤ gI s7 741 ∧ gI s7 741 ≤ 1600 := hRs7.1 741; omega⟩
          · skip
            refine wp_rdIn (by have : (0 : Int) ≤ gI s7 741 ∧ gI s7 741 ≤ 1600 := hRs7.1 741; omega) (fun y19 ey19 => ?_)
            have by19 : (-300 : Int) ≤ y19 ∧ y19 ≤ 1000000 := ey19 ▸ hRs7.2.1 38 _ (by show _ < 1600; have : (0 : Int) ≤ gI s7 741 ∧ gI s7 741 ≤ 1600 := hRs7.1 741; omega)
            refine wp_rg (by have : (0 : Int) ≤ gI s7 741 ∧ gI s7 741 ≤ 1600 := hRs7.1 741; omega) ?_
            refine wp_if (fun c4 => ?_) (fun c4 => ?_)
            · skip
              refine wp_rg (by have : (0 : Int) ≤ gI s7 741 ∧ gI s7 741 ≤ 1600 := hRs7.1 741; omega) ?_
              refine wp_if (fun c5 => ?_) (fun c5 => ?_)
              · skip
                refine wp_rg (by have : (0 : Int) ≤ gI s7 741 ∧ gI s7 741 ≤ 1600 := hRs7.1 741; omega) ?_
                refine wp_if (fun c6 => ?_) (fun c6 => ?_)
                · skip
                  refine wp_bn (w_x3_pop hRs7) (fun qqr28 eqr28s hqr28s => ?_)
                  obtain ⟨qr28r, qr28s⟩ := qqr28
                  dsimp only at eqr28s hqr28s ⊢
                  have Fqr28s := fr_x3_pop eqr28s
                  obtain ⟨hRqr28s, hqr28s_0⟩ := hqr28s
                  have hqr28s_0 : (-1000000) ≤ qr28r ∧ qr28r ≤ 1000001 := hqr28s_0
                  refine wp_bn (w_x3_pop hRqr28s) (fun qqr31 eqr31s hqr31s => ?_)
                  obtain ⟨qr31r, qr31s⟩ := qqr31
                  dsimp only at eqr31s hqr31s ⊢
                  have Fqr31s := fr_x3_pop eqr31s
                  obtain ⟨hRqr31s, hqr31s_0⟩ := hqr31s
                  have hqr31s_0 : (-1000000) ≤ qr31r ∧ qr31r ≤ 1000001 := hqr31s_0
                  refine wp_bn (w_x3_joined hRqr31s (by show R2 y19; have : (0 : Int) ≤ gI s7 741 ∧ gI s7 741 ≤ 1600 := hRs7.1 741; omega) (by show (-1000000) ≤ qr31r ∧ qr31r ≤ 1000001; have : (0 : Int) ≤ gI s7 741 ∧ gI s7 741 ≤ 1600 := hRs7.1 741; omega) (by show (-1000000) ≤ qr28r ∧ qr28r ≤ 1000001; have : (0 : Int) ≤ gI s7 741 ∧ gI s7 741 ≤ 1600 := hRs7.1 741; omega)) (fun r33 er33 hr33 => ?_)
                  have hr33_0 := hr33
                  have hr33_0 : (-1000000) ≤ r33 ∧ r33 ≤ 1000001 := hr33_0
                  refine wp_bn (w_x3_push hRqr31s (by show (-1000000) ≤ r33 ∧ r33 ≤ 1000001; have : (0 : Int) ≤ gI s7 741 ∧ gI s7 741 ≤ 1600 := hRs7.1 741; omega)) (fun s35 es35 hs35 => ?_)
                  have Fs35 := fr_x3_push es35
                  have hRs35 := hs35
                  unfold m_x3_value_J119
                  exact ih8 x5 (x6 + 1) s35 hRs35 (by show x5 = p2; have : (0 : Int) ≤ gI s7 741 ∧ gI s7 741 ≤ 1600 := hRs7.1 741; omega) (by show R2 (x6 + 1); have : (0 : Int) ≤ gI s7 741 ∧ gI s7 741 ≤ 1600 := hRs7.1 741; omega) (by have : (0 : Int) ≤ gI s7 741 ∧ gI s7 741 ≤ 1600 := hRs7.1 741; omega)
                · skip
                  refine wp_bn (w_x3_pop hRs7) (fun qqr38 eqr38s hqr38s => ?_)
                  obtain ⟨qr38r, qr38s⟩ := qqr38
                  dsimp only at eqr38s hqr38s ⊢
                  have Fqr38s := fr_x3_pop eqr38s
                  obtain ⟨hRqr38s, hqr38s_0⟩ := hqr38s
                  have hqr38s_0 : (-1000000) ≤ qr38r ∧ qr38r ≤ 1000001 := hqr38s_0
                  refine wp_bn (w_x3_changed hRqr38s (by show R2 y19; have : (0 : Int) ≤ gI s7 741 ∧ gI s7 741 ≤ 1600 := hRs7.1 741; omega) (by show (-1000000) ≤ qr38r ∧ qr38r ≤ 1000001; have : (0 : Int) ≤ gI s7 741 ∧ gI s7 741 ≤ 1600 := hRs7.1 741; omega)) (fun r40 er40 hr40 => ?_)
                  have hr40_0 := hr40
                  have hr40_0 : (-1000000) ≤ r40 ∧ r40 ≤ 1000001 := hr40_0
                  refine wp_bn (w_x3_push hRqr38s (by show (-1000000) ≤ r40 ∧ r40 ≤ 1000001; have : (0 : Int) ≤ gI s7 741 ∧ gI s7 741 ≤ 1600 := hRs7.1 741; omega)) (fun s42 es42 hs42 => ?_)
                  have Fs42 := fr_x3_push es42
                  have hRs42 := hs42
                  unfold m_x3_value_J119
                  exact ih8 x5 (x6 + 1) s42 hRs42 (by show x5 = p2; have : (0 : Int) ≤ gI s7 741 ∧ gI s7 741 ≤ 1600 := hRs7.1 741; omega) (by show R2 (x6 + 1); have : (0 : Int) ≤ gI s7 741 ∧ gI s7 741 ≤ 1600 := hRs7.1 741; omega) (by have : (0 : Int) ≤ gI s7 741 ∧ gI s7 741 ≤ 1600 := hRs7.1 741; omega)
              · skip
                refine wp_bn (w_x3_fact hRs7 (by show R2 ((-100) - y19); have : (0 : Int) ≤ gI s7 741 ∧ gI s7 741 ≤ 1600 := hRs7.1 741; omega)) (fun r44 er44 hr44 => ?_)
                have hr44_0 := hr44
                have hr44_0 : (-1000000) ≤ r44 ∧ r44 ≤ 1000001 := hr44_0
                refine wp_bn (w_x3_push hRs7 (by show (-1000000) ≤ r44 ∧ r44 ≤ 1000001; have : (0 : Int) ≤ gI s7 741 ∧ gI s7 741 ≤ 1600 := hRs7.1 741; omega)) (fun s46 es46 hs46 => ?_)
                have Fs46 := fr_x3_push es46
                have hRs46 := hs46
                unfold m_x3_value_J119
                exact ih8 x5 (x6 + 1) s46 hRs46 (by show x5 = p2; have : (0 : Int) ≤ gI s7 741 ∧ gI s7 741 ≤ 1600 := hRs7.1 741; omega) (by show R2 (x6 + 1); have : (0 : Int) ≤ gI s7 741 ∧ gI s7 741 ≤ 1600 := hRs7.1 741; omega) (by have : (0 : Int) ≤ gI s7 741 ∧ gI s7 741 ≤ 1600 := hRs7.1 741; omega)
            · skip
              refine wp_bn (w_x3_push hRs7 (by show (-1000000) ≤ y19 ∧ y19 ≤ 1000001; have : (0 : Int) ≤ gI s7 741 ∧ gI s7 741 ≤ 1600 := hRs7.1 741; omega)) (fun s48 es48 hs48 => ?_)
              have Fs48 := fr_x3_push es48
              have hRs48 := hs48
              unfold m_x3_value_J119
              exact ih8 x5 (x6 + 1) s48 hRs48 (by show x5 = p2; have : (0 : Int) ≤ gI s7 741 ∧ gI s7 741 ≤ 1600 := hRs7.1 741; omega) (by show R2 (x6 + 1); have : (0 : Int) ≤ gI s7 741 ∧ gI s7 741 ≤ 1600 := hRs7.1 741; omega) (by have : (0 : Int) ≤ gI s7 741 ∧ gI s7 741 ≤ 1600 := hRs7.1 741; omega)
  exact L8 FU p2 p1 s49 hRs49 (by show p2 = p2; omega) (by show R2 p1; omega) (by have := FU_big; have := FU_big2; omega)
set_option maxHeartbeats 1000000 in
theorem w_x3_value_v2 {p1 : Int} {p2 : Int} {s : MS} (hRs : Rg s) (hp0 : R2 p1) (hp1 : R2 p2) : wp (m_x3_value_v2 p1 p2 s) (fun q => (Rg q.2) ∧ ((-1000000) ≤ q.1 ∧ q.1 ≤ 1000001)) := by
  unfold m_x3_value_v2
  refine wp_stn (fun s49 es49 => ?_)
  have hRs49 : Rg s49 := es49 ▸ Rg.uI hRs (by show (0 : Int) ≤ (0 : Int) ∧ (0 : Int) ≤ 64; omega)
  have L8 : ∀ (n : Nat) (x5 : Int) (x6 : Int) (s7 : MS), Rg s7 → (x5 = p2) → (R2 x6) → (5000000000 - x6) < (n : Int) → wp (m_x3_value_v2_L8 n x5 x6 s7) (fun q => (Rg q.2) ∧ ((-1000000) ≤ q.1 ∧ q.1 ≤ 1000001)) := by
    refine fr_ind (fun x5 x6 s7 hRs7 hv8_0 hv8_1 hm8 => ?_) (fun n8 ih8 x5 x6 s7 hRs7 hv8_0 hv8_1 hm8 => ?_)
    · exfalso; omega
    · show wp (m_x3_value_v2_b8 (m_x3_value_v2_L8 n8) x5 x6 s7) _
      unfold m_x3_value_v2_b8
      refine wp_rg (by omega) ?_
      refine wp_if (fun c1 => ?_) (fun c1 => ?_)
      · skip
        unfold m_x3_value_v2_J125
        refine wp_bn (w_x3_pop hRs7) (fun qqr4 eqr4s hqr4s => ?_)
        obtain ⟨qr4r, qr4s⟩ := qqr4
        dsimp only at eqr4s hqr4s ⊢
        have Fqr4s := fr_x3_pop eqr4s
        obtain ⟨hRqr4s, hqr4s_0⟩ := hqr4s
        have hqr4s_0 : (-1000000) ≤ qr4r ∧ qr4r ≤ 1000001 := hqr4s_0
        exact wp_some ⟨hRqr4s, by show (-1000000) ≤ qr4r ∧ qr4r ≤ 1000001; omega⟩
      · skip
        refine wp_rg (by omega) ?_
        refine wp_rg (by omega) ?_
        refine wp_if (fun c2 => ?_) (fun c2 => ?_)
        · skip
          unfold m_x3_value_v2_J125
          refine wp_bn (w_x3_pop hRs7) (fun qqr4 eqr4s hqr4s => ?_)
          obtain ⟨qr4r, qr4s⟩ := qqr4
          dsimp only at eqr4s hqr4s ⊢
          have Fqr4s := fr_x3_pop eqr4s
          obtain ⟨hRqr4s, hqr4s_0⟩ := hqr4s
          have hqr4s_0 : (-1000000) ≤ qr4r ∧ qr4r ≤ 1000001 := hqr4s_0
          exact wp_some ⟨hRqr4s, by show (-1000000) ≤ qr4r ∧ qr4r ≤ 1000001; omega⟩
        · skip
          refine wp_rg (by omega) ?_
          refine wp_rg (by have : (0 : Int) ≤ gI s7 941 ∧ gI s7 941 ≤ 1600 := hRs7.1 941; omega) ?_
          refine wp_if (fun c3 => ?_) (fun c3 => ?_)
          · skip
            unfold m_x3_value_v2_J125
            refine wp_bn (w_x3_pop hRs7) (fun qqr4 eqr4s hqr4s => ?_)
            obtain ⟨qr4r, qr4s⟩ := qqr4
            dsimp only at eqr4s hqr4s ⊢
            have Fqr4s := fr_x3_pop eqr4s
            obtain ⟨hRqr4s, hqr4s_0⟩ := hqr4s
            have hqr4s_0 : (-1000000) ≤ qr4r ∧ qr4r ≤ 1000001 := hqr4s_0
            exact wp_some ⟨hRqr4s, by show (-1000000) ≤ qr4r ∧ qr4r ≤ 1000001; have : (0 : Int) ≤ gI s7 941 ∧ gI s7 941 ≤ 1600 := hRs7.1 941; omega⟩
          · skip
            refine wp_rdIn (by have : (0 : Int) ≤ gI s7 941 ∧ gI s7 941 ≤ 1600 := hRs7.1 941; omega) (fun y19 ey19 => ?_)
            have by19 : (-300 : Int) ≤ y19 ∧ y19 ≤ 1000000 := ey19 ▸ hRs7.2.1 48 _ (by show _ < 1600; have : (0 : Int) ≤ gI s7 941 ∧ gI s7 941 ≤ 1600 := hRs7.1 941; omega)
            refine wp_rg (by have : (0 : Int) ≤ gI s7 941 ∧ gI s7 941 ≤ 1600 := hRs7.1 941; omega) ?_
            refine wp_if (fun c4 => ?_) (fun c4 => ?_)
            · skip
              refine wp_rg (by have : (0 : Int) ≤ gI s7 941 ∧ gI s7 941 ≤ 1600 := hRs7.1 941; omega) ?_
              refine wp_if (fun c5 => ?_) (fun c5 => ?_)
              · skip
                refine wp_rg (by have : (0 : Int) ≤ gI s7 941 ∧ gI s7 941 ≤ 1600 := hRs7.1 941; omega) ?_
                refine wp_if (fun c6 => ?_) (fun c6 => ?_)
                · skip
                  refine wp_bn (w_x3_pop hRs7) (fun qqr28 eqr28s hqr28s => ?_)
                  obtain ⟨qr28r, qr28s⟩ := qqr28
                  dsimp only at eqr28s hqr28s ⊢
                  have Fqr28s := fr_x3_pop eqr28s
                  obtain ⟨hRqr28s, hqr28s_0⟩ := hqr28s
                  have hqr28s_0 : (-1000000) ≤ qr28r ∧ qr28r ≤ 1000001 := hqr28s_0
                  refine wp_bn (w_x3_pop hRqr28s) (fun qqr31 eqr31s hqr31s => ?_)
                  obtain ⟨qr31r, qr31s⟩ := qqr31
                  dsimp only at eqr31s hqr31s ⊢
                  have Fqr31s := fr_x3_pop eqr31s
                  obtain ⟨hRqr31s, hqr31s_0⟩ := hqr31s
                  have hqr31s_0 : (-1000000) ≤ qr31r ∧ qr31r ≤ 1000001 := hqr31s_0
                  refine wp_bn (w_x3_joined hRqr31s (by show R2 y19; have : (0 : Int) ≤ gI s7 941 ∧ gI s7 941 ≤ 1600 := hRs7.1 941; omega) (by show (-1000000) ≤ qr31r ∧ qr31r ≤ 1000001; have : (0 : Int) ≤ gI s7 941 ∧ gI s7 941 ≤ 1600 := hRs7.1 941; omega) (by show (-1000000) ≤ qr28r ∧ qr28r ≤ 1000001; have : (0 : Int) ≤ gI s7 941 ∧ gI s7 941 ≤ 1600 := hRs7.1 941; omega)) (fun r33 er33 hr33 => ?_)
                  have hr33_0 := hr33
                  have hr33_0 : (-1000000) ≤ r33 ∧ r33 ≤ 1000001 := hr33_0
                  refine wp_bn (w_x3_push hRqr31s (by show (-1000000) ≤ r33 ∧ r33 ≤ 1000001; have : (0 : Int) ≤ gI s7 941 ∧ gI s7 941 ≤ 1600 := hRs7.1 941; omega)) (fun s35 es35 hs35 => ?_)
                  have Fs35 := fr_x3_push es35
                  have hRs35 := hs35
                  unfold m_x3_value_v2_J119
                  exact ih8 x5 (x6 + 1) s35 hRs35 (by show x5 = p2; have : (0 : Int) ≤ gI s7 941 ∧ gI s7 941 ≤ 1600 := hRs7.1 941; omega) (by show R2 (x6 + 1); have : (0 : Int) ≤ gI s7 941 ∧ gI s7 941 ≤ 1600 := hRs7.1 941; omega) (by have : (0 : Int) ≤ gI s7 941 ∧ gI s7 941 ≤ 1600 := hRs7.1 941; omega)
                · skip
                  refine wp_bn (w_x3_pop hRs7) (fun qqr38 eqr38s hqr38s => ?_)
                  obtain ⟨qr38r, qr38s⟩ := qqr38
                  dsimp only at eqr38s hqr38s ⊢
                  have Fqr38s := fr_x3_pop eqr38s
                  obtain ⟨hRqr38s, hqr38s_0⟩ := hqr38s
                  have hqr38s_0 : (-1000000) ≤ qr38r ∧ qr38r ≤ 1000001 := hqr38s_0
                  refine wp_bn (w_x3_changed hRqr38s (by show R2 y19; have : (0 : Int) ≤ gI s7 941 ∧ gI s7 941 ≤ 1600 := hRs7.1 941; omega) (by show (-1000000) ≤ qr38r ∧ qr38r ≤ 1000001; have : (0 : Int) ≤ gI s7 941 ∧ gI s7 941 ≤ 1600 := hRs7.1 941; omega)) (fun r40 er40 hr40 => ?_)
                  have hr40_0 := hr40
                  have hr40_0 : (-1000000) ≤ r40 ∧ r40 ≤ 1000001 := hr40_0
                  refine wp_bn (w_x3_push hRqr38s (by show (-1000000) ≤ r40 ∧ r40 ≤ 1000001; have : (0 : Int) ≤ gI s7 941 ∧ gI s7 941 ≤ 1600 := hRs7.1 941; omega)) (fun s42 es42 hs42 => ?_)
                  have Fs42 := fr_x3_push es42
                  have hRs42 := hs42
                  unfold m_x3_value_v2_J119
                  exact ih8 x5 (x6 + 1) s42 hRs42 (by show x5 = p2; have : (0 : Int) ≤ gI s7 941 ∧ gI s7 941 ≤ 1600 := hRs7.1 941; omega) (by show R2 (x6 + 1); have : (0 : Int) ≤ gI s7 941 ∧ gI s7 941 ≤ 1600 := hRs7.1 941; omega) (by have : (0 : Int) ≤ gI s7 941 ∧ gI s7 941 ≤ 1600 := hRs7.1 941; omega)
              · skip
                refine wp_bn (w_x3_fact hRs7 (by show R2 ((-100) - y19); have : (0 : Int) ≤ gI s7 941 ∧ gI s7 941 ≤ 1600 := hRs7.1 941; omega)) (fun r44 er44 hr44 => ?_)
                have hr44_0 := hr44
                have hr44_0 : (-1000000) ≤ r44 ∧ r44 ≤ 1000001 := hr44_0
                refine wp_bn (w_x3_push hRs7 (by show (-1000000) ≤ r44 ∧ r44 ≤ 1000001; have : (0 : Int) ≤ gI s7 941 ∧ gI s7 941 ≤ 1600 := hRs7.1 941; omega)) (fun s46 es46 hs46 => ?_)
                have Fs46 := fr_x3_push es46
                have hRs46 := hs46
                unfold m_x3_value_v2_J119
                exact ih8 x5 (x6 + 1) s46 hRs46 (by show x5 = p2; have : (0 : Int) ≤ gI s7 941 ∧ gI s7 941 ≤ 1600 := hRs7.1 941; omega) (by show R2 (x6 + 1); have : (0 : Int) ≤ gI s7 941 ∧ gI s7 941 ≤ 1600 := hRs7.1 941; omega) (by have : (0 : Int) ≤ gI s7 941 ∧ gI s7 941 ≤ 1600 := hRs7.1 941; omega)
            · skip
              refine wp_bn (w_x3_push hRs7 (by show (-1000000) ≤ y19 ∧ y19 ≤ 1000001; have : (0 : Int) ≤ gI s7 941 ∧ gI s7 941 ≤ 1600 := hRs7.1 941; omega)) (fun s48 es48 hs48 => ?_)
              have Fs48 := fr_x3_push es48
              have hRs48 := hs48
              unfold m_x3_value_v2_J119
              exact ih8 x5 (x6 + 1) s48 hRs48 (by show x5 = p2; have : (0 : Int) ≤ gI s7 941 ∧ gI s7 941 ≤ 1600 := hRs7.1 941; omega) (by show R2 (x6 + 1); have : (0 : Int) ≤ gI s7 941 ∧ gI s7 941 ≤ 1600 := hRs7.1 941; omega) (by have : (0 : Int) ≤ gI s7 941 ∧ gI s7 941 ≤ 1600 := hRs7.1 941; omega)
  exact L8 FU p2 p1 s49 hRs49 (by show p2 = p2; omega) (by show R2 p1; omega) (by have := FU_big; have := FU_big2; omega)
set_option maxHeartbeats 1000000 in
theorem w_x1_take {p0 : Int} {p1 : Int} {s : MS} (hRs : Rg s) (hp0 : 0 ≤ p0 ∧ p0 ≤ 1000) (hp1 : (-1000000) ≤ p1 ∧ p1 ≤ 1000000) : wp (m_x1_take p0 p1 s) (fun q => (Rg q.2) ∧ (q.1 = -1 ∨ (0 ≤ q.1 ∧ q.1 < gI s 1060 ∧ gA s 54 q.1.toNat = 0 ∧ gA s 55 q.1.toNat = 0)) ∧ (q.1 ≠ -1 → gA q.2 54 = upZ (gA s 54) q.1.toNat 1 ∧ gA q.2 56 = upZ (gA s 56) q.1.toNat p0 ∧ gA q.2 57 = upZ (gA s 57) q.1.toNat 0)) := by
  unfold m_x1_take
  refine wp_rdIn (by omega) (fun y65 ey65 => ?_)
  have by65 : (-2147483648 : Int) ≤ y65 ∧ y65 ≤ 2147483647 := ey65 ▸ hRs.2.1 35 _ (by show _ < 3; omega)
  refine wp_rg (by omega) ?_
  refine wp_if (fun c1 => ?_) (fun c1 => ?_)
  · skip
    unfold m_x1_take_J23
    refine wp_stn (fun s63 es63 => ?_)
    have hRs63 : Rg s63 := es63 ▸ Rg.uI hRs (by show (-1000000 : Int) ≤ p0 ∧ p0 ≤ 1000000; omega)
    refine wp_stn (fun s64 es64 => ?_)
    have hRs64 : Rg s64 := es64 ▸ Rg.uI hRs63 (by show (-1000000 : Int) ≤ p1 ∧ p1 ≤ 1000000; omega)
    have L44 : ∀ (n : Nat) (x3 : Int) (x4 : Int) (x5 : Int) (x6 : Int) (x7 : Int) (s8 : MS), Rg s8 → (x3 = p0) → (x4 = -1 ∨ (0 ≤ x4 ∧ x4 < gI s 1060 ∧ gA s 54 x4.toNat = 0 ∧ gA s 55 x4.toNat = 0)) → (R2 x5) → (x6 = 0 ∨ x6 = 1) → (0 ≤ x7 ∧ x7 ≤ 48) → (gI s8 1060 = gI s 1060) → (x6 ≤ 1) → (gA s8 54 = gA s 54) → (gA s8 55 = gA s 55) → (gA s8 56 = gA s 56) → (gA s8 57 = gA s 57) → (48 - x7) < (n : Int) → wp (m_x1_take_L44 n x3 x4 x5 x6 x7 s8) (fun q => (Rg q.2) ∧ (q.1 = -1 ∨ (0 ≤ q.1 ∧ q.1 < gI s 1060 ∧ gA s 54 q.1.toNat = 0 ∧ gA s 55 q.1.toNat = 0)) ∧ (q.1 ≠ -1 → gA q.2 54 = upZ (gA s 54) q.1.toNat 1 ∧ gA q.2 56 = upZ (gA s 56) q.1.toNat p0 ∧ gA q.2 57 = upZ (gA s 57) q.1.toNat 0)) := by
      refine fr_ind (fun x3 x4 x5 x6 x7 s8 hRs8 hv44_0 hv44_1 hv44_2 hv44_3 hv44_4 hv44_5 hv44_6 hv44_7 hv44_8 hv44_9 hv44_10 hm44 => ?_) (fun n44 ih44 x3 x4 x5 x6 x7 s8 hRs8 hv44_0 hv44_1 hv44_2 hv44_3 hv44_4 hv44_5 hv44_6 hv44_7 hv44_8 hv44_9 hv44_10 hm44 => ?_)
      · exfalso; have : (0 : Int) ≤ gI s8 1060 ∧ gI s8 1060 ≤ 48 := hRs8.1 1060; have : (0 : Int) ≤ gI s 1060 ∧ gI s 1060 ≤ 48 := hRs.1 1060; omega
      · show wp (m_x1_take_b44 (m_x1_take_L44 n44) x3 x4 x5 x6 x7 s8) _
        unfold m_x1_take_b44
        refine wp_rg (by have : (0 : Int) ≤ gI s8 1060 ∧ gI s8 1060 ≤ 48 := hRs8.1 1060; have : (0 : Int) ≤ gI s 1060 ∧ gI s 1060 ≤ 48 := hRs.1 1060; omega) ?_
        refine wp_rg (by have : (0 : Int) ≤ gI s 1060 ∧ gI s 1060 ≤ 48 := hRs.1 1060; have : (0 : Int) ≤ gI s8 1060 ∧ gI s8 1060 ≤ 48 := hRs8.1 1060; omega) ?_
        refine wp_if (fun c2 => ?_) (fun c2 => ?_)
        · skip
          refine wp_rg (by have : (0 : Int) ≤ gI s8 1060 ∧ gI s8 1060 ≤ 48 := hRs8.1 1060; have : (0 : Int) ≤ gI s 1060 ∧ gI s 1060 ≤ 48 := hRs.1 1060; omega) ?_
          refine wp_if (fun c3 => ?_) (fun c3 => ?_)
          · skip
            unfold m_x1_take_J189
            exact wp_some ⟨hRs8, by show x4 = -1 ∨ (0 ≤ x4 ∧ x4 < gI s 1060 ∧ gA s 54 x4.toNat = 0 ∧ gA s 55 x4.toNat = 0); have : (0 : Int) ≤ gI s8 1060 ∧ gI s8 1060 ≤ 48 := hRs8.1 1060; have : (0 : Int) ≤ gI s 1060 ∧ gI s 1060 ≤ 48 := hRs.1 1060; omega, fun h9 => by exfalso; omega⟩
          · skip
            refine wp_inb (by have : (0 : Int) ≤ gI s8 1060 ∧ gI s8 1060 ≤ 48 := hRs8.1 1060; have : (0 : Int) ≤ gI s 1060 ∧ gI s 1060 ≤ 48 := hRs.1 1060; omega) ?_
            refine wp_stn (fun s38 es38 => ?_)
            have hRs38 : Rg s38 := es38 ▸ Rg.uAu hRs8 (by show (-1 : Int) ≤ (1 : Int) ∧ (1 : Int) ≤ 100000; have : (0 : Int) ≤ gI s8 1060 ∧ gI s8 1060 ≤ 48 := hRs8.1 1060; have : (0 : Int) ≤ gI s 1060 ∧ gI s 1060 ≤ 48 := hRs.1 1060; have := hRs8.2.1 54; omega)
            refine wp_inb (by have : (0 : Int) ≤ gI s8 1060 ∧ gI s8 1060 ≤ 48 := hRs8.1 1060; have : (0 : Int) ≤ gI s 1060 ∧ gI s 1060 ≤ 48 := hRs.1 1060; omega) ?_
            refine wp_stn (fun s40 es40 => ?_)
            have hRs40 : Rg s40 := es40 ▸ Rg.uAu hRs38 (by show (-1 : Int) ≤ x3 ∧ x3 ≤ 1000; have : (0 : Int) ≤ gI s8 1060 ∧ gI s8 1060 ≤ 48 := hRs8.1 1060; have : (0 : Int) ≤ gI s 1060 ∧ gI s 1060 ≤ 48 := hRs.1 1060; omega)
            refine wp_inb (by have : (0 : Int) ≤ gI s8 1060 ∧ gI s8 1060 ≤ 48 := hRs8.1 1060; have : (0 : Int) ≤ gI s 1060 ∧ gI s 1060 ≤ 48 := hRs.1 1060; omega) ?_
            refine wp_stn (fun s42 es42 => ?_)
            have hRs42 : Rg s42 := es42 ▸ Rg.uAu hRs40 (by show (-1 : Int) ≤ (0 : Int) ∧ (0 : Int) ≤ 255; have : (0 : Int) ≤ gI s8 1060 ∧ gI s8 1060 ≤ 48 := hRs8.1 1060; have : (0 : Int) ≤ gI s 1060 ∧ gI s 1060 ≤ 48 := hRs.1 1060; omega)
            refine wp_bn (w_x8_mark hRs42 (by show R2 x4; have : (0 : Int) ≤ gI s8 1060 ∧ gI s8 1060 ≤ 48 := hRs8.1 1060; have : (0 : Int) ≤ gI s 1060 ∧ gI s 1060 ≤ 48 := hRs.1 1060; omega)) (fun s44 es44 hs44 => ?_)
            have Fs44 := fr_x8_mark es44
            have hRs44 := hs44
            unfold m_x1_take_J189
            exact wp_some ⟨hRs44, by show x4 = -1 ∨ (0 ≤ x4 ∧ x4 < gI s 1060 ∧ gA s 54 x4.toNat = 0 ∧ gA s 55 x4.toNat = 0); have : (0 : Int) ≤ gI s8 1060 ∧ gI s8 1060 ≤ 48 := hRs8.1 1060; have : (0 : Int) ≤ gI s 1060 ∧ gI s 1060 ≤ 48 := hRs.1 1060; omega, fun h9 => ⟨by rw [((Fs44.2.1 54 (by decide)).trans ((q_Aa es42 (by decide) : gA s42 54 = gA s40 54).trans (q_Aa es40 (by decide) : gA s40 54 = gA s38 54))), q_AA es38, hv44_7], by rw [((Fs44.2.1 56 (by decide)).trans (q_Aa es42 (by decide) : gA s42 56 = gA s40 56)), q_AA es40, (q_Aa es38 (by decide) : gA s38 56 = gA s8 56), hv44_9, hv44_0], by rw [(Fs44.2.1 57 (by decide)), q_AA es42, ((q_Aa es40 (by decide) : gA s40 57 = gA s38 57).trans (q_Aa es38 (by decide) : gA s38 57 = gA s8 57)), hv44_10]⟩⟩
        · skip
          refine wp_bn (w_x8_isFree hRs8 (by show R2 x7; have : (0 : Int) ≤ gI s8 1060 ∧ gI s8 1060 ≤ 48 := hRs8.1 1060; have : (0 : Int) ≤ gI s 1060 ∧ gI s 1060 ≤ 48 := hRs.1 1060; omega)) (fun r46 er46 hr46 => ?_)
          have hr46_0 := hr46
          have hr46_0 : (r46 = 1 ∧ 0 ≤ x7 ∧ x7 < gI s8 1060 ∧ gA s8 54 x7.toNat = 0 ∧ gA s8 55 x7.toNat = 0) ∨ (r46 = 0 ∧ (x7 < 0 ∨ gI s8 1060 ≤ x7 ∨ ¬ (gA s8 54 x7.toNat = 0 ∧ gA s8 55 x7.toNat = 0))) := hr46_0
          rw [hv44_7, hv44_8] at hr46_0
          refine wp_rg (by have : (0 : Int) ≤ gI s8 1060 ∧ gI s8 1060 ≤ 48 := hRs8.1 1060; have : (0 : Int) ≤ gI s 1060 ∧ gI s 1060 ≤ 48 := hRs.1 1060; omega) ?_
          refine wp_if (fun c4 => ?_) (fun c4 => ?_)
          · skip
            unfold m_x1_take_J140
            exact ih44 x3 x4 x5 x6 (x7 + 1) s8 hRs8 (by show x3 = p0; have : (0 : Int) ≤ gI s8 1060 ∧ gI s8 1060 ≤ 48 := hRs8.1 1060; have : (0 : Int) ≤ gI s 1060 ∧ gI s 1060 ≤ 48 := hRs.1 1060; omega) (by show x4 = -1 ∨ (0 ≤ x4 ∧ x4 < gI s 1060 ∧ gA s 54 x4.toNat = 0 ∧ gA s 55 x4.toNat = 0); have : (0 : Int) ≤ gI s8 1060 ∧ gI s8 1060 ≤ 48 := hRs8.1 1060; have : (0 : Int) ≤ gI s 1060 ∧ gI s 1060 ≤ 48 := hRs.1 1060; omega) (by show R2 x5; have : (0 : Int) ≤ gI s8 1060 ∧ gI s8 1060 ≤ 48 := hRs8.1 1060; have : (0 : Int) ≤ gI s 1060 ∧ gI s 1060 ≤ 48 := hRs.1 1060; omega) (by show x6 = 0 ∨ x6 = 1; have : (0 : Int) ≤ gI s8 1060 ∧ gI s8 1060 ≤ 48 := hRs8.1 1060; have : (0 : Int) ≤ gI s 1060 ∧ gI s 1060 ≤ 48 := hRs.1 1060; omega) (by show 0 ≤ (x7 + 1) ∧ (x7 + 1) ≤ 48; have : (0 : Int) ≤ gI s8 1060 ∧ gI s8 1060 ≤ 48 := hRs8.1 1060; have : (0 : Int) ≤ gI s 1060 ∧ gI s 1060 ≤ 48 := hRs.1 1060; omega) (by show gI s8 1060 = gI s 1060; have : (0 : Int) ≤ gI s 1060 ∧ gI s 1060 ≤ 48 := hRs.1 1060; have : (0 : Int) ≤ gI s8 1060 ∧ gI s8 1060 ≤ 48 := hRs8.1 1060; omega) (by show x6 ≤ 1; have : (0 : Int) ≤ gI s8 1060 ∧ gI s8 1060 ≤ 48 := hRs8.1 1060; have : (0 : Int) ≤ gI s 1060 ∧ gI s 1060 ≤ 48 := hRs.1 1060; omega) ((rfl).trans hv44_7) ((rfl).trans hv44_8) ((rfl).trans hv44_9) ((rfl).trans hv44_10) (by have : (0 : Int) ≤ gI s8 1060 ∧ gI s8 1060 ≤ 48 := hRs8.1 1060; have : (0 : Int) ≤ gI s 1060 ∧ gI s 1060 ≤ 48 := hRs.1 1060; omega)
          · skip
            refine wp_stn (fun s49 es49 => ?_)
            have hRs49 : Rg s49 := es49 ▸ Rg.uI hRs8 (by show (-1000000 : Int) ≤ x7 ∧ x7 ≤ 1000000; have : (0 : Int) ≤ gI s8 1060 ∧ gI s8 1060 ≤ 48 := hRs8.1 1060; have : (0 : Int) ≤ gI s 1060 ∧ gI s 1060 ≤ 48 := hRs.1 1060; omega)
            refine wp_rg (by have : (0 : Int) ≤ gI s8 1060 ∧ gI s8 1060 ≤ 48 := hRs8.1 1060; have : (0 : Int) ≤ gI s 1060 ∧ gI s 1060 ≤ 48 := hRs.1 1060; omega) ?_
            refine wp_if (fun c5 => ?_) (fun c5 => ?_)
            · skip
              unfold m_x1_take_J119
              refine wp_rg (by have : (0 : Int) ≤ gI s8 1060 ∧ gI s8 1060 ≤ 48 := hRs8.1 1060; have : (0 : Int) ≤ gI s 1060 ∧ gI s 1060 ≤ 48 := hRs.1 1060; omega) ?_
              refine wp_if (fun c6 => ?_) (fun c6 => ?_)
              · skip
                unfold m_x1_take_J133
                unfold m_x1_take_J140
                exact ih44 x3 x7 x7 x6 (x7 + 1) s49 hRs49 (by show x3 = p0; have : (0 : Int) ≤ gI s8 1060 ∧ gI s8 1060 ≤ 48 := hRs8.1 1060; have : (0 : Int) ≤ gI s 1060 ∧ gI s 1060 ≤ 48 := hRs.1 1060; omega) (by show x7 = -1 ∨ (0 ≤ x7 ∧ x7 < gI s 1060 ∧ gA s 54 x7.toNat = 0 ∧ gA s 55 x7.toNat = 0); have : (0 : Int) ≤ gI s8 1060 ∧ gI s8 1060 ≤ 48 := hRs8.1 1060; have : (0 : Int) ≤ gI s 1060 ∧ gI s 1060 ≤ 48 := hRs.1 1060; omega) (by show R2 x7; have : (0 : Int) ≤ gI s8 1060 ∧ gI s8 1060 ≤ 48 := hRs8.1 1060; have : (0 : Int) ≤ gI s 1060 ∧ gI s 1060 ≤ 48 := hRs.1 1060; omega) (by show x6 = 0 ∨ x6 = 1; have : (0 : Int) ≤ gI s8 1060 ∧ gI s8 1060 ≤ 48 := hRs8.1 1060; have : (0 : Int) ≤ gI s 1060 ∧ gI s 1060 ≤ 48 := hRs.1 1060; omega) (by show 0 ≤ (x7 + 1) ∧ (x7 + 1) ≤ 48; have : (0 : Int) ≤ gI s8 1060 ∧ gI s8 1060 ≤ 48 := hRs8.1 1060; have : (0 : Int) ≤ gI s 1060 ∧ gI s 1060 ≤ 48 := hRs.1 1060; omega) (by show gI s49 1060 = gI s 1060; have : (0 : Int) ≤ gI s8 1060 ∧ gI s8 1060 ≤ 48 := hRs8.1 1060; have : (0 : Int) ≤ gI s 1060 ∧ gI s 1060 ≤ 48 := hRs.1 1060; have : gI s49 1060 = gI s8 1060 := q_Ii es49 (by decide); omega) (by show x6 ≤ 1; have : (0 : Int) ≤ gI s8 1060 ∧ gI s8 1060 ≤ 48 := hRs8.1 1060; have : (0 : Int) ≤ gI s 1060 ∧ gI s 1060 ≤ 48 := hRs.1 1060; omega) (((q_Ia es49 : gA s49 54 = gA s8 54)).trans hv44_7) (((q_Ia es49 : gA s49 55 = gA s8 55)).trans hv44_8) (((q_Ia es49 : gA s49 56 = gA s8 56)).trans hv44_9) (((q_Ia es49 : gA s49 57 = gA s8 57)).trans hv44_10) (by have : (0 : Int) ≤ gI s8 1060 ∧ gI s8 1060 ≤ 48 := hRs8.1 1060; have : (0 : Int) ≤ gI s 1060 ∧ gI s 1060 ≤ 48 := hRs.1 1060; omega)
              · skip
                refine wp_rg (by have : (0 : Int) ≤ gI s8 1060 ∧ gI s8 1060 ≤ 48 := hRs8.1 1060; have : (0 : Int) ≤ gI s 1060 ∧ gI s 1060 ≤ 48 := hRs.1 1060; omega) ?_
                refine wp_rg (by have : (0 : Int) ≤ gI s8 1060 ∧ gI s8 1060 ≤ 48 := hRs8.1 1060; have : (0 : Int) ≤ gI s 1060 ∧ gI s 1060 ≤ 48 := hRs.1 1060; omega) ?_
                refine wp_if (fun c7 => ?_) (fun c7 => ?_)
                · skip
                  unfold m_x1_take_J140
                  exact ih44 x3 x4 x5 x6 (x7 + 1) s49 hRs49 (by show x3 = p0; have : (0 : Int) ≤ gI s8 1060 ∧ gI s8 1060 ≤ 48 := hRs8.1 1060; have : (0 : Int) ≤ gI s 1060 ∧ gI s 1060 ≤ 48 := hRs.1 1060; omega) (by show x4 = -1 ∨ (0 ≤ x4 ∧ x4 < gI s 1060 ∧ gA s 54 x4.toNat = 0 ∧ gA s 55 x4.toNat = 0); have : (0 : Int) ≤ gI s8 1060 ∧ gI s8 1060 ≤ 48 := hRs8.1 1060; have : (0 : Int) ≤ gI s 1060 ∧ gI s 1060 ≤ 48 := hRs.1 1060; omega) (by show R2 x5; have : (0 : Int) ≤ gI s8 1060 ∧ gI s8 1060 ≤ 48 := hRs8.1 1060; have : (0 : Int) ≤ gI s 1060 ∧ gI s 1060 ≤ 48 := hRs.1 1060; omega) (by show x6 = 0 ∨ x6 = 1; have : (0 : Int) ≤ gI s8 1060 ∧ gI s8 1060 ≤ 48 := hRs8.1 1060; have : (0 : Int) ≤ gI s 1060 ∧ gI s 1060 ≤ 48 := hRs.1 1060; omega) (by show 0 ≤ (x7 + 1) ∧ (x7 + 1) ≤ 48; have : (0 : Int) ≤ gI s8 1060 ∧ gI s8 1060 ≤ 48 := hRs8.1 1060; have : (0 : Int) ≤ gI s 1060 ∧ gI s 1060 ≤ 48 := hRs.1 1060; omega) (by show gI s49 1060 = gI s 1060; have : (0 : Int) ≤ gI s8 1060 ∧ gI s8 1060 ≤ 48 := hRs8.1 1060; have : (0 : Int) ≤ gI s 1060 ∧ gI s 1060 ≤ 48 := hRs.1 1060; have : gI s49 1060 = gI s8 1060 := q_Ii es49 (by decide); omega) (by show x6 ≤ 1; have : (0 : Int) ≤ gI s8 1060 ∧ gI s8 1060 ≤ 48 := hRs8.1 1060; have : (0 : Int) ≤ gI s 1060 ∧ gI s 1060 ≤ 48 := hRs.1 1060; omega) (((q_Ia es49 : gA s49 54 = gA s8 54)).trans hv44_7) (((q_Ia es49 : gA s49 55 = gA s8 55)).trans hv44_8) (((q_Ia es49 : gA s49 56 = gA s8 56)).trans hv44_9) (((q_Ia es49 : gA s49 57 = gA s8 57)).trans hv44_10) (by have : (0 : Int) ≤ gI s8 1060 ∧ gI s8 1060 ≤ 48 := hRs8.1 1060; have : (0 : Int) ≤ gI s 1060 ∧ gI s 1060 ≤ 48 := hRs.1 1060; omega)
                · skip
                  unfold m_x1_take_J133
                  unfold m_x1_take_J140
                  exact ih44 x3 x7 x7 x6 (x7 + 1) s49 hRs49 (by show x3 = p0; have : (0 : Int) ≤ gI s8 1060 ∧ gI s8 1060 ≤ 48 := hRs8.1 1060; have : (0 : Int) ≤ gI s 1060 ∧ gI s 1060 ≤ 48 := hRs.1 1060; omega) (by show x7 = -1 ∨ (0 ≤ x7 ∧ x7 < gI s 1060 ∧ gA s 54 x7.toNat = 0 ∧ gA s 55 x7.toNat = 0); have : (0 : Int) ≤ gI s8 1060 ∧ gI s8 1060 ≤ 48 := hRs8.1 1060; have : (0 : Int) ≤ gI s 1060 ∧ gI s 1060 ≤ 48 := hRs.1 1060; omega) (by show R2 x7; have : (0 : Int) ≤ gI s8 1060 ∧ gI s8 1060 ≤ 48 := hRs8.1 1060; have : (0 : Int) ≤ gI s 1060 ∧ gI s 1060 ≤ 48 := hRs.1 1060; omega) (by show x6 = 0 ∨ x6 = 1; have : (0 : Int) ≤ gI s8 1060 ∧ gI s8 1060 ≤ 48 := hRs8.1 1060; have : (0 : Int) ≤ gI s 1060 ∧ gI s 1060 ≤ 48 := hRs.1 1060; omega) (by show 0 ≤ (x7 + 1) ∧ (x7 + 1) ≤ 48; have : (0 : Int) ≤ gI s8 1060 ∧ gI s8 1060 ≤ 48 := hRs8.1 1060; have : (0 : Int) ≤ gI s 1060 ∧ gI s 1060 ≤ 48 := hRs.1 1060; omega) (by show gI s49 1060 = gI s 1060; have : (0 : Int) ≤ gI s8 1060 ∧ gI s8 1060 ≤ 48 := hRs8.1 1060; have : (0 : Int) ≤ gI s 1060 ∧ gI s 1060 ≤ 48 := hRs.1 1060; have : gI s49 1060 = gI s8 1060 := q_Ii es49 (by decide); omega) (by show x6 ≤ 1; have : (0 : Int) ≤ gI s8 1060 ∧ gI s8 1060 ≤ 48 := hRs8.1 1060; have : (0 : Int) ≤ gI s 1060 ∧ gI s 1060 ≤ 48 := hRs.1 1060; omega) (((q_Ia es49 : gA s49 54 = gA s8 54)).trans hv44_7) (((q_Ia es49 : gA s49 55 = gA s8 55)).trans hv44_8) (((q_Ia es49 : gA s49 56 = gA s8 56)).trans hv44_9) (((q_Ia es49 : gA s49 57 = gA s8 57)).trans hv44_10) (by have : (0 : Int) ≤ gI s8 1060 ∧ gI s8 1060 ≤ 48 := hRs8.1 1060; have : (0 : Int) ≤ gI s 1060 ∧ gI s 1060 ≤ 48 := hRs.1 1060; omega)
            · skip
              refine wp_rdIn (by have : (0 : Int) ≤ gI s8 1060 ∧ gI s8 1060 ≤ 48 := hRs8.1 1060; have : (0 : Int) ≤ gI s 1060 ∧ gI s 1060 ≤ 48 := hRs.1 1060; omega) (fun y52 ey52 => ?_)
              have by52 : (-2147483648 : Int) ≤ y52 ∧ y52 ≤ 2147483647 := ey52 ▸ hRs49.2.1 35 _ (by show _ < 3; have : (0 : Int) ≤ gI s8 1060 ∧ gI s8 1060 ≤ 48 := hRs8.1 1060; have : (0 : Int) ≤ gI s 1060 ∧ gI s 1060 ≤ 48 := hRs.1 1060; omega)
              refine wp_rdIn (by have : (0 : Int) ≤ gI s8 1060 ∧ gI s8 1060 ≤ 48 := hRs8.1 1060; have : (0 : Int) ≤ gI s 1060 ∧ gI s 1060 ≤ 48 := hRs.1 1060; omega) (fun y53 ey53 => ?_)
              have by53 : (-2147483648 : Int) ≤ y53 ∧ y53 ≤ 2147483647 := ey53 ▸ hRs49.2.1 36 _ (by show _ < 3; have : (0 : Int) ≤ gI s8 1060 ∧ gI s8 1060 ≤ 48 := hRs8.1 1060; have : (0 : Int) ≤ gI s 1060 ∧ gI s 1060 ≤ 48 := hRs.1 1060; omega)
              refine wp_bn (w_x3_value hRs49 (by show R2 y52; have : (0 : Int) ≤ gI s8 1060 ∧ gI s8 1060 ≤ 48 := hRs8.1 1060; have : (0 : Int) ≤ gI s 1060 ∧ gI s 1060 ≤ 48 := hRs.1 1060; omega) (by show R2 y53; have : (0 : Int) ≤ gI s8 1060 ∧ gI s8 1060 ≤ 48 := hRs8.1 1060; have : (0 : Int) ≤ gI s 1060 ∧ gI s 1060 ≤ 48 := hRs.1 1060; omega)) (fun qqr56 eqr56s hqr56s => ?_)
              obtain ⟨qr56r, qr56s⟩ := qqr56
              dsimp only at eqr56s hqr56s ⊢
              have Fqr56s := fr_x3_value eqr56s
              obtain ⟨hRqr56s, hqr56s_0⟩ := hqr56s
              have hqr56s_0 : (-1000000) ≤ qr56r ∧ qr56r ≤ 1000001 := hqr56s_0
              unfold m_x1_take_J119
              refine wp_rg (by have : (0 : Int) ≤ gI s8 1060 ∧ gI s8 1060 ≤ 48 := hRs8.1 1060; have : (0 : Int) ≤ gI s 1060 ∧ gI s 1060 ≤ 48 := hRs.1 1060; omega) ?_
              refine wp_if (fun c8 => ?_) (fun c8 => ?_)
              · skip
                unfold m_x1_take_J133
                unfold m_x1_take_J140
                exact ih44 x3 x7 qr56r x6 (x7 + 1) qr56s hRqr56s (by show x3 = p0; have : (0 : Int) ≤ gI s8 1060 ∧ gI s8 1060 ≤ 48 := hRs8.1 1060; have : (0 : Int) ≤ gI s 1060 ∧ gI s 1060 ≤ 48 := hRs.1 1060; omega) (by show x7 = -1 ∨ (0 ≤ x7 ∧ x7 < gI s 1060 ∧ gA s 54 x7.toNat = 0 ∧ gA s 55 x7.toNat = 0); have : (0 : Int) ≤ gI s8 1060 ∧ gI s8 1060 ≤ 48 := hRs8.1 1060; have : (0 : Int) ≤ gI s 1060 ∧ gI s 1060 ≤ 48 := hRs.1 1060; omega) (by show R2 qr56r; have : (0 : Int) ≤ gI s8 1060 ∧ gI s8 1060 ≤ 48 := hRs8.1 1060; have : (0 : Int) ≤ gI s 1060 ∧ gI s 1060 ≤ 48 := hRs.1 1060; omega) (by show x6 = 0 ∨ x6 = 1; have : (0 : Int) ≤ gI s8 1060 ∧ gI s8 1060 ≤ 48 := hRs8.1 1060; have : (0 : Int) ≤ gI s 1060 ∧ gI s 1060 ≤ 48 := hRs.1 1060; omega) (by show 0 ≤ (x7 + 1) ∧ (x7 + 1) ≤ 48; have : (0 : Int) ≤ gI s8 1060 ∧ gI s8 1060 ≤ 48 := hRs8.1 1060; have : (0 : Int) ≤ gI s 1060 ∧ gI s 1060 ≤ 48 := hRs.1 1060; omega) (by show gI qr56s 1060 = gI s 1060; have : (0 : Int) ≤ gI s8 1060 ∧ gI s8 1060 ≤ 48 := hRs8.1 1060; have : (0 : Int) ≤ gI s 1060 ∧ gI s 1060 ≤ 48 := hRs.1 1060; have : gI qr56s 1060 = gI s49 1060 := Fqr56s.1 1060 (by decide); have : gI s49 1060 = gI s8 1060 := q_Ii es49 (by decide); omega) (by show x6 ≤ 1; have : (0 : Int) ≤ gI s8 1060 ∧ gI s8 1060 ≤ 48 := hRs8.1 1060; have : (0 : Int) ≤ gI s 1060 ∧ gI s 1060 ≤ 48 := hRs.1 1060; omega) ((((Fqr56s.2.1 54 (by decide)).trans (q_Ia es49 : gA s49 54 = gA s8 54))).trans hv44_7) ((((Fqr56s.2.1 55 (by decide)).trans (q_Ia es49 : gA s49 55 = gA s8 55))).trans hv44_8) ((((Fqr56s.2.1 56 (by decide)).trans (q_Ia es49 : gA s49 56 = gA s8 56))).trans hv44_9) ((((Fqr56s.2.1 57 (by decide)).trans (q_Ia es49 : gA s49 57 = gA s8 57))).trans hv44_10) (by have : (0 : Int) ≤ gI s8 1060 ∧ gI s8 1060 ≤ 48 := hRs8.1 1060; have : (0 : Int) ≤ gI s 1060 ∧ gI s 1060 ≤ 48 := hRs.1 1060; omega)
              · skip
                refine wp_rg (by have : (0 : Int) ≤ gI s8 1060 ∧ gI s8 1060 ≤ 48 := hRs8.1 1060; have : (0 : Int) ≤ gI s 1060 ∧ gI s 1060 ≤ 48 := hRs.1 1060; omega) ?_
                refine wp_rg (by have : (0 : Int) ≤ gI s8 1060 ∧ gI s8 1060 ≤ 48 := hRs8.1 1060; have : (0 : Int) ≤ gI s 1060 ∧ gI s 1060 ≤ 48 := hRs.1 1060; omega) ?_
                refine wp_if (fun c9 => ?_) (fun c9 => ?_)
                · skip
                  unfold m_x1_take_J140
                  exact ih44 x3 x4 x5 x6 (x7 + 1) qr56s hRqr56s (by show x3 = p0; have : (0 : Int) ≤ gI s8 1060 ∧ gI s8 1060 ≤ 48 := hRs8.1 1060; have : (0 : Int) ≤ gI s 1060 ∧ gI s 1060 ≤ 48 := hRs.1 1060; omega) (by show x4 = -1 ∨ (0 ≤ x4 ∧ x4 < gI s 1060 ∧ gA s 54 x4.toNat = 0 ∧ gA s 55 x4.toNat = 0); have : (0 : Int) ≤ gI s8 1060 ∧ gI s8 1060 ≤ 48 := hRs8.1 1060; have : (0 : Int) ≤ gI s 1060 ∧ gI s 1060 ≤ 48 := hRs.1 1060; omega) (by show R2 x5; have : (0 : Int) ≤ gI s8 1060 ∧ gI s8 1060 ≤ 48 := hRs8.1 1060; have : (0 : Int) ≤ gI s 1060 ∧ gI s 1060 ≤ 48 := hRs.1 1060; omega) (by show x6 = 0 ∨ x6 = 1; have : (0 : Int) ≤ gI s8 1060 ∧ gI s8 1060 ≤ 48 := hRs8.1 1060; have : (0 : Int) ≤ gI s 1060 ∧ gI s 1060 ≤ 48 := hRs.1 1060; omega) (by show 0 ≤ (x7 + 1) ∧ (x7 + 1) ≤ 48; have : (0 : Int) ≤ gI s8 1060 ∧ gI s8 1060 ≤ 48 := hRs8.1 1060; have : (0 : Int) ≤ gI s 1060 ∧ gI s 1060 ≤ 48 := hRs.1 1060; omega) (by show gI qr56s 1060 = gI s 1060; have : (0 : Int) ≤ gI s8 1060 ∧ gI s8 1060 ≤ 48 := hRs8.1 1060; have : (0 : Int) ≤ gI s 1060 ∧ gI s 1060 ≤ 48 := hRs.1 1060; have : gI qr56s 1060 = gI s49 1060 := Fqr56s.1 1060 (by decide); have : gI s49 1060 = gI s8 1060 := q_Ii es49 (by decide); omega) (by show x6 ≤ 1; have : (0 : Int) ≤ gI s8 1060 ∧ gI s8 1060 ≤ 48 := hRs8.1 1060; have : (0 : Int) ≤ gI s 1060 ∧ gI s 1060 ≤ 48 := hRs.1 1060; omega) ((((Fqr56s.2.1 54 (by decide)).trans (q_Ia es49 : gA s49 54 = gA s8 54))).trans hv44_7) ((((Fqr56s.2.1 55 (by decide)).trans (q_Ia es49 : gA s49 55 = gA s8 55))).trans hv44_8) ((((Fqr56s.2.1 56 (by decide)).trans (q_Ia es49 : gA s49 56 = gA s8 56))).trans hv44_9) ((((Fqr56s.2.1 57 (by decide)).trans (q_Ia es49 : gA s49 57 = gA s8 57))).trans hv44_10) (by have : (0 : Int) ≤ gI s8 1060 ∧ gI s8 1060 ≤ 48 := hRs8.1 1060; have : (0 : Int) ≤ gI s 1060 ∧ gI s 1060 ≤ 48 := hRs.1 1060; omega)
                · skip
                  unfold m_x1_take_J133
                  unfold m_x1_take_J140
                  exact ih44 x3 x7 qr56r x6 (x7 + 1) qr56s hRqr56s (by show x3 = p0; have : (0 : Int) ≤ gI s8 1060 ∧ gI s8 1060 ≤ 48 := hRs8.1 1060; have : (0 : Int) ≤ gI s 1060 ∧ gI s 1060 ≤ 48 := hRs.1 1060; omega) (by show x7 = -1 ∨ (0 ≤ x7 ∧ x7 < gI s 1060 ∧ gA s 54 x7.toNat = 0 ∧ gA s 55 x7.toNat = 0); have : (0 : Int) ≤ gI s8 1060 ∧ gI s8 1060 ≤ 48 := hRs8.1 1060; have : (0 : Int) ≤ gI s 1060 ∧ gI s 1060 ≤ 48 := hRs.1 1060; omega) (by show R2 qr56r; have : (0 : Int) ≤ gI s8 1060 ∧ gI s8 1060 ≤ 48 := hRs8.1 1060; have : (0 : Int) ≤ gI s 1060 ∧ gI s 1060 ≤ 48 := hRs.1 1060; omega) (by show x6 = 0 ∨ x6 = 1; have : (0 : Int) ≤ gI s8 1060 ∧ gI s8 1060 ≤ 48 := hRs8.1 1060; have : (0 : Int) ≤ gI s 1060 ∧ gI s 1060 ≤ 48 := hRs.1 1060; omega) (by show 0 ≤ (x7 + 1) ∧ (x7 + 1) ≤ 48; have : (0 : Int) ≤ gI s8 1060 ∧ gI s8 1060 ≤ 48 := hRs8.1 1060; have : (0 : Int) ≤ gI s 1060 ∧ gI s 1060 ≤ 48 := hRs.1 1060; omega) (by show gI qr56s 1060 = gI s 1060; have : (0 : Int) ≤ gI s8 1060 ∧ gI s8 1060 ≤ 48 := hRs8.1 1060; have : (0 : Int) ≤ gI s 1060 ∧ gI s 1060 ≤ 48 := hRs.1 1060; have : gI qr56s 1060 = gI s49 1060 := Fqr56s.1 1060 (by decide); have : gI s49 1060 = gI s8 1060 := q_Ii es49 (by decide); omega) (by show x6 ≤ 1; have : (0 : Int) ≤ gI s8 1060 ∧ gI s8 1060 ≤ 48 := hRs8.1 1060; have : (0 : Int) ≤ gI s 1060 ∧ gI s 1060 ≤ 48 := hRs.1 1060; omega) ((((Fqr56s.2.1 54 (by decide)).trans (q_Ia es49 : gA s49 54 = gA s8 54))).trans hv44_7) ((((Fqr56s.2.1 55 (by decide)).trans (q_Ia es49 : gA s49 55 = gA s8 55))).trans hv44_8) ((((Fqr56s.2.1 56 (by decide)).trans (q_Ia es49 : gA s49 56 = gA s8 56))).trans hv44_9) ((((Fqr56s.2.1 57 (by decide)).trans (q_Ia es49 : gA s49 57 = gA s8 57))).trans hv44_10) (by have : (0 : Int) ≤ gI s8 1060 ∧ gI s8 1060 ≤ 48 := hRs8.1 1060; have : (0 : Int) ≤ gI s 1060 ∧ gI s 1060 ≤ 48 := hRs.1 1060; omega)
    exact L44 FU p0 (-1) 0 0 0 s64 hRs64 (by show p0 = p0; omega) (by show (-1 : Int) = -1 ∨ (0 ≤ (-1 : Int) ∧ (-1 : Int) < gI s 1060 ∧ gA s 54 (-1 : Int).toNat = 0 ∧ gA s 55 (-1 : Int).toNat = 0); have : (0 : Int) ≤ gI s 1060 ∧ gI s 1060 ≤ 48 := hRs.1 1060; omega) (by show R2 (0 : Int); omega) (by show (0 : Int) = 0 ∨ (0 : Int) = 1; omega) (by show 0 ≤ (0 : Int) ∧ (0 : Int) ≤ 48; omega) (by show gI s64 1060 = gI s 1060; have : (0 : Int) ≤ gI s 1060 ∧ gI s 1060 ≤ 48 := hRs.1 1060; have : gI s64 1060 = gI s63 1060 := q_Ii es64 (by decide); have : gI s63 1060 = gI s 1060 := q_Ii es63 (by decide); omega) (by show (0 : Int) ≤ 1; omega) (((q_Ia es64 : gA s64 54 = gA s63 54).trans (q_Ia es63 : gA s63 54 = gA s 54))) (((q_Ia es64 : gA s64 55 = gA s63 55).trans (q_Ia es63 : gA s63 55 = gA s 55))) (((q_Ia es64 : gA s64 56 = gA s63 56).trans (q_Ia es63 : gA s63 56 = gA s 56))) (((q_Ia es64 : gA s64 57 = gA s63 57).trans (q_Ia es63 : gA s63 57 = gA s 57))) (by have := FU_big; have := FU_big2; omega)
  · skip
    unfold m_x1_take_J23
    refine wp_stn (fun s63 es63 => ?_)
    have hRs63 : Rg s63 := es63 ▸ Rg.uI hRs (by show (-1000000 : Int) ≤ p0 ∧ p0 ≤ 1000000; omega)
    refine wp_stn (fun s64 es64 => ?_)
    have hRs64 : Rg s64 := es64 ▸ Rg.uI hRs63 (by show (-1000000 : Int) ≤ p1 ∧ p1 ≤ 1000000; omega)
    have L44 : ∀ (n : Nat) (x3 : Int) (x4 : Int) (x5 : Int) (x6 : Int) (x7 : Int) (s8 : MS), Rg s8 → (x3 = p0) → (x4 = -1 ∨ (0 ≤ x4 ∧ x4 < gI s 1060 ∧ gA s 54 x4.toNat = 0 ∧ gA s 55 x4.toNat = 0)) → (R2 x5) → (x6 = 0 ∨ x6 = 1) → (0 ≤ x7 ∧ x7 ≤ 48) → (gI s8 1060 = gI s 1060) → (x6 ≤ 1) → (gA s8 54 = gA s 54) → (gA s8 55 = gA s 55) → (gA s8 56 = gA s 56) → (gA s8 57 = gA s 57) → (48 - x7) < (n : Int) → wp (m_x1_take_L44 n x3 x4 x5 x6 x7 s8) (fun q => (Rg q.2) ∧ (q.1 = -1 ∨ (0 ≤ q.1 ∧ q.1 < gI s 1060 ∧ gA s 54 q.1.toNat = 0 ∧ gA s 55 q.1.toNat = 0)) ∧ (q.1 ≠ -1 → gA q.2 54 = upZ (gA s 54) q.1.toNat 1 ∧ gA q.2 56 = upZ (gA s 56) q.1.toNat p0 ∧ gA q.2 57 = upZ (gA s 57) q.1.toNat 0)) := by
      refine fr_ind (fun x3 x4 x5 x6 x7 s8 hRs8 hv44_0 hv44_1 hv44_2 hv44_3 hv44_4 hv44_5 hv44_6 hv44_7 hv44_8 hv44_9 hv44_10 hm44 => ?_) (fun n44 ih44 x3 x4 x5 x6 x7 s8 hRs8 hv44_0 hv44_1 hv44_2 hv44_3 hv44_4 hv44_5 hv44_6 hv44_7 hv44_8 hv44_9 hv44_10 hm44 => ?_)
      · exfalso; have : (0 : Int) ≤ gI s8 1060 ∧ gI s8 1060 ≤ 48 := hRs8.1 1060; have : (0 : Int) ≤ gI s 1060 ∧ gI s 1060 ≤ 48 := hRs.1 1060; omega
      · show wp (m_x1_take_b44 (m_x1_take_L44 n44) x3 x4 x5 x6 x7 s8) _
        unfold m_x1_take_b44
        refine wp_rg (by have : (0 : Int) ≤ gI s8 1060 ∧ gI s8 1060 ≤ 48 := hRs8.1 1060; have : (0 : Int) ≤ gI s 1060 ∧ gI s 1060 ≤ 48 := hRs.1 1060; omega) ?_
        refine wp_rg (by have : (0 : Int) ≤ gI s 1060 ∧ gI s 1060 ≤ 48 := hRs.1 1060; have : (0 : Int) ≤ gI s8 1060 ∧ gI s8 1060 ≤ 48 := hRs8.1 1060; omega) ?_
        refine wp_if (fun c10 => ?_) (fun c10 => ?_)
        · skip
          refine wp_rg (by have : (0 : Int) ≤ gI s8 1060 ∧ gI s8 1060 ≤ 48 := hRs8.1 1060; have : (0 : Int) ≤ gI s 1060 ∧ gI s 1060 ≤ 48 := hRs.1 1060; omega) ?_
          refine wp_if (fun c11 => ?_) (fun c11 => ?_)
          · skip
            unfold m_x1_take_J189
            exact wp_some ⟨hRs8, by show x4 = -1 ∨ (0 ≤ x4 ∧ x4 < gI s 1060 ∧ gA s 54 x4.toNat = 0 ∧ gA s 55 x4.toNat = 0); have : (0 : Int) ≤ gI s8 1060 ∧ gI s8 1060 ≤ 48 := hRs8.1 1060; have : (0 : Int) ≤ gI s 1060 ∧ gI s 1060 ≤ 48 := hRs.1 1060; omega, fun h9 => by exfalso; omega⟩
          · skip
            refine wp_inb (by have : (0 : Int) ≤ gI s8 1060 ∧ gI s8 1060 ≤ 48 := hRs8.1 1060; have : (0 : Int) ≤ gI s 1060 ∧ gI s 1060 ≤ 48 := hRs.1 1060; omega) ?_
            refine wp_stn (fun s38 es38 => ?_)
            have hRs38 : Rg s38 := es38 ▸ Rg.uAu hRs8 (by show (-1 : Int) ≤ (1 : Int) ∧ (1 : Int) ≤ 100000; have : (0 : Int) ≤ gI s8 1060 ∧ gI s8 1060 ≤ 48 := hRs8.1 1060; have : (0 : Int) ≤ gI s 1060 ∧ gI s 1060 ≤ 48 := hRs.1 1060; have := hRs8.2.1 54; omega)
            refine wp_inb (by have : (0 : Int) ≤ gI s8 1060 ∧ gI s8 1060 ≤ 48 := hRs8.1 1060; have : (0 : Int) ≤ gI s 1060 ∧ gI s 1060 ≤ 48 := hRs.1 1060; omega) ?_
            refine wp_stn (fun s40 es40 => ?_)
            have hRs40 : Rg s40 := es40 ▸ Rg.uAu hRs38 (by show (-1 : Int) ≤ x3 ∧ x3 ≤ 1000; have : (0 : Int) ≤ gI s8 1060 ∧ gI s8 1060 ≤ 48 := hRs8.1 1060; have : (0 : Int) ≤ gI s 1060 ∧ gI s 1060 ≤ 48 := hRs.1 1060; omega)
            refine wp_inb (by have : (0 : Int) ≤ gI s8 1060 ∧ gI s8 1060 ≤ 48 := hRs8.1 1060; have : (0 : Int) ≤ gI s 1060 ∧ gI s 1060 ≤ 48 := hRs.1 1060; omega) ?_
            refine wp_stn (fun s42 es42 => ?_)
            have hRs42 : Rg s42 := es42 ▸ Rg.uAu hRs40 (by show (-1 : Int) ≤ (0 : Int) ∧ (0 : Int) ≤ 255; have : (0 : Int) ≤ gI s8 1060 ∧ gI s8 1060 ≤ 48 := hRs8.1 1060; have : (0 : Int) ≤ gI s 1060 ∧ gI s 1060 ≤ 48 := hRs.1 1060; omega)
            refine wp_bn (w_x8_mark hRs42 (by show R2 x4; have : (0 : Int) ≤ gI s8 1060 ∧ gI s8 1060 ≤ 48 := hRs8.1 1060; have : (0 : Int) ≤ gI s 1060 ∧ gI s 1060 ≤ 48 := hRs.1 1060; omega)) (fun s44 es44 hs44 => ?_)
            have Fs44 := fr_x8_mark es44
            have hRs44 := hs44
            unfold m_x1_take_J189
            exact wp_some ⟨hRs44, by show x4 = -1 ∨ (0 ≤ x4 ∧ x4 < gI s 1060 ∧ gA s 54 x4.toNat = 0 ∧ gA s 55 x4.toNat = 0); have : (0 : Int) ≤ gI s8 1060 ∧ gI s8 1060 ≤ 48 := hRs8.1 1060; have : (0 : Int) ≤ gI s 1060 ∧ gI s 1060 ≤ 48 := hRs.1 1060; omega, fun h9 => ⟨by rw [((Fs44.2.1 54 (by decide)).trans ((q_Aa es42 (by decide) : gA s42 54 = gA s40 54).trans (q_Aa es40 (by decide) : gA s40 54 = gA s38 54))), q_AA es38, hv44_7], by rw [((Fs44.2.1 56 (by decide)).trans (q_Aa es42 (by decide) : gA s42 56 = gA s40 56)), q_AA es40, (q_Aa es38 (by decide) : gA s38 56 = gA s8 56), hv44_9, hv44_0], by rw [(Fs44.2.1 57 (by decide)), q_AA es42, ((q_Aa es40 (by decide) : gA s40 57 = gA s38 57).trans (q_Aa es38 (by decide) : gA s38 57 = gA s8 57)), hv44_10]⟩⟩
        · skip
          refine wp_bn (w_x8_isFree hRs8 (by show R2 x7; have : (0 : Int) ≤ gI s8 1060 ∧ gI s8 1060 ≤ 48 := hRs8.1 1060; have : (0 : Int) ≤ gI s 1060 ∧ gI s 1060 ≤ 48 := hRs.1 1060; omega)) (fun r46 er46 hr46 => ?_)
          have hr46_0 := hr46
          have hr46_0 : (r46 = 1 ∧ 0 ≤ x7 ∧ x7 < gI s8 1060 ∧ gA s8 54 x7.toNat = 0 ∧ gA s8 55 x7.toNat = 0) ∨ (r46 = 0 ∧ (x7 < 0 ∨ gI s8 1060 ≤ x7 ∨ ¬ (gA s8 54 x7.toNat = 0 ∧ gA s8 55 x7.toNat = 0))) := hr46_0
          rw [hv44_7, hv44_8] at hr46_0
          refine wp_rg (by have : (0 : Int) ≤ gI s8 1060 ∧ gI s8 1060 ≤ 48 := hRs8.1 1060; have : (0 : Int) ≤ gI s 1060 ∧ gI s 1060 ≤ 48 := hRs.1 1060; omega) ?_
          refine wp_if (fun c12 => ?_) (fun c12 => ?_)
          · skip
            unfold m_x1_take_J140
            exact ih44 x3 x4 x5 x6 (x7 + 1) s8 hRs8 (by show x3 = p0; have : (0 : Int) ≤ gI s8 1060 ∧ gI s8 1060 ≤ 48 := hRs8.1 1060; have : (0 : Int) ≤ gI s 1060 ∧ gI s 1060 ≤ 48 := hRs.1 1060; omega) (by show x4 = -1 ∨ (0 ≤ x4 ∧ x4 < gI s 1060 ∧ gA s 54 x4.toNat = 0 ∧ gA s 55 x4.toNat = 0); have : (0 : Int) ≤ gI s8 1060 ∧ gI s8 1060 ≤ 48 := hRs8.1 1060; have : (0 : Int) ≤ gI s 1060 ∧ gI s 1060 ≤ 48 := hRs.1 1060; omega) (by show R2 x5; have : (0 : Int) ≤ gI s8 1060 ∧ gI s8 1060 ≤ 48 := hRs8.1 1060; have : (0 : Int) ≤ gI s 1060 ∧ gI s 1060 ≤ 48 := hRs.1 1060; omega) (by show x6 = 0 ∨ x6 = 1; have : (0 : Int) ≤ gI s8 1060 ∧ gI s8 1060 ≤ 48 := hRs8.1 1060; have : (0 : Int) ≤ gI s 1060 ∧ gI s 1060 ≤ 48 := hRs.1 1060; omega) (by show 0 ≤ (x7 + 1) ∧ (x7 + 1) ≤ 48; have : (0 : Int) ≤ gI s8 1060 ∧ gI s8 1060 ≤ 48 := hRs8.1 1060; have : (0 : Int) ≤ gI s 1060 ∧ gI s 1060 ≤ 48 := hRs.1 1060; omega) (by show gI s8 1060 = gI s 1060; have : (0 : Int) ≤ gI s 1060 ∧ gI s 1060 ≤ 48 := hRs.1 1060; have : (0 : Int) ≤ gI s8 1060 ∧ gI s8 1060 ≤ 48 := hRs8.1 1060; omega) (by show x6 ≤ 1; have : (0 : Int) ≤ gI s8 1060 ∧ gI s8 1060 ≤ 48 := hRs8.1 1060; have : (0 : Int) ≤ gI s 1060 ∧ gI s 1060 ≤ 48 := hRs.1 1060; omega) ((rfl).trans hv44_7) ((rfl).trans hv44_8) ((rfl).trans hv44_9) ((rfl).trans hv44_10) (by have : (0 : Int) ≤ gI s8 1060 ∧ gI s8 1060 ≤ 48 := hRs8.1 1060; have : (0 : Int) ≤ gI s 1060 ∧ gI s 1060 ≤ 48 := hRs.1 1060; omega)
          · skip
            refine wp_stn (fun s49 es49 => ?_)
            have hRs49 : Rg s49 := es49 ▸ Rg.uI hRs8 (by show (-1000000 : Int) ≤ x7 ∧ x7 ≤ 1000000; have : (0 : Int) ≤ gI s8 1060 ∧ gI s8 1060 ≤ 48 := hRs8.1 1060; have : (0 : Int) ≤ gI s 1060 ∧ gI s 1060 ≤ 48 := hRs.1 1060; omega)
            refine wp_rg (by have : (0 : Int) ≤ gI s8 1060 ∧ gI s8 1060 ≤ 48 := hRs8.1 1060; have : (0 : Int) ≤ gI s 1060 ∧ gI s 1060 ≤ 48 := hRs.1 1060; omega) ?_
            refine wp_if (fun c13 => ?_) (fun c13 => ?_)
            · skip
              unfold m_x1_take_J119
              refine wp_rg (by have : (0 : Int) ≤ gI s8 1060 ∧ gI s8 1060 ≤ 48 := hRs8.1 1060; have : (0 : Int) ≤ gI s 1060 ∧ gI s 1060 ≤ 48 := hRs.1 1060; omega) ?_
              refine wp_if (fun c14 => ?_) (fun c14 => ?_)
              · skip
                unfold m_x1_take_J133
                unfold m_x1_take_J140
                exact ih44 x3 x7 x7 x6 (x7 + 1) s49 hRs49 (by show x3 = p0; have : (0 : Int) ≤ gI s8 1060 ∧ gI s8 1060 ≤ 48 := hRs8.1 1060; have : (0 : Int) ≤ gI s 1060 ∧ gI s 1060 ≤ 48 := hRs.1 1060; omega) (by show x7 = -1 ∨ (0 ≤ x7 ∧ x7 < gI s 1060 ∧ gA s 54 x7.toNat = 0 ∧ gA s 55 x7.toNat = 0); have : (0 : Int) ≤ gI s8 1060 ∧ gI s8 1060 ≤ 48 := hRs8.1 1060; have : (0 : Int) ≤ gI s 1060 ∧ gI s 1060 ≤ 48 := hRs.1 1060; omega) (by show R2 x7; have : (0 : Int) ≤ gI s8 1060 ∧ gI s8 1060 ≤ 48 := hRs8.1 1060; have : (0 : Int) ≤ gI s 1060 ∧ gI s 1060 ≤ 48 := hRs.1 1060; omega) (by show x6 = 0 ∨ x6 = 1; have : (0 : Int) ≤ gI s8 1060 ∧ gI s8 1060 ≤ 48 := hRs8.1 1060; have : (0 : Int) ≤ gI s 1060 ∧ gI s 1060 ≤ 48 := hRs.1 1060; omega) (by show 0 ≤ (x7 + 1) ∧ (x7 + 1) ≤ 48; have : (0 : Int) ≤ gI s8 1060 ∧ gI s8 1060 ≤ 48 := hRs8.1 1060; have : (0 : Int) ≤ gI s 1060 ∧ gI s 1060 ≤ 48 := hRs.1 1060; omega) (by show gI s49 1060 = gI s 1060; have : (0 : Int) ≤ gI s8 1060 ∧ gI s8 1060 ≤ 48 := hRs8.1 1060; have : (0 : Int) ≤ gI s 1060 ∧ gI s 1060 ≤ 48 := hRs.1 1060; have : gI s49 1060 = gI s8 1060 := q_Ii es49 (by decide); omega) (by show x6 ≤ 1; have : (0 : Int) ≤ gI s8 1060 ∧ gI s8 1060 ≤ 48 := hRs8.1 1060; have : (0 : Int) ≤ gI s 1060 ∧ gI s 1060 ≤ 48 := hRs.1 1060; omega) (((q_Ia es49 : gA s49 54 = gA s8 54)).trans hv44_7) (((q_Ia es49 : gA s49 55 = gA s8 55)).trans hv44_8) (((q_Ia es49 : gA s49 56 = gA s8 56)).trans hv44_9) (((q_Ia es49 : gA s49 57 = gA s8 57)).trans hv44_10) (by have : (0 : Int) ≤ gI s8 1060 ∧ gI s8 1060 ≤ 48 := hRs8.1 1060; have : (0 : Int) ≤ gI s 1060 ∧ gI s 1060 ≤ 48 := hRs.1 1060; omega)
              · skip
                refine wp_rg (by have : (0 : Int) ≤ gI s8 1060 ∧ gI s8 1060 ≤ 48 := hRs8.1 1060; have : (0 : Int) ≤ gI s 1060 ∧ gI s 1060 ≤ 48 := hRs.1 1060; omega) ?_
                refine wp_rg (by have : (0 : Int) ≤ gI s8 1060 ∧ gI s8 1060 ≤ 48 := hRs8.1 1060; have : (0 : Int) ≤ gI s 1060 ∧ gI s 1060 ≤ 48 := hRs.1 1060; omega) ?_
                refine wp_if (fun c15 => ?_) (fun c15 => ?_)
                · skip
                  unfold m_x1_take_J140
                  exact ih44 x3 x4 x5 x6 (x7 + 1) s49 hRs49 (by show x3 = p0; have : (0 : Int) ≤ gI s8 1060 ∧ gI s8 1060 ≤ 48 := hRs8.1 1060; have : (0 : Int) ≤ gI s 1060 ∧ gI s 1060 ≤ 48 := hRs.1 1060; omega) (by show x4 = -1 ∨ (0 ≤ x4 ∧ x4 < gI s 1060 ∧ gA s 54 x4.toNat = 0 ∧ gA s 55 x4.toNat = 0); have : (0 : Int) ≤ gI s8 1060 ∧ gI s8 1060 ≤ 48 := hRs8.1 1060; have : (0 : Int) ≤ gI s 1060 ∧ gI s 1060 ≤ 48 := hRs.1 1060; omega) (by show R2 x5; have : (0 : Int) ≤ gI s8 1060 ∧ gI s8 1060 ≤ 48 := hRs8.1 1060; have : (0 : Int) ≤ gI s 1060 ∧ gI s 1060 ≤ 48 := hRs.1 1060; omega) (by show x6 = 0 ∨ x6 = 1; have : (0 : Int) ≤ gI s8 1060 ∧ gI s8 1060 ≤ 48 := hRs8.1 1060; have : (0 : Int) ≤ gI s 1060 ∧ gI s 1060 ≤ 48 := hRs.1 1060; omega) (by show 0 ≤ (x7 + 1) ∧ (x7 + 1) ≤ 48; have : (0 : Int) ≤ gI s8 1060 ∧ gI s8 1060 ≤ 48 := hRs8.1 1060; have : (0 : Int) ≤ gI s 1060 ∧ gI s 1060 ≤ 48 := hRs.1 1060; omega) (by show gI s49 1060 = gI s 1060; have : (0 : Int) ≤ gI s8 1060 ∧ gI s8 1060 ≤ 48 := hRs8.1 1060; have : (0 : Int) ≤ gI s 1060 ∧ gI s 1060 ≤ 48 := hRs.1 1060; have : gI s49 1060 = gI s8 1060 := q_Ii es49 (by decide); omega) (by show x6 ≤ 1; have : (0 : Int) ≤ gI s8 1060 ∧ gI s8 1060 ≤ 48 := hRs8.1 1060; have : (0 : Int) ≤ gI s 1060 ∧ gI s 1060 ≤ 48 := hRs.1 1060; omega) (((q_Ia es49 : gA s49 54 = gA s8 54)).trans hv44_7) (((q_Ia es49 : gA s49 55 = gA s8 55)).trans hv44_8) (((q_Ia es49 : gA s49 56 = gA s8 56)).trans hv44_9) (((q_Ia es49 : gA s49 57 = gA s8 57)).trans hv44_10) (by have : (0 : Int) ≤ gI s8 1060 ∧ gI s8 1060 ≤ 48 := hRs8.1 1060; have : (0 : Int) ≤ gI s 1060 ∧ gI s 1060 ≤ 48 := hRs.1 1060; omega)
                · skip
                  unfold m_x1_take_J133
                  unfold m_x1_take_J140
                  exact ih44 x3 x7 x7 x6 (x7 + 1) s49 hRs49 (by show x3 = p0; have : (0 : Int) ≤ gI s8 1060 ∧ gI s8 1060 ≤ 48 := hRs8.1 1060; have : (0 : Int) ≤ gI s 1060 ∧ gI s 1060 ≤ 48 := hRs.1 1060; omega) (by show x7 = -1 ∨ (0 ≤ x7 ∧ x7 < gI s 1060 ∧ gA s 54 x7.toNat = 0 ∧ gA s 55 x7.toNat = 0); have : (0 : Int) ≤ gI s8 1060 ∧ gI s8 1060 ≤ 48 := hRs8.1 1060; have : (0 : Int) ≤ gI s 1060 ∧ gI s 1060 ≤ 48 := hRs.1 1060; omega) (by show R2 x7; have : (0 : Int) ≤ gI s8 1060 ∧ gI s8 1060 ≤ 48 := hRs8.1 1060; have : (0 : Int) ≤ gI s 1060 ∧ gI s 1060 ≤ 48 := hRs.1 1060; omega) (by show x6 = 0 ∨ x6 = 1; have : (0 : Int) ≤ gI s8 1060 ∧ gI s8 1060 ≤ 48 := hRs8.1 1060; have : (0 : Int) ≤ gI s 1060 ∧ gI s 1060 ≤ 48 := hRs.1 1060; omega) (by show 0 ≤ (x7 + 1) ∧ (x7 + 1) ≤ 48; have : (0 : Int) ≤ gI s8 1060 ∧ gI s8 1060 ≤ 48 := hRs8.1 1060; have : (0 : Int) ≤ gI s 1060 ∧ gI s 1060 ≤ 48 := hRs.1 1060; omega) (by show gI s49 1060 = gI s 1060; have : (0 : Int) ≤ gI s8 1060 ∧ gI s8 1060 ≤ 48 := hRs8.1 1060; have : (0 : Int) ≤ gI s 1060 ∧ gI s 1060 ≤ 48 := hRs.1 1060; have : gI s49 1060 = gI s8 1060 := q_Ii es49 (by decide); omega) (by show x6 ≤ 1; have : (0 : Int) ≤ gI s8 1060 ∧ gI s8 1060 ≤ 48 := hRs8.1 1060; have : (0 : Int) ≤ gI s 1060 ∧ gI s 1060 ≤ 48 := hRs.1 1060; omega) (((q_Ia es49 : gA s49 54 = gA s8 54)).trans hv44_7) (((q_Ia es49 : gA s49 55 = gA s8 55)).trans hv44_8) (((q_Ia es49 : gA s49 56 = gA s8 56)).trans hv44_9) (((q_Ia es49 : gA s49 57 = gA s8 57)).trans hv44_10) (by have : (0 : Int) ≤ gI s8 1060 ∧ gI s8 1060 ≤ 48 := hRs8.1 1060; have : (0 : Int) ≤ gI s 1060 ∧ gI s 1060 ≤ 48 := hRs.1 1060; omega)
            · skip
              refine wp_rdIn (by have : (0 : Int) ≤ gI s8 1060 ∧ gI s8 1060 ≤ 48 := hRs8.1 1060; have : (0 : Int) ≤ gI s 1060 ∧ gI s 1060 ≤ 48 := hRs.1 1060; omega) (fun y52 ey52 => ?_)
              have by52 : (-2147483648 : Int) ≤ y52 ∧ y52 ≤ 2147483647 := ey52 ▸ hRs49.2.1 35 _ (by show _ < 3; have : (0 : Int) ≤ gI s8 1060 ∧ gI s8 1060 ≤ 48 := hRs8.1 1060; have : (0 : Int) ≤ gI s 1060 ∧ gI s 1060 ≤ 48 := hRs.1 1060; omega)
              refine wp_rdIn (by have : (0 : Int) ≤ gI s8 1060 ∧ gI s8 1060 ≤ 48 := hRs8.1 1060; have : (0 : Int) ≤ gI s 1060 ∧ gI s 1060 ≤ 48 := hRs.1 1060; omega) (fun y53 ey53 => ?_)
              have by53 : (-2147483648 : Int) ≤ y53 ∧ y53 ≤ 2147483647 := ey53 ▸ hRs49.2.1 36 _ (by show _ < 3; have : (0 : Int) ≤ gI s8 1060 ∧ gI s8 1060 ≤ 48 := hRs8.1 1060; have : (0 : Int) ≤ gI s 1060 ∧ gI s 1060 ≤ 48 := hRs.1 1060; omega)
              refine wp_bn (w_x3_value hRs49 (by show R2 y52; have : (0 : Int) ≤ gI s8 1060 ∧ gI s8 1060 ≤ 48 := hRs8.1 1060; have : (0 : Int) ≤ gI s 1060 ∧ gI s 1060 ≤ 48 := hRs.1 1060; omega) (by show R2 y53; have : (0 : Int) ≤ gI s8 1060 ∧ gI s8 1060 ≤ 48 := hRs8.1 1060; have : (0 : Int) ≤ gI s 1060 ∧ gI s 1060 ≤ 48 := hRs.1 1060; omega)) (fun qqr56 eqr56s hqr56s => ?_)
              obtain ⟨qr56r, qr56s⟩ := qqr56
              dsimp only at eqr56s hqr56s ⊢
              have Fqr56s := fr_x3_value eqr56s
              obtain ⟨hRqr56s, hqr56s_0⟩ := hqr56s
              have hqr56s_0 : (-1000000) ≤ qr56r ∧ qr56r ≤ 1000001 := hqr56s_0
              unfold m_x1_take_J119
              refine wp_rg (by have : (0 : Int) ≤ gI s8 1060 ∧ gI s8 1060 ≤ 48 := hRs8.1 1060; have : (0 : Int) ≤ gI s 1060 ∧ gI s 1060 ≤ 48 := hRs.1 1060; omega) ?_
              refine wp_if (fun c16 => ?_) (fun c16 => ?_)
              · skip
                unfold m_x1_take_J133
                unfold m_x1_take_J140
                exact ih44 x3 x7 qr56r x6 (x7 + 1) qr56s hRqr56s (by show x3 = p0; have : (0 : Int) ≤ gI s8 1060 ∧ gI s8 1060 ≤ 48 := hRs8.1 1060; have : (0 : Int) ≤ gI s 1060 ∧ gI s 1060 ≤ 48 := hRs.1 1060; omega) (by show x7 = -1 ∨ (0 ≤ x7 ∧ x7 < gI s 1060 ∧ gA s 54 x7.toNat = 0 ∧ gA s 55 x7.toNat = 0); have : (0 : Int) ≤ gI s8 1060 ∧ gI s8 1060 ≤ 48 := hRs8.1 1060; have : (0 : Int) ≤ gI s 1060 ∧ gI s 1060 ≤ 48 := hRs.1 1060; omega) (by show R2 qr56r; have : (0 : Int) ≤ gI s8 1060 ∧ gI s8 1060 ≤ 48 := hRs8.1 1060; have : (0 : Int) ≤ gI s 1060 ∧ gI s 1060 ≤ 48 := hRs.1 1060; omega) (by show x6 = 0 ∨ x6 = 1; have : (0 : Int) ≤ gI s8 1060 ∧ gI s8 1060 ≤ 48 := hRs8.1 1060; have : (0 : Int) ≤ gI s 1060 ∧ gI s 1060 ≤ 48 := hRs.1 1060; omega) (by show 0 ≤ (x7 + 1) ∧ (x7 + 1) ≤ 48; have : (0 : Int) ≤ gI s8 1060 ∧ gI s8 1060 ≤ 48 := hRs8.1 1060; have : (0 : Int) ≤ gI s 1060 ∧ gI s 1060 ≤ 48 := hRs.1 1060; omega) (by show gI qr56s 1060 = gI s 1060; have : (0 : Int) ≤ gI s8 1060 ∧ gI s8 1060 ≤ 48 := hRs8.1 1060; have : (0 : Int) ≤ gI s 1060 ∧ gI s 1060 ≤ 48 := hRs.1 1060; have : gI qr56s 1060 = gI s49 1060 := Fqr56s.1 1060 (by decide); have : gI s49 1060 = gI s8 1060 := q_Ii es49 (by decide); omega) (by show x6 ≤ 1; have : (0 : Int) ≤ gI s8 1060 ∧ gI s8 1060 ≤ 48 := hRs8.1 1060; have : (0 : Int) ≤ gI s 1060 ∧ gI s 1060 ≤ 48 := hRs.1 1060; omega) ((((Fqr56s.2.1 54 (by decide)).trans (q_Ia es49 : gA s49 54 = gA s8 54))).trans hv44_7) ((((Fqr56s.2.1 55 (by decide)).trans (q_Ia es49 : gA s49 55 = gA s8 55))).trans hv44_8) ((((Fqr56s.2.1 56 (by decide)).trans (q_Ia es49 : gA s49 56 = gA s8 56))).trans hv44_9) ((((Fqr56s.2.1 57 (by decide)).trans (q_Ia es49 : gA s49 57 = gA s8 57))).trans hv44_10) (by have : (0 : Int) ≤ gI s8 1060 ∧ gI s8 1060 ≤ 48 := hRs8.1 1060; have : (0 : Int) ≤ gI s 1060 ∧ gI s 1060 ≤ 48 := hRs.1 1060; omega)
              · skip
                refine wp_rg (by have : (0 : Int) ≤ gI s8 1060 ∧ gI s8 1060 ≤ 48 := hRs8.1 1060; have : (0 : Int) ≤ gI s 1060 ∧ gI s 1060 ≤ 48 := hRs.1 1060; omega) ?_
                refine wp_rg (by have : (0 : Int) ≤ gI s8 1060 ∧ gI s8 1060 ≤ 48 := hRs8.1 1060; have : (0 : Int) ≤ gI s 1060 ∧ gI s 1060 ≤ 48 := hRs.1 1060; omega) ?_
                refine wp_if (fun c17 => ?_) (fun c17 => ?_)
                · skip
                  unfold m_x1_take_J140
                  exact ih44 x3 x4 x5 x6 (x7 + 1) qr56s hRqr56s (by show x3 = p0; have : (0 : Int) ≤ gI s8 1060 ∧ gI s8 1060 ≤ 48 := hRs8.1 1060; have : (0 : Int) ≤ gI s 1060 ∧ gI s 1060 ≤ 48 := hRs.1 1060; omega) (by show x4 = -1 ∨ (0 ≤ x4 ∧ x4 < gI s 1060 ∧ gA s 54 x4.toNat = 0 ∧ gA s 55 x4.toNat = 0); have : (0 : Int) ≤ gI s8 1060 ∧ gI s8 1060 ≤ 48 := hRs8.1 1060; have : (0 : Int) ≤ gI s 1060 ∧ gI s 1060 ≤ 48 := hRs.1 1060; omega) (by show R2 x5; have : (0 : Int) ≤ gI s8 1060 ∧ gI s8 1060 ≤ 48 := hRs8.1 1060; have : (0 : Int) ≤ gI s 1060 ∧ gI s 1060 ≤ 48 := hRs.1 1060; omega) (by show x6 = 0 ∨ x6 = 1; have : (0 : Int) ≤ gI s8 1060 ∧ gI s8 1060 ≤ 48 := hRs8.1 1060; have : (0 : Int) ≤ gI s 1060 ∧ gI s 1060 ≤ 48 := hRs.1 1060; omega) (by show 0 ≤ (x7 + 1) ∧ (x7 + 1) ≤ 48; have : (0 : Int) ≤ gI s8 1060 ∧ gI s8 1060 ≤ 48 := hRs8.1 1060; have : (0 : Int) ≤ gI s 1060 ∧ gI s 1060 ≤ 48 := hRs.1 1060; omega) (by show gI qr56s 1060 = gI s 1060; have : (0 : Int) ≤ gI s8 1060 ∧ gI s8 1060 ≤ 48 := hRs8.1 1060; have : (0 : Int) ≤ gI s 1060 ∧ gI s 1060 ≤ 48 := hRs.1 1060; have : gI qr56s 1060 = gI s49 1060 := Fqr56s.1 1060 (by decide); have : gI s49 1060 = gI s8 1060 := q_Ii es49 (by decide); omega) (by show x6 ≤ 1; have : (0 : Int) ≤ gI s8 1060 ∧ gI s8 1060 ≤ 48 := hRs8.1 1060; have : (0 : Int) ≤ gI s 1060 ∧ gI s 1060 ≤ 48 := hRs.1 1060; omega) ((((Fqr56s.2.1 54 (by decide)).trans (q_Ia es49 : gA s49 54 = gA s8 54))).trans hv44_7) ((((Fqr56s.2.1 55 (by decide)).trans (q_Ia es49 : gA s49 55 = gA s8 55))).trans hv44_8) ((((Fqr56s.2.1 56 (by decide)).trans (q_Ia es49 : gA s49 56 = gA s8 56))).trans hv44_9) ((((Fqr56s.2.1 57 (by decide)).trans (q_Ia es49 : gA s49 57 = gA s8 57))).trans hv44_10) (by have : (0 : Int) ≤ gI s8 1060 ∧ gI s8 1060 ≤ 48 := hRs8.1 1060; have : (0 : Int) ≤ gI s 1060 ∧ gI s 1060 ≤ 48 := hRs.1 1060; omega)
                · skip
                  unfold m_x1_take_J133
                  unfold m_x1_take_J140
                  exact ih44 x3 x7 qr56r x6 (x7 + 1) qr56s hRqr56s (by show x3 = p0; have : (0 : Int) ≤ gI s8 1060 ∧ gI s8 1060 ≤ 48 := hRs8.1 1060; have : (0 : Int) ≤ gI s 1060 ∧ gI s 1060 ≤ 48 := hRs.1 1060; omega) (by show x7 = -1 ∨ (0 ≤ x7 ∧ x7 < gI s 1060 ∧ gA s 54 x7.toNat = 0 ∧ gA s 55 x7.toNat = 0); have : (0 : Int) ≤ gI s8 1060 ∧ gI s8 1060 ≤ 48 := hRs8.1 1060; have : (0 : Int) ≤ gI s 1060 ∧ gI s 1060 ≤ 48 := hRs.1 1060; omega) (by show R2 qr56r; have : (0 : Int) ≤ gI s8 1060 ∧ gI s8 1060 ≤ 48 := hRs8.1 1060; have : (0 : Int) ≤ gI s 1060 ∧ gI s 1060 ≤ 48 := hRs.1 1060; omega) (by show x6 = 0 ∨ x6 = 1; have : (0 : Int) ≤ gI s8 1060 ∧ gI s8 1060 ≤ 48 := hRs8.1 1060; have : (0 : Int) ≤ gI s 1060 ∧ gI s 1060 ≤ 48 := hRs.1 1060; omega) (by show 0 ≤ (x7 + 1) ∧ (x7 + 1) ≤ 48; have : (0 : Int) ≤ gI s8 1060 ∧ gI s8 1060 ≤ 48 := hRs8.1 1060; have : (0 : Int) ≤ gI s 1060 ∧ gI s 1060 ≤ 48 := hRs.1 1060; omega) (by show gI qr56s 1060 = gI s 1060; have : (0 : Int) ≤ gI s8 1060 ∧ gI s8 1060 ≤ 48 := hRs8.1 1060; have : (0 : Int) ≤ gI s 1060 ∧ gI s 1060 ≤ 48 := hRs.1 1060; have : gI qr56s 1060 = gI s49 1060 := Fqr56s.1 1060 (by decide); have : gI s49 1060 = gI s8 1060 := q_Ii es49 (by decide); omega) (by show x6 ≤ 1; have : (0 : Int) ≤ gI s8 1060 ∧ gI s8 1060 ≤ 48 := hRs8.1 1060; have : (0 : Int) ≤ gI s 1060 ∧ gI s 1060 ≤ 48 := hRs.1 1060; omega) ((((Fqr56s.2.1 54 (by decide)).trans (q_Ia es49 : gA s49 54 = gA s8 54))).trans hv44_7) ((((Fqr56s.2.1 55 (by decide)).trans (q_Ia es49 : gA s49 55 = gA s8 55))).trans hv44_8) ((((Fqr56s.2.1 56 (by decide)).trans (q_Ia es49 : gA s49 56 = gA s8 56))).trans hv44_9) ((((Fqr56s.2.1 57 (by decide)).trans (q_Ia es49 : gA s49 57 = gA s8 57))).trans hv44_10) (by have : (0 : Int) ≤ gI s8 1060 ∧ gI s8 1060 ≤ 48 := hRs8.1 1060; have : (0 : Int) ≤ gI s 1060 ∧ gI s 1060 ≤ 48 := hRs.1 1060; omega)
    exact L44 FU p0 (-1) 0 1 0 s64 hRs64 (by show p0 = p0; omega) (by show (-1 : Int) = -1 ∨ (0 ≤ (-1 : Int) ∧ (-1 : Int) < gI s 1060 ∧ gA s 54 (-1 : Int).toNat = 0 ∧ gA s 55 (-1 : Int).toNat = 0); have : (0 : Int) ≤ gI s 1060 ∧ gI s 1060 ≤ 48 := hRs.1 1060; omega) (by show R2 (0 : Int); omega) (by show (1 : Int) = 0 ∨ (1 : Int) = 1; omega) (by show 0 ≤ (0 : Int) ∧ (0 : Int) ≤ 48; omega) (by show gI s64 1060 = gI s 1060; have : (0 : Int) ≤ gI s 1060 ∧ gI s 1060 ≤ 48 := hRs.1 1060; have : gI s64 1060 = gI s63 1060 := q_Ii es64 (by decide); have : gI s63 1060 = gI s 1060 := q_Ii es63 (by decide); omega) (by show (1 : Int) ≤ 1; omega) (((q_Ia es64 : gA s64 54 = gA s63 54).trans (q_Ia es63 : gA s63 54 = gA s 54))) (((q_Ia es64 : gA s64 55 = gA s63 55).trans (q_Ia es63 : gA s63 55 = gA s 55))) (((q_Ia es64 : gA s64 56 = gA s63 56).trans (q_Ia es63 : gA s63 56 = gA s 56))) (((q_Ia es64 : gA s64 57 = gA s63 57).trans (q_Ia es63 : gA s63 57 = gA s 57))) (by have := FU_big; have := FU_big2; omega)
set_option maxHeartbeats 1000000 in
theorem w_x1_layEntries {p0 : Int} {p1 : Int} {p2 : Int} {s : MS} (hRs : Rg s) (hp0 : 0 ≤ p0 ∧ p0 < 48) (hp1 : 0 ≤ p2 ∧ p2 < 48) (hp2 : 0 ≤ p1 ∧ p1 ≤ gA s 57 p0.toNat ∧ gA s 57 p0.toNat ≤ 6) : wp (m_x1_layEntries p0 p1 p2 s) (fun o => (Rg o) ∧ (gA o 57 = upZ (gA s 57) p2.toNat (gA s 57 p0.toNat - p1)) ∧ (gA o 58 = va_cpy (gA s 58) (gA s 58) (6 * p0.toNat + p1.toNat) (6 * p2.toNat) (gA s 57 p0.toNat - p1).toNat) ∧ (gA o 59 = va_cpy (gA s 59) (gA s 59) (6 * p0.toNat + p1.toNat) (6 * p2.toNat) (gA s 57 p0.toNat - p1).toNat)) := by
  unfold m_x1_layEntries
  refine wp_rdIn (by omega) (fun y1 ey1 => ?_)
  have by1 : (-1 : Int) ≤ y1 ∧ y1 ≤ 255 := ey1 ▸ hRs.2.1 57 _ (by show _ < 48; omega)
  refine wp_bn (w_x8_slot hRs) (fun r3 er3 hr3 => ?_)
  have hr3_0 := hr3
  have hr3_0 : r3 = p0 * 6 + p1 := hr3_0
  refine wp_bn (w_x8_slot hRs) (fun r5 er5 hr5 => ?_)
  have hr5_0 := hr5
  have hr5_0 : r5 = p2 * 6 + (0 : Int) := hr5_0
  refine wp_cpg (by omega) ?_
  refine wp_stn (fun s7 es7 => ?_)
  have hRs7 : Rg s7 := es7 ▸ Rg.cpy hRs (Int.le_refl _) (Int.le_refl _) (by show _ ≤ 288; omega)
  refine wp_bn (w_x8_slot hRs7) (fun r9 er9 hr9 => ?_)
  have hr9_0 := hr9
  have hr9_0 : r9 = p0 * 6 + p1 := hr9_0
  refine wp_bn (w_x8_slot hRs7) (fun r11 er11 hr11 => ?_)
  have hr11_0 := hr11
  have hr11_0 : r11 = p2 * 6 + (0 : Int) := hr11_0
  refine wp_cpg (by omega) ?_
  refine wp_stn (fun s13 es13 => ?_)
  have hRs13 : Rg s13 := es13 ▸ Rg.cpy hRs7 (Int.le_refl _) (Int.le_refl _) (by show _ ≤ 288; omega)
  refine wp_inb (by omega) ?_
  refine wp_stn (fun s15 es15 => ?_)
  have hRs15 : Rg s15 := es15 ▸ Rg.uAu hRs13 (by show (-1 : Int) ≤ (y1 - p1) ∧ (y1 - p1) ≤ 255; omega)
  exact wp_some ⟨hRs15, by rw [q_AA es15, ((q_Aa es13 (by decide) : gA s13 57 = gA s7 57).trans (q_Aa es7 (by decide) : gA s7 57 = gA s 57)), ← ey1], by rw [((q_Aa es15 (by decide) : gA s15 58 = gA s13 58).trans (q_Aa es13 (by decide) : gA s13 58 = gA s7 58)), q_AA es7, ey1, show r3.toNat = 6 * p0.toNat + p1.toNat by omega, show r5.toNat = 6 * p2.toNat by omega], by rw [(q_Aa es15 (by decide) : gA s15 59 = gA s13 59), q_AA es13, (q_Aa es7 (by decide) : gA s7 59 = gA s 59), ey1, show r9.toNat = 6 * p0.toNat + p1.toNat by omega, show r11.toNat = 6 * p2.toNat by omega]⟩
set_option maxHeartbeats 1000000 in
theorem w_x1_splits {p0 : Int} {s : MS} (hRs : Rg s) (hp0 : 0 ≤ p0 ∧ p0 < 48) : wp (m_x1_splits p0 s) (fun q => (Rg q.2) ∧ ((q.1 = 0 ∧ gA s 57 p0.toNat < gI s 581) ∨ (q.1 = 1 ∧ (gI s 581 ≤ gA s 57 p0.toNat ∨ 2 ≤ gA s 57 p0.toNat)))) := by
  unfold m_x1_splits
  refine wp_rdIn (by omega) (fun y5 ey5 => ?_)
  have by5 : (-1 : Int) ≤ y5 ∧ y5 ≤ 255 := ey5 ▸ hRs.2.1 57 _ (by show _ < 48; omega)
  refine wp_rg (by omega) ?_
  refine wp_rg (by have : (0 : Int) ≤ gI s 581 ∧ gI s 581 ≤ 6 := hRs.1 581; omega) ?_
  refine wp_if (fun c1 => ?_) (fun c1 => ?_)
  · skip
    refine wp_rdIn (by have : (0 : Int) ≤ gI s 581 ∧ gI s 581 ≤ 6 := hRs.1 581; omega) (fun y9 ey9 => ?_)
    have by9 : (-1 : Int) ≤ y9 ∧ y9 ≤ 255 := ey9 ▸ hRs.2.1 57 _ (by show _ < 48; have : (0 : Int) ≤ gI s 581 ∧ gI s 581 ≤ 6 := hRs.1 581; omega)
    refine wp_rg (by have : (0 : Int) ≤ gI s 581 ∧ gI s 581 ≤ 6 := hRs.1 581; omega) ?_
    refine wp_if (fun c2 => ?_) (fun c2 => ?_)
    · skip
      unfold m_x1_splits_J47
      exact wp_some ⟨hRs, by show ((0 : Int) = 0 ∧ gA s 57 p0.toNat < gI s 581) ∨ ((0 : Int) = 1 ∧ (gI s 581 ≤ gA s 57 p0.toNat ∨ 2 ≤ gA s 57 p0.toNat)); have : (0 : Int) ≤ gI s 581 ∧ gI s 581 ≤ 6 := hRs.1 581; omega⟩
    · skip
      refine wp_rdIn (by have : (0 : Int) ≤ gI s 581 ∧ gI s 581 ≤ 6 := hRs.1 581; omega) (fun y12 ey12 => ?_)
      have by12 : (-2147483648 : Int) ≤ y12 ∧ y12 ≤ 2147483647 := ey12 ▸ hRs.2.1 35 _ (by show _ < 3; have : (0 : Int) ≤ gI s 581 ∧ gI s 581 ≤ 6 := hRs.1 581; omega)
      refine wp_rg (by have : (0 : Int) ≤ gI s 581 ∧ gI s 581 ≤ 6 := hRs.1 581; omega) ?_
      refine wp_if (fun c3 => ?_) (fun c3 => ?_)
      · skip
        unfold m_x1_splits_J47
        exact wp_some ⟨hRs, by show ((0 : Int) = 0 ∧ gA s 57 p0.toNat < gI s 581) ∨ ((0 : Int) = 1 ∧ (gI s 581 ≤ gA s 57 p0.toNat ∨ 2 ≤ gA s 57 p0.toNat)); have : (0 : Int) ≤ gI s 581 ∧ gI s 581 ≤ 6 := hRs.1 581; omega⟩
      · skip
        refine wp_rdIn (by have : (0 : Int) ≤ gI s 581 ∧ gI s 581 ≤ 6 := hRs.1 581; omega) (fun y15 ey15 => ?_)
        have by15 : (-1 : Int) ≤ y15 ∧ y15 ≤ 1000 := ey15 ▸ hRs.2.1 56 _ (by show _ < 48; have : (0 : Int) ≤ gI s 581 ∧ gI s 581 ≤ 6 := hRs.1 581; omega)
        refine wp_stn (fun s16 es16 => ?_)
        have hRs16 : Rg s16 := es16 ▸ Rg.uI hRs (by show (-1000000 : Int) ≤ y15 ∧ y15 ≤ 1000000; have : (0 : Int) ≤ gI s 581 ∧ gI s 581 ≤ 6 := hRs.1 581; omega)
        refine wp_rdIn (by have : (0 : Int) ≤ gI s 581 ∧ gI s 581 ≤ 6 := hRs.1 581; omega) (fun y17 ey17 => ?_)
        have by17 : (-1 : Int) ≤ y17 ∧ y17 ≤ 255 := ey17 ▸ hRs16.2.1 57 _ (by show _ < 48; have : (0 : Int) ≤ gI s 581 ∧ gI s 581 ≤ 6 := hRs.1 581; omega)
        refine wp_stn (fun s18 es18 => ?_)
        have hRs18 : Rg s18 := es18 ▸ Rg.uI hRs16 (by show (-1000000 : Int) ≤ y17 ∧ y17 ≤ 1000000; have : (0 : Int) ≤ gI s 581 ∧ gI s 581 ≤ 6 := hRs.1 581; omega)
        refine wp_rdIn (by have : (0 : Int) ≤ gI s 581 ∧ gI s 581 ≤ 6 := hRs.1 581; omega) (fun y19 ey19 => ?_)
        have by19 : (-2147483648 : Int) ≤ y19 ∧ y19 ≤ 2147483647 := ey19 ▸ hRs18.2.1 35 _ (by show _ < 3; have : (0 : Int) ≤ gI s 581 ∧ gI s 581 ≤ 6 := hRs.1 581; omega)
        refine wp_rdIn (by have : (0 : Int) ≤ gI s 581 ∧ gI s 581 ≤ 6 := hRs.1 581; omega) (fun y20 ey20 => ?_)
        have by20 : (-2147483648 : Int) ≤ y20 ∧ y20 ≤ 2147483647 := ey20 ▸ hRs18.2.1 36 _ (by show _ < 3; have : (0 : Int) ≤ gI s 581 ∧ gI s 581 ≤ 6 := hRs.1 581; omega)
        refine wp_bn (w_x3_value hRs18 (by show R2 y19; have : (0 : Int) ≤ gI s 581 ∧ gI s 581 ≤ 6 := hRs.1 581; omega) (by show R2 y20; have : (0 : Int) ≤ gI s 581 ∧ gI s 581 ≤ 6 := hRs.1 581; omega)) (fun qqr23 eqr23s hqr23s => ?_)
        obtain ⟨qr23r, qr23s⟩ := qqr23
        dsimp only at eqr23s hqr23s ⊢
        have Fqr23s := fr_x3_value eqr23s
        obtain ⟨hRqr23s, hqr23s_0⟩ := hqr23s
        have hqr23s_0 : (-1000000) ≤ qr23r ∧ qr23r ≤ 1000001 := hqr23s_0
        refine wp_rg (by have : (0 : Int) ≤ gI s 581 ∧ gI s 581 ≤ 6 := hRs.1 581; omega) ?_
        refine wp_if (fun c4 => ?_) (fun c4 => ?_)
        · skip
          unfold m_x1_splits_J121
          refine wp_bo (by have : (0 : Int) ≤ gI s 581 ∧ gI s 581 ≤ 6 := hRs.1 581; omega) ?_
          exact wp_some ⟨hRqr23s, by show ((0 : Int) = 0 ∧ gA s 57 p0.toNat < gI s 581) ∨ ((0 : Int) = 1 ∧ (gI s 581 ≤ gA s 57 p0.toNat ∨ 2 ≤ gA s 57 p0.toNat)); have : (0 : Int) ≤ gI s 581 ∧ gI s 581 ≤ 6 := hRs.1 581; omega⟩
        · skip
          unfold m_x1_splits_J121
          refine wp_bo (by have : (0 : Int) ≤ gI s 581 ∧ gI s 581 ≤ 6 := hRs.1 581; omega) ?_
          exact wp_some ⟨hRqr23s, by show ((1 : Int) = 0 ∧ gA s 57 p0.toNat < gI s 581) ∨ ((1 : Int) = 1 ∧ (gI s 581 ≤ gA s 57 p0.toNat ∨ 2 ≤ gA s 57 p0.toNat)); have : (0 : Int) ≤ gI s 581 ∧ gI s 581 ≤ 6 := hRs.1 581; omega⟩
  · skip
    exact wp_some ⟨hRs, by show ((1 : Int) = 0 ∧ gA s 57 p0.toNat < gI s 581) ∨ ((1 : Int) = 1 ∧ (gI s 581 ≤ gA s 57 p0.toNat ∨ 2 ≤ gA s 57 p0.toNat)); have : (0 : Int) ≤ gI s 581 ∧ gI s 581 ≤ 6 := hRs.1 581; omega⟩
set_option maxHeartbeats 1000000 in
theorem w_x1_isWritten {p0 : Int} {s : MS} (hRs : Rg s) (hp0 : R2 p0) : wp (m_x1_isWritten p0 s) (fun r => ((r = 0) ∨ (r = 1 ∧ 0 ≤ p0 ∧ p0 < gI s 1060))) := by
  unfold m_x1_isWritten
  refine wp_bn (w_x8_inUse hRs (by show R2 p0; omega)) (fun r4 er4 hr4 => ?_)
  have hr4_0 := hr4
  have hr4_0 : (r4 = 1 ∧ 0 ≤ p0 ∧ p0 < gI s 1060 ∧ 0 < gA s 54 p0.toNat) ∨ (r4 = 0 ∧ (p0 < 0 ∨ gI s 1060 ≤ p0 ∨ ¬ (0 < gA s 54 p0.toNat))) := hr4_0
  refine wp_rg (by have : (0 : Int) ≤ gI s 1060 ∧ gI s 1060 ≤ 48 := hRs.1 1060; omega) ?_
  refine wp_if (fun c1 => ?_) (fun c1 => ?_)
  · skip
    unfold m_x1_isWritten_J31
    unfold m_x1_isWritten_J32
    refine wp_bo (by have : (0 : Int) ≤ gI s 1060 ∧ gI s 1060 ≤ 48 := hRs.1 1060; omega) ?_
    exact wp_some (by show ((0 : Int) = 0) ∨ ((0 : Int) = 1 ∧ 0 ≤ p0 ∧ p0 < gI s 1060); have : (0 : Int) ≤ gI s 1060 ∧ gI s 1060 ≤ 48 := hRs.1 1060; omega)
  · skip
    refine wp_rgL (R8_and _ _) ?_
    refine wp_if (fun c2 => ?_) (fun c2 => ?_)
    · skip
      unfold m_x1_isWritten_J31
      unfold m_x1_isWritten_J32
      refine wp_bo (by have : (0 : Int) ≤ gI s 1060 ∧ gI s 1060 ≤ 48 := hRs.1 1060; omega) ?_
      exact wp_some (by show ((0 : Int) = 0) ∨ ((0 : Int) = 1 ∧ 0 ≤ p0 ∧ p0 < gI s 1060); have : (0 : Int) ≤ gI s 1060 ∧ gI s 1060 ≤ 48 := hRs.1 1060; omega)
    · skip
      unfold m_x1_isWritten_J32
      refine wp_bo (by have : (0 : Int) ≤ gI s 1060 ∧ gI s 1060 ≤ 48 := hRs.1 1060; omega) ?_
      exact wp_some (by show ((1 : Int) = 0) ∨ ((1 : Int) = 1 ∧ 0 ≤ p0 ∧ p0 < gI s 1060); have : (0 : Int) ≤ gI s 1060 ∧ gI s 1060 ≤ 48 := hRs.1 1060; omega)
set_option maxHeartbeats 1000000 in
theorem w_x1_costOf {p0 : Int} {s : MS} (hRs : Rg s) (hp0 : 0 ≤ p0 ∧ p0 < 48) : wp (m_x1_costOf p0 s) (fun q => (Rg q.2) ∧ ((-1000000) ≤ q.1 ∧ q.1 ≤ 1000001)) := by
  unfold m_x1_costOf
  refine wp_rdIn (by omega) (fun y1 ey1 => ?_)
  have by1 : (-2147483648 : Int) ≤ y1 ∧ y1 ≤ 2147483647 := ey1 ▸ hRs.2.1 35 _ (by show _ < 3; omega)
  refine wp_rg (by omega) ?_
  refine wp_if (fun c1 => ?_) (fun c1 => ?_)
  · skip
    exact wp_some ⟨hRs, by show (-1000000) ≤ (1 : Int) ∧ (1 : Int) ≤ 1000001; omega⟩
  · skip
    refine wp_stn (fun s4 es4 => ?_)
    have hRs4 : Rg s4 := es4 ▸ Rg.uI hRs (by show (-1000000 : Int) ≤ p0 ∧ p0 ≤ 1000000; omega)
    refine wp_rdIn (by omega) (fun y5 ey5 => ?_)
    have by5 : (-1 : Int) ≤ y5 ∧ y5 ≤ 1000 := ey5 ▸ hRs4.2.1 56 _ (by show _ < 48; omega)
    refine wp_stn (fun s6 es6 => ?_)
    have hRs6 : Rg s6 := es6 ▸ Rg.uI hRs4 (by show (-1000000 : Int) ≤ y5 ∧ y5 ≤ 1000000; omega)
    refine wp_rdIn (by omega) (fun y7 ey7 => ?_)
    have by7 : (-1 : Int) ≤ y7 ∧ y7 ≤ 255 := ey7 ▸ hRs6.2.1 57 _ (by show _ < 48; omega)
    refine wp_stn (fun s8 es8 => ?_)
    have hRs8 : Rg s8 := es8 ▸ Rg.uI hRs6 (by show (-1000000 : Int) ≤ y7 ∧ y7 ≤ 1000000; omega)
    refine wp_rdIn (by omega) (fun y9 ey9 => ?_)
    have by9 : (-2147483648 : Int) ≤ y9 ∧ y9 ≤ 2147483647 := ey9 ▸ hRs8.2.1 35 _ (by show _ < 3; omega)
    refine wp_rdIn (by omega) (fun y10 ey10 => ?_)
    have by10 : (-2147483648 : Int) ≤ y10 ∧ y10 ≤ 2147483647 := ey10 ▸ hRs8.2.1 36 _ (by show _ < 3; omega)
    refine wp_bn (w_x3_value hRs8 (by show R2 y9; omega) (by show R2 y10; omega)) (fun qqr13 eqr13s hqr13s => ?_)
    obtain ⟨qr13r, qr13s⟩ := qqr13
    dsimp only at eqr13s hqr13s ⊢
    have Fqr13s := fr_x3_value eqr13s
    obtain ⟨hRqr13s, hqr13s_0⟩ := hqr13s
    have hqr13s_0 : (-1000000) ≤ qr13r ∧ qr13r ≤ 1000001 := hqr13s_0
    exact wp_some ⟨hRqr13s, by show (-1000000) ≤ qr13r ∧ qr13r ≤ 1000001; omega⟩
set_option maxHeartbeats 1000000 in
theorem w_x1_wrote {s : MS} (hRs : Rg s) : wp (m_x1_wrote s) (fun r => (0 ≤ r ∧ r ≤ 48)) := by
  unfold m_x1_wrote
  have L4 : ∀ (n : Nat) (x1 : Int) (x2 : Int), (0 ≤ x1 ∧ x1 ≤ x2 ∧ x2 ≤ 48) → (48 - x2) < (n : Int) → wp (m_x1_wrote_L4 s n x1 x2) (fun r => (0 ≤ r ∧ r ≤ 48)) := by
    refine fr_ind (fun x1 x2 hv4_0 hm4 => ?_) (fun n4 ih4 x1 x2 hv4_0 hm4 => ?_)
    · exfalso; omega
    · show wp (m_x1_wrote_b4 s (m_x1_wrote_L4 s n4) x1 x2) _
      unfold m_x1_wrote_b4
      refine wp_rg (by omega) ?_
      refine wp_rg (by have : (0 : Int) ≤ gI s 1060 ∧ gI s 1060 ≤ 48 := hRs.1 1060; omega) ?_
      refine wp_if (fun c1 => ?_) (fun c1 => ?_)
      · skip
        exact wp_some (by show 0 ≤ x1 ∧ x1 ≤ 48; have : (0 : Int) ≤ gI s 1060 ∧ gI s 1060 ≤ 48 := hRs.1 1060; omega)
      · skip
        refine wp_bn (w_x1_isWritten hRs (by show R2 x2; have : (0 : Int) ≤ gI s 1060 ∧ gI s 1060 ≤ 48 := hRs.1 1060; omega)) (fun r10 er10 hr10 => ?_)
        have hr10_0 := hr10
        have hr10_0 : (r10 = 0) ∨ (r10 = 1 ∧ 0 ≤ x2 ∧ x2 < gI s 1060) := hr10_0
        refine wp_rg (by have : (0 : Int) ≤ gI s 1060 ∧ gI s 1060 ≤ 48 := hRs.1 1060; omega) ?_
        refine wp_if (fun c2 => ?_) (fun c2 => ?_)
        · skip
          unfold m_x1_wrote_J29
          exact ih4 (x1 + 0) (x2 + 1) (by show 0 ≤ (x1 + 0) ∧ (x1 + 0) ≤ (x2 + 1) ∧ (x2 + 1) ≤ 48; have : (0 : Int) ≤ gI s 1060 ∧ gI s 1060 ≤ 48 := hRs.1 1060; omega) (by have : (0 : Int) ≤ gI s 1060 ∧ gI s 1060 ≤ 48 := hRs.1 1060; omega)
        · skip
          unfold m_x1_wrote_J29
          exact ih4 (x1 + 1) (x2 + 1) (by show 0 ≤ (x1 + 1) ∧ (x1 + 1) ≤ (x2 + 1) ∧ (x2 + 1) ≤ 48; have : (0 : Int) ≤ gI s 1060 ∧ gI s 1060 ≤ 48 := hRs.1 1060; omega) (by have : (0 : Int) ≤ gI s 1060 ∧ gI s 1060 ≤ 48 := hRs.1 1060; omega)
  exact L4 FU 0 0 (by show 0 ≤ (0 : Int) ∧ (0 : Int) ≤ (0 : Int) ∧ (0 : Int) ≤ 48; omega) (by have := FU_big; have := FU_big2; omega)
set_option maxHeartbeats 1000000 in
theorem w_x1_price {s : MS} (hRs : Rg s) : wp (m_x1_price s) (fun q => (Rg q.2) ∧ (0 ≤ q.1 ∧ q.1 ≤ 4752)) := by
  unfold m_x1_price
  have L4 : ∀ (n : Nat) (x1 : Int) (x2 : Int) (s3 : MS), Rg s3 → (0 ≤ x2 ∧ x2 ≤ 48) → (0 ≤ x1 ∧ x1 ≤ 99 * x2) → (48 - x2) < (n : Int) → wp (m_x1_price_L4 n x1 x2 s3) (fun q => (Rg q.2) ∧ (0 ≤ q.1 ∧ q.1 ≤ 4752)) := by
    refine fr_ind (fun x1 x2 s3 hRs3 hv4_0 hv4_1 hm4 => ?_) (fun n4 ih4 x1 x2 s3 hRs3 hv4_0 hv4_1 hm4 => ?_)
    · exfalso; omega
    · show wp (m_x1_price_b4 (m_x1_price_L4 n4) x1 x2 s3) _
      unfold m_x1_price_b4
      refine wp_rg (by omega) ?_
      refine wp_rg (by have : (0 : Int) ≤ gI s3 1060 ∧ gI s3 1060 ≤ 48 := hRs3.1 1060; omega) ?_
      refine wp_if (fun c1 => ?_) (fun c1 => ?_)
      · skip
        exact wp_some ⟨hRs3, by show 0 ≤ x1 ∧ x1 ≤ 4752; have : (0 : Int) ≤ gI s3 1060 ∧ gI s3 1060 ≤ 48 := hRs3.1 1060; omega⟩
      · skip
        refine wp_bn (w_x1_isWritten hRs3 (by show R2 x2; have : (0 : Int) ≤ gI s3 1060 ∧ gI s3 1060 ≤ 48 := hRs3.1 1060; omega)) (fun r12 er12 hr12 => ?_)
        have hr12_0 := hr12
        have hr12_0 : (r12 = 0) ∨ (r12 = 1 ∧ 0 ≤ x2 ∧ x2 < gI s3 1060) := hr12_0
        refine wp_rg (by have : (0 : Int) ≤ gI s3 1060 ∧ gI s3 1060 ≤ 48 := hRs3.1 1060; omega) ?_
        refine wp_if (fun c2 => ?_) (fun c2 => ?_)
        · skip
          unfold m_x1_price_J42
          exact ih4 (x1 + 0) (x2 + 1) s3 hRs3 (by show 0 ≤ (x2 + 1) ∧ (x2 + 1) ≤ 48; have : (0 : Int) ≤ gI s3 1060 ∧ gI s3 1060 ≤ 48 := hRs3.1 1060; omega) (by show 0 ≤ (x1 + 0) ∧ (x1 + 0) ≤ 99 * (x2 + 1); have : (0 : Int) ≤ gI s3 1060 ∧ gI s3 1060 ≤ 48 := hRs3.1 1060; omega) (by have : (0 : Int) ≤ gI s3 1060 ∧ gI s3 1060 ≤ 48 := hRs3.1 1060; omega)
        · skip
          refine wp_bn (w_x1_costOf hRs3 (by show 0 ≤ x2 ∧ x2 < 48; have : (0 : Int) ≤ gI s3 1060 ∧ gI s3 1060 ≤ 48 := hRs3.1 1060; omega)) (fun qqr17 eqr17s hqr17s => ?_)
          obtain ⟨qr17r, qr17s⟩ := qqr17
          dsimp only at eqr17s hqr17s ⊢
          have Fqr17s := fr_x1_costOf eqr17s
          obtain ⟨hRqr17s, hqr17s_0⟩ := hqr17s
          have hqr17s_0 : (-1000000) ≤ qr17r ∧ qr17r ≤ 1000001 := hqr17s_0
          have mm := mm_b qr17r
          refine wp_rg (by have : (0 : Int) ≤ gI s3 1060 ∧ gI s3 1060 ≤ 48 := hRs3.1 1060; omega) ?_
          refine wp_rg (by have : (0 : Int) ≤ gI s3 1060 ∧ gI s3 1060 ≤ 48 := hRs3.1 1060; omega) ?_
          unfold m_x1_price_J42
          exact ih4 (x1 + (maxZ 0 (minZ 99 qr17r))) (x2 + 1) qr17s hRqr17s (by show 0 ≤ (x2 + 1) ∧ (x2 + 1) ≤ 48; have : (0 : Int) ≤ gI s3 1060 ∧ gI s3 1060 ≤ 48 := hRs3.1 1060; omega) (by show 0 ≤ (x1 + (maxZ 0 (minZ 99 qr17r))) ∧ (x1 + (maxZ 0 (minZ 99 qr17r))) ≤ 99 * (x2 + 1); have : (0 : Int) ≤ gI s3 1060 ∧ gI s3 1060 ≤ 48 := hRs3.1 1060; omega) (by have : (0 : Int) ≤ gI s3 1060 ∧ gI s3 1060 ≤ 48 := hRs3.1 1060; omega)
  exact L4 FU 0 0 s hRs (by show 0 ≤ (0 : Int) ∧ (0 : Int) ≤ 48; omega) (by show 0 ≤ (0 : Int) ∧ (0 : Int) ≤ 99 * (0 : Int); omega) (by have := FU_big; have := FU_big2; omega)
/-! ===== the class's trees ===== -/
theorem en_le (h : SH) (p : Nat) (x : Int) : en h p x ≤ 6 := by
  unfold en enf
  split
  · have := sm_bd (n := 6) (c := 1) (f := fun k : Nat => if (0 : Int) ≤ (k : Int) ∧ (k : Int) < h.2.1 p ∧ h.2.2 p k = x then (1 : Int) else 0) (fun k _ => by split <;> omega)
    omega
  · omega
theorem rf_le (h : SH) (c r : Nat → Int) (x : Int) : rf h c r x ≤ 296 := by
  have h1 := sm_bd (n := 8) (c := 1) (f := fun v : Nat => if r v = x then (1 : Int) else 0) (fun k _ => by split <;> omega)
  have h2 := sm_bd (n := 48) (c := 6) (f := fun p : Nat => if 0 < c p then en h p x else 0) (fun p _ => by
    split
    · exact en_le h p x
    · omega)
  unfold rf rr
  omega
theorem TG_cb {h : SH} {ky : Nat → Nat → Int} {N E : Int} {c sv r rs D : Nat → Int} {e : Int} {x : Nat} (H : TG h ky N E c sv r rs D e) (hx : x < 48) : c x ≤ D x + 296 := by
  have h1 := H.2.1.1 x hx
  have h2 := rf_le h c r (x : Int)
  unfold df at h1
  omega
def kN (s : MS) : Nat → Nat → Int := fun p k => gA s 58 (6 * p + k)
def TS (s : MS) (D : Nat → Int) (e : Int) : Prop := TG (hN s) (kN s) (gI s 1060) (gI s 581) (gA s 54) (gA s 55) (gA s 60) (gA s 61) D e
theorem TS_mk {o : MS} {h : SH} {ky : Nat → Nat → Int} {N E : Int} {c sv r rs D : Nat → Int} {e : Int} (T : TG h ky N E c sv r rs D e) (a1 : hN o = h) (a2 : kN o = ky) (a3 : gI o 1060 = N) (a4 : gI o 581 = E) (a5 : gA o 54 = c) (a6 : gA o 55 = sv) (a7 : gA o 60 = r) (a8 : gA o 61 = rs) : TS o D e := by
  subst a1 a2 a3 a4 a5 a6 a7 a8
  exact T
theorem kN_eq {s o : MS} (h1 : gA o 58 = gA s 58) : kN o = kN s := by
  unfold kN
  rw [h1]
theorem TS_eq {s o : MS} {D : Nat → Int} {e : Int} (H : TS s D e) (h54 : gA o 54 = gA s 54) (h55 : gA o 55 = gA s 55) (h56 : gA o 56 = gA s 56) (h57 : gA o 57 = gA s 57) (h58 : gA o 58 = gA s 58) (h59 : gA o 59 = gA s 59) (h60 : gA o 60 = gA s 60) (h61 : gA o 61 = gA s 61) (hn : gI o 1060 = gI s 1060) (he : gI o 581 = gI s 581) : TS o D e := TS_mk H (hN_eq h56 h57 h59) (kN_eq h58) hn he h54 h55 h60 h61
theorem SBk_c {s o : MS} {b : Nat} (h56 : ∀ q, q < 48 → q ≠ b → gA o 56 q = gA s 56 q) (h57 : ∀ q, q < 48 → q ≠ b → gA o 57 q = gA s 57 q) (h58 : ∀ q, q < 48 → q ≠ b → ∀ k, k < 6 → gA o 58 (6 * q + k) = gA s 58 (6 * q + k)) (h59 : ∀ q, q < 48 → q ≠ b → ∀ k, k < 6 → gA o 59 (6 * q + k) = gA s 59 (6 * q + k)) : SBk (hN s) (hN o) (kN s) (kN o) b := fun q hq hn => ⟨h56 q hq hn, h57 q hq hn, fun k hk => ⟨h59 q hq hn k hk, h58 q hq hn k hk⟩⟩
theorem ts_take {p0 p1 : Int} {s : MS} {D : Nat → Int} (hR : Rg s) (H : TS s D (-1)) (hD : ∀ x, x < 48 → 0 ≤ D x) (hE : 0 ≤ gI s 581) (h0 : 0 ≤ p0 ∧ p0 ≤ 1000) (h1 : (-1000000) ≤ p1 ∧ p1 ≤ 1000000) : wp (m_x1_take p0 p1 s) (fun q => Rg q.2 ∧ F_x1_take s q.2 ∧ (q.1 = -1 ∨ ((0 ≤ q.1 ∧ q.1 < gI s 1060) ∧ (gA s 54 q.1.toNat = 0 ∧ gA s 55 q.1.toNat = 0) ∧ (gA q.2 54 = upZ (gA s 54) q.1.toNat 1 ∧ gA q.2 56 = upZ (gA s 56) q.1.toNat p0 ∧ gA q.2 57 = upZ (gA s 57) q.1.toNat 0) ∧ TS q.2 (fun x => D x + (if x = q.1.toNat then 1 else 0)) q.1))) := by
  refine wp_eq (w_x1_take hR h0 h1) (fun q eq hq => ?_)
  obtain ⟨r, o⟩ := q
  have F : F_x1_take s o := fr_x1_take eq
  dsimp only at hq ⊢
  obtain ⟨hRo, a1, a2⟩ := hq
  refine ⟨hRo, F, ?_⟩
  rcases a1 with a1 | ⟨b0, b1, b2, b3⟩
  · exact Or.inl a1
  · obtain ⟨c1, c2, c3⟩ := a2 (by omega)
    have hN48 : gI s 1060 ≤ 48 := H.1.1
    refine Or.inr ⟨⟨b0, b1⟩, ⟨b2, b3⟩, ⟨c1, c2, c3⟩, ?_⟩
    have k55 : gA o 55 = gA s 55 := F.2.1 55 (by decide)
    have k58 : gA o 58 = gA s 58 := F.2.1 58 (by decide)
    have k59 : gA o 59 = gA s 59 := F.2.1 59 (by decide)
    have k60 : gA o 60 = gA s 60 := F.2.1 60 (by decide)
    have k61 : gA o 61 = gA s 61 := F.2.1 61 (by decide)
    have kn : gI o 1060 = gI s 1060 := F.1 1060 (by decide)
    have ke : gI o 581 = gI s 581 := F.1 581 (by decide)
    have hS : SBk (hN s) (hN o) (kN s) (kN o) r.toNat := SBk_c (fun q hq hn => by rw [c2, upZ_n hn]) (fun q hq hn => by rw [c3, upZ_n hn]) (fun q hq hn k hk => by rw [k58]) (fun q hq hn k hk => by rw [k59])
    have T := TG_take (h' := hN o) (ky' := kN o) H (hD r.toNat (by omega)) hE (by omega) b2 b3 hS (by show 0 ≤ gA o 56 r.toNat; rw [c2, upZ_s]; exact h0.1) (by show gA o 57 r.toNat = 0; rw [c3, upZ_s])
    rw [show ((r.toNat : Nat) : Int) = r by omega] at T
    exact TS_mk T rfl rfl kn ke c1 k55 k60 k61
/-- the block itself, or its copy -/
def OwnP (s o : MS) (b q : Nat) (D : Nat → Int) : Prop := (q < 48 ∧ (q : Int) < gI s 1060) ∧ (gA o 54 q = 1 ∧ gA o 55 q = 0) ∧ (gA o 56 q = gA s 56 b ∧ gA o 57 q = gA s 57 b) ∧ (∀ x, x < 48 → 0 < gA s 54 x → gA s 56 b ≤ gA s 56 x → x ≠ b → gA o 54 x = gA s 54 x) ∧ (∀ x, x < 48 → x ≠ q → gA o 56 x = gA s 56 x ∧ gA o 57 x = gA s 57 x ∧ ∀ k, k < 6 → gA o 58 (6 * x + k) = gA s 58 (6 * x + k) ∧ gA o 59 (6 * x + k) = gA s 59 (6 * x + k)) ∧ (q = b ∨ gA s 54 q = 0) ∧ TS o (fun x => D x + (if x = q then 1 else 0) - (if x = b then 1 else 0)) (-1)
set_option maxHeartbeats 1000000 in
theorem ts_owned0 {p0 : Int} {s : MS} {D : Nat → Int} (hR : Rg s) (H : TS s D (-1)) (hD : ∀ x, x < 48 → 0 ≤ D x ∧ D x ≤ 10) (hE : 0 ≤ gI s 581) (hp : 0 ≤ p0 ∧ p0 < 48) (hc : 0 < gA s 54 p0.toNat) : wp (m_x1_owned p0 s) (fun q => Rg q.2 ∧ (q.1 = -1 ∨ (0 ≤ q.1 ∧ OwnP s q.2 p0.toNat q.1.toNat D))) := by
  have hN48 : gI s 1060 ≤ 48 := H.1.1
  have hb48 : p0.toNat < 48 := by omega
  have hbN : ((p0.toNat : Nat) : Int) < gI s 1060 := TG_lt H hb48 hc
  have nd := TG_nd H hb48 hc
  have n6 : 0 ≤ gA s 57 p0.toNat ∧ gA s 57 p0.toNat ≤ 6 := nd.2.1
  have n1 : 1 ≤ gA s 57 p0.toNat := H.2.2.1.1 p0.toNat hb48 hc (by omega)
  have lv : 0 ≤ gA s 56 p0.toNat ∧ gA s 56 p0.toNat ≤ 47 := TG_lev H (fun x hx => (hD x hx).1) hb48 hc
  have J26 : wp (m_x1_owned_J26 p0 s) (fun q => Rg q.2 ∧ (q.1 = -1 ∨ (0 ≤ q.1 ∧ OwnP s q.2 p0.toNat q.1.toNat D))) := by
    unfold m_x1_owned_J26
    refine wp_rdIn (by omega) (fun y23 e23 => ?_)
    refine wp_bn (ts_take hR H (fun x hx => (hD x hx).1) hE (by omega) (by omega)) (fun q26 e26 h26 => ?_)
    obtain ⟨r, o⟩ := q26
    dsimp only at h26 ⊢
    obtain ⟨hRo, Fo, h26⟩ := h26
    have hr2 : R2 r := by rcases h26 with h26 | ⟨h26, _⟩ <;> omega
    refine wp_rg hr2 (wp_if (fun c1 => wp_some ⟨hRo, Or.inl rfl⟩) (fun c1 => ?_))
    rcases h26 with h26 | ⟨⟨r0, r1⟩, ⟨f1, f2⟩, ⟨u54, u56, u57⟩, T1⟩
    · exact absurd h26 c1
    · have hq48 : r.toNat < 48 := by omega
      have hne : p0.toNat ≠ r.toNat := fun q => by rw [q] at hc; omega
      have o57b : gA o 57 p0.toNat = gA s 57 p0.toNat := by rw [u57, upZ_n hne]
      have o56b : gA o 56 p0.toNat = gA s 56 p0.toNat := by rw [u56, upZ_n hne]
      have o56q : gA o 56 r.toNat = gA s 56 p0.toNat := by rw [u56, upZ_s, e23]
      have o57q : gA o 57 r.toNat = 0 := by rw [u57, upZ_s]
      have o54b : gA o 54 p0.toNat = gA s 54 p0.toNat := by rw [u54, upZ_n hne]
      have o54q : gA o 54 r.toNat = 1 := by rw [u54, upZ_s]
      have o55 : gA o 55 = gA s 55 := Fo.2.1 55 (by decide)
      have o58 : gA o 58 = gA s 58 := Fo.2.1 58 (by decide)
      have o59 : gA o 59 = gA s 59 := Fo.2.1 59 (by decide)
      have on : gI o 1060 = gI s 1060 := Fo.1 1060 (by decide)
      have oe : gI o 581 = gI s 581 := Fo.1 581 (by decide)
      refine wp_bn (w_x1_layEntries hRo hp (by omega) (by omega)) (fun s30 e30 h30 => ?_)
      obtain ⟨hR30, v57, v58, v59⟩ := h30
      have F30 : F_x1_layEntries o s30 := fr_x1_layEntries e30
      rw [o57b] at v57 v58 v59
      rw [Int.sub_zero] at v57 v58 v59
      rw [show 6 * p0.toNat + Int.toNat 0 = 6 * p0.toNat by omega] at v58 v59
      have w54 : gA s30 54 = gA o 54 := F30.2.1 54 (by decide)
      have w55 : gA s30 55 = gA o 55 := F30.2.1 55 (by decide)
      have w56 : gA s30 56 = gA o 56 := F30.2.1 56 (by decide)
      have w60 : gA s30 60 = gA o 60 := F30.2.1 60 (by decide)
      have w61 : gA s30 61 = gA o 61 := F30.2.1 61 (by decide)
      have wn : gI s30 1060 = gI o 1060 := F30.1 1060 (by decide)
      have we : gI s30 581 = gI o 581 := F30.1 581 (by decide)
      have x57q : gA s30 57 r.toNat = gA s 57 p0.toNat := by rw [v57, upZ_s]
      have x56q : gA s30 56 r.toNat = gA s 56 p0.toNat := by rw [w56, o56q]
      have x59 : ∀ k : Nat, (k : Int) < gA s 57 p0.toNat → gA s30 59 (6 * r.toNat + k) = gA s 59 (6 * p0.toNat + k) := fun k hk => by rw [v59, cpy_i (by omega), o59]
      have x58 : ∀ k : Nat, (k : Int) < gA s 57 p0.toNat → gA s30 58 (6 * r.toNat + k) = gA s 58 (6 * p0.toNat + k) := fun k hk => by rw [v58, cpy_i (by omega), o58]
      have hS : SBk (hN o) (hN s30) (kN o) (kN s30) r.toNat := SBk_c (fun q hq hn => by rw [w56]) (fun q hq hn => by rw [v57, upZ_n hn]) (fun q hq hn k hk => by rw [v58, cpy_o hn hk (by omega)]) (fun q hq hn k hk => by rw [v59, cpy_o hn hk (by omega)])
      have T1' : TG (hN o) (kN o) (gI o 1060) (gI o 581) (gA o 54) (gA o 55) (gA o 60) (gA o 61) (fun x => D x + (if x = r.toNat then 1 else 0)) ((r.toNat : Nat) : Int) := by
        rw [show ((r.toNat : Nat) : Int) = r by omega]; exact T1
      have T2 := TG_fill (h' := hN s30) (ky' := kN s30) (b := p0.toNat) T1' hb48 (by rw [o54b]; exact hc) hq48 (by rw [o55, f2]; omega) (by rw [o54q]; omega) hS (by show gA s30 56 r.toNat = gA o 56 r.toNat; rw [w56]) (by show gA o 56 r.toNat = gA o 56 p0.toNat; rw [o56q, o56b]) o57q (by show 1 ≤ gA s30 57 r.toNat ∧ gA s30 57 r.toNat ≤ gA o 57 p0.toNat; rw [x57q, o57b]; omega) (fun j hj => ⟨j, by
          have hj' : (j : Int) < gA s30 57 r.toNat := hj
          show (j : Int) < gA o 57 p0.toNat
          rw [o57b]; omega, by
          have hj' : (j : Int) < gA s30 57 r.toNat := hj
          show gA s30 59 (6 * r.toNat + j) = gA o 59 (6 * p0.toNat + j)
          rw [x59 j (by omega), o59], by
          have hj' : (j : Int) < gA s30 57 r.toNat := hj
          show gA s30 58 (6 * r.toNat + j) = gA o 58 (6 * p0.toNat + j)
          rw [x58 j (by omega), o58]⟩)
      have T2s : TS s30 (fun x => D x + (if x = r.toNat then 1 else 0) - en (hN s30) r.toNat (x : Int)) (-1) := TS_mk T2 rfl rfl wn we w54 w55 w60 w61
      have J117 : ∀ S : MS, Rg S → (gA S 55 = gA s30 55 ∧ gA S 56 = gA s30 56 ∧ gA S 57 = gA s30 57 ∧ gA S 58 = gA s30 58 ∧ gA S 59 = gA s30 59 ∧ gA S 60 = gA s30 60 ∧ gA S 61 = gA s30 61) → (∀ x, x < 48 → gA o 54 x ≤ gA S 54 x ∧ (gA s 56 p0.toNat ≤ gA o 56 x → gA S 54 x = gA o 54 x)) → gI S 1060 = gI s 1060 → TS S (fun x => D x + (if x = r.toNat then 1 else 0)) (-1) → wp (m_x1_owned_J117 p0 r S) (fun q => Rg q.2 ∧ (q.1 = -1 ∨ (0 ≤ q.1 ∧ OwnP s q.2 p0.toNat q.1.toNat D))) := by
        intro S hRS hA hC hn T
        obtain ⟨a55, a56, a57, a58, a59, a60, a61⟩ := hA
        unfold m_x1_owned_J117
        have cb := hC p0.toNat hb48
        refine wp_bn (w_x1_release_v2 hRS T.1.2.1 (by omega) (by omega) (fun x hx => by rw [T.2.1.1 x hx]; have := (hD x hx).1; show 0 ≤ D x + (if x = r.toNat then 1 else 0); split <;> omega)) (fun q6 e6 h6 => ?_)
        obtain ⟨n, o2⟩ := q6
        dsimp only at h6 ⊢
        obtain ⟨hR2, hRel, _, hlv⟩ := h6
        have F6 : F_x1_release_v2 S o2 := fr_x1_release_v2 e6
        have g56 : gA o2 56 = gA S 56 := F6.2.1 56 (by decide)
        have g57 : gA o2 57 = gA S 57 := F6.2.1 57 (by decide)
        have g58 : gA o2 58 = gA S 58 := F6.2.1 58 (by decide)
        have g59 : gA o2 59 = gA S 59 := F6.2.1 59 (by decide)
        have T3 := TG_rel T hRel
        have T4 : TS o2 (fun x => D x + (if x = r.toNat then 1 else 0) - (if x = p0.toNat then 1 else 0)) (-1) := by
          refine TS_mk (TG_D T3 (fun x hx => ?_)) (hN_eq g56 g57 g59) (kN_eq g58) (F6.1 1060 (by decide)) (F6.1 581 (by decide)) rfl (F6.2.1 55 (by decide)) (F6.2.1 60 (by decide)) (F6.2.1 61 (by decide))
          show D x + (if x = r.toNat then 1 else 0) - (if x = p0.toNat then 1 else 0) = D x + (if x = r.toNat then 1 else 0) - (if (x : Int) = p0 then 1 else 0)
          by_cases z : x = p0.toNat
          · rw [if_pos z, if_pos (show (x : Int) = p0 by omega)]
          · rw [if_neg z, if_neg (show ¬ (x : Int) = p0 by omega)]
        have lb : gA S 56 p0.toNat = gA s 56 p0.toNat := by rw [a56, w56, o56b]
        refine wp_some ⟨hR2, Or.inr ⟨r0, ⟨⟨hq48, by omega⟩, ⟨?_, ?_⟩, ⟨?_, ?_⟩, fun x hx hcx hlx hxb => ?_, fun x hx hxq => ⟨?_, ?_, fun k hk => ⟨?_, ?_⟩⟩, Or.inr f1, T4⟩⟩⟩
        · rw [hlv r.toNat hq48 (by rw [lb, a56, x56q]; exact Int.le_refl _) (fun z => hne z.symm), (hC r.toNat hq48).2 (by rw [o56q]; exact Int.le_refl _)]
          exact o54q
        · rw [show gA o2 55 = gA S 55 from F6.2.1 55 (by decide), a55, w55, o55]; exact f2
        · rw [g56, a56]; exact x56q
        · rw [g57, a57]; exact x57q
        · have hxq : x ≠ r.toNat := fun z => by rw [z] at hcx; omega
          have h1 : gA o 56 x = gA s 56 x := by rw [u56, upZ_n hxq]
          rw [hlv x hx (by rw [lb, a56, w56, h1]; exact hlx) hxb, (hC x hx).2 (by rw [h1]; exact hlx), u54, upZ_n hxq]
        · rw [g56, a56, w56, u56, upZ_n hxq]
        · rw [g57, a57, v57, upZ_n hxq, u57, upZ_n hxq]
        · rw [g58, a58, v58, cpy_o hxq hk (by omega), o58]
        · rw [g59, a59, v59, cpy_o hxq hk (by omega), o59]
      refine wp_rdIn (by omega) (fun y31 e31 => ?_)
      rw [x56q] at e31
      refine wp_rg (by omega) (wp_if (fun c2 => ?_) (fun c2 => ?_))
      · refine J117 s30 hR30 ⟨rfl, rfl, rfl, rfl, rfl, rfl, rfl⟩ (fun x hx => ⟨by rw [w54]; exact Int.le_refl _, fun _ => by rw [w54]⟩) (wn.trans on) ?_
        refine TG_D T2s (fun x hx => ?_)
        show D x + (if x = r.toNat then 1 else 0) = D x + (if x = r.toNat then 1 else 0) - en (hN s30) r.toNat (x : Int)
        rw [en_leaf (by show gA s30 56 r.toNat ≤ 0; rw [x56q]; omega)]; omega
      · have L69 : ∀ (n : Nat) (k : Int) (S : MS), Rg S → (gA S 55 = gA s30 55 ∧ gA S 56 = gA s30 56 ∧ gA S 57 = gA s30 57 ∧ gA S 58 = gA s30 58 ∧ gA S 59 = gA s30 59 ∧ gA S 60 = gA s30 60 ∧ gA S 61 = gA s30 61) → (∀ x, x < 48 → gA o 54 x ≤ gA S 54 x ∧ (gA s 56 p0.toNat ≤ gA o 56 x → gA S 54 x = gA o 54 x)) → (gI S 1060 = gI s 1060 ∧ gI S 581 = gI s30 581) → (0 ≤ k ∧ k ≤ gA s 57 p0.toNat) → TS S (fun x => D x + (if x = r.toNat then 1 else 0) - enf (hN s30) r.toNat k (x : Int)) (-1) → gA s 57 p0.toNat - k < (n : Int) → wp (m_x1_owned_L69 n p0 r k S) (fun q => Rg q.2 ∧ (q.1 = -1 ∨ (0 ≤ q.1 ∧ OwnP s q.2 p0.toNat q.1.toNat D))) := by
          refine fr_ind (fun k S hRS hA hC hn hk T hm => by exfalso; omega) (fun n ih k S hRS hA hC hn hk T hm => ?_)
          show wp (m_x1_owned_b69 (m_x1_owned_L69 n) p0 r k S) _
          unfold m_x1_owned_b69
          have hA' := hA
          obtain ⟨a55, a56, a57, a58, a59, a60, a61⟩ := hA
          refine wp_rdIn (by omega) (fun y11 e11 => ?_)
          rw [a57, x57q] at e11
          refine wp_rg (by omega) (wp_rg (by omega) (wp_if (fun c3 => ?_) (fun c3 => ?_)))
          · refine J117 S hRS hA' hC hn.1 (TG_D T (fun x hx => ?_))
            show D x + (if x = r.toNat then 1 else 0) = D x + (if x = r.toNat then 1 else 0) - enf (hN s30) r.toNat k (x : Int)
            rw [enf_end (by show gA s30 57 r.toNat ≤ k; rw [x57q]; omega)]; omega
          · refine wp_bn w_slot (fun r16 _ h16 => ?_)
            refine wp_rdIn (by omega) (fun y17 e17 => ?_)
            rw [a59, show r16.toNat = 6 * r.toNat + k.toNat by omega] at e17
            have v17 : (hN o).2.2 p0.toNat k.toNat = y17 := by
              show gA o 59 (6 * p0.toNat + k.toNat) = y17
              rw [o59, ← x59 k.toNat (by omega)]; exact e17
            have kid := TG_kid (p := p0.toNat) (k := k.toNat) T1' (fun x hx => by have := (hD x hx).1; show 0 ≤ D x + (if x = r.toNat then 1 else 0); split <;> omega) hb48 (by rw [o54b]; exact hc) (by show 0 < gA o 56 p0.toNat; rw [o56b]; omega) (by show ((k.toNat : Nat) : Int) < gA o 57 p0.toNat; rw [o57b]; omega)
            rw [v17] at kid
            obtain ⟨⟨k0, k1⟩, k2, k3⟩ := kid
            have k2' : gA o 56 y17.toNat = gA o 56 p0.toNat - 1 := k2
            rw [o56b] at k2'
            have hy48 : y17.toNat < 48 := by omega
            have hcy := hC y17.toNat hy48
            refine wp_rdIn (by omega) (fun y18 e18 => ?_)
            have cb : gA S 54 y17.toNat ≤ (D y17.toNat + (if y17.toNat = r.toNat then 1 else 0) - enf (hN s30) r.toNat k ((y17.toNat : Nat) : Int)) + 296 := TG_cb T hy48
            have i1 : (if y17.toNat = r.toNat then (1 : Int) else 0) ≤ 1 := by split <;> omega
            have i3 := enf_nn (hN s30) r.toNat k ((y17.toNat : Nat) : Int)
            have d10 := hD y17.toNat hy48
            have TI := TG_inc T hy48 (show 0 < gA S 54 y17.toNat by omega)
            rw [e18] at cb hcy TI
            refine wp_inb (by omega) (wp_stn (fun s20 e20 => ?_))
            have hR20 : Rg s20 := e20 ▸ Rg.uAu hRS (by show (-1 : Int) ≤ y18 + 1 ∧ y18 + 1 ≤ 100000; omega)
            have g20 : gA s20 54 = upZ (gA S 54) y17.toNat (y18 + 1) := q_AA e20
            refine ih (k + 1) s20 hR20 ⟨(q_Aa e20 (by decide)).trans a55, (q_Aa e20 (by decide)).trans a56, (q_Aa e20 (by decide)).trans a57, (q_Aa e20 (by decide)).trans a58, (q_Aa e20 (by decide)).trans a59, (q_Aa e20 (by decide)).trans a60, (q_Aa e20 (by decide)).trans a61⟩ (fun x hx => ?_) ⟨(q_Ai e20).trans hn.1, (q_Ai e20).trans hn.2⟩ (by omega) ?_ (by omega)
            · rw [g20]
              by_cases z : x = y17.toNat
              · rw [z, upZ_s]
                exact ⟨by omega, fun w => by omega⟩
              · rw [upZ_n z]; exact hC x hx
            · refine TS_mk (TG_D TI (fun x hx => ?_)) (hN_eq (q_Aa e20 (by decide)) (q_Aa e20 (by decide)) (q_Aa e20 (by decide))) (kN_eq (q_Aa e20 (by decide))) (q_Ai e20) (q_Ai e20) g20 (q_Aa e20 (by decide)) (q_Aa e20 (by decide)) (q_Aa e20 (by decide))
              show D x + (if x = r.toNat then 1 else 0) - enf (hN s30) r.toNat (k + 1) (x : Int) = D x + (if x = r.toNat then 1 else 0) - enf (hN s30) r.toNat k (x : Int) + (if x = y17.toNat then 1 else 0)
              have st := enf_step (h := hN s30) (p := r.toNat) (k := k.toNat) (x := (x : Int)) (by show 0 < gA s30 56 r.toNat; rw [x56q]; omega) (by show ((k.toNat : Nat) : Int) < gA s30 57 r.toNat; rw [x57q]; omega) (by omega)
              rw [show ((k.toNat : Nat) : Int) = k by omega, show (hN s30).2.2 r.toNat k.toNat = y17 from e17] at st
              rw [st]
              by_cases z : x = y17.toNat
              · rw [if_pos (show y17 = (x : Int) by omega), if_pos z]; omega
              · rw [if_neg (show ¬ y17 = (x : Int) by omega), if_neg z]; omega
        exact L69 FU 0 s30 hR30 ⟨rfl, rfl, rfl, rfl, rfl, rfl, rfl⟩ (fun x hx => ⟨by rw [w54]; exact Int.le_refl _, fun _ => by rw [w54]⟩) ⟨wn.trans on, rfl⟩ (by omega) T2s (by have := FU_big; omega)
  unfold m_x1_owned
  refine wp_bn (w_x8_isFresh hR (by omega)) (fun r35 e35 h35 => ?_)
  refine wp_rg (by omega) (wp_if (fun c1 => J26) (fun c1 => ?_))
  refine wp_rdIn (by omega) (fun y38 e38 => ?_)
  have r38 := hR.2.1 54 p0.toNat (by show _ < 48; omega)
  rw [e38] at r38
  have r38' : (-1 : Int) ≤ y38 ∧ y38 ≤ 100000 := r38
  refine wp_rg (by omega) (wp_if (fun c2 => ?_) (fun c2 => J26))
  refine wp_some ⟨hR, Or.inr ⟨hp.1, ⟨⟨hb48, hbN⟩, ⟨by rw [e38]; exact c2, by show gA s 55 p0.toNat = 0; omega⟩, ⟨rfl, rfl⟩, fun x hx _ _ _ => rfl, fun x hx _ => ⟨rfl, rfl, fun k hk => ⟨rfl, rfl⟩⟩, Or.inl rfl, TG_D H (fun x hx => ?_)⟩⟩⟩
  show D x + (if x = p0.toNat then 1 else 0) - (if x = p0.toNat then 1 else 0) = D x
  omega
theorem ts_owned {p0 : Int} {s : MS} {D : Nat → Int} (hR : Rg s) (H : TS s D (-1)) (hD : ∀ x, x < 48 → 0 ≤ D x ∧ D x ≤ 10) (hE : 0 ≤ gI s 581) (hp : 0 ≤ p0 ∧ p0 < 48) (hc : 0 < gA s 54 p0.toNat) : wp (m_x1_owned p0 s) (fun q => Rg q.2 ∧ F_x1_owned s q.2 ∧ (q.1 = -1 ∨ (0 ≤ q.1 ∧ OwnP s q.2 p0.toNat q.1.toNat D))) := wp_eq (ts_owned0 hR H hD hE hp hc) (fun q eq hq => ⟨hq.1, fr_x1_owned eq, hq.2⟩)
/-! ===== entries of the class's blocks ===== -/
theorem ts_set {p0 p1 p2 : Int} {s : MS} {D : Nat → Int} {e : Int} (hR : Rg s) (H : TS s D e) (hb : 0 ≤ p0 ∧ p0 < 48) (hc : 0 < gA s 54 p0.toNat) (hsv : gA s 55 p0.toNat ≤ 0) (hk : 0 ≤ p1 ∧ p1 < gA s 57 p0.toNat) (hv : 0 < gA s 56 p0.toNat → (0 ≤ p2 ∧ p2 < gI s 1060) ∧ gA s 56 p2.toNat = gA s 56 p0.toNat - 1) (hv2 : (-257) ≤ p2 ∧ p2 ≤ 65535) : wp (m_x8_set p0 p1 p2 s) (fun o => Rg o ∧ F_x8_set s o ∧ gA o 59 = upZ (gA s 59) (6 * p0.toNat + p1.toNat) p2 ∧ TS o (fun x => D x + (if 0 < gA s 56 p0.toNat ∧ gA s 59 (6 * p0.toNat + p1.toNat) = (x : Int) then 1 else 0) - (if 0 < gA s 56 p0.toNat ∧ p2 = (x : Int) then 1 else 0)) e) := by
  have hb48 : p0.toNat < 48 := by omega
  have nd := TG_nd H hb48 hc
  have n6 : 0 ≤ gA s 57 p0.toNat ∧ gA s 57 p0.toNat ≤ 6 := nd.2.1
  refine wp_eq (w_x8_set hR hb (by omega) hv2) (fun o eo ho => ?_)
  obtain ⟨hRo, u59⟩ := ho
  have F : F_x8_set s o := fr_x8_set eo
  refine ⟨hRo, F, u59, ?_⟩
  have u56 : gA o 56 = gA s 56 := F.2.1 56 (by decide)
  have u57 : gA o 57 = gA s 57 := F.2.1 57 (by decide)
  have u58 : gA o 58 = gA s 58 := F.2.1 58 (by decide)
  have hS : SBk (hN s) (hN o) (kN s) (kN o) p0.toNat := SBk_c (fun q hq hn => by rw [u56]) (fun q hq hn => by rw [u57]) (fun q hq hn k hk => by rw [u58]) (fun q hq hn k hk => by rw [u59, upZ_n (by omega)])
  have T := TG_set (h' := hN o) (ky' := kN o) (k := p1.toNat) (v := p2) H hb48 hsv hc hS (by show gA o 56 p0.toNat = _; rw [u56]; rfl) (by show gA o 57 p0.toNat = _; rw [u57]; rfl) (by show ((p1.toNat : Nat) : Int) < gA s 57 p0.toNat; omega) (fun j hj hn => by show gA o 59 (6 * p0.toNat + j) = gA s 59 (6 * p0.toNat + j); rw [u59, upZ_n (by omega)]) (by show gA o 59 (6 * p0.toNat + p1.toNat) = p2; rw [u59, upZ_s]) (fun j hj => by show gA o 58 (6 * p0.toNat + j) = gA s 58 (6 * p0.toNat + j); rw [u58]) hv
  exact TS_mk T rfl rfl (F.1 1060 (by decide)) (F.1 581 (by decide)) (F.2.1 54 (by decide)) (F.2.1 55 (by decide)) (F.2.1 60 (by decide)) (F.2.1 61 (by decide))
theorem ts_insert {p0 p1 p2 p3 : Int} {s : MS} {D : Nat → Int} {e : Int} (hR : Rg s) (H : TS s D e) (hb : 0 ≤ p0 ∧ p0 < 48) (hc : 0 < gA s 54 p0.toNat) (hsv : gA s 55 p0.toNat ≤ 0) (hz : gA s 57 p0.toNat ≤ 5 ∧ gA s 57 p0.toNat + 1 ≤ gI s 581) (hk : 0 ≤ p1 ∧ p1 ≤ gA s 57 p0.toNat) (hke : 0 ≤ p2 ∧ p2 ≤ 999) (hv : 0 < gA s 56 p0.toNat → (0 ≤ p3 ∧ p3 < gI s 1060) ∧ gA s 56 p3.toNat = gA s 56 p0.toNat - 1) (hv2 : (-257) ≤ p3 ∧ p3 ≤ 65535) (he : e = -1 ∨ e = p0) : wp (m_x8_insert p0 p1 p2 p3 s) (fun o => Rg o ∧ F_x8_insert s o ∧ gA o 57 = upZ (gA s 57) p0.toNat (gA s 57 p0.toNat + 1) ∧ (∀ q, q < 48 → q ≠ p0.toNat → ∀ k, k < 6 → gA o 58 (6 * q + k) = gA s 58 (6 * q + k) ∧ gA o 59 (6 * q + k) = gA s 59 (6 * q + k)) ∧ TS o (fun x => D x - (if 0 < gA s 56 p0.toNat ∧ p3 = (x : Int) then 1 else 0)) (-1)) := by
  have hb48 : p0.toNat < 48 := by omega
  have nd := TG_nd H hb48 hc
  have n6 : 0 ≤ gA s 57 p0.toNat ∧ gA s 57 p0.toNat ≤ 6 := nd.2.1
  refine wp_eq (w_x8_insert hR hb (by omega) (by omega) hv2) (fun o eo ho => ?_)
  obtain ⟨hRo, u57, i58, i59⟩ := ho
  have F : F_x8_insert s o := fr_x8_insert eo
  have oth : ∀ q, q < 48 → q ≠ p0.toNat → ∀ k, k < 6 → gA o 58 (6 * q + k) = gA s 58 (6 * q + k) ∧ gA o 59 (6 * q + k) = gA s 59 (6 * q + k) := fun q hq hn k hk => ⟨i58.1 _ (by omega), i59.1 _ (by omega)⟩
  refine ⟨hRo, F, u57, oth, ?_⟩
  have u56 : gA o 56 = gA s 56 := F.2.1 56 (by decide)
  have hS : SBk (hN s) (hN o) (kN s) (kN o) p0.toNat := SBk_c (fun q hq hn => by rw [u56]) (fun q hq hn => by rw [u57, upZ_n hn]) (fun q hq hn k hk => (oth q hq hn k hk).1) (fun q hq hn k hk => (oth q hq hn k hk).2)
  have T := TG_ins (h' := hN o) (ky' := kN o) (k := p1.toNat) (v := p3) (ke := p2) H hb48 hsv hc hS (by show gA o 56 p0.toNat = _; rw [u56]; rfl) hz.1 hz.2 (by show gA o 57 p0.toNat = gA s 57 p0.toNat + 1; rw [u57, upZ_s]) (by show ((p1.toNat : Nat) : Int) ≤ gA s 57 p0.toNat; omega) (fun j hj => ⟨i59.1 _ (by omega), i58.1 _ (by omega)⟩) ⟨i59.2.1, i58.2.1⟩ (fun j hj hn => by
    have hn' : (j : Int) < gA s 57 p0.toNat := hn
    exact ⟨i59.2.2 j hj (by omega), i58.2.2 j hj (by omega)⟩) hv hke (he.imp id (fun w => by omega))
  exact TS_mk T rfl rfl (F.1 1060 (by decide)) (F.1 581 (by decide)) (F.2.1 54 (by decide)) (F.2.1 55 (by decide)) (F.2.1 60 (by decide)) (F.2.1 61 (by decide))
theorem ts_delete {p0 p1 : Int} {s : MS} {D : Nat → Int} (hR : Rg s) (H : TS s D (-1)) (hb : 0 ≤ p0 ∧ p0 < 48) (hc : 0 < gA s 54 p0.toNat) (hsv : gA s 55 p0.toNat ≤ 0) (hk : 0 ≤ p1 ∧ p1 < gA s 57 p0.toNat) : wp (m_x8_delete p0 p1 s) (fun o => Rg o ∧ F_x8_delete s o ∧ gA o 57 = upZ (gA s 57) p0.toNat (gA s 57 p0.toNat - 1) ∧ (∀ q, q < 48 → q ≠ p0.toNat → ∀ k, k < 6 → gA o 58 (6 * q + k) = gA s 58 (6 * q + k) ∧ gA o 59 (6 * q + k) = gA s 59 (6 * q + k)) ∧ TS o (fun x => D x + (if 0 < gA s 56 p0.toNat ∧ gA s 59 (6 * p0.toNat + p1.toNat) = (x : Int) then 1 else 0)) p0) := by
  have hb48 : p0.toNat < 48 := by omega
  have nd := TG_nd H hb48 hc
  have n6 : 0 ≤ gA s 57 p0.toNat ∧ gA s 57 p0.toNat ≤ 6 := nd.2.1
  refine wp_eq (w_x8_delete hR hb (by omega)) (fun o eo ho => ?_)
  obtain ⟨hRo, u57, i58, i59⟩ := ho
  have F : F_x8_delete s o := fr_x8_delete eo
  have oth : ∀ q, q < 48 → q ≠ p0.toNat → ∀ k, k < 6 → gA o 58 (6 * q + k) = gA s 58 (6 * q + k) ∧ gA o 59 (6 * q + k) = gA s 59 (6 * q + k) := fun q hq hn k hk => ⟨i58.1 _ (by omega), i59.1 _ (by omega)⟩
  refine ⟨hRo, F, u57, oth, ?_⟩
  have u56 : gA o 56 = gA s 56 := F.2.1 56 (by decide)
  have hS : SBk (hN s) (hN o) (kN s) (kN o) p0.toNat := SBk_c (fun q hq hn => by rw [u56]) (fun q hq hn => by rw [u57, upZ_n hn]) (fun q hq hn k hk => (oth q hq hn k hk).1) (fun q hq hn k hk => (oth q hq hn k hk).2)
  have T := TG_del (h' := hN o) (ky' := kN o) (k := p1.toNat) H hb48 hsv hc hS (by show gA o 56 p0.toNat = _; rw [u56]; rfl) (by show gA o 57 p0.toNat = gA s 57 p0.toNat - 1; rw [u57, upZ_s]) (by show ((p1.toNat : Nat) : Int) < gA s 57 p0.toNat; omega) (fun j hj => ⟨i59.1 _ (by omega), i58.1 _ (by omega)⟩) (fun j hj hn => by
    have hn' : (j : Int) < gA s 57 p0.toNat - 1 := hn
    exact ⟨i59.2 j hj (by omega), i58.2 j hj (by omega)⟩)
  rw [show ((p0.toNat : Nat) : Int) = p0 by omega] at T
  exact TS_mk T rfl rfl (F.1 1060 (by decide)) (F.1 581 (by decide)) (F.2.1 54 (by decide)) (F.2.1 55 (by decide)) (F.2.1 60 (by decide)) (F.2.1 61 (by decide))
/-- a block that may be changed, with room -/
def Cur (s : MS) (b : Int) (i : Int) : Prop := (0 ≤ b ∧ b < 48) ∧ gA s 54 b.toNat = 1 ∧ gA s 55 b.toNat = 0 ∧ gA s 56 b.toNat = i ∧ gA s 57 b.toNat < gI s 581
theorem two_b {z E : Int} (h0 : 2 ≤ z) (h6 : z ≤ 6) (hE : z ≤ E) : (1 ≤ Int.tdiv z 2 ∧ Int.tdiv z 2 < E) ∧ 1 ≤ z - Int.tdiv z 2 ∧ z - Int.tdiv z 2 < E ∧ z - Int.tdiv z 2 ≤ z := by
  rw [Int.tdiv_eq_ediv_of_nonneg (by omega)]
  omega
set_option maxHeartbeats 1000000 in
theorem ts_split0 {p0 p1 p2 p3 : Int} {s : MS} {D : Nat → Int} {i : Int} (hR : Rg s) (H : TS s D (-1)) (hD : ∀ x, x < 48 → 0 ≤ D x) (hE : 3 ≤ gI s 581) (hA : Cur s p0 (i + 1)) (hk : 0 ≤ p1 ∧ p1 < gA s 57 p0.toNat) (hB : (0 ≤ p2 ∧ p2 < 48) ∧ gA s 54 p2.toNat = 1 ∧ gA s 55 p2.toNat = 0 ∧ gA s 56 p2.toNat = i ∧ 2 ≤ gA s 57 p2.toNat) (h3 : R2 p3) : wp (m_x1_split p0 p1 p2 p3 s) (fun q => Rg q.2 ∧ (q.1 = -1 ∨ (TS q.2 D (-1) ∧ Cur q.2 q.1 i))) := by
  obtain ⟨ha, a54, a55, a56, a57⟩ := hA
  obtain ⟨hb, b54, b55, b56, b57⟩ := hB
  have hN48 : gI s 1060 ≤ 48 := H.1.1
  have hE6 : gI s 581 ≤ 6 := (hR.1 581).2
  have ha48 : p0.toNat < 48 := by omega
  have hb48 : p2.toNat < 48 := by omega
  have nd := TG_nd H hb48 (by omega)
  have n6 : 0 ≤ gA s 57 p2.toNat ∧ gA s 57 p2.toNat ≤ 6 := nd.2.1
  have nE : gA s 57 p2.toNat ≤ gI s 581 := (H.2.2.2.2 p2.toNat hb48 (Or.inl (by omega))).1
  have lv : 0 ≤ gA s 56 p2.toNat ∧ gA s 56 p2.toNat ≤ 47 := TG_lev H hD hb48 (by omega)
  have tb := two_b b57 n6.2 nE
  have hab : p0.toNat ≠ p2.toNat := fun q => by rw [q] at a56; omega
  unfold m_x1_split
  refine wp_rdIn (by omega) (fun y3 e3 => ?_)
  refine wp_bn (ts_take hR H hD (by omega) (by omega) (by omega)) (fun q6 e6 h6 => ?_)
  obtain ⟨r, o⟩ := q6
  dsimp only at h6 ⊢
  obtain ⟨hRo, Fo, h6⟩ := h6
  have hr2 : R2 r := by rcases h6 with h6 | ⟨h6, _⟩ <;> omega
  refine wp_rg hr2 (wp_if (fun c1 => wp_some ⟨hRo, Or.inl rfl⟩) (fun c1 => ?_))
  rcases h6 with h6 | ⟨⟨r0, r1⟩, ⟨f1, f2⟩, ⟨u54, u56, u57⟩, T1⟩
  · exact absurd h6 c1
  have hq48 : r.toNat < 48 := by omega
  have nqa : p0.toNat ≠ r.toNat := fun q => by rw [q] at a54; omega
  have nqb : p2.toNat ≠ r.toNat := fun q => by rw [q] at b54; omega
  have o55 : gA o 55 = gA s 55 := Fo.2.1 55 (by decide)
  have o58 : gA o 58 = gA s 58 := Fo.2.1 58 (by decide)
  have o59 : gA o 59 = gA s 59 := Fo.2.1 59 (by decide)
  have on : gI o 1060 = gI s 1060 := Fo.1 1060 (by decide)
  have oe : gI o 581 = gI s 581 := Fo.1 581 (by decide)
  have o57b : gA o 57 p2.toNat = gA s 57 p2.toNat := by rw [u57, upZ_n nqb]
  refine wp_rdIn (by omega) (fun y9 e9 => ?_)
  refine wp_rdIn (by omega) (fun y10 e10 => ?_)
  rw [o57b] at e9 e10
  have e10' : y10 = y9 := by rw [← e10, ← e9]
  rw [e10']
  rw [e9] at tb b57 n6 nE
  refine wp_dv (by omega) ?_
  obtain ⟨⟨t1, t2⟩, t3, t4, t5⟩ := tb
  generalize hst : y9 - Int.tdiv y9 2 = st at t3 t4 t5 ⊢
  have o57b' : gA o 57 p2.toNat = y9 := by rw [o57b]; exact e9
  refine wp_bn (w_x1_layEntries hRo hb (by omega) (by omega)) (fun s13 e13 h13 => ?_)
  obtain ⟨hR13, v57, v58, v59⟩ := h13
  have F13 : F_x1_layEntries o s13 := fr_x1_layEntries e13
  rw [o57b'] at v57 v58 v59
  have w54 : gA s13 54 = gA o 54 := F13.2.1 54 (by decide)
  have w55 : gA s13 55 = gA o 55 := F13.2.1 55 (by decide)
  have w56 : gA s13 56 = gA o 56 := F13.2.1 56 (by decide)
  have w60 : gA s13 60 = gA o 60 := F13.2.1 60 (by decide)
  have w61 : gA s13 61 = gA o 61 := F13.2.1 61 (by decide)
  have wn : gI s13 1060 = gI o 1060 := F13.1 1060 (by decide)
  have we : gI s13 581 = gI o 581 := F13.1 581 (by decide)
  have x57q : gA s13 57 r.toNat = y9 - st := by rw [v57, upZ_s]
  have x57b : gA s13 57 p2.toNat = y9 := by rw [v57, upZ_n nqb]; exact o57b'
  have x59 : ∀ k : Nat, (k : Int) < y9 - st → gA s13 59 (6 * r.toNat + k) = gA s 59 (6 * p2.toNat + (st.toNat + k)) := fun k hk => by rw [v59, cpy_i (by omega), o59, Nat.add_assoc]
  have x58 : ∀ k : Nat, (k : Int) < y9 - st → gA s13 58 (6 * r.toNat + k) = gA s 58 (6 * p2.toNat + (st.toNat + k)) := fun k hk => by rw [v58, cpy_i (by omega), o58, Nat.add_assoc]
  have hS : SBk (hN o) (hN s13) (kN o) (kN s13) r.toNat := SBk_c (fun q hq hn => by rw [w56]) (fun q hq hn => by rw [v57, upZ_n hn]) (fun q hq hn k hk => by rw [v58, cpy_o hn hk (by omega)]) (fun q hq hn k hk => by rw [v59, cpy_o hn hk (by omega)])
  have T1' : TG (hN o) (kN o) (gI o 1060) (gI o 581) (gA o 54) (gA o 55) (gA o 60) (gA o 61) (fun x => D x + (if x = r.toNat then 1 else 0)) ((r.toNat : Nat) : Int) := by
    rw [show ((r.toNat : Nat) : Int) = r by omega]; exact T1
  have T2 := TG_fill (h' := hN s13) (ky' := kN s13) (b := p2.toNat) T1' hb48 (by rw [u54, upZ_n nqb]; omega) hq48 (by rw [o55, f2]; omega) (by rw [u54, upZ_s]; omega) hS (by show gA s13 56 r.toNat = gA o 56 r.toNat; rw [w56]) (by show gA o 56 r.toNat = gA o 56 p2.toNat; rw [u56, upZ_s, upZ_n nqb, e3]) (by show gA o 57 r.toNat = 0; rw [u57, upZ_s]) (by show 1 ≤ gA s13 57 r.toNat ∧ gA s13 57 r.toNat ≤ gA o 57 p2.toNat; rw [x57q, o57b']; omega) (fun j hj => by
    have hj' : (j : Int) < gA s13 57 r.toNat := hj
    rw [x57q] at hj'
    refine ⟨st.toNat + j, ?_, ?_, ?_⟩
    · show ((st.toNat + j : Nat) : Int) < gA o 57 p2.toNat
      rw [o57b']; omega
    · show gA s13 59 (6 * r.toNat + j) = gA o 59 (6 * p2.toNat + (st.toNat + j))
      rw [x59 j hj', o59]
    · show gA s13 58 (6 * r.toNat + j) = gA o 58 (6 * p2.toNat + (st.toNat + j))
      rw [x58 j hj', o58])
  have T2s : TS s13 (fun x => D x + (if x = r.toNat then 1 else 0) - en (hN s13) r.toNat (x : Int)) (-1) := TS_mk T2 rfl rfl wn we w54 w55 w60 w61
  refine wp_inb (by omega) (wp_stn (fun s15 e15 => ?_))
  have hR15 : Rg s15 := e15 ▸ Rg.uAu hR13 (by show (-1 : Int) ≤ st ∧ st ≤ 255; omega)
  have z57 : gA s15 57 = upZ (gA s13 57) p2.toNat st := q_AA e15
  have z56 : gA s15 56 = gA s13 56 := q_Aa e15 (by decide)
  have z58 : gA s15 58 = gA s13 58 := q_Aa e15 (by decide)
  have z59 : gA s15 59 = gA s13 59 := q_Aa e15 (by decide)
  have z54 : gA s15 54 = gA s13 54 := q_Aa e15 (by decide)
  have z55 : gA s15 55 = gA s13 55 := q_Aa e15 (by decide)
  have hS2 : SBk (hN s13) (hN s15) (kN s13) (kN s15) p2.toNat := SBk_c (fun q hq hn => by rw [z56]) (fun q hq hn => by rw [z57, upZ_n hn]) (fun q hq hn k hk => by rw [z58]) (fun q hq hn k hk => by rw [z59])
  have T3 := TG_cut (h' := hN s15) (ky' := kN s15) (b := p2.toNat) T2s hb48 (by rw [w55, o55, b55]; omega) (by rw [w54, u54, upZ_n nqb, b54]; omega) hS2 (by show gA s15 56 p2.toNat = gA s13 56 p2.toNat; rw [z56]) (by show 1 ≤ gA s15 57 p2.toNat ∧ gA s15 57 p2.toNat ≤ gA s13 57 p2.toNat; rw [z57, upZ_s, x57b]; omega) (fun j hj => ⟨by show gA s15 59 _ = gA s13 59 _; rw [z59], by show gA s15 58 _ = gA s13 58 _; rw [z58]⟩)
  have ent : ∀ x : Nat, en (hN s13) p2.toNat (x : Int) - en (hN s15) p2.toNat (x : Int) = en (hN s13) r.toNat (x : Int) := fun x => by
    have e1 := en_two (h := hN s13) (h' := hN s15) (b := p2.toNat) (q := r.toNat) (a := st) (x := (x : Int)) (by show gA s15 56 p2.toNat = gA s13 56 p2.toNat; rw [z56]) (by show gA s15 56 r.toNat = gA s13 56 p2.toNat; rw [z56, w56, u56, upZ_s, upZ_n nqb, e3]) (by show 0 ≤ st ∧ st ≤ gA s13 57 p2.toNat ∧ gA s13 57 p2.toNat ≤ 6; rw [x57b]; omega) (by show gA s15 57 p2.toNat = st; rw [z57, upZ_s]) (by show gA s15 57 r.toNat = gA s13 57 p2.toNat - st; rw [z57, upZ_n (fun w => nqb w.symm), x57q, x57b]) (fun j hj => by show gA s15 59 _ = gA s13 59 _; rw [z59]) (fun j hj => by
      have hj' : (j : Int) < gA s13 57 p2.toNat - st := hj
      rw [x57b] at hj'
      show gA s15 59 (6 * r.toNat + j) = gA s13 59 (6 * p2.toNat + (st.toNat + j))
      rw [z59, x59 j hj', v59, cpy_o nqb (by omega) (by omega), o59])
    have e2 : en (hN s15) r.toNat (x : Int) = en (hN s13) r.toNat (x : Int) := SBk_en hS2 hq48 (fun w => nqb w.symm)
    omega
  have T4 : TS s15 (fun x => D x + (if x = r.toNat then 1 else 0)) (-1) := by
    refine TS_mk (TG_D T3 (fun x hx => ?_)) rfl rfl (q_Ai e15) (q_Ai e15) z54 z55 (q_Aa e15 (by decide)) (q_Aa e15 (by decide))
    have := ent x
    show D x + (if x = r.toNat then 1 else 0) = D x + (if x = r.toNat then 1 else 0) - en (hN s13) r.toNat (x : Int) + en (hN s13) p2.toNat (x : Int) - en (hN s15) p2.toNat (x : Int)
    omega
  refine wp_bn (w_x8_mark hR15 (by omega)) (fun s17 e17 h17 => ?_)
  have hR17 : Rg s17 := h17
  have F17 : F_x8_mark s15 s17 := fr_x8_mark e17
  have m54 : gA s17 54 = gA s15 54 := F17.2.1 54 (by decide)
  have m55 : gA s17 55 = gA s15 55 := F17.2.1 55 (by decide)
  have m56 : gA s17 56 = gA s15 56 := F17.2.1 56 (by decide)
  have m57 : gA s17 57 = gA s15 57 := F17.2.1 57 (by decide)
  have m58 : gA s17 58 = gA s15 58 := F17.2.1 58 (by decide)
  have m59 : gA s17 59 = gA s15 59 := F17.2.1 59 (by decide)
  have mn : gI s17 1060 = gI s15 1060 := F17.1 1060 (by decide)
  have me : gI s17 581 = gI s15 581 := F17.1 581 (by decide)
  have T5 : TS s17 (fun x => D x + (if x = r.toNat then 1 else 0)) (-1) := TS_eq T4 m54 m55 m56 m57 m58 m59 (F17.2.1 60 (by decide)) (F17.2.1 61 (by decide)) mn me
  refine wp_bn w_slot (fun r19 _ h19 => ?_)
  refine wp_rdIn (by omega) (fun y20 e20 => ?_)
  have q54 : gA s17 54 r.toNat = 1 := by rw [m54, z54, w54, u54, upZ_s]
  have q55 : gA s17 55 r.toNat = 0 := by rw [m55, z55, w55, o55]; exact f2
  have q57 : gA s17 57 r.toNat = y9 - st := by rw [m57, z57, upZ_n (fun w => nqb w.symm), x57q]
  have q56 : gA s17 56 r.toNat = i := by rw [m56, z56, w56, u56, upZ_s, ← e3]; exact b56
  have ky20 := (T5.2.2.2.2 r.toNat hq48 (Or.inl (by show 0 < gA s17 54 r.toNat; omega))).2 0 (by show ((0 : Nat) : Int) < gA s17 57 r.toNat; omega)
  have ky20' : 0 ≤ gA s17 58 (6 * r.toNat + 0) ∧ gA s17 58 (6 * r.toNat + 0) ≤ 999 := ky20
  rw [show 6 * r.toNat + 0 = r19.toNat by omega, e20] at ky20'
  have sE : gI s17 581 = gI s 581 := by rw [me, q_Ai e15, we, oe]
  have sN : gI s17 1060 = gI s 1060 := by rw [mn, q_Ai e15, wn, on]
  have aa54 : gA s17 54 p0.toNat = 1 := by rw [m54, z54, w54, u54, upZ_n nqa]; exact a54
  have aa55 : gA s17 55 p0.toNat = 0 := by rw [m55, z55, w55, o55]; exact a55
  have aa56 : gA s17 56 p0.toNat = i + 1 := by rw [m56, z56, w56, u56, upZ_n nqa]; exact a56
  have aa57 : gA s17 57 p0.toNat = gA s 57 p0.toNat := by rw [m57, z57, upZ_n hab, v57, upZ_n nqa, u57, upZ_n nqa]
  refine wp_bn (ts_insert (p0 := p0) (p1 := p1 + 1) (p2 := y20) (p3 := r) hR17 T5 ha (by omega) (by omega) (by rw [aa57, sE]; omega) (by rw [aa57]; omega) ky20' (fun _ => ⟨by rw [sN]; omega, by rw [q56, aa56]; omega⟩) (by omega) (Or.inl rfl)) (fun s22 e22 h22 => ?_)
  obtain ⟨hR22, F22, n57, noth, T6⟩ := h22
  have T7 : TS s22 D (-1) := by
    refine TG_D T6 (fun x hx => ?_)
    show D x = D x + (if x = r.toNat then 1 else 0) - (if 0 < gA s17 56 p0.toNat ∧ r = (x : Int) then 1 else 0)
    by_cases z : x = r.toNat
    · rw [if_pos z, if_pos ⟨by omega, by omega⟩]; omega
    · rw [if_neg z, if_neg (fun w => z (by omega))]; omega
  have f54 : gA s22 54 = gA s17 54 := F22.2.1 54 (by decide)
  have f55 : gA s22 55 = gA s17 55 := F22.2.1 55 (by decide)
  have f56 : gA s22 56 = gA s17 56 := F22.2.1 56 (by decide)
  have fe : gI s22 581 = gI s17 581 := F22.1 581 (by decide)
  refine wp_rg (by omega) (wp_rg h3 (wp_if (fun c5 => ?_) (fun c5 => ?_)))
  · refine wp_some ⟨hR22, Or.inr ⟨T7, hb, ?_, ?_, ?_, ?_⟩⟩
    · show gA s22 54 p2.toNat = 1
      rw [f54, m54, z54, w54, u54, upZ_n nqb]; exact b54
    · show gA s22 55 p2.toNat = 0
      rw [f55, m55, z55, w55, o55]; exact b55
    · show gA s22 56 p2.toNat = i
      rw [f56, m56, z56, w56, u56, upZ_n nqb]; exact b56
    · show gA s22 57 p2.toNat < gI s22 581
      rw [n57, upZ_n (fun w => hab w.symm), fe, sE, m57, z57, upZ_s]; exact t4
  · refine wp_some ⟨hR22, Or.inr ⟨T7, ⟨r0, by omega⟩, ?_, ?_, ?_, ?_⟩⟩
    · show gA s22 54 r.toNat = 1
      rw [f54]; exact q54
    · show gA s22 55 r.toNat = 0
      rw [f55]; exact q55
    · show gA s22 56 r.toNat = i
      rw [f56]; exact q56
    · show gA s22 57 r.toNat < gI s22 581
      rw [n57, upZ_n (fun w => nqa w.symm), fe, sE, q57]; omega
theorem ts_split {p0 p1 p2 p3 : Int} {s : MS} {D : Nat → Int} {i : Int} (hR : Rg s) (H : TS s D (-1)) (hD : ∀ x, x < 48 → 0 ≤ D x) (hE : 3 ≤ gI s 581) (hA : Cur s p0 (i + 1)) (hk : 0 ≤ p1 ∧ p1 < gA s 57 p0.toNat) (hB : (0 ≤ p2 ∧ p2 < 48) ∧ gA s 54 p2.toNat = 1 ∧ gA s 55 p2.toNat = 0 ∧ gA s 56 p2.toNat = i ∧ 2 ≤ gA s 57 p2.toNat) (h3 : R2 p3) : wp (m_x1_split p0 p1 p2 p3 s) (fun q => Rg q.2 ∧ F_x1_split s q.2 ∧ (q.1 = -1 ∨ (TS q.2 D (-1) ∧ Cur q.2 q.1 i))) := wp_eq (ts_split0 hR H hD hE hA hk hB h3) (fun q eq hq => ⟨hq.1, fr_x1_split eq, hq.2⟩)
