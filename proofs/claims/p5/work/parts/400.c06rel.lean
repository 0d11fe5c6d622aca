theorem w_slot {p0 p1 : Int} {s : MS} : wp (m_x8_slot p0 p1 s) (fun r => r = p0 * 6 + p1) := wp_some rfl
def RI (s S : MS) (C : Nat) (p0 f i : Int) (E : Nat → Int) : Prop := Rg S ∧ (gA S 56 = gA s 56 ∧ gA S 57 = gA s 57 ∧ gA S 59 = gA s 59) ∧ (0 ≤ i ∧ i ≤ f ∧ f + pos (gA S C) ≤ 48) ∧ RelI (hN s) (gA s 60) (gA s C) p0 (gA S C) E ∧ (∀ j : Nat, (j : Int) < f → 0 ≤ gA S 50 j ∧ gA S 50 j < gI s 1060 ∧ 0 < gA s C (gA S 50 j).toNat ∧ gA s 56 (gA S 50 j).toNat ≤ gA s 56 p0.toNat) ∧ (∀ x : Nat, x < 48 → gA s 56 p0.toNat ≤ gA s 56 x → x ≠ p0.toNat → gA S C x = gA s C x)
set_option maxHeartbeats 1000000 in
theorem w_x1_release_v2 {p0 : Int} {s : MS} (hRs : Rg s) (hW : WN (hN s) (gI s 1060) (gA s 54)) (hp : 0 ≤ p0 ∧ p0 < gI s 1060) (hc : 0 < gA s 54 p0.toNat) (hD : ∀ x, x < 48 → 0 ≤ df (hN s) (gA s 54) (gA s 60) x) : wp (m_x1_release_v2 p0 s) (fun q => (Rg q.2) ∧ (RelI (hN s) (gA s 60) (gA s 54) p0 (gA q.2 54) (fun _ => 0)) ∧ (0 ≤ q.1 ∧ q.1 ≤ 48) ∧ (∀ x : Nat, x < 48 → gA s 56 p0.toNat ≤ gA s 56 x → x ≠ p0.toNat → gA q.2 54 x = gA s 54 x)) := by
  have hN48 : gI s 1060 ≤ 48 := (hRs.1 1060).2
  have L28 : ∀ (n : Nat) (f i : Int) (S : MS), RI s S 54 p0 f i (fun x => pn (hN s) (gA S 50) i f x) → 48 - i < (n : Int) → wp (m_x1_release_v2_L28 n f i S) (fun q => (Rg q.2) ∧ (RelI (hN s) (gA s 60) (gA s 54) p0 (gA q.2 54) (fun _ => 0)) ∧ (0 ≤ q.1 ∧ q.1 ≤ 48) ∧ (∀ x : Nat, x < 48 → gA s 56 p0.toNat ≤ gA s 56 x → x ≠ p0.toNat → gA q.2 54 x = gA s 54 x)) := by
    refine fr_ind (fun f i S H hm => ?_) (fun n ih f i S H hm => ?_)
    · exfalso
      have h1 := H.2.2.1
      have h2 := pos_b (gA S 54)
      omega
    · show wp (m_x1_release_v2_b28 (m_x1_release_v2_L28 n) f i S) _
      unfold m_x1_release_v2_b28 m_x1_release_v2_J160
      obtain ⟨hR, ⟨q1, q2, q3⟩, hb, hr, hch, hlv⟩ := H
      have hpos := pos_b (gA S 54)
      refine wp_rg (by omega) (wp_rg (by omega) (wp_if (fun c1 => ?_) (fun c1 => ?_)))
      · exact wp_some ⟨hR, RelI_E hr (fun x _ => (pn_0 c1).symm), by show 0 ≤ f ∧ f ≤ 48; omega, hlv⟩
      · refine wp_rg (by omega) (wp_if (fun c2 => by omega) (fun c2 => ?_))
        refine wp_rdIn (by omega) (fun y42 e42 => ?_)
        have i2 := hch i.toNat (by omega)
        rw [e42] at i2
        refine wp_rdIn (by omega) (fun y43 e43 => ?_)
        have r43 : (-1 : Int) ≤ y43 ∧ y43 ≤ 1000 := e43 ▸ hR.2.1 56 _ (by show _ < 48; omega)
        rw [q1] at e43
        have nd := (hW y42.toNat (by omega)).2.2 i2.2.2.1
        have nz : 0 ≤ gA s 57 y42.toNat ∧ gA s 57 y42.toNat ≤ 6 := nd.2.1
        have hE : ∀ x, x < 48 → pn (hN s) (gA S 50) (i + 1) f x + enf (hN s) (gA S 50 i.toNat).toNat 0 (x : Int) = pn (hN s) (gA S 50) i f x := fun x _ => (pn_first (by omega) (by omega) (by omega)).symm
        have H2 : RI s S 54 p0 f (i + 1) (fun x => pn (hN s) (gA S 50) (i + 1) f x + enf (hN s) (gA S 50 i.toNat).toNat 0 (x : Int)) := ⟨hR, ⟨q1, q2, q3⟩, by omega, RelI_E hr hE, hch, hlv⟩
        have L83 : ∀ (m : Nat) (f e k : Int) (S : MS), RI s S 54 p0 f (i + 1) (fun x => pn (hN s) (gA S 50) (i + 1) f x + enf (hN s) (gA S 50 i.toNat).toNat k (x : Int)) → (gA S 50 i.toNat = y42) → (0 ≤ k ∧ k ≤ e) → ((0 < gA s 56 y42.toNat ∧ e = gA s 57 y42.toNat) ∨ (gA s 56 y42.toNat ≤ 0 ∧ e = 0)) → e - k < (m : Int) → wp (m_x1_release_v2_L83 (m_x1_release_v2_L28 n) m f i e k S) (fun q => (Rg q.2) ∧ (RelI (hN s) (gA s 60) (gA s 54) p0 (gA q.2 54) (fun _ => 0)) ∧ (0 ≤ q.1 ∧ q.1 ≤ 48) ∧ (∀ x : Nat, x < 48 → gA s 56 p0.toNat ≤ gA s 56 x → x ≠ p0.toNat → gA q.2 54 x = gA s 54 x)) := by
          refine fr_ind (fun f e k S H h1 h2 h3 hm => ?_) (fun m ihm f e k S H h1 h2 h3 hm => ?_)
          · exfalso; omega
          · show wp (m_x1_release_v2_b83 (m_x1_release_v2_L28 n) (m_x1_release_v2_L83 (m_x1_release_v2_L28 n) m) f i e k S) _
            unfold m_x1_release_v2_b83 m_x1_release_v2_J148
            obtain ⟨hR, ⟨q1, q2, q3⟩, hb, hr, hch, hlv⟩ := H
            have hpos := pos_b (gA S 54)
            refine wp_rg (by omega) (wp_rg (by omega) (wp_if (fun c3 => ?_) (fun c3 => ?_)))
            · refine ih f (i + 1) S ⟨hR, ⟨q1, q2, q3⟩, by omega, RelI_E hr (fun x _ => ?_), hch, hlv⟩ (by omega)
              show pn (hN s) (gA S 50) (i + 1) f x = pn (hN s) (gA S 50) (i + 1) f x + enf (hN s) (gA S 50 i.toNat).toNat k (x : Int)
              have : enf (hN s) y42.toNat k (x : Int) = 0 := by
                rcases h3 with h3 | h3
                · exact enf_end (by show gA s 57 y42.toNat ≤ k; omega)
                · unfold enf; exact if_neg (by show ¬ 0 < gA s 56 y42.toNat; omega)
              rw [h1, this]; omega
            · have hl : 0 < gA s 56 y42.toNat := by rcases h3 with h3 | h3 <;> omega
              have he : e = gA s 57 y42.toNat := by omega
              refine wp_rdIn (by omega) (fun y19 e19 => ?_)
              rw [h1] at e19
              rw [← e19]
              refine wp_bn w_slot (fun r21 _ h21 => ?_)
              refine wp_rdIn (by omega) (fun y22 e22 => ?_)
              have ev : (hN s).2.2 y42.toNat k.toNat = y22 := by
                show gA s 59 (6 * y42.toNat + k.toNat) = y22
                rw [← e22, q3, show r21.toNat = 6 * y42.toNat + k.toNat by omega]
              have hkz : ((k.toNat : Nat) : Int) < (hN s).2.1 y42.toNat := by show ((k.toNat : Nat) : Int) < gA s 57 y42.toNat; omega
              have kd := nd.2.2 hl k.toNat hkz
              rw [ev] at kd
              have kl : gA s 56 y22.toNat = gA s 56 y42.toNat - 1 := kd.2
              have kb := kd.1
              refine wp_rdIn (by omega) (fun y23 e23 => ?_)
              have hr' : RelI (hN s) (gA s 60) (gA s 54) p0 (gA S 54) (fun x => pn (hN s) (gA S 50) (i + 1) f x + enf (hN s) y42.toNat ((k.toNat : Nat) : Int) (x : Int)) := RelI_E hr (fun x _ => by
                show pn (hN s) (gA S 50) (i + 1) f x + enf (hN s) y42.toNat ((k.toNat : Nat) : Int) (x : Int) = pn (hN s) (gA S 50) (i + 1) f x + enf (hN s) (gA S 50 i.toNat).toNat k (x : Int)
                rw [h1, show ((k.toNat : Nat) : Int) = k by omega])
              have yv : (hN s).2.2 y42.toNat k.toNat = ((y22.toNat : Nat) : Int) := by rw [ev]; omega
              have c1 : 1 ≤ gA S 54 y22.toNat := Rel_pos hr' (fun x _ => pn_nn _ _ _ _ x) hD hl hkz (by omega) yv (by omega) (fun q => by
                have : y22.toNat = p0.toNat := by omega
                rw [this] at kl; omega)
              have st := Rel_step hr' hl hkz (by omega) yv (by omega) c1
              have r23 := hR.2.1 54 y22.toNat (by show _ < 48; omega)
              have c0 := hr.1 y22.toNat (by omega)
              rw [e23] at c1 st r23 c0
              have r23b : (-1 : Int) ≤ y23 ∧ y23 ≤ 100000 := r23
              refine wp_inb (by omega) (wp_stn (fun s25 e25 => ?_))
              have hR25 : Rg s25 := e25 ▸ Rg.uAu hR ⟨by have : (-1 : Int) ≤ y23 - 1 := (by omega); exact this, by have : y23 - 1 ≤ 100000 := (by have : y23 ≤ 100000 := r23.2; omega); exact this⟩
              have g25 : gA s25 54 = upZ (gA S 54) y22.toNat (y23 - 1) := q_AA e25
              have g50 : gA s25 50 = gA S 50 := q_Aa e25 (by decide)
              have f25 : gA s25 56 = gA s 56 ∧ gA s25 57 = gA s 57 ∧ gA s25 59 = gA s 59 := ⟨(q_Aa e25 (by decide)).trans q1, (q_Aa e25 (by decide)).trans q2, (q_Aa e25 (by decide)).trans q3⟩
              have p25 : pos (gA s25 54) = pos (gA S 54) - 1 + (if 0 < y23 - 1 then 1 else 0) := by rw [g25, pos_up (by omega), if_pos (show 0 < gA S 54 y22.toNat by rw [e23]; omega)]
              have hlv25 : ∀ x : Nat, x < 48 → gA s 56 p0.toNat ≤ gA s 56 x → x ≠ p0.toNat → gA s25 54 x = gA s 54 x := fun x hx w1 w2 => by
                rw [g25, upZ_n (fun q => by rw [q] at w1; omega)]
                exact hlv x hx w1 w2
              refine wp_rdIn (by omega) (fun y26 e26 => ?_)
              rw [g25, upZ_s] at e26
              refine wp_rg (by omega) (wp_if (fun c4 => ?_) (fun c4 => ?_))
              · rw [if_neg (show ¬ 0 < y23 - 1 by omega)] at p25
                refine wp_rg (by omega) (wp_if (fun c5 => by have := pos_b (gA s25 54); omega) (fun c5 => ?_))
                refine wp_inb (by omega) (wp_stn (fun s32 e32 => ?_))
                have hR32 : Rg s32 := e32 ▸ Rg.uAu hR25 (by show (0 : Int) ≤ y22 ∧ y22 ≤ 47; omega)
                have g32 : gA s32 54 = gA s25 54 := q_Aa e32 (by decide)
                have h32 : gA s32 50 = upZ (gA s25 50) f.toNat y22 := q_AA e32
                refine ihm (f + 1) e (k + 1) s32 ⟨hR32, ⟨(q_Aa e32 (by decide)).trans f25.1, (q_Aa e32 (by decide)).trans f25.2.1, (q_Aa e32 (by decide)).trans f25.2.2⟩, by rw [g32]; omega, ?_, ?_, fun x hx w1 w2 => by rw [g32]; exact hlv25 x hx w1 w2⟩ ?_ (by omega) h3 (by omega)
                · rw [g32, g25]
                  refine RelI_E st (fun x _ => ?_)
                  show pn (hN s) (gA s32 50) (i + 1) (f + 1) x + enf (hN s) (gA s32 50 i.toNat).toNat (k + 1) (x : Int) = pn (hN s) (gA S 50) (i + 1) f x + enf (hN s) y42.toNat (((k.toNat : Nat) : Int) + 1) (x : Int) + (if 0 < y23 - 1 then 0 else en (hN s) y22.toNat (x : Int))
                  rw [h32, g50, pn_more (by omega) (by omega) (by omega), upZ_n (show i.toNat ≠ f.toNat by omega), h1, if_neg (show ¬ 0 < y23 - 1 by omega), show ((k.toNat : Nat) : Int) = k by omega]; omega
                · intro j hj
                  rw [h32, g50]
                  by_cases ej : j = f.toNat
                  · rw [ej, upZ_s]
                    exact ⟨by omega, by omega, by omega, by omega⟩
                  · rw [upZ_n ej]; exact hch j (by omega)
                · rw [h32, g50, upZ_n (show i.toNat ≠ f.toNat by omega)]; exact h1
              · rw [if_pos (show 0 < y23 - 1 by omega)] at p25
                refine ihm f e (k + 1) s25 ⟨hR25, f25, by omega, ?_, ?_, hlv25⟩ ?_ (by omega) h3 (by omega)
                · rw [g25]
                  refine RelI_E st (fun x _ => ?_)
                  show pn (hN s) (gA s25 50) (i + 1) f x + enf (hN s) (gA s25 50 i.toNat).toNat (k + 1) (x : Int) = pn (hN s) (gA S 50) (i + 1) f x + enf (hN s) y42.toNat (((k.toNat : Nat) : Int) + 1) (x : Int) + (if 0 < y23 - 1 then 0 else en (hN s) y22.toNat (x : Int))
                  rw [g50, h1, if_pos (show 0 < y23 - 1 by omega), show ((k.toNat : Nat) : Int) = k by omega]; omega
                · rw [g50]; exact hch
                · rw [g50]; exact h1
        refine wp_rg (by omega) (wp_if (fun c3 => ?_) (fun c3 => ?_))
        · unfold m_x1_release_v2_J78
          exact L83 FU f 0 0 S H2 e42 (by omega) (Or.inr ⟨by omega, rfl⟩) (by have := FU_big; omega)
        · refine wp_rdIn (by omega) (fun y46 e46 => ?_)
          rw [e42] at e46
          rw [← e46]
          refine wp_rdIn (by omega) (fun y47 e47 => ?_)
          rw [q2] at e47
          unfold m_x1_release_v2_J78
          exact L83 FU f y47 0 S H2 e42 (by omega) (Or.inl ⟨by omega, e47.symm⟩) (by have := FU_big; omega)
  unfold m_x1_release_v2 m_x1_release_v2_J25
  have hpos := pos_b (gA s 54)
  refine wp_rdIn (by omega) (fun y50 e50 => ?_)
  have r50 := hRs.2.1 54 p0.toNat (by show _ < 48; omega)
  have r0 := RelI_0 (h := hN s) (r := gA s 60) (c0 := gA s 54) (b := p0.toNat) (by omega) (fun x hx => (hW x hx).1) hc
  have hcp := hc
  rw [show ((p0.toNat : Nat) : Int) = p0 by omega, e50] at r0
  rw [e50] at hc r50
  have r50b : (-1 : Int) ≤ y50 ∧ y50 ≤ 100000 := r50
  refine wp_inb (by omega) (wp_stn (fun s52 e52 => ?_))
  have hR52 : Rg s52 := e52 ▸ Rg.uAu hRs ⟨by have : (-1 : Int) ≤ y50 - 1 := (by omega); exact this, by have : y50 - 1 ≤ 100000 := (by have : y50 ≤ 100000 := r50.2; omega); exact this⟩
  have g52 : gA s52 54 = upZ (gA s 54) p0.toNat (y50 - 1) := q_AA e52
  have f52 : gA s52 56 = gA s 56 ∧ gA s52 57 = gA s 57 ∧ gA s52 59 = gA s 59 := ⟨q_Aa e52 (by decide), q_Aa e52 (by decide), q_Aa e52 (by decide)⟩
  have p52 : pos (gA s52 54) = pos (gA s 54) - 1 + (if 0 < y50 - 1 then 1 else 0) := by rw [g52, pos_up (by omega), if_pos hcp]
  refine wp_rdIn (by omega) (fun y53 e53 => ?_)
  rw [g52, upZ_s] at e53
  refine wp_rg (by omega) (wp_if (fun c1 => ?_) (fun c1 => ?_))
  · rw [if_neg (show ¬ 0 < y50 - 1 by omega)] at p52
    refine wp_inb (by omega) (wp_stn (fun s57 e57 => ?_))
    have hR57 : Rg s57 := e57 ▸ Rg.uAu hR52 (by show (0 : Int) ≤ p0 ∧ p0 ≤ 47; omega)
    have g57 : gA s57 54 = gA s52 54 := q_Aa e57 (by decide)
    have h57 : gA s57 50 = upZ (gA s52 50) (Int.toNat 0) p0 := q_AA e57
    refine L28 FU 1 0 s57 ⟨hR57, ⟨(q_Aa e57 (by decide)).trans f52.1, (q_Aa e57 (by decide)).trans f52.2.1, (q_Aa e57 (by decide)).trans f52.2.2⟩, by rw [g57]; omega, ?_, ?_, fun x hx w1 w2 => by rw [g57, g52, upZ_n w2]⟩ (by have := FU_big; omega)
    · rw [g57, g52]
      refine RelI_E r0 (fun x _ => ?_)
      show pn (hN s) (gA s57 50) 0 1 x = if 0 < y50 - 1 then 0 else en (hN s) p0.toNat (x : Int)
      rw [h57, if_neg (show ¬ 0 < y50 - 1 by omega)]
      have := pn_more (h := hN s) (ch := gA s52 50) (i := 0) (f := 0) (y := p0) (x := x) (by omega) (by omega) (by omega)
      rw [pn_0 (Int.le_refl 0)] at this
      rw [show (1 : Int) = 0 + 1 from rfl, this]; omega
    · intro j hj
      have ej : j = 0 := by omega
      subst ej
      have e0 : gA s57 50 0 = p0 := by rw [h57]; exact upZ_s _ _ _
      rw [e0]
      exact ⟨by omega, by omega, hcp, Int.le_refl _⟩
  · rw [if_pos (show 0 < y50 - 1 by omega)] at p52
    refine L28 FU 0 0 s52 ⟨hR52, f52, by omega, ?_, fun j hj => by omega, fun x hx w1 w2 => by rw [g52, upZ_n w2]⟩ (by have := FU_big; omega)
    rw [g52]
    refine RelI_E r0 (fun x _ => ?_)
    show pn (hN s) (gA s52 50) 0 0 x = if 0 < y50 - 1 then 0 else en (hN s) p0.toNat (x : Int)
    rw [pn_0 (Int.le_refl 0), if_pos (show 0 < y50 - 1 by omega)]
set_option maxHeartbeats 1000000 in
theorem w_x1_release {p0 : Int} {s : MS} (hRs : Rg s) (hW : WN (hN s) (gI s 1060) (gA s 52)) (hp : 0 ≤ p0 ∧ p0 < gI s 1060) (hc : 0 < gA s 52 p0.toNat) (hD : ∀ x, x < 48 → 0 ≤ df (hN s) (gA s 52) (gA s 60) x) : wp (m_x1_release p0 s) (fun q => (Rg q.2) ∧ (RelI (hN s) (gA s 60) (gA s 52) p0 (gA q.2 52) (fun _ => 0)) ∧ (0 ≤ q.1 ∧ q.1 ≤ 48) ∧ (∀ x : Nat, x < 48 → gA s 56 p0.toNat ≤ gA s 56 x → x ≠ p0.toNat → gA q.2 52 x = gA s 52 x)) := by
  have hN48 : gI s 1060 ≤ 48 := (hRs.1 1060).2
  have L28 : ∀ (n : Nat) (f i : Int) (S : MS), RI s S 52 p0 f i (fun x => pn (hN s) (gA S 50) i f x) → 48 - i < (n : Int) → wp (m_x1_release_L28 n f i S) (fun q => (Rg q.2) ∧ (RelI (hN s) (gA s 60) (gA s 52) p0 (gA q.2 52) (fun _ => 0)) ∧ (0 ≤ q.1 ∧ q.1 ≤ 48) ∧ (∀ x : Nat, x < 48 → gA s 56 p0.toNat ≤ gA s 56 x → x ≠ p0.toNat → gA q.2 52 x = gA s 52 x)) := by
    refine fr_ind (fun f i S H hm => ?_) (fun n ih f i S H hm => ?_)
    · exfalso
      have h1 := H.2.2.1
      have h2 := pos_b (gA S 52)
      omega
    · show wp (m_x1_release_b28 (m_x1_release_L28 n) f i S) _
      unfold m_x1_release_b28 m_x1_release_J160
      obtain ⟨hR, ⟨q1, q2, q3⟩, hb, hr, hch, hlv⟩ := H
      have hpos := pos_b (gA S 52)
      refine wp_rg (by omega) (wp_rg (by omega) (wp_if (fun c1 => ?_) (fun c1 => ?_)))
      · exact wp_some ⟨hR, RelI_E hr (fun x _ => (pn_0 c1).symm), by show 0 ≤ f ∧ f ≤ 48; omega, hlv⟩
      · refine wp_rg (by omega) (wp_if (fun c2 => by omega) (fun c2 => ?_))
        refine wp_rdIn (by omega) (fun y42 e42 => ?_)
        have i2 := hch i.toNat (by omega)
        rw [e42] at i2
        refine wp_rdIn (by omega) (fun y43 e43 => ?_)
        have r43 : (-1 : Int) ≤ y43 ∧ y43 ≤ 1000 := e43 ▸ hR.2.1 56 _ (by show _ < 48; omega)
        rw [q1] at e43
        have nd := (hW y42.toNat (by omega)).2.2 i2.2.2.1
        have nz : 0 ≤ gA s 57 y42.toNat ∧ gA s 57 y42.toNat ≤ 6 := nd.2.1
        have hE : ∀ x, x < 48 → pn (hN s) (gA S 50) (i + 1) f x + enf (hN s) (gA S 50 i.toNat).toNat 0 (x : Int) = pn (hN s) (gA S 50) i f x := fun x _ => (pn_first (by omega) (by omega) (by omega)).symm
        have H2 : RI s S 52 p0 f (i + 1) (fun x => pn (hN s) (gA S 50) (i + 1) f x + enf (hN s) (gA S 50 i.toNat).toNat 0 (x : Int)) := ⟨hR, ⟨q1, q2, q3⟩, by omega, RelI_E hr hE, hch, hlv⟩
        have L83 : ∀ (m : Nat) (f e k : Int) (S : MS), RI s S 52 p0 f (i + 1) (fun x => pn (hN s) (gA S 50) (i + 1) f x + enf (hN s) (gA S 50 i.toNat).toNat k (x : Int)) → (gA S 50 i.toNat = y42) → (0 ≤ k ∧ k ≤ e) → ((0 < gA s 56 y42.toNat ∧ e = gA s 57 y42.toNat) ∨ (gA s 56 y42.toNat ≤ 0 ∧ e = 0)) → e - k < (m : Int) → wp (m_x1_release_L83 (m_x1_release_L28 n) m f i e k S) (fun q => (Rg q.2) ∧ (RelI (hN s) (gA s 60) (gA s 52) p0 (gA q.2 52) (fun _ => 0)) ∧ (0 ≤ q.1 ∧ q.1 ≤ 48) ∧ (∀ x : Nat, x < 48 → gA s 56 p0.toNat ≤ gA s 56 x → x ≠ p0.toNat → gA q.2 52 x = gA s 52 x)) := by
          refine fr_ind (fun f e k S H h1 h2 h3 hm => ?_) (fun m ihm f e k S H h1 h2 h3 hm => ?_)
          · exfalso; omega
          · show wp (m_x1_release_b83 (m_x1_release_L28 n) (m_x1_release_L83 (m_x1_release_L28 n) m) f i e k S) _
            unfold m_x1_release_b83 m_x1_release_J148
            obtain ⟨hR, ⟨q1, q2, q3⟩, hb, hr, hch, hlv⟩ := H
            have hpos := pos_b (gA S 52)
            refine wp_rg (by omega) (wp_rg (by omega) (wp_if (fun c3 => ?_) (fun c3 => ?_)))
            · refine ih f (i + 1) S ⟨hR, ⟨q1, q2, q3⟩, by omega, RelI_E hr (fun x _ => ?_), hch, hlv⟩ (by omega)
              show pn (hN s) (gA S 50) (i + 1) f x = pn (hN s) (gA S 50) (i + 1) f x + enf (hN s) (gA S 50 i.toNat).toNat k (x : Int)
              have : enf (hN s) y42.toNat k (x : Int) = 0 := by
                rcases h3 with h3 | h3
                · exact enf_end (by show gA s 57 y42.toNat ≤ k; omega)
                · unfold enf; exact if_neg (by show ¬ 0 < gA s 56 y42.toNat; omega)
              rw [h1, this]; omega
            · have hl : 0 < gA s 56 y42.toNat := by rcases h3 with h3 | h3 <;> omega
              have he : e = gA s 57 y42.toNat := by omega
              refine wp_rdIn (by omega) (fun y19 e19 => ?_)
              rw [h1] at e19
              rw [← e19]
              refine wp_bn w_slot (fun r21 _ h21 => ?_)
              refine wp_rdIn (by omega) (fun y22 e22 => ?_)
              have ev : (hN s).2.2 y42.toNat k.toNat = y22 := by
                show gA s 59 (6 * y42.toNat + k.toNat) = y22
                rw [← e22, q3, show r21.toNat = 6 * y42.toNat + k.toNat by omega]
              have hkz : ((k.toNat : Nat) : Int) < (hN s).2.1 y42.toNat := by show ((k.toNat : Nat) : Int) < gA s 57 y42.toNat; omega
              have kd := nd.2.2 hl k.toNat hkz
              rw [ev] at kd
              have kl : gA s 56 y22.toNat = gA s 56 y42.toNat - 1 := kd.2
              have kb := kd.1
              refine wp_rdIn (by omega) (fun y23 e23 => ?_)
              have hr' : RelI (hN s) (gA s 60) (gA s 52) p0 (gA S 52) (fun x => pn (hN s) (gA S 50) (i + 1) f x + enf (hN s) y42.toNat ((k.toNat : Nat) : Int) (x : Int)) := RelI_E hr (fun x _ => by
                show pn (hN s) (gA S 50) (i + 1) f x + enf (hN s) y42.toNat ((k.toNat : Nat) : Int) (x : Int) = pn (hN s) (gA S 50) (i + 1) f x + enf (hN s) (gA S 50 i.toNat).toNat k (x : Int)
                rw [h1, show ((k.toNat : Nat) : Int) = k by omega])
              have yv : (hN s).2.2 y42.toNat k.toNat = ((y22.toNat : Nat) : Int) := by rw [ev]; omega
              have c1 : 1 ≤ gA S 52 y22.toNat := Rel_pos hr' (fun x _ => pn_nn _ _ _ _ x) hD hl hkz (by omega) yv (by omega) (fun q => by
                have : y22.toNat = p0.toNat := by omega
                rw [this] at kl; omega)
              have st := Rel_step hr' hl hkz (by omega) yv (by omega) c1
              have r23 := hR.2.1 52 y22.toNat (by show _ < 48; omega)
              have c0 := hr.1 y22.toNat (by omega)
              rw [e23] at c1 st r23 c0
              have r23b : (-2147483648 : Int) ≤ y23 ∧ y23 ≤ 2147483647 := r23
              refine wp_inb (by omega) (wp_stn (fun s25 e25 => ?_))
              have hR25 : Rg s25 := e25 ▸ Rg.uAu hR ⟨by have : (-2147483648 : Int) ≤ y23 - 1 := (by omega); exact this, by have : y23 - 1 ≤ 2147483647 := (by have : y23 ≤ 2147483647 := r23.2; omega); exact this⟩
              have g25 : gA s25 52 = upZ (gA S 52) y22.toNat (y23 - 1) := q_AA e25
              have g50 : gA s25 50 = gA S 50 := q_Aa e25 (by decide)
              have f25 : gA s25 56 = gA s 56 ∧ gA s25 57 = gA s 57 ∧ gA s25 59 = gA s 59 := ⟨(q_Aa e25 (by decide)).trans q1, (q_Aa e25 (by decide)).trans q2, (q_Aa e25 (by decide)).trans q3⟩
              have p25 : pos (gA s25 52) = pos (gA S 52) - 1 + (if 0 < y23 - 1 then 1 else 0) := by rw [g25, pos_up (by omega), if_pos (show 0 < gA S 52 y22.toNat by rw [e23]; omega)]
              have hlv25 : ∀ x : Nat, x < 48 → gA s 56 p0.toNat ≤ gA s 56 x → x ≠ p0.toNat → gA s25 52 x = gA s 52 x := fun x hx w1 w2 => by
                rw [g25, upZ_n (fun q => by rw [q] at w1; omega)]
                exact hlv x hx w1 w2
              refine wp_rdIn (by omega) (fun y26 e26 => ?_)
              rw [g25, upZ_s] at e26
              refine wp_rg (by omega) (wp_if (fun c4 => ?_) (fun c4 => ?_))
              · rw [if_neg (show ¬ 0 < y23 - 1 by omega)] at p25
                refine wp_rg (by omega) (wp_if (fun c5 => by have := pos_b (gA s25 52); omega) (fun c5 => ?_))
                refine wp_inb (by omega) (wp_stn (fun s32 e32 => ?_))
                have hR32 : Rg s32 := e32 ▸ Rg.uAu hR25 (by show (0 : Int) ≤ y22 ∧ y22 ≤ 47; omega)
                have g32 : gA s32 52 = gA s25 52 := q_Aa e32 (by decide)
                have h32 : gA s32 50 = upZ (gA s25 50) f.toNat y22 := q_AA e32
                refine ihm (f + 1) e (k + 1) s32 ⟨hR32, ⟨(q_Aa e32 (by decide)).trans f25.1, (q_Aa e32 (by decide)).trans f25.2.1, (q_Aa e32 (by decide)).trans f25.2.2⟩, by rw [g32]; omega, ?_, ?_, fun x hx w1 w2 => by rw [g32]; exact hlv25 x hx w1 w2⟩ ?_ (by omega) h3 (by omega)
                · rw [g32, g25]
                  refine RelI_E st (fun x _ => ?_)
                  show pn (hN s) (gA s32 50) (i + 1) (f + 1) x + enf (hN s) (gA s32 50 i.toNat).toNat (k + 1) (x : Int) = pn (hN s) (gA S 50) (i + 1) f x + enf (hN s) y42.toNat (((k.toNat : Nat) : Int) + 1) (x : Int) + (if 0 < y23 - 1 then 0 else en (hN s) y22.toNat (x : Int))
                  rw [h32, g50, pn_more (by omega) (by omega) (by omega), upZ_n (show i.toNat ≠ f.toNat by omega), h1, if_neg (show ¬ 0 < y23 - 1 by omega), show ((k.toNat : Nat) : Int) = k by omega]; omega
                · intro j hj
                  rw [h32, g50]
                  by_cases ej : j = f.toNat
                  · rw [ej, upZ_s]
                    exact ⟨by omega, by omega, by omega, by omega⟩
                  · rw [upZ_n ej]; exact hch j (by omega)
                · rw [h32, g50, upZ_n (show i.toNat ≠ f.toNat by omega)]; exact h1
              · rw [if_pos (show 0 < y23 - 1 by omega)] at p25
                refine ihm f e (k + 1) s25 ⟨hR25, f25, by omega, ?_, ?_, hlv25⟩ ?_ (by omega) h3 (by omega)
                · rw [g25]
                  refine RelI_E st (fun x _ => ?_)
                  show pn (hN s) (gA s25 50) (i + 1) f x + enf (hN s) (gA s25 50 i.toNat).toNat (k + 1) (x : Int) = pn (hN s) (gA S 50) (i + 1) f x + enf (hN s) y42.toNat (((k.toNat : Nat) : Int) + 1) (x : Int) + (if 0 < y23 - 1 then 0 else en (hN s) y22.toNat (x : Int))
                  rw [g50, h1, if_pos (show 0 < y23 - 1 by omega), show ((k.toNat : Nat) : Int) = k by omega]; omega
                · rw [g50]; exact hch
                · rw [g50]; exact h1
        refine wp_rg (by omega) (wp_if (fun c3 => ?_) (fun c3 => ?_))
        · unfold m_x1_release_J78
          exact L83 FU f 0 0 S H2 e42 (by omega) (Or.inr ⟨by omega, rfl⟩) (by have := FU_big; omega)
        · refine wp_rdIn (by omega) (fun y46 e46 => ?_)
          rw [e42] at e46
          rw [← e46]
          refine wp_rdIn (by omega) (fun y47 e47 => ?_)
          rw [q2] at e47
          unfold m_x1_release_J78
          exact L83 FU f y47 0 S H2 e42 (by omega) (Or.inl ⟨by omega, e47.symm⟩) (by have := FU_big; omega)
  unfold m_x1_release m_x1_release_J25
  have hpos := pos_b (gA s 52)
  refine wp_rdIn (by omega) (fun y50 e50 => ?_)
  have r50 := hRs.2.1 52 p0.toNat (by show _ < 48; omega)
  have r0 := RelI_0 (h := hN s) (r := gA s 60) (c0 := gA s 52) (b := p0.toNat) (by omega) (fun x hx => (hW x hx).1) hc
  have hcp := hc
  rw [show ((p0.toNat : Nat) : Int) = p0 by omega, e50] at r0
  rw [e50] at hc r50
  have r50b : (-2147483648 : Int) ≤ y50 ∧ y50 ≤ 2147483647 := r50
  refine wp_inb (by omega) (wp_stn (fun s52 e52 => ?_))
  have hR52 : Rg s52 := e52 ▸ Rg.uAu hRs ⟨by have : (-2147483648 : Int) ≤ y50 - 1 := (by omega); exact this, by have : y50 - 1 ≤ 2147483647 := (by have : y50 ≤ 2147483647 := r50.2; omega); exact this⟩
  have g52 : gA s52 52 = upZ (gA s 52) p0.toNat (y50 - 1) := q_AA e52
  have f52 : gA s52 56 = gA s 56 ∧ gA s52 57 = gA s 57 ∧ gA s52 59 = gA s 59 := ⟨q_Aa e52 (by decide), q_Aa e52 (by decide), q_Aa e52 (by decide)⟩
  have p52 : pos (gA s52 52) = pos (gA s 52) - 1 + (if 0 < y50 - 1 then 1 else 0) := by rw [g52, pos_up (by omega), if_pos hcp]
  refine wp_rdIn (by omega) (fun y53 e53 => ?_)
  rw [g52, upZ_s] at e53
  refine wp_rg (by omega) (wp_if (fun c1 => ?_) (fun c1 => ?_))
  · rw [if_neg (show ¬ 0 < y50 - 1 by omega)] at p52
    refine wp_inb (by omega) (wp_stn (fun s57 e57 => ?_))
    have hR57 : Rg s57 := e57 ▸ Rg.uAu hR52 (by show (0 : Int) ≤ p0 ∧ p0 ≤ 47; omega)
    have g57 : gA s57 52 = gA s52 52 := q_Aa e57 (by decide)
    have h57 : gA s57 50 = upZ (gA s52 50) (Int.toNat 0) p0 := q_AA e57
    refine L28 FU 1 0 s57 ⟨hR57, ⟨(q_Aa e57 (by decide)).trans f52.1, (q_Aa e57 (by decide)).trans f52.2.1, (q_Aa e57 (by decide)).trans f52.2.2⟩, by rw [g57]; omega, ?_, ?_, fun x hx w1 w2 => by rw [g57, g52, upZ_n w2]⟩ (by have := FU_big; omega)
    · rw [g57, g52]
      refine RelI_E r0 (fun x _ => ?_)
      show pn (hN s) (gA s57 50) 0 1 x = if 0 < y50 - 1 then 0 else en (hN s) p0.toNat (x : Int)
      rw [h57, if_neg (show ¬ 0 < y50 - 1 by omega)]
      have := pn_more (h := hN s) (ch := gA s52 50) (i := 0) (f := 0) (y := p0) (x := x) (by omega) (by omega) (by omega)
      rw [pn_0 (Int.le_refl 0)] at this
      rw [show (1 : Int) = 0 + 1 from rfl, this]; omega
    · intro j hj
      have ej : j = 0 := by omega
      subst ej
      have e0 : gA s57 50 0 = p0 := by rw [h57]; exact upZ_s _ _ _
      rw [e0]
      exact ⟨by omega, by omega, hcp, Int.le_refl _⟩
  · rw [if_pos (show 0 < y50 - 1 by omega)] at p52
    refine L28 FU 0 0 s52 ⟨hR52, f52, by omega, ?_, fun j hj => by omega, fun x hx w1 w2 => by rw [g52, upZ_n w2]⟩ (by have := FU_big; omega)
    rw [g52]
    refine RelI_E r0 (fun x _ => ?_)
    show pn (hN s) (gA s52 50) 0 0 x = if 0 < y50 - 1 then 0 else en (hN s) p0.toNat (x : Int)
    rw [pn_0 (Int.le_refl 0), if_pos (show 0 < y50 - 1 by omega)]
