/-! ===== on: keys lie between two; no block twice ===== -/
set_option maxHeartbeats 2000000 in
theorem mt_areBetween {p0 p1 p2 : Int} {s : MS} {N E : Int} (hRs : Rr s) (H : IG (gA s 113) N E) (hp : 0 ≤ p0 ∧ p0 < 48) (hd : DLa (gA s 113) p0.toNat) (ko : KO (gA s 113) p0.toNat) (h1 : R2 p1) (h2 : R2 p2) : wp (m_x12_areBetween p0 p1 p2 s) (fun q => Rr q.2 ∧ F_x12_areBetween s q.2 ∧ (q.1 = 0 ∨ (q.1 = 1 ∧ ∀ z, UK (gA s 113) p0.toNat z → p1 ≤ z ∧ z ≤ p2))) := by
  obtain ⟨f, hf⟩ : ∃ f, f = gA s 113 := ⟨_, rfl⟩
  rw [← hf] at H hd ko
  rw [← hf]
  have n48 := H.1
  have hE := H.2.1
  have key : wp (m_x12_areBetween p0 p1 p2 s) (fun q => Rr q.2 ∧ (q.1 = 0 ∨ (q.1 = 1 ∧ ∀ z, UK f p0.toNat z → p1 ≤ z ∧ z ≤ p2))) := by
    have L10 : ∀ (n : Nat) (x : Int) (S : MS) (M : Nat → Int), Rr S → gA S 113 = f → 0 ≤ x → WK (hLa f) M (gA S 62) x.toNat (fun _ => 0) → (∀ y, y < 48 → 0 < M y → DLa f y) → (∀ z, UK f p0.toNat z → (p1 ≤ z ∧ z ≤ p2) ∨ UW f (gA S 62) x.toNat z) → pos M < (n : Int) → wp (m_x12_areBetween_L10 n p1 p2 x S) (fun q => Rr q.2 ∧ (q.1 = 0 ∨ (q.1 = 1 ∧ ∀ z, UK f p0.toNat z → p1 ≤ z ∧ z ≤ p2))) := by
      refine fr_ind (fun x S M hRS h113 h0 hW hL hU hm => by exfalso; have := pos_b M; omega) (fun n ih x S M hRS h113 h0 hW hL hU hm => ?_)
      show wp (m_x12_areBetween_b10 (m_x12_areBetween_L10 n) p1 p2 x S) _
      unfold m_x12_areBetween_b10
      have wl := WK_le hW
      have pb := pos_b M
      refine wp_rg (by omega) (wp_if (fun c1 => wp_some ⟨hRS, Or.inr ⟨rfl, fun z hz => ?_⟩⟩) (fun c1 => ?_))
      · rcases hU z hz with q | ⟨j, hj, _⟩
        · exact q
        · omega
      have wx : x.toNat = (x.toNat - 1) + 1 := by omega
      rw [wx] at hW hU
      obtain ⟨m1, W1⟩ := WK_pop hW
      have hb := hW.2.1 (x.toNat - 1) (by omega)
      refine wp_rdIn (by omega) (fun y41 e41 => ?_)
      have e41' : gA S 62 (x.toNat - 1) = y41 := by rw [← e41, show (x + -1).toNat = x.toNat - 1 by omega]
      rw [e41'] at m1 W1 hb
      have b48 : y41.toNat < 48 := by omega
      have dw := hL y41.toNat b48 (by omega)
      have t := IG_there H b48 dw
      have ps : pos (upZ M y41.toNat 0) = pos M - 1 := WK_pos hW b48 m1
      have L1 : ∀ y, y < 48 → 0 < upZ M y41.toNat 0 y → DLa f y := fun y hy hm2 => by
        by_cases z : y = y41.toNat
        · rw [z, upZ_s] at hm2; omega
        · rw [upZ_n z] at hm2; exact hL y hy hm2
      have L30 : ∀ (m : Nat) (w k : Int) (Q : MS), Rr Q → gA Q 113 = f → 0 ≤ w → (0 ≤ k ∧ k ≤ (hLa f).2.1 y41.toNat) → WK (hLa f) (upZ M y41.toNat 0) (gA Q 62) w.toNat (fun y => enf (hLa f) y41.toNat k (y : Int)) → (∀ z, UK f p0.toNat z → (p1 ≤ z ∧ z ≤ p2) ∨ UW f (gA Q 62) w.toNat z ∨ UR f y41.toNat k z) → 6 - k < (m : Int) → wp (m_x12_areBetween_L30 (m_x12_areBetween_L10 n) m p1 p2 w y41 k Q) (fun q => Rr q.2 ∧ (q.1 = 0 ∨ (q.1 = 1 ∧ ∀ z, UK f p0.toNat z → p1 ≤ z ∧ z ≤ p2))) := by
        refine fr_ind (fun w k Q hRQ q113 hw hk WQ UQ hm2 => by exfalso; omega) (fun m ihm w k Q hRQ q113 hw hk WQ UQ hm2 => ?_)
        show wp (m_x12_areBetween_b30 (m_x12_areBetween_L10 n) (m_x12_areBetween_L30 (m_x12_areBetween_L10 n) m) p1 p2 w y41 k Q) _
        unfold m_x12_areBetween_b30
        have wl2 := WK_le WQ
        have pb2 := pos_b (upZ M y41.toNat 0)
        refine wp_bn (ld_size hRQ q113 (by omega)) (fun r18 e18 h18 => ?_)
        have v18 := h18.1
        refine wp_rg (by omega) (wp_rg h18.2 (wp_if (fun c2 => ?_) (fun c2 => ?_)))
        · refine ih w Q (upZ M y41.toNat 0) hRQ q113 hw ?_ L1 (fun z hz => ?_) (by omega)
          · refine WK_P WQ (fun y hy => ?_)
            show (0 : Int) = enf (hLa f) y41.toNat k (y : Int)
            rw [enf_end (by omega)]
          · rcases UQ z hz with q | q | ⟨i, a, c, _⟩
            · exact Or.inl q
            · exact Or.inr q
            · omega
        · refine wp_bn (ld_lev hRQ q113 (by omega)) (fun r23 e23 h23 => ?_)
          have v23 := h23.1
          refine wp_rg h23.2 (wp_if (fun c3 => ?_) (fun c3 => ?_))
          · refine wp_bn (ld_key hRQ q113 (by omega) (by omega)) (fun r31 e31 h31 => ?_)
            have v31 := h31.1
            have g31 := h31.2
            refine wp_rg g31 (wp_rg h1 (wp_rg h2 (wp_bn (w_x12_isIn hRQ (by omega) (by omega) (by omega)) (fun r36 e36 h36 => ?_))))
            have h36 : (r36 = 1 ∧ p1 ≤ r31 ∧ r31 ≤ p2) ∨ (r36 = 0 ∧ (r31 < p1 ∨ p2 < r31)) := h36
            refine wp_rg (by omega) (wp_if (fun c4 => wp_some ⟨hRQ, Or.inl rfl⟩) (fun c4 => ?_))
            unfold m_x12_areBetween_J96
            refine ihm w (k + 1) Q hRQ q113 hw (by omega) ?_ (fun z hz => ?_) (by omega)
            · refine WK_P WQ (fun y hy => ?_)
              show enf (hLa f) y41.toNat (k + 1) (y : Int) = enf (hLa f) y41.toNat k (y : Int)
              unfold enf
              rw [if_neg (by omega), if_neg (by omega)]
            · rcases UQ z hz with q | q | q
              · exact Or.inl q
              · exact Or.inr (Or.inl q)
              · rcases UR_step (by omega) q with g | ⟨_, g⟩ | ⟨g, _⟩
                · exact Or.inr (Or.inr g)
                · exact Or.inl (by rw [← g, ← v31]; omega)
                · omega
          · have l0 : 0 < (hLa f).1 y41.toNat := by omega
            refine wp_bn (ld_ent hRQ q113 (by omega) (by omega)) (fun r27 e27 h27 => ?_)
            have v27 := h27.1
            have kd := IG_kid (k := k.toNat) H b48 dw l0 (by omega)
            rw [← v27] at kd
            refine wp_inb (by omega) (wp_stn (fun s29 e29 => ?_))
            have hR29 : Rr s29 := e29 ▸ Rr.uAu hRQ (by show (0 : Int) ≤ r27 ∧ r27 ≤ 47; omega)
            have u62 : gA s29 62 = upZ (gA Q 62) w.toNat r27 := q_AA e29
            have es := fun y : Nat => enf_step (h := hLa f) (p := y41.toNat) (k := k.toNat) (x := (y : Int)) l0 (by omega) (by omega)
            unfold m_x12_areBetween_J96
            refine ihm (w + 1) (k + 1) s29 hR29 ((q_Aa e29 (by decide)).trans q113) (by omega) (by omega) ?_ (fun z hz => ?_) (by omega)
            · rw [u62, show (w + 1).toNat = w.toNat + 1 by omega]
              refine WK_push WQ (by omega) (fun y hy => ?_) (fun y hy => enf_nn _ _ _ _)
              have q := es y
              rw [show ((k.toNat : Nat) : Int) = k by omega, ← v27] at q
              show enf (hLa f) y41.toNat k (y : Int) = enf (hLa f) y41.toNat (k + 1) (y : Int) + (if r27 = (y : Int) then 1 else 0)
              omega
            · rw [u62, show (w + 1).toNat = w.toNat + 1 by omega]
              rcases UQ z hz with q | q | q
              · exact Or.inl q
              · exact Or.inr (Or.inl (UW_push (Or.inl q)))
              · rcases UR_step (by omega) q with g | ⟨g, _⟩ | ⟨_, g⟩
                · exact Or.inr (Or.inr g)
                · omega
                · rw [← v27] at g
                  exact Or.inr (Or.inl (UW_push (Or.inr g)))
      refine L30 FU (x + (-1)) 0 S hRS h113 (by omega) (by omega) ?_ (fun z hz => ?_) (by have := FU_big; omega)
      · rw [show (x + (-1)).toNat = x.toNat - 1 by omega]
        exact W1
      · rw [show (x + (-1)).toNat = x.toNat - 1 by omega]
        rcases hU z hz with q | q
        · exact Or.inl q
        · rcases UW_pop q with g | g
          · exact Or.inr (Or.inl g)
          · rw [e41'] at g
            exact Or.inr (Or.inr (UK_UR H b48 dw g))
    unfold m_x12_areBetween
    refine wp_inb (by omega) (wp_stn (fun s43 e43 => ?_))
    have hR43 : Rr s43 := e43 ▸ Rr.uAu hRs (by show (0 : Int) ≤ p0 ∧ p0 ≤ 47; omega)
    have u62 : gA s43 62 = upZ (gA s 62) 0 p0 := q_AA e43
    have b48 : p0.toNat < 48 := by omega
    have t := IG_there H b48 hd
    have hl : (hLa f).1 p0.toNat = ((((hLa f).1 p0.toNat).toNat : Nat) : Int) := by omega
    have mv := MV_L H b48 hd hl (ko _ hl)
    rw [show ((p0.toNat : Nat) : Int) = p0 by omega] at mv
    refine L10 FU 1 s43 _ hR43 ((q_Aa e43 (by decide)).trans hf.symm) (by omega) (by rw [u62]; exact WK_0 mv hp) (fun y hy hm => (muL_in H _ p0.toNat b48 hd hl y hy hm).1) (fun z hz => Or.inr ⟨0, by decide, ?_⟩) (by have := FU_big; have := pos_b (muL (hLa f) ((hLa f).1 p0.toNat).toNat p0.toNat); omega)
    rw [u62, upZ_s]; exact hz
  exact wp_eq key (fun o eo ho => ⟨ho.1, fr_x12_areBetween eo, ho.2⟩)
/-- what areKeys has seen: keys under the k-th child -/
def KSe (f : Nat → Int) (b : Nat) (k : Nat) : Prop := ∀ z, UK f ((hLa f).2.2 b k).toNat z → (0 < k → kLa f b k ≤ z) ∧ ((k : Int) + 1 < (hLa f).2.1 b → z < kLa f b (k + 1))
theorem KSe_KO {f : Nat → Int} {N E : Int} {b : Nat} (H : IG f N E) (hb : b < 48) (hd : DLa f b) (hl : 0 < (hLa f).1 b) (kids : ∀ k : Nat, (k : Int) < (hLa f).2.1 b → KO f ((hLa f).2.2 b k).toNat) (ks : ∀ k : Nat, (k : Int) < (hLa f).2.1 b → KSe f b k) : KO f b := by
  intro l hl2
  obtain ⟨L, rfl⟩ : ∃ L, l = L + 1 := ⟨l - 1, by omega⟩
  have kd := fun k hk => IG_kid (k := k) H hb hd hl hk
  refine muL_one H hb hd hl2 (fun k hk x hx => kids k hk L ?_ x hx) (fun i j hi hj hij z hz hz2 => ?_)
  · have := (kd k hk).2.1
    omega
  · have li := (kd i hi).2.1
    have lj := (kd j hj).2.1
    have a := ks i hi z ⟨L, by omega, hz⟩
    have c := ks j hj z ⟨L, by omega, hz2⟩
    have a2 := a.2 (by omega)
    have c1 := c.1 (by omega)
    have r := IG_rise H hb hd j (i + 1) (by omega) (by omega) hj
    omega
set_option maxHeartbeats 2000000 in
theorem mt_areKeys {p0 : Int} {s : MS} {N E : Int} (hRs : Rr s) (H : IG (gA s 113) N E) (hp : 0 ≤ p0 ∧ p0 < 48) (hd : DLa (gA s 113) p0.toNat) (hl : 0 < (hLa (gA s 113)).1 p0.toNat) (kids : ∀ k : Nat, (k : Int) < (hLa (gA s 113)).2.1 p0.toNat → KO (gA s 113) ((hLa (gA s 113)).2.2 p0.toNat k).toNat) : wp (m_x12_areKeys p0 s) (fun q => Rr q.2 ∧ F_x12_areKeys s q.2 ∧ (q.1 = 0 ∨ (q.1 = 1 ∧ KO (gA s 113) p0.toNat))) := by
  obtain ⟨f, hf⟩ : ∃ f, f = gA s 113 := ⟨_, rfl⟩
  rw [← hf] at H hd hl kids
  rw [← hf]
  have n48 := H.1
  have hE := H.2.1
  have b48 : p0.toNat < 48 := by omega
  have t := IG_there H b48 hd
  have key : wp (m_x12_areKeys p0 s) (fun q => Rr q.2 ∧ (q.1 = 0 ∨ (q.1 = 1 ∧ KO f p0.toNat))) := by
    unfold m_x12_areKeys
    refine wp_bn (ld_size hRs hf.symm (by omega)) (fun r43 e43 h43 => ?_)
    have v43 := h43.1
    have L9 : ∀ (n : Nat) (k : Int) (S : MS), Rr S → gA S 113 = f → (0 ≤ k ∧ k ≤ r43) → (∀ j : Nat, (j : Int) < k → KSe f p0.toNat j) → 6 - k < (n : Int) → wp (m_x12_areKeys_L9 n p0 r43 k S) (fun q => Rr q.2 ∧ (q.1 = 0 ∨ (q.1 = 1 ∧ KO f p0.toNat))) := by
      refine fr_ind (fun k S hRS h113 hk hK hm => by exfalso; omega) (fun n ih k S hRS h113 hk hK hm => ?_)
      show wp (m_x12_areKeys_b9 (m_x12_areKeys_L9 n) p0 r43 k S) _
      unfold m_x12_areKeys_b9
      refine wp_rg (by omega) (wp_rg h43.2 (wp_if (fun c1 => ?_) (fun c1 => ?_)))
      · unfold m_x12_areKeys_J86
        exact wp_some ⟨hRS, Or.inr ⟨rfl, KSe_KO H b48 hd hl kids (fun j hj => hK j (by omega))⟩⟩
      · refine wp_bn (ld_lev hRS h113 (by omega)) (fun r33 e33 h33 => ?_)
        have v33 := h33.1
        refine wp_rg h33.2 (wp_if (fun c2 => by exfalso; omega) (fun c2 => ?_))
        refine wp_bn (ld_ent hRS h113 (by omega) (by omega)) (fun r37 e37 h37 => ?_)
        have v37 := h37.1
        have kd := IG_kid (k := k.toNat) H b48 hd hl (by omega)
        have kk := kids k.toNat (by omega)
        rw [← v37] at kd kk
        have J72 : ∀ (hi lo : Int), R2 hi → R2 lo → (0 < k → kLa f p0.toNat k.toNat ≤ lo) → (k + 1 < r43 → hi < kLa f p0.toNat (k.toNat + 1)) → wp (m_x12_areKeys_J72 (m_x12_areKeys_L9 n) p0 r43 k hi lo r37 S) (fun q => Rr q.2 ∧ (q.1 = 0 ∨ (q.1 = 1 ∧ KO f p0.toNat))) := by
          intro hi lo ghi glo klo khi
          unfold m_x12_areKeys_J72
          refine wp_bn (mt_areBetween (N := N) (E := E) hRS (by rw [h113]; exact H) (by omega) (by rw [h113]; exact kd.2.2) (by rw [h113]; exact kk) glo ghi) (fun q15 e15 h15 => ?_)
          obtain ⟨r15, s15⟩ := q15
          obtain ⟨hR15, F15, h15⟩ := h15
          dsimp only at hR15 F15 h15 ⊢
          rw [h113] at h15
          refine wp_rg (by omega) (wp_if (fun c3 => wp_some ⟨hR15, Or.inl rfl⟩) (fun c3 => ?_))
          have ub : ∀ z, UK f r37.toNat z → lo ≤ z ∧ z ≤ hi := by
            rcases h15 with q | q
            · omega
            · exact q.2
          refine ih (k + 1) s15 hR15 ((F15.2.1 113 (by decide)).trans h113) (by omega) (fun j hj => ?_) (by omega)
          by_cases z : j = k.toNat
          · rw [z]
            intro y hy
            rw [← v37] at hy
            have u := ub y hy
            exact ⟨fun w => by have := klo (by omega); omega, fun w => by have := khi (by omega); omega⟩
          · exact hK j (by omega)
        have J49 : ∀ lo : Int, R2 lo → (0 < k → kLa f p0.toNat k.toNat ≤ lo) → wp (m_x12_areKeys_J49 (m_x12_areKeys_L9 n) p0 r43 k lo r37 S) (fun q => Rr q.2 ∧ (q.1 = 0 ∨ (q.1 = 1 ∧ KO f p0.toNat))) := by
          intro lo glo klo
          unfold m_x12_areKeys_J49
          refine wp_rg (by omega) (wp_rg h43.2 (wp_if (fun c4 => J72 999 lo (by omega) glo klo (fun w => by omega)) (fun c4 => ?_)))
          refine wp_bn (ld_key5 hRS h113 (by omega) (by omega)) (fun r28 e28 h28 => ?_)
          have v28 := h28.1
          have k28 := t.2.2.2 (k.toNat + 1) (by omega)
          rw [← v28] at k28
          exact J72 (r28 - 1) lo (by omega) glo klo (fun w => by rw [← v28]; omega)
        refine wp_rg (by omega) (wp_if (fun c5 => J49 0 (by omega) (fun w => by omega)) (fun c5 => ?_))
        refine wp_bn (ld_key hRS h113 (by omega) (by omega)) (fun r41 e41 h41 => ?_)
        have v41 := h41.1
        exact J49 r41 h41.2 (fun w => by rw [← v41]; omega)
    exact L9 FU 0 s hRs hf.symm (by omega) (fun j hj => by omega) (by have := FU_big; omega)
  exact wp_eq key (fun o eo ho => ⟨ho.1, fr_x12_areKeys eo, ho.2⟩)
