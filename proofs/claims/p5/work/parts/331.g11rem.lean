/-! ===== to remove ===== -/
theorem TG_dec {h : SH} {ky : Nat → Nat → Int} {N E : Int} {c sv r rs D : Nat → Int} {e : Int} {b : Nat} (H : TG h ky N E c sv r rs D e) (hb : b < 48) (hc : 2 ≤ c b) : TG h ky N E (upZ c b (c b - 1)) sv r rs (fun x => D x - (if x = b then 1 else 0)) e := by
  obtain ⟨⟨a1, a2, a3, a4⟩, ⟨b1, b2⟩, ⟨d1, d2⟩, e0, f1⟩ := H
  have li : ∀ p, 0 < upZ c b (c b - 1) p → 0 < c p := fun p hp => by
    by_cases q : p = b
    · rw [q]; omega
    · rw [upZ_n q] at hp; exact hp
  refine ⟨⟨a1, fun p hp => ?_, a3, a4⟩, ⟨fun x hx => ?_, b2⟩, ⟨fun p hp hpc hpe => d1 p hp (li p hpc) hpe, d2⟩, e0, fun p hp hpc => f1 p hp (hpc.imp (li p) id)⟩
  · by_cases q : p = b
    · subst q
      rw [upZ_s]
      have := a2 p hp
      exact ⟨by omega, fun w => by have := this.2.1 w; omega, fun w => this.2.2 (by omega)⟩
    · rw [upZ_n q]; exact a2 p hp
  · dsimp only
    rw [df_cnt hb, b1 x hx, if_pos (show 0 < c b by omega), if_pos (show 0 < c b - 1 by omega)]
    by_cases q : x = b
    · rw [if_pos q, if_pos q]; omega
    · rw [if_neg q, if_neg q]; omega
theorem en_1 {h : SH} {b : Nat} {x : Int} (hl : 0 < h.1 b) (hz : h.2.1 b = 1) : en h b x = if h.2.2 b 0 = x then 1 else 0 := by
  have e := enf_step (h := h) (p := b) (k := 0) (x := x) hl (by omega) (by omega)
  have e2 : enf h b (((0 : Nat) : Int) + 1) x = 0 := enf_end (by rw [hz]; decide)
  rw [e2] at e
  show enf h b 0 x = _
  have e' : enf h b 0 x = 0 + (if h.2.2 b 0 = x then 1 else 0) := e
  omega
/-- the roots but one stay, and that is one, or none -/
def RW0 (s S : MS) (v : Nat) : Prop := (∀ u, u < 17 → u ≠ v → gA S 49 u = gA s 49 u) ∧ ((0 ≤ gA S 49 v ∧ gA S 49 v < 48) ∨ gA S 49 v = 254)
set_option maxHeartbeats 2000000 in
theorem mt_lowers {p0 : Int} {s0 s : MS} {v : Nat} {M : Nat → Nat → Int} (hR : Rr s) (hv : v < 8) (hp0 : p0 = (v : Int)) (T : TM s d0 (-1)) (P : PM s v M d0 (-1)) (hW : RWn s0 s v) : wp (m_x12_lowers p0 s) (fun o => Rr o ∧ F_x12_lowers s o ∧ (∀ j, 785 ≤ j → gA o 49 j = gA s 49 j) ∧ RT o ∧ RWn s0 o v) := by
  have key : wp (m_x12_lowers p0 s) (fun o => Rr o ∧ (∀ j, 785 ≤ j → gA o 49 j = gA s 49 j) ∧ RT o ∧ RWn s0 o v) := by
    have L7 : ∀ (n : Nat) (b : Int) (S : MS) (M : Nat → Nat → Int), Rr S → (∀ j, 785 ≤ j → gA S 49 j = gA s 49 j) → RWn s0 S v → gA S 49 v = b → TM S d0 (-1) → PM S v M d0 (-1) → (hM S).1 b.toNat < (n : Int) → wp (m_x12_lowers_L7 n p0 b S) (fun o => Rr o ∧ (∀ j, 785 ≤ j → gA o 49 j = gA s 49 j) ∧ RT o ∧ RWn s0 o v) := by
      refine fr_ind (fun b S M hRS hK hWS hb TS PS hm => ?_) (fun n ih b S M hRS hK hWS hb TS PS hm => ?_)
      · exfalso
        have rl := TG_root_live (v := v) TS (fun _ _ => Int.le_refl 0) hv (by rw [rM_v hv]; exact hWS.2.1) (by rw [rM_v hv]; have := hWS.2.2; omega)
        rw [rM_v hv, hb] at rl
        have := TG_lev TS (fun _ _ => Int.le_refl 0) (by have := hWS.2; omega) rl.2
        omega
      · show wp (m_x12_lowers_b7 (m_x12_lowers_L7 n) p0 b S) _
        unfold m_x12_lowers_b7
        have w2 := hWS.2
        rw [hb] at w2
        have rl := TG_root_live (v := v) TS (fun _ _ => Int.le_refl 0) hv (by rw [rM_v hv]; omega) (by rw [rM_v hv]; omega)
        rw [rM_v hv, hb] at rl
        have rm := root_mu hv PS (by omega) (by omega)
        rw [hb] at rm
        have b48 : b.toNat < 48 := by omega
        have hN48 : gA S 39 5 ≤ 48 := TS.1.1
        have lv : 0 ≤ (hM S).1 b.toNat ∧ (hM S).1 b.toNat ≤ 47 := TG_lev TS (fun _ _ => Int.le_refl 0) b48 rl.2
        have fin : wp (m_x12_lowers_J63 S) (fun o => Rr o ∧ (∀ j, 785 ≤ j → gA o 49 j = gA s 49 j) ∧ RT o ∧ RWn s0 o v) := wp_some ⟨hRS, hK, PM_RT (by omega) TS PS, hWS⟩
        refine wp_bn (w_x12_levelOf hRS w2) (fun r11 e11 h11 => ?_)
        have l11 := h11.1
        refine wp_rg h11.2 (wp_if (fun c1 => fin) (fun c1 => ?_))
        refine wp_bn (w_x12_entriesOf hRS w2) (fun r15 e15 h15 => ?_)
        have z15 := h15.1
        refine wp_rg h15.2 (wp_if (fun c2 => ?_) (fun c2 => fin))
        refine wp_bn (w_x12_valueAt hRS w2 (by omega)) (fun r19 e19 h19 => ?_)
        have y19 : (hM S).2.2 b.toNat 0 = r19 := h19.1.symm
        have kid := TG_kid (p := b.toNat) (k := 0) TS (fun _ _ => Int.le_refl 0) b48 rl.2 (by omega) (by omega)
        rw [y19] at kid
        obtain ⟨⟨k0, k1⟩, k2, k3⟩ := kid
        have y48 : r19.toNat < 48 := by omega
        have ne : b.toNat ≠ r19.toNat := fun z => by rw [← z] at k2; omega
        have bd := TG_bd TS b48
        have bd2 := TG_bd TS y48
        have d0b : d0 b.toNat = 0 := rfl
        have d0y : d0 r19.toNat = 0 := rfl
        have ens : ∀ x : Int, en (hM S) b.toNat x = if r19 = x then 1 else 0 := fun x => by rw [en_1 (by omega) (by omega), y19]
        refine wp_bn (w_x12_counts hRS w2 (by omega) (by omega)) (fun s21 e21 h21 => ?_)
        obtain ⟨hR21, u21⟩ := h21
        obtain ⟨x21, c21⟩ := M_cnt b48 u21
        have F21 : F_x12_counts S s21 := fr_x12_counts e21
        have e1 : cM S b.toNat + (-1) = cM S b.toNat - 1 := by omega
        rw [e1] at c21
        -- the row of the tree at hand, without this root
        have PX : ∀ X : MS, CX S X → gA X 39 = gA S 39 → PM X v (upM M v (upZ (M v) b.toNat 0)) (fun x => dq r19.toNat x - dq b.toNat x) (-1) := fun X hX h39 => by
          have P1 := PM_CX PS h39 hX (by omega)
          refine PM_to (q := gA X 49 v) P1 (fun u hu hn G => ?_) (fun x hx => ?_) rfl (fun u _ _ => rfl) rfl
          · have G2 := TG_off (b := b.toNat) G b48 rm
            refine TG_D G2 (fun x hx => ?_)
            show dq r19.toNat x - dq b.toNat x = 0 - (if x = b.toNat then 1 else 0) + en (hM X) b.toNat (x : Int)
            rw [CX_h hX, ens, dd_0 k0]
            show dq r19.toNat x - dq b.toNat x = 0 - dq b.toNat x + dq r19.toNat x
            omega
          · by_cases z : x = b.toNat
            · rw [z, upZ_s]; omega
            · rw [upZ_n z]; exact PS.2 v (by omega) x hx
        have J51 : ∀ X : MS, Rr X → CX S X → gA X 39 = gA S 39 → TM X (fun x => dq r19.toNat x - dq b.toNat x) (-1) → wp (m_x12_lowers_J51 (m_x12_lowers_L7 n) p0 r19 X) (fun o => Rr o ∧ (∀ j, 785 ≤ j → gA o 49 j = gA s 49 j) ∧ RT o ∧ RWn s0 o v) := by
          intro X hRX hX h39 TX
          unfold m_x12_lowers_J51
          refine wp_inb (by omega) (wp_stn (fun s9 e9 => ?_))
          have hR9 : Rr s9 := e9 ▸ Rr.uAu hRX (by show (-2147483648 : Int) ≤ r19 ∧ r19 ≤ 2147483647; omega)
          have u9 : gA s9 49 = upZ (gA X 49) v r19 := by rw [(q_AA e9 : gA s9 49 = _), show p0.toNat = v by omega]
          have a39 : gA s9 39 = gA X 39 := q_Aa e9 (by decide)
          obtain ⟨T9, P9⟩ := MT_root (q := r19) TX (PX X hX h39) hv u9 a39 (Or.inl ⟨k0, by rw [h39]; exact k1⟩)
          obtain ⟨⟨w1, w2'⟩, _⟩ := M_root hv u9
          have dd : ∀ x : Nat, x < 48 → d0 x = dq r19.toNat x - dq b.toNat x + (if gA X 49 v = (x : Int) then 1 else 0) - (if r19 = (x : Int) then 1 else 0) := fun x hx => by
            show (0 : Int) = _
            rw [CX_u hX (by omega), hb, dd_0 k0, dd_0 (by omega)]; omega
          refine ih r19 s9 _ hR9 (fun j hj => ?_) ⟨fun u hu hn => ?_, ?_⟩ ?_ (TG_D T9 dd) (PM_D P9 dd) ?_
          · rw [u9, upZ_n (by omega), CX_n hX hj]; exact hK j hj
          · rw [u9, upZ_n hn, CX_u hX hu]; exact hWS.1 u hu hn
          · rw [u9, upZ_s]; omega
          · rw [u9, upZ_s]
          · rw [w1, CX_h hX]; omega
        refine wp_bn (w_x12_countOf hR21 w2) (fun r23 e23 h23 => ?_)
        have z23 : r23 = cM S b.toNat - 1 := by rw [h23.1, c21, upZ_s]
        refine wp_rg h23.2 (wp_if (fun c3 => ?_) (fun c3 => ?_))
        · refine J51 s21 hR21 x21 (F21.2.1 39 (by decide)) ?_
          have G := TG_off (b := b.toNat) TS b48 (by omega)
          refine TM_CX (s := S) (F21.2.1 39 (by decide)) x21 (by rw [c21, show cM S b.toNat - 1 = 0 by omega]; exact G) (fun x hx => ?_)
          show dq r19.toNat x - dq b.toNat x = 0 - (if x = b.toNat then 1 else 0) + en (hM S) b.toNat (x : Int)
          rw [ens, dd_0 k0]
          show dq r19.toNat x - dq b.toNat x = 0 - dq b.toNat x + dq r19.toNat x
          omega
        · have c21y : cM s21 r19.toNat = cM S r19.toNat := by rw [c21, upZ_n (fun z => ne z.symm)]
          refine wp_bn (w_x12_counts hR21 (by omega) (by omega) (by omega)) (fun s27 e27 h27 => ?_)
          obtain ⟨hR27, u27⟩ := h27
          obtain ⟨x27, c27⟩ := M_cnt y48 u27
          have F27 : F_x12_counts s21 s27 := fr_x12_counts e27
          have G := TG_dec (b := b.toNat) TS b48 (by omega)
          have T21 : TM s21 (fun x => d0 x - (if x = b.toNat then 1 else 0)) (-1) := TM_CX (s := S) (F21.2.1 39 (by decide)) x21 (by rw [c21]; exact G) (fun x hx => rfl)
          have G2 := TG_inc (y := r19.toNat) T21 y48 (by omega)
          refine J51 s27 hR27 (CX_t x21 x27) ((F27.2.1 39 (by decide)).trans (F21.2.1 39 (by decide))) ?_
          refine TM_CX (s := s21) (F27.2.1 39 (by decide)) x27 (by rw [c27]; exact G2) (fun x hx => ?_)
          show dq r19.toNat x - dq b.toNat x = 0 - dq b.toNat x + dq r19.toNat x
          omega
    unfold m_x12_lowers
    refine wp_rdIn (by omega) (fun y28 e28 => ?_)
    have y28' : gA s 49 v = y28 := by rw [← e28, show p0.toNat = v by omega]
    have rl := TG_root_live (v := v) T (fun _ _ => Int.le_refl 0) hv (by rw [rM_v hv]; exact hW.2.1) (by rw [rM_v hv]; have := hW.2.2; omega)
    rw [rM_v hv, y28'] at rl
    have w2 := hW.2
    rw [y28'] at w2
    have lv := TG_lev T (fun _ _ => Int.le_refl 0) (by omega) rl.2
    exact L7 FU y28 s M hR (fun _ _ => rfl) hW y28' T P (by have := FU_big; omega)
  exact wp_eq key (fun q eq hq => ⟨hq.1, fr_x12_lowers eq, hq.2⟩)
/-- a block of one's own -/
def OB_r (S : MS) (v : Nat) (M : Nat → Nat → Int) (b i : Int) : Prop := ((0 ≤ b ∧ b < 48) ∧ cM S b.toNat = 1 ∧ vM S b.toNat = 0) ∧ (hM S).1 b.toNat = i ∧ (M v b.toNat = 1 ∧ ∀ u, u < 16 → u ≠ v → M u b.toNat = 0)
/-- the way down: blocks of one's own, each naming the next -/
def WY (S : MS) (v : Nat) (M : Nat → Nat → Int) (L b n : Int) : Prop := (∀ j : Nat, (j : Int) < n → OB_r S v M (gA S 57 j) (L - (j : Int)) ∧ (0 ≤ gA S 58 j ∧ gA S 58 j < (hM S).2.1 (gA S 57 j).toNat) ∧ (hM S).2.2 (gA S 57 j).toNat (gA S 58 j).toNat = (if (j : Int) + 1 = n then b else gA S 57 (j + 1))) ∧ gA S 49 v = (if n = 0 then b else gA S 57 0)
/-- blocks above a level are as they were -/
def UP (S X : MS) (v : Nat) (M M' : Nat → Nat → Int) (l : Int) : Prop := ∀ x, x < 48 → cM S x = 1 → l < (hM S).1 x → (cM X x = cM S x ∧ vM X x = vM S x ∧ (hM X).1 x = (hM S).1 x ∧ (hM X).2.1 x = (hM S).2.1 x ∧ ∀ k, k < 6 → (hM X).2.2 x k = (hM S).2.2 x k) ∧ ∀ u, M' u x = M u x
theorem OB_up {S X : MS} {v : Nat} {M M' : Nat → Nat → Int} {l b i : Int} (H : OB_r S v M b i) (U : UP S X v M M' l) (hl : l < i) : OB_r X v M' b i := by
  obtain ⟨⟨h1, h2, h3⟩, h4, h5, h6⟩ := H
  obtain ⟨⟨u1, u2, u3, u4, u5⟩, u6⟩ := U b.toNat (by omega) h2 (by omega)
  exact ⟨⟨h1, by rw [u1]; exact h2, by rw [u2]; exact h3⟩, by rw [u3]; exact h4, by rw [u6]; exact h5, fun u hu hn => by rw [u6]; exact h6 u hu hn⟩
theorem WY_up {S X : MS} {v : Nat} {M M' : Nat → Nat → Int} {L b n l : Int} (H : WY S v M L b n) (T6 : ∀ x, x < 48 → cM S x = 1 → (hM S).2.1 x ≤ 6) (h57 : gA X 57 = gA S 57) (h58 : gA X 58 = gA S 58) (hrt : gA X 49 v = gA S 49 v) (U : UP S X v M M' l) (hl : l ≤ L - n) : WY X v M' L b n := by
  refine ⟨fun j hj => ?_, by rw [h57, hrt]; exact H.2⟩
  rw [h57, h58]
  obtain ⟨a, b1, c⟩ := H.1 j hj
  have a' := OB_up a U (by omega)
  obtain ⟨⟨q1, q2, q3⟩, q4, _⟩ := a
  obtain ⟨⟨u1, u2, u3, u4, u5⟩, u6⟩ := U (gA S 57 j).toNat (by omega) q2 (by omega)
  have t6 := T6 (gA S 57 j).toNat (by omega) q2
  refine ⟨a', by rw [u4]; exact b1, ?_⟩
  rw [u5 (gA S 58 j).toNat (by omega)]; exact c
theorem WY_push {S X : MS} {v : Nat} {M : Nat → Nat → Int} {L b n k y : Int} (H : WY S v M L b n) (hn : 0 ≤ n) (h57 : gA X 57 = upZ (gA S 57) n.toNat b) (h58 : gA X 58 = upZ (gA S 58) n.toNat k) (h49 : gA X 49 = gA S 49) (hb : OB_r S v M b (L - n)) (hk : 0 ≤ k ∧ k < (hM S).2.1 b.toNat) (hy : (hM S).2.2 b.toNat k.toNat = y) : WY X v M L y (n + 1) := by
  obtain ⟨e1, e2, e3, e4⟩ := eq49 h49
  have ob : ∀ z i, OB_r S v M z i → OB_r X v M z i := fun z i h => by
    unfold OB_r at h ⊢
    rw [e1, e3, e4]; exact h
  refine ⟨fun j hj => ?_, ?_⟩
  · by_cases z : j = n.toNat
    · rw [z, h57, h58, upZ_s, upZ_s, e1, show ((n.toNat : Nat) : Int) = n by omega]
      refine ⟨ob _ _ hb, hk, ?_⟩
      rw [if_pos rfl]; exact hy
    · obtain ⟨a, b1, c⟩ := H.1 j (by omega)
      rw [h57, h58, upZ_n z, upZ_n z, e1]
      refine ⟨ob _ _ a, b1, ?_⟩
      rw [if_neg (show ¬ (j : Int) + 1 = n + 1 by omega), c]
      by_cases w : (j : Int) + 1 = n
      · rw [if_pos w, show j + 1 = n.toNat by omega, upZ_s]
      · rw [if_neg w, upZ_n (by omega)]
  · rw [if_neg (show ¬ n + 1 = 0 by omega), h49, H.2, h57]
    by_cases w : n = 0
    · rw [if_pos w, w]; show b = upZ (gA S 57) 0 b 0; rw [upZ_s]
    · rw [if_neg w, upZ_n (by omega)]
