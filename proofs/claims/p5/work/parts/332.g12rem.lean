/-! ===== to remove, from the root on ===== -/
theorem T_6 {S : MS} {D : Nat → Int} {e : Int} (T : TM S D e) : ∀ x, x < 48 → cM S x = 1 → (hM S).2.1 x ≤ 6 := fun x hx hc => (TG_nd T hx (by omega)).2.1.2
/-- a block is empty: it has no count more -/
theorem MT_kill {S X : MS} {v b : Nat} {M : Nat → Nat → Int} (T : TM S d0 (b : Int)) (P : PM S v M d0 (b : Int)) (hv : v < 16) (hb : b < 48) (hc : cM S b = 1) (hm : M v b = 1) (hz : (hM S).2.1 b = 0) (hX : CX S X) (c : cM X = upZ (cM S) b 0) (h39 : gA X 39 = gA S 39) : TM X (fun x => 0 - dq b x) (-1) ∧ PM X v (upM M v (upZ (M v) b 0)) (fun x => 0 - dq b x) (-1) := by
  constructor
  · have G := TG_kill (e' := -1) T hb hc hz (fun p hp => Or.inr (by omega))
    exact TM_CX (s := S) h39 hX (by rw [c]; exact G) (fun x hx => rfl)
  · have P1 := PM_CX P h39 hX hv
    refine PM_to (q := gA X 49 v) P1 (fun u hu hn G => ?_) (fun x hx => ?_) rfl (fun u _ _ => rfl) rfl
    · have G2 := TG_kill (e' := -1) G hb hm (by rw [CX_h hX]; exact hz) (fun p hp => Or.inr (by omega))
      exact TG_D G2 (fun x hx => rfl)
    · by_cases z : x = b
      · rw [z, upZ_s]; omega
      · rw [upZ_n z]; exact P.2 v hv x hx
/-- an entry is cut: trees -/
theorem MT_del {s o : MS} {v b k : Nat} {M : Nat → Nat → Int} {D : Nat → Int} (T : TM s D (-1)) (P : PM s v M D (-1)) (I : DelE s o b k) (h39 : gA o 39 = gA s 39) (hvv : v < 16) (hb : b < 48) (hc : 0 < cM s b) (hv0 : vM s b ≤ 0) (hm : 0 < M v b) (hmu : ∀ u, u < 16 → u ≠ v → M u b ≤ 0) (hk : (k : Int) < (hM s).2.1 b) : TM o (fun x => D x + (if 0 < (hM s).1 b ∧ (hM s).2.2 b k = (x : Int) then 1 else 0)) (b : Int) ∧ PM o v M (fun x => D x + (if 0 < (hM s).1 b ∧ (hM s).2.2 b k = (x : Int) then 1 else 0)) (b : Int) := by
  obtain ⟨iB, iz, ilo, ihi⟩ := I
  have step : ∀ {c sv r2 rs2 : Nat → Int}, TG (hM s) (kM s) (gA s 39 5) (gA s 39 6) c sv r2 rs2 D (-1) → 0 < c b → sv b ≤ 0 → TG (hM o) (kM o) (gA s 39 5) (gA s 39 6) c sv r2 rs2 (fun x => D x + (if 0 < (hM s).1 b ∧ (hM s).2.2 b k = (x : Int) then 1 else 0)) (b : Int) := fun G g1 g2 => TG_del (h' := hM o) (ky' := kM o) G hb g2 g1 (BX_s iB) (by rw [BX_l iB]) iz hk ilo ihi
  refine ⟨TM_mk (step T hc hv0) rfl rfl (by rw [h39]) (by rw [h39]) (BX_c iB) (BX_v iB) (BX_r iB) (BX_rs iB), ?_⟩
  exact PM_to0 (q := gA s 49 v) P (fun u hu hn G => step G hm (hmu u hu hn)) h39 (fun u hu _ => BX_u iB (by omega)) (BX_u iB (by omega))
theorem UP_BX {S X : MS} {v b : Nat} {M : Nat → Nat → Int} {l : Int} (iB : BX S X b) (hl : (hM S).1 b ≤ l) : UP S X v M M l := fun x hx hc hlx => by
  have ne : x ≠ b := fun z => by rw [z] at hlx; omega
  exact ⟨⟨by rw [BX_c iB], by rw [BX_v iB], by rw [BX_l iB], BX_z iB ne, fun k _ => (BX_e iB ne).1⟩, fun u => rfl⟩
theorem UP_tr {S X Y : MS} {v : Nat} {M M' M2 : Nat → Nat → Int} {l : Int} (h1 : UP S X v M M' l) (h2 : UP X Y v M' M2 l) : UP S Y v M M2 l := fun x hx hc hlx => by
  obtain ⟨⟨a1, a2, a3, a4, a5⟩, a6⟩ := h1 x hx hc hlx
  obtain ⟨⟨b1, b2, b3, b4, b5⟩, b6⟩ := h2 x hx (by rw [a1]; exact hc) (by rw [a3]; exact hlx)
  exact ⟨⟨b1.trans a1, b2.trans a2, b3.trans a3, b4.trans a4, fun k hk => (b5 k hk).trans (a5 k hk)⟩, fun u => (b6 u).trans (a6 u)⟩
set_option maxHeartbeats 4000000 in
theorem mt_removes {p0 p1 : Int} {s : MS} {v : Nat} (hR : Rr s) (hv : v < 8) (hp0 : p0 = (v : Int)) (H : RT s) (hC0 : CE s 0) (hE : 3 ≤ gA s 39 6 ∧ gA s 39 6 ≤ 6) (hf : gI s 55 = 0) (hrt : 0 ≤ gA s 49 v ∧ gA s 49 v < 254) (h1 : R2 p1) : wp (m_x12_removes p0 p1 s) (fun o => Rr o ∧ F_x12_removes s o ∧ (∀ j, 785 ≤ j → gA o 49 j = gA s 49 j) ∧ (gI o 55 = 1 ∨ (gI o 55 = 0 ∧ RT o ∧ RW0 s o v))) := by
  obtain ⟨M0, P0⟩ := RT_PM v (by omega) H
  have T0 : TM s d0 (-1) := H.1
  have hN48 : gA s 39 5 ≤ 48 := T0.1.1
  have key : wp (m_x12_removes p0 p1 s) (fun o => Rr o ∧ (∀ j, 785 ≤ j → gA o 49 j = gA s 49 j) ∧ (gI o 55 = 1 ∨ (gI o 55 = 0 ∧ RT o ∧ RW0 s o v))) := by
    -- the end
    have J182 : ∀ (b : Int) (S : MS) (M : Nat → Nat → Int), Rr S → KS s S → gI S 55 = 0 → (∀ u, u < 17 → u ≠ v → gA S 49 u = gA s 49 u) → (0 ≤ gA S 49 v ∧ gA S 49 v < 48) → TM S d0 b → PM S v M d0 b → ((0 ≤ b ∧ b < 48) ∧ cM S b.toNat = 1 ∧ M v b.toNat = 1) → ((hM S).2.1 b.toNat = 0 → gA S 49 v = b) → wp (m_x12_removes_J182 p0 b S) (fun o => Rr o ∧ (∀ j, 785 ≤ j → gA o 49 j = gA s 49 j) ∧ (gI o 55 = 1 ∨ (gI o 55 = 0 ∧ RT o ∧ RW0 s o v))) := by
      intro b S M hRS hK f55 hU hW TS PS hb hrb
      obtain ⟨hb, bc, bm⟩ := hb
      have b48 : b.toNat < 48 := by omega
      unfold m_x12_removes_J182
      refine wp_bn (w_x12_entriesOf hRS hb) (fun r5 e5 h5 => ?_)
      have z5 := h5.1
      refine wp_rg h5.2 (wp_if (fun c1 => ?_) (fun c1 => ?_))
      · have rb := hrb (by omega)
        refine wp_bn (w_x12_counts hRS hb (by omega) (by omega)) (fun s11 e11 h11 => ?_)
        obtain ⟨hR11, u11⟩ := h11
        obtain ⟨x11, c11⟩ := M_cnt b48 u11
        have F11 : F_x12_counts S s11 := fr_x12_counts e11
        have TS' : TM S d0 ((b.toNat : Nat) : Int) := by rw [show ((b.toNat : Nat) : Int) = b by omega]; exact TS
        have PS' : PM S v M d0 ((b.toNat : Nat) : Int) := by rw [show ((b.toNat : Nat) : Int) = b by omega]; exact PS
        obtain ⟨T1, P1⟩ := MT_kill (b := b.toNat) TS' PS' (by omega) b48 bc bm (by omega) x11 (by rw [c11, bc]; rfl) (F11.2.1 39 (by decide))
        refine wp_inb (by omega) (wp_stn (fun s13 e13 => ?_))
        have hR13 : Rr s13 := e13 ▸ Rr.uAu hR11 (by show (-2147483648 : Int) ≤ 254 ∧ (254 : Int) ≤ 2147483647; omega)
        have u13 : gA s13 49 = upZ (gA s11 49) v 254 := by rw [(q_AA e13 : gA s13 49 = _), show p0.toNat = v by omega]
        obtain ⟨T2, P2⟩ := MT_root (q := 254) T1 P1 hv u13 (q_Aa e13 (by decide)) (Or.inr (Or.inr (by omega)))
        have dd : ∀ x : Nat, x < 48 → d0 x = 0 - dq b.toNat x + (if gA s11 49 v = (x : Int) then 1 else 0) - (if (254 : Int) = (x : Int) then 1 else 0) := fun x hx => by
          show (0 : Int) = _
          rw [CX_u x11 (by omega), rb, dd_0 hb.1, if_neg (show ¬ (254 : Int) = (x : Int) by omega)]; omega
        refine wp_some ⟨hR13, fun j hj => ?_, Or.inr ⟨(q_Ai e13).trans ((F11.1 55 (by decide)).trans f55), PM_RT (by omega) (TG_D T2 dd) (PM_D P2 dd), fun u hu hn => ?_, Or.inr ?_⟩⟩
        · rw [u13, upZ_n (by omega), CX_n x11 hj]; exact hK.2 j hj
        · rw [u13, upZ_n hn, CX_u x11 hu]; exact hU u hu hn
        · rw [u13, upZ_s]
      · have ne : ∀ p : Nat, p < 48 → (p : Int) = b → 1 ≤ (hM S).2.1 p := fun p hp hq => by
          have := (TG_nd TS b48 (by omega)).2.1
          rw [show p = b.toNat by omega]; omega
        have T1 : TM S d0 (-1) := TG_ne TS ne
        have P1 : PM S v M d0 (-1) := ⟨fun u hu hn => TG_ne (PS.1 u hu hn) ne, PS.2⟩
        refine wp_bn (mt_lowers (s0 := s) hRS hv hp0 T1 P1 ⟨hU, hW⟩) (fun s9 e9 h9 => ?_)
        obtain ⟨hR9, F9, k9, R9, W9⟩ := h9
        exact wp_some ⟨hR9, fun j hj => by rw [k9 j hj]; exact hK.2 j hj, Or.inr ⟨(F9.1 55 (by decide)).trans f55, R9, W9.1, Or.inl W9.2⟩⟩
    -- the way back up
    have L137 : ∀ (m : Nat) (b n L : Int) (S : MS) (M : Nat → Nat → Int), Rr S → KS s S → gI S 55 = 0 → (∀ u, u < 17 → u ≠ v → gA S 49 u = gA s 49 u) → (0 ≤ gA S 49 v ∧ gA S 49 v < 48) → (0 ≤ n ∧ n ≤ 47) → TM S d0 b → PM S v M d0 b → OB_r S v M b (L - n) → WY S v M L b n → n < (m : Int) → wp (m_x12_removes_L137 m p0 b n S) (fun o => Rr o ∧ (∀ j, 785 ≤ j → gA o 49 j = gA s 49 j) ∧ (gI o 55 = 1 ∨ (gI o 55 = 0 ∧ RT o ∧ RW0 s o v))) := by
      refine fr_ind (fun b n L S M hRS hK f55 hU hW hn TS PS hO hY hm => by exfalso; omega) (fun m ih b n L S M hRS hK f55 hU hW hn TS PS hO hY hm => ?_)
      show wp (m_x12_removes_b137 (m_x12_removes_L137 m) p0 b n S) _
      unfold m_x12_removes_b137
      obtain ⟨⟨hb, bc, bv⟩, bl, bm, bmu⟩ := hO
      have b48 : b.toNat < 48 := by omega
      refine wp_bn (w_x12_entriesOf hRS hb) (fun r19 e19 h19 => ?_)
      have z19 := h19.1
      refine wp_rg h19.2 (wp_if (fun c1 => ?_) (fun c1 => ?_))
      · refine wp_rg (by omega) (wp_if (fun c2 => ?_) (fun c2 => ?_))
        · refine J182 b S M hRS hK f55 hU hW TS PS ⟨hb, bc, bm⟩ (fun _ => ?_)
          rw [hY.2, if_pos (by omega)]
        · refine wp_bn (w_x12_counts hRS hb (by omega) (by omega)) (fun s25 e25 h25 => ?_)
          obtain ⟨hR25, u25⟩ := h25
          obtain ⟨x25, c25⟩ := M_cnt b48 u25
          have F25 : F_x12_counts S s25 := fr_x12_counts e25
          have TS' : TM S d0 ((b.toNat : Nat) : Int) := by rw [show ((b.toNat : Nat) : Int) = b by omega]; exact TS
          have PS' : PM S v M d0 ((b.toNat : Nat) : Int) := by rw [show ((b.toNat : Nat) : Int) = b by omega]; exact PS
          have c25' : cM s25 = upZ (cM S) b.toNat 0 := by rw [c25, bc]; rfl
          obtain ⟨T1, P1⟩ := MT_kill (b := b.toNat) TS' PS' (by omega) b48 bc bm (by omega) x25 c25' (F25.2.1 39 (by decide))
          have a57 : gA s25 57 = gA S 57 := F25.2.1 57 (by decide)
          have a58 : gA s25 58 = gA S 58 := F25.2.1 58 (by decide)
          have U1 : UP S s25 v M (upM M v (upZ (M v) b.toNat 0)) (L - n) := fun x hx hc hlx => by
            have ne : x ≠ b.toNat := fun z => by rw [z] at hlx; omega
            refine ⟨⟨by rw [c25', upZ_n ne], by rw [CX_v x25], by rw [CX_h x25], by rw [CX_h x25], fun k _ => by rw [CX_h x25]⟩, fun u => ?_⟩
            by_cases z : u = v
            · rw [z, upM_s, upZ_n ne]
            · rw [upM_n z]
          have Y1 := WY_up hY (T_6 TS) a57 a58 (CX_u x25 (by omega)) U1 (Int.le_refl _)
          have yl := Y1.1 (n - 1).toNat (by omega)
          rw [if_pos (by omega)] at yl
          refine wp_rdIn (by omega) (fun y26 e26 => ?_)
          refine wp_rdIn (by omega) (fun y27 e27 => ?_)
          have i26 : (n + (-1)).toNat = (n - 1).toNat := by omega
          rw [i26] at e26 e27
          rw [e26, e27] at yl
          obtain ⟨yo, yk, ye⟩ := yl
          have yo' := yo
          obtain ⟨⟨ya, yc, yv⟩, yL, ym, ymu⟩ := yo
          have y48 : y26.toNat < 48 := by omega
          have n6 := T_6 T1 y26.toNat y48 yc
          refine wp_bn (w_x12_cutsEntry hR25 ya (by omega) (by omega)) (fun s29 e29 h29 => ?_)
          obtain ⟨hR29, F29, k, k1, k2, D29⟩ := h29
          have kk : k = y27.toNat := k2 (by omega)
          rw [kk] at D29
          obtain ⟨T2, P2⟩ := MT_del (b := y26.toNat) (k := y27.toNat) T1 P1 D29 (F29.2.1 39 (by decide)) (by omega) y48 (by omega) (by omega) (by omega) (fun u hu hn => by rw [ymu u hu hn]; omega) (by omega)
          have dd : ∀ x : Nat, x < 48 → d0 x = 0 - dq b.toNat x + (if 0 < (hM s25).1 y26.toNat ∧ (hM s25).2.2 y26.toNat y27.toNat = (x : Int) then 1 else 0) := fun x hx => by
            show (0 : Int) = _
            rw [ye]
            have lp : 0 < (hM s25).1 y26.toNat := by
              have := (TG_nd TS b48 (by omega)).1
              omega
            by_cases z : b = (x : Int)
            · rw [if_pos ⟨lp, z⟩]; unfold dq; rw [if_pos (by omega)]; omega
            · rw [if_neg (fun w => z w.2)]; unfold dq; rw [if_neg (by omega)]; omega
          have iB := D29.1
          have T3 : TM s29 d0 y26 := by
            have := TG_D T2 dd
            rw [show ((y26.toNat : Nat) : Int) = y26 by omega] at this
            exact this
          have P3 : PM s29 v (upM M v (upZ (M v) b.toNat 0)) d0 y26 := by
            have := PM_D P2 dd
            rw [show ((y26.toNat : Nat) : Int) = y26 by omega] at this
            exact this
          have Y2 : WY s25 v (upM M v (upZ (M v) b.toNat 0)) L y26 (n - 1) := by
            refine ⟨fun j hj => ?_, ?_⟩
            · obtain ⟨q1, q2, q3⟩ := Y1.1 j (by omega)
              refine ⟨q1, q2, ?_⟩
              rw [if_neg (by omega)] at q3
              rw [q3]
              by_cases w : (j : Int) + 1 = n - 1
              · rw [if_pos w, show j + 1 = (n - 1).toNat by omega]; exact e26
              · rw [if_neg w]
            · rw [Y1.2, if_neg (by omega)]
              by_cases w : n - 1 = 0
              · rw [if_pos w, show (0 : Nat) = (n - 1).toNat by omega]; exact e26
              · rw [if_neg w]
          have U2 : UP s25 s29 v (upM M v (upZ (M v) b.toNat 0)) (upM M v (upZ (M v) b.toNat 0)) (L - (n - 1)) := UP_BX iB (by omega)
          have Y3 := WY_up Y2 (T_6 T1) (F29.2.1 57 (by decide)) (F29.2.1 58 (by decide)) (BX_u iB (by omega)) U2 (Int.le_refl _)
          have K3 : KS s s29 := KS_t hK ⟨⟨(F29.2.1 39 (by decide)).trans (F25.2.1 39 (by decide)), (F29.2.1 42 (by decide)).trans (F25.2.1 42 (by decide)), (F29.2.1 43 (by decide)).trans (F25.2.1 43 (by decide)), (F29.2.1 44 (by decide)).trans (F25.2.1 44 (by decide))⟩, fun j hj => by rw [BX_k iB y48 hj, CX_n x25 hj]⟩
          refine ih y26 (n + (-1)) L s29 _ hR29 K3 ((F29.1 55 (by decide)).trans ((F25.1 55 (by decide)).trans f55)) (fun u hu hn => by rw [BX_u iB hu, CX_u x25 hu]; exact hU u hu hn) (by rw [BX_u iB (by omega), CX_u x25 (by omega)]; exact hW) (by omega) T3 P3 ⟨⟨ya, by rw [BX_c iB]; exact yc, by rw [BX_v iB]; exact yv⟩, by rw [BX_l iB, yL]; omega, ym, ymu⟩ (by rw [show n + (-1) = n - 1 by omega]; exact Y3) (by omega)
      · exact J182 b S M hRS hK f55 hU hW TS PS ⟨hb, bc, bm⟩ (fun w => by omega)
    -- the leaf
    have J118 : ∀ (b n L : Int) (S : MS), Rr S → KS s S → (gI S 55 = 1 ∨ (gI S 55 = 0 ∧ (∀ u, u < 17 → u ≠ v → gA S 49 u = gA s 49 u) ∧ (0 ≤ gA S 49 v ∧ gA S 49 v < 48) ∧ (0 ≤ n ∧ n ≤ 47) ∧ L - n ≤ 0 ∧ ∃ M, TM S d0 (-1) ∧ PM S v M d0 (-1) ∧ OB_r S v M b (L - n) ∧ WY S v M L b n)) → wp (m_x12_removes_J118 p0 p1 b n S) (fun o => Rr o ∧ (∀ j, 785 ≤ j → gA o 49 j = gA s 49 j) ∧ (gI o 55 = 1 ∨ (gI o 55 = 0 ∧ RT o ∧ RW0 s o v))) := by
      intro b n L S hRS hK hG
      unfold m_x12_removes_J118
      have r55 : (0 : Int) ≤ gI S 55 ∧ gI S 55 ≤ 1 := hRS.1 55
      refine wp_rg (by omega) (wp_if (fun c1 => ?_) (fun c1 => wp_some ⟨hRS, hK.2, Or.inl (by omega)⟩))
      rcases hG with hG | ⟨f55, hU, hW, hn, hl, M, TS, PS, hO, hY⟩
      · omega
      obtain ⟨⟨hb, bc, bv⟩, bl, bm, bmu⟩ := hO
      have b48 : b.toNat < 48 := by omega
      have na := (TG_nd TS b48 (by omega)).2.1
      have n1 : 1 ≤ (hM S).2.1 b.toNat := TS.2.2.1.1 b.toNat b48 (by omega) (by omega)
      refine wp_bn (w_x12_placeIn hRS hb h1 na) (fun r38 e38 h38 => ?_)
      refine wp_bn (w_x12_cutsEntry hRS hb h38 (by omega)) (fun s40 e40 h40 => ?_)
      obtain ⟨hR40, F40, k, k1, k2, D40⟩ := h40
      obtain ⟨T2, P2⟩ := MT_del (b := b.toNat) (k := k) TS PS D40 (F40.2.1 39 (by decide)) (by omega) b48 (by omega) (by omega) (by omega) (fun u hu hn => by rw [bmu u hu hn]; omega) k1
      have dd : ∀ x : Nat, x < 48 → d0 x = d0 x + (if 0 < (hM S).1 b.toNat ∧ (hM S).2.2 b.toNat k = (x : Int) then 1 else 0) := fun x hx => by
        rw [if_neg (fun w => by omega)]; omega
      have iB := D40.1
      have T3 : TM s40 d0 b := by
        have := TG_D T2 dd
        rw [show ((b.toNat : Nat) : Int) = b by omega] at this
        exact this
      have P3 : PM s40 v M d0 b := by
        have := PM_D P2 dd
        rw [show ((b.toNat : Nat) : Int) = b by omega] at this
        exact this
      have Y3 := WY_up hY (T_6 TS) (F40.2.1 57 (by decide)) (F40.2.1 58 (by decide)) (BX_u iB (by omega)) (UP_BX (v := v) (M := M) iB (by omega)) (Int.le_refl _)
      have K3 : KS s s40 := KS_t hK ⟨⟨F40.2.1 39 (by decide), F40.2.1 42 (by decide), F40.2.1 43 (by decide), F40.2.1 44 (by decide)⟩, fun j hj => BX_k iB b48 hj⟩
      exact L137 FU b n L s40 M hR40 K3 ((F40.1 55 (by decide)).trans f55) (fun u hu hn => by rw [BX_u iB hu]; exact hU u hu hn) (by rw [BX_u iB (by omega)]; exact hW) hn T3 P3 ⟨⟨hb, by rw [BX_c iB]; exact bc, by rw [BX_v iB]; exact bv⟩, by rw [BX_l iB]; exact bl, bm, bmu⟩ Y3 (by have := FU_big; omega)
    -- the way down
    have L29 : ∀ (m : Nat) (b n L : Int) (S : MS), Rr S → KS s S → (0 ≤ n ∧ n ≤ 47 ∧ L ≤ 47 ∧ 0 ≤ L - n) → (gI S 55 = 1 ∨ (gI S 55 = 0 ∧ (∀ u, u < 17 → u ≠ v → gA S 49 u = gA s 49 u) ∧ (0 ≤ gA S 49 v ∧ gA S 49 v < 48) ∧ ∃ M, TM S d0 (-1) ∧ PM S v M d0 (-1) ∧ OB_r S v M b (L - n) ∧ WY S v M L b n)) → L - n < (m : Int) → wp (m_x12_removes_L29 m p0 p1 b n S) (fun o => Rr o ∧ (∀ j, 785 ≤ j → gA o 49 j = gA s 49 j) ∧ (gI o 55 = 1 ∨ (gI o 55 = 0 ∧ RT o ∧ RW0 s o v))) := by
      refine fr_ind (fun b n L S hRS hK hn hG hm => by exfalso; omega) (fun m ih b n L S hRS hK hn hG hm => ?_)
      show wp (m_x12_removes_b29 (m_x12_removes_L29 m) p0 p1 b n S) _
      unfold m_x12_removes_b29
      have r55 : (0 : Int) ≤ gI S 55 ∧ gI S 55 ≤ 1 := hRS.1 55
      refine wp_rg (by omega) (wp_if (fun c1 => ?_) (fun c1 => J118 b n L S hRS hK (Or.inl (by omega))))
      rcases hG with hG | ⟨f55, hU, hW, M, T, P, hO, hY⟩
      · omega
      have hO0 := hO
      obtain ⟨⟨ha, a54, a55⟩, a56, am, amu⟩ := hO
      have ha48 : b.toNat < 48 := by omega
      have S39 := hK.1.1
      have na := (TG_nd T ha48 (by omega)).2.1
      have n1 : 1 ≤ (hM S).2.1 b.toNat := T.2.2.1.1 b.toNat ha48 (by omega) (by omega)
      refine wp_bn (w_x12_levelOf hRS ha) (fun r60 e60 h60 => ?_)
      have l60 : r60 = L - n := by rw [h60.1]; exact a56
      refine wp_rg h60.2 (wp_if (fun c2 => J118 b n L S hRS hK (Or.inr ⟨f55, hU, hW, by omega, by omega, M, T, P, hO0, hY⟩)) (fun c2 => ?_))
      refine wp_bn (w_x12_placeFor hRS ha h1 na) (fun r64 e64 h64 => ?_)
      have k64 : 0 ≤ r64 ∧ r64 < (hM S).2.1 b.toNat := by omega
      refine wp_bn (w_x12_valueAt hRS ha (by omega)) (fun r66 e66 h66 => ?_)
      have y66 := h66.1
      have kid := TG_kid (p := b.toNat) (k := r64.toNat) T (fun _ _ => Int.le_refl 0) ha48 (by omega) (by omega) (by omega)
      have km := kid_mu (k := r64.toNat) hv P ha48 (by omega) (by omega) (by omega)
      have ke := enf_pos (h := hM S) (p := b.toNat) (k := r64.toNat) (i := 0) (by omega) (by omega) (by omega) (by omega)
      rw [← y66] at kid km ke
      obtain ⟨⟨k0, k1⟩, k2, k3⟩ := kid
      have hNS : gA S 39 5 ≤ 48 := T.1.1
      have y48 : r66.toNat < 48 := by omega
      have ke' : 0 < en (hM S) b.toNat ((r66.toNat : Nat) : Int) := by
        rw [show ((r66.toNat : Nat) : Int) = r66 by omega]
        have : 1 ≤ en (hM S) b.toNat r66 := ke
        omega
      refine wp_bn (mt_owned (M := M) hRS hv T P (KS_CE hK hC0) (by rw [S39]; omega) c1 (by omega) k3 km (own_x hv T P y48 (Or.inr ⟨b.toNat, ha48, by omega, ke', fun u hu hn => by rw [amu u hu hn]; omega⟩))) (fun q69 e69 h69 => ?_)
      obtain ⟨r, o⟩ := q69
      dsimp only at h69 ⊢
      obtain ⟨hRo, Fo, ko, h69⟩ := h69
      have KSo : KS S o := ⟨⟨Fo.2.1 39 (by decide), Fo.2.1 42 (by decide), Fo.2.1 43 (by decide), Fo.2.1 44 (by decide)⟩, ko⟩
      have KSo' : KS s o := KS_t hK KSo
      have hr2 : R2 r := by
        rcases h69 with h69 | ⟨_, w0, M', ⟨⟨w1, _⟩, _⟩, _⟩ <;> omega
      have hr47 : gI o 55 = 1 → r = r66 := fun w => by
        rcases h69 with h69 | ⟨w2, _⟩
        · exact h69.2
        · omega
      have J92 : ∀ (X : MS), Rr X → KS s X → (0 ≤ r ∧ r < 48) → (gI X 55 = 1 ∨ (gI X 55 = 0 ∧ (∀ u, u < 17 → u ≠ v → gA X 49 u = gA s 49 u) ∧ (0 ≤ gA X 49 v ∧ gA X 49 v < 48) ∧ ∃ M', TM X d0 (-1) ∧ PM X v M' d0 (-1) ∧ OB_r X v M' b (L - n) ∧ r64 < (hM X).2.1 b.toNat ∧ (hM X).2.2 b.toNat r64.toNat = r ∧ OB_r X v M' r (L - n - 1) ∧ WY X v M' L b n)) → wp (m_x12_removes_J92 (m_x12_removes_L29 m) p0 p1 b n r64 r X) (fun o => Rr o ∧ (∀ j, 785 ≤ j → gA o 49 j = gA s 49 j) ∧ (gI o 55 = 1 ∨ (gI o 55 = 0 ∧ RT o ∧ RW0 s o v))) := by
        intro X hRX hKX hr48 hGX
        unfold m_x12_removes_J92
        refine wp_inb (by omega) (wp_stn (fun s54 e54 => ?_))
        have hR54 : Rr s54 := e54 ▸ Rr.uAu hRX (by show (0 : Int) ≤ b ∧ b ≤ 47; omega)
        refine wp_inb (by omega) (wp_stn (fun s56 e56 => ?_))
        have hR56 : Rr s56 := e56 ▸ Rr.uAu hR54 (by show (0 : Int) ≤ r64 ∧ r64 ≤ 6; omega)
        have a57 : gA s56 57 = upZ (gA X 57) n.toNat b := (q_Aa e56 (by decide)).trans (q_AA e54)
        have a58 : gA s56 58 = upZ (gA X 58) n.toNat r64 := by rw [(q_AA e56 : gA s56 58 = _), show gA s54 58 = gA X 58 from q_Aa e54 (by decide)]
        have a49 : gA s56 49 = gA X 49 := (q_Aa e56 (by decide)).trans (q_Aa e54 (by decide))
        have a39 : gA s56 39 = gA X 39 := (q_Aa e56 (by decide)).trans (q_Aa e54 (by decide))
        have a55' : gI s56 55 = gI X 55 := (q_Ai e56).trans (q_Ai e54)
        obtain ⟨e1, e2, e3, e4⟩ := eq49 a49
        have K56 : KS s s56 := KS_t hKX ⟨⟨a39, (q_Aa e56 (by decide)).trans (q_Aa e54 (by decide)), (q_Aa e56 (by decide)).trans (q_Aa e54 (by decide)), (q_Aa e56 (by decide)).trans (q_Aa e54 (by decide))⟩, fun j _ => by rw [a49]⟩
        refine ih r (n + 1) L s56 hR56 K56 (by omega) ?_ (by omega)
        rcases hGX with hGX | ⟨g0, gU, gW, M', TX, PX, OX, kX, yX, OR, YX⟩
        · exact Or.inl (a55'.trans hGX)
        · refine Or.inr ⟨a55'.trans g0, fun u hu hn => by rw [a49]; exact gU u hu hn, by rw [a49]; exact gW, M', TM_eq TX a49 a39, PM_e PX a49 a39 (by omega), ?_, WY_push YX (by omega) a57 a58 a49 OX ⟨by omega, kX⟩ yX⟩
          unfold OB_r at OR ⊢
          rw [e1, e3, e4, show L - (n + 1) = L - n - 1 by omega]; exact OR
      refine wp_rg hr2 (wp_rg (by omega) (wp_if (fun c3 => ?_) (fun c3 => ?_)))
      · refine J92 o hRo KSo' (by omega) ?_
        rcases h69 with ⟨h69, _⟩ | ⟨z0, w0, M', ⟨⟨rq, rN⟩, ⟨o54, o55⟩, ⟨o56, o57⟩⟩, oc, oh, oq, ou, ⟨To, Po⟩, om, omu, omn, omx⟩
        · exact Or.inl h69
        · have nb : b.toNat ≠ r66.toNat := fun z => by rw [← z] at k2; omega
          have nq : b.toNat ≠ r.toNat := fun z => nb (by omega)
          have ob := oh b.toNat nq
          have U1 : UP S o v M M' (L - n - 1) := fun x hx hc hlx => by
            have xy : x ≠ r66.toNat := fun z => by rw [z] at hlx; omega
            have xq : x ≠ r.toNat := fun z => xy (by omega)
            have ox := oh x xq
            refine ⟨⟨oc x hx (by omega) (by omega) xy, ox.1, ox.2.1, ox.2.2.1, fun k hk => (ox.2.2.2 k hk).1⟩, fun u => ?_⟩
            by_cases z : u = v
            · rw [z]; exact omx x xq xy
            · rw [omn u z]
          refine Or.inr ⟨z0, fun u hu hn => by rw [ou u hu]; exact hU u hu hn, by rw [ou v (by omega)]; exact hW, M', TG_D To (dq_0 (by omega)), PM_D Po (dq_0 (by omega)), OB_up hO0 U1 (by omega), by rw [ob.2.2.1]; exact k64.2, by rw [(ob.2.2.2 r64.toNat (by omega)).1, ← y66]; exact c3.symm, ⟨⟨by omega, o54, o55⟩, by rw [o56, k2]; omega, om, omu⟩, WY_up hY (T_6 T) (Fo.2.1 57 (by decide)) (Fo.2.1 58 (by decide)) (ou v (by omega)) U1 (by omega)⟩
      · rcases h69 with ⟨_, h69⟩ | ⟨z0, w0, M', ⟨⟨rq, rN⟩, ⟨o54, o55⟩, ⟨o56, o57⟩⟩, oc, oh, oq, ou, ⟨To, Po⟩, om, omu, omn, omx⟩
        · exact absurd h69 c3
        have nb : b.toNat ≠ r66.toNat := fun z => by rw [← z] at k2; omega
        have nq : b.toNat ≠ r.toNat := fun z => by
          rcases oq with oq | oq
          · exact nb (by omega)
          · rw [← z] at oq; omega
        have ob := oh b.toNat nq
        have U1 : UP S o v M M' (L - n - 1) := fun x hx hc hlx => by
          have xy : x ≠ r66.toNat := fun z => by rw [z] at hlx; omega
          have xq : x ≠ r.toNat := fun z => by
            rcases oq with oq | oq
            · exact xy (by omega)
            · rw [← z] at oq; omega
          have ox := oh x xq
          refine ⟨⟨oc x hx (by omega) (by omega) xy, ox.1, ox.2.1, ox.2.2.1, fun k hk => (ox.2.2.2 k hk).1⟩, fun u => ?_⟩
          by_cases z : u = v
          · rw [z]; exact omx x xq xy
          · rw [omn u z]
        have O1 := OB_up hO0 U1 (by omega)
        have O1' := O1
        obtain ⟨⟨_, cb, vb⟩, lb, mb, mub⟩ := O1
        have eb : (hM o).2.2 b.toNat r64.toNat = r66 := by rw [(ob.2.2.2 r64.toNat (by omega)).1]; exact y66.symm
        refine wp_bn (w_x12_keyAt hRo ha (by omega)) (fun r74 e74 h74 => ?_)
        refine wp_bn (w_x12_setsEntry hRo ha (by omega) h74.2 hr2) (fun s76 e76 h76 => ?_)
        obtain ⟨hR76, u76⟩ := h76
        have F76 : F_x12_setsEntry o s76 := fr_x12_setsEntry e76
        rw [h74.1] at u76
        obtain ⟨iB, iz, T2, P2⟩ := MT_set (b := b.toNat) (k := r64.toNat) To Po (by omega) u76 (F76.2.1 39 (by decide)) (by omega) ha48 (by omega) (by omega) (by omega) (fun u hu hn => by rw [mub u hu hn]; omega) (by rw [ob.2.2.1]; omega) (fun _ => ⟨by rw [KSo.1.1]; omega, by rw [o56, k2, lb]; omega⟩)
        have i2 := (M_set (b := b.toNat) (k := r64.toNat) (by omega) u76).2.2.1.1
        have dd : ∀ x : Nat, x < 48 → d0 x = dq r.toNat x - dq r66.toNat x + (if 0 < (hM o).1 b.toNat ∧ (hM o).2.2 b.toNat r64.toNat = (x : Int) then 1 else 0) - (if 0 < (hM o).1 b.toNat ∧ r = (x : Int) then 1 else 0) := fun x hx => by
          show (0 : Int) = _
          rw [eb]
          have e1 : (if 0 < (hM o).1 b.toNat ∧ r66 = (x : Int) then (1 : Int) else 0) = dq r66.toNat x := by
            rw [← dd_0 k0]
            by_cases z : r66 = (x : Int)
            · rw [if_pos z, if_pos ⟨by omega, z⟩]
            · rw [if_neg z, if_neg (fun w => z w.2)]
          have e2 : (if 0 < (hM o).1 b.toNat ∧ r = (x : Int) then (1 : Int) else 0) = dq r.toNat x := by
            rw [← dd_0 w0]
            by_cases z : r = (x : Int)
            · rw [if_pos z, if_pos ⟨by omega, z⟩]
            · rw [if_neg z, if_neg (fun w => z w.2)]
          rw [e1, e2]; omega
        have K76 : KS s s76 := KS_t KSo' ⟨⟨F76.2.1 39 (by decide), F76.2.1 42 (by decide), F76.2.1 43 (by decide), F76.2.1 44 (by decide)⟩, fun j hj => BX_k iB ha48 hj⟩
        have Y1 := WY_up hY (T_6 T) (Fo.2.1 57 (by decide)) (Fo.2.1 58 (by decide)) (ou v (by omega)) U1 (by omega)
        have Y2 := WY_up Y1 (T_6 To) (F76.2.1 57 (by decide)) (F76.2.1 58 (by decide)) (BX_u iB (by omega)) (UP_BX (v := v) (M := M') iB (l := L - n) (by omega)) (Int.le_refl _)
        refine J92 s76 hR76 K76 (by omega) (Or.inr ⟨(F76.1 55 (by decide)).trans z0, fun u hu hn => by rw [BX_u iB hu, ou u hu]; exact hU u hu hn, by rw [BX_u iB (by omega), ou v (by omega)]; exact hW, M', TG_D T2 dd, PM_D P2 dd, ⟨⟨ha, by rw [BX_c iB]; exact cb, by rw [BX_v iB]; exact vb⟩, by rw [BX_l iB]; exact lb, mb, mub⟩, by rw [iz, ob.2.2.1]; exact k64.2, i2, ⟨⟨by omega, by rw [BX_c iB]; exact o54, by rw [BX_v iB]; exact o55⟩, by rw [BX_l iB, o56, k2]; omega, om, omu⟩, Y2⟩)
    unfold m_x12_removes
    refine wp_rdIn (by omega) (fun y77 e77 => ?_)
    have y77' : gA s 49 v = y77 := by rw [← e77, show p0.toNat = v by omega]
    have rl := TG_root_live (v := v) T0 (fun _ _ => Int.le_refl 0) hv (by rw [rM_v hv]; omega) (by rw [rM_v hv]; omega)
    rw [rM_v hv, y77'] at rl
    have rm := root_mu hv P0 (by omega) (by omega)
    rw [y77'] at rm
    have y48 : y77.toNat < 48 := by omega
    have lv : 0 ≤ (hM s).1 y77.toNat ∧ (hM s).1 y77.toNat ≤ 47 := TG_lev T0 (fun _ _ => Int.le_refl 0) y48 rl.2
    refine wp_bn (mt_owned (M := M0) hR hv T0 P0 hC0 (by omega) hf (by omega) rl.2 rm (own_x hv T0 P0 y48 (Or.inl (by omega)))) (fun q80 e80 h80 => ?_)
    obtain ⟨r, o⟩ := q80
    dsimp only at h80 ⊢
    obtain ⟨hRo, Fo, ko, h80⟩ := h80
    have KSo : KS s o := ⟨⟨Fo.2.1 39 (by decide), Fo.2.1 42 (by decide), Fo.2.1 43 (by decide), Fo.2.1 44 (by decide)⟩, ko⟩
    have o55r : (0 : Int) ≤ gI o 55 ∧ gI o 55 ≤ 1 := hRo.1 55
    refine wp_rg (by omega) (wp_if (fun c2 => ?_) (fun c2 => wp_some ⟨hRo, ko, Or.inl (by omega)⟩))
    rcases h80 with ⟨h80, _⟩ | ⟨z0, w0, M', ⟨⟨rq, rN⟩, ⟨o54, o55⟩, ⟨o56, o57⟩⟩, oc, oh, oq, ou, ⟨To, Po⟩, om, omu, omn, omx⟩
    · omega
    refine wp_inb (by omega) (wp_stn (fun s84 e84 => ?_))
    have hR84 : Rr s84 := e84 ▸ Rr.uAu hRo (by show (-2147483648 : Int) ≤ r ∧ r ≤ 2147483647; omega)
    have u84 : gA s84 49 = upZ (gA o 49) v r := by rw [(q_AA e84 : gA s84 49 = _), show p0.toNat = v by omega]
    have a39 : gA s84 39 = gA o 39 := q_Aa e84 (by decide)
    obtain ⟨T1, P1⟩ := MT_root (q := r) To Po hv u84 a39 (Or.inl ⟨w0, by rw [KSo.1.1]; omega⟩)
    obtain ⟨⟨w1, w2⟩, ⟨w3, w4⟩, _⟩ := M_root hv u84
    have dd : ∀ x : Nat, x < 48 → d0 x = dq r.toNat x - dq y77.toNat x + (if gA o 49 v = (x : Int) then 1 else 0) - (if r = (x : Int) then 1 else 0) := fun x hx => by
      show (0 : Int) = _
      rw [ou v (by omega), y77', dd_0 w0, dd_0 (by omega)]; omega
    have K84 : KS s s84 := KS_t KSo ⟨⟨a39, q_Aa e84 (by decide), q_Aa e84 (by decide), q_Aa e84 (by decide)⟩, fun j hj => by rw [u84, upZ_n (by omega)]⟩
    refine L29 FU r 0 ((hM s).1 y77.toNat) s84 hR84 K84 (by omega) (Or.inr ⟨(q_Ai e84).trans z0, fun u hu hn => by rw [u84, upZ_n hn]; exact ou u hu, by rw [u84, upZ_s]; omega, M', TG_D T1 dd, PM_D P1 dd, ⟨⟨by omega, by rw [w3]; exact o54, by rw [w4]; exact o55⟩, by rw [w1, o56]; omega, om, omu⟩, fun j hj => by omega, by rw [u84, upZ_s, if_pos rfl]⟩) (by have := FU_big; omega)
  exact wp_eq key (fun q eq hq => ⟨hq.1, fr_x12_removes eq, hq.2⟩)
