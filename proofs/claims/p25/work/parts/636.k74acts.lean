/-! ===== COPY, DROP, CHECKPOINT, CRASH, by the seed, undone: on both sides ===== -/
theorem y_freeN {s t : MS} (V : ∀ v, v < 8 → (gA s 60 v = -2 ↔ gA t 49 v = 255)) : pc (m_x8_freeNumber s) (fun r => pc (m_x12_freeNumber t) (fun q => (r = q ∧ (0 ≤ q ∧ q < 8) ∧ gA t 49 q.toNat = 255) ∨ (r = -1 ∧ q = 8))) := by
  have L : ∀ (n m : Nat) (x : Int), (0 ≤ x ∧ x ≤ 8) → pc (m_x8_freeNumber_L2 s n x) (fun r => pc (m_x12_freeNumber_L2 t m x) (fun q => (r = q ∧ (0 ≤ q ∧ q < 8) ∧ gA t 49 q.toNat = 255) ∨ (r = -1 ∧ q = 8))) := by
    refine fr_ind (fun _ _ _ => pc_none) (fun n ih m x hx => ?_)
    cases m with
    | zero => exact fun q _ => pc_none
    | succ m =>
      have REF : ∀ Q : Int → Prop, (8 ≤ x → Q x) → (¬ 8 ≤ x → gA t 49 x.toNat = 255 → Q x) → (¬ 8 ≤ x → gA t 49 x.toNat ≠ 255 → pc (m_x12_freeNumber_L2 t m (x + 1)) Q) → pc (m_x12_freeNumber_L2 t (m + 1) x) Q := fun Q K1 K2 K3 => by
        show pc (m_x12_freeNumber_b2 t (m_x12_freeNumber_L2 t m) x) Q
        unfold m_x12_freeNumber_b2 m_x12_freeNumber_J26
        exact pc_rg (pc_if (fun c => pc_some (K1 c)) (fun c => pc_rdI (fun _ => pc_rg (pc_if (fun c2 => pc_some (K2 c c2)) (fun c2 => K3 c c2)))))
      show pc (m_x8_freeNumber_b2 s (m_x8_freeNumber_L2 s n) x) _
      unfold m_x8_freeNumber_b2
      refine pc_rg (pc_if (fun c => pc_some (REF _ (fun _ => Or.inr ⟨rfl, by omega⟩) (fun d => absurd c d) (fun d => absurd c d))) (fun c => pc_bq s_isVol (fun r5 h5 => pc_rg (pc_if (fun c2 => pc_some ?_) (fun c2 => ?_)))))
      · refine REF _ (fun d => absurd d c) (fun _ d => Or.inl ⟨rfl, ⟨hx.1, by omega⟩, d⟩) (fun _ d => ?_)
        exfalso
        rcases h5 with ⟨a, _⟩ | ⟨_, b⟩
        · omega
        · exact b ⟨⟨hx.1, by omega⟩, fun z => d ((V x.toNat (by omega)).1 z)⟩
      · have w : gA s 60 x.toNat ≠ -2 := by
          rcases h5 with ⟨_, _, b⟩ | ⟨a, _⟩
          · exact b
          · exact absurd a c2
        exact fun q eq => REF _ (fun d => absurd d c) (fun _ d => absurd ((V x.toNat (by omega)).2 d) w) (fun _ _ => ih m (x + 1) (by omega) q eq)
  unfold m_x8_freeNumber m_x12_freeNumber
  exact L FU FU 0 (by decide)
theorem J2_used {s t : MS} (h : J2 s t) (hN : 0 ≤ gA t 39 5 ∧ gA t 39 5 ≤ 48) {r q : Int} (e1 : m_x8_used s = some r) (e2 : m_x12_usedMany t = some q) : r = q := by
  obtain ⟨⟨π, σ, lo, hi, H, _⟩, _⟩ := h
  have N := H.2.1
  rw [s_used (by rw [N]; exact hN) r e1, m_usedN hN q e2, N]
  have P := H.1.1
  rw [N] at P
  refine cn_pm P (fun x hx _ => ?_)
  show (if 0 < gA s 54 (π x) then (1 : Int) else 0) = if 0 < cM t x then 1 else 0
  rw [(sim_c H hx).1]
theorem J2_CC {s t : MS} (h : J2 s t) (G : GA t) : ∃ π σ, CC π σ s t := by
  obtain ⟨⟨π, σ, lo, hi, H, _⟩, _⟩ := h
  exact ⟨π, σ, CC_of H.1 H.2.1 G.1.1.1.1⟩
/-- what both sides have when an act begins that can't fail -/
theorem y_start {s s4 t t1 t2 : MS} {ts : List MS} (hC : CI s ts) (ht : gI s 12 ≠ 0) (hRR : Rr t) (G0 : GA t) (B : BT s ts t) (Z : ZP s t) (e4 : m_x1_begin s = some s4) (f1 : m_x12_keeps t = some t1) (f2 : m_x12_clearsTouched t1 = some t2) : (J2 s4 t2 ∧ TE s4 ∧ F_x1_begin s s4 ∧ BC s s4 54 63 1060 1240 ∧ gL s4 1062 = 0) ∧ (Rr t2 ∧ GA t2 ∧ PSTm t t2 (gA t 49)) ∧ ((∀ k, k ≠ 54 → k ≠ 75 → gA t2 k = gA t k) ∧ (∀ k, gL t2 k = gL t k) ∧ gI t2 47 = gI t 47) ∧ ∀ x : Nat, x < 48 → gA t2 54 x = 0 := by
  obtain ⟨N, R, hH⟩ := B.2.2.2 ht
  obtain ⟨R1, F1, P1⟩ := m_keeps hRR f1
  have F2 : F_x12_clearsTouched t1 t2 := fr_x12_clearsTouched f2
  have R2' := wp_det (w_x12_clearsTouched R1) f2
  have C2 := m_clears t2 f2
  obtain ⟨_, a, b, c, d⟩ := wp_det (w_x12_keeps hRR) f1
  have G1 : GA t1 := GA_keeps hRR G0 ⟨F1.2.1 39 (by decide), F1.2.1 42 (by decide), F1.2.1 43 (by decide), F1.2.1 44 (by decide)⟩ (F1.2.1 49 (by decide)) a b c d
  have kA : ∀ k, k ≠ 54 → k ≠ 75 → gA t2 k = gA t k := fun k k1 k2 => (F2.2.1 k (by simp; omega)).trans (F1.2.1 k (by simp; omega))
  exact ⟨y_begA N R Z (CI_TE hC ht) e4 (fun k hk => kA k (by omega) (by omega)) C2, ⟨R2', GA_clr G1 F2, PSTm_k P1 (F2.1 77 (by simp)) (F2.1 76 (by simp)) (F2.2.1 75 (by decide))⟩, ⟨kA, fun k => (F2.2.2.1 k (by simp)).trans (F1.2.2.1 k (by simp)), (F2.1 47 (by simp)).trans (F1.1 47 (by simp))⟩, C2⟩
theorem m_cop {u v : Nat} {t : MS} (hv : v < 8) (hu : u < 8) : pc (m_x12_copies (u : Int) (v : Int) t) (fun o => (∀ i, 16 ≤ i → i % 16 ≠ 1 → gA o 49 i = gA t 49 i) ∧ ∀ x : Nat, cM o x = cM t x ∨ gA t 49 u = (x : Int)) := by
  have tu : ((u : Nat) : Int).toNat = u := Int.toNat_natCast _
  have tv : ((v : Nat) : Int).toNat = v := Int.toNat_natCast _
  unfold m_x12_copies m_x12_copies_J35
  refine pc_rdI (fun _ => pc_inb (pc_stn (fun T4 f4 => pc_rdI (fun _ => ?_))))
  rw [tu, tv] at f4
  have k4 : gA T4 49 = upZ (gA t 49) v (gA t 49 u) := q_AA f4
  have u4 : gA T4 49 v = gA t 49 u := by rw [k4, upZ_s]
  have i4 : ∀ i, 16 ≤ i → gA T4 49 i = gA t 49 i := fun i hi => by rw [k4, upZ_n (by omega)]
  rw [tv, u4]
  refine pc_rg (pc_if (fun _ => pc_some ⟨fun i hi _ => i4 i hi, fun x => Or.inl (i4 (17 + 16 * x) (by omega))⟩) (fun _ => pc_rdI (fun _ => ?_)))
  rw [tv, u4]
  refine pc_bq m_cntT (fun T10 h10 => pc_some ?_)
  obtain ⟨p0, u1, _, _⟩ := h10
  refine ⟨fun i hi hm => ?_, fun x => ?_⟩
  · rw [u1, upZ_n (by omega)]; exact i4 i hi
  · by_cases z : gA t 49 u = (x : Int)
    · exact Or.inr z
    · refine Or.inl ?_
      show gA T10 49 (17 + 16 * x) = gA t 49 (17 + 16 * x)
      rw [u1, upZ_n (by omega)]; exact i4 _ (by omega)
set_option maxHeartbeats 1000000 in
/-- COPY -/
theorem y_copy {s t : MS} {ts : List MS} {p0 : Int} (hC : CI s ts) (hRR : Rr t) (hJ : JI t) (B : BT s ts t) (h47 : gI t 47 = gI s 12) (hZ : ZT s t) : pc (m_x11_copy ts p0 s) (fun q => pc (m_x12_copy p0 t) (fun o => q.1 = o.1 ∧ BT q.2.1 q.2.2 o.2)) := by
  have V := BT_V B hC h47
  unfold m_x11_copy m_x11_copy_J30
  refine pc_bn (fun r6 e6 => pc_bn (fun r8 e8 => pc_rg (pc_if (fun c1 => pc_bn (fun q4 e4 => pc_some ?_)) (fun c1 => ?_))))
  · unfold m_x12_copy m_x12_copy_J20
    exact pc_bn (fun r7 f7 => pc_rg (pc_bn (fun r9 f9 => pc_rg (pc_if (fun _ => pc_bn (fun o4 f4 => pc_some (BT_rf B (by decide) e4 f4))) (fun d => absurd ((y_isVol V e8 f9).1.symm.trans c1) d)))))
  have v0 : (0 ≤ p0 ∧ p0 < 8) ∧ gA s 60 p0.toNat ≠ -2 := by
    rcases s_isVol r8 e8 with ⟨_, a⟩ | ⟨a, _⟩
    · exact a
    · exact absurd a c1
  obtain ⟨u, hu⟩ : ∃ u : Nat, p0 = (u : Int) := ⟨p0.toNat, by omega⟩
  rw [hu] at v0 ⊢
  rw [Int.toNat_natCast] at v0
  have u8 : u < 8 := by omega
  have ht := CI_told hC u8 v0.2
  have t47 : gI t 47 ≠ 0 := by rw [h47]; exact ht
  have G0 := JI_GA hJ t47
  have V2 : ∀ v, v < 8 → (gA s 60 v = -2 ↔ gA t 49 v = 255) := fun v hv => ⟨fun z => ((V v hv).1 z).resolve_left t47, fun z => (V v hv).2 (Or.inr z)⟩
  have FR : ∀ q, m_x12_freeNumber t = some q → (r6 = q ∧ (0 ≤ q ∧ q < 8) ∧ gA t 49 q.toNat = 255) ∨ (r6 = -1 ∧ q = 8) := y_freeN V2 r6 e6
  have n255 : gA t 49 u ≠ 255 := fun z => v0.2 ((V u u8).2 (Or.inr z))
  refine pc_rg (pc_if (fun c2 => pc_bn (fun q4 e4 => pc_some ?_)) (fun c2 => pc_bn (fun s14 e14 => pc_bn (fun s16 e16 => pc_bn (fun q18 e18 => pc_some ?_)))))
  · unfold m_x12_copy m_x12_copy_J20
    refine pc_bn (fun r7 f7 => pc_rg (pc_bn (fun r9 f9 => pc_rg (pc_if (fun _ => pc_bn (fun o4 f4 => pc_some (BT_rf B (by decide) e4 f4))) (fun _ => pc_rg (pc_if (fun _ => pc_bn (fun o4 f4 => pc_some (BT_rf B (by decide) e4 f4))) (fun d => ?_)))))))
    rcases FR r7 f7 with ⟨a, b, _⟩ | ⟨_, b⟩
    · omega
    · exact absurd b d
  · unfold m_x12_copy m_x12_copy_J20
    refine pc_bn (fun r7 f7 => pc_rg (pc_bn (fun r9 f9 => pc_rg (pc_if (fun d => absurd ((y_isVol V e8 (by rw [hu]; exact f9)).1.trans d) c1) (fun _ => pc_rg (pc_if (fun d => ?_) (fun _ => pc_bn (fun t1 f1 => pc_bn (fun t2 f2 => pc_bn (fun t3 f3 => pc_bn (fun t5 f5 => pc_some ?_)))))))))))
    · rcases FR r7 f7 with ⟨_, a, _⟩ | ⟨a, _⟩
      · omega
      · exact absurd a c2
    rcases FR r7 f7 with ⟨a, b, c⟩ | ⟨a, _⟩
    rotate_left
    · exact absurd a c2
    obtain ⟨v, hv⟩ : ∃ v : Nat, r7 = (v : Int) := ⟨r7.toNat, by omega⟩
    rw [a, hv] at e16 e18
    rw [hv] at f3 f5 b c
    rw [Int.toNat_natCast] at c
    have v8 : v < 8 := by omega
    obtain ⟨⟨J4, T4, F4, B4, l4⟩, ⟨R2', G2, P2⟩, ⟨kA, kL, k47⟩, C2⟩ := y_start hC ht hRR G0 B (hZ ht).1 e14 f1 f2
    have e49 : gA t2 49 = gA t 49 := kA 49 (by decide) (by decide)
    have rt := GA_rt G0 u8 n255
    have c255 : gA t2 49 v = 255 := by rw [e49]; exact c
    have W3 := wp_det (w_x12_copies R2' (p0 := (u : Int)) (p1 := (v : Int)) ⟨by omega, by omega⟩ ⟨by omega, by omega⟩ G2.1.1.1 (by rw [Int.toNat_natCast]; exact c255) (by rw [Int.toNat_natCast, e49]; omega)) f3
    rw [Int.toNat_natCast, Int.toNat_natCast] at W3
    obtain ⟨R3, RT3, k3, u3, v3⟩ := W3
    have F3 : F_x12_copies t2 t3 := fr_x12_copies f3
    have Gt3 : GA t3 := GA_tree G2 ⟨F3.2.1 39 (by decide), F3.2.1 42 (by decide), F3.2.1 43 (by decide), F3.2.1 44 (by decide)⟩ RT3 (fun w hw => by
      by_cases z : w = v
      · rw [z, v3]; exact G2.1.1.2 u (by omega)
      · rw [u3 w (by omega) z]; exact G2.1.1.2 w hw) (u3 16 (by omega) (by omega)) (k3 785 (by omega)) (F3.2.1 75 (by decide)) (F3.1 76 (by simp)) (F3.1 77 (by simp))
    obtain ⟨⟨π, σ, lo, hi, HS4, O4⟩, Z4⟩ := J4
    have root : 0 ≤ gA t2 49 u → gA t2 49 u < 254 → gA t2 49 u < 48 ∧ 0 < cM t2 (gA t2 49 u).toNat := fun x y => by
      have q := TG_root_live (v := u) G2.1.1.1.1 (fun _ _ => Int.le_refl 0) u8 (by rw [rM_v u8]; exact x) (by rw [rM_v u8]; omega)
      rw [rM_v u8] at q
      have := G2.1.2.1.1
      exact ⟨by omega, q.2⟩
    have HS3 : SIM π σ s16 t3 := y_share HS4 u8 v8 root (by rw [e49]; exact n255) s16 e16 t3 f3
    obtain ⟨mc1, mc2⟩ := m_cop v8 u8 t3 f3
    have O3 : OI t3 lo hi := OI_x O4 (fun x hx i i2 i16 => mc1 _ (by omega) (by omega)) (fun x hx hl => by
      have vE : vM t3 x = vM t2 x := mc1 (18 + 16 * x) (by omega) (by omega)
      unfold LV at hl ⊢
      rw [vE] at hl
      rcases hl with w | w
      · rcases mc2 x with y | y
        · rw [y] at w; exact Or.inl w
        · have q := root (by omega) (by omega)
          rw [y, Int.toNat_natCast] at q
          exact Or.inl q.2
      · exact Or.inr w)
    have FS : F_x1_share s14 s16 := fr_x1_share e16
    have T16 := (wp_det (ts_share T4 (p0 := (u : Int)) (p1 := (v : Int)) ⟨by omega, by omega⟩ ⟨by omega, by omega⟩ (by rw [Int.toNat_natCast, F4.2.1 60 (by decide)]; exact v0.2) (by rw [Int.toNat_natCast, F4.2.1 60 (by decide)]; exact (V2 v v8).2 c)) e16).1
    have J3 : J2 s16 t3 := ⟨⟨π, σ, lo, hi, HS3, O3⟩, ZP_k Z4 (FS.1 581 (by simp)) (FS.1 741 (by simp)) (fun k k1 k2 => FS.2.1 k (by simp; omega)) (fun k hk => F3.2.1 k (by simp; omega))⟩
    have K := act_ok (a := 2) (v := (v : Int)) hC ht hRR G0 B (BC_fr B4 (fun k k1 k2 => FS.2.1 k (by simp; omega)) ⟨FS.1 1240 (by simp), FS.1 1241 (by simp)⟩) (fun k hk => by rw [FS.1 k (by simp), F4.1 k (by simp; omega)]) (fun k hk => by rw [FS.2.1 k (by simp; omega), F4.2.1 k (by simp; omega)]) (by rw [FS.1 983 (by simp), F4.1 983 (by decide), F3.2.2.1 78 (by simp), kL]; exact B.1) (PSTm_k P2 (F3.1 77 (by simp)) (F3.1 76 (by simp)) (F3.2.1 75 (by decide))) (fun i _ => rfl) (fun i i1 _ => by rw [k3 i i1, e49]) (by rw [F3.2.1 39 (by decide)]; exact kA 39 (by decide) (by decide)) (by rw [F3.2.1 9 (by decide)]; exact kA 9 (by decide) (by decide)) J3 R3 Gt3 (by decide) ⟨by omega, by omega⟩ q18 e18 t5 f5
    exact ⟨a, K.1⟩
set_option maxHeartbeats 1000000 in
/-- DROP -/
theorem y_dropA {s t : MS} {ts : List MS} {p0 : Int} (hC : CI s ts) (hRR : Rr t) (hJ : JI t) (B : BT s ts t) (h47 : gI t 47 = gI s 12) (hZ : ZT s t) : pc (m_x11_drop ts p0 s) (fun q => pc (m_x12_drop p0 t) (fun o => q.1 = o.1 ∧ BT q.2.1 q.2.2 o.2)) := by
  have V := BT_V B hC h47
  unfold m_x11_drop
  refine pc_bn (fun r2 e2 => pc_rg (pc_if (fun c1 => pc_bn (fun q4 e4 => pc_some ?_)) (fun c1 => pc_bn (fun s6 e6 => pc_bn (fun r8 e8 => pc_bn (fun s10 e10 => pc_bn (fun q12 e12 => pc_bn (fun r16 e16 => pc_some ?_))))))))
  · unfold m_x12_drop
    exact pc_rg (pc_bn (fun r9 f9 => pc_rg (pc_if (fun _ => pc_bn (fun o4 f4 => pc_some (BT_rf B (by decide) e4 f4))) (fun d => absurd ((y_isVol V e2 f9).1.symm.trans c1) d))))
  have v0 : (0 ≤ p0 ∧ p0 < 8) ∧ gA s 60 p0.toNat ≠ -2 := by
    rcases s_isVol r2 e2 with ⟨_, a⟩ | ⟨a, _⟩
    · exact a
    · exact absurd a c1
  obtain ⟨u, hu⟩ : ∃ u : Nat, p0 = (u : Int) := ⟨p0.toNat, by omega⟩
  rw [hu] at v0 e10 e12 ⊢
  rw [Int.toNat_natCast] at v0
  have u8 : u < 8 := by omega
  have ht := CI_told hC u8 v0.2
  have t47 : gI t 47 ≠ 0 := by rw [h47]; exact ht
  have G0 := JI_GA hJ t47
  have n255 : gA t 49 u ≠ 255 := fun z => v0.2 ((V u u8).2 (Or.inr z))
  unfold m_x12_drop
  refine pc_rg (pc_bn (fun r9 f9 => pc_rg (pc_if (fun d => absurd ((y_isVol V e2 (by rw [hu]; exact f9)).1.trans d) c1) (fun _ => pc_bn (fun t1 f1 => pc_bn (fun t2 f2 => pc_bn (fun r11 f11 => pc_bn (fun t3 f3 => pc_bn (fun t5 f5 => pc_bn (fun r17 f17 => pc_some ?_))))))))))
  obtain ⟨⟨J4, T4, F4, B4, l4⟩, ⟨R2', G2, P2⟩, ⟨kA, kL, k47⟩, C2⟩ := y_start hC ht hRR G0 B (hZ ht).1 e6 f1 f2
  have e49 : gA t2 49 = gA t 49 := kA 49 (by decide) (by decide)
  have rt := GA_rt G0 u8 n255
  have W3 := wp_det (w_x12_drops R2' (p0 := (u : Int)) ⟨by omega, by omega⟩ G2.1.1.1 (by rw [Int.toNat_natCast, e49]; omega)) f3
  rw [Int.toNat_natCast] at W3
  obtain ⟨R3, RT3, k3, u3, v3⟩ := W3
  have F3 : F_x12_drops t2 t3 := fr_x12_drops f3
  have Gt3 : GA t3 := GA_tree G2 ⟨F3.2.1 39 (by decide), F3.2.1 42 (by decide), F3.2.1 43 (by decide), F3.2.1 44 (by decide)⟩ RT3 (fun w hw => by
    by_cases z : w = u
    · rw [z, v3]; omega
    · rw [u3 w (by omega) z]; exact G2.1.1.2 w hw) (u3 16 (by omega) (by omega)) (k3 785 (by omega)) (F3.2.1 75 (by decide)) (F3.1 76 (by simp)) (F3.1 77 (by simp))
  have n1 := J2_used J4 ⟨by have := G2.1.2.1.1; omega, G2.1.2.1.1.2⟩ e8 f11
  obtain ⟨⟨π, σ, lo, hi, HS4, O4⟩, Z4⟩ := J4
  have FS : F_x1_letGo s6 s10 := fr_x1_letGo e10
  have T10 := wp_det (ts_letGo T4 (p0 := (u : Int)) ⟨by omega, by omega⟩ (by rw [Int.toNat_natCast, F4.2.1 60 (by decide)]; exact v0.2)) e10
  have HS3 : SIM π σ s10 t3 := y_dropT HS4 (KLV_of G2.1.1.1.1 (fun _ _ => Int.le_refl 0)) u8 e10 f3 (fun w hw hn => u3 w (by omega) hn) T10.2.1 RT3.1
  obtain ⟨md1, md2, md3, md4⟩ := m_drop u8 t3 f3
  have O3 : OI t3 lo hi := OI_x O4 (fun x hx i i2 i16 => md2 _ (by omega) (by omega)) (fun x hx hl => by
    have vE : vM t3 x = vM t2 x := md2 (18 + 16 * x) (by omega) (by omega)
    unfold LV at hl ⊢
    rw [vE] at hl
    exact hl.imp (fun w => Int.lt_of_lt_of_le w (md1 x)) id)
  have J3 : J2 s10 t3 := ⟨⟨π, σ, lo, hi, HS3, O3⟩, ZP_k Z4 (FS.1 581 (by simp)) (FS.1 741 (by simp)) (fun k k1 k2 => FS.2.1 k (by simp; omega)) (fun k hk => F3.2.1 k (by simp; omega))⟩
  have K := act_ok (a := 3) (v := (u : Int)) hC ht hRR G0 B (BC_fr B4 (fun k k1 k2 => FS.2.1 k (by simp; omega)) ⟨FS.1 1240 (by simp), FS.1 1241 (by simp)⟩) (fun k hk => by rw [FS.1 k (by simp), F4.1 k (by simp; omega)]) (fun k hk => by rw [FS.2.1 k (by simp; omega), F4.2.1 k (by simp; omega)]) (by rw [FS.1 983 (by simp), F4.1 983 (by decide), F3.2.2.1 78 (by simp), kL]; exact B.1) (PSTm_k P2 (F3.1 77 (by simp)) (F3.1 76 (by simp)) (F3.2.1 75 (by decide))) (fun i _ => rfl) (fun i i1 _ => by rw [k3 i i1, e49]) (by rw [F3.2.1 39 (by decide)]; exact kA 39 (by decide) (by decide)) (by rw [F3.2.1 9 (by decide)]; exact kA 9 (by decide) (by decide)) J3 R3 Gt3 (by decide) ⟨by omega, by omega⟩ q12 e12 t5 f5
  have FK : F_x12_isKept t3 t5 := fr_x12_isKept f5
  have n2 := J2_used K.2.2 (by rw [FK.2.1 39 (by decide), F3.2.1 39 (by decide)]; exact ⟨by have := G2.1.2.1.1; omega, G2.1.2.1.1.2⟩) e16 f17
  exact ⟨by rw [n1, n2], K.1⟩
/-- CHECKPOINT -/
theorem y_check {s t : MS} {ts : List MS} (hC : CI s ts) (hRR : Rr t) (hJ : JI t) (B : BT s ts t) (h47 : gI t 47 = gI s 12) (hZ : ZT s t) : pc (m_x11_checkpoint ts s) (fun q => pc (m_x12_checkpoint t) (fun o => q.1 = o.1 ∧ BT q.2.1 q.2.2 o.2)) := by
  unfold m_x11_checkpoint
  refine pc_rg (pc_if (fun c1 => pc_bn (fun q4 e4 => pc_some ?_)) (fun ht => pc_bn (fun s4 e4 => pc_bn (fun r6 e6 => pc_bn (fun s8 e8 => pc_bn (fun q10 e10 => pc_some ?_))))))
  · unfold m_x12_checkpoint
    exact pc_rg (pc_if (fun _ => pc_bn (fun o4 f4 => pc_some (BT_rf B (by decide) e4 f4))) (fun d => absurd (h47.trans c1) d))
  have t47 : gI t 47 ≠ 0 := by rw [h47]; exact ht
  have G0 := JI_GA hJ t47
  unfold m_x12_checkpoint
  refine pc_rg (pc_if (fun d => absurd d t47) (fun _ => pc_bn (fun t1 f1 => pc_bn (fun t2 f2 => pc_bn (fun r8 f8 => pc_bn (fun t3 f3 => pc_bn (fun t5 f5 => pc_some ?_)))))))
  obtain ⟨⟨J4, T4, F4, B4, l4⟩, ⟨R2', G2, P2⟩, ⟨kA, kL, k47⟩, C2⟩ := y_start hC ht hRR G0 B (hZ ht).1 e4 f1 f2
  have e49 : gA t2 49 = gA t 49 := kA 49 (by decide) (by decide)
  have N2 : 0 ≤ gA t2 39 5 ∧ gA t2 39 5 ≤ 48 := ⟨by have := G2.1.2.1.1; omega, G2.1.2.1.1.2⟩
  have n1 : r6 = r8 := by
    obtain ⟨π, σ, cc⟩ := J2_CC J4 G2
    rw [s_held (by rw [cc.2.1]; exact N2) r6 e6, m_heldN N2 r8 f8]
    exact CC_held cc
  have F3 : F_x12_checks t2 t3 := fr_x12_checks f3
  have FS : F_x8_save s4 s8 := fr_x8_save e8
  obtain ⟨R3, b1, b2, b3⟩ := wp_det (w_x12_checks R2') f3
  have Gt3 : GA t3 := GA_tree G2 ⟨F3.2.1 39 (by decide), F3.2.1 42 (by decide), F3.2.1 43 (by decide), F3.2.1 44 (by decide)⟩ (RT_checks G2.1.1.1 (F3.2.1 39 (by decide)) b1 b2 b3) (fun u hu => by
    by_cases z : u < 8
    · rw [b1 u (by omega) (fun q _ => by omega)]; exact G2.1.1.2 u hu
    · have z2 := b2 (u - 8) (by omega)
      rw [show 8 + (u - 8) = u by omega] at z2
      rw [z2]; exact G2.1.1.2 (u - 8) (by omega)) (b1 16 (by omega) (fun q _ => by omega)) (b1 785 (by omega) (fun q _ => by omega)) (F3.2.1 75 (by decide)) (F3.1 76 (by simp)) (F3.1 77 (by simp))
  obtain ⟨⟨π, σ, lo, hi, HS4, O4⟩, Z4⟩ := J4
  have J3 : J2 s8 t3 := ⟨⟨π, σ, lo, hi, y_save HS4 T4.1 R2' e8 f3, OI_checks O4 R2' f3⟩, ZP_k Z4 (FS.1 581 (by simp)) (FS.1 741 (by simp)) (fun k k1 k2 => FS.2.1 k (by simp; omega)) (fun k hk => F3.2.1 k (by simp; omega))⟩
  have K := act_ok (a := 4) (v := 255) hC ht hRR G0 B (BC_fr B4 (fun k k1 k2 => FS.2.1 k (by simp; omega)) ⟨FS.1 1240 (by simp), FS.1 1241 (by simp)⟩) (fun k hk => by rw [FS.1 k (by simp), F4.1 k (by simp; omega)]) (fun k hk => by rw [FS.2.1 k (by simp; omega), F4.2.1 k (by simp; omega)]) (by rw [FS.1 983 (by simp), F4.1 983 (by decide), F3.2.2.1 78 (by simp), kL]; exact B.1) (PSTm_k P2 (F3.1 77 (by simp)) (F3.1 76 (by simp)) (F3.2.1 75 (by decide))) (fun i _ => rfl) (fun i i1 _ => by rw [b1 i (by omega) (fun q _ => by omega), e49]) (by rw [F3.2.1 39 (by decide)]; exact kA 39 (by decide) (by decide)) (by rw [F3.2.1 9 (by decide)]; exact kA 9 (by decide) (by decide)) J3 R3 Gt3 (by decide) (by decide) q10 e10 t5 f5
  exact ⟨n1, K.1⟩
/-- CRASH -/
theorem y_crashA {s t : MS} {ts : List MS} (hC : CI s ts) (hRR : Rr t) (hJ : JI t) (B : BT s ts t) (h47 : gI t 47 = gI s 12) (hZ : ZT s t) : pc (m_x11_crash ts s) (fun q => pc (m_x12_crash t) (fun o => q.1 = o.1 ∧ BT q.2.1 q.2.2 o.2)) := by
  unfold m_x11_crash
  refine pc_rg (pc_if (fun c1 => pc_bn (fun q4 e4 => pc_some ?_)) (fun ht => pc_bn (fun s4 e4 => pc_bn (fun r6 e6 => pc_bn (fun s8 e8 => pc_bn (fun q10 e10 => pc_some ?_))))))
  · unfold m_x12_crash
    exact pc_rg (pc_if (fun _ => pc_bn (fun o4 f4 => pc_some (BT_rf B (by decide) e4 f4))) (fun d => absurd (h47.trans c1) d))
  have t47 : gI t 47 ≠ 0 := by rw [h47]; exact ht
  have G0 := JI_GA hJ t47
  unfold m_x12_crash
  refine pc_rg (pc_if (fun d => absurd d t47) (fun _ => pc_bn (fun t1 f1 => pc_bn (fun t2 f2 => ?_))))
  obtain ⟨⟨J4, T4, F4, B4, l4⟩, ⟨R2', G2, P2⟩, ⟨kA, kL, k47⟩, C2⟩ := y_start hC ht hRR G0 B (hZ ht).1 e4 f1 f2
  have e49 : gA t2 49 = gA t 49 := kA 49 (by decide) (by decide)
  have N2 : 0 ≤ gA t2 39 5 ∧ gA t2 39 5 ≤ 48 := ⟨by have := G2.1.2.1.1; omega, G2.1.2.1.1.2⟩
  -- how many were FRESH
  have L25 : ∀ (n : Nat) (x1 x2 : Int), (0 ≤ x2 ∧ x2 ≤ gA t2 39 5) → x1 = sm x2.toNat (fun b => if 0 < cM t2 b ∧ vM t2 b = 0 then 1 else 0) → pc (m_x12_crash_L25 n x1 x2 t2) (fun o => ∃ t3, m_x12_crashes t2 = some t3 ∧ m_x12_isKept 5 255 t3 = some o.2 ∧ o.1 = cn (gA t2 39 5) (fun b => if 0 < cM t2 b ∧ vM t2 b = 0 then 1 else 0)) := by
    refine fr_ind (fun _ _ _ _ => pc_none) (fun n ih x1 x2 h2 h1 => ?_)
    show pc (m_x12_crash_b25 (m_x12_crash_L25 n) x1 x2 t2) _
    unfold m_x12_crash_b25 m_x12_crash_J44
    have st : sm (x2 + 1).toNat (fun b => if 0 < cM t2 b ∧ vM t2 b = 0 then (1 : Int) else 0) = sm x2.toNat (fun b => if 0 < cM t2 b ∧ vM t2 b = 0 then (1 : Int) else 0) + (if 0 < cM t2 x2.toNat ∧ vM t2 x2.toNat = 0 then 1 else 0) := by
      rw [show (x2 + 1).toNat = x2.toNat + 1 by omega]; rfl
    refine pc_bq m_bm (fun r8 h8 => ?_)
    rw [h8]
    refine pc_rg (pc_rg (pc_if (fun c => pc_bn (fun s13 e13 => pc_bn (fun s15 e15 => pc_some ⟨s13, e13, e15, ?_⟩))) (fun c => pc_bq (m_fresh h2.1) (fun r17 h17 => pc_rg (pc_if (fun c2 => ih _ _ (by omega) ?_) (fun c2 => ih _ _ (by omega) ?_))))))
    · rw [h1, show x2 = gA t2 39 5 by omega]; exact cn_sm N2.2
    · have w : ¬ (0 < cM t2 x2.toNat ∧ vM t2 x2.toNat = 0) := fun w => by
        rcases h17 with ⟨a, _⟩ | ⟨_, d⟩
        · omega
        · exact d w
      rw [st, if_neg w]; omega
    · have w : 0 < cM t2 x2.toNat ∧ vM t2 x2.toNat = 0 := by
        rcases h17 with ⟨_, d⟩ | ⟨a, _⟩
        · exact d
        · exact absurd a c2
      rw [st, if_pos w]; omega
  refine pc_mono (L25 FU 0 0 ⟨Int.le_refl 0, N2.1⟩ rfl) (fun o ho => ?_)
  obtain ⟨t3, f3, f5, fo⟩ := ho
  have n1 : r6 = o.1 := by
    obtain ⟨π, σ, cc⟩ := J2_CC J4 G2
    rw [s_freshB (by rw [cc.2.1]; exact N2) r6 e6, fo]
    exact CC_fresh cc
  have F3 : F_x12_crashes t2 t3 := fr_x12_crashes f3
  have FS : F_x8_fallBack s4 s8 := fr_x8_fallBack e8
  obtain ⟨R3, b1, b2, b3⟩ := wp_det (w_x12_crashes R2') f3
  have Gt3 : GA t3 := GA_tree G2 ⟨F3.2.1 39 (by decide), F3.2.1 42 (by decide), F3.2.1 43 (by decide), F3.2.1 44 (by decide)⟩ (RT_crashes G2.1.1.1 (F3.2.1 39 (by decide)) b1 b2 b3) (fun u hu => by
    by_cases z : u < 8
    · rw [b2 u z]; exact G2.1.1.2 (8 + u) (by omega)
    · rw [b1 u (by omega) (fun q _ => by omega)]; exact G2.1.1.2 u hu) (b1 16 (by omega) (fun q _ => by omega)) (b1 785 (by omega) (fun q _ => by omega)) (F3.2.1 75 (by decide)) (F3.1 76 (by simp)) (F3.1 77 (by simp))
  obtain ⟨⟨π, σ, lo, hi, HS4, O4⟩, Z4⟩ := J4
  have J3 : J2 s8 t3 := ⟨⟨π, σ, lo, hi, y_crash HS4 T4.1 R2' (fun x hx => by
    rw [l4, C2 x hx]
    exact ⟨fun w => absurd w (bW_0 (HS4.1.1 x hx).1.1), fun w => absurd rfl w⟩) e8 f3, OI_crash O4 R2' f3⟩, ZP_k Z4 (FS.1 581 (by simp)) (FS.1 741 (by simp)) (fun k k1 k2 => FS.2.1 k (by simp; omega)) (fun k hk => F3.2.1 k (by simp; omega))⟩
  have K := act_ok (a := 5) (v := 255) hC ht hRR G0 B (BC_fr B4 (fun k k1 k2 => FS.2.1 k (by simp; omega)) ⟨FS.1 1240 (by simp), FS.1 1241 (by simp)⟩) (fun k hk => by rw [FS.1 k (by simp), F4.1 k (by simp; omega)]) (fun k hk => by rw [FS.2.1 k (by simp; omega), F4.2.1 k (by simp; omega)]) (by rw [FS.1 983 (by simp), F4.1 983 (by decide), F3.2.2.1 78 (by simp), kL]; exact B.1) (PSTm_k P2 (F3.1 77 (by simp)) (F3.1 76 (by simp)) (F3.2.1 75 (by decide))) (fun i _ => rfl) (fun i i1 _ => by rw [b1 i (by omega) (fun q _ => by omega), e49]) (by rw [F3.2.1 39 (by decide)]; exact kA 39 (by decide) (by decide)) (by rw [F3.2.1 9 (by decide)]; exact kA 9 (by decide) (by decide)) J3 R3 Gt3 (by decide) (by decide) q10 e10 o.2 f5
  exact ⟨n1, K.1⟩
/-- both sides while acts go on by the seed -/
def CHJ (s t : MS) (S T : MS) : Prop := AJ S T ∧ BC s S 54 63 1060 1240 ∧ (∀ k, k = 12 ∨ k = 143 ∨ k = 145 → gI S k = gI s k) ∧ (∀ k, k = 2 ∨ k = 8 ∨ k = 9 ∨ k = 10 → gA S k = gA s k) ∧ PSTm t T (gA t 49) ∧ (∀ i, 785 ≤ i → gA T 49 i = gA t 49 i) ∧ gA T 39 = gA t 39 ∧ gA T 9 = gA t 9
theorem y_chance_L {s t : MS} {ts : List MS} {p0 : Int} (hC : CI s ts) (ht : gI s 12 ≠ 0) (hRR : Rr t) (G0 : GA t) (B : BT s ts t) : ∀ (n m : Nat) (x2 x3 : Int) (S T : MS), CHJ s t S T → pc (m_x11_chance_L35 ts n p0 x2 x3 S) (fun q => pc (m_x12_chance_L37 m p0 x2 x3 T) (fun o => q.1 = o.1 ∧ BT q.2.1 q.2.2 o.2)) := by
  refine fr_ind (fun _ _ _ _ _ _ => pc_none) (fun n ih m x2 x3 S T H => ?_)
  cases m with
  | zero => exact fun q _ => pc_none
  | succ m =>
    obtain ⟨A, C1, C2, C3, M1, M3, M4, M5⟩ := H
    have REF : ∀ Q : Int × MS → Prop, (p0 ≤ x3 → ∀ s13, m_x12_isKept 6 255 T = some s13 → Q (x2, s13)) → (¬ p0 ≤ x3 → ∀ q16 : Int × MS, m_x12_isDrawn T = some q16 → pc (m_x12_chance_L37 m p0 (if q16.1 = 0 then x2 else x2 + 1) (x3 + 1) q16.2) Q) → pc (m_x12_chance_L37 (m + 1) p0 x2 x3 T) Q := fun Q K1 K2 => by
      show pc (m_x12_chance_b37 (m_x12_chance_L37 m) p0 x2 x3 T) Q
      unfold m_x12_chance_b37 m_x12_chance_J52
      refine pc_rg (pc_rg (pc_if (fun c => pc_bn (fun s13 e13 => pc_some (K1 c s13 e13))) (fun c => pc_bn (fun q16 e16 => pc_rg (pc_if (fun d => ?_) (fun d => ?_))))))
      · have k := K2 c q16 e16
        rw [if_pos d] at k; exact k
      · have k := K2 c q16 e16
        rw [if_neg d] at k; exact k
    show pc (m_x11_chance_b35 ts (m_x11_chance_L35 ts n) p0 x2 x3 S) _
    unfold m_x11_chance_b35 m_x11_chance_J53
    have STEP : ∀ q18 : Int × MS, m_x1_actBySeed S = some q18 → ∀ q16 : Int × MS, m_x12_isDrawn T = some q16 → q18.1 = q16.1 ∧ CHJ s t q18.2 q16.2 := fun q18 e18 q16 e16 => by
      obtain ⟨y1, y2, y3⟩ := y_actS A q18 e18 q16 e16
      have F1 : F_x1_actBySeed S q18.2 := fr_x1_actBySeed e18
      have F2 : F_x12_isDrawn T q16.2 := fr_x12_isDrawn e16
      exact ⟨y1, y2, BC_fr C1 (fun k k1 k2 => F1.2.1 k (by simp; omega)) ⟨F1.1 1240 (by decide), F1.1 1241 (by decide)⟩, fun k hk => by rw [F1.1 k (by simp; omega)]; exact C2 k hk, fun k hk => by rw [F1.2.1 k (by simp; omega)]; exact C3 k hk, PSTm_k M1 (F2.1 77 (by decide)) (F2.1 76 (by decide)) (F2.2.1 75 (by decide)), fun i hi => by rw [y3 i hi]; exact M3 i hi, (F2.2.1 39 (by decide)).trans M4, (F2.2.1 9 (by decide)).trans M5⟩
    refine pc_rg (pc_rg (pc_if (fun c => pc_bn (fun q13 e13 => pc_some ?_)) (fun c => pc_bn (fun q18 e18 => pc_rg (pc_if (fun d => ?_) (fun d => ?_))))))
    · refine REF _ (fun _ s13 f13 => ?_) (fun d => absurd c d)
      have K := act_ok (a := 6) (v := 255) hC ht hRR G0 B C1 C2 C3 A.2.2.2.2.2.1 M1 (fun i _ => rfl) (fun i i1 _ => M3 i i1) M4 M5 A.1 A.2.2.1 A.2.2.2.1 (by decide) (by decide) q13 e13 s13 f13
      exact ⟨rfl, K.1⟩
    · intro q eq
      refine REF _ (fun w => absurd w c) (fun _ q16 e16 => ?_)
      obtain ⟨z1, z2⟩ := STEP q18 e18 q16 e16
      rw [if_pos (z1.symm.trans d)]
      exact ih m x2 (x3 + 1) q18.2 q16.2 z2 q eq
    · intro q eq
      refine REF _ (fun w => absurd w c) (fun _ q16 e16 => ?_)
      obtain ⟨z1, z2⟩ := STEP q18 e18 q16 e16
      rw [if_neg (fun w => d (z1.trans w))]
      exact ih m (x2 + 1) (x3 + 1) q18.2 q16.2 z2 q eq
/-- by the seed -/
theorem y_chance {s t : MS} {ts : List MS} {p0 : Int} (hC : CI s ts) (hRR : Rr t) (hJ : JI t) (B : BT s ts t) (h47 : gI t 47 = gI s 12) (hZ : ZT s t) : pc (m_x11_chance ts p0 s) (fun q => pc (m_x12_chance p0 t) (fun o => q.1 = o.1 ∧ BT q.2.1 q.2.2 o.2)) := by
  have RF : ∀ q4 : Int × MS, m_x11_refuse 3 s = some q4 → pc (m_x12_chance_J19 t) (fun o => q4.1 = o.1 ∧ BT q4.2 ts o.2) := fun q4 e4 => by
    unfold m_x12_chance_J19
    exact pc_bn (fun o4 f4 => pc_some (BT_rf B (by decide) e4 f4))
  unfold m_x11_chance m_x11_chance_J18
  refine pc_rg (pc_if (fun c1 => pc_bn (fun q4 e4 => pc_some ?_)) (fun ht => pc_rg (pc_if (fun c2 => pc_bn (fun q4 e4 => pc_some ?_)) (fun c2 => pc_rg (pc_if (fun c3 => pc_bn (fun s32 e32 => ?_)) (fun c3 => pc_bn (fun q4 e4 => pc_some ?_)))))))
  · unfold m_x12_chance
    exact pc_rg (pc_if (fun _ => RF q4 e4) (fun d => absurd (h47.trans c1) d))
  · unfold m_x12_chance
    refine pc_rg (pc_if (fun _ => RF q4 e4) (fun _ => pc_rg (pc_bq m_isIn (fun r27 h27 => pc_rg (pc_if (fun _ => RF q4 e4) (fun d => ?_))))))
    rcases h27 with ⟨_, a, _⟩ | ⟨a, _⟩
    · omega
    · exact absurd a d
  · have t47 : gI t 47 ≠ 0 := by rw [h47]; exact ht
    have G0 := JI_GA hJ t47
    intro q eq
    unfold m_x12_chance
    refine pc_rg (pc_if (fun d => absurd d t47) (fun _ => pc_rg (pc_bq m_isIn (fun r27 h27 => pc_rg (pc_if (fun d => ?_) (fun _ => pc_bn (fun t1 f1 => pc_bn (fun t2 f2 => ?_))))))))
    · exfalso
      rcases h27 with ⟨a, _⟩ | ⟨_, a⟩
      · omega
      · exact a ⟨by omega, by omega⟩
    · obtain ⟨⟨J4, T4, F4, B4, l4⟩, ⟨R2', G2, P2⟩, ⟨kA, kL, k47⟩, C2⟩ := y_start hC ht hRR G0 B (hZ ht).1 e32 f1 f2
      refine y_chance_L hC ht hRR G0 B FU FU 0 0 s32 t2 ⟨⟨J4, T4, R2', G2, by rw [k47]; exact t47, by rw [F4.1 983 (by decide), kL]; exact B.1, by rw [kL]; exact hJ.2.1, by rw [kA 39 (by decide) (by decide), F4.1 582 (by decide)]; exact (hZ ht).2⟩, B4, fun k hk => F4.1 k (by simp; omega), fun k hk => F4.2.1 k (by simp; omega), P2, fun i _ => by rw [kA 49 (by decide) (by decide)], kA 39 (by decide) (by decide), kA 9 (by decide) (by decide)⟩ q eq
  · unfold m_x12_chance
    refine pc_rg (pc_if (fun _ => RF q4 e4) (fun _ => pc_rg (pc_bq m_isIn (fun r27 h27 => pc_rg (pc_if (fun _ => RF q4 e4) (fun d => ?_))))))
    rcases h27 with ⟨_, _, a⟩ | ⟨a, _⟩
    · omega
    · exact absurd a d
