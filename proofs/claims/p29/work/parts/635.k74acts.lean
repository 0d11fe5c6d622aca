/-! ===== COPY, DROP, CHECKPOINT, CRASH, by the seed, undone: on both sides ===== -/
theorem y_freeN {s t : MS} (V : ∀ v, v < 8 → (gA s 60 v = -2 ↔ gA t 49 v = 255)) : pc (m_x8_freeNumber s) (fun r => pc (m_x12_freeNumber t) (fun q => (r = q ∧ (0 ≤ q ∧ q < 8) ∧ gA t 49 q.toNat = 255) ∨ (r = -1 ∧ q = 8))) := by
  have L : ∀ (n m : Nat) (x : Int), (0 ≤ x ∧ x ≤ 8) → pc (m_x8_freeNumber_L2 s n x) (fun r => pc (m_x12_freeNumber_L2 t m x) (fun q => (r = q ∧ (0 ≤ q ∧ q < 8) ∧ gA t 49 q.toNat = 255) ∨ (r = -1 ∧ q = 8))) := by
    refine fr_ind (fun _ _ _ => pc_none) (fun n ih m x hx => ?_)
    cases m with
    | zero => exact fun q _ => pc_none
    | succ m =>
      have REF : ∀ Q : Int → Prop, (8 ≤ x → Q x) → (¬ 8 ≤ x → gA t 49 x.toNat = 255 → Q x) → (¬ 8 ≤ x → gA t 49 x.toNat ≠ 255 → pc (m_x12_freeNumber_L2 t m (x + 1)) Q) → pc (m_x12_freeNumber_L2 t (m + 1) x) Q := fun Q K1 K2 K3 => by
        show pc (m_x12_freeNumber_b2 t (m_x12_freeNumber_L2 t m) x) Q
        unfold m_x12_freeNumber_b2 m_x12_freeNumber_J26
        exact pc_rg (pc_if (fun c => pc_some (K1 c)) (fun c => pc_rdI (fun _ => pc_rg (pc_if (fun c2 => pc_some (K2 c c2)) (fun c2 => K3 c c2)))))
      show pc (m_x8_freeNumber_b2 s (m_x8_freeNumber_L2 s n) x) _
      unfold m_x8_freeNumber_b2
      refine pc_rg (pc_if (fun c => pc_some (REF _ (fun _ => Or.inr ⟨rfl, by omega⟩) (fun d => absurd c d) (fun d => absurd c d))) (fun c => pc_bq s_isVol (fun r5 h5 => pc_rg (pc_if (fun c2 => pc_some ?_) (fun c2 => ?_)))))
      · refine REF _ (fun d => absurd d c) (fun _ d => Or.inl ⟨rfl, ⟨hx.1, by omega⟩, d⟩) (fun _ d => ?_)
        exfalso
        rcases h5 with ⟨a, _⟩ | ⟨_, b⟩
        · omega
        · exact b ⟨⟨hx.1, by omega⟩, fun z => d ((V x.toNat (by omega)).1 z)⟩
      · have w : gA s 60 x.toNat ≠ -2 := by
          rcases h5 with ⟨_, _, b⟩ | ⟨a, _⟩
          · exact b
          · exact absurd a c2
        exact fun q eq => REF _ (fun d => absurd d c) (fun _ d => absurd ((V x.toNat (by omega)).2 d) w) (fun _ _ => ih m (x + 1) (by omega) q eq)
  unfold m_x8_freeNumber m_x12_freeNumber
  exact L FU FU 0 (by decide)
theorem J2_used {s t : MS} (h : J2 s t) (hN : 0 ≤ gA t 39 5 ∧ gA t 39 5 ≤ 48) {r q : Int} (e1 : m_x8_used s = some r) (e2 : m_x12_usedMany t = some q) : r = q := by
  obtain ⟨⟨π, σ, lo, hi, H, _⟩, _⟩ := h
  have N := H.2.1
  rw [s_used (by rw [N]; exact hN) r e1, m_usedN hN q e2, N]
  have P := H.1.1
  rw [N] at P
  refine cn_pm P (fun x hx _ => ?_)
  show (if 0 < gA s 54 (π x) then (1 : Int) else 0) = if 0 < cM t x then 1 else 0
  rw [(sim_c H hx).1]
theorem J2_CC {s t : MS} (h : J2 s t) (G : GA t) : ∃ π σ, CC π σ s t := by
  obtain ⟨⟨π, σ, lo, hi, H, _⟩, _⟩ := h
  exact ⟨π, σ, CC_of H.1 H.2.1 G.1.1.1.1⟩
/-- what both sides have when an act begins that can't fail -/
theorem y_start {s s4 t t1 t2 : MS} {ts : List MS} (hC : CI s ts) (ht : gI s 12 ≠ 0) (hRR : Rr t) (G0 : GA t) (B : BT s ts t) (Z : ZP s t) (e4 : m_x1_begin s = some s4) (f1 : m_x12_keeps t = some t1) (f2 : m_x12_clearsTouched t1 = some t2) : (J2 s4 t2 ∧ TE s4 ∧ F_x1_begin s s4 ∧ BC s s4 54 63 1060 1240 ∧ gL s4 1062 = 0) ∧ (Rr t2 ∧ GA t2 ∧ PSTm t t2 (gA t 49)) ∧ ((∀ k, k ≠ 54 → k ≠ 75 → gA t2 k = gA t k) ∧ (∀ k, gL t2 k = gL t k) ∧ gI t2 47 = gI t 47) ∧ ∀ x : Nat, x < 48 → gA t2 54 x = 0 := by
  obtain ⟨N, R, hH⟩ := B.2.2.2 ht
  obtain ⟨R1, F1, P1⟩ := m_keeps hRR f1
  have F2 : F_x12_clearsTouched t1 t2 := fr_x12_clearsTouched f2
  have R2' := wp_det (w_x12_clearsTouched R1) f2
  have C2 := m_clears t2 f2
  obtain ⟨_, a, b, c, d⟩ := wp_det (w_x12_keeps hRR) f1
  have G1 : GA t1 := GA_keeps hRR G0 ⟨F1.2.1 39 (by decide), F1.2.1 42 (by decide), F1.2.1 43 (by decide), F1.2.1 44 (by decide)⟩ (F1.2.1 49 (by decide)) a b c d
  have kA : ∀ k, k ≠ 54 → k ≠ 75 → gA t2 k = gA t k := fun k k1 k2 => (F2.2.1 k (by simp; omega)).trans (F1.2.1 k (by simp; omega))
  exact ⟨y_begA N R Z (CI_TE hC ht) e4 (fun k hk => kA k (by omega) (by omega)) C2, ⟨R2', GA_clr G1 F2, PSTm_k P1 (F2.1 77 (by simp)) (F2.1 76 (by simp)) (F2.2.1 75 (by decide))⟩, ⟨kA, fun k => (F2.2.2.1 k (by simp)).trans (F1.2.2.1 k (by simp)), (F2.1 47 (by simp)).trans (F1.1 47 (by simp))⟩, C2⟩
theorem m_cop {u v : Nat} {t : MS} (hv : v < 8) (hu : u < 8) : pc (m_x12_copies (u : Int) (v : Int) t) (fun o => (∀ i, 16 ≤ i → i % 16 ≠ 1 → gA o 49 i = gA t 49 i) ∧ ∀ x : Nat, cM o x = cM t x ∨ gA t 49 u = (x : Int)) := by
  have tu : ((u : Nat) : Int).toNat = u := Int.toNat_natCast _
  have tv : ((v : Nat) : Int).toNat = v := Int.toNat_natCast _
  unfold m_x12_copies m_x12_copies_J35
  refine pc_rdI (fun _ => pc_inb (pc_stn (fun T4 f4 => pc_rdI (fun _ => ?_))))
  rw [tu, tv] at f4
  have k4 : gA T4 49 = upZ (gA t 49) v (gA t 49 u) := q_AA f4
  have u4 : gA T4 49 v = gA t 49 u := by rw [k4, upZ_s]
  have i4 : ∀ i, 16 ≤ i → gA T4 49 i = gA t 49 i := fun i hi => by rw [k4, upZ_n (by omega)]
  rw [tv, u4]
  refine pc_rg (pc_if (fun _ => pc_some ⟨fun i hi _ => i4 i hi, fun x => Or.inl (i4 (17 + 16 * x) (by omega))⟩) (fun _ => pc_rdI (fun _ => ?_)))
  rw [tv, u4]
  refine pc_bq m_cntT (fun T10 h10 => pc_some ?_)
  obtain ⟨p0, u1, _, _⟩ := h10
  refine ⟨fun i hi hm => ?_, fun x => ?_⟩
  · rw [u1, upZ_n (by omega)]; exact i4 i hi
  · by_cases z : gA t 49 u = (x : Int)
    · exact Or.inr z
    · refine Or.inl ?_
      show gA T10 49 (17 + 16 * x) = gA t 49 (17 + 16 * x)
      rw [u1, upZ_n (by omega)]; exact i4 _ (by omega)
set_option maxHeartbeats 1000000 in
/-- COPY -/
theorem y_copy {s t : MS} {ts : List MS} {p0 : Int} (hC : CI s ts) (hRR : Rr t) (hJ : JI t) (B : BT s ts t) (h47 : gI t 47 = gI s 12) (hZ : ZT s t) : pc (m_x11_copy ts p0 s) (fun q => pc (m_x12_copy p0 t) (fun o => q.1 = o.1 ∧ BT q.2.1 q.2.2 o.2)) := by
  have V := BT_V B hC h47
  unfold m_x11_copy m_x11_copy_J30
  refine pc_bn (fun r6 e6 => pc_bn (fun r8 e8 => pc_rg (pc_if (fun c1 => pc_bn (fun q4 e4 => pc_some ?_)) (fun c1 => ?_))))
  · unfold m_x12_copy m_x12_copy_J20
    exact pc_bn (fun r7 f7 => pc_rg (pc_bn (fun r9 f9 => pc_rg (pc_if (fun _ => pc_bn (fun o4 f4 => pc_some (BT_rf B (by decide) e4 f4))) (fun d => absurd ((y_isVol V e8 f9).1.symm.trans c1) d)))))
  have v0 : (0 ≤ p0 ∧ p0 < 8) ∧ gA s 60 p0.toNat ≠ -2 := by
    rcases s_isVol r8 e8 with ⟨_, a⟩ | ⟨a, _⟩
    · exact a
    · exact absurd a c1
  obtain ⟨u, hu⟩ : ∃ u : Nat, p0 = (u : Int) := ⟨p0.toNat, by omega⟩
  rw [hu] at v0 ⊢
  rw [Int.toNat_natCast] at v0
  have u8 : u < 8 := by omega
  have ht := CI_told hC u8 v0.2
  have t47 : gI t 47 ≠ 0 := by rw [h47]; exact ht
  have G0 := JI_GA hJ t47
  have V2 : ∀ v, v < 8 → (gA s 60 v = -2 ↔ gA t 49 v = 255) := fun v hv => ⟨fun z => ((V v hv).1 z).resolve_left t47, fun z => (V v hv).2 (Or.inr z)⟩
  have FR : ∀ q, m_x12_freeNumber t = some q → (r6 = q ∧ (0 ≤ q ∧ q < 8) ∧ gA t 49 q.toNat = 255) ∨ (r6 = -1 ∧ q = 8) := y_freeN V2 r6 e6
  have n255 : gA t 49 u ≠ 255 := fun z => v0.2 ((V u u8).2 (Or.inr z))
  refine pc_rg (pc_if (fun c2 => pc_bn (fun q4 e4 => pc_some ?_)) (fun c2 => pc_bn (fun s14 e14 => pc_bn (fun s16 e16 => pc_bn (fun q18 e18 => pc_some ?_)))))
  · unfold m_x12_copy m_x12_copy_J20
    refine pc_bn (fun r7 f7 => pc_rg (pc_bn (fun r9 f9 => pc_rg (pc_if (fun _ => pc_bn (fun o4 f4 => pc_some (BT_rf B (by decide) e4 f4))) (fun _ => pc_rg (pc_if (fun _ => pc_bn (fun o4 f4 => pc_some (BT_rf B (by decide) e4 f4))) (fun d => ?_)))))))
    rcases FR r7 f7 with ⟨a, b, _⟩ | ⟨_, b⟩
    · omega
    · exact absurd b d
  · unfold m_x12_copy m_x12_copy_J20
    refine pc_bn (fun r7 f7 => pc_rg (pc_bn (fun r9 f9 => pc_rg (pc_if (fun d => absurd ((y_isVol V e8 (by rw [hu]; exact f9)).1.trans d) c1) (fun _ => pc_rg (pc_if (fun d => ?_) (fun _ => pc_bn (fun t1 f1 => pc_bn (fun t2 f2 => pc_bn (fun t3 f3 => pc_bn (fun t5 f5 => pc_some ?_)))))))))))
    · rcases FR r7 f7 with ⟨_, a, _⟩ | ⟨a, _⟩
      · omega
      · exact absurd a c2
    rcases FR r7 f7 with ⟨a, b, c⟩ | ⟨a, _⟩
    rotate_left
    · exact absurd a c2
    obtain ⟨v, hv⟩ : ∃ v : Nat, r7 = (v : Int) := ⟨r7.toNat, by omega⟩
    rw [a, hv] at e16 e18
    rw [hv] at f3 f5 b c
    rw [Int.toNat_natCast] at c
    have v8 : v < 8 := by omega
    obtain ⟨⟨J4, T4, F4, B4, l4⟩, ⟨R2', G2, P2⟩, ⟨kA, kL, k47⟩, C2⟩ := y_start hC ht hRR G0 B (hZ ht).1 e14 f1 f2
    have e49 : gA t2 49 = gA t 49 := kA 49 (by decide) (by decide)
    have rt := GA_rt G0 u8 n255
    have c255 : gA t2 49 v = 255 := by rw [e49]; exact c
    have W3 := wp_det (w_x12_copies R2' (p0 := (u : Int)) (p1 := (v : Int)) ⟨by omega, by omega⟩ ⟨by omega, by omega⟩ G2.1.1.1 (by rw [Int.toNat_natCast]; exact c255) (by rw [Int.toNat_natCast, e49]; omega)) f3
    rw [Int.toNat_natCast, Int.toNat_natCast] at W3
    obtain ⟨R3, RT3, k3, u3, v3⟩ := W3
    have F3 : F_x12_copies t2 t3 := fr_x12_copies f3
    have Gt3 : GA t3 := GA_tree G2 ⟨F3.2.1 39 (by decide), F3.2.1 42 (by decide), F3.2.1 43 (by decide), F3.2.1 44 (by decide)⟩ RT3 (fun w hw => by
      by_cases z : w = v
      · rw [z, v3]; exact G2.1.1.2 u (by omega)
      · rw [u3 w (by omega) z]; exact G2.1.1.2 w hw) (u3 16 (by omega) (by omega)) (k3 785 (by omega)) (F3.2.1 75 (by decide)) (F3.1 76 (by simp)) (F3.1 77 (by simp))
    obtain ⟨⟨π, σ, lo, hi, HS4, O4⟩, Z4⟩ := J4
    have root : 0 ≤ gA t2 49 u → gA t2 49 u < 254 → gA t2 49 u < 48 ∧ 0 < cM t2 (gA t2 49 u).toNat := fun x y => by
      have q := TG_root_live (v := u) G2.1.1.1.1 (fun _ _ => Int.le_refl 0) u8 (by rw [rM_v u8]; exact x) (by rw [rM_v u8]; omega)
      rw [rM_v u8] at q
      have := G2.1.2.1.1
      exact ⟨by omega, q.2⟩
    have HS3 : SIM π σ s16 t3 := y_share HS4 u8 v8 root (by rw [e49]; exact n255) s16 e16 t3 f3
    obtain ⟨mc1, mc2⟩ := m_cop v8 u8 t3 f3
    have O3 : OI t3 lo hi := OI_x O4 (fun x hx i i2 i16 => mc1 _ (by omega) (by omega)) (fun x hx hl => by
      have vE : vM t3 x = vM t2 x := mc1 (18 + 16 * x) (by omega) (by omega)
      unfold LV at hl ⊢
      rw [vE] at hl
      rcases hl with w | w
      · rcases mc2 x with y | y
        · rw [y] at w; exact Or.inl w
        · have q := root (by omega) (by omega)
          rw [y, Int.toNat_natCast] at q
          exact Or.inl q.2
      · exact Or.inr w)
    have FS : F_x1_share s14 s16 := fr_x1_share e16
    have T16 := (wp_det (ts_share T4 (p0 := (u : Int)) (p1 := (v : Int)) ⟨by omega, by omega⟩ ⟨by omega, by omega⟩ (by rw [Int.toNat_natCast, F4.2.1 60 (by decide)]; exact v0.2) (by rw [Int.toNat_natCast, F4.2.1 60 (by decide)]; exact (V2 v v8).2 c)) e16).1
    have J3 : J2 s16 t3 := ⟨⟨π, σ, lo, hi, HS3, O3⟩, ZP_k Z4 (FS.1 581 (by simp)) (FS.1 741 (by simp)) (fun k k1 k2 => FS.2.1 k (by simp; omega)) (fun k hk => F3.2.1 k (by simp; omega))⟩
    have K := act_ok (a := 2) (v := (v : Int)) hC ht hRR G0 B (BC_fr B4 (fun k k1 k2 => FS.2.1 k (by simp; omega)) ⟨FS.1 1240 (by simp), FS.1 1241 (by simp)⟩) (fun k hk => by rw [FS.1 k (by simp), F4.1 k (by simp; omega)]) (fun k hk => by rw [FS.2.1 k (by simp; omega), F4.2.1 k (by simp; omega)]) (by rw [FS.1 983 (by simp), F4.1 983 (by decide), F3.2.2.1 78 (by simp), kL]; exact B.1) (PSTm_k P2 (F3.1 77 (by simp)) (F3.1 76 (by simp)) (F3.2.1 75 (by decide))) (fun i _ => rfl) (fun i i1 _ => by rw [k3 i i1, e49]) (by rw [F3.2.1 39 (by decide)]; exact kA 39 (by decide) (by decide)) (by rw [F3.2.1 9 (by decide)]; exact kA 9 (by decide) (by decide)) J3 R3 Gt3 (by decide) ⟨by omega, by omega⟩ q18 e18 t5 f5
    exact ⟨a, K.1⟩
set_option maxHeartbeats 1000000 in
/-- DROP -/
theorem y_dropA {s t : MS} {ts : List MS} {p0 : Int} (hC : CI s ts) (hRR : Rr t) (hJ : JI t) (B : BT s ts t) (h47 : gI t 47 = gI s 12) (hZ : ZT s t) : pc (m_x11_drop ts p0 s) (fun q => pc (m_x12_drop p0 t) (fun o => q.1 = o.1 ∧ BT q.2.1 q.2.2 o.2)) := by
  have V := BT_V B hC h47
  unfold m_x11_drop
  refine pc_bn (fun r2 e2 => pc_rg (pc_if (fun c1 => pc_bn (fun q4 e4 => pc_some ?_)) (fun c1 => pc_bn (fun s6 e6 => pc_bn (fun r8 e8 => pc_bn (fun s10 e10 => pc_bn (fun q12 e12 => pc_bn (fun r16 e16 => pc_some ?_))))))))
  · unfold m_x12_drop
    exact pc_rg (pc_bn (fun r9 f9 => pc_rg (pc_if (fun _ => pc_bn (fun o4 f4 => pc_some (BT_rf B (by decide) e4 f4))) (fun d => absurd ((y_isVol V e2 f9).1.symm.trans c1) d))))
  have v0 : (0 ≤ p0 ∧ p0 < 8) ∧ gA s 60 p0.toNat ≠ -2 := by
    rcases s_isVol r2 e2 with ⟨_, a⟩ | ⟨a, _⟩
    · exact a
    · exact absurd a c1
  obtain ⟨u, hu⟩ : ∃ u : Nat, p0 = (u : Int) := ⟨p0.toNat, by omega⟩
  rw [hu] at v0 e10 e12 ⊢
  rw [Int.toNat_natCast] at v0
  have u8 : u < 8 := by omega
  have ht := CI_told hC u8 v0.2
  have t47 : gI t 47 ≠ 0 := by rw [h47]; exact ht
  have G0 := JI_GA hJ t47
  have n255 : gA t 49 u ≠ 255 := fun z => v0.2 ((V u u8).2 (Or.inr z))
  unfold m_x12_drop
  refine pc_rg (pc_bn (fun r9 f9 => pc_rg (pc_if (fun d => absurd ((y_isVol V e2 (by rw [hu]; exact f9)).1.trans d) c1) (fun _ => pc_bn (fun t1 f1 => pc_bn (fun t2 f2 => pc_bn (fun r11 f11 => pc_bn (fun t3 f3 => pc_bn (fun t5 f5 => pc_bn (fun r17 f17 => pc_some ?_))))))))))
  obtain ⟨⟨J4, T4, F4, B4, l4⟩, ⟨R2', G2, P2⟩, ⟨kA, kL, k47⟩, C2⟩ := y_start hC ht hRR G0 B (hZ ht).1 e6 f1 f2
  have e49 : gA t2 49 = gA t 49 := kA 49 (by decide) (by decide)
  have rt := GA_rt G0 u8 n255
  have W3 := wp_det (w_x12_drops R2' (p0 := (u : Int)) ⟨by omega, by omega⟩ G2.1.1.1 (by rw [Int.toNat_natCast, e49]; omega)) f3
  rw [Int.toNat_natCast] at W3
  obtain ⟨R3, RT3, k3, u3, v3⟩ := W3
  have F3 : F_x12_drops t2 t3 := fr_x12_drops f3
  have Gt3 : GA t3 := GA_tree G2 ⟨F3.2.1 39 (by decide), F3.2.1 42 (by decide), F3.2.1 43 (by decide), F3.2.1 44 (by decide)⟩ RT3 (fun w hw => by
    by_cases z : w = u
    · rw [z, v3]; omega
    · rw [u3 w (by omega) z]; exact G2.1.1.2 w hw) (u3 16 (by omega) (by omega)) (k3 785 (by omega)) (F3.2.1 75 (by decide)) (F3.1 76 (by simp)) (F3.1 77 (by simp))
  have n1 := J2_used J4 ⟨by have := G2.1.2.1.1; omega, G2.1.2.1.1.2⟩ e8 f11
  obtain ⟨⟨π, σ, lo, hi, HS4, O4⟩, Z4⟩ := J4
  have FS : F_x1_letGo s6 s10 := fr_x1_letGo e10
  have T10 := wp_det (ts_letGo T4 (p0 := (u : Int)) ⟨by omega, by omega⟩ (by rw [Int.toNat_natCast, F4.2.1 60 (by decide)]; exact v0.2)) e10
  have HS3 : SIM π σ s10 t3 := y_dropT HS4 (KLV_of G2.1.1.1.1 (fun _ _ => Int.le_refl 0)) u8 e10 f3 (fun w hw hn => u3 w (by omega) hn) T10.2.1 RT3.1
  obtain ⟨md1, md2, md3, md4⟩ := m_drop u8 t3 f3
  have O3 : OI t3 lo hi := OI_x O4 (fun x hx i i2 i16 => md2 _ (by omega) (by omega)) (fun x hx hl => by
    have vE : vM t3 x = vM t2 x := md2 (18 + 16 * x) (by omega) (by omega)
    unfold LV at hl ⊢
    rw [vE] at hl
    exact hl.imp (fun w => Int.lt_of_lt_of_le w (md1 x)) id)
  have J3 : J2 s10 t3 := ⟨⟨π, σ, lo, hi, HS3, O3⟩, ZP_k Z4 (FS.1 581 (by simp)) (FS.1 741 (by simp)) (fun k k1 k2 => FS.2.1 k (by simp; omega)) (fun k hk => F3.2.1 k (by simp; omega))⟩
  have K := act_ok (a := 3) (v := (u : Int)) hC ht hRR G0 B (BC_fr B4 (fun k k1 k2 => FS.2.1 k (by simp; omega)) ⟨FS.1 1240 (by simp), FS.1 1241 (by simp)⟩) (fun k hk => by rw [FS.1 k (by simp), F4.1 k (by simp; omega)]) (fun k hk => by rw [FS.2.1 k (by simp; omega), F4.2.1 k (by simp; omega)]) (by rw [FS.1 983 (by simp), F4.1 983 (by decide), F3.2.2.1 78 (by simp), kL]; exact B.1) (PSTm_k P2 (F3.1 77 (by simp)) (F3.1 76 (by simp)) (F3.2.1 75 (by decide))) (fun i _ => rfl) (fun i i1 _ => by rw [k3 i i1, e49]) (by rw [F3.2.1 39 (by decide)]; exact kA 39 (by decide) (by decide)) (by rw [F3.2.1 9 (by decide)]; exact kA 9 (by decide) (by decide)) J3 R3 Gt3 (by decide) ⟨by omega, by omega⟩ q12 e12 t5 f5
  have FK : F_x12_isKept t3 t5 := fr_x12_isKept f5
  have n2 := J2_used K.2.2 (by rw [FK.2.1 39 (by decide), F3.2.1 39 (by decide)]; exact ⟨by have := G2.1.2.1.1; omega, G2.1.2.1.1.2⟩) e16 f17
  exact ⟨by rw [n1, n2], K.1⟩
/-- CHECKPOINT -/
theorem y_check {s t : MS} {ts : List MS} (hC : CI s ts) (hRR : Rr t) (hJ : JI t) (B : BT s ts t) (h47 : gI t 47 = gI s 12) (hZ : ZT s t) : pc (m_x11_checkpoint ts s) (fun q => pc (m_x12_checkpoint t) (fun o => q.1 = o.1 ∧ BT q.2.1 q.2.2 o.2)) := by
  unfold m_x11_checkpoint
  refine pc_rg (pc_if (fun c1 => pc_bn (fun q4 e4 => pc_some ?_)) (fun ht => pc_bn (fun s4 e4 => pc_bn (fun r6 e6 => pc_bn (fun s8 e8 => pc_bn (fun q10 e10 => pc_some ?_))))))
  · unfold m_x12_checkpoint
    exact pc_rg (pc_if (fun _ => pc_bn (fun o4 f4 => pc_some (BT_rf B (by decide) e4 f4))) (fun d => absurd (h47.trans c1) d))
  have t47 : gI t 47 ≠ 0 := by rw [h47]; exact ht
  have G0 := JI_GA hJ t47
  unfold m_x12_checkpoint
  refine pc_rg (pc_if (fun d => absurd d t47) (fun _ => pc_bn (fun t1 f1 => pc_bn (fun t2 f2 => pc_bn (fun r8 f8 => pc_bn (fun t3 f3 => pc_bn (fun t5 f5 => pc_some ?_)))))))
  obtain ⟨⟨J4, T4, F4, B4, l4⟩, ⟨R2', G2, P2⟩, ⟨kA, kL, k47⟩, C2⟩ := y_start hC ht hRR G0 B (hZ ht).1 e4 f1 f2
  have e49 : gA t2 49 = gA t 49 := kA 49 (by decide) (by decide)
  have N2 : 0 ≤ gA t2 39 5 ∧ gA t2 39 5 ≤ 48 := ⟨by have := G2.1.2.1.1; omega, G2.1.2.1.1.2⟩
  have n1 : r6 = r8 := by
    obtain ⟨π, σ, cc⟩ := J2_CC J4 G2
    rw [s_held (by rw [cc.2.1]; exact N2) r6 e6, m_heldN N2 r8 f8]
    exact CC_held cc
  have F3 : F_x12_checks t2 t3 := fr_x12_checks f3
  have FS : F_x8_save s4 s8 := fr_x8_save e8
  obtain ⟨R3, b1, b2, b3⟩ := wp_det (w_x12_checks R2') f3
  have Gt3 : GA t3 := GA_tree G2 ⟨F3.2.1 39 (by decide), F3.2.1 42 (by decide), F3.2.1 43 (by decide), F3.2.1 44 (by decide)⟩ (RT_checks G2.1.1.1 (F3.2.1 39 (by decide)) b1 b2 b3) (fun u hu => by
    by_cases z : u < 8
    · rw [b1 u (by omega) (fun q _ => by omega)]; exact G2.1.1.2 u hu
    · have z2 := b2 (u - 8) (by omega)
      rw [show 8 + (u - 8) = u by omega] at z2
      rw [z2]; exact G2.1.1.2 (u - 8) (by omega)) (b1 16 (by omega) (fun q _ => by omega)) (b1 785 (by omega) (fun q _ => by omega)) (F3.2.1 75 (by decide)) (F3.1 76 (by simp)) (F3.1 77 (by simp))
  obtain ⟨⟨π, σ, lo, hi, HS4, O4⟩, Z4⟩ := J4
  have J3 : J2 s8 t3 := ⟨⟨π, σ, lo, hi, y_save HS4 T4.1 R2' e8 f3, OI_checks O4 R2' f3⟩, ZP_k Z4 (FS.1 581 (by simp)) (FS.1 741 (by simp)) (fun k k1 k2 => FS.2.1 k (by simp; omega)) (fun k hk => F3.2.1 k (by simp; omega))⟩
  have K := act_ok (a := 4) (v := 255) hC ht hRR G0 B (BC_fr B4 (fun k k1 k2 => FS.2.1 k (by simp; omega)) ⟨FS.1 1240 (by simp), FS.1 1241 (by simp)⟩) (fun k hk => by rw [FS.1 k (by simp), F4.1 k (by simp; omega)]) (fun k hk => by rw [FS.2.1 k (by simp; omega), F4.2.1 k (by simp; omega)]) (by rw [FS.1 983 (by simp), F4.1 983 (by decide), F3.2.2.1 78 (by simp), kL]; exact B.1) (PSTm_k P2 (F3.1 77 (by simp)) (F3.1 76 (by simp)) (F3.2.1 75 (by decide))) (fun i _ => rfl) (fun i i1 _ => by rw [b1 i (by omega) (fun q _ => by omega), e49]) (by rw [F3.2.1 39 (by decide)]; exact kA 39 (by decide) (by decide)) (by rw [F3.2.1 9 (by decide)]; exact kA 9 (by decide) (by decide)) J3 R3 Gt3 (by decide) (by decide) q10 e10 t5 f5
  exact ⟨n1, K.1⟩
/-- CRASH -/
theorem y_crashA {s t : MS} {ts : List MS} (hC : CI s ts) (hRR : Rr t) (hJ : JI t) (B : BT s ts t) (h47 : gI t 47 = gI s 12) (hZ : ZT s t) : pc (m_x11_crash ts s) (fun q => pc (m_x12_crash t) (fun o => q.1 = o.1 ∧ BT q.2.1 q.2.2 o.2)) := by
  unfold m_x11_crash
  refine pc_rg (pc_if (fun c1 => pc_bn (fun q4 e4 => pc_some ?_)) (fun ht => pc_bn (fun s4 e4 => pc_bn (fun r6 e6 => pc_bn (fun s8 e8 => pc_bn (fun q10 e10 => pc_some ?_))))))
  · unfold m_x12_crash
    exact pc_rg (pc_if (fun _ => pc_bn (fun o4 f4 => pc_some (BT_rf B (by decide) e4 f4))) (fun d => absurd (h47.trans c1) d))
  have t47 : gI t 47 ≠ 0 := by rw [h47]; exact ht
  have G0 := JI_GA hJ t47
  unfold m_x12_crash
  refine pc_rg (pc_if (fun d => absurd d t47) (fun _ => pc_bn (fun t1 f1 => pc_bn (fun t2 f2 => ?_))))
  obtain ⟨⟨J4, T4, F4, B4, l4⟩, ⟨R2', G2, P2⟩, ⟨kA, kL, k47⟩, C2⟩ := y_start hC ht hRR G0 B (hZ ht).1 e4 f1 f2
  have e49 : gA t2 49 = gA t 49 := kA 49 (by decide) (by decide)
  have N2 : 0 ≤ gA t2 39 5 ∧ gA t2 39 5 ≤ 48 := ⟨by have := G2.1.2.1.1; omega, G2.1.2.1.1.2⟩
  -- how many were FRESH
  have L25 : ∀ (n : Nat) (x1 x2 : Int), (0 ≤ x2 ∧ x2 ≤ gA t2 39 5) → x1 = sm x2.toNat (fun b => if 0 < cM t2 b ∧ vM t2 b = 0 then 1 else 0) → pc (m_x12_crash_L25 n x1 x2 t2) (fun o => ∃ t3, m_x12_crashes t2 = some t3 ∧ m_x12_isKept 5 255 t3 = some o.2 ∧ o.1 = cn (gA t2 39 5) (fun b => if 0 < cM t2 b ∧ vM t2 b = 0 then 1 else 0)) := by
    refine fr_ind (fun _ _ _ _ => pc_none) (fun n ih x1 x2 h2 h1 => ?_)
    show pc (m_x12_crash_b25 (m_x12_crash_L25 n) x1 x2 t2) _
    unfold m_x12_crash_b25 m_x12_crash_J44
    have st : sm (x2 + 1).toNat (fun b => if 0 < cM t2 b ∧ vM t2 b = 0 then (1 : Int) else 0) = sm x2.toNat (fun b => if 0 < cM t2 b ∧ vM t2 b = 0 then (1 : Int) else 0) + (if 0 < cM t2 x2.toNat ∧ vM t2 x2.toNat = 0 then 1 else 0) := by
      rw [show (x2 + 1).toNat = x2.toNat + 1 by omega]; rfl
    refine pc_bq m_bm (fun r8 h8 => ?_)
    rw [h8]
    refine pc_rg (pc_rg (pc_if (fun c => pc_bn (fun s13 e13 => pc_bn (fun s15 e15 => pc_some ⟨s13, e13, e15, ?_⟩))) (fun c => pc_bq (m_fresh h2.1) (fun r17 h17 => pc_rg (pc_if (fun c2 => ih _ _ (by omega) ?_) (fun c2 => ih _ _ (by omega) ?_))))))
    · rw [h1, show x2 = gA t2 39 5 by omega]; exact cn_sm N2.2
    · have w : ¬ (0 < cM t2 x2.toNat ∧ vM t2 x2.toNat = 0) := fun w => by
        rcases h17 with ⟨a, _⟩ | ⟨_, d⟩
        · omega
        · exact d w
      rw [st, if_neg w]; omega
    · have w : 0 < cM t2 x2.toNat ∧ vM t2 x2.toNat = 0 := by
        rcases h17 with ⟨_, d⟩ | ⟨a, _⟩
        · exact d
        · exact absurd a c2
      rw [st, if_pos w]; omega
  refine pc_mono (L25 FU 0 0 ⟨Int.le_refl 0, N2.1⟩ rfl) (fun o ho => ?_)
  obtain ⟨t3, f3, f5, fo⟩ := ho
  have n1 : r6 = o.1 := by
    obtain ⟨π, σ, cc⟩ := J2_CC J4 G2
    rw [s_freshB (by rw [cc.2.1]; exact N2) r6 e6, fo]
    exact CC_fresh cc
  have F3 : F_x12_crashes t2 t3 := fr_x12_crashes f3
  have FS : F_x8_fallBack s4 s8 := fr_x8_fallBack e8
  obtain ⟨R3, b1, b2, b3⟩ := wp_det (w_x12_crashes R2') f3
  have Gt3 : GA t3 := GA_tree G2 ⟨F3.2.1 39 (by decide), F3.2.1 42 (by decide), F3.2.1 43 (by decide), F3.2.1 44 (by decide)⟩ (RT_crashes G2.1.1.1 (F3.2.1 39 (by decide)) b1 b2 b3) (fun u hu => by
    by_cases z : u < 8
    · rw [b2 u z]; exact G2.1.1.2 (8 + u) (by omega)
    · rw [b1 u (by omega) (fun q _ => by omega)]; exact G2.1.1.2 u hu) (b1 16 (by omega) (fun q _ => by omega)) (b1 785 (by omega) (fun q _ => by omega)) (F3.2.1 75 (by decide)) (F3.1 76 (by simp)) (F3.1 77 (by simp))
  obtain ⟨⟨π, σ, lo, hi, HS4, O4⟩, Z4⟩ := J4
  have J3 : J2 s8 t3 := ⟨⟨π, σ, lo, hi, y_crash HS4 T4.1 R2' (fun x hx => by
    rw [l4, C2 x hx]
    exact ⟨fun w => absurd w (bW_0 (HS4.1.1 x hx).1.1), fun w => absurd rfl w⟩) e8 f3, OI_crash O4 R2' f3⟩, ZP_k Z4 (FS.1 581 (by simp)) (FS.1 741 (by simp)) (fun k k1 k2 => FS.2.1 k (by simp; omega)) (fun k hk => F3.2.1 k (by simp; omega))⟩
  have K := act_ok (a := 5) (v := 255) hC ht hRR G0 B (BC_fr B4 (fun k k1 k2 => FS.2.1 k (by simp; omega)) ⟨FS.1 1240 (by simp), FS.1 1241 (by simp)⟩) (fun k hk => by rw [FS.1 k (by simp), F4.1 k (by simp; omega)]) (fun k hk => by rw [FS.2.1 k (by simp; omega), F4.2.1 k (by simp; omega)]) (by rw [FS.1 983 (by simp), F4.1 983 (by decide), F3.2.2.1 78 (by simp), kL]; exact B.1) (PSTm_k P2 (F3.1 77 (by simp)) (F3.1 76 (by simp)) (F3.2.1 75 (by decide))) (fun i _ => rfl) (fun i i1 _ => by rw [b1 i (by omega) (fun q _ => by omega), e49]) (by rw [F3.2.1 39 (by decide)]; exact kA 39 (by decide) (by decide)) (by rw [F3.2.1 9 (by decide)]; exact kA 9 (by decide) (by decide)) J3 R3 Gt3 (by decide) (by decide) q10 e10 o.2 f5
  exact ⟨n1, K.1⟩
/-- both sides while acts go on by the seed -/
def CHJ (s t : MS) (S T : MS) : Prop := AJ S T ∧ BC s S 54 63 1060 1240 ∧ (∀ k, k = 12 ∨ k = 143 ∨ k = 145 → gI S k = gI s k) ∧ (∀ k, k = 2 ∨ k = 8 ∨ k = 9 ∨ k = 10 → gA S k = gA s k) ∧ PSTm t T (gA t 49) ∧ (∀ i, 785 ≤ i → gA T 49 i = gA t 49 i) ∧ gA T 39 = gA t 39 ∧ gA T 9 = gA t 9
theorem y_chance_L {s t : MS} {ts : List MS} {p0 : Int} (hC : CI s ts) (ht : gI s 12 ≠ 0) (hRR : Rr t) (G0 : GA t) (B : BT s ts t) : ∀ (n m : Nat) (x2 x3 : Int) (S T : MS), CHJ s t S T → pc (m_x11_chance_L35 ts n p0 x2 x3 S) (fun q => pc (m_x12_chance_L37 m p0 x2 x3 T) (fun o => q.1 = o.1 ∧ BT q.2.1 q.2.2 o.2)) := by
  refine fr_ind (fun _ _ _ _ _ _ => pc_none) (fun n ih m x2 x3 S T H => ?_)
  cases m with
  | zero => exact fun q _ => pc_none
  | succ m =>
    obtain ⟨A, C1, C2, C3, M1, M3, M4, M5⟩ := H
    have REF : ∀ Q : Int × MS → Prop, (p0 ≤ x3 → ∀ s13, m_x12_isKept 6 255 T = some s13 → Q (x2, s13)) → (¬ p0 ≤ x3 → ∀ q16 : Int × MS, m_x12_isDrawn T = some q16 → pc (m_x12_chance_L37 m p0 (if q16.1 = 0 then x2 else x2 + 1) (x3 + 1) q16.2) Q) → pc (m_x12_chance_L37 (m + 1) p0 x2 x3 T) Q := fun Q K1 K2 => by
      show pc (m_x12_chance_b37 (m_x12_chance_L37 m) p0 x2 x3 T) Q
      unfold m_x12_chance_b37 m_x12_chance_J52
      refine pc_rg (pc_rg (pc_if (fun c => pc_bn (fun s13 e13 => pc_some (K1 c s13 e13))) (fun c => pc_bn (fun q16 e16 => pc_rg (pc_if (fun d => ?_) (fun d => ?_))))))
      · have k := K2 c q16 e16
        rw [if_pos d] at k; exact k
      · have k := K2 c q16 e16
        rw [if_neg d] at k; exact k
    show pc (m_x11_chance_b35 ts (m_x11_chance_L35 ts n) p0 x2 x3 S) _
    unfold m_x11_chance_b35 m_x11_chance_J53
    have STEP : ∀ q18 : Int × MS, m_x1_actBySeed S = some q18 → ∀ q16 : Int × MS, m_x12_isDrawn T = some q16 → q18.1 = q16.1 ∧ CHJ s t q18.2 q16.2 := fun q18 e18 q16 e16 => by
      obtain ⟨y1, y2, y3⟩ := y_actS A q18 e18 q16 e16
      have F1 : F_x1_actBySeed S q18.2 := fr_x1_actBySeed e18
      have F2 : F_x12_isDrawn T q16.2 := fr_x12_isDrawn e16
      exact ⟨y1, y2, BC_fr C1 (fun k k1 k2 => F1.2.1 k (by simp; omega)) ⟨F1.1 1240 (by decide), F1.1 1241 (by decide)⟩, fun k hk => by rw [F1.1 k (by simp; omega)]; exact C2 k hk, fun k hk => by rw [F1.2.1 k (by simp; omega)]; exact C3 k hk, PSTm_k M1 (F2.1 77 (by decide)) (F2.1 76 (by decide)) (F2.2.1 75 (by decide)), fun i hi => by rw [y3 i hi]; exact M3 i hi, (F2.2.1 39 (by decide)).trans M4, (F2.2.1 9 (by decide)).trans M5⟩
    refine pc_rg (pc_rg (pc_if (fun c => pc_bn (fun q13 e13 => pc_some ?_)) (fun c => pc_bn (fun q18 e18 => pc_rg (pc_if (fun d => ?_) (fun d => ?_))))))
    · refine REF _ (fun _ s13 f13 => ?_) (fun d => absurd c d)
      have K := act_ok (a := 6) (v := 255) hC ht hRR G0 B C1 C2 C3 A.2.2.2.2.2.1 M1 (fun i _ => rfl) (fun i i1 _ => M3 i i1) M4 M5 A.1 A.2.2.1 A.2.2.2.1 (by decide) (by decide) q13 e13 s13 f13
      exact ⟨rfl, K.1⟩
    · intro q eq
      refine REF _ (fun w => absurd w c) (fun _ q16 e16 => ?_)
      obtain ⟨z1, z2⟩ := STEP q18 e18 q16 e16
      rw [if_pos (z1.symm.trans d)]
      exact ih m x2 (x3 + 1) q18.2 q16.2 z2 q eq
    · intro q eq
      refine REF _ (fun w => absurd w c) (fun _ q16 e16 => ?_)
      obtain ⟨z1, z2⟩ := STEP q18 e18 q16 e16
      rw [if_neg (fun w => d (z1.trans w))]
      exact ih m (x2 + 1) (x3 + 1) q18.2 q16.2 z2 q eq
/-- by the seed -/
theorem y_chance {s t : MS} {ts : List MS} {p0 : Int} (hC : CI s ts) (hRR : Rr t) (hJ : JI t) (B : BT s ts t) (h47 : gI t 47 = gI s 12) (hZ : ZT s t) : pc (m_x11_chance ts p0 s) (fun q => pc (m_x12_chance p0 t) (fun o => q.1 = o.1 ∧ BT q.2.1 q.2.2 o.2)) := by
  have RF : ∀ q4 : Int × MS, m_x11_refuse 3 s = some q4 → pc (m_x12_chance_J19 t) (fun o => q4.1 = o.1 ∧ BT q4.2 ts o.2) := fun q4 e4 => by
    unfold m_x12_chance_J19
    exact pc_bn (fun o4 f4 => pc_some (BT_rf B (by decide) e4 f4))
  unfold m_x11_chance m_x11_chance_J18
  refine pc_rg (pc_if (fun c1 => pc_bn (fun q4 e4 => pc_some ?_)) (fun ht => pc_rg (pc_if (fun c2 => pc_bn (fun q4 e4 => pc_some ?_)) (fun c2 => pc_rg (pc_if (fun c3 => pc_bn (fun s32 e32 => ?_)) (fun c3 => pc_bn (fun q4 e4 => pc_some ?_)))))))
  · unfold m_x12_chance
    exact pc_rg (pc_if (fun _ => RF q4 e4) (fun d => absurd (h47.trans c1) d))
  · unfold m_x12_chance
    refine pc_rg (pc_if (fun _ => RF q4 e4) (fun _ => pc_rg (pc_bq m_isIn (fun r27 h27 => pc_rg (pc_if (fun _ => RF q4 e4) (fun d => ?_))))))
    rcases h27 with ⟨_, a, _⟩ | ⟨a, _⟩
    · omega
    · exact absurd a d
  · have t47 : gI t 47 ≠ 0 := by rw [h47]; exact ht
    have G0 := JI_GA hJ t47
    intro q eq
    unfold m_x12_chance
    refine pc_rg (pc_if (fun d => absurd d t47) (fun _ => pc_rg (pc_bq m_isIn (fun r27 h27 => pc_rg (pc_if (fun d => ?_) (fun _ => pc_bn (fun t1 f1 => pc_bn (fun t2 f2 => ?_))))))))
    · exfalso
      rcases h27 with ⟨a, _⟩ | ⟨_, a⟩
      · omega
      · exact a ⟨by omega, by omega⟩
    · obtain ⟨⟨J4, T4, F4, B4, l4⟩, ⟨R2', G2, P2⟩, ⟨kA, kL, k47⟩, C2⟩ := y_start hC ht hRR G0 B (hZ ht).1 e32 f1 f2
      refine y_chance_L hC ht hRR G0 B FU FU 0 0 s32 t2 ⟨⟨J4, T4, R2', G2, by rw [k47]; exact t47, by rw [F4.1 983 (by decide), kL]; exact B.1, by rw [kL]; exact hJ.2.1, by rw [kA 39 (by decide) (by decide), F4.1 582 (by decide)]; exact (hZ ht).2⟩, B4, fun k hk => F4.1 k (by simp; omega), fun k hk => F4.2.1 k (by simp; omega), P2, fun i _ => by rw [kA 49 (by decide) (by decide)], kA 39 (by decide) (by decide), kA 9 (by decide) (by decide)⟩ q eq
  · unfold m_x12_chance
    refine pc_rg (pc_if (fun _ => RF q4 e4) (fun _ => pc_rg (pc_bq m_isIn (fun r27 h27 => pc_rg (pc_if (fun _ => RF q4 e4) (fun d => ?_))))))
    rcases h27 with ⟨_, _, a⟩ | ⟨a, _⟩
    · omega
    · exact absurd a d
/-! ===== the latest ACT is undone, on both sides ===== -/
theorem m_undo9 {t : MS} : pc (m_x12_undo t) (fun q => (gI t 76 = 0 ∧ q.1 = 0 ∧ gA q.2 9 = upZ (gA t 9) 4 (gA t 9 4 + 1)) ∨ (gI t 76 ≠ 0 ∧ q.1 = 1 ∧ gA q.2 9 = gA t 9)) := by
  have L : ∀ (n : Nat) (x : Int) (S : MS), gA S 9 = gA t 9 → pc (m_x12_undo_L21 n x S) (fun q => q.1 = 1 ∧ gA q.2 9 = gA t 9) := by
    refine fr_ind (fun _ _ _ => pc_none) (fun n ih x S h => ?_)
    show pc (m_x12_undo_b21 (m_x12_undo_L21 n) x S) _
    unfold m_x12_undo_b21
    exact pc_rg (pc_if (fun _ => pc_dv (pc_stn (fun s6 e6 => pc_stn (fun s7 e7 => pc_some ⟨rfl, (q_Ia e7).trans ((q_Ia e6).trans h)⟩)))) (fun _ => pc_rdI (fun _ => pc_inb (pc_stn (fun s10 e10 => ih _ s10 ((q_Aa e10 (by decide)).trans h))))))
  unfold m_x12_undo
  exact pc_rg (pc_if (fun c => pc_rdI (fun _ => pc_inb (pc_stn (fun s15 e15 => pc_some (Or.inl ⟨c, rfl, q_AA e15⟩))))) (fun c => pc_mono (L FU 0 t rfl) (fun q h => Or.inr ⟨c, h⟩)))
theorem JI_76 {t : MS} (h : JI t) (h0 : gI t 76 ≠ 0) : GA t := by
  rcases h.2.2.2 with ⟨_, _, a⟩ | ⟨a, b, c⟩
  · exact absurd a h0
  · exact ⟨b, c, h.1.1, h.1.2⟩
set_option maxHeartbeats 1000000 in
theorem y_undo {s t : MS} {ts : List MS} (hC : CI s ts) (hRR : Rr t) (hJ : JI t) (B : BT s ts t) (h47 : gI t 47 = gI s 12) : pc (m_x11_undo ts s) (fun q => pc (m_x12_undo t) (fun o => q.1 = o.1 ∧ BT q.2.1 q.2.2 o.2)) := by
  have e76 : gI t 76 = gI s 145 ∧ (gI s 145 ≠ 0 → gI s 143 ≠ 0) := by
    by_cases z : gI s 12 = 0
    · have a : gI s 145 = 0 := by
        rcases hC.2.2.1 with ⟨_, a, _⟩ | ⟨a, _⟩
        · exact a
        · omega
      rcases hJ.2.2.2 with ⟨_, _, b⟩ | ⟨b, _⟩
      · exact ⟨b.trans a.symm, fun w => absurd a w⟩
      · omega
    · obtain ⟨_, _, h1, n, d, h2, h3, _⟩ := B.2.2.2 z
      exact ⟨h1, fun w => by omega⟩
  unfold m_x11_undo
  refine pc_rg (pc_rg (pc_if (fun c => pc_bn (fun q4 e4 => pc_some ?_)) (fun c => pc_stn (fun s2 e2 => pc_inb (pc_if (fun c2 => pc_bn (fun s3 e3 => pc_some ?_)) (fun _ => pc_none))))))
  · have d0 : gI s 145 = 0 := by
      rcases c with c | c
      · exact c
      · exact Classical.byContradiction (fun w => e76.2 w c)
    intro o eo
    have F1 : F_x11_refuse s q4.2 := fr_x11_refuse e4
    have F2 : F_x12_undo t o.2 := fr_x12_undo eo
    have g1 : pc (m_x11_refuse 4 s) (fun q => gA q.2 2 = upZ (gA s 2) 4 (gA s 2 4 + 1)) := by
      unfold m_x11_refuse
      exact pc_rdI (fun _ => pc_inb (pc_stn (fun s3 e3 => pc_some (q_AA e3))))
    have x2 := g1 q4 e4
    have t0 : gI t 76 = 0 := e76.1.trans d0
    rcases m_undo9 o eo with ⟨_, o1, o9⟩ | ⟨a, _⟩
    rotate_left
    · exact absurd t0 a
    obtain ⟨_, W⟩ := wp_det (w_x12_undo hRR) eo
    rcases W with ⟨_, w1, w2, w3⟩ | ⟨w0, _⟩
    rotate_left
    · omega
    refine ⟨o1.symm, BT_k B (fun k hk => F1.1 k (by simp)) (fun k hk => F1.2.1 k (by simp; omega)) (fun k hk => ?_) (fun k hk => ?_) (by rw [F1.1 983 (by simp), F2.2.2.1 78 (by simp)]; exact B.1) (fun k hk => ?_)⟩
    · rcases hk with hk | hk
      · rw [hk]; exact w2
      · rw [hk]; exact w3
    · rcases hk with hk | hk | hk
      · rw [hk]; exact F2.2.1 39 (by decide)
      · rw [hk]; exact w1
      · rw [hk]; exact F2.2.1 75 (by decide)
    · show gA q4.2 2 k = gA o.2 9 k
      rw [x2, o9]
      by_cases z : k = 4
      · rw [z, upZ_s, upZ_s, B.2.1 4 (by decide)]
      · rw [upZ_n z, upZ_n z]; exact B.2.1 k hk
  · have c145 : gI s 145 ≠ 0 := fun z => c (Or.inl z)
    have c76 : gI t 76 ≠ 0 := by rw [e76.1]; exact c145
    have ht : gI s 12 ≠ 0 := fun z => by
      rcases hC.2.2.1 with ⟨_, a, _⟩ | ⟨a, _⟩
      · exact c145 a
      · omega
    obtain ⟨hN, hR0, h1, n, d, ⟨n1, n2⟩, ⟨d1, d2, d3⟩, kp, past⟩ := B.2.2.2 ht
    have i145 : gI s2 145 = (d : Int) - 1 := by
      rw [← e2]
      show (if 145 = 143 then gI s 143 - 1 else if 145 = 145 then gI s 145 - 1 else gI s 145) = (d : Int) - 1
      rw [if_neg (by decide), if_pos rfl, d1]
    have i143 : gI s2 143 = (n : Int) - 1 := by
      rw [← e2]
      show (if 143 = 143 then gI s 143 - 1 else if 143 = 145 then gI s 145 - 1 else gI s 143) = (n : Int) - 1
      rw [if_pos rfl, n1]
    have i2' : ∀ k, k ≠ 145 → k ≠ 143 → gI s2 k = gI s k := fun k k1 k2 => by
      rw [← e2]
      show (if k = 143 then gI s 143 - 1 else if k = 145 then gI s 145 - 1 else gI s k) = gI s k
      rw [if_neg k2, if_neg k1]
    have a2' : ∀ k, gA s2 k = gA s k := fun k => by rw [← e2]; rfl
    have l2' : ∀ k, gL s2 k = gL s k := fun k => by rw [← e2]; rfl
    have d0 : 1 ≤ d := by omega
    have td : (gI s2 145).toNat = d - 1 := by omega
    rw [td] at c2 e3
    obtain ⟨X, x1, x2, ⟨π, σ, lo, hi, x3, x4⟩, x5⟩ := past 0 (by omega)
    have gX : ts.getD (d - 1) s2 = X := by
      have q : ts[d - 1]? = some X := x1
      rw [List.getD_eq_getElem?_getD, q]; rfl
    rw [gX] at e3
    have hX : X ∈ ts := by
      have q : ts[d - 1]? = some X := x1
      exact List.mem_of_getElem? q
    have RBX := hC.2.2.2.2.1 X hX
    have hR2 : Rg s2 := by
      have q1 : Rg (sI s 145 (gI s 145 - 1)) := Rg.uI hC.1 (by show (0 : Int) ≤ gI s 145 - 1 ∧ gI s 145 - 1 ≤ 20; omega)
      rw [← e2]
      exact Rg.uI q1 (by show (0 : Int) ≤ gI s 143 - 1 ∧ gI s 143 - 1 ≤ 60; omega)
    have hRX : Rg (setB s2 X) := Rg_setB hR2 RBX
    obtain ⟨R3, F3, B3⟩ := wp_det (b_P hRX) e3
    intro o eo
    have F2 : F_x12_undo t o.2 := fr_x12_undo eo
    rcases m_undo9 o eo with ⟨a, _⟩ | ⟨_, o1, o9⟩
    · exact absurd a c76
    obtain ⟨_, W⟩ := wp_det (w_x12_undo hRR) eo
    rcases W with ⟨w0, _⟩ | ⟨_, w1, w2, w3, w4⟩
    · omega
    have r77 : (0 : Int) ≤ gI t 77 ∧ gI t 77 ≤ 19 := hRR.1 77
    have pos : ((gI t 77 - ((0 : Nat) : Int)) % 20).toNat = (gI t 77).toNat := by omega
    rw [pos] at x3 x4 x5
    -- the state that comes back
    have fA : ∀ k, ¬ (62 ≤ k ∧ k ≤ 70) → ¬ (54 ≤ k ∧ k ≤ 61) → gA (setB s3 s2) k = gA s k := fun k k1 k2 => by
      rw [setB_A k1, F3.2.1 k (by simp; omega), setB_A k1]; exact a2' k
    have fI : ∀ k, k < 1000 → gI (setB s3 s2) k = gI s2 k := fun k hk => by
      rw [setB_I (by omega), F3.1 k (by simp; omega), setB_I (by omega)]
    have f54 : ∀ k, 54 ≤ k → k ≤ 61 → gA (setB s3 s2) k = gA s3 k := fun k k1 k2 => setB_A (by omega)
    have f1060 : gI (setB s3 s2) 1060 = gI X 1240 := by
      rw [setB_I (by omega), B3.2.2.2.1]
      show gI (setB s2 X) 1240 = gI X 1240
      rw [gI_setB, if_pos (by omega)]
    have G0 := JI_76 hJ c76
    have GS : GN (sA t 49 (slot t (gI t 77).toNat)) := by
      have q := (G0.2.1 0 (by omega)).1
      rw [pos] at q; exact q
    have hKS : KLV (sA t 49 (slot t (gI t 77).toNat)) := KLV_of GS.1.1.1 (fun _ _ => Int.le_refl 0)
    have zz : ∀ x, x < 48 → 0 < cR (slot t (gI t 77).toNat) x ∨ 0 < vR (slot t (gI t 77).toNat) x → (hR (slot t (gI t 77).toNat)).2.1 x ≤ 6 := fun x hx l => (hKS.2.1 x hx l).1.1.2.1.2
    have P1 : TRf π σ (gI X 1240) (setB s2 X) 63 (slot t (gI t 77).toNat) := TRf_rows x3 (fun k k1 k2 => by rw [gA_setB, if_pos (by omega)])
    have P2 : TRf π σ (gI X 1240) (setB s3 s2) 54 (gA o.2 49) := TRf_r (TRf_rows (TRf_c P1 B3 zz) (fun k k1 k2 => f54 k k1 (by omega))) (fun k hk => w2 k (by omega))
    have O2 : OI o.2 lo hi := OI_785 x4 (fun k hk => w2 k (by omega))
    have o39 : gA o.2 39 = gA t 39 := F2.2.1 39 (by decide)
    have o75 : gA o.2 75 = gA t 75 := F2.2.1 75 (by decide)
    have sl : ∀ p, slot o.2 p = slot t p := fun p => by unfold slot; rw [o75]
    refine ⟨o1.symm, ?_, fun k hk => ?_, fun z => ?_, fun _ => ⟨by rw [f1060, x2, o39], ⟨π, σ, lo, hi, by rw [f1060]; exact P2, O2⟩, ?_, n - 1, d - 1, ⟨?_, by omega⟩, ⟨?_, by omega, by omega⟩, ?_, fun i hi' => ?_⟩⟩
    · show gI (setB s3 s2) 983 = gL o.2 78
      rw [fI 983 (by decide), i2' 983 (by decide) (by decide), F2.2.2.1 78 (by simp)]; exact B.1
    · show gA (setB s3 s2) 2 k = gA o.2 9 k
      rw [fA 2 (by decide) (by decide), o9]; exact B.2.1 k hk
    · exfalso
      have z' : gI (setB s3 s2) 12 = 0 := z
      rw [fI 12 (by decide), i2' 12 (by decide) (by decide)] at z'
      exact ht z'
    · show gI o.2 76 = gI (setB s3 s2) 145
      rw [w3, fI 145 (by decide), i145, e76.1, d1]
    · show gI (setB s3 s2) 143 = ((n - 1 : Nat) : Int)
      rw [fI 143 (by decide), i143]; omega
    · show gI (setB s3 s2) 145 = ((d - 1 : Nat) : Int)
      rw [fI 145 (by decide), i145]; omega
    · show KP (gA (setB s3 s2) 8) (gA (setB s3 s2) 9) (gA (setB s3 s2) 10) (n - 1) (gA o.2 49)
      rw [fA 8 (by decide) (by decide), fA 9 (by decide) (by decide), fA 10 (by decide) (by decide)]
      exact KP_f x5 (fun i _ hi' => w2 i hi')
    · obtain ⟨X', y1, y2, ⟨π', σ', lo', hi2, y3, y4⟩, y5⟩ := past (i + 1) (by omega)
      have p2 : ((gI o.2 77 - (i : Int)) % 20).toNat = ((gI t 77 - ((i + 1 : Nat) : Int)) % 20).toNat := by rw [w4]; omega
      refine ⟨X', ?_, by rw [y2, o39], ⟨π', σ', lo', hi2, by rw [p2, sl]; exact y3, ?_⟩, ?_⟩
      · show (ts.set (gI s2 145).toNat s3)[d - 1 - 1 - i]? = some X'
        rw [td, List.getElem?_set_ne (by omega), show d - 1 - 1 - i = d - 1 - (i + 1) by omega]
        exact y1
      · rw [p2, sl]; exact OI_49 y4 rfl
      · show KP (gA (setB s3 s2) 8) (gA (setB s3 s2) 9) (gA (setB s3 s2) 10) (n - 1 - 1 - i) _
        rw [fA 8 (by decide) (by decide), fA 9 (by decide) (by decide), fA 10 (by decide) (by decide), p2, sl, show n - 1 - 1 - i = n - 1 - (i + 1) by omega]
        exact y5
/-! ===== a store is built on both sides ===== -/
theorem s_clrF {p : Int} {s : MS} : pc (m_x8_clear_v2 p s) (fun o => gI o 1060 = p ∧ (∀ x, x < 48 → gA o 54 x = 0 ∧ gA o 55 x = 0) ∧ ∀ v, v < 8 → gA o 60 v = -2 ∧ gA o 61 v = -2) := by
  have L59 : ∀ (n : Nat) (i : Int) (S : MS), (0 ≤ i ∧ i ≤ 8) → gI S 1060 = p → (∀ x, x < 48 → gA S 54 x = 0 ∧ gA S 55 x = 0) → (∀ v : Nat, (v : Int) < i → gA S 60 v = -2 ∧ gA S 61 v = -2) → pc (m_x8_clear_v2_L59 n i S) (fun o => gI o 1060 = p ∧ (∀ x, x < 48 → gA o 54 x = 0 ∧ gA o 55 x = 0) ∧ ∀ v, v < 8 → gA o 60 v = -2 ∧ gA o 61 v = -2) := by
    refine fr_ind (fun _ _ _ _ _ _ => pc_none) (fun n ih i S hi h1 h2 h3 => ?_)
    show pc (m_x8_clear_v2_b59 (m_x8_clear_v2_L59 n) i S) _
    unfold m_x8_clear_v2_b59
    refine pc_rg (pc_if (fun c => pc_some ⟨h1, h2, fun v hv => h3 v (by omega)⟩) (fun c => pc_inb (pc_stn (fun s6 e6 => pc_inb (pc_stn (fun s8 e8 => ?_))))))
    have k60 : gA s8 60 = upZ (gA S 60) i.toNat (-2) := (q_Aa e8 (by decide) : gA s8 60 = gA s6 60).trans (q_AA e6)
    have k61 : gA s8 61 = upZ (gA S 61) i.toNat (-2) := by
      rw [(q_AA e8 : gA s8 61 = upZ (gA s6 61) i.toNat (-2)), (q_Aa e6 (by decide) : gA s6 61 = gA S 61)]
    have kk : ∀ k, k ≠ 60 → k ≠ 61 → gA s8 k = gA S k := fun k k1 k2 => (q_Aa e8 k2).trans (q_Aa e6 k1)
    refine ih (i + 1) s8 (by omega) ((q_Ai e8).trans ((q_Ai e6).trans h1)) (fun x hx => by rw [kk 54 (by decide) (by decide), kk 55 (by decide) (by decide)]; exact h2 x hx) (fun v hv => ?_)
    rw [k60, k61]
    by_cases z : v = i.toNat
    · rw [z, upZ_s, upZ_s]; exact ⟨rfl, rfl⟩
    · rw [upZ_n z, upZ_n z]; exact h3 v (by omega)
  have L17 : ∀ (n : Nat) (i : Int) (S : MS), (0 ≤ i ∧ i ≤ 48) → gI S 1060 = p → (∀ x : Nat, (x : Int) < i → gA S 54 x = 0 ∧ gA S 55 x = 0) → pc (m_x8_clear_v2_L17 n i S) (fun o => gI o 1060 = p ∧ (∀ x, x < 48 → gA o 54 x = 0 ∧ gA o 55 x = 0) ∧ ∀ v, v < 8 → gA o 60 v = -2 ∧ gA o 61 v = -2) := by
    refine fr_ind (fun _ _ _ _ _ => pc_none) (fun n ih i S hi h1 h2 => ?_)
    show pc (m_x8_clear_v2_b17 (m_x8_clear_v2_L17 n) i S) _
    unfold m_x8_clear_v2_b17
    refine pc_rg (pc_if (fun c => L59 FU 0 S (by omega) h1 (fun x hx => h2 x (by omega)) (fun v hv => absurd hv (by omega))) (fun c => pc_inb (pc_stn (fun s14 e14 => pc_inb (pc_stn (fun s16 e16 => pc_inb (pc_stn (fun s18 e18 => pc_inb (pc_stn (fun s20 e20 => ?_))))))))))
    have k54 : gA s20 54 = upZ (gA S 54) i.toNat 0 := (q_Aa e20 (by decide) : gA s20 54 = gA s18 54).trans ((q_Aa e18 (by decide) : gA s18 54 = gA s16 54).trans ((q_Aa e16 (by decide) : gA s16 54 = gA s14 54).trans (q_AA e14)))
    have k55 : gA s20 55 = upZ (gA S 55) i.toNat 0 := by
      rw [(q_Aa e20 (by decide) : gA s20 55 = gA s18 55), (q_Aa e18 (by decide) : gA s18 55 = gA s16 55), (q_AA e16 : gA s16 55 = upZ (gA s14 55) i.toNat 0), (q_Aa e14 (by decide) : gA s14 55 = gA S 55)]
    refine ih (i + 1) s20 (by omega) ((q_Ai e20).trans ((q_Ai e18).trans ((q_Ai e16).trans ((q_Ai e14).trans h1)))) (fun x hx => ?_)
    rw [k54, k55]
    by_cases z : x = i.toNat
    · rw [z, upZ_s, upZ_s]; exact ⟨rfl, rfl⟩
    · rw [upZ_n z, upZ_n z]; exact h2 x (by omega)
  unfold m_x8_clear_v2
  exact pc_stn (fun s21 e21 => pc_stn (fun s22 e22 => pc_stn (fun s23 e23 => L17 FU 0 s23 (by omega) ((q_Li e23).trans ((q_Ii e22 (by decide)).trans (q_II e21))) (fun x hx => absurd hx (by omega)))))
theorem m_go0 {a1 a2 a3 : Int} {t : MS} : pc (m_x12_actGoes 0 a1 a2 a3 t) (fun o => gA o 49 = upZ (gA t 49) a1.toNat 254 ∧ (∀ k, k ≠ 49 → gA o k = gA t k) ∧ (∀ k, gI o k = gI t k) ∧ (Rr t → Rr o)) := by
  unfold m_x12_actGoes m_x12_actGoes_J40
  refine pc_rg (pc_if (fun _ => pc_inb (pc_stn (fun o e => pc_some ⟨q_AA e, fun k hk => q_Aa e hk, fun k => q_Ai e, fun h => ?_⟩))) (fun d => absurd rfl d))
  exact e ▸ Rr.uAu h (by show (-2147483648 : Int) ≤ (254 : Int) ∧ (254 : Int) ≤ 2147483647; omega)
theorem m_go1 {a1 a2 a3 : Int} {t : MS} : pc (m_x12_actGoes 1 a1 a2 a3 t) (fun o => m_x12_copies a1 a2 t = some o) := by
  unfold m_x12_actGoes m_x12_actGoes_J40
  exact pc_rg (pc_if (fun d => absurd d (by decide)) (fun _ => pc_rg (pc_if (fun _ => pc_bn (fun o e => pc_some e)) (fun d => absurd rfl d))))
theorem m_go2 {p a1 a2 a3 : Int} {t : MS} (h : 2 ≤ p) : pc (m_x12_actGoes p a1 a2 a3 t) (fun o => ∃ r, m_x12_tries p a1 a2 a3 t = some (r, o)) := by
  unfold m_x12_actGoes m_x12_actGoes_J40
  refine pc_rg (pc_if (fun d => ?_) (fun _ => pc_rg (pc_if (fun d => ?_) (fun _ => pc_bn (fun q e => pc_some ⟨q.1, e⟩)))))
  · exfalso; omega
  · exfalso; omega
/-- both sides while they build -/
def BJ (K W F G A : Nat → Int) (c i : Int) (S T : MS) : Prop := (TE S ∧ gI S 585 = c ∧ gA S 31 = K ∧ gA S 32 = W ∧ gA S 33 = F ∧ gA S 34 = G) ∧ (Rr T ∧ RT T ∧ VR_r T (vt K i.toNat) ∧ CE T 0 ∧ CE T 1) ∧ (gA T 41 = A ∧ gA T 39 3 = c ∧ (8 ≤ gA T 39 5 ∧ gA T 39 5 ≤ 48) ∧ (3 ≤ gA T 39 6 ∧ gA T 39 6 ≤ 6)) ∧ gA T 49 785 = 0 ∧ J2 S T
theorem vt_step {K : Nat → Int} {i : Int} (hi : 0 ≤ i) : vt K (i + 1).toNat = vt K i.toNat + (if K i.toNat = 2 ∨ K i.toNat = 3 then 1 else 0) := by
  rw [show (i + 1).toNat = i.toNat + 1 by omega]
  rfl
set_option maxHeartbeats 1000000 in
theorem bj_vol {K W F G A : Nat → Int} {c i a2 a3 : Int} {S T S' T' : MS} (hi : 0 ≤ i) (B : BJ K W F G A c i S T) (k2 : K i.toNat = 2) (w0 : W i.toNat = vt K i.toNat) (v8 : vt K i.toNat + 1 ≤ 8) (e1 : sA S 60 (upZ (gA S 60) (W i.toNat).toNat (-1)) = S') (e2 : m_x12_actGoes 0 (W i.toNat) a2 a3 T = some T') : BJ K W F G A c (i + 1) S' T' := by
  obtain ⟨⟨hS, s5, s1, s2, s3, s4⟩, ⟨hT, rt, vr, c0, c1⟩, ⟨t41, t3, t5, t6⟩, t785, ⟨π, σ, lo, hh, H, O⟩, Z⟩ := B
  obtain ⟨g49, gk, gi, gr⟩ := m_go0 T' e2
  have v0 := vt_nn K i.toNat
  obtain ⟨v, hv⟩ : ∃ v : Nat, vt K i.toNat = (v : Int) := ⟨(vt K i.toNat).toNat, by omega⟩
  have v8' : v < 8 := by omega
  rw [w0, hv, Int.toNat_natCast] at e1 g49
  have vs : vt K (i + 1).toNat = (v : Int) + 1 := by rw [vt_step hi, if_pos (Or.inl k2), hv]
  rw [hv] at vr
  have r255 : gA T 49 v = 255 := vr.2.2 v (Int.le_refl _) (by omega)
  have ab : gA S 60 v = -2 := (rtr_e (H.1.2.2.2 v v8').1).1.2 r255
  have g60 : gA S' 60 = upZ (gA S 60) v (-1) := q_AA e1
  have kk : ∀ k, k ≠ 60 → gA S' k = gA S k := fun k h => q_Aa e1 h
  have kI : ∀ k, gI S' k = gI S k := fun k => q_Ai e1
  have hR' : Rg S' := e1 ▸ Rg.uAu hS.1 (by show (-2 : Int) ≤ -1 ∧ (-1 : Int) ≤ 253; omega)
  have TR := TG_root (v := v) (q := -1) hS.2.1 (by omega) (Or.inr (Or.inl (by omega)))
  have TS' : TS S' Z0 (-1) := by
    refine TS_mk (TG_D TR (fun x hx => ?_)) (hN_eq (kk 56 (by decide)) (kk 57 (by decide)) (kk 59 (by decide))) (kN_eq (kk 58 (by decide))) (kI _) (kI _) (kk 54 (by decide)) (kk 55 (by decide)) g60 (kk 61 (by decide))
    show (0 : Int) = 0 + (if gA S 60 v = (x : Int) then 1 else 0) - (if (-1 : Int) = (x : Int) then 1 else 0)
    rw [ab, if_neg (by omega), if_neg (by omega)]; rfl
  have u49 : ∀ u, u ≠ v → gA T' 49 u = gA T 49 u := fun u hu => by rw [g49, upZ_n hu]
  refine ⟨⟨⟨hR', TS', by rw [kI]; exact hS.2.2⟩, (kI _).trans s5, (kk 31 (by decide)).trans s1, (kk 32 (by decide)).trans s2, (kk 33 (by decide)).trans s3, (kk 34 (by decide)).trans s4⟩, ⟨gr hT, RT_gone (v := v) rt v8' (gk 39 (by decide)) g49 (by omega) (by rw [r255]; decide), ?_, CE_eq c0 (gk 42 (by decide)) (gk 43 (by decide)) (gk 44 (by decide)), CE_eq c1 (gk 42 (by decide)) (gk 43 (by decide)) (gk 44 (by decide))⟩, ⟨(gk 41 (by decide)).trans t41, by rw [gk 39 (by decide)]; exact t3, by rw [gk 39 (by decide)]; exact t5, by rw [gk 39 (by decide)]; exact t6⟩, by rw [u49 785 (by omega)]; exact t785, ⟨π, σ, lo, hh, ?_, ?_⟩, ?_⟩
  · rw [vs]
    refine VR_new vr (by omega) (fun u _ hu => u49 u (by rw [Int.toNat_natCast] at hu; exact hu)) ?_
    rw [Int.toNat_natCast, g49, upZ_s]; omega
  · exact sim_root H v8' (fun k _ _ k3 => kk k k3) g60 (kI _) (q_Al e1) g49 (by rw [gk 39 (by decide)]) (gk 54 (by decide)) (Or.inl ⟨rfl, rfl⟩)
  · refine OI_x O (fun x hx k k2 k16 => u49 _ (by omega)) (fun x hx hl => ?_)
    have cE : cM T' x = cM T x := u49 (17 + 16 * x) (by omega)
    have vE : vM T' x = vM T x := u49 (18 + 16 * x) (by omega)
    unfold LV at hl ⊢
    rw [cE, vE] at hl; exact hl
  · exact ZP_k Z (kI _) (kI _) (fun k k1 k2 => kk k (by omega)) (fun k hk => gk k (by omega))
set_option maxHeartbeats 1000000 in
theorem bj_clone {K W F G A : Nat → Int} {c i a3 : Int} {S T S' T' : MS} (hi : 0 ≤ i) (B : BJ K W F G A c i S T) (k3 : K i.toNat = 3) (w0 : W i.toNat = vt K i.toNat) (f0 : 0 ≤ F i.toNat ∧ F i.toNat < vt K i.toNat) (v8 : vt K i.toNat + 1 ≤ 8) (e1 : m_x1_share (F i.toNat) (W i.toNat) S = some S') (e2 : m_x12_actGoes 1 (F i.toNat) (W i.toNat) a3 T = some T') : BJ K W F G A c (i + 1) S' T' := by
  obtain ⟨⟨hS, s5, s1, s2, s3, s4⟩, ⟨hT, rt, vr, c0, c1⟩, ⟨t41, t3, t5, t6⟩, t785, ⟨π, σ, lo, hh, H, O⟩, Z⟩ := B
  have f3 := m_go1 T' e2
  obtain ⟨v, hv⟩ : ∃ v : Nat, vt K i.toNat = (v : Int) := ⟨(vt K i.toNat).toNat, by omega⟩
  obtain ⟨u, hu⟩ : ∃ u : Nat, F i.toNat = (u : Int) := ⟨(F i.toNat).toNat, by omega⟩
  have v8' : v < 8 := by omega
  have u8 : u < 8 := by omega
  rw [w0, hv, hu] at e1 f3
  have vs : vt K (i + 1).toNat = (v : Int) + 1 := by rw [vt_step hi, if_pos (Or.inr k3), hv]
  rw [hv] at vr
  have r255 : gA T 49 v = 255 := vr.2.2 v (Int.le_refl _) (by omega)
  have ru := vr.2.1 u (by omega)
  have n255 : gA T 49 u ≠ 255 := by omega
  have rtr1 := H.1.2.2.2
  have ab : gA S 60 v = -2 := (rtr_e (rtr1 v v8').1).1.2 r255
  have pr : gA S 60 u ≠ -2 := fun z => n255 ((rtr_e (rtr1 u u8).1).1.1 z)
  have W3 := wp_det (w_x12_copies hT (p0 := (u : Int)) (p1 := (v : Int)) ⟨by omega, by omega⟩ ⟨by omega, by omega⟩ rt (by rw [Int.toNat_natCast]; exact r255) (by rw [Int.toNat_natCast]; exact ru)) f3
  rw [Int.toNat_natCast, Int.toNat_natCast] at W3
  obtain ⟨R3, RT3, k785, u3, v3⟩ := W3
  have F3 : F_x12_copies T T' := fr_x12_copies f3
  have FS : F_x1_share S S' := fr_x1_share e1
  have T16 := (wp_det (ts_share hS (p0 := (u : Int)) (p1 := (v : Int)) ⟨by omega, by omega⟩ ⟨by omega, by omega⟩ (by rw [Int.toNat_natCast]; exact pr) (by rw [Int.toNat_natCast]; exact ab)) e1).1
  have root : 0 ≤ gA T 49 u → gA T 49 u < 254 → gA T 49 u < 48 ∧ 0 < cM T (gA T 49 u).toNat := fun x y => by
    have q := TG_root_live (v := u) rt.1 (fun _ _ => Int.le_refl 0) u8 (by rw [rM_v u8]; exact x) (by rw [rM_v u8]; omega)
    rw [rM_v u8] at q
    exact ⟨by omega, q.2⟩
  have HS : SIM π σ S' T' := y_share H u8 v8' root n255 S' e1 T' f3
  obtain ⟨mc1, mc2⟩ := m_cop v8' u8 T' f3
  refine ⟨⟨T16, (FS.1 585 (by simp)).trans s5, (FS.2.1 31 (by decide)).trans s1, (FS.2.1 32 (by decide)).trans s2, (FS.2.1 33 (by decide)).trans s3, (FS.2.1 34 (by decide)).trans s4⟩, ⟨R3, RT3, ?_, CE_eq c0 (F3.2.1 42 (by decide)) (F3.2.1 43 (by decide)) (F3.2.1 44 (by decide)), CE_eq c1 (F3.2.1 42 (by decide)) (F3.2.1 43 (by decide)) (F3.2.1 44 (by decide))⟩, ⟨(F3.2.1 41 (by decide)).trans t41, by rw [F3.2.1 39 (by decide)]; exact t3, by rw [F3.2.1 39 (by decide)]; exact t5, by rw [F3.2.1 39 (by decide)]; exact t6⟩, by rw [k785 785 (by omega)]; exact t785, ⟨π, σ, lo, hh, HS, ?_⟩, ?_⟩
  · rw [vs]
    refine VR_new vr (by omega) (fun w hw hn => u3 w (by omega) (by rw [Int.toNat_natCast] at hn; exact hn)) ?_
    rw [Int.toNat_natCast, v3]; exact ru
  · refine OI_x O (fun x hx k k2 k16 => mc1 _ (by omega) (by omega)) (fun x hx hl => ?_)
    have vE : vM T' x = vM T x := mc1 (18 + 16 * x) (by omega) (by omega)
    unfold LV at hl ⊢
    rw [vE] at hl
    rcases hl with w | w
    · rcases mc2 x with y | y
      · rw [y] at w; exact Or.inl w
      · have q := root (by omega) (by omega)
        rw [y, Int.toNat_natCast] at q
        exact Or.inl q.2
    · exact Or.inr w
  · exact ZP_k Z (FS.1 581 (by simp)) (FS.1 741 (by simp)) (fun k k1 k2 => FS.2.1 k (by simp; omega)) (fun k hk => F3.2.1 k (by simp; omega))
set_option maxHeartbeats 1000000 in
/-- an act that is tried while they build -/
theorem bj_try {K W F G A : Nat → Int} {c i p f g : Int} {S T : MS} {q o : Int × MS} {w : Nat} (hi : 0 ≤ i) (B : BJ K W F G A c i S T) (k2 : ¬ (K i.toNat = 2 ∨ K i.toNat = 3)) (hw : (w : Int) < vt K i.toNat) (v8 : vt K i.toNat ≤ 8) (hp : p = 2 ∨ p = 3) (hpk : p = 2 → (0 ≤ f ∧ f ≤ 999) ∧ (0 ≤ g ∧ g ≤ 999)) (h2 : R2 f) (h3 : R2 g) (T1 : TE q.2) (F1 : F_x1_tryPlant S q.2 ∨ F_x1_tryUproot S q.2) (e2 : m_x12_tries p (w : Int) f g T = some o) (J : TRY q o) : BJ K W F G A c (i + 1) q.2 o.2 := by
  obtain ⟨⟨hS, s5, s1, s2, s3, s4⟩, ⟨hT, rt, vr, c0, c1⟩, ⟨t41, t3, t5, t6⟩, t785, _⟩ := B
  have w8 : w < 8 := by omega
  have rw' := vr.2.1 w hw
  have FT : F_x12_tries T o.2 := fr_x12_tries e2
  have W3 := wp_det (w_x12_tries hT hp (p1 := (w : Int)) ⟨by omega, by omega⟩ rt c0 c1 (by omega) t6 (by rw [Int.toNat_natCast]; omega) hpk h2 h3) e2
  rw [Int.toNat_natCast] at W3
  obtain ⟨R3, _, KS3, RT3, RW3, _⟩ := W3
  have kI : gI q.2 585 = gI S 585 := by
    rcases F1 with F1 | F1
    · exact F1.1 585 (by decide)
    · exact F1.1 585 (by decide)
  have kA : ∀ k, 31 ≤ k → k ≤ 34 → gA q.2 k = gA S k := fun k k1 k2 => by
    rcases F1 with F1 | F1
    · exact F1.2.1 k (by simp; omega)
    · exact F1.2.1 k (by simp; omega)
  obtain ⟨_, _, π, σ, lo, hh, H, Z, O⟩ := J
  refine ⟨⟨T1, kI.trans s5, (kA 31 (by decide) (by decide)).trans s1, (kA 32 (by decide) (by decide)).trans s2, (kA 33 (by decide) (by decide)).trans s3, (kA 34 (by decide) (by decide)).trans s4⟩, ⟨R3, RT3, ?_, CE_eq c0 (FT.2.1 42 (by decide)) (FT.2.1 43 (by decide)) (FT.2.1 44 (by decide)), CE_eq c1 (FT.2.1 42 (by decide)) (FT.2.1 43 (by decide)) (FT.2.1 44 (by decide))⟩, ⟨(FT.2.1 41 (by decide)).trans t41, by rw [FT.2.1 39 (by decide)]; exact t3, by rw [FT.2.1 39 (by decide)]; exact t5, by rw [FT.2.1 39 (by decide)]; exact t6⟩, by rw [KS3.2 785 (by omega)]; exact t785, ⟨π, σ, lo, hh, H, O⟩, Z⟩
  rw [vt_step hi, if_neg k2, Int.add_zero]
  exact VR_w vr hw RW3
/-- what both sides have when the store stands -/
def BE (s t : MS) : Prop := gI s 1060 = gA t 39 5 ∧ R0 s t ∧ gA t 49 785 = 0 ∧ gI t 76 = 0
theorem st_step {m : Nat} {i : Int} {T : MS} (hi : 0 ≤ i) (h : i < gA T 39 3) {P : MS → Prop} (g : ∀ T', m_x12_actGoes (gA T 41 (4 * i.toNat)) (gA T 41 (4 * i.toNat + 1)) (gA T 41 (4 * i.toNat + 2)) (gA T 41 (4 * i.toNat + 3)) T = some T' → pc (m_x12_stands_L193 m (i + 1) T') P) : pc (m_x12_stands_L193 (m + 1) i T) P := by
  show pc (m_x12_stands_b193 (m_x12_stands_L193 m) i T) P
  unfold m_x12_stands_b193
  have t0 : Int.toNat (4 * i) = 4 * i.toNat := by omega
  have t1 : Int.toNat (4 * i + 1) = 4 * i.toNat + 1 := by omega
  have t2 : Int.toNat (4 * i + 2) = 4 * i.toNat + 2 := by omega
  have t3 : Int.toNat (4 * i + 3) = 4 * i.toNat + 3 := by omega
  refine pc_rdI (fun _ => pc_rg (pc_rg (pc_if (fun d => ?_) (fun _ => pc_rdI (fun _ => pc_rdI (fun _ => pc_rdI (fun _ => pc_rdI (fun _ => pc_bn (fun T' e => ?_)))))))))
  · exact absurd (show gA T 39 3 ≤ i from d) (by omega)
  · rw [t0, t1, t2, t3] at e
    exact g T' e
set_option maxHeartbeats 2000000 in
theorem y_buildL {K W F G A : Nat → Int} {c V : Int} (hP : PV K W F G c.toNat V) (hV : V ≤ 8) (hA : ∀ a : Nat, (a : Int) < c → AC1 (K a) (W a) (F a) (G a) (A (4 * a)) (A (4 * a + 1)) (A (4 * a + 2)) (A (4 * a + 3))) : ∀ (n m : Nat) (i : Int) (S T : MS), 0 ≤ i → BJ K W F G A c i S T → pc (m_x1_build_L18 n i S) (fun s' => pc (m_x12_stands_L193 m i T) (fun t' => BE s' t')) := by
  refine fr_ind (fun _ _ _ _ _ _ => pc_none) (fun n ih m i S T hi B => ?_)
  cases m with
  | zero => exact fun q _ => pc_none
  | succ m =>
    have B0 := B
    obtain ⟨⟨hS, s5, s1, s2, s3, s4⟩, ⟨hT, rt, vr, c0, c1⟩, ⟨t41, t3, t5, t6⟩, t785, ⟨π, σ, lo, hh, H, O⟩, Z⟩ := B
    show pc (m_x1_build_b18 (m_x1_build_L18 n) i S) _
    unfold m_x1_build_b18 m_x1_build_J135
    refine pc_rg (pc_rg (pc_if (fun c1' => ?_) (fun c1' => pc_rdI (fun _ => pc_rdI (fun _ => ?_)))))
    · refine pc_bn (fun s9 e9 => pc_stn (fun s10 e10 => pc_stn (fun s11 e11 => pc_some ?_)))
      show pc (m_x12_stands_b193 (m_x12_stands_L193 m) i T) _
      unfold m_x12_stands_b193
      refine pc_rdI (fun _ => pc_rg (pc_rg (pc_if (fun d => pc_bn (fun s8 e8 => pc_inb (pc_stn (fun t10 f10 => pc_stn (fun t11 f11 => pc_stn (fun t12 f12 => pc_some ?_)))))) (fun d => ?_))))
      · have HS := y_save H hS.1 hT e9 e8
        have O8 := OI_checks O hT e8
        have F8 : F_x12_checks T s8 := fr_x12_checks e8
        have W8 := (wp_det (w_x12_checks hT) e8).2.1
        have k49 : gA t12 49 = upZ (gA s8 49) 16 0 := ((q_Ia f12).trans (q_Ia f11)).trans (q_AA f10)
        have k39 : gA t12 39 = gA s8 39 := ((q_Ia f12).trans (q_Ia f11)).trans (q_Aa f10 (by decide))
        have e49 : ∀ k, k ≠ 16 → gA t12 49 k = gA s8 49 k := fun k hk => by rw [k49, upZ_n hk]
        have s60 : gI s11 1060 = gI s9 1060 := (q_Li e11).trans (q_Ii e10 (by decide))
        refine ⟨by rw [s60, k39]; exact HS.2.1, ⟨π, σ, lo, hh, ?_, OI_16 O8 (fun k _ h16 => e49 k h16)⟩, ?_, ?_⟩
        · rw [s60]
          exact TRf_rows (TRf_x HS.1 (fun k _ h16 => e49 k h16)) (fun k _ _ => (q_La e11).trans (q_Ia e10))
        · rw [e49 785 (by decide), W8 785 (by omega) (fun p hp => by omega)]; exact t785
        · exact (q_Ii f12 (by decide)).trans (q_II f11)
      · exact absurd (show gA T 39 3 ≤ i by omega) d
    · have ci : i < c := by omega
      have rcd := hP.1 i.toNat (by omega)
      have ac := hA i.toNat (by omega)
      have vm : vt K (i.toNat + 1) ≤ V := by rw [← hP.2]; exact vt_mono (by omega)
      have vsu : vt K (i.toNat + 1) = vt K i.toNat + (if K i.toNat = 2 ∨ K i.toNat = 3 then 1 else 0) := rfl
      have v0 := vt_nn K i.toNat
      rw [s1, s2]
      unfold Rec at rcd
      unfold AC1 at ac
      refine pc_rg (pc_if (fun c2 => ?_) (fun c2 => pc_if (fun c3 => ?_) (fun c3 => pc_if (fun c4 => ?_) (fun c4 => pc_if (fun c5 => ?_) (fun c5 => pc_if (fun c6 => ?_) (fun c6 => ?_))))))
      · rw [if_pos (Or.inl c2)] at vsu
        have w0 : W i.toNat = vt K i.toNat := by omega
        have a0 : A (4 * i.toNat) = 0 ∧ A (4 * i.toNat + 1) = W i.toNat := by omega
        refine pc_inb (pc_stn (fun s17 e17 => fun q eq => st_step hi (by omega) (fun T' e => ?_)))
        rw [t41, a0.1, a0.2] at e
        exact ih m (i + 1) s17 T' (by omega) (bj_vol hi B0 c2 w0 (by omega) e17 e) q eq
      · rw [if_pos (Or.inr c3)] at vsu
        have w0 : W i.toNat = vt K i.toNat := by omega
        have f0 : 0 ≤ F i.toNat ∧ F i.toNat < vt K i.toNat := by omega
        have a0 : A (4 * i.toNat) = 1 ∧ A (4 * i.toNat + 1) = F i.toNat ∧ A (4 * i.toNat + 2) = W i.toNat := by omega
        refine pc_rdI (fun _ => pc_bn (fun s21 e21 => fun q eq => st_step hi (by omega) (fun T' e => ?_)))
        rw [t41, a0.1, a0.2.1, a0.2.2] at e
        rw [s3] at e21
        exact ih m (i + 1) s21 T' (by omega) (bj_clone hi B0 c3 w0 f0 (by omega) e21 e) q eq
      · exfalso; omega
      · rw [if_neg (by omega)] at vsu
        have b0 : (0 ≤ W i.toNat ∧ W i.toNat < vt K i.toNat) ∧ (0 ≤ F i.toNat ∧ F i.toNat ≤ 999) ∧ (0 ≤ G i.toNat ∧ G i.toNat ≤ 999) := by omega
        have a0 : A (4 * i.toNat) = 2 ∧ A (4 * i.toNat + 1) = W i.toNat ∧ A (4 * i.toNat + 2) = F i.toNat ∧ A (4 * i.toNat + 3) = G i.toNat := by omega
        obtain ⟨w, hw⟩ : ∃ w : Nat, W i.toNat = (w : Int) := ⟨(W i.toNat).toNat, by omega⟩
        refine pc_rdI (fun _ => pc_rdI (fun _ => pc_bn (fun q28 e28 => fun q eq => st_step hi (by omega) (fun T' e => ?_))))
        rw [t41, a0.1, a0.2.1, a0.2.2.1, a0.2.2.2, hw] at e
        rw [s3, s4, hw] at e28
        obtain ⟨r, e⟩ := m_go2 (by decide) T' e
        have rw' := vr.2.1 w (by omega)
        have r1061 : (-70000 : Int) ≤ gI S 1061 ∧ gI S 1061 ≤ 999999 := hS.1.1 1061
        have pr : gA S 60 w ≠ -2 := fun z => by
          have y := (rtr_e (H.1.2.2.2 w (by omega)).1).1.1 z
          omega
        have J := y_tryPlant H Z hS.1 hT hS.2.1 rt c0 c1 (by omega) t6 hS.2.2 r1061.2 (by omega) (by omega) O b0.2.1 b0.2.2 q28 e28 (r, T') e
        have T1 := (wp_det (ts_tryPlant hS (p0 := (w : Int)) ⟨by omega, by omega⟩ (by rw [Int.toNat_natCast]; exact pr) b0.2.1 b0.2.2) e28).1
        exact ih m (i + 1) q28.2 T' (by omega) (bj_try (o := (r, T')) hi B0 (by omega) (by omega) (by omega) (Or.inl rfl) (fun _ => b0.2) ⟨by omega, by omega⟩ ⟨by omega, by omega⟩ T1 (Or.inl (fr_x1_tryPlant e28)) e J) q eq
      · rw [if_neg (by omega)] at vsu
        have b0 : (0 ≤ W i.toNat ∧ W i.toNat < vt K i.toNat) ∧ (0 ≤ F i.toNat ∧ F i.toNat ≤ 999) := by omega
        have a0 : A (4 * i.toNat) = 3 ∧ A (4 * i.toNat + 1) = W i.toNat ∧ A (4 * i.toNat + 2) = F i.toNat := by omega
        obtain ⟨w, hw⟩ : ∃ w : Nat, W i.toNat = (w : Int) := ⟨(W i.toNat).toNat, by omega⟩
        refine pc_rdI (fun _ => pc_bn (fun q33 e33 => fun q eq => st_step hi (by omega) (fun T' e => ?_)))
        have b41 : (-2147483648 : Int) ≤ gA T 41 (4 * i.toNat + 3) ∧ gA T 41 (4 * i.toNat + 3) ≤ 2147483647 := hT.2.1 41 (4 * i.toNat + 3) (by
          have : (0 : Int) ≤ gI S 585 ∧ gI S 585 ≤ 60 := hS.1.1 585
          show 4 * i.toNat + 3 < 240
          omega)
        rw [t41] at b41
        rw [t41, a0.1, a0.2.1, a0.2.2, hw] at e
        rw [s3, hw] at e33
        obtain ⟨r, e⟩ := m_go2 (by decide) T' e
        have r1061 : (-70000 : Int) ≤ gI S 1061 ∧ gI S 1061 ≤ 999999 := hS.1.1 1061
        have rw' := vr.2.1 w (by omega)
        have pr : gA S 60 w ≠ -2 := fun z => by
          have y := (rtr_e (H.1.2.2.2 w (by omega)).1).1.1 z
          omega
        have J := y_tryUproot (val := A (4 * i.toNat + 3)) H Z hS.1 hS.2.1 rt c0 (by omega) t6 hS.2.2 r1061.2 (by omega) O ⟨by omega, by omega⟩ hT q33 e33 (r, T') e
        have T1 := (wp_det (ts_tryUproot hS (p0 := (w : Int)) (p1 := F i.toNat) ⟨by omega, by omega⟩ (by rw [Int.toNat_natCast]; exact pr) ⟨by omega, by omega⟩) e33).1
        exact ih m (i + 1) q33.2 T' (by omega) (bj_try (o := (r, T')) hi B0 (by omega) (by omega) (by omega) (Or.inr rfl) (fun z => absurd z (by decide)) ⟨by omega, by omega⟩ b41 T1 (Or.inr (fr_x1_tryUproot e33)) e J) q eq
      · exfalso; omega
/-! ===== STORE on both sides: what stands then ===== -/
theorem HJ_k5 {s s' t t' : MS} {ts : List MS} (H : HJ s ts t) (a1 : gI s' 145 = gI s 145) (a2 : gI s' 143 = gI s 143) (a3 : ∀ k, k = 8 ∨ k = 9 ∨ k = 10 → gA s' k = gA s k) (b1 : gI t' 76 = gI t 76) (b2 : gI t' 77 = gI t 77) (b3 : gA t' 75 = gA t 75) (b4 : gA t' 39 5 = gA t 39 5) (b5 : ∀ i, 785 ≤ i → i < 906 → gA t' 49 i = gA t 49 i) : HJ s' ts t' := by
  obtain ⟨h1, n, d, h2, h3, h4, h5⟩ := H
  have sl : ∀ p, slot t' p = slot t p := fun p => by unfold slot; rw [b3]
  refine ⟨by rw [b1, a1]; exact h1, n, d, by rw [a2]; exact h2, by rw [a1]; exact h3, ?_, fun i hi => ?_⟩
  · rw [a3 8 (Or.inl rfl), a3 9 (by omega), a3 10 (by omega)]; exact KP_f h4 b5
  · obtain ⟨X, x1, x2, ⟨π, σ, lo, hi', x3, x4⟩, x5⟩ := h5 i hi
    refine ⟨X, x1, by rw [b4]; exact x2, ⟨π, σ, lo, hi', by rw [b2, sl]; exact x3, ?_⟩, ?_⟩
    · rw [b2, sl]
      exact OI_49 x4 rfl
    · rw [a3 8 (Or.inl rfl), a3 9 (by omega), a3 10 (by omega), b2, sl]; exact x5
theorem BT_k5 {s s' t t' : MS} {ts : List MS} (h : BT s ts t) (a1 : ∀ k, k = 12 ∨ k = 143 ∨ k = 145 ∨ k = 1060 ∨ k = 1061 → gI s' k = gI s k) (a2 : ∀ k, k = 8 ∨ k = 9 ∨ k = 10 ∨ (54 ≤ k ∧ k ≤ 61) → gA s' k = gA s k) (b1 : ∀ k, k = 76 ∨ k = 77 → gI t' k = gI t k) (b2 : ∀ k, k = 49 ∨ k = 75 → gA t' k = gA t k) (b3 : gA t' 39 5 = gA t 39 5) (c1 : gI s' 983 = gL t' 78) (c2 : ∀ k, k < 6 → gA s' 2 k = gA t' 9 k) : BT s' ts t' := by
  obtain ⟨_, _, h3, h4⟩ := h
  refine ⟨c1, c2, fun z => ?_, fun z => ?_⟩
  · obtain ⟨u1, u2, u3, u4, u5, u6⟩ := h3 (by rw [← a1 12 (Or.inl rfl)]; exact z)
    refine ⟨by rw [a1 1060 (by omega)]; exact u1, by rw [a1 1061 (by omega)]; exact u2, by rw [a1 143 (by omega)]; exact u3, fun v hv => by rw [a2 61 (by omega)]; exact u4 v hv, by rw [b2 49 (by omega)]; exact u5, by rw [b2 49 (by omega)]; exact u6⟩
  · obtain ⟨g1, ⟨π, σ, lo, hi, g2, g3⟩, g4⟩ := h4 (by rw [← a1 12 (Or.inl rfl)]; exact z)
    refine ⟨by rw [a1 1060 (by omega), b3]; exact g1, ⟨π, σ, lo, hi, ?_, OI_49 g3 (b2 49 (by omega))⟩, HJ_k5 g4 (a1 145 (by omega)) (a1 143 (by omega)) (fun k hk => a2 k (by omega)) (b1 76 (Or.inl rfl)) (b1 77 (Or.inr rfl)) (b2 75 (by omega)) b3 (fun i _ _ => by rw [b2 49 (by omega)])⟩
    rw [a1 1060 (by omega), b2 49 (by omega)]
    exact TRf_rows g2 (fun k k1 k2 => a2 k (by omega))
def STJ (t0 T : MS) : Prop := SRT t0 T ∧ gA T 9 = gA t0 9
theorem rs_L87 {t0 : MS} : ∀ (n : Nat) (T : MS), STJ t0 T → pc (m_x12_store_L87 n T) (fun o => ∃ T', STJ t0 T' ∧ m_x12_store_J109 T' = some o) := by
  refine fr_ind (fun _ _ => pc_none) (fun n ih T H0 => ?_)
  obtain ⟨H, h9⟩ := H0
  show pc (m_x12_store_b87 (m_x12_store_L87 n) T) _
  unfold m_x12_store_b87
  refine pc_rg (pc_if (fun c => pc_bn (fun q16 e16 => ?_)) (fun _ => fun o eo => ⟨T, ⟨H, h9⟩, eo⟩))
  obtain ⟨hS, h2, h46⟩ := H.2.2 c
  have W := wp_det (w_x12_look H.1 h2) e16
  have F : F_x12_look T q16.2 := fr_x12_look e16
  have S16 : SP q16.2 0 := SP_eq hS (F.2.1 39 (by decide)) (F.2.1 41 (by decide)) (F.2.1 42 (by decide)) (F.2.1 43 (by decide)) (F.2.1 44 (by decide)) (F.1 45 (by decide)) (by rw [F.1 46 (by decide)]; omega) W.2.2.1.1 (Or.inl c)
  have c16 : gI q16.2 5 = 0 := (F.1 5 (by decide)).trans c
  have e46 : gI q16.2 46 = gI T 46 := F.1 46 (by decide)
  have K16 : KT t0 q16.2 := KT_0 H.2.1 F (by decide)
  have H16 : SRT t0 q16.2 := ⟨W.1, K16, fun _ => ⟨S16, W.2.2.1.2, by omega⟩⟩
  have h916 : gA q16.2 9 = gA t0 9 := (F.2.1 9 (by decide)).trans h9
  refine pc_rg (pc_if (fun _ => fun o eo => ⟨q16.2, ⟨H16, h916⟩, eo⟩) (fun _ => pc_bn (fun o eo => ih o ⟨?_, ?_⟩)))
  · have V := wp_det (w_x12_statementTold W.1 W.2.2.1.2 S16 (by omega) c16) eo
    have G : F_x12_statementTold q16.2 o := fr_x12_statementTold eo
    have b := b_stmt ⟨S16.1.1, S16.1.2.1⟩ o eo
    refine ⟨V.1, KT_tr K16 V.2.2.2.2 b G (by decide) (by decide), fun z => ⟨V.2.1, V.2.2.1.2, ?_⟩⟩
    rcases V.2.2.2.1 with w | w
    · by_cases k : gI q16.2 46 = 60
      · exact absurd ((m_stmt60 c16 k o eo).1.symm.trans z) (by decide)
      · omega
    · exact absurd z w.1
  · exact ((fr_x12_statementTold eo).2.1 9 (by decide)).trans h916
theorem rs_store {t : MS} (hR : Rr t) : pc (m_x12_store t) (fun o => ∃ T', STJ t T' ∧ m_x12_store_J109 T' = some o) := by
  refine m_sin (fun T hT hRT => pc_bn (fun s26 e26 => pc_stn (fun s27 e27 => rs_L87 FU s27 ?_)))
  have RT' := hRT hR
  have h := hT.1
  have r3 : (0 : Int) ≤ gI T 3 ∧ gI T 3 ≤ 1600 := RT'.1 3
  have W := wp_det (w_x12_storeTold RT' (by omega) ⟨⟨by rw [hT.2.1.1 2 (by decide)]; omega, by rw [hT.2.1.1 3 (by decide)]; omega⟩, ⟨by rw [hT.2.1.1 2 (by decide), hT.2.1.1 3 (by decide)]; rfl, by rw [hT.2.1.1 3 (by decide)]; exact fun k hk => absurd hk (by omega)⟩, by omega, fun w hw => Or.inl (hT.2.2.1.1 w hw)⟩ (hT.2.1.1 4 (by decide))) e26
  have F26 : F_x12_storeTold T s26 := fr_x12_storeTold e26
  have K26 : KT t s26 := KT_tr (SIN_KT hT) W.2.2.2 (fun j _ => by rw [F26.2.2.2 40 (by decide)]) (Fr.tr (Fr.rf T) F26 ⟨fun _ q => q, fun _ q => q, fun _ q => q, fun _ q => absurd q (by simp)⟩ : Fr [2, 4, 5, 6, 10] [39] [] [40] T s26) (by decide) (by decide)
  have k46 : gI s26 46 = gI T 46 := F26.1 46 (by decide)
  have kA : ∀ k, gA s27 k = gA s26 k := fun k => q_Ia e27
  have kI : ∀ i, i ≠ 46 → gI s27 i = gI s26 i := fun i hi => q_Ii e27 hi
  refine ⟨⟨by subst e27; exact Rr.uI W.1 (by show (0 : Int) ≤ 1 ∧ (1 : Int) ≤ 60; omega), KT_0 K26 (FI1 e27) (by decide), fun z => ⟨SP_eq W.2.1 (kA 39) (kA 41) (kA 42) (kA 43) (kA 44) (kI 45 (by decide)) (by rw [(q_II e27 : gI s27 46 = 1), k46]; omega) (by rw [kI 2 (by decide)]; omega) (Or.inl ((kI 5 (by decide)).symm.trans z)), by rw [kI 2 (by decide), kI 3 (by decide)]; exact W.2.2.1.2, by rw [(q_II e27 : gI s27 46 = 1)]; omega⟩⟩, ?_⟩
  rw [kA 9, F26.2.1 9 (by decide)]
  exact hT.2.2.2.2.1 9 (by decide)
theorem j109 {T : MS} : pc (m_x12_store_J109 T) (fun o => gI o.2 7 = gI T 5 ∧ ∃ s3, (Fr [7, 8] [] [] [] T s3 ∧ (Rr T → Rr s3)) ∧ ((gI T 5 = 0 ∧ m_x12_stands s3 = some o.2) ∨ (gI T 5 ≠ 0 ∧ m_x12_refuses 1 s3 = some o))) := by
  unfold m_x12_store_J109
  refine pc_stn (fun s2 e2 => pc_stn (fun s3 e3 => ?_))
  have i5 : gI s3 5 = gI T 5 := (q_Ii e3 (by decide)).trans (q_Ii e2 (by decide))
  have i7 : gI s3 7 = gI T 5 := (q_Ii e3 (by decide)).trans (q_II e2)
  have i6 : gI s2 6 = gI T 6 := q_Ii e2 (by decide)
  have F : Fr [7, 8] [] [] [] T s3 := by
    subst e3; subst e2
    exact Fr.uI (Fr.uI (Fr.rf T) (by decide)) (by decide)
  have R : Rr T → Rr s3 := fun h => by
    have b5 : (0 : Int) ≤ gI T 5 ∧ gI T 5 ≤ 5 := h.1 5
    have b6 : (-2147483648 : Int) ≤ gI T 6 ∧ gI T 6 ≤ 2147483647 := h.1 6
    have h2 : Rr s2 := e2 ▸ Rr.uI h (by show (-2147483648 : Int) ≤ gI T 5 ∧ gI T 5 ≤ 2147483647; omega)
    exact e3 ▸ Rr.uI h2 (by show (-2147483648 : Int) ≤ gI s2 6 ∧ gI s2 6 ≤ 2147483647; omega)
  refine pc_rg (pc_if (fun c => pc_bn (fun s7 e7 => pc_some ⟨?_, s3, ⟨F, R⟩, Or.inl ⟨i5.symm.trans c, e7⟩⟩)) (fun c => pc_bn (fun q10 e10 => pc_some ⟨?_, s3, ⟨F, R⟩, Or.inr ⟨fun z => c (i5.trans z), e10⟩⟩)))
  · have F7 : F_x12_stands s3 s7 := fr_x12_stands e7
    exact (F7.1 7 (by decide)).trans i7
  · have F10 : F_x12_refuses s3 q10.2 := fr_x12_refuses e10
    exact (F10.1 7 (by simp)).trans i7
theorem s_rf2 {p : Int} {s : MS} : pc (m_x11_refuse p s) (fun q => gA q.2 2 = upZ (gA s 2) p.toNat (gA s 2 p.toNat + 1)) := by
  unfold m_x11_refuse
  exact pc_rdI (fun _ => pc_inb (pc_stn (fun s3 e3 => pc_some (q_AA e3))))
theorem m_rf9 {p : Int} {t : MS} : pc (m_x12_refuses p t) (fun q => gA q.2 9 = upZ (gA t 9) p.toNat (gA t 9 p.toNat + 1)) := by
  unfold m_x12_refuses
  exact pc_rdI (fun _ => pc_inb (pc_stn (fun s3 e3 => pc_some (q_AA e3))))
set_option maxHeartbeats 2000000 in
/-- both sides build alike -/
theorem y_build {s8 q3 T T3 o2 : MS} (R8 : Rg s8) (R3 : Rg q3) (RT3 : Rr T3) (hPV : PVs q3) (hE : 3 ≤ gI q3 781) (i8 : ∀ k, 580 ≤ k → k ≤ 779 → gI s8 k = gI q3 (k + 200)) (a8 : ∀ k, 29 ≤ k → k ≤ 38 → gA s8 k = gA q3 (k + 10)) (P : PLJ q3 T) (G : GA o2)
    (o39 : ∀ k, k < 5 → gA o2 39 (5 + k) = gA T 39 k) (o3 : gA o2 39 3 = gA T 39 3) (o41 : gA o2 41 = gA T 41) (o42 : ∀ w, w < 3 → gA o2 42 (3 + w) = gA T 42 w ∧ gA o2 43 (3 + w) = gA T 43 w) (o44 : ∀ j : Nat, (j : Int) < gI T 45 → gA o2 44 (1600 + j) = gA T 44 j)
    (d49 : ∀ v, v < 16 → gA T3 49 v = 255) (d49b : ∀ k, 16 ≤ k → k < 906 → gA T3 49 k = 0) (FL : ∀ k, k = 39 ∨ (41 ≤ k ∧ k ≤ 44) → gA o2 k = gA T3 k) (eL : m_x12_stands_L193 FU 0 T3 = some o2) : pc (m_x1_build s8) (fun s10 => BE s10 o2) := by
  obtain ⟨PN, PA, PH, PC, _⟩ := P
  obtain ⟨pc45, pcc, pcw, pcf⟩ := PC
  have f39 : gA o2 39 = gA T3 39 := FL 39 (Or.inl rfl)
  have f41 : gA o2 41 = gA T3 41 := FL 41 (by omega)
  have f42 : gA o2 42 = gA T3 42 := FL 42 (by omega)
  have f43 : gA o2 43 = gA T3 43 := FL 43 (by omega)
  have f44 : gA o2 44 = gA T3 44 := FL 44 (by omega)
  have n5 : gA T3 39 5 = gI q3 780 := by rw [← f39]; exact (o39 0 (by decide)).trans PH.1
  have n6 : gA T3 39 6 = gI q3 781 := by rw [← f39]; exact (o39 1 (by decide)).trans PH.2.1
  have b784 : (0 : Int) ≤ gI q3 784 ∧ gI q3 784 ≤ 8 := R3.1 784
  have b941 : (0 : Int) ≤ gI q3 941 ∧ gI q3 941 ≤ 1600 := R3.1 941
  have gb := G.1.2.1
  rw [f39] at gb
  unfold m_x1_build
  refine pc_bn (fun s35 e35 => fun s10 e10 => ?_)
  have T35 := (wp_det (ts_clear R8 (R8.1 580) (by rw [i8 581 (by decide) (by decide)]; exact hE)) e35).1
  have F35 : F_x8_clear_v2 s8 s35 := fr_x8_clear_v2 e35
  obtain ⟨z60, zc, zr⟩ := s_clrF s35 e35
  have iI : ∀ k, 580 ≤ k → k ≤ 779 → gI s35 k = gI q3 (k + 200) := fun k h1 h2 => (F35.1 k (by simp; omega)).trans (i8 k h1 h2)
  have iA : ∀ k, 29 ≤ k → k ≤ 38 → gA s35 k = gA q3 (k + 10) := fun k h1 h2 => (F35.2.1 k (by simp; omega)).trans (a8 k h1 h2)
  have c0 : ∀ x, x < 48 → cM T3 x = 0 := fun x hx => d49b (17 + 16 * x) (by omega) (by omega)
  have v0 : ∀ x, x < 48 → vM T3 x = 0 := fun x hx => d49b (18 + 16 * x) (by omega) (by omega)
  have dead : ∀ x, x < 48 → 0 < cM T3 x ∨ 0 < vM T3 x → False := fun x hx l => by
    have a := c0 x hx
    have b := v0 x hx
    omega
  have HS : SIM (fun b => b) (fun b => b) s35 T3 := by
    refine ⟨⟨PB_id _, fun x hx => ⟨?_, ?_⟩, fun x hx l => (dead x hx l).elim, fun v hv => ⟨Or.inr (Or.inl ⟨d49 v (by omega), (zr v hv).1⟩), Or.inr (Or.inl ⟨d49 (8 + v) (by omega), (zr v hv).2⟩)⟩⟩, ?_, fun x hx l => (dead x hx (Or.inl l)).elim⟩
    · exact (zc x hx).1.trans (c0 x hx).symm
    · exact (zc x hx).2.trans (v0 x hx).symm
    · rw [z60, n5, i8 580 (by decide) (by decide)]
  have HZ : ZP s35 T3 := by
    refine ⟨by rw [n6]; exact iI 581 (by decide) (by decide), ⟨fun j hj => ?_, fun w hw => ?_⟩, fun h => ?_⟩
    · rw [iI 741 (by decide) (by decide)] at hj
      rw [iA 38 (by decide) (by decide), ← f44, o44 j (by rw [pc45.1]; exact hj)]
      exact pcc j hj
    · rw [iA 35 (by decide) (by decide), iA 36 (by decide) (by decide), ← f42, ← f43, (o42 w hw).1, (o42 w hw).2]
      exact pcw w hw
    · rw [iA 35 (by decide) (by decide)] at h
      rw [iA 35 (by decide) (by decide), iA 36 (by decide) (by decide), iA 38 (by decide) (by decide), iI 741 (by decide) (by decide)]
      obtain ⟨⟨x1, x2, x3⟩, x4⟩ := pcf h
      exact ⟨⟨x1, x2⟩, ⟨x3, b941.2⟩, x4⟩
  have B0 : BJ (gA q3 41) (gA q3 42) (gA q3 43) (gA q3 44) (gA T3 41) (gI q3 785) 0 s35 T3 := by
    refine ⟨⟨T35, iI 585 (by decide) (by decide), iA 31 (by decide) (by decide), iA 32 (by decide) (by decide), iA 33 (by decide) (by decide), iA 34 (by decide) (by decide)⟩, ⟨RT3, RT_zero gb.1.2 d49 (fun k h1 h2 => d49b k h1 (by omega)), ?_, CE_eq G.1.2.2.1 f42.symm f43.symm f44.symm, CE_eq G.1.2.2.2.1 f42.symm f43.symm f44.symm⟩, ⟨rfl, ?_, gb.1, gb.2⟩, d49b 785 (by decide) (by decide), ⟨_, _, (fun _ => 0), (fun _ => 0), HS, fun x hx l => (dead x hx l).elim⟩, HZ⟩
    · have z : vt (gA q3 41) (Int.toNat 0) = 0 := rfl
      rw [z]
      exact ⟨by decide, fun u hu => absurd hu (by omega), fun u _ h => d49 u h⟩
    · rw [← f39, o3]; exact PA.1.1
  refine y_buildL hPV b784.2 (fun a ha => ?_) FU FU 0 s35 T3 (Int.le_refl 0) B0 s10 e10 o2 eL
  rw [← f41, o41]
  exact PA.2 a ha
set_option maxHeartbeats 2000000 in
/-- STORE -/
theorem y_storeB {x t : MS} {ts : List MS} (hC : CI x ts) (hR : Rr t) (hJ : JI t) (H : PJ x t) (B : BT x ts t) : pc (m_x11_store x) (fun q => pc (m_x12_store t) (fun o => BT q.2 ts o.2)) := by
  intro q0 eq0 o eo
  obtain ⟨Ro, Jo, _⟩ := wp_det (w_x12_store hR hJ) eo
  obtain ⟨T', ⟨⟨RT', KT', _⟩, t9⟩, eJ⟩ := rs_store hR o eo
  obtain ⟨o7, s3, ⟨F3', Rs3⟩, cs⟩ := j109 o eJ
  have R3' := Rs3 RT'
  have FO : F_x12_store t o.2 := fr_x12_store eo
  obtain ⟨⟨hW, hD⟩, ⟨hl, hT⟩, hF, hP⟩ := H
  have core : pc (m_x11_store x) (fun q => BT q.2 ts o.2) := by
    unfold m_x11_store
    refine pc_bn (fun q3 e3 => pc_stn (fun s4 e4 => ?_))
    have Y := y_readStore hC.1 hW hl hT hD q3 e3 o eo
    have F3 : F_x6_readStore x q3.2 := fr_x6_readStore e3
    obtain ⟨R3, r1, r2, _⟩ := wp_det (w_x6_readStore hC.1) e3
    have R4 : Rg s4 := e4 ▸ Rg.uI R3 (by show (0 : Int) ≤ 0 ∧ (0 : Int) ≤ 1600; omega)
    have I4 : ∀ i, i ≠ 61 → gI s4 i = gI q3.2 i := fun i hi => q_Ii e4 hi
    have A4 : ∀ k, gA s4 k = gA q3.2 k := fun k => q_Ia e4
    refine pc_rg (pc_if (fun c => pc_bn (fun q17 e17 => pc_some ?_)) (fun c => pc_eqg (pc_stn (fun s8 e8 => pc_bn (fun s10 e10 => pc_bn (fun s12 e12 => pc_stn (fun s13 e13 => pc_stn (fun s14 e14 => pc_some ?_))))))))
    · have n7 : gI T' 5 ≠ 0 := by
        rcases Y with ⟨_, n100, _, a7, _⟩ | ⟨a, _⟩
        · rw [← o7, a7]; exact n100
        · exact absurd (a.symm.trans c) (by decide)
      rcases cs with ⟨z5, _⟩ | ⟨_, eR⟩
      · exact absurd z5 n7
      have F17 : F_x11_refuse s4 q17.2 := fr_x11_refuse e17
      have F10 : F_x12_refuses s3 o.2 := fr_x12_refuses eR
      have u1 := s_rf2 q17 e17
      have u2 := m_rf9 o eR
      have cI : ∀ i, i ≠ 61 → i ∉ [100, 101, 102, 103, 104, 105, 106, 107, 108, 109, 110, 111, 780, 781, 782, 783, 784, 785, 941, 9999] → gI q17.2 i = gI x i := fun i h1 h2 => ((F17.1 i (by simp)).trans (I4 i h1)).trans (F3.1 i h2)
      have oA : ∀ k, k ≠ 9 → gA o.2 k = gA T' k := fun k hk => (F10.2.1 k (by simp; omega)).trans (F3'.2.1 k (by simp))
      have oI : ∀ k, k ∉ [7, 8] → gI o.2 k = gI T' k := fun k hk => (F10.1 k (by simp)).trans (F3'.1 k hk)
      refine BT_k5 B (fun k hk => cI k (by omega) (by simp; omega)) (fun k hk => ((F17.2.1 k (by simp; omega)).trans (A4 k)).trans (F3.2.1 k (by simp; omega))) (fun k hk => (oI k (by simp; omega)).trans (KT'.2.1 k (by simp; omega))) (fun k hk => (oA k (by omega)).trans (KT'.2.2.1 k (by simp; omega))) (by rw [oA 39 (by decide)]; exact KT'.1.1.1 5 (by decide)) ?_ (fun k hk => ?_)
      · rw [cI 983 (by decide) (by decide), FO.2.2.1 78 (by simp)]; exact B.1
      · rw [u1, u2, A4, F3.2.1 2 (by decide), F3'.2.1 9 (by simp), t9]
        by_cases z : k = Int.toNat 1
        · rw [z, upZ_s, upZ_s, B.2.1 (Int.toNat 1) (by decide)]
        · rw [upZ_n z, upZ_n z]; exact B.2.1 k hk
    · rcases Y with ⟨a, _⟩ | ⟨q1, z100, T, ⟨T5, T6⟩, P, T46, T783, eJ2⟩
      · exact absurd a c
      have hg : 8 ≤ gI q3.2 780 ∧ 3 ≤ gI q3.2 781 := by omega
      have b941 : (0 : Int) ≤ gI q3.2 941 ∧ gI q3.2 941 ≤ 1600 := R3.1 941
      have P4 := P.2.2.2.1
      obtain ⟨s3b, T3b, ⟨j7, _, Fs3b⟩, D3b, eLb, _⟩ := m_109 T5 T6 (by rw [P4.1.1]; exact b941) o eJ2
      have FLb := m_std2 FU 0 T3b o.2 eLb
      obtain ⟨⟨e39, e39b⟩, eC, _, eK, _, _, Fdb⟩ := D3b
      have ob : ∀ k, gA s3b k = gA T k := fun k => Fs3b.2.1 k (by simp)
      have o70 : gI o.2 7 = 0 := by
        rw [FLb.1 7 (by decide), Fdb.1 7 (by decide)]; exact j7
      rcases cs with ⟨z5, eS⟩ | ⟨n5, _⟩
      rotate_left
      · exact absurd (o7.symm.trans o70) n5
      have b45 : (0 : Int) ≤ gI s3 45 ∧ gI s3 45 ≤ 1600 := R3'.1 45
      obtain ⟨T3, D3, eL⟩ := (m_std (P := fun s7 => ∃ T3, STD3 s3 T3 ∧ m_x12_stands_L193 FU 0 T3 = some s7) b45 (fun T3 h o eo => ⟨T3, h, eo⟩)) o.2 eS
      have FL := m_std2 FU 0 T3 o.2 eL
      obtain ⟨_, _, _, _, ⟨d49, d49b⟩, d47, Fd⟩ := D3
      have RT3 : Rr T3 := by
        refine ⟨fun k => ?_, fun k j hj => ?_, fun k => ?_, fun k j => ?_⟩
        · by_cases z : k = 47
          · rw [z, d47]; show (0 : Int) ≤ 1 ∧ (1 : Int) ≤ 1; omega
          · rw [Fd.1 k (by simp; omega)]; exact R3'.1 k
        · by_cases z : k = 49
          · rw [z] at hj ⊢
            have hj' : j < 906 := hj
            show (-2147483648 : Int) ≤ gA T3 49 j ∧ gA T3 49 j ≤ 2147483647
            by_cases y : j < 16
            · rw [d49 j y]; omega
            · rw [d49b j (by omega) hj']; omega
          · by_cases y : k = 39 ∨ k = 42 ∨ k = 43 ∨ k = 44
            · rw [← FL.2.1 k (by simp; omega)]; exact Ro.2.1 k j hj
            · rw [Fd.2.1 k (by simp; omega)]; exact R3'.2.1 k j hj
        · rw [Fd.2.2.1 k (by simp)]; exact R3'.2.2.1 k
        · by_cases z : k = 40
          · rw [z, ← FL.2.2.2 40 (by decide)]; exact Ro.2.2.2 40 j
          · rw [Fd.2.2.2 k (by simp; omega)]; exact R3'.2.2.2 k j
      have t47 : gI o.2 47 ≠ 0 := by rw [FL.1 47 (by decide), d47]; decide
      have G := JI_GA Jo t47
      have R8 : Rg s8 := e8 ▸ Rg.uI (Rg_sw R4) (by show (0 : Int) ≤ 1 ∧ (1 : Int) ≤ 2; omega)
      have i8 : ∀ k, 580 ≤ k → k ≤ 779 → gI s8 k = gI q3.2 (k + 200) := fun k h1 h2 => by
        rw [(q_Ii e8 (by omega) : gI s8 k = gI (swS s4) k), sw_p ⟨h1, h2⟩, I4 _ (by omega)]
      have a8 : ∀ k, 29 ≤ k → k ≤ 38 → gA s8 k = gA q3.2 (k + 10) := fun k h1 h2 => by
        rw [(q_Ia e8 : gA s8 k = gA (swS s4) k), sw_P ⟨h1, h2⟩, A4]
      obtain ⟨b1, ⟨π, σ, lo, hi, b2, b2'⟩, b3, b4⟩ := y_build R8 R3 RT3 (r2 q1) hg.2 i8 a8 P G (fun k hk => by rw [FLb.2.1 39 (by decide), e39 k hk, ob]) (by rw [FLb.2.1 39 (by decide), e39b 3 (by decide), ob]) (by rw [FLb.2.1 41 (by decide), Fdb.2.1 41 (by decide), ob]) (fun w hw => by rw [FLb.2.1 42 (by decide), FLb.2.1 43 (by decide), (eC w hw).1, (eC w hw).2, ob, ob]; exact ⟨rfl, rfl⟩) (fun j hj => by rw [FLb.2.1 44 (by decide), eK j (by rw [Fs3b.1 45 (by decide)]; exact hj), ob]) d49 d49b (fun k hk => FL.2.1 k (by simp; omega)) eL s10 e10
      have F10 : F_x1_build s8 s10 := fr_x1_build e10
      have F12 : F_x2_clear s10 s12 := fr_x2_clear e12
      have cl : gI s12 143 = 0 ∧ gI s12 145 = 0 := by
        have k : pc (m_x2_clear s10) (fun o => gI o 143 = 0 ∧ gI o 145 = 0) := by
          unfold m_x2_clear
          exact pc_stn (fun s1 f1 => pc_stn (fun s2 f2 => pc_some ⟨(q_Ii f2 (by decide)).trans (q_II f1), q_II f2⟩))
        exact k s12 e12
      have kI : ∀ k, k ≠ 12 → k ≠ 220 → gI s14 k = gI s12 k := fun k h1 h2 => (q_Ii e14 h1).trans (q_Ii e13 h2)
      have kA : ∀ k, gA s14 k = gA s10 k := fun k => ((q_Ia e14).trans (q_Ia e13)).trans (F12.2.1 k (by simp))
      have k60 : gI s14 1060 = gI s10 1060 := (kI 1060 (by decide) (by decide)).trans (F12.1 1060 (by decide))
      refine ⟨?_, fun k hk => ?_, fun z => absurd ((q_II e14 : gI s14 12 = 1).symm.trans z) (by decide), fun _ => ⟨by rw [k60]; exact b1, ⟨π, σ, lo, hi, ?_, b2'⟩, ?_⟩⟩
      · rw [kI 983 (by decide) (by decide), F12.1 983 (by decide), F10.1 983 (by decide), (q_Ii e8 (by decide) : gI s8 983 = gI (swS s4) 983), sw_o (by decide), I4 983 (by decide), F3.1 983 (by decide), FO.2.2.1 78 (by simp)]
        exact B.1
      · have FS : F_x12_stands s3 o.2 := fr_x12_stands eS
        rw [kA 2, F10.2.1 2 (by decide), (q_Ia e8 : gA s8 2 = gA (swS s4) 2), sw_O (by decide), A4, F3.2.1 2 (by decide), FS.2.1 9 (by decide), F3'.2.1 9 (by simp), t9]
        exact B.2.1 k hk
      · rw [k60]
        exact TRf_rows b2 (fun k _ _ => kA k)
      · refine ⟨?_, 0, 0, ⟨?_, by decide⟩, ⟨?_, by decide, by decide⟩, ⟨0, by decide, b3, fun k hk => absurd hk (by omega)⟩, fun i hi => absurd hi (by omega)⟩
        · rw [b4, kI 145 (by decide) (by decide), cl.2]
        · rw [kI 143 (by decide) (by decide), cl.1]; rfl
        · rw [kI 145 (by decide) (by decide), cl.2]; rfl
  exact core q0 eq0
/-! ===== an image's bytes, read on both sides ===== -/
def nxp (g : Nat → Int) (p : Nat) : Nat := if g p = 0 ∧ g (p + 1) = 0 then p + 2 else p + 4 + 4 * (g (p + 3)).toNat
def PO (g : Nat → Int) : Nat → Nat
  | 0 => 19
  | b + 1 => nxp g (PO g b)
theorem PO_s (g : Nat → Int) (b : Nat) : PO g (b + 1) = nxp g (PO g b) := rfl
theorem nxp_lt (g : Nat → Int) (p : Nat) : p + 2 ≤ nxp g p := by
  unfold nxp
  split <;> omega
theorem PO_le {g : Nat → Int} {a b : Nat} (h : a ≤ b) : PO g a ≤ PO g b := by
  induction b with
  | zero => rw [show a = 0 by omega]; exact Nat.le_refl _
  | succ b ih =>
    by_cases z : a = b + 1
    · rw [z]; exact Nat.le_refl _
    · have := ih (by omega)
      have := nxp_lt g (PO g b)
      rw [PO_s]; omega
/-- a block's entries as they lie from p on -/
def ke (g : Nat → Int) (p k : Nat) : Int := 256 * g (p + 4 + 4 * k) + g (p + 5 + 4 * k)
def ve (g : Nat → Int) (p k : Nat) : Int := 256 * g (p + 6 + 4 * k) + g (p + 7 + 4 * k)
def thr (g : Nat → Int) (p : Nat) : Prop := ¬ (g p = 0 ∧ g (p + 1) = 0)
theorem nxp_0 {g : Nat → Int} {p : Nat} (h : ¬ thr g p) : nxp g p = p + 2 := if_pos (Classical.not_not.1 h)
theorem nxp_1 {g : Nat → Int} {p : Nat} (h : thr g p) : nxp g p = p + 4 + 4 * (g (p + 3)).toNat := if_neg h
/-- the class's byte at p: one too far it may read -/
def bt (g : Nat → Int) (e p : Nat) : Int := if p ≤ e then g p else -1
theorem bt_in {g : Nat → Int} {e p : Nat} (h : p ≤ e) : bt g e p = g p := if_pos h
/-- the tape, as the class reads it -/
def TPc (S : MS) (g : Nat → Int) (e : Nat) : Prop := gA S 4 = g ∧ gI S 61 = (e : Int) + 1
theorem TPc_k {S o : MS} {g : Nat → Int} {e : Nat} (h : TPc S g e) (a : gA o 4 = gA S 4) (b : gI o 61 = gI S 61) : TPc o g e := ⟨a.trans h.1, b.trans h.2⟩
theorem s_next {S : MS} {g : Nat → Int} {e p : Nat} (h : TPc S g e) (hp : gI S 322 = (p : Int)) : pc (m_x4_next S) (fun q => q.1 = bt g e p ∧ gI q.2 322 = (p : Int) + 1 ∧ TPc q.2 g e ∧ (∀ k, gA q.2 k = gA S k) ∧ ∀ i, i ≠ 322 → gI q.2 i = gI S i) := by
  unfold m_x4_next
  refine pc_bq s_at (fun r hr => pc_stn (fun s3 e3 => pc_some ⟨?_, ?_, TPc_k h (q_Ia e3) (q_Ii e3 (by decide)), fun k => q_Ia e3, fun i hi => q_Ii e3 hi⟩))
  · show r = bt g e p
    unfold bt
    rw [hp, h.1, h.2, Int.toNat_natCast] at hr
    rcases hr with ⟨⟨_, a⟩, b⟩ | ⟨a, b⟩
    · rw [if_pos (by omega)]; exact b
    · rw [if_neg (by omega)]; exact b
  · rw [q_II e3, hp]
theorem s_pair {S : MS} {g : Nat → Int} {e p : Nat} (h : TPc S g e) (hp : gI S 322 = (p : Int)) : pc (m_x4_nextPair S) (fun q => q.1 = 256 * bt g e p + bt g e (p + 1) ∧ gI q.2 322 = (p : Int) + 2 ∧ TPc q.2 g e ∧ (∀ k, gA q.2 k = gA S k) ∧ ∀ i, i ≠ 322 → gI q.2 i = gI S i) := by
  unfold m_x4_nextPair
  refine pc_bq (s_next h hp) (fun q3 h3 => ?_)
  obtain ⟨a1, a2, a3, a4, a5⟩ := h3
  refine pc_bq (s_next a3 (p := p + 1) (by rw [a2]; omega)) (fun q6 h6 => pc_some ?_)
  obtain ⟨b1, b2, b3, b4, b5⟩ := h6
  refine ⟨?_, ?_, b3, fun k => (b4 k).trans (a4 k), fun i hi => (b5 i hi).trans (a5 i hi)⟩
  · show q3.1 * 256 + q6.1 = _
    rw [a1, b1]; omega
  · show gI q6.2 322 = _
    rw [b2]; omega
/-- a block that the class read: free, or there -/
def CBl (S : MS) (g : Nat → Int) (e p b : Nat) : Prop := (gA S 72 b = bt g e p ∧ gA S 73 b = bt g e (p + 1)) ∧ (¬ (bt g e p = 0 ∧ bt g e (p + 1) = 0) → gA S 74 b = bt g e (p + 2) ∧ gA S 75 b = bt g e (p + 3) ∧ ∀ k : Nat, (k : Int) < bt g e (p + 3) → gA S 76 (6 * b + k) = 256 * bt g e (p + 4 + 4 * k) + bt g e (p + 5 + 4 * k) ∧ gA S 77 (6 * b + k) = 256 * bt g e (p + 6 + 4 * k) + bt g e (p + 7 + 4 * k))
/-- what the class asks of a block while it reads -/
def COK (g : Nat → Int) (e p : Nat) (E : Int) : Prop := (0 ≤ bt g e p ∧ 0 ≤ bt g e (p + 1)) ∧ (¬ (bt g e p = 0 ∧ bt g e (p + 1) = 0) → (0 ≤ bt g e (p + 2) ∧ bt g e (p + 2) < 48) ∧ (1 ≤ bt g e (p + 3) ∧ bt g e (p + 3) ≤ E) ∧ ∀ k : Nat, (k : Int) < bt g e (p + 3) → (0 ≤ 256 * bt g e (p + 4 + 4 * k) + bt g e (p + 5 + 4 * k) ∧ 256 * bt g e (p + 4 + 4 * k) + bt g e (p + 5 + 4 * k) ≤ 999) ∧ (0 ≤ 256 * bt g e (p + 6 + 4 * k) + bt g e (p + 7 + 4 * k) ∧ 256 * bt g e (p + 6 + 4 * k) + bt g e (p + 7 + 4 * k) ≤ 999))
def CNx (g : Nat → Int) (e p : Nat) : Int := if bt g e p = 0 ∧ bt g e (p + 1) = 0 then (p : Int) + 2 else (p : Int) + 4 + 4 * bt g e (p + 3)
theorem s_isKey2 {p : Int} {s : MS} : pc (m_x11_isKey p s) (fun r => (r = 1 ∧ (0 ≤ p ∧ p ≤ 999)) ∨ (r = 0 ∧ ¬ (0 ≤ p ∧ p ≤ 999))) := by
  unfold m_x11_isKey m_x11_isKey_J15 m_x11_isKey_J16
  exact pc_rg (pc_if (fun c => pc_bo (pc_some (Or.inr ⟨rfl, fun w => by omega⟩))) (fun c => pc_rg (pc_if (fun c2 => pc_bo (pc_some (Or.inr ⟨rfl, fun w => by omega⟩))) (fun c2 => pc_bo (pc_some (Or.inl ⟨rfl, by omega, by omega⟩))))))
theorem s_free2 {b : Nat} {S : MS} (hb : (b : Int) < gI S 1420) : pc (m_x8_isFree_v2 (b : Int) S) (fun r => (r = 1 ∧ gA S 72 b = 0 ∧ gA S 73 b = 0) ∨ (r = 0 ∧ ¬ (gA S 72 b = 0 ∧ gA S 73 b = 0))) := by
  have B : pc (m_x8_isBlock_v2 (b : Int) S) (fun r => r = 1) := by
    unfold m_x8_isBlock_v2 m_x8_isBlock_v2_J16 m_x8_isBlock_v2_J17
    exact pc_rg (pc_if (fun c => absurd c (by omega)) (fun _ => pc_rg (pc_rg (pc_if (fun c => absurd c (by omega)) (fun _ => pc_bo (pc_some rfl))))))
  have tb : ((b : Nat) : Int).toNat = b := Int.toNat_natCast _
  unfold m_x8_isFree_v2 m_x8_isFree_v2_J30 m_x8_isFree_v2_J31
  refine pc_bq B (fun r4 h4 => pc_rg (pc_if (fun c => absurd (h4.symm.trans c) (by decide)) (fun _ => pc_rdI (fun _ => ?_))))
  rw [tb]
  refine pc_rg (pc_if (fun c => pc_rdI (fun _ => ?_)) (fun c => pc_bo (pc_some (Or.inr ⟨rfl, fun w => c w.1⟩))))
  rw [tb]
  exact pc_rg (pc_if (fun c2 => pc_bo (pc_some (Or.inl ⟨rfl, c, c2⟩))) (fun c2 => pc_bo (pc_some (Or.inr ⟨rfl, fun w => c2 w.2⟩))))
set_option maxHeartbeats 1000000 in
/-- a block's entries, as the class reads them -/
theorem s_entries {b e p0 : Nat} {g : Nat → Int} {n : Int} (hb : b < 48) (hn : 1 ≤ n ∧ n ≤ 6) : ∀ (m : Nat) (ok : Int) (k : Nat) (S : MS), (k : Int) ≤ n → gA S 75 b = n → TPc S g e → gI S 322 = ((p0 + 4 * k : Nat) : Int) → (ok = 0 ∨ ok = 1) → (∀ j, j < k → gA S 76 (6 * b + j) = 256 * bt g e (p0 + 4 * j) + bt g e (p0 + 1 + 4 * j) ∧ gA S 77 (6 * b + j) = 256 * bt g e (p0 + 2 + 4 * j) + bt g e (p0 + 3 + 4 * j)) → (ok = 1 ↔ ∀ j, j < k → (0 ≤ gA S 76 (6 * b + j) ∧ gA S 76 (6 * b + j) ≤ 999) ∧ (0 ≤ gA S 77 (6 * b + j) ∧ gA S 77 (6 * b + j) ≤ 999)) → pc (m_x4_loadBlock_L123 m (b : Int) ok (k : Int) S) (fun q => (q.1 = 0 ∨ q.1 = 1) ∧ TPc q.2 g e ∧ gI q.2 322 = (p0 : Int) + 4 * n ∧ (∀ j : Nat, (j : Int) < n → gA q.2 76 (6 * b + j) = 256 * bt g e (p0 + 4 * j) + bt g e (p0 + 1 + 4 * j) ∧ gA q.2 77 (6 * b + j) = 256 * bt g e (p0 + 2 + 4 * j) + bt g e (p0 + 3 + 4 * j)) ∧ (q.1 = 1 ↔ ∀ j : Nat, (j : Int) < n → (0 ≤ gA q.2 76 (6 * b + j) ∧ gA q.2 76 (6 * b + j) ≤ 999) ∧ (0 ≤ gA q.2 77 (6 * b + j) ∧ gA q.2 77 (6 * b + j) ≤ 999)) ∧ (∀ x, ¬ (6 * b ≤ x ∧ x < 6 * b + 6) → gA q.2 76 x = gA S 76 x ∧ gA q.2 77 x = gA S 77 x) ∧ (∀ k, k ≠ 76 → k ≠ 77 → gA q.2 k = gA S k)) := by
  have tb : ((b : Nat) : Int).toNat = b := Int.toNat_natCast _
  refine fr_ind (fun _ _ _ _ _ _ _ _ _ _ => pc_none) (fun m ih ok k S hk h75 hT h322 ho h1 h2 => ?_)
  show pc (m_x4_loadBlock_b123 (m_x4_loadBlock_L123 m) (b : Int) ok (k : Int) S) _
  unfold m_x4_loadBlock_b123 m_x4_loadBlock_J201 m_x4_loadBlock_J202
  refine pc_rdI (fun _ => ?_)
  rw [tb, h75]
  refine pc_rg (pc_rg (pc_if (fun c => pc_bo (pc_some ?_)) (fun c => ?_)))
  · have kn : (k : Int) = n := by omega
    refine ⟨ho, hT, by rw [h322]; omega, fun j hj => h1 j (by omega), ?_, fun _ _ => ⟨rfl, rfl⟩, fun _ _ _ => rfl⟩
    exact h2.trans ⟨fun w j hj => w j (by omega), fun w j hj => w j (by omega)⟩
  · refine pc_bq (s_pair hT h322) (fun q19 h19 => ?_)
    obtain ⟨a1, a2, a3, a4, _⟩ := h19
    refine pc_bq (s_pair a3 (p := p0 + 4 * k + 2) (by rw [a2]; omega)) (fun q22 h22 => ?_)
    obtain ⟨b1, b2, b3, b4, _⟩ := h22
    refine pc_bn (fun r24 e24 => pc_inb (pc_stn (fun s26 e26 => pc_bn (fun r28 e28 => pc_inb (pc_stn (fun s30 e30 => ?_))))))
    have sl : r24 = ((6 * b + k : Nat) : Int) := by
      unfold m_x8_slot_v2 at e24
      have q := Option.some.inj e24
      omega
    have sl2 : r28 = ((6 * b + k : Nat) : Int) := by
      unfold m_x8_slot_v2 at e28
      have q := Option.some.inj e28
      omega
    rw [sl, Int.toNat_natCast] at e26
    rw [sl2, Int.toNat_natCast] at e30
    have k76 : gA s30 76 = upZ (gA S 76) (6 * b + k) q19.1 := by
      rw [(q_Aa e30 (by decide) : gA s30 76 = gA s26 76), (q_AA e26 : gA s26 76 = _), b4, a4]
    have k77 : gA s30 77 = upZ (gA S 77) (6 * b + k) q22.1 := by
      rw [(q_AA e30 : gA s30 77 = _), (q_Aa e26 (by decide) : gA s26 77 = _), b4, a4]
    have kk : ∀ x, x ≠ 76 → x ≠ 77 → gA s30 x = gA S x := fun x x1 x2 => by rw [(q_Aa e30 x2 : gA s30 x = gA s26 x), (q_Aa e26 x1 : gA s26 x = _), b4, a4]
    have T30 : TPc s30 g e := TPc_k b3 ((q_Aa e30 (by decide)).trans (q_Aa e26 (by decide))) ((q_Ai e30).trans (q_Ai e26))
    have i30 : gI s30 322 = ((p0 + 4 * (k + 1) : Nat) : Int) := by
      rw [(q_Ai e30 : gI s30 322 = gI s26 322), (q_Ai e26 : gI s26 322 = _), b2]; omega
    have n1 : ∀ j, j < k + 1 → gA s30 76 (6 * b + j) = 256 * bt g e (p0 + 4 * j) + bt g e (p0 + 1 + 4 * j) ∧ gA s30 77 (6 * b + j) = 256 * bt g e (p0 + 2 + 4 * j) + bt g e (p0 + 3 + 4 * j) := fun j hj => by
      rw [k76, k77]
      by_cases z : j = k
      · rw [z, upZ_s, upZ_s, a1, b1]
        exact ⟨by rw [show p0 + 1 + 4 * k = p0 + 4 * k + 1 by omega], by rw [show p0 + 2 + 4 * k = p0 + 4 * k + 2 by omega, show p0 + 3 + 4 * k = p0 + 4 * k + 2 + 1 by omega]⟩
      · rw [upZ_n (by omega), upZ_n (by omega)]; exact h1 j (by omega)
    have e76 : gA s30 76 (6 * b + k) = q19.1 := by rw [k76, upZ_s]
    have e77 : gA s30 77 (6 * b + k) = q22.1 := by rw [k77, upZ_s]
    have old : ∀ j, j < k → gA s30 76 (6 * b + j) = gA S 76 (6 * b + j) ∧ gA s30 77 (6 * b + j) = gA S 77 (6 * b + j) := fun j hj => by
      rw [k76, k77, upZ_n (by omega), upZ_n (by omega)]; exact ⟨rfl, rfl⟩
    -- the step with the word that says whether all is well so far
    have GO : ∀ ok' : Int, (ok' = 0 ∨ ok' = 1) → (ok' = 1 ↔ (ok = 1 ∧ (0 ≤ q19.1 ∧ q19.1 ≤ 999) ∧ (0 ≤ q22.1 ∧ q22.1 ≤ 999))) → pc (m_x4_loadBlock_L123 m (b : Int) ok' ((k : Int) + 1) s30) (fun q => (q.1 = 0 ∨ q.1 = 1) ∧ TPc q.2 g e ∧ gI q.2 322 = (p0 : Int) + 4 * n ∧ (∀ j : Nat, (j : Int) < n → gA q.2 76 (6 * b + j) = 256 * bt g e (p0 + 4 * j) + bt g e (p0 + 1 + 4 * j) ∧ gA q.2 77 (6 * b + j) = 256 * bt g e (p0 + 2 + 4 * j) + bt g e (p0 + 3 + 4 * j)) ∧ (q.1 = 1 ↔ ∀ j : Nat, (j : Int) < n → (0 ≤ gA q.2 76 (6 * b + j) ∧ gA q.2 76 (6 * b + j) ≤ 999) ∧ (0 ≤ gA q.2 77 (6 * b + j) ∧ gA q.2 77 (6 * b + j) ≤ 999)) ∧ (∀ x, ¬ (6 * b ≤ x ∧ x < 6 * b + 6) → gA q.2 76 x = gA S 76 x ∧ gA q.2 77 x = gA S 77 x) ∧ (∀ k, k ≠ 76 → k ≠ 77 → gA q.2 k = gA S k)) := fun ok' o1 o2 => by
      have step := ih ok' (k + 1) s30 (by omega) (by rw [kk 75 (by decide) (by decide)]; exact h75) T30 i30 o1 n1 (by
        rw [o2, h2]
        constructor
        · rintro ⟨w, w1, w2⟩ j hj
          by_cases z : j = k
          · rw [z, e76, e77]; exact ⟨w1, w2⟩
          · rw [(old j (by omega)).1, (old j (by omega)).2]; exact w j (by omega)
        · intro w
          have wk := w k (by omega)
          rw [e76, e77] at wk
          refine ⟨fun j hj => ?_, wk.1, wk.2⟩
          have wj := w j (by omega)
          rw [(old j hj).1, (old j hj).2] at wj
          exact wj)
      rw [show ((k : Int) + 1) = ((k + 1 : Nat) : Int) by omega]
      refine pc_mono step (fun q hq => ?_)
      obtain ⟨c1, c2, c3, c4, c5, c6, c7⟩ := hq
      refine ⟨c1, c2, c3, c4, c5, fun x hx => ?_, fun x x1 x2 => (c7 x x1 x2).trans (kk x x1 x2)⟩
      rw [(c6 x hx).1, (c6 x hx).2, k76, k77, upZ_n (by omega), upZ_n (by omega)]
      exact ⟨rfl, rfl⟩
    refine pc_rg (pc_if (fun c2 => GO 0 (Or.inl rfl) ⟨fun w => absurd w (by decide), fun w => by omega⟩) (fun c2 => pc_bq s_isKey2 (fun r34 h34 => ?_)))
    have ok1 : ok = 1 := ho.resolve_left c2
    refine pc_rg (pc_if (fun c3 => GO 0 (Or.inl rfl) ⟨fun w => absurd w (by decide), fun w => ?_⟩) (fun c3 => pc_bq s_isKey2 (fun r38 h38 => pc_rg (pc_if (fun c4 => GO 0 (Or.inl rfl) ⟨fun w => absurd w (by decide), fun w => ?_⟩) (fun c4 => GO 1 (Or.inr rfl) ⟨fun _ => ⟨ok1, ?_, ?_⟩, fun _ => rfl⟩)))))
    · rcases h34 with ⟨a, _⟩ | ⟨_, a⟩
      · exact absurd (a.symm.trans c3) (by decide)
      · exact absurd w.2.1 a
    · rcases h38 with ⟨a, _⟩ | ⟨_, a⟩
      · exact absurd (a.symm.trans c4) (by decide)
      · exact absurd w.2.2 a
    · rcases h34 with ⟨_, a⟩ | ⟨a, _⟩
      · exact a
      · exact absurd a c3
    · rcases h38 with ⟨_, a⟩ | ⟨a, _⟩
      · exact a
      · exact absurd a c4
/-! ===== a block of an image, as the class reads it ===== -/
/-- what stays beside block b -/
def KBl (S o : MS) (b : Nat) : Prop := (∀ x, x ≠ b → gA o 72 x = gA S 72 x ∧ gA o 73 x = gA S 73 x ∧ gA o 74 x = gA S 74 x ∧ gA o 75 x = gA S 75 x) ∧ (∀ x, ¬ (6 * b ≤ x ∧ x < 6 * b + 6) → gA o 76 x = gA S 76 x ∧ gA o 77 x = gA S 77 x) ∧ ∀ k, (k < 72 ∨ 77 < k) → gA o k = gA S k
def PBl (g : Nat → Int) (e p b : Nat) (E : Int) (S : MS) (q : Int × MS) : Prop := (q.1 = 0 ∨ q.1 = 1) ∧ TPc q.2 g e ∧ (q.1 = 1 ↔ COK g e p E) ∧ (q.1 = 1 → gI q.2 322 = CNx g e p ∧ CBl q.2 g e p b) ∧ KBl S q.2 b
set_option maxHeartbeats 2000000 in
theorem s_block {b e p : Nat} {g : Nat → Int} {E : Int} {S : MS} (hb : b < 48) (hN : (b : Int) < gI S 1420) (hE : E ≤ 6) (hT : TPc S g e) (hp : gI S 322 = (p : Int)) : pc (m_x4_loadBlock (b : Int) E S) (PBl g e p b E S) := by
  have tb : ((b : Nat) : Int).toNat = b := Int.toNat_natCast _
  unfold m_x4_loadBlock m_x4_loadBlock_J40 m_x4_loadBlock_J115
  refine pc_bq (s_next hT hp) (fun q45 h45 => pc_inb (pc_stn (fun s47 e47 => ?_)))
  obtain ⟨a1, a2, a3, a4, a5⟩ := h45
  try rw [tb] at e47
  have T47 : TPc s47 g e := TPc_k a3 (q_Aa e47 (by decide)) (q_Ai e47)
  refine pc_bq (s_next T47 (p := p + 1) (by rw [(q_Ai e47 : gI s47 322 = _), a2]; omega)) (fun q50 h50 => pc_inb (pc_stn (fun s52 e52 => pc_rdI (fun _ => ?_))))
  obtain ⟨b1, b2, b3, b4, b5⟩ := h50
  try rw [tb] at e52
  have T52 : TPc s52 g e := TPc_k b3 (q_Aa e52 (by decide)) (q_Ai e52)
  have i52 : gI s52 322 = ((p + 2 : Nat) : Int) := by rw [(q_Ai e52 : gI s52 322 = _), b2]; omega
  have k72 : gA s52 72 = upZ (gA S 72) b q45.1 := by
    rw [(q_Aa e52 (by decide) : gA s52 72 = _), b4, (q_AA e47 : gA s47 72 = _), a4]
  have k73 : gA s52 73 = upZ (gA S 73) b q50.1 := by
    rw [(q_AA e52 : gA s52 73 = _), b4, (q_Aa e47 (by decide) : gA s47 73 = _), a4]
  have kk : ∀ k, k ≠ 72 → k ≠ 73 → gA s52 k = gA S k := fun k k1 k2 => by
    rw [(q_Aa e52 k2 : gA s52 k = _), b4, (q_Aa e47 k1 : gA s47 k = _), a4]
  have v72 : gA s52 72 b = bt g e p := by rw [k72, upZ_s, a1]
  have v73 : gA s52 73 b = bt g e (p + 1) := by rw [k73, upZ_s, b1]
  have n20 : gI s52 1420 = gI S 1420 := by
    rw [(q_Ai e52 : gI s52 1420 = _), b5 1420 (by decide), (q_Ai e47 : gI s47 1420 = _), a5 1420 (by decide)]
  have KB : KBl S s52 b := ⟨fun x hx => ⟨by rw [k72, upZ_n hx], by rw [k73, upZ_n hx], by rw [kk 74 (by decide) (by decide)], by rw [kk 75 (by decide) (by decide)]⟩, fun x _ => ⟨by rw [kk 76 (by decide) (by decide)], by rw [kk 77 (by decide) (by decide)]⟩, fun k hk => kk k (by omega) (by omega)⟩
  rw [tb, v72]
  have F1 : ¬ COK g e p E → ∀ X : MS, TPc X g e → KBl S X b → PBl g e p b E S (0, X) := fun n X t k => ⟨Or.inl rfl, t, ⟨fun w => absurd w (show ¬ ((0 : Int) = 1) by decide), fun w => absurd w n⟩, fun w => absurd w (show ¬ ((0 : Int) = 1) by decide), k⟩
  refine pc_rg (pc_if (fun c1 => pc_some (F1 (fun w => by have := w.1.1; omega) s52 T52 KB)) (fun c1 => pc_rdI (fun _ => ?_)))
  rw [tb, v73]
  refine pc_rg (pc_if (fun c2 => ?_) (fun c2 => pc_some (F1 (fun w => by have := w.1.2; omega) s52 T52 KB)))
  refine pc_bq (s_free2 (S := s52) (by rw [n20]; exact hN)) (fun r60 h60 => pc_rg (pc_if (fun c3 => ?_) (fun c3 => ?_)))
  rotate_left
  · -- it is free
    rcases h60 with ⟨_, y1, y2⟩ | ⟨y, _⟩
    rotate_left
    · exact absurd y c3
    rw [v72] at y1
    rw [v73] at y2
    have nt : ¬ ¬ (bt g e p = 0 ∧ bt g e (p + 1) = 0) := fun w => w ⟨y1, y2⟩
    refine pc_some ⟨Or.inr rfl, T52, ⟨fun _ => ⟨⟨by omega, by omega⟩, fun w => absurd w nt⟩, fun _ => rfl⟩, fun _ => ⟨?_, ⟨v72, v73⟩, fun w => absurd w nt⟩, KB⟩
    show gI s52 322 = CNx g e p
    unfold CNx
    rw [if_pos ⟨y1, y2⟩, i52]; omega
  have ht : ¬ (bt g e p = 0 ∧ bt g e (p + 1) = 0) := by
    rcases h60 with ⟨y, _⟩ | ⟨_, y⟩
    · exact absurd (y.symm.trans c3) (by decide)
    · rw [v72, v73] at y; exact y
  refine pc_bq (s_next T52 (p := p + 2) i52) (fun q65 h65 => pc_inb (pc_stn (fun s67 e67 => ?_)))
  obtain ⟨d1, d2, d3, d4, d5⟩ := h65
  try rw [tb] at e67
  have T67 : TPc s67 g e := TPc_k d3 (q_Aa e67 (by decide)) (q_Ai e67)
  refine pc_bq (s_next T67 (p := p + 3) (by rw [(q_Ai e67 : gI s67 322 = _), d2]; omega)) (fun q70 h70 => pc_inb (pc_stn (fun s72 e72 => pc_rdI (fun _ => ?_))))
  obtain ⟨f1, f2, f3, f4, f5⟩ := h70
  try rw [tb] at e72
  have T72 : TPc s72 g e := TPc_k f3 (q_Aa e72 (by decide)) (q_Ai e72)
  have i72 : gI s72 322 = ((p + 4 : Nat) : Int) := by rw [(q_Ai e72 : gI s72 322 = _), f2]; omega
  have k74 : gA s72 74 = upZ (gA S 74) b q65.1 := by
    rw [(q_Aa e72 (by decide) : gA s72 74 = _), f4, (q_AA e67 : gA s67 74 = _), d4, kk 74 (by decide) (by decide)]
  have k75 : gA s72 75 = upZ (gA S 75) b q70.1 := by
    rw [(q_AA e72 : gA s72 75 = _), f4, (q_Aa e67 (by decide) : gA s67 75 = _), d4, kk 75 (by decide) (by decide)]
  have k2 : ∀ k, k ≠ 74 → k ≠ 75 → gA s72 k = gA s52 k := fun k k1 k3 => by
    rw [(q_Aa e72 k3 : gA s72 k = _), f4, (q_Aa e67 k1 : gA s67 k = _), d4]
  have v74 : gA s72 74 b = bt g e (p + 2) := by rw [k74, upZ_s, d1]
  have v75 : gA s72 75 b = bt g e (p + 3) := by rw [k75, upZ_s, f1]
  have KB2 : KBl S s72 b := ⟨fun x hx => ⟨by rw [k2 72 (by decide) (by decide)]; exact (KB.1 x hx).1, by rw [k2 73 (by decide) (by decide)]; exact (KB.1 x hx).2.1, by rw [k74, upZ_n hx], by rw [k75, upZ_n hx]⟩, fun x hx => by rw [k2 76 (by decide) (by decide), k2 77 (by decide) (by decide)]; exact KB.2.1 x hx, fun k hk => (k2 k (by omega) (by omega)).trans (KB.2.2 k hk)⟩
  rw [tb, v74]
  refine pc_rg (pc_if (fun c4 => pc_some (F1 (fun w => by have := (w.2 ht).1; omega) s72 T72 KB2)) (fun c4 => pc_rdI (fun _ => ?_)))
  rw [tb, v74]
  refine pc_rg (pc_if (fun c5 => pc_some (F1 (fun w => by have := (w.2 ht).1; omega) s72 T72 KB2)) (fun c5 => pc_rdI (fun _ => ?_)))
  rw [tb, v75]
  refine pc_rg (pc_if (fun c6 => pc_some (F1 (fun w => by have := (w.2 ht).2.1; omega) s72 T72 KB2)) (fun c6 => pc_rdI (fun _ => ?_)))
  rw [tb, v75]
  refine pc_rg (pc_rg (pc_if (fun c7 => ?_) (fun c7 => pc_some (F1 (fun w => by have := (w.2 ht).2.1; omega) s72 T72 KB2))))
  have L := s_entries (b := b) (e := e) (p0 := p + 4) (g := g) (n := bt g e (p + 3)) hb (by omega) FU 1 0 s72 (by omega) v75 T72 (by rw [i72] <;> omega) (Or.inr rfl) (fun j hj => absurd hj (by omega)) ⟨fun _ j hj => absurd hj (by omega), fun _ => rfl⟩
  refine pc_mono L (fun q hq => ?_)
  obtain ⟨g1, g2, g3, g4, g5, g6, g7⟩ := hq
  have E4 : ∀ j : Nat, (j : Int) < bt g e (p + 3) → gA q.2 76 (6 * b + j) = 256 * bt g e (p + 4 + 4 * j) + bt g e (p + 5 + 4 * j) ∧ gA q.2 77 (6 * b + j) = 256 * bt g e (p + 6 + 4 * j) + bt g e (p + 7 + 4 * j) := fun j hj => by
    have w := g4 j hj
    rw [show p + 4 + 1 + 4 * j = p + 5 + 4 * j by omega, show p + 4 + 2 + 4 * j = p + 6 + 4 * j by omega, show p + 4 + 3 + 4 * j = p + 7 + 4 * j by omega] at w
    exact w
  have u72 : gA q.2 72 b = bt g e p := by rw [g7 72 (by decide) (by decide), k2 72 (by decide) (by decide)]; exact v72
  have u73 : gA q.2 73 b = bt g e (p + 1) := by rw [g7 73 (by decide) (by decide), k2 73 (by decide) (by decide)]; exact v73
  have u74 : gA q.2 74 b = bt g e (p + 2) := by rw [g7 74 (by decide) (by decide)]; exact v74
  have u75 : gA q.2 75 b = bt g e (p + 3) := by rw [g7 75 (by decide) (by decide)]; exact v75
  refine ⟨g1, g2, ?_, fun _ => ⟨?_, ⟨u72, u73⟩, fun _ => ⟨u74, u75, E4⟩⟩, ⟨fun x hx => ?_, fun x hx => ?_, fun k hk => ?_⟩⟩
  · rw [g5]
    constructor
    · intro w
      refine ⟨⟨by omega, c2⟩, fun _ => ⟨⟨by omega, by omega⟩, ⟨by omega, c7⟩, fun j hj => ?_⟩⟩
      have y := w j hj
      rw [(E4 j hj).1, (E4 j hj).2] at y
      exact y
    · intro w j hj
      rw [(E4 j hj).1, (E4 j hj).2]
      exact (w.2 ht).2.2 j hj
  · show gI q.2 322 = CNx g e p
    unfold CNx
    rw [if_neg ht, g3]; omega
  · rw [g7 72 (by decide) (by decide), g7 73 (by decide) (by decide), g7 74 (by decide) (by decide), g7 75 (by decide) (by decide)]
    exact KB2.1 x hx
  · rw [(g6 x hx).1, (g6 x hx).2]
    exact KB2.2.1 x hx
  · rw [g7 k (by omega) (by omega)]
    exact KB2.2.2 k hk
/-! ===== all blocks of an image, as the class reads them ===== -/
theorem bt_all {g : Nat → Int} {e p : Nat} (h : nxp g p ≤ e) : (bt g e p = g p ∧ bt g e (p + 1) = g (p + 1)) ∧ (thr g p → bt g e (p + 2) = g (p + 2) ∧ bt g e (p + 3) = g (p + 3) ∧ ∀ k : Nat, (k : Int) < g (p + 3) → 256 * bt g e (p + 4 + 4 * k) + bt g e (p + 5 + 4 * k) = ke g p k ∧ 256 * bt g e (p + 6 + 4 * k) + bt g e (p + 7 + 4 * k) = ve g p k) := by
  have h2 := nxp_lt g p
  refine ⟨⟨bt_in (by omega), bt_in (by omega)⟩, fun ht => ?_⟩
  rw [nxp_1 ht] at h
  refine ⟨bt_in (by omega), bt_in (by omega), fun k hk => ?_⟩
  rw [bt_in (p := p + 4 + 4 * k) (by omega), bt_in (p := p + 5 + 4 * k) (by omega), bt_in (p := p + 6 + 4 * k) (by omega), bt_in (p := p + 7 + 4 * k) (by omega)]
  exact ⟨rfl, rfl⟩
theorem cn_in {g : Nat → Int} {e p : Nat} {E : Int} (c : COK g e p E) (h : CNx g e p ≤ (e : Int)) : nxp g p ≤ e := by
  unfold CNx at h
  by_cases z : bt g e p = 0 ∧ bt g e (p + 1) = 0
  · rw [if_pos z] at h
    have h' : p + 2 ≤ e := by omega
    rw [bt_in (p := p) (by omega), bt_in (p := p + 1) (by omega)] at z
    rw [nxp_0 (fun w => w z)]; exact h'
  · rw [if_neg z] at h
    have n := (c.2 z).2.1
    have h' : p + 4 ≤ e := by omega
    rw [bt_in (p := p + 3) (by omega)] at h n
    have z' : thr g p := fun w => z (by rw [bt_in (p := p) (by omega), bt_in (p := p + 1) (by omega)]; exact w)
    rw [nxp_1 z']; omega
theorem cn_eq {g : Nat → Int} {e p : Nat} (h : nxp g p ≤ e) (b0 : thr g p → 0 ≤ g (p + 3)) : CNx g e p = (nxp g p : Int) := by
  obtain ⟨⟨a1, a2⟩, a3⟩ := bt_all h
  unfold CNx
  rw [a1, a2]
  by_cases z : thr g p
  · have b := b0 z
    rw [if_neg z, nxp_1 z, (a3 z).2.1]; omega
  · rw [if_pos (Classical.not_not.1 z), nxp_0 z]; omega
/-- what the class asks of a block, by the tape alone -/
def GOK (g : Nat → Int) (p : Nat) (E : Int) : Prop := thr g p → (0 ≤ g (p + 2) ∧ g (p + 2) < 48) ∧ (1 ≤ g (p + 3) ∧ g (p + 3) ≤ E) ∧ ∀ k : Nat, (k : Int) < g (p + 3) → (0 ≤ ke g p k ∧ ke g p k ≤ 999) ∧ (0 ≤ ve g p k ∧ ve g p k ≤ 999)
theorem cok_iff {g : Nat → Int} {e p : Nat} {E : Int} (h : nxp g p ≤ e) (BY : ∀ j, j ≤ e → 0 ≤ g j ∧ g j ≤ 255) : COK g e p E ↔ GOK g p E := by
  obtain ⟨⟨a1, a2⟩, a3⟩ := bt_all h
  have h2 := nxp_lt g p
  have y1 := (BY p (by omega)).1
  have y2 := (BY (p + 1) (by omega)).1
  unfold COK
  rw [a1, a2]
  constructor
  · intro w ht
    obtain ⟨x1, x2, x3⟩ := w.2 ht
    obtain ⟨z1, z2, z3⟩ := a3 ht
    rw [z1] at x1
    rw [z2] at x2 x3
    refine ⟨x1, x2, fun k hk => ?_⟩
    have x := x3 k hk
    rw [(z3 k hk).1, (z3 k hk).2] at x
    exact x
  · intro w
    refine ⟨⟨y1, y2⟩, fun ht => ?_⟩
    obtain ⟨x1, x2, x3⟩ := w ht
    obtain ⟨z1, z2, z3⟩ := a3 ht
    rw [z1, z2]
    refine ⟨x1, x2, fun k hk => ?_⟩
    rw [(z3 k hk).1, (z3 k hk).2]
    exact x3 k hk
/-- block b as it lies in the class's rows -/
def CRB (S : MS) (g : Nat → Int) (p b : Nat) : Prop := (gA S 72 b = g p ∧ gA S 73 b = g (p + 1)) ∧ (thr g p → gA S 74 b = g (p + 2) ∧ gA S 75 b = g (p + 3) ∧ ∀ k : Nat, k < 6 → (k : Int) < g (p + 3) → gA S 76 (6 * b + k) = ke g p k ∧ gA S 77 (6 * b + k) = ve g p k)
theorem cbl_crb {S : MS} {g : Nat → Int} {e p b : Nat} (h : nxp g p ≤ e) (C : CBl S g e p b) : CRB S g p b := by
  obtain ⟨⟨a1, a2⟩, a3⟩ := bt_all h
  obtain ⟨c1, c2⟩ := C
  rw [a1, a2] at c1
  rw [a1, a2] at c2
  refine ⟨c1, fun ht => ?_⟩
  obtain ⟨x1, x2, x3⟩ := c2 ht
  obtain ⟨z1, z2, z3⟩ := a3 ht
  rw [z1] at x1
  rw [z2] at x2 x3
  refine ⟨x1, x2, fun k _ hk => ?_⟩
  have x := x3 k hk
  rw [(z3 k hk).1, (z3 k hk).2] at x
  exact x
theorem CRB_k {S o : MS} {g : Nat → Int} {p b x : Nat} (C : CRB S g p x) (h : x ≠ b) (K : KBl S o b) : CRB o g p x := by
  obtain ⟨k1, k2, _⟩ := K
  have r := k1 x h
  obtain ⟨c1, c2⟩ := C
  refine ⟨by rw [r.1, r.2.1]; exact c1, fun ht => ?_⟩
  obtain ⟨x1, x2, x3⟩ := c2 ht
  refine ⟨by rw [r.2.2.1]; exact x1, by rw [r.2.2.2]; exact x2, fun k k6 hk => ?_⟩
  have w := k2 (6 * x + k) (by omega)
  rw [w.1, w.2]
  exact x3 k k6 hk
/-- what stays while blocks are read -/
def FRX (S X : MS) : Prop := (∀ k, (k < 72 ∨ 77 < k) → gA X k = gA S k) ∧ ∀ i, i ≠ 322 → gI X i = gI S i
def IMC (g : Nat → Int) (e N : Nat) (E : Int) (b p : Nat) : Prop := p ≤ e ∧ PO g N = e ∧ ∀ x, b ≤ x → x < N → GOK g (PO g x) E
def EL (g : Nat → Int) (e N : Nat) (S : MS) (q : Int × MS) : Prop := ∃ (X : MS) (q' : Int × MS), m_x4_isSound X = some q' ∧ (∀ x, x < N → CRB X g (PO g x) x) ∧ FRX S X ∧ q.1 = (if q'.1 = 0 then 0 else 1) ∧ q.2 = q'.2 ∧ Rg X ∧ ∀ x, N ≤ x → x < 48 → gA X 72 x = 0 ∧ gA X 73 x = 0
set_option maxHeartbeats 1000000 in
theorem s_L59 {N e : Nat} {E : Int} {g : Nat → Int} (hN : N ≤ 48) (hE : 3 ≤ E ∧ E ≤ 6) (BY : ∀ j, j ≤ e → 0 ≤ g j ∧ g j ≤ 255) : ∀ (n b p : Nat) (S : MS), b ≤ N → gI S 1420 = (N : Int) → TPc S g e → gI S 322 = (p : Int) → (p ≤ e → p = PO g b ∧ ∀ x, x < b → CRB S g (PO g x) x) → Rg S → p ≤ 19 + 28 * b → (∀ x, b ≤ x → x < 48 → gA S 72 x = 0 ∧ gA S 73 x = 0 ∧ gA S 75 x = 0) → pc (m_x4_load_L59 n (N : Int) E (e : Int) (b : Int) S) (fun q => (IMC g e N E b p → EL g e N S q) ∧ (¬ IMC g e N E b p → q.1 = 0)) := by
  refine fr_ind (fun _ _ _ _ _ _ _ _ _ _ _ => pc_none) (fun n ih b p S hb h20 hT hp hr hRS hp28 hz0 => ?_)
  show pc (m_x4_load_b59 (m_x4_load_L59 n) (N : Int) E (e : Int) (b : Int) S) _
  unfold m_x4_load_b59 m_x4_load_J107 m_x4_load_J108
  refine pc_rg (pc_rg (pc_if (fun c => ?_) (fun c => ?_)))
  · have bN : b = N := by omega
    refine pc_rg (pc_rg (pc_if (fun c2 => pc_bn (fun q18 e18 => ?_)) (fun c2 => pc_bo (pc_some ⟨fun w => ?_, fun _ => rfl⟩))))
    · have pe : p = e := by omega
      have r := hr (by omega)
      have im : IMC g e N E b p := ⟨by omega, by rw [← bN, ← r.1]; exact pe, fun x x1 x2 => absurd x2 (by omega)⟩
      have rows : ∀ x, x < N → CRB S g (PO g x) x := fun x hx => r.2 x (by omega)
      have zz : ∀ x, N ≤ x → x < 48 → gA S 72 x = 0 ∧ gA S 73 x = 0 := fun x x1 x2 => ⟨(hz0 x (by omega) x2).1, (hz0 x (by omega) x2).2.1⟩
      refine pc_rg (pc_if (fun c3 => pc_bo (pc_some ⟨fun _ => ⟨S, q18, e18, rows, ⟨fun _ _ => rfl, fun _ _ => rfl⟩, (if_pos c3).symm, rfl, hRS, zz⟩, fun w => absurd im w⟩)) (fun c3 => pc_bo (pc_some ⟨fun _ => ⟨S, q18, e18, rows, ⟨fun _ _ => rfl, fun _ _ => rfl⟩, (if_neg c3).symm, rfl, hRS, zz⟩, fun w => absurd im w⟩)))
    · exfalso
      have r := hr w.1
      have : p = e := by rw [r.1, bN]; exact w.2.1
      omega
  · have b48 : b < 48 := by omega
    refine pc_bn (fun q23 e23 => ?_)
    have F : F_x4_loadBlock S q23.2 := fr_x4_loadBlock e23
    obtain ⟨p1, p2, p3, p4, p5⟩ := s_block (p := p) b48 (by rw [h20]; omega) hE.2 hT hp q23 e23
    have W := wp_det (w_loadBlock hRS (p2 := (b : Int)) ⟨by omega, by omega⟩ hE (by omega) (by rw [Int.toNat_natCast]; exact (hz0 b (Nat.le_refl _) b48).2.2)) e23
    have IN : IMC g e N E b p → nxp g p ≤ e ∧ GOK g p E := fun w => by
      have r := (hr w.1).1
      have m := PO_le (g := g) (show b + 1 ≤ N by omega)
      rw [PO_s, ← r, w.2.1] at m
      refine ⟨m, ?_⟩
      have y := w.2.2 b (Nat.le_refl _) (by omega)
      rw [← r] at y
      exact y
    refine pc_rg (pc_if (fun c2 => pc_some ⟨fun w => ?_, fun _ => rfl⟩) (fun c2 => ?_))
    · exfalso
      have i := IN w
      have y := p3.2 ((cok_iff i.1 BY).2 i.2)
      omega
    · have q1 : q23.1 = 1 := p1.resolve_left c2
      have C := p3.1 q1
      obtain ⟨n1, n2⟩ := p4 q1
      have pos : (p : Int) + 2 ≤ CNx g e p := by
        unfold CNx
        split
        · omega
        · rename_i z
          have := (C.2 z).2.1
          omega
      obtain ⟨p', hp'⟩ : ∃ p' : Nat, CNx g e p = (p' : Int) := ⟨(CNx g e p).toNat, by omega⟩
      have step := ih (b + 1) p' q23.2 (by omega) (by rw [F.1 1420 (by decide)]; exact h20) p2 (by rw [n1, hp']) (fun hle => by
        have i := cn_in C (by omega)
        have r := hr (by have := nxp_lt g p; omega)
        have G := (cok_iff i BY).1 C
        have q := cn_eq i (fun t => by have := (G t).2.1; omega)
        refine ⟨by rw [PO_s, ← r.1]; omega, fun x hx => ?_⟩
        by_cases z : x = b
        · rw [z, ← r.1]; exact cbl_crb i n2
        · exact CRB_k (r.2 x (by omega)) z p5) W.1 (by have := W.2.2.1; omega) (fun x x1 x2 => by
          have w := p5.1 x (by omega)
          rw [w.1, w.2.1, w.2.2.2]; exact hz0 x (by omega) x2)
      rw [show ((b : Int) + 1) = ((b + 1 : Nat) : Int) by omega]
      have EQ : IMC g e N E b p ↔ IMC g e N E (b + 1) p' := by
        constructor
        · intro w
          have i := IN w
          have q := cn_eq i.1 (fun t => by have := (i.2 t).2.1; omega)
          exact ⟨by omega, w.2.1, fun x x1 x2 => w.2.2 x (by omega) x2⟩
        · intro w
          have w1 := w.1
          have i := cn_in C (by omega)
          have l := nxp_lt g p
          have r := hr (by omega)
          refine ⟨by omega, w.2.1, fun x x1 x2 => ?_⟩
          by_cases z : x = b
          · rw [z, ← r.1]; exact (cok_iff i BY).1 C
          · exact w.2.2 x (by omega) x2
      refine pc_mono step (fun q hq => ⟨fun w => ?_, fun w => hq.2 (fun v => w (EQ.2 v))⟩)
      obtain ⟨X, q', x1, x2, x3, x4, x5, x6⟩ := hq.1 (EQ.1 w)
      exact ⟨X, q', x1, x2, ⟨fun k hk => (x3.1 k hk).trans (F.2.1 k (by simp; omega)), fun k hk => (x3.2 k hk).trans (F.1 k (by simp; omega))⟩, x4, x5, x6⟩
/-! ===== an image's head, as the class reads it ===== -/
def rto (r : Int) : Int := if r = 255 then -2 else if r = 254 then -1 else r
theorem s_rootOf {p : Int} {s : MS} : pc (m_x4_rootOf p s) (fun r => r = rto p) := by
  unfold m_x4_rootOf m_x4_rootOf_J22 rto
  refine pc_rg (pc_if (fun c => pc_some (by rw [if_pos c])) (fun c => pc_rg (pc_if (fun c2 => pc_some ?_) (fun c2 => pc_some ?_))))
  · rw [if_neg c, if_pos c2]
  · rw [if_neg c, if_neg c2]
def HRT (S : MS) (g : Nat → Int) (n : Nat) : Prop := ∀ v, v < n → gA S 78 v = rto (g (3 + 2 * v)) ∧ gA S 79 v = rto (g (4 + 2 * v))
def HLT (g : Nat → Int) (N : Int) (n : Nat) : Prop := ∀ v, v < n → rto (g (3 + 2 * v)) < N ∧ rto (g (4 + 2 * v)) < N
def PHd (g : Nat → Int) (e : Nat) (N : Int) (C : Prop) (S : MS) (q : Int × MS) : Prop := (q.1 = 0 ∨ q.1 = 1) ∧ TPc q.2 g e ∧ gI q.2 322 = 19 ∧ (q.1 = 1 ↔ (C ∧ HLT g N 8)) ∧ HRT q.2 g 8 ∧ (∀ k, k ≠ 78 → k ≠ 79 → gA q.2 k = gA S k) ∧ ∀ i, i ≠ 322 → gI q.2 i = gI S i
set_option maxHeartbeats 1000000 in
theorem s_roots {g : Nat → Int} {e : Nat} {N : Int} {C : Prop} (he : 19 ≤ e) : ∀ (n : Nat) (ok : Int) (v : Nat) (S : MS), v ≤ 8 → gI S 1420 = N → TPc S g e → gI S 322 = ((3 + 2 * v : Nat) : Int) → (ok = 0 ∨ ok = 1) → (ok = 1 ↔ (C ∧ HLT g N v)) → HRT S g v → pc (m_x4_loadHead_L39 n ok (v : Int) S) (PHd g e N C S) := by
  refine fr_ind (fun _ _ _ _ _ _ _ _ _ _ => pc_none) (fun n ih ok v S hv hN hT hp ho h1 h2 => ?_)
  have tv : ((v : Nat) : Int).toNat = v := Int.toNat_natCast _
  show pc (m_x4_loadHead_b39 (m_x4_loadHead_L39 n) ok (v : Int) S) _
  unfold m_x4_loadHead_b39 m_x4_loadHead_J113 m_x4_loadHead_J114
  refine pc_rg (pc_if (fun c => pc_bo (pc_some ?_)) (fun c => ?_))
  · have v8 : v = 8 := by omega
    rw [v8] at h1 h2 hp
    exact ⟨ho, hT, hp, h1, h2, fun _ _ _ => rfl, fun _ _ => rfl⟩
  refine pc_bq (s_next hT hp) (fun q14 h14 => ?_)
  obtain ⟨a1, a2, a3, a4, a5⟩ := h14
  refine pc_bq s_rootOf (fun r16 h16 => pc_inb (pc_stn (fun s18 e18 => ?_)))
  rw [tv] at e18
  have T18 : TPc s18 g e := TPc_k a3 (q_Aa e18 (by decide)) (q_Ai e18)
  refine pc_bq (s_next T18 (p := 4 + 2 * v) (by rw [(q_Ai e18 : gI s18 322 = _), a2]; omega)) (fun q21 h21 => ?_)
  obtain ⟨b1, b2, b3, b4, b5⟩ := h21
  refine pc_bq s_rootOf (fun r23 h23 => pc_inb (pc_stn (fun s25 e25 => ?_)))
  rw [tv] at e25
  have T25 : TPc s25 g e := TPc_k b3 (q_Aa e25 (by decide)) (q_Ai e25)
  rw [bt_in (by omega)] at a1
  rw [bt_in (by omega)] at b1
  rw [a1] at h16
  rw [b1] at h23
  have k78 : gA s25 78 = upZ (gA S 78) v r16 := by
    rw [(q_Aa e25 (by decide) : gA s25 78 = _), b4, (q_AA e18 : gA s18 78 = _), a4]
  have k79 : gA s25 79 = upZ (gA S 79) v r23 := by
    rw [(q_AA e25 : gA s25 79 = _), b4, (q_Aa e18 (by decide) : gA s18 79 = _), a4]
  have kk : ∀ k, k ≠ 78 → k ≠ 79 → gA s25 k = gA S k := fun k k1 k2 => by
    rw [(q_Aa e25 k2 : gA s25 k = _), b4, (q_Aa e18 k1 : gA s18 k = _), a4]
  have kI : ∀ i, i ≠ 322 → gI s25 i = gI S i := fun i hi => by
    rw [(q_Ai e25 : gI s25 i = _), b5 i hi, (q_Ai e18 : gI s18 i = _), a5 i hi]
  have w78 : gA s25 78 v = rto (g (3 + 2 * v)) := by rw [k78, upZ_s]; exact h16
  have w79 : gA s25 79 v = rto (g (4 + 2 * v)) := by rw [k79, upZ_s]; exact h23
  have HR : HRT s25 g (v + 1) := fun u hu => by
    by_cases z : u = v
    · rw [z]; exact ⟨w78, w79⟩
    · rw [k78, k79, upZ_n z, upZ_n z]; exact h2 u (by omega)
  have N25 : gI s25 1420 = N := by rw [kI 1420 (by decide)]; exact hN
  have GO : ∀ ok' : Int, (ok' = 0 ∨ ok' = 1) → (ok' = 1 ↔ (ok = 1 ∧ rto (g (3 + 2 * v)) < N ∧ rto (g (4 + 2 * v)) < N)) → pc (m_x4_loadHead_L39 n ok' ((v : Int) + 1) s25) (PHd g e N C S) := fun ok' o1 o2 => by
    rw [show ((v : Int) + 1) = ((v + 1 : Nat) : Int) by omega]
    refine pc_mono (ih ok' (v + 1) s25 (by omega) N25 T25 (by rw [(q_Ai e25 : gI s25 322 = _), b2]; omega) o1 ?_ HR) (fun q hq => ?_)
    · rw [o2, h1]
      constructor
      · rintro ⟨⟨x1, x2⟩, x3, x4⟩
        refine ⟨x1, fun u hu => ?_⟩
        by_cases z : u = v
        · rw [z]; exact ⟨x3, x4⟩
        · exact x2 u (by omega)
      · rintro ⟨x1, x2⟩
        exact ⟨⟨x1, fun u hu => x2 u (by omega)⟩, (x2 v (by omega)).1, (x2 v (by omega)).2⟩
    · obtain ⟨c1, c2, c3, c4, c5, c6, c7⟩ := hq
      exact ⟨c1, c2, c3, c4, c5, fun k k1 k2 => (c6 k k1 k2).trans (kk k k1 k2), fun i hi => (c7 i hi).trans (kI i hi)⟩
  refine pc_rg (pc_if (fun c2 => GO 0 (Or.inl rfl) ⟨fun w => absurd w (by decide), fun w => by omega⟩) (fun c2 => pc_rdI (fun _ => ?_)))
  rw [tv, w78, N25]
  have ok1 : ok = 1 := ho.resolve_left c2
  refine pc_rg (pc_rg (pc_if (fun c3 => GO 0 (Or.inl rfl) ⟨fun w => absurd w (by decide), fun w => by omega⟩) (fun c3 => pc_rdI (fun _ => ?_))))
  rw [tv, w79]
  exact pc_rg (pc_rg (pc_if (fun c4 => GO 0 (Or.inl rfl) ⟨fun w => absurd w (by decide), fun w => by omega⟩) (fun c4 => GO 1 (Or.inr rfl) ⟨fun _ => ⟨ok1, by omega, by omega⟩, fun _ => rfl⟩)))
def cst (g : Nat → Int) : Int := 65536 * g 0 + (256 * g 1 + g 2)
set_option maxHeartbeats 1000000 in
theorem s_head {g : Nat → Int} {e : Nat} {N : Int} {S : MS} (he : 19 ≤ e) (hN : gI S 1420 = N) (hT : TPc S g e) (hp : gI S 322 = 0) : pc (m_x4_loadHead S) (fun q => (q.1 = 0 ∨ q.1 = 1) ∧ TPc q.2 g e ∧ gI q.2 322 = 19 ∧ (q.1 = 1 ↔ (cst g ≤ 999999 ∧ HLT g N 8)) ∧ HRT q.2 g 8 ∧ gI q.2 1421 = cst g ∧ (∀ k, k ≠ 78 → k ≠ 79 → gA q.2 k = gA S k) ∧ ∀ i, i ≠ 322 → i ≠ 1421 → gI q.2 i = gI S i) := by
  unfold m_x4_loadHead m_x4_loadHead_J34
  refine pc_bq (s_next hT (p := 0) hp) (fun q40 h40 => ?_)
  obtain ⟨a1, a2, a3, a4, a5⟩ := h40
  refine pc_bq (s_pair a3 (p := 1) (by rw [a2]; rfl)) (fun q43 h43 => pc_stn (fun s44 e44 => ?_))
  obtain ⟨b1, b2, b3, b4, b5⟩ := h43
  rw [bt_in (by omega)] at a1
  rw [bt_in (p := 1) (by omega), bt_in (p := 1 + 1) (by omega)] at b1
  have i21 : gI s44 1421 = cst g := by
    rw [(q_II e44 : gI s44 1421 = _), a1, b1]
    unfold cst
    show g 0 * 65536 + (256 * g 1 + g 2) = 65536 * g 0 + (256 * g 1 + g 2)
    omega
  have T44 : TPc s44 g e := TPc_k b3 (q_Ia e44) (q_Ii e44 (by decide))
  have i22 : gI s44 322 = ((3 + 2 * 0 : Nat) : Int) := by rw [(q_Ii e44 (by decide) : gI s44 322 = _), b2]; rfl
  have N44 : gI s44 1420 = N := by rw [(q_Ii e44 (by decide) : gI s44 1420 = _), b5 1420 (by decide), a5 1420 (by decide)]; exact hN
  have kA : ∀ k, gA s44 k = gA S k := fun k => by rw [(q_Ia e44 : gA s44 k = _), b4, a4]
  have kI : ∀ i, i ≠ 322 → i ≠ 1421 → gI s44 i = gI S i := fun i h1 h2 => by rw [(q_Ii e44 h2 : gI s44 i = _), b5 i h1, a5 i h1]
  rw [i21]
  have GO : ∀ ok : Int, (ok = 0 ∨ ok = 1) → (ok = 1 ↔ cst g ≤ 999999) → pc (m_x4_loadHead_L39 FU ok 0 s44) (fun q => (q.1 = 0 ∨ q.1 = 1) ∧ TPc q.2 g e ∧ gI q.2 322 = 19 ∧ (q.1 = 1 ↔ (cst g ≤ 999999 ∧ HLT g N 8)) ∧ HRT q.2 g 8 ∧ gI q.2 1421 = cst g ∧ (∀ k, k ≠ 78 → k ≠ 79 → gA q.2 k = gA S k) ∧ ∀ i, i ≠ 322 → i ≠ 1421 → gI q.2 i = gI S i) := fun ok o1 o2 => by
    refine pc_mono (s_roots (C := cst g ≤ 999999) (N := N) he FU ok 0 s44 (by omega) N44 T44 i22 o1 ⟨fun w => ⟨o2.1 w, fun u hu => absurd hu (by omega)⟩, fun w => o2.2 w.1⟩ (fun u hu => absurd hu (by omega))) (fun q hq => ?_)
    obtain ⟨c1, c2, c3, c4, c5, c6, c7⟩ := hq
    exact ⟨c1, c2, c3, c4, c5, (c7 1421 (by decide)).trans i21, fun k k1 k2 => (c6 k k1 k2).trans (kA k), fun i h1 h2 => (c7 i h1).trans (kI i h1 h2)⟩
  exact pc_rg (pc_if (fun c => GO 0 (Or.inl rfl) ⟨fun w => absurd w (by decide), fun w => by omega⟩) (fun c => GO 1 (Or.inr rfl) ⟨fun _ => by omega, fun _ => rfl⟩))
/-! ===== an image's soundness, as the class sees it ===== -/
/-- one child, by the least and the greatest key below it -/
def CHK (S : MS) (b k : Nat) : Prop := ((0 ≤ gA S 77 (6 * b + k) ∧ gA S 77 (6 * b + k) < gI S 1420) ∧ ¬ (gA S 72 (gA S 77 (6 * b + k)).toNat = 0 ∧ gA S 73 (gA S 77 (6 * b + k)).toNat = 0) ∧ gA S 74 (gA S 77 (6 * b + k)).toNat = gA S 74 b - 1) ∧ (0 < k → gA S 76 (6 * b + k) ≤ gA S 18 (gA S 77 (6 * b + k)).toNat) ∧ ((k : Int) + 1 < gA S 75 b → gA S 19 (gA S 77 (6 * b + k)).toNat < gA S 76 (6 * b + (k + 1)))
theorem s_slot2 {a b : Int} {s : MS} : pc (m_x8_slot_v2 a b s) (fun r => r = a * 6 + b) := by
  unfold m_x8_slot_v2
  exact pc_some rfl
theorem s_isBlk2 {p : Int} {S : MS} : pc (m_x8_isBlock_v2 p S) (fun r => (r = 1 ∧ 0 ≤ p ∧ p < gI S 1420) ∨ (r = 0 ∧ ¬ (0 ≤ p ∧ p < gI S 1420))) := by
  unfold m_x8_isBlock_v2 m_x8_isBlock_v2_J16 m_x8_isBlock_v2_J17
  exact pc_rg (pc_if (fun c => pc_bo (pc_some (Or.inr ⟨rfl, fun w => by omega⟩))) (fun c => pc_rg (pc_rg (pc_if (fun c2 => pc_bo (pc_some (Or.inr ⟨rfl, fun w => by omega⟩))) (fun c2 => pc_bo (pc_some (Or.inl ⟨rfl, by omega, by omega⟩)))))))
set_option maxHeartbeats 1000000 in
theorem s_child {b k : Nat} {S : MS} : pc (m_x4_isSoundChild (b : Int) (k : Int) S) (fun r => (r = 1 ∧ CHK S b k) ∨ (r = 0 ∧ ¬ CHK S b k)) := by
  have tb : ((b : Nat) : Int).toNat = b := Int.toNat_natCast _
  have sl : ∀ r : Int, r = (b : Int) * 6 + (k : Int) → r.toNat = 6 * b + k := fun r h => by omega
  have sl2 : ∀ r : Int, r = (b : Int) * 6 + ((k : Int) + 1) → r.toNat = 6 * b + (k + 1) := fun r h => by omega
  unfold m_x4_isSoundChild m_x4_isSoundChild_J49
  refine pc_bq s_slot2 (fun r18 h18 => pc_rdI (fun _ => ?_))
  rw [sl r18 h18]
  generalize hc : gA S 77 (6 * b + k) = ch
  refine pc_bq s_isBlk2 (fun r21 h21 => pc_rg (pc_if (fun c => pc_some (Or.inr ⟨rfl, fun w => ?_⟩)) (fun c => ?_)))
  · have w1 := w.1.1
    rw [hc] at w1
    rcases h21 with ⟨a, _⟩ | ⟨_, a⟩
    · exact absurd (a.symm.trans c) (by decide)
    · exact a w1
  have in1 : 0 ≤ ch ∧ ch < gI S 1420 := by
    rcases h21 with ⟨_, a⟩ | ⟨a, _⟩
    · exact a
    · exact absurd a c
  obtain ⟨x, hx⟩ : ∃ x : Nat, ch = (x : Int) := ⟨ch.toNat, by omega⟩
  rw [hx] at in1 ⊢
  have tx : ((x : Nat) : Int).toNat = x := Int.toNat_natCast _
  have hc' : (gA S 77 (6 * b + k)).toNat = x := by rw [hc, hx, tx]
  refine pc_bq (s_free2 in1.2) (fun r25 h25 => pc_rg (pc_if (fun c2 => pc_rdI (fun _ => pc_rdI (fun _ => ?_))) (fun c2 => pc_some (Or.inr ⟨rfl, fun w => ?_⟩))))
  · have nf : ¬ (gA S 72 x = 0 ∧ gA S 73 x = 0) := by
      rcases h25 with ⟨a, _⟩ | ⟨_, a⟩
      · exact absurd (a.symm.trans c2) (by decide)
      · exact a
    rw [tx, tb]
    -- behind the least key
    have J78 : (0 < k → gA S 76 (6 * b + k) ≤ gA S 18 x) → gA S 74 x = gA S 74 b - 1 → pc (m_x4_isSoundChild_J78 S (b : Int) (k : Int) (x : Int)) (fun r => (r = 1 ∧ CHK S b k) ∨ (r = 0 ∧ ¬ CHK S b k)) := fun lo lv => by
      unfold m_x4_isSoundChild_J78 m_x4_isSoundChild_J113 m_x4_isSoundChild_J118
      have YES : ((k : Int) + 1 < gA S 75 b → gA S 19 x < gA S 76 (6 * b + (k + 1))) → CHK S b k := fun h => by
        unfold CHK
        rw [hc', hc, hx]
        exact ⟨⟨in1, nf, lv⟩, lo, h⟩
      refine pc_rdI (fun _ => ?_)
      rw [tb]
      refine pc_rg (pc_rg (pc_if (fun d => pc_bo (pc_some (Or.inl ⟨rfl, YES (fun w => absurd w (by omega))⟩))) (fun d => pc_rdI (fun _ => pc_bq s_slot2 (fun r12 h12 => pc_rdI (fun _ => ?_))))))
      rw [tx, sl2 r12 h12]
      refine pc_rg (pc_rg (pc_if (fun d2 => pc_bo (pc_some (Or.inr ⟨rfl, fun w => ?_⟩))) (fun d2 => pc_bo (pc_some (Or.inl ⟨rfl, YES (fun _ => by omega)⟩)))))
      have y := w.2.2 (by omega)
      rw [hc'] at y
      omega
    refine pc_rg (pc_rg (pc_if (fun d => ?_) (fun d => pc_some (Or.inr ⟨rfl, fun w => ?_⟩))))
    · refine pc_rg (pc_if (fun d2 => J78 (fun w => absurd w (by omega)) d) (fun d2 => pc_rdI (fun _ => pc_bq s_slot2 (fun r37 h37 => pc_rdI (fun _ => ?_)))))
      rw [tx, sl r37 h37]
      refine pc_rg (pc_rg (pc_if (fun d3 => J78 (fun _ => d3) d) (fun d3 => pc_some (Or.inr ⟨rfl, fun w => ?_⟩))))
      have y := w.2.1 (by omega)
      rw [hc'] at y
      exact d3 y
    · have y := w.1.2.2
      rw [hc'] at y
      exact d y
  · have y := w.1.2.1
    rw [hc'] at y
    rcases h25 with ⟨_, a⟩ | ⟨a, _⟩
    · exact y a
    · exact absurd a c2
/-- a block, by the least and the greatest keys below its children -/
def SBkI (S : MS) (b : Nat) : Prop := (∀ k : Nat, (gA S 74 b = 0 ∨ 1 ≤ k) → (k : Int) + 1 < gA S 75 b → gA S 76 (6 * b + k) < gA S 76 (6 * b + (k + 1))) ∧ (gA S 74 b ≠ 0 → ∀ k : Nat, (k : Int) < gA S 75 b → CHK S b k)
/-- the least and the greatest key below a block -/
def LHk (S o : MS) (b : Nat) : Prop := (gA S 74 b = 0 → gA o 18 b = gA S 76 (6 * b) ∧ gA o 19 b = gA S 76 (6 * b + (gA S 75 b - 1).toNat)) ∧ (gA S 74 b ≠ 0 → gA o 18 b = gA S 18 (gA S 77 (6 * b)).toNat ∧ gA o 19 b = gA S 19 (gA S 77 (6 * b + (gA S 75 b - 1).toNat)).toNat)
def KLH (S o : MS) (b : Nat) : Prop := (∀ x, x ≠ b → gA o 18 x = gA S 18 x ∧ gA o 19 x = gA S 19 x) ∧ (∀ k, k ≠ 18 → k ≠ 19 → gA o k = gA S k) ∧ ∀ i, gI o i = gI S i
set_option maxHeartbeats 2000000 in
theorem s_sblock {b : Nat} {S : MS} (hc : 1 ≤ gA S 75 b ∧ gA S 75 b ≤ 6) (ho : gA S 74 b ≠ 0 → ∀ k : Nat, (k : Int) < gA S 75 b → gA S 74 (gA S 77 (6 * b + k)).toNat = gA S 74 b - 1 → (gA S 77 (6 * b + k)).toNat ≠ b) : pc (m_x4_isSoundBlock (b : Int) S) (fun q => (q.1 = 1 ∧ SBkI S b ∧ LHk S q.2 b ∧ KLH S q.2 b) ∨ (q.1 = 0 ∧ ¬ SBkI S b)) := by
  have tb : ((b : Nat) : Int).toNat = b := Int.toNat_natCast _
  obtain ⟨c, hcc⟩ : ∃ c : Nat, gA S 75 b = ((c + 1 : Nat) : Int) := ⟨(gA S 75 b - 1).toNat, by omega⟩
  have c1 : gA S 75 b - 1 = (c : Int) := by omega
  have tc : (gA S 75 b - 1).toNat = c := by omega
  have tc' : ((c : Nat) : Int).toNat = c := Int.toNat_natCast _
  -- the children
  have L120 : ∀ (n k : Nat), k ≤ c + 1 → (∀ j : Nat, (gA S 74 b = 0 ∨ 1 ≤ j) → (j : Int) + 1 < gA S 75 b → gA S 76 (6 * b + j) < gA S 76 (6 * b + (j + 1))) → gA S 74 b ≠ 0 → (∀ j, j < k → CHK S b j) → pc (m_x4_isSoundBlock_L120 n (b : Int) (c : Int) (k : Int) S) (fun q => (q.1 = 1 ∧ SBkI S b ∧ LHk S q.2 b ∧ KLH S q.2 b) ∨ (q.1 = 0 ∧ ¬ SBkI S b)) := by
    refine fr_ind (fun _ _ _ _ _ => pc_none) (fun n ih k hk hr hl hd => ?_)
    show pc (m_x4_isSoundBlock_b120 (m_x4_isSoundBlock_L120 n) (b : Int) (c : Int) (k : Int) S) _
    unfold m_x4_isSoundBlock_b120
    refine pc_rg (pc_rg (pc_if (fun d => ?_) (fun d => pc_bq s_child (fun r21 h21 => pc_rg (pc_if (fun d2 => pc_some (Or.inr ⟨rfl, fun w => ?_⟩)) (fun d2 => ?_))))))
    · have kc : k = c + 1 := by omega
      refine pc_bq s_slot2 (fun r9 h9 => pc_rdI (fun _ => pc_rdI (fun _ => pc_inb (pc_stn (fun s13 e13 => pc_bq s_slot2 (fun r15 h15 => pc_rdI (fun _ => pc_rdI (fun _ => pc_inb (pc_stn (fun s19 e19 => pc_some ?_))))))))))
      rw [tb, show r9.toNat = 6 * b by omega] at e13
      have k77 : gA s13 77 = gA S 77 := q_Aa e13 (by decide)
      have k19 : gA s13 19 = gA S 19 := q_Aa e13 (by decide)
      rw [tb, show r15.toNat = 6 * b + c by omega, k77, k19] at e19
      have v18 : gA s19 18 = upZ (gA S 18) b (gA S 18 (gA S 77 (6 * b)).toNat) := (q_Aa e19 (by decide) : gA s19 18 = gA s13 18).trans (q_AA e13)
      have v19 : gA s19 19 = upZ (gA S 19) b (gA S 19 (gA S 77 (6 * b + c)).toNat) := q_AA e19
      refine Or.inl ⟨rfl, ⟨hr, fun _ j hj => hd j (by omega)⟩, ⟨fun z => absurd z hl, fun _ => ⟨?_, ?_⟩⟩, ⟨fun x hx => ?_, fun j j1 j2 => (q_Aa e19 j2).trans (q_Aa e13 j1), fun i => (q_Ai e19).trans (q_Ai e13)⟩⟩
      · show gA s19 18 b = _
        rw [v18, upZ_s]
      · show gA s19 19 b = _
        rw [v19, upZ_s, tc]
      · show gA s19 18 x = _ ∧ gA s19 19 x = _
        rw [v18, v19, upZ_n hx, upZ_n hx]; exact ⟨rfl, rfl⟩
    · rcases h21 with ⟨a, _⟩ | ⟨_, a⟩
      · exact absurd (a.symm.trans d2) (by decide)
      · exact a (w.2 hl k (by omega))
    · have ck : CHK S b k := by
        rcases h21 with ⟨_, a⟩ | ⟨a, _⟩
        · exact a
        · exact absurd a d2
      rw [show ((k : Int) + 1) = ((k + 1 : Nat) : Int) by omega]
      refine ih (k + 1) (by omega) hr hl (fun j hj => ?_)
      by_cases z : j = k
      · rw [z]; exact ck
      · exact hd j (by omega)
  -- the keys
  have L29 : ∀ (n k : Nat), (gA S 74 b ≠ 0 → 1 ≤ k) → (k ≤ c ∨ (gA S 74 b ≠ 0 ∧ k = 1)) → (∀ j : Nat, j < k → (gA S 74 b = 0 ∨ 1 ≤ j) → (j : Int) + 1 < gA S 75 b → gA S 76 (6 * b + j) < gA S 76 (6 * b + (j + 1))) → pc (m_x4_isSoundBlock_L29 n (b : Int) (c : Int) (k : Int) S) (fun q => (q.1 = 1 ∧ SBkI S b ∧ LHk S q.2 b ∧ KLH S q.2 b) ∨ (q.1 = 0 ∧ ¬ SBkI S b)) := by
    refine fr_ind (fun _ _ _ _ => pc_none) (fun n ih k h1 h2 hr => ?_)
    show pc (m_x4_isSoundBlock_b29 (m_x4_isSoundBlock_L29 n) (b : Int) (c : Int) (k : Int) S) _
    unfold m_x4_isSoundBlock_b29
    refine pc_rg (pc_rg (pc_if (fun d => pc_rdI (fun _ => ?_)) (fun d => pc_bq s_slot2 (fun r45 h45 => pc_rdI (fun _ => pc_bq s_slot2 (fun r48 h48 => pc_rdI (fun _ => ?_)))))))
    · rw [tb]
      have hr' : ∀ j : Nat, (gA S 74 b = 0 ∨ 1 ≤ j) → (j : Int) + 1 < gA S 75 b → gA S 76 (6 * b + j) < gA S 76 (6 * b + (j + 1)) := fun j j1 j2 => hr j (by omega) j1 j2
      refine pc_rg (pc_if (fun z => ?_) (fun z => ?_))
      · refine pc_bq s_slot2 (fun r35 h35 => pc_rdI (fun _ => pc_inb (pc_stn (fun s38 e38 => pc_bq s_slot2 (fun r40 h40 => pc_rdI (fun _ => pc_inb (pc_stn (fun s43 e43 => pc_some ?_))))))))
        try rw [tb] at e38
        rw [show r35.toNat = 6 * b by omega] at e38
        have k76 : gA s38 76 = gA S 76 := q_Aa e38 (by decide)
        try rw [tb] at e43
        rw [show r40.toNat = 6 * b + c by omega, k76] at e43
        have v18 : gA s43 18 = upZ (gA S 18) b (gA S 76 (6 * b)) := (q_Aa e43 (by decide) : gA s43 18 = gA s38 18).trans (q_AA e38)
        have v19 : gA s43 19 = upZ (gA s38 19) b (gA S 76 (6 * b + c)) := q_AA e43
        have k19 : gA s38 19 = gA S 19 := q_Aa e38 (by decide)
        refine Or.inl ⟨rfl, ⟨hr', fun w => absurd z w⟩, ⟨fun _ => ⟨?_, ?_⟩, fun w => absurd z w⟩, ⟨fun x hx => ?_, fun j j1 j2 => (q_Aa e43 j2).trans (q_Aa e38 j1), fun i => (q_Ai e43).trans (q_Ai e38)⟩⟩
        · show gA s43 18 b = _
          rw [v18, upZ_s]
        · show gA s43 19 b = _
          rw [v19, upZ_s, tc]
        · show gA s43 18 x = _ ∧ gA s43 19 x = _
          rw [v18, v19, k19, upZ_n hx, upZ_n hx]; exact ⟨rfl, rfl⟩
      · exact L120 FU 0 (by omega) hr' z (fun j hj => absurd hj (by omega))
    · rw [show r45.toNat = 6 * b + k by omega, show r48.toNat = 6 * b + (k + 1) by omega]
      refine pc_rg (pc_rg (pc_if (fun d2 => ?_) (fun d2 => pc_some (Or.inr ⟨rfl, fun w => d2 (w.1 k ?_ (by omega))⟩))))
      · rw [show ((k : Int) + 1) = ((k + 1 : Nat) : Int) by omega]
        refine ih (k + 1) (fun w => by have := h1 w; omega) (Or.inl (by omega)) (fun j hj j1 j2 => ?_)
        by_cases z : j = k
        · rw [z]; exact d2
        · exact hr j (by omega) j1 j2
      · by_cases z : gA S 74 b = 0
        · exact Or.inl z
        · exact Or.inr (h1 z)
  unfold m_x4_isSoundBlock m_x4_isSoundBlock_J23
  refine pc_rdI (fun _ => pc_rdI (fun _ => ?_))
  rw [tb, c1]
  refine pc_rg (pc_if (fun z => L29 FU 0 (fun w => absurd z w) (Or.inl (by omega)) (fun j hj => absurd hj (by omega))) (fun z => L29 FU 1 (fun _ => Nat.le_refl _) (by omega) (fun j hj j1 _ => ?_)))
  rcases j1 with y | y
  · exact absurd y z
  · omega
/-! ===== counts of references, with what a refusal says ===== -/
set_option maxHeartbeats 1000000 in
theorem wc_refsAre {s : MS} (hR : Rg s) (hY : HY s 72 78) : wp (m_x4_refsAre s) (fun q => Rg q.2 ∧ ((q.1 = 0 ∧ ∃ x : Nat, (x : Int) < gI s 1420 ∧ gA s 72 x ≠ rf (hJ s) (gA s 72) (gA s 78) (x : Int)) ∨ (q.1 = 1 ∧ ∀ x : Nat, (x : Int) < gI s 1420 → gA s 72 x = rf (hJ s) (gA s 72) (gA s 78) (x : Int)))) := by
  have n48 : (0 : Int) ≤ gI s 1420 ∧ gI s 1420 ≤ 48 := hR.1 1420
  have ks : ∀ S : MS, (∀ k, k ≠ 20 → gA S k = gA s k) → (∀ k, gI S k = gI s k) → True := fun _ _ _ => trivial
  have L151 : ∀ (n : Nat) (i : Int) (S : MS), Rg S → (∀ k, k ≠ 20 → gA S k = gA s k) → gI S 1420 = gI s 1420 → (0 ≤ i ∧ i ≤ gI s 1420) → (∀ x : Nat, (x : Int) < gI s 1420 → gA S 20 x = rf (hJ s) (gA s 72) (gA s 78) (x : Int)) → (∀ x : Nat, (x : Int) < i → gA s 72 x = rf (hJ s) (gA s 72) (gA s 78) (x : Int)) → gI s 1420 - i < (n : Int) → wp (m_x4_refsAre_L151 n i S) (fun q => Rg q.2 ∧ ((q.1 = 0 ∧ ∃ x : Nat, (x : Int) < gI s 1420 ∧ gA s 72 x ≠ rf (hJ s) (gA s 72) (gA s 78) (x : Int)) ∨ (q.1 = 1 ∧ ∀ x : Nat, (x : Int) < gI s 1420 → gA s 72 x = rf (hJ s) (gA s 72) (gA s 78) (x : Int)))) := by
    refine fr_ind (fun i S hRS hA hI hi hF hG hm => by exfalso; omega) (fun n ih i S hRS hA hI hi hF hG hm => ?_)
    show wp (m_x4_refsAre_b151 (m_x4_refsAre_L151 n) i S) _
    unfold m_x4_refsAre_b151
    refine wp_rg (by omega) (wp_rg (by omega) (wp_if (fun c1 => wp_some ⟨hRS, Or.inr ⟨rfl, fun x hx => hG x (by omega)⟩⟩) (fun c1 => ?_)))
    refine wp_rdIn (by omega) (fun y6 e6 => ?_)
    refine wp_rdIn (by omega) (fun y7 e7 => ?_)
    have rl := rf_le (hJ s) (gA s 72) (gA s 78) ((i.toNat : Nat) : Int)
    have rn := rf_nn (hJ s) (gA s 72) (gA s 78) ((i.toNat : Nat) : Int)
    rw [hF i.toNat (by omega)] at e6
    have r7 := hRS.2.1 72 i.toNat (by show _ < 48; omega)
    rw [e7] at r7
    have r7' : (-1 : Int) ≤ y7 ∧ y7 ≤ 100000 := r7
    rw [hA 72 (by decide)] at e7
    refine wp_rg (by omega) (wp_rg (by omega) (wp_if (fun c2 => ?_) (fun c2 => wp_some ⟨hRS, Or.inl ⟨rfl, i.toNat, by omega, fun z => c2 (by rw [← e6, ← e7]; exact z.symm)⟩⟩)))
    refine ih (i + 1) S hRS hA hI (by omega) hF (fun x hx => ?_) (by omega)
    by_cases z : x = i.toNat
    · rw [z, e6, e7, c2]
    · exact hG x (by omega)
  have L65 : ∀ (n : Nat) (b : Int) (S : MS), Rg S → (∀ k, k ≠ 20 → gA S k = gA s k) → gI S 1420 = gI s 1420 → (0 ≤ b ∧ b ≤ gI s 1420) → (∀ x : Nat, (x : Int) < gI s 1420 → gA S 20 x = rr (gA s 78) (x : Int) + sm b.toNat (fun p => if 0 < gA s 72 p then en (hJ s) p (x : Int) else 0)) → gI s 1420 - b < (n : Int) → wp (m_x4_refsAre_L65 n b S) (fun q => Rg q.2 ∧ ((q.1 = 0 ∧ ∃ x : Nat, (x : Int) < gI s 1420 ∧ gA s 72 x ≠ rf (hJ s) (gA s 72) (gA s 78) (x : Int)) ∨ (q.1 = 1 ∧ ∀ x : Nat, (x : Int) < gI s 1420 → gA s 72 x = rf (hJ s) (gA s 72) (gA s 78) (x : Int)))) := by
    refine fr_ind (fun b S hRS hA hI hb hF hm => by exfalso; omega) (fun n ih b S hRS hA hI hb hF hm => ?_)
    show wp (m_x4_refsAre_b65 (m_x4_refsAre_L65 n) b S) _
    unfold m_x4_refsAre_b65 m_x4_refsAre_J101 m_x4_refsAre_J102
    refine wp_rg (by omega) (wp_rg (by omega) (wp_if (fun c1 => ?_) (fun c1 => ?_)))
    · refine L151 FU 0 S hRS hA hI (by omega) (fun x hx => ?_) (fun x hx => absurd hx (by omega)) (by have := FU_big; omega)
      rw [hF x hx]
      unfold rf
      rw [sm_tail (a := b.toNat) (n := 48) (f := fun p => if 0 < gA s 72 p then en (hJ s) p (x : Int) else 0) (by omega) (fun p h1 h2 => if_neg (by rw [hY.1 p h2 (by omega)]; omega))]
    have stp : ∀ x : Nat, sm (b + 1).toNat (fun p => if 0 < gA s 72 p then en (hJ s) p (x : Int) else 0) = sm b.toNat (fun p => if 0 < gA s 72 p then en (hJ s) p (x : Int) else 0) + (if 0 < gA s 72 b.toNat then en (hJ s) b.toNat (x : Int) else 0) := fun x => by
      rw [show (b + 1).toNat = b.toNat + 1 by omega]; rfl
    have L107 : ∀ (m : Nat) (e k : Int) (S : MS), Rg S → (∀ k, k ≠ 20 → gA S k = gA s k) → gI S 1420 = gI s 1420 → ((e = 0 ∧ ∀ x : Nat, (if 0 < gA s 72 b.toNat then en (hJ s) b.toNat (x : Int) else 0) = 0) ∨ (0 < gA s 72 b.toNat ∧ 0 < gA s 74 b.toNat ∧ e = gA s 75 b.toNat)) → (0 ≤ k ∧ k ≤ e) → (∀ x : Nat, (x : Int) < gI s 1420 → gA S 20 x = rr (gA s 78) (x : Int) + sm b.toNat (fun p => if 0 < gA s 72 p then en (hJ s) p (x : Int) else 0) + (en (hJ s) b.toNat (x : Int) - enf (hJ s) b.toNat k (x : Int))) → e - k < (m : Int) → wp (m_x4_refsAre_L107 (m_x4_refsAre_L65 n) m b e k S) (fun q => Rg q.2 ∧ ((q.1 = 0 ∧ ∃ x : Nat, (x : Int) < gI s 1420 ∧ gA s 72 x ≠ rf (hJ s) (gA s 72) (gA s 78) (x : Int)) ∨ (q.1 = 1 ∧ ∀ x : Nat, (x : Int) < gI s 1420 → gA s 72 x = rf (hJ s) (gA s 72) (gA s 78) (x : Int)))) := by
      refine fr_ind (fun e k S hRS hA hI he hk hF hm => by exfalso; omega) (fun m ihm e k S hRS hA hI he hk hF hm2 => ?_)
      show wp (m_x4_refsAre_b107 (m_x4_refsAre_L65 n) (m_x4_refsAre_L107 (m_x4_refsAre_L65 n) m) b e k S) _
      unfold m_x4_refsAre_b107
      have e6 : 0 ≤ e ∧ e ≤ 6 := by
        rcases he with he | he
        · omega
        · have := (hY.2.1 b.toNat (by omega) he.1 he.2.1).1; omega
      refine wp_rg (by omega) (wp_rg (by omega) (wp_if (fun c2 => ?_) (fun c2 => ?_)))
      · refine ih (b + 1) S hRS hA hI (by omega) (fun x hx => ?_) (by omega)
        rw [hF x hx, stp x]
        rcases he with he | he
        · rw [he.2 x, show k = 0 by omega]
          show _ + (en (hJ s) b.toNat (x : Int) - en (hJ s) b.toNat (x : Int)) = _
          omega
        · rw [if_pos he.1, enf_end (by show gA s 75 b.toNat ≤ k; omega)]; omega
      · rcases he with he | he
        · omega
        have hy := hY.2.1 b.toNat (by omega) he.1 he.2.1
        have hv := hy.2 k.toNat (by omega)
        refine wp_bn (w_x8_slot_v2 hRS) (fun r21 _ h21 => ?_)
        refine wp_rdIn (by omega) (fun y22 e22 => ?_)
        rw [hA 77 (by decide), show r21.toNat = 6 * b.toNat + k.toNat by omega] at e22
        rw [e22] at hv
        refine wp_rdIn (by omega) (fun y23 e23 => ?_)
        have f1 := hF y22.toNat (by omega)
        rw [e23] at f1
        have a1 : rr (gA s 78) ((y22.toNat : Nat) : Int) ≤ 8 := by
          have := sm_bd (n := 8) (c := 1) (f := fun v : Nat => if gA s 78 v = ((y22.toNat : Nat) : Int) then (1 : Int) else 0) (fun v _ => by split <;> omega)
          unfold rr; omega
        have a2 := rr_nn (gA s 78) ((y22.toNat : Nat) : Int)
        have a3 : sm b.toNat (fun p => if 0 < gA s 72 p then en (hJ s) p ((y22.toNat : Nat) : Int) else 0) ≤ ((b.toNat : Nat) : Int) * 6 := sm_bd (fun p _ => by
          show (if 0 < gA s 72 p then en (hJ s) p ((y22.toNat : Nat) : Int) else 0) ≤ 6
          split
          · exact en_le _ _ _
          · omega)
        have a4 : 0 ≤ sm b.toNat (fun p => if 0 < gA s 72 p then en (hJ s) p ((y22.toNat : Nat) : Int) else 0) := sm_nn (fun p _ => by
          show 0 ≤ (if 0 < gA s 72 p then en (hJ s) p ((y22.toNat : Nat) : Int) else 0)
          split
          · exact en_nn _ _ _
          · omega)
        have a5 := en_le (hJ s) b.toNat ((y22.toNat : Nat) : Int)
        have a6 := en_nn (hJ s) b.toNat ((y22.toNat : Nat) : Int)
        have a7 := enf_nn (hJ s) b.toNat k ((y22.toNat : Nat) : Int)
        have a8 : enf (hJ s) b.toNat k ((y22.toNat : Nat) : Int) ≤ 6 := by
          unfold enf
          split
          · have := sm_bd (n := 6) (c := 1) (f := fun j : Nat => if k ≤ (j : Int) ∧ (j : Int) < (hJ s).2.1 b.toNat ∧ (hJ s).2.2 b.toNat j = ((y22.toNat : Nat) : Int) then (1 : Int) else 0) (fun j _ => by split <;> omega)
            omega
          · omega
        refine wp_inb (by omega) (wp_stn (fun s25 e25 => ?_))
        have hR25 : Rg s25 := e25 ▸ Rg.uAu hRS (by show (-2147483648 : Int) ≤ y23 + 1 ∧ y23 + 1 ≤ 2147483647; omega)
        have g20 : gA s25 20 = upZ (gA S 20) y22.toNat (y23 + 1) := q_AA e25
        refine ihm e (k + 1) s25 hR25 (fun k' hk' => (q_Aa e25 hk').trans (hA k' hk')) ((q_Ai e25).trans hI) (Or.inr he) (by omega) (fun x hx => ?_) (by omega)
        have st := enf_step (h := hJ s) (p := b.toNat) (k := k.toNat) (x := (x : Int)) he.2.1 (by show ((k.toNat : Nat) : Int) < gA s 75 b.toNat; omega) (by omega)
        rw [show ((k.toNat : Nat) : Int) = k by omega, show (hJ s).2.2 b.toNat k.toNat = y22 from e22] at st
        rw [g20]
        by_cases z : x = y22.toNat
        · rw [z, upZ_s]
          rw [z, if_pos (show y22 = ((y22.toNat : Nat) : Int) by omega)] at st
          omega
        · rw [upZ_n z, hF x hx]
          rw [if_neg (show ¬ y22 = (x : Int) by omega)] at st
          omega
    have base : ∀ x : Nat, (x : Int) < gI s 1420 → gA S 20 x = rr (gA s 78) (x : Int) + sm b.toNat (fun p => if 0 < gA s 72 p then en (hJ s) p (x : Int) else 0) + (en (hJ s) b.toNat (x : Int) - enf (hJ s) b.toNat 0 (x : Int)) := fun x hx => by
      rw [hF x hx]
      show _ = _ + (en (hJ s) b.toNat (x : Int) - en (hJ s) b.toNat (x : Int))
      omega
    refine wp_rdIn (by omega) (fun y34 e34 => ?_)
    have r34 := hRS.2.1 72 b.toNat (by show _ < 48; omega)
    rw [e34] at r34
    have r34' : (-1 : Int) ≤ y34 ∧ y34 ≤ 100000 := r34
    rw [hA 72 (by decide)] at e34
    refine wp_rg (by omega) (wp_if (fun c2 => L107 FU 0 0 S hRS hA hI (Or.inl ⟨rfl, fun x => if_neg (by omega)⟩) (by omega) base (by have := FU_big; omega)) (fun c2 => ?_))
    refine wp_rdIn (by omega) (fun y37 e37 => ?_)
    have r37 := hRS.2.1 74 b.toNat (by show _ < 48; omega)
    rw [e37] at r37
    have r37' : (-1 : Int) ≤ y37 ∧ y37 ≤ 1000 := r37
    rw [hA 74 (by decide)] at e37
    refine wp_rg (by omega) (wp_if (fun c3 => L107 FU 0 0 S hRS hA hI (Or.inl ⟨rfl, fun x => by rw [if_pos (by omega), en_leaf (by show gA s 74 b.toNat ≤ 0; omega)]⟩) (by omega) base (by have := FU_big; omega)) (fun c3 => ?_))
    refine wp_rdIn (by omega) (fun y40 e40 => ?_)
    rw [hA 75 (by decide)] at e40
    have hy := (hY.2.1 b.toNat (by omega) (by omega) (by omega)).1
    exact L107 FU y40 0 S hRS hA hI (Or.inr ⟨by omega, by omega, e40.symm⟩) (by omega) base (by have := FU_big; omega)
  have L29 : ∀ (n : Nat) (v : Int) (S : MS), Rg S → (∀ k, k ≠ 20 → gA S k = gA s k) → gI S 1420 = gI s 1420 → (0 ≤ v ∧ v ≤ 8) → (∀ x : Nat, (x : Int) < gI s 1420 → gA S 20 x = sm v.toNat (fun w => if gA s 78 w = (x : Int) then 1 else 0)) → 8 - v < (n : Int) → wp (m_x4_refsAre_L29 n v S) (fun q => Rg q.2 ∧ ((q.1 = 0 ∧ ∃ x : Nat, (x : Int) < gI s 1420 ∧ gA s 72 x ≠ rf (hJ s) (gA s 72) (gA s 78) (x : Int)) ∨ (q.1 = 1 ∧ ∀ x : Nat, (x : Int) < gI s 1420 → gA s 72 x = rf (hJ s) (gA s 72) (gA s 78) (x : Int)))) := by
    refine fr_ind (fun v S hRS hA hI hv hF hm => by exfalso; omega) (fun n ih v S hRS hA hI hv hF hm => ?_)
    show wp (m_x4_refsAre_b29 (m_x4_refsAre_L29 n) v S) _
    unfold m_x4_refsAre_b29 m_x4_refsAre_J56
    refine wp_rg (by omega) (wp_if (fun c1 => ?_) (fun c1 => ?_))
    · refine L65 FU 0 S hRS hA hI (by omega) (fun x hx => ?_) (by have := FU_big; omega)
      rw [hF x hx, show v.toNat = 8 by omega]
      show rr (gA s 78) (x : Int) = rr (gA s 78) (x : Int) + 0
      omega
    have stp : ∀ x : Nat, sm (v + 1).toNat (fun w => if gA s 78 w = (x : Int) then (1 : Int) else 0) = sm v.toNat (fun w => if gA s 78 w = (x : Int) then 1 else 0) + (if gA s 78 v.toNat = (x : Int) then 1 else 0) := fun x => by
      rw [show (v + 1).toNat = v.toNat + 1 by omega]; rfl
    have ro := hY.2.2 v.toNat (by omega)
    refine wp_rdIn (by omega) (fun y47 e47 => ?_)
    have r47 := hRS.2.1 78 v.toNat (by show _ < 8; omega)
    rw [e47] at r47
    have r47' : (-2 : Int) ≤ y47 ∧ y47 ≤ 253 := r47
    rw [hA 78 (by decide)] at e47
    rw [e47] at ro stp
    refine wp_rg (by omega) (wp_if (fun c2 => ?_) (fun c2 => ?_))
    · refine ih (v + 1) S hRS hA hI (by omega) (fun x hx => ?_) (by omega)
      rw [hF x hx, stp x, if_neg (by omega)]; omega
    refine wp_rdIn (by omega) (fun y50 e50 => ?_)
    rw [hA 78 (by decide), e47] at e50
    have y50e : y50 = y47 := e50.symm
    rw [y50e]
    refine wp_rdIn (by omega) (fun y51 e51 => ?_)
    have f1 := hF y47.toNat (by omega)
    rw [e51] at f1
    have a1 : sm v.toNat (fun w => if gA s 78 w = ((y47.toNat : Nat) : Int) then (1 : Int) else 0) ≤ ((v.toNat : Nat) : Int) * 1 := sm_bd (fun w _ => by
      show (if gA s 78 w = ((y47.toNat : Nat) : Int) then (1 : Int) else 0) ≤ 1
      split <;> omega)
    have a2 : 0 ≤ sm v.toNat (fun w => if gA s 78 w = ((y47.toNat : Nat) : Int) then (1 : Int) else 0) := sm_nn (fun w _ => by
      show 0 ≤ (if gA s 78 w = ((y47.toNat : Nat) : Int) then (1 : Int) else 0)
      split <;> omega)
    refine wp_inb (by omega) (wp_stn (fun s53 e53 => ?_))
    have hR53 : Rg s53 := e53 ▸ Rg.uAu hRS (by show (-2147483648 : Int) ≤ y51 + 1 ∧ y51 + 1 ≤ 2147483647; omega)
    refine ih (v + 1) s53 hR53 (fun k hk => (q_Aa e53 hk).trans (hA k hk)) ((q_Ai e53).trans hI) (by omega) (fun x hx => ?_) (by omega)
    rw [q_AA e53, stp x]
    by_cases z : x = y47.toNat
    · rw [z, upZ_s, if_pos (show y47 = ((y47.toNat : Nat) : Int) by omega), f1]
    · rw [upZ_n z, hF x hx, if_neg (show ¬ y47 = (x : Int) by omega)]; omega
  have L3 : ∀ (n : Nat) (i : Int) (S : MS), Rg S → (∀ k, k ≠ 20 → gA S k = gA s k) → gI S 1420 = gI s 1420 → (0 ≤ i ∧ i ≤ gI s 1420) → (∀ x : Nat, (x : Int) < i → gA S 20 x = 0) → gI s 1420 - i < (n : Int) → wp (m_x4_refsAre_L3 n i S) (fun q => Rg q.2 ∧ ((q.1 = 0 ∧ ∃ x : Nat, (x : Int) < gI s 1420 ∧ gA s 72 x ≠ rf (hJ s) (gA s 72) (gA s 78) (x : Int)) ∨ (q.1 = 1 ∧ ∀ x : Nat, (x : Int) < gI s 1420 → gA s 72 x = rf (hJ s) (gA s 72) (gA s 78) (x : Int)))) := by
    refine fr_ind (fun i S hRS hA hI hi hF hm => by exfalso; omega) (fun n ih i S hRS hA hI hi hF hm => ?_)
    show wp (m_x4_refsAre_b3 (m_x4_refsAre_L3 n) i S) _
    unfold m_x4_refsAre_b3
    refine wp_rg (by omega) (wp_rg (by omega) (wp_if (fun c1 => ?_) (fun c1 => ?_)))
    · exact L29 FU 0 S hRS hA hI (by omega) (fun x hx => hF x (by omega)) (by have := FU_big; omega)
    · refine wp_inb (by omega) (wp_stn (fun s60 e60 => ?_))
      have hR60 : Rg s60 := e60 ▸ Rg.uAu hRS (by show (-2147483648 : Int) ≤ 0 ∧ (0 : Int) ≤ 2147483647; omega)
      refine ih (i + 1) s60 hR60 (fun k hk => (q_Aa e60 hk).trans (hA k hk)) ((q_Ai e60).trans hI) (by omega) (fun x hx => ?_) (by omega)
      rw [q_AA e60]
      by_cases z : x = i.toNat
      · rw [z, upZ_s]
      · rw [upZ_n z]; exact hF x (by omega)
  exact L3 FU 0 s hR (fun _ _ => rfl) rfl (by omega) (fun x hx => absurd hx (by omega)) (by have := FU_big; omega)
set_option maxHeartbeats 1000000 in
theorem wc_refsAre_v2 {s : MS} (hR : Rg s) (hY : HY s 73 79) : wp (m_x4_refsAre_v2 s) (fun q => Rg q.2 ∧ ((q.1 = 0 ∧ ∃ x : Nat, (x : Int) < gI s 1420 ∧ gA s 73 x ≠ rf (hJ s) (gA s 73) (gA s 79) (x : Int)) ∨ (q.1 = 1 ∧ ∀ x : Nat, (x : Int) < gI s 1420 → gA s 73 x = rf (hJ s) (gA s 73) (gA s 79) (x : Int)))) := by
  have n48 : (0 : Int) ≤ gI s 1420 ∧ gI s 1420 ≤ 48 := hR.1 1420
  have ks : ∀ S : MS, (∀ k, k ≠ 20 → gA S k = gA s k) → (∀ k, gI S k = gI s k) → True := fun _ _ _ => trivial
  have L151 : ∀ (n : Nat) (i : Int) (S : MS), Rg S → (∀ k, k ≠ 20 → gA S k = gA s k) → gI S 1420 = gI s 1420 → (0 ≤ i ∧ i ≤ gI s 1420) → (∀ x : Nat, (x : Int) < gI s 1420 → gA S 20 x = rf (hJ s) (gA s 73) (gA s 79) (x : Int)) → (∀ x : Nat, (x : Int) < i → gA s 73 x = rf (hJ s) (gA s 73) (gA s 79) (x : Int)) → gI s 1420 - i < (n : Int) → wp (m_x4_refsAre_v2_L151 n i S) (fun q => Rg q.2 ∧ ((q.1 = 0 ∧ ∃ x : Nat, (x : Int) < gI s 1420 ∧ gA s 73 x ≠ rf (hJ s) (gA s 73) (gA s 79) (x : Int)) ∨ (q.1 = 1 ∧ ∀ x : Nat, (x : Int) < gI s 1420 → gA s 73 x = rf (hJ s) (gA s 73) (gA s 79) (x : Int)))) := by
    refine fr_ind (fun i S hRS hA hI hi hF hG hm => by exfalso; omega) (fun n ih i S hRS hA hI hi hF hG hm => ?_)
    show wp (m_x4_refsAre_v2_b151 (m_x4_refsAre_v2_L151 n) i S) _
    unfold m_x4_refsAre_v2_b151
    refine wp_rg (by omega) (wp_rg (by omega) (wp_if (fun c1 => wp_some ⟨hRS, Or.inr ⟨rfl, fun x hx => hG x (by omega)⟩⟩) (fun c1 => ?_)))
    refine wp_rdIn (by omega) (fun y6 e6 => ?_)
    refine wp_rdIn (by omega) (fun y7 e7 => ?_)
    have rl := rf_le (hJ s) (gA s 73) (gA s 79) ((i.toNat : Nat) : Int)
    have rn := rf_nn (hJ s) (gA s 73) (gA s 79) ((i.toNat : Nat) : Int)
    rw [hF i.toNat (by omega)] at e6
    have r7 := hRS.2.1 73 i.toNat (by show _ < 48; omega)
    rw [e7] at r7
    have r7' : (-1 : Int) ≤ y7 ∧ y7 ≤ 100000 := r7
    rw [hA 73 (by decide)] at e7
    refine wp_rg (by omega) (wp_rg (by omega) (wp_if (fun c2 => ?_) (fun c2 => wp_some ⟨hRS, Or.inl ⟨rfl, i.toNat, by omega, fun z => c2 (by rw [← e6, ← e7]; exact z.symm)⟩⟩)))
    refine ih (i + 1) S hRS hA hI (by omega) hF (fun x hx => ?_) (by omega)
    by_cases z : x = i.toNat
    · rw [z, e6, e7, c2]
    · exact hG x (by omega)
  have L65 : ∀ (n : Nat) (b : Int) (S : MS), Rg S → (∀ k, k ≠ 20 → gA S k = gA s k) → gI S 1420 = gI s 1420 → (0 ≤ b ∧ b ≤ gI s 1420) → (∀ x : Nat, (x : Int) < gI s 1420 → gA S 20 x = rr (gA s 79) (x : Int) + sm b.toNat (fun p => if 0 < gA s 73 p then en (hJ s) p (x : Int) else 0)) → gI s 1420 - b < (n : Int) → wp (m_x4_refsAre_v2_L65 n b S) (fun q => Rg q.2 ∧ ((q.1 = 0 ∧ ∃ x : Nat, (x : Int) < gI s 1420 ∧ gA s 73 x ≠ rf (hJ s) (gA s 73) (gA s 79) (x : Int)) ∨ (q.1 = 1 ∧ ∀ x : Nat, (x : Int) < gI s 1420 → gA s 73 x = rf (hJ s) (gA s 73) (gA s 79) (x : Int)))) := by
    refine fr_ind (fun b S hRS hA hI hb hF hm => by exfalso; omega) (fun n ih b S hRS hA hI hb hF hm => ?_)
    show wp (m_x4_refsAre_v2_b65 (m_x4_refsAre_v2_L65 n) b S) _
    unfold m_x4_refsAre_v2_b65 m_x4_refsAre_v2_J101 m_x4_refsAre_v2_J102
    refine wp_rg (by omega) (wp_rg (by omega) (wp_if (fun c1 => ?_) (fun c1 => ?_)))
    · refine L151 FU 0 S hRS hA hI (by omega) (fun x hx => ?_) (fun x hx => absurd hx (by omega)) (by have := FU_big; omega)
      rw [hF x hx]
      unfold rf
      rw [sm_tail (a := b.toNat) (n := 48) (f := fun p => if 0 < gA s 73 p then en (hJ s) p (x : Int) else 0) (by omega) (fun p h1 h2 => if_neg (by rw [hY.1 p h2 (by omega)]; omega))]
    have stp : ∀ x : Nat, sm (b + 1).toNat (fun p => if 0 < gA s 73 p then en (hJ s) p (x : Int) else 0) = sm b.toNat (fun p => if 0 < gA s 73 p then en (hJ s) p (x : Int) else 0) + (if 0 < gA s 73 b.toNat then en (hJ s) b.toNat (x : Int) else 0) := fun x => by
      rw [show (b + 1).toNat = b.toNat + 1 by omega]; rfl
    have L107 : ∀ (m : Nat) (e k : Int) (S : MS), Rg S → (∀ k, k ≠ 20 → gA S k = gA s k) → gI S 1420 = gI s 1420 → ((e = 0 ∧ ∀ x : Nat, (if 0 < gA s 73 b.toNat then en (hJ s) b.toNat (x : Int) else 0) = 0) ∨ (0 < gA s 73 b.toNat ∧ 0 < gA s 74 b.toNat ∧ e = gA s 75 b.toNat)) → (0 ≤ k ∧ k ≤ e) → (∀ x : Nat, (x : Int) < gI s 1420 → gA S 20 x = rr (gA s 79) (x : Int) + sm b.toNat (fun p => if 0 < gA s 73 p then en (hJ s) p (x : Int) else 0) + (en (hJ s) b.toNat (x : Int) - enf (hJ s) b.toNat k (x : Int))) → e - k < (m : Int) → wp (m_x4_refsAre_v2_L107 (m_x4_refsAre_v2_L65 n) m b e k S) (fun q => Rg q.2 ∧ ((q.1 = 0 ∧ ∃ x : Nat, (x : Int) < gI s 1420 ∧ gA s 73 x ≠ rf (hJ s) (gA s 73) (gA s 79) (x : Int)) ∨ (q.1 = 1 ∧ ∀ x : Nat, (x : Int) < gI s 1420 → gA s 73 x = rf (hJ s) (gA s 73) (gA s 79) (x : Int)))) := by
      refine fr_ind (fun e k S hRS hA hI he hk hF hm => by exfalso; omega) (fun m ihm e k S hRS hA hI he hk hF hm2 => ?_)
      show wp (m_x4_refsAre_v2_b107 (m_x4_refsAre_v2_L65 n) (m_x4_refsAre_v2_L107 (m_x4_refsAre_v2_L65 n) m) b e k S) _
      unfold m_x4_refsAre_v2_b107
      have e6 : 0 ≤ e ∧ e ≤ 6 := by
        rcases he with he | he
        · omega
        · have := (hY.2.1 b.toNat (by omega) he.1 he.2.1).1; omega
      refine wp_rg (by omega) (wp_rg (by omega) (wp_if (fun c2 => ?_) (fun c2 => ?_)))
      · refine ih (b + 1) S hRS hA hI (by omega) (fun x hx => ?_) (by omega)
        rw [hF x hx, stp x]
        rcases he with he | he
        · rw [he.2 x, show k = 0 by omega]
          show _ + (en (hJ s) b.toNat (x : Int) - en (hJ s) b.toNat (x : Int)) = _
          omega
        · rw [if_pos he.1, enf_end (by show gA s 75 b.toNat ≤ k; omega)]; omega
      · rcases he with he | he
        · omega
        have hy := hY.2.1 b.toNat (by omega) he.1 he.2.1
        have hv := hy.2 k.toNat (by omega)
        refine wp_bn (w_x8_slot_v2 hRS) (fun r21 _ h21 => ?_)
        refine wp_rdIn (by omega) (fun y22 e22 => ?_)
        rw [hA 77 (by decide), show r21.toNat = 6 * b.toNat + k.toNat by omega] at e22
        rw [e22] at hv
        refine wp_rdIn (by omega) (fun y23 e23 => ?_)
        have f1 := hF y22.toNat (by omega)
        rw [e23] at f1
        have a1 : rr (gA s 79) ((y22.toNat : Nat) : Int) ≤ 8 := by
          have := sm_bd (n := 8) (c := 1) (f := fun v : Nat => if gA s 79 v = ((y22.toNat : Nat) : Int) then (1 : Int) else 0) (fun v _ => by split <;> omega)
          unfold rr; omega
        have a2 := rr_nn (gA s 79) ((y22.toNat : Nat) : Int)
        have a3 : sm b.toNat (fun p => if 0 < gA s 73 p then en (hJ s) p ((y22.toNat : Nat) : Int) else 0) ≤ ((b.toNat : Nat) : Int) * 6 := sm_bd (fun p _ => by
          show (if 0 < gA s 73 p then en (hJ s) p ((y22.toNat : Nat) : Int) else 0) ≤ 6
          split
          · exact en_le _ _ _
          · omega)
        have a4 : 0 ≤ sm b.toNat (fun p => if 0 < gA s 73 p then en (hJ s) p ((y22.toNat : Nat) : Int) else 0) := sm_nn (fun p _ => by
          show 0 ≤ (if 0 < gA s 73 p then en (hJ s) p ((y22.toNat : Nat) : Int) else 0)
          split
          · exact en_nn _ _ _
          · omega)
        have a5 := en_le (hJ s) b.toNat ((y22.toNat : Nat) : Int)
        have a6 := en_nn (hJ s) b.toNat ((y22.toNat : Nat) : Int)
        have a7 := enf_nn (hJ s) b.toNat k ((y22.toNat : Nat) : Int)
        have a8 : enf (hJ s) b.toNat k ((y22.toNat : Nat) : Int) ≤ 6 := by
          unfold enf
          split
          · have := sm_bd (n := 6) (c := 1) (f := fun j : Nat => if k ≤ (j : Int) ∧ (j : Int) < (hJ s).2.1 b.toNat ∧ (hJ s).2.2 b.toNat j = ((y22.toNat : Nat) : Int) then (1 : Int) else 0) (fun j _ => by split <;> omega)
            omega
          · omega
        refine wp_inb (by omega) (wp_stn (fun s25 e25 => ?_))
        have hR25 : Rg s25 := e25 ▸ Rg.uAu hRS (by show (-2147483648 : Int) ≤ y23 + 1 ∧ y23 + 1 ≤ 2147483647; omega)
        have g20 : gA s25 20 = upZ (gA S 20) y22.toNat (y23 + 1) := q_AA e25
        refine ihm e (k + 1) s25 hR25 (fun k' hk' => (q_Aa e25 hk').trans (hA k' hk')) ((q_Ai e25).trans hI) (Or.inr he) (by omega) (fun x hx => ?_) (by omega)
        have st := enf_step (h := hJ s) (p := b.toNat) (k := k.toNat) (x := (x : Int)) he.2.1 (by show ((k.toNat : Nat) : Int) < gA s 75 b.toNat; omega) (by omega)
        rw [show ((k.toNat : Nat) : Int) = k by omega, show (hJ s).2.2 b.toNat k.toNat = y22 from e22] at st
        rw [g20]
        by_cases z : x = y22.toNat
        · rw [z, upZ_s]
          rw [z, if_pos (show y22 = ((y22.toNat : Nat) : Int) by omega)] at st
          omega
        · rw [upZ_n z, hF x hx]
          rw [if_neg (show ¬ y22 = (x : Int) by omega)] at st
          omega
    have base : ∀ x : Nat, (x : Int) < gI s 1420 → gA S 20 x = rr (gA s 79) (x : Int) + sm b.toNat (fun p => if 0 < gA s 73 p then en (hJ s) p (x : Int) else 0) + (en (hJ s) b.toNat (x : Int) - enf (hJ s) b.toNat 0 (x : Int)) := fun x hx => by
      rw [hF x hx]
      show _ = _ + (en (hJ s) b.toNat (x : Int) - en (hJ s) b.toNat (x : Int))
      omega
    refine wp_rdIn (by omega) (fun y34 e34 => ?_)
    have r34 := hRS.2.1 73 b.toNat (by show _ < 48; omega)
    rw [e34] at r34
    have r34' : (-1 : Int) ≤ y34 ∧ y34 ≤ 100000 := r34
    rw [hA 73 (by decide)] at e34
    refine wp_rg (by omega) (wp_if (fun c2 => L107 FU 0 0 S hRS hA hI (Or.inl ⟨rfl, fun x => if_neg (by omega)⟩) (by omega) base (by have := FU_big; omega)) (fun c2 => ?_))
    refine wp_rdIn (by omega) (fun y37 e37 => ?_)
    have r37 := hRS.2.1 74 b.toNat (by show _ < 48; omega)
    rw [e37] at r37
    have r37' : (-1 : Int) ≤ y37 ∧ y37 ≤ 1000 := r37
    rw [hA 74 (by decide)] at e37
    refine wp_rg (by omega) (wp_if (fun c3 => L107 FU 0 0 S hRS hA hI (Or.inl ⟨rfl, fun x => by rw [if_pos (by omega), en_leaf (by show gA s 74 b.toNat ≤ 0; omega)]⟩) (by omega) base (by have := FU_big; omega)) (fun c3 => ?_))
    refine wp_rdIn (by omega) (fun y40 e40 => ?_)
    rw [hA 75 (by decide)] at e40
    have hy := (hY.2.1 b.toNat (by omega) (by omega) (by omega)).1
    exact L107 FU y40 0 S hRS hA hI (Or.inr ⟨by omega, by omega, e40.symm⟩) (by omega) base (by have := FU_big; omega)
  have L29 : ∀ (n : Nat) (v : Int) (S : MS), Rg S → (∀ k, k ≠ 20 → gA S k = gA s k) → gI S 1420 = gI s 1420 → (0 ≤ v ∧ v ≤ 8) → (∀ x : Nat, (x : Int) < gI s 1420 → gA S 20 x = sm v.toNat (fun w => if gA s 79 w = (x : Int) then 1 else 0)) → 8 - v < (n : Int) → wp (m_x4_refsAre_v2_L29 n v S) (fun q => Rg q.2 ∧ ((q.1 = 0 ∧ ∃ x : Nat, (x : Int) < gI s 1420 ∧ gA s 73 x ≠ rf (hJ s) (gA s 73) (gA s 79) (x : Int)) ∨ (q.1 = 1 ∧ ∀ x : Nat, (x : Int) < gI s 1420 → gA s 73 x = rf (hJ s) (gA s 73) (gA s 79) (x : Int)))) := by
    refine fr_ind (fun v S hRS hA hI hv hF hm => by exfalso; omega) (fun n ih v S hRS hA hI hv hF hm => ?_)
    show wp (m_x4_refsAre_v2_b29 (m_x4_refsAre_v2_L29 n) v S) _
    unfold m_x4_refsAre_v2_b29 m_x4_refsAre_v2_J56
    refine wp_rg (by omega) (wp_if (fun c1 => ?_) (fun c1 => ?_))
    · refine L65 FU 0 S hRS hA hI (by omega) (fun x hx => ?_) (by have := FU_big; omega)
      rw [hF x hx, show v.toNat = 8 by omega]
      show rr (gA s 79) (x : Int) = rr (gA s 79) (x : Int) + 0
      omega
    have stp : ∀ x : Nat, sm (v + 1).toNat (fun w => if gA s 79 w = (x : Int) then (1 : Int) else 0) = sm v.toNat (fun w => if gA s 79 w = (x : Int) then 1 else 0) + (if gA s 79 v.toNat = (x : Int) then 1 else 0) := fun x => by
      rw [show (v + 1).toNat = v.toNat + 1 by omega]; rfl
    have ro := hY.2.2 v.toNat (by omega)
    refine wp_rdIn (by omega) (fun y47 e47 => ?_)
    have r47 := hRS.2.1 79 v.toNat (by show _ < 8; omega)
    rw [e47] at r47
    have r47' : (-2 : Int) ≤ y47 ∧ y47 ≤ 253 := r47
    rw [hA 79 (by decide)] at e47
    rw [e47] at ro stp
    refine wp_rg (by omega) (wp_if (fun c2 => ?_) (fun c2 => ?_))
    · refine ih (v + 1) S hRS hA hI (by omega) (fun x hx => ?_) (by omega)
      rw [hF x hx, stp x, if_neg (by omega)]; omega
    refine wp_rdIn (by omega) (fun y50 e50 => ?_)
    rw [hA 79 (by decide), e47] at e50
    have y50e : y50 = y47 := e50.symm
    rw [y50e]
    refine wp_rdIn (by omega) (fun y51 e51 => ?_)
    have f1 := hF y47.toNat (by omega)
    rw [e51] at f1
    have a1 : sm v.toNat (fun w => if gA s 79 w = ((y47.toNat : Nat) : Int) then (1 : Int) else 0) ≤ ((v.toNat : Nat) : Int) * 1 := sm_bd (fun w _ => by
      show (if gA s 79 w = ((y47.toNat : Nat) : Int) then (1 : Int) else 0) ≤ 1
      split <;> omega)
    have a2 : 0 ≤ sm v.toNat (fun w => if gA s 79 w = ((y47.toNat : Nat) : Int) then (1 : Int) else 0) := sm_nn (fun w _ => by
      show 0 ≤ (if gA s 79 w = ((y47.toNat : Nat) : Int) then (1 : Int) else 0)
      split <;> omega)
    refine wp_inb (by omega) (wp_stn (fun s53 e53 => ?_))
    have hR53 : Rg s53 := e53 ▸ Rg.uAu hRS (by show (-2147483648 : Int) ≤ y51 + 1 ∧ y51 + 1 ≤ 2147483647; omega)
    refine ih (v + 1) s53 hR53 (fun k hk => (q_Aa e53 hk).trans (hA k hk)) ((q_Ai e53).trans hI) (by omega) (fun x hx => ?_) (by omega)
    rw [q_AA e53, stp x]
    by_cases z : x = y47.toNat
    · rw [z, upZ_s, if_pos (show y47 = ((y47.toNat : Nat) : Int) by omega), f1]
    · rw [upZ_n z, hF x hx, if_neg (show ¬ y47 = (x : Int) by omega)]; omega
  have L3 : ∀ (n : Nat) (i : Int) (S : MS), Rg S → (∀ k, k ≠ 20 → gA S k = gA s k) → gI S 1420 = gI s 1420 → (0 ≤ i ∧ i ≤ gI s 1420) → (∀ x : Nat, (x : Int) < i → gA S 20 x = 0) → gI s 1420 - i < (n : Int) → wp (m_x4_refsAre_v2_L3 n i S) (fun q => Rg q.2 ∧ ((q.1 = 0 ∧ ∃ x : Nat, (x : Int) < gI s 1420 ∧ gA s 73 x ≠ rf (hJ s) (gA s 73) (gA s 79) (x : Int)) ∨ (q.1 = 1 ∧ ∀ x : Nat, (x : Int) < gI s 1420 → gA s 73 x = rf (hJ s) (gA s 73) (gA s 79) (x : Int)))) := by
    refine fr_ind (fun i S hRS hA hI hi hF hm => by exfalso; omega) (fun n ih i S hRS hA hI hi hF hm => ?_)
    show wp (m_x4_refsAre_v2_b3 (m_x4_refsAre_v2_L3 n) i S) _
    unfold m_x4_refsAre_v2_b3
    refine wp_rg (by omega) (wp_rg (by omega) (wp_if (fun c1 => ?_) (fun c1 => ?_)))
    · exact L29 FU 0 S hRS hA hI (by omega) (fun x hx => hF x (by omega)) (by have := FU_big; omega)
    · refine wp_inb (by omega) (wp_stn (fun s60 e60 => ?_))
      have hR60 : Rg s60 := e60 ▸ Rg.uAu hRS (by show (-2147483648 : Int) ≤ 0 ∧ (0 : Int) ≤ 2147483647; omega)
      refine ih (i + 1) s60 hR60 (fun k hk => (q_Aa e60 hk).trans (hA k hk)) ((q_Ai e60).trans hI) (by omega) (fun x hx => ?_) (by omega)
      rw [q_AA e60]
      by_cases z : x = i.toNat
      · rw [z, upZ_s]
      · rw [upZ_n z]; exact hF x (by omega)
  exact L3 FU 0 s hR (fun _ _ => rfl) rfl (by omega) (fun x hx => absurd hx (by omega)) (by have := FU_big; omega)
/-! ===== counts of references on the other side, with what a refusal says ===== -/
set_option maxHeartbeats 2000000 in
theorem mc_areCounts {p0 : Int} {s : MS} {E : Int} (hRs : Rr s) (H : IG (gA s 113) (gA s 39 5) E) (hp : p0 = 0 ∨ p0 = 1) : wp (m_x12_areCounts p0 s) (fun q => Rr q.2 ∧ F_x12_areCounts s q.2 ∧ ((q.1 = 0 ∧ ¬ CQ (gA s 113) (gA s 39 5) p0.toNat) ∨ (q.1 = 1 ∧ CQ (gA s 113) (gA s 39 5) p0.toNat))) := by
  obtain ⟨f, hf⟩ : ∃ f, f = gA s 113 := ⟨_, rfl⟩
  obtain ⟨N, hN⟩ : ∃ N, N = gA s 39 5 := ⟨_, rfl⟩
  obtain ⟨w, hw⟩ : ∃ w, w = p0.toNat := ⟨_, rfl⟩
  rw [← hf, ← hN] at H
  rw [← hf, ← hN, ← hw]
  have hw2 : w < 2 := by omega
  have n48 := H.1
  have hE := H.2.1
  have key : wp (m_x12_areCounts p0 s) (fun q => Rr q.2 ∧ ((q.1 = 0 ∧ ¬ CQ f N w) ∨ (q.1 = 1 ∧ CQ f N w))) := by
    have L153 : ∀ (n : Nat) (x : Int) (S : MS), Rr S → gA S 113 = f → gA S 39 5 = N → RO N (rLa f w) → (0 ≤ x ∧ x ≤ N) → BD (gA S 115) 400 → (∀ y : Nat, y < 48 → gA S 115 y = rf (hLa f) (cLa f w) (rLa f w) (y : Int)) → (∀ y : Nat, (y : Int) < x → rf (hLa f) (cLa f w) (rLa f w) (y : Int) = cLa f w y) → 48 - x < (n : Int) → wp (m_x12_areCounts_L153 n p0 x S) (fun q => Rr q.2 ∧ ((q.1 = 0 ∧ ¬ CQ f N w) ∨ (q.1 = 1 ∧ CQ f N w))) := by
      refine fr_ind (fun x S hRS h113 h39 hro hx hB h115 hdone hm => by exfalso; omega) (fun n ih x S hRS h113 h39 hro hx hB h115 hdone hm => ?_)
      show wp (m_x12_areCounts_b153 (m_x12_areCounts_L153 n) p0 x S) _
      unfold m_x12_areCounts_b153
      refine wp_bn (w_x12_blockMany hRS) (fun r5 e5 h5 => ?_)
      have h5 : r5 = gA S 39 5 := h5
      rw [h39] at h5
      refine wp_rg (by omega) (wp_rg (by omega) (wp_if (fun c1 => wp_some ⟨hRS, Or.inr ⟨rfl, hro, fun y hy => ?_⟩⟩) (fun c1 => ?_)))
      · show cLa f w y - rf (hLa f) (cLa f w) (rLa f w) (y : Int) = 0
        by_cases z : (y : Int) < x
        · rw [hdone y z]; omega
        · rw [CQ_out H hw2 hro hy (by omega), (cLa_nn H hw2 hy).2.2.1 (by omega)]; rfl
      · refine wp_rdIn (by omega) (fun y9 e9 => ?_)
        refine wp_bn (ld_cnt hRS h113 (by omega) hp) (fun r11 e11 h11 => ?_)
        have b9 := hB x.toNat (by omega)
        rw [e9] at b9
        have v9 := h115 x.toNat (by omega)
        rw [e9] at v9
        have v11 : r11 = cLa f w x.toNat := by rw [h11.1, hw]
        refine wp_rg (by omega) (wp_rg h11.2 (wp_if (fun c2 => ?_) (fun c2 => wp_some ⟨hRS, Or.inl ⟨rfl, fun C => c2 (by have q := C.2 x.toNat (by omega); unfold df at q; omega)⟩⟩)))
        refine ih (x + 1) S hRS h113 h39 hro (by omega) hB h115 (fun y hy => ?_) (by omega)
        by_cases z : y = x.toNat
        · rw [z, ← v9, ← v11]; exact c2
        · exact hdone y (by omega)
    have L80 : ∀ (n : Nat) (x : Int) (S : MS), Rr S → gA S 113 = f → gA S 39 5 = N → RO N (rLa f w) → (0 ≤ x ∧ x ≤ N) → BD (gA S 115) (8 + 6 * x) → (∀ y : Nat, y < 48 → gA S 115 y = rr (rLa f w) (y : Int) + sm x.toNat (fun p => if 0 < cLa f w p then en (hLa f) p (y : Int) else 0)) → 48 - x < (n : Int) → wp (m_x12_areCounts_L80 n p0 x S) (fun q => Rr q.2 ∧ ((q.1 = 0 ∧ ¬ CQ f N w) ∨ (q.1 = 1 ∧ CQ f N w))) := by
      refine fr_ind (fun x S hRS h113 h39 hro hx hB h115 hm => by exfalso; omega) (fun n ih x S hRS h113 h39 hro hx hB h115 hm => ?_)
      show wp (m_x12_areCounts_b80 (m_x12_areCounts_L80 n) p0 x S) _
      unfold m_x12_areCounts_b80
      refine wp_bn (w_x12_blockMany hRS) (fun r36 e36 h36 => ?_)
      have h36 : r36 = gA S 39 5 := h36
      rw [h39] at h36
      refine wp_rg (by omega) (wp_rg (by omega) (wp_if (fun c1 => ?_) (fun c1 => ?_)))
      · refine L153 FU 0 S hRS h113 h39 hro (by omega) (BD_le hB (by omega)) (fun y hy => ?_) (fun y hy => by omega) (by have := FU_big; omega)
        rw [h115 y hy]
        unfold rf
        rw [sm_cut (n := x.toNat) (m := 48) (f := fun p => if 0 < cLa f w p then en (hLa f) p (y : Int) else 0) (by omega) (fun i h1 h2 => by
          have q := (cLa_nn H hw2 h2).2.2.1 (by omega)
          exact if_neg (by omega))]
      · have xb : x.toNat < 48 := by omega
        have cx := cLa_nn H hw2 xb
        have nxt : ∀ T : MS, Rr T → gA T 113 = f → gA T 39 5 = N → BD (gA T 115) (8 + 6 * (x + 1)) → (∀ y : Nat, y < 48 → gA T 115 y = rr (rLa f w) (y : Int) + sm x.toNat (fun p => if 0 < cLa f w p then en (hLa f) p (y : Int) else 0) + (if 0 < cLa f w x.toNat then en (hLa f) x.toNat (y : Int) else 0)) → wp (m_x12_areCounts_J145 (m_x12_areCounts_L80 n) p0 x T) (fun q => Rr q.2 ∧ ((q.1 = 0 ∧ ¬ CQ f N w) ∨ (q.1 = 1 ∧ CQ f N w))) := by
          intro T hRT t113 t39 tB t115
          unfold m_x12_areCounts_J145
          refine ih (x + 1) T hRT t113 t39 hro (by omega) tB (fun y hy => ?_) (by omega)
          rw [t115 y hy, show (x + 1).toNat = x.toNat + 1 by omega]
          show _ = rr (rLa f w) (y : Int) + (sm x.toNat (fun p => if 0 < cLa f w p then en (hLa f) p (y : Int) else 0) + (if 0 < cLa f w x.toNat then en (hLa f) x.toNat (y : Int) else 0))
          omega
        refine wp_bn (ld_cnt hRS h113 (by omega) hp) (fun r41 e41 h41 => ?_)
        have v41 : r41 = cLa f w x.toNat := by rw [h41.1, hw]
        refine wp_rg h41.2 (wp_if (fun c2 => ?_) (fun c2 => ?_))
        · refine nxt S hRS h113 h39 (BD_le hB (by omega)) (fun y hy => ?_)
          rw [h115 y hy, if_neg (by omega : ¬ 0 < cLa f w x.toNat)]; omega
        · refine wp_bn (ld_lev hRS h113 (by omega)) (fun r45 e45 h45 => ?_)
          have dx := cx.2.2.2 (by omega)
          have t := IG_there H xb dx
          refine wp_rg h45.2 (wp_if (fun c3 => ?_) (fun c3 => ?_))
          · refine nxt S hRS h113 h39 (BD_le hB (by omega)) (fun y hy => ?_)
            rw [h115 y hy, if_pos (by omega : 0 < cLa f w x.toNat), en_leaf (by have := h45.1; omega)]; omega
          · have hl : 0 < (hLa f).1 x.toNat := by have := h45.1; omega
            have L111 : ∀ (m : Nat) (k : Int) (T : MS), Rr T → gA T 113 = f → gA T 39 5 = N → (0 ≤ k ∧ k ≤ (hLa f).2.1 x.toNat) → BD (gA T 115) (8 + 6 * x + k) → (∀ y : Nat, y < 48 → gA T 115 y = rr (rLa f w) (y : Int) + sm x.toNat (fun p => if 0 < cLa f w p then en (hLa f) p (y : Int) else 0) + sm k.toNat (fun j => if (hLa f).2.2 x.toNat j = (y : Int) then 1 else 0)) → 6 - k < (m : Int) → wp (m_x12_areCounts_L111 (m_x12_areCounts_L80 n) m p0 x k T) (fun q => Rr q.2 ∧ ((q.1 = 0 ∧ ¬ CQ f N w) ∨ (q.1 = 1 ∧ CQ f N w))) := by
              refine fr_ind (fun k T hRT t113 t39 hk tB t115 hm2 => by exfalso; omega) (fun m ihm k T hRT t113 t39 hk tB t115 hm2 => ?_)
              show wp (m_x12_areCounts_b111 (m_x12_areCounts_L80 n) (m_x12_areCounts_L111 (m_x12_areCounts_L80 n) m) p0 x k T) _
              unfold m_x12_areCounts_b111
              refine wp_bn (ld_size hRT t113 (by omega)) (fun r26 e26 h26 => ?_)
              have v26 := h26.1
              refine wp_rg (by omega) (wp_rg h26.2 (wp_if (fun c4 => ?_) (fun c4 => ?_)))
              · refine nxt T hRT t113 t39 (BD_le tB (by omega)) (fun y hy => ?_)
                rw [t115 y hy, if_pos (by omega : 0 < cLa f w x.toNat), en_sm (h := hLa f) (p := x.toNat) (x := (y : Int)) (by omega), if_pos hl, show k.toNat = ((hLa f).2.1 x.toNat).toNat by omega]
              · refine wp_bn (ld_ent hRT t113 (by omega) (by omega)) (fun r31 e31 h31 => ?_)
                have kd := (IG_kid (k := k.toNat) H xb dx hl (by omega)).1
                have v31 := h31.1
                rw [← v31] at kd
                refine wp_rdIn (by omega) (fun y32 e32 => ?_)
                have b32 := tB r31.toNat (by omega)
                rw [e32] at b32
                refine wp_inb (by omega) (wp_stn (fun s34 e34 => ?_))
                have hR34 : Rr s34 := e34 ▸ Rr.uAu hRT (by show (-2147483648 : Int) ≤ y32 + 1 ∧ y32 + 1 ≤ 2147483647; omega)
                have u115 : gA s34 115 = upZ (gA T 115) r31.toNat (y32 + 1) := q_AA e34
                have u39 : gA s34 39 = gA T 39 := q_Aa e34 (by decide)
                refine ihm (k + 1) s34 hR34 ((q_Aa e34 (by decide)).trans t113) (by rw [u39]; exact t39) (by omega) ?_ (fun y hy => ?_) (by omega)
                · rw [u115]; exact BD_le (BD_up tB (by omega) e32) (by omega)
                · rw [u115, up1 t115 e32 kd.1 rfl y hy, show (k + 1).toNat = k.toNat + 1 by omega]
                  show _ = _ + (sm k.toNat (fun j => if (hLa f).2.2 x.toNat j = (y : Int) then 1 else 0) + (if (hLa f).2.2 x.toNat k.toNat = (y : Int) then 1 else 0))
                  rw [← v31]
                  omega
            refine L111 FU 0 S hRS h113 h39 (by omega) (BD_le hB (by omega)) (fun y hy => ?_) (by have := FU_big; omega)
            rw [h115 y hy]
            show _ = _ + (0 : Int)
            omega
    have L23 : ∀ (n : Nat) (v : Int) (S : MS), Rr S → gA S 113 = f → gA S 39 5 = N → (0 ≤ v ∧ v ≤ 8) → BD (gA S 115) v → (∀ u : Nat, (u : Int) < v → (0 ≤ rLa f w u ∧ rLa f w u < N) ∨ rLa f w u < 0 ∨ 254 ≤ rLa f w u) → (∀ y : Nat, y < 48 → gA S 115 y = sm v.toNat (fun u => if rLa f w u = (y : Int) then 1 else 0)) → 8 - v < (n : Int) → wp (m_x12_areCounts_L23 n p0 v S) (fun q => Rr q.2 ∧ ((q.1 = 0 ∧ ¬ CQ f N w) ∨ (q.1 = 1 ∧ CQ f N w))) := by
      refine fr_ind (fun v S hRS h113 h39 hv hB hro h115 hm => by exfalso; omega) (fun n ih v S hRS h113 h39 hv hB hro h115 hm => ?_)
      show wp (m_x12_areCounts_b23 (m_x12_areCounts_L23 n) p0 v S) _
      unfold m_x12_areCounts_b23
      refine wp_rg (by omega) (wp_if (fun c1 => ?_) (fun c1 => ?_))
      · refine L80 FU 0 S hRS h113 h39 (fun u hu => hro u (by omega)) (by omega) (BD_le hB (by omega)) (fun y hy => ?_) (by have := FU_big; omega)
        rw [h115 y hy, show v.toNat = 8 by omega]
        show rr (rLa f w) (y : Int) = rr (rLa f w) (y : Int) + (0 : Int)
        omega
      · refine wp_rdIn (by omega) (fun y56 e56 => ?_)
        have v56 : y56 = rLa f w v.toNat := by
          rw [← e56, h113]
          show _ = if v.toNat < 8 then f (8 * w + v.toNat) else 0
          rw [if_pos (by omega), show (8 * p0 + v).toNat = 8 * w + v.toNat by omega]
        have b56 : 0 ≤ y56 ∧ y56 ≤ 255 := by
          have q := H.2.2.2.2.2 (8 * w + v.toNat) (by omega)
          rw [v56]
          show 0 ≤ (if v.toNat < 8 then f (8 * w + v.toNat) else 0) ∧ (if v.toNat < 8 then f (8 * w + v.toNat) else 0) ≤ 255
          rw [if_pos (by omega)]; exact q
        have nxt : ∀ T : MS, Rr T → gA T 113 = f → gA T 39 5 = N → BD (gA T 115) (v + 1) → ((0 ≤ y56 ∧ y56 < N) ∨ y56 < 0 ∨ 254 ≤ y56) → (∀ y : Nat, y < 48 → gA T 115 y = sm v.toNat (fun u => if rLa f w u = (y : Int) then 1 else 0) + (if y56 = (y : Int) then 1 else 0)) → wp (m_x12_areCounts_J72 (m_x12_areCounts_L23 n) p0 v T) (fun q => Rr q.2 ∧ ((q.1 = 0 ∧ ¬ CQ f N w) ∨ (q.1 = 1 ∧ CQ f N w))) := by
          intro T hRT t113 t39 tB ho t115
          unfold m_x12_areCounts_J72
          refine ih (v + 1) T hRT t113 t39 (by omega) tB (fun u hu => ?_) (fun y hy => ?_) (by omega)
          · by_cases z : u = v.toNat
            · rw [z, ← v56]; exact ho
            · exact hro u (by omega)
          · rw [t115 y hy, v56, show (v + 1).toNat = v.toNat + 1 by omega]
            rfl
        refine wp_rg (by omega) (wp_if (fun c2 => ?_) (fun c2 => ?_))
        · refine wp_rg (by omega) (wp_bn (w_x12_isBlock hRS (by omega) (by rw [h39]; omega)) (fun r61 e61 h61 => ?_))
          have h61 : (r61 = 1 ∧ 0 ≤ y56 ∧ y56 < gA S 39 5) ∨ (r61 = 0 ∧ (y56 < 0 ∨ gA S 39 5 ≤ y56)) := h61
          rw [h39] at h61
          refine wp_rg (by omega) (wp_if (fun c3 => wp_some ⟨hRS, Or.inl ⟨rfl, fun C => by have q := C.1 v.toNat (by omega); rw [← v56] at q; omega⟩⟩) (fun c3 => ?_))
          refine wp_rdIn (by omega) (fun y64 e64 => ?_)
          have b64 := hB y56.toNat (by omega)
          rw [e64] at b64
          refine wp_inb (by omega) (wp_stn (fun s66 e66 => ?_))
          have hR66 : Rr s66 := e66 ▸ Rr.uAu hRS (by show (-2147483648 : Int) ≤ y64 + 1 ∧ y64 + 1 ≤ 2147483647; omega)
          have u115 : gA s66 115 = upZ (gA S 115) y56.toNat (y64 + 1) := q_AA e66
          have u39 : gA s66 39 = gA S 39 := q_Aa e66 (by decide)
          refine nxt s66 hR66 ((q_Aa e66 (by decide)).trans h113) (by rw [u39]; exact h39) ?_ (by omega) (fun y hy => ?_)
          · rw [u115]; exact BD_up hB (by omega) e64
          · rw [u115, up1 h115 e64 (by omega) rfl y hy]
        · refine nxt S hRS h113 h39 (BD_le hB (by omega)) (by omega) (fun y hy => ?_)
          rw [h115 y hy, if_neg (by omega : ¬ y56 = (y : Int))]; omega
    have L2 : ∀ (n : Nat) (x : Int) (S : MS), Rr S → gA S 113 = f → gA S 39 5 = N → (0 ≤ x ∧ x ≤ 48) → (∀ y : Nat, (y : Int) < x → gA S 115 y = 0) → 48 - x < (n : Int) → wp (m_x12_areCounts_L2 n p0 x S) (fun q => Rr q.2 ∧ ((q.1 = 0 ∧ ¬ CQ f N w) ∨ (q.1 = 1 ∧ CQ f N w))) := by
      refine fr_ind (fun x S hRS h113 h39 hx hz hm => by exfalso; omega) (fun n ih x S hRS h113 h39 hx hz hm => ?_)
      show wp (m_x12_areCounts_b2 (m_x12_areCounts_L2 n) p0 x S) _
      unfold m_x12_areCounts_b2
      refine wp_rg (by omega) (wp_if (fun c1 => ?_) (fun c1 => ?_))
      · refine L23 FU 0 S hRS h113 h39 (by omega) (fun y hy => by rw [hz y (by omega)]; omega) (fun u hu => by omega) (fun y hy => ?_) (by have := FU_big; omega)
        rw [hz y (by omega)]
        rfl
      · refine wp_inb (by omega) (wp_stn (fun s73 e73 => ?_))
        have hR73 : Rr s73 := e73 ▸ Rr.uAu hRS (by show (-2147483648 : Int) ≤ 0 ∧ (0 : Int) ≤ 2147483647; omega)
        have u115 : gA s73 115 = upZ (gA S 115) x.toNat 0 := q_AA e73
        have u39 : gA s73 39 = gA S 39 := q_Aa e73 (by decide)
        refine ih (x + 1) s73 hR73 ((q_Aa e73 (by decide)).trans h113) (by rw [u39]; exact h39) (by omega) (fun y hy => ?_) (by omega)
        rw [u115]
        by_cases z : y = x.toNat
        · rw [z, upZ_s]
        · rw [upZ_n z]; exact hz y (by omega)
    unfold m_x12_areCounts
    exact L2 FU 0 s hRs hf.symm hN.symm (by omega) (fun y hy => by omega) (by have := FU_big; omega)
  exact wp_eq key (fun o eo ho => ⟨ho.1, fr_x12_areCounts eo, ho.2⟩)
/-! ===== values and keys of an image, with what a refusal says ===== -/
theorem m_laid {p i : Int} {S : MS} : pc (m_x12_laidOf p i S) (fun r => r = gA S 113 (17 + 16 * p + i).toNat) := by
  unfold m_x12_laidOf
  exact pc_rdI (fun _ => pc_some rfl)
theorem m_blkMany {S : MS} : pc (m_x12_blockMany S) (fun r => r = gA S 39 5) := by
  unfold m_x12_blockMany
  exact pc_rdI (fun _ => pc_some rfl)
theorem m_isBlk {p : Int} {S : MS} : pc (m_x12_isBlock p S) (fun r => (r = 1 ∧ 0 ≤ p ∧ p < gA S 39 5) ∨ (r = 0 ∧ ¬ (0 ≤ p ∧ p < gA S 39 5))) := by
  unfold m_x12_isBlock
  refine pc_bq m_blkMany (fun r2 h2 => pc_rg (pc_bq m_isIn (fun r5 h5 => pc_bo (pc_some ?_))))
  rw [h2] at h5
  rcases h5 with ⟨a, b⟩ | ⟨a, b⟩
  · exact Or.inl ⟨a, by omega⟩
  · exact Or.inr ⟨a, by omega⟩
theorem m_vals0 {b : Nat} {S : MS} {f : Nat → Int} {N : Int} (h113 : gA S 113 = f) (h5 : gA S 39 5 = N) : ∀ (n k : Nat), pc (m_x12_areValues_L2 S n (b : Int) (k : Int)) (fun r => r = 0 → ∃ j : Nat, (j : Int) < f (20 + 16 * b) ∧ ¬ AV1 f N b j) := by
  refine fr_ind (fun _ => pc_none) (fun n ih k => ?_)
  show pc (m_x12_areValues_b2 S (m_x12_areValues_L2 S n) (b : Int) (k : Int)) _
  unfold m_x12_areValues_b2 m_x12_areValues_J88 m_x12_areValues_J90
  refine pc_bq m_laid (fun r6 h6 => pc_rg (pc_rg (pc_if (fun c => pc_some (fun w => absurd w (by decide))) (fun c => pc_bq m_laid (fun r11 h11 => pc_bq m_laid (fun r13 h13 => ?_))))))
  rw [h113, show (17 + 16 * (b : Int) + 3).toNat = 20 + 16 * b by omega] at h6
  rw [h113, show (17 + 16 * (b : Int) + (10 + (k : Int))).toNat = 27 + 16 * b + k by omega] at h11
  rw [h113, show (17 + 16 * (b : Int) + 2).toNat = 19 + 16 * b by omega] at h13
  have NEXT : pc (m_x12_areValues_L2 S n (b : Int) ((k : Int) + 1)) (fun r => r = 0 → ∃ j : Nat, (j : Int) < f (20 + 16 * b) ∧ ¬ AV1 f N b j) := by
    rw [show ((k : Int) + 1) = ((k + 1 : Nat) : Int) by omega]
    exact ih (k + 1)
  have BAD : ¬ AV1 f N b k → pc (some (0 : Int)) (fun r => r = 0 → ∃ j : Nat, (j : Int) < f (20 + 16 * b) ∧ ¬ AV1 f N b j) := fun w => pc_some (fun _ => ⟨k, by omega, w⟩)
  refine pc_rg (pc_if (fun c2 => pc_rg (pc_bq m_isIn (fun r36 h36 => pc_rg (pc_if (fun c3 => BAD ?_) (fun _ => NEXT))))) (fun c2 => pc_rg (pc_bq m_isBlk (fun r18 h18 => pc_rg (pc_if (fun c3 => BAD ?_) (fun c3 => ?_))))))
  · intro w
    unfold AV1 at w
    rw [← h13, ← h11] at w
    rcases h36 with ⟨a, _⟩ | ⟨_, a⟩
    · exact absurd (a.symm.trans c3) (by decide)
    · rcases w with y | y
      · exact a ⟨y.2.1, y.2.2⟩
      · exact y.1 c2
  · intro w
    unfold AV1 at w
    rw [← h13, ← h11] at w
    rw [h5] at h18
    rcases h18 with ⟨a, _⟩ | ⟨_, a⟩
    · exact absurd (a.symm.trans c3) (by decide)
    · rcases w with y | y
      · exact c2 y.1
      · exact a y.2.1
  · rw [h5] at h18
    have in1 : 0 ≤ r11 ∧ r11 < N := by
      rcases h18 with ⟨_, a⟩ | ⟨a, _⟩
      · exact a
      · exact absurd a c3
    refine pc_bq m_laid (fun r22 h22 => pc_bq m_laid (fun r24 h24 => pc_rg (pc_if (fun c4 => BAD ?_) (fun c4 => pc_bq m_laid (fun r28 h28 => pc_bq m_laid (fun r30 h30 => pc_rg (pc_rg (pc_if (fun _ => NEXT) (fun c6 => BAD ?_)))))))))
    · intro w
      unfold AV1 at w
      rw [← h13, ← h11] at w
      rw [h113, show (17 + 16 * r11 + 0).toNat = 17 + 16 * r11.toNat by omega] at h22
      rw [h113, show (17 + 16 * r11 + 1).toNat = 18 + 16 * r11.toNat by omega] at h24
      rcases w with y | y
      · exact c2 y.1
      · exact y.2.2.1 (by rw [← h22, ← h24]; exact c4)
    · intro w
      unfold AV1 at w
      rw [← h13, ← h11] at w
      rw [h113, show (17 + 16 * r11 + 2).toNat = 19 + 16 * r11.toNat by omega] at h28
      rw [h113, show (17 + 16 * (b : Int) + 2).toNat = 19 + 16 * b by omega, ← h13] at h30
      rcases w with y | y
      · exact c2 y.1
      · exact c6 (by rw [h28, h30]; exact y.2.2.2)
theorem UK_rng {f : Nat → Int} {N E : Int} (H : IG f N E) : ∀ (L b : Nat), b < 48 → DLa f b → (hLa f).1 b = (L : Int) → ∀ z, Ukey f L b z → 0 ≤ z ∧ z ≤ 999 := by
  have hN := H.1
  intro L
  induction L with
  | zero =>
    intro b hb hd hl z hz
    obtain ⟨k, a, c⟩ := hz
    have t := (IG_there H hb hd).2.2.2 k a
    rw [c] at t; exact t
  | succ L ih =>
    intro b hb hd hl z hz
    obtain ⟨k, a, c⟩ := hz
    have kd := IG_kid (k := k) H hb hd (by omega) a
    exact ih _ (by omega) kd.2.2 (by omega) z c
theorem UK_up {f : Nat → Int} {N E : Int} {b k : Nat} (H : IG f N E) (hb : b < 48) (hd : DLa f b) (hl : 0 < (hLa f).1 b) (hk : (k : Int) < (hLa f).2.1 b) {z : Int} (h : UK f ((hLa f).2.2 b k).toNat z) : UK f b z := by
  obtain ⟨l, h1, h2⟩ := h
  have kd := IG_kid (k := k) H hb hd hl hk
  exact ⟨l + 1, by omega, k, hk, h2⟩
set_option maxHeartbeats 1000000 in
theorem m_betw0 {f : Nat → Int} {N E p1 p2 : Int} {b0 : Nat} (H : IG f N E) (hb0 : b0 < 48) (hd0 : DLa f b0) {S : MS} (h113 : gA S 113 = f) : pc (m_x12_areBetween (b0 : Int) p1 p2 S) (fun q => q.1 = 0 → ∃ z, UK f b0 z ∧ ¬ (p1 ≤ z ∧ z ≤ p2)) := by
  have hN := H.1
  have L10 : ∀ (n w : Nat) (T : MS), gA T 113 = f → (∀ j, j < w → (0 ≤ gA T 62 j ∧ gA T 62 j < 48) ∧ DLa f (gA T 62 j).toNat ∧ ∀ z, UK f (gA T 62 j).toNat z → UK f b0 z) → pc (m_x12_areBetween_L10 n p1 p2 (w : Int) T) (fun q => q.1 = 0 → ∃ z, UK f b0 z ∧ ¬ (p1 ≤ z ∧ z ≤ p2)) := by
    refine fr_ind (fun _ _ _ _ => pc_none) (fun n ih w T hT hst => ?_)
    show pc (m_x12_areBetween_b10 (m_x12_areBetween_L10 n) p1 p2 (w : Int) T) _
    unfold m_x12_areBetween_b10
    refine pc_rg (pc_if (fun _ => pc_some (fun z => absurd z (show ¬ ((1 : Int) = 0) by decide))) (fun c => pc_rdI (fun _ => ?_)))
    obtain ⟨w', hw'⟩ : ∃ w', w = w' + 1 := ⟨w - 1, by omega⟩
    rw [show ((w : Int) + (-1)) = ((w' : Nat) : Int) by omega, Int.toNat_natCast]
    obtain ⟨c1, c2, c3⟩ := hst w' (by omega)
    obtain ⟨x, hx⟩ : ∃ x : Nat, gA T 62 w' = (x : Int) := ⟨(gA T 62 w').toNat, by omega⟩
    rw [hx, Int.toNat_natCast] at c2 c3
    rw [hx]
    have hx48 : x < 48 := by omega
    have L30 : ∀ (m v k : Nat) (T : MS), gA T 113 = f → (∀ j, j < v → (0 ≤ gA T 62 j ∧ gA T 62 j < 48) ∧ DLa f (gA T 62 j).toNat ∧ ∀ z, UK f (gA T 62 j).toNat z → UK f b0 z) → pc (m_x12_areBetween_L30 (m_x12_areBetween_L10 n) m p1 p2 (v : Int) (x : Int) (k : Int) T) (fun q => q.1 = 0 → ∃ z, UK f b0 z ∧ ¬ (p1 ≤ z ∧ z ≤ p2)) := by
      refine fr_ind (fun _ _ _ _ _ => pc_none) (fun m ihm v k T hT hst => ?_)
      show pc (m_x12_areBetween_b30 (m_x12_areBetween_L10 n) (m_x12_areBetween_L30 (m_x12_areBetween_L10 n) m) p1 p2 (v : Int) (x : Int) (k : Int) T) _
      unfold m_x12_areBetween_b30 m_x12_areBetween_J96
      refine pc_bq m_laid (fun r18 h18 => pc_rg (pc_rg (pc_if (fun _ => ih v T hT hst) (fun c4 => pc_bq m_laid (fun r23 h23 => ?_)))))
      rw [hT, show (17 + 16 * (x : Int) + 3).toNat = 20 + 16 * x by omega] at h18
      rw [hT, show (17 + 16 * (x : Int) + 2).toNat = 19 + 16 * x by omega] at h23
      have hc : (hLa f).2.1 x = r18 := h18.symm
      have hl : (hLa f).1 x = r23 := h23.symm
      have t := IG_there H hx48 c2
      have k6 : k < 6 := by have := H.2.1; omega
      rw [show ((k : Int) + 1) = ((k + 1 : Nat) : Int) by omega]
      refine pc_rg (pc_if (fun c5 => pc_bq m_laid (fun r31 h31 => pc_rg (pc_rg (pc_rg (pc_bq m_isIn (fun r36 h36 => pc_rg (pc_if (fun c6 => pc_some (fun _ => ?_)) (fun _ => ihm v (k + 1) T hT hst)))))))) (fun c5 => pc_bq m_laid (fun r27 h27 => pc_inb (pc_stn (fun s29 e29 => ?_)))))
      · rw [hT, show (17 + 16 * (x : Int) + (4 + (k : Int))).toNat = 21 + 16 * x + k by omega] at h31
        have kz : kLa f x k = r31 := by
          show (if k < 6 then f (21 + 16 * x + k) else 0) = r31
          rw [if_pos k6]; exact h31.symm
        refine ⟨r31, c3 r31 ⟨0, by rw [hl, c5]; rfl, k, by omega, kz⟩, fun w => ?_⟩
        rcases h36 with ⟨a, _⟩ | ⟨_, a⟩
        · exact absurd (a.symm.trans c6) (by decide)
        · exact a w
      · rw [hT, show (17 + 16 * (x : Int) + (10 + (k : Int))).toNat = 27 + 16 * x + k by omega] at h27
        have ez : (hLa f).2.2 x k = r27 := by
          show (if k < 6 then f (27 + 16 * x + k) else 0) = r27
          rw [if_pos k6]; exact h27.symm
        have kd := IG_kid (k := k) H hx48 c2 (by omega) (by omega)
        rw [Int.toNat_natCast] at e29
        have k62 : gA s29 62 = upZ (gA T 62) v r27 := q_AA e29
        rw [show ((v : Int) + 1) = ((v + 1 : Nat) : Int) by omega]
        refine ihm (v + 1) (k + 1) s29 ((q_Aa e29 (by decide)).trans hT) (fun j hj => ?_)
        rw [k62]
        by_cases z : j = v
        · rw [z, upZ_s, ← ez]
          exact ⟨by omega, kd.2.2, fun y hy => c3 y (UK_up H hx48 c2 (by omega) (by omega) hy)⟩
        · rw [upZ_n z]; exact hst j (by omega)
    exact L30 FU w' 0 T hT (fun j hj => hst j (by omega))
  unfold m_x12_areBetween
  refine pc_inb (pc_stn (fun s43 e43 => ?_))
  have k62 : gA s43 62 = upZ (gA S 62) (Int.toNat 0) (b0 : Int) := q_AA e43
  refine L10 FU 1 s43 ((q_Aa e43 (by decide)).trans h113) (fun j hj => ?_)
  rw [k62, show j = Int.toNat 0 by (have : Int.toNat 0 = 0 := rfl); omega, upZ_s, Int.toNat_natCast]
  exact ⟨by omega, hd0, fun z h => h⟩
set_option maxHeartbeats 1000000 in
theorem m_keys0 {f : Nat → Int} {N E : Int} {b : Nat} (H : IG f N E) (hb : b < 48) (hd : DLa f b) {S : MS} (h113 : gA S 113 = f) : pc (m_x12_areKeys (b : Int) S) (fun q => q.1 = 0 → 0 < (hLa f).1 b ∧ ∃ k : Nat, (k : Int) < (hLa f).2.1 b ∧ ¬ KSe f b k) := by
  have hN := H.1
  have t := IG_there H hb hd
  have L9 : ∀ (n k : Nat) (T : MS), gA T 113 = f → pc (m_x12_areKeys_L9 n (b : Int) ((hLa f).2.1 b) (k : Int) T) (fun q => q.1 = 0 → 0 < (hLa f).1 b ∧ ∃ k : Nat, (k : Int) < (hLa f).2.1 b ∧ ¬ KSe f b k) := by
    refine fr_ind (fun _ _ _ => pc_none) (fun n ih k T hT => ?_)
    show pc (m_x12_areKeys_b9 (m_x12_areKeys_L9 n) (b : Int) ((hLa f).2.1 b) (k : Int) T) _
    unfold m_x12_areKeys_b9 m_x12_areKeys_J86
    refine pc_rg (pc_rg (pc_if (fun _ => pc_some (fun z => absurd z (show ¬ ((1 : Int) = 0) by decide))) (fun c => pc_bq m_laid (fun r33 h33 => pc_rg (pc_if (fun _ => pc_some (fun z => absurd z (show ¬ ((1 : Int) = 0) by decide))) (fun c2 => pc_bq m_laid (fun r37 h37 => ?_)))))))
    rw [hT, show (17 + 16 * (b : Int) + 2).toNat = 19 + 16 * b by omega] at h33
    have hl : (hLa f).1 b = r33 := h33.symm
    have k6 : k < 6 := by have := H.2.1; omega
    rw [hT, show (17 + 16 * (b : Int) + (10 + (k : Int))).toNat = 27 + 16 * b + k by omega] at h37
    have ez : (hLa f).2.2 b k = r37 := by
      show (if k < 6 then f (27 + 16 * b + k) else 0) = r37
      rw [if_pos k6]; exact h37.symm
    have kd := IG_kid (k := k) H hb hd (by omega) (by omega)
    rw [ez] at kd
    obtain ⟨x, hx⟩ : ∃ x : Nat, r37 = (x : Int) := ⟨r37.toNat, by omega⟩
    rw [hx, Int.toNat_natCast] at kd
    have kK : ∀ j, j < 6 → kLa f b j = f (21 + 16 * b + j) := fun j hj => if_pos hj
    have rng : ∀ z, UK f x z → 0 ≤ z ∧ z ≤ 999 := fun z hz => by
      obtain ⟨l, h1, h2⟩ := hz
      exact UK_rng H l x (by omega) kd.2.2 h1 z h2
    -- from the lower bound on
    have J49 : ∀ lo : Int, (∀ z, UK f x z → ¬ lo ≤ z → 0 < k ∧ z < kLa f b k) → pc (m_x12_areKeys_J49 (m_x12_areKeys_L9 n) (b : Int) ((hLa f).2.1 b) (k : Int) lo r37 T) (fun q => q.1 = 0 → 0 < (hLa f).1 b ∧ ∃ k : Nat, (k : Int) < (hLa f).2.1 b ∧ ¬ KSe f b k) := fun lo hlo => by
      have J72 : ∀ hi : Int, (∀ z, UK f x z → ¬ z ≤ hi → (k : Int) + 1 < (hLa f).2.1 b ∧ kLa f b (k + 1) ≤ z) → pc (m_x12_areKeys_J72 (m_x12_areKeys_L9 n) (b : Int) ((hLa f).2.1 b) (k : Int) hi lo r37 T) (fun q => q.1 = 0 → 0 < (hLa f).1 b ∧ ∃ k : Nat, (k : Int) < (hLa f).2.1 b ∧ ¬ KSe f b k) := fun hi hhi => by
        unfold m_x12_areKeys_J72
        refine pc_bn (fun q15 e15 => pc_rg (pc_if (fun c3 => pc_some (fun _ => ?_)) (fun _ => ?_)))
        · rw [hx] at e15
          obtain ⟨z, z1, z2⟩ := m_betw0 H (by omega) kd.2.2 hT q15 e15 c3
          refine ⟨by omega, k, by omega, fun w => ?_⟩
          have y := w z (by rw [ez, hx, Int.toNat_natCast]; exact z1)
          by_cases l : lo ≤ z
          · have h := hhi z z1 (fun u => z2 ⟨l, u⟩)
            have := y.2 h.1
            omega
          · have h := hlo z z1 l
            have := y.1 h.1
            omega
        · have F : F_x12_areBetween T q15.2 := fr_x12_areBetween e15
          rw [show ((k : Int) + 1) = ((k + 1 : Nat) : Int) by omega]
          exact ih (k + 1) q15.2 ((F.2.1 113 (by decide)).trans hT)
      unfold m_x12_areKeys_J49
      refine pc_rg (pc_rg (pc_if (fun c3 => J72 999 (fun z hz h => absurd (rng z hz).2 h)) (fun c3 => pc_bq m_laid (fun r28 h28 => J72 (r28 - 1) (fun z hz h => ⟨by omega, ?_⟩)))))
      rw [hT, show (17 + 16 * (b : Int) + (5 + (k : Int))).toNat = 21 + 16 * b + (k + 1) by omega] at h28
      rw [kK (k + 1) (by have := H.2.1; omega), ← h28]; omega
    refine pc_rg (pc_if (fun c3 => J49 0 (fun z hz h => absurd (rng z hz).1 h)) (fun c3 => pc_bq m_laid (fun r41 h41 => J49 r41 (fun z hz h => ⟨by omega, ?_⟩))))
    rw [hT, show (17 + 16 * (b : Int) + (4 + (k : Int))).toNat = 21 + 16 * b + k by omega] at h41
    rw [kK k k6, ← h41]; omega
  unfold m_x12_areKeys
  refine pc_bq m_laid (fun r43 h43 => ?_)
  rw [h113, show (17 + 16 * (b : Int) + 3).toNat = 20 + 16 * b by omega] at h43
  rw [show r43 = (hLa f).2.1 b from h43]
  exact L9 FU 0 S h113
/-- it answers 0 or 1 -/
theorem b_betw {p0 p1 p2 : Int} {S : MS} : pc (m_x12_areBetween p0 p1 p2 S) (fun q => q.1 = 0 ∨ q.1 = 1) := by
  have L10 : ∀ (n : Nat) (a b w : Int) (T : MS), pc (m_x12_areBetween_L10 n a b w T) (fun q => q.1 = 0 ∨ q.1 = 1) := by
    refine fr_ind (fun _ _ _ _ => pc_none) (fun n ih a b w T => ?_)
    show pc (m_x12_areBetween_b10 (m_x12_areBetween_L10 n) a b w T) _
    unfold m_x12_areBetween_b10
    have L30 : ∀ (m : Nat) (a b v x k : Int) (T : MS), pc (m_x12_areBetween_L30 (m_x12_areBetween_L10 n) m a b v x k T) (fun q => q.1 = 0 ∨ q.1 = 1) := by
      refine fr_ind (fun _ _ _ _ _ _ => pc_none) (fun m ihm a b v x k T => ?_)
      show pc (m_x12_areBetween_b30 (m_x12_areBetween_L10 n) (m_x12_areBetween_L30 (m_x12_areBetween_L10 n) m) a b v x k T) _
      unfold m_x12_areBetween_b30 m_x12_areBetween_J96
      exact pc_bn (fun _ _ => pc_rg (pc_rg (pc_if (fun _ => ih _ _ _ _) (fun _ => pc_bn (fun _ _ => pc_rg (pc_if (fun _ => pc_bn (fun _ _ => pc_rg (pc_rg (pc_rg (pc_bn (fun _ _ => pc_rg (pc_if (fun _ => pc_some (Or.inl rfl)) (fun _ => ihm _ _ _ _ _ _)))))))) (fun _ => pc_bn (fun _ _ => pc_inb (pc_stn (fun _ _ => ihm _ _ _ _ _ _))))))))))
    exact pc_rg (pc_if (fun _ => pc_some (Or.inr rfl)) (fun _ => pc_rdI (fun _ => L30 _ _ _ _ _ _ _)))
  unfold m_x12_areBetween
  exact pc_inb (pc_stn (fun _ _ => L10 _ _ _ _ _))
set_option maxHeartbeats 1000000 in
/-- all keys below lie between, if it says so -/
theorem m_betw1 {f : Nat → Int} {N E p1 p2 : Int} {b0 : Nat} (H : IG f N E) (hb0 : b0 < 48) (hd0 : DLa f b0) {S : MS} (h113 : gA S 113 = f) : pc (m_x12_areBetween (b0 : Int) p1 p2 S) (fun q => q.1 = 1 → ∀ z, UK f b0 z → p1 ≤ z ∧ z ≤ p2) := by
  have hN := H.1
  have L10 : ∀ (n w : Nat) (T : MS), gA T 113 = f → (∀ j, j < w → (0 ≤ gA T 62 j ∧ gA T 62 j < 48) ∧ DLa f (gA T 62 j).toNat) → (∀ z, UK f b0 z → (p1 ≤ z ∧ z ≤ p2) ∨ UW f (gA T 62) w z) → pc (m_x12_areBetween_L10 n p1 p2 (w : Int) T) (fun q => q.1 = 1 → ∀ z, UK f b0 z → p1 ≤ z ∧ z ≤ p2) := by
    refine fr_ind (fun _ _ _ _ _ => pc_none) (fun n ih w T hT hst hu => ?_)
    show pc (m_x12_areBetween_b10 (m_x12_areBetween_L10 n) p1 p2 (w : Int) T) _
    unfold m_x12_areBetween_b10
    refine pc_rg (pc_if (fun c => pc_some (fun _ z hz => ?_)) (fun c => pc_rdI (fun _ => ?_)))
    · rcases hu z hz with q | ⟨j, a, _⟩
      · exact q
      · exfalso; omega
    obtain ⟨w', hw'⟩ : ∃ w', w = w' + 1 := ⟨w - 1, by omega⟩
    rw [show ((w : Int) + (-1)) = ((w' : Nat) : Int) by omega, Int.toNat_natCast]
    obtain ⟨c1, c2⟩ := hst w' (by omega)
    obtain ⟨x, hx⟩ : ∃ x : Nat, gA T 62 w' = (x : Int) := ⟨(gA T 62 w').toNat, by omega⟩
    rw [hx, Int.toNat_natCast] at c2
    rw [hx]
    have hx48 : x < 48 := by omega
    have L30 : ∀ (m v k : Nat) (T : MS), gA T 113 = f → (∀ j, j < v → (0 ≤ gA T 62 j ∧ gA T 62 j < 48) ∧ DLa f (gA T 62 j).toNat) → (∀ z, UK f b0 z → (p1 ≤ z ∧ z ≤ p2) ∨ UW f (gA T 62) v z ∨ UR f x (k : Int) z) → pc (m_x12_areBetween_L30 (m_x12_areBetween_L10 n) m p1 p2 (v : Int) (x : Int) (k : Int) T) (fun q => q.1 = 1 → ∀ z, UK f b0 z → p1 ≤ z ∧ z ≤ p2) := by
      refine fr_ind (fun _ _ _ _ _ _ => pc_none) (fun m ihm v k T hT hst hu => ?_)
      show pc (m_x12_areBetween_b30 (m_x12_areBetween_L10 n) (m_x12_areBetween_L30 (m_x12_areBetween_L10 n) m) p1 p2 (v : Int) (x : Int) (k : Int) T) _
      unfold m_x12_areBetween_b30 m_x12_areBetween_J96
      refine pc_bq m_laid (fun r18 h18 => ?_)
      rw [hT, show (17 + 16 * (x : Int) + 3).toNat = 20 + 16 * x by omega] at h18
      have hc : (hLa f).2.1 x = r18 := h18.symm
      refine pc_rg (pc_rg (pc_if (fun c4 => ih v T hT hst (fun z hz => ?_)) (fun c4 => pc_bq m_laid (fun r23 h23 => ?_))))
      · rcases hu z hz with q | q | ⟨i, a, b, _⟩
        · exact Or.inl q
        · exact Or.inr q
        · exfalso; omega
      rw [hT, show (17 + 16 * (x : Int) + 2).toNat = 19 + 16 * x by omega] at h23
      have hl : (hLa f).1 x = r23 := h23.symm
      have t := IG_there H hx48 c2
      have k6 : k < 6 := by have := H.2.1; omega
      rw [show ((k : Int) + 1) = ((k + 1 : Nat) : Int) by omega]
      refine pc_rg (pc_if (fun c5 => pc_bq m_laid (fun r31 h31 => pc_rg (pc_rg (pc_rg (pc_bq m_isIn (fun r36 h36 => pc_rg (pc_if (fun c6 => pc_some (fun w => absurd w (show ¬ ((0 : Int) = 1) by decide))) (fun c6 => ihm v (k + 1) T hT hst (fun z hz => ?_)))))))))  (fun c5 => pc_bq m_laid (fun r27 h27 => pc_inb (pc_stn (fun s29 e29 => ?_)))))
      · rw [hT, show (17 + 16 * (x : Int) + (4 + (k : Int))).toNat = 21 + 16 * x + k by omega] at h31
        have kz : kLa f x k = r31 := by
          show (if k < 6 then f (21 + 16 * x + k) else 0) = r31
          rw [if_pos k6]; exact h31.symm
        rcases hu z hz with q | q | q
        · exact Or.inl q
        · exact Or.inr (Or.inl q)
        · rcases UR_step (by omega) q with y | y | y
          · exact Or.inr (Or.inr (by rw [show ((k + 1 : Nat) : Int) = (k : Int) + 1 by omega]; exact y))
          · rw [Int.toNat_natCast, kz] at y
            rcases h36 with ⟨_, a⟩ | ⟨a, _⟩
            · exact Or.inl (by rw [← y.2]; exact a)
            · exact absurd a c6
          · exfalso; omega
      · rw [hT, show (17 + 16 * (x : Int) + (10 + (k : Int))).toNat = 27 + 16 * x + k by omega] at h27
        have ez : (hLa f).2.2 x k = r27 := by
          show (if k < 6 then f (27 + 16 * x + k) else 0) = r27
          rw [if_pos k6]; exact h27.symm
        have kd := IG_kid (k := k) H hx48 c2 (by omega) (by omega)
        rw [Int.toNat_natCast] at e29
        have k62 : gA s29 62 = upZ (gA T 62) v r27 := q_AA e29
        rw [show ((v : Int) + 1) = ((v + 1 : Nat) : Int) by omega]
        refine ihm (v + 1) (k + 1) s29 ((q_Aa e29 (by decide)).trans hT) (fun j hj => ?_) (fun z hz => ?_)
        · rw [k62]
          by_cases z : j = v
          · rw [z, upZ_s, ← ez]
            exact ⟨by omega, kd.2.2⟩
          · rw [upZ_n z]; exact hst j (by omega)
        · rw [k62]
          rcases hu z hz with q | q | q
          · exact Or.inl q
          · exact Or.inr (Or.inl (UW_push (Or.inl q)))
          · rcases UR_step (by omega) q with y | y | y
            · exact Or.inr (Or.inr (by rw [show ((k + 1 : Nat) : Int) = (k : Int) + 1 by omega]; exact y))
            · exfalso; omega
            · rw [Int.toNat_natCast, ez] at y
              exact Or.inr (Or.inl (UW_push (Or.inr y.2)))
    refine L30 FU w' 0 T hT (fun j hj => hst j (by omega)) (fun z hz => ?_)
    rcases hu z hz with q | q
    · exact Or.inl q
    · rw [hw'] at q
      rcases UW_pop q with y | y
      · exact Or.inr (Or.inl y)
      · rw [hx, Int.toNat_natCast] at y
        exact Or.inr (Or.inr (UK_UR H hx48 c2 y))
  unfold m_x12_areBetween
  refine pc_inb (pc_stn (fun s43 e43 => ?_))
  have k62 : gA s43 62 = upZ (gA S 62) (Int.toNat 0) (b0 : Int) := q_AA e43
  have t0 : Int.toNat 0 = 0 := rfl
  rw [t0] at k62
  refine L10 FU 1 s43 ((q_Aa e43 (by decide)).trans h113) (fun j hj => ?_) (fun z hz => Or.inr ⟨0, by omega, ?_⟩)
  · rw [k62, show j = 0 by omega, upZ_s, Int.toNat_natCast]
    exact ⟨by omega, hd0⟩
  · rw [k62, upZ_s, Int.toNat_natCast]; exact hz
set_option maxHeartbeats 1000000 in
theorem m_keys1 {f : Nat → Int} {N E : Int} {b : Nat} (H : IG f N E) (hb : b < 48) (hd : DLa f b) (hlv : 0 < (hLa f).1 b) {S : MS} (h113 : gA S 113 = f) : pc (m_x12_areKeys (b : Int) S) (fun q => q.1 = 1 → ∀ k : Nat, (k : Int) < (hLa f).2.1 b → KSe f b k) := by
  have hN := H.1
  have t := IG_there H hb hd
  have L9 : ∀ (n k : Nat) (T : MS), gA T 113 = f → (∀ j : Nat, j < k → (j : Int) < (hLa f).2.1 b → KSe f b j) → pc (m_x12_areKeys_L9 n (b : Int) ((hLa f).2.1 b) (k : Int) T) (fun q => q.1 = 1 → ∀ k : Nat, (k : Int) < (hLa f).2.1 b → KSe f b k) := by
    refine fr_ind (fun _ _ _ _ => pc_none) (fun n ih k T hT hK => ?_)
    show pc (m_x12_areKeys_b9 (m_x12_areKeys_L9 n) (b : Int) ((hLa f).2.1 b) (k : Int) T) _
    unfold m_x12_areKeys_b9 m_x12_areKeys_J86
    refine pc_rg (pc_rg (pc_if (fun c => pc_some (fun _ j hj => hK j (by omega) hj)) (fun c => pc_bq m_laid (fun r33 h33 => ?_))))
    rw [hT, show (17 + 16 * (b : Int) + 2).toNat = 19 + 16 * b by omega] at h33
    have hl : (hLa f).1 b = r33 := h33.symm
    refine pc_rg (pc_if (fun c2 => absurd c2 (by omega)) (fun c2 => pc_bq m_laid (fun r37 h37 => ?_)))
    have k6 : k < 6 := by have := H.2.1; omega
    rw [hT, show (17 + 16 * (b : Int) + (10 + (k : Int))).toNat = 27 + 16 * b + k by omega] at h37
    have ez : (hLa f).2.2 b k = r37 := by
      show (if k < 6 then f (27 + 16 * b + k) else 0) = r37
      rw [if_pos k6]; exact h37.symm
    have kd := IG_kid (k := k) H hb hd hlv (by omega)
    rw [ez] at kd
    obtain ⟨x, hx⟩ : ∃ x : Nat, r37 = (x : Int) := ⟨r37.toNat, by omega⟩
    rw [hx, Int.toNat_natCast] at kd
    have kK : ∀ j, j < 6 → kLa f b j = f (21 + 16 * b + j) := fun j hj => if_pos hj
    have J49 : ∀ lo : Int, (0 < k → kLa f b k ≤ lo) → pc (m_x12_areKeys_J49 (m_x12_areKeys_L9 n) (b : Int) ((hLa f).2.1 b) (k : Int) lo r37 T) (fun q => q.1 = 1 → ∀ k : Nat, (k : Int) < (hLa f).2.1 b → KSe f b k) := fun lo hlo => by
      have J72 : ∀ hi : Int, ((k : Int) + 1 < (hLa f).2.1 b → hi < kLa f b (k + 1)) → pc (m_x12_areKeys_J72 (m_x12_areKeys_L9 n) (b : Int) ((hLa f).2.1 b) (k : Int) hi lo r37 T) (fun q => q.1 = 1 → ∀ k : Nat, (k : Int) < (hLa f).2.1 b → KSe f b k) := fun hi hhi => by
        unfold m_x12_areKeys_J72
        refine pc_bn (fun q15 e15 => pc_rg (pc_if (fun c3 => pc_some (fun w => absurd w (show ¬ ((0 : Int) = 1) by decide))) (fun c3 => ?_)))
        have F : F_x12_areBetween T q15.2 := fr_x12_areBetween e15
        rw [show ((k : Int) + 1) = ((k + 1 : Nat) : Int) by omega]
        refine ih (k + 1) q15.2 ((F.2.1 113 (by decide)).trans hT) (fun j hj hjc => ?_)
        by_cases z : j = k
        · rw [z]
          rw [hx] at e15
          have q1 : q15.1 = 1 := by
            have w : pc (m_x12_areBetween (x : Int) lo hi T) (fun q => q.1 = 0 ∨ q.1 = 1) := b_betw
            exact (w q15 e15).resolve_left c3
          have y := m_betw1 H (by omega) kd.2.2 hT q15 e15 q1
          intro z hz
          rw [ez, hx, Int.toNat_natCast] at hz
          have w := y z hz
          exact ⟨fun h => by have := hlo h; omega, fun h => by have := hhi h; omega⟩
        · exact hK j (by omega) hjc
      unfold m_x12_areKeys_J49
      refine pc_rg (pc_rg (pc_if (fun c3 => J72 999 (fun w => absurd w (by omega))) (fun c3 => pc_bq m_laid (fun r28 h28 => J72 (r28 - 1) (fun _ => ?_)))))
      rw [hT, show (17 + 16 * (b : Int) + (5 + (k : Int))).toNat = 21 + 16 * b + (k + 1) by omega] at h28
      rw [kK (k + 1) (by have := H.2.1; omega), ← h28]; omega
    refine pc_rg (pc_if (fun c3 => J49 0 (fun w => absurd w (by omega))) (fun c3 => pc_bq m_laid (fun r41 h41 => J49 r41 (fun _ => ?_))))
    rw [hT, show (17 + 16 * (b : Int) + (4 + (k : Int))).toNat = 21 + 16 * b + k by omega] at h41
    rw [kK k k6, ← h41]; exact Int.le_refl _
  unfold m_x12_areKeys
  refine pc_bq m_laid (fun r43 h43 => ?_)
  rw [h113, show (17 + 16 * (b : Int) + 3).toNat = 20 + 16 * b by omega] at h43
  rw [show r43 = (hLa f).2.1 b from h43]
  exact L9 FU 0 S h113 (fun j hj => absurd hj (by omega))
theorem b_keys {p : Int} {S : MS} : pc (m_x12_areKeys p S) (fun q => q.1 = 0 ∨ q.1 = 1) := by
  have L9 : ∀ (n : Nat) (a b k : Int) (T : MS), pc (m_x12_areKeys_L9 n a b k T) (fun q => q.1 = 0 ∨ q.1 = 1) := by
    refine fr_ind (fun _ _ _ _ => pc_none) (fun n ih a b k T => ?_)
    have J49 : ∀ (lo x : Int), pc (m_x12_areKeys_J49 (m_x12_areKeys_L9 n) a b k lo x T) (fun q => q.1 = 0 ∨ q.1 = 1) := fun lo x => by
      have J72 : ∀ hi : Int, pc (m_x12_areKeys_J72 (m_x12_areKeys_L9 n) a b k hi lo x T) (fun q => q.1 = 0 ∨ q.1 = 1) := fun hi => by
        unfold m_x12_areKeys_J72
        exact pc_bn (fun _ _ => pc_rg (pc_if (fun _ => pc_some (Or.inl rfl)) (fun _ => ih _ _ _ _)))
      unfold m_x12_areKeys_J49
      exact pc_rg (pc_rg (pc_if (fun _ => J72 _) (fun _ => pc_bn (fun _ _ => J72 _))))
    show pc (m_x12_areKeys_b9 (m_x12_areKeys_L9 n) a b k T) _
    unfold m_x12_areKeys_b9 m_x12_areKeys_J86
    exact pc_rg (pc_rg (pc_if (fun _ => pc_some (Or.inr rfl)) (fun _ => pc_bn (fun _ _ => pc_rg (pc_if (fun _ => pc_some (Or.inr rfl)) (fun _ => pc_bn (fun _ _ => pc_rg (pc_if (fun _ => J49 _ _) (fun _ => pc_bn (fun _ _ => J49 _ _))))))))))
  unfold m_x12_areKeys
  exact pc_bn (fun _ _ => L9 _ _ _ _ _)
/-! ===== an image's bytes, as the reference reads them ===== -/
def br (g : Nat → Int) (e p : Nat) : Int := if p < e then g p else -1
theorem br_in {g : Nat → Int} {e p : Nat} (h : p < e) : br g e p = g p := if_pos h
def tw2 (g : Nat → Int) (e p : Nat) : Int := if p + 2 ≤ e then 256 * g p + g (p + 1) else -1
theorem tw2_in {g : Nat → Int} {e p : Nat} (h : p + 2 ≤ e) : tw2 g e p = 256 * g p + g (p + 1) := if_pos h
/-- the tape, as the reference reads it -/
def TPr (T : MS) (g : Nat → Int) (e : Nat) : Prop := ∀ j, j ≤ e → gA T 0 j = g j
theorem TPr_k {T o : MS} {g : Nat → Int} {e : Nat} (h : TPr T g e) (a : gA o 0 = gA T 0) : TPr o g e := fun j hj => by rw [a]; exact h j hj
theorem m_byte {T : MS} {g : Nat → Int} {e p : Nat} (hT : TPr T g e) (hp : gI T 114 = (p : Int)) : pc (m_x12_byteRead (e : Int) T) (fun o => o.1 = br g e p ∧ gI o.2 114 = (p : Int) + 1 ∧ (∀ k, gA o.2 k = gA T k) ∧ ∀ i, i ≠ 114 → gI o.2 i = gI T i) := by
  unfold m_x12_byteRead m_x12_byteRead_J33
  refine pc_stn (fun s3 e3 => ?_)
  have i3 : gI s3 114 = (p : Int) + 1 := by rw [(q_II e3 : gI s3 114 = _), hp]
  have kA : ∀ k, gA s3 k = gA T k := fun k => q_Ia e3
  have kI : ∀ i, i ≠ 114 → gI s3 i = gI T i := fun i hi => q_Ii e3 hi
  rw [i3]
  refine pc_rg (pc_rg (pc_if (fun c => pc_some ⟨?_, i3, kA, kI⟩) (fun c => pc_rdI (fun _ => pc_some ⟨?_, i3, kA, kI⟩))))
  · show (-1 : Int) = br g e p
    unfold br
    rw [if_neg (by omega)]
  · show gA s3 0 ((p : Int) + 1 - 1).toNat = br g e p
    unfold br
    rw [if_pos (by omega), kA, show ((p : Int) + 1 - 1).toNat = p by omega, hT p (by omega)]
theorem m_two {T : MS} {g : Nat → Int} {e p : Nat} (BY : ∀ j, j ≤ e → 0 ≤ g j ∧ g j ≤ 255) (hT : TPr T g e) (hp : gI T 114 = (p : Int)) : pc (m_x12_twoRead (e : Int) T) (fun o => o.1 = tw2 g e p ∧ gI o.2 114 = (p : Int) + 2 ∧ (∀ k, gA o.2 k = gA T k) ∧ ∀ i, i ≠ 114 → gI o.2 i = gI T i) := by
  unfold m_x12_twoRead m_x12_twoRead_J22 m_x12_twoRead_J33
  refine pc_bq (m_byte (e := e) hT hp) (fun q6 h6 => ?_)
  obtain ⟨a1, a2, a3, a4⟩ := h6
  refine pc_bq (m_byte (e := e) (p := p + 1) (TPr_k hT (a3 0)) (by rw [a2]; omega)) (fun q9 h9 => ?_)
  obtain ⟨b1, b2, b3, b4⟩ := h9
  have kA : ∀ k, gA q9.2 k = gA T k := fun k => (b3 k).trans (a3 k)
  have kI : ∀ i, i ≠ 114 → gI q9.2 i = gI T i := fun i hi => (b4 i hi).trans (a4 i hi)
  have i9 : gI q9.2 114 = (p : Int) + 2 := by rw [b2]; omega
  unfold br at a1 b1
  refine pc_rg (pc_if (fun c => pc_some ⟨?_, i9, kA, kI⟩) (fun c => pc_rg (pc_if (fun c2 => pc_some ⟨?_, i9, kA, kI⟩) (fun c2 => pc_some ⟨?_, i9, kA, kI⟩))))
  · show (-1 : Int) = tw2 g e p
    unfold tw2
    by_cases z : p < e
    · rw [if_pos z] at a1
      have := (BY p (by omega)).1
      omega
    · rw [if_neg (by omega)]
  · show (-1 : Int) = tw2 g e p
    unfold tw2
    by_cases z : p + 1 < e
    · rw [if_pos z] at b1
      have := (BY (p + 1) (by omega)).1
      omega
    · rw [if_neg (by omega)]
  · show 256 * q6.1 + q9.1 = tw2 g e p
    by_cases z : p + 1 < e
    · rw [if_pos z] at b1
      rw [if_pos (by omega)] at a1
      rw [tw2_in (by omega), a1, b1]
    · rw [if_neg z] at b1
      exact absurd b1 c2
/-- the least that a key may be -/
def lwk (g : Nat → Int) (p : Nat) (l : Int) (j : Nat) : Int := if j = 0 ∨ (j = 1 ∧ 0 < l) then 0 else ke g p (j - 1) + 1
def LOWk (g : Nat → Int) (p : Nat) (l : Int) (n : Int) : Prop := ∀ j : Nat, (j : Int) < n → lwk g p l j ≤ ke g p j ∧ ke g p j ≤ 999
/-- what the reference asks of a block while it reads -/
def ROK (g : Nat → Int) (p : Nat) (E : Int) : Prop := thr g p → (1 ≤ g (p + 3) ∧ g (p + 3) ≤ E) ∧ LOWk g p (g (p + 2)) (g (p + 3))
/-- block b as it lies in the reference's row -/
def RRB (f g : Nat → Int) (p b : Nat) : Prop := (f (17 + 16 * b) = g p ∧ f (18 + 16 * b) = g (p + 1)) ∧ (thr g p → f (19 + 16 * b) = g (p + 2) ∧ f (20 + 16 * b) = g (p + 3) ∧ ∀ k : Nat, k < 6 → (k : Int) < g (p + 3) → f (21 + 16 * b + k) = ke g p k ∧ f (27 + 16 * b + k) = ve g p k) ∧ (¬ thr g p → ∀ i, 2 ≤ i → i < 16 → f (17 + 16 * b + i) = 0)
theorem RRB_x {f f' g : Nat → Int} {p b : Nat} (h : RRB f g p b) (e : ∀ j, 17 + 16 * b ≤ j → j < 33 + 16 * b → f' j = f j) : RRB f' g p b := by
  obtain ⟨⟨a1, a2⟩, a3, a4⟩ := h
  refine ⟨⟨by rw [e _ (by omega) (by omega)]; exact a1, by rw [e _ (by omega) (by omega)]; exact a2⟩, fun ht => ?_, fun hn i i1 i2 => by rw [e _ (by omega) (by omega)]; exact a4 hn i i1 i2⟩
  obtain ⟨b1, b2, b3⟩ := a3 ht
  refine ⟨by rw [e _ (by omega) (by omega)]; exact b1, by rw [e _ (by omega) (by omega)]; exact b2, fun k k6 hk => ?_⟩
  rw [e _ (by omega) (by omega), e _ (by omega) (by omega)]
  exact b3 k k6 hk
def PLb (g : Nat → Int) (e p b : Nat) (E : Int) (T : MS) (q : Int × MS) : Prop := (q.1 = 0 ∨ q.1 = 1) ∧ (q.1 = 1 → gI q.2 114 ≤ (e : Int) → nxp g p ≤ e ∧ gI q.2 114 = (nxp g p : Int) ∧ ROK g p E ∧ RRB (gA q.2 113) g p b) ∧ (nxp g p ≤ e → ROK g p E → q.1 = 1 ∧ gI q.2 114 = (nxp g p : Int)) ∧ ((p : Int) < gI q.2 114) ∧ (∀ j, (j < 17 + 16 * b ∨ 33 + 16 * b ≤ j) → gA q.2 113 j = gA T 113 j) ∧ (∀ k, k ≠ 113 → gA q.2 k = gA T k) ∧ ∀ i, i ≠ 114 → gI q.2 i = gI T i
set_option maxHeartbeats 2000000 in
set_option maxRecDepth 20000 in
/-- the entries of a block -/
theorem m_entsL {g : Nat → Int} {e p b : Nat} {E : Int} {T0 : MS} (hb : b < 48) (BY : ∀ j, j ≤ e → 0 ≤ g j ∧ g j ≤ 255) (p3 : p + 3 < e) (ht : thr g p) (hn : 1 ≤ g (p + 3) ∧ g (p + 3) ≤ E) (hE : E ≤ 6) : ∀ (m k : Nat) (T : MS), (k : Int) ≤ g (p + 3) → TPr T g e → gI T 114 = ((p + 4 + 4 * k : Nat) : Int) → (gA T 113 (17 + 16 * b) = g p ∧ gA T 113 (18 + 16 * b) = g (p + 1) ∧ gA T 113 (19 + 16 * b) = g (p + 2) ∧ gA T 113 (20 + 16 * b) = g (p + 3)) → (∀ j, j < k → gA T 113 (21 + 16 * b + j) = tw2 g e (p + 4 + 4 * j) ∧ gA T 113 (27 + 16 * b + j) = tw2 g e (p + 6 + 4 * j)) → (p + 4 + 4 * k ≤ e → LOWk g p (g (p + 2)) (k : Int)) → (∀ j, (j < 17 + 16 * b ∨ 33 + 16 * b ≤ j) → gA T 113 j = gA T0 113 j) → (∀ k, k ≠ 113 → gA T k = gA T0 k) → (∀ i, i ≠ 114 → gI T i = gI T0 i) → pc (m_x12_isLaidBlock_L130 m (e : Int) (17 + 16 * (b : Int)) (k : Int) T) (PLb g e p b E T0) := by
  have nx := nxp_1 ht
  refine fr_ind (fun _ _ _ _ _ _ _ _ _ _ _ => pc_none) (fun m ih k T hk hT hp h4 h1 hL kO kA kI => ?_)
  show pc (m_x12_isLaidBlock_b130 (m_x12_isLaidBlock_L130 m) (e : Int) (17 + 16 * (b : Int)) (k : Int) T) _
  unfold m_x12_isLaidBlock_b130 m_x12_isLaidBlock_J262 m_x12_isLaidBlock_J198 m_x12_isLaidBlock_J202 m_x12_isLaidBlock_J215
  refine pc_rdI (fun _ => ?_)
  rw [show (17 + 16 * (b : Int) + 3).toNat = 20 + 16 * b by omega, h4.2.2.2]
  refine pc_rg (pc_rg (pc_if (fun c => ?_) (fun c => ?_)))
  · have kn : (k : Int) = g (p + 3) := by omega
    have np : nxp g p = p + 4 + 4 * k := by rw [nx]; omega
    rw [hp]
    refine pc_rg (pc_rg (pc_if (fun c2 => pc_bo (pc_some ?_)) (fun c2 => pc_bo (pc_some ?_))))
    · exact ⟨Or.inl rfl, fun w => absurd w (show ¬ ((0 : Int) = 1) by decide), fun w => absurd w (by omega), by show (p : Int) < gI T 114; rw [hp]; omega, kO, kA, kI⟩
    · have in1 : p + 4 + 4 * k ≤ e := by omega
      have L := hL in1
      rw [kn] at L
      refine ⟨Or.inr rfl, fun _ _ => ⟨by omega, by show gI T 114 = _; rw [hp, np], fun _ => ⟨hn, L⟩, ⟨h4.1, h4.2.1⟩, fun _ => ⟨h4.2.2.1, h4.2.2.2, fun j _ hj => ?_⟩, fun w => absurd ht w⟩, fun _ _ => ⟨rfl, by show gI T 114 = _; rw [hp, np]⟩, by show (p : Int) < gI T 114; rw [hp]; omega, kO, kA, kI⟩
      have y := h1 j (by omega)
      rw [tw2_in (by omega), tw2_in (by omega)] at y
      exact ⟨y.1.trans (by unfold ke; rw [show p + 4 + 4 * j + 1 = p + 5 + 4 * j by omega]), y.2.trans (by unfold ve; rw [show p + 6 + 4 * j + 1 = p + 7 + 4 * j by omega])⟩
  · have k6 : k < 6 := by omega
    refine pc_bq (m_two (e := e) (p := p + 4 + 4 * k) BY hT hp) (fun q38 h38 => pc_inb (pc_stn (fun s40 e40 => ?_)))
    obtain ⟨a1, a2, a3, a4⟩ := h38
    rw [show (17 + 16 * (b : Int) + 4 + (k : Int)).toNat = 21 + 16 * b + k by omega] at e40
    refine pc_bq (m_two (e := e) (p := p + 6 + 4 * k) BY (TPr_k hT (by rw [(q_Aa e40 (by decide) : gA s40 0 = _), a3])) (by rw [(q_Ai e40 : gI s40 114 = _), a2]; omega)) (fun q43 h43 => pc_inb (pc_stn (fun s45 e45 => ?_)))
    obtain ⟨b1, b2, b3, b4⟩ := h43
    rw [show (17 + 16 * (b : Int) + 10 + (k : Int)).toNat = 27 + 16 * b + k by omega] at e45
    have k113 : gA s45 113 = upZ (upZ (gA T 113) (21 + 16 * b + k) q38.1) (27 + 16 * b + k) q43.1 := by
      rw [(q_AA e45 : gA s45 113 = _), b3, (q_AA e40 : gA s40 113 = _), a3]
    have kA2 : ∀ j, j ≠ 113 → gA s45 j = gA T j := fun j hj => by rw [(q_Aa e45 hj : gA s45 j = _), b3, (q_Aa e40 hj : gA s40 j = _), a3]
    have kI2 : ∀ i, i ≠ 114 → gI s45 i = gI T i := fun i hi => by rw [(q_Ai e45 : gI s45 i = _), b4 i hi, (q_Ai e40 : gI s40 i = _), a4 i hi]
    have i45 : gI s45 114 = ((p + 4 + 4 * (k + 1) : Nat) : Int) := by rw [(q_Ai e45 : gI s45 114 = _), b2]; omega
    have o113 : ∀ j, j ≠ 21 + 16 * b + k → j ≠ 27 + 16 * b + k → gA s45 113 j = gA T 113 j := fun j j1 j2 => by rw [k113, upZ_n j2, upZ_n j1]
    have kk : gA s45 113 (21 + 16 * b + k) = tw2 g e (p + 4 + 4 * k) := by rw [k113, upZ_n (by omega), upZ_s, a1]
    have kv : gA s45 113 (27 + 16 * b + k) = tw2 g e (p + 6 + 4 * k) := by rw [k113, upZ_s, b1]
    have n1 : ∀ j, j < k + 1 → gA s45 113 (21 + 16 * b + j) = tw2 g e (p + 4 + 4 * j) ∧ gA s45 113 (27 + 16 * b + j) = tw2 g e (p + 6 + 4 * j) := fun j hj => by
      by_cases z : j = k
      · rw [z]; exact ⟨kk, kv⟩
      · rw [o113 _ (by omega) (by omega), o113 _ (by omega) (by omega)]; exact h1 j (by omega)
    have kO2 : ∀ j, (j < 17 + 16 * b ∨ 33 + 16 * b ≤ j) → gA s45 113 j = gA T0 113 j := fun j hj => (o113 j (by omega) (by omega)).trans (kO j hj)
    -- with the least that the key may be
    have GO : ∀ lo : Int, (p + 4 + 4 * (k + 1) ≤ e → lo = lwk g p (g (p + 2)) k) → pc (rdI (gA s45 113) 785 (17 + 16 * (b : Int) + 4 + (k : Int)) (fun y13 => rg y13 (rg lo (bn (m_x12_isIn y13 lo 999 s45) (fun r17 => rg r17 (if r17 = 0 then some (0, s45) else m_x12_isLaidBlock_L130 m (e : Int) (17 + 16 * (b : Int)) ((k : Int) + 1) s45)))))) (PLb g e p b E T0) := fun lo hlo => by
      refine pc_rdI (fun _ => ?_)
      rw [show (17 + 16 * (b : Int) + 4 + (k : Int)).toNat = 21 + 16 * b + k by omega, kk]
      have kin : p + 4 + 4 * (k + 1) ≤ e → tw2 g e (p + 4 + 4 * k) = ke g p k := fun w => by
        rw [tw2_in (by omega)]; unfold ke; rw [show p + 4 + 4 * k + 1 = p + 5 + 4 * k by omega]
      refine pc_rg (pc_rg (pc_bq m_isIn (fun r17 h17 => pc_rg (pc_if (fun c2 => pc_some ?_) (fun c2 => ?_)))))
      · refine ⟨Or.inl rfl, fun w => absurd w (show ¬ ((0 : Int) = 1) by decide), fun w w2 => ?_, by show (p : Int) < gI s45 114; rw [i45]; omega, kO2, fun j hj => (kA2 j hj).trans (kA j hj), fun i hi => (kI2 i hi).trans (kI i hi)⟩
        exfalso
        have l := (w2 ht).2 k (by omega)
        have w' : p + 4 + 4 * (k + 1) ≤ e := by omega
        rw [hlo w', kin w'] at h17
        rcases h17 with ⟨a, _⟩ | ⟨_, a⟩
        · exact absurd (a.symm.trans c2) (by decide)
        · exact a l
      · have l : lo ≤ tw2 g e (p + 4 + 4 * k) ∧ tw2 g e (p + 4 + 4 * k) ≤ 999 := by
          rcases h17 with ⟨_, a⟩ | ⟨a, _⟩
          · exact a
          · exact absurd a c2
        rw [show ((k : Int) + 1) = ((k + 1 : Nat) : Int) by omega]
        refine ih (k + 1) s45 (by omega) (TPr_k hT (kA2 0 (by decide))) i45 ⟨by rw [o113 _ (by omega) (by omega)]; exact h4.1, by rw [o113 _ (by omega) (by omega)]; exact h4.2.1, by rw [o113 _ (by omega) (by omega)]; exact h4.2.2.1, by rw [o113 _ (by omega) (by omega)]; exact h4.2.2.2⟩ n1 (fun w j hj => ?_) kO2 (fun j hj => (kA2 j hj).trans (kA j hj)) (fun i hi => (kI2 i hi).trans (kI i hi))
        by_cases z : j = k
        · rw [z, ← hlo w, ← kin w]; exact l
        · exact hL (by omega) j (by omega)
    -- the key ahead
    have PREV : 1 ≤ k → p + 4 + 4 * (k + 1) ≤ e → gA s45 113 (20 + 16 * b + k) = ke g p (k - 1) := fun h w => by
      have y := (n1 (k - 1) (by omega)).1
      rw [show 21 + 16 * b + (k - 1) = 20 + 16 * b + k by omega, tw2_in (by omega)] at y
      rw [y]; unfold ke; rw [show p + 4 + 4 * (k - 1) + 1 = p + 5 + 4 * (k - 1) by omega]
    have GOP : (1 ≤ k ∧ ¬ (k = 1 ∧ 0 < g (p + 2))) → pc (rdI (gA s45 113) 785 (17 + 16 * (b : Int) + 3 + (k : Int)) (fun y24 => rdI (gA s45 113) 785 (17 + 16 * (b : Int) + 4 + (k : Int)) (fun y13 => rg y13 (rg (y24 + 1) (bn (m_x12_isIn y13 (y24 + 1) 999 s45) (fun r17 => rg r17 (if r17 = 0 then some (0, s45) else m_x12_isLaidBlock_L130 m (e : Int) (17 + 16 * (b : Int)) ((k : Int) + 1) s45))))))) (PLb g e p b E T0) := fun h => by
      refine pc_rdI (fun _ => GO _ (fun w => ?_))
      rw [show (17 + 16 * (b : Int) + 3 + (k : Int)).toNat = 20 + 16 * b + k by omega, PREV h.1 w]
      unfold lwk
      rw [if_neg (by omega)]
    have GO0 : (k = 0 ∨ (k = 1 ∧ 0 < g (p + 2))) → p + 4 + 4 * (k + 1) ≤ e → (0 : Int) = lwk g p (g (p + 2)) k := fun h _ => by
      unfold lwk
      rw [if_pos h]
    refine pc_rg (pc_if (fun c2 => GO 0 (GO0 (Or.inl (by omega)))) (fun c2 => pc_rg (pc_if (fun c3 => pc_rdI (fun _ => ?_)) (fun c3 => GOP ⟨by omega, by omega⟩))))
    rw [show (17 + 16 * (b : Int) + 2).toNat = 19 + 16 * b by omega, o113 _ (by omega) (by omega), h4.2.2.1]
    exact pc_rg (pc_if (fun c4 => GOP ⟨by omega, by omega⟩) (fun c4 => GO 0 (GO0 (Or.inr ⟨by omega, by omega⟩))))
/-! ===== all blocks of an image, as the reference reads them ===== -/
set_option maxHeartbeats 2000000 in
theorem m_block {g : Nat → Int} {e p b : Nat} {E : Int} {T : MS} (hb : b < 48) (BY : ∀ j, j ≤ e → 0 ≤ g j ∧ g j ≤ 255) (hE : E ≤ 6) (h6 : gA T 39 6 = E) (hT : TPr T g e) (hp : gI T 114 = (p : Int)) : pc (m_x12_isLaidBlock (b : Int) (e : Int) T) (PLb g e p b E T) := by
  have L11 : ∀ (n k : Nat) (X : MS), k ≤ 16 → gI X 114 = (p : Int) → (∀ j, j < k → gA X 113 (17 + 16 * b + j) = 0) → (∀ j, (j < 17 + 16 * b ∨ 33 + 16 * b ≤ j) → gA X 113 j = gA T 113 j) → (∀ k, k ≠ 113 → gA X k = gA T k) → (∀ i, i ≠ 114 → gI X i = gI T i) → pc (m_x12_isLaidBlock_L11 n (e : Int) (17 + 16 * (b : Int)) (k : Int) X) (PLb g e p b E T) := by
    refine fr_ind (fun _ _ _ _ _ _ _ _ => pc_none) (fun n ih k X hk hp hz kO kA kI => ?_)
    show pc (m_x12_isLaidBlock_b11 (m_x12_isLaidBlock_L11 n) (e : Int) (17 + 16 * (b : Int)) (k : Int) X) _
    unfold m_x12_isLaidBlock_b11
    refine pc_rg (pc_if (fun c => ?_) (fun c => pc_inb (pc_stn (fun s e1 => ?_))))
    rotate_left
    · rw [show (17 + 16 * (b : Int) + (k : Int)).toNat = 17 + 16 * b + k by omega] at e1
      have k113 : gA s 113 = upZ (gA X 113) (17 + 16 * b + k) 0 := q_AA e1
      rw [show ((k : Int) + 1) = ((k + 1 : Nat) : Int) by omega]
      refine ih (k + 1) s (by omega) ((q_Ai e1).trans hp) (fun j hj => ?_) (fun j hj => by rw [k113, upZ_n (by omega)]; exact kO j hj) (fun j hj => (q_Aa e1 hj).trans (kA j hj)) (fun i hi => (q_Ai e1).trans (kI i hi))
      rw [k113]
      by_cases z : j = k
      · rw [z, upZ_s]
      · rw [upZ_n (by omega)]; exact hz j (by omega)
    have k16 : k = 16 := by omega
    have hX0 : TPr X g e := TPr_k hT (kA 0 (by decide))
    refine pc_bq (m_byte (e := e) hX0 hp) (fun q61 h61 => pc_inb (pc_stn (fun s63 e63 => ?_)))
    obtain ⟨a1, a2, a3, a4⟩ := h61
    rw [show (17 + 16 * (b : Int)).toNat = 17 + 16 * b by omega] at e63
    refine pc_bq (m_byte (e := e) (p := p + 1) (TPr_k hX0 (by rw [(q_Aa e63 (by decide) : gA s63 0 = _), a3])) (by rw [(q_Ai e63 : gI s63 114 = _), a2]; omega)) (fun q66 h66 => pc_inb (pc_stn (fun s68 e68 => pc_rdI (fun _ => pc_rdI (fun _ => ?_)))))
    obtain ⟨b1, b2, b3, b4⟩ := h66
    rw [show (17 + 16 * (b : Int) + 1).toNat = 18 + 16 * b by omega] at e68
    have k68 : gA s68 113 = upZ (upZ (gA X 113) (17 + 16 * b) q61.1) (18 + 16 * b) q66.1 := by
      rw [(q_AA e68 : gA s68 113 = _), b3, (q_AA e63 : gA s63 113 = _), a3]
    have A68 : ∀ j, j ≠ 113 → gA s68 j = gA T j := fun j hj => by rw [(q_Aa e68 hj : gA s68 j = _), b3, (q_Aa e63 hj : gA s63 j = _), a3]; exact kA j hj
    have I68 : ∀ i, i ≠ 114 → gI s68 i = gI T i := fun i hi => by rw [(q_Ai e68 : gI s68 i = _), b4 i hi, (q_Ai e63 : gI s63 i = _), a4 i hi]; exact kI i hi
    have i68 : gI s68 114 = ((p + 2 : Nat) : Int) := by rw [(q_Ai e68 : gI s68 114 = _), b2]; omega
    have v17 : gA s68 113 (17 + 16 * b) = br g e p := by rw [k68, upZ_n (by omega), upZ_s, a1]
    have v18 : gA s68 113 (18 + 16 * b) = br g e (p + 1) := by rw [k68, upZ_s, b1]
    have O68 : ∀ j, (j < 17 + 16 * b ∨ 33 + 16 * b ≤ j) → gA s68 113 j = gA T 113 j := fun j hj => by rw [k68, upZ_n (by omega), upZ_n (by omega)]; exact kO j hj
    have Z68 : ∀ i, 2 ≤ i → i < 16 → gA s68 113 (17 + 16 * b + i) = 0 := fun i i1 i2 => by rw [k68, upZ_n (by omega), upZ_n (by omega)]; exact hz i (by omega)
    rw [show (17 + 16 * (b : Int)).toNat = 17 + 16 * b by omega, show (17 + 16 * (b : Int) + 1).toNat = 18 + 16 * b by omega, v17, v18]
    have FAIL : ∀ X : MS, ¬ (nxp g p ≤ e ∧ ROK g p E) → (p : Int) < gI X 114 → (∀ j, (j < 17 + 16 * b ∨ 33 + 16 * b ≤ j) → gA X 113 j = gA T 113 j) → (∀ k, k ≠ 113 → gA X k = gA T k) → (∀ i, i ≠ 114 → gI X i = gI T i) → PLb g e p b E T (0, X) := fun X w h1 h2 h3 h4 => ⟨Or.inl rfl, fun w => absurd w (show ¬ ((0 : Int) = 1) by decide), fun w1 w2 => absurd ⟨w1, w2⟩ w, h1, h2, h3, h4⟩
    refine pc_rg (pc_if (fun c2 => pc_some ?_) (fun c2 => ?_))
    · -- free, or read beyond
      have IN : p + 2 ≤ e → ¬ thr g p := fun w => by
        rw [br_in (by omega), br_in (by omega)] at c2
        have y1 := (BY p (by omega)).1
        have y2 := (BY (p + 1) (by omega)).1
        exact fun t => t ⟨by omega, by omega⟩
      refine ⟨Or.inr rfl, fun _ w => ?_, fun w w2 => ?_, by show (p : Int) < gI s68 114; rw [i68]; omega, O68, A68, I68⟩
      · have w' : p + 2 ≤ e := by
          have w2 : gI s68 114 ≤ (e : Int) := w
          rw [i68] at w2; omega
        have nt := IN w'
        refine ⟨by rw [nxp_0 nt]; exact w', by show gI s68 114 = _; rw [i68, nxp_0 nt], fun t => absurd t nt, ⟨?_, ?_⟩, fun t => absurd t nt, fun _ => Z68⟩
        · show gA s68 113 (17 + 16 * b) = g p
          rw [v17, br_in (by omega)]
        · show gA s68 113 (18 + 16 * b) = g (p + 1)
          rw [v18, br_in (by omega)]
      · have l := nxp_lt g p
        have nt := IN (by omega)
        exact ⟨rfl, by show gI s68 114 = _; rw [i68, nxp_0 nt]⟩
    -- there
    have hT68 : TPr s68 g e := TPr_k hT (A68 0 (by decide))
    refine pc_bq (m_byte (e := e) (p := p + 2) hT68 i68) (fun q75 h75 => pc_inb (pc_stn (fun s77 e77 => ?_)))
    obtain ⟨d1, d2, d3, d4⟩ := h75
    rw [show (17 + 16 * (b : Int) + 2).toNat = 19 + 16 * b by omega] at e77
    refine pc_bq (m_byte (e := e) (p := p + 3) (TPr_k hT68 (by rw [(q_Aa e77 (by decide) : gA s77 0 = _), d3])) (by rw [(q_Ai e77 : gI s77 114 = _), d2]; omega)) (fun q80 h80 => pc_inb (pc_stn (fun s82 e82 => pc_rdI (fun _ => ?_))))
    obtain ⟨f1, f2, f3, f4⟩ := h80
    rw [show (17 + 16 * (b : Int) + 3).toNat = 20 + 16 * b by omega] at e82
    have k82 : gA s82 113 = upZ (upZ (gA s68 113) (19 + 16 * b) q75.1) (20 + 16 * b) q80.1 := by
      rw [(q_AA e82 : gA s82 113 = _), f3, (q_AA e77 : gA s77 113 = _), d3]
    have A82 : ∀ j, j ≠ 113 → gA s82 j = gA T j := fun j hj => by rw [(q_Aa e82 hj : gA s82 j = _), f3, (q_Aa e77 hj : gA s77 j = _), d3]; exact A68 j hj
    have I82 : ∀ i, i ≠ 114 → gI s82 i = gI T i := fun i hi => by rw [(q_Ai e82 : gI s82 i = _), f4 i hi, (q_Ai e77 : gI s77 i = _), d4 i hi]; exact I68 i hi
    have i82 : gI s82 114 = ((p + 4 + 4 * 0 : Nat) : Int) := by rw [(q_Ai e82 : gI s82 114 = _), f2]; omega
    have O82 : ∀ j, (j < 17 + 16 * b ∨ 33 + 16 * b ≤ j) → gA s82 113 j = gA T 113 j := fun j hj => by rw [k82, upZ_n (by omega), upZ_n (by omega)]; exact O68 j hj
    have w20 : gA s82 113 (20 + 16 * b) = br g e (p + 3) := by rw [k82, upZ_s, f1]
    have w19 : gA s82 113 (19 + 16 * b) = br g e (p + 2) := by rw [k82, upZ_n (by omega), upZ_s, d1]
    have w17 : gA s82 113 (17 + 16 * b) = br g e p := by rw [k82, upZ_n (by omega), upZ_n (by omega)]; exact v17
    have w18 : gA s82 113 (18 + 16 * b) = br g e (p + 1) := by rw [k82, upZ_n (by omega), upZ_n (by omega)]; exact v18
    rw [show (17 + 16 * (b : Int) + 3).toNat = 20 + 16 * b by omega, w20]
    have RM : pc (m_x12_roomOf s82) (fun r => r = E) := by
      unfold m_x12_roomOf
      exact pc_rdI (fun _ => pc_some (by show gA s82 39 6 = E; rw [A82 39 (by decide)]; exact h6))
    have TH : p + 2 ≤ e → thr g p := fun w t => c2 (by rw [br_in (by omega), br_in (by omega), t.1, t.2]; rfl)
    refine pc_rg (pc_bq RM (fun r86 h86 => ?_))
    rw [h86]
    refine pc_rg (pc_bq m_isIn (fun r89 h89 => pc_rg (pc_if (fun c3 => pc_some (FAIL s82 (fun w => ?_) (by rw [i82]; omega) O82 A82 I82)) (fun c3 => ?_))))
    · have l := nxp_lt g p
      have t := TH (by omega)
      have r := (w.2 t).1
      have n := w.1
      rw [nxp_1 t] at n
      rw [br_in (by omega)] at h89
      rcases h89 with ⟨a, _⟩ | ⟨_, a⟩
      · exact absurd (a.symm.trans c3) (by decide)
      · exact a r
    · have r : 1 ≤ br g e (p + 3) ∧ br g e (p + 3) ≤ E := by
        rcases h89 with ⟨_, a⟩ | ⟨a, _⟩
        · exact a
        · exact absurd a c3
      have p3 : p + 3 < e := by
        refine Classical.byContradiction (fun z => ?_)
        unfold br at r
        rw [if_neg z] at r
        omega
      rw [br_in p3] at r w20
      rw [br_in (by omega)] at w17 w18 w19
      exact m_entsL hb BY p3 (TH (by omega)) r hE FU 0 s82 (by omega) (TPr_k hT (A82 0 (by decide))) i82 ⟨w17, w18, w19, w20⟩ (fun j hj => absurd hj (by omega)) (fun _ j hj => absurd hj (by omega)) O82 A82 I82
  unfold m_x12_isLaidBlock
  exact L11 FU 0 T (by omega) hp (fun j hj => absurd hj (by omega)) (fun _ _ => rfl) (fun _ _ => rfl) (fun _ _ => rfl)
def IMR (g : Nat → Int) (e N : Nat) (E : Int) (b p : Nat) : Prop := p ≤ e ∧ PO g N = e ∧ ∀ x, b ≤ x → x < N → ROK g (PO g x) E
/-- the rows of all blocks -/
def RRA (f g : Nat → Int) (N : Nat) : Prop := (∀ x, x < N → RRB f g (PO g x) x) ∧ ∀ x i, N ≤ x → x < 48 → i < 16 → f (17 + 16 * x + i) = 0
def PIm (g : Nat → Int) (e N : Nat) (C : Prop) (T : MS) (q : Int × MS) : Prop := (q.1 = 0 ∨ q.1 = 1) ∧ (q.1 = 1 ↔ C) ∧ (q.1 = 1 → RRA (gA q.2 113) g N) ∧ (∀ j, j < 17 → gA q.2 113 j = gA T 113 j) ∧ (∀ k, k ≠ 113 → gA q.2 k = gA T k) ∧ ∀ i, i ≠ 114 → gI q.2 i = gI T i
set_option maxHeartbeats 1000000 in
theorem m_L102 {N e : Nat} {E : Int} {g : Nat → Int} (hN : N ≤ 48) (hE : E ≤ 6) (BY : ∀ j, j ≤ e → 0 ≤ g j ∧ g j ≤ 255) : ∀ (n b p : Nat) (T : MS), b ≤ N → gA T 39 5 = (N : Int) → gA T 39 6 = E → TPr T g e → gI T 114 = (p : Int) → (p ≤ e → p = PO g b ∧ ∀ x, x < b → RRB (gA T 113) g (PO g x) x) → pc (m_x12_isLaid_L102 n (e : Int) (b : Int) T) (PIm g e N (IMR g e N E b p) T) := by
  -- the blocks that the store does not have
  have L135 : ∀ (n x p : Nat) (T X : MS), N ≤ x → x ≤ 48 → gI X 114 = (p : Int) → (p ≤ e → p = PO g N ∧ ∀ x, x < N → RRB (gA T 113) g (PO g x) x) → (∀ y i, N ≤ y → y < x → i < 16 → gA X 113 (17 + 16 * y + i) = 0) → (∀ j, j < 17 + 16 * N → gA X 113 j = gA T 113 j) → (∀ k, k ≠ 113 → gA X k = gA T k) → (∀ i, i ≠ 114 → gI X i = gI T i) → pc (m_x12_isLaid_L135 n (e : Int) (x : Int) X) (PIm g e N (IMR g e N E N p) T) := by
    refine fr_ind (fun _ _ _ _ _ _ _ _ _ _ _ _ => pc_none) (fun n ih x p T X hx h48 hp hr hz kO kA kI => ?_)
    show pc (m_x12_isLaid_b135 (m_x12_isLaid_L135 n) (e : Int) (x : Int) X) _
    unfold m_x12_isLaid_b135 m_x12_isLaid_J194
    refine pc_rg (pc_if (fun c => ?_) (fun c => ?_))
    · have x48 : x = 48 := by omega
      rw [hp]
      refine pc_rg (pc_rg (pc_if (fun c2 => pc_bo (pc_some ⟨Or.inr rfl, ⟨fun _ => ?_, fun _ => rfl⟩, fun _ => ⟨fun y hy => ?_, fun y i y1 y2 i1 => hz y i y1 (by omega) i1⟩, fun j hj => kO j (by omega), kA, kI⟩)) (fun c2 => pc_bo (pc_some ⟨Or.inl rfl, ⟨fun w => absurd w (show ¬ ((0 : Int) = 1) by decide), fun w => ?_⟩, fun w => absurd w (show ¬ ((0 : Int) = 1) by decide), fun j hj => kO j (by omega), kA, kI⟩))))
      · have r := hr (by omega)
        exact ⟨by omega, by rw [← r.1]; omega, fun y y1 y2 => absurd y2 (by omega)⟩
      · have r := hr (by omega)
        exact RRB_x (r.2 y hy) (fun j j1 j2 => kO j (by omega))
      · exfalso
        have r := hr w.1
        have := w.2.1
        omega
    · have L145 : ∀ (m i : Nat) (X : MS), i ≤ 16 → gI X 114 = (p : Int) → (∀ y j, N ≤ y → y < x → j < 16 → gA X 113 (17 + 16 * y + j) = 0) → (∀ j, j < i → gA X 113 (17 + 16 * x + j) = 0) → (∀ j, j < 17 + 16 * N → gA X 113 j = gA T 113 j) → (∀ k, k ≠ 113 → gA X k = gA T k) → (∀ i, i ≠ 114 → gI X i = gI T i) → pc (m_x12_isLaid_L145 (m_x12_isLaid_L135 n) m (e : Int) (x : Int) (i : Int) X) (PIm g e N (IMR g e N E N p) T) := by
        refine fr_ind (fun _ _ _ _ _ _ _ _ _ => pc_none) (fun m ihm i X hi hp hz hz2 kO kA kI => ?_)
        show pc (m_x12_isLaid_b145 (m_x12_isLaid_L135 n) (m_x12_isLaid_L145 (m_x12_isLaid_L135 n) m) (e : Int) (x : Int) (i : Int) X) _
        unfold m_x12_isLaid_b145
        refine pc_rg (pc_if (fun d => ?_) (fun d => pc_inb (pc_stn (fun s14 e14 => ?_))))
        · rw [show ((x : Int) + 1) = ((x + 1 : Nat) : Int) by omega]
          refine ih (x + 1) p T X (by omega) (by omega) hp hr (fun y j y1 y2 j1 => ?_) kO kA kI
          by_cases z : y = x
          · rw [z]; exact hz2 j (by omega)
          · exact hz y j y1 (by omega) j1
        · rw [show (17 + 16 * (x : Int) + (i : Int)).toNat = 17 + 16 * x + i by omega] at e14
          have k113 : gA s14 113 = upZ (gA X 113) (17 + 16 * x + i) 0 := q_AA e14
          rw [show ((i : Int) + 1) = ((i + 1 : Nat) : Int) by omega]
          refine ihm (i + 1) s14 (by omega) ((q_Ai e14).trans hp) (fun y j y1 y2 j1 => by rw [k113, upZ_n (by omega)]; exact hz y j y1 y2 j1) (fun j hj => ?_) (fun j hj => by rw [k113, upZ_n (by omega)]; exact kO j hj) (fun j hj => (q_Aa e14 hj).trans (kA j hj)) (fun j hj => (q_Ai e14).trans (kI j hj))
          rw [k113]
          by_cases z : j = i
          · rw [z, upZ_s]
          · rw [upZ_n (by omega)]; exact hz2 j (by omega)
      exact L145 FU 0 X (by omega) hp hz (fun j hj => absurd hj (by omega)) kO kA kI
  refine fr_ind (fun _ _ _ _ _ _ _ _ _ => pc_none) (fun n ih b p T hb h5 h6 hT hp hr => ?_)
  show pc (m_x12_isLaid_b102 (m_x12_isLaid_L102 n) (e : Int) (b : Int) T) _
  unfold m_x12_isLaid_b102
  refine pc_bq m_blkMany (fun r24 h24 => ?_)
  rw [h24, h5]
  refine pc_rg (pc_rg (pc_if (fun c => pc_bq m_blkMany (fun r29 h29 => ?_)) (fun c => pc_bn (fun q32 e32 => ?_))))
  · rw [h29, h5]
    have bN : b = N := by omega
    rw [bN] at hr ⊢
    exact L135 FU N p T T (Nat.le_refl _) hN hp hr (fun y i y1 y2 _ => absurd y2 (by omega)) (fun _ _ => rfl) (fun _ _ => rfl) (fun _ _ => rfl)
  · have b48 : b < 48 := by omega
    obtain ⟨p1, p2, p3, p4, p5, p6, p7⟩ := m_block b48 BY hE h6 hT hp q32 e32
    have IN : IMR g e N E b p → nxp g p ≤ e ∧ ROK g p E := fun w => by
      have r := (hr w.1).1
      have m := PO_le (g := g) (show b + 1 ≤ N by omega)
      rw [PO_s, ← r, w.2.1] at m
      refine ⟨m, ?_⟩
      have y := w.2.2 b (Nat.le_refl _) (by omega)
      rw [← r] at y
      exact y
    refine pc_rg (pc_if (fun c2 => pc_some ⟨Or.inl rfl, ⟨fun w => absurd w (show ¬ ((0 : Int) = 1) by decide), fun w => ?_⟩, fun w => absurd w (show ¬ ((0 : Int) = 1) by decide), fun j hj => p5 j (by omega), p6, p7⟩) (fun c2 => ?_))
    · exfalso
      have i := IN w
      have y := (p3 i.1 i.2).1
      omega
    · have q1 : q32.1 = 1 := p1.resolve_left c2
      obtain ⟨p', hp'⟩ : ∃ p' : Nat, gI q32.2 114 = (p' : Int) := ⟨(gI q32.2 114).toNat, by omega⟩
      have step := ih (b + 1) p' q32.2 (by omega) (by rw [p6 39 (by decide)]; exact h5) (by rw [p6 39 (by decide)]; exact h6) (TPr_k hT (p6 0 (by decide))) hp' (fun hle => by
        obtain ⟨i1, i2, i3, i4⟩ := p2 q1 (by omega)
        have r := hr (by omega)
        refine ⟨by rw [PO_s, ← r.1]; omega, fun x hx => ?_⟩
        by_cases z : x = b
        · rw [z, ← r.1]; exact i4
        · exact RRB_x (r.2 x (by omega)) (fun j j1 j2 => p5 j (by omega)))
      rw [show ((b : Int) + 1) = ((b + 1 : Nat) : Int) by omega]
      have EQ : IMR g e N E b p ↔ IMR g e N E (b + 1) p' := by
        constructor
        · intro w
          have i := IN w
          have y := (p3 i.1 i.2).2
          exact ⟨by omega, w.2.1, fun x x1 x2 => w.2.2 x (by omega) x2⟩
        · intro w
          have w1 := w.1
          obtain ⟨i1, i2, i3, i4⟩ := p2 q1 (by omega)
          have r := hr (by omega)
          refine ⟨by omega, w.2.1, fun x x1 x2 => ?_⟩
          by_cases z : x = b
          · rw [z, ← r.1]; exact i3
          · exact w.2.2 x (by omega) x2
      refine pc_mono step (fun q hq => ?_)
      obtain ⟨c1, c2, c3, c4, c5, c6⟩ := hq
      exact ⟨c1, c2.trans EQ.symm, c3, fun j hj => (c4 j hj).trans (p5 j (by omega)), fun k hk => (c5 k hk).trans (p6 k hk), fun i hi => (c6 i hi).trans (p7 i hi)⟩
