/-! ===== a store is built on both sides ===== -/
theorem s_clrF {p : Int} {s : MS} : pc (m_x8_clear_v2 p s) (fun o => gI o 1060 = p ∧ (∀ x, x < 48 → gA o 54 x = 0 ∧ gA o 55 x = 0) ∧ ∀ v, v < 8 → gA o 60 v = -2 ∧ gA o 61 v = -2) := by
  have L59 : ∀ (n : Nat) (i : Int) (S : MS), (0 ≤ i ∧ i ≤ 8) → gI S 1060 = p → (∀ x, x < 48 → gA S 54 x = 0 ∧ gA S 55 x = 0) → (∀ v : Nat, (v : Int) < i → gA S 60 v = -2 ∧ gA S 61 v = -2) → pc (m_x8_clear_v2_L59 n i S) (fun o => gI o 1060 = p ∧ (∀ x, x < 48 → gA o 54 x = 0 ∧ gA o 55 x = 0) ∧ ∀ v, v < 8 → gA o 60 v = -2 ∧ gA o 61 v = -2) := by
    refine fr_ind (fun _ _ _ _ _ _ => pc_none) (fun n ih i S hi h1 h2 h3 => ?_)
    show pc (m_x8_clear_v2_b59 (m_x8_clear_v2_L59 n) i S) _
    unfold m_x8_clear_v2_b59
    refine pc_rg (pc_if (fun c => pc_some ⟨h1, h2, fun v hv => h3 v (by omega)⟩) (fun c => pc_inb (pc_stn (fun s6 e6 => pc_inb (pc_stn (fun s8 e8 => ?_))))))
    have k60 : gA s8 60 = upZ (gA S 60) i.toNat (-2) := (q_Aa e8 (by decide) : gA s8 60 = gA s6 60).trans (q_AA e6)
    have k61 : gA s8 61 = upZ (gA S 61) i.toNat (-2) := by
      rw [(q_AA e8 : gA s8 61 = upZ (gA s6 61) i.toNat (-2)), (q_Aa e6 (by decide) : gA s6 61 = gA S 61)]
    have kk : ∀ k, k ≠ 60 → k ≠ 61 → gA s8 k = gA S k := fun k k1 k2 => (q_Aa e8 k2).trans (q_Aa e6 k1)
    refine ih (i + 1) s8 (by omega) ((q_Ai e8).trans ((q_Ai e6).trans h1)) (fun x hx => by rw [kk 54 (by decide) (by decide), kk 55 (by decide) (by decide)]; exact h2 x hx) (fun v hv => ?_)
    rw [k60, k61]
    by_cases z : v = i.toNat
    · rw [z, upZ_s, upZ_s]; exact ⟨rfl, rfl⟩
    · rw [upZ_n z, upZ_n z]; exact h3 v (by omega)
  have L17 : ∀ (n : Nat) (i : Int) (S : MS), (0 ≤ i ∧ i ≤ 48) → gI S 1060 = p → (∀ x : Nat, (x : Int) < i → gA S 54 x = 0 ∧ gA S 55 x = 0) → pc (m_x8_clear_v2_L17 n i S) (fun o => gI o 1060 = p ∧ (∀ x, x < 48 → gA o 54 x = 0 ∧ gA o 55 x = 0) ∧ ∀ v, v < 8 → gA o 60 v = -2 ∧ gA o 61 v = -2) := by
    refine fr_ind (fun _ _ _ _ _ => pc_none) (fun n ih i S hi h1 h2 => ?_)
    show pc (m_x8_clear_v2_b17 (m_x8_clear_v2_L17 n) i S) _
    unfold m_x8_clear_v2_b17
    refine pc_rg (pc_if (fun c => L59 FU 0 S (by omega) h1 (fun x hx => h2 x (by omega)) (fun v hv => absurd hv (by omega))) (fun c => pc_inb (pc_stn (fun s14 e14 => pc_inb (pc_stn (fun s16 e16 => pc_inb (pc_stn (fun s18 e18 => pc_inb (pc_stn (fun s20 e20 => ?_))))))))))
    have k54 : gA s20 54 = upZ (gA S 54) i.toNat 0 := (q_Aa e20 (by decide) : gA s20 54 = gA s18 54).trans ((q_Aa e18 (by decide) : gA s18 54 = gA s16 54).trans ((q_Aa e16 (by decide) : gA s16 54 = gA s14 54).trans (q_AA e14)))
    have k55 : gA s20 55 = upZ (gA S 55) i.toNat 0 := by
      rw [(q_Aa e20 (by decide) : gA s20 55 = gA s18 55), (q_Aa e18 (by decide) : gA s18 55 = gA s16 55), (q_AA e16 : gA s16 55 = upZ (gA s14 55) i.toNat 0), (q_Aa e14 (by decide) : gA s14 55 = gA S 55)]
    refine ih (i + 1) s20 (by omega) ((q_Ai e20).trans ((q_Ai e18).trans ((q_Ai e16).trans ((q_Ai e14).trans h1)))) (fun x hx => ?_)
    rw [k54, k55]
    by_cases z : x = i.toNat
    · rw [z, upZ_s, upZ_s]; exact ⟨rfl, rfl⟩
    · rw [upZ_n z, upZ_n z]; exact h2 x (by omega)
  unfold m_x8_clear_v2
  exact pc_stn (fun s21 e21 => pc_stn (fun s22 e22 => pc_stn (fun s23 e23 => L17 FU 0 s23 (by omega) ((q_Li e23).trans ((q_Ii e22 (by decide)).trans (q_II e21))) (fun x hx => absurd hx (by omega)))))
theorem m_go0 {a1 a2 a3 : Int} {t : MS} : pc (m_x12_actGoes 0 a1 a2 a3 t) (fun o => gA o 49 = upZ (gA t 49) a1.toNat 254 ∧ (∀ k, k ≠ 49 → gA o k = gA t k) ∧ (∀ k, gI o k = gI t k) ∧ (Rr t → Rr o)) := by
  unfold m_x12_actGoes m_x12_actGoes_J40
  refine pc_rg (pc_if (fun _ => pc_inb (pc_stn (fun o e => pc_some ⟨q_AA e, fun k hk => q_Aa e hk, fun k => q_Ai e, fun h => ?_⟩))) (fun d => absurd rfl d))
  exact e ▸ Rr.uAu h (by show (-2147483648 : Int) ≤ (254 : Int) ∧ (254 : Int) ≤ 2147483647; omega)
theorem m_go1 {a1 a2 a3 : Int} {t : MS} : pc (m_x12_actGoes 1 a1 a2 a3 t) (fun o => m_x12_copies a1 a2 t = some o) := by
  unfold m_x12_actGoes m_x12_actGoes_J40
  exact pc_rg (pc_if (fun d => absurd d (by decide)) (fun _ => pc_rg (pc_if (fun _ => pc_bn (fun o e => pc_some e)) (fun d => absurd rfl d))))
theorem m_go2 {p a1 a2 a3 : Int} {t : MS} (h : 2 ≤ p) : pc (m_x12_actGoes p a1 a2 a3 t) (fun o => ∃ r, m_x12_tries p a1 a2 a3 t = some (r, o)) := by
  unfold m_x12_actGoes m_x12_actGoes_J40
  refine pc_rg (pc_if (fun d => ?_) (fun _ => pc_rg (pc_if (fun d => ?_) (fun _ => pc_bn (fun q e => pc_some ⟨q.1, e⟩)))))
  · exfalso; omega
  · exfalso; omega
/-- both sides while they build -/
def BJ (K W F G A : Nat → Int) (c i : Int) (S T : MS) : Prop := (TE S ∧ gI S 585 = c ∧ gA S 31 = K ∧ gA S 32 = W ∧ gA S 33 = F ∧ gA S 34 = G) ∧ (Rr T ∧ RT T ∧ VR_r T (vt K i.toNat) ∧ CE T 0 ∧ CE T 1) ∧ (gA T 41 = A ∧ gA T 39 3 = c ∧ (8 ≤ gA T 39 5 ∧ gA T 39 5 ≤ 48) ∧ (3 ≤ gA T 39 6 ∧ gA T 39 6 ≤ 6)) ∧ gA T 49 785 = 0 ∧ J2 S T
theorem vt_step {K : Nat → Int} {i : Int} (hi : 0 ≤ i) : vt K (i + 1).toNat = vt K i.toNat + (if K i.toNat = 2 ∨ K i.toNat = 3 then 1 else 0) := by
  rw [show (i + 1).toNat = i.toNat + 1 by omega]
  rfl
set_option maxHeartbeats 1000000 in
theorem bj_vol {K W F G A : Nat → Int} {c i a2 a3 : Int} {S T S' T' : MS} (hi : 0 ≤ i) (B : BJ K W F G A c i S T) (k2 : K i.toNat = 2) (w0 : W i.toNat = vt K i.toNat) (v8 : vt K i.toNat + 1 ≤ 8) (e1 : sA S 60 (upZ (gA S 60) (W i.toNat).toNat (-1)) = S') (e2 : m_x12_actGoes 0 (W i.toNat) a2 a3 T = some T') : BJ K W F G A c (i + 1) S' T' := by
  obtain ⟨⟨hS, s5, s1, s2, s3, s4⟩, ⟨hT, rt, vr, c0, c1⟩, ⟨t41, t3, t5, t6⟩, t785, ⟨π, σ, lo, hh, H, O⟩, Z⟩ := B
  obtain ⟨g49, gk, gi, gr⟩ := m_go0 T' e2
  have v0 := vt_nn K i.toNat
  obtain ⟨v, hv⟩ : ∃ v : Nat, vt K i.toNat = (v : Int) := ⟨(vt K i.toNat).toNat, by omega⟩
  have v8' : v < 8 := by omega
  rw [w0, hv, Int.toNat_natCast] at e1 g49
  have vs : vt K (i + 1).toNat = (v : Int) + 1 := by rw [vt_step hi, if_pos (Or.inl k2), hv]
  rw [hv] at vr
  have r255 : gA T 49 v = 255 := vr.2.2 v (Int.le_refl _) (by omega)
  have ab : gA S 60 v = -2 := (rtr_e (H.1.2.2.2 v v8').1).1.2 r255
  have g60 : gA S' 60 = upZ (gA S 60) v (-1) := q_AA e1
  have kk : ∀ k, k ≠ 60 → gA S' k = gA S k := fun k h => q_Aa e1 h
  have kI : ∀ k, gI S' k = gI S k := fun k => q_Ai e1
  have hR' : Rg S' := e1 ▸ Rg.uAu hS.1 (by show (-2 : Int) ≤ -1 ∧ (-1 : Int) ≤ 253; omega)
  have TR := TG_root (v := v) (q := -1) hS.2.1 (by omega) (Or.inr (Or.inl (by omega)))
  have TS' : TS S' Z0 (-1) := by
    refine TS_mk (TG_D TR (fun x hx => ?_)) (hN_eq (kk 56 (by decide)) (kk 57 (by decide)) (kk 59 (by decide))) (kN_eq (kk 58 (by decide))) (kI _) (kI _) (kk 54 (by decide)) (kk 55 (by decide)) g60 (kk 61 (by decide))
    show (0 : Int) = 0 + (if gA S 60 v = (x : Int) then 1 else 0) - (if (-1 : Int) = (x : Int) then 1 else 0)
    rw [ab, if_neg (by omega), if_neg (by omega)]; rfl
  have u49 : ∀ u, u ≠ v → gA T' 49 u = gA T 49 u := fun u hu => by rw [g49, upZ_n hu]
  refine ⟨⟨⟨hR', TS', by rw [kI]; exact hS.2.2⟩, (kI _).trans s5, (kk 31 (by decide)).trans s1, (kk 32 (by decide)).trans s2, (kk 33 (by decide)).trans s3, (kk 34 (by decide)).trans s4⟩, ⟨gr hT, RT_gone (v := v) rt v8' (gk 39 (by decide)) g49 (by omega) (by rw [r255]; decide), ?_, CE_eq c0 (gk 42 (by decide)) (gk 43 (by decide)) (gk 44 (by decide)), CE_eq c1 (gk 42 (by decide)) (gk 43 (by decide)) (gk 44 (by decide))⟩, ⟨(gk 41 (by decide)).trans t41, by rw [gk 39 (by decide)]; exact t3, by rw [gk 39 (by decide)]; exact t5, by rw [gk 39 (by decide)]; exact t6⟩, by rw [u49 785 (by omega)]; exact t785, ⟨π, σ, lo, hh, ?_, ?_⟩, ?_⟩
  · rw [vs]
    refine VR_new vr (by omega) (fun u _ hu => u49 u (by rw [Int.toNat_natCast] at hu; exact hu)) ?_
    rw [Int.toNat_natCast, g49, upZ_s]; omega
  · exact sim_root H v8' (fun k _ _ k3 => kk k k3) g60 (kI _) (q_Al e1) g49 (by rw [gk 39 (by decide)]) (gk 54 (by decide)) (Or.inl ⟨rfl, rfl⟩)
  · refine OI_x O (fun x hx k k2 k16 => u49 _ (by omega)) (fun x hx hl => ?_)
    have cE : cM T' x = cM T x := u49 (17 + 16 * x) (by omega)
    have vE : vM T' x = vM T x := u49 (18 + 16 * x) (by omega)
    unfold LV at hl ⊢
    rw [cE, vE] at hl; exact hl
  · exact ZP_k Z (kI _) (kI _) (fun k k1 k2 => kk k (by omega)) (fun k hk => gk k (by omega))
set_option maxHeartbeats 1000000 in
theorem bj_clone {K W F G A : Nat → Int} {c i a3 : Int} {S T S' T' : MS} (hi : 0 ≤ i) (B : BJ K W F G A c i S T) (k3 : K i.toNat = 3) (w0 : W i.toNat = vt K i.toNat) (f0 : 0 ≤ F i.toNat ∧ F i.toNat < vt K i.toNat) (v8 : vt K i.toNat + 1 ≤ 8) (e1 : m_x1_share (F i.toNat) (W i.toNat) S = some S') (e2 : m_x12_actGoes 1 (F i.toNat) (W i.toNat) a3 T = some T') : BJ K W F G A c (i + 1) S' T' := by
  obtain ⟨⟨hS, s5, s1, s2, s3, s4⟩, ⟨hT, rt, vr, c0, c1⟩, ⟨t41, t3, t5, t6⟩, t785, ⟨π, σ, lo, hh, H, O⟩, Z⟩ := B
  have f3 := m_go1 T' e2
  obtain ⟨v, hv⟩ : ∃ v : Nat, vt K i.toNat = (v : Int) := ⟨(vt K i.toNat).toNat, by omega⟩
  obtain ⟨u, hu⟩ : ∃ u : Nat, F i.toNat = (u : Int) := ⟨(F i.toNat).toNat, by omega⟩
  have v8' : v < 8 := by omega
  have u8 : u < 8 := by omega
  rw [w0, hv, hu] at e1 f3
  have vs : vt K (i + 1).toNat = (v : Int) + 1 := by rw [vt_step hi, if_pos (Or.inr k3), hv]
  rw [hv] at vr
  have r255 : gA T 49 v = 255 := vr.2.2 v (Int.le_refl _) (by omega)
  have ru := vr.2.1 u (by omega)
  have n255 : gA T 49 u ≠ 255 := by omega
  have rtr1 := H.1.2.2.2
  have ab : gA S 60 v = -2 := (rtr_e (rtr1 v v8').1).1.2 r255
  have pr : gA S 60 u ≠ -2 := fun z => n255 ((rtr_e (rtr1 u u8).1).1.1 z)
  have W3 := wp_det (w_x12_copies hT (p0 := (u : Int)) (p1 := (v : Int)) ⟨by omega, by omega⟩ ⟨by omega, by omega⟩ rt (by rw [Int.toNat_natCast]; exact r255) (by rw [Int.toNat_natCast]; exact ru)) f3
  rw [Int.toNat_natCast, Int.toNat_natCast] at W3
  obtain ⟨R3, RT3, k785, u3, v3⟩ := W3
  have F3 : F_x12_copies T T' := fr_x12_copies f3
  have FS : F_x1_share S S' := fr_x1_share e1
  have T16 := (wp_det (ts_share hS (p0 := (u : Int)) (p1 := (v : Int)) ⟨by omega, by omega⟩ ⟨by omega, by omega⟩ (by rw [Int.toNat_natCast]; exact pr) (by rw [Int.toNat_natCast]; exact ab)) e1).1
  have root : 0 ≤ gA T 49 u → gA T 49 u < 254 → gA T 49 u < 48 ∧ 0 < cM T (gA T 49 u).toNat := fun x y => by
    have q := TG_root_live (v := u) rt.1 (fun _ _ => Int.le_refl 0) u8 (by rw [rM_v u8]; exact x) (by rw [rM_v u8]; omega)
    rw [rM_v u8] at q
    exact ⟨by omega, q.2⟩
  have HS : SIM π σ S' T' := y_share H u8 v8' root n255 S' e1 T' f3
  obtain ⟨mc1, mc2⟩ := m_cop v8' u8 T' f3
  refine ⟨⟨T16, (FS.1 585 (by simp)).trans s5, (FS.2.1 31 (by decide)).trans s1, (FS.2.1 32 (by decide)).trans s2, (FS.2.1 33 (by decide)).trans s3, (FS.2.1 34 (by decide)).trans s4⟩, ⟨R3, RT3, ?_, CE_eq c0 (F3.2.1 42 (by decide)) (F3.2.1 43 (by decide)) (F3.2.1 44 (by decide)), CE_eq c1 (F3.2.1 42 (by decide)) (F3.2.1 43 (by decide)) (F3.2.1 44 (by decide))⟩, ⟨(F3.2.1 41 (by decide)).trans t41, by rw [F3.2.1 39 (by decide)]; exact t3, by rw [F3.2.1 39 (by decide)]; exact t5, by rw [F3.2.1 39 (by decide)]; exact t6⟩, by rw [k785 785 (by omega)]; exact t785, ⟨π, σ, lo, hh, HS, ?_⟩, ?_⟩
  · rw [vs]
    refine VR_new vr (by omega) (fun w hw hn => u3 w (by omega) (by rw [Int.toNat_natCast] at hn; exact hn)) ?_
    rw [Int.toNat_natCast, v3]; exact ru
  · refine OI_x O (fun x hx k k2 k16 => mc1 _ (by omega) (by omega)) (fun x hx hl => ?_)
    have vE : vM T' x = vM T x := mc1 (18 + 16 * x) (by omega) (by omega)
    unfold LV at hl ⊢
    rw [vE] at hl
    rcases hl with w | w
    · rcases mc2 x with y | y
      · rw [y] at w; exact Or.inl w
      · have q := root (by omega) (by omega)
        rw [y, Int.toNat_natCast] at q
        exact Or.inl q.2
    · exact Or.inr w
  · exact ZP_k Z (FS.1 581 (by simp)) (FS.1 741 (by simp)) (fun k k1 k2 => FS.2.1 k (by simp; omega)) (fun k hk => F3.2.1 k (by simp; omega))
set_option maxHeartbeats 1000000 in
/-- an act that is tried while they build -/
theorem bj_try {K W F G A : Nat → Int} {c i p f g : Int} {S T : MS} {q o : Int × MS} {w : Nat} (hi : 0 ≤ i) (B : BJ K W F G A c i S T) (k2 : ¬ (K i.toNat = 2 ∨ K i.toNat = 3)) (hw : (w : Int) < vt K i.toNat) (v8 : vt K i.toNat ≤ 8) (hp : p = 2 ∨ p = 3) (hpk : p = 2 → (0 ≤ f ∧ f ≤ 999) ∧ (0 ≤ g ∧ g ≤ 999)) (h2 : R2 f) (h3 : R2 g) (T1 : TE q.2) (F1 : F_x1_tryPlant S q.2 ∨ F_x1_tryUproot S q.2) (e2 : m_x12_tries p (w : Int) f g T = some o) (J : TRY q o) : BJ K W F G A c (i + 1) q.2 o.2 := by
  obtain ⟨⟨hS, s5, s1, s2, s3, s4⟩, ⟨hT, rt, vr, c0, c1⟩, ⟨t41, t3, t5, t6⟩, t785, _⟩ := B
  have w8 : w < 8 := by omega
  have rw' := vr.2.1 w hw
  have FT : F_x12_tries T o.2 := fr_x12_tries e2
  have W3 := wp_det (w_x12_tries hT hp (p1 := (w : Int)) ⟨by omega, by omega⟩ rt c0 c1 (by omega) t6 (by rw [Int.toNat_natCast]; omega) hpk h2 h3) e2
  rw [Int.toNat_natCast] at W3
  obtain ⟨R3, _, KS3, RT3, RW3, _⟩ := W3
  have kI : gI q.2 585 = gI S 585 := by
    rcases F1 with F1 | F1
    · exact F1.1 585 (by decide)
    · exact F1.1 585 (by decide)
  have kA : ∀ k, 31 ≤ k → k ≤ 34 → gA q.2 k = gA S k := fun k k1 k2 => by
    rcases F1 with F1 | F1
    · exact F1.2.1 k (by simp; omega)
    · exact F1.2.1 k (by simp; omega)
  obtain ⟨_, _, π, σ, lo, hh, H, Z, O⟩ := J
  refine ⟨⟨T1, kI.trans s5, (kA 31 (by decide) (by decide)).trans s1, (kA 32 (by decide) (by decide)).trans s2, (kA 33 (by decide) (by decide)).trans s3, (kA 34 (by decide) (by decide)).trans s4⟩, ⟨R3, RT3, ?_, CE_eq c0 (FT.2.1 42 (by decide)) (FT.2.1 43 (by decide)) (FT.2.1 44 (by decide)), CE_eq c1 (FT.2.1 42 (by decide)) (FT.2.1 43 (by decide)) (FT.2.1 44 (by decide))⟩, ⟨(FT.2.1 41 (by decide)).trans t41, by rw [FT.2.1 39 (by decide)]; exact t3, by rw [FT.2.1 39 (by decide)]; exact t5, by rw [FT.2.1 39 (by decide)]; exact t6⟩, by rw [KS3.2 785 (by omega)]; exact t785, ⟨π, σ, lo, hh, H, O⟩, Z⟩
  rw [vt_step hi, if_neg k2, Int.add_zero]
  exact VR_w vr hw RW3
/-- what both sides have when the store stands -/
def BE (s t : MS) : Prop := gI s 1060 = gA t 39 5 ∧ R0 s t ∧ gA t 49 785 = 0 ∧ gI t 76 = 0
theorem st_step {m : Nat} {i : Int} {T : MS} (hi : 0 ≤ i) (h : i < gA T 39 3) {P : MS → Prop} (g : ∀ T', m_x12_actGoes (gA T 41 (4 * i.toNat)) (gA T 41 (4 * i.toNat + 1)) (gA T 41 (4 * i.toNat + 2)) (gA T 41 (4 * i.toNat + 3)) T = some T' → pc (m_x12_stands_L193 m (i + 1) T') P) : pc (m_x12_stands_L193 (m + 1) i T) P := by
  show pc (m_x12_stands_b193 (m_x12_stands_L193 m) i T) P
  unfold m_x12_stands_b193
  have t0 : Int.toNat (4 * i) = 4 * i.toNat := by omega
  have t1 : Int.toNat (4 * i + 1) = 4 * i.toNat + 1 := by omega
  have t2 : Int.toNat (4 * i + 2) = 4 * i.toNat + 2 := by omega
  have t3 : Int.toNat (4 * i + 3) = 4 * i.toNat + 3 := by omega
  refine pc_rdI (fun _ => pc_rg (pc_rg (pc_if (fun d => ?_) (fun _ => pc_rdI (fun _ => pc_rdI (fun _ => pc_rdI (fun _ => pc_rdI (fun _ => pc_bn (fun T' e => ?_)))))))))
  · exact absurd (show gA T 39 3 ≤ i from d) (by omega)
  · rw [t0, t1, t2, t3] at e
    exact g T' e
set_option maxHeartbeats 2000000 in
theorem y_buildL {K W F G A : Nat → Int} {c V : Int} (hP : PV K W F G c.toNat V) (hV : V ≤ 8) (hA : ∀ a : Nat, (a : Int) < c → AC1 (K a) (W a) (F a) (G a) (A (4 * a)) (A (4 * a + 1)) (A (4 * a + 2)) (A (4 * a + 3))) : ∀ (n m : Nat) (i : Int) (S T : MS), 0 ≤ i → BJ K W F G A c i S T → pc (m_x1_build_L18 n i S) (fun s' => pc (m_x12_stands_L193 m i T) (fun t' => BE s' t')) := by
  refine fr_ind (fun _ _ _ _ _ _ => pc_none) (fun n ih m i S T hi B => ?_)
  cases m with
  | zero => exact fun q _ => pc_none
  | succ m =>
    have B0 := B
    obtain ⟨⟨hS, s5, s1, s2, s3, s4⟩, ⟨hT, rt, vr, c0, c1⟩, ⟨t41, t3, t5, t6⟩, t785, ⟨π, σ, lo, hh, H, O⟩, Z⟩ := B
    show pc (m_x1_build_b18 (m_x1_build_L18 n) i S) _
    unfold m_x1_build_b18 m_x1_build_J135
    refine pc_rg (pc_rg (pc_if (fun c1' => ?_) (fun c1' => pc_rdI (fun _ => pc_rdI (fun _ => ?_)))))
    · refine pc_bn (fun s9 e9 => pc_stn (fun s10 e10 => pc_stn (fun s11 e11 => pc_some ?_)))
      show pc (m_x12_stands_b193 (m_x12_stands_L193 m) i T) _
      unfold m_x12_stands_b193
      refine pc_rdI (fun _ => pc_rg (pc_rg (pc_if (fun d => pc_bn (fun s8 e8 => pc_inb (pc_stn (fun t10 f10 => pc_stn (fun t11 f11 => pc_stn (fun t12 f12 => pc_some ?_)))))) (fun d => ?_))))
      · have HS := y_save H hS.1 hT e9 e8
        have O8 := OI_checks O hT e8
        have F8 : F_x12_checks T s8 := fr_x12_checks e8
        have W8 := (wp_det (w_x12_checks hT) e8).2.1
        have k49 : gA t12 49 = upZ (gA s8 49) 16 0 := ((q_Ia f12).trans (q_Ia f11)).trans (q_AA f10)
        have k39 : gA t12 39 = gA s8 39 := ((q_Ia f12).trans (q_Ia f11)).trans (q_Aa f10 (by decide))
        have e49 : ∀ k, k ≠ 16 → gA t12 49 k = gA s8 49 k := fun k hk => by rw [k49, upZ_n hk]
        have s60 : gI s11 1060 = gI s9 1060 := (q_Li e11).trans (q_Ii e10 (by decide))
        refine ⟨by rw [s60, k39]; exact HS.2.1, ⟨π, σ, lo, hh, ?_, OI_16 O8 (fun k _ h16 => e49 k h16)⟩, ?_, ?_⟩
        · rw [s60]
          exact TRf_rows (TRf_x HS.1 (fun k _ h16 => e49 k h16)) (fun k _ _ => (q_La e11).trans (q_Ia e10))
        · rw [e49 785 (by decide), W8 785 (by omega) (fun p hp => by omega)]; exact t785
        · exact (q_Ii f12 (by decide)).trans (q_II f11)
      · exact absurd (show gA T 39 3 ≤ i by omega) d
    · have ci : i < c := by omega
      have rcd := hP.1 i.toNat (by omega)
      have ac := hA i.toNat (by omega)
      have vm : vt K (i.toNat + 1) ≤ V := by rw [← hP.2]; exact vt_mono (by omega)
      have vsu : vt K (i.toNat + 1) = vt K i.toNat + (if K i.toNat = 2 ∨ K i.toNat = 3 then 1 else 0) := rfl
      have v0 := vt_nn K i.toNat
      rw [s1, s2]
      unfold Rec at rcd
      unfold AC1 at ac
      refine pc_rg (pc_if (fun c2 => ?_) (fun c2 => pc_if (fun c3 => ?_) (fun c3 => pc_if (fun c4 => ?_) (fun c4 => pc_if (fun c5 => ?_) (fun c5 => pc_if (fun c6 => ?_) (fun c6 => ?_))))))
      · rw [if_pos (Or.inl c2)] at vsu
        have w0 : W i.toNat = vt K i.toNat := by omega
        have a0 : A (4 * i.toNat) = 0 ∧ A (4 * i.toNat + 1) = W i.toNat := by omega
        refine pc_inb (pc_stn (fun s17 e17 => fun q eq => st_step hi (by omega) (fun T' e => ?_)))
        rw [t41, a0.1, a0.2] at e
        exact ih m (i + 1) s17 T' (by omega) (bj_vol hi B0 c2 w0 (by omega) e17 e) q eq
      · rw [if_pos (Or.inr c3)] at vsu
        have w0 : W i.toNat = vt K i.toNat := by omega
        have f0 : 0 ≤ F i.toNat ∧ F i.toNat < vt K i.toNat := by omega
        have a0 : A (4 * i.toNat) = 1 ∧ A (4 * i.toNat + 1) = F i.toNat ∧ A (4 * i.toNat + 2) = W i.toNat := by omega
        refine pc_rdI (fun _ => pc_bn (fun s21 e21 => fun q eq => st_step hi (by omega) (fun T' e => ?_)))
        rw [t41, a0.1, a0.2.1, a0.2.2] at e
        rw [s3] at e21
        exact ih m (i + 1) s21 T' (by omega) (bj_clone hi B0 c3 w0 f0 (by omega) e21 e) q eq
      · exfalso; omega
      · rw [if_neg (by omega)] at vsu
        have b0 : (0 ≤ W i.toNat ∧ W i.toNat < vt K i.toNat) ∧ (0 ≤ F i.toNat ∧ F i.toNat ≤ 999) ∧ (0 ≤ G i.toNat ∧ G i.toNat ≤ 999) := by omega
        have a0 : A (4 * i.toNat) = 2 ∧ A (4 * i.toNat + 1) = W i.toNat ∧ A (4 * i.toNat + 2) = F i.toNat ∧ A (4 * i.toNat + 3) = G i.toNat := by omega
        obtain ⟨w, hw⟩ : ∃ w : Nat, W i.toNat = (w : Int) := ⟨(W i.toNat).toNat, by omega⟩
        refine pc_rdI (fun _ => pc_rdI (fun _ => pc_bn (fun q28 e28 => fun q eq => st_step hi (by omega) (fun T' e => ?_))))
        rw [t41, a0.1, a0.2.1, a0.2.2.1, a0.2.2.2, hw] at e
        rw [s3, s4, hw] at e28
        obtain ⟨r, e⟩ := m_go2 (by decide) T' e
        have rw' := vr.2.1 w (by omega)
        have r1061 : (0 : Int) ≤ gI S 1061 ∧ gI S 1061 ≤ 999999 := hS.1.1 1061
        have pr : gA S 60 w ≠ -2 := fun z => by
          have y := (rtr_e (H.1.2.2.2 w (by omega)).1).1.1 z
          omega
        have J := y_tryPlant H Z hS.1 hT hS.2.1 rt c0 c1 (by omega) t6 hS.2.2 r1061.2 (by omega) (by omega) O b0.2.1 b0.2.2 q28 e28 (r, T') e
        have T1 := (wp_det (ts_tryPlant hS (p0 := (w : Int)) ⟨by omega, by omega⟩ (by rw [Int.toNat_natCast]; exact pr) b0.2.1 b0.2.2) e28).1
        exact ih m (i + 1) q28.2 T' (by omega) (bj_try (o := (r, T')) hi B0 (by omega) (by omega) (by omega) (Or.inl rfl) (fun _ => b0.2) ⟨by omega, by omega⟩ ⟨by omega, by omega⟩ T1 (Or.inl (fr_x1_tryPlant e28)) e J) q eq
      · rw [if_neg (by omega)] at vsu
        have b0 : (0 ≤ W i.toNat ∧ W i.toNat < vt K i.toNat) ∧ (0 ≤ F i.toNat ∧ F i.toNat ≤ 999) := by omega
        have a0 : A (4 * i.toNat) = 3 ∧ A (4 * i.toNat + 1) = W i.toNat ∧ A (4 * i.toNat + 2) = F i.toNat := by omega
        obtain ⟨w, hw⟩ : ∃ w : Nat, W i.toNat = (w : Int) := ⟨(W i.toNat).toNat, by omega⟩
        refine pc_rdI (fun _ => pc_bn (fun q33 e33 => fun q eq => st_step hi (by omega) (fun T' e => ?_)))
        have b41 : (-2147483648 : Int) ≤ gA T 41 (4 * i.toNat + 3) ∧ gA T 41 (4 * i.toNat + 3) ≤ 2147483647 := hT.2.1 41 (4 * i.toNat + 3) (by
          have : (0 : Int) ≤ gI S 585 ∧ gI S 585 ≤ 60 := hS.1.1 585
          show 4 * i.toNat + 3 < 240
          omega)
        rw [t41] at b41
        rw [t41, a0.1, a0.2.1, a0.2.2, hw] at e
        rw [s3, hw] at e33
        obtain ⟨r, e⟩ := m_go2 (by decide) T' e
        have r1061 : (0 : Int) ≤ gI S 1061 ∧ gI S 1061 ≤ 999999 := hS.1.1 1061
        have rw' := vr.2.1 w (by omega)
        have pr : gA S 60 w ≠ -2 := fun z => by
          have y := (rtr_e (H.1.2.2.2 w (by omega)).1).1.1 z
          omega
        have J := y_tryUproot (val := A (4 * i.toNat + 3)) H Z hS.1 hS.2.1 rt c0 (by omega) t6 hS.2.2 r1061.2 (by omega) O ⟨by omega, by omega⟩ hT q33 e33 (r, T') e
        have T1 := (wp_det (ts_tryUproot hS (p0 := (w : Int)) (p1 := F i.toNat) ⟨by omega, by omega⟩ (by rw [Int.toNat_natCast]; exact pr) ⟨by omega, by omega⟩) e33).1
        exact ih m (i + 1) q33.2 T' (by omega) (bj_try (o := (r, T')) hi B0 (by omega) (by omega) (by omega) (Or.inr rfl) (fun z => absurd z (by decide)) ⟨by omega, by omega⟩ b41 T1 (Or.inr (fr_x1_tryUproot e33)) e J) q eq
      · exfalso; omega
