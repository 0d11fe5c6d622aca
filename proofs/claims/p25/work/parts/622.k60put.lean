/-! ===== a put, whole: both sides ===== -/
theorem OI_root {t w : MS} {lo hi : Nat → Int} {b r : Nat} (H : OI t lo hi) (hK : KLV t) (hb : b < 48) (lb : LV t b) (nl : ¬ LV t r) (hr : (hM w).1 r = (hM t).1 b + 1 ∧ (hM w).2.1 r = 1 ∧ (hM w).2.2 r 0 = (b : Int)) (ho : ∀ x, x ≠ r → ROW t x w x) (hl : ∀ x, x < 48 → LV w x → x = r ∨ LV t x) : OI w (upZ lo r (lo b)) (upZ hi r (hi b)) := fun x hx hlx => by
  have nbr : b ≠ r := fun e => nl (by rw [← e]; exact lb)
  by_cases e : x = r
  · rw [e]
    have l0 := (hK.2.1 b hb lb).1.1.1
    refine ⟨by rw [upZ_s, upZ_s]; exact (H b hb lb).1, fun w => by rw [hr.1] at w; omega, fun _ k hk => ?_⟩
    rw [hr.2.1] at hk ⊢
    have k0 : k = 0 := by omega
    rw [k0, hr.2.2, Int.toNat_natCast, upZ_s, upZ_s, upZ_n nbr, upZ_n nbr]
    exact ⟨⟨Int.le_refl _, Int.le_refl _⟩, fun z => absurd z (by decide), fun z => absurd z (by decide)⟩
  · have lx := (hl x hx hlx).resolve_left e
    refine OBk_r (H x hx lx) (ho x e) (by rw [upZ_n e, upZ_n e]; exact ⟨Int.le_refl _, Int.le_refl _⟩) (fun w j hj => ?_)
    have kid := ((hK.2.1 x hx lx).2 w j hj).2
    have ne : ((hM t).2.2 x j).toNat ≠ r := fun z => nl (by rw [← z]; exact kid)
    rw [upZ_n ne, upZ_n ne]
    exact ⟨Int.le_refl _, Int.le_refl _⟩
theorem OI_hfe {t : MS} {lo hi : Nat → Int} {a b k : Nat} {key : Int} {o : Int × MS} (H : OI t lo hi) (hK : KLV t) (hRt : Rr t) (hN : 0 ≤ gA t 39 5 ∧ gA t 39 5 ≤ 48) (hC : CE t 0) (h0 : gI t 55 = 0) (ha : a < 48) (hb : b < 48) (la : LV t a) (lb : LV t b) (hlev : 0 < (hM t).1 a) (hk : (k : Int) < (hM t).2.1 a) (hv : (hM t).2.2 a k = (b : Int)) (hz : 2 ≤ (hM t).2.1 b) (hz5 : (hM t).2.1 a ≤ 5) (hab : a ≠ b) (hky : lo b ≤ key ∧ key ≤ hi b)
    (e : m_x12_half (a : Int) (k : Int) (b : Int) key t = some o) (h55 : gI o.2 55 = 0) : ∃ lo' hi', OI o.2 lo' hi' ∧ (lo' o.1.toNat ≤ key ∧ key ≤ hi' o.1.toNat) := by
  have nc := (hK.2.1 b hb lb).1
  obtain ⟨o1, eo1, HF⟩ := m_half hRt hN hC h0 hb lb ⟨nc.1.1, nc.2⟩ ⟨hz, nc.1.2.1.2⟩ o e
  have W2 := (wp_det (w_x12_taken hRt hN hC (p0 := (hM t).1 b) (p1 := (b : Int)) ⟨nc.1.1, by have := nc.2; omega⟩ ⟨by omega, by omega⟩) eo1).2.2
  rcases W2 with w | ⟨_, w1, w2, w3⟩
  · exfalso
    rcases HF with ⟨_, e⟩ | ⟨w', _⟩
    · rw [e] at h55
      have z0' : gI o1.2 55 = 0 := h55
      omega
    · omega
  · exact OI_hf H hK ha hb la lb hlev hk hv hz hz5 hab hky h55 ⟨⟨w1.1, by omega⟩, w2, w3⟩ HF
/-- the root's own interval takes the key in -/
theorem OI_rt {T S : MS} {lo hi : Nat → Int} {y r : Nat} {key : Int} (H : OI T lo hi) (hK : KLV T) (y48 : y < 48) (ly : LV T y) (hr : ROW T y S r) (ho : ∀ x, x ≠ r → ROW T x S x) (hl : ∀ x, x < 48 → LV S x → x = r ∨ LV T x) (hc : (r = y ∧ ∀ p k' : Nat, p < 48 → LV T p → 0 < (hM T).1 p → (k' : Int) < (hM T).2.1 p → (hM T).2.2 p k' ≠ (y : Int)) ∨ ¬ LV T r) : OI S (upZ lo r (min (lo y) key)) (upZ hi r (max (hi y) key)) ∧ (upZ lo r (min (lo y) key) r ≤ key ∧ key ≤ upZ hi r (max (hi y) key) r) := by
  have nor : ∀ p k' : Nat, p < 48 → LV T p → 0 < (hM T).1 p → (k' : Int) < (hM T).2.1 p → ((hM T).2.2 p k').toNat ≠ r := fun p k' hp lp hlp hk' e => by
    have kid := (hK.2.1 p hp lp).2 hlp k' hk'
    rcases hc with ⟨h1, h2⟩ | h2
    · exact h2 p k' hp lp hlp hk' (by rw [← h1, ← e]; omega)
    · rw [e] at kid; exact h2 kid.2
  refine ⟨fun x hx hlx => ?_, by rw [upZ_s, upZ_s]; omega⟩
  by_cases e : x = r
  · rw [e]
    refine OBk_r (H y y48 ly) hr (by rw [upZ_s, upZ_s]; omega) (fun w j hj => ?_)
    have ne := nor y j y48 ly w hj
    rw [upZ_n ne, upZ_n ne]
    exact ⟨Int.le_refl _, Int.le_refl _⟩
  · have lx := (hl x hx hlx).resolve_left e
    refine OBk_r (H x hx lx) (ho x e) (by rw [upZ_n e, upZ_n e]; exact ⟨Int.le_refl _, Int.le_refl _⟩) (fun w j hj => ?_)
    have ne := nor x j hx lx w hj
    rw [upZ_n ne, upZ_n ne]
    exact ⟨Int.le_refl _, Int.le_refl _⟩
/-- a root that is counted once is named by nobody -/
theorem one_rt {t : MS} {D : Nat → Int} {e : Int} (T : TM t D e) {b v : Nat} (hv : v < 8) (hb : b < 48) (hDb : D b = 0) (hr : gA t 49 v = (b : Int)) (hcb : cM t b = 1) : ∀ p k' : Nat, p < 48 → 0 < cM t p → 0 < (hM t).1 p → (k' : Int) < (hM t).2.1 p → (hM t).2.2 p k' ≠ (b : Int) := by
  intro p k' hp hcp hlp hk' hv'
  have d := T.2.1.1 b hb
  rw [hDb] at d
  unfold df rf at d
  have r1 : 1 ≤ rr (rM t) (b : Int) := by
    have g := rr_pos (r := rM t) hv
    rw [rM_v hv, hr] at g
    exact g
  have f0 : ∀ j, j < 48 → (0 : Int) ≤ (fun p => if 0 < cM t p then en (hM t) p (b : Int) else 0) j := fun j _ => by
    show (0 : Int) ≤ if 0 < cM t j then en (hM t) j (b : Int) else 0
    split
    · exact en_nn _ _ _
    · exact Int.le_refl 0
  have zp := (TG_nd T hp hcp).2.1
  have ep : 1 ≤ en (hM t) p (b : Int) := by
    have g := enf_pos (h := hM t) (p := p) (k := k') (i := 0) hlp hk' (by omega) (by omega)
    rw [hv'] at g
    exact g
  have q := sm_ge (n := 48) (i := p) hp f0
  (try dsimp only at q)
  rw [if_pos hcp] at q
  omega
/-! each side by itself -/
theorem s_J95 {key val x : Int} {S : MS} {Q : Int × MS → Prop} (K0 : x = -1 → pc (m_x1_plant_L117 FU key val (-1) 0 S) Q) (K : x ≠ -1 → pc (m_x1_plant_L117 FU key val x (gA S 56 x.toNat) S) Q) : pc (m_x1_plant_J95 key val x S) Q := by
  unfold m_x1_plant_J95 m_x1_plant_J115
  refine pc_rg (pc_if (fun c => ?_) (fun c => pc_rdI (fun _ => K c)))
  have k := K0 c
  rw [c]; exact k
theorem s_J36 {v : Nat} {key val x : Int} {S : MS} {Q : Int × MS → Prop} (K0 : x = -1 → Q (0, S)) (K : x ≠ -1 → ∀ (s67 : MS) (q70 : Int × MS), sA S 60 (upZ (gA S 60) v x) = s67 → m_x1_splits x s67 = some q70 → (q70.1 = 0 → pc (m_x1_plant_J95 key val x q70.2) Q) ∧ (q70.1 ≠ 0 → ∀ q75 : Int × MS, m_x1_raiseRoot (v : Int) q70.2 = some q75 → (q75.1 = -1 → pc (m_x1_plant_J95 key val (-1) q75.2) Q) ∧ (q75.1 ≠ -1 → ∀ q80 : Int × MS, m_x1_split q75.1 0 x key q75.2 = some q80 → pc (m_x1_plant_J95 key val q80.1 q80.2) Q))) : pc (m_x1_plant_J36 (v : Int) key val x S) Q := by
  have tv : ((v : Nat) : Int).toNat = v := Int.toNat_natCast _
  unfold m_x1_plant_J36 m_x1_plant_J93
  refine pc_rg (pc_if (fun c => pc_some (K0 c)) (fun c => pc_inb (pc_stn (fun s67 e67 => pc_bn (fun q70 e70 => ?_)))))
  rw [tv] at e67
  have k := K c s67 q70 e67 e70
  exact pc_rg (pc_if (fun c2 => k.1 c2) (fun c2 => pc_bn (fun q75 e75 => pc_rg (pc_if (fun c3 => (k.2 c2 q75 e75).1 c3) (fun c3 => pc_bn (fun q80 e80 => (k.2 c2 q75 e75).2 c3 q80 e80))))))
theorem m_put0 {v : Nat} {key val : Int} {t : MS} {Q : MS → Prop} (hr : gA t 49 v = 254) (K : ∀ q75 : Int × MS, m_x12_taken 0 48 t = some q75 → (gI q75.2 55 ≠ 0 → Q q75.2) ∧ (gI q75.2 55 = 0 → ∀ s79 s81 : MS, m_x12_inserts q75.1 0 key val q75.2 = some s79 → sA s79 49 (upZ (gA s79 49) v q75.1) = s81 → Q s81)) : pc (m_x12_puts (v : Int) key val t) Q := by
  have tv : ((v : Nat) : Int).toNat = v := Int.toNat_natCast _
  unfold m_x12_puts
  refine pc_rdI (fun _ => ?_)
  rw [tv]
  refine pc_rg (pc_if (fun _ => pc_bn (fun q75 e75 => pc_rg (pc_if (fun c => pc_bn (fun s79 e79 => pc_inb (pc_stn (fun s81 e81 => pc_some ?_)))) (fun c => pc_some ((K q75 e75).1 c))))) (fun c => absurd hr c))
  exact (K q75 e75).2 c s79 s81 e79 e81
theorem m_put1 {v : Nat} {key val : Int} {t : MS} {Q : MS → Prop} (hr : gA t 49 v ≠ 254) (K : ∀ q60 : Int × MS, m_x12_owned (gA t 49 v) t = some q60 → (gI q60.2 55 ≠ 0 → Q q60.2) ∧ (gI q60.2 55 = 0 → ∀ (s64 : MS) (q67 : Int × MS), sA q60.2 49 (upZ (gA q60.2 49) v q60.1) = s64 → m_x12_doesSplit q60.1 s64 = some q67 → (q67.1 = 0 → pc (m_x12_puts_L94 FU key val q60.1 q67.2) Q) ∧ (q67.1 ≠ 0 → ∀ q72 : Int × MS, m_x12_rootSplit (v : Int) q60.1 key q67.2 = some q72 → pc (m_x12_puts_L94 FU key val q72.1 q72.2) Q))) : pc (m_x12_puts (v : Int) key val t) Q := by
  have tv : ((v : Nat) : Int).toNat = v := Int.toNat_natCast _
  unfold m_x12_puts
  refine pc_rdI (fun _ => ?_)
  rw [tv]
  refine pc_rg (pc_if (fun c => absurd c hr) (fun _ => pc_rdI (fun _ => pc_bn (fun q60 e60 => pc_rg (pc_if (fun c => pc_inb (pc_stn (fun s64 e64 => pc_bn (fun q67 e67 => ?_)))) (fun c => pc_some ((K q60 e60).1 c)))))))
  have k := (K q60 e60).2 c s64 q67 e64 e67
  exact pc_rg (pc_if (fun c2 => k.1 c2) (fun c2 => pc_bn (fun q72 e72 => k.2 c2 q72 e72)))
theorem s_low0 {p : Nat} {key val : Int} {S : MS} (hz : gA S 57 p = 0) : pc (m_x1_plantLow (p : Int) key val S) (fun o => m_x8_insert (p : Int) 0 key val S = some o) := by
  have tp : ((p : Nat) : Int).toNat = p := Int.toNat_natCast _
  unfold m_x1_plantLow
  refine pc_bq (s_find (p := (p : Int)) (by omega)) (fun r27 h27 => ?_)
  rw [tp, hz] at h27
  have e : r27 = -1 := by
    rcases h27 with ⟨a, _⟩ | ⟨a, a2, _⟩
    · exact a
    · omega
  refine pc_rg (pc_if (fun _ => ?_) (fun c => absurd e c))
  exact s_low (r := 0) (by rw [hz]; exact ⟨⟨Int.le_refl 0, Int.le_refl 0⟩, fun k hk => by omega, fun w => absurd w (by decide)⟩) (fun i j _ _ hj => by rw [hz] at hj; omega) FU 0 0 (Int.le_refl 0) (Or.inl ⟨Int.le_refl 0, rfl⟩) (by rw [hz]; exact Int.le_refl 0)
set_option maxHeartbeats 4000000 in
/-- into an empty volume -/
theorem y_put0 {π σ : Nat → Nat} {s t : MS} {lo hj : Nat → Int} {v : Nat} {key val : Int} (h : SIM π σ s t) (hZ : ZP s t) (hR : Rg s) (hRt : Rr t) (S0 : TS s Z0 (-1)) (T0 : TM t d0 (-1)) (hC0 : CE t 0) (hN0 : 0 ≤ gA t 39 5) (h581 : 3 ≤ gI s 581) (hf : gI t 55 = 0) (hv : v < 8) (hr : gA t 49 v = 254) (hO : OI t lo hj) (hkey : 0 ≤ key ∧ key ≤ 999) (hval : 0 ≤ val ∧ val ≤ 999) : pc (m_x1_plant (v : Int) key val s) (fun q => pc (m_x12_puts (v : Int) key val t) (fun o => CON q o)) := by
  have tv : ((v : Nat) : Int).toNat = v := Int.toNat_natCast _
  have zD : ∀ x, x < 48 → 0 ≤ Z0 x := fun x _ => Int.le_refl 0
  have hK : KLV t := KLV_of T0 (fun _ _ => Int.le_refl 0)
  have hN48 : gA t 39 5 ≤ 48 := T0.1.1
  have s60 : gA s 60 v = -1 := ((rtr_e (h.1.2.2.2 v hv).1).2.1).2 hr
  unfold m_x1_plant
  refine pc_rdI (fun _ => ?_)
  rw [tv]
  refine pc_rg (pc_if (fun _ => pc_bn (fun q90 e90 => ?_)) (fun c => absurd s60 c))
  have W1 := wp_det (ts_take hR S0 zD (by omega) (p0 := 0) (p1 := 48) ⟨by omega, by omega⟩ ⟨by omega, by omega⟩) e90
  obtain ⟨R90, F90, W1⟩ := W1
  have YT : ∀ q75 : Int × MS, m_x12_taken 0 48 t = some q75 → Rr q75.2 ∧ ((q90.1 = -1 ∧ gI q75.2 55 = 1) ∨ (gI q75.2 55 = 0 ∧ 0 ≤ q90.1 ∧ 0 ≤ q75.1 ∧ q75.1 < gA t 39 5 ∧ ¬ LV t q75.1.toNat ∧ TkE t q75.2 q75.1.toNat 0 ∧ ∃ π' σ', SIM π' σ' q90.2 q75.2 ∧ q90.1 = (π' q75.1.toNat : Int) ∧ ∀ x, x < 48 → LV t x → π' x = π x)) := fun q75 e75 => by
    have W2 := wp_det (w_x12_taken hRt ⟨hN0, hN48⟩ hC0 (p0 := 0) (p1 := 48) ⟨by omega, by omega⟩ ⟨by omega, by omega⟩) e75
    exact ⟨W2.1, y_take h hK (by rw [h.2.1]; exact hN48) hf e90 e75 (W1.imp id (fun w => ⟨w.1, w.2.1, w.2.2.1⟩)) W2.2.2⟩
  refine s_J36 (fun c => ?_) (fun c s67 q70 e67 e70 => ⟨fun c2 => ?_, fun c2 => ?_⟩)
  · refine m_put0 hr (fun q75 e75 => ?_)
    rcases (YT q75 e75).2 with x | x
    · exact ⟨fun _ => Or.inl ⟨rfl, x.2⟩, fun w => by omega⟩
    · omega
  · refine s_J95 (fun z => absurd z c) (fun _ => ?_)
    have F70 : F_x1_splits s67 q70.2 := fr_x1_splits e70
    rcases W1 with w | ⟨⟨w0, w1⟩, ⟨f1, f2⟩, ⟨u54, u56, u57⟩, T1⟩
    · exact absurd w c
    have A70 : ∀ k, k ≠ 60 → k ≠ 81 → gA q70.2 k = gA q90.2 k := fun k k1 k2 => (F70.2.1 k (by simp; omega)).trans (q_Aa e67 k1)
    have l0 : gA q70.2 56 q90.1.toNat = 0 := by rw [A70 56 (by decide) (by decide), u56, upZ_s]
    have z0 : gA q70.2 57 q90.1.toNat = 0 := by rw [A70 57 (by decide) (by decide), u57, upZ_s]
    rw [l0]
    have all : ∀ n : Nat, pc (m_x1_plant_L117 n key val q90.1 0 q70.2) (fun q => pc (m_x12_puts (v : Int) key val t) (fun o => CON q o)) := fun n => by
      cases n with
      | zero => exact pc_none
      | succ n =>
        obtain ⟨c', hc'⟩ : ∃ c', c' = q90.1.toNat := ⟨_, rfl⟩
        have ci : q90.1 = (c' : Int) := by omega
        rw [← hc'] at l0 z0
        rw [ci]
        refine s_step0 (Int.le_refl 0) (fun s8 e8 => m_put0 hr (fun q75 e75 => ?_))
        obtain ⟨R75, Y⟩ := YT q75 e75
        rcases Y with x | ⟨y1, y2, y3, y3', y4, TK, π1, σ1, H1, y5, y6⟩
        · omega
        refine ⟨fun w => absurd y1 w, fun _ s79 s81 e79 e81 => ?_⟩
        obtain ⟨r, hrr⟩ : ∃ r, r = q75.1.toNat := ⟨_, rfl⟩
        rw [← hrr] at y4 TK y5
        have ri : q75.1 = (r : Int) := by omega
        rw [ri] at e79 e81
        have r48 : r < 48 := by omega
        have tr : ((r : Nat) : Int).toNat = r := Int.toNat_natCast _
        have cr : π1 r = c' := by omega
        have P1 := H1.1.1
        have Fo : F_x12_taken t q75.2 := fr_x12_taken e75
        have lr : LV q75.2 r := Or.inl (by rw [TK.2.1.1]; decide)
        -- the root, as if it were set there
        obtain ⟨w, hw⟩ : ∃ w, sA q75.2 49 (upZ (gA q75.2 49) v (r : Int)) = w := ⟨_, rfl⟩
        have w49 : gA w 49 = upZ (gA q75.2 49) v (r : Int) := q_AA hw
        obtain ⟨⟨m1, m2⟩, ⟨m3, m4⟩, _⟩ := M_root hv w49
        have H2 : SIM π1 σ1 q70.2 w := sim_root H1 hv (fun k k1 k2 k3 => A70 k k3 (by omega)) (by rw [F70.2.1 60 (by decide), (q_AA e67 : gA s67 60 = _), y5]) ((F70.1 1060 (by decide)).trans (q_Ai e67)) ((F70.2.2.1 1062 (by simp)).trans (q_Al e67)) w49 (by rw [q_Aa hw (by decide)]) (q_Aa hw (by decide)) (Or.inr (Or.inr ⟨by omega, by omega, by rw [tr]⟩))
        have eI := s_low0 z0 s8 e8
        have pr48 : π1 r < 48 := (P1 r r48).1.1
        have hR67 : Rg s67 := e67 ▸ Rg.uAu R90 (by show (-2 : Int) ≤ q90.1 ∧ q90.1 ≤ 253; omega)
        have R70 : Rg q70.2 := (wp_det (w_x1_splits hR67 (p0 := q90.1) ⟨by omega, by omega⟩) e70).1
        have tc : ((c' : Nat) : Int).toNat = c' := Int.toNat_natCast _
        have c48 : c' < 48 := by rw [← cr]; exact (P1 r r48).1.1
        obtain ⟨_, v57, ⟨a1, a2, _⟩, ⟨b1, b2, _⟩⟩ := wp_det (w_x8_insert R70 (p0 := (c' : Int)) (p1 := 0) (p2 := key) (p3 := val) ⟨by omega, by omega⟩ ⟨Int.le_refl 0, by rw [tc, z0]; exact Int.le_refl 0, by rw [tc, z0]; decide⟩ ⟨by omega, by omega⟩ ⟨by omega, by omega⟩) eI
        rw [tc] at v57 a1 a2 b1 b2
        rw [z0] at v57 b1
        obtain ⟨R79, F79, B, iz, i1, i2, i3⟩ := wp_det (w_x12_inserts R75 (p0 := (r : Int)) (p1 := 0) (p2 := key) (p3 := val) ⟨by omega, by omega⟩ ⟨Int.le_refl 0, by rw [tr, TK.2.2.2]; exact Int.le_refl 0⟩ (by rw [tr, TK.2.2.2]; decide) ⟨by omega, by omega⟩ ⟨by omega, by omega⟩) e79
        rw [tr] at B iz i1 i2 i3
        rw [TK.2.2.2] at iz
        have s49 : gA s81 49 = upZ (gA s79 49) v (r : Int) := q_AA e81
        obtain ⟨⟨n1, n2⟩, ⟨n3, n4⟩, _⟩ := M_root hv s49
        have F8 : F_x8_insert q70.2 s8 := fr_x8_insert eI
        have K75 := KLV_take hK TK y4 ⟨Int.le_refl 0, by decide⟩ (Fo.2.1 39 (by decide))
        have LVw : ∀ x, LV w x → LV q75.2 x := fun x hl => by unfold LV at hl ⊢; rw [← m3, ← m4]; exact hl
        have mk := s_insM (p1 := 0) (p2 := key) (p3 := val) (s := q70.2) (p0 := (c' : Int)) ⟨by omega, by omega⟩ ⟨Int.le_refl 0, by rw [tc, z0]; exact Int.le_refl 0, by rw [tc, z0]; decide⟩ s8 eI
        rw [tc] at mk
        have tt := m_insT (p0 := (r : Int)) (by omega) s79 e79
        rw [tr] at tt
        have BXw : BX w s81 r := fun i hi => by
          rw [s49, w49]
          by_cases z : i = v
          · rw [z, upZ_s, upZ_s]
          · rw [upZ_n z, upZ_n z]; exact B i hi
        have H3 : SIM π1 σ1 s8 s81 := by
          refine sim_blk H2 (fun x hx hl => by rw [m1]; exact (K75.2.1 x hx (LVw x hl)).1.1.2.1) r48 (F8.2.1 54 (by decide)) (F8.2.1 55 (by decide)) (F8.2.1 56 (by decide)) (F8.2.1 60 (by decide)) (F8.2.1 61 (by decide)) (F8.1 1060 (by decide)) (fun x hx hn => by rw [v57, upZ_n (by rw [← cr]; exact hn)]) (fun x hx hn k h6 => ?_) BXw (by rw [(q_Aa e81 (by decide) : gA s81 39 = gA s79 39), F79.2.1 39 (by decide)]; exact (q_Aa hw (by decide)).symm) (by rw [v57, cr, upZ_s, n1, iz]) (fun k hk => ?_) (by unfold LV; rw [m3, m4]; exact lr) (Or.inl ⟨by rw [cr]; exact mk, ?_⟩)
          · rw [cr] at hn
            exact ⟨a1 _ (by omega), b1 _ (by omega)⟩
          · rw [n1, iz] at hk
            have k0 : k = 0 := by omega
            have i2' : (hM s79).2.2 r 0 = val ∧ kM s79 r 0 = key := i2
            rw [k0, cr, n1, n2, m1, i2'.1, i2'.2, TK.2.2.1]
            exact ⟨a2, fun z => absurd z (by decide), fun _ => b2⟩
          · refine ⟨by rw [(q_Aa e81 (by decide) : gA s81 54 = gA s79 54)]; exact tt.1, fun x hx => ?_⟩
            rw [(q_Aa e81 (by decide) : gA s81 54 = gA s79 54), tt.2 x hx]; exact (congrFun (q_Aa hw (by decide)) x).symm
        have O1 := OI_take (c := key) hO hK TK y4
        have O2 := OI_leaf (t := q75.2) (o := s79) O1 r48 lr (by rw [TK.2.2.1]; exact Int.le_refl 0) (k := 0) (key := key) (val := val) ⟨B, by rw [iz, TK.2.2.2], i1, i2, i3⟩ (by rw [upZ_s, upZ_s]; exact ⟨Int.le_refl _, Int.le_refl _⟩) (by rw [TK.2.2.2]; decide) (by rw [TK.2.2.2]; exact ⟨⟨Int.le_refl 0, Int.le_refl 0⟩, fun k hk => by omega, fun z => absurd z (by decide)⟩) (fun z => by rw [TK.2.2.2] at z; exact absurd z (by decide)) (fun x hx hl => (K75.2.1 x hx hl).1.1.2.1.2)
        have O3 : OI s81 (upZ lo r key) (upZ hj r key) := OI_same O2 (fun x hx hl => ⟨by unfold LV at hl ⊢; rw [← n3, ← n4]; exact hl, Or.inl ⟨by rw [n1], by rw [n1], fun k => by rw [n1, n2]; exact ⟨rfl, rfl⟩⟩⟩)
        have ZP3 : ZP s8 s81 := ZP_k hZ (by rw [F8.1 581 (by decide), F70.1 581 (by decide), (q_Ai e67 : gI s67 581 = gI q90.2 581), F90.1 581 (by decide)]) (by rw [F8.1 741 (by decide), F70.1 741 (by decide), (q_Ai e67 : gI s67 741 = gI q90.2 741), F90.1 741 (by decide)]) (fun k k1 k2 => by rw [F8.2.1 k (by simp; omega), A70 k (by omega) (by omega), F90.2.1 k (by simp; omega)]) (fun k hk => by rw [(q_Aa e81 (by omega) : gA s81 k = gA s79 k), F79.2.1 k (by simp; omega), Fo.2.1 k (by simp; omega)])
        exact Or.inr ⟨rfl, (q_Ai e81).trans ((F79.1 55 (by decide)).trans y1), π1, σ1, _, _, H3, ZP3, O3⟩
    exact all FU
  · -- an empty block doesn't split
    exfalso
    rcases W1 with w | ⟨⟨w0, w1⟩, ⟨f1, f2⟩, ⟨u54, u56, u57⟩, T1⟩
    · exact absurd w c
    have hN := S0.1.1
    have hR67 : Rg s67 := e67 ▸ Rg.uAu R90 (by show (-2 : Int) ≤ q90.1 ∧ q90.1 ≤ 253; omega)
    have h70 := (wp_det (w_x1_splits hR67 (p0 := q90.1) ⟨by omega, by omega⟩) e70).2
    have z57 : gA s67 57 q90.1.toNat = 0 := by rw [(q_Aa e67 (by decide) : gA s67 57 = gA q90.2 57), u57, upZ_s]
    have z581 : gI s67 581 = gI s 581 := (q_Ai e67).trans (F90.1 581 (by decide))
    rw [z57, z581] at h70
    omega
set_option maxHeartbeats 4000000 in
/-- a put on both sides -/
theorem y_plant {π σ : Nat → Nat} {s t : MS} {lo hj : Nat → Int} {v : Nat} {key val : Int} (h : SIM π σ s t) (hZ : ZP s t) (hR : Rg s) (hRt : Rr t) (S0 : TS s Z0 (-1)) (H : RT t) (hC0 : CE t 0) (hC1 : CE t 1) (hN0 : 0 ≤ gA t 39 5) (hE : 3 ≤ gA t 39 6 ∧ gA t 39 6 ≤ 6) (h581 : 3 ≤ gI s 581) (hf : gI t 55 = 0) (hv : v < 8) (hrt : (0 ≤ gA t 49 v ∧ gA t 49 v < 254) ∨ gA t 49 v = 254) (hO : OI t lo hj) (hkey : 0 ≤ key ∧ key ≤ 999) (hval : 0 ≤ val ∧ val ≤ 999) : pc (m_x1_plant (v : Int) key val s) (fun q => pc (m_x12_puts (v : Int) key val t) (fun o => CON q o)) := by
  obtain ⟨M0, P0⟩ := RT_PM v (by omega) H
  have T0 : TM t d0 (-1) := H.1
  rcases hrt with hrt | hrt
  rotate_left
  · exact y_put0 h hZ hR hRt S0 T0 hC0 hN0 h581 hf hv hrt hO hkey hval
  have tv : ((v : Nat) : Int).toNat = v := Int.toNat_natCast _
  have zD : ∀ x, x < 48 → 0 ≤ Z0 x := fun x _ => Int.le_refl 0
  have zD' : ∀ x, x < 48 → 0 ≤ Z0 x ∧ Z0 x ≤ 10 := fun x _ => ⟨Int.le_refl 0, by show (0 : Int) ≤ 10; omega⟩
  have hK : KLV t := KLV_of T0 (fun _ _ => Int.le_refl 0)
  have hN48 : gA t 39 5 ≤ 48 := T0.1.1
  have rl := TG_root_live (v := v) T0 (fun _ _ => Int.le_refl 0) hv (by rw [rM_v hv]; omega) (by rw [rM_v hv]; omega)
  rw [rM_v hv] at rl
  have rm := root_mu hv P0 hrt.1 hrt.2
  obtain ⟨y, hy⟩ : ∃ y, y = (gA t 49 v).toNat := ⟨_, rfl⟩
  rw [← hy] at rl rm
  have yv : gA t 49 v = (y : Int) := by omega
  have y48 : y < 48 := by omega
  have ty : ((y : Nat) : Int).toNat = y := Int.toNat_natCast _
  have ly : LV t y := Or.inl rl.2
  have lv : 0 ≤ (hM t).1 y ∧ (hM t).1 y ≤ 47 := TG_lev T0 (fun _ _ => Int.le_refl 0) y48 rl.2
  have cy := sim_c h y48
  have py48 := (h.1.1 y y48).1.1
  have tpy : ((π y : Nat) : Int).toNat = π y := Int.toNat_natCast _
  have s60 : gA s 60 v = (π y : Int) := by
    rcases (h.1.2.2.2 v hv).1 with ⟨a, _⟩ | ⟨a, _⟩ | ⟨_, _, a⟩
    · omega
    · omega
    · rw [← hy] at a; exact a
  unfold m_x1_plant
  refine pc_rdI (fun _ => ?_)
  rw [tv]
  refine pc_rg (pc_if (fun c => absurd c (by omega)) (fun _ => pc_rdI (fun _ => ?_)))
  rw [tv, s60]
  refine pc_bn (fun q87 e87 => ?_)
  have W1 := wp_det (ts_owned hR S0 zD' (by omega) (p0 := (π y : Int)) ⟨by omega, by omega⟩ (by rw [tpy, cy.1]; exact rl.2)) e87
  obtain ⟨R87, F87, W1⟩ := W1
  have OWN : ∀ q60 : Int × MS, m_x12_owned (gA t 49 v) t = some q60 → (Rr q60.2 ∧ F_x12_owned t q60.2 ∧ (∀ i, 785 ≤ i → gA q60.2 49 i = gA t 49 i) ∧ ((gI q60.2 55 = 1 ∧ q60.1 = (y : Int)) ∨ (gI q60.2 55 = 0 ∧ 0 ≤ q60.1 ∧ ∃ M', OwnM t q60.2 v M0 M' y q60.1.toNat))) ∧ ((q87.1 = -1 ∧ gI q60.2 55 = 1) ∨ (gI q60.2 55 = 0 ∧ 0 ≤ q87.1 ∧ 0 ≤ q60.1 ∧ ∃ π' σ', SIM π' σ' q87.2 q60.2 ∧ q87.1 = (π' q60.1.toNat : Int) ∧ (∀ x, x < 48 → LV t x → π' x = π x) ∧ CPY t q60.2 y q60.1.toNat)) := fun q60 e60 => by
    rw [yv] at e60
    have W2 := wp_det (mt_owned (M := M0) hRt hv T0 P0 hC0 (by omega) hf (p0 := (y : Int)) ⟨by omega, by omega⟩ (by rw [ty]; exact rl.2) (by rw [ty]; exact rm) (own_x hv T0 P0 (by rw [ty]; exact y48) (Or.inl (by rw [ty]; exact yv)))) e60
    have Y := y_ownB (v := v) (M := M0) h hK hR hRt S0 T0 hC0 (by omega) (by omega) hf (p := (π y : Int)) (p' := (y : Int)) ⟨by omega, by omega⟩ (by rw [ty]) (by rw [ty]; exact rl.2) e87 e60 W1 W2.2.2.2
    rw [ty] at Y W2
    exact ⟨W2, Y⟩
  refine s_J36 (fun c => ?_) (fun c s67 q70 e67 e70 => ?_)
  · refine m_put1 (by omega) (fun q60 e60 => ?_)
    rcases (OWN q60 e60).2 with x | x
    · exact ⟨fun _ => Or.inl ⟨rfl, x.2⟩, fun w => by omega⟩
    · have := x.2.1; omega
  have F70 : F_x1_splits s67 q70.2 := fr_x1_splits e70
  -- the root is each side's own
  have hR67 : 0 ≤ q87.1 → q87.1 < 48 → Rg s67 := fun a b => e67 ▸ Rg.uAu R87 (by show (-2 : Int) ≤ q87.1 ∧ q87.1 ≤ 253; omega)
  have ROOT : ∀ (q60 : Int × MS) (s64 : MS), m_x12_owned (gA t 49 v) t = some q60 → gI q60.2 55 = 0 → sA q60.2 49 (upZ (gA q60.2 49) v q60.1) = s64 → ∃ (cc : Nat) (π1 σ1 : Nat → Nat) (lo1 hj1 : Nat → Int), (q60.1 = (cc : Int) ∧ cc < 48 ∧ q87.1 = (π1 cc : Int)) ∧ (SIM π1 σ1 s67 s64 ∧ ZP s67 s64) ∧ (OI s64 lo1 hj1 ∧ (lo1 cc ≤ key ∧ key ≤ hj1 cc)) ∧ (Rr s64 ∧ KS t s64 ∧ gI s64 55 = 0 ∧ RWn t s64 v) ∧ (gA s64 49 v = (cc : Int) ∧ ∃ M', TM s64 d0 (-1) ∧ PM s64 v M' d0 (-1) ∧ ((cM s64 cc = 1 ∧ vM s64 cc = 0) ∧ (hM s64).1 cc = (hM t).1 y ∧ (M' v cc = 1 ∧ ∀ u, u < 16 → u ≠ v → M' u cc = 0))) := fun q60 s64 e60 x55 e64 => by
    obtain ⟨⟨hRo, Fo, ko, h60⟩, Y⟩ := OWN q60 e60
    rcases Y with x | ⟨_, x1, x2, π1, σ1, H1, x3, x4, CP⟩
    · omega
    rcases h60 with ⟨h60, _⟩ | ⟨z0, w0, M', ⟨⟨rq, rN⟩, ⟨o54, o55⟩, ⟨o56, o57⟩⟩, oc, oh, oq, ou, ⟨To, Po⟩, om, omu, omn, omx⟩
    · omega
    obtain ⟨cc, hcc⟩ : ∃ cc, cc = q60.1.toNat := ⟨_, rfl⟩
    rw [← hcc] at x3 CP rq rN o54 o55 o56 o57
    try rw [← hcc] at oc
    try rw [← hcc] at oh
    try rw [← hcc] at oq
    try rw [← hcc] at om
    try rw [← hcc] at omu
    try rw [← hcc] at omx
    try rw [← hcc] at To
    try rw [← hcc] at Po
    have ci : q60.1 = (cc : Int) := by omega
    rw [ci] at e64
    have tcc : ((cc : Nat) : Int).toNat = cc := Int.toNat_natCast _
    have KSo : KS t q60.2 := ⟨⟨Fo.2.1 39 (by decide), Fo.2.1 42 (by decide), Fo.2.1 43 (by decide), Fo.2.1 44 (by decide)⟩, ko⟩
    have hR64 : Rr s64 := e64 ▸ Rr.uAu hRo (by show (-2147483648 : Int) ≤ (cc : Int) ∧ (cc : Int) ≤ 2147483647; omega)
    have u64 : gA s64 49 = upZ (gA q60.2 49) v (cc : Int) := q_AA e64
    have a39 : gA s64 39 = gA q60.2 39 := q_Aa e64 (by decide)
    obtain ⟨T1, P1⟩ := MT_root (q := (cc : Int)) To Po hv u64 a39 (Or.inl ⟨by omega, by rw [KSo.1.1]; omega⟩)
    obtain ⟨⟨w1, w2⟩, ⟨w3, w4⟩, _⟩ := M_root hv u64
    have dd : ∀ x : Nat, x < 48 → d0 x = dq cc x - dq y x + (if gA q60.2 49 v = (x : Int) then 1 else 0) - (if (cc : Int) = (x : Int) then 1 else 0) := fun x hx => by
      show (0 : Int) = _
      rw [ou v (by omega), yv, dd_0 (r := (cc : Int)) (by omega), dd_0 (r := (y : Int)) (by omega), tcc, ty]; omega
    have K64 : KS t s64 := KS_t KSo ⟨⟨a39, q_Aa e64 (by decide), q_Aa e64 (by decide), q_Aa e64 (by decide)⟩, fun j hj' => by rw [u64, upZ_n (by omega)]⟩
    have H64 : SIM π1 σ1 s67 s64 := sim_root H1 hv (fun k k1 k2 k3 => q_Aa e67 k3) (by rw [(q_AA e67 : gA s67 60 = _), x3]) (q_Ai e67) (q_Al e67) u64 (by rw [a39]) (q_Aa e64 (by decide)) (Or.inr (Or.inr ⟨by omega, by omega, by rw [tcc]⟩))
    have ZP64 : ZP s67 s64 := ZP_k hZ (by rw [(q_Ai e67 : gI s67 581 = gI q87.2 581), F87.1 581 (by decide)]) (by rw [(q_Ai e67 : gI s67 741 = gI q87.2 741), F87.1 741 (by decide)]) (fun k k1 k2 => by rw [(q_Aa e67 (by omega) : gA s67 k = gA q87.2 k), F87.2.1 k (by simp; omega)]) (fun k hk => by rw [(q_Aa e64 (by omega) : gA s64 k = gA q60.2 k), Fo.2.1 k (by simp; omega)])
    have OR := OI_rt (key := key) hO hK y48 ly CP.1 CP.2.1 CP.2.2.1 (by
      rcases CP.2.2.2 with w | w
      · refine Or.inl ⟨w, fun p k' hp lp hlp hk' hv' => ?_⟩
        have cv : cM t y = 1 ∧ vM t y = 0 := by
          rcases Classical.em (cM t y = 1 ∧ vM t y = 0) with u | u
          · exact u
          · exfalso
            have lvy := (TG_nd T0 y48 rl.2)
            have tk : ∀ o1 : Int × MS, m_x12_taken ((hM t).1 y) (y : Int) t = some o1 → gI o1.2 55 = 0 → (0 ≤ o1.1 ∧ o1.1 < gA t 39 5) ∧ (cM t o1.1.toNat ≤ 0 ∧ vM t o1.1.toNat ≤ 0) ∧ TkE t o1.2 o1.1.toNat ((hM t).1 y) := fun o1 eo z => by
              have W := (wp_det (w_x12_taken hRt ⟨hN0, hN48⟩ hC0 (p0 := (hM t).1 y) (p1 := (y : Int)) ⟨lv.1, by omega⟩ ⟨by omega, by omega⟩) eo).2.2
              rcases W with W | ⟨_, W⟩
              · omega
              · exact W
            have e60' := e60
            rw [yv] at e60'
            have g2 := m_own (p := (y : Int)) (t := t) (by omega) hf (fun o1 eo z => by
              rw [ty] at eo ⊢
              obtain ⟨W2, W3, W4⟩ := tk o1 eo z
              have ne : y ≠ o1.1.toNat := fun e2 => by rw [← e2] at W3; omega
              refine ⟨W2.1, fun e2 => ne e2.symm, ?_⟩
              have := W4.1 (20 + 16 * y) (by omega)
              show gA o1.2 49 (20 + 16 * y) ≤ 6
              rw [this]; exact lvy.2.1.2) q60 e60'
            rw [ty] at g2
            rcases g2 with ⟨a, _⟩ | ⟨_, o1, eo1, a2⟩
            · exact u ⟨a.2, a.1.2⟩
            · rcases a2 with ⟨x, e2⟩ | ⟨x, e2, _⟩
              · have : q60.2 = o1.2 := by rw [e2]
                rw [this] at x55; exact x x55
              · obtain ⟨_, W3, _⟩ := tk o1 eo1 x
                rw [← e2, ci, tcc, w] at W3; omega
        rcases lp with cp | cp
        · exact one_rt T0 hv y48 rfl yv cv.1 p k' hp cp hlp hk' hv'
        · have kd := TG_kid (TG_ss T0) (fun _ _ => Int.le_refl 0) hp cp hlp hk'
          have kd2 := kd.2.2
          rw [hv', ty] at kd2
          omega
      · exact Or.inr w)
    refine ⟨cc, π1, σ1, _, _, ⟨ci, rq, x3⟩, ⟨H64, ZP64⟩, ⟨OI_same OR.1 (fun x hx hl => ⟨by unfold LV at hl ⊢; rw [← w3, ← w4]; exact hl, Or.inl ⟨by rw [w1], by rw [w1], fun k => by rw [w1, w2]; exact ⟨rfl, rfl⟩⟩⟩), OR.2⟩, ⟨hR64, K64, (q_Ai e64).trans z0, fun u hu hn => by rw [u64, upZ_n hn]; exact ou u hu, by rw [u64, upZ_s]; omega⟩, by rw [u64, upZ_s], M', TG_D T1 dd, PM_D P1 dd, ⟨by rw [w3]; exact o54, by rw [w4]; exact o55⟩, by rw [w1]; exact o56, om, omu⟩
  -- the class behind the root
  rcases W1 with w | ⟨r0, ⟨rq, rN⟩, ⟨o54, o55⟩, ⟨o56, o57⟩, _, _, _, T1⟩
  · exact absurd w c
  have i67 : gI s67 1060 = gI q87.2 1060 := q_Ai e67
  have g60 : gA s67 60 = upZ (gA q87.2 60) v q87.1 := q_AA e67
  have h60s : gA q87.2 60 = gA s 60 := F87.2.1 60 (by decide)
  have R67 := hR67 r0 (by omega)
  have T1r := TG_root (v := v) (q := q87.1) T1 hv (Or.inl ⟨r0, by show q87.1 < gI q87.2 1060; rw [F87.1 1060 (by decide)]; omega⟩)
  have T67 : TS s67 Z0 (-1) := by
    refine TS_mk (TG_D T1r (fun x hx => ?_)) (hN_eq (q_Aa e67 (by decide)) (q_Aa e67 (by decide)) (q_Aa e67 (by decide))) (kN_eq (q_Aa e67 (by decide))) (q_Ai e67) (q_Ai e67) (q_Aa e67 (by decide)) (q_Aa e67 (by decide)) g60 (q_Aa e67 (by decide))
    show (0 : Int) = 0 + (if x = q87.1.toNat then 1 else 0) - (if x = ((π y : Nat) : Int).toNat then 1 else 0) + (if gA q87.2 60 v = (x : Int) then 1 else 0) - (if q87.1 = (x : Int) then 1 else 0)
    rw [h60s, s60, tpy]
    by_cases z : x = q87.1.toNat
    · rw [if_pos z, if_pos (show q87.1 = (x : Int) by omega)]
      by_cases z2 : x = π y
      · rw [if_pos z2, if_pos (show (π y : Int) = (x : Int) by omega)]; omega
      · rw [if_neg z2, if_neg (show ¬ (π y : Int) = (x : Int) by omega)]; omega
    · rw [if_neg z, if_neg (show ¬ q87.1 = (x : Int) by omega)]
      by_cases z2 : x = π y
      · rw [if_pos z2, if_pos (show (π y : Int) = (x : Int) by omega)]; omega
      · rw [if_neg z2, if_neg (show ¬ (π y : Int) = (x : Int) by omega)]; omega
  obtain ⟨R70, h70⟩ := wp_det (w_x1_splits R67 (p0 := q87.1) ⟨r0, by omega⟩) e70
  have T70 : TS q70.2 Z0 (-1) := TS_eq T67 (F70.2.1 54 (by decide)) (F70.2.1 55 (by decide)) (F70.2.1 56 (by decide)) (F70.2.1 57 (by decide)) (F70.2.1 58 (by decide)) (F70.2.1 59 (by decide)) (F70.2.1 60 (by decide)) (F70.2.1 61 (by decide)) (F70.1 1060 (by decide)) (F70.1 581 (by decide))
  have A70 : ∀ k, k ≠ 60 → k ≠ 81 → gA q70.2 k = gA q87.2 k := fun k k1 k2 => (F70.2.1 k (by simp; omega)).trans (q_Aa e67 k1)
  have l56 : gA s 56 (π y) = (hM t).1 y := (sim_b h y48 ly).1
  rw [tpy, l56] at o56
  have k54 : gA q70.2 54 q87.1.toNat = 1 := by rw [A70 54 (by decide) (by decide)]; exact o54
  have k55 : gA q70.2 55 q87.1.toNat = 0 := by rw [A70 55 (by decide) (by decide)]; exact o55
  have k56 : gA q70.2 56 q87.1.toNat = (hM t).1 y := by rw [A70 56 (by decide) (by decide)]; exact o56
  have k60 : gA q70.2 60 v = q87.1 := by rw [F70.2.1 60 (by decide), g60, upZ_s]
  have k581 : gI q70.2 581 = gI s 581 := by rw [F70.1 581 (by decide), (q_Ai e67 : gI s67 581 = gI q87.2 581), F87.1 581 (by decide)]
  have s581 : gI s67 581 = gI s 581 := by rw [(q_Ai e67 : gI s67 581 = gI q87.2 581), F87.1 581 (by decide)]
  have k57 : gA q70.2 57 q87.1.toNat = gA s67 57 q87.1.toNat := by rw [F70.2.1 57 (by decide)]
  have NT : 0 ≤ gA t 39 5 ∧ gA t 39 5 ≤ 48 := ⟨hN0, hN48⟩
  -- all that follows, the reference beside it
  have ALL : ∀ q : Int × MS, ((q70.1 = 0 ∧ m_x1_plant_L117 FU key val q87.1 (gA q70.2 56 q87.1.toNat) q70.2 = some q) ∨ (q70.1 ≠ 0 ∧ ∃ q75 : Int × MS, m_x1_raiseRoot (v : Int) q70.2 = some q75 ∧ ((q75.1 = -1 ∧ q.1 = 0) ∨ (q75.1 ≠ -1 ∧ ∃ q80 : Int × MS, m_x1_split q75.1 0 q87.1 key q75.2 = some q80 ∧ ((q80.1 = -1 ∧ q.1 = 0) ∨ (q80.1 ≠ -1 ∧ m_x1_plant_L117 FU key val q80.1 (gA q80.2 56 q80.1.toNat) q80.2 = some q)))))) → pc (m_x12_puts (v : Int) key val t) (fun o => CON q o) := fun q hq => by
    refine m_put1 (by omega) (fun q60 e60 => ⟨fun w => ?_, fun x55 s64 q67 e64 e67' => ?_⟩)
    · rcases (OWN q60 e60).2 with x | x
      · exact absurd x.1 c
      · exact absurd x.1 w
    obtain ⟨cc, π1, σ1, lo1, hj1, ⟨ci, c48, x3⟩, ⟨H64, ZP64⟩, ⟨O64, oky⟩, ⟨R64, K64, f64, W64⟩, ⟨rt64, M', T64, P64, hc1, hc2, hc3⟩⟩ := ROOT q60 s64 e60 x55 e64
    have tcc : ((cc : Nat) : Int).toNat = cc := Int.toNat_natCast _
    have KV := KLV_of T64 (fun _ _ => Int.le_refl 0)
    have lc : LV s64 cc := Or.inl (by omega)
    have nc := (KV.2.1 cc c48 lc).1
    rw [ci] at e67' ⊢
    obtain ⟨v1, v2, H5, ZP5⟩ := y_splits H64 c48 lc ZP64 R64 ⟨nc.1.2.1, nc.2, nc.1.1⟩ (by rw [← x3]; exact e70) e67'
    obtain ⟨R28, h28⟩ := wp_det (w_x12_doesSplit R64 (p0 := (cc : Int)) ⟨by omega, by omega⟩ (KS_CE K64 hC1) (by rw [tcc]; exact nc.1.2.1) (by rw [tcc]; have := nc.2; have := nc.1.1; omega) (by rw [K64.1.1]; omega)) e67'
    rw [tcc] at h28
    have F28 : F_x12_doesSplit s64 q67.2 := fr_x12_doesSplit e67'
    have a49 : gA q67.2 49 = gA s64 49 := F28.2.1 49 (by decide)
    have a39 : gA q67.2 39 = gA s64 39 := F28.2.1 39 (by decide)
    have K28 : KS t q67.2 := KS_t K64 ⟨⟨a39, F28.2.1 42 (by decide), F28.2.1 43 (by decide), F28.2.1 44 (by decide)⟩, fun j _ => by rw [a49]⟩
    obtain ⟨d1, d2, d3, d4⟩ := eq49 a49
    have T28 : TM q67.2 d0 (-1) := TM_eq T64 a49 a39
    have P28 : PM q67.2 v M' d0 (-1) := PM_e P64 a49 a39 (by omega)
    have W28 : RWn t q67.2 v := ⟨fun u hu hn => by rw [a49]; exact W64.1 u hu hn, by rw [a49]; exact W64.2⟩
    have f55 : gI q67.2 55 = 0 := (F28.1 55 (by decide)).trans f64
    have O28 : OI q67.2 lo1 hj1 := OI_49 O64 a49
    have K39 : gA s64 39 = gA t 39 := K64.1.1
    refine ⟨fun z => ?_, fun z q72 e72 => ?_⟩
    · rcases hq with ⟨_, eq⟩ | ⟨z2, _⟩
      · have w57 : gA s67 57 q87.1.toNat < gI s 581 := by
          rcases h70 with w | w
          · rw [← s581]; exact w.2
          · omega
        have w28 : (hM s64).2.1 cc < gA s64 39 6 := by
          rcases h28 with w | w
          · omega
          · exact w.2
        rw [k56, x3] at eq
        refine y_plant_L hv hkey hval hC0 hC1 hE hN0 FU FU ((hM t).1 y) cc q70.2 q67.2 π1 σ1 lo1 hj1 ⟨⟨H5, ZP5⟩, ⟨R70, R28⟩, K28, ⟨T70, ?_, by omega⟩, ⟨f55, W28, M', T28, P28, ?_⟩, O28, oky⟩ q eq
        · rw [← x3]
          exact ⟨⟨r0, by omega⟩, k54, k55, k56, by rw [k57, k581]; exact w57⟩
        · exact ⟨⟨⟨by omega, by omega⟩, by rw [tcc, d3]; exact hc1.1, by rw [tcc, d4]; exact hc1.2⟩, by rw [tcc, d1]; exact hc2, by rw [tcc, d1, a39]; exact w28, by rw [tcc]; exact hc3.1, fun u hu hn => by rw [tcc]; exact hc3.2 u hu hn⟩
      · exact absurd (v1.trans z) z2
    · rcases hq with ⟨z2, _⟩ | ⟨_, q75, e75, hq⟩
      · exact absurd (v1.symm.trans z2) z
      have KV28 : KLV q67.2 := KLV_of T28 (fun _ _ => Int.le_refl 0)
      have lc28 : LV q67.2 cc := Or.inl (by rw [d3]; omega)
      have N28 : 0 ≤ gA q67.2 39 5 ∧ gA q67.2 39 5 ≤ 48 := by rw [a39, K39]; exact NT
      have z2 : 2 ≤ (hM s64).2.1 cc := by
        rcases h28 with w | w
        · rcases w.2 with u | u
          · rw [K39] at u; omega
          · exact u
        · omega
      have C28 := KS_CE K28 hC0
      have YR := y_raise H5 KV28 R70 R28 T70 zD N28 C28 (by omega) f55 hv c48 lc28 (by rw [d1, hc2]; exact lv.2) (by rw [d1]; omega) (by rw [k60]; exact x3) e75 e72
      have WR := wp_det (mt_rootSplit (i := (hM t).1 y) (M := M') R28 hv rfl T28 P28 C28 (by rw [a39, K39]; exact hE) f55 (p1 := (cc : Int)) (p2 := key) (by rw [a49]; exact rt64) ⟨⟨⟨by omega, by omega⟩, by rw [tcc, d3]; exact hc1.1, by rw [tcc, d4]; exact hc1.2⟩, by rw [tcc, d1]; exact hc2, by rw [tcc, d1]; exact z2, by rw [tcc]; exact hc3⟩ ⟨by omega, by omega⟩) e72
      obtain ⟨R72, F72, kk72, u72, h72⟩ := WR
      have K72 : KS t q72.2 := KS_t K28 ⟨⟨F72.2.1 39 (by decide), F72.2.1 42 (by decide), F72.2.1 43 (by decide), F72.2.1 44 (by decide)⟩, kk72⟩
      rcases YR with ⟨y1, y2⟩ | ⟨y1, r, w, π2, σ2, r48, H6, y4, y5, KVw, Rw, ⟨w39, wk⟩, w55, lrw, zr, lr, ⟨nbr, lbw, zb, lbl⟩, ⟨vr, nlr, rows, lvs⟩, eh⟩
      · refine pc_mono (m_stepF FU _ _ y2) (fun o ho => Or.inl ⟨?_, ho⟩)
        rcases hq with ⟨_, e⟩ | ⟨e, _⟩
        · exact e
        · exact absurd y1 e
      rcases hq with ⟨e, _⟩ | ⟨_, q80, e80, hq⟩
      · exact absurd e y1
      have W75 := wp_det (ts_raise R70 T70 zD (by omega) (p0 := (v : Int)) ⟨by omega, by omega⟩ (by rw [tv, k60]; omega) (by rw [tv, k60, k54]; decide)) e75
      obtain ⟨R75, F75, W75⟩ := W75
      rcases W75 with e | ⟨T75, C75, z75, u75, st75⟩
      · exact absurd e y1
      rw [tv, k60] at C75
      rw [tv] at u75
      have stb := st75 q87.1.toNat (by omega) (by rw [k54]; decide)
      have cc2 : q87.1 = (π2 cc : Int) := by rw [y5 cc c48 lc28]; exact x3
      have e80' : m_x1_split (π2 r : Int) 0 (π2 cc : Int) key q75.2 = some q80 := by rw [← y4, ← cc2]; exact e80
      have Cw : CE w 0 := CE_eq C28 (wk 42 (by decide) (by decide)) (wk 43 (by decide) (by decide)) (wk 44 (by decide) (by decide))
      have Nw : 0 ≤ gA w 39 5 ∧ gA w 39 5 ≤ 48 := by rw [w39]; exact N28
      have YS := y_split H6 KVw R75 Rw T75 zD Nw Cw (by rw [F75.1 581 (by decide), k581]; omega) w55 r48 c48 (fun e => nbr e.symm) lrw lbw (by rw [zb, d1]; exact z2) (p1 := 0) (key := key) ⟨Int.le_refl 0, by rw [zr]; decide⟩ (by rw [zr]; decide) (by rw [lr]; have := (KV28.2.1 cc c48 lc28).1.1.1; omega) e80' eh
      rcases YS with ⟨s1, s2⟩ | ⟨s1, s2, s3, π3, σ3, H7, s4, s5⟩
      · refine pc_mono (m_stepF FU _ _ s2) (fun o ho => Or.inl ⟨?_, ho⟩)
        rcases hq with ⟨_, e⟩ | ⟨e, _⟩
        · exact e
        · exact absurd s1 e
      rcases hq with ⟨e, _⟩ | ⟨_, eq⟩
      · omega
      have OR := OI_root O28 KV28 c48 lc28 nlr ⟨lr, zr, vr⟩ rows lvs
      have OH := OI_hfe (key := key) (k := 0) OR KVw Rw Nw Cw w55 r48 c48 lrw lbw (by rw [lr]; have := (KV28.2.1 cc c48 lc28).1.1.1; omega) (by rw [zr]; decide) vr (by rw [zb, d1]; exact z2) (by rw [zr]; decide) (fun e => nbr e.symm) (by rw [upZ_n nbr, upZ_n nbr]; exact oky) eh s1
      obtain ⟨lo3, hj3, O3, k3⟩ := OH
      have WS := wp_det (ts_split (p0 := q75.1) (p1 := 0) (p2 := q87.1) (p3 := key) (i := gA q70.2 56 q87.1.toNat) R75 T75 zD (by rw [F75.1 581 (by decide), k581]; exact h581) C75 ⟨Int.le_refl 0, by rw [z75]; decide⟩ ⟨⟨r0, by omega⟩, by rw [stb.1]; exact k54, by rw [F75.2.1 55 (by decide)]; exact k55, stb.2.1, by
        rw [stb.2.2]
        have q := (sim_b H5 c48 lc28).2.1
        have q' : gA q70.2 57 (π1 cc) = (hM q67.2).2.1 cc := q
        rw [show q87.1.toNat = π1 cc by omega, q', d1]; exact z2⟩ ⟨by omega, by omega⟩) e80
      obtain ⟨R80, F80, h80⟩ := WS
      rcases h80 with e | ⟨T80, C80⟩
      · omega
      rcases h72 with e | ⟨f72, rv, M3, T72, P72, A72⟩
      · omega
      have q72i : q72.1 = ((q72.1.toNat : Nat) : Int) := by omega
      have lev80 : gA q80.2 56 q80.1.toNat = (hM t).1 y := C80.2.2.2.1.trans k56
      rw [lev80, s4] at eq
      rw [q72i]
      have ZP7 : ZP q80.2 q72.2 := ZP_k ZP5 (by rw [F80.1 581 (by decide), F75.1 581 (by decide)]) (by rw [F80.1 741 (by decide), F75.1 741 (by decide)]) (fun k k1 k2 => by rw [F80.2.1 k (by simp; omega), F75.2.1 k (by simp; omega)]) (fun k hk => F72.2.1 k (by simp; omega))
      refine y_plant_L hv hkey hval hC0 hC1 hE hN0 FU FU ((hM t).1 y) q72.1.toNat q80.2 q72.2 π3 σ3 lo3 hj3 ⟨⟨H7, ZP7⟩, ⟨R80, R72⟩, K72, ⟨T80, ?_, by rw [F80.1 581 (by decide), F75.1 581 (by decide), k581]; exact h581⟩, ⟨f72, ⟨fun u hu hn => by rw [u72 u hu hn f72]; exact W28.1 u hu hn, rv⟩, M3, T72, P72, ?_⟩, O3, k3⟩ q eq
      · rw [← s4, ← k56]; exact C80
      · rw [← q72i]; exact A72
  refine ⟨fun c2 => s_J95 (fun w => absurd w c) (fun _ => fun q eq => ALL q (Or.inl ⟨c2, eq⟩)), fun c2 q75 e75 => ⟨fun c3 => s_J95 (fun _ => fun q eq => ALL q (Or.inr ⟨c2, q75, e75, Or.inl ⟨c3, s_stepF FU _ _ q eq⟩⟩)) (fun w => absurd rfl w), fun c3 q80 e80 => s_J95 (fun c4 => fun q eq => ALL q (Or.inr ⟨c2, q75, e75, Or.inr ⟨c3, q80, e80, Or.inl ⟨c4, s_stepF FU _ _ q eq⟩⟩⟩)) (fun c4 => fun q eq => ALL q (Or.inr ⟨c2, q75, e75, Or.inr ⟨c3, q80, e80, Or.inr ⟨c4, eq⟩⟩⟩))⟩⟩
