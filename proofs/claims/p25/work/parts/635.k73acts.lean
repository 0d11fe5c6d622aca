/-! ===== acts on both sides ===== -/
def R0 (s t : MS) : Prop := ∃ π σ lo hi, TRf π σ (gI s 1060) s 54 (gA t 49) ∧ OI t lo hi
/-- no store was told yet -/
def UT (s t : MS) : Prop := gI s 1060 = 0 ∧ gI s 1061 = 0 ∧ gI s 143 = 0 ∧ (∀ v, v < 8 → gA s 61 v = -2) ∧ gA t 49 785 = 0 ∧ gA t 49 16 = 0
/-- between calls -/
def BT (s : MS) (ts : List MS) (t : MS) : Prop := gI s 983 = gL t 78 ∧ (∀ k, k < 6 → gA s 2 k = gA t 9 k) ∧ (gI s 12 = 0 → UT s t) ∧ (gI s 12 ≠ 0 → gI s 1060 = gA t 39 5 ∧ R0 s t ∧ HJ s ts t)
theorem R0_J2 {s t : MS} (h : J2 s t) : gI s 1060 = gA t 39 5 ∧ R0 s t := by
  obtain ⟨⟨π, σ, lo, hi, H, O⟩, _⟩ := h
  exact ⟨H.2.1, π, σ, lo, hi, H.1, O⟩
theorem BT_V {s t : MS} {ts : List MS} (h : BT s ts t) (hC : CI s ts) (h47 : gI t 47 = gI s 12) : VJ s t := fun v hv => by
  by_cases z : gI s 12 = 0
  · rcases hC.2.2.1 with ⟨_, _, a⟩ | ⟨a, _⟩
    · exact ⟨fun _ => Or.inl (h47.trans z), fun _ => a v hv⟩
    · omega
  · obtain ⟨_, ⟨π, σ, lo, hi, H, _⟩, _⟩ := h.2.2.2 z
    have e := (rtr_e (H.2.2.2 v hv).1).1
    constructor
    · intro w; exact Or.inr (e.1 w)
    · rintro (w | w)
      · exact absurd (h47.symm.trans w) z
      · exact e.2 w
/-- nothing but refusals, the rows of before -/
theorem BT_k {s s' t t' : MS} {ts : List MS} (h : BT s ts t) (a1 : ∀ k, k = 12 ∨ k = 143 ∨ k = 145 ∨ k = 1060 ∨ k = 1061 → gI s' k = gI s k) (a2 : ∀ k, k = 8 ∨ k = 9 ∨ k = 10 ∨ (54 ≤ k ∧ k ≤ 61) → gA s' k = gA s k) (b1 : ∀ k, k = 76 ∨ k = 77 → gI t' k = gI t k) (b2 : ∀ k, k = 39 ∨ k = 49 ∨ k = 75 → gA t' k = gA t k) (c1 : gI s' 983 = gL t' 78) (c2 : ∀ k, k < 6 → gA s' 2 k = gA t' 9 k) : BT s' ts t' := by
  obtain ⟨_, _, h3, h4⟩ := h
  refine ⟨c1, c2, fun z => ?_, fun z => ?_⟩
  · obtain ⟨u1, u2, u3, u4, u5, u6⟩ := h3 (by rw [← a1 12 (Or.inl rfl)]; exact z)
    refine ⟨by rw [a1 1060 (by omega)]; exact u1, by rw [a1 1061 (by omega)]; exact u2, by rw [a1 143 (by omega)]; exact u3, fun v hv => by rw [a2 61 (by omega)]; exact u4 v hv, by rw [b2 49 (by omega)]; exact u5, by rw [b2 49 (by omega)]; exact u6⟩
  · obtain ⟨g1, ⟨π, σ, lo, hi, g2, g3⟩, g4⟩ := h4 (by rw [← a1 12 (Or.inl rfl)]; exact z)
    refine ⟨by rw [a1 1060 (by omega), b2 39 (Or.inl rfl)]; exact g1, ⟨π, σ, lo, hi, ?_, OI_49 g3 (b2 49 (by omega))⟩, HJ_k g4 (a1 145 (by omega)) (a1 143 (by omega)) (fun k hk => a2 k (by omega)) (b1 76 (Or.inl rfl)) (b1 77 (Or.inr rfl)) (b2 75 (by omega)) (b2 39 (Or.inl rfl)) (fun i _ _ => by rw [b2 49 (by omega)])⟩
    rw [a1 1060 (by omega), b2 49 (by omega)]
    exact TRf_rows g2 (fun k k1 k2 => a2 k (by omega))
/-- a call is refused -/
theorem BT_rf {s t : MS} {ts : List MS} {p : Int} (h : BT s ts t) (hp : 0 ≤ p ∧ p < 6) {q o : Int × MS} (e1 : m_x11_refuse p s = some q) (e2 : m_x12_refuses p t = some o) : q.1 = o.1 ∧ BT q.2 ts o.2 := by
  have F1 : F_x11_refuse s q.2 := fr_x11_refuse e1
  have F2 : F_x12_refuses t o.2 := fr_x12_refuses e2
  have g1 : pc (m_x11_refuse p s) (fun q => q.1 = -1 ∧ gA q.2 2 = upZ (gA s 2) p.toNat (gA s 2 p.toNat + 1)) := by
    unfold m_x11_refuse
    exact pc_rdI (fun _ => pc_inb (pc_stn (fun s3 e3 => pc_some ⟨rfl, q_AA e3⟩)))
  have g2 : pc (m_x12_refuses p t) (fun q => q.1 = -1 ∧ gA q.2 9 = upZ (gA t 9) p.toNat (gA t 9 p.toNat + 1)) := by
    unfold m_x12_refuses
    exact pc_rdI (fun _ => pc_inb (pc_stn (fun s3 e3 => pc_some ⟨rfl, q_AA e3⟩)))
  obtain ⟨x1, x2⟩ := g1 q e1
  obtain ⟨y1, y2⟩ := g2 o e2
  refine ⟨x1.trans y1.symm, BT_k h (fun k hk => F1.1 k (by simp)) (fun k hk => F1.2.1 k (by simp; omega)) (fun k hk => F2.1 k (by simp)) (fun k hk => F2.2.1 k (by simp; omega)) (by rw [F1.1 983 (by simp), F2.2.2.1 78 (by simp)]; exact h.1) (fun k hk => ?_)⟩
  rw [x2, y2]
  by_cases z : k = p.toNat
  · rw [z, upZ_s, upZ_s, h.2.1 p.toNat (by omega)]
  · rw [upZ_n z, upZ_n z]; exact h.2.1 k hk
theorem s_begin0 {s : MS} : pc (m_x1_begin s) (fun o => gL o 1062 = 0) := by
  unfold m_x1_begin
  exact pc_bn (fun s2 _ => pc_stn (fun s3 e3 => pc_some (q_LL e3)))
/-- an act begins -/
theorem y_begA {s s' t t' : MS} (N : gI s 1060 = gA t 39 5) (R : R0 s t) (Z : ZP s t) (hT : TE s) (e1 : m_x1_begin s = some s') (b : ∀ k, k = 49 ∨ k = 39 ∨ (42 ≤ k ∧ k ≤ 44) → gA t' k = gA t k) (c : ∀ x : Nat, x < 48 → gA t' 54 x = 0) : J2 s' t' ∧ TE s' ∧ F_x1_begin s s' ∧ BC s s' 54 63 1060 1240 ∧ gL s' 1062 = 0 := by
  obtain ⟨T1, F1, B1⟩ := wp_det (ts_begin hT) e1
  have l0 := s_begin0 s' e1
  obtain ⟨π, σ, lo, hi, H, O⟩ := R
  have P : TRf π σ (gI s' 1060) s' 54 (gA t' 49) := by
    rw [F1.1 1060 (by decide), b 49 (Or.inl rfl)]
    exact TRf_rows H (fun k k1 k2 => F1.2.1 k (by simp; omega))
  refine ⟨⟨⟨π, σ, lo, hi, ⟨P, by rw [F1.1 1060 (by decide), b 39 (by omega)]; exact N, fun x hx _ => ?_⟩, OI_49 O (b 49 (Or.inl rfl))⟩, ZP_k Z (F1.1 581 (by decide)) (F1.1 741 (by decide)) (fun k k1 k2 => F1.2.1 k (by simp; omega)) (fun k hk => b k (by omega))⟩, T1, F1, B1, l0⟩
  rw [l0, c x hx]
  exact ⟨fun w => absurd w (bW_0 (P.1 x hx).1.1), fun w => absurd rfl w⟩
theorem PSTm_k {t0 t t' : MS} {f : Nat → Int} (h : PSTm t0 t f) (a1 : gI t' 77 = gI t 77) (a2 : gI t' 76 = gI t 76) (a3 : gA t' 75 = gA t 75) : PSTm t0 t' f := by
  unfold PSTm at h ⊢
  rw [a1, a2, a3]; exact h
/-- an act that was done is KEPT -/
theorem act_ok {s sa t ta : MS} {ts : List MS} {a v : Int} {f0 : Nat → Int} (hC : CI s ts) (ht : gI s 12 ≠ 0) (hRR : Rr t) (G0 : GA t) (B : BT s ts t) (C1 : BC s sa 54 63 1060 1240) (C2 : ∀ k, k = 12 ∨ k = 143 ∨ k = 145 → gI sa k = gI s k) (C3 : ∀ k, k = 2 ∨ k = 8 ∨ k = 9 ∨ k = 10 → gA sa k = gA s k) (hs : gI sa 983 = gL ta 78)
    (M1 : PSTm t ta f0) (M2 : ∀ i, i < 906 → f0 i = gA t 49 i) (M3 : ∀ i, 785 ≤ i → i < 906 → gA ta 49 i = gA t 49 i) (M4 : gA ta 39 = gA t 39) (M5 : gA ta 9 = gA t 9) (H : J2 sa ta) (hRa : Rr ta) (Ga : GA ta) (ha : R2 a) (hv : R2 v) :
    pc (m_finish a v sa ts) (fun w => pc (m_x12_isKept a v ta) (fun o => BT w.2.1 w.2.2 o ∧ (∀ r, m_x12_writtenMany o = some r → w.1 = r) ∧ J2 w.2.1 o)) := by
  obtain ⟨N, R, hH⟩ := B.2.2.2 ht
  obtain ⟨⟨π, σ, lo, hi, HS1, O⟩, Z⟩ := H
  have hK : KLV t := KLV_of G0.1.1.1.1 (fun _ _ => Int.le_refl 0)
  have oz : ∀ x, x < 48 → 0 < cR (gA t 49) x ∨ 0 < vR (gA t 49) x → (hR (gA t 49)).2.1 x ≤ 6 := fun x hx l => (hK.2.1 x hx l).1.1.2.1.2
  have hl : gI s 145 ≤ (ts.length : Int) ∧ ts.length ≤ 20 := ⟨hC.2.2.2.1.2.1, hC.2.2.2.1.2.2⟩
  intro w ew o eo
  have Y := y_fin hH C1 ⟨C2 143 (by omega), C2 145 (by omega)⟩ (fun k hk => C3 k (by omega)) M1 M2 M3 M4 (show (0 : Int) ≤ gI t 77 ∧ gI t 77 ≤ 19 from hRR.1 77) R N oz hl HS1 O hRa Ga.1 Ga.2.2.1 Ga.2.2.2 ha hv w ew o eo
  obtain ⟨y1, y2, y3, y4, y5, y6⟩ := Y
  have FK : F_x12_isKept ta o := fr_x12_isKept eo
  refine ⟨⟨?_, fun k hk => ?_, fun z => ?_, fun _ => ⟨y2.2.1, ⟨π, σ, lo, hi, y2.1, y3⟩, y1⟩⟩, y4, ⟨⟨π, σ, lo, hi, y2, y3⟩, ZP_k Z (y5 581 (by decide) (by decide) (by decide)) (y5 741 (by decide) (by decide) (by decide)) (fun k k1 k2 => y6 k (by omega) (by omega) (by omega) (by omega)) (fun k hk => FK.2.1 k (by simp; omega))⟩⟩
  · rw [y5 983 (by decide) (by decide) (by decide), FK.2.2.1 78 (by simp)]; exact hs
  · rw [y6 2 (by decide) (by decide) (by decide) (by decide), C3 2 (Or.inl rfl), FK.2.1 9 (by decide), M5]; exact B.2.1 k hk
  · exfalso
    rw [y5 12 (by decide) (by decide) (by decide), C2 12 (Or.inl rfl)] at z
    exact ht z
/-- what is told of the store, as acts want it -/
def ZT (s t : MS) : Prop := gI s 12 ≠ 0 → ZP s t ∧ gA t 39 9 = gI s 582
theorem GA_clr {t o : MS} (G : GA t) (F : F_x12_clearsTouched t o) : GA o := GA_eq G ⟨F.2.1 39 (by decide), F.2.1 42 (by decide), F.2.1 43 (by decide), F.2.1 44 (by decide)⟩ (F.2.1 49 (by decide)) (F.2.1 75 (by decide)) (F.1 76 (by simp)) (F.1 77 (by simp))
theorem GA_ASm {t X : MS} (G : GA t) (A : ASm t X) : GA X := GA_eq G ⟨A.1 39 (by decide), A.1 42 (by decide), A.1 43 (by decide), A.1 44 (by decide)⟩ (A.1 49 (by decide)) (A.1 75 (by decide)) (A.2.2.1 76) (A.2.2.1 77)
/-- PUT, REMOVE: tried and kept -/
theorem y_tried {s s18 t t21 : MS} {ts : List MS} {k : Int} {v : Nat} {key val : Int} {q21 : Int × MS} (hC : CI s ts) (ht : gI s 12 ≠ 0) (hRR : Rr t) (G0 : GA t) (B : BT s ts t) (Z : ZP s t) (e18 : m_x1_begin s = some s18) (f21 : m_x12_clearsTouched t = some t21)
    (hk : k = 2 ∨ k = 3) (hv : v < 8) (hrt : (0 ≤ gA t 49 v ∧ gA t 49 v < 254) ∨ gA t 49 v = 254) (hkv : k = 2 → (0 ≤ key ∧ key ≤ 999) ∧ (0 ≤ val ∧ val ≤ 999)) (h2 : R2 key) (h3 : R2 val)
    (F1 : F_x1_tryPlant s18 q21.2 ∨ F_x1_tryUproot s18 q21.2) (TRYJ : ∀ X : MS, J2 s18 X → Rr X → GA X → gA X 49 = gA t 49 → pc (m_x12_tries k (v : Int) key val X) (fun o => q21.1 = o.1 ∧ J2 q21.2 o.2)) :
    pc (m_x12_canBe k (v : Int) key val t21) (fun o => q21.1 = o.1 ∧ (q21.1 = 0 → BT q21.2 ts o.2) ∧ (q21.1 ≠ 0 → ∀ a u : Int, R2 a → R2 u → pc (m_finish a u q21.2 ts) (fun w => pc (m_x12_isKept a u o.2) (fun o => BT w.2.1 w.2.2 o ∧ ∀ r, m_x12_writtenMany o = some r → w.1 = r)))) := by
  obtain ⟨N, R, hH⟩ := B.2.2.2 ht
  have FC : F_x12_clearsTouched t t21 := fr_x12_clearsTouched f21
  have R21 := wp_det (w_x12_clearsTouched hRR) f21
  have G21 := GA_clr G0 FC
  obtain ⟨J18, T18, F18, B18, _⟩ := y_begA N R Z (CI_TE hC ht) e18 (t' := t21) (fun k hk => FC.2.1 k (by simp; omega)) (m_clears t21 f21)
  have cI : ∀ i, i = 12 ∨ i = 143 ∨ i = 145 ∨ i = 983 → gI q21.2 i = gI s i := fun i hi => by
    rcases F1 with F1 | F1
    · rw [F1.1 i (by simp; omega), F18.1 i (by simp; omega)]
    · rw [F1.1 i (by simp; omega), F18.1 i (by simp; omega)]
  have cA : ∀ i, i = 2 ∨ i = 8 ∨ i = 9 ∨ i = 10 → gA q21.2 i = gA s i := fun i hi => by
    rcases F1 with F1 | F1
    · rw [F1.2.1 i (by simp; omega), F18.2.1 i (by simp; omega)]
    · rw [F1.2.1 i (by simp; omega), F18.2.1 i (by simp; omega)]
  have C1 : BC s q21.2 54 63 1060 1240 := by
    rcases F1 with F1 | F1
    · exact BC_fr B18 (fun i i1 i2 => F1.2.1 i (by simp; omega)) ⟨F1.1 1240 (by decide), F1.1 1241 (by decide)⟩
    · exact BC_fr B18 (fun i i1 i2 => F1.2.1 i (by simp; omega)) ⟨F1.1 1240 (by decide), F1.1 1241 (by decide)⟩
  intro o eo
  obtain ⟨X, q, AS, eq, w⟩ := m_canBe o eo
  have RX := AS.2.2.2.2 R21
  have GX := GA_ASm G21 AS
  have x49 : gA X 49 = gA t 49 := (AS.1 49 (by decide)).trans (FC.2.1 49 (by decide))
  have JX : J2 s18 X := J2_k J18 (fun _ _ => rfl) rfl rfl rfl rfl (fun i hi => AS.1 i (by omega))
  obtain ⟨c1, c2⟩ := TRYJ X JX RX GX x49 q eq
  have FT : F_x12_tries X q.2 := fr_x12_tries eq
  obtain ⟨Rq, _, KSq, RTq, RWq, _⟩ := wp_det (w_x12_tries RX hk (p1 := (v : Int)) ⟨by omega, by omega⟩ GX.1.1.1 GX.1.2.2.1 GX.1.2.2.2.1 (by have := GX.1.2.1; omega) GX.1.2.1.2 (by rw [Int.toNat_natCast, x49]; exact hrt) hkv h2 h3) eq
  have Gq : GA q.2 := GA_tries (v := v) GX KSq RTq hv (by rw [Int.toNat_natCast] at RWq; exact RWq) (FT.2.1 75 (by decide)) (FT.1 76 (by decide)) (FT.1 77 (by decide))
  have q75 : gA q.2 75 = gA t 75 := (FT.2.1 75 (by decide)).trans ((AS.1 75 (by decide)).trans (FC.2.1 75 (by decide)))
  have q76 : gI q.2 76 = gI t 76 := (FT.1 76 (by decide)).trans ((AS.2.2.1 76).trans (FC.1 76 (by simp)))
  have q77 : gI q.2 77 = gI t 77 := (FT.1 77 (by decide)).trans ((AS.2.2.1 77).trans (FC.1 77 (by simp)))
  have q39 : gA q.2 39 = gA t 39 := (FT.2.1 39 (by decide)).trans ((AS.1 39 (by decide)).trans (FC.2.1 39 (by decide)))
  have q9 : gA q.2 9 = gA t 9 := (FT.2.1 9 (by decide)).trans ((AS.1 9 (by decide)).trans (FC.2.1 9 (by decide)))
  have q78 : gL q.2 78 = gL t 78 := (FT.2.2.1 78 (by simp)).trans ((AS.2.2.2.1 78).trans (FC.2.2.1 78 (by simp)))
  have qk : ∀ i, 785 ≤ i → gA q.2 49 i = gA t 49 i := fun i hi => by rw [KSq.2 i hi, x49]
  rcases w with ⟨w1, w2⟩ | ⟨w1, w2, Y, Zz, SW, eZ, RS⟩
  · rw [w2]
    refine ⟨c1.trans w1, fun _ => ?_, fun z => absurd (c1.trans w1) z⟩
    obtain ⟨N', R'⟩ := R0_J2 c2
    refine ⟨by rw [cI 983 (by omega), q78]; exact B.1, fun i hi => by rw [cA 2 (Or.inl rfl), q9]; exact B.2.1 i hi, fun z => ?_, fun _ => ⟨N', R', HJ_k hH (cI 145 (by omega)) (cI 143 (by omega)) (fun i hi => cA i (by omega)) q76 q77 q75 q39 (fun i i1 _ => qk i i1)⟩⟩
    exfalso
    rw [cI 12 (Or.inl rfl)] at z
    exact ht z
  · have n1 : q21.1 ≠ 0 := fun z => w1 (c1.symm.trans z)
    have o01 : q.1 = 0 ∨ q.1 = 1 := (wp_det (w_x12_tries RX hk (p1 := (v : Int)) ⟨by omega, by omega⟩ GX.1.1.1 GX.1.2.2.1 GX.1.2.2.2.1 (by have := GX.1.2.1; omega) GX.1.2.1.2 (by rw [Int.toNat_natCast, x49]; exact hrt) hkv h2 h3) eq).2.1
    refine ⟨by omega, fun z => absurd z n1, fun _ a u ha hu => ?_⟩
    obtain ⟨y1, y2, y3, y4, y5, y6⟩ := SW
    have RY := y6 Rq
    obtain ⟨RZ, FZ, P1⟩ := m_keeps RY eZ
    obtain ⟨z1, z2, z3, z4, z5⟩ := RS
    have o49 : gA o.2 49 = gA q.2 49 := by
      funext i
      by_cases hi : i < 785
      · rw [z1 i hi, FZ.2.1 61 (by decide), (y1 i hi).2]
      · rw [z2 i (by omega), FZ.2.1 49 (by decide), y2 i (by omega)]
    have oA : ∀ i, i ≠ 49 → i ≠ 61 → i ≠ 75 → gA o.2 i = gA q.2 i := fun i i1 i2 i3 => by rw [z3 i i1, FZ.2.1 i (by simp; omega), y3 i i1 i2]
    have f61 : gA q.2 61 = gA X 61 := FT.2.1 61 (by decide)
    have M2 : ∀ i, i < 906 → gA Y 49 i = gA t 49 i := fun i hi => by
      by_cases h785 : i < 785
      · rw [(y1 i h785).1, f61, AS.2.1 i h785, FC.2.1 49 (by decide)]
      · rw [y2 i (by omega)]; exact qk i (by omega)
    have M1 : PSTm t o.2 (gA Y 49) := by
      obtain ⟨p1, p2, p3, p4⟩ := P1
      have e77 : gI Y 77 = gI t 77 := (y4 77).trans q77
      have e76 : gI Y 76 = gI t 76 := (y4 76).trans q76
      have e75 : gA Y 75 = gA t 75 := (y3 75 (by decide) (by decide)).trans q75
      refine PSTm_k (t := Zz) ⟨by rw [p1, e77], by rw [p2, e76], p3, fun j hj => by rw [p4 j hj, e75]⟩ (z4 77) (z4 76) (z3 75 (by decide))
    have JO : J2 q21.2 o.2 := J2_k c2 (fun _ _ => rfl) rfl rfl rfl rfl (fun i hi => by
      by_cases h49 : i = 49
      · rw [h49]; exact o49
      · exact oA i h49 (by omega) (by omega))
    obtain ⟨Ro, _, GNo, JRo, O16, O785⟩ := wp_det (w_x12_canBe R21 hk (p1 := (v : Int)) ⟨by omega, by omega⟩ G21.1 G21.2.1 G21.2.2.1 G21.2.2.2 (by rw [Int.toNat_natCast, FC.2.1 49 (by decide)]; omega) hkv h2 h3) eo
    exact pc_mono (act_ok hC ht hRR G0 B C1 (fun i hi => cI i (by omega)) cA (by rw [cI 983 (by omega), z5, FZ.2.2.1 78 (by simp), y5, q78]; exact B.1) M1 M2 (fun i i1 _ => by rw [o49]; exact qk i i1) ((oA 39 (by decide) (by decide) (by decide)).trans q39) ((oA 9 (by decide) (by decide) (by decide)).trans q9) JO Ro ⟨GNo, JRo, O16, O785⟩ ha hu) (fun w hw => pc_mono hw (fun o ho => ⟨ho.1, ho.2.1⟩))
theorem s_isKey {p : Int} {s : MS} : pc (m_x11_isKey p s) (fun r => (r = 1 ∧ 0 ≤ p ∧ p ≤ 999) ∨ (r = 0 ∧ ¬ (0 ≤ p ∧ p ≤ 999))) := by
  unfold m_x11_isKey m_x11_isKey_J15 m_x11_isKey_J16
  exact pc_rg (pc_if (fun c => pc_bo (pc_some (Or.inr ⟨rfl, fun w => by omega⟩))) (fun c => pc_rg (pc_if (fun c2 => pc_bo (pc_some (Or.inr ⟨rfl, fun w => by omega⟩))) (fun c2 => pc_bo (pc_some (Or.inl ⟨rfl, by omega, by omega⟩))))))
theorem y_isKey {p : Int} {s t : MS} {r q : Int} (e1 : m_x11_isKey p s = some r) (e2 : m_x12_isIn p 0 999 t = some q) : r = q ∧ (r ≠ 0 → 0 ≤ p ∧ p ≤ 999) := by
  rcases s_isKey r e1 with ⟨a, b⟩ | ⟨a, b⟩ <;> rcases m_isIn q e2 with ⟨c, d⟩ | ⟨c, d⟩
  · exact ⟨a.trans c.symm, fun _ => b⟩
  · exact absurd b d
  · exact absurd d b
  · exact ⟨a.trans c.symm, fun z => absurd a z⟩
/-- PUT -/
theorem y_putA {s t : MS} {ts : List MS} {p0 p1 p2 : Int} (hC : CI s ts) (hRR : Rr t) (hJ : JI t) (B : BT s ts t) (h47 : gI t 47 = gI s 12) (hZ : ZT s t) (h1 : R2 p1) (h2 : R2 p2) : pc (m_x11_put ts p0 p1 p2 s) (fun q => pc (m_x12_put p0 p1 p2 t) (fun o => q.1 = o.1 ∧ BT q.2.1 q.2.2 o.2)) := by
  have V := BT_V B hC h47
  have RF : ∀ q4 : Int × MS, m_x11_refuse 2 s = some q4 → ∀ (Q : Int × MS → Prop), (∀ o4 : Int × MS, m_x12_refuses 2 t = some o4 → (q4.1 = o4.1 ∧ BT q4.2 ts o4.2) → Q o4) → pc (m_x12_put_J33 t) Q := fun q4 e4 Q K => by
    unfold m_x12_put_J33
    exact pc_bn (fun o4 f4 => pc_some (K o4 f4 (BT_rf B (by decide) e4 f4)))
  unfold m_x11_put m_x11_put_J28
  refine pc_bn (fun r6 e6 => pc_rg (pc_if (fun c1 => pc_bn (fun q4 e4 => pc_some ?_)) (fun c1 => pc_bn (fun r10 e10 => pc_rg (pc_if (fun c2 => pc_bn (fun q4 e4 => pc_some ?_)) (fun c2 => pc_bn (fun r14 e14 => pc_rg (pc_if (fun c3 => pc_bn (fun q4 e4 => pc_some ?_)) (fun c3 => pc_bn (fun s18 e18 => pc_bn (fun q21 e21 => ?_)))))))))))
  · unfold m_x12_put
    refine pc_rg (pc_bn (fun r7 f7 => pc_rg (pc_if (fun _ => RF q4 e4 _ (fun o4 _ h => h)) (fun d => absurd ((y_isVol V e6 f7).1.symm.trans c1) d))))
  · unfold m_x12_put
    refine pc_rg (pc_bn (fun r7 f7 => pc_rg (pc_if (fun _ => RF q4 e4 _ (fun o4 _ h => h)) (fun _ => pc_rg (pc_bn (fun r12 f12 => pc_rg (pc_if (fun _ => RF q4 e4 _ (fun o4 _ h => h)) (fun d => absurd ((y_isKey e10 f12).1.symm.trans c2) d))))))))
  · unfold m_x12_put
    refine pc_rg (pc_bn (fun r7 f7 => pc_rg (pc_if (fun _ => RF q4 e4 _ (fun o4 _ h => h)) (fun _ => pc_rg (pc_bn (fun r12 f12 => pc_rg (pc_if (fun _ => RF q4 e4 _ (fun o4 _ h => h)) (fun _ => pc_rg (pc_bn (fun r17 f17 => pc_rg (pc_if (fun _ => RF q4 e4 _ (fun o4 _ h => h)) (fun d => absurd ((y_isKey e14 f17).1.symm.trans c3) d))))))))))))
  -- the act
  have vol := s_isVol r6 e6
  have v0 : (0 ≤ p0 ∧ p0 < 8) ∧ gA s 60 p0.toNat ≠ -2 := by
    rcases vol with ⟨_, a⟩ | ⟨a, _⟩
    · exact a
    · exact absurd a c1
  obtain ⟨v, hv⟩ : ∃ v : Nat, p0 = (v : Int) := ⟨p0.toNat, by omega⟩
  rw [hv] at e21 v0 ⊢
  rw [Int.toNat_natCast] at v0
  have v8 : v < 8 := by omega
  have ht := CI_told hC v8 v0.2
  have t47 : gI t 47 ≠ 0 := by rw [h47]; exact ht
  have G0 := JI_GA hJ t47
  have n255 : gA t 49 v ≠ 255 := fun z => v0.2 ((V v v8).2 (Or.inr z))
  have k1 : 0 ≤ p1 ∧ p1 ≤ 999 := by
    rcases s_isKey r10 e10 with ⟨_, a⟩ | ⟨a, _⟩
    · exact a
    · exact absurd a c2
  have k2 : 0 ≤ p2 ∧ p2 ≤ 999 := by
    rcases s_isKey r14 e14 with ⟨_, a⟩ | ⟨a, _⟩
    · exact a
    · exact absurd a c3
  have TR : ∀ t21 : MS, m_x12_clearsTouched t = some t21 → pc (m_x12_canBe 2 (v : Int) p1 p2 t21) (fun o => q21.1 = o.1 ∧ (q21.1 = 0 → BT q21.2 ts o.2) ∧ (q21.1 ≠ 0 → ∀ a u : Int, R2 a → R2 u → pc (m_finish a u q21.2 ts) (fun w => pc (m_x12_isKept a u o.2) (fun o => BT w.2.1 w.2.2 o ∧ ∀ r, m_x12_writtenMany o = some r → w.1 = r)))) := fun t21 f21 => by
    have T18 := (wp_det (ts_begin (CI_TE hC ht)) e18).1
    exact y_tried hC ht hRR G0 B (hZ ht).1 e18 f21 (Or.inl rfl) v8 (GA_rt G0 v8 n255) (fun _ => ⟨k1, k2⟩) h1 h2 (Or.inl (fr_x1_tryPlant e21)) (fun X JX RX GX x49 => y_plantJ JX T18 RX GX v8 (by rw [x49]; exact n255) k1 k2 q21 e21)
  refine pc_rg (pc_if (fun c4 => pc_bn (fun q30 e30 => pc_some ?_)) (fun c4 => pc_bn (fun q25 e25 => pc_some ?_)))
  · unfold m_x12_put
    refine pc_rg (pc_bn (fun r7 f7 => pc_rg (pc_if (fun d => absurd ((y_isVol V e6 (by rw [hv]; exact f7)).1.trans d) c1) (fun _ => pc_rg (pc_bn (fun r12 f12 => pc_rg (pc_if (fun d => absurd ((y_isKey e10 f12).1.trans d) c2) (fun _ => pc_rg (pc_bn (fun r17 f17 => pc_rg (pc_if (fun d => absurd ((y_isKey e14 f17).1.trans d) c3) (fun _ => pc_bn (fun t21 f21 => pc_bq (TR t21 f21) (fun o24 h24 => pc_rg (pc_if (fun _ => pc_bn (fun o33 f33 => pc_some ?_)) (fun d => absurd (h24.1.symm.trans c4) d))))))))))))))))
    exact BT_rf (h24.2.1 c4) (by decide) e30 f33
  · unfold m_x12_put
    refine pc_rg (pc_bn (fun r7 f7 => pc_rg (pc_if (fun d => absurd ((y_isVol V e6 (by rw [hv]; exact f7)).1.trans d) c1) (fun _ => pc_rg (pc_bn (fun r12 f12 => pc_rg (pc_if (fun d => absurd ((y_isKey e10 f12).1.trans d) c2) (fun _ => pc_rg (pc_bn (fun r17 f17 => pc_rg (pc_if (fun d => absurd ((y_isKey e14 f17).1.trans d) c3) (fun _ => pc_bn (fun t21 f21 => pc_bq (TR t21 f21) (fun o24 h24 => pc_rg (pc_if (fun d => absurd (h24.1.trans d) c4) (fun _ => pc_bn (fun s28 f28 => pc_bn (fun r30 f30 => pc_some ?_))))))))))))))))))
    have K := h24.2.2 c4 0 (v : Int) (by decide) ⟨by omega, by omega⟩ q25 e25 s28 f28
    exact ⟨K.2 r30 f30, K.1⟩
/-- REMOVE -/
theorem y_removeA {s t : MS} {ts : List MS} {p0 p1 : Int} (hC : CI s ts) (hRR : Rr t) (hJ : JI t) (B : BT s ts t) (h47 : gI t 47 = gI s 12) (hZ : ZT s t) (h1 : R2 p1) : pc (m_x11_remove ts p0 p1 s) (fun q => pc (m_x12_remove p0 p1 t) (fun o => q.1 = o.1 ∧ BT q.2.1 q.2.2 o.2)) := by
  have V := BT_V B hC h47
  unfold m_x11_remove
  refine pc_bn (fun r6 e6 => pc_rg (pc_if (fun c1 => pc_bn (fun q4 e4 => pc_some ?_)) (fun c1 => pc_bn (fun s18 e18 => pc_bn (fun q21 e21 => ?_)))))
  · unfold m_x12_remove
    exact pc_rg (pc_bn (fun r7 f7 => pc_rg (pc_if (fun _ => pc_bn (fun o4 f4 => pc_some (BT_rf B (by decide) e4 f4))) (fun d => absurd ((y_isVol V e6 f7).1.symm.trans c1) d))))
  have v0 : (0 ≤ p0 ∧ p0 < 8) ∧ gA s 60 p0.toNat ≠ -2 := by
    rcases s_isVol r6 e6 with ⟨_, a⟩ | ⟨a, _⟩
    · exact a
    · exact absurd a c1
  obtain ⟨v, hv⟩ : ∃ v : Nat, p0 = (v : Int) := ⟨p0.toNat, by omega⟩
  rw [hv] at e21 v0 ⊢
  rw [Int.toNat_natCast] at v0
  have v8 : v < 8 := by omega
  have ht := CI_told hC v8 v0.2
  have t47 : gI t 47 ≠ 0 := by rw [h47]; exact ht
  have G0 := JI_GA hJ t47
  have n255 : gA t 49 v ≠ 255 := fun z => v0.2 ((V v v8).2 (Or.inr z))
  have TR : ∀ t21 : MS, m_x12_clearsTouched t = some t21 → pc (m_x12_canBe 3 (v : Int) p1 0 t21) (fun o => q21.1 = o.1 ∧ (q21.1 = 0 → BT q21.2 ts o.2) ∧ (q21.1 ≠ 0 → ∀ a u : Int, R2 a → R2 u → pc (m_finish a u q21.2 ts) (fun w => pc (m_x12_isKept a u o.2) (fun o => BT w.2.1 w.2.2 o ∧ ∀ r, m_x12_writtenMany o = some r → w.1 = r)))) := fun t21 f21 => by
    have T18 := (wp_det (ts_begin (CI_TE hC ht)) e18).1
    exact y_tried hC ht hRR G0 B (hZ ht).1 e18 f21 (Or.inr rfl) v8 (GA_rt G0 v8 n255) (fun z => absurd z (by decide)) h1 (by decide) (Or.inr (fr_x1_tryUproot e21)) (fun X JX RX GX x49 => y_uprootJ JX T18 RX GX v8 h1 q21 e21)
  refine pc_rg (pc_if (fun c4 => pc_bn (fun q30 e30 => pc_some ?_)) (fun c4 => pc_bn (fun q25 e25 => pc_some ?_)))
  · unfold m_x12_remove
    refine pc_rg (pc_bn (fun r7 f7 => pc_rg (pc_if (fun d => absurd ((y_isVol V e6 (by rw [hv]; exact f7)).1.trans d) c1) (fun _ => pc_bn (fun t21 f21 => pc_bq (TR t21 f21) (fun o24 h24 => pc_rg (pc_if (fun _ => pc_bn (fun o33 f33 => pc_some ?_)) (fun d => absurd (h24.1.symm.trans c4) d))))))))
    exact BT_rf (h24.2.1 c4) (by decide) e30 f33
  · unfold m_x12_remove
    refine pc_rg (pc_bn (fun r7 f7 => pc_rg (pc_if (fun d => absurd ((y_isVol V e6 (by rw [hv]; exact f7)).1.trans d) c1) (fun _ => pc_bn (fun t21 f21 => pc_bq (TR t21 f21) (fun o24 h24 => pc_rg (pc_if (fun d => absurd (h24.1.trans d) c4) (fun _ => pc_bn (fun s28 f28 => pc_bn (fun r30 f30 => pc_some ?_))))))))))
    have K := h24.2.2 c4 1 (v : Int) (by decide) ⟨by omega, by omega⟩ q25 e25 s28 f28
    exact ⟨K.2 r30 f30, K.1⟩
