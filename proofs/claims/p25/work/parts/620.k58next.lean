/-! ===== what stands behind one step down: each side ===== -/
def CurO (s : MS) (b i : Int) : Prop := (0 ≤ b ∧ b < 48) ∧ gA s 54 b.toNat = 1 ∧ gA s 55 b.toNat = 0 ∧ gA s 56 b.toNat = i
theorem CurO_of {s : MS} {b i : Int} (h : Cur s b i) : CurO s b i := ⟨h.1, h.2.1, h.2.2.1, h.2.2.2.1⟩
def CurMo (s : MS) (v : Nat) (M : Nat → Nat → Int) (b i : Int) : Prop := ((0 ≤ b ∧ b < 48) ∧ cM s b.toNat = 1 ∧ vM s b.toNat = 0) ∧ (hM s).1 b.toNat = i ∧ (M v b.toNat = 1 ∧ ∀ u, u < 16 → u ≠ v → M u b.toNat = 0)
def GDo (s S : MS) (v : Nat) (b i : Int) : Prop := RWn s S v ∧ ∃ M, TM S d0 (-1) ∧ PM S v M d0 (-1) ∧ CurMo S v M b i
theorem GDo_of {s S : MS} {v : Nat} {b i : Int} (h : GD s S v b i) : GDo s S v b i := by
  obtain ⟨w, M, t, p, c⟩ := h
  exact ⟨w, M, t, p, c.1, c.2.1, c.2.2.2⟩
theorem c_next {S s34 : MS} {B i r : Int} {q30 : Int × MS} (hR : Rg S) (T : TS S Z0 (-1)) (hC : CurO S B i) (hi : 0 < i) (h5 : 0 ≤ gI S 581) (hk : 0 ≤ r ∧ r < gA S 57 B.toNat) (e30 : m_x1_owned (gA S 59 (6 * B.toNat + r.toNat)) S = some q30) (c3 : q30.1 ≠ -1) (e34 : m_x8_set B r q30.1 q30.2 = some s34) : Rg s34 ∧ TS s34 Z0 (-1) ∧ (0 ≤ q30.1 ∧ q30.1 < 48) ∧ (gA s34 54 q30.1.toNat = 1 ∧ gA s34 55 q30.1.toNat = 0 ∧ gA s34 56 q30.1.toNat = i - 1) ∧ CurO s34 B i ∧ gI s34 581 = gI S 581 ∧ gA s34 57 B.toNat = gA S 57 B.toNat := by
  have zD : ∀ x, x < 48 → 0 ≤ Z0 x := fun x _ => Int.le_refl 0
  have zD' : ∀ x, x < 48 → 0 ≤ Z0 x ∧ Z0 x ≤ 10 := fun x _ => ⟨Int.le_refl 0, by show (0 : Int) ≤ 10; omega⟩
  obtain ⟨hb, b54, b55, b56⟩ := hC
  have hb48 : B.toNat < 48 := by omega
  have hN8 : gI S 1060 ≤ 48 := T.1.1
  have hE6 : gI S 581 ≤ 6 := (hR.1 581).2
  obtain ⟨y, ey⟩ : ∃ y, y = gA S 59 (6 * B.toNat + r.toNat) := ⟨_, rfl⟩
  rw [← ey] at e30
  have kid := TG_kid (p := B.toNat) (k := r.toNat) T zD hb48 (by omega) (by show 0 < gA S 56 B.toNat; omega) (by show ((r.toNat : Nat) : Int) < gA S 57 B.toNat; omega)
  have v27 : (hN S).2.2 B.toNat r.toNat = y := ey.symm
  rw [v27] at kid
  obtain ⟨⟨k0, k1⟩, k2, k3⟩ := kid
  have k2' : gA S 56 y.toNat = gA S 56 B.toNat - 1 := k2
  obtain ⟨hRo, Fo, h30⟩ := wp_det (ts_owned hR T zD' h5 (p0 := y) (by omega) k3) e30
  obtain ⟨q, o⟩ := q30
  (try dsimp only at h30 hRo Fo e34 c3 ⊢)
  rcases h30 with h30 | ⟨r0, ⟨rq, rN⟩, ⟨o54, o55⟩, ⟨o56, o57⟩, oc, oh, oq, T1⟩
  · exact absurd h30 c3
  have nb : B.toNat ≠ y.toNat := fun z => by rw [← z] at k2'; omega
  have nq : B.toNat ≠ q.toNat := fun z => by
    rcases oq with oq | oq
    · exact nb (by omega)
    · rw [← z] at oq; omega
  have ob := oh B.toNat hb48 nq
  have c54 : gA o 54 B.toNat = 1 := by rw [oc B.toNat hb48 (by omega) (by omega) nb]; exact b54
  have c55 : gA o 55 B.toNat = 0 := by rw [Fo.2.1 55 (by decide)]; exact b55
  have c56 : gA o 56 B.toNat = i := by rw [ob.1]; exact b56
  have c57 : gA o 57 B.toNat = gA S 57 B.toNat := ob.2.1
  have s6 : gA S 57 B.toNat ≤ 6 := (T.1.2.2.2 B.toNat hb48).1.2
  have c59 : gA o 59 (6 * B.toNat + r.toNat) = y := by rw [(ob.2.2 r.toNat (by omega)).2]; exact ey.symm
  have oe : gI o 581 = gI S 581 := Fo.1 581 (by decide)
  have on : gI o 1060 = gI S 1060 := Fo.1 1060 (by decide)
  obtain ⟨hR34, F34, u59, T2⟩ := wp_det (ts_set (p0 := B) (p1 := r) (p2 := q) hRo T1 hb (by omega) (by omega) (by omega) (fun _ => ⟨by rw [on]; omega, by omega⟩) (by omega)) e34
  have T3 : TS s34 Z0 (-1) := by
    refine TG_D T2 (fun x hx => ?_)
    show (0 : Int) = 0 + (if x = q.toNat then 1 else 0) - (if x = y.toNat then 1 else 0) + (if 0 < gA o 56 B.toNat ∧ gA o 59 (6 * B.toNat + r.toNat) = (x : Int) then 1 else 0) - (if 0 < gA o 56 B.toNat ∧ q = (x : Int) then 1 else 0)
    rw [c59]
    have hl : 0 < gA o 56 B.toNat := by omega
    have e1 : (if 0 < gA o 56 B.toNat ∧ y = (x : Int) then (1 : Int) else 0) = if x = y.toNat then 1 else 0 := by
      by_cases z : x = y.toNat
      · rw [if_pos z, if_pos ⟨hl, by omega⟩]
      · rw [if_neg z, if_neg (fun w => z (by omega))]
    have e2 : (if 0 < gA o 56 B.toNat ∧ q = (x : Int) then (1 : Int) else 0) = if x = q.toNat then 1 else 0 := by
      by_cases z : x = q.toNat
      · rw [if_pos z, if_pos ⟨hl, by omega⟩]
      · rw [if_neg z, if_neg (fun w => z (by omega))]
    rw [e1, e2]; omega
  have g54 : gA s34 54 = gA o 54 := F34.2.1 54 (by decide)
  have g55 : gA s34 55 = gA o 55 := F34.2.1 55 (by decide)
  have g56 : gA s34 56 = gA o 56 := F34.2.1 56 (by decide)
  have g57 : gA s34 57 = gA o 57 := F34.2.1 57 (by decide)
  have ge : gI s34 581 = gI S 581 := (F34.1 581 (by decide)).trans oe
  exact ⟨hR34, T3, ⟨r0, by omega⟩, ⟨by rw [g54]; exact o54, by rw [g55]; exact o55, by rw [g56]; omega⟩, ⟨hb, by rw [g54]; exact c54, by rw [g55]; exact c55, by rw [g56]; exact c56⟩, ge, by rw [g57]; exact c57⟩
/-- the reference: X is o itself, or o with the entry set -/
theorem r_next {t0 T X : MS} {v b : Nat} {i r : Int} {q46 : Int × MS} (hv : v < 8) (hR : Rr T) (hKS : KS t0 T) (hC0 : CE t0 0) (hE : 3 ≤ gA t0 39 6 ∧ gA t0 39 6 ≤ 6) (h55 : gI T 55 = 0) (hG : GDo t0 T v (b : Int) i) (hi : 0 < i) (hk : 0 ≤ r ∧ r < (hM T).2.1 b) (e46 : m_x12_owned ((hM T).2.2 b r.toNat) T = some q46) (z55 : gI q46.2 55 = 0)
    (hX : ((hM q46.2).2.2 b r.toNat = q46.1 ∧ X = q46.2) ∨ ((hM q46.2).2.2 b r.toNat ≠ q46.1 ∧ m_x12_setsEntry (b : Int) r (kM q46.2 b r.toNat) q46.1 q46.2 = some X)) :
    Rr X ∧ KS t0 X ∧ gI X 55 = 0 ∧ RWn t0 X v ∧ (0 ≤ q46.1 ∧ q46.1 < 48) ∧ (0 ≤ (hM T).2.2 b r.toNat ∧ (hM T).2.2 b r.toNat < 48) ∧ (BX q46.2 X b ∧ (hM X).2.1 b = (hM q46.2).2.1 b ∧ ((hM X).2.2 b r.toNat = q46.1 ∧ ∀ j, j ≠ r.toNat → (hM X).2.2 b j = (hM q46.2).2.2 b j) ∧ ∀ j, kM X b j = kM q46.2 b j) ∧ (∃ M', TM X d0 (-1) ∧ PM X v M' d0 (-1) ∧ CurMo X v M' (b : Int) i ∧ ((cM X q46.1.toNat = 1 ∧ vM X q46.1.toNat = 0) ∧ (hM X).1 q46.1.toNat = i - 1 ∧ (M' v q46.1.toNat = 1 ∧ ∀ u, u < 16 → u ≠ v → M' u q46.1.toNat = 0))) ∧ (q46.1.toNat = ((hM T).2.2 b r.toNat).toNat → cM T ((hM T).2.2 b r.toNat).toNat = 1 ∧ vM T ((hM T).2.2 b r.toNat).toNat = 0) := by
  obtain ⟨hW, M, TT, P, hA⟩ := hG
  obtain ⟨⟨ha, a54, a55⟩, a56, am, amu⟩ := hA
  have tb : ((b : Nat) : Int).toNat = b := Int.toNat_natCast _
  rw [tb] at a54 a55 a56 am amu
  have ha48 : b < 48 := by omega
  have S39 := hKS.1.1
  obtain ⟨y, ey⟩ : ∃ y, y = (hM T).2.2 b r.toNat := ⟨_, rfl⟩
  rw [← ey] at e46 ⊢
  have na := (TG_nd TT ha48 (by omega)).2.1
  have kid := TG_kid (p := b) (k := r.toNat) TT (fun _ _ => Int.le_refl 0) ha48 (by omega) (by omega) (by omega)
  have km := kid_mu (k := r.toNat) hv P ha48 (by omega) (by omega) (by omega)
  have ke := enf_pos (h := hM T) (p := b) (k := r.toNat) (i := 0) (by omega) (by omega) (by omega) (by omega)
  rw [← ey] at kid km ke
  obtain ⟨⟨k0, k1⟩, k2, k3⟩ := kid
  have hNS : gA T 39 5 ≤ 48 := TT.1.1
  have y48 : y.toNat < 48 := by omega
  have ke' : 0 < en (hM T) b ((y.toNat : Nat) : Int) := by
    rw [show ((y.toNat : Nat) : Int) = y by omega]
    have : 1 ≤ en (hM T) b y := ke
    omega
  obtain ⟨hRo, Fo, ko, h46⟩ := wp_det (mt_owned (M := M) hR hv TT P (KS_CE hKS hC0) (by rw [S39]; omega) h55 (p0 := y) (by omega) k3 km (own_x hv TT P y48 (Or.inr ⟨b, ha48, by omega, ke', fun u hu hn => by rw [amu u hu hn]; omega⟩))) e46
  obtain ⟨q, o⟩ := q46
  (try dsimp only at hRo Fo ko h46 z55 hX ⊢)
  have KSo : KS T o := ⟨⟨Fo.2.1 39 (by decide), Fo.2.1 42 (by decide), Fo.2.1 43 (by decide), Fo.2.1 44 (by decide)⟩, ko⟩
  have KSo' : KS t0 o := KS_t hKS KSo
  rcases h46 with ⟨h46, _⟩ | ⟨z0, w0, M', ⟨⟨rq, rN⟩, ⟨o54, o55⟩, ⟨o56, o57⟩⟩, oc, oh, oq, ou, ⟨To, Po⟩, om, omu, omn, omx⟩
  · omega
  have nb : b ≠ y.toNat := fun z => by rw [← z] at k2; omega
  have nq : b ≠ q.toNat := fun z => by
    rcases oq with oq | oq
    · exact nb (by omega)
    · rw [← z] at oq; omega
  have ob := oh b nq
  have cb : cM o b = 1 := by rw [oc b ha48 (by omega) (by omega) nb]; exact a54
  have vb : vM o b = 0 := by rw [ob.1]; exact a55
  have lb : (hM o).1 b = i := by rw [ob.2.1]; exact a56
  have eb : (hM o).2.2 b r.toNat = y := by rw [(ob.2.2.2 r.toNat (by omega)).1]; exact ey.symm
  have mb : M' v b = 1 := by rw [omx b nq nb]; exact am
  have mub : ∀ u, u < 16 → u ≠ v → M' u b = 0 := fun u hu hn => by rw [omn u hn]; exact amu u hu hn
  have hWo : RWn t0 o v := ⟨fun u hu hn => by rw [ou u hu]; exact hW.1 u hu hn, by rw [ou v (by omega)]; exact hW.2⟩
  have last : q.toNat = y.toNat → cM T y.toNat = 1 ∧ vM T y.toNat = 0 := fun e => by
    rcases Classical.em (cM T y.toNat = 1 ∧ vM T y.toNat = 0) with w | w
    · exact w
    · exfalso
      -- a copy is another block
      have g2 := m_own (p := y) (t := T) (by omega) h55 (fun o1 eo z => by
        have lvy := (TG_nd TT y48 k3)
        have lvl := (TG_lev TT (fun _ _ => Int.le_refl 0) y48 k3)
        have W := (wp_det (w_x12_taken hR ⟨by omega, hNS⟩ (KS_CE hKS hC0) (p0 := (hM T).1 y.toNat) (p1 := y) ⟨lvl.1, by omega⟩ ⟨by omega, by omega⟩) eo).2.2
        rcases W with W | ⟨_, W2, W3, W4⟩
        · omega
        · have ne : y.toNat ≠ o1.1.toNat := fun e2 => by rw [← e2] at W3; omega
          refine ⟨W2.1, fun e2 => ne e2.symm, ?_⟩
          have := W4.1 (20 + 16 * y.toNat) (by omega)
          show gA o1.2 49 (20 + 16 * y.toNat) ≤ 6
          rw [this]; exact lvy.2.1.2) (q, o) e46
      rcases g2 with ⟨a, _⟩ | ⟨_, o1, eo1, a2⟩
      · exact w ⟨a.2, a.1.2⟩
      · rcases a2 with ⟨x, e2⟩ | ⟨x, e2, _⟩
        · have : o = o1.2 := congrArg Prod.snd e2
          rw [this] at z55; exact x z55
        · have lvl := (TG_lev TT (fun _ _ => Int.le_refl 0) y48 k3)
          have W := (wp_det (w_x12_taken hR ⟨by omega, hNS⟩ (KS_CE hKS hC0) (p0 := (hM T).1 y.toNat) (p1 := y) ⟨lvl.1, by omega⟩ ⟨by omega, by omega⟩) eo1).2.2
          rcases W with W | ⟨_, _, W3, _⟩
          · omega
          · have e3 : q = o1.1 := e2
            rw [← e3, e] at W3; omega
  rcases hX with ⟨x1, x2⟩ | ⟨x1, x2⟩
  · have yq : q = y := x1.symm.trans eb
    subst x2
    exact ⟨hRo, KSo', z0, hWo, ⟨w0, by omega⟩, ⟨k0, by omega⟩, ⟨BX_0 _ _, rfl, ⟨x1, fun _ _ => rfl⟩, fun _ => rfl⟩, ⟨M', TG_D To (dq_0 (by omega)), PM_D Po (dq_0 (by omega)), ⟨⟨ha, by rw [tb]; exact cb, by rw [tb]; exact vb⟩, by rw [tb]; exact lb, by rw [tb]; exact mb, fun u hu hn => by rw [tb]; exact mub u hu hn⟩, ⟨o54, o55⟩, by rw [o56, k2]; omega, om, omu⟩, last⟩
  · have r51 : R2 (kM o b r.toNat) := by
      show R2 (if r.toNat < 6 then gA o 49 (21 + 16 * b + r.toNat) else 0)
      rw [if_pos (by omega)]; exact R49 hRo (by omega)
    obtain ⟨hR53, u53⟩ := wp_det (w_x12_setsEntry hRo ha (p1 := r) ⟨hk.1, by omega⟩ r51 (by omega)) x2
    rw [tb] at u53
    have F53 : F_x12_setsEntry o X := fr_x12_setsEntry x2
    obtain ⟨iB, iz, T2, P2⟩ := MT_set (b := b) (k := r.toNat) To Po (by omega) u53 (F53.2.1 39 (by decide)) (by omega) ha48 (by omega) (by omega) (by omega) (fun u hu hn => by rw [mub u hu hn]; omega) (by rw [ob.2.2.1]; omega) (fun _ => ⟨by rw [KSo.1.1]; omega, by rw [o56, k2, lb]; omega⟩)
    obtain ⟨_, _, g1, g2⟩ := M_set (k := r.toNat) (by omega) u53
    have dd : ∀ x : Nat, x < 48 → d0 x = dq q.toNat x - dq y.toNat x + (if 0 < (hM o).1 b ∧ (hM o).2.2 b r.toNat = (x : Int) then 1 else 0) - (if 0 < (hM o).1 b ∧ q = (x : Int) then 1 else 0) := fun x hx => by
      show (0 : Int) = _
      rw [eb]
      have e1 : (if 0 < (hM o).1 b ∧ y = (x : Int) then (1 : Int) else 0) = dq y.toNat x := by
        rw [← dd_0 k0]
        by_cases z : y = (x : Int)
        · rw [if_pos z, if_pos ⟨by omega, z⟩]
        · rw [if_neg z, if_neg (fun w => z w.2)]
      have e2 : (if 0 < (hM o).1 b ∧ q = (x : Int) then (1 : Int) else 0) = dq q.toNat x := by
        rw [← dd_0 w0]
        by_cases z : q = (x : Int)
        · rw [if_pos z, if_pos ⟨by omega, z⟩]
        · rw [if_neg z, if_neg (fun w => z w.2)]
      rw [e1, e2]; omega
    have K53 : KS t0 X := KS_t KSo' ⟨⟨F53.2.1 39 (by decide), F53.2.1 42 (by decide), F53.2.1 43 (by decide), F53.2.1 44 (by decide)⟩, fun j hj => BX_k iB ha48 hj⟩
    have kk : ∀ j, kM X b j = kM o b j := fun j => by
      by_cases z : j = r.toNat
      · rw [z]; exact g1.2
      · exact (g2 j z).2
    exact ⟨hR53, K53, (F53.1 55 (by decide)).trans z0, ⟨fun u hu hn => by rw [BX_u iB hu]; exact hWo.1 u hu hn, by rw [BX_u iB (by omega)]; exact hWo.2⟩, ⟨w0, by omega⟩, ⟨k0, by omega⟩, ⟨iB, iz, ⟨g1.1, fun j hj => (g2 j hj).1⟩, kk⟩, ⟨M', TG_D T2 dd, PM_D P2 dd, ⟨⟨ha, by rw [tb, BX_c iB]; exact cb, by rw [tb, BX_v iB]; exact vb⟩, by rw [tb, BX_l iB]; exact lb, by rw [tb]; exact mb, fun u hu hn => by rw [tb]; exact mub u hu hn⟩, ⟨by rw [BX_c iB]; exact o54, by rw [BX_v iB]; exact o55⟩, by rw [BX_l iB, o56, k2]; omega, om, omu⟩, last⟩
