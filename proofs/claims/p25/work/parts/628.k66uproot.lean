/-! ===== to remove, on both sides: the way down ===== -/
/-- the key is where the way from a BLOCK leads -/
def HS (t : MS) (key : Int) : Nat → Nat → Prop
  | 0, b => ∃ k : Nat, (k : Int) < (hM t).2.1 b ∧ kM t b k = key
  | l + 1, b => ∃ k : Nat, (k : Int) < (hM t).2.1 b ∧ PF (kM t b) ((hM t).2.1 b) key (k : Int) ∧ HS t key l ((hM t).2.2 b k).toNat
theorem HS_r {t o : MS} {key : Int} (hK : KLV t) : ∀ (l x y : Nat), y < 48 → LV t y → (hM t).1 y = (l : Int) → ROW t y o x → (∀ z, z < 48 → LV t z → (hM t).1 z < (hM t).1 y → ROW t z o z) → HS t key l y → HS o key l x := by
  intro l
  induction l with
  | zero =>
    intro x y _ _ _ r _ H
    obtain ⟨k, h1, h2⟩ := H
    exact ⟨k, by rw [r.2.1]; exact h1, by rw [(r.2.2 k).2]; exact h2⟩
  | succ l ih =>
    intro x y hy hl lev r hz H
    obtain ⟨k, h1, h2, h3⟩ := H
    have e : kM o x = kM t y := funext (fun j => (r.2.2 j).2)
    have kb := hK.2.1 y hy hl
    have kid := kb.2 (by omega) k h1
    have kl := (kb.1.1.2.2 (by omega) k h1).2
    refine ⟨k, by rw [r.2.1]; exact h1, by rw [r.2.1, e]; exact h2, ?_⟩
    rw [(r.2.2 k).1]
    obtain ⟨z, hzz⟩ : ∃ z, z = ((hM t).2.2 y k).toNat := ⟨_, rfl⟩
    rw [← hzz] at h3 kid kl ⊢
    exact ih z z (by omega) kid.2 (by omega) (hz z (by omega) kid.2 (by omega)) (fun w w1 w2 w3 => hz w w1 w2 (by omega)) h3
/-- one step of the class -/
theorem s_ust1 {n B j : Nat} {v key d : Int} {S : MS} {Q : Int × MS → Prop} (hi : (j : Int) < d) (K : ∀ (r : Int) (q30 : Int × MS), EF (fun k => gA S 58 (6 * B + k)) (gA S 57 B) key r → m_x1_owned (gA S 59 (6 * B + r.toNat)) S = some q30 → (q30.1 = -1 → Q (0, q30.2)) ∧ (q30.1 ≠ -1 → ∀ s34 s27 : MS, m_x8_set (B : Int) r q30.1 q30.2 = some s34 → sA s34 51 (upZ (gA s34 51) j r) = s27 → pc (m_x1_uproot_L55 n v key d q30.1 ((j : Int) + 1) s27) Q)) : pc (m_x1_uproot_L55 (n + 1) v key d (B : Int) (j : Int) S) Q := by
  have tB : ((B : Nat) : Int).toNat = B := Int.toNat_natCast _
  have tj : ((j : Nat) : Int).toNat = j := Int.toNat_natCast _
  show pc (m_x1_uproot_b55 (m_x1_uproot_L55 n) v key d (B : Int) (j : Int) S) Q
  unfold m_x1_uproot_b55 m_x8_slot
  refine pc_rg (pc_rg (pc_if (fun c => absurd c (by omega)) (fun _ => pc_bq (s_entryFor (by omega)) (fun r15 h15 => pc_bn (fun r17 e17 => ?_)))))
  cases e17
  rw [tB] at h15
  have r0 := h15.1
  refine pc_rdI (fun _ => ?_)
  rw [show ((B : Int) * 6 + r15).toNat = 6 * B + r15.toNat by omega]
  refine pc_bn (fun q30 e30 => ?_)
  have k := K r15 q30 h15 e30
  refine pc_rg (pc_if (fun c => pc_some (k.1 c)) (fun c => pc_bn (fun s34 e34 => pc_inb (pc_stn (fun s27 e27 => ?_)))))
  rw [tj] at e27
  exact (k.2 c) s34 s27 e34 e27
theorem s_ust0 {n : Nat} {v key d i b : Int} {S : MS} {Q : Int × MS → Prop} (hi : d ≤ i) (K : ∀ s11 s13 : MS, m_x1_prune v key d S = some s11 → m_x1_lowerRoot v s11 = some s13 → Q (1, s13)) : pc (m_x1_uproot_L55 (n + 1) v key d b i S) Q := by
  show pc (m_x1_uproot_b55 (m_x1_uproot_L55 n) v key d b i S) Q
  unfold m_x1_uproot_b55
  exact pc_rg (pc_rg (pc_if (fun _ => pc_bn (fun s11 e11 => pc_bn (fun s13 e13 => pc_some (K s11 s13 e11 e13)))) (fun c => absurd hi c)))
/-! the reference -/
theorem m_ustF {v key : Int} : ∀ (m : Nat) (b n : Int) (T : MS), gI T 55 = 1 → pc (m_x12_removes_L29 m v key b n T) (fun o => gI o 55 = 1) := by
  refine fr_ind (fun _ _ _ _ => pc_none) (fun m _ b n T h => ?_)
  show pc (m_x12_removes_b29 (m_x12_removes_L29 m) v key b n T) _
  unfold m_x12_removes_b29 m_x12_removes_J118
  exact pc_rg (pc_if (fun c => absurd (h.symm.trans c) (by decide)) (fun _ => pc_rg (pc_if (fun c => absurd (h.symm.trans c) (by decide)) (fun _ => pc_some h))))
theorem m_J92F {m : Nat} {v key b n r c : Int} {X : MS} (h : gI X 55 = 1) : pc (m_x12_removes_J92 (m_x12_removes_L29 m) v key b n r c X) (fun o => gI o 55 = 1) := by
  unfold m_x12_removes_J92
  exact pc_inb (pc_stn (fun s54 e54 => pc_inb (pc_stn (fun s56 e56 => m_ustF m c (n + 1) s56 ((q_Ai e56).trans ((q_Ai e54).trans h))))))
theorem m_ust0 {m b : Nat} {v key n : Int} {T : MS} {Q : MS → Prop} (h55 : gI T 55 = 0) (hl : (hM T).1 b ≤ 0) (hz : 0 ≤ (hM T).2.1 b ∧ (hM T).2.1 b ≤ 6) (K : ∀ (r : Int) (s40 : MS), PI (kM T b) ((hM T).2.1 b) key r → m_x12_cutsEntry (b : Int) r T = some s40 → pc (m_x12_removes_L137 FU v (b : Int) n s40) Q) : pc (m_x12_removes_L29 (m + 1) v key (b : Int) n T) Q := by
  have tb : ((b : Nat) : Int).toNat = b := Int.toNat_natCast _
  show pc (m_x12_removes_b29 (m_x12_removes_L29 m) v key (b : Int) n T) Q
  unfold m_x12_removes_b29 m_x12_removes_J118
  refine pc_rg (pc_if (fun _ => pc_bq (m_lev (by omega)) (fun r60 h60 => ?_)) (fun c => absurd h55 c))
  try rw [tb] at h60
  refine pc_rg (pc_if (fun _ => pc_rg (pc_if (fun _ => pc_bq (m_placeIn (by omega) (by rw [tb]; exact hz)) (fun r38 h38 => pc_bn (fun s40 e40 => ?_))) (fun c => absurd h55 c))) (fun c => absurd (by omega) c))
  try rw [tb] at h38
  exact K r38 s40 h38 e40
theorem m_ust1 {m b : Nat} {v key n : Int} {T : MS} {Q : MS → Prop} (h55 : gI T 55 = 0) (hl : 0 < (hM T).1 b) (hz : 1 ≤ (hM T).2.1 b ∧ (hM T).2.1 b ≤ 6) (K : ∀ (r : Int) (q46 : Int × MS), PF (kM T b) ((hM T).2.1 b) key r → m_x12_owned ((hM T).2.2 b r.toNat) T = some q46 → (q46.1 = (hM T).2.2 b r.toNat → pc (m_x12_removes_J92 (m_x12_removes_L29 m) v key (b : Int) n r q46.1 q46.2) Q) ∧ (q46.1 ≠ (hM T).2.2 b r.toNat → ∀ s53 : MS, m_x12_setsEntry (b : Int) r (kM q46.2 b r.toNat) q46.1 q46.2 = some s53 → pc (m_x12_removes_J92 (m_x12_removes_L29 m) v key (b : Int) n r q46.1 s53) Q)) : pc (m_x12_removes_L29 (m + 1) v key (b : Int) n T) Q := by
  have tb : ((b : Nat) : Int).toNat = b := Int.toNat_natCast _
  show pc (m_x12_removes_b29 (m_x12_removes_L29 m) v key (b : Int) n T) Q
  unfold m_x12_removes_b29
  refine pc_rg (pc_if (fun _ => pc_bq (m_lev (by omega)) (fun r60 h60 => ?_)) (fun c => absurd h55 c))
  try rw [tb] at h60
  refine pc_rg (pc_if (fun c => absurd c (by omega)) (fun _ => pc_bq (m_placeFor (by omega) (by rw [tb]; exact hz.2)) (fun r64 h64 => ?_)))
  try rw [tb] at h64
  have r0 := h64.1
  have r1 := h64.2.1
  refine pc_bq (m_val (by omega) ⟨r0, by omega⟩) (fun r66 h66 => ?_)
  try rw [tb] at h66
  rw [h66]
  refine pc_bn (fun q46 e46 => ?_)
  have k := K r64 q46 h64 e46
  refine pc_rg (pc_rg (pc_if (fun c => k.1 c) (fun c => pc_bq (m_key (by omega) ⟨r0, by omega⟩) (fun r74 h74 => ?_))))
  try rw [tb] at h74
  rw [h74]
  exact pc_bn (fun s53 e53 => k.2 c s53 e53)
/-- the same, and what lies above is as it was -/
theorem r_nextU {t0 T X : MS} {v b : Nat} {i r : Int} {q46 : Int × MS} (hv : v < 8) (hR : Rr T) (hKS : KS t0 T) (hC0 : CE t0 0) (hE : 3 ≤ gA t0 39 6 ∧ gA t0 39 6 ≤ 6) (h55 : gI T 55 = 0) {M : Nat → Nat → Int} (hW : RWn t0 T v) (TT : TM T d0 (-1)) (P : PM T v M d0 (-1)) (hA : CurMo T v M (b : Int) i) (hi : 0 < i) (hk : 0 ≤ r ∧ r < (hM T).2.1 b) (e46 : m_x12_owned ((hM T).2.2 b r.toNat) T = some q46) (z55 : gI q46.2 55 = 0)
    (hX : ((hM q46.2).2.2 b r.toNat = q46.1 ∧ X = q46.2) ∨ ((hM q46.2).2.2 b r.toNat ≠ q46.1 ∧ m_x12_setsEntry (b : Int) r (kM q46.2 b r.toNat) q46.1 q46.2 = some X)) :
    Rr X ∧ KS t0 X ∧ gI X 55 = 0 ∧ (RWn t0 X v ∧ gA X 49 v = gA T 49 v) ∧ (0 ≤ q46.1 ∧ q46.1 < 48) ∧ (0 ≤ (hM T).2.2 b r.toNat ∧ (hM T).2.2 b r.toNat < 48) ∧ (BX q46.2 X b ∧ (hM X).2.1 b = (hM q46.2).2.1 b ∧ ((hM X).2.2 b r.toNat = q46.1 ∧ ∀ j, j ≠ r.toNat → (hM X).2.2 b j = (hM q46.2).2.2 b j) ∧ ∀ j, kM X b j = kM q46.2 b j) ∧ (∃ M', UP T X v M M' i ∧ TM X d0 (-1) ∧ PM X v M' d0 (-1) ∧ CurMo X v M' (b : Int) i ∧ ((cM X q46.1.toNat = 1 ∧ vM X q46.1.toNat = 0) ∧ (hM X).1 q46.1.toNat = i - 1 ∧ (M' v q46.1.toNat = 1 ∧ ∀ u, u < 16 → u ≠ v → M' u q46.1.toNat = 0))) ∧ (q46.1.toNat = ((hM T).2.2 b r.toNat).toNat → cM T ((hM T).2.2 b r.toNat).toNat = 1 ∧ vM T ((hM T).2.2 b r.toNat).toNat = 0) := by
  obtain ⟨⟨ha, a54, a55⟩, a56, am, amu⟩ := hA
  have tb : ((b : Nat) : Int).toNat = b := Int.toNat_natCast _
  try rw [tb] at a54
  try rw [tb] at a55
  try rw [tb] at a56
  try rw [tb] at am
  try rw [tb] at amu
  have ha48 : b < 48 := by omega
  have S39 := hKS.1.1
  obtain ⟨y, ey⟩ : ∃ y, y = (hM T).2.2 b r.toNat := ⟨_, rfl⟩
  rw [← ey] at e46 ⊢
  have na := (TG_nd TT ha48 (by omega)).2.1
  have kid := TG_kid (p := b) (k := r.toNat) TT (fun _ _ => Int.le_refl 0) ha48 (by omega) (by omega) (by omega)
  have km := kid_mu (k := r.toNat) hv P ha48 (by omega) (by omega) (by omega)
  have ke := enf_pos (h := hM T) (p := b) (k := r.toNat) (i := 0) (by omega) (by omega) (by omega) (by omega)
  rw [← ey] at kid km ke
  obtain ⟨⟨k0, k1⟩, k2, k3⟩ := kid
  have hNS : gA T 39 5 ≤ 48 := TT.1.1
  have y48 : y.toNat < 48 := by omega
  have ke' : 0 < en (hM T) b ((y.toNat : Nat) : Int) := by
    rw [show ((y.toNat : Nat) : Int) = y by omega]
    have : 1 ≤ en (hM T) b y := ke
    omega
  obtain ⟨hRo, Fo, ko, h46⟩ := wp_det (mt_owned (M := M) hR hv TT P (KS_CE hKS hC0) (by rw [S39]; omega) h55 (p0 := y) (by omega) k3 km (own_x hv TT P y48 (Or.inr ⟨b, ha48, by omega, ke', fun u hu hn => by rw [amu u hu hn]; omega⟩))) e46
  obtain ⟨q, o⟩ := q46
  (try dsimp only at hRo Fo ko h46 z55 hX ⊢)
  have KSo : KS T o := ⟨⟨Fo.2.1 39 (by decide), Fo.2.1 42 (by decide), Fo.2.1 43 (by decide), Fo.2.1 44 (by decide)⟩, ko⟩
  have KSo' : KS t0 o := KS_t hKS KSo
  rcases h46 with ⟨h46, _⟩ | ⟨z0, w0, M', ⟨⟨rq, rN⟩, ⟨o54, o55⟩, ⟨o56, o57⟩⟩, oc, oh, oq, ou, ⟨To, Po⟩, om, omu, omn, omx⟩
  · omega
  have nb : b ≠ y.toNat := fun z => by rw [← z] at k2; omega
  have nq : b ≠ q.toNat := fun z => by
    rcases oq with oq | oq
    · exact nb (by omega)
    · rw [← z] at oq; omega
  have ob := oh b nq
  have cb : cM o b = 1 := by rw [oc b ha48 (by omega) (by omega) nb]; exact a54
  have vb : vM o b = 0 := by rw [ob.1]; exact a55
  have lb : (hM o).1 b = i := by rw [ob.2.1]; exact a56
  have eb : (hM o).2.2 b r.toNat = y := by rw [(ob.2.2.2 r.toNat (by omega)).1]; exact ey.symm
  have mb : M' v b = 1 := by rw [omx b nq nb]; exact am
  have mub : ∀ u, u < 16 → u ≠ v → M' u b = 0 := fun u hu hn => by rw [omn u hn]; exact amu u hu hn
  have hWo : RWn t0 o v := ⟨fun u hu hn => by rw [ou u hu]; exact hW.1 u hu hn, by rw [ou v (by omega)]; exact hW.2⟩
  have U1 : UP T o v M M' i := fun x hx hc hlx => by
    have xy : x ≠ y.toNat := fun z => by rw [z] at hlx; omega
    have xq : x ≠ q.toNat := fun z => by
      rcases oq with oq | oq
      · exact xy (by omega)
      · rw [← z] at oq; omega
    have ox := oh x xq
    refine ⟨⟨oc x hx (by omega) (by omega) xy, ox.1, ox.2.1, ox.2.2.1, fun k hk => (ox.2.2.2 k hk).1⟩, fun u => ?_⟩
    by_cases z : u = v
    · rw [z]; exact omx x xq xy
    · rw [omn u z]
  have rto : gA o 49 v = gA T 49 v := ou v (by omega)
  have last : q.toNat = y.toNat → cM T y.toNat = 1 ∧ vM T y.toNat = 0 := fun e => by
    rcases Classical.em (cM T y.toNat = 1 ∧ vM T y.toNat = 0) with w | w
    · exact w
    · exfalso
      -- a copy is another block
      have g2 := m_own (p := y) (t := T) (by omega) h55 (fun o1 eo z => by
        have lvy := (TG_nd TT y48 k3)
        have lvl := (TG_lev TT (fun _ _ => Int.le_refl 0) y48 k3)
        have W := (wp_det (w_x12_taken hR ⟨by omega, hNS⟩ (KS_CE hKS hC0) (p0 := (hM T).1 y.toNat) (p1 := y) ⟨lvl.1, by omega⟩ ⟨by omega, by omega⟩) eo).2.2
        rcases W with W | ⟨_, W2, W3, W4⟩
        · omega
        · have ne : y.toNat ≠ o1.1.toNat := fun e2 => by rw [← e2] at W3; omega
          refine ⟨W2.1, fun e2 => ne e2.symm, ?_⟩
          have := W4.1 (20 + 16 * y.toNat) (by omega)
          show gA o1.2 49 (20 + 16 * y.toNat) ≤ 6
          rw [this]; exact lvy.2.1.2) (q, o) e46
      rcases g2 with ⟨a, _⟩ | ⟨_, o1, eo1, a2⟩
      · exact w ⟨a.2, a.1.2⟩
      · rcases a2 with ⟨x, e2⟩ | ⟨x, e2, _⟩
        · have : o = o1.2 := by rw [e2]
          rw [this] at z55; exact x z55
        · have lvl := (TG_lev TT (fun _ _ => Int.le_refl 0) y48 k3)
          have W := (wp_det (w_x12_taken hR ⟨by omega, hNS⟩ (KS_CE hKS hC0) (p0 := (hM T).1 y.toNat) (p1 := y) ⟨lvl.1, by omega⟩ ⟨by omega, by omega⟩) eo1).2.2
          rcases W with W | ⟨_, _, W3, _⟩
          · omega
          · have e3 : q = o1.1 := e2
            rw [← e3, e] at W3; omega
  rcases hX with ⟨x1, x2⟩ | ⟨x1, x2⟩
  · have yq : q = y := x1.symm.trans eb
    subst x2
    exact ⟨hRo, KSo', z0, ⟨hWo, rto⟩, ⟨w0, by omega⟩, ⟨k0, by omega⟩, ⟨BX_0 _ _, rfl, ⟨x1, fun _ _ => rfl⟩, fun _ => rfl⟩, ⟨M', U1, TG_D To (dq_0 (by omega)), PM_D Po (dq_0 (by omega)), ⟨⟨ha, by rw [tb]; exact cb, by rw [tb]; exact vb⟩, by rw [tb]; exact lb, by rw [tb]; exact mb, fun u hu hn => by rw [tb]; exact mub u hu hn⟩, ⟨o54, o55⟩, by rw [o56, k2]; omega, om, omu⟩, last⟩
  · have r51 : R2 (kM o b r.toNat) := by
      show R2 (if r.toNat < 6 then gA o 49 (21 + 16 * b + r.toNat) else 0)
      rw [if_pos (by omega)]; exact R49 hRo (by omega)
    obtain ⟨hR53, u53⟩ := wp_det (w_x12_setsEntry hRo ha (p1 := r) ⟨hk.1, by omega⟩ r51 (by omega)) x2
    try rw [tb] at u53
    have F53 : F_x12_setsEntry o X := fr_x12_setsEntry x2
    obtain ⟨iB, iz, T2, P2⟩ := MT_set (b := b) (k := r.toNat) To Po (by omega) u53 (F53.2.1 39 (by decide)) (by omega) ha48 (by omega) (by omega) (by omega) (fun u hu hn => by rw [mub u hu hn]; omega) (by rw [ob.2.2.1]; omega) (fun _ => ⟨by rw [KSo.1.1]; omega, by rw [o56, k2, lb]; omega⟩)
    obtain ⟨_, _, g1, g2⟩ := M_set (k := r.toNat) (by omega) u53
    have dd : ∀ x : Nat, x < 48 → d0 x = dq q.toNat x - dq y.toNat x + (if 0 < (hM o).1 b ∧ (hM o).2.2 b r.toNat = (x : Int) then 1 else 0) - (if 0 < (hM o).1 b ∧ q = (x : Int) then 1 else 0) := fun x hx => by
      show (0 : Int) = _
      rw [eb]
      have e1 : (if 0 < (hM o).1 b ∧ y = (x : Int) then (1 : Int) else 0) = dq y.toNat x := by
        rw [← dd_0 k0]
        by_cases z : y = (x : Int)
        · rw [if_pos z, if_pos ⟨by omega, z⟩]
        · rw [if_neg z, if_neg (fun w => z w.2)]
      have e2 : (if 0 < (hM o).1 b ∧ q = (x : Int) then (1 : Int) else 0) = dq q.toNat x := by
        rw [← dd_0 w0]
        by_cases z : q = (x : Int)
        · rw [if_pos z, if_pos ⟨by omega, z⟩]
        · rw [if_neg z, if_neg (fun w => z w.2)]
      rw [e1, e2]; omega
    have K53 : KS t0 X := KS_t KSo' ⟨⟨F53.2.1 39 (by decide), F53.2.1 42 (by decide), F53.2.1 43 (by decide), F53.2.1 44 (by decide)⟩, fun j hj => BX_k iB ha48 hj⟩
    have kk : ∀ j, kM X b j = kM o b j := fun j => by
      by_cases z : j = r.toNat
      · rw [z]; exact g1.2
      · exact (g2 j z).2
    exact ⟨hR53, K53, (F53.1 55 (by decide)).trans z0, ⟨⟨fun u hu hn => by rw [BX_u iB hu]; exact hWo.1 u hu hn, by rw [BX_u iB (by omega)]; exact hWo.2⟩, by rw [BX_u iB (by omega)]; exact rto⟩, ⟨w0, by omega⟩, ⟨k0, by omega⟩, ⟨iB, iz, ⟨g1.1, fun j hj => (g2 j hj).1⟩, kk⟩, ⟨M', UP_tr U1 (UP_BX iB (by omega)), TG_D T2 dd, PM_D P2 dd, ⟨⟨ha, by rw [tb, BX_c iB]; exact cb, by rw [tb, BX_v iB]; exact vb⟩, by rw [tb, BX_l iB]; exact lb, by rw [tb]; exact mb, fun u hu hn => by rw [tb]; exact mub u hu hn⟩, ⟨by rw [BX_c iB]; exact o54, by rw [BX_v iB]; exact o55⟩, by rw [BX_l iB, o56, k2]; omega, om, omu⟩, last⟩
/-- the way down is alike on both sides -/
theorem way_path {π σ : Nat → Nat} {S T : MS} {v b i d : Nat} {M : Nat → Nat → Int} {P : Nat → Nat} (h : SIM π σ S T) (hv : v < 8) (hid : i ≤ d) (hb : OB_r T v M (b : Int) ((d : Int) - (i : Int))) (hY : WY T v M (d : Int) (b : Int) (i : Int)) (ht : ∀ j, j < i → gA S 51 j = gA T 58 j) (hPi : P i = π b) (hPj : ∀ j, j < i → P j = π (gA T 57 j).toNat) : PathP S v (d : Int) P i := by
  have wb : ∀ (x l : Int), OB_r T v M x l → (0 ≤ x ∧ x < 48) ∧ π x.toNat < 48 ∧ gA S 54 (π x.toNat) = 1 ∧ gA S 55 (π x.toNat) = 0 ∧ gA S 56 (π x.toNat) = l ∧ BR1 π (hN S) (hM T) (kN S) (kM T) x.toNat := fun x l o => by
    obtain ⟨⟨a, c, u⟩, e, _⟩ := o
    have x48 : x.toNat < 48 := by omega
    have q := sim_c h x48
    have B := sim_b h x48 (Or.inl (by omega))
    exact ⟨a, (h.1.1 x.toNat x48).1.1, q.1.trans c, q.2.trans u, B.1.trans e, B⟩
  refine ⟨?_, fun j hj => ?_, fun j hj => ?_⟩
  · have r := (h.1.2.2.2 v hv).1
    have w := hY.2
    have b48 := hb.1.1
    by_cases z : i = 0
    · have e0 : P 0 = π b := by rw [z] at hPi; exact hPi
      rw [if_pos (by omega)] at w
      rcases r with ⟨a, _⟩ | ⟨a, _⟩ | ⟨_, _, a⟩
      · omega
      · omega
      · rw [a, w, e0, Int.toNat_natCast]
    · have o := (hY.1 0 (by omega)).1.1.1
      rw [if_neg (by omega)] at w
      rcases r with ⟨a, _⟩ | ⟨a, _⟩ | ⟨_, _, a⟩
      · omega
      · omega
      · rw [a, w, hPj 0 (by omega)]
  · by_cases z : j = i
    · have q := wb _ _ hb
      rw [Int.toNat_natCast] at q
      rw [z, hPi]
      exact ⟨q.2.1, q.2.2.1, q.2.2.2.1, q.2.2.2.2.1⟩
    · have q := wb _ _ (hY.1 j (by omega)).1
      rw [hPj j (by omega)]
      exact ⟨q.2.1, q.2.2.1, q.2.2.2.1, q.2.2.2.2.1⟩
  · obtain ⟨o, k, e⟩ := hY.1 j (by omega)
    have q := wb _ _ o
    have B := q.2.2.2.2.2
    have lv := o.2.1
    rw [hPj j hj, ht j hj]
    have B2 := B.2.2 (gA T 58 j).toNat (by omega)
    have z : gA S 57 (π (gA T 57 j).toNat) = (hM T).2.1 (gA T 57 j).toNat := B.2.1
    refine ⟨⟨k.1, by rw [z]; exact k.2⟩, ?_⟩
    have e2 : gA S 59 (6 * π (gA T 57 j).toNat + (gA T 58 j).toNat) = (π ((hM T).2.2 (gA T 57 j).toNat (gA T 58 j).toNat).toNat : Int) := B2.2.1 (by omega)
    rw [e2, e]
    by_cases w : (j : Int) + 1 = (i : Int)
    · rw [if_pos w, show j + 1 = i by omega, hPi, Int.toNat_natCast]
    · rw [if_neg w, hPj (j + 1) (by omega)]
/-- the class: the row of the way, the key's entry -/
theorem s_prune {v d : Nat} {key : Int} {S : MS} {P : Nat → Nat} {Q : MS → Prop} (hR : Rg S) (hP : PathP S v (d : Int) P d) (K : ∀ (S' : MS) (r : Int) (s38 : MS), Rg S' → (∀ k, k ≠ 50 → gA S' k = gA S k) → (∀ k, gI S' k = gI S k) → (∀ k, gL S' k = gL S k) → (∀ j, j ≤ d → gA S' 50 j = (P j : Int)) → FDc (fun k => gA S 58 (6 * P d + k)) (gA S 57 (P d)) key r → m_x8_delete (P d : Int) r S' = some s38 → pc (m_x1_prune_L98 FU (v : Int) (d : Int) s38) Q) : pc (m_x1_prune (v : Int) key (d : Int) S) Q := by
  have tv : ((v : Nat) : Int).toNat = v := Int.toNat_natCast _
  have td : ((d : Nat) : Int).toNat = d := Int.toNat_natCast _
  have L18 : ∀ (n i : Nat) (S' : MS), i ≤ d → Rg S' → (∀ k, k ≠ 50 → gA S' k = gA S k) → (∀ k, gI S' k = gI S k) → (∀ k, gL S' k = gL S k) → (∀ j, j ≤ i → gA S' 50 j = (P j : Int)) → pc (m_x1_prune_L18 n (v : Int) key (d : Int) (i : Int) S') Q := by
    refine fr_ind (fun _ _ _ _ _ _ _ _ => pc_none) (fun n ih i S' hi hR' hA hI hL h50 => ?_)
    have ti : ((i : Nat) : Int).toNat = i := Int.toNat_natCast _
    show pc (m_x1_prune_b18 (m_x1_prune_L18 n) (v : Int) key (d : Int) (i : Int) S') Q
    unfold m_x1_prune_b18 m_x8_slot
    refine pc_rg (pc_rg (pc_if (fun c => ?_) (fun c => ?_)))
    · have e : i = d := by omega
      rw [e] at h50
      refine pc_rdI (fun _ => pc_rdI (fun _ => ?_))
      rw [td, h50 d (Nat.le_refl _)]
      refine pc_bq (s_find (by omega)) (fun r36 h36 => pc_bn (fun s38 e38 => ?_))
      rw [Int.toNat_natCast, hA 58 (by decide), hA 57 (by decide)] at h36
      exact K S' r36 s38 hR' hA hI hL h50 h36 e38
    · have hLi := hP.2.2 i (by omega)
      refine pc_rdI (fun _ => pc_rdI (fun _ => pc_bn (fun r42 e42 => ?_)))
      cases e42
      rw [ti, h50 i (Nat.le_refl _), hA 51 (by decide)]
      refine pc_rdI (fun _ => pc_inb (pc_stn (fun s45 e45 => ?_)))
      rw [show ((P i : Int) * 6 + gA S 51 i).toNat = 6 * P i + (gA S 51 i).toNat by omega, hA 59 (by decide), hLi.2, show ((i : Int) + 1).toNat = i + 1 by omega] at e45
      have e50 : gA s45 50 = upZ (gA S' 50) (i + 1) (P (i + 1) : Int) := q_AA e45
      have hPn := hP.2.1 (i + 1) (by omega)
      have ei : (i : Int) + 1 = ((i + 1 : Nat) : Int) := by omega
      rw [ei]
      refine ih (i + 1) s45 (by omega) (e45 ▸ Rg.uAu hR' (by show (0 : Int) ≤ (P (i + 1) : Int) ∧ (P (i + 1) : Int) ≤ 47; omega)) (fun k hk => (q_Aa e45 hk).trans (hA k hk)) (fun k => (q_Ai e45).trans (hI k)) (fun k => (q_Al e45).trans (hL k)) (fun j hj => ?_)
      rw [e50]
      by_cases z : j = i + 1
      · rw [z, upZ_s]
      · rw [upZ_n z]; exact h50 j (by omega)
  unfold m_x1_prune
  refine pc_rdI (fun _ => pc_inb (pc_stn (fun s48 e48 => ?_)))
  rw [tv, hP.1] at e48
  have e50 : gA s48 50 = upZ (gA S 50) (Int.toNat 0) (P 0 : Int) := q_AA e48
  have hP0 := hP.2.1 0 (by omega)
  refine L18 FU 0 s48 (by omega) (e48 ▸ Rg.uAu hR (by show (0 : Int) ≤ (P 0 : Int) ∧ (P 0 : Int) ≤ 47; omega)) (fun k hk => q_Aa e48 hk) (fun k => q_Ai e48) (fun k => q_Al e48) (fun j hj => ?_)
  have j0 : j = 0 := by omega
  rw [j0, e50]
  show (if 0 = Int.toNat 0 then (P 0 : Int) else gA S 50 0) = (P 0 : Int)
  exact if_pos (by decide)
/-- both sides on the way down -/
def GU (s0 t0 : MS) (v : Nat) (key : Int) (d : Nat) (S T : MS) (π σ : Nat → Nat) (lo hi : Nat → Int) (b i : Nat) : Prop := SIM π σ S T ∧ (Rg S ∧ Rr T) ∧ KS t0 T ∧ (TS S Z0 (-1) ∧ 3 ≤ gI S 581 ∧ RV s0 S v) ∧ (gI T 55 = 0 ∧ RWn t0 T v ∧ ∃ M, TM T d0 (-1) ∧ PM T v M d0 (-1) ∧ OB_r T v M (b : Int) ((d : Int) - (i : Int)) ∧ WY T v M (d : Int) (b : Int) (i : Int)) ∧ OI T lo hi ∧ (lo b ≤ key ∧ key ≤ hi b) ∧ (i ≤ d ∧ d ≤ 47) ∧ (∀ j, j < i → gA S 51 j = gA T 58 j) ∧ HS T key (d - i) b
def CONu (q : Int × MS) (o : MS) : Prop := (q.1 = 0 ∧ gI o 55 = 1) ∨ (q.1 = 1 ∧ gI o 55 = 0 ∧ ∃ π σ lo hi, SIM π σ q.2 o ∧ OI o lo hi)
set_option maxHeartbeats 4000000 in
theorem y_uproot_L {s0 t0 : MS} {v d : Nat} {key : Int} (hv : v < 8) (hkey : R2 key) (hC0 : CE t0 0) (hE : 3 ≤ gA t0 39 6 ∧ gA t0 39 6 ≤ 6) (hN0 : 0 ≤ gA t0 39 5) : ∀ (n m i b : Nat) (S T : MS) (π σ : Nat → Nat) (lo hj : Nat → Int), GU s0 t0 v key d S T π σ lo hj b i → pc (m_x1_uproot_L55 n (v : Int) key (d : Int) (π b : Int) (i : Int) S) (fun q => pc (m_x12_removes_L29 m (v : Int) key (b : Int) (i : Int) T) (fun o => CONu q o)) := by
  have tv : ((v : Nat) : Int).toNat = v := Int.toNat_natCast _
  refine fr_ind (fun _ _ _ _ _ _ _ _ _ _ => pc_none) (fun n ih m i b S T π σ lo hj G => ?_)
  cases m with
  | zero => exact fun q _ => pc_none
  | succ m =>
    obtain ⟨h, ⟨hR, hRt⟩, hKS, ⟨TSs, h581, hV⟩, ⟨h55, hW, M, TT, P, hO, hY⟩, hOI, hky, ⟨hid, hd⟩, ht, hHS⟩ := G
    have hO0 := hO
    obtain ⟨⟨ha, bc, bv⟩, bl, bm, bmu⟩ := hO
    have tb : ((b : Nat) : Int).toNat = b := Int.toNat_natCast _
    have tp : ((π b : Nat) : Int).toNat = π b := Int.toNat_natCast _
    try rw [tb] at bc
    try rw [tb] at bv
    try rw [tb] at bl
    try rw [tb] at bm
    try rw [tb] at bmu
    have hb : b < 48 := by omega
    have S39 := hKS.1.1
    have hK : KLV T := KLV_of TT (fun _ _ => Int.le_refl 0)
    have lb : LV T b := Or.inl (by omega)
    have hKs : ∀ x, x < 48 → LV T x → 0 ≤ (hM T).2.1 x ∧ (hM T).2.1 x ≤ 6 := fun x hx l => (hK.2.1 x hx l).1.1.2.1
    have Bb := sim_b h hb lb
    have hP := h.1.1
    have pb48 := (hP b hb).1.1
    have z1 : gA S 57 (π b) = (hM T).2.1 b := Bb.2.1
    have n1 : 1 ≤ (hM T).2.1 b := TT.2.2.1.1 b hb (by omega) (by omega)
    have sb := hKs b hb lb
    by_cases hi : d ≤ i
    · have ed : d = i := by omega
      subst ed
      have hHS0 : ∃ k : Nat, (k : Int) < (hM T).2.1 b ∧ kM T b k = key := by
        rw [Nat.sub_self] at hHS; exact hHS
      refine s_ust0 (Int.le_refl _) (fun s11 s13 e11 e13 => m_ust0 h55 (by omega) sb (fun r' s40 hPI e40 => ?_))
      obtain ⟨P', hPi, hPj⟩ : ∃ P' : Nat → Nat, P' d = π b ∧ ∀ j, j < d → P' j = π (gA T 57 j).toNat := ⟨fun j => if j = d then π b else π (gA T 57 j).toNat, if_pos rfl, fun j hj' => if_neg (by omega)⟩
      have PP := way_path h hv hid hO0 hY ht hPi hPj
      have W11 := wp_det (ts_prune (s0 := s0) (p0 := (v : Int)) hR TSs ⟨by omega, by omega⟩ hd (by rw [tv]; exact PP) hkey (by rw [tv]; exact hV)) e11
      obtain ⟨R11, T11, V11⟩ := W11
      try rw [tv] at V11
      have so0 := ((hOI b hb lb).2.1 (by omega)).1
      have J := s_prune (Q := fun s11 => ∀ s13, Rg s11 → TS s11 Z0 (-1) → RV s0 s11 v → m_x1_lowerRoot (v : Int) s11 = some s13 → pc (m_x12_removes_L137 FU (v : Int) (b : Int) (d : Int) s40) (fun t' => SIM π σ s13 t' ∧ OI t' lo hj ∧ gI t' 55 = 0)) hR PP (fun S' r s38 hR' hA hI hL h50 hFD e38 => by
        rw [hPi] at hFD e38
        rw [z1] at hFD
        have H' : SIM π σ S' T := SIM_k h (fun k k1 k2 => hA k (by omega)) (hI 1060) (hL 1062) rfl rfl rfl
        have e1 : ∀ k : Nat, (k : Int) < (hM T).2.1 b → kM T b k = gA S 58 (6 * π b + k) := fun k hk => ((Bb.2.2 k hk).1).symm
        have so1 : SO (fun k => gA S 58 (6 * π b + k)) 0 ((hM T).2.1 b) := fun x y _ xy yz => by
          show gA S 58 (6 * π b + x) < gA S 58 (6 * π b + y)
          rw [← e1 x (by omega), ← e1 y yz]
          exact so0 x y (Nat.zero_le _) xy yz
        have fd : r = r' ∧ 0 ≤ r ∧ r < (hM T).2.1 b := by
          rcases FD_PI so1 e1 hFD hPI with ⟨_, w2⟩ | ⟨w1, w2, w3, _⟩
          · exfalso
            obtain ⟨k0, g1, g2⟩ := hHS0
            obtain ⟨⟨p1, p2⟩, p3, p4⟩ := hPI
            have g3 : ¬ (k0 : Int) < r' := fun w => by
              have := p3 k0 w
              omega
            have q4 := p4 (by omega)
            by_cases e : r'.toNat = k0
            · exact w2 ⟨by omega, by rw [e]; exact g2⟩
            · have := so0 r'.toNat k0 (Nat.zero_le _) (by omega) g1
              omega
          · exact ⟨w1, w2, w3⟩
        obtain ⟨fr, f0, f1⟩ := fd
        rw [← fr] at e40
        have R38 := (wp_det (w_x8_delete hR' (p0 := (π b : Int)) (p1 := r) ⟨by omega, by omega⟩ ⟨f0, by rw [tp, hA 57 (by decide), z1]; exact f1, by rw [tp, hA 57 (by decide), z1]; exact sb.2⟩) e38).1
        have F38 : F_x8_delete S' s38 := fr_x8_delete e38
        obtain ⟨H40, B40, Z40⟩ := y_del H' hKs hR' hRt hb lb (p1 := r) ⟨f0, f1⟩ e38 e40
        have W40 := wp_det (w_x12_cutsEntry hRt (p0 := (b : Int)) (p1 := r) ⟨by omega, by omega⟩ ⟨f0, by rw [tb]; omega⟩ (by rw [tb]; omega)) e40
        try rw [tb] at W40
        obtain ⟨R40, F40, k, k1, k2, D40⟩ := W40
        obtain ⟨T2, P2⟩ := MT_del (b := b) (k := k) TT P D40 (F40.2.1 39 (by decide)) (by omega) hb (by omega) (by omega) (by omega) (fun u hu hn => by rw [bmu u hu hn]; omega) k1
        have dd : ∀ x : Nat, x < 48 → d0 x = d0 x + (if 0 < (hM T).1 b ∧ (hM T).2.2 b k = (x : Int) then 1 else 0) := fun x _ => by
          rw [if_neg (fun w => by omega)]; omega
        have O40 : OI s40 lo hj := OI_del hOI hb lb (OI_SOk hOI TT (fun _ _ => Int.le_refl 0) hb (by omega)) k1 D40
        have Y40 := WY_up hY (T_6 TT) (F40.2.1 57 (by decide)) (F40.2.1 58 (by decide)) (BX_u B40 (by omega)) (UP_BX (v := v) (M := M) B40 (l := (d : Int) - (d : Int)) (by omega)) (Int.le_refl _)
        have K40 : KS t0 s40 := KS_t hKS ⟨⟨F40.2.1 39 (by decide), F40.2.1 42 (by decide), F40.2.1 43 (by decide), F40.2.1 44 (by decide)⟩, fun j hj' => BX_k B40 hb hj'⟩
        have f57 : gA s40 57 = gA T 57 := F40.2.1 57 (by decide)
        have f58 : gA s40 58 = gA T 58 := F40.2.1 58 (by decide)
        refine y_prune_L (L := (d : Int)) hv FU FU d b s38 s40 ⟨H40, ⟨R38, R40⟩, K40, ⟨(F40.1 55 (by decide)).trans h55, ⟨fun u hu hn => by rw [BX_u B40 hu]; exact hW.1 u hu hn, by rw [BX_u B40 (by omega)]; exact hW.2⟩, hd⟩, ⟨M, TG_D T2 dd, PM_D P2 dd, ⟨⟨ha, by rw [tb, BX_c B40]; exact bc, by rw [tb, BX_v B40]; exact bv⟩, by rw [tb, BX_l B40]; exact bl, by rw [tb]; exact bm, fun u hu hn => by rw [tb]; exact bmu u hu hn⟩, Y40⟩, ⟨by rw [F38.2.1 50 (by decide), h50 d (Nat.le_refl _), hPi], fun j hj' => ?_⟩, O40⟩
        rw [F38.2.1 50 (by decide), F38.2.1 51 (by decide), h50 j (by omega), hPj j hj', hA 51 (by decide), ht j hj', f57, f58]
        exact ⟨rfl, rfl⟩)
      exact pc_mono (J s11 e11 s13 R11 T11 V11 e13) (fun o ho => Or.inr ⟨rfl, ho.2.2, π, σ, lo, hj, ho.1, ho.2.1⟩)
    · have lev : 0 < (hM T).1 b := by omega
      have ev : ∀ k : Nat, (k : Int) < (hM T).2.1 b → gA S 59 (6 * π b + k) = (π ((hM T).2.2 b k).toNat : Int) := fun k hk => (Bb.2.2 k hk).2.1 lev
      obtain ⟨l, hl⟩ : ∃ l, d - i = l + 1 := ⟨d - i - 1, by omega⟩
      have hHS1 : ∃ k : Nat, (k : Int) < (hM T).2.1 b ∧ PF (kM T b) ((hM T).2.1 b) key (k : Int) ∧ HS T key l ((hM T).2.2 b k).toNat := by
        rw [hl] at hHS; exact hHS
      refine s_ust1 (by omega) (fun r q30 hEF e30 => ?_)
      have e30o := e30
      have r0 := hEF.1
      have r1 : r < (hM T).2.1 b := by
        rcases hEF.2.1 with w | w
        · omega
        · rw [← z1]; exact w.1
      have EFT : EF (kM T b) ((hM T).2.1 b) key r := by
        have q := EF_c (g := kM T b) (fun k hk => ((Bb.2.2 k (by rw [← z1]; exact hk)).1).symm) hEF
        rw [z1] at q; exact q
      rw [ev r.toNat (by omega)] at e30
      have kid := (hK.2.1 b hb lb).2 lev r.toNat (by omega)
      have kidN := (hK.2.1 b hb lb).1.1.2.2 lev r.toNat (by omega)
      obtain ⟨y, hy⟩ : ∃ y, y = ((hM T).2.2 b r.toNat).toNat := ⟨_, rfl⟩
      rw [← hy] at e30 kid kidN
      have y48 : y < 48 := by omega
      have yv : (hM T).2.2 b r.toNat = (y : Int) := by omega
      have ty : ((y : Nat) : Int).toNat = y := Int.toNat_natCast _
      have tpy : ((π y : Nat) : Int).toNat = π y := Int.toNat_natCast _
      have py48 := (hP y y48).1.1
      have nby : b ≠ y := fun e => by rw [← e] at kidN; omega
      have hcy : 0 < cM T y := by
        have k := TG_kid (p := b) (k := r.toNat) TT (fun _ _ => Int.le_refl 0) hb (by omega) lev (by omega)
        rw [yv, ty] at k; exact k.2.2
      have cy := sim_c h y48
      have zD' : ∀ x, x < 48 → 0 ≤ Z0 x ∧ Z0 x ≤ 10 := fun x _ => ⟨Int.le_refl 0, by show (0 : Int) ≤ 10; omega⟩
      have W30 := wp_det (ts_owned hR TSs zD' (by omega) (p0 := (π y : Int)) ⟨by omega, by omega⟩ (by rw [tpy, cy.1]; exact hcy)) e30
      have km := kid_mu (k := r.toNat) hv P hb (by omega) lev (by omega)
      have ke := enf_pos (h := hM T) (p := b) (k := r.toNat) (i := 0) lev (by omega) (by omega) (by omega)
      rw [yv] at km ke
      have MTO : ∀ q46 : Int × MS, m_x12_owned (y : Int) T = some q46 → (Rr q46.2 ∧ F_x12_owned T q46.2 ∧ (∀ i, 785 ≤ i → gA q46.2 49 i = gA T 49 i) ∧ ((gI q46.2 55 = 1 ∧ q46.1 = (y : Int)) ∨ (gI q46.2 55 = 0 ∧ 0 ≤ q46.1 ∧ ∃ M', OwnM T q46.2 v M M' y q46.1.toNat))) := fun q46 e46 => by
        have W46 := wp_det (mt_owned (M := M) hRt hv TT P (KS_CE hKS hC0) (by rw [S39]; omega) h55 (p0 := (y : Int)) ⟨by omega, by omega⟩ (by rw [ty]; exact hcy) km (own_x hv TT P (by rw [ty]; exact y48) (Or.inr ⟨b, hb, by omega, by
          rw [ty]
          have q : 1 ≤ en (hM T) b (y : Int) := ke
          omega, fun u hu hn => by rw [bmu u hu hn]; omega⟩))) e46
        rw [ty] at W46; exact W46
      have OWN : ∀ q46 : Int × MS, m_x12_owned (y : Int) T = some q46 → (q30.1 = -1 ∧ gI q46.2 55 = 1) ∨ (gI q46.2 55 = 0 ∧ 0 ≤ q30.1 ∧ 0 ≤ q46.1 ∧ ∃ π' σ', SIM π' σ' q30.2 q46.2 ∧ q30.1 = (π' q46.1.toNat : Int) ∧ (∀ x, x < 48 → LV T x → π' x = π x) ∧ CPY T q46.2 y q46.1.toNat) := fun q46 e46 => by
        have Y := y_ownB (v := v) (M := M) h hK hR hRt TSs TT (KS_CE hKS hC0) (by omega) (by rw [S39]; omega) h55 (p := (π y : Int)) (p' := (y : Int)) ⟨by omega, by omega⟩ (by rw [ty]) (by rw [ty]; exact hcy) e30 e46 W30.2.2 (by rw [ty]; exact (MTO q46 e46).2.2.2)
        rw [ty] at Y; exact Y
      have PFr : ∀ r' : Int, PF (kM T b) ((hM T).2.1 b) key r' → r' = r := fun r' hPF => (EF_PF (OI_SO hOI hK hb lb) (fun _ _ => rfl) EFT hPF).symm
      refine ⟨fun c => ?_, fun c s34 s27 e34 e27 => ?_⟩
      · refine m_ust1 h55 lev ⟨n1, sb.2⟩ (fun r' q46 hPF e46 => ?_)
        rw [PFr r' hPF, yv] at e46
        rw [PFr r' hPF]
        have f : gI q46.2 55 = 1 := by
          rcases OWN q46 e46 with x | x
          · exact x.2
          · exact absurd c (by have := x.2.1; omega)
        refine ⟨fun _ => pc_mono (m_J92F f) (fun o ho => Or.inl ⟨rfl, ho⟩), fun _ s53 e53 => ?_⟩
        have F53 : F_x12_setsEntry q46.2 s53 := fr_x12_setsEntry e53
        exact pc_mono (m_J92F ((F53.1 55 (by decide)).trans f)) (fun o ho => Or.inl ⟨rfl, ho⟩)
      · -- the child is each side's own
        have hCO : CurO S (π b : Int) ((d : Int) - (i : Int)) := by
          have cb := sim_c h hb
          refine ⟨⟨by omega, by omega⟩, ?_, ?_, ?_⟩
          · rw [tp, cb.1]; exact bc
          · rw [tp, cb.2]; exact bv
          · rw [tp]; exact Bb.1.trans bl
        have C := c_next hR TSs hCO (by omega) (by omega) (r := r) ⟨r0, by rw [tp, z1]; exact r1⟩ (by rw [tp]; exact e30o) c e34
        try rw [tp] at C
        obtain ⟨hR34, T34, q30r, ⟨g54, g55, g56⟩, Cb, ge, g57⟩ := C
        have F30 : F_x1_owned S q30.2 := fr_x1_owned e30
        have F34 : F_x8_set q30.2 s34 := fr_x8_set e34
        intro q eq
        refine m_ust1 h55 lev ⟨n1, sb.2⟩ (fun r' q46 hPF e46 => ?_)
        rw [PFr r' hPF] at e46 ⊢
        rw [yv] at e46 ⊢
        rcases OWN q46 e46 with x | ⟨x55, x1, x2, π1, σ1, H1, x3, x4, CP⟩
        · exact absurd x.1 c
        have fin : ∀ X : MS, (((hM q46.2).2.2 b r.toNat = q46.1 ∧ X = q46.2) ∨ ((hM q46.2).2.2 b r.toNat ≠ q46.1 ∧ m_x12_setsEntry (b : Int) r (kM q46.2 b r.toNat) q46.1 q46.2 = some X)) → pc (m_x12_removes_J92 (m_x12_removes_L29 m) (v : Int) key (b : Int) (i : Int) r q46.1 X) (fun o => CONu q o) := fun X hX => by
          obtain ⟨cc, hcc⟩ : ∃ cc, cc = q46.1.toNat := ⟨_, rfl⟩
          have ci : q46.1 = (cc : Int) := by omega
          have CP' := CP
          rw [← hcc] at x3 CP'
          obtain ⟨CP1, CP2, CP3, CP4⟩ := CP'
          have RN := r_nextU hv hRt hKS hC0 hE h55 hW TT P hO0 (by omega) ⟨r0, r1⟩ (by rw [yv]; exact e46) x55 hX
          rw [yv, ty, ← hcc] at RN
          obtain ⟨RX, KX, X55, ⟨WX, rtX⟩, cR, _, ⟨BXx, zX, ⟨vX, vX'⟩, kX⟩, MX, lastX⟩ := RN
          obtain ⟨M', UX, TX, PX, hAX, hc1, hc2, hc3⟩ := MX
          have c48 : cc < 48 := by omega
          have ncb : b ≠ cc := fun e => by
            rcases CP4 with w | w
            · exact nby (e.trans w)
            · exact w (by rw [← e]; exact lb)
          have rb := CP2 b ncb
          have LVb : LV q46.2 b := by
            have q := hAX.1.2.1
            rw [tb, BX_c BXx] at q
            exact Or.inl (by omega)
          have K46 : ∀ x, x < 48 → LV q46.2 x → 0 ≤ (hM q46.2).2.1 x ∧ (hM q46.2).2.1 x ≤ 6 := fun x hx hl => by
            rcases CP3 x hx hl with w | w
            · rw [w, CP1.2.1]; exact hKs y y48 kid.2
            · by_cases e : x = cc
              · rw [e, CP1.2.1]; exact hKs y y48 kid.2
              · rw [(CP2 x e).2.1]; exact hKs x hx w
          have eb : (hM q46.2).2.2 b r.toNat = (y : Int) := by rw [(rb.2.2 r.toNat).1]; exact yv
          have B46 := sim_b H1 hb LVb
          have kb : π1 b = π b := x4 b hb lb
          have P1 := H1.1.1
          have R46 : Rr q46.2 := (MTO q46 e46).1
          have lev46 : 0 < (hM q46.2).1 b := by rw [rb.1]; omega
          have vc := (B46.2.2 r.toNat (by rw [rb.2.1]; omega)).2.1 lev46
          rw [eb, ty] at vc
          have Y2 := y_set H1 K46 W30.1 R46 hb LVb (p1 := r) (v1 := q30.1) (v2 := q46.1) ⟨r0, by rw [rb.2.1]; exact r1⟩ ⟨by omega, by omega⟩ ⟨by omega, by omega⟩ ⟨fun _ => by rw [← hcc]; exact x3, fun w => by omega⟩ (by
            rw [eb, show gA q30.2 59 (6 * π1 b + r.toNat) = (π1 y : Int) from vc, x3, ci]
            constructor
            · intro e
              rw [show y = cc by omega]
            · intro e
              have := PB_i P1 y48 c48 (by omega)
              omega) (by rw [kb]; exact e34) (by
            rcases hX with w | w
            · exact Or.inl ⟨w.1, w.2⟩
            · exact Or.inr w)
          obtain ⟨H2, _, _⟩ := Y2
          have F46 : F_x12_owned T q46.2 := fr_x12_owned e46
          have XA : ∀ k, k = 57 ∨ k = 58 → gA X k = gA T k := fun k hk => by
            rcases hX with w | w
            · rw [w.2]; exact F46.2.1 k (by simp; omega)
            · have F53 : F_x12_setsEntry q46.2 X := fr_x12_setsEntry w.2
              rw [F53.2.1 k (by simp; omega)]; exact F46.2.1 k (by simp; omega)
          have OX := OI_own (S := X) (b := b) (y := y) (r := cc) (k := r.toNat) (key := key) hOI hK hb lb lev (by omega) yv hky (by
              rw [show ((r.toNat : Nat) : Int) = r by omega]
              obtain ⟨f1, f2, f3⟩ := EFT
              refine ⟨f1, f2.imp id (fun w => w.1), fun k k1 k2 => ?_, fun w => ?_⟩
              · rcases f2 with w | w
                · omega
                · by_cases e : k = r.toNat
                  · rw [e]; exact w.2
                  · have := OI_SO hOI hK hb lb k r.toNat k1 (by omega) (by omega)
                    omega
              · exact f3 (r + 1).toNat (by omega) (by omega) (by omega))
            (ROW_t CP1 (ROW_bx BXx (fun e => ncb e.symm))) (fun e => ncb e.symm) (fun x x1' x2' => ROW_t (CP2 x x1') (ROW_bx BXx x2')) ⟨by rw [BX_l BXx]; exact rb.1, by rw [zX]; exact rb.2.1, fun j => by rw [kX j]; exact (rb.2.2 j).2, vX.trans ci, fun j hj' => by rw [vX' j hj']; exact (rb.2.2 j).1⟩ (fun x hx hl => by
              refine CP3 x hx ?_
              unfold LV at hl ⊢
              rw [← BX_c BXx, ← BX_v BXx]; exact hl) (by
              rcases CP4 with w | w
              · refine Or.inl ⟨w, fun p k' hp lp hlp hk' hv' => ?_⟩
                have cv := lastX w
                have OP := one_par TT y48 rfl hb (by omega) lev (k := r.toNat) (by omega) yv cv.1
                rcases lp with cp | cp
                · exact OP p k' hp cp hlp hk' hv'
                · exfalso
                  have kd := TG_kid (TG_ss TT) (fun _ _ => Int.le_refl 0) hp cp hlp hk'
                  have kd2 := kd.2.2
                  rw [hv', ty] at kd2
                  omega
              · exact Or.inr w)
          obtain ⟨OX1, OX2⟩ := OX
          unfold m_x12_removes_J92
          refine pc_inb (pc_stn (fun s54 e54 => pc_inb (pc_stn (fun s56 e56 => ?_))))
          have hR54 : Rr s54 := e54 ▸ Rr.uAu RX (by show (0 : Int) ≤ (b : Int) ∧ (b : Int) ≤ 47; omega)
          have hR56 : Rr s56 := e56 ▸ Rr.uAu hR54 (by show (0 : Int) ≤ r ∧ r ≤ 6; omega)
          have a57 : gA s56 57 = upZ (gA X 57) ((i : Nat) : Int).toNat (b : Int) := (q_Aa e56 (by decide)).trans (q_AA e54)
          have a58 : gA s56 58 = upZ (gA X 58) ((i : Nat) : Int).toNat r := by rw [(q_AA e56 : gA s56 58 = _), show gA s54 58 = gA X 58 from q_Aa e54 (by decide)]
          have a49 : gA s56 49 = gA X 49 := (q_Aa e56 (by decide)).trans (q_Aa e54 (by decide))
          have kA : ∀ k, k ≠ 57 → k ≠ 58 → gA s56 k = gA X k := fun k k1 k2 => (q_Aa e56 k2).trans (q_Aa e54 k1)
          have a39 : gA s56 39 = gA X 39 := kA 39 (by decide) (by decide)
          have a55 : gI s56 55 = gI X 55 := (q_Ai e56).trans (q_Ai e54)
          obtain ⟨m1, m2, m3, m4⟩ := eq49 a49
          have K56 : KS t0 s56 := KS_t KX ⟨⟨a39, kA 42 (by decide) (by decide), kA 43 (by decide) (by decide), kA 44 (by decide) (by decide)⟩, fun j _ => by rw [a49]⟩
          have YX := WY_up hY (T_6 TT) (XA 57 (Or.inl rfl)) (XA 58 (Or.inr rfl)) rtX UX (Int.le_refl _)
          have yX : (hM X).2.2 ((b : Nat) : Int).toNat r.toNat = (cc : Int) := by rw [tb]; exact vX.trans ci
          have YW := WY_push YX (by omega) a57 a58 a49 hAX ⟨r0, by rw [tb, zX, rb.2.1]; exact r1⟩ yX
          have k51 : gA s27 51 = upZ (gA s34 51) i r := q_AA e27
          have k27 : ∀ k, k ≠ 51 → gA s27 k = gA s34 k := fun k hk => q_Aa e27 hk
          have i27 : ∀ k, gI s27 k = gI s34 k := fun k => q_Ai e27
          have hR27 : Rg s27 := e27 ▸ Rg.uAu hR34 (by show (0 : Int) ≤ r ∧ r ≤ 5; omega)
          have T27 : TS s27 Z0 (-1) := TS_eq T34 (k27 54 (by decide)) (k27 55 (by decide)) (k27 56 (by decide)) (k27 57 (by decide)) (k27 58 (by decide)) (k27 59 (by decide)) (k27 60 (by decide)) (k27 61 (by decide)) (i27 _) (i27 _)
          have ei : (i : Int) + 1 = ((i + 1 : Nat) : Int) := by omega
          rw [ci]
          rw [x3, ei] at eq
          rw [ei] at YW ⊢
          refine ih m (i + 1) cc s27 s56 π1 σ1 _ _ ⟨SIM_k H2 (fun k k1 k2 => k27 k (by omega)) (i27 1060) (q_Al e27) a49 (by rw [a39]) (kA 54 (by decide) (by decide)), ⟨hR27, hR56⟩, K56, ⟨T27, by rw [i27, ge]; exact h581, RV_eq hV ((k27 60 (by decide)).trans ((F34.2.1 60 (by decide)).trans (F30.2.1 60 (by decide))))⟩, ⟨a55.trans X55, ⟨fun u hu hn => by rw [a49]; exact WX.1 u hu hn, by rw [a49]; exact WX.2⟩, M', TM_eq TX a49 a39, PM_e PX a49 a39 (by omega), ⟨⟨⟨by omega, by omega⟩, by rw [Int.toNat_natCast, m3]; exact hc1.1, by rw [Int.toNat_natCast, m4]; exact hc1.2⟩, by rw [Int.toNat_natCast, m1, hc2]; omega, by rw [Int.toNat_natCast]; exact hc3.1, fun u hu hn => by rw [Int.toNat_natCast]; exact hc3.2 u hu hn⟩, YW⟩, OI_49 OX1 a49, OX2, ⟨by omega, hd⟩, fun j hj' => ?_, ?_⟩ q eq
          · rw [k51, a58, Int.toNat_natCast]
            by_cases z : j = i
            · rw [z, upZ_s, upZ_s]
            · rw [upZ_n z, upZ_n z, F34.2.1 51 (by decide), F30.2.1 51 (by decide), XA 58 (Or.inr rfl)]
              exact ht j (by omega)
          · obtain ⟨k, gk1, gk2, gk3⟩ := hHS1
            have kr : k = r.toNat := by
              have := PFr (k : Int) gk2
              omega
            rw [kr, ← hy] at gk3
            have rX : ∀ x, ROW X x s56 x := fun x => ⟨by rw [m1], by rw [m1], fun j => by rw [m1, m2]; exact ⟨rfl, rfl⟩⟩
            have ey : (hM T).1 y = (l : Int) := by omega
            rw [show d - (i + 1) = l by omega]
            refine HS_r hK l cc y y48 kid.2 ey (ROW_t (ROW_t CP1 (ROW_bx BXx (fun e => ncb e.symm))) (rX cc)) (fun z z1' z2 z3 => ?_) gk3
            have zb : z ≠ b := fun e => by rw [e] at z3; omega
            have zc : z ≠ cc := fun e => by
              rcases CP4 with w | w
              · rw [e, w] at z3; omega
              · exact w (by rw [← e]; exact z2)
            exact ROW_t (ROW_t (CP2 z zc) (ROW_bx BXx zb)) (rX z)
        have eb2 : (hM q46.2).2.2 b r.toNat = (y : Int) := by
          have ncb : b ≠ q46.1.toNat := fun e => by
            rcases CP.2.2.2 with w | w
            · exact nby (e.trans w)
            · exact w (by rw [← e]; exact lb)
          rw [((CP.2.1 b ncb).2.2 r.toNat).1]; exact yv
        exact ⟨fun w => fin q46.2 (Or.inl ⟨by rw [eb2, w], rfl⟩), fun w s53 e53 => fin s53 (Or.inr ⟨fun w2 => w (by rw [← w2, eb2]), e53⟩)⟩
theorem m_rem1 {v : Nat} {key : Int} {t : MS} {Q : MS → Prop} (K : ∀ q60 : Int × MS, m_x12_owned (gA t 49 v) t = some q60 → (gI q60.2 55 ≠ 0 → Q q60.2) ∧ (gI q60.2 55 = 0 → ∀ s64 : MS, sA q60.2 49 (upZ (gA q60.2 49) v q60.1) = s64 → pc (m_x12_removes_L29 FU (v : Int) key q60.1 0 s64) Q)) : pc (m_x12_removes (v : Int) key t) Q := by
  have tv : ((v : Nat) : Int).toNat = v := Int.toNat_natCast _
  unfold m_x12_removes
  refine pc_rdI (fun _ => ?_)
  rw [tv]
  refine pc_bn (fun q60 e60 => pc_rg (pc_if (fun c => pc_inb (pc_stn (fun s64 e64 => ?_))) (fun c => pc_some ((K q60 e60).1 c))))
  exact (K q60 e60).2 c s64 e64
set_option maxHeartbeats 2000000 in
theorem y_uproot {π σ : Nat → Nat} {s t : MS} {lo hj : Nat → Int} {v : Nat} {key : Int} (h : SIM π σ s t) (hR : Rg s) (hRt : Rr t) (S0 : TS s Z0 (-1)) (H : RT t) (hC0 : CE t 0) (hN0 : 0 ≤ gA t 39 5) (hE : 3 ≤ gA t 39 6 ∧ gA t 39 6 ≤ 6) (h581 : 3 ≤ gI s 581) (hf : gI t 55 = 0) (hv : v < 8) (hrt : 0 ≤ gA t 49 v ∧ gA t 49 v < 254) (hO : OI t lo hj) (hkey : R2 key) (hHS : HS t key ((hM t).1 (gA t 49 v).toNat).toNat (gA t 49 v).toNat) : pc (m_x1_uproot (v : Int) key s) (fun q => pc (m_x12_removes (v : Int) key t) (fun o => CONu q o)) := by
  obtain ⟨M0, P0⟩ := RT_PM v (by omega) H
  have T0 : TM t d0 (-1) := H.1
  have tv : ((v : Nat) : Int).toNat = v := Int.toNat_natCast _
  have zD : ∀ x, x < 48 → 0 ≤ Z0 x := fun x _ => Int.le_refl 0
  have zD' : ∀ x, x < 48 → 0 ≤ Z0 x ∧ Z0 x ≤ 10 := fun x _ => ⟨Int.le_refl 0, by show (0 : Int) ≤ 10; omega⟩
  have hK : KLV t := KLV_of T0 (fun _ _ => Int.le_refl 0)
  have hN48 : gA t 39 5 ≤ 48 := T0.1.1
  have rl := TG_root_live (v := v) T0 (fun _ _ => Int.le_refl 0) hv (by rw [rM_v hv]; omega) (by rw [rM_v hv]; omega)
  rw [rM_v hv] at rl
  have rm := root_mu hv P0 hrt.1 hrt.2
  obtain ⟨y, hy⟩ : ∃ y, y = (gA t 49 v).toNat := ⟨_, rfl⟩
  rw [← hy] at rl rm
  have yv : gA t 49 v = (y : Int) := by omega
  have y48 : y < 48 := by omega
  have ty : ((y : Nat) : Int).toNat = y := Int.toNat_natCast _
  have ly : LV t y := Or.inl rl.2
  have lv : 0 ≤ (hM t).1 y ∧ (hM t).1 y ≤ 47 := TG_lev T0 (fun _ _ => Int.le_refl 0) y48 rl.2
  have cy := sim_c h y48
  have py48 := (h.1.1 y y48).1.1
  have tpy : ((π y : Nat) : Int).toNat = π y := Int.toNat_natCast _
  have s60 : gA s 60 v = (π y : Int) := by
    rcases (h.1.2.2.2 v hv).1 with ⟨a, _⟩ | ⟨a, _⟩ | ⟨_, _, a⟩
    · omega
    · omega
    · rw [← hy] at a; exact a
  rw [← hy] at hHS
  obtain ⟨d, hd⟩ : ∃ d, d = ((hM t).1 y).toNat := ⟨_, rfl⟩
  rw [← hd] at hHS
  have e56 : gA s 56 (π y) = (d : Int) := by
    have q : gA s 56 (π y) = (hM t).1 y := (sim_b h y48 ly).1
    omega
  unfold m_x1_uproot
  refine pc_rdI (fun _ => pc_rdI (fun _ => pc_rdI (fun _ => ?_)))
  rw [tv, s60, tpy, e56]
  refine pc_bn (fun q87 e87 => ?_)
  have W1 := wp_det (ts_owned hR S0 zD' (by omega) (p0 := (π y : Int)) ⟨by omega, by omega⟩ (by rw [tpy, cy.1]; exact rl.2)) e87
  obtain ⟨R87, F87, W1⟩ := W1
  have OWN : ∀ q60 : Int × MS, m_x12_owned (gA t 49 v) t = some q60 → (Rr q60.2 ∧ F_x12_owned t q60.2 ∧ (∀ i, 785 ≤ i → gA q60.2 49 i = gA t 49 i) ∧ ((gI q60.2 55 = 1 ∧ q60.1 = (y : Int)) ∨ (gI q60.2 55 = 0 ∧ 0 ≤ q60.1 ∧ ∃ M', OwnM t q60.2 v M0 M' y q60.1.toNat))) ∧ ((q87.1 = -1 ∧ gI q60.2 55 = 1) ∨ (gI q60.2 55 = 0 ∧ 0 ≤ q87.1 ∧ 0 ≤ q60.1 ∧ ∃ π' σ', SIM π' σ' q87.2 q60.2 ∧ q87.1 = (π' q60.1.toNat : Int) ∧ (∀ x, x < 48 → LV t x → π' x = π x) ∧ CPY t q60.2 y q60.1.toNat)) := fun q60 e60 => by
    rw [yv] at e60
    have W2 := wp_det (mt_owned (M := M0) hRt hv T0 P0 hC0 (by omega) hf (p0 := (y : Int)) ⟨by omega, by omega⟩ (by rw [ty]; exact rl.2) (by rw [ty]; exact rm) (own_x hv T0 P0 (by rw [ty]; exact y48) (Or.inl (by rw [ty]; exact yv)))) e60
    have Y := y_ownB (v := v) (M := M0) h hK hR hRt S0 T0 hC0 (by omega) (by omega) hf (p := (π y : Int)) (p' := (y : Int)) ⟨by omega, by omega⟩ (by rw [ty]) (by rw [ty]; exact rl.2) e87 e60 W1 W2.2.2.2
    rw [ty] at Y W2
    exact ⟨W2, Y⟩
  refine pc_rg (pc_if (fun c => pc_some (m_rem1 (fun q60 e60 => ?_))) (fun c => pc_inb (pc_stn (fun s67 e67 => ?_))))
  · rcases (OWN q60 e60).2 with x | x
    · exact ⟨fun _ => Or.inl ⟨rfl, x.2⟩, fun w => by omega⟩
    · have := x.2.1; omega
  try rw [tv] at e67
  -- the root is each side's own
  have hR67 : 0 ≤ q87.1 → q87.1 < 48 → Rg s67 := fun a b => e67 ▸ Rg.uAu R87 (by show (-2 : Int) ≤ q87.1 ∧ q87.1 ≤ 253; omega)
  have ROOT : ∀ (q60 : Int × MS) (s64 : MS), m_x12_owned (gA t 49 v) t = some q60 → gI q60.2 55 = 0 → sA q60.2 49 (upZ (gA q60.2 49) v q60.1) = s64 → ∃ (cc : Nat) (π1 σ1 : Nat → Nat) (lo1 hj1 : Nat → Int), (q60.1 = (cc : Int) ∧ cc < 48 ∧ q87.1 = (π1 cc : Int)) ∧ SIM π1 σ1 s67 s64 ∧ (OI s64 lo1 hj1 ∧ (lo1 cc ≤ key ∧ key ≤ hj1 cc)) ∧ (Rr s64 ∧ KS t s64 ∧ gI s64 55 = 0 ∧ RWn t s64 v) ∧ (gA s64 49 v = (cc : Int) ∧ ∃ M', TM s64 d0 (-1) ∧ PM s64 v M' d0 (-1) ∧ ((cM s64 cc = 1 ∧ vM s64 cc = 0) ∧ (hM s64).1 cc = (hM t).1 y ∧ (M' v cc = 1 ∧ ∀ u, u < 16 → u ≠ v → M' u cc = 0))) ∧ ((ROW t y s64 cc ∧ ∀ x, x ≠ cc → ROW t x s64 x) ∧ (cc = y ∨ ¬ LV t cc)) := fun q60 s64 e60 x55 e64 => by
    obtain ⟨⟨hRo, Fo, ko, h60⟩, Y⟩ := OWN q60 e60
    rcases Y with x | ⟨_, x1, x2, π1, σ1, H1, x3, x4, CP⟩
    · omega
    rcases h60 with ⟨h60, _⟩ | ⟨z0, w0, M', ⟨⟨rq, rN⟩, ⟨o54, o55⟩, ⟨o56, o57⟩⟩, oc, oh, oq, ou, ⟨To, Po⟩, om, omu, omn, omx⟩
    · omega
    obtain ⟨cc, hcc⟩ : ∃ cc, cc = q60.1.toNat := ⟨_, rfl⟩
    rw [← hcc] at x3 CP rq rN o54 o55 o56 o57 oc oh oq om omu omx To Po
    have ci : q60.1 = (cc : Int) := by omega
    rw [ci] at e64
    have tcc : ((cc : Nat) : Int).toNat = cc := Int.toNat_natCast _
    have KSo : KS t q60.2 := ⟨⟨Fo.2.1 39 (by decide), Fo.2.1 42 (by decide), Fo.2.1 43 (by decide), Fo.2.1 44 (by decide)⟩, ko⟩
    have hR64 : Rr s64 := e64 ▸ Rr.uAu hRo (by show (-2147483648 : Int) ≤ (cc : Int) ∧ (cc : Int) ≤ 2147483647; omega)
    have u64 : gA s64 49 = upZ (gA q60.2 49) v (cc : Int) := q_AA e64
    have a39 : gA s64 39 = gA q60.2 39 := q_Aa e64 (by decide)
    obtain ⟨T1, P1⟩ := MT_root (q := (cc : Int)) To Po hv u64 a39 (Or.inl ⟨by omega, by rw [KSo.1.1]; omega⟩)
    obtain ⟨⟨w1, w2⟩, ⟨w3, w4⟩, _⟩ := M_root hv u64
    have rX : ∀ x, ROW q60.2 x s64 x := fun x => ⟨by rw [w1], by rw [w1], fun j => by rw [w1, w2]; exact ⟨rfl, rfl⟩⟩
    have dd : ∀ x : Nat, x < 48 → d0 x = dq cc x - dq y x + (if gA q60.2 49 v = (x : Int) then 1 else 0) - (if (cc : Int) = (x : Int) then 1 else 0) := fun x hx => by
      show (0 : Int) = _
      rw [ou v (by omega), yv, dd_0 (r := (cc : Int)) (by omega), dd_0 (r := (y : Int)) (by omega), tcc, ty]; omega
    have K64 : KS t s64 := KS_t KSo ⟨⟨a39, q_Aa e64 (by decide), q_Aa e64 (by decide), q_Aa e64 (by decide)⟩, fun j hj' => by rw [u64, upZ_n (by omega)]⟩
    have H64 : SIM π1 σ1 s67 s64 := sim_root H1 hv (fun k k1 k2 k3 => q_Aa e67 k3) (by rw [(q_AA e67 : gA s67 60 = _), x3]) (q_Ai e67) (q_Al e67) u64 (by rw [a39]) (q_Aa e64 (by decide)) (Or.inr (Or.inr ⟨by omega, by omega, by rw [tcc]⟩))
    have OR := OI_rt (key := key) hO hK y48 ly CP.1 CP.2.1 CP.2.2.1 (by
      rcases CP.2.2.2 with w | w
      · refine Or.inl ⟨w, fun p k' hp lp hlp hk' hv' => ?_⟩
        have cv : cM t y = 1 ∧ vM t y = 0 := by
          rcases Classical.em (cM t y = 1 ∧ vM t y = 0) with u | u
          · exact u
          · exfalso
            have lvy := (TG_nd T0 y48 rl.2)
            have tk : ∀ o1 : Int × MS, m_x12_taken ((hM t).1 y) (y : Int) t = some o1 → gI o1.2 55 = 0 → (0 ≤ o1.1 ∧ o1.1 < gA t 39 5) ∧ (cM t o1.1.toNat ≤ 0 ∧ vM t o1.1.toNat ≤ 0) ∧ TkE t o1.2 o1.1.toNat ((hM t).1 y) := fun o1 eo z => by
              have W := (wp_det (w_x12_taken hRt ⟨hN0, hN48⟩ hC0 (p0 := (hM t).1 y) (p1 := (y : Int)) ⟨lv.1, by omega⟩ ⟨by omega, by omega⟩) eo).2.2
              rcases W with W | ⟨_, W⟩
              · omega
              · exact W
            have e60' := e60
            rw [yv] at e60'
            have g2 := m_own (p := (y : Int)) (t := t) (by omega) hf (fun o1 eo z => by
              rw [ty] at eo ⊢
              obtain ⟨W2, W3, W4⟩ := tk o1 eo z
              have ne : y ≠ o1.1.toNat := fun e2 => by rw [← e2] at W3; omega
              refine ⟨W2.1, fun e2 => ne e2.symm, ?_⟩
              have := W4.1 (20 + 16 * y) (by omega)
              show gA o1.2 49 (20 + 16 * y) ≤ 6
              rw [this]; exact lvy.2.1.2) q60 e60'
            rw [ty] at g2
            rcases g2 with ⟨a, _⟩ | ⟨_, o1, eo1, a2⟩
            · exact u ⟨a.2, a.1.2⟩
            · rcases a2 with ⟨x, e2⟩ | ⟨x, e2, _⟩
              · have : q60.2 = o1.2 := by rw [e2]
                rw [this] at x55; exact x x55
              · obtain ⟨_, W3, _⟩ := tk o1 eo1 x
                rw [← e2, ci, tcc, w] at W3; omega
        rcases lp with cp | cp
        · exact one_rt T0 hv y48 rfl yv cv.1 p k' hp cp hlp hk' hv'
        · have kd := TG_kid (TG_ss T0) (fun _ _ => Int.le_refl 0) hp cp hlp hk'
          have kd2 := kd.2.2
          rw [hv', ty] at kd2
          omega
      · exact Or.inr w)
    refine ⟨cc, π1, σ1, _, _, ⟨ci, rq, x3⟩, H64, ⟨OI_same OR.1 (fun x hx hl => ⟨by unfold LV at hl ⊢; rw [← w3, ← w4]; exact hl, Or.inl ⟨by rw [w1], by rw [w1], fun k => by rw [w1, w2]; exact ⟨rfl, rfl⟩⟩⟩), OR.2⟩, ⟨hR64, K64, (q_Ai e64).trans z0, fun u hu hn => by rw [u64, upZ_n hn]; exact ou u hu, by rw [u64, upZ_s]; omega⟩, ⟨by rw [u64, upZ_s], M', TG_D T1 dd, PM_D P1 dd, ⟨by rw [w3]; exact o54, by rw [w4]; exact o55⟩, by rw [w1]; exact o56, om, omu⟩, ⟨ROW_t CP.1 (rX cc), fun x hx => ROW_t (CP.2.1 x hx) (rX x)⟩, CP.2.2.2⟩
  -- the class behind the root
  rcases W1 with w | ⟨r0, ⟨rq, rN⟩, ⟨o54, o55⟩, ⟨o56, o57⟩, _, _, _, T1⟩
  · exact absurd w c
  have i67 : gI s67 1060 = gI q87.2 1060 := q_Ai e67
  have g60 : gA s67 60 = upZ (gA q87.2 60) v q87.1 := q_AA e67
  have h60s : gA q87.2 60 = gA s 60 := F87.2.1 60 (by decide)
  have R67 := hR67 r0 (by omega)
  have T1r := TG_root (v := v) (q := q87.1) T1 hv (Or.inl ⟨r0, by show q87.1 < gI q87.2 1060; rw [F87.1 1060 (by decide)]; omega⟩)
  have T67 : TS s67 Z0 (-1) := by
    refine TS_mk (TG_D T1r (fun x hx => ?_)) (hN_eq (q_Aa e67 (by decide)) (q_Aa e67 (by decide)) (q_Aa e67 (by decide))) (kN_eq (q_Aa e67 (by decide))) (q_Ai e67) (q_Ai e67) (q_Aa e67 (by decide)) (q_Aa e67 (by decide)) g60 (q_Aa e67 (by decide))
    show (0 : Int) = 0 + (if x = q87.1.toNat then 1 else 0) - (if x = ((π y : Nat) : Int).toNat then 1 else 0) + (if gA q87.2 60 v = (x : Int) then 1 else 0) - (if q87.1 = (x : Int) then 1 else 0)
    rw [h60s, s60, tpy]
    by_cases z : x = q87.1.toNat
    · rw [if_pos z, if_pos (show q87.1 = (x : Int) by omega)]
      by_cases z2 : x = π y
      · rw [if_pos z2, if_pos (show (π y : Int) = (x : Int) by omega)]; omega
      · rw [if_neg z2, if_neg (show ¬ (π y : Int) = (x : Int) by omega)]; omega
    · rw [if_neg z, if_neg (show ¬ q87.1 = (x : Int) by omega)]
      by_cases z2 : x = π y
      · rw [if_pos z2, if_pos (show (π y : Int) = (x : Int) by omega)]; omega
      · rw [if_neg z2, if_neg (show ¬ (π y : Int) = (x : Int) by omega)]; omega
  intro q eq
  refine m_rem1 (fun q60 e60 => ⟨fun w => ?_, fun x55 s64 e64 => ?_⟩)
  · rcases (OWN q60 e60).2 with x | x
    · exact absurd x.1 c
    · exact absurd x.1 w
  obtain ⟨cc, π1, σ1, lo1, hj1, ⟨ci, c48, x3⟩, H64, ⟨O1, O2⟩, ⟨R64, K64, f55, W64⟩, ⟨r49, M', T64, P64, ⟨u1, u2⟩, u3, u4, u5⟩, ⟨rw1, rw2⟩, rw3⟩ := ROOT q60 s64 e60 x55 e64
  have tcc : ((cc : Nat) : Int).toNat = cc := Int.toNat_natCast _
  rw [x3] at eq
  rw [ci]
  have hz : ((0 : Nat) : Int) = 0 := rfl
  refine y_uproot_L (s0 := s) (t0 := t) (d := d) hv hkey hC0 hE hN0 FU FU 0 cc s67 s64 π1 σ1 lo1 hj1 ⟨H64, ⟨R67, R64⟩, K64, ⟨T67, by rw [(q_Ai e67 : gI s67 581 = gI q87.2 581), F87.1 581 (by decide)]; exact h581, RV_up (S := q87.2) (fun w _ => by rw [F87.2.1 60 (by decide)]) g60 (by omega)⟩, ⟨f55, W64, M', T64, P64, ⟨⟨⟨by omega, by omega⟩, by rw [tcc]; exact u1, by rw [tcc]; exact u2⟩, by rw [tcc, u3]; omega, by rw [tcc]; exact u4, fun u hu hn => by rw [tcc]; exact u5 u hu hn⟩, fun j hj' => absurd hj' (by omega), by rw [if_pos hz]; exact r49⟩, O1, O2, ⟨Nat.zero_le _, by omega⟩, fun j hj' => absurd hj' (Nat.not_lt_zero j), ?_⟩ q eq
  show HS s64 key d cc
  refine HS_r hK d cc y y48 ly (by omega) rw1 (fun z z1 z2 z3 => rw2 z (fun e => ?_)) hHS
  rcases rw3 with w | w
  · rw [e, w] at z3; omega
  · exact w (by rw [← e]; exact z2)
