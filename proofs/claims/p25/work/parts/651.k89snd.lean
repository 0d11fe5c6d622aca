/-! ===== all blocks of an image, sound as the class sees it ===== -/
def nfr (S : MS) (x : Nat) : Prop := ¬ (gA S 72 x = 0 ∧ gA S 73 x = 0)
/-- what is done when the blocks of lower levels, and the first ones of this, were seen -/
def DNE (S : MS) (N l b : Nat) : Prop := ∀ x, x < N → nfr S x → (gA S 74 x < (l : Int) ∨ (gA S 74 x = (l : Int) ∧ x < b)) → SBkI S x ∧ LHk S S x
/-- rows that are read only -/
def KRd (S o : MS) : Prop := (∀ k, k ≠ 18 → k ≠ 19 → k ≠ 20 → gA o k = gA S k) ∧ ∀ i, gI o i = gI S i
theorem KRd_tr {S o q : MS} (h : KRd S o) (g : KRd o q) : KRd S q := ⟨fun k k1 k2 k3 => (g.1 k k1 k2 k3).trans (h.1 k k1 k2 k3), fun i => (g.2 i).trans (h.2 i)⟩
theorem KRd_rf (S : MS) : KRd S S := ⟨fun _ _ _ _ => rfl, fun _ => rfl⟩
theorem nfr_k {S o : MS} {x : Nat} (h : KRd S o) : nfr o x ↔ nfr S x := by
  unfold nfr
  rw [h.1 72 (by decide) (by decide) (by decide), h.1 73 (by decide) (by decide) (by decide)]
/-- one more block, on the level l -/
theorem DNE_step {S o : MS} {N l b : Nat} (hN : ∀ x, x < N → nfr S x → 1 ≤ gA S 75 x) (hbN : b < N) (hb : nfr S b) (D : DNE S N l b) (hl : gA S 74 b = (l : Int)) (hs : SBkI S b) (hh : LHk S o b) (K : KLH S o b) : DNE o N l (b + 1) := by
  obtain ⟨k1, k2, k3⟩ := K
  have e72 := k2 72 (by decide) (by decide)
  have e73 := k2 73 (by decide) (by decide)
  have e74 := k2 74 (by decide) (by decide)
  have e75 := k2 75 (by decide) (by decide)
  have e76 := k2 76 (by decide) (by decide)
  have e77 := k2 77 (by decide) (by decide)
  -- a child lies one level below: it is another block
  have CH : ∀ x k : Nat, CHK S x k → gA S 74 x ≤ (l : Int) → (gA S 77 (6 * x + k)).toNat ≠ b := fun x k c hx z => by
    have w := c.1.2.2
    rw [z, hl] at w
    omega
  have SB : ∀ x, SBkI S x → gA S 74 x ≤ (l : Int) → SBkI o x := fun x s hx => by
    refine ⟨fun k h1 h2 => ?_, fun h1 k h2 => ?_⟩
    · rw [e74] at h1
      rw [e75] at h2
      rw [e76]; exact s.1 k h1 h2
    · rw [e74] at h1
      rw [e75] at h2
      have c := s.2 h1 k h2
      have n := CH x k c hx
      have w := k1 _ n
      unfold CHK at c ⊢
      rw [e72, e73, e74, e75, e76, e77, k3 1420, w.1, w.2]
      exact c
  have LHx : ∀ x, SBkI S x → gA S 74 x ≤ (l : Int) → 1 ≤ gA S 75 x → ∀ o1 : MS, LHk S o1 x → LHk o o1 x := fun x s hx hc o1 h => by
    refine ⟨fun h1 => ?_, fun h1 => ?_⟩
    · rw [e74] at h1
      rw [e75, e76]; exact h.1 h1
    · rw [e74] at h1
      have y := h.2 h1
      have c0 := k1 _ (CH x 0 (s.2 h1 0 (by omega)) hx)
      have c1 := k1 _ (CH x (gA S 75 x - 1).toNat (s.2 h1 _ (by omega)) hx)
      rw [Nat.add_zero] at c0
      rw [e75, e77, c0.1, c1.2]
      exact y
  intro x hx nf hlv
  rw [e74] at hlv
  have nf' : nfr S x := by
    unfold nfr at nf ⊢
    rw [e72, e73] at nf; exact nf
  by_cases z : x = b
  · rw [z]
    exact ⟨SB b hs (by omega), LHx b hs (by omega) (hN b hbN hb) o hh⟩
  · obtain ⟨d1, d2⟩ := D x hx nf' (by omega)
    have w := k1 x z
    refine ⟨SB x d1 (by omega), LHx x d1 (by omega) (hN x hx nf') o ?_⟩
    unfold LHk at d2 ⊢
    rw [w.1, w.2]
    exact d2
theorem s_free3 {b : Nat} {S : MS} (hb : (b : Int) < gI S 1420) : pc (m_x8_isFree_v2 (b : Int) S) (fun r => (r = 1 ∧ ¬ nfr S b) ∨ (r = 0 ∧ nfr S b)) := by
  refine pc_mono (s_free2 hb) (fun r hr => ?_)
  rcases hr with ⟨a, b, c⟩ | ⟨a, b⟩
  · exact Or.inl ⟨a, fun w => w ⟨b, c⟩⟩
  · exact Or.inr ⟨a, b⟩
/-- the whole of it: what a yes says, and what brings one -/
def ALLs (S : MS) (N : Nat) : Prop := (∀ x, x < N → nfr S x → SBkI S x ∧ LHk S S x) ∧ (∀ x : Nat, x < N → gA S 72 x = rf (hJ S) (gA S 72) (gA S 78) (x : Int)) ∧ ∀ x : Nat, x < N → gA S 73 x = rf (hJ S) (gA S 73) (gA S 79) (x : Int)
def HYs (S : MS) (N : Nat) : Prop := (∀ (l b : Nat) (Y : MS), KRd S Y → b < N → nfr S b → gA S 74 b = (l : Int) → DNE Y N l b → SBkI Y b) ∧ (∀ x : Nat, x < N → gA S 72 x = rf (hJ S) (gA S 72) (gA S 78) (x : Int)) ∧ ∀ x : Nat, x < N → gA S 73 x = rf (hJ S) (gA S 73) (gA S 79) (x : Int)
theorem hJ_k {S o : MS} (h : KRd S o) : hJ o = hJ S := by
  unfold hJ
  rw [h.1 74 (by decide) (by decide) (by decide), h.1 75 (by decide) (by decide) (by decide), h.1 77 (by decide) (by decide) (by decide)]
theorem all_20 {S o : MS} {N x : Nat} (k : ∀ j, j ≠ 20 → gA o j = gA S j) (i : ∀ j, gI o j = gI S j) (h : SBkI S x ∧ LHk S S x) : SBkI o x ∧ LHk o o x := by
  unfold SBkI LHk CHK at h ⊢
  rw [k 18 (by decide), k 19 (by decide), k 72 (by decide), k 73 (by decide), k 74 (by decide), k 75 (by decide), k 76 (by decide), k 77 (by decide), i 1420]
  exact h
def PSn (S0 : MS) (N : Nat) (q : Int × MS) : Prop := (q.1 = 0 ∨ q.1 = 1) ∧ KRd S0 q.2 ∧ (q.1 = 1 → ALLs q.2 N) ∧ (HYs S0 N → q.1 = 1)
theorem PSn_0 {S0 X : MS} {N : Nat} (h : KRd S0 X) (n : ¬ HYs S0 N) : PSn S0 N (0, X) := ⟨Or.inl rfl, h, fun w => absurd w (show ¬ ((0 : Int) = 1) by decide), fun w => absurd w n⟩
set_option maxHeartbeats 2000000 in
theorem s_isSound {S0 : MS} {N : Nat} (hR : Rg S0) (hN : N ≤ 48) (h20 : gI S0 1420 = (N : Int)) (hc : ∀ x, x < N → nfr S0 x → (1 ≤ gA S0 75 x ∧ gA S0 75 x ≤ 6) ∧ (0 ≤ gA S0 74 x ∧ gA S0 74 x < 48)) (hz : ∀ p, p < 48 → N ≤ p → gA S0 72 p = 0 ∧ gA S0 73 p = 0) (hb0 : ∀ p, p < N → 0 ≤ gA S0 72 p ∧ 0 ≤ gA S0 73 p) (hr : ∀ v, v < 8 → gA S0 78 v < (N : Int) ∧ gA S0 79 v < (N : Int)) : pc (m_x4_isSound S0) (PSn S0 N) := by
  have ar : ∀ {S : MS}, KRd S0 S → ∀ k, 72 ≤ k → k ≤ 79 → gA S k = gA S0 k := fun K k h1 h2 => K.1 k (by omega) (by omega) (by omega)
  have L2 : ∀ (n l : Nat) (S : MS), l ≤ 48 → Rg S → KRd S0 S → DNE S N l 0 → pc (m_x4_isSound_L2 n (l : Int) S) (PSn S0 N) := by
    refine fr_ind (fun _ _ _ _ _ _ => pc_none) (fun n ih l S hl hRS K D => ?_)
    show pc (m_x4_isSound_b2 (m_x4_isSound_L2 n) (l : Int) S) _
    unfold m_x4_isSound_b2 m_x4_isSound_J95 m_x4_isSound_J96
    refine pc_rg (pc_if (fun c => pc_bn (fun q33 e33 => ?_)) (fun c => ?_))
    · have l48 : l = 48 := by omega
      rw [l48] at D
      have all : ∀ x, x < N → nfr S x → SBkI S x ∧ LHk S S x := fun x hx nf => D x hx nf (Or.inl (by
        have y := (hc x hx ((nfr_k K).1 nf)).2
        rw [ar K 74 (by decide) (by decide)]; omega))
      have HYc : ∀ (c r : Nat), (c = 72 ∨ c = 73) → (r = c + 6) → HY S c r := fun c r h1 h2 => by
        have ec : gA S c = gA S0 c := ar K c (by omega) (by omega)
        have er : gA S r = gA S0 r := ar K r (by omega) (by omega)
        unfold HY
        rw [K.2 1420, h20, ec, er]
        refine ⟨fun p hp q => ?_, fun p hp hcp hlp => ?_, fun v hv => ?_⟩
        · have y := hz p hp (by omega)
          rcases h1 with z | z
          · rw [z]; exact y.1
          · rw [z]; exact y.2
        · have pN : p < N := by
            refine Classical.byContradiction (fun w => ?_)
            have y := hz p hp (by omega)
            rcases h1 with z | z
            · rw [z, y.1] at hcp; omega
            · rw [z, y.2] at hcp; omega
          have nf0 : nfr S0 p := fun w => by
            rcases h1 with z | z
            · rw [z, w.1] at hcp; omega
            · rw [z, w.2] at hcp; omega
          have nf : nfr S p := (nfr_k K).2 nf0
          have cc := (hc p pN nf0).1
          have e75 : gA S 75 = gA S0 75 := ar K 75 (by decide) (by decide)
          refine ⟨by rw [e75]; omega, fun k hk => ?_⟩
          have y := ((all p pN nf).1.2 (by omega) k hk).1.1
          rw [K.2 1420, h20] at y
          exact y
        · have y := hr v hv
          rcases h1 with z | z
          · rw [h2, z]; exact y.1
          · rw [h2, z]; exact y.2
      have hJe := hJ_k K
      obtain ⟨R33, w33⟩ := wp_det (wc_refsAre hRS (HYc 72 78 (Or.inl rfl) rfl)) e33
      rw [K.2 1420, h20, hJe, ar K 72 (by decide) (by decide), ar K 78 (by decide) (by decide)] at w33
      have F33 : F_x4_refsAre S q33.2 := fr_x4_refsAre e33
      have K33 : KRd S0 q33.2 := KRd_tr K ⟨fun k _ _ k3 => F33.2.1 k (by simp; omega), fun i => F33.1 i (by simp)⟩
      refine pc_rg (pc_if (fun c2 => pc_bo (pc_some (PSn_0 K33 (fun w => ?_)))) (fun c2 => pc_bn (fun q38 e38 => ?_)))
      · rcases w33 with ⟨_, x, x1, x2⟩ | ⟨a, _⟩
        · exact x2 (w.2.1 x (by omega))
        · exact absurd (a.symm.trans c2) (by decide)
      have HY33 : HY q33.2 73 79 := by
        have y := HYc 73 79 (Or.inr rfl) rfl
        unfold HY at y ⊢
        rw [F33.2.1 73 (by decide), F33.2.1 74 (by decide), F33.2.1 75 (by decide), F33.2.1 77 (by decide), F33.2.1 79 (by decide), F33.1 1420 (by simp)]
        exact y
      obtain ⟨R38, w38⟩ := wp_det (wc_refsAre_v2 R33 HY33) e38
      rw [K33.2 1420, h20, hJ_k K33, ar K33 73 (by decide) (by decide), ar K33 79 (by decide) (by decide)] at w38
      have F38 : F_x4_refsAre_v2 q33.2 q38.2 := fr_x4_refsAre_v2 e38
      have K38 : KRd S0 q38.2 := KRd_tr K33 ⟨fun k _ _ k3 => F38.2.1 k (by simp; omega), fun i => F38.1 i (by simp)⟩
      refine pc_rg (pc_if (fun c3 => pc_bo (pc_some (PSn_0 K38 (fun w => ?_)))) (fun c3 => pc_bo (pc_some ⟨Or.inr rfl, K38, fun _ => ⟨fun x hx nf => ?_, fun x hx => ?_, fun x hx => ?_⟩, fun _ => rfl⟩)))
      · rcases w38 with ⟨_, x, x1, x2⟩ | ⟨a, _⟩
        · exact x2 (w.2.2 x (by omega))
        · exact absurd (a.symm.trans c3) (by decide)
      · exact all_20 (N := N) (fun j hj => (F38.2.1 j (by simp; omega)).trans (F33.2.1 j (by simp; omega))) (fun j => (F38.1 j (by simp)).trans (F33.1 j (by simp))) (all x hx ((nfr_k K).2 ((nfr_k K38).1 nf)))
      · show gA q38.2 72 x = rf (hJ q38.2) (gA q38.2 72) (gA q38.2 78) (x : Int)
        rw [hJ_k K38, ar K38 72 (by decide) (by decide), ar K38 78 (by decide) (by decide)]
        rcases w33 with ⟨a, _⟩ | ⟨_, a⟩
        · exact absurd a c2
        · exact a x (by omega)
      · show gA q38.2 73 x = rf (hJ q38.2) (gA q38.2 73) (gA q38.2 79) (x : Int)
        rw [hJ_k K38, ar K38 73 (by decide) (by decide), ar K38 79 (by decide) (by decide)]
        rcases w38 with ⟨a, _⟩ | ⟨_, a⟩
        · exact absurd a c3
        · exact a x (by omega)
    · have L10 : ∀ (m b : Nat) (S : MS), b ≤ N → Rg S → KRd S0 S → DNE S N l b → pc (m_x4_isSound_L10 (m_x4_isSound_L2 n) m (l : Int) (b : Int) S) (PSn S0 N) := by
        refine fr_ind (fun _ _ _ _ _ _ => pc_none) (fun m ihm b S hb hRS K D => ?_)
        show pc (m_x4_isSound_b10 (m_x4_isSound_L2 n) (m_x4_isSound_L10 (m_x4_isSound_L2 n) m) (l : Int) (b : Int) S) _
        unfold m_x4_isSound_b10 m_x4_isSound_J47
        rw [K.2 1420, h20]
        refine pc_rg (pc_rg (pc_if (fun d => ?_) (fun d => ?_)))
        · rw [show ((l : Int) + 1) = ((l + 1 : Nat) : Int) by omega]
          exact ih (l + 1) S (by omega) hRS K (fun x hx nf hlv => D x hx nf (by omega))
        have bN : b < N := by omega
        have tb : ((b : Nat) : Int).toNat = b := Int.toNat_natCast _
        have NX : ∀ Y : MS, Rg Y → KRd S0 Y → DNE Y N l (b + 1) → pc (m_x4_isSound_L10 (m_x4_isSound_L2 n) m (l : Int) ((b : Int) + 1) Y) (PSn S0 N) := fun Y y1 y2 y3 => by
          rw [show ((b : Int) + 1) = ((b + 1 : Nat) : Int) by omega]
          exact ihm (b + 1) Y (by omega) y1 y2 y3
        refine pc_bq (s_free3 (by rw [K.2 1420, h20]; omega)) (fun r17 h17 => pc_rg (pc_if (fun c2 => pc_rdI (fun _ => ?_)) (fun c2 => NX S hRS K (fun x hx nf hlv => ?_))))
        rotate_left
        · rcases h17 with ⟨_, a⟩ | ⟨a, _⟩
          · refine D x hx nf ?_
            have : x ≠ b := fun z => a (z ▸ nf)
            omega
          · exact absurd a c2
        have nf : nfr S b := by
          rcases h17 with ⟨a, _⟩ | ⟨_, a⟩
          · exact absurd (a.symm.trans c2) (by decide)
          · exact a
        have nf0 := (nfr_k K).1 nf
        rw [tb]
        refine pc_rg (pc_rg (pc_if (fun c3 => pc_bn (fun q26 e26 => ?_)) (fun c3 => NX S hRS K (fun x hx nf hlv => D x hx nf ?_))))
        rotate_left
        · have : x = b → gA S 74 x ≠ (l : Int) := fun z => by rw [z]; exact c3
          omega
        have e75 : gA S 75 = gA S0 75 := ar K 75 (by decide) (by decide)
        have cc := (hc b bN nf0).1
        have F26 : F_x4_isSoundBlock S q26.2 := fr_x4_isSoundBlock e26
        have K26 : KRd S0 q26.2 := KRd_tr K ⟨fun k k1 k2 _ => F26.2.1 k (by simp; omega), fun i => F26.1 i (by simp)⟩
        have R26 := (wp_det (w_x4_isSoundBlock hRS (p1 := (b : Int)) ⟨by omega, by omega⟩ (by rw [tb, e75]; exact cc)) e26).1
        have Y := s_sblock (b := b) (S := S) (by rw [e75]; exact cc) (fun _ k _ w z => by rw [z] at w; omega) q26 e26
        rcases Y with ⟨y1, y2, y3, y4⟩ | ⟨y1, y2⟩
        · refine pc_rg (pc_if (fun c4 => absurd (y1.symm.trans c4) (by decide)) (fun _ => NX q26.2 R26 K26 (DNE_step (fun x hx nf => ?_) bN nf D c3 y2 y3 y4)))
          rw [e75]
          exact (hc x hx ((nfr_k K).1 nf)).1.1
        · refine pc_rg (pc_if (fun _ => pc_some (PSn_0 K26 (fun w => y2 (w.1 l b S K bN nf0 (by rw [← ar K 74 (by decide) (by decide)]; exact c3) D)))) (fun c4 => absurd y1 c4))
      exact L10 FU 0 S (by omega) hRS K D
  unfold m_x4_isSound
  refine L2 FU 0 S0 (by omega) hR (KRd_rf S0) (fun x hx nf hlv => ?_)
  have y := (hc x hx nf).2.1
  omega
