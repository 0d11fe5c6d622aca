/-! ===== an image's head, as the class reads it ===== -/
def rto (r : Int) : Int := if r = 255 then -2 else if r = 254 then -1 else r
theorem s_rootOf {p : Int} {s : MS} : pc (m_x4_rootOf p s) (fun r => r = rto p) := by
  unfold m_x4_rootOf m_x4_rootOf_J22 rto
  refine pc_rg (pc_if (fun c => pc_some (by rw [if_pos c])) (fun c => pc_rg (pc_if (fun c2 => pc_some ?_) (fun c2 => pc_some ?_))))
  · rw [if_neg c, if_pos c2]
  · rw [if_neg c, if_neg c2]
def HRT (S : MS) (g : Nat → Int) (n : Nat) : Prop := ∀ v, v < n → gA S 78 v = rto (g (3 + 2 * v)) ∧ gA S 79 v = rto (g (4 + 2 * v))
def HLT (g : Nat → Int) (N : Int) (n : Nat) : Prop := ∀ v, v < n → rto (g (3 + 2 * v)) < N ∧ rto (g (4 + 2 * v)) < N
def PHd (g : Nat → Int) (e : Nat) (N : Int) (C : Prop) (S : MS) (q : Int × MS) : Prop := (q.1 = 0 ∨ q.1 = 1) ∧ TPc q.2 g e ∧ gI q.2 322 = 19 ∧ (q.1 = 1 ↔ (C ∧ HLT g N 8)) ∧ HRT q.2 g 8 ∧ (∀ k, k ≠ 78 → k ≠ 79 → gA q.2 k = gA S k) ∧ ∀ i, i ≠ 322 → gI q.2 i = gI S i
set_option maxHeartbeats 1000000 in
theorem s_roots {g : Nat → Int} {e : Nat} {N : Int} {C : Prop} (he : 19 ≤ e) : ∀ (n : Nat) (ok : Int) (v : Nat) (S : MS), v ≤ 8 → gI S 1420 = N → TPc S g e → gI S 322 = ((3 + 2 * v : Nat) : Int) → (ok = 0 ∨ ok = 1) → (ok = 1 ↔ (C ∧ HLT g N v)) → HRT S g v → pc (m_x4_loadHead_L39 n ok (v : Int) S) (PHd g e N C S) := by
  refine fr_ind (fun _ _ _ _ _ _ _ _ _ _ => pc_none) (fun n ih ok v S hv hN hT hp ho h1 h2 => ?_)
  have tv : ((v : Nat) : Int).toNat = v := Int.toNat_natCast _
  show pc (m_x4_loadHead_b39 (m_x4_loadHead_L39 n) ok (v : Int) S) _
  unfold m_x4_loadHead_b39 m_x4_loadHead_J113 m_x4_loadHead_J114
  refine pc_rg (pc_if (fun c => pc_bo (pc_some ?_)) (fun c => ?_))
  · have v8 : v = 8 := by omega
    rw [v8] at h1 h2 hp
    exact ⟨ho, hT, hp, h1, h2, fun _ _ _ => rfl, fun _ _ => rfl⟩
  refine pc_bq (s_next hT hp) (fun q14 h14 => ?_)
  obtain ⟨a1, a2, a3, a4, a5⟩ := h14
  refine pc_bq s_rootOf (fun r16 h16 => pc_inb (pc_stn (fun s18 e18 => ?_)))
  rw [tv] at e18
  have T18 : TPc s18 g e := TPc_k a3 (q_Aa e18 (by decide)) (q_Ai e18)
  refine pc_bq (s_next T18 (p := 4 + 2 * v) (by rw [(q_Ai e18 : gI s18 322 = _), a2]; omega)) (fun q21 h21 => ?_)
  obtain ⟨b1, b2, b3, b4, b5⟩ := h21
  refine pc_bq s_rootOf (fun r23 h23 => pc_inb (pc_stn (fun s25 e25 => ?_)))
  rw [tv] at e25
  have T25 : TPc s25 g e := TPc_k b3 (q_Aa e25 (by decide)) (q_Ai e25)
  rw [bt_in (by omega)] at a1
  rw [bt_in (by omega)] at b1
  rw [a1] at h16
  rw [b1] at h23
  have k78 : gA s25 78 = upZ (gA S 78) v r16 := by
    rw [(q_Aa e25 (by decide) : gA s25 78 = _), b4, (q_AA e18 : gA s18 78 = _), a4]
  have k79 : gA s25 79 = upZ (gA S 79) v r23 := by
    rw [(q_AA e25 : gA s25 79 = _), b4, (q_Aa e18 (by decide) : gA s18 79 = _), a4]
  have kk : ∀ k, k ≠ 78 → k ≠ 79 → gA s25 k = gA S k := fun k k1 k2 => by
    rw [(q_Aa e25 k2 : gA s25 k = _), b4, (q_Aa e18 k1 : gA s18 k = _), a4]
  have kI : ∀ i, i ≠ 322 → gI s25 i = gI S i := fun i hi => by
    rw [(q_Ai e25 : gI s25 i = _), b5 i hi, (q_Ai e18 : gI s18 i = _), a5 i hi]
  have w78 : gA s25 78 v = rto (g (3 + 2 * v)) := by rw [k78, upZ_s]; exact h16
  have w79 : gA s25 79 v = rto (g (4 + 2 * v)) := by rw [k79, upZ_s]; exact h23
  have HR : HRT s25 g (v + 1) := fun u hu => by
    by_cases z : u = v
    · rw [z]; exact ⟨w78, w79⟩
    · rw [k78, k79, upZ_n z, upZ_n z]; exact h2 u (by omega)
  have N25 : gI s25 1420 = N := by rw [kI 1420 (by decide)]; exact hN
  have GO : ∀ ok' : Int, (ok' = 0 ∨ ok' = 1) → (ok' = 1 ↔ (ok = 1 ∧ rto (g (3 + 2 * v)) < N ∧ rto (g (4 + 2 * v)) < N)) → pc (m_x4_loadHead_L39 n ok' ((v : Int) + 1) s25) (PHd g e N C S) := fun ok' o1 o2 => by
    rw [show ((v : Int) + 1) = ((v + 1 : Nat) : Int) by omega]
    refine pc_mono (ih ok' (v + 1) s25 (by omega) N25 T25 (by rw [(q_Ai e25 : gI s25 322 = _), b2]; omega) o1 ?_ HR) (fun q hq => ?_)
    · rw [o2, h1]
      constructor
      · rintro ⟨⟨x1, x2⟩, x3, x4⟩
        refine ⟨x1, fun u hu => ?_⟩
        by_cases z : u = v
        · rw [z]; exact ⟨x3, x4⟩
        · exact x2 u (by omega)
      · rintro ⟨x1, x2⟩
        exact ⟨⟨x1, fun u hu => x2 u (by omega)⟩, (x2 v (by omega)).1, (x2 v (by omega)).2⟩
    · obtain ⟨c1, c2, c3, c4, c5, c6, c7⟩ := hq
      exact ⟨c1, c2, c3, c4, c5, fun k k1 k2 => (c6 k k1 k2).trans (kk k k1 k2), fun i hi => (c7 i hi).trans (kI i hi)⟩
  refine pc_rg (pc_if (fun c2 => GO 0 (Or.inl rfl) ⟨fun w => absurd w (by decide), fun w => by omega⟩) (fun c2 => pc_rdI (fun _ => ?_)))
  rw [tv, w78, N25]
  have ok1 : ok = 1 := ho.resolve_left c2
  refine pc_rg (pc_rg (pc_if (fun c3 => GO 0 (Or.inl rfl) ⟨fun w => absurd w (by decide), fun w => by omega⟩) (fun c3 => pc_rdI (fun _ => ?_))))
  rw [tv, w79, N25]
  exact pc_rg (pc_rg (pc_if (fun c4 => GO 0 (Or.inl rfl) ⟨fun w => absurd w (by decide), fun w => by omega⟩) (fun c4 => GO 1 (Or.inr rfl) ⟨fun _ => ⟨ok1, by omega, by omega⟩, fun _ => rfl⟩)))
def cst (g : Nat → Int) : Int := 65536 * g 0 + (256 * g 1 + g 2)
set_option maxHeartbeats 1000000 in
theorem s_head {g : Nat → Int} {e : Nat} {N : Int} {S : MS} (he : 19 ≤ e) (hN : gI S 1420 = N) (hT : TPc S g e) (hp : gI S 322 = 0) : pc (m_x4_loadHead S) (fun q => (q.1 = 0 ∨ q.1 = 1) ∧ TPc q.2 g e ∧ gI q.2 322 = 19 ∧ (q.1 = 1 ↔ (cst g ≤ 999999 ∧ HLT g N 8)) ∧ HRT q.2 g 8 ∧ gI q.2 1421 = cst g ∧ (∀ k, k ≠ 78 → k ≠ 79 → gA q.2 k = gA S k) ∧ ∀ i, i ≠ 322 → i ≠ 1421 → gI q.2 i = gI S i) := by
  unfold m_x4_loadHead m_x4_loadHead_J34
  refine pc_bq (s_next hT (p := 0) hp) (fun q40 h40 => ?_)
  obtain ⟨a1, a2, a3, a4, a5⟩ := h40
  refine pc_bq (s_pair a3 (p := 1) (by rw [a2]; rfl)) (fun q43 h43 => pc_stn (fun s44 e44 => ?_))
  obtain ⟨b1, b2, b3, b4, b5⟩ := h43
  rw [bt_in (by omega)] at a1
  rw [bt_in (p := 1) (by omega), bt_in (p := 1 + 1) (by omega)] at b1
  have i21 : gI s44 1421 = cst g := by
    rw [(q_II e44 : gI s44 1421 = _), a1, b1]
    unfold cst
    show g 0 * 65536 + (256 * g 1 + g 2) = 65536 * g 0 + (256 * g 1 + g 2)
    omega
  have T44 : TPc s44 g e := TPc_k b3 (q_Ia e44) (q_Ii e44 (by decide))
  have i22 : gI s44 322 = ((3 + 2 * 0 : Nat) : Int) := by rw [(q_Ii e44 (by decide) : gI s44 322 = _), b2]; rfl
  have N44 : gI s44 1420 = N := by rw [(q_Ii e44 (by decide) : gI s44 1420 = _), b5 1420 (by decide), a5 1420 (by decide)]; exact hN
  have kA : ∀ k, gA s44 k = gA S k := fun k => by rw [(q_Ia e44 : gA s44 k = _), b4, a4]
  have kI : ∀ i, i ≠ 322 → i ≠ 1421 → gI s44 i = gI S i := fun i h1 h2 => by rw [(q_Ii e44 h2 : gI s44 i = _), b5 i h1, a5 i h1]
  rw [i21]
  have GO : ∀ ok : Int, (ok = 0 ∨ ok = 1) → (ok = 1 ↔ cst g ≤ 999999) → pc (m_x4_loadHead_L39 FU ok 0 s44) (fun q => (q.1 = 0 ∨ q.1 = 1) ∧ TPc q.2 g e ∧ gI q.2 322 = 19 ∧ (q.1 = 1 ↔ (cst g ≤ 999999 ∧ HLT g N 8)) ∧ HRT q.2 g 8 ∧ gI q.2 1421 = cst g ∧ (∀ k, k ≠ 78 → k ≠ 79 → gA q.2 k = gA S k) ∧ ∀ i, i ≠ 322 → i ≠ 1421 → gI q.2 i = gI S i) := fun ok o1 o2 => by
    refine pc_mono (s_roots (C := cst g ≤ 999999) (N := N) he FU ok 0 s44 (by omega) N44 T44 i22 o1 ⟨fun w => ⟨o2.1 w, fun u hu => absurd hu (by omega)⟩, fun w => o2.2 w.1⟩ (fun u hu => absurd hu (by omega))) (fun q hq => ?_)
    obtain ⟨c1, c2, c3, c4, c5, c6, c7⟩ := hq
    exact ⟨c1, c2, c3, c4, c5, (c7 1421 (by decide)).trans i21, fun k k1 k2 => (c6 k k1 k2).trans (kA k), fun i h1 h2 => (c7 i h1).trans (kI i h1 h2)⟩
  exact pc_rg (pc_if (fun c => GO 0 (Or.inl rfl) ⟨fun w => absurd w (by decide), fun w => by omega⟩) (fun c => GO 1 (Or.inr rfl) ⟨fun _ => by omega, fun _ => rfl⟩))
