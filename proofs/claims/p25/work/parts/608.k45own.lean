/-! ===== a block is OWNED on both sides ===== -/
theorem s_fresh {p : Int} {s : MS} : pc (m_x8_isFresh p s) (fun r => (r = 1 ∧ (0 ≤ p ∧ p < gI s 1060) ∧ 0 < gA s 54 p.toNat ∧ gA s 55 p.toNat = 0) ∨ (r = 0 ∧ ¬ ((0 ≤ p ∧ p < gI s 1060) ∧ 0 < gA s 54 p.toNat ∧ gA s 55 p.toNat = 0))) := by
  unfold m_x8_isFresh m_x8_isFresh_J30 m_x8_isFresh_J31
  refine pc_bq s_isBk (fun r4 h4 => pc_rg (pc_if (fun c => pc_bo (pc_some (Or.inr ⟨rfl, fun q => ?_⟩))) (fun c => pc_rdI (fun _ => pc_rg (pc_if (fun c2 => pc_bo (pc_some (Or.inr ⟨rfl, fun q => ?_⟩))) (fun c2 => pc_rdI (fun _ => pc_rg (pc_if (fun c3 => pc_bo (pc_some (Or.inl ⟨rfl, ?_, by omega, c3⟩))) (fun c3 => pc_bo (pc_some (Or.inr ⟨rfl, fun q => c3 q.2.2⟩)))))))))))
  · rcases h4 with ⟨a, _⟩ | ⟨_, b⟩
    · omega
    · exact b q.1
  · have := q.2.1; omega
  · rcases h4 with ⟨_, b⟩ | ⟨a, _⟩
    · exact b
    · omega
theorem m_fresh {p : Int} {t : MS} (hp : 0 ≤ p) : pc (m_x12_isFresh p t) (fun r => (r = 1 ∧ 0 < cM t p.toNat ∧ vM t p.toNat = 0) ∨ (r = 0 ∧ ¬ (0 < cM t p.toNat ∧ vM t p.toNat = 0))) := by
  unfold m_x12_isFresh m_x12_isFresh_J20 m_x12_isFresh_J21
  refine pc_bq (m_used hp) (fun r4 h4 => pc_rg (pc_if (fun c => pc_bo (pc_some (Or.inr ⟨rfl, ?_⟩))) (fun c => pc_bq (m_sav hp) (fun r8 h8 => pc_rg (pc_if (fun c2 => pc_bo (pc_some (Or.inl ⟨rfl, ?_, ?_⟩))) (fun c2 => pc_bo (pc_some (Or.inr ⟨rfl, ?_⟩))))))))
  all_goals omega
/-- counts that change are some that refer or one that falls -/
def DCs (s o : MS) : Prop := (∀ b, gA o 54 b ≤ gA s 54 b) ∧ (∀ k, k ≠ 54 → k ≠ 50 → gA o k = gA s k) ∧ (∀ k, gI o k = gI s k) ∧ ∀ k, gL o k = gL s k
theorem s_rel {p : Int} {s : MS} : pc (m_x1_release_v2 p s) (fun q => DCs s q.2) := by
  have up : ∀ (f : Nat → Int) (i : Nat) (b : Nat), upZ f i (f i - 1) b ≤ f b := fun f i b => by
    unfold upZ
    split
    · rename_i e; rw [e]; omega
    · omega
  have st1 : ∀ {S S' : MS} {i : Nat}, DCs s S → sA S 54 (upZ (gA S 54) i (gA S 54 i - 1)) = S' → DCs s S' := fun {S S' i} H e => ⟨fun b => by rw [(q_AA e : gA S' 54 = _)]; exact Int.le_trans (up _ _ _) (H.1 b), fun k h1 h2 => (q_Aa e h1).trans (H.2.1 k h1 h2), fun k => (q_Ai e).trans (H.2.2.1 k), fun k => (q_Al e).trans (H.2.2.2 k)⟩
  have st2 : ∀ {S S' : MS} {f : Nat → Int}, DCs s S → sA S 50 f = S' → DCs s S' := fun {S S' f} H e => ⟨fun b => by rw [(q_Aa e (by decide) : gA S' 54 = gA S 54)]; exact H.1 b, fun k h1 h2 => (q_Aa e h2).trans (H.2.1 k h1 h2), fun k => (q_Ai e).trans (H.2.2.1 k), fun k => (q_Al e).trans (H.2.2.2 k)⟩
  have L28 : ∀ (n : Nat) (x3 x4 : Int) (S : MS), DCs s S → pc (m_x1_release_v2_L28 n x3 x4 S) (fun q => DCs s q.2) := by
    refine fr_ind (fun _ _ _ _ => pc_none) (fun n ih x3 x4 S H => ?_)
    show pc (m_x1_release_v2_b28 (m_x1_release_v2_L28 n) x3 x4 S) _
    have L83 : ∀ (m : Nat) (x6 x7 x8 x9 : Int) (S' : MS), DCs s S' → pc (m_x1_release_v2_L83 (m_x1_release_v2_L28 n) m x6 x7 x8 x9 S') (fun q => DCs s q.2) := by
      refine fr_ind (fun _ _ _ _ _ _ => pc_none) (fun m ih2 x6 x7 x8 x9 S' H' => ?_)
      show pc (m_x1_release_v2_b83 (m_x1_release_v2_L28 n) (m_x1_release_v2_L83 (m_x1_release_v2_L28 n) m) x6 x7 x8 x9 S') _
      unfold m_x1_release_v2_b83 m_x1_release_v2_J148
      refine pc_rg (pc_rg (pc_if (fun _ => ih _ _ S' H') (fun _ => pc_rdI (fun _ => pc_bn (fun r21 _ => pc_rdI (fun _ => pc_rdI (fun _ => pc_inb (pc_stn (fun s25 e25 => pc_rdI (fun _ => pc_rg (pc_if (fun _ => pc_rg (pc_if (fun _ => ih2 _ _ _ _ s25 (st1 H' e25)) (fun _ => pc_inb (pc_stn (fun s32 e32 => ih2 _ _ _ _ s32 (st2 (st1 H' e25) e32)))))) (fun _ => ih2 _ _ _ _ s25 (st1 H' e25)))))))))))))
    unfold m_x1_release_v2_b28 m_x1_release_v2_J78 m_x1_release_v2_J160
    exact pc_rg (pc_rg (pc_if (fun _ => pc_some H) (fun _ => pc_rg (pc_if (fun _ => pc_some H) (fun _ => pc_rdI (fun _ => pc_rdI (fun _ => pc_rg (pc_if (fun _ => L83 FU _ _ _ _ S H) (fun _ => pc_rdI (fun _ => pc_rdI (fun _ => L83 FU _ _ _ _ S H)))))))))))
  have H0 : DCs s s := ⟨fun _ => Int.le_refl _, fun _ _ _ => rfl, fun _ => rfl, fun _ => rfl⟩
  unfold m_x1_release_v2 m_x1_release_v2_J25
  exact pc_rdI (fun _ => pc_inb (pc_stn (fun s52 e52 => pc_rdI (fun _ => pc_rg (pc_if (fun _ => pc_inb (pc_stn (fun s57 e57 => L28 FU _ _ s57 (st2 (st1 H0 e52) e57)))) (fun _ => L28 FU _ _ s52 (st1 H0 e52)))))))
/-- what the class does where it copies -/
def OWc (p : Int) (s : MS) (q1 q : Int × MS) : Prop := q.1 = q1.1 ∧ ∃ s2, m_x1_layEntries p 0 q1.1 q1.2 = some s2 ∧ (∀ k, k ≠ 54 → k ≠ 50 → gA q.2 k = gA s2 k) ∧ (∀ k, gI q.2 k = gI s2 k) ∧ (∀ k, gL q.2 k = gL s2 k) ∧ ∀ b : Nat, (∀ k : Nat, 0 < gA s2 56 q1.1.toNat → (k : Int) < gA s2 57 q1.1.toNat → gA s2 59 (6 * q1.1.toNat + k) ≠ (b : Int)) → gA q.2 54 b ≤ gA s2 54 b
theorem s_own {p : Int} {s : MS} (hp : 0 ≤ p) : pc (m_x1_owned p s) (fun q => ((((0 ≤ p ∧ p < gI s 1060) ∧ 0 < gA s 54 p.toNat ∧ gA s 55 p.toNat = 0) ∧ gA s 54 p.toNat = 1) ∧ q = (p, s)) ∨ (¬ (((0 ≤ p ∧ p < gI s 1060) ∧ 0 < gA s 54 p.toNat ∧ gA s 55 p.toNat = 0) ∧ gA s 54 p.toNat = 1) ∧ ∃ q1, m_x1_take (gA s 56 p.toNat) p s = some q1 ∧ ((q1.1 = -1 ∧ q.1 = -1) ∨ (q1.1 ≠ -1 ∧ OWc p s q1 q)))) := by
  have J26 : pc (m_x1_owned_J26 p s) (fun q => ∃ q1, m_x1_take (gA s 56 p.toNat) p s = some q1 ∧ ((q1.1 = -1 ∧ q.1 = -1) ∨ (q1.1 ≠ -1 ∧ OWc p s q1 q))) := by
    unfold m_x1_owned_J26
    refine pc_rdI (fun _ => pc_bn (fun q1 eq1 => pc_rg (pc_if (fun c => pc_some ⟨q1, eq1, Or.inl ⟨c, rfl⟩⟩) (fun c => pc_bn (fun s2 es2 => ?_)))))
    have J117 : ∀ S : MS, (∀ k, k ≠ 54 → k ≠ 50 → gA S k = gA s2 k) → (∀ k, gI S k = gI s2 k) → (∀ k, gL S k = gL s2 k) → (∀ b : Nat, (∀ k : Nat, 0 < gA s2 56 q1.1.toNat → (k : Int) < gA s2 57 q1.1.toNat → gA s2 59 (6 * q1.1.toNat + k) ≠ (b : Int)) → gA S 54 b = gA s2 54 b) → pc (m_x1_owned_J117 p q1.1 S) (fun q => ∃ q1, m_x1_take (gA s 56 p.toNat) p s = some q1 ∧ ((q1.1 = -1 ∧ q.1 = -1) ∨ (q1.1 ≠ -1 ∧ OWc p s q1 q))) := fun S hA hI hL hc => by
      unfold m_x1_owned_J117
      refine pc_bq s_rel (fun q6 h6 => pc_some ⟨q1, eq1, Or.inr ⟨c, rfl, s2, es2, fun k a b => (h6.2.1 k a b).trans (hA k a b), fun k => (h6.2.2.1 k).trans (hI k), fun k => (h6.2.2.2 k).trans (hL k), fun b hb => ?_⟩⟩)
      rw [← hc b hb]; exact h6.1 b
    refine pc_rdI (fun g1 => pc_rg (pc_if (fun c3 => J117 s2 (fun _ _ _ => rfl) (fun _ => rfl) (fun _ => rfl) (fun _ _ => rfl)) (fun c3 => ?_)))
    have L69 : ∀ (n : Nat) (x9 : Int) (S : MS), 0 ≤ x9 → (∀ k, k ≠ 54 → k ≠ 50 → gA S k = gA s2 k) → (∀ k, gI S k = gI s2 k) → (∀ k, gL S k = gL s2 k) → (∀ b : Nat, (∀ k : Nat, 0 < gA s2 56 q1.1.toNat → (k : Int) < gA s2 57 q1.1.toNat → gA s2 59 (6 * q1.1.toNat + k) ≠ (b : Int)) → gA S 54 b = gA s2 54 b) → pc (m_x1_owned_L69 n p q1.1 x9 S) (fun q => ∃ q1, m_x1_take (gA s 56 p.toNat) p s = some q1 ∧ ((q1.1 = -1 ∧ q.1 = -1) ∨ (q1.1 ≠ -1 ∧ OWc p s q1 q))) := by
      refine fr_ind (fun _ _ _ _ _ _ _ => pc_none) (fun n ih x9 S h9 hA hI hL hc => ?_)
      show pc (m_x1_owned_b69 (m_x1_owned_L69 n) p q1.1 x9 S) _
      unfold m_x1_owned_b69 m_x8_slot
      refine pc_rdI (fun _ => pc_rg (pc_rg (pc_if (fun _ => J117 S hA hI hL hc) (fun c4 => pc_bn (fun r16 e16 => pc_rdI (fun g17 => pc_rdI (fun g18 => pc_inb2 (fun g => pc_stn (fun s20 e20 => ih (x9 + 1) s20 (by omega) (fun k a b => (q_Aa e20 a).trans (hA k a b)) (fun k => (q_Ai e20).trans (hI k)) (fun k => (q_Al e20).trans (hL k)) (fun b hb => ?_))))))))))
      cases e16
      rw [(q_AA e20 : gA s20 54 = _)]
      have k59 : gA S 59 = gA s2 59 := hA 59 (by decide) (by decide)
      have k57 : gA S 57 = gA s2 57 := hA 57 (by decide) (by decide)
      rw [k57] at c4
      have ne := hb x9.toNat (by omega) (by omega)
      rw [show 6 * q1.1.toNat + x9.toNat = (q1.1 * 6 + x9).toNat by omega, ← k59] at ne
      rw [upZ_n (by omega)]
      exact hc b hb
    exact L69 FU 0 s2 (by omega) (fun _ _ _ => rfl) (fun _ => rfl) (fun _ => rfl) (fun _ _ => rfl)
  unfold m_x1_owned
  refine pc_bq s_fresh (fun r35 h35 => pc_rg (pc_if (fun c => pc_mono J26 (fun q hq => Or.inr ⟨fun z => ?_, hq⟩)) (fun c => pc_rdI (fun _ => pc_rg (pc_if (fun c2 => pc_some (Or.inl ⟨⟨?_, c2⟩, rfl⟩)) (fun c2 => pc_mono J26 (fun q hq => Or.inr ⟨fun z => c2 z.2, hq⟩)))))))
  · rcases h35 with ⟨a, _⟩ | ⟨_, b⟩
    · omega
    · exact b z.1
  · rcases h35 with ⟨_, b⟩ | ⟨a, _⟩
    · exact b
    · omega
/-! the reference -/
theorem m_cntT {p v : Int} {t : MS} : pc (m_x12_counts p v t) (fun o => (0 ≤ 17 + 16 * p) ∧ gA o 49 = upZ (gA t 49) (17 + 16 * p).toNat (gA t 49 (17 + 16 * p).toNat + v) ∧ (∀ k, k ≠ 49 → gA o k = gA t k) ∧ ∀ k, gI o k = gI t k) := by
  unfold m_x12_counts
  exact pc_rdI (fun g => pc_inb (pc_stn (fun s3 e3 => pc_some ⟨g.1, q_AA e3, fun k hk => q_Aa e3 hk, fun k => q_Ai e3⟩)))
/-- only counts are another, and none is greater -/
def DCm (t o : MS) : Prop := (∀ i, gA o 49 i ≤ gA t 49 i) ∧ (∀ i, i % 16 ≠ 1 → gA o 49 i = gA t 49 i) ∧ (∀ k, k ≠ 49 → k ≠ 56 → gA o k = gA t k) ∧ ∀ k, gI o k = gI t k
theorem m_falls {p : Int} {t : MS} : pc (m_x12_falls p t) (fun o => DCm t o) := by
  have st1 : ∀ {y : Int} {S S' : MS}, DCm t S → m_x12_counts y (-1) S = some S' → DCm t S' := fun {y S S'} H e => by
    obtain ⟨h0, h1, h2, h3⟩ := m_cntT S' e
    refine ⟨fun i => ?_, fun i hi => ?_, fun k a b => (h2 k a).trans (H.2.2.1 k a b), fun k => (h3 k).trans (H.2.2.2 k)⟩
    · rw [h1]
      by_cases z : i = (17 + 16 * y).toNat
      · rw [z, upZ_s]; have := H.1 (17 + 16 * y).toNat; omega
      · rw [upZ_n z]; exact H.1 i
    · rw [h1, upZ_n (by omega)]; exact H.2.1 i hi
  have st2 : ∀ {S S' : MS} {f : Nat → Int}, DCm t S → sA S 56 f = S' → DCm t S' := fun {S S' f} H e => ⟨fun b => by rw [(q_Aa e (by decide) : gA S' 49 = gA S 49)]; exact H.1 b, fun i hi => by rw [(q_Aa e (by decide) : gA S' 49 = gA S 49)]; exact H.2.1 i hi, fun k h1 h2 => (q_Aa e h2).trans (H.2.2.1 k h1 h2), fun k => (q_Ai e).trans (H.2.2.2 k)⟩
  have L9 : ∀ (n : Nat) (x1 : Int) (S : MS), DCm t S → pc (m_x12_falls_L9 n x1 S) (fun o => DCm t o) := by
    refine fr_ind (fun _ _ _ => pc_none) (fun n ih x1 S H => ?_)
    show pc (m_x12_falls_b9 (m_x12_falls_L9 n) x1 S) _
    have L51 : ∀ (m : Nat) (x3 x4 x5 : Int) (S' : MS), DCm t S' → pc (m_x12_falls_L51 (m_x12_falls_L9 n) m x3 x4 x5 S') (fun o => DCm t o) := by
      refine fr_ind (fun _ _ _ _ _ => pc_none) (fun m ih2 x3 x4 x5 S' H' => ?_)
      show pc (m_x12_falls_b51 (m_x12_falls_L9 n) (m_x12_falls_L51 (m_x12_falls_L9 n) m) x3 x4 x5 S') _
      unfold m_x12_falls_b51
      exact pc_bn (fun r8 _ => pc_rg (pc_rg (pc_if (fun _ => ih _ S' H') (fun _ => pc_bn (fun r13 _ => pc_inb (pc_stn (fun s15 e15 => ih2 _ _ _ s15 (st2 H' e15))))))))
    unfold m_x12_falls_b9
    exact pc_rg (pc_if (fun _ => pc_some H) (fun _ => pc_rdI (fun _ => pc_bn (fun s20 e20 => pc_bn (fun r22 _ => pc_rg (pc_if (fun _ => pc_bn (fun r26 _ => pc_rg (pc_if (fun _ => ih _ s20 (st1 H e20)) (fun _ => L51 FU _ _ _ s20 (st1 H e20))))) (fun _ => ih _ s20 (st1 H e20))))))))
  have H0 : DCm t t := ⟨fun _ => Int.le_refl _, fun _ _ => rfl, fun _ _ _ => rfl, fun _ => rfl⟩
  unfold m_x12_falls
  exact pc_inb (pc_stn (fun s30 e30 => L9 FU _ s30 (st2 H0 e30)))
theorem m_ents {p : Int} {t : MS} (hp : 0 ≤ p) : pc (m_x12_entriesOf p t) (fun r => r = (hM t).2.1 p.toNat) := by
  unfold m_x12_entriesOf
  exact pc_rdI (fun _ => pc_some (by show gA t 49 (17 + 16 * p + 3).toNat = gA t 49 (20 + 16 * p.toNat); rw [show (17 + 16 * p + 3).toNat = 20 + 16 * p.toNat by omega]))
theorem m_lev {p : Int} {t : MS} (hp : 0 ≤ p) : pc (m_x12_levelOf p t) (fun r => r = (hM t).1 p.toNat) := by
  unfold m_x12_levelOf
  exact pc_rdI (fun _ => pc_some (by show gA t 49 (17 + 16 * p + 2).toNat = gA t 49 (19 + 16 * p.toNat); rw [show (17 + 16 * p + 2).toNat = 19 + 16 * p.toNat by omega]))
theorem m_val {p k : Int} {t : MS} (hp : 0 ≤ p) (hk : 0 ≤ k ∧ k < 6) : pc (m_x12_valueAt p k t) (fun r => r = (hM t).2.2 p.toNat k.toNat) := by
  unfold m_x12_valueAt
  exact pc_rdI (fun _ => pc_some (by show gA t 49 (17 + 16 * p + 10 + k).toNat = if k.toNat < 6 then gA t 49 (27 + 16 * p.toNat + k.toNat) else 0; rw [if_pos (by omega), show (17 + 16 * p + 10 + k).toNat = 27 + 16 * p.toNat + k.toNat by omega]))
theorem m_key {p k : Int} {t : MS} (hp : 0 ≤ p) (hk : 0 ≤ k ∧ k < 6) : pc (m_x12_keyAt p k t) (fun r => r = kM t p.toNat k.toNat) := by
  unfold m_x12_keyAt
  exact pc_rdI (fun _ => pc_some (by show gA t 49 (17 + 16 * p + 4 + k).toNat = if k.toNat < 6 then gA t 49 (21 + 16 * p.toNat + k.toNat) else 0; rw [if_pos (by omega), show (17 + 16 * p + 4 + k).toNat = 21 + 16 * p.toNat + k.toNat by omega]))
/-- what the reference does where it copies: b to c -/
def OWm (b c : Nat) (t o : MS) : Prop := (∀ j : Nat, 3 ≤ j → j < 16 → gA o 49 (17 + 16 * c + j) = gA t 49 (17 + 16 * b + j)) ∧ (∀ i, i % 16 ≠ 1 → ¬ (20 + 16 * c ≤ i ∧ i < 33 + 16 * c) → gA o 49 i = gA t 49 i) ∧ (∀ k, k ≠ 49 → k ≠ 56 → gA o k = gA t k) ∧ (∀ k, gI o k = gI t k) ∧ ∀ x : Nat, (∀ k : Nat, 0 < (hM t).1 b → (k : Int) < (hM t).2.1 b → (hM t).2.2 b k ≠ (x : Int)) → cM o x ≤ cM t x
theorem m_copy {p : Int} {c : Nat} {t : MS} (hp : 0 ≤ p) (hne : c ≠ p.toNat) (h6 : (hM t).2.1 p.toNat ≤ 6) : pc (m_x12_owned_L41 FU p (c : Int) 3 t) (fun o => o.1 = (c : Int) ∧ OWm p.toNat c t o.2) := by
  have L41 : ∀ (n : Nat) (x : Int) (S : MS), (3 ≤ x ∧ x ≤ 16) → (∀ j : Nat, 3 ≤ j → (j : Int) < x → gA S 49 (17 + 16 * c + j) = gA t 49 (17 + 16 * p.toNat + j)) → (∀ i, ¬ (20 + 16 * c ≤ i ∧ i < 33 + 16 * c) → gA S 49 i = gA t 49 i) → (∀ k, k ≠ 49 → gA S k = gA t k) → (∀ k, gI S k = gI t k) → pc (m_x12_owned_L41 n p (c : Int) x S) (fun o => o.1 = (c : Int) ∧ OWm p.toNat c t o.2) := by
    refine fr_ind (fun _ _ _ _ _ _ _ => pc_none) (fun n ih x S hx h1 h2 hA hI => ?_)
    show pc (m_x12_owned_b41 (m_x12_owned_L41 n) p (c : Int) x S) _
    unfold m_x12_owned_b41
    have pS : ∀ j : Nat, j < 16 → gA S 49 (17 + 16 * p.toNat + j) = gA t 49 (17 + 16 * p.toNat + j) := fun j hj => h2 _ (by omega)
    refine pc_rg (pc_if (fun cx => pc_bq (m_lev hp) (fun r26 h26 => ?_)) (fun cx => pc_rdI (fun _ => pc_inb (pc_stn (fun s31 e31 => ih (x + 1) s31 (by omega) ?_ ?_ (fun k hk => (q_Aa e31 hk).trans (hA k hk)) (fun k => (q_Ai e31).trans (hI k)))))))
    · have J117 : ∀ X : MS, (∀ i, i % 16 ≠ 1 → gA X 49 i = gA S 49 i) → (∀ k, k ≠ 49 → gA X k = gA S k) → (∀ k, gI X k = gI S k) → (∀ x : Nat, (∀ k : Nat, 0 < (hM t).1 p.toNat → (k : Int) < (hM t).2.1 p.toNat → (hM t).2.2 p.toNat k ≠ (x : Int)) → gA X 49 (17 + 16 * x) = gA S 49 (17 + 16 * x)) → pc (m_x12_owned_J117 p (c : Int) X) (fun o => o.1 = (c : Int) ∧ OWm p.toNat c t o.2) := fun X xi xA xI xc => by
        unfold m_x12_owned_J117
        refine pc_bq m_falls (fun s5 h5 => pc_some ⟨rfl, fun j h3 hj => ?_, fun i hi hn => ?_, fun k a b => ?_, fun k => ?_, fun y hy => ?_⟩)
        · rw [h5.2.1 _ (by omega), xi _ (by omega)]; exact h1 j h3 (by omega)
        · rw [h5.2.1 _ hi, xi _ hi]; exact h2 i hn
        · rw [h5.2.2.1 k a b, xA k a]; exact hA k a
        · rw [h5.2.2.2 k, xI k]; exact hI k
        · show gA s5 49 (17 + 16 * y) ≤ gA t 49 (17 + 16 * y)
          have a := h5.1 (17 + 16 * y)
          rw [xc y hy, h2 _ (by omega)] at a
          exact a
      have hSl : (hM S).1 p.toNat = (hM t).1 p.toNat := by
        show gA S 49 (19 + 16 * p.toNat) = gA t 49 (19 + 16 * p.toNat)
        exact h2 _ (by omega)
      refine pc_rg (pc_if (fun _ => J117 S (fun _ _ => rfl) (fun _ _ => rfl) (fun _ => rfl) (fun _ _ => rfl)) (fun cl => ?_))
      have L91 : ∀ (m : Nat) (x8 : Int) (X : MS), 0 ≤ x8 → (∀ i, i % 16 ≠ 1 → gA X 49 i = gA S 49 i) → (∀ k, k ≠ 49 → gA X k = gA S k) → (∀ k, gI X k = gI S k) → (∀ x : Nat, (∀ k : Nat, 0 < (hM t).1 p.toNat → (k : Int) < (hM t).2.1 p.toNat → (hM t).2.2 p.toNat k ≠ (x : Int)) → gA X 49 (17 + 16 * x) = gA S 49 (17 + 16 * x)) → pc (m_x12_owned_L91 m p (c : Int) x8 X) (fun o => o.1 = (c : Int) ∧ OWm p.toNat c t o.2) := by
        refine fr_ind (fun _ _ _ _ _ _ _ => pc_none) (fun m ih2 x8 X h8 xi xA xI xc => ?_)
        show pc (m_x12_owned_b91 (m_x12_owned_L91 m) p (c : Int) x8 X) _
        unfold m_x12_owned_b91
        have xs : (hM X).2.1 p.toNat = (hM t).2.1 p.toNat := by
          show gA X 49 (20 + 16 * p.toNat) = gA t 49 (20 + 16 * p.toNat)
          rw [xi _ (by omega)]; exact h2 _ (by omega)
        refine pc_bq (m_ents hp) (fun r11 h11 => pc_rg (pc_rg (pc_if (fun _ => J117 X xi xA xI xc) (fun c8 => ?_))))
        rw [h11, xs] at c8
        refine pc_bq (m_val hp ⟨h8, by omega⟩) (fun r16 h16 => pc_bq m_cntT (fun s18 h18 => ?_))
        obtain ⟨g0, g1, g2, g3⟩ := h18
        have vx : (hM X).2.2 p.toNat x8.toNat = (hM t).2.2 p.toNat x8.toNat := by
          show (if x8.toNat < 6 then gA X 49 (27 + 16 * p.toNat + x8.toNat) else 0) = if x8.toNat < 6 then gA t 49 (27 + 16 * p.toNat + x8.toNat) else 0
          rw [if_pos (by omega), if_pos (by omega), xi _ (by omega)]; exact h2 _ (by omega)
        refine ih2 (x8 + 1) s18 (by omega) (fun i hi => ?_) (fun k hk => (g2 k hk).trans (xA k hk)) (fun k => (g3 k).trans (xI k)) (fun y hy => ?_)
        · rw [g1, upZ_n (by omega)]; exact xi i hi
        · have ne := hy x8.toNat (by omega) (by omega)
          rw [g1, upZ_n (by omega)]; exact xc y hy
      exact L91 FU 0 S (by omega) (fun _ _ => rfl) (fun _ _ => rfl) (fun _ => rfl) (fun _ _ => rfl)
    · intro j h3 hj
      rw [(q_AA e31 : gA s31 49 = _)]
      by_cases z : (j : Int) = x
      · rw [show 17 + 16 * c + j = (17 + 16 * (c : Int) + x).toNat by omega, upZ_s, show (17 + 16 * p + x).toNat = 17 + 16 * p.toNat + j by omega]
        exact pS j (by omega)
      · rw [upZ_n (by omega)]; exact h1 j h3 (by omega)
    · intro i hi
      rw [(q_AA e31 : gA s31 49 = _), upZ_n (by omega)]
      exact h2 i hi
  exact L41 FU 3 t (by omega) (fun j h3 hj => absurd hj (by omega)) (fun _ _ => rfl) (fun _ _ => rfl) (fun _ => rfl)
theorem m_own {p : Int} {t : MS} (hp : 0 ≤ p) (h0 : gI t 55 = 0) (hq : ∀ o1, m_x12_taken ((hM t).1 p.toNat) p t = some o1 → gI o1.2 55 = 0 → 0 ≤ o1.1 ∧ o1.1.toNat ≠ p.toNat ∧ (hM o1.2).2.1 p.toNat ≤ 6) : pc (m_x12_owned p t) (fun o => (((0 < cM t p.toNat ∧ vM t p.toNat = 0) ∧ cM t p.toNat = 1) ∧ o = (p, t)) ∨ (¬ ((0 < cM t p.toNat ∧ vM t p.toNat = 0) ∧ cM t p.toNat = 1) ∧ ∃ o1, m_x12_taken ((hM t).1 p.toNat) p t = some o1 ∧ ((gI o1.2 55 ≠ 0 ∧ o = (p, o1.2)) ∨ (gI o1.2 55 = 0 ∧ o.1 = o1.1 ∧ OWm p.toNat o1.1.toNat o1.2 o.2)))) := by
  have J19 : pc (m_x12_owned_J19 p t) (fun o => ∃ o1, m_x12_taken ((hM t).1 p.toNat) p t = some o1 ∧ ((gI o1.2 55 ≠ 0 ∧ o = (p, o1.2)) ∨ (gI o1.2 55 = 0 ∧ o.1 = o1.1 ∧ OWm p.toNat o1.1.toNat o1.2 o.2))) := by
    unfold m_x12_owned_J19
    refine pc_bq (m_lev hp) (fun r35 h35 => pc_bn (fun o1 e1 => ?_))
    rw [h35] at e1
    refine pc_rg (pc_if (fun c => ?_) (fun c => pc_some ⟨o1, e1, Or.inl ⟨c, rfl⟩⟩))
    obtain ⟨a, b, d⟩ := hq o1 e1 c
    have C := m_copy (c := o1.1.toNat) hp b d
    rw [show ((o1.1.toNat : Nat) : Int) = o1.1 by omega] at C
    exact pc_mono C (fun o ho => ⟨o1, e1, Or.inr ⟨c, ho.1, ho.2⟩⟩)
  unfold m_x12_owned
  refine pc_bq (m_fresh hp) (fun r42 h42 => pc_rg (pc_if (fun c => pc_mono J19 (fun o ho => Or.inr ⟨fun z => ?_, ho⟩)) (fun c => pc_bq (m_cnt hp) (fun r46 h46 => pc_rg (pc_if (fun c2 => pc_some (Or.inl ⟨⟨?_, by omega⟩, rfl⟩)) (fun c2 => pc_mono J19 (fun o ho => Or.inr ⟨fun z => c2 (by omega), ho⟩)))))))
  · rcases h42 with ⟨a, _⟩ | ⟨_, b⟩
    · omega
    · exact b z.1
  · rcases h42 with ⟨_, b⟩ | ⟨a, _⟩
    · exact b
    · omega
