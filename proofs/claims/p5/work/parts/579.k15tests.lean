/-! ===== facts, tests: the same on both sides ===== -/
section TH
variable {rgs : (MS → Option MS) × (MS → Option MS)}
set_option maxHeartbeats 4000000 in
theorem SFct_of (h1 : SFct rgs.1) (h2 : STst rgs.2) (f1 : FKr rgs.1) (f2 : FKr rgs.2) : SFct (m_x6_readFact rgs) := by
  intro s s' t K k0 f0 P e hR hK hE hF m
  cases m with
  | zero => exact pc_none
  | succ m =>
  have hT := hR.1.2.2.1.1
  have k1 := hT.1
  have h5 := hR.2.2.2.2.1
  have hs := s_fact s' e
  have fact : pc (m_x12_qFact t) (PTE P) → True := fun _ => trivial
  show pc (m_x12_qTest_b2 (m_x12_qTest_L2 m) 1 t) P
  unfold m_x12_qTest_b2
  refine pc_rg (pc_if (fun c => absurd c (by decide)) (fun _ => pc_rg (pc_if (fun _ => pc_bq (r_look hR) (fun q20 h20 => ?_)) (fun c => absurd hR.1.2.1.2 c))))
  obtain ⟨r20, S⟩ := q20
  obtain ⟨hS, a2, v2⟩ := h20
  dsimp only at hS a2 v2 ⊢
  refine pc_rg (pc_if (fun c91 => ?_) (fun c91 => ?_))
  · -- a square
    have a : gI s 107 = 3 := TK_3 hT (by omega)
    rcases hs with ⟨c, _⟩ | ⟨_, q, eq, hq⟩ | ⟨c, _⟩ | ⟨c, _⟩
    · omega
    · obtain ⟨r, u⟩ := q
      dsimp only at hq
      refine pc_bq (r_opens hS eq) (fun s44 h44 => pc_stn (fun s45 e45 => ?_))
      rcases h44 with ⟨g1, g2, g3, g4, g5, g6⟩ | ⟨g1, g2, g3, g4⟩
      · rcases hq with ⟨z, _⟩ | ⟨_, s35, s37, s39, e35, e37, e39, e40⟩
        · omega
        · have hN : NX u s45 := NX_sg g3.1 (by rw [g6, g4 108 (by decide)]; exact a2) (by rw [g4 107 (by decide)]; exact a) e45
          obtain ⟨hR2, hp⟩ := REL_adv g3 hN (fun i hi => q_Ii e45 (by omega)) (fun k => q_Ia e45) e35
          have F2 : F_x6_advance u s35 := fr_x6_advance e35
          have z9 := g4 109 (by decide)
          have z941 : gI s35 941 = gI s 941 := (F2.1 941 (by decide)).trans (g4 941 (by decide))
          have t3 := (TK_3' hT a).2.1
          have k34 : FKp 100 101 s37 s39 := fk_x6_expectSign s39 e39
          have k45 : FKp 100 101 s39 s' := FKp.i e40 (by decide) (by decide)
          refine h2 s35 s37 s45 (25 :: K) k0 f0 P e37 hR2 (by show ¬ (1 ≤ (25 : Int) ∧ (25 : Int) ≤ 4) ∧ (25 : Int) ≠ 10 ∧ (25 : Int) ≠ 11 ∧ (25 : Int) ≠ 12; omega) (fun z3 l3 gr no o E hRo hEo => ?_) (fun o hb => hF o (BR_b (k34.tr k45) hb)) m
          rcases s_expSign hRo.1.2.1.1 s39 e39 with ⟨⟨q1, q2⟩, ea⟩ | ⟨q1, q2⟩
          · have F4 : F_x6_advance s37 s39 := fr_x6_advance ea
            have t33 := TK_3' hRo.1.2.2.1.1 q1
            have p4 := advs hRo.1.2.2.1.1 ea hRo.1.2.1.1 hRo.1.2.2.1.2.1 hRo.1.2.2.1.2.2
            have y8 : gI s' 108 = gI s39 108 := q_Ii e40 (by decide)
            have y941 : gI s' 941 = gI s37 941 := (q_Ii e40 (by decide)).trans (F4.1 941 (by decide))
            exact PTB_close hRo hEo q1 q2 ea e40 (fun o2 hR3 => hE hR3.1.2.1.1 (by omega) (by omega) o2 hR3)
          · exact PTB_open (s' := s') hRo no q1 ⟨(k45 (by omega)).1.trans q2.1, (k45 (by omega)).2.trans q2.2⟩ hF
      · have B : BR s' s45 := by
          have kf : FKp 5 6 s44 s45 := FKp.i e45 (by decide) (by decide)
          rw [a2] at g4
          rcases hq with ⟨_, z⟩ | ⟨z, _⟩
          · rw [z]; exact BR_go (BR_mk (k := 4) (p := gI s 108) (by decide) g2 ⟨g3, g4⟩) (FKp.rf u) kf
          · omega
        exact PTA_bad (BR_P B hF) m
    · omega
    · exact absurd ⟨a, by omega⟩ c.2.1
  · have n91 : ¬ (gI s 107 = 3 ∧ gI s 111 = 91) := fun q => c91 (by omega)
    refine pc_bq (r_here (w := 23) hS (by decide) rfl (rw_q hS 6 (by decide))) (fun q25 h25 => ?_)
    obtain ⟨r25, S2⟩ := q25
    obtain ⟨hS2, a3, v3⟩ := h25
    dsimp only at hS2 a3 v3 ⊢
    refine pc_rg (pc_if (fun c => ?_) (fun c => ?_))
    · have n23 : ¬ (gI s 107 = 1 ∧ gI s 110 = 23) := by
        rcases v3 with g | g
        · omega
        · exact g.2
      have hf : pc (m_x12_qFact S2) (PTE P) := by
        rcases hs with ⟨c, _⟩ | ⟨c, _⟩ | ⟨c, s26, e1, e2⟩ | ⟨c, s15, q, s20, e1, e2, e3, e4⟩
        · exact absurd c n23
        · exact absurd c n91
        · exact T_all hS2 c.1 c.2 e1 e2 hE
        · exact T_cmp hS2 hK c.2.2 e1 e2 e3 e4 hE hF
      exact pc_bq hf (fun s29 h29 => pc_bq (h29.1 FU) (fun s31 h31 => h31 m))
    · -- not
      have y23 : gI s 107 = 1 ∧ gI s 110 = 23 := by
        rcases v3 with g | g
        · exact g.2
        · exact absurd g.1 c
      rcases hs with ⟨_, q, eq, hq⟩ | ⟨c, _⟩ | ⟨c, _⟩ | ⟨c, _⟩
      · obtain ⟨r, u⟩ := q
        dsimp only at hq
        refine pc_bq (r_opens hS2 eq) (fun s40 h40 => pc_bn (fun s42 e42 => ?_))
        rcases h40 with ⟨g1, g2, g3, g4, g5, g6⟩ | ⟨g1, g2, g3, g4⟩
        · rcases hq with ⟨z, _⟩ | ⟨_, s47, s49, s52, e47, e49, e52, e53⟩
          · omega
          · have hw : gI u 107 = 1 ∧ gI u 110 = ((23 : Nat) : Int) := ⟨by rw [g4 107 (by decide)]; exact y23.1, by rw [g4 110 (by decide)]; exact y23.2⟩
            have hN := y_asks1 (w := 23) g3.1 (by decide) rfl (rw_q g3 6 (by decide)) hw s42 e42
            have F42 : F_x12_asks s40 s42 := fr_x12_asks e42
            obtain ⟨hR8, hp⟩ := REL_adv g3 hN (fun i hi => F42.1 i (by simp; omega)) (fun j => F42.2.1 j (by simp)) e47
            have F8 : F_x6_advance u s47 := fr_x6_advance e47
            have z9 := g4 109 (by decide)
            have z941 : gI s47 941 = gI s 941 := (F8.1 941 (by decide)).trans (g4 941 (by decide))
            have t1 := (TK_1' hT y23.1).2
            have k13 : FKp 100 101 s49 s' := FKp.tr (FKp.of (fr_x0_add e52) (by decide) (by decide)) (FKp.i e53 (by decide) (by decide))
            refine h1 s47 s49 s42 (12 :: K) k0 f0 P e49 hR8 (by show ¬ (1 ≤ (12 : Int) ∧ (12 : Int) ≤ 4); omega) (fun z10 l10 gr o hRo => ?_) (fun o hb => hF o (BR_b k13 hb)) m
            refine PTE_not hRo (by omega) e52 e53 (fun o2 hR2 => ?_)
            have b5 := hRo.2.2.2.2.1
            have kk := hRo.1.2.2.1.1.1
            obtain ⟨⟨w1, _⟩, w3, _⟩ := s_add (by omega) s52 e52
            have y941 : gI s' 941 = gI s49 941 + 1 := (q_Ii e53 (by decide)).trans w1
            have y108 : gI s' 108 = gI s49 108 := (q_Ii e53 (by decide)).trans (w3 108 (by decide))
            exact hE hR2.1.2.1.1 (by omega) (by omega) o2 hR2
        · have B : BR s' s42 := by
            have kf : FKp 5 6 s40 s42 := fk_x12_asks s42 e42
            rw [a3] at g4
            rcases hq with ⟨_, z⟩ | ⟨z, _⟩
            · rw [z]; exact BR_go (BR_mk (k := 4) (p := gI s 108) (by decide) g2 ⟨g3, g4⟩) (FKp.rf u) kf
            · omega
          exact PTA_bad (BR_P B hF) m
      · omega
      · omega
      · exact absurd y23 c.1
theorem s_bothL {lr : Int → MS → Option MS} {x2 : Int} {s : MS} : pc (m_x6_readBoth_b6 rgs lr x2 s) (fun s' => (¬ ANDw s ∧ s' = s) ∨ (1600 ≤ x2 ∧ s' = s) ∨ (ANDw s ∧ ∃ s8 s10 s13, m_x6_advance s = some s8 ∧ m_x6_readFact rgs s8 = some s10 ∧ m_x0_add (-10) s10 = some s13 ∧ lr (x2 + 1) s13 = some s')) := by
  unfold m_x6_readBoth_b6 m_x6_readBoth_J45
  refine pc_rg (pc_if (fun c => pc_some (Or.inr (Or.inl ⟨c, rfl⟩))) (fun c => pc_bq s_isWord (fun r7 h7 => pc_rg (pc_if (fun c2 => pc_some (Or.inl ⟨?_, rfl⟩)) (fun c2 => pc_bn (fun s8 e8 => pc_bn (fun s10 e10 => pc_eqg (pc_bn (fun s13 e13 => fun o eo => Or.inr (Or.inr ⟨?_, s8, s10, s13, e8, e10, e13, eo⟩))))))))))
  · unfold ANDw; omega
  · unfold ANDw; omega
theorem s_testL {lr : Int → MS → Option MS} {x2 : Int} {s : MS} : pc (m_x6_readTest_b6 rgs lr x2 s) (fun s' => (¬ ORw s ∧ s' = s) ∨ (1600 ≤ x2 ∧ s' = s) ∨ (ORw s ∧ ∃ s8 s10 s13, m_x6_advance s = some s8 ∧ m_x6_readBoth rgs s8 = some s10 ∧ m_x0_add (-11) s10 = some s13 ∧ lr (x2 + 1) s13 = some s')) := by
  unfold m_x6_readTest_b6 m_x6_readTest_J45
  refine pc_rg (pc_if (fun c => pc_some (Or.inr (Or.inl ⟨c, rfl⟩))) (fun c => pc_bq s_isWord (fun r7 h7 => pc_rg (pc_if (fun c2 => pc_some (Or.inl ⟨?_, rfl⟩)) (fun c2 => pc_bn (fun s8 e8 => pc_bn (fun s10 e10 => pc_eqg (pc_bn (fun s13 e13 => fun o eo => Or.inr (Or.inr ⟨?_, s8, s10, s13, e8, e10, e13, eo⟩))))))))))
  · unfold ORw; omega
  · unfold ORw; omega
theorem fk_BL (f1 : FKr rgs.1) (f2 : FKr rgs.2) : ∀ (n : Nat) (x2 : Int) (s : MS), pc (m_x6_readBoth_L6 rgs n x2 s) (fun o => FKp 100 101 s o) := by
  refine fr_ind (fun _ _ => pc_none) (fun n ih x2 s => ?_)
  show pc (m_x6_readBoth_b6 rgs (m_x6_readBoth_L6 rgs n) x2 s) _
  refine pc_mono s_bothL (fun o h => ?_)
  rcases h with ⟨_, e⟩ | ⟨_, e⟩ | ⟨_, s8, s10, s13, e8, e10, e13, eo⟩
  · rw [e]; exact FKp.rf s
  · rw [e]; exact FKp.rf s
  · exact (((FKp.of (fr_x6_advance e8) (by decide) (by decide)).tr (fk_x6_readFact f1 f2 s10 e10)).tr (FKp.of (fr_x0_add e13) (by decide) (by decide))).tr (ih _ s13 o eo)
theorem fk_TL (f1 : FKr rgs.1) (f2 : FKr rgs.2) : ∀ (n : Nat) (x2 : Int) (s : MS), pc (m_x6_readTest_L6 rgs n x2 s) (fun o => FKp 100 101 s o) := by
  refine fr_ind (fun _ _ => pc_none) (fun n ih x2 s => ?_)
  show pc (m_x6_readTest_b6 rgs (m_x6_readTest_L6 rgs n) x2 s) _
  refine pc_mono s_testL (fun o h => ?_)
  rcases h with ⟨_, e⟩ | ⟨_, e⟩ | ⟨_, s8, s10, s13, e8, e10, e13, eo⟩
  · rw [e]; exact FKp.rf s
  · rw [e]; exact FKp.rf s
  · exact (((FKp.of (fr_x6_advance e8) (by decide) (by decide)).tr (fk_x6_readBoth f1 f2 s10 e10)).tr (FKp.of (fr_x0_add e13) (by decide) (by decide))).tr (ih _ s13 o eo)
def SBth (g : MS → Option MS) : Prop := ∀ (s s' t : MS) (K : List Int) (k0 : Int) (f0 : Nat → Int) (P : MS → Prop), g s = some s' → REL k0 0 f0 s t K [] → (¬ (1 ≤ hdk K ∧ hdk K ≤ 4) ∧ hdk K ≠ 10 ∧ hdk K ≠ 12) → (gI s' 100 = 0 → gI s 108 < gI s' 108 → gI s' 941 - gI s 941 ≤ gI s' 108 - gI s 108 → ¬ ANDw s' → ∀ (o : MS) (E : List Int), REL k0 0 f0 s' o K E → (∀ e, e ∈ E → e = 10) → PTB P o) → (∀ o, BR s' o → P o) → PTA P t
theorem SBL (hp : SFct (m_x6_readFact rgs)) (f1 : FKr rgs.1) (f2 : FKr rgs.2) : ∀ (n : Nat) (x2 : Int) (s s' : MS), m_x6_readBoth_L6 rgs n x2 s = some s' → ∀ (t : MS) (K E : List Int) (k0 : Int) (f0 : Nat → Int) (P : MS → Prop), REL k0 0 f0 s t K E → (∀ e, e ∈ E → e = 10) → hdk K ≠ 10 → (0 ≤ x2 ∧ x2 ≤ gI s 108) → (gI s' 100 = 0 → gI s 108 ≤ gI s' 108 → gI s' 941 - gI s 941 ≤ gI s' 108 - gI s 108 → ¬ ANDw s' → ∀ (o : MS) (E' : List Int), REL k0 0 f0 s' o K E' → (∀ e, e ∈ E' → e = 10) → PTB P o) → (∀ o, BR s' o → P o) → PTB P t := by
  refine fr_ind (fun x2 s s' e => by cases e) (fun n ih x2 s s' e t K E k0 f0 P hR hE hK hx hC hF => ?_)
  have hT := hR.1.2.2.1.1
  have k1 := hT.1
  have h5 := hR.2.2.2.2.1
  have e : m_x6_readBoth_b6 rgs (m_x6_readBoth_L6 rgs n) x2 s = some s' := e
  rcases s_bothL s' e with ⟨nm, es⟩ | ⟨hb, es⟩ | ⟨hm, s8, s10, s13, e8, e10, e13, eo⟩
  · rw [es] at hC
    exact hC hR.1.2.1.1 (by omega) (by omega) nm t E hR hE
  · rw [es] at hC
    refine hC hR.1.2.1.1 (by omega) (by omega) (fun hm => ?_) t E hR hE
    have := (TK_1' hT hm.1).1
    omega
  · have t1 := TK_1' hT hm.1
    have F8 : F_x6_advance s s8 := fr_x6_advance e8
    have z941 : gI s8 941 = gI s 941 := F8.1 941 (by decide)
    have p8 := advs hT e8 hR.1.2.1.1 hR.1.2.2.1.2.1 hR.1.2.2.1.2.2
    have kf : FKp 100 101 s10 s' := (FKp.of (fr_x0_add e13) (by decide) (by decide)).tr (fk_BL f1 f2 n _ s13 s' eo)
    refine PTB_and hR hE hK hm.1 hm.2 e8 (fun o hRo => ?_)
    refine hp s8 s10 o (10 :: K) k0 f0 P e10 hRo (by show ¬ (1 ≤ (10 : Int) ∧ (10 : Int) ≤ 4); omega) (fun z10 l10 gr o2 hR2 => ?_) (fun o hb => hF o (BR_b kf hb))
    refine PTE_top hR2 (by show (10 : Int) ≠ 12; omega) ?_
    obtain ⟨hR3, w1, w2⟩ := REL_add hR2 (c := -10) (cr_op (by omega)) (by omega) e13
    have w8 := w2 108 (by decide)
    refine ih (x2 + 1) s13 s' eo o2 K [10] k0 f0 P hR3 (fun e he => List.mem_singleton.mp he) hK (by omega) (fun a b d f => hC a (by omega) (by omega) f) hF
theorem SBth_of (hp : SFct (m_x6_readFact rgs)) (f1 : FKr rgs.1) (f2 : FKr rgs.2) : SBth (m_x6_readBoth rgs) := by
  intro s s' t K k0 f0 P e hR hK hC hF
  have g : pc (m_x6_readBoth rgs s) (fun o => ∃ u, m_x6_readFact rgs s = some u ∧ m_x6_readBoth_L6 rgs FU 0 u = some o) := by
    unfold m_x6_readBoth
    exact pc_bn (fun u eu => fun o eo => ⟨u, eu, eo⟩)
  obtain ⟨u, eu, eo⟩ := g s' e
  refine hp s u t K k0 f0 P eu hR hK.1 (fun z l gr o hRo => ?_) (fun o hb => hF o (BR_b (fk_BL f1 f2 FU 0 u s' eo) hb))
  have k1 := hRo.1.2.2.1.1.1
  exact PTE_top hRo hK.2.2 (SBL hp f1 f2 FU 0 u s' eo o K [] k0 f0 P hRo (fun e he => absurd he (List.not_mem_nil)) hK.2.1 (by omega) (fun a b c d => hC a (by omega) (by omega) d) hF)
theorem ANDw_e {s o : MS} (h : ∀ i, i ≠ 941 → gI o i = gI s i) (hn : ¬ ANDw s) : ¬ ANDw o := fun q => hn (by
  unfold ANDw at q ⊢
  rw [h 107 (by decide), h 110 (by decide)] at q
  exact q)
theorem STL (hp : SBth (m_x6_readBoth rgs)) (f1 : FKr rgs.1) (f2 : FKr rgs.2) : ∀ (n : Nat) (x2 : Int) (s s' : MS), m_x6_readTest_L6 rgs n x2 s = some s' → ∀ (t : MS) (K E : List Int) (k0 : Int) (f0 : Nat → Int) (P : MS → Prop), REL k0 0 f0 s t K E → (∀ e, e ∈ E → e = 10 ∨ e = 11) → (hdk K ≠ 10 ∧ hdk K ≠ 11) → ¬ ANDw s → (0 ≤ x2 ∧ x2 ≤ gI s 108) → (gI s' 100 = 0 → gI s 108 ≤ gI s' 108 → gI s' 941 - gI s 941 ≤ gI s' 108 - gI s 108 → ¬ (gI s' 107 = 1 ∧ (gI s' 110 = 21 ∨ gI s' 110 = 22)) → ∀ (o : MS) (E' : List Int), REL k0 0 f0 s' o K E' → (∀ e, e ∈ E' → e = 10 ∨ e = 11) → PTB P o) → (∀ o, BR s' o → P o) → PTB P t := by
  refine fr_ind (fun x2 s s' e => by cases e) (fun n ih x2 s s' e t K E k0 f0 P hR hE hK hM hx hC hF => ?_)
  have hT := hR.1.2.2.1.1
  have k1 := hT.1
  have h5 := hR.2.2.2.2.1
  have e : m_x6_readTest_b6 rgs (m_x6_readTest_L6 rgs n) x2 s = some s' := e
  have ops : ¬ ORw s → ¬ (gI s 107 = 1 ∧ (gI s 110 = 21 ∨ gI s 110 = 22)) := fun na q => by
    unfold ORw at na
    unfold ANDw at hM
    omega
  rcases s_testL s' e with ⟨nm, es⟩ | ⟨hb, es⟩ | ⟨hm, s8, s10, s13, e8, e10, e13, eo⟩
  · rw [es] at hC
    exact hC hR.1.2.1.1 (by omega) (by omega) (ops nm) t E hR hE
  · rw [es] at hC
    refine hC hR.1.2.1.1 (by omega) (by omega) (ops (fun hm => ?_)) t E hR hE
    have := (TK_1' hT hm.1).1
    omega
  · have t1 := TK_1' hT hm.1
    have F8 : F_x6_advance s s8 := fr_x6_advance e8
    have z941 : gI s8 941 = gI s 941 := F8.1 941 (by decide)
    have p8 := advs hT e8 hR.1.2.1.1 hR.1.2.2.1.2.1 hR.1.2.2.1.2.2
    have kf : FKp 100 101 s10 s' := (FKp.of (fr_x0_add e13) (by decide) (by decide)).tr (fk_TL f1 f2 n _ s13 s' eo)
    refine PTB_or hR hE hK hm.1 hm.2 e8 (fun o hRo => ?_)
    refine hp s8 s10 o (11 :: K) k0 f0 P e10 hRo (by show ¬ (1 ≤ (11 : Int) ∧ (11 : Int) ≤ 4) ∧ (11 : Int) ≠ 10 ∧ (11 : Int) ≠ 12; omega) (fun z10 l10 gr nm10 o2 E2 hR2 hE2 => ?_) (fun o hb => hF o (BR_b kf hb))
    obtain ⟨hR3, w1, w2⟩ := REL_add hR2 (c := -11) (cr_op (by omega)) (by omega) e13
    have w8 := w2 108 (by decide)
    refine ih (x2 + 1) s13 s' eo o2 K (E2 ++ [11]) k0 f0 P hR3 (fun e he => ?_) hK (ANDw_e w2 nm10) (by omega) (fun a b d f => hC a (by omega) (by omega) f) hF
    rcases List.mem_append.mp he with q | q
    · exact Or.inl (hE2 e q)
    · exact Or.inr (List.mem_singleton.mp q)
theorem STst_of (hp : SBth (m_x6_readBoth rgs)) (f1 : FKr rgs.1) (f2 : FKr rgs.2) : STst (m_x6_readTest rgs) := by
  intro s s' t K k0 f0 P e hR hK hC hF
  have g : pc (m_x6_readTest rgs s) (fun o => ∃ u, m_x6_readBoth rgs s = some u ∧ m_x6_readTest_L6 rgs FU 0 u = some o) := by
    unfold m_x6_readTest
    exact pc_bn (fun u eu => fun o eo => ⟨u, eu, eo⟩)
  obtain ⟨u, eu, eo⟩ := g s' e
  refine hp s u t K k0 f0 P eu hR ⟨hK.1, hK.2.1, hK.2.2.2⟩ (fun z l gr nm o E hRo hE => ?_) (fun o hb => hF o (BR_b (fk_TL f1 f2 FU 0 u s' eo) hb))
  have k1 := hRo.1.2.2.1.1.1
  exact STL hp f1 f2 FU 0 u s' eo o K E k0 f0 P hRo (fun e he => Or.inl (hE e he)) ⟨hK.2.1, hK.2.2.1⟩ nm (by omega) (fun a b c d => hC a (by omega) (by omega) d) hF
end TH
theorem S_RG2 : ∀ n : Nat, SFct (RG2 n).1 ∧ STst (RG2 n).2 := by
  refine fr_ind ⟨fun s s' _ _ _ _ _ e => (by cases e), fun s s' _ _ _ _ _ e => (by cases e)⟩ (fun n ih => ?_)
  have f := fk_RG2 n
  have p := SFct_of ih.1 ih.2 f.1 f.2
  exact ⟨p, STst_of (SBth_of p f.1 f.2) f.1 f.2⟩
theorem S_testC : STst m_x6_readTestC := (S_RG2 8).2
/-- a test, on both sides -/
theorem y_test {k0 : Int} {s s' t : MS} (hS : SY s t) (hO : OPN s t) (h104 : gI t 104 = 0) (h106 : gI t 106 = 0) (hC : CO k0 s t []) (hb : gI s 941 ≤ gI s 108) (e : m_x6_readTestC s = some s') : pc (m_x12_qTest t) (fun o => ((gI s' 100 = 0 ∧ gI s 108 < gI s' 108 ∧ gI s' 941 - gI s 941 ≤ gI s' 108 - gI s 108) ∧ REL k0 0 (gA t 103) s' o [] []) ∨ BR s' o) := by
  have R : REL k0 0 (gA t 103) s t [] [] := ⟨hS, hO, ⟨⟨by omega, fun q => by omega⟩, by show gI t 104 = gI t 106; omega⟩, hC, hb, h106, fun j hj => rfl⟩
  unfold m_x12_qTest
  exact S_testC s s' t [] k0 (gA t 103) _ e R (by show ¬ (1 ≤ (0 : Int) ∧ (0 : Int) ≤ 4) ∧ (0 : Int) ≠ 10 ∧ (0 : Int) ≠ 11 ∧ (0 : Int) ≠ 12; omega) (fun z l gr no o E hRo hE => PTB_end hRo hE no (fun o2 h2 => Or.inl ⟨⟨z, l, gr⟩, h2⟩)) (fun o hb => Or.inr hb) FU
