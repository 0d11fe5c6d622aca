/-! ===== the ring of sums ===== -/
section RG
variable {rgs : (MS → Option MS) × (MS → Option MS)}
theorem cr_ch {cd c d : Int} (h : (cd = 21 ∧ c = -5) ∨ (cd = 22 ∧ c = -6)) (g : (cd + 2 = 23 ∧ d = 5) ∨ (cd + 2 = 24 ∧ d = 6)) : cr c d := Or.inr (Or.inl (by omega))
theorem cr_o {w c : Int} {k : Nat} (h : (w = 19 ∧ c = -13) ∨ (w = 20 ∧ c = -14)) (g : (k = 8 ∧ w = 19) ∨ (k = 9 ∧ w = 20)) : cr c (60 + (k : Int) - 8) := by
  rcases g with ⟨a, b⟩ | ⟨a, b⟩
  · exact Or.inr (Or.inr (Or.inl (by omega)))
  · exact Or.inr (Or.inr (Or.inr (Or.inl (by omega))))
theorem OPS_n {s : MS} (h : ¬ (gI s 107 = 3 ∧ (gI s 111 = 42 ∨ gI s 111 = 47 ∨ gI s 111 = 43 ∨ gI s 111 = 45))) : ¬ OPS s := h
theorem advs {s s' : MS} (h : TK s) (e : m_x6_advance s = some s') (h0 : gI s 100 = 0) (hW : W6 s) (hy : BY s) : gI s 109 ≤ gI s' 108 := by
  have k1 := h.1
  have b9 : 0 ≤ gI s 109 ∧ gI s 109 ≤ gI s 61 := by
    rcases h.2.2 with q | q
    · omega
    · omega
  exact (s_adv h0 ⟨b9, k1.2⟩ hW hy s' e).2.1.1
set_option maxHeartbeats 8000000 in
theorem SPart_of (h1 : SSum rgs.1) (h2 : SPart rgs.2) (f1 : FKr rgs.1) (f2 : FKr rgs.2) : SPart (m_x6_readPart rgs) := by
  intro s s' t K k0 b0 f0 P x13 e hR hE hF m
  cases m with
  | zero => exact pc_none
  | succ m =>
  have hT := hR.1.2.2.1.1
  have k1 := hT.1
  have h5 := hR.2.2.2.2.1
  have hm := hR.2.1.2.2
  have hs := s_part hR.1.2.1.1 s' e
  refine r_b2 hR (fun a b S hS h2' => ?_) (fun a b S hS => ?_) (fun a b k hk S hS h2' => ?_) (fun n1 n2 n3 S hS => ?_)
  · -- (
    rcases hs with ⟨c, _⟩ | ⟨_, q, eq, hq⟩ | ⟨c, _⟩ | ⟨c, _⟩ | ⟨c, _⟩
    · omega
    · obtain ⟨r, u⟩ := q
      dsimp only at hq
      refine pc_bq (r_opens hS eq) (fun s92 h92 => pc_stn (fun s93 e93 => ?_))
      rcases h92 with ⟨g1, g2, g3, g4, g5, g6⟩ | ⟨g1, g2, g3, g4⟩
      · rcases hq with ⟨z, _⟩ | ⟨_, s2, s3, s4, e2, e3, e4, e5⟩
        · omega
        · have hN : NX u s93 := NX_sg g3.1 (by rw [g6, g4 108 (by decide)]; exact h2') (by rw [g4 107 (by decide)]; exact a) e93
          obtain ⟨hR2, hp⟩ := REL_adv g3 hN (fun i hi => q_Ii e93 (by omega)) (fun k => q_Ia e93) e2
          have F2 : F_x6_advance u s2 := fr_x6_advance e2
          have z9 := g4 109 (by decide)
          have z8 := g4 108 (by decide)
          have z941 : gI s2 941 = gI s 941 := (F2.1 941 (by decide)).trans (g4 941 (by decide))
          have t3 := (TK_3' hT a).2.1
          have k34 : FKp 100 101 s3 s4 := fk_x6_expectSign s4 e4
          have k45 : FKp 100 101 s4 s' := FKp.i e5 (by decide) (by decide)
          refine h1 s2 s3 s93 (20 :: K) k0 b0 f0 P x13 e3 hR2 (by show ¬ (1 ≤ (20 : Int) ∧ (20 : Int) ≤ 4) ∧ (20 : Int) < 60; omega) (fun z3 l3 gr no o E hRo hEo => ?_) (fun o hb => hF o (BR_b (k34.tr k45) hb)) m
          have hs4 := s_expSign hRo.1.2.1.1 s4 e4
          rcases hs4 with ⟨⟨q1, q2⟩, ea⟩ | ⟨q1, q2⟩
          · have F4 : F_x6_advance s3 s4 := fr_x6_advance ea
            have t33 := TK_3' hRo.1.2.2.1.1 q1
            have p4 := advs hRo.1.2.2.1.1 ea hRo.1.2.1.1 hRo.1.2.2.1.2.1 hRo.1.2.2.1.2.2
            have y8 : gI s' 108 = gI s4 108 := q_Ii e5 (by decide)
            have y941 : gI s' 941 = gI s3 941 := (q_Ii e5 (by decide)).trans (F4.1 941 (by decide))
            refine PB_close hRo (Or.inl rfl) hEo q1 q2 ea e5 (fun _ o2 hR3 => hE hR3.1.2.1.1 (by omega) (by omega) o2 hR3) (fun d hd => by omega)
          · exact PB_open (s' := s') hRo (Or.inl rfl) hEo no q1 ⟨(k45 (by omega)).1.trans q2.1, (k45 (by omega)).2.trans q2.2⟩ hF
      · have B : BR s' s93 := by
          have kf : FKp 5 6 s92 s93 := FKp.i e93 (by decide) (by decide)
          rw [h2'] at g4
          rcases hq with ⟨_, z⟩ | ⟨z, _⟩
          · rw [z]; exact BR_go (BR_mk (k := 4) (p := gI s 108) (by decide) g2 ⟨g3, g4⟩) (FKp.rf u) kf
          · omega
        exact PA_bad (BR_0 B) (BR_P B hF) m
    · omega
    · omega
    · exact absurd ⟨a, b⟩ c.2.1
  · -- min, max
    rcases hs with ⟨c, _⟩ | ⟨c, _⟩ | ⟨_, c, hc, ec⟩ | ⟨_, c, hc, _⟩ | ⟨c, _⟩
    · omega
    · omega
    · obtain ⟨s3, e3, hs3⟩ := s_choice s' ec
      have F3 : F_x6_advance s s3 := fr_x6_advance e3
      have z941 : gI s3 941 = gI s 941 := F3.1 941 (by decide)
      have lt9 : gI s 108 < gI s 109 := by
        rcases hT.2.2 with q | q
        · omega
        · omega
      have rest : ∀ (x47 : Int) (T : MS), ((gI s 110 = 25 ∧ x47 = 1) ∨ (gI s 110 = 26 ∧ x47 = 0)) → REL k0 b0 f0 s3 T K [] → gI s 109 ≤ gI s3 108 → pc (m_x12_qPartTold_J101 (m_x12_qPartTold_L2 m) 1 x47 T) (QA P x13) := by
        intro x47 T hx hR3 hp3
        unfold m_x12_qPartTold_J101
        refine pc_bq (r_look hR3) (fun q51 h51 => ?_)
        obtain ⟨r51, T2⟩ := q51
        obtain ⟨hT2, a2, v2⟩ := h51
        dsimp only at hT2 a2 v2 ⊢
        have k3 := hT2.1.2.2.1.1.1
        have bad : ∀ U : MS, BR s' U → pc (m_x12_qPartTold_J144 (m_x12_qPartTold_L2 m) 1 U) (QA P x13) := fun U hB => by
          unfold m_x12_qPartTold_J144 m_x12_qPartTold_J183
          exact pc_bn (fun s31 e31 => by
            have B : BR s' s31 := BR_go hB (FKp.rf s') (fk_x12_asksSign s31 e31)
            exact PA_bad (BR_0 B) (BR_P B hF) m)
        refine pc_rg (pc_if (fun c40 => ?_) (fun c40 => ?_))
        · have k33 : gI s3 107 = 3 := TK_3 hT2.1.2.2.1.1 (by omega)
          have t33 := TK_3' hT2.1.2.2.1.1 k33
          rcases hs3 with ⟨q, _⟩ | ⟨_, q, eq, hq⟩
          · exact absurd ⟨k33, by omega⟩ q
          · obtain ⟨r, u⟩ := q
            dsimp only at hq
            have J139 : ∀ cd : Int, (cd = 21 ∧ c = -5) ∨ (cd = 22 ∧ c = -6) → pc (m_x12_qPartTold_J139 (m_x12_qPartTold_L2 m) 1 (gI T2 2) cd T2) (QA P x13) := by
              intro cd hcd
              unfold m_x12_qPartTold_J139
              refine pc_bq (r_opens hT2 eq) (fun s37 h37 => ?_)
              rcases h37 with ⟨g1, g2, g3, g4, g5, g6⟩ | ⟨g1, g2, g3, g4⟩
              · rcases hq with ⟨z, _⟩ | ⟨_, s14, s16, s18, s20, s22, s23, e14, e16, e18, e20, e22, e23, e26⟩
                · omega
                · unfold m_x12_qPartTold_J144 m_x12_qPartTold_J183
                  have u7 : gI u 107 = 3 := by rw [g4 107 (by decide)]; exact k33
                  have u11 : gI u 111 = 40 := by rw [g4 111 (by decide)]; omega
                  have u8 := g4 108 (by decide)
                  have u9 := g4 109 (by decide)
                  have u941 := g4 941 (by decide)
                  have ks : pc (m_x12_asksSign 40 s37) (fun o => REL k0 b0 f0 s14 o (cd :: K) [] ∧ gI u 109 ≤ gI s14 108) := by
                    unfold m_x12_asksSign m_x12_asksSign_J24
                    refine pc_rg (pc_if (fun _ => pc_bq (r_sign g3 (by omega)) (fun q6 h6 => pc_rg (pc_if (fun c2 => ?_) (fun c2 => pc_some ?_)))) (fun cc => absurd g3.1.2.1.2 cc))
                    · rcases h6 with g | ⟨_, g7, _⟩
                      · omega
                      · exact absurd ⟨u7, u11⟩ g7
                    · rcases h6 with ⟨_, _, _, _, g7⟩ | g
                      · exact g7 s14 e14
                      · exact absurd g.1 c2
                  refine pc_bq ks (fun s31 h31 => ?_)
                  have F14 : F_x6_advance u s14 := fr_x6_advance e14
                  have z14 : gI s14 941 = gI s 941 := (F14.1 941 (by decide)).trans (u941.trans z941)
                  have k67 : FKp 100 101 s23 s' := FKp.of (fr_x0_add e26) (by decide) (by decide)
                  have k56 : FKp 100 101 s22 s' := FKp.tr (FKp.i e23 (by decide) (by decide)) k67
                  have k46 : FKp 100 101 s20 s' := FKp.tr (fk_x6_expectSign s22 e22) k56
                  have k36 : FKp 100 101 s18 s' := FKp.tr (f1 s18 s20 e20) k46
                  have k26 : FKp 100 101 s16 s' := FKp.tr (fk_x6_expectSign s18 e18) k36
                  refine h1 s14 s16 s31 (cd :: K) k0 b0 f0 P x13 e16 h31.1 (by show ¬ (1 ≤ cd ∧ cd ≤ 4) ∧ cd < 60; omega) (fun z3 l3 gr no o E hRo hEo => ?_) (fun o hb => hF o (BR_b k26 hb)) m
                  refine PB_comma hRo (by omega) hEo no e18 (fun z18 o2 hR18 l18 => ?_) (fun o hb => hF o (BR_b k36 hb))
                  have z1816 : gI s18 941 = gI s16 941 := by
                    rcases s_expSign hRo.1.2.1.1 s18 e18 with ⟨_, ea⟩ | ⟨_, q2⟩
                    · exact (fr_x6_advance ea).1 941 (by decide)
                    · omega
                  refine h1 s18 s20 o2 ((cd + 2) :: K) k0 b0 f0 P x13 e20 hR18 (by show ¬ (1 ≤ cd + 2 ∧ cd + 2 ≤ 4) ∧ cd + 2 < 60; omega) (fun z20 l20 gr20 no20 o3 E3 hR20 hE20 => ?_) (fun o hb => hF o (BR_b k46 hb))
                  rcases s_expSign hR20.1.2.1.1 s22 e22 with ⟨⟨q1, q2⟩, ea⟩ | ⟨q1, q2⟩
                  · have F22 : F_x6_advance s20 s22 := fr_x6_advance ea
                    have t20 := TK_3' hR20.1.2.2.1.1 q1
                    have p22 := advs hR20.1.2.2.1.1 ea hR20.1.2.1.1 hR20.1.2.2.1.2.1 hR20.1.2.2.1.2.2
                    have y8 : gI s23 108 = gI s22 108 := q_Ii e23 (by decide)
                    have y941 : gI s23 941 = gI s20 941 := (q_Ii e23 (by decide)).trans (F22.1 941 (by decide))
                    refine PB_close hR20 (by omega) hE20 q1 q2 ea e23 (fun zz => by omega) (fun d hd T o4 hRT eo => ?_)
                    obtain ⟨hR5, w1, w2⟩ := REL_step hRT (c := c) (d := d) (cr_ch hcd hd) (by omega) e26 eo
                    have w8 := w2 108 (by decide)
                    exact hE hR5.1.2.1.1 (by omega) (by omega) o4 hR5
                  · exact PB_open (s' := s') hR20 (by omega) hE20 no20 q1 ⟨(k56 (by omega)).1.trans q2.1, (k56 (by omega)).2.trans q2.2⟩ hF
              · have B : BR s' s37 := by
                  rw [a2] at g4
                  rcases hq with ⟨_, z⟩ | ⟨z, _⟩
                  · rw [z]; exact BR_mk (k := 4) (p := gI s3 108) (by decide) g2 ⟨g3, g4⟩
                  · omega
                exact bad s37 B
            unfold m_x12_qPartTold_J118
            refine pc_rg (pc_if (fun z => by omega) (fun _ => pc_rg (pc_if (fun z => J139 22 (by omega)) (fun z => J139 21 (by omega)))))
        · unfold m_x12_qPartTold_J118
          refine pc_rg (pc_if (fun _ => ?_) (fun z => absurd rfl z))
          unfold m_x12_qPartTold_J144 m_x12_qPartTold_J183
          refine pc_bn (fun s31 e31 => ?_)
          have B : BR s' s31 := by
            have g : pc (m_x12_asksSign 40 T2) (fun o => BR s' o) := by
              unfold m_x12_asksSign m_x12_asksSign_J24
              refine pc_rg (pc_if (fun _ => pc_bq (r_sign hT2 (by omega)) (fun q6 h6 => pc_rg (pc_if (fun c2 => ?_) (fun c2 => ?_)))) (fun cc => absurd hT2.1.2.1.2 cc))
              · rcases h6 with g | ⟨_, g7, g8, g9⟩
                · omega
                · refine pc_bq (m_fail g8.1.2.1.2) (fun s10 h10 => pc_some ?_)
                  rw [g9] at h10
                  rcases hs3 with ⟨_, q, eq, ez⟩ | ⟨q, _⟩
                  · rw [ez]
                    exact BR_mk (by decide) (s_fail hT2.1.2.1.1 q eq) h10
                  · exact absurd q g7
              · rcases h6 with ⟨_, g7, g8, _⟩ | g
                · omega
                · exact absurd g.1 c2
            exact g s31 e31
          exact PA_bad (BR_0 B) (BR_P B hF) m
      unfold m_x12_qPartTold_J78
      have rw1 : (∀ j, j < 3 → gA S 89 j = wc 25 j) ∧ (∀ j, j < 3 → gA S 90 j = wc 26 j) := ⟨fun j hj => hS.1.2.2.2.2.2.2 10 (by decide) j hj, fun j hj => hS.1.2.2.2.2.2.2 11 (by decide) j hj⟩
      refine pc_bn (fun q58 e58 => ?_)
      have F58 : F_x12_takes S q58.2 := fr_x12_takes e58
      have h58 := y_takes (w := 25) hS.1 (by decide) rfl rw1.1 q58 e58
      obtain ⟨r58, T⟩ := q58
      dsimp only at h58 F58 ⊢
      rcases h58 with ⟨g1, g2, g3, g4⟩ | ⟨g1, g2, g3, g4⟩
      · refine pc_rg (pc_if (fun z => by omega) (fun _ => ?_))
        obtain ⟨r1, r2⟩ := REL_adv hS g4 (fun i hi => F58.1 i (by simp; omega)) (fun k => F58.2.1 k (by simp)) e3
        exact rest r58 T (by omega) r1 r2
      · refine pc_rg (pc_if (fun _ => ?_) (fun z => absurd g1 z))
        have w26 : gI s 110 = 26 := by
          rcases b with z | z
          · exact absurd ⟨a, z⟩ g2
          · exact z
        have tA : ∀ k, gA T k = gA S k := fun k => F58.2.1 k (by simp)
        refine pc_bn (fun s62 e62 => ?_)
        have F62 : F_x12_asks T s62 := fr_x12_asks e62
        have hN := y_asks1 (w := 26) g3 (by decide) rfl (fun j hj => by rw [tA]; exact rw1.2 j hj) ⟨a, w26⟩ s62 e62
        obtain ⟨r1, r2⟩ := REL_adv hS hN (fun i hi => by rw [F62.1 i (by simp; omega), F58.1 i (by simp; omega)]) (fun k => by rw [F62.2.1 k (by simp), tA]) e3
        exact rest r58 s62 (by omega) r1 r2
    · omega
    · exact absurd ⟨a, b⟩ c.2.2.1
  · -- refs, key
    rcases hs with ⟨c, _⟩ | ⟨c, _⟩ | ⟨_, c, hc, _⟩ | ⟨_, c, hc, ec⟩ | ⟨c, _⟩
    · omega
    · omega
    · omega
    · obtain ⟨q, eq, hq⟩ := s_other s' ec
      obtain ⟨r, u⟩ := q
      dsimp only at hq
      have wks : wk 8 = 19 ∧ wk 9 = 20 := by decide
      refine pc_bq (r_opens hS eq) (fun s88 h88 => pc_bn (fun s90 e90 => ?_))
      rcases h88 with ⟨g1, g2, g3, g4, g5, g6⟩ | ⟨g1, g2, g3, g4⟩
      · rcases hq with ⟨z, _⟩ | ⟨_, s8, s10, s13, e8, e10, e13, e14⟩
        · omega
        · have hw : gI u 107 = 1 ∧ gI u 110 = (wk k : Int) := by
            rw [g4 107 (by decide), g4 110 (by decide)]
            rcases hk with ⟨z, w⟩ | ⟨z, w⟩
            · rw [z]; exact ⟨a, by omega⟩
            · rw [z]; exact ⟨a, by omega⟩
          have hN := y_asksW g3.1 (by omega : k < 10) hw s90 e90
          have F90 : F_x12_qAsksWord s88 s90 := fr_x12_qAsksWord e90
          obtain ⟨hR8, hp⟩ := REL_adv g3 hN (fun i hi => F90.1 i (by simp; omega)) (fun j => F90.2.1 j (by simp)) e8
          have F8 : F_x6_advance u s8 := fr_x6_advance e8
          have z9 := g4 109 (by decide)
          have z941 : gI s8 941 = gI s 941 := (F8.1 941 (by decide)).trans (g4 941 (by decide))
          have lt9 : gI s 108 < gI s 109 := by
            rcases hT.2.2 with q | q
            · omega
            · omega
          have k13 : FKp 100 101 s10 s' := FKp.tr (FKp.of (fr_x0_add e13) (by decide) (by decide)) (FKp.i e14 (by decide) (by decide))
          refine h2 s8 s10 s90 ((60 + (k : Int) - 8) :: K) k0 b0 f0 P x13 e10 hR8 (fun z10 l10 gr o hRo => ?_) (fun o hb => hF o (BR_b k13 hb)) m
          refine PE_of hRo (by omega) (c := c) (cr_o hc hk) (by omega) e13 e14 (fun o2 hR2 => ?_)
          have k1' := hRo.1.2.2.1.1.1
          obtain ⟨⟨w1, _⟩, w3, _⟩ := s_add (by have := hRo.2.2.2.2.1; omega) s13 e13
          have y941 : gI s' 941 = gI s10 941 + 1 := (q_Ii e14 (by decide)).trans w1
          have y108 : gI s' 108 = gI s10 108 := (q_Ii e14 (by decide)).trans (w3 108 (by decide))
          exact hE hR2.1.2.1.1 (by omega) (by omega) o2 hR2
      · have B : BR s' s90 := by
          have kf : FKp 5 6 s88 s90 := fk_x12_qAsksWord s90 e90
          rw [h2'] at g4
          rcases hq with ⟨_, z⟩ | ⟨z, _⟩
          · rw [z]; exact BR_go (BR_mk (k := 4) (p := gI s 108) (by decide) g2 ⟨g3, g4⟩) (FKp.rf u) kf
          · omega
        exact PA_bad (BR_0 B) (BR_P B hF) m
    · exact absurd ⟨b, a, by omega⟩ c.2.2.2
  · -- an atom
    rcases hs with ⟨c, q, e1, e2⟩ | ⟨c, _⟩ | ⟨c1, c, hc, _⟩ | ⟨c1, c, hc, _⟩ | ⟨c, hc⟩
    · refine r_J186 hS (fun k hk hw => by omega) (fun _ T hT2 => P_num hT2 c e1 e2 hE hF)
    · exact absurd c n1
    · exact absurd ⟨c1, by omega⟩ n2
    · exact absurd ⟨c1.2, c1.1, by omega⟩ n3
    · rcases hc with ⟨fc, s1, e1, e2⟩ | ⟨nf, hb⟩
      · refine r_J186 hS (fun k hk hw ha T hN tI tA => P_fact hS hk hw hN tI tA e1 e2 hE) (fun hn T hT2 => ?_)
        obtain ⟨k, hk, hw, ha⟩ := (FCT_k hm).1 fc
        exact absurd ha (hn k hk hw)
      · refine r_J186 hS (fun k hk hw ha T hN tI tA => absurd ((FCT_k hm).2 ⟨k, hk, hw, ha⟩) nf) (fun hn T hT2 => ?_)
        refine pc_bn (fun q13 e13 => ?_)
        have hq := y_num hT2.1 (by omega) q13 e13
        obtain ⟨r13, T3⟩ := q13
        dsimp only at hq ⊢
        rcases hq with ⟨_, b⟩ | ⟨a, _⟩ | ⟨a, _⟩ | ⟨a, _⟩
        · have B : BR s' T3 := BR_mk (by decide) hb b
          exact J237_bad (BR_0 B) (BR_P B hF)
        · exact absurd a.1 c.1
        · exact absurd a.1 c.1
        · exact absurd a.1 c.1
end RG
