/-! ===== the ring of tests ===== -/
def SFct (g : MS → Option MS) : Prop := ∀ (s s' t : MS) (K : List Int) (k0 : Int) (f0 : Nat → Int) (P : MS → Prop), g s = some s' → REL k0 0 f0 s t K [] → ¬ (1 ≤ hdk K ∧ hdk K ≤ 4) → (gI s' 100 = 0 → gI s 108 < gI s' 108 → gI s' 941 - gI s 941 ≤ gI s' 108 - gI s 108 → ∀ o, REL k0 0 f0 s' o K [] → PTE P o) → (∀ o, BR s' o → P o) → PTA P t
def ANDw (s : MS) : Prop := gI s 107 = 1 ∧ gI s 110 = 22
def ORw (s : MS) : Prop := gI s 107 = 1 ∧ gI s 110 = 21
def STst (g : MS → Option MS) : Prop := ∀ (s s' t : MS) (K : List Int) (k0 : Int) (f0 : Nat → Int) (P : MS → Prop), g s = some s' → REL k0 0 f0 s t K [] → (¬ (1 ≤ hdk K ∧ hdk K ≤ 4) ∧ hdk K ≠ 10 ∧ hdk K ≠ 11 ∧ hdk K ≠ 12) → (gI s' 100 = 0 → gI s 108 < gI s' 108 → gI s' 941 - gI s 941 ≤ gI s' 108 - gI s 108 → ¬ (gI s' 107 = 1 ∧ (gI s' 110 = 21 ∨ gI s' 110 = 22)) → ∀ (o : MS) (E : List Int), REL k0 0 f0 s' o K E → (∀ e, e ∈ E → e = 10 ∨ e = 11) → PTB P o) → (∀ o, BR s' o → P o) → PTA P t
theorem TK_1' {s : MS} (h : TK s) (hk : gI s 107 = 1) : (0 ≤ gI s 108 ∧ gI s 108 < gI s 61 ∧ gI s 61 ≤ 1600) ∧ gI s 108 < gI s 109 := by
  have k1 := h.1
  rcases h.2.2 with g | ⟨g1, g2, g3, g4, g⟩
  · omega
  · omega
theorem s_cmp {s : MS} (h0 : gI s 100 = 0) : pc (m_x6_comparison s) (fun q => ((gI s 107 = 3 ∧ ((gI s 111 = 60 ∧ q.1 = -7) ∨ (gI s 111 = 62 ∧ q.1 = -8) ∨ (gI s 111 = 61 ∧ q.1 = -9))) ∧ m_x6_advance s = some q.2) ∨ (¬ (gI s 107 = 3 ∧ (gI s 111 = 60 ∨ gI s 111 = 62 ∨ gI s 111 = 61)) ∧ gI q.2 100 = 1 ∧ gI q.2 101 = gI s 108)) := by
  unfold m_x6_comparison m_x6_comparison_J52
  refine pc_bq s_isSign (fun r6 h6 => pc_rg (pc_if (fun c => pc_bq s_isSign (fun r10 h10 => pc_rg (pc_if (fun c2 => pc_bq s_isSign (fun r14 h14 => pc_rg (pc_if (fun c3 => pc_bq (s_fail h0) (fun q19 h19 => pc_bn (fun s4 e4 => pc_some (Or.inr ⟨?_, ?_⟩)))) (fun c3 => pc_bn (fun s4 e4 => pc_some (Or.inl ⟨?_, e4⟩)))))) (fun c2 => pc_bn (fun s4 e4 => pc_some (Or.inl ⟨?_, e4⟩)))))) (fun c => pc_bn (fun s4 e4 => pc_some (Or.inl ⟨?_, e4⟩)))))
  · omega
  · have F : F_x6_advance q19.2 s4 := fr_x6_advance e4
    exact ⟨(F.1 100 (by decide)).trans h19.1, (F.1 101 (by decide)).trans h19.2⟩
  · dsimp only; omega
  · dsimp only; omega
  · dsimp only; omega
section TF
variable {rgs : (MS → Option MS) × (MS → Option MS)}
theorem s_fact {s : MS} : pc (m_x6_readFact rgs s) (fun s' =>
    ((gI s 107 = 1 ∧ gI s 110 = 23) ∧ ∃ q, m_x6_opens s = some q ∧ ((q.1 = 0 ∧ s' = q.2) ∨ (q.1 ≠ 0 ∧ ∃ s47 s49 s52, m_x6_advance q.2 = some s47 ∧ rgs.1 s47 = some s49 ∧ m_x0_add (-12) s49 = some s52 ∧ sI s52 106 (gI s52 106 - 1) = s'))) ∨
    ((gI s 107 = 3 ∧ gI s 111 = 91) ∧ ∃ q, m_x6_opens s = some q ∧ ((q.1 = 0 ∧ s' = q.2) ∨ (q.1 ≠ 0 ∧ ∃ s35 s37 s39, m_x6_advance q.2 = some s35 ∧ rgs.2 s35 = some s37 ∧ m_x6_expectSign 93 s37 = some s39 ∧ sI s39 106 (gI s39 106 - 1) = s'))) ∨
    ((gI s 107 = 1 ∧ gI s 110 = 24) ∧ ∃ s26, m_x0_add 1 s = some s26 ∧ m_x6_advance s26 = some s') ∨
    ((¬ (gI s 107 = 1 ∧ gI s 110 = 23) ∧ ¬ (gI s 107 = 3 ∧ gI s 111 = 91) ∧ ¬ (gI s 107 = 1 ∧ gI s 110 = 24)) ∧ ∃ s15 q s20, m_x6_readSumC s = some s15 ∧ m_x6_comparison s15 = some q ∧ m_x6_readSumC q.2 = some s20 ∧ m_x0_add q.1 s20 = some s')) := by
  unfold m_x6_readFact m_x6_readFact_J134
  refine pc_bq s_isWord (fun r3 h3 => pc_rg (pc_if (fun c => pc_bq s_isSign (fun r7 h7 => pc_rg (pc_if (fun c2 => pc_bq s_isWord (fun r11 h11 => pc_rg (pc_if (fun c3 => ?_) (fun c3 => ?_)))) (fun c2 => ?_)))) (fun c => ?_)))
  · exact pc_bn (fun s15 e15 => pc_bn (fun q18 e18 => pc_bn (fun s20 e20 => pc_eqg (pc_bn (fun s23 e23 => pc_some (Or.inr (Or.inr (Or.inr ⟨⟨by omega, by omega, by omega⟩, s15, q18, s20, e15, e18, e20, e23⟩))))))))
  · exact pc_eqg (pc_bn (fun s26 e26 => pc_bn (fun s28 e28 => pc_some (Or.inr (Or.inr (Or.inl ⟨by omega, s26, e26, e28⟩))))))
  · exact pc_bn (fun q31 e31 => pc_rg (pc_if (fun c4 => pc_some (Or.inr (Or.inl ⟨by omega, q31, e31, Or.inl ⟨c4, rfl⟩⟩))) (fun c4 => pc_bn (fun s35 e35 => pc_bn (fun s37 e37 => pc_bn (fun s39 e39 => pc_stn (fun s40 e40 => pc_some (Or.inr (Or.inl ⟨by omega, q31, e31, Or.inr ⟨c4, s35, s37, s39, e35, e37, e39, e40⟩⟩)))))))))
  · exact pc_bn (fun q43 e43 => pc_rg (pc_if (fun c4 => pc_some (Or.inl ⟨by omega, q43, e43, Or.inl ⟨c4, rfl⟩⟩)) (fun c4 => pc_bn (fun s47 e47 => pc_bn (fun s49 e49 => pc_eqg (pc_bn (fun s52 e52 => pc_stn (fun s53 e53 => pc_some (Or.inl ⟨by omega, q43, e43, Or.inr ⟨c4, s47, s49, s52, e47, e49, e52, e53⟩⟩)))))))))
end TF
section TG1
variable {P : MS → Prop} {k0 : Int} {f0 : Nat → Int} {s s' s1 : MS} {K E : List Int}
theorem REL_fin {t o : MS} (h : REL k0 0 f0 s t K []) (hF : FIN k0 (gI t 104) (gA t 103) s' (gI t 106) o) : REL k0 0 f0 s' o K [] := by
  obtain ⟨a1, a2, ⟨a3, a4, a5⟩, a6, a7⟩ := hF
  have st := h.2.2.1.2
  have e6 := h.2.2.2.2.2.1
  refine ⟨a1, a2, ⟨⟨by omega, fun q => by omega⟩, ?_⟩, a6, a7, a3.trans e6, fun j hj => by omega⟩
  rw [a3, a4]
  exact SKr_c (by omega) st a5
theorem htop_K {t : MS} (h : REL k0 0 f0 s t K []) (hK : ¬ (1 ≤ hdk K ∧ hdk K ≤ 4)) : 0 ≤ gI t 104 ∧ (0 < gI t 104 → ¬ (1 ≤ gA t 103 (gI t 104 - 1).toNat ∧ gA t 103 (gI t 104 - 1).toNat ≤ 4)) := by
  have st := h.2.2.1.2
  have e6 := h.2.2.2.2.2.1
  have le := SKr_le st
  refine ⟨by omega, fun q => ?_⟩
  cases K with
  | nil =>
    have e : gI t 104 = gI t 106 := st
    omega
  | cons k K =>
    have e : gA t 103 (gI t 104 - 1).toNat = k := st.2.1
    rw [e]; exact hK
/-- the sum in a test -/
theorem T_sum {t : MS} (h : REL k0 0 f0 s t K []) (hK : ¬ (1 ≤ hdk K ∧ hdk K ≤ 4)) (e : m_x6_readSumC s = some s') : pc (m_x12_qSums t) (fun o => ((gI s' 100 = 0 ∧ gI s 108 < gI s' 108 ∧ gI s' 941 - gI s 941 ≤ gI s' 108 - gI s 108) ∧ REL k0 0 f0 s' o K []) ∨ BR s' o) := by
  have tp := htop_K h hK
  refine pc_mono (y_sum h.1 h.2.1 tp.1 tp.2 h.2.2.2.1 h.2.2.2.2.1 e) (fun o ho => ?_)
  rcases ho with ⟨⟨a, b, _, d⟩, c⟩ | c
  · exact Or.inl ⟨⟨a, b, d⟩, REL_fin h c⟩
  · exact Or.inr c
theorem cr_cmp {x c d : Int} (h : (x = 60 ∧ c = -7) ∨ (x = 62 ∧ c = -8) ∨ (x = 61 ∧ c = -9)) (g : (x = 60 ∧ d = 7) ∨ (x = 62 ∧ d = 8) ∨ (x = 61 ∧ d = 9)) : cr c d := cr_op (by omega)
/-- two sums compared; growth is told apart -/
theorem T_cmp {t s15 s20 : MS} {q : Int × MS} (h : REL k0 0 f0 s t K []) (hK : ¬ (1 ≤ hdk K ∧ hdk K ≤ 4)) (n24 : ¬ (gI s 107 = 1 ∧ gI s 110 = 24)) (e1 : m_x6_readSumC s = some s15) (e2 : m_x6_comparison s15 = some q) (e3 : m_x6_readSumC q.2 = some s20) (e4 : m_x0_add q.1 s20 = some s') (hE : gI s' 100 = 0 → gI s 108 < gI s' 108 → gI s' 941 - gI s 941 ≤ gI s' 108 - gI s 108 → ∀ o, REL k0 0 f0 s' o K [] → PTE P o) (hF : ∀ o, BR s' o → P o) : pc (m_x12_qFact t) (PTE P) := by
  have k4 : FKp 100 101 s20 s' := FKp.of (fr_x0_add e4) (by decide) (by decide)
  have k3 : FKp 100 101 q.2 s' := (fk_x6_readSumC s20 e3).tr k4
  have k2 : FKp 100 101 s15 s' := (fk_x6_comparison q e2).tr k3
  unfold m_x12_qFact
  refine pc_bn (fun q16 e16 => ?_)
  have F16 : F_x12_takes t q16.2 := fr_x12_takes e16
  rcases y_takes (w := 24) h.1 (by decide) rfl (rw_q h 9 (by decide)) q16 e16 with ⟨_, a, b, _⟩ | ⟨g1, _, g3, _⟩
  · exact absurd ⟨a, b⟩ n24
  · have h16 : REL k0 0 f0 s q16.2 K [] := REL_2 h g3 (fun i hi => F16.1 i (by simp; omega)) (fun k => F16.2.1 k (by simp))
    refine pc_rg (pc_if (fun _ => pc_bq (T_sum h16 hK e1) (fun s20' h20' => ?_)) (fun c => absurd g1 c))
    rcases h20' with ⟨⟨z15, l15, g1'⟩, hR15⟩ | hB
    · refine pc_rg (pc_if (fun _ => pc_bq (r_look hR15) (fun q25 h25 => ?_)) (fun c => absurd hR15.1.2.1.2 c))
      obtain ⟨r25, S⟩ := q25
      obtain ⟨hS, a2, v2⟩ := h25
      dsimp only at hS a2 v2 ⊢
      have hs := s_cmp hR15.1.2.1.1 q e2
      have J63 : ∀ x5 : Int, x5 = gI s15 111 → (x5 = 60 ∨ x5 = 62 ∨ x5 = 61) → pc (m_x12_qFact_J63 x5 S) (PTE P) := fun x5 hx h3 => by
        have k33 : gI s15 107 = 3 := TK_3 hS.1.2.2.1.1 (by omega)
        have t33 := TK_3' hS.1.2.2.1.1 k33
        rcases hs with ⟨⟨_, hc⟩, ea⟩ | ⟨n, _⟩
        · have Fa : F_x6_advance s15 q.2 := fr_x6_advance ea
          have z941 : gI q.2 941 = gI s15 941 := Fa.1 941 (by decide)
          unfold m_x12_qFact_J63 m_x12_qFact_J102
          refine pc_stn (fun s7 e7 => ?_)
          obtain ⟨hR18, p18⟩ := REL_adv hS (NX_sg hS.1 a2 k33 e7) (fun i a => q_Ii e7 (by omega)) (fun k => q_Ia e7) ea
          refine pc_bq (T_sum hR18 hK e3) (fun s9 h9 => ?_)
          have fin : ∀ d : Int, ((x5 = 60 ∧ d = 7) ∨ (x5 = 62 ∧ d = 8) ∨ (x5 = 61 ∧ d = 9)) → pc (bn (m_x12_qCode d s9) (fun s4 => some s4)) (PTE P) := fun d hd => by
            refine pc_bn (fun s4 e4' => pc_some ?_)
            rcases h9 with ⟨⟨z20, l20, g2'⟩, hR20⟩ | hB
            · have b5 := h.2.2.2.2.1
              obtain ⟨hR5, w1, w2⟩ := REL_step hR20 (c := q.1) (d := d) (cr_cmp (x := x5) (by rw [hx]; exact hc) hd) (by omega) e4 e4'
              have w8 := w2 108 (by decide)
              exact hE hR5.1.2.1.1 (by omega) (by omega) s4 hR5
            · have f : FKp 5 6 s9 s4 := FKp.of (fr_x12_qCode e4') (by decide) (by decide)
              have B : BR s' s4 := BR_go (BR_b k4 hB) (FKp.rf s') f
              exact PTE_bad (BR_0 B) (BR_P B hF)
          refine pc_rg (pc_if (fun c => fin 7 (Or.inl ⟨c, rfl⟩)) (fun c => pc_rg (pc_if (fun c2 => fin 8 (Or.inr (Or.inl ⟨c2, rfl⟩))) (fun c2 => fin 9 (Or.inr (Or.inr ⟨by omega, rfl⟩))))))
        · exact absurd ⟨k33, by omega⟩ n
      refine pc_rg (pc_if (fun c => J63 r25 v2 (Or.inl c)) (fun c => pc_rg (pc_if (fun c2 => J63 r25 v2 (Or.inr (Or.inl c2))) (fun c2 => pc_rg (pc_if (fun c3 => J63 r25 v2 (Or.inr (Or.inr c3))) (fun c3 => ?_))))))
      refine pc_bq (m_fail hS.1.2.1.2) (fun s33 h33 => pc_some ?_)
      rw [a2] at h33
      rcases hs with ⟨⟨_, hc⟩, _⟩ | ⟨_, hb⟩
      · omega
      · have B : BR s' s33 := BR_b k3 (BR_mk (by decide) hb h33)
        exact PTE_bad (BR_0 B) (BR_P B hF)
    · have B : BR s' s20' := BR_b k2 hB
      exact pc_rg (pc_if (fun c => absurd c (BR_0 B)) (fun _ => pc_some (PTE_bad (BR_0 B) (BR_P B hF))))
/-- all -/
theorem T_all {t : MS} (h : REL k0 0 f0 s t K []) (hk : gI s 107 = 1) (hw : gI s 110 = 24) (e1 : m_x0_add 1 s = some s1) (e2 : m_x6_advance s1 = some s') (hE : gI s' 100 = 0 → gI s 108 < gI s' 108 → gI s' 941 - gI s 941 ≤ gI s' 108 - gI s 108 → ∀ o, REL k0 0 f0 s' o K [] → PTE P o) : pc (m_x12_qFact t) (PTE P) := by
  have hT := h.1.2.2.1.1
  have t1 := TK_1' hT hk
  have h5 := h.2.2.2.2.1
  unfold m_x12_qFact
  refine pc_bn (fun q16 e16 => ?_)
  have F16 : F_x12_takes t q16.2 := fr_x12_takes e16
  rcases y_takes (w := 24) h.1 (by decide) rfl (rw_q h 9 (by decide)) q16 e16 with ⟨g1, _, _, hN⟩ | ⟨_, g, _⟩
  · refine pc_rg (pc_if (fun c => by omega) (fun _ => pc_bn (fun o eo => pc_some ?_)))
    obtain ⟨⟨a1, a2⟩, a3, a4⟩ := s_add (by omega) s1 e1
    have hN1 : NX s1 q16.2 := NX_c hN (fun i hi => a3 i (by omega)) (a4 4 (by decide)) (a4 6 (by decide))
    obtain ⟨hS, hp⟩ := y_adv hN1 s' e2
    have Fa : F_x6_advance s1 s' := fr_x6_advance e2
    obtain ⟨⟨r1, r2⟩, r3, r4⟩ := y_code o eo
    have tI : ∀ i, 48 ≤ i → gI q16.2 i = gI t i := fun i hi => F16.1 i (by simp; omega)
    have tA : ∀ j, gA q16.2 j = gA t j := fun j => F16.2.1 j (by simp)
    have z1 : gI s' 941 = gI s 941 + 1 := (Fa.1 941 (by decide)).trans a1
    have z9 := a3 109 (by decide)
    have R : REL k0 0 f0 s' o K [] := by
      refine REL_mk (E := []) h (SY_f hS (r3 2 (by decide)) (r3 3 (by decide)) (r3 4 (by decide)) (r3 5 (by decide)) (fun k hk => r4 k (by omega))) (OPN_e h.2.1 ((Fa.1 106 (by decide)).trans (a3 106 (by decide))) ((Fa.1 105 (by decide)).trans (a3 105 (by decide))) ((r3 105 (by decide)).trans (tI 105 (by decide))) ((r3 48 (by decide)).trans (tI 48 (by decide)))) ((r3 106 (by decide)).trans (tI 106 (by decide))) ((r3 104 (by decide)).trans (tI 104 (by decide))) ((r4 103 (by decide)).trans (tA 103)) (CO_both h.2.2.2.1 (c := 1) (d := 13) (Or.inl ⟨by decide, Or.inr ⟨rfl, rfl⟩⟩) z1 ((Fa.2.1 48 (by decide)).trans a2) (by rw [r1, tI 102 (by decide)]) (by rw [r2, tA, tI 102 (by decide)])) (by omega)
    exact hE R.1.2.1.1 (by omega) (by omega) o R
  · exact absurd ⟨hk, hw⟩ g
end TG1
