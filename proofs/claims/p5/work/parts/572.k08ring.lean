/-! ===== sums: brackets ===== -/
section RD
variable {P : MS → Prop} {x13 : Int} {k0 b0 : Int} {f0 : Nat → Int} {s s' s'' : MS} {K E : List Int}
/-- a bracket is taken off -/
theorem REL_pop {t o u : MS} {b : Int} (h : REL k0 b0 f0 s t (b :: K) []) (e1 : sI s 106 (gI s 106 - 1) = u) (rI : ∀ i, i ≠ 104 → i ≠ 105 → gI o i = gI t i) (rA : ∀ k, gA o k = gA t k) (r4 : gI o 104 = gI t 104 - 1) (r5 : gI o 105 = gI t 105 - 1) : REL k0 b0 f0 u o K [] ∧ gA o 103 (gI o 104).toNat = b := by
  obtain ⟨h1, ⟨⟨o1, o2⟩, o3⟩, ⟨h3, h3'⟩, h4, h5, h6⟩ := h
  have hk : gI t 106 < gI t 104 ∧ gA t 103 (gI t 104 - 1).toNat = b ∧ SKr (gA t 103) (gI t 106) (gI t 104 - 1) K := h3'
  have kI : ∀ i, i ≠ 106 → gI u i = gI s i := fun i hi => q_Ii e1 hi
  have kA : ∀ k, gA u k = gA s k := fun k => q_Ia e1
  have a1 : gI u 106 = gI s 106 - 1 := q_II e1
  refine ⟨⟨SY_f (SY_c h1 (fun i hi => kI i (by omega)) (kA 4) (kA 6)) (rI 2 (by decide) (by decide)) (rI 3 (by decide) (by decide)) (rI 4 (by decide) (by decide)) (rI 5 (by decide) (by decide)) (fun k _ => rA k), ⟨⟨by omega, by omega⟩, by rw [rI 48 (by decide) (by decide), kI 105 (by decide)]; exact o3⟩, by rw [rI 106 (by decide) (by decide), r4, rA]; exact ⟨h3, hk.2.2⟩, ?_, by rw [kI 941 (by decide), kI 108 (by decide)]; exact h5, BS_e h6 (rI 106 (by decide) (by decide)) (rA 103)⟩, by rw [rA, r4]; exact hk.2.1⟩
  unfold CO at h4 ⊢
  rw [kI 941 (by decide), kA, rI 102 (by decide) (by decide), rA]; exact h4
/-- a sign closes: c is told with it, if there is a choice -/
theorem PB_close {t u : MS} {b : Int} (h : REL k0 b0 f0 s t (b :: K) E) (hb : b = 20 ∨ b = 23 ∨ b = 24) (hE : ∀ e, e ∈ E → 1 ≤ e ∧ e ≤ 4) (hk : gI s 107 = 3) (h41 : gI s 111 = 41) (e : m_x6_advance s = some s') (eu : sI s' 106 (gI s' 106 - 1) = u) (hP : b = 20 → ∀ o, REL k0 b0 f0 u o K [] → PE P x13 o) (hQ : ∀ d, (b = 23 ∧ d = 5) ∨ (b = 24 ∧ d = 6) → ∀ T o, REL k0 b0 f0 u T K [] → m_x12_qCode d T = some o → PE P x13 o) : PB P x13 t := fun m => by
  cases m with
  | zero => exact pc_none
  | succ m =>
    show pc (m_x12_qGoesOn_b0 (m_x12_qGoesOn_L0 m) t) _
    unfold m_x12_qGoesOn_b0
    have hb0 : gI t 5 = 0 := h.1.2.1.2
    have e1 : brj (E ++ b :: K) = b := by
      rw [brk_E hE]
      show (if 20 ≤ b ∧ b ≤ 24 then b else brj K) = b
      exact if_pos (by omega)
    have J43 : ∀ S : MS, REL k0 b0 f0 s S (b :: K) E → gI S 2 = gI s 108 → pc (m_x12_qGoesOn_J43 (m_x12_qGoesOn_L0 m) S) (QB P x13) := fun S hS h2 => by
      unfold m_x12_qGoesOn_J43
      refine pc_stn (fun s112 e112 => ?_)
      have hN := NX_sg hS.1 h2 hk e112
      obtain ⟨hR, _⟩ := REL_adv hS hN (fun i a => q_Ii e112 (by omega)) (fun k => q_Ia e112) e
      refine pc_bq (y_dtb (by omega) FU E s112 hR (fun x hx => by have := hE x hx; omega)) (fun s114 h114 => pc_stn (fun s115 e115 => pc_stn (fun s116 e116 => pc_rdI (fun _ => ?_))))
      obtain ⟨hO, hv⟩ := REL_pop (o := s116) h114.1 eu (fun i a c => (q_Ii e116 c).trans (q_Ii e115 a)) (fun k => (q_Ia e116).trans (q_Ia e115)) ((q_Ii e116 (by decide)).trans (q_II e115)) (by rw [(q_II e116 : gI s116 105 = _), (q_Ii e115 (by decide) : gI s115 105 = gI s114 105)])
      rw [hv]
      unfold m_x12_qGoesOn_J115 m_x12_qGoesOn_J112
      refine pc_rg (pc_if (fun c => ?_) (fun c => pc_rdI (fun _ => ?_)))
      · exact pc_bq ((hP c s116 hO).2 m FU) (fun s106 h106 => h106)
      · rw [hv]
        refine pc_rg (pc_if (fun c2 => ?_) (fun c2 => ?_))
        · refine pc_bn (fun s110 e110 => ?_)
          unfold m_x12_qGoesOn_J115
          exact pc_bq ((hQ 5 (Or.inl ⟨c2, rfl⟩) s116 s110 hO e110).2 m FU) (fun s106 h106 => h106)
        · refine pc_bn (fun s110 e110 => ?_)
          unfold m_x12_qGoesOn_J115
          exact pc_bq ((hQ 6 (Or.inr ⟨by omega, rfl⟩) s116 s110 hO e110).2 m FU) (fun s106 h106 => h106)
    refine pc_rg (pc_if (fun _ => pc_bq (r_look h) (fun q127 h127 => ?_)) (fun c => absurd hb0 c))
    obtain ⟨hS, h2, h1⟩ := h127
    have br := y_bracket hS.2.2.1.1.1 hS.2.2.1.2
    rw [e1] at br
    refine pc_rg (pc_if (fun c => ?_) (fun c => by omega))
    exact pc_bq br (fun r131 h131 => pc_rg (pc_if (fun c2 => J43 _ hS h2) (fun c2 => pc_bq br (fun r135 h135 => pc_rg (pc_if (fun c3 => J43 _ hS h2) (fun c3 => pc_bq br (fun r139 h139 => pc_rg (pc_if (fun c4 => J43 _ hS h2) (fun c4 => by omega)))))))))
/-- a comma -/
theorem PB_comma {t : MS} {b : Int} (h : REL k0 b0 f0 s t (b :: K) E) (hb : b = 21 ∨ b = 22) (hE : ∀ e, e ∈ E → 1 ≤ e ∧ e ≤ 4) (hn : ¬ OPS s) (e : m_x6_expectSign 44 s = some s') (hP : gI s' 100 = 0 → ∀ o, REL k0 b0 f0 s' o ((b + 2) :: K) [] → gI s 108 < gI s' 108 → PA P x13 o) (hF : ∀ o, BR s' o → P o) : PB P x13 t := by
  have e1 : brj (E ++ b :: K) = b := by
    rw [brk_E hE]
    show (if 20 ≤ b ∧ b ≤ 24 then b else brj K) = b
    exact if_pos (by omega)
  have hs := s_expSign h.1.2.1.1 s' e
  refine PB_tail h hn (fun q => by omega) (fun S hS h2 => y_tail hS (fun _ => ?_) (fun q => by omega) (fun a c _ => by omega))
  unfold m_x12_qGoesOn_J326 m_x12_asksSign m_x12_asksSign_J24
  have hb5 : gI S 5 = 0 := hS.1.2.1.2
  refine pc_bn (fun s4 e4 => ?_)
  have h4 : (gI s' 100 = 0 ∧ REL k0 b0 f0 s' s4 (b :: K) E ∧ gI s 108 < gI s' 108) ∨ BR s' s4 := by
    have g : pc (m_x12_asksSign 44 S) (fun o => (gI s' 100 = 0 ∧ REL k0 b0 f0 s' o (b :: K) E ∧ gI s 108 < gI s' 108) ∨ BR s' o) := by
      unfold m_x12_asksSign m_x12_asksSign_J24
      refine pc_rg (pc_if (fun _ => pc_bq (r_sign hS (by omega)) (fun q6 h6 => pc_rg (pc_if (fun c2 => ?_) (fun c2 => pc_some ?_)))) (fun c => absurd hb5 c))
      · rcases h6 with g | ⟨_, g2, g3, g4⟩
        · omega
        · refine pc_bq (m_fail g3.1.2.1.2) (fun s10 h10 => pc_some (Or.inr ?_))
          rw [g4] at h10
          rcases hs with q | q
          · exact absurd q.1 g2
          · exact BR_mk (by decide) q.2 h10
      · rcases h6 with ⟨_, g2, g3, _, g5⟩ | g
        · rcases hs with q | q
          · obtain ⟨a1, a2⟩ := g5 s' q.2
            have t3 := TK_3' hS.1.2.2.1.1 g2
            exact Or.inl ⟨a1.1.2.1.1, a1, by omega⟩
          · exact absurd ⟨g2, g3⟩ q.1
        · exact absurd g.1 c2
    refine g s4 ?_
    unfold m_x12_asksSign m_x12_asksSign_J24
    exact e4
  rcases h4 with ⟨z, hR, hlt⟩ | hB
  · refine pc_rg (pc_if (fun _ => ?_) (fun c => absurd hR.1.2.1.2 c))
    refine pc_bq (y_dtb (by omega) FU E s4 hR (fun x hx => by have := hE x hx; omega)) (fun s8 h8 => pc_rdI (fun _ => pc_inb (pc_stn (fun s11 e11 => pc_some ?_))))
    obtain ⟨hR8, _⟩ := h8
    refine QB_go ((q_Ai e11).trans hR8.1.2.1.2) (hP z s11 ?_ hlt)
    obtain ⟨h1, h2', ⟨b3, b3'⟩, h4', h5, h6⟩ := hR8
    have st : gI s8 106 < gI s8 104 ∧ gA s8 103 (gI s8 104 - 1).toNat = b ∧ SKr (gA s8 103) (gI s8 106) (gI s8 104 - 1) K := b3'
    have rI : ∀ i, gI s11 i = gI s8 i := fun i => q_Ai e11
    have rA : ∀ k, k ≠ 103 → gA s11 k = gA s8 k := fun k hk => q_Aa e11 hk
    have r103 : gA s11 103 = upZ (gA s8 103) (gI s8 104 - 1).toNat (b + 2) := by rw [(q_AA e11 : gA s11 103 = _), st.2.1]
    refine ⟨SY_f h1 (rI 2) (rI 3) (rI 4) (rI 5) (fun k hk => rA k (by omega)), OPN_e h2' rfl rfl (rI 105) (rI 48), ?_, ?_, h5, (rI 106).trans h6.1, fun j hj => ?_⟩
    · rw [rI 106, rI 104, r103]
      exact ⟨⟨b3.1, fun q => by rw [upZ_n (by omega)]; exact b3.2 q⟩, SKr_top b3.1 b3'⟩
    · unfold CO at h4' ⊢
      rw [rI 102, rA 101 (by decide)]; exact h4'
    · have := h6.1
      rw [r103, upZ_n (by omega)]; exact h6.2 j hj
  · refine pc_rg (pc_if (fun c => ?_) (fun _ => pc_some (QB_bad (BR_P hB hF))))
    exfalso
    have := hB.2.1
    have := hB.1
    omega
/-- signs and words that open -/
theorem r_opens {t : MS} {r d p : Int} (h : REL k0 b0 f0 s t K []) (e : m_x6_opens s = some (r, s')) : pc (m_x12_qOpens d p t) (fun o => (r = 1 ∧ gI s' 100 = 0 ∧ REL k0 b0 f0 s' o (d :: K) [] ∧ (∀ i, i ≠ 106 → gI s' i = gI s i) ∧ (gI s' 106 = gI s 106 + 1 ∧ gA s' 4 = gA s 4) ∧ gI o 2 = gI t 2) ∨ (r = 0 ∧ (gI s' 100 = 4 ∧ gI s' 101 = gI s 108) ∧ gI o 5 = 4 ∧ gI o 6 = p)) := by
  have hs : (gI s 106 < 6 ∧ r = 1 ∧ sI s 106 (gI s 106 + 1) = s') ∨ (6 ≤ gI s 106 ∧ r = 0 ∧ gI s' 100 = 4 ∧ gI s' 101 = gI s 108) := by
    have g : pc (m_x6_opens s) (fun q => (gI s 106 < 6 ∧ q.1 = 1 ∧ sI s 106 (gI s 106 + 1) = q.2) ∨ (6 ≤ gI s 106 ∧ q.1 = 0 ∧ gI q.2 100 = 4 ∧ gI q.2 101 = gI s 108)) := by
      unfold m_x6_opens
      refine pc_rg (pc_if (fun c => pc_stn (fun s3 e3 => pc_some (Or.inl ⟨c, rfl, e3⟩))) (fun c => pc_bn (fun q6 e6 => pc_bo (pc_some (Or.inr ⟨by omega, ?_, s_fail h.1.2.1.1 q6 e6⟩)))))
      have g2 : pc (m_x6_fail 4 (gI s 108) s) (fun q => q.1 = 0) := by
        unfold m_x6_fail m_x6_fail_J22
        exact pc_rg (pc_if (fun _ => pc_stn (fun _ _ => pc_stn (fun _ _ => pc_stn (fun _ _ => pc_some rfl)))) (fun _ => pc_some rfl))
      exact g2 q6 e6
    exact g (r, s') e
  have h5 : gI t 5 = 0 := h.1.2.1.2
  have op := h.2.1.1
  unfold m_x12_qOpens
  refine pc_rg (pc_if (fun _ => pc_rg (pc_if (fun c => pc_bq (m_fail h5) (fun s10 h10 => pc_some (Or.inr ?_))) (fun c => pc_stn (fun s5 e5 => pc_inb (pc_stn (fun s7 e7 => pc_stn (fun s8 e8 => pc_some (Or.inl ?_)))))))) (fun c => absurd h5 c))
  · rcases hs with g | g
    · omega
    · exact ⟨g.2.1, g.2.2, h10⟩
  · rcases hs with ⟨g1, g2, g3⟩ | g
    · have kI : ∀ i, i ≠ 106 → gI s' i = gI s i := fun i hi => q_Ii g3 hi
      have kA : ∀ k, gA s' k = gA s k := fun k => q_Ia g3
      have k6 : gI s' 106 = gI s 106 + 1 := q_II g3
      obtain ⟨h1, ⟨_, o3⟩, h3, h4, h5', h6⟩ := h
      have a5 : gI s5 105 = gI t 105 + 1 := q_II e5
      have R5 : REL k0 b0 f0 s' s5 K [] := by
        refine ⟨SY_f (SY_c h1 (fun i hi => kI i (by omega)) (kA 4) (kA 6)) (q_Ii e5 (by decide)) (q_Ii e5 (by decide)) (q_Ii e5 (by decide)) (q_Ii e5 (by decide)) (fun k _ => q_Ia e5), ⟨⟨by omega, by omega⟩, by rw [(q_Ii e5 (by decide) : gI s5 48 = gI t 48), kI 105 (by decide)]; exact o3⟩, by rw [(q_Ii e5 (by decide) : gI s5 106 = gI t 106), (q_Ii e5 (by decide) : gI s5 104 = gI t 104), (q_Ia e5 : gA s5 103 = gA t 103)]; exact h3, ?_, by rw [kI 941 (by decide), kI 108 (by decide)]; exact h5', BS_e h6 (q_Ii e5 (by decide)) (q_Ia e5)⟩
        unfold CO at h4 ⊢
        rw [kI 941 (by decide), kA, (q_Ii e5 (by decide) : gI s5 102 = gI t 102), (q_Ia e5 : gA s5 101 = gA t 101)]; exact h4
      refine ⟨g2, (kI 100 (by decide)).trans h1.2.1.1, REL_push R5 (fun i hi => (q_Ii e8 hi).trans (q_Ai e7)) (fun k hk => (q_Ia e8).trans (q_Aa e7 hk)) (by rw [(q_II e8 : gI s8 104 = _), (q_Ai e7 : gI s7 104 = gI s5 104)]) ((q_Ia e8).trans (q_AA e7)), kI, ⟨k6, kA 4⟩, ?_⟩
      exact (q_Ii e8 (by decide)).trans ((q_Ai e7).trans (q_Ii e5 (by decide)))
    · omega
end RD
