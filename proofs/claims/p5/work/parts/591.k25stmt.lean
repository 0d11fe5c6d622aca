/-! ===== a statement, whole ===== -/
theorem tk_own {w : Nat} {s t : MS} (h : SY s t) (hP : PLJ s t) (hw : w < 27) : pc (m_x12_takes (11 + w) (wl w) t) (fun q => (PLJ s q.2 ∧ gI q.2 46 = gI t 46) ∧ ((q.1 = 1 ∧ (gI s 107 = 1 ∧ gI s 110 = (w : Int)) ∧ NX s q.2) ∨ (q.1 = 0 ∧ ¬ (gI s 107 = 1 ∧ gI s 110 = (w : Int)) ∧ SY s q.2 ∧ gI q.2 2 = gI s 108))) := fun q e => by
  have F : F_x12_takes t q.2 := fr_x12_takes e
  refine ⟨⟨PL_f hP (Fr.rf s) (Fr_w F (by decide)), F.1 46 (by decide)⟩, ?_⟩
  rcases y_takes h (by omega) rfl (fun j hj => h.2.2.2.2.2.1 w hw j hj) q e with ⟨a, b, c, d⟩ | ⟨a, b, c, d⟩
  · exact Or.inl ⟨a, ⟨b, c⟩, d⟩
  · exact Or.inr ⟨a, b, c, d⟩
theorem STC_vol {s o : MS} {hd : Int} (h : STC s hd o) (k : hd = 2 ∨ hd = 3) : ∃ u, m_x6_readVolume hd s = some u ∧ m_x6_readStatement_J244 u = some o := by
  rcases h with ⟨_, q⟩ | ⟨a, _⟩ | ⟨a, _⟩ | ⟨a, _⟩ | ⟨a, _⟩
  · exact q
  all_goals exfalso; omega
theorem STC_chg {s o : MS} {hd : Int} (h : STC s hd o) (k : hd = 5 ∨ hd = 6) : ∃ u, m_x6_readChange hd s = some u ∧ m_x6_readStatement_J244 u = some o := by
  rcases h with ⟨a, _⟩ | ⟨_, q⟩ | ⟨a, _⟩ | ⟨a, _⟩ | ⟨a, _⟩
  · exfalso; omega
  · exact q
  all_goals exfalso; omega
theorem STC_frm {s o : MS} {hd : Int} (h : STC s hd o) (k : hd = 7 ∨ hd = 8 ∨ hd = 9) : ∃ s8 u u2, m_x6_beginFormula (hd - 7) s = some s8 ∧ ((hd - 7 = 1 ∧ m_x6_readTestC s8 = some u) ∨ (hd - 7 ≠ 1 ∧ m_x6_readSumC s8 = some u)) ∧ sA u 46 (upZ (gA u 46) (hd - 7).toNat (gI u 941)) = u2 ∧ m_x6_readStatement_J244 u2 = some o := by
  rcases h with ⟨a, _⟩ | ⟨a, _⟩ | ⟨_, q⟩ | ⟨a, _⟩ | ⟨a, _⟩
  · exfalso; omega
  · exfalso; omega
  · exact q
  all_goals exfalso; omega
theorem STC_chu {s o : MS} {hd : Int} (h : STC s hd o) (k : hd = 10) : ∃ u q u2, m_x6_advance s = some u ∧ m_x6_expectNumber 0 100 u = some q ∧ sI q.2 782 q.1 = u2 ∧ m_x6_readStatement_J244 u2 = some o := by
  rcases h with ⟨a, _⟩ | ⟨a, _⟩ | ⟨a, _⟩ | ⟨_, q⟩ | ⟨a, _⟩
  · exfalso; omega
  · exfalso; omega
  · exfalso; omega
  · exact q
  · exfalso; omega
theorem STC_bad {s o : MS} {hd : Int} (h : STC s hd o) (k : hd ≠ 2 ∧ hd ≠ 3 ∧ hd ≠ 5 ∧ hd ≠ 6 ∧ hd ≠ 7 ∧ hd ≠ 8 ∧ hd ≠ 9 ∧ hd ≠ 10) : gI o 100 = 1 ∧ gI o 101 = gI s 108 := by
  rcases h with ⟨a, _⟩ | ⟨a, _⟩ | ⟨a, _⟩ | ⟨a, _⟩ | ⟨_, q⟩
  · exfalso; omega
  · exfalso; omega
  · exfalso; omega
  · exfalso; omega
  · exact q
theorem HDW_y {s : MS} {hd : Int} (h : HDW s hd) {w : Int} (k : gI s 107 = 1 ∧ gI s 110 = w) : hd = w := by
  rcases h with q | q
  · rw [q.2]; exact k.2
  · exact absurd k.1 q.1
theorem HDW_n {s : MS} {hd : Int} (h : HDW s hd) {w : Int} (k : ¬ (gI s 107 = 1 ∧ gI s 110 = w)) (hw : w ≠ -1) : hd ≠ w := fun e => by
  rcases h with q | q
  · exact k ⟨q.1, by rw [← q.2]; exact e⟩
  · rw [q.2] at e; exact hw e.symm
theorem DONF_of {s u o : MS} (h : DONE s u o) (e : gI u 941 = gI s 941) (hb : gI s 941 ≤ gI s 108) : DONF u o := by
  rcases h with ⟨a, b, c⟩ | q
  · exact Or.inl ⟨a, b, by omega⟩
  · exact Or.inr q
/-- churn -/
theorem y_churn {s s' t : MS} {hd : Int} (h : SY s t) (hP : PLJ s t) (hb : gI s 941 ≤ gI s 108) (h46 : gI t 46 = gI s 783) (hH : HDW s hd) (hS : STC s hd s') (hn : hd ≠ 2 ∧ hd ≠ 3 ∧ hd ≠ 5 ∧ hd ≠ 6 ∧ hd ≠ 7 ∧ hd ≠ 8 ∧ hd ≠ 9) : pc (bn (m_x12_asks 21 5 t) (fun s43 => bn (m_x12_number 0 100 s43) (fun qr46 => inb 10 4 (stn (sA qr46.2 39 (upZ (gA qr46.2 39) (Int.toNat 4) qr46.1)) (fun s48 => m_x12_statementTold_J178 s48))))) (fun o => STD s s' o) := by
  refine pc_bn (fun s43 e43 => pc_bn (fun q46 e46 => pc_inb (pc_stn (fun s48 e48 => ?_))))
  have g : pc (m_x12_asks 21 5 t) (fun o => (hd = 10 ∧ NX s o ∧ PLJ s o ∧ gI o 46 = gI t 46) ∨ (hd ≠ 10 ∧ gI o 5 = 1 ∧ gI o 6 = gI s 108)) := by
    unfold m_x12_asks m_x12_asks_J24
    refine pc_rg (pc_if (fun c => pc_bq (tk_own (w := 10) h hP (by decide)) (fun q6 h6 => pc_rg (pc_if (fun c2 => ?_) (fun c2 => pc_some ?_)))) (fun c => absurd h.2.1.2 c))
    · obtain ⟨_, g⟩ := h6
      rcases g with g | ⟨_, g2, g3, g4⟩
      · omega
      · refine pc_bq (m_fail g3.2.1.2) (fun s10 h10 => pc_some (Or.inr ⟨HDW_n hH g2 (by decide), ?_⟩))
        rw [g4] at h10
        exact h10
    · obtain ⟨g1, g⟩ := h6
      rcases g with ⟨_, g2, g3⟩ | g
      · exact Or.inl ⟨HDW_y hH g2, g3, g1.1, g1.2⟩
      · exact absurd g.1 c2
  have kn : FKp 5 6 s43 q46.2 := fk_x12_number q46 e46
  have k48 : FKp 5 6 q46.2 s48 := FKp.a e48
  have F46 : F_x12_number s43 q46.2 := fr_x12_number e46
  rcases g s43 e43 with ⟨k10, N, P43, x46⟩ | ⟨k10, b⟩
  · obtain ⟨u, q, u2, eu, eq, e2, eo⟩ := STC_chu hS k10
    obtain ⟨v, s63⟩ := q
    dsimp only at e2
    have hu := y_adv N u eu
    have a9 := TK_le N.2.2.1.1
    have fu : FC s u := Fr_w (fr_x6_advance eu) (by decide)
    have f63 : FC u s63 := fr_x6_expectNumber eq
    have Pu : PLJ u s43 := PL_f P43 fu (Fr.rf s43)
    have r := y_expNum hu.1 (by decide) eq q46 e46
    have ku : FKp 100 101 s63 u2 := FKp.i e2 (by decide) (by decide)
    have h783 : gI u2 783 = gI s 783 := (q_Ii e2 (by decide)).trans ((f63.1 783 (by decide)).trans (fu.1 783 (by decide)))
    have t46 : gI s48 46 = gI s 783 := by rw [(q_Ai e48 : gI s48 46 = gI q46.2 46), F46.1 46 (by decide), x46]; exact h46
    refine y_J244 ?_ h783 t46 eo
    by_cases z : gI s63 100 = 0
    · have y63 := RS_z r.1 z
      have v63 := r.2 z
      have P63 : PLJ s63 q46.2 := PL_f Pu f63 (Fr_w F46 (by decide))
      have n := g_num hu.1 eq z
      have sI' : ∀ i, i ≠ 782 → gI u2 i = gI s63 i := fun i hi => q_Ii e2 hi
      have sA' : ∀ k, gA u2 k = gA s63 k := fun k => q_Ia e2
      have tI' : ∀ i, gI s48 i = gI q46.2 i := fun i => q_Ai e48
      have tA' : ∀ k, k ≠ 39 → gA s48 k = gA q46.2 k := fun k hk => q_Aa e48 hk
      have t39 : gA s48 39 = upZ (gA q46.2 39) 4 q46.1 := q_AA e48
      have tB' : ∀ k, gB s48 k = gB q46.2 k := fun k => q_Ab e48
      have w941 : gI s63 941 = gI s 941 := (f63.1 941 (by decide)).trans (fu.1 941 (by decide))
      refine Or.inl ⟨SY_f (SY_c y63 (fun i hi => sI' i (by omega)) (sA' 4) (sA' 6)) (tI' 2) (tI' 3) (tI' 4) (tI' 5) (fun k hk => tA' k (by omega)), ⟨NMS_e P63.1 (sI' 784 (by decide)) (sA' 40) (by rw [t39, upZ_n (by decide)]) (tB' 40), ?_, ⟨?_, ?_, ?_⟩, ?_, ?_⟩, ?_⟩
      · unfold ACS
        rw [t39, upZ_n (by decide), sI' 785 (by decide), sA' 41, sA' 42, sA' 43, sA' 44, tA' 41 (by decide)]
        exact P63.2.1
      · rw [t39, upZ_n (by decide), sI' 780 (by decide)]; exact P63.2.2.1.1
      · rw [t39, upZ_n (by decide), sI' 781 (by decide)]; exact P63.2.2.1.2.1
      · rw [t39, upZ_s, (q_II e2 : gI u2 782 = v)]; exact v63.1
      · unfold CDS
        rw [sI' 941 (by decide), sA' 48, sA' 45, sA' 46, tI' 45, tA' 44 (by decide), tA' 42 (by decide), tA' 43 (by decide)]
        exact P63.2.2.2.1
      · rw [sI' 106 (by decide)]; exact P63.2.2.2.2
      · rw [sI' 941 (by decide), sI' 108 (by decide)]; omega
    · exact Or.inr (BR_go (RS_n r.1 z) ku k48)
  · have d := STC_bad hS ⟨hn.1, hn.2.1, hn.2.2.1, hn.2.2.2.1, hn.2.2.2.2.1, hn.2.2.2.2.2.1, hn.2.2.2.2.2.2, k10⟩
    have hB : BR s' s43 := BR_mk (by decide) d b
    unfold m_x12_statementTold_J178
    refine pc_bn (fun t3 f3 => pc_stn (fun t4 f4 => pc_some (Or.inr ?_)))
    exact BR_go hB (FKp.rf s') (kn.tr (k48.tr ((fk_x12_asksSign t3 f3).tr (FKp.i f4 (by decide) (by decide)))))
