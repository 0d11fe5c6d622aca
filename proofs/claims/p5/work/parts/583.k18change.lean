/-! ===== what a STORE has told so far, on both sides ===== -/
def AC1 (k w f g a0 a1 a2 a3 : Int) : Prop := (k = 2 ∧ a0 = 0 ∧ a1 = w ∧ a2 = w) ∨ (k = 3 ∧ a0 = 1 ∧ a1 = f ∧ a2 = w) ∨ (k = 5 ∧ a0 = 2 ∧ a1 = w ∧ a2 = f ∧ a3 = g) ∨ (k = 6 ∧ a0 = 3 ∧ a1 = w ∧ a2 = f)
def ACS (s t : MS) : Prop := (gA t 39 3 = gI s 785 ∧ 0 ≤ gI s 785) ∧ ∀ a : Nat, (a : Int) < gI s 785 → AC1 (gA s 41 a) (gA s 42 a) (gA s 43 a) (gA s 44 a) (gA t 41 (4 * a)) (gA t 41 (4 * a + 1)) (gA t 41 (4 * a + 2)) (gA t 41 (4 * a + 3))
def HDS (s t : MS) : Prop := gA t 39 0 = gI s 780 ∧ gA t 39 1 = gI s 781 ∧ gA t 39 4 = gI s 782
def CDS (s t : MS) : Prop := (gI t 45 = gI s 941 ∧ 0 ≤ gI s 941) ∧ (∀ j : Nat, (j : Int) < gI s 941 → cr (gA s 48 j) (gA t 44 j)) ∧ (∀ w : Nat, w < 3 → gA t 42 w = gA s 45 w ∧ (gA s 45 w ≠ -1 → gA t 43 w = gA s 46 w)) ∧ FSr (gA s 45) (gA s 46) (gA s 48) (gI s 941)
def PLJ (s t : MS) : Prop := NMS s t ∧ ACS s t ∧ HDS s t ∧ CDS s t ∧ gI s 106 = 0
abbrev FC (s o : MS) : Prop := Fr [100, 101, 107, 108, 109, 110, 111] [] [] [] s o
abbrev FRf (t o : MS) : Prop := Fr [2, 4, 5, 6, 10, 38] [] [] [] t o
theorem Fr_w {I J : List Nat} {s o : MS} (h : Fr I [] [] [] s o) (sub : ∀ i, i ∈ I → i ∈ J) : Fr J [] [] [] s o := ⟨fun k hk => h.1 k (fun m => hk (sub k m)), h.2.1, h.2.2.1, h.2.2.2⟩
theorem PL_f {s s' t t' : MS} (h : PLJ s t) (f : FC s s') (g : FRf t t') : PLJ s' t' := by
  have fA : ∀ k, gA s' k = gA s k := fun k => f.2.1 k (by simp)
  have tA : ∀ k, gA t' k = gA t k := fun k => g.2.1 k (by simp)
  have tB : ∀ k, gB t' k = gB t k := fun k => g.2.2.2 k (by simp)
  unfold PLJ NMS ACS HDS CDS
  rw [fA 40, fA 41, fA 42, fA 43, fA 44, fA 45, fA 46, fA 48, tA 39, tA 41, tA 42, tA 43, tA 44, tB 40, f.1 784 (by decide), f.1 785 (by decide), f.1 780 (by decide), f.1 781 (by decide), f.1 782 (by decide), f.1 941 (by decide), f.1 106 (by decide), g.1 45 (by decide)]
  exact h
theorem TK_le {s : MS} (h : TK s) : 0 ≤ gI s 108 ∧ gI s 108 ≤ gI s 109 ∧ gI s 109 ≤ gI s 61 := by
  have k := h.1
  rcases h.2.2 with q | q
  · omega
  · omega
/-- the class's reader goes on -/
theorem g_adv {s t s' : MS} (h : SY s t) (e : m_x6_advance s = some s') : gI s 108 ≤ gI s' 108 := by
  have a := TK_le h.2.2.1.1
  have b := (s_adv h.2.1.1 ⟨⟨by omega, a.2.2⟩, h.2.2.1.1.1.2⟩ h.2.2.1.2.1 h.2.2.1.2.2 s' e).2.1
  omega
theorem g_num {lo hi r : Int} {s t s' : MS} (h : SY s t) (e : m_x6_expectNumber lo hi s = some (r, s')) (z : gI s' 100 = 0) : gI s 108 ≤ gI s' 108 := by
  have a := TK_le h.2.2.1.1
  rcases s_expNum h.2.1.1 ⟨a.1, a.2.2⟩ (r, s') e with q | q | q | q
  · have := q.2.1; dsimp only at this; omega
  · have := q.2.1; dsimp only at this; omega
  · have := q.2.2.1; dsimp only at this; omega
  · exact g_adv h q.2.2.2
theorem g_word {w : Int} {s t s' : MS} (h : SY s t) (e : m_x6_expectWord w s = some s') (z : gI s' 100 = 0) : gI s 108 ≤ gI s' 108 := by
  rcases s_expWord h.2.1.1 s' e with q | q
  · exact g_adv h q.2
  · have := q.2.1; omega
theorem g_sign {w : Int} {s t s' : MS} (h : SY s t) (e : m_x6_expectSign w s = some s') (z : gI s' 100 = 0) : gI s 108 ≤ gI s' 108 := by
  rcases s_expSign h.2.1.1 s' e with q | q
  · exact g_adv h q.2
  · have := q.2.1; omega
theorem g_vol {r : Int} {s t s' : MS} (h : SY s t) (e : m_x6_expectVolume s = some (r, s')) (z : gI s' 100 = 0) : gI s 108 ≤ gI s' 108 := by
  rcases s_expVol h.2.1.1 h.2.2.1.1 (r, s') e with q | q | q | ⟨_, v, _, _, q⟩
  · have := q.2.1; dsimp only at this; omega
  · have := q.2.1; dsimp only at this; omega
  · have := q.2.2.1; dsimp only at this; omega
  · exact g_adv h q
theorem SY_z {s t : MS} (h : SY s t) : gI s 100 = 0 := h.2.1.1
theorem RS_z {s t : MS} (h : RS s t) (z : gI s 100 = 0) : SY s t := by
  rcases h with q | q
  · exact q
  · exact absurd z q.1
theorem RS_n {s t : MS} (h : RS s t) (z : gI s 100 ≠ 0) : BR s t := by
  rcases h with q | q
  · exact absurd q.2.1.1 z
  · exact q
/-! ===== a change more ===== -/
theorem s_chg {p0 p1 p2 p3 : Int} {s : MS} (h : gI s 785 < 60) : pc (m_x5_addChange p0 p1 p2 p3 s) (fun o => gI o 785 = gI s 785 + 1 ∧ gA o 41 = upZ (gA s 41) (gI s 785).toNat p0 ∧ gA o 42 = upZ (gA s 42) (gI s 785).toNat p1 ∧ gA o 43 = upZ (gA s 43) (gI s 785).toNat p2 ∧ gA o 44 = upZ (gA s 44) (gI s 785).toNat p3) := by
  unfold m_x5_addChange m_x5_addChange_J60
  refine pc_rg (pc_if (fun c => by exfalso; omega) (fun c => pc_inb (pc_stn (fun s5 e5 => pc_inb (pc_stn (fun s7 e7 => pc_inb (pc_stn (fun s9 e9 => pc_inb (pc_stn (fun s11 e11 => pc_stn (fun s12 e12 => pc_some ?_))))))))))) 
  have i5 : gI s5 785 = gI s 785 := q_Ai e5
  have i7 : gI s7 785 = gI s 785 := (q_Ai e7).trans i5
  have i9 : gI s9 785 = gI s 785 := (q_Ai e9).trans i7
  have i11 : gI s11 785 = gI s 785 := (q_Ai e11).trans i9
  refine ⟨by rw [(q_II e12 : gI s12 785 = gI s11 785 + 1), i11], ?_, ?_, ?_, ?_⟩
  · rw [(q_Ia e12 : gA s12 41 = gA s11 41), (q_Aa e11 (by decide) : gA s11 41 = gA s9 41), (q_Aa e9 (by decide) : gA s9 41 = gA s7 41), (q_Aa e7 (by decide) : gA s7 41 = gA s5 41), (q_AA e5 : gA s5 41 = _)]
  · rw [(q_Ia e12 : gA s12 42 = gA s11 42), (q_Aa e11 (by decide) : gA s11 42 = gA s9 42), (q_Aa e9 (by decide) : gA s9 42 = gA s7 42), (q_AA e7 : gA s7 42 = _), i5, (q_Aa e5 (by decide) : gA s5 42 = gA s 42)]
  · rw [(q_Ia e12 : gA s12 43 = gA s11 43), (q_Aa e11 (by decide) : gA s11 43 = gA s9 43), (q_AA e9 : gA s9 43 = _), i7, (q_Aa e7 (by decide) : gA s7 43 = gA s5 43), (q_Aa e5 (by decide) : gA s5 43 = gA s 43)]
  · rw [(q_Ia e12 : gA s12 44 = gA s11 44), (q_AA e11 : gA s11 44 = _), i9, (q_Aa e9 (by decide) : gA s9 44 = gA s7 44), (q_Aa e7 (by decide) : gA s7 44 = gA s5 44), (q_Aa e5 (by decide) : gA s5 44 = gA s 44)]
theorem m_act {p0 p1 p2 p3 : Int} {t : MS} (h5 : gI t 5 = 0) (h3 : 0 ≤ gA t 39 3) : pc (m_x12_actTold p0 p1 p2 p3 t) (fun o => (gA o 39 3 = gA t 39 3 + 1 ∧ ∀ k, k ≠ 3 → gA o 39 k = gA t 39 k) ∧ (gA o 41 (4 * (gA t 39 3).toNat) = p0 ∧ gA o 41 (4 * (gA t 39 3).toNat + 1) = p1 ∧ gA o 41 (4 * (gA t 39 3).toNat + 2) = p2 ∧ gA o 41 (4 * (gA t 39 3).toNat + 3) = p3) ∧ ∀ k : Nat, (k : Int) < 4 * gA t 39 3 → gA o 41 k = gA t 41 k) := by
  unfold m_x12_actTold
  refine pc_rg (pc_if (fun c => pc_rdI (fun _ => pc_inb (pc_stn (fun s5 e5 => pc_inb (pc_stn (fun s7 e7 => pc_inb (pc_stn (fun s9 e9 => pc_inb (pc_stn (fun s11 e11 => pc_rdI (fun _ => pc_inb (pc_stn (fun s14 e14 => pc_some ?_))))))))))))) (fun c => absurd h5 c))
  have e3 : gA t 39 (Int.toNat 3) = gA t 39 3 := rfl
  rw [e3] at e5 e7 e9 e11
  have r39 : gA s11 39 = gA t 39 := (q_Aa e11 (by decide)).trans ((q_Aa e9 (by decide)).trans ((q_Aa e7 (by decide)).trans (q_Aa e5 (by decide))))
  have r41 : gA s14 41 = upZ (upZ (upZ (upZ (gA t 41) (4 * gA t 39 3).toNat p0) (4 * gA t 39 3 + 1).toNat p1) (4 * gA t 39 3 + 2).toNat p2) (4 * gA t 39 3 + 3).toNat p3 := by
    rw [(q_Aa e14 (by decide) : gA s14 41 = gA s11 41), (q_AA e11 : gA s11 41 = _), (q_AA e9 : gA s9 41 = _), (q_AA e7 : gA s7 41 = _), (q_AA e5 : gA s5 41 = _)]
  have q39 : gA s14 39 = upZ (gA t 39) 3 (gA t 39 3 + 1) := by
    rw [(q_AA e14 : gA s14 39 = _), r39]
    rfl
  refine ⟨⟨by rw [q39, upZ_s], fun k hk => by rw [q39, upZ_n hk]⟩, ⟨?_, ?_, ?_, ?_⟩, fun k hk => ?_⟩
  · rw [r41, upZ_n (by omega), upZ_n (by omega), upZ_n (by omega), show (4 * gA t 39 3).toNat = 4 * (gA t 39 3).toNat by omega, upZ_s]
  · rw [r41, upZ_n (by omega), upZ_n (by omega), show (4 * gA t 39 3 + 1).toNat = 4 * (gA t 39 3).toNat + 1 by omega, upZ_s]
  · rw [r41, upZ_n (by omega), show (4 * gA t 39 3 + 2).toNat = 4 * (gA t 39 3).toNat + 2 by omega, upZ_s]
  · rw [r41, show (4 * gA t 39 3 + 3).toNat = 4 * (gA t 39 3).toNat + 3 by omega, upZ_s]
  · rw [r41, upZ_n (by omega), upZ_n (by omega), upZ_n (by omega), upZ_n (by omega)]
theorem y_act {p0 p1 p2 p3 q0 q1 q2 q3 : Int} {s s' t : MS} (h : SY s t) (hP : PLJ s t) (h60 : gI s 785 < 60) (hA : AC1 p0 p1 p2 p3 q0 q1 q2 q3) (e : m_x5_addChange p0 p1 p2 p3 s = some s') : pc (m_x12_actTold q0 q1 q2 q3 t) (fun o => SY s' o ∧ PLJ s' o ∧ gI s' 108 = gI s 108) := by
  have F1 : F_x5_addChange s s' := fr_x5_addChange e
  obtain ⟨a1, a2, a3, a4, a5⟩ := s_chg h60 s' e
  have b := hP.2.1.1
  intro o eo
  have F2 : F_x12_actTold t o := fr_x12_actTold eo
  obtain ⟨⟨c1, c2⟩, ⟨c3, c4, c5, c6⟩, c7⟩ := m_act h.2.1.2 (by omega) o eo
  refine ⟨SY_f (SY_c h (fun i hi => F1.1 i (by simp; omega)) (F1.2.1 4 (by decide)) (F1.2.1 6 (by decide))) (F2.1 2 (by simp)) (F2.1 3 (by simp)) (F2.1 4 (by simp)) (F2.1 5 (by simp)) (fun k hk => F2.2.1 k (by simp; omega)), ⟨NMS_e hP.1 (F1.1 784 (by decide)) (F1.2.1 40 (by decide)) (c2 2 (by decide)) (F2.2.2.2 40 (by simp)), ⟨⟨by rw [c1, a1]; omega, by omega⟩, fun a ha => ?_⟩, ⟨?_, ?_, ?_⟩, ?_, ?_⟩, F1.1 108 (by decide)⟩
  · rw [a2, a3, a4, a5]
    by_cases z : (a : Int) < gI s 785
    · rw [upZ_n (by omega), upZ_n (by omega), upZ_n (by omega), upZ_n (by omega), c7 _ (by omega), c7 _ (by omega), c7 _ (by omega), c7 _ (by omega)]
      exact hP.2.1.2 a z
    · have ea : a = (gI s 785).toNat := by omega
      have eb : a = (gA t 39 3).toNat := by omega
      rw [← eb] at c3 c4 c5 c6
      rw [← ea, upZ_s, upZ_s, upZ_s, upZ_s, c3, c4, c5, c6]
      exact hA
  · rw [c2 0 (by decide), F1.1 780 (by decide)]; exact hP.2.2.1.1
  · rw [c2 1 (by decide), F1.1 781 (by decide)]; exact hP.2.2.1.2.1
  · rw [c2 4 (by decide), F1.1 782 (by decide)]; exact hP.2.2.1.2.2
  · unfold CDS
    rw [F1.1 941 (by decide), F1.2.1 48 (by decide), F1.2.1 45 (by decide), F1.2.1 46 (by decide), F2.1 45 (by simp), F2.2.1 44 (by decide), F2.2.1 42 (by decide), F2.2.1 43 (by decide)]
    exact hP.2.2.2.1
  · rw [F1.1 106 (by decide)]; exact hP.2.2.2.2
/-- actTold does nothing behind a fault -/
theorem m_actB {p0 p1 p2 p3 : Int} {t : MS} (h5 : gI t 5 ≠ 0) : pc (m_x12_actTold p0 p1 p2 p3 t) (fun o => o = t) := by
  unfold m_x12_actTold
  exact pc_rg (pc_if (fun c => absurd c h5) (fun c => pc_some rfl))
/-! ===== put and remove ===== -/
def DONE (s s' o : MS) : Prop := (SY s' o ∧ PLJ s' o ∧ gI s 108 ≤ gI s' 108) ∨ BR s' o
theorem y_put {s s' t : MS} (h : NX s t) (hP : PLJ s t) (h60 : gI s 785 < 60) (e : m_x6_readChange 5 s = some s') : pc (m_x12_putTold t) (fun o => DONE s s' o) := by
  have g : pc (m_x6_readChange 5 s) (fun o => ∃ s9 q12 q15 q20, m_x6_advance s = some s9 ∧ m_x6_expectVolume s9 = some q12 ∧ m_x6_expectNumber 0 999 q12.2 = some q15 ∧ m_x6_expectNumber 0 999 q15.2 = some q20 ∧ m_x5_addChange 5 q12.1 q15.1 q20.1 q20.2 = some o) := by
    unfold m_x6_readChange m_x6_readChange_J37
    exact pc_bn (fun s9 e9 => pc_bn (fun q12 e12 => pc_bn (fun q15 e15 => pc_rg (pc_if (fun _ => pc_bn (fun q20 e20 => pc_bn (fun s7 e7 => pc_some ⟨s9, q12, q15, q20, e9, e12, e15, e20, e7⟩))) (fun c => absurd rfl c)))))
  obtain ⟨s9, ⟨v, s12⟩, ⟨k, s15⟩, ⟨w, s20⟩, e9, e12, e15, e20, e7⟩ := g s' e
  dsimp only at e15 e20 e7
  have h9 := (y_adv h s9 e9)
  have a9 := TK_le h.2.2.1.1
  have f9 : FC s s9 := Fr_w (fr_x6_advance e9) (by decide)
  have f12 : FC s9 s12 := fr_x6_expectVolume e12
  have f15 : FC s12 s15 := fr_x6_expectNumber e15
  have f20 : FC s15 s20 := fr_x6_expectNumber e20
  have k15 : FKp 100 101 s12 s15 := fk_x6_expectNumber _ e15
  have k20 : FKp 100 101 s15 s20 := fk_x6_expectNumber _ e20
  have k7 : FKp 100 101 s20 s' := FKp.of (fr_x5_addChange e7) (by decide) (by decide)
  unfold m_x12_putTold
  have P9 : PLJ s9 t := PL_f hP f9 (Fr.rf t)
  refine pc_bn (fun q3 e3 => pc_bn (fun q6 e6 => pc_bn (fun q9 e9' => pc_bn (fun o eo => pc_some ?_))))
  obtain ⟨v', t3⟩ := q3
  obtain ⟨k', t6⟩ := q6
  obtain ⟨w', t9⟩ := q9
  dsimp only at e6 e9' eo
  have r3 := y_expVol h9.1 P9.1 e12 _ e3
  dsimp only at r3
  have g3 : FRf t t3 := Fr_w (fr_x12_volumeNamed e3) (by decide)
  have g6 : FRf t3 t6 := Fr_w (fr_x12_number e6) (by decide)
  have g9 : FRf t6 t9 := Fr_w (fr_x12_number e9') (by decide)
  have b6 : FKp 5 6 t3 t6 := fk_x12_number _ e6
  have b9 : FKp 5 6 t6 t9 := fk_x12_number _ e9'
  have last : BR s20 t9 → DONE s s' o := fun hb => by
    have := m_actB (by rw [hb.2.1]; exact hb.1) o eo
    rw [this]
    exact Or.inr (BR_go hb k7 (FKp.rf t9))
  by_cases z12 : gI s12 100 = 0
  · have y12 := RS_z r3.1 z12
    have v12 := r3.2 z12
    have P12 : PLJ s12 t3 := PL_f P9 f12 g3
    have r6 := y_expNum y12 (by decide) e15 _ e6
    dsimp only at r6
    by_cases z15 : gI s15 100 = 0
    · have y15 := RS_z r6.1 z15
      have v15 := r6.2 z15
      have P15 : PLJ s15 t6 := PL_f P12 f15 g6
      have r9 := y_expNum y15 (by decide) e20 _ e9'
      dsimp only at r9
      by_cases z20 : gI s20 100 = 0
      · have y20 := RS_z r9.1 z20
        have v20 := r9.2 z20
        have P20 : PLJ s20 t9 := PL_f P15 f20 g9
        have e785 : gI s20 785 = gI s 785 := (f20.1 785 (by decide)).trans ((f15.1 785 (by decide)).trans ((f12.1 785 (by decide)).trans (f9.1 785 (by decide))))
        obtain ⟨x1, x2, x3⟩ := y_act (q0 := 2) (q1 := v') (q2 := k') (q3 := w') y20 P20 (by omega) (Or.inr (Or.inr (Or.inl ⟨rfl, rfl, v12.1, v15.1, v20.1⟩))) e7 o eo
        have n1 := g_vol h9.1 e12 z12
        have n2 := g_num y12 e15 z15
        have n3 := g_num y15 e20 z20
        exact Or.inl ⟨x1, x2, by omega⟩
      · exact last (RS_n r9.1 z20)
    · exact last (BR_go (RS_n r6.1 z15) k20 b9)
  · exact last (BR_go (RS_n r3.1 z12) (k15.tr k20) (b6.tr b9))
theorem y_remove {s s' t : MS} (h : NX s t) (hP : PLJ s t) (h60 : gI s 785 < 60) (e : m_x6_readChange 6 s = some s') : pc (m_x12_removeTold t) (fun o => DONE s s' o) := by
  have g : pc (m_x6_readChange 6 s) (fun o => ∃ s9 q12 q15, m_x6_advance s = some s9 ∧ m_x6_expectVolume s9 = some q12 ∧ m_x6_expectNumber 0 999 q12.2 = some q15 ∧ m_x5_addChange 6 q12.1 q15.1 0 q15.2 = some o) := by
    unfold m_x6_readChange m_x6_readChange_J37
    exact pc_bn (fun s9 e9 => pc_bn (fun q12 e12 => pc_bn (fun q15 e15 => pc_rg (pc_if (fun c => absurd c (by decide)) (fun _ => pc_bn (fun s7 e7 => pc_some ⟨s9, q12, q15, e9, e12, e15, e7⟩))))))
  obtain ⟨s9, ⟨v, s12⟩, ⟨k, s15⟩, e9, e12, e15, e7⟩ := g s' e
  dsimp only at e15 e7
  have h9 := (y_adv h s9 e9)
  have a9 := TK_le h.2.2.1.1
  have f9 : FC s s9 := Fr_w (fr_x6_advance e9) (by decide)
  have f12 : FC s9 s12 := fr_x6_expectVolume e12
  have f15 : FC s12 s15 := fr_x6_expectNumber e15
  have k15 : FKp 100 101 s12 s15 := fk_x6_expectNumber _ e15
  have k7 : FKp 100 101 s15 s' := FKp.of (fr_x5_addChange e7) (by decide) (by decide)
  unfold m_x12_removeTold
  have P9 : PLJ s9 t := PL_f hP f9 (Fr.rf t)
  refine pc_bn (fun q3 e3 => pc_bn (fun q6 e6 => pc_bn (fun o eo => pc_some ?_)))
  obtain ⟨v', t3⟩ := q3
  obtain ⟨k', t6⟩ := q6
  dsimp only at e6 eo
  have r3 := y_expVol h9.1 P9.1 e12 _ e3
  dsimp only at r3
  have g3 : FRf t t3 := Fr_w (fr_x12_volumeNamed e3) (by decide)
  have g6 : FRf t3 t6 := Fr_w (fr_x12_number e6) (by decide)
  have b6 : FKp 5 6 t3 t6 := fk_x12_number _ e6
  have last : BR s15 t6 → DONE s s' o := fun hb => by
    have := m_actB (by rw [hb.2.1]; exact hb.1) o eo
    rw [this]
    exact Or.inr (BR_go hb k7 (FKp.rf t6))
  by_cases z12 : gI s12 100 = 0
  · have y12 := RS_z r3.1 z12
    have v12 := r3.2 z12
    have P12 : PLJ s12 t3 := PL_f P9 f12 g3
    have r6 := y_expNum y12 (by decide) e15 _ e6
    dsimp only at r6
    by_cases z15 : gI s15 100 = 0
    · have y15 := RS_z r6.1 z15
      have v15 := r6.2 z15
      have P15 : PLJ s15 t6 := PL_f P12 f15 g6
      have e785 : gI s15 785 = gI s 785 := (f15.1 785 (by decide)).trans ((f12.1 785 (by decide)).trans (f9.1 785 (by decide)))
      obtain ⟨x1, x2, x3⟩ := y_act (q0 := 3) (q1 := v') (q2 := k') (q3 := 0) y15 P15 (by omega) (Or.inr (Or.inr (Or.inr ⟨rfl, rfl, v12.1, v15.1⟩))) e7 o eo
      have n1 := g_vol h9.1 e12 z12
      have n2 := g_num y12 e15 z15
      exact Or.inl ⟨x1, x2, by omega⟩
    · exact last (RS_n r6.1 z15)
  · exact last (BR_go (RS_n r3.1 z12) k15 b6)
