/-! ===== a QUESTION is read on both sides: the same fault ===== -/
theorem wq_ok : ∀ i, i < 6 → wqJ i = 27 + i := by decide
def NOQ (s : MS) (i : Nat) : Prop := ∀ v : Nat, v < i → ¬ (gI s 107 = 1 ∧ gI s 110 = ((27 + v : Nat) : Int))
theorem NOQ_s {s : MS} {i : Nat} (hN : NOQ s i) (b : ¬ (gI s 107 = 1 ∧ gI s 110 = ((27 + i : Nat) : Int))) : NOQ s (i + 1) := fun v hv => by
  by_cases z : v = i
  · rw [z]; exact b
  · exact hN v (by omega)
theorem q_row {i : Nat} {s t : MS} (h : SY s t) (hi : i < 6) : ∀ j, j < wl (27 + i) → gA t (79 + i) j = wc (27 + i) j := fun j hj => by
  have r := h.2.2.2.2.2.2 i (by omega) j (by rw [wq_ok i hi]; exact hj)
  rw [wq_ok i hi] at r
  exact r
theorem q_takes {i wn : Nat} {s t : MS} (h : SY s t) (hi : i < 6) (hn : wn = wl (27 + i)) (hN : NOQ s i) : pc (m_x12_takes (79 + i) wn t) (fun q => (q.1 = 1 ∧ (gI s 107 = 1 ∧ gI s 110 = ((27 + i : Nat) : Int)) ∧ NX s q.2) ∨ (q.1 = 0 ∧ NOQ s (i + 1) ∧ SY s q.2)) := by
  refine pc_mono (y_takes (w := 27 + i) h (by omega) hn (by rw [hn]; exact q_row h hi)) (fun q hq => ?_)
  rcases hq with ⟨a, b, c, d⟩ | ⟨a, b, c, _⟩
  · exact Or.inl ⟨a, ⟨b, c⟩, d⟩
  · exact Or.inr ⟨a, NOQ_s hN b, c⟩
def KD (s : MS) (q : Int × MS) : Prop := (∃ i : Nat, i < 6 ∧ q.1 = (i : Int) ∧ (gI s 107 = 1 ∧ gI s 110 = ((27 + i : Nat) : Int)) ∧ NX s q.2) ∨ (q.1 = 5 ∧ NOQ s 6 ∧ gI q.2 5 = 1 ∧ gI q.2 6 = gI s 108)
theorem q_asks {s t : MS} (h : SY s t) (hN : NOQ s 5) : pc (m_x12_asks 84 5 t) (fun o => KD s (5, o)) := by
  unfold m_x12_asks m_x12_asks_J24
  refine pc_rg (pc_if (fun c => pc_bq (y_takes (w := 32) h (by decide) (by decide) (q_row (i := 5) h (by decide))) (fun q6 h6 => pc_rg (pc_if (fun c2 => ?_) (fun c2 => pc_some ?_)))) (fun c => absurd h.2.1.2 c))
  · rcases h6 with g | ⟨_, g2, g3, g4⟩
    · omega
    · refine pc_bq (m_fail g3.2.1.2) (fun s10 h10 => pc_some (Or.inr ⟨rfl, NOQ_s hN g2, ?_⟩))
      rw [g4] at h10
      exact h10
  · rcases h6 with ⟨_, g2, g3, g4⟩ | g
    · exact Or.inl ⟨5, by decide, rfl, ⟨g2, g3⟩, g4⟩
    · exact absurd g.1 c2
theorem y_kind {s t : MS} (h : SY s t) : pc (m_x12_qKind t) (fun q => KD s q) := by
  have J : ∀ (i : Nat) (S : MS), i < 5 → (gI s 107 = 1 ∧ gI s 110 = ((27 + i : Nat) : Int)) → NX s S → pc (m_x12_qKind_J76 (i : Int) S) (fun q => KD s q) := fun i S hi hw hN => by
    unfold m_x12_qKind_J76 m_x12_qKind_J90
    exact pc_rg (pc_if (fun c => absurd c (by omega)) (fun _ => pc_some (Or.inl ⟨i, by omega, rfl, hw, hN⟩)))
  unfold m_x12_qKind
  refine pc_bq (q_takes (i := 0) h (by decide) (by decide) (fun v hv => absurd hv (by omega))) (fun q11 h11 => pc_rg (pc_if (fun c => ?_) (fun c => ?_)))
  · rcases h11 with ⟨a, _⟩ | ⟨_, n1, y1⟩
    · omega
    refine pc_bq (q_takes (i := 1) y1 (by decide) (by decide) n1) (fun q16 h16 => pc_rg (pc_if (fun c => ?_) (fun c => ?_)))
    · rcases h16 with ⟨a, _⟩ | ⟨_, n2, y2⟩
      · omega
      refine pc_bq (q_takes (i := 2) y2 (by decide) (by decide) n2) (fun q21 h21 => pc_rg (pc_if (fun c => ?_) (fun c => ?_)))
      · rcases h21 with ⟨a, _⟩ | ⟨_, n3, y3⟩
        · omega
        refine pc_bq (q_takes (i := 3) y3 (by decide) (by decide) n3) (fun q26 h26 => pc_rg (pc_if (fun c => ?_) (fun c => ?_)))
        · rcases h26 with ⟨a, _⟩ | ⟨_, n4, y4⟩
          · omega
          refine pc_bq (q_takes (i := 4) y4 (by decide) (by decide) n4) (fun q31 h31 => pc_rg (pc_if (fun c => ?_) (fun c => ?_)))
          · rcases h31 with ⟨a, _⟩ | ⟨_, n5, y5⟩
            · omega
            unfold m_x12_qKind_J76 m_x12_qKind_J90
            exact pc_rg (pc_if (fun _ => pc_bq (q_asks y5 n5) (fun s8 h8 => pc_some h8)) (fun c2 => absurd rfl c2))
          · rcases h31 with ⟨_, b, d⟩ | ⟨a, _⟩
            · exact J 4 _ (by decide) b d
            · exact absurd a c
        · rcases h26 with ⟨_, b, d⟩ | ⟨a, _⟩
          · exact J 3 _ (by decide) b d
          · exact absurd a c
      · rcases h21 with ⟨_, b, d⟩ | ⟨a, _⟩
        · exact J 2 _ (by decide) b d
        · exact absurd a c
    · rcases h16 with ⟨_, b, d⟩ | ⟨a, _⟩
      · exact J 1 _ (by decide) b d
      · exact absurd a c
  · rcases h11 with ⟨_, b, d⟩ | ⟨a, _⟩
    · exact J 0 _ (by decide) b d
    · exact absurd a c
/-- what is told of the fault -/
def FL7 (s o : MS) : Prop := gI o 7 = gI s 100 ∧ (gI s 100 ≠ 0 → gI o 8 = gI s 101) ∧ (gI s 100 = 0 → gI o 8 = -1)
theorem q_L183 : ∀ (n : Nat) (x y : Int) (S : MS), pc (m_x12_ask_L183 n x y S) (fun o => gI o.2 7 = gI S 7 ∧ gI o.2 8 = gI S 8) := by
  refine fr_ind (fun _ _ _ => pc_none) (fun n ih x y S => ?_)
  show pc (m_x12_ask_b183 (m_x12_ask_L183 n) x y S) _
  have J235 : ∀ (a b c : Int) (S' : MS), gI S' 7 = gI S 7 → gI S' 8 = gI S 8 → pc (m_x12_ask_J235 (m_x12_ask_L183 n) a b c S') (fun o => gI o.2 7 = gI S 7 ∧ gI o.2 8 = gI S 8) := fun a b c S' h7 h8 => by
    unfold m_x12_ask_J235
    refine pc_stn (fun s8 e8 => pc_bn (fun q11 e11 => pc_bn (fun s13 e13 => pc_mono (ih a (b + 1) s13) (fun o ho => ?_))))
    have F11 : F_x12_qTold s8 q11.2 := fr_x12_qTold e11
    have F13 : F_x12_qTakes q11.2 s13 := fr_x12_qTakes e13
    exact ⟨ho.1.trans ((F13.1 7 (by decide)).trans ((F11.1 7 (by decide)).trans ((q_Ii e8 (by decide)).trans h7))), ho.2.trans ((F13.1 8 (by decide)).trans ((F11.1 8 (by decide)).trans ((q_Ii e8 (by decide)).trans h8)))⟩
  have J214 : ∀ (a b c : Int) (S' : MS), gI S' 7 = gI S 7 → gI S' 8 = gI S 8 → pc (m_x12_ask_J214 (m_x12_ask_L183 n) a b c S') (fun o => gI o.2 7 = gI S 7 ∧ gI o.2 8 = gI S 8) := fun a b c S' h7 h8 => by
    unfold m_x12_ask_J214
    refine pc_stn (fun s18 e18 => pc_bn (fun r20 _ => pc_rg (pc_if (fun _ => J235 _ _ _ s18 ((q_Ii e18 (by decide)).trans h7) ((q_Ii e18 (by decide)).trans h8)) (fun _ => pc_bn (fun r24 _ => J235 _ _ _ s18 ((q_Ii e18 (by decide)).trans h7) ((q_Ii e18 (by decide)).trans h8))))))
  unfold m_x12_ask_b183
  exact pc_bn (fun r26 _ => pc_rg (pc_rg (pc_if (fun _ => pc_some ⟨rfl, rfl⟩) (fun _ => pc_stn (fun s30 e30 => pc_bn (fun r32 _ => pc_rg (pc_if (fun _ => J214 _ _ _ s30 (q_Ii e30 (by decide)) (q_Ii e30 (by decide))) (fun _ => pc_bn (fun r36 _ => J214 _ _ _ s30 (q_Ii e30 (by decide)) (q_Ii e30 (by decide)))))))))))
theorem q_J133 {k : Int} {t : MS} : pc (m_x12_ask_J133 k t) (fun o => gI o.2 7 = gI t 5 ∧ gI o.2 8 = gI t 6) := by
  unfold m_x12_ask_J133
  refine pc_stn (fun s44 e44 => pc_stn (fun s45 e45 => ?_))
  have i7 : gI s45 7 = gI t 5 := (q_Ii e45 (by decide)).trans (q_II e44)
  have i8 : gI s45 8 = gI t 6 := (q_II e45).trans (q_Ii e44 (by decide))
  have J : ∀ z : Int, pc (m_x12_ask_J173 k z s45) (fun o => gI o.2 7 = gI t 5 ∧ gI o.2 8 = gI t 6) := fun z => by
    unfold m_x12_ask_J173
    refine pc_stn (fun s40 e40 => pc_stn (fun s41 e41 => pc_mono (q_L183 FU k 0 s41) (fun o ho => ?_)))
    exact ⟨ho.1.trans ((q_Ii e41 (by decide)).trans ((q_Li e40).trans i7)), ho.2.trans ((q_Ii e41 (by decide)).trans ((q_Li e40).trans i8))⟩
  exact pc_rg (pc_if (fun _ => pc_rg (pc_if (fun _ => J _) (fun _ => J _))) (fun _ => pc_some ⟨i7, i8⟩))
/-- where the text should end -/
theorem q_end {x k : Int} {s t : MS} (h : RS s t) (h6 : gI t 5 = 0 → gI t 6 = -1) : pc (m_x6_readQuestion_J104 x s) (fun q => pc (m_x12_ask_J109 k t) (fun o => FL7 q.2 o.2)) := by
  have Jt : ∀ (T : MS) (S : MS), gI T 5 = gI S 100 → (gI S 100 ≠ 0 → gI T 6 = gI S 101) → (gI S 100 = 0 → gI T 6 = -1) → pc (m_x12_ask_J133 k T) (fun o => FL7 S o.2) := fun T S a b c => pc_mono q_J133 (fun o ho => ⟨ho.1.trans a, fun z => ho.2.trans (b z), fun z => ho.2.trans (c z)⟩)
  unfold m_x6_readQuestion_J104 m_x6_readQuestion_J121
  rcases h with h | h
  · have hk := h.2.2.1.1
    have hy := h.2.2.1.2.2
    have E : gI s 111 = -1 ↔ gI s 107 = 0 := by
      rcases hk.2.2 with ⟨_, a, b, _⟩ | ⟨a, b, _, _, g⟩
      · exact ⟨fun _ => a, fun _ => b⟩
      · have k1 := hk.1
        have p : 0 ≤ gI s 111 := by rw [b]; exact hy _ (by omega)
        have q : gI s 107 ≠ 0 := by
          rcases g with ⟨_, _, _, g⟩ | ⟨_, _, g⟩ | ⟨_, _, _, g⟩
          · rcases g with ⟨_, g⟩ | ⟨_, g⟩ <;> omega
          · rcases g with ⟨_, g⟩ | ⟨_, g⟩ <;> omega
          · omega
        exact ⟨fun z => by omega, fun z => absurd z q⟩
    have z5 := h.2.1.2
    have z6 := h6 z5
    refine pc_rg (pc_if (fun c => pc_some ?_) (fun c => pc_bq (s_fail h.2.1.1) (fun q9 h9 => pc_some ?_)))
    · unfold m_x12_ask_J109
      refine pc_rg (pc_if (fun _ => pc_bn (fun q56 e56 => ?_)) (fun c2 => absurd z5 c2))
      obtain ⟨hS', h2, h1⟩ := y_look h q56 e56
      have F : F_x12_look t q56.2 := fr_x12_look e56
      refine pc_rg (pc_if (fun _ => Jt q56.2 s (hS'.2.1.2.trans h.2.1.1.symm) (fun z => absurd h.2.1.1 z) (fun _ => (F.1 6 (by decide)).trans z6)) (fun c2 => absurd (h1.trans (E.2 c)) c2))
    · unfold m_x12_ask_J109
      refine pc_rg (pc_if (fun _ => pc_bn (fun q56 e56 => ?_)) (fun c2 => absurd z5 c2))
      obtain ⟨hS', h2, h1⟩ := y_look h q56 e56
      refine pc_rg (pc_if (fun c2 => absurd (E.1 (h1.symm.trans c2)) c) (fun _ => pc_bq (m_fail hS'.2.1.2) (fun s60 h60 => ?_)))
      rw [h2] at h60
      exact Jt s60 q9.2 (h60.1.trans h9.1.symm) (fun _ => h60.2.trans h9.2.symm) (fun z => absurd (h9.1.symm.trans z) (by decide))
  · have R : pc (m_x12_ask_J109 k t) (fun o => gI o.2 7 = gI s 100 ∧ gI o.2 8 = gI s 101) := by
      unfold m_x12_ask_J109
      exact pc_rg (pc_if (fun c => absurd (h.2.1.symm.trans c) h.1) (fun _ => pc_mono q_J133 (fun o ho => ⟨ho.1.trans h.2.1, ho.2.trans h.2.2⟩)))
    refine pc_rg (pc_if (fun _ => pc_some ?_) (fun _ => pc_bn (fun q9 e9 => pc_some ?_)))
    · exact pc_mono R (fun o ho => ⟨ho.1, fun _ => ho.2, fun z => absurd z h.1⟩)
    · have f := (fk_x6_fail q9 e9) h.1
      exact pc_mono R (fun o ho => ⟨ho.1.trans f.1.symm, fun _ => ho.2.trans f.2.symm, fun z => absurd (f.1.symm.trans z) h.1⟩)
theorem y_readQ {s t : MS} (hR : Rg s) (hW : W6 s) (hl : gI s 61 = gI t 1) (hT : ∀ j : Nat, (j : Int) < gI s 61 → gA s 4 j = gA t 0 j) (hD : RWD t) (hk : gI t 47 ≠ 0) : pc (m_x6_readQuestion s) (fun q => pc (m_x12_ask t) (fun o => FL7 q.2 o.2)) := by
  unfold m_x6_readQuestion
  refine pc_stn (fun s34 e34 => pc_bn (fun s36 e36 => pc_stn (fun s37 e37 => ?_)))
  have k4 : gA s34 4 = gA s 4 := q_Ia e34
  have k6 : gA s34 6 = gA s 6 := q_Ia e34
  have k61 : gI s34 61 = gI s 61 := q_Ii e34 (by decide)
  have R34 : Rg s34 := by
    subst e34
    exact Rg.uI hR (by show (0 : Int) ≤ 0 ∧ (0 : Int) ≤ 1600; omega)
  have F36 : F_x6_begin s34 s36 := fr_x6_begin e36
  have h941 : gI s37 941 = 0 := (q_Ii e37 (by decide)).trans ((F36.1 941 (by decide)).trans (q_II e34))
  have h105 : gI s37 105 = 3 := q_II e37
  -- the reference, ahead of its first word
  have M : ∀ P : Int × MS → Prop, (∀ T, SY s37 T → OPN s37 T → (gI T 104 = 0 ∧ gI T 106 = 0) → CO 0 s37 T [] → gI s37 941 ≤ gI s37 108 → gI T 6 = -1 → pc (bn (m_x12_qKind T) (fun qr82 => rg (gI qr82.2 5) (if (gI qr82.2 5) = 0 then rg qr82.1 (if 3 ≤ qr82.1 then m_x12_ask_J98 qr82.1 qr82.2 else bn (m_x12_qTest qr82.2) (fun s88 => m_x12_ask_J109 qr82.1 s88)) else m_x12_ask_J98 qr82.1 qr82.2))) P) → pc (m_x12_ask t) P := fun P g => by
    unfold m_x12_ask
    refine pc_rg (pc_if (fun c => absurd c hk) (fun _ => pc_stn (fun s69 e69 => pc_stn (fun s70 e70 => pc_stn (fun s71 e71 => pc_stn (fun s72 e72 => pc_stn (fun s73 e73 => pc_stn (fun s74 e74 => pc_stn (fun s75 e75 => pc_stn (fun s76 e76 => pc_stn (fun s77 e77 => pc_stn (fun s78 e78 => pc_stn (fun T eT => ?_)))))))))))))
    have a106 : gI T 106 = 0 := q_II eT
    have a105 : gI T 105 = 0 := (q_Ii eT (by decide)).trans (q_II e78)
    have a104 : gI T 104 = 0 := (q_Ii eT (by decide)).trans ((q_Ii e78 (by decide)).trans (q_II e77))
    have a102 : gI T 102 = 0 := (q_Ii eT (by decide)).trans ((q_Ii e78 (by decide)).trans ((q_Ii e77 (by decide)).trans (q_II e76)))
    have a48 : gI T 48 = 3 := (q_Ii eT (by decide)).trans ((q_Ii e78 (by decide)).trans ((q_Ii e77 (by decide)).trans ((q_Ii e76 (by decide)).trans (q_II e75))))
    have a6 : gI T 6 = -1 := (q_Ii eT (by decide)).trans ((q_Ii e78 (by decide)).trans ((q_Ii e77 (by decide)).trans ((q_Ii e76 (by decide)).trans ((q_Ii e75 (by decide)).trans (q_II e74)))))
    have a5 : gI T 5 = 0 := (q_Ii eT (by decide)).trans ((q_Ii e78 (by decide)).trans ((q_Ii e77 (by decide)).trans ((q_Ii e76 (by decide)).trans ((q_Ii e75 (by decide)).trans ((q_Ii e74 (by decide)).trans (q_II e73))))))
    have a4 : gI T 4 = -1 := (q_Ii eT (by decide)).trans ((q_Ii e78 (by decide)).trans ((q_Ii e77 (by decide)).trans ((q_Ii e76 (by decide)).trans ((q_Ii e75 (by decide)).trans ((q_Ii e74 (by decide)).trans ((q_Ii e73 (by decide)).trans (q_II e72)))))))
    have a2 : gI T 2 = 0 := (q_Ii eT (by decide)).trans ((q_Ii e78 (by decide)).trans ((q_Ii e77 (by decide)).trans ((q_Ii e76 (by decide)).trans ((q_Ii e75 (by decide)).trans ((q_Ii e74 (by decide)).trans ((q_Ii e73 (by decide)).trans ((q_Ii e72 (by decide)).trans (q_II e71))))))))
    have a3 : gI T 3 = gI t 1 := (q_Ii eT (by decide)).trans ((q_Ii e78 (by decide)).trans ((q_Ii e77 (by decide)).trans ((q_Ii e76 (by decide)).trans ((q_Ii e75 (by decide)).trans ((q_Ii e74 (by decide)).trans ((q_Ii e73 (by decide)).trans ((q_Ii e72 (by decide)).trans ((q_Ii e71 (by decide)).trans ((q_Ii e70 (by decide)).trans (q_II e69))))))))))
    have aA : ∀ k, gA T k = gA t k := fun k => by
      subst eT; subst e78; subst e77; subst e76; subst e75; subst e74; subst e73; subst e72; subst e71; subst e70; subst e69
      rfl
    have TXT : TX s34 T := ⟨by rw [a3, k61, hl], fun j hj => by rw [aA, k4]; exact (hT j (by omega)).symm⟩
    obtain ⟨y, y106⟩ := y_begin R34 (W6_e hW k6) TXT a2 a4 a5 (RWD_e hD (fun k _ => aA k)) s36 e36
    have y' : SY s37 T := SY_c y (fun i hi => q_Ii e37 (by omega)) (q_Ia e37) (q_Ia e37)
    have k106 : gI s37 106 = 0 := (q_Ii e37 (by decide)).trans y106
    have p108 := (TK_le y'.2.2.1.1).1
    exact g T y' ⟨⟨by rw [a105, k106], by omega⟩, by rw [a48, h105], by omega⟩ ⟨a104, a106⟩ ⟨⟨by rw [h941, a102]; rfl, by omega, by omega⟩, fun j hj => absurd hj (by omega), trivial⟩ (by omega) a6
  have NB6 : ∀ (T : MS) (q : Int × MS), gI T 6 = -1 → m_x12_qKind T = some q → gI q.2 5 = 0 → gI q.2 6 = -1 := fun T q h6 e => by
    have G : pc (m_x12_qKind T) (fun q => NBp T q.2) := by
      have J76 : ∀ (x : Int) (S : MS), pc (m_x12_qKind_J76 x S) (fun q => NBp S q.2) := fun x S => by
        unfold m_x12_qKind_J76 m_x12_qKind_J90
        exact pc_rg (pc_if (fun _ => pc_bn (fun s8 e8 => pc_some (nb_x12_asks s8 e8))) (fun _ => pc_some (NBp.rf S)))
      have TK' : ∀ {wid wn : Nat} {S : MS} {q : Int × MS}, m_x12_takes wid wn S = some q → NBp T S → NBp T q.2 := fun {wid wn S q} e a => a.tr (NBp.of (fr_x12_takes e) (by decide) (by decide))
      unfold m_x12_qKind
      refine pc_bn (fun q11 e11 => pc_rg (pc_if (fun _ => pc_bn (fun q16 e16 => pc_rg (pc_if (fun _ => pc_bn (fun q21 e21 => pc_rg (pc_if (fun _ => pc_bn (fun q26 e26 => pc_rg (pc_if (fun _ => pc_bn (fun q31 e31 => ?_)) (fun _ => ?_)))) (fun _ => ?_)))) (fun _ => ?_)))) (fun _ => ?_)))
      · have k := TK' e31 (TK' e26 (TK' e21 (TK' e16 (TK' e11 (NBp.rf T)))))
        exact pc_rg (pc_if (fun _ => pc_mono (J76 5 q31.2) (fun o ho => k.tr ho)) (fun _ => pc_mono (J76 4 q31.2) (fun o ho => k.tr ho)))
      · have k := TK' e26 (TK' e21 (TK' e16 (TK' e11 (NBp.rf T))))
        exact pc_mono (J76 3 q26.2) (fun o ho => k.tr ho)
      · have k := TK' e21 (TK' e16 (TK' e11 (NBp.rf T)))
        exact pc_mono (J76 2 q21.2) (fun o ho => k.tr ho)
      · have k := TK' e16 (TK' e11 (NBp.rf T))
        exact pc_mono (J76 1 q16.2) (fun o ho => k.tr ho)
      · have k := TK' e11 (NBp.rf T)
        exact pc_mono (J76 0 q11.2) (fun o ho => k.tr ho)
    exact G q e (fun _ => h6)
  -- the class's word
  have J31 : ∀ w : Int, ((gI s37 107 = 1 ∧ w = gI s37 110) ∨ (gI s37 107 ≠ 1 ∧ w = -1)) → pc (m_x6_readQuestion_J31 w s37) (fun q => pc (m_x12_ask t) (fun o => FL7 q.2 o.2)) := fun w hw => by
    have NO : ∀ {i : Nat}, i < 6 → w = ((27 + i : Nat) : Int) → gI s37 107 = 1 ∧ gI s37 110 = ((27 + i : Nat) : Int) := fun {i} hi e => by
      rcases hw with ⟨a, b⟩ | ⟨_, b⟩
      · exact ⟨a, by omega⟩
      · omega
    have T1 : ∀ {i : Nat}, i < 3 → w = ((27 + i : Nat) : Int) → pc (m_x6_readQuestion_J72 w s37) (fun q => pc (m_x12_ask t) (fun o => FL7 q.2 o.2)) := fun {i} hi e => by
      have hw1 := NO (show i < 6 by omega) e
      unfold m_x6_readQuestion_J72
      refine pc_bn (fun s19 e19 => pc_bn (fun s21 e21 => ?_))
      intro q eq
      refine M _ (fun T y ho h4 hC hb h6 => pc_bn (fun q82 e82 => ?_))
      have G : F_x12_qKind T q82.2 := fr_x12_qKind e82
      rcases y_kind y q82 e82 with ⟨i', hi', e1, w1, N⟩ | ⟨_, hN, _⟩
      · have ii : i' = i := by have a := hw1.2; have b := w1.2; omega
        rw [ii] at e1
        obtain ⟨ya, g9⟩ := y_adv N s19 e19
        have F19 : F_x6_advance s37 s19 := fr_x6_advance e19
        have a2 := TK_le y.2.2.1.1
        have O19 : OPN s19 q82.2 := OPN_e ho (F19.1 106 (by decide)) (F19.1 105 (by decide)) (G.1 105 (by decide)) (G.1 48 (by decide))
        have i941 : gI s19 941 = gI s37 941 := F19.1 941 (by decide)
        have C19 : CO 0 s19 q82.2 [] := by
          unfold CO at hC ⊢
          rw [i941, F19.2.1 48 (by decide), G.1 102 (by decide), G.2.1 101 (by decide)]; exact hC
        have z5 : gI q82.2 5 = 0 := N.2.1.2
        refine pc_rg (pc_if (fun _ => pc_rg (pc_if (fun c => absurd c (by omega)) (fun _ => pc_bn (fun s88 e88 => ?_)))) (fun c => absurd z5 c))
        have D : RS s21 s88 := by
          rcases y_test ya O19 ((G.1 104 (by decide)).trans h4.1) ((G.1 106 (by decide)).trans h4.2) C19 (by omega) e21 s88 e88 with ⟨_, r⟩ | B
          · exact Or.inl r.1
          · exact Or.inr B
        exact q_end D (nb_x12_qTest s88 e88 (fun _ => NB6 T q82 h6 e82 z5)) q eq
      · exact absurd hw1 (hN i (by omega))
    have T2 : ∀ {i : Nat}, 3 ≤ i → i < 6 → w = ((27 + i : Nat) : Int) → pc (m_x6_readQuestion_J83 w s37) (fun q => pc (m_x12_ask t) (fun o => FL7 q.2 o.2)) := fun {i} hi0 hi e => by
      have hw1 := NO hi e
      unfold m_x6_readQuestion_J83
      refine pc_bn (fun s19 e19 => pc_bn (fun s21 e21 => ?_))
      intro q eq
      refine M _ (fun T y ho h4 hC hb h6 => pc_bn (fun q82 e82 => ?_))
      have G : F_x12_qKind T q82.2 := fr_x12_qKind e82
      rcases y_kind y q82 e82 with ⟨i', hi', e1, w1, N⟩ | ⟨_, hN, _⟩
      · have ii : i' = i := by have a := hw1.2; have b := w1.2; omega
        rw [ii] at e1
        obtain ⟨ya, g9⟩ := y_adv N s19 e19
        have F19 : F_x6_advance s37 s19 := fr_x6_advance e19
        have a2 := TK_le y.2.2.1.1
        have O19 : OPN s19 q82.2 := OPN_e ho (F19.1 106 (by decide)) (F19.1 105 (by decide)) (G.1 105 (by decide)) (G.1 48 (by decide))
        have i941 : gI s19 941 = gI s37 941 := F19.1 941 (by decide)
        have g104 : gI q82.2 104 = 0 := (G.1 104 (by decide)).trans h4.1
        have C19 : CO 0 s19 q82.2 [] := by
          unfold CO at hC ⊢
          rw [i941, F19.2.1 48 (by decide), G.1 102 (by decide), G.2.1 101 (by decide)]; exact hC
        have z5 : gI q82.2 5 = 0 := N.2.1.2
        refine pc_rg (pc_if (fun _ => pc_rg (pc_if (fun _ => ?_) (fun c => absurd (by omega) c))) (fun c => absurd z5 c))
        unfold m_x12_ask_J98
        refine pc_rg (pc_if (fun _ => pc_bn (fun s66 e66 => ?_)) (fun c => absurd z5 c))
        have D : RS s21 s66 := by
          rcases y_sum ya O19 (by omega) (fun z => absurd z (by omega)) C19 (by omega) e21 s66 e66 with ⟨_, r⟩ | B
          · exact Or.inl r.1
          · exact Or.inr B
        exact q_end D (nb_x12_qSums s66 e66 (fun _ => NB6 T q82 h6 e82 z5)) q eq
      · exact absurd hw1 (hN i (by omega))
    unfold m_x6_readQuestion_J31
    refine pc_rg (pc_if (fun c => T1 (i := 0) (by decide) c) (fun c0 => pc_if (fun c => T1 (i := 1) (by decide) c) (fun c1 => pc_if (fun c => T1 (i := 2) (by decide) c) (fun c2 => pc_if (fun c => T2 (i := 3) (by decide) (by decide) c) (fun c3 => pc_if (fun c => T2 (i := 4) (by decide) (by decide) c) (fun c4 => pc_if (fun c => T2 (i := 5) (by decide) (by decide) c) (fun c5 => pc_bn (fun q33 e33 => ?_))))))))
    intro q eq
    refine M _ (fun T y ho h4 hC hb h6 => pc_bn (fun q82 e82 => ?_))
    rcases y_kind y q82 e82 with ⟨i', hi', e1, w1, N⟩ | ⟨e1, hN, f5, f6⟩
    · exfalso
      rcases hw with ⟨a, b⟩ | ⟨a, _⟩
      · have := w1.2; omega
      · exact a w1.1
    · have n5 : gI q82.2 5 ≠ 0 := by rw [f5]; decide
      have h33 := s_fail y.2.1.1 q33 e33
      refine pc_rg (pc_if (fun c => absurd c n5) (fun _ => ?_))
      unfold m_x12_ask_J98
      refine pc_rg (pc_if (fun c => absurd c n5) (fun _ => ?_))
      exact q_end (Or.inr (BR_mk (by decide) h33 ⟨f5, f6⟩)) (fun z => absurd z n5) q eq
  exact pc_rg (pc_if (fun c => J31 _ (Or.inl ⟨c, rfl⟩)) (fun c => J31 _ (Or.inr ⟨c, rfl⟩)))
/-- ASK on both sides: the fault, and what was told -/
theorem y_ask {x t : MS} {ts : List MS} (hC : CI x ts) (hR : Rr t) (hJ : JI t) (H : PJ x t) : pc (m_x11_ask x) (fun q => pc (m_x12_ask t) (fun o => PJ q.2 o.2)) := by
  obtain ⟨⟨hW, hD⟩, ⟨hl, hT⟩, hF, hP⟩ := H
  intro q eq o eo
  have F : F_x11_ask x q.2 := fr_x11_ask eq
  have G : F_x12_ask t o.2 := fr_x12_ask eo
  have a : KX x q.2 := ⟨fun i hi => F.1 i (by intro m; simp at m; omega), fun k hk => F.2.1 k (by intro m; simp at m; omega)⟩
  have b : KY t o.2 := ⟨G.1 47 (by decide), fun k hk => G.2.1 k (by intro m; simp at m; omega), FB_e (G.2.1 39 (by decide)) (G.2.1 42 (by decide)) (G.2.1 43 (by decide)) (G.2.1 44 (by decide)), fun j _ => by rw [G.2.2.2 40 (by decide)]⟩
  have L : gI q.2 61 = 0 ∧ gI o.2 1 = 0 ∧ FLT q.2 o.2 := by
    revert eq eo
    by_cases z : gI x 12 = 0
    · have z' : gI t 47 = 0 := hP.1.1.trans z
      intro eq
      have A : pc (m_x11_ask x) (fun q => gI q.2 61 = 0 ∧ gI q.2 100 = gI x 100 ∧ gI q.2 101 = gI x 101) := by
        unfold m_x11_ask
        exact pc_rg (pc_if (fun _ => pc_stn (fun s21 e21 => pc_some ⟨q_II e21, q_Ii e21 (by decide), q_Ii e21 (by decide)⟩)) (fun c => absurd z c))
      have B : pc (m_x12_ask t) (fun o => gI o.2 1 = 0 ∧ gI o.2 7 = gI t 7 ∧ gI o.2 8 = gI t 8) := by
        unfold m_x12_ask
        exact pc_rg (pc_if (fun _ => pc_stn (fun s89 e89 => pc_some ⟨q_II e89, q_Ii e89 (by decide), q_Ii e89 (by decide)⟩)) (fun c => absurd z' c))
      intro eo
      have A' := A q eq
      have B' := B o eo
      exact ⟨A'.1, B'.1, FLT_k hF ⟨A'.2.1, A'.2.2⟩ ⟨B'.2.1, B'.2.2⟩⟩
    · have z' : gI t 47 ≠ 0 := by rw [hP.1.1]; exact z
      have Y := y_readQ hC.1 hW hl hT hD z'
      intro eq eo
      have A : pc (m_x11_ask x) (fun q => gI q.2 61 = 0 ∧ ∃ q10, m_x6_readQuestion x = some q10 ∧ gI q.2 100 = gI q10.2 100 ∧ gI q.2 101 = gI q10.2 101) := by
        unfold m_x11_ask
        refine pc_rg (pc_if (fun c => absurd c z) (fun _ => pc_bn (fun q10 e10 => pc_stn (fun s11 e11 => ?_))))
        have i61 : gI s11 61 = 0 := q_II e11
        have i100 : gI s11 100 = gI q10.2 100 := q_Ii e11 (by decide)
        have i101 : gI s11 101 = gI q10.2 101 := q_Ii e11 (by decide)
        have J : pc (m_x11_ask_J84 q10.1 s11) (fun q => gI q.2 61 = 0 ∧ ∃ q10, m_x6_readQuestion x = some q10 ∧ gI q.2 100 = gI q10.2 100 ∧ gI q.2 101 = gI q10.2 101) := by
          unfold m_x11_ask_J84
          refine pc_bn (fun q5 e5 => pc_some ?_)
          have F5 : F_x11_answerTest s11 q5.2 := fr_x11_answerTest e5
          exact ⟨(F5.1 61 (by decide)).trans i61, q10, e10, (F5.1 100 (by decide)).trans i100, (F5.1 101 (by decide)).trans i101⟩
        refine pc_rg (pc_if (fun _ => pc_rg (pc_if (fun _ => J) (fun _ => pc_if (fun _ => J) (fun _ => pc_if (fun _ => J) (fun _ => pc_bn (fun q20 e20 => pc_some ?_)))))) (fun _ => pc_some ⟨i61, q10, e10, i100, i101⟩))
        have F20 : F_x11_answerSum s11 q20.2 := fr_x11_answerSum e20
        exact ⟨(F20.1 61 (by decide)).trans i61, q10, e10, (F20.1 100 (by decide)).trans i100, (F20.1 101 (by decide)).trans i101⟩
      obtain ⟨A1, q10, e10, i100, i101⟩ := A q eq
      have f := Y q10 e10 o eo
      refine ⟨A1, ?_, by rw [i100]; exact f.1, fun w => by rw [i101]; exact f.2.1 (by rw [← i100]; exact w), fun w => f.2.2 (by rw [← i100]; exact w)⟩
      exact (wp_det (w_x12_ask hR hJ) eo).2.2
  exact ⟨WD_k ⟨hW, hD⟩ a b, TPJ_0 L.1 L.2.1, L.2.2, PTJ_k hP a b⟩
