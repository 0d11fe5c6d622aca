/-! ===== both readers at the same place ===== -/
def wql : List Nat := 27 :: 28 :: 29 :: 30 :: 31 :: 32 :: 23 :: 22 :: 21 :: 24 :: 25 :: 26 :: 13 :: 11 :: 12 :: 14 :: 15 :: 16 :: 17 :: 18 :: 19 :: 20 :: []
def wqJ (i : Nat) : Nat := wql.getD i 0
/-- the reference's rows of words -/
def RWD (t : MS) : Prop := (∀ w, w < 27 → ∀ j, j < wl w → gA t (11 + w) j = wc w j) ∧ (∀ i, i < 22 → ∀ j, j < wl (wqJ i) → gA t (79 + i) j = wc (wqJ i) j)
theorem RWD_e {t o : MS} (h : RWD t) (e : ∀ k, (11 ≤ k ∧ k ≤ 37) ∨ (79 ≤ k ∧ k ≤ 100) → gA o k = gA t k) : RWD o := ⟨fun w hw j hj => by rw [e _ (by omega)]; exact h.1 w hw j hj, fun i hi j hj => by rw [e _ (by omega)]; exact h.2 i hi j hj⟩
/-- where the last word or number ended -/
def RE (f : Nat → Int) (t : MS) : Prop := gI t 4 ≤ gI t 2 ∧ (gI t 4 = gI t 2 ↔ GLU f (gI t 2))
/-- the same text -/
def TX (s t : MS) : Prop := gI t 3 = gI s 61 ∧ ∀ j : Nat, (j : Int) < gI s 61 → gA t 0 j = gA s 4 j
def SY (s t : MS) : Prop := TX s t ∧ (gI s 100 = 0 ∧ gI t 5 = 0) ∧ (TK s ∧ W6 s ∧ BY s) ∧ (0 ≤ gI t 2 ∧ Ru isB (gA s 4) (gI s 61) (gI t 2) (gI s 108)) ∧ RE (gA s 4) t ∧ RWD t
/-- the reference looks further, over blanks -/
theorem SY_at {s t o : MS} (h : SY s t) (kI : ∀ i, i ≠ 2 → gI o i = gI t i) (kA : ∀ k, gA o k = gA t k) (ha : gI t 2 ≤ gI o 2 ∧ gI o 2 ≤ gI s 108) : SY s o := by
  obtain ⟨⟨h1, h2⟩, ⟨h3, h4⟩, h5, ⟨h6, h7⟩, ⟨h8, h9⟩, h10⟩ := h
  have r1 := h7.1
  refine ⟨⟨by rw [kI 3 (by decide)]; exact h1, fun j hj => by rw [kA]; exact h2 j hj⟩, ⟨h3, by rw [kI 5 (by decide)]; exact h4⟩, h5, ⟨by omega, ⟨⟨ha.2, r1.2⟩, fun j a b => h7.2.1 j (by omega) b, h7.2.2⟩⟩, ⟨by rw [kI 4 (by decide)]; omega, ?_⟩, RWD_e h10 (fun k _ => kA k)⟩
  rw [kI 4 (by decide)]
  by_cases z : gI o 2 = gI t 2
  · rw [z]; exact h9
  · have b := h7.2.1 (gI o 2 - 1).toNat (by omega) (by omega)
    exact ⟨fun q => by omega, fun q => by
      have q2 := q.2
      omega⟩
theorem y_look {s t : MS} (h : SY s t) : pc (m_x12_look t) (fun q => SY s q.2 ∧ gI q.2 2 = gI s 108 ∧ q.1 = gI s 111) := by
  have hT := h.1
  have hk := h.2.2.1.1
  have hr := h.2.2.2.1
  have r1 := hr.2.1
  have L : ∀ (n : Nat) (S : MS), (∀ i, i ≠ 2 → gI S i = gI t i) → (∀ k, gA S k = gA t k) → (gI t 2 ≤ gI S 2 ∧ gI S 2 ≤ gI s 108) → pc (m_x12_look_L0 n S) (fun q => SY s q.2 ∧ gI q.2 2 = gI s 108 ∧ q.1 = gI s 111) := by
    refine fr_ind (fun _ _ _ _ => pc_none) (fun n ih S kI kA ha => ?_)
    show pc (m_x12_look_b0 (m_x12_look_L0 n) S) _
    unfold m_x12_look_b0
    have e3 : gI S 3 = gI s 61 := (kI 3 (by decide)).trans hT.1
    have e0 : gA S 0 = gA t 0 := kA 0
    have fin : gI S 2 = gI s 108 → pc (m_x12_look_J52 S) (fun q => SY s q.2 ∧ gI q.2 2 = gI s 108 ∧ q.1 = gI s 111) := fun e => by
      unfold m_x12_look_J52 m_x12_look_J76
      refine pc_rg (pc_rg (pc_if (fun c => pc_some ⟨SY_at h kI kA ha, e, ?_⟩) (fun c => pc_rdI (fun _ => pc_some ⟨SY_at h kI kA ha, e, ?_⟩))))
      · rcases hk.2.2 with q | q
        · exact q.2.2.1.symm
        · omega
      · rcases hk.2.2 with q | q
        · omega
        · show gA S 0 (gI S 2).toNat = gI s 111
          rw [q.2.1, e0, e]; exact hT.2 _ (by omega)
    have nb : gI S 2 < gI s 61 → ¬ isB (gA t 0 (gI S 2).toNat) → gI S 2 = gI s 108 := fun a b => by
      by_cases z : gI S 2 < gI s 108
      · have q := hr.2.2.1 (gI S 2).toNat (by omega) (by omega)
        rw [hT.2 _ (by omega)] at b
        exact absurd q b
      · omega
    have bl : gI S 2 < gI s 61 → isB (gA t 0 (gI S 2).toNat) → pc (m_x12_look_J39 (m_x12_look_L0 n) S) (fun q => SY s q.2 ∧ gI q.2 2 = gI s 108 ∧ q.1 = gI s 111) := fun a b => by
      unfold m_x12_look_J39
      refine pc_stn (fun s10 e10 => ?_)
      have k2 : gI s10 2 = gI S 2 + 1 := q_II e10
      refine ih s10 (fun i hi => (q_Ii e10 hi).trans (kI i hi)) (fun k => (q_Ia e10).trans (kA k)) ⟨by omega, ?_⟩
      by_cases z : gI S 2 = gI s 108
      · exfalso
        rw [hT.2 _ (by omega), z] at b
        exact hr.2.2.2 (by omega) b
      · omega
    refine pc_rg (pc_rg (pc_if (fun c => fin (by omega)) (fun c => pc_rdI (fun _ => pc_rg (pc_if (fun c2 => bl (by omega) ?_) (fun c2 => pc_rdI (fun _ => pc_rg (pc_if (fun c3 => bl (by omega) ?_) (fun c3 => fin (nb (by omega) ?_))))))))))
    · rw [e0] at c2; exact Or.inl c2
    · rw [e0] at c3; exact Or.inr c3
    · rw [e0] at c2 c3; omega
  unfold m_x12_look
  exact L FU t (fun _ _ => rfl) (fun _ => rfl) ⟨by omega, r1.1⟩
/-- the sign at hand, in cases -/
theorem TK_sg {s : MS} (h : TK s) : (gI s 108 = gI s 61 ∧ gI s 111 = -1 ∧ gI s 107 = 0) ∨ (gI s 108 < gI s 61 ∧ gI s 111 = gA s 4 (gI s 108).toNat) := by
  rcases h.2.2 with q | q
  · exact Or.inl ⟨q.1, q.2.2.1, q.2.1⟩
  · exact Or.inr ⟨q.1, q.2.1⟩
theorem y_here {wid wn w : Nat} {s t : MS} (h : SY s t) (hw : w < 33) (hn : wn = wl w) (hr : ∀ j, j < wn → gA t wid j = wc w j) : pc (m_x12_isHere wid wn t) (fun q => SY s q.2 ∧ gI q.2 2 = gI s 108 ∧ ((q.1 = 1 ∧ gI s 107 = 1 ∧ gI s 110 = (w : Int)) ∨ (q.1 = 0 ∧ ¬ (gI s 107 = 1 ∧ gI s 110 = (w : Int))))) := by
  unfold m_x12_isHere m_x12_isHere_J28
  refine pc_rg (pc_if (fun c => pc_bn (fun q31 e31 => ?_)) (fun c => absurd h.2.1.2 c))
  obtain ⟨hS, h2, h1⟩ := y_look h q31 e31
  have F31 : F_x12_look t q31.2 := fr_x12_look e31
  obtain ⟨r31, S⟩ := q31
  dsimp only at hS h2 h1 F31 ⊢
  have hk := hS.2.2.1.1
  have hT := hS.1
  have k0' := hk.1
  have hw3 := F31.2.1 wid (by simp)
  refine pc_bq m_isL (fun r33 h33 => pc_rg (pc_if (fun c1 => pc_some ⟨hS, h2, Or.inr ⟨rfl, fun q => ?_⟩⟩) (fun c1 => ?_)))
  · rcases hk.2.2 with g | ⟨g1, g2, _, _, g⟩
    · omega
    · rcases g with ⟨a, _⟩ | ⟨_, _, g⟩ | ⟨_, _, _, g⟩
      · omega
      · rcases g with ⟨_, g⟩ | ⟨_, g⟩ <;> omega
      · omega
  · have hl : isL r31 := by omega
    rcases hk.2.2 with g | ⟨g1, g2, g3, g4, g⟩
    · omega
    · rcases g with ⟨a, ru, hwd, kg⟩ | ⟨a, _⟩ | ⟨a, _⟩
      · have POST : ∀ y : Int, ((y = 1 ∧ gI s 107 = 1 ∧ gI s 110 = (w : Int)) ∨ (y = 0 ∧ ¬ (gI s 107 = 1 ∧ gI s 110 = (w : Int)))) → (fun q : Int × MS => SY s q.2 ∧ gI q.2 2 = gI s 108 ∧ ((q.1 = 1 ∧ gI s 107 = 1 ∧ gI s 110 = (w : Int)) ∨ (q.1 = 0 ∧ ¬ (gI s 107 = 1 ∧ gI s 110 = (w : Int))))) (y, S) := fun y hy => ⟨hS, h2, hy⟩
        refine pc_rg (pc_rg (pc_if (fun c2 => pc_some (POST 0 (Or.inr ⟨rfl, fun q => ?_⟩))) (fun c2 => ?_)))
        · have gl := (hS.2.2.2.2.1.2.1 c2.symm)
          rw [h2] at gl
          rcases kg with ⟨_, k⟩ | ⟨k, _⟩
          · omega
          · exact k gl
        · have ng : ¬ GLU (gA s 4) (gI s 108) := fun gl => c2 (by
            have := hS.2.2.2.2.1.2.2 (by rw [h2]; exact gl)
            omega)
          have k1 : gI s 107 = 1 := by
            rcases kg with ⟨k, _⟩ | ⟨_, k⟩
            · exact absurd k ng
            · exact k
          have wm := hwd.2.2 w hw
          have rb := ru.1
          have L76 : gI s 109 - gI s 108 = (wn : Int) → ∀ (n : Nat) (x : Int), (0 ≤ x ∧ x ≤ (wn : Int)) → (∀ j : Nat, (j : Int) < x → gA s 4 ((gI s 108).toNat + j) = wc w j) → pc (m_x12_isHere_L76 wid wn n x S) (fun q => SY s q.2 ∧ gI q.2 2 = gI s 108 ∧ ((q.1 = 1 ∧ gI s 107 = 1 ∧ gI s 110 = (w : Int)) ∨ (q.1 = 0 ∧ ¬ (gI s 107 = 1 ∧ gI s 110 = (w : Int))))) := by
            intro hlen
            refine fr_ind (fun _ _ _ => pc_none) (fun n ih x hx hd => ?_)
            show pc (m_x12_isHere_b76 wid wn (m_x12_isHere_L76 wid wn n) x S) _
            unfold m_x12_isHere_b76
            refine pc_rg (pc_rg (pc_if (fun c3 => pc_some (POST 1 (Or.inl ⟨rfl, k1, wm.2 ⟨by omega, fun j hj => hd j (by omega)⟩⟩))) (fun c3 => pc_rdI (fun _ => pc_rdI (fun _ => pc_rg (pc_rg (pc_if (fun c4 => ih (x + 1) (by omega) (fun j hj => ?_)) (fun c4 => pc_some (POST 0 (Or.inr ⟨rfl, fun q => c4 ?_⟩))))))))))
            · by_cases z : (j : Int) < x
              · exact hd j z
              · rw [hw3, show x.toNat = j by omega, hr j (by omega), h2, show (gI s 108 + x).toNat = (gI s 108).toNat + j by omega, hT.2 _ (by omega)] at c4
                exact c4
            · have m := (wm.1 q.2).2 x.toNat (by omega)
              rw [hw3, hr x.toNat (by omega), h2, show (gI s 108 + x).toNat = (gI s 108).toNat + x.toNat by omega, hT.2 _ (by omega)]
              exact m
          have J61 : pc (m_x12_isHere_J61 wid wn (gI s 109) S) (fun q => SY s q.2 ∧ gI q.2 2 = gI s 108 ∧ ((q.1 = 1 ∧ gI s 107 = 1 ∧ gI s 110 = (w : Int)) ∨ (q.1 = 0 ∧ ¬ (gI s 107 = 1 ∧ gI s 110 = (w : Int))))) := by
            unfold m_x12_isHere_J61
            rw [h2]
            refine pc_rg (pc_rg (pc_if (fun c3 => L76 c3 FU 0 (by omega) (fun j hj => by omega)) (fun c3 => pc_some (POST 0 (Or.inr ⟨rfl, fun q => c3 ?_⟩)))))
            have m := (wm.1 q.2).1
            omega
          have L35 : ∀ (n : Nat) (x : Int), (gI s 108 ≤ x ∧ x ≤ gI s 109) → pc (m_x12_isHere_L35 wid wn n x S) (fun q => SY s q.2 ∧ gI q.2 2 = gI s 108 ∧ ((q.1 = 1 ∧ gI s 107 = 1 ∧ gI s 110 = (w : Int)) ∨ (q.1 = 0 ∧ ¬ (gI s 107 = 1 ∧ gI s 110 = (w : Int))))) := by
            refine fr_ind (fun _ _ => pc_none) (fun n ih x hx => ?_)
            show pc (m_x12_isHere_b35 wid wn (m_x12_isHere_L35 wid wn n) x S) _
            unfold m_x12_isHere_b35
            have e3 := hT.1
            have at_b : x = gI s 109 → pc (m_x12_isHere_J61 wid wn x S) (fun q => SY s q.2 ∧ gI q.2 2 = gI s 108 ∧ ((q.1 = 1 ∧ gI s 107 = 1 ∧ gI s 110 = (w : Int)) ∨ (q.1 = 0 ∧ ¬ (gI s 107 = 1 ∧ gI s 110 = (w : Int))))) := fun e => by rw [e]; exact J61
            refine pc_rg (pc_rg (pc_if (fun c3 => at_b (by omega)) (fun c3 => pc_rdI (fun _ => pc_bq m_isL (fun r23 h23 => pc_rg (pc_if (fun c4 => at_b ?_) (fun c4 => ih (x + 1) ⟨by omega, ?_⟩)))))))
            · rw [hT.2 _ (by omega)] at h23
              by_cases z : x < gI s 109
              · have q := ru.2.1 x.toNat (by omega) (by omega)
                omega
              · omega
            · rw [hT.2 _ (by omega)] at h23
              by_cases z : x = gI s 109
              · have q := ru.2.2 (by omega)
                rw [z] at h23
                omega
              · omega
          rw [h2]
          exact L35 FU (gI s 108) ⟨by omega, by omega⟩
      · omega
      · omega
/-- the reference has taken what the class has at hand -/
def NX (s t : MS) : Prop := TX s t ∧ (gI s 100 = 0 ∧ gI t 5 = 0) ∧ (TK s ∧ W6 s ∧ BY s) ∧ gI t 2 = gI s 109 ∧ RE (gA s 4) t ∧ RWD t
theorem y_adv {s t : MS} (h : NX s t) : pc (m_x6_advance s) (fun o => SY o t ∧ gI s 109 ≤ gI o 108) := by
  obtain ⟨h1, h2, ⟨h3, h4, h5⟩, h6, h7, h8⟩ := h
  have k1 := h3.1
  have b9 : 0 ≤ gI s 109 ∧ gI s 109 ≤ gI s 61 := by
    rcases h3.2.2 with q | q
    · omega
    · omega
  intro o e
  obtain ⟨a1, a2⟩ := s_adv h2.1 ⟨b9, k1.2⟩ h4 h5 o e
  have F : F_x6_advance s o := fr_x6_advance e
  have f4 : gA o 4 = gA s 4 := F.2.1 4 (by decide)
  have f61 : gI o 61 = gI s 61 := F.1 61 (by decide)
  refine ⟨⟨⟨h1.1.trans f61.symm, fun j hj => by rw [f4]; exact h1.2 j (by omega)⟩, ⟨(F.1 100 (by decide)).trans h2.1, h2.2⟩, ⟨a1, W6_e h4 (F.2.1 6 (by decide)), fun j hj => by rw [f4]; exact h5 j (by omega)⟩, ⟨by omega, ?_⟩, by rw [f4]; exact h7, h8⟩, a2.1.1⟩
  rw [f4, f61, h6]; exact a2
theorem y_takes {wid wn w : Nat} {s t : MS} (h : SY s t) (hw : w < 33) (hn : wn = wl w) (hr : ∀ j, j < wn → gA t wid j = wc w j) : pc (m_x12_takes wid wn t) (fun q => (q.1 = 1 ∧ gI s 107 = 1 ∧ gI s 110 = (w : Int) ∧ NX s q.2) ∨ (q.1 = 0 ∧ ¬ (gI s 107 = 1 ∧ gI s 110 = (w : Int)) ∧ SY s q.2 ∧ gI q.2 2 = gI s 108)) := by
  unfold m_x12_takes
  refine pc_bq (y_here h hw hn hr) (fun q3 h3 => ?_)
  obtain ⟨r3, S⟩ := q3
  obtain ⟨hS, h2, h3⟩ := h3
  dsimp only at hS h2 h3 ⊢
  refine pc_rg (pc_if (fun c => pc_some (Or.inr ⟨rfl, ?_, hS, h2⟩)) (fun c => pc_stn (fun s6 e6 => pc_stn (fun s7 e7 => pc_some (Or.inl ⟨rfl, ?_⟩)))))
  · rcases h3 with q | q
    · omega
    · exact q.2
  · obtain ⟨k1, k2⟩ : gI s 107 = 1 ∧ gI s 110 = (w : Int) := by
      rcases h3 with q | q
      · exact q.2
      · exact absurd q.1 c
    refine ⟨k1, k2, ?_⟩
    show NX s s7
    have hk := hS.2.2.1.1
    have kI : ∀ i, i ≠ 2 → i ≠ 4 → gI s7 i = gI S i := fun i a b => (q_Ii e7 b).trans (q_Ii e6 a)
    have kA : ∀ k, gA s7 k = gA S k := fun k => (q_Ia e7).trans (q_Ia e6)
    have e62 : gI s6 2 = gI S 2 + (wn : Int) := q_II e6
    have k72 : gI s7 2 = gI S 2 + (wn : Int) := (q_Ii e7 (by decide)).trans e62
    have k74 : gI s7 4 = gI s7 2 := by rw [(q_II e7 : gI s7 4 = gI s6 2), (q_Ii e7 (by decide) : gI s7 2 = gI s6 2)]
    rcases hk.2.2 with g | ⟨g1, g2, g3, g4, g⟩
    · omega
    · rcases g with ⟨a, ru, hwd, kg⟩ | ⟨_, _, kg⟩ | ⟨_, _, _, kg⟩
      · have m := ((hwd.2.2 w hw).1 k2).1
        have e9 : gI s7 2 = gI s 109 := by omega
        have k1' := hk.1
        refine ⟨⟨(kI 3 (by decide) (by decide)).trans hS.1.1, fun j hj => by rw [kA]; exact hS.1.2 j hj⟩, ⟨hS.2.1.1, (kI 5 (by decide) (by decide)).trans hS.2.1.2⟩, hS.2.2.1, e9, ⟨by omega, fun _ => ⟨by omega, Or.inl ?_⟩, fun _ => k74⟩, RWD_e hS.2.2.2.2.2 (fun k _ => kA k)⟩
        exact ru.2.1 _ (by omega) (by omega)
      · rcases kg with ⟨_, q⟩ | ⟨_, q⟩ <;> omega
      · omega
theorem y_sign {p0 : Int} {s t : MS} (h : SY s t) (hp : 0 ≤ p0 ∧ ¬ isL p0 ∧ ¬ isD p0) : pc (m_x12_takesSign p0 t) (fun q => (q.1 = 1 ∧ gI s 107 = 3 ∧ gI s 111 = p0 ∧ NX s q.2) ∨ (q.1 = 0 ∧ ¬ (gI s 107 = 3 ∧ gI s 111 = p0) ∧ SY s q.2 ∧ gI q.2 2 = gI s 108)) := by
  unfold m_x12_takesSign m_x12_takesSign_J15
  refine pc_rg (pc_if (fun c => pc_bq (y_look h) (fun q6 h6 => ?_)) (fun c => absurd h.2.1.2 c))
  obtain ⟨r6, S⟩ := q6
  obtain ⟨hS, h2, h1⟩ := h6
  dsimp only at hS h2 h1 ⊢
  refine pc_rg (pc_rg (pc_if (fun c2 => pc_stn (fun s10 e10 => pc_some (Or.inl ⟨rfl, ?_⟩))) (fun c2 => pc_some (Or.inr ⟨rfl, fun q => c2 (by omega), hS, h2⟩))))
  have hk := hS.2.2.1.1
  have k1' := hk.1
  have k2 : gI s10 2 = gI S 2 + 1 := q_II e10
  rcases hk.2.2 with g | ⟨g1, g2, g3, g4, g⟩
  · omega
  · rcases g with ⟨a, _⟩ | ⟨a, _⟩ | ⟨a1, a2, a3, a4⟩
    · omega
    · omega
    · refine ⟨a4, by omega, ?_⟩
      show NX s s10
      refine ⟨⟨(q_Ii e10 (by decide)).trans hS.1.1, fun j hj => by rw [(q_Ia e10 : gA s10 0 = gA S 0)]; exact hS.1.2 j hj⟩, ⟨hS.2.1.1, (q_Ii e10 (by decide)).trans hS.2.1.2⟩, hS.2.2.1, by omega, ⟨?_, ?_⟩, RWD_e hS.2.2.2.2.2 (fun k _ => q_Ia e10)⟩
      · rw [(q_Ii e10 (by decide) : gI s10 4 = gI S 4)]
        have := hS.2.2.2.2.1.1
        omega
      · rw [(q_Ii e10 (by decide) : gI s10 4 = gI S 4)]
        have := hS.2.2.2.2.1.1
        refine ⟨fun q => by omega, fun q => ?_⟩
        have q2 := q.2
        rw [show (gI s10 2 - 1).toNat = (gI s 108).toNat by omega] at q2
        rcases q2 with q2 | q2
        · exact absurd q2 a1
        · exact absurd q2 a2
