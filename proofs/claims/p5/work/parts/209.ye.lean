abbrev F_x12_qKind (s o : MS) : Prop := Fr [2, 4, 5, 6] [] [] [] s o
theorem fr_x12_qKind {s : MS} {o : (Int × MS)} (h : m_x12_qKind s = some o) : F_x12_qKind s o.2 := by
  have hF : F_x12_qKind s s := Fr.rf s
  unfold m_x12_qKind at h
  have J90 : ∀ (x1 : Int) (s2 : MS), F_x12_qKind s s2 → m_x12_qKind_J90 x1 s2 = some o → F_x12_qKind s o.2 := by
    intro x1 s2 hF h
    unfold m_x12_qKind_J90 at h
    obtain rfl := Option.some.inj h
    exact hF
  have J76 : ∀ (x3 : Int) (s4 : MS), F_x12_qKind s s4 → m_x12_qKind_J76 x3 s4 = some o → F_x12_qKind s o.2 := by
    intro x3 s4 hF h
    unfold m_x12_qKind_J76 at h
    obtain ⟨hr5, h⟩ := rg_e h
    by_cases c6 : x3 = 5
    · have h := if_t c6 h
      obtain ⟨s8, hc7, h⟩ := bn_e h
      have hF : F_x12_qKind s s8 := Fr.tr hF (fr_x12_asks hc7) (by decide)
      exact J90 x3 s8 hF h
    · have h := if_f c6 h
      exact J90 x3 s4 hF h
  obtain ⟨⟨r11, s10⟩, hc9, h⟩ := bn_e h
  have hF : F_x12_qKind s s10 := Fr.tr hF (fr_x12_takes hc9) (by decide)
  obtain ⟨hr12, h⟩ := rg_e h
  by_cases c13 : r11 = 0
  · have h := if_t c13 h
    obtain ⟨⟨r16, s15⟩, hc14, h⟩ := bn_e h
    have hF : F_x12_qKind s s15 := Fr.tr hF (fr_x12_takes hc14) (by decide)
    obtain ⟨hr17, h⟩ := rg_e h
    by_cases c18 : r16 = 0
    · have h := if_t c18 h
      obtain ⟨⟨r21, s20⟩, hc19, h⟩ := bn_e h
      have hF : F_x12_qKind s s20 := Fr.tr hF (fr_x12_takes hc19) (by decide)
      obtain ⟨hr22, h⟩ := rg_e h
      by_cases c23 : r21 = 0
      · have h := if_t c23 h
        obtain ⟨⟨r26, s25⟩, hc24, h⟩ := bn_e h
        have hF : F_x12_qKind s s25 := Fr.tr hF (fr_x12_takes hc24) (by decide)
        obtain ⟨hr27, h⟩ := rg_e h
        by_cases c28 : r26 = 0
        · have h := if_t c28 h
          obtain ⟨⟨r31, s30⟩, hc29, h⟩ := bn_e h
          have hF : F_x12_qKind s s30 := Fr.tr hF (fr_x12_takes hc29) (by decide)
          obtain ⟨hr32, h⟩ := rg_e h
          by_cases c33 : r31 = 0
          · have h := if_t c33 h
            exact J76 5 s30 hF h
          · have h := if_f c33 h
            exact J76 4 s30 hF h
        · have h := if_f c28 h
          exact J76 3 s25 hF h
      · have h := if_f c23 h
        exact J76 2 s20 hF h
    · have h := if_f c18 h
      exact J76 1 s15 hF h
  · have h := if_f c13 h
    exact J76 0 s10 hF h
abbrev F_x12_qTakes (s o : MS) : Prop := Fr [110] [] [109] [] s o
theorem fr_x12_qTakes {p0 : Int} {p1 : Int} {p2 : Int} {s : MS} {o : MS} (h : m_x12_qTakes p0 p1 p2 s = some o) : F_x12_qTakes s o := by
  have hF : F_x12_qTakes s s := Fr.rf s
  unfold m_x12_qTakes at h
  have J133 : ∀ (s1 : MS), F_x12_qTakes s s1 → m_x12_qTakes_J133 s1 = some o → F_x12_qTakes s o := by
    intro s1 hF h
    unfold m_x12_qTakes_J133 at h
    obtain ⟨s2, hs2, h⟩ := st_e h
    have hF : F_x12_qTakes s s2 := hs2 ▸ Fr.uI hF (by decide)
    obtain rfl := Option.some.inj h
    exact hF
  have J128 : ∀ (z3 : Int) (s4 : MS), F_x12_qTakes s s4 → m_x12_qTakes_J128 z3 s4 = some o → F_x12_qTakes s o := by
    intro z3 s4 hF h
    unfold m_x12_qTakes_J128 at h
    obtain ⟨s5, hs5, h⟩ := st_e h
    have hF : F_x12_qTakes s s5 := hs5 ▸ Fr.uL hF (by decide)
    exact J133 s5 hF h
  have J90 : ∀ (x6 : Int) (z7 : Int) (s8 : MS), F_x12_qTakes s s8 → m_x12_qTakes_J90 x6 z7 s8 = some o → F_x12_qTakes s o := by
    intro x6 z7 s8 hF h
    unfold m_x12_qTakes_J90 at h
    obtain ⟨hr9, h⟩ := rg_e h
    by_cases c10 : x6 ≤ 3
    · have h := if_t c10 h
      exact J133 s8 hF h
    · have h := if_f c10 h
      obtain ⟨hr11, h⟩ := rg_e h
      by_cases c12 : (gI s8 110) = 0
      · have h := if_t c12 h
        obtain ⟨hr13, h⟩ := rg_e h
        by_cases c14 : x6 = 4
        · have h := if_t c14 h
          obtain ⟨hr18, h⟩ := rgL_e h
          obtain ⟨hr19, h⟩ := rgL_e h
          by_cases c20 : z7 ≤ (gL s8 109)
          · have h := if_t c20 h
            exact J133 s8 hF h
          · have h := if_f c20 h
            exact J128 z7 s8 hF h
        · have h := if_f c14 h
          obtain ⟨hr15, h⟩ := rgL_e h
          obtain ⟨hr16, h⟩ := rgL_e h
          by_cases c17 : (gL s8 109) ≤ z7
          · have h := if_t c17 h
            exact J133 s8 hF h
          · have h := if_f c17 h
            exact J128 z7 s8 hF h
      · have h := if_f c12 h
        exact J128 z7 s8 hF h
  have J75 : ∀ (x21 : Int) (z22 : Int) (s23 : MS), F_x12_qTakes s s23 → m_x12_qTakes_J75 x21 z22 s23 = some o → F_x12_qTakes s o := by
    intro x21 z22 s23 hF h
    unfold m_x12_qTakes_J75 at h
    obtain ⟨hr24, h⟩ := rg_e h
    by_cases c25 : x21 = 3
    · have h := if_t c25 h
      obtain ⟨s26, hs26, h⟩ := st_e h
      have hF : F_x12_qTakes s s26 := hs26 ▸ Fr.uL hF (by decide)
      exact J90 x21 z22 s26 hF h
    · have h := if_f c25 h
      exact J90 x21 z22 s23 hF h
  have J55 : ∀ (x27 : Int) (z28 : Int) (x29 : Int) (s30 : MS), F_x12_qTakes s s30 → m_x12_qTakes_J55 x27 z28 x29 s30 = some o → F_x12_qTakes s o := by
    intro x27 z28 x29 s30 hF h
    unfold m_x12_qTakes_J55 at h
    obtain ⟨hr31, h⟩ := rg_e h
    by_cases c32 : x27 = 2
    · have h := if_t c32 h
      obtain ⟨hr33, h⟩ := rg_e h
      by_cases c34 : x29 = 0
      · have h := if_t c34 h
        exact J75 x27 z28 s30 hF h
      · have h := if_f c34 h
        obtain ⟨s35, hs35, h⟩ := st_e h
        have hF : F_x12_qTakes s s35 := hs35 ▸ Fr.uL hF (by decide)
        exact J75 x27 z28 s35 hF h
    · have h := if_f c32 h
      exact J75 x27 z28 s30 hF h
  have J48 : ∀ (x36 : Int) (z37 : Int) (x38 : Int) (x39 : Int) (s40 : MS), F_x12_qTakes s s40 → m_x12_qTakes_J48 x36 z37 x38 x39 s40 = some o → F_x12_qTakes s o := by
    intro x36 z37 x38 x39 s40 hF h
    unfold m_x12_qTakes_J48 at h
    obtain ⟨hr41, h⟩ := rg_e h
    obtain ⟨s42, hs42, h⟩ := st_e h
    have hF : F_x12_qTakes s s42 := hs42 ▸ Fr.uL hF (by decide)
    exact J55 x36 z37 x39 s42 hF h
  have J38 : ∀ (x43 : Int) (z44 : Int) (x45 : Int) (x46 : Int) (s47 : MS), F_x12_qTakes s s47 → m_x12_qTakes_J38 x43 z44 x45 x46 s47 = some o → F_x12_qTakes s o := by
    intro x43 z44 x45 x46 s47 hF h
    unfold m_x12_qTakes_J38 at h
    obtain ⟨hr48, h⟩ := rg_e h
    by_cases c49 : x43 = 1
    · have h := if_t c49 h
      obtain ⟨hr50, h⟩ := rg_e h
      by_cases c51 : x46 = 0
      · have h := if_t c51 h
        exact J55 x43 z44 x46 s47 hF h
      · have h := if_f c51 h
        exact J48 x43 z44 x45 x46 s47 hF h
    · have h := if_f c49 h
      exact J55 x43 z44 x46 s47 hF h
  have J16 : ∀ (x52 : Int) (z53 : Int) (x54 : Int) (x55 : Int) (s56 : MS), F_x12_qTakes s s56 → m_x12_qTakes_J16 x52 z53 x54 x55 s56 = some o → F_x12_qTakes s o := by
    intro x52 z53 x54 x55 s56 hF h
    unfold m_x12_qTakes_J16 at h
    obtain ⟨hr57, h⟩ := rg_e h
    by_cases c58 : x52 = 0
    · have h := if_t c58 h
      obtain ⟨hr59, h⟩ := rg_e h
      by_cases c60 : x55 = 0
      · have h := if_t c60 h
        exact J38 x52 z53 x54 x55 s56 hF h
      · have h := if_f c60 h
        obtain ⟨hr61, h⟩ := rgL_e h
        by_cases c62 : (gL s56 109) = (-1)
        · have h := if_t c62 h
          exact J48 x52 z53 x54 x55 s56 hF h
        · have h := if_f c62 h
          exact J38 x52 z53 x54 x55 s56 hF h
    · have h := if_f c58 h
      exact J38 x52 z53 x54 x55 s56 hF h
  have J15 : ∀ (x63 : Int) (z64 : Int) (x65 : Int) (s66 : MS), F_x12_qTakes s s66 → m_x12_qTakes_J15 x63 z64 x65 s66 = some o → F_x12_qTakes s o := by
    intro x63 z64 x65 s66 hF h
    unfold m_x12_qTakes_J15 at h
    exact J16 x63 z64 x65 0 s66 hF h
  obtain ⟨hr67, h⟩ := rg_e h
  by_cases c68 : 3 ≤ p0
  · have h := if_t c68 h
    exact J15 p0 p1 p2 s hF h
  · have h := if_f c68 h
    obtain ⟨hr69, h⟩ := rgL_e h
    by_cases c70 : p1 = 1
    · have h := if_t c70 h
      exact J16 p0 p1 p2 1 s hF h
    · have h := if_f c70 h
      exact J15 p0 p1 p2 s hF h
abbrev F_x12_ask (s o : MS) : Prop := Fr [1, 2, 3, 4, 5, 6, 7, 8, 10, 48, 50, 52, 53, 102, 104, 105, 106, 108, 110] [101, 103] [109] [107] s o
theorem fr_x12_ask {s : MS} {o : (Int × MS)} (h : m_x12_ask s = some o) : F_x12_ask s o.2 := by
  have hF : F_x12_ask s s := Fr.rf s
  unfold m_x12_ask at h
  have L183 : ∀ (n : Nat) (x1 : Int) (x2 : Int) (s3 : MS), F_x12_ask s s3 → m_x12_ask_L183 n x1 x2 s3 = some o → F_x12_ask s o.2 := by
    refine fr_ind (fun x1 x2 s3 hF h => by cases h) ?_
    intro n183 ih183 x1 x2 s3 hF h
    have h : m_x12_ask_b183 (m_x12_ask_L183 n183) x1 x2 s3 = some o := h
    unfold m_x12_ask_b183 at h
    have J235 : ∀ (x4 : Int) (x5 : Int) (x6 : Int) (s7 : MS), F_x12_ask s s7 → m_x12_ask_J235 (m_x12_ask_L183 n183) x4 x5 x6 s7 = some o → F_x12_ask s o.2 := by
      intro x4 x5 x6 s7 hF h
      unfold m_x12_ask_J235 at h
      obtain ⟨s8, hs8, h⟩ := st_e h
      have hF : F_x12_ask s s8 := hs8 ▸ Fr.uI hF (by decide)
      obtain ⟨⟨rl11, s10⟩, hc9, h⟩ := bn_e h
      have hF : F_x12_ask s s10 := Fr.tr hF (fr_x12_qTold hc9) (by decide)
      obtain ⟨s13, hc12, h⟩ := bn_e h
      have hF : F_x12_ask s s13 := Fr.tr hF (fr_x12_qTakes hc12) (by decide)
      exact ih183 x4 (x5 + 1) s13 hF h
    have J214 : ∀ (x14 : Int) (x15 : Int) (x16 : Int) (s17 : MS), F_x12_ask s s17 → m_x12_ask_J214 (m_x12_ask_L183 n183) x14 x15 x16 s17 = some o → F_x12_ask s o.2 := by
      intro x14 x15 x16 s17 hF h
      unfold m_x12_ask_J214 at h
      obtain ⟨s18, hs18, h⟩ := st_e h
      have hF : F_x12_ask s s18 := hs18 ▸ Fr.uI hF (by decide)
      obtain ⟨r20, hc19, h⟩ := bn_e h
      obtain ⟨hr21, h⟩ := rg_e h
      by_cases c22 : r20 = 0
      · have h := if_t c22 h
        exact J235 x14 x15 0 s18 hF h
      · have h := if_f c22 h
        obtain ⟨r24, hc23, h⟩ := bn_e h
        exact J235 x14 x15 r24 s18 hF h
    obtain ⟨r26, hc25, h⟩ := bn_e h
    obtain ⟨hr27, h⟩ := rg_e h
    obtain ⟨hr28, h⟩ := rg_e h
    by_cases c29 : r26 ≤ x2
    · have h := if_t c29 h
      obtain rfl := Option.some.inj h
      exact hF
    · have h := if_f c29 h
      obtain ⟨s30, hs30, h⟩ := st_e h
      have hF : F_x12_ask s s30 := hs30 ▸ Fr.uI hF (by decide)
      obtain ⟨r32, hc31, h⟩ := bn_e h
      obtain ⟨hr33, h⟩ := rg_e h
      by_cases c34 : r32 = 0
      · have h := if_t c34 h
        exact J214 x1 x2 0 s30 hF h
      · have h := if_f c34 h
        obtain ⟨r36, hc35, h⟩ := bn_e h
        exact J214 x1 x2 r36 s30 hF h
  have J173 : ∀ (x37 : Int) (z38 : Int) (s39 : MS), F_x12_ask s s39 → m_x12_ask_J173 x37 z38 s39 = some o → F_x12_ask s o.2 := by
    intro x37 z38 s39 hF h
    unfold m_x12_ask_J173 at h
    obtain ⟨s40, hs40, h⟩ := st_e h
    have hF : F_x12_ask s s40 := hs40 ▸ Fr.uL hF (by decide)
    obtain ⟨s41, hs41, h⟩ := st_e h
    have hF : F_x12_ask s s41 := hs41 ▸ Fr.uI hF (by decide)
    exact L183 FU x37 0 s41 hF h
  have J133 : ∀ (x42 : Int) (s43 : MS), F_x12_ask s s43 → m_x12_ask_J133 x42 s43 = some o → F_x12_ask s o.2 := by
    intro x42 s43 hF h
    unfold m_x12_ask_J133 at h
    obtain ⟨s44, hs44, h⟩ := st_e h
    have hF : F_x12_ask s s44 := hs44 ▸ Fr.uI hF (by decide)
    obtain ⟨s45, hs45, h⟩ := st_e h
    have hF : F_x12_ask s s45 := hs45 ▸ Fr.uI hF (by decide)
    obtain ⟨hr46, h⟩ := rg_e h
    by_cases c47 : (gI s45 5) = 0
    · have h := if_t c47 h
      obtain ⟨hr48, h⟩ := rg_e h
      by_cases c49 : 2 ≤ x42
      · have h := if_t c49 h
        exact J173 x42 0 s45 hF h
      · have h := if_f c49 h
        exact J173 x42 (-1) s45 hF h
    · have h := if_f c47 h
      obtain rfl := Option.some.inj h
      exact hF
  have J109 : ∀ (x50 : Int) (s51 : MS), F_x12_ask s s51 → m_x12_ask_J109 x50 s51 = some o → F_x12_ask s o.2 := by
    intro x50 s51 hF h
    unfold m_x12_ask_J109 at h
    obtain ⟨hr52, h⟩ := rg_e h
    by_cases c53 : (gI s51 5) = 0
    · have h := if_t c53 h
      obtain ⟨⟨r56, s55⟩, hc54, h⟩ := bn_e h
      have hF : F_x12_ask s s55 := Fr.tr hF (fr_x12_look hc54) (by decide)
      obtain ⟨hr57, h⟩ := rg_e h
      by_cases c58 : r56 = (-1)
      · have h := if_t c58 h
        exact J133 x50 s55 hF h
      · have h := if_f c58 h
        obtain ⟨s60, hc59, h⟩ := bn_e h
        have hF : F_x12_ask s s60 := Fr.tr hF (fr_x12_fail hc59) (by decide)
        exact J133 x50 s60 hF h
    · have h := if_f c53 h
      exact J133 x50 s51 hF h
  have J98 : ∀ (x61 : Int) (s62 : MS), F_x12_ask s s62 → m_x12_ask_J98 x61 s62 = some o → F_x12_ask s o.2 := by
    intro x61 s62 hF h
    unfold m_x12_ask_J98 at h
    obtain ⟨hr63, h⟩ := rg_e h
    by_cases c64 : (gI s62 5) = 0
    · have h := if_t c64 h
      obtain ⟨s66, hc65, h⟩ := bn_e h
      have hF : F_x12_ask s s66 := Fr.tr hF (fr_x12_qSums hc65) (by decide)
      exact J109 x61 s66 hF h
    · have h := if_f c64 h
      exact J109 x61 s62 hF h
  obtain ⟨hr67, h⟩ := rg_e h
  by_cases c68 : (gI s 47) = 0
  · have h := if_t c68 h
    obtain ⟨s89, hs89, h⟩ := st_e h
    have hF : F_x12_ask s s89 := hs89 ▸ Fr.uI hF (by decide)
    obtain rfl := Option.some.inj h
    exact hF
  · have h := if_f c68 h
    obtain ⟨s69, hs69, h⟩ := st_e h
    have hF : F_x12_ask s s69 := hs69 ▸ Fr.uI hF (by decide)
    obtain ⟨s70, hs70, h⟩ := st_e h
    have hF : F_x12_ask s s70 := hs70 ▸ Fr.uI hF (by decide)
    obtain ⟨s71, hs71, h⟩ := st_e h
    have hF : F_x12_ask s s71 := hs71 ▸ Fr.uI hF (by decide)
    obtain ⟨s72, hs72, h⟩ := st_e h
    have hF : F_x12_ask s s72 := hs72 ▸ Fr.uI hF (by decide)
    obtain ⟨s73, hs73, h⟩ := st_e h
    have hF : F_x12_ask s s73 := hs73 ▸ Fr.uI hF (by decide)
    obtain ⟨s74, hs74, h⟩ := st_e h
    have hF : F_x12_ask s s74 := hs74 ▸ Fr.uI hF (by decide)
    obtain ⟨s75, hs75, h⟩ := st_e h
    have hF : F_x12_ask s s75 := hs75 ▸ Fr.uI hF (by decide)
    obtain ⟨s76, hs76, h⟩ := st_e h
    have hF : F_x12_ask s s76 := hs76 ▸ Fr.uI hF (by decide)
    obtain ⟨s77, hs77, h⟩ := st_e h
    have hF : F_x12_ask s s77 := hs77 ▸ Fr.uI hF (by decide)
    obtain ⟨s78, hs78, h⟩ := st_e h
    have hF : F_x12_ask s s78 := hs78 ▸ Fr.uI hF (by decide)
    obtain ⟨s79, hs79, h⟩ := st_e h
    have hF : F_x12_ask s s79 := hs79 ▸ Fr.uI hF (by decide)
    obtain ⟨⟨r82, s81⟩, hc80, h⟩ := bn_e h
    have hF : F_x12_ask s s81 := Fr.tr hF (fr_x12_qKind hc80) (by decide)
    obtain ⟨hr83, h⟩ := rg_e h
    by_cases c84 : (gI s81 5) = 0
    · have h := if_t c84 h
      obtain ⟨hr85, h⟩ := rg_e h
      by_cases c86 : 3 ≤ r82
      · have h := if_t c86 h
        exact J98 r82 s81 hF h
      · have h := if_f c86 h
        obtain ⟨s88, hc87, h⟩ := bn_e h
        have hF : F_x12_ask s s88 := Fr.tr hF (fr_x12_qTest hc87) (by decide)
        exact J109 r82 s88 hF h
    · have h := if_f c84 h
      exact J98 r82 s81 hF h
abbrev F_x12_tellsByte (s o : MS) : Prop := Fr [112] [111] [] [] s o
theorem fr_x12_tellsByte {p0 : Int} {s : MS} {o : MS} (h : m_x12_tellsByte p0 s = some o) : F_x12_tellsByte s o := by
  have hF : F_x12_tellsByte s s := Fr.rf s
  unfold m_x12_tellsByte at h
  obtain ⟨hi1, h⟩ := inb_e h
  obtain ⟨s2, hs2, h⟩ := st_e h
  have hF : F_x12_tellsByte s s2 := hs2 ▸ Fr.uA hF (by decide)
  obtain ⟨s3, hs3, h⟩ := st_e h
  have hF : F_x12_tellsByte s s3 := hs3 ▸ Fr.uI hF (by decide)
  obtain rfl := Option.some.inj h
  exact hF
abbrev F_x12_tellsTwo (s o : MS) : Prop := Fr [112] [111] [] [] s o
theorem fr_x12_tellsTwo {p0 : Int} {s : MS} {o : MS} (h : m_x12_tellsTwo p0 s = some o) : F_x12_tellsTwo s o := by
  have hF : F_x12_tellsTwo s s := Fr.rf s
  unfold m_x12_tellsTwo at h
  obtain ⟨hn1, h⟩ := dv_e h
  obtain ⟨s3, hc2, h⟩ := bn_e h
  have hF : F_x12_tellsTwo s s3 := Fr.tr hF (fr_x12_tellsByte hc2) (by decide)
  obtain ⟨hn4, h⟩ := dv_e h
  obtain ⟨s6, hc5, h⟩ := bn_e h
  have hF : F_x12_tellsTwo s s6 := Fr.tr hF (fr_x12_tellsByte hc5) (by decide)
  obtain rfl := Option.some.inj h
  exact hF
abbrev F_x12_writesBlock (s o : MS) : Prop := Fr [112] [111] [] [] s o
theorem fr_x12_writesBlock {p0 : Int} {s : MS} {o : MS} (h : m_x12_writesBlock p0 s = some o) : F_x12_writesBlock s o := by
  have hF : F_x12_writesBlock s s := Fr.rf s
  unfold m_x12_writesBlock at h
  have L47 : ∀ (n : Nat) (x1 : Int) (x2 : Int) (s3 : MS), F_x12_writesBlock s s3 → m_x12_writesBlock_L47 n x1 x2 s3 = some o → F_x12_writesBlock s o := by
    refine fr_ind (fun x1 x2 s3 hF h => by cases h) ?_
    intro n47 ih47 x1 x2 s3 hF h
    have h : m_x12_writesBlock_b47 (m_x12_writesBlock_L47 n47) x1 x2 s3 = some o := h
    unfold m_x12_writesBlock_b47 at h
    obtain ⟨r5, hc4, h⟩ := bn_e h
    obtain ⟨hr6, h⟩ := rg_e h
    obtain ⟨hr7, h⟩ := rg_e h
    by_cases c8 : r5 ≤ x2
    · have h := if_t c8 h
      obtain rfl := Option.some.inj h
      exact hF
    · have h := if_f c8 h
      obtain ⟨r10, hc9, h⟩ := bn_e h
      obtain ⟨s12, hc11, h⟩ := bn_e h
      have hF : F_x12_writesBlock s s12 := Fr.tr hF (fr_x12_tellsTwo hc11) (by decide)
      obtain ⟨r14, hc13, h⟩ := bn_e h
      obtain ⟨s16, hc15, h⟩ := bn_e h
      have hF : F_x12_writesBlock s s16 := Fr.tr hF (fr_x12_tellsTwo hc15) (by decide)
      exact ih47 x1 (x2 + 1) s16 hF h
  obtain ⟨r18, hc17, h⟩ := bn_e h
  obtain ⟨s20, hc19, h⟩ := bn_e h
  have hF : F_x12_writesBlock s s20 := Fr.tr hF (fr_x12_tellsByte hc19) (by decide)
  obtain ⟨r22, hc21, h⟩ := bn_e h
  obtain ⟨s24, hc23, h⟩ := bn_e h
  have hF : F_x12_writesBlock s s24 := Fr.tr hF (fr_x12_tellsByte hc23) (by decide)
  obtain ⟨r26, hc25, h⟩ := bn_e h
  obtain ⟨hr27, h⟩ := rg_e h
  by_cases c28 : r26 = 0
  · have h := if_t c28 h
    obtain rfl := Option.some.inj h
    exact hF
  · have h := if_f c28 h
    obtain ⟨r30, hc29, h⟩ := bn_e h
    obtain ⟨s32, hc31, h⟩ := bn_e h
    have hF : F_x12_writesBlock s s32 := Fr.tr hF (fr_x12_tellsByte hc31) (by decide)
    obtain ⟨r34, hc33, h⟩ := bn_e h
    obtain ⟨s36, hc35, h⟩ := bn_e h
    have hF : F_x12_writesBlock s s36 := Fr.tr hF (fr_x12_tellsByte hc35) (by decide)
    exact L47 FU p0 0 s36 hF h
abbrev F_x12_image (s o : MS) : Prop := Fr [112] [111] [] [] s o
theorem fr_x12_image {s : MS} {o : (Int × MS)} (h : m_x12_image s = some o) : F_x12_image s o.2 := by
  have hF : F_x12_image s s := Fr.rf s
  unfold m_x12_image at h
  have L72 : ∀ (n : Nat) (x1 : Int) (s2 : MS), F_x12_image s s2 → m_x12_image_L72 n x1 s2 = some o → F_x12_image s o.2 := by
    refine fr_ind (fun x1 s2 hF h => by cases h) ?_
    intro n72 ih72 x1 s2 hF h
    have h : m_x12_image_b72 (m_x12_image_L72 n72) x1 s2 = some o := h
    unfold m_x12_image_b72 at h
    obtain ⟨r4, hc3, h⟩ := bn_e h
    obtain ⟨hr5, h⟩ := rg_e h
    obtain ⟨hr6, h⟩ := rg_e h
    by_cases c7 : r4 ≤ x1
    · have h := if_t c7 h
      obtain ⟨r9, hc8, h⟩ := bn_e h
      obtain ⟨s11, hc10, h⟩ := bn_e h
      have hF : F_x12_image s s11 := Fr.tr hF (fr_x12_tellsByte hc10) (by decide)
      obtain rfl := Option.some.inj h
      exact hF
    · have h := if_f c7 h
      obtain ⟨s13, hc12, h⟩ := bn_e h
      have hF : F_x12_image s s13 := Fr.tr hF (fr_x12_writesBlock hc12) (by decide)
      exact ih72 (x1 + 1) s13 hF h
  have L37 : ∀ (n : Nat) (x14 : Int) (s15 : MS), F_x12_image s s15 → m_x12_image_L37 n x14 s15 = some o → F_x12_image s o.2 := by
    refine fr_ind (fun x14 s15 hF h => by cases h) ?_
    intro n37 ih37 x14 s15 hF h
    have h : m_x12_image_b37 (m_x12_image_L37 n37) x14 s15 = some o := h
    unfold m_x12_image_b37 at h
    obtain ⟨hr16, h⟩ := rg_e h
    by_cases c17 : 8 ≤ x14
    · have h := if_t c17 h
      exact L72 FU 0 s15 hF h
    · have h := if_f c17 h
      obtain ⟨r19, hc18, h⟩ := bn_e h
      obtain ⟨s21, hc20, h⟩ := bn_e h
      have hF : F_x12_image s s21 := Fr.tr hF (fr_x12_tellsByte hc20) (by decide)
      obtain ⟨r23, hc22, h⟩ := bn_e h
      obtain ⟨s25, hc24, h⟩ := bn_e h
      have hF : F_x12_image s s25 := Fr.tr hF (fr_x12_tellsByte hc24) (by decide)
      exact ih37 (x14 + 1) s25 hF h
  obtain ⟨s26, hs26, h⟩ := st_e h
  have hF : F_x12_image s s26 := hs26 ▸ Fr.uI hF (by decide)
  obtain ⟨y27, ey27, iy27, h⟩ := rdI_e h
  obtain ⟨hn28, h⟩ := dv_e h
  obtain ⟨s30, hc29, h⟩ := bn_e h
  have hF : F_x12_image s s30 := Fr.tr hF (fr_x12_tellsByte hc29) (by decide)
  obtain ⟨y31, ey31, iy31, h⟩ := rdI_e h
  obtain ⟨hn32, h⟩ := dv_e h
  obtain ⟨s34, hc33, h⟩ := bn_e h
  have hF : F_x12_image s s34 := Fr.tr hF (fr_x12_tellsTwo hc33) (by decide)
  exact L37 FU 0 s34 hF h
abbrev F_x12_byteRead (s o : MS) : Prop := Fr [114] [] [] [] s o
theorem fr_x12_byteRead {p0 : Int} {s : MS} {o : (Int × MS)} (h : m_x12_byteRead p0 s = some o) : F_x12_byteRead s o.2 := by
  have hF : F_x12_byteRead s s := Fr.rf s
  unfold m_x12_byteRead at h
  have J33 : ∀ (x1 : Int) (s2 : MS), F_x12_byteRead s s2 → m_x12_byteRead_J33 x1 s2 = some o → F_x12_byteRead s o.2 := by
    intro x1 s2 hF h
    unfold m_x12_byteRead_J33 at h
    obtain rfl := Option.some.inj h
    exact hF
  obtain ⟨s3, hs3, h⟩ := st_e h
  have hF : F_x12_byteRead s s3 := hs3 ▸ Fr.uI hF (by decide)
  obtain ⟨hr4, h⟩ := rg_e h
  obtain ⟨hr5, h⟩ := rg_e h
  by_cases c6 : p0 < (gI s3 114)
  · have h := if_t c6 h
    exact J33 (-1) s3 hF h
  · have h := if_f c6 h
    obtain ⟨y7, ey7, iy7, h⟩ := rdI_e h
    exact J33 y7 s3 hF h
abbrev F_x12_twoRead (s o : MS) : Prop := Fr [114] [] [] [] s o
theorem fr_x12_twoRead {p0 : Int} {s : MS} {o : (Int × MS)} (h : m_x12_twoRead p0 s = some o) : F_x12_twoRead s o.2 := by
  have hF : F_x12_twoRead s s := Fr.rf s
  unfold m_x12_twoRead at h
  have J33 : ∀ (x1 : Int) (s2 : MS), F_x12_twoRead s s2 → m_x12_twoRead_J33 x1 s2 = some o → F_x12_twoRead s o.2 := by
    intro x1 s2 hF h
    unfold m_x12_twoRead_J33 at h
    obtain rfl := Option.some.inj h
    exact hF
  have J22 : ∀ (s3 : MS), F_x12_twoRead s s3 → m_x12_twoRead_J22 s3 = some o → F_x12_twoRead s o.2 := by
    intro s3 hF h
    unfold m_x12_twoRead_J22 at h
    exact J33 (-1) s3 hF h
  obtain ⟨⟨r6, s5⟩, hc4, h⟩ := bn_e h
  have hF : F_x12_twoRead s s5 := Fr.tr hF (fr_x12_byteRead hc4) (by decide)
  obtain ⟨⟨r9, s8⟩, hc7, h⟩ := bn_e h
  have hF : F_x12_twoRead s s8 := Fr.tr hF (fr_x12_byteRead hc7) (by decide)
  obtain ⟨hr10, h⟩ := rg_e h
  by_cases c11 : r6 = (-1)
  · have h := if_t c11 h
    exact J22 s8 hF h
  · have h := if_f c11 h
    obtain ⟨hr12, h⟩ := rg_e h
    by_cases c13 : r9 = (-1)
    · have h := if_t c13 h
      exact J22 s8 hF h
    · have h := if_f c13 h
      exact J33 ((256 * r6) + r9) s8 hF h
abbrev F_x12_isLaidBlock (s o : MS) : Prop := Fr [114] [113] [] [] s o
theorem fr_x12_isLaidBlock {p0 : Int} {p1 : Int} {s : MS} {o : (Int × MS)} (h : m_x12_isLaidBlock p0 p1 s = some o) : F_x12_isLaidBlock s o.2 := by
  have hF : F_x12_isLaidBlock s s := Fr.rf s
  unfold m_x12_isLaidBlock at h
  have J262 : ∀ (x1 : Int) (s2 : MS), F_x12_isLaidBlock s s2 → m_x12_isLaidBlock_J262 x1 s2 = some o → F_x12_isLaidBlock s o.2 := by
    intro x1 s2 hF h
    unfold m_x12_isLaidBlock_J262 at h
    obtain ⟨hb3, h⟩ := bo_e h
    obtain rfl := Option.some.inj h
    exact hF
  have L130 : ∀ (n : Nat) (x4 : Int) (x5 : Int) (x6 : Int) (s7 : MS), F_x12_isLaidBlock s s7 → m_x12_isLaidBlock_L130 n x4 x5 x6 s7 = some o → F_x12_isLaidBlock s o.2 := by
    refine fr_ind (fun x4 x5 x6 s7 hF h => by cases h) ?_
    intro n130 ih130 x4 x5 x6 s7 hF h
    have h : m_x12_isLaidBlock_b130 (m_x12_isLaidBlock_L130 n130) x4 x5 x6 s7 = some o := h
    unfold m_x12_isLaidBlock_b130 at h
    have J215 : ∀ (x8 : Int) (x9 : Int) (x10 : Int) (x11 : Int) (s12 : MS), F_x12_isLaidBlock s s12 → m_x12_isLaidBlock_J215 (m_x12_isLaidBlock_L130 n130) x8 x9 x10 x11 s12 = some o → F_x12_isLaidBlock s o.2 := by
      intro x8 x9 x10 x11 s12 hF h
      unfold m_x12_isLaidBlock_J215 at h
      obtain ⟨y13, ey13, iy13, h⟩ := rdI_e h
      obtain ⟨hr14, h⟩ := rg_e h
      obtain ⟨hr15, h⟩ := rg_e h
      obtain ⟨r17, hc16, h⟩ := bn_e h
      obtain ⟨hr18, h⟩ := rg_e h
      by_cases c19 : r17 = 0
      · have h := if_t c19 h
        obtain rfl := Option.some.inj h
        exact hF
      · have h := if_f c19 h
        exact ih130 x8 x9 (x10 + 1) s12 hF h
    have J202 : ∀ (x20 : Int) (x21 : Int) (x22 : Int) (s23 : MS), F_x12_isLaidBlock s s23 → m_x12_isLaidBlock_J202 (m_x12_isLaidBlock_L130 n130) x20 x21 x22 s23 = some o → F_x12_isLaidBlock s o.2 := by
      intro x20 x21 x22 s23 hF h
      unfold m_x12_isLaidBlock_J202 at h
      obtain ⟨y24, ey24, iy24, h⟩ := rdI_e h
      exact J215 x20 x21 x22 (y24 + 1) s23 hF h
    have J198 : ∀ (x25 : Int) (x26 : Int) (x27 : Int) (s28 : MS), F_x12_isLaidBlock s s28 → m_x12_isLaidBlock_J198 (m_x12_isLaidBlock_L130 n130) x25 x26 x27 s28 = some o → F_x12_isLaidBlock s o.2 := by
      intro x25 x26 x27 s28 hF h
      unfold m_x12_isLaidBlock_J198 at h
      exact J215 x25 x26 x27 0 s28 hF h
    obtain ⟨y29, ey29, iy29, h⟩ := rdI_e h
    obtain ⟨hr30, h⟩ := rg_e h
    obtain ⟨hr31, h⟩ := rg_e h
    by_cases c32 : y29 ≤ x6
    · have h := if_t c32 h
      obtain ⟨hr33, h⟩ := rg_e h
      obtain ⟨hr34, h⟩ := rg_e h
      by_cases c35 : x4 < (gI s7 114)
      · have h := if_t c35 h
        exact J262 0 s7 hF h
      · have h := if_f c35 h
        exact J262 1 s7 hF h
    · have h := if_f c32 h
      obtain ⟨⟨r38, s37⟩, hc36, h⟩ := bn_e h
      have hF : F_x12_isLaidBlock s s37 := Fr.tr hF (fr_x12_twoRead hc36) (by decide)
      obtain ⟨hi39, h⟩ := inb_e h
      obtain ⟨s40, hs40, h⟩ := st_e h
      have hF : F_x12_isLaidBlock s s40 := hs40 ▸ Fr.uA hF (by decide)
      obtain ⟨⟨r43, s42⟩, hc41, h⟩ := bn_e h
      have hF : F_x12_isLaidBlock s s42 := Fr.tr hF (fr_x12_twoRead hc41) (by decide)
      obtain ⟨hi44, h⟩ := inb_e h
      obtain ⟨s45, hs45, h⟩ := st_e h
      have hF : F_x12_isLaidBlock s s45 := hs45 ▸ Fr.uA hF (by decide)
      obtain ⟨hr46, h⟩ := rg_e h
      by_cases c47 : x6 = 0
      · have h := if_t c47 h
        exact J198 x4 x5 x6 s45 hF h
      · have h := if_f c47 h
        obtain ⟨hr48, h⟩ := rg_e h
        by_cases c49 : x6 = 1
        · have h := if_t c49 h
          obtain ⟨y50, ey50, iy50, h⟩ := rdI_e h
          obtain ⟨hr51, h⟩ := rg_e h
          by_cases c52 : y50 ≤ 0
          · have h := if_t c52 h
            exact J202 x4 x5 x6 s45 hF h
          · have h := if_f c52 h
            exact J198 x4 x5 x6 s45 hF h
        · have h := if_f c49 h
          exact J202 x4 x5 x6 s45 hF h
  have L11 : ∀ (n : Nat) (x53 : Int) (x54 : Int) (x55 : Int) (s56 : MS), F_x12_isLaidBlock s s56 → m_x12_isLaidBlock_L11 n x53 x54 x55 s56 = some o → F_x12_isLaidBlock s o.2 := by
    refine fr_ind (fun x53 x54 x55 s56 hF h => by cases h) ?_
    intro n11 ih11 x53 x54 x55 s56 hF h
    have h : m_x12_isLaidBlock_b11 (m_x12_isLaidBlock_L11 n11) x53 x54 x55 s56 = some o := h
    unfold m_x12_isLaidBlock_b11 at h
    obtain ⟨hr57, h⟩ := rg_e h
    by_cases c58 : 16 ≤ x55
    · have h := if_t c58 h
      obtain ⟨⟨r61, s60⟩, hc59, h⟩ := bn_e h
      have hF : F_x12_isLaidBlock s s60 := Fr.tr hF (fr_x12_byteRead hc59) (by decide)
      obtain ⟨hi62, h⟩ := inb_e h
      obtain ⟨s63, hs63, h⟩ := st_e h
      have hF : F_x12_isLaidBlock s s63 := hs63 ▸ Fr.uA hF (by decide)
      obtain ⟨⟨r66, s65⟩, hc64, h⟩ := bn_e h
      have hF : F_x12_isLaidBlock s s65 := Fr.tr hF (fr_x12_byteRead hc64) (by decide)
      obtain ⟨hi67, h⟩ := inb_e h
      obtain ⟨s68, hs68, h⟩ := st_e h
      have hF : F_x12_isLaidBlock s s68 := hs68 ▸ Fr.uA hF (by decide)
      obtain ⟨y69, ey69, iy69, h⟩ := rdI_e h
      obtain ⟨y70, ey70, iy70, h⟩ := rdI_e h
      obtain ⟨hr71, h⟩ := rg_e h
      by_cases c72 : (y69 + y70) = 0
      · have h := if_t c72 h
        obtain rfl := Option.some.inj h
        exact hF
      · have h := if_f c72 h
        obtain ⟨⟨r75, s74⟩, hc73, h⟩ := bn_e h
        have hF : F_x12_isLaidBlock s s74 := Fr.tr hF (fr_x12_byteRead hc73) (by decide)
        obtain ⟨hi76, h⟩ := inb_e h
        obtain ⟨s77, hs77, h⟩ := st_e h
        have hF : F_x12_isLaidBlock s s77 := hs77 ▸ Fr.uA hF (by decide)
        obtain ⟨⟨r80, s79⟩, hc78, h⟩ := bn_e h
        have hF : F_x12_isLaidBlock s s79 := Fr.tr hF (fr_x12_byteRead hc78) (by decide)
        obtain ⟨hi81, h⟩ := inb_e h
        obtain ⟨s82, hs82, h⟩ := st_e h
        have hF : F_x12_isLaidBlock s s82 := hs82 ▸ Fr.uA hF (by decide)
        obtain ⟨y83, ey83, iy83, h⟩ := rdI_e h
        obtain ⟨hr84, h⟩ := rg_e h
        obtain ⟨r86, hc85, h⟩ := bn_e h
        obtain ⟨hr87, h⟩ := rg_e h
        obtain ⟨r89, hc88, h⟩ := bn_e h
        obtain ⟨hr90, h⟩ := rg_e h
        by_cases c91 : r89 = 0
        · have h := if_t c91 h
          obtain rfl := Option.some.inj h
          exact hF
        · have h := if_f c91 h
          exact L130 FU x53 x54 0 s82 hF h
    · have h := if_f c58 h
      obtain ⟨hi92, h⟩ := inb_e h
      obtain ⟨s93, hs93, h⟩ := st_e h
      have hF : F_x12_isLaidBlock s s93 := hs93 ▸ Fr.uA hF (by decide)
      exact ih11 x53 x54 (x55 + 1) s93 hF h
  exact L11 FU p1 (17 + (16 * p0)) 0 s hF h
abbrev F_x12_isLaid (s o : MS) : Prop := Fr [114] [113] [] [] s o
theorem fr_x12_isLaid {p0 : Int} {s : MS} {o : (Int × MS)} (h : m_x12_isLaid p0 s = some o) : F_x12_isLaid s o.2 := by
  have hF : F_x12_isLaid s s := Fr.rf s
  unfold m_x12_isLaid at h
  have J194 : ∀ (x1 : Int) (s2 : MS), F_x12_isLaid s s2 → m_x12_isLaid_J194 x1 s2 = some o → F_x12_isLaid s o.2 := by
    intro x1 s2 hF h
    unfold m_x12_isLaid_J194 at h
    obtain ⟨hb3, h⟩ := bo_e h
    obtain rfl := Option.some.inj h
    exact hF
  have L135 : ∀ (n : Nat) (x4 : Int) (x5 : Int) (s6 : MS), F_x12_isLaid s s6 → m_x12_isLaid_L135 n x4 x5 s6 = some o → F_x12_isLaid s o.2 := by
    refine fr_ind (fun x4 x5 s6 hF h => by cases h) ?_
    intro n135 ih135 x4 x5 s6 hF h
    have h : m_x12_isLaid_b135 (m_x12_isLaid_L135 n135) x4 x5 s6 = some o := h
    unfold m_x12_isLaid_b135 at h
    have L145 : ∀ (n : Nat) (x7 : Int) (x8 : Int) (x9 : Int) (s10 : MS), F_x12_isLaid s s10 → m_x12_isLaid_L145 (m_x12_isLaid_L135 n135) n x7 x8 x9 s10 = some o → F_x12_isLaid s o.2 := by
      refine fr_ind (fun x7 x8 x9 s10 hF h => by cases h) ?_
      intro n145 ih145 x7 x8 x9 s10 hF h
      have h : m_x12_isLaid_b145 (m_x12_isLaid_L135 n135) (m_x12_isLaid_L145 (m_x12_isLaid_L135 n135) n145) x7 x8 x9 s10 = some o := h
      unfold m_x12_isLaid_b145 at h
      obtain ⟨hr11, h⟩ := rg_e h
      by_cases c12 : 16 ≤ x9
      · have h := if_t c12 h
        exact ih135 x7 (x8 + 1) s10 hF h
      · have h := if_f c12 h
        obtain ⟨hi13, h⟩ := inb_e h
        obtain ⟨s14, hs14, h⟩ := st_e h
        have hF : F_x12_isLaid s s14 := hs14 ▸ Fr.uA hF (by decide)
        exact ih145 x7 x8 (x9 + 1) s14 hF h
    obtain ⟨hr15, h⟩ := rg_e h
    by_cases c16 : 48 ≤ x5
    · have h := if_t c16 h
      obtain ⟨hr17, h⟩ := rg_e h
      obtain ⟨hr18, h⟩ := rg_e h
      by_cases c19 : (gI s6 114) = x4
      · have h := if_t c19 h
        exact J194 1 s6 hF h
      · have h := if_f c19 h
        exact J194 0 s6 hF h
    · have h := if_f c16 h
      exact L145 FU x4 x5 0 s6 hF h
  have L102 : ∀ (n : Nat) (x20 : Int) (x21 : Int) (s22 : MS), F_x12_isLaid s s22 → m_x12_isLaid_L102 n x20 x21 s22 = some o → F_x12_isLaid s o.2 := by
    refine fr_ind (fun x20 x21 s22 hF h => by cases h) ?_
    intro n102 ih102 x20 x21 s22 hF h
    have h : m_x12_isLaid_b102 (m_x12_isLaid_L102 n102) x20 x21 s22 = some o := h
    unfold m_x12_isLaid_b102 at h
    obtain ⟨r24, hc23, h⟩ := bn_e h
    obtain ⟨hr25, h⟩ := rg_e h
    obtain ⟨hr26, h⟩ := rg_e h
    by_cases c27 : r24 ≤ x21
    · have h := if_t c27 h
      obtain ⟨r29, hc28, h⟩ := bn_e h
      exact L135 FU x20 r29 s22 hF h
    · have h := if_f c27 h
      obtain ⟨⟨r32, s31⟩, hc30, h⟩ := bn_e h
      have hF : F_x12_isLaid s s31 := Fr.tr hF (fr_x12_isLaidBlock hc30) (by decide)
      obtain ⟨hr33, h⟩ := rg_e h
      by_cases c34 : r32 = 0
      · have h := if_t c34 h
        obtain rfl := Option.some.inj h
        exact hF
      · have h := if_f c34 h
        exact ih102 x20 (x21 + 1) s31 hF h
  have L59 : ∀ (n : Nat) (x35 : Int) (x36 : Int) (s37 : MS), F_x12_isLaid s s37 → m_x12_isLaid_L59 n x35 x36 s37 = some o → F_x12_isLaid s o.2 := by
    refine fr_ind (fun x35 x36 s37 hF h => by cases h) ?_
    intro n59 ih59 x35 x36 s37 hF h
    have h : m_x12_isLaid_b59 (m_x12_isLaid_L59 n59) x35 x36 s37 = some o := h
    unfold m_x12_isLaid_b59 at h
    obtain ⟨hr38, h⟩ := rg_e h
    by_cases c39 : 8 ≤ x36
    · have h := if_t c39 h
      exact L102 FU x35 0 s37 hF h
    · have h := if_f c39 h
      obtain ⟨⟨r42, s41⟩, hc40, h⟩ := bn_e h
      have hF : F_x12_isLaid s s41 := Fr.tr hF (fr_x12_byteRead hc40) (by decide)
      obtain ⟨hi43, h⟩ := inb_e h
      obtain ⟨s44, hs44, h⟩ := st_e h
      have hF : F_x12_isLaid s s44 := hs44 ▸ Fr.uA hF (by decide)
      obtain ⟨⟨r47, s46⟩, hc45, h⟩ := bn_e h
      have hF : F_x12_isLaid s s46 := Fr.tr hF (fr_x12_byteRead hc45) (by decide)
      obtain ⟨hi48, h⟩ := inb_e h
      obtain ⟨s49, hs49, h⟩ := st_e h
      have hF : F_x12_isLaid s s49 := hs49 ▸ Fr.uA hF (by decide)
      exact ih59 x35 (x36 + 1) s49 hF h
  have J54 : ∀ (s50 : MS), F_x12_isLaid s s50 → m_x12_isLaid_J54 s50 = some o → F_x12_isLaid s o.2 := by
    intro s50 hF h
    unfold m_x12_isLaid_J54 at h
    obtain rfl := Option.some.inj h
    exact hF
  obtain ⟨s51, hs51, h⟩ := st_e h
  have hF : F_x12_isLaid s s51 := hs51 ▸ Fr.uI hF (by decide)
  obtain ⟨⟨r54, s53⟩, hc52, h⟩ := bn_e h
  have hF : F_x12_isLaid s s53 := Fr.tr hF (fr_x12_byteRead hc52) (by decide)
  obtain ⟨⟨r57, s56⟩, hc55, h⟩ := bn_e h
  have hF : F_x12_isLaid s s56 := Fr.tr hF (fr_x12_twoRead hc55) (by decide)
  obtain ⟨hi58, h⟩ := inb_e h
  obtain ⟨s59, hs59, h⟩ := st_e h
  have hF : F_x12_isLaid s s59 := hs59 ▸ Fr.uA hF (by decide)
  obtain ⟨hr60, h⟩ := rg_e h
  by_cases c61 : r54 = (-1)
  · have h := if_t c61 h
    exact J54 s59 hF h
  · have h := if_f c61 h
    obtain ⟨hr62, h⟩ := rg_e h
    by_cases c63 : r57 = (-1)
    · have h := if_t c63 h
      exact J54 s59 hF h
    · have h := if_f c63 h
      obtain ⟨y64, ey64, iy64, h⟩ := rdI_e h
      obtain ⟨hr65, h⟩ := rg_e h
      by_cases c66 : y64 ≤ 999999
      · have h := if_t c66 h
        exact L59 FU p0 0 s59 hF h
      · have h := if_f c66 h
        exact J54 s59 hF h
abbrev F_x12_areCounts (s o : MS) : Prop := Fr [] [115] [] [] s o
theorem fr_x12_areCounts {p0 : Int} {s : MS} {o : (Int × MS)} (h : m_x12_areCounts p0 s = some o) : F_x12_areCounts s o.2 := by
  have hF : F_x12_areCounts s s := Fr.rf s
  unfold m_x12_areCounts at h
  have L153 : ∀ (n : Nat) (x1 : Int) (x2 : Int) (s3 : MS), F_x12_areCounts s s3 → m_x12_areCounts_L153 n x1 x2 s3 = some o → F_x12_areCounts s o.2 := by
    refine fr_ind (fun x1 x2 s3 hF h => by cases h) ?_
    intro n153 ih153 x1 x2 s3 hF h
    have h : m_x12_areCounts_b153 (m_x12_areCounts_L153 n153) x1 x2 s3 = some o := h
    unfold m_x12_areCounts_b153 at h
    obtain ⟨r5, hc4, h⟩ := bn_e h
    obtain ⟨hr6, h⟩ := rg_e h
    obtain ⟨hr7, h⟩ := rg_e h
    by_cases c8 : r5 ≤ x2
    · have h := if_t c8 h
      obtain rfl := Option.some.inj h
      exact hF
    · have h := if_f c8 h
      obtain ⟨y9, ey9, iy9, h⟩ := rdI_e h
      obtain ⟨r11, hc10, h⟩ := bn_e h
      obtain ⟨hr12, h⟩ := rg_e h
      obtain ⟨hr13, h⟩ := rg_e h
      by_cases c14 : y9 = r11
      · have h := if_t c14 h
        exact ih153 x1 (x2 + 1) s3 hF h
      · have h := if_f c14 h
        obtain rfl := Option.some.inj h
        exact hF
  have L80 : ∀ (n : Nat) (x15 : Int) (x16 : Int) (s17 : MS), F_x12_areCounts s s17 → m_x12_areCounts_L80 n x15 x16 s17 = some o → F_x12_areCounts s o.2 := by
    refine fr_ind (fun x15 x16 s17 hF h => by cases h) ?_
    intro n80 ih80 x15 x16 s17 hF h
    have h : m_x12_areCounts_b80 (m_x12_areCounts_L80 n80) x15 x16 s17 = some o := h
    unfold m_x12_areCounts_b80 at h
    have J145 : ∀ (x18 : Int) (x19 : Int) (s20 : MS), F_x12_areCounts s s20 → m_x12_areCounts_J145 (m_x12_areCounts_L80 n80) x18 x19 s20 = some o → F_x12_areCounts s o.2 := by
      intro x18 x19 s20 hF h
      unfold m_x12_areCounts_J145 at h
      exact ih80 x18 (x19 + 1) s20 hF h
    have L111 : ∀ (n : Nat) (x21 : Int) (x22 : Int) (x23 : Int) (s24 : MS), F_x12_areCounts s s24 → m_x12_areCounts_L111 (m_x12_areCounts_L80 n80) n x21 x22 x23 s24 = some o → F_x12_areCounts s o.2 := by
      refine fr_ind (fun x21 x22 x23 s24 hF h => by cases h) ?_
      intro n111 ih111 x21 x22 x23 s24 hF h
      have h : m_x12_areCounts_b111 (m_x12_areCounts_L80 n80) (m_x12_areCounts_L111 (m_x12_areCounts_L80 n80) n111) x21 x22 x23 s24 = some o := h
      unfold m_x12_areCounts_b111 at h
      obtain ⟨r26, hc25, h⟩ := bn_e h
      obtain ⟨hr27, h⟩ := rg_e h
      obtain ⟨hr28, h⟩ := rg_e h
      by_cases c29 : r26 ≤ x23
      · have h := if_t c29 h
        exact J145 x21 x22 s24 hF h
      · have h := if_f c29 h
        obtain ⟨r31, hc30, h⟩ := bn_e h
        obtain ⟨y32, ey32, iy32, h⟩ := rdI_e h
        obtain ⟨hi33, h⟩ := inb_e h
        obtain ⟨s34, hs34, h⟩ := st_e h
        have hF : F_x12_areCounts s s34 := hs34 ▸ Fr.uA hF (by decide)
        exact ih111 x21 x22 (x23 + 1) s34 hF h
    obtain ⟨r36, hc35, h⟩ := bn_e h
    obtain ⟨hr37, h⟩ := rg_e h
    obtain ⟨hr38, h⟩ := rg_e h
    by_cases c39 : r36 ≤ x16
    · have h := if_t c39 h
      exact L153 FU x15 0 s17 hF h
    · have h := if_f c39 h
      obtain ⟨r41, hc40, h⟩ := bn_e h
      obtain ⟨hr42, h⟩ := rg_e h
      by_cases c43 : r41 = 0
      · have h := if_t c43 h
        exact J145 x15 x16 s17 hF h
      · have h := if_f c43 h
        obtain ⟨r45, hc44, h⟩ := bn_e h
        obtain ⟨hr46, h⟩ := rg_e h
        by_cases c47 : r45 = 0
        · have h := if_t c47 h
          exact J145 x15 x16 s17 hF h
        · have h := if_f c47 h
          exact L111 FU x15 x16 0 s17 hF h
  have L23 : ∀ (n : Nat) (x48 : Int) (x49 : Int) (s50 : MS), F_x12_areCounts s s50 → m_x12_areCounts_L23 n x48 x49 s50 = some o → F_x12_areCounts s o.2 := by
    refine fr_ind (fun x48 x49 s50 hF h => by cases h) ?_
    intro n23 ih23 x48 x49 s50 hF h
    have h : m_x12_areCounts_b23 (m_x12_areCounts_L23 n23) x48 x49 s50 = some o := h
    unfold m_x12_areCounts_b23 at h
    have J72 : ∀ (x51 : Int) (x52 : Int) (s53 : MS), F_x12_areCounts s s53 → m_x12_areCounts_J72 (m_x12_areCounts_L23 n23) x51 x52 s53 = some o → F_x12_areCounts s o.2 := by
      intro x51 x52 s53 hF h
      unfold m_x12_areCounts_J72 at h
      exact ih23 x51 (x52 + 1) s53 hF h
    obtain ⟨hr54, h⟩ := rg_e h
    by_cases c55 : 8 ≤ x49
    · have h := if_t c55 h
      exact L80 FU x48 0 s50 hF h
    · have h := if_f c55 h
      obtain ⟨y56, ey56, iy56, h⟩ := rdI_e h
      obtain ⟨hr57, h⟩ := rg_e h
      by_cases c58 : y56 < 254
      · have h := if_t c58 h
        obtain ⟨hr59, h⟩ := rg_e h
        obtain ⟨r61, hc60, h⟩ := bn_e h
        obtain ⟨hr62, h⟩ := rg_e h
        by_cases c63 : r61 = 0
        · have h := if_t c63 h
          obtain rfl := Option.some.inj h
          exact hF
        · have h := if_f c63 h
          obtain ⟨y64, ey64, iy64, h⟩ := rdI_e h
          obtain ⟨hi65, h⟩ := inb_e h
          obtain ⟨s66, hs66, h⟩ := st_e h
          have hF : F_x12_areCounts s s66 := hs66 ▸ Fr.uA hF (by decide)
          exact J72 x48 x49 s66 hF h
      · have h := if_f c58 h
        exact J72 x48 x49 s50 hF h
  have L2 : ∀ (n : Nat) (x67 : Int) (x68 : Int) (s69 : MS), F_x12_areCounts s s69 → m_x12_areCounts_L2 n x67 x68 s69 = some o → F_x12_areCounts s o.2 := by
    refine fr_ind (fun x67 x68 s69 hF h => by cases h) ?_
    intro n2 ih2 x67 x68 s69 hF h
    have h : m_x12_areCounts_b2 (m_x12_areCounts_L2 n2) x67 x68 s69 = some o := h
    unfold m_x12_areCounts_b2 at h
    obtain ⟨hr70, h⟩ := rg_e h
    by_cases c71 : 48 ≤ x68
    · have h := if_t c71 h
      exact L23 FU x67 0 s69 hF h
    · have h := if_f c71 h
      obtain ⟨hi72, h⟩ := inb_e h
      obtain ⟨s73, hs73, h⟩ := st_e h
      have hF : F_x12_areCounts s s73 := hs73 ▸ Fr.uA hF (by decide)
      exact ih2 x67 (x68 + 1) s73 hF h
  exact L2 FU p0 0 s hF h
abbrev F_x12_areBetween (s o : MS) : Prop := Fr [] [62] [] [] s o
theorem fr_x12_areBetween {p0 : Int} {p1 : Int} {p2 : Int} {s : MS} {o : (Int × MS)} (h : m_x12_areBetween p0 p1 p2 s = some o) : F_x12_areBetween s o.2 := by
  have hF : F_x12_areBetween s s := Fr.rf s
  unfold m_x12_areBetween at h
  have L10 : ∀ (n : Nat) (x1 : Int) (x2 : Int) (x3 : Int) (s4 : MS), F_x12_areBetween s s4 → m_x12_areBetween_L10 n x1 x2 x3 s4 = some o → F_x12_areBetween s o.2 := by
    refine fr_ind (fun x1 x2 x3 s4 hF h => by cases h) ?_
    intro n10 ih10 x1 x2 x3 s4 hF h
    have h : m_x12_areBetween_b10 (m_x12_areBetween_L10 n10) x1 x2 x3 s4 = some o := h
    unfold m_x12_areBetween_b10 at h
    have L30 : ∀ (n : Nat) (x5 : Int) (x6 : Int) (x7 : Int) (x8 : Int) (x9 : Int) (s10 : MS), F_x12_areBetween s s10 → m_x12_areBetween_L30 (m_x12_areBetween_L10 n10) n x5 x6 x7 x8 x9 s10 = some o → F_x12_areBetween s o.2 := by
      refine fr_ind (fun x5 x6 x7 x8 x9 s10 hF h => by cases h) ?_
      intro n30 ih30 x5 x6 x7 x8 x9 s10 hF h
      have h : m_x12_areBetween_b30 (m_x12_areBetween_L10 n10) (m_x12_areBetween_L30 (m_x12_areBetween_L10 n10) n30) x5 x6 x7 x8 x9 s10 = some o := h
      unfold m_x12_areBetween_b30 at h
      have J96 : ∀ (x11 : Int) (x12 : Int) (x13 : Int) (x14 : Int) (x15 : Int) (s16 : MS), F_x12_areBetween s s16 → m_x12_areBetween_J96 (m_x12_areBetween_L10 n10) (m_x12_areBetween_L30 (m_x12_areBetween_L10 n10) n30) x11 x12 x13 x14 x15 s16 = some o → F_x12_areBetween s o.2 := by
        intro x11 x12 x13 x14 x15 s16 hF h
        unfold m_x12_areBetween_J96 at h
        exact ih30 x11 x12 x13 x14 (x15 + 1) s16 hF h
      obtain ⟨r18, hc17, h⟩ := bn_e h
      obtain ⟨hr19, h⟩ := rg_e h
      obtain ⟨hr20, h⟩ := rg_e h
      by_cases c21 : r18 ≤ x9
      · have h := if_t c21 h
        exact ih10 x5 x6 x7 s10 hF h
      · have h := if_f c21 h
        obtain ⟨r23, hc22, h⟩ := bn_e h
        obtain ⟨hr24, h⟩ := rg_e h
        by_cases c25 : r23 = 0
        · have h := if_t c25 h
          obtain ⟨r31, hc30, h⟩ := bn_e h
          obtain ⟨hr32, h⟩ := rg_e h
          obtain ⟨hr33, h⟩ := rg_e h
          obtain ⟨hr34, h⟩ := rg_e h
          obtain ⟨r36, hc35, h⟩ := bn_e h
          obtain ⟨hr37, h⟩ := rg_e h
          by_cases c38 : r36 = 0
          · have h := if_t c38 h
            obtain rfl := Option.some.inj h
            exact hF
          · have h := if_f c38 h
            exact J96 x5 x6 x7 x8 x9 s10 hF h
        · have h := if_f c25 h
          obtain ⟨r27, hc26, h⟩ := bn_e h
          obtain ⟨hi28, h⟩ := inb_e h
          obtain ⟨s29, hs29, h⟩ := st_e h
          have hF : F_x12_areBetween s s29 := hs29 ▸ Fr.uA hF (by decide)
          exact J96 x5 x6 (x7 + 1) x8 x9 s29 hF h
    obtain ⟨hr39, h⟩ := rg_e h
    by_cases c40 : x3 ≤ 0
    · have h := if_t c40 h
      obtain rfl := Option.some.inj h
      exact hF
    · have h := if_f c40 h
      obtain ⟨y41, ey41, iy41, h⟩ := rdI_e h
      exact L30 FU x1 x2 (x3 + (-1)) y41 0 s4 hF h
  obtain ⟨hi42, h⟩ := inb_e h
  obtain ⟨s43, hs43, h⟩ := st_e h
  have hF : F_x12_areBetween s s43 := hs43 ▸ Fr.uA hF (by decide)
  exact L10 FU p1 p2 1 s43 hF h
abbrev F_x12_areKeys (s o : MS) : Prop := Fr [] [62] [] [] s o
theorem fr_x12_areKeys {p0 : Int} {s : MS} {o : (Int × MS)} (h : m_x12_areKeys p0 s = some o) : F_x12_areKeys s o.2 := by
  have hF : F_x12_areKeys s s := Fr.rf s
  unfold m_x12_areKeys at h
  have J86 : ∀ (s1 : MS), F_x12_areKeys s s1 → m_x12_areKeys_J86 s1 = some o → F_x12_areKeys s o.2 := by
    intro s1 hF h
    unfold m_x12_areKeys_J86 at h
    obtain rfl := Option.some.inj h
    exact hF
  have L9 : ∀ (n : Nat) (x2 : Int) (x3 : Int) (x4 : Int) (s5 : MS), F_x12_areKeys s s5 → m_x12_areKeys_L9 n x2 x3 x4 s5 = some o → F_x12_areKeys s o.2 := by
    refine fr_ind (fun x2 x3 x4 s5 hF h => by cases h) ?_
    intro n9 ih9 x2 x3 x4 s5 hF h
    have h : m_x12_areKeys_b9 (m_x12_areKeys_L9 n9) x2 x3 x4 s5 = some o := h
    unfold m_x12_areKeys_b9 at h
    have J72 : ∀ (x6 : Int) (x7 : Int) (x8 : Int) (x9 : Int) (x10 : Int) (x11 : Int) (s12 : MS), F_x12_areKeys s s12 → m_x12_areKeys_J72 (m_x12_areKeys_L9 n9) x6 x7 x8 x9 x10 x11 s12 = some o → F_x12_areKeys s o.2 := by
      intro x6 x7 x8 x9 x10 x11 s12 hF h
      unfold m_x12_areKeys_J72 at h
      obtain ⟨⟨r15, s14⟩, hc13, h⟩ := bn_e h
      have hF : F_x12_areKeys s s14 := Fr.tr hF (fr_x12_areBetween hc13) (by decide)
      obtain ⟨hr16, h⟩ := rg_e h
      by_cases c17 : r15 = 0
      · have h := if_t c17 h
        obtain rfl := Option.some.inj h
        exact hF
      · have h := if_f c17 h
        exact ih9 x6 x7 (x8 + 1) s14 hF h
    have J49 : ∀ (x18 : Int) (x19 : Int) (x20 : Int) (x21 : Int) (x22 : Int) (s23 : MS), F_x12_areKeys s s23 → m_x12_areKeys_J49 (m_x12_areKeys_L9 n9) x18 x19 x20 x21 x22 s23 = some o → F_x12_areKeys s o.2 := by
      intro x18 x19 x20 x21 x22 s23 hF h
      unfold m_x12_areKeys_J49 at h
      obtain ⟨hr24, h⟩ := rg_e h
      obtain ⟨hr25, h⟩ := rg_e h
      by_cases c26 : x19 ≤ (x20 + 1)
      · have h := if_t c26 h
        exact J72 x18 x19 x20 999 x21 x22 s23 hF h
      · have h := if_f c26 h
        obtain ⟨r28, hc27, h⟩ := bn_e h
        exact J72 x18 x19 x20 (r28 - 1) x21 x22 s23 hF h
    obtain ⟨hr29, h⟩ := rg_e h
    obtain ⟨hr30, h⟩ := rg_e h
    by_cases c31 : x3 ≤ x4
    · have h := if_t c31 h
      exact J86 s5 hF h
    · have h := if_f c31 h
      obtain ⟨r33, hc32, h⟩ := bn_e h
      obtain ⟨hr34, h⟩ := rg_e h
      by_cases c35 : r33 ≤ 0
      · have h := if_t c35 h
        exact J86 s5 hF h
      · have h := if_f c35 h
        obtain ⟨r37, hc36, h⟩ := bn_e h
        obtain ⟨hr38, h⟩ := rg_e h
        by_cases c39 : x4 = 0
        · have h := if_t c39 h
          exact J49 x2 x3 x4 0 r37 s5 hF h
        · have h := if_f c39 h
          obtain ⟨r41, hc40, h⟩ := bn_e h
          exact J49 x2 x3 x4 r41 r37 s5 hF h
  obtain ⟨r43, hc42, h⟩ := bn_e h
  exact L9 FU p0 r43 0 s hF h
abbrev F_x12_isImage (s o : MS) : Prop := Fr [114] [62, 113, 115] [] [] s o
theorem fr_x12_isImage {p0 : Int} {s : MS} {o : (Int × MS)} (h : m_x12_isImage p0 s = some o) : F_x12_isImage s o.2 := by
  have hF : F_x12_isImage s s := Fr.rf s
  unfold m_x12_isImage at h
  have L92 : ∀ (n : Nat) (x1 : Int) (s2 : MS), F_x12_isImage s s2 → m_x12_isImage_L92 n x1 s2 = some o → F_x12_isImage s o.2 := by
    refine fr_ind (fun x1 s2 hF h => by cases h) ?_
    intro n92 ih92 x1 s2 hF h
    have h : m_x12_isImage_b92 (m_x12_isImage_L92 n92) x1 s2 = some o := h
    unfold m_x12_isImage_b92 at h
    have L101 : ∀ (n : Nat) (x3 : Int) (x4 : Int) (s5 : MS), F_x12_isImage s s5 → m_x12_isImage_L101 (m_x12_isImage_L92 n92) n x3 x4 s5 = some o → F_x12_isImage s o.2 := by
      refine fr_ind (fun x3 x4 s5 hF h => by cases h) ?_
      intro n101 ih101 x3 x4 s5 hF h
      have h : m_x12_isImage_b101 (m_x12_isImage_L92 n92) (m_x12_isImage_L101 (m_x12_isImage_L92 n92) n101) x3 x4 s5 = some o := h
      unfold m_x12_isImage_b101 at h
      have J129 : ∀ (x6 : Int) (x7 : Int) (s8 : MS), F_x12_isImage s s8 → m_x12_isImage_J129 (m_x12_isImage_L92 n92) (m_x12_isImage_L101 (m_x12_isImage_L92 n92) n101) x6 x7 s8 = some o → F_x12_isImage s o.2 := by
        intro x6 x7 s8 hF h
        unfold m_x12_isImage_J129 at h
        exact ih101 x6 (x7 + 1) s8 hF h
      obtain ⟨r10, hc9, h⟩ := bn_e h
      obtain ⟨hr11, h⟩ := rg_e h
      obtain ⟨hr12, h⟩ := rg_e h
      by_cases c13 : r10 ≤ x4
      · have h := if_t c13 h
        exact ih92 (x3 + 1) s5 hF h
      · have h := if_f c13 h
        obtain ⟨r15, hc14, h⟩ := bn_e h
        obtain ⟨hr16, h⟩ := rg_e h
        obtain ⟨hr17, h⟩ := rg_e h
        by_cases c18 : r15 = x3
        · have h := if_t c18 h
          obtain ⟨⟨r21, s20⟩, hc19, h⟩ := bn_e h
          have hF : F_x12_isImage s s20 := Fr.tr hF (fr_x12_areKeys hc19) (by decide)
          obtain ⟨hr22, h⟩ := rg_e h
          by_cases c23 : r21 = 0
          · have h := if_t c23 h
            obtain rfl := Option.some.inj h
            exact hF
          · have h := if_f c23 h
            exact J129 x3 x4 s20 hF h
        · have h := if_f c18 h
          exact J129 x3 x4 s5 hF h
    obtain ⟨hr24, h⟩ := rg_e h
    by_cases c25 : 256 ≤ x1
    · have h := if_t c25 h
      obtain rfl := Option.some.inj h
      exact hF
    · have h := if_f c25 h
      exact L101 FU x1 0 s2 hF h
  have J88 : ∀ (s26 : MS), F_x12_isImage s s26 → m_x12_isImage_J88 s26 = some o → F_x12_isImage s o.2 := by
    intro s26 hF h
    unfold m_x12_isImage_J88 at h
    obtain rfl := Option.some.inj h
    exact hF
  have L48 : ∀ (n : Nat) (x27 : Int) (s28 : MS), F_x12_isImage s s28 → m_x12_isImage_L48 n x27 s28 = some o → F_x12_isImage s o.2 := by
    refine fr_ind (fun x27 s28 hF h => by cases h) ?_
    intro n48 ih48 x27 s28 hF h
    have h : m_x12_isImage_b48 (m_x12_isImage_L48 n48) x27 s28 = some o := h
    unfold m_x12_isImage_b48 at h
    obtain ⟨r30, hc29, h⟩ := bn_e h
    obtain ⟨hr31, h⟩ := rg_e h
    obtain ⟨hr32, h⟩ := rg_e h
    by_cases c33 : r30 ≤ x27
    · have h := if_t c33 h
      obtain ⟨⟨r36, s35⟩, hc34, h⟩ := bn_e h
      have hF : F_x12_isImage s s35 := Fr.tr hF (fr_x12_areCounts hc34) (by decide)
      obtain ⟨hr37, h⟩ := rg_e h
      by_cases c38 : r36 = 0
      · have h := if_t c38 h
        exact J88 s35 hF h
      · have h := if_f c38 h
        obtain ⟨⟨r41, s40⟩, hc39, h⟩ := bn_e h
        have hF : F_x12_isImage s s40 := Fr.tr hF (fr_x12_areCounts hc39) (by decide)
        obtain ⟨hr42, h⟩ := rg_e h
        by_cases c43 : r41 = 0
        · have h := if_t c43 h
          exact J88 s40 hF h
        · have h := if_f c43 h
          exact L92 FU 1 s40 hF h
    · have h := if_f c33 h
      obtain ⟨r45, hc44, h⟩ := bn_e h
      obtain ⟨hr46, h⟩ := rg_e h
      by_cases c47 : r45 = 0
      · have h := if_t c47 h
        obtain rfl := Option.some.inj h
        exact hF
      · have h := if_f c47 h
        exact ih48 (x27 + 1) s28 hF h
  have J44 : ∀ (s48 : MS), F_x12_isImage s s48 → m_x12_isImage_J44 s48 = some o → F_x12_isImage s o.2 := by
    intro s48 hF h
    unfold m_x12_isImage_J44 at h
    obtain rfl := Option.some.inj h
    exact hF
  obtain ⟨hr49, h⟩ := rg_e h
  by_cases c50 : (gI s 47) = 0
  · have h := if_t c50 h
    exact J44 s hF h
  · have h := if_f c50 h
    obtain ⟨hr51, h⟩ := rg_e h
    by_cases c52 : p0 < 20
    · have h := if_t c52 h
      exact J44 s hF h
    · have h := if_f c52 h
      obtain ⟨y53, ey53, iy53, h⟩ := rdI_e h
      obtain ⟨r55, hc54, h⟩ := bn_e h
      obtain ⟨hr56, h⟩ := rg_e h
      obtain ⟨hr57, h⟩ := rg_e h
      by_cases c58 : y53 = r55
      · have h := if_t c58 h
        obtain ⟨⟨r61, s60⟩, hc59, h⟩ := bn_e h
        have hF : F_x12_isImage s s60 := Fr.tr hF (fr_x12_isLaid hc59) (by decide)
        obtain ⟨hr62, h⟩ := rg_e h
        by_cases c63 : r61 = 0
        · have h := if_t c63 h
          exact J44 s60 hF h
        · have h := if_f c63 h
          exact L48 FU 0 s60 hF h
      · have h := if_f c58 h
        exact J44 s hF h
abbrev F_x12_on (s o : MS) : Prop := Fr [1, 76, 114] [9, 49, 62, 113, 115] [] [] s o
theorem fr_x12_on {s : MS} {o : (Int × MS)} (h : m_x12_on s = some o) : F_x12_on s o.2 := by
  have hF : F_x12_on s s := Fr.rf s
  unfold m_x12_on at h
  have L26 : ∀ (n : Nat) (x1 : Int) (s2 : MS), F_x12_on s s2 → m_x12_on_L26 n x1 s2 = some o → F_x12_on s o.2 := by
    refine fr_ind (fun x1 s2 hF h => by cases h) ?_
    intro n26 ih26 x1 s2 hF h
    have h : m_x12_on_b26 (m_x12_on_L26 n26) x1 s2 = some o := h
    unfold m_x12_on_b26 at h
    obtain ⟨hr3, h⟩ := rg_e h
    by_cases c4 : 785 ≤ x1
    · have h := if_t c4 h
      obtain ⟨hi5, h⟩ := inb_e h
      obtain ⟨s6, hs6, h⟩ := st_e h
      have hF : F_x12_on s s6 := hs6 ▸ Fr.uA hF (by decide)
      obtain ⟨s7, hs7, h⟩ := st_e h
      have hF : F_x12_on s s7 := hs7 ▸ Fr.uI hF (by decide)
      obtain rfl := Option.some.inj h
      exact hF
    · have h := if_f c4 h
      obtain ⟨y8, ey8, iy8, h⟩ := rdI_e h
      obtain ⟨hi9, h⟩ := inb_e h
      obtain ⟨s10, hs10, h⟩ := st_e h
      have hF : F_x12_on s s10 := hs10 ▸ Fr.uA hF (by decide)
      exact ih26 (x1 + 1) s10 hF h
  obtain ⟨s11, hs11, h⟩ := st_e h
  have hF : F_x12_on s s11 := hs11 ▸ Fr.uI hF (by decide)
  obtain ⟨⟨r14, s13⟩, hc12, h⟩ := bn_e h
  have hF : F_x12_on s s13 := Fr.tr hF (fr_x12_isImage hc12) (by decide)
  obtain ⟨hr15, h⟩ := rg_e h
  by_cases c16 : r14 = 0
  · have h := if_t c16 h
    obtain ⟨⟨r19, s18⟩, hc17, h⟩ := bn_e h
    have hF : F_x12_on s s18 := Fr.tr hF (fr_x12_isRefused hc17) (by decide)
    obtain ⟨hb20, h⟩ := bo_e h
    obtain rfl := Option.some.inj h
    exact hF
  · have h := if_f c16 h
    exact L26 FU 0 s13 hF h
abbrev F_x1_settle (s o : MS) : Prop := Fr [1061, 1601, 1602, 1604, 1605] [81] [] [] s o
theorem fr_x1_settle {s : MS} {o : (Int × MS)} (h : m_x1_settle s = some o) : F_x1_settle s o.2 := by
  have hF : F_x1_settle s s := Fr.rf s
  unfold m_x1_settle at h
  obtain ⟨⟨r3, s2⟩, hc1, h⟩ := bn_e h
  have hF : F_x1_settle s s2 := Fr.tr hF (fr_x1_price hc1) (by decide)
  obtain ⟨hr4, h⟩ := rg_e h
  obtain ⟨s5, hs5, h⟩ := st_e h
  have hF : F_x1_settle s s5 := hs5 ▸ Fr.uI hF (by decide)
  obtain ⟨r7, hc6, h⟩ := bn_e h
  obtain rfl := Option.some.inj h
  exact hF
abbrev F_x2_keep (s o : MS) : Prop := Fr [143] [8, 9, 10] [] [] s o
theorem fr_x2_keep {p0 : Int} {p1 : Int} {p2 : Int} {s : MS} {o : MS} (h : m_x2_keep p0 p1 p2 s = some o) : F_x2_keep s o := by
  have hF : F_x2_keep s s := Fr.rf s
  unfold m_x2_keep at h
  have J70 : ∀ (x1 : Int) (x2 : Int) (x3 : Int) (s4 : MS), F_x2_keep s s4 → m_x2_keep_J70 x1 x2 x3 s4 = some o → F_x2_keep s o := by
    intro x1 x2 x3 s4 hF h
    unfold m_x2_keep_J70 at h
    obtain ⟨hi5, h⟩ := inb_e h
    obtain ⟨s6, hs6, h⟩ := st_e h
    have hF : F_x2_keep s s6 := hs6 ▸ Fr.uA hF (by decide)
    obtain ⟨hi7, h⟩ := inb_e h
    obtain ⟨s8, hs8, h⟩ := st_e h
    have hF : F_x2_keep s s8 := hs8 ▸ Fr.uA hF (by decide)
    obtain ⟨hi9, h⟩ := inb_e h
    obtain ⟨s10, hs10, h⟩ := st_e h
    have hF : F_x2_keep s s10 := hs10 ▸ Fr.uA hF (by decide)
    obtain ⟨s11, hs11, h⟩ := st_e h
    have hF : F_x2_keep s s11 := hs11 ▸ Fr.uI hF (by decide)
    obtain rfl := Option.some.inj h
    exact hF
  obtain ⟨hr12, h⟩ := rg_e h
  by_cases c13 : (gI s 143) = 60
  · have h := if_t c13 h
    obtain ⟨s14, hs14, h⟩ := st_e h
    have hF : F_x2_keep s s14 := hs14 ▸ Fr.uI hF (by decide)
    obtain ⟨hc15, h⟩ := cpg_e h
    obtain ⟨s16, hs16, h⟩ := st_e h
    have hF : F_x2_keep s s16 := hs16 ▸ Fr.uA hF (by decide)
    obtain ⟨hc17, h⟩ := cpg_e h
    obtain ⟨s18, hs18, h⟩ := st_e h
    have hF : F_x2_keep s s18 := hs18 ▸ Fr.uA hF (by decide)
    obtain ⟨hc19, h⟩ := cpg_e h
    obtain ⟨s20, hs20, h⟩ := st_e h
    have hF : F_x2_keep s s20 := hs20 ▸ Fr.uA hF (by decide)
    exact J70 p0 p1 p2 s20 hF h
  · have h := if_f c13 h
    exact J70 p0 p1 p2 s hF h
abbrev F_x1_draw (s o : MS) : Prop := Fr [983] [] [] [] s o
theorem fr_x1_draw {p0 : Int} {s : MS} {o : (Int × MS)} (h : m_x1_draw p0 s = some o) : F_x1_draw s o.2 := by
  have hF : F_x1_draw s s := Fr.rf s
  unfold m_x1_draw at h
  have J39 : ∀ (x1 : Int) (s2 : MS), F_x1_draw s s2 → m_x1_draw_J39 x1 s2 = some o → F_x1_draw s o.2 := by
    intro x1 s2 hF h
    unfold m_x1_draw_J39 at h
    obtain rfl := Option.some.inj h
    exact hF
  obtain ⟨hr3, h⟩ := rg_e h
  obtain ⟨s4, hs4, h⟩ := st_e h
  have hF : F_x1_draw s s4 := hs4 ▸ Fr.uI hF (by decide)
  obtain ⟨hr5, h⟩ := rg_e h
  by_cases c6 : p0 ≤ 0
  · have h := if_t c6 h
    exact J39 0 s4 hF h
  · have h := if_f c6 h
    obtain ⟨hn7, h⟩ := dv_e h
    obtain ⟨hn8, h⟩ := dv_e h
    exact J39 (Int.tmod (Int.tdiv (gI s4 983) 64) p0) s4 hF h
abbrev F_x1_actBySeed (s o : MS) : Prop := Fr [983, 1060, 1061, 1420, 1421, 1601, 1602, 1603, 1604, 1605] [50, 51, 54, 55, 56, 57, 58, 59, 60, 61, 72, 73, 74, 75, 76, 77, 78, 79, 81] [1062, 1422] [] s o
theorem fr_x1_actBySeed {s : MS} {o : (Int × MS)} (h : m_x1_actBySeed s = some o) : F_x1_actBySeed s o.2 := by
  have hF : F_x1_actBySeed s s := Fr.rf s
  unfold m_x1_actBySeed at h
  have J23 : ∀ (s1 : MS), F_x1_actBySeed s s1 → m_x1_actBySeed_J23 s1 = some o → F_x1_actBySeed s o.2 := by
    intro s1 hF h
    unfold m_x1_actBySeed_J23 at h
    obtain ⟨r3, hc2, h⟩ := bn_e h
    obtain ⟨hr4, h⟩ := rg_e h
    by_cases c5 : r3 = 0
    · have h := if_t c5 h
      obtain rfl := Option.some.inj h
      exact hF
    · have h := if_f c5 h
      obtain ⟨⟨r8, s7⟩, hc6, h⟩ := bn_e h
      have hF : F_x1_actBySeed s s7 := Fr.tr hF (fr_x1_draw hc6) (by decide)
      obtain ⟨r10, hc9, h⟩ := bn_e h
      obtain ⟨⟨r13, s12⟩, hc11, h⟩ := bn_e h
      have hF : F_x1_actBySeed s s12 := Fr.tr hF (fr_x1_draw hc11) (by decide)
      obtain ⟨⟨r16, s15⟩, hc14, h⟩ := bn_e h
      have hF : F_x1_actBySeed s s15 := Fr.tr hF (fr_x1_draw hc14) (by decide)
      obtain ⟨hr17, h⟩ := rg_e h
      by_cases c18 : r13 = 2
      · have h := if_t c18 h
        obtain ⟨⟨r28, s27⟩, hc26, h⟩ := bn_e h
        have hF : F_x1_actBySeed s s27 := Fr.tr hF (fr_x1_tryUproot hc26) (by decide)
        obtain ⟨hb29, h⟩ := bo_e h
        obtain rfl := Option.some.inj h
        exact hF
      · have h := if_f c18 h
        obtain ⟨⟨r21, s20⟩, hc19, h⟩ := bn_e h
        have hF : F_x1_actBySeed s s20 := Fr.tr hF (fr_x1_draw hc19) (by decide)
        obtain ⟨⟨r24, s23⟩, hc22, h⟩ := bn_e h
        have hF : F_x1_actBySeed s s23 := Fr.tr hF (fr_x1_tryPlant hc22) (by decide)
        obtain ⟨hb25, h⟩ := bo_e h
        obtain rfl := Option.some.inj h
        exact hF
  obtain ⟨⟨r32, s31⟩, hc30, h⟩ := bn_e h
  have hF : F_x1_actBySeed s s31 := Fr.tr hF (fr_x1_draw hc30) (by decide)
  obtain ⟨hr33, h⟩ := rg_e h
  obtain ⟨hr34, h⟩ := rg_e h
  by_cases c35 : (gI s31 582) ≤ r32
  · have h := if_t c35 h
    exact J23 s31 hF h
  · have h := if_f c35 h
    obtain ⟨s37, hc36, h⟩ := bn_e h
    have hF : F_x1_actBySeed s s37 := Fr.tr hF (fr_x8_save hc36) (by decide)
    exact J23 s37 hF h
abbrev F_x8_becomeP (s o : MS) : Prop := Fr [1060, 1061] [54, 55, 56, 57, 58, 59, 60, 61] [1062] [] s o
theorem fr_x8_becomeP {s : MS} {o : MS} (h : m_x8_becomeP s = some o) : F_x8_becomeP s o := by
  have hF : F_x8_becomeP s s := Fr.rf s
  unfold m_x8_becomeP at h
  obtain ⟨s1, hs1, h⟩ := st_e h
  have hF : F_x8_becomeP s s1 := hs1 ▸ Fr.uI hF (by decide)
  obtain ⟨s2, hs2, h⟩ := st_e h
  have hF : F_x8_becomeP s s2 := hs2 ▸ Fr.uI hF (by decide)
  obtain ⟨s3, hs3, h⟩ := st_e h
  have hF : F_x8_becomeP s s3 := hs3 ▸ Fr.uL hF (by decide)
  obtain ⟨hc4, h⟩ := cpg_e h
  obtain ⟨s5, hs5, h⟩ := st_e h
  have hF : F_x8_becomeP s s5 := hs5 ▸ Fr.uA hF (by decide)
  obtain ⟨hc6, h⟩ := cpg_e h
  obtain ⟨s7, hs7, h⟩ := st_e h
  have hF : F_x8_becomeP s s7 := hs7 ▸ Fr.uA hF (by decide)
  obtain ⟨hc8, h⟩ := cpg_e h
  obtain ⟨s9, hs9, h⟩ := st_e h
  have hF : F_x8_becomeP s s9 := hs9 ▸ Fr.uA hF (by decide)
  obtain ⟨hc10, h⟩ := cpg_e h
  obtain ⟨s11, hs11, h⟩ := st_e h
  have hF : F_x8_becomeP s s11 := hs11 ▸ Fr.uA hF (by decide)
  obtain ⟨hc12, h⟩ := cpg_e h
  obtain ⟨s13, hs13, h⟩ := st_e h
  have hF : F_x8_becomeP s s13 := hs13 ▸ Fr.uA hF (by decide)
  obtain ⟨hc14, h⟩ := cpg_e h
  obtain ⟨s15, hs15, h⟩ := st_e h
  have hF : F_x8_becomeP s s15 := hs15 ▸ Fr.uA hF (by decide)
  obtain ⟨hc16, h⟩ := cpg_e h
  obtain ⟨s17, hs17, h⟩ := st_e h
  have hF : F_x8_becomeP s s17 := hs17 ▸ Fr.uA hF (by decide)
  obtain ⟨hc18, h⟩ := cpg_e h
  obtain ⟨s19, hs19, h⟩ := st_e h
  have hF : F_x8_becomeP s s19 := hs19 ▸ Fr.uA hF (by decide)
  obtain rfl := Option.some.inj h
  exact hF
abbrev F_x8_clear_v2 (s o : MS) : Prop := Fr [1060, 1061] [54, 55, 56, 57, 60, 61] [1062] [] s o
theorem fr_x8_clear_v2 {p0 : Int} {s : MS} {o : MS} (h : m_x8_clear_v2 p0 s = some o) : F_x8_clear_v2 s o := by
  have hF : F_x8_clear_v2 s s := Fr.rf s
  unfold m_x8_clear_v2 at h
  have L59 : ∀ (n : Nat) (x1 : Int) (s2 : MS), F_x8_clear_v2 s s2 → m_x8_clear_v2_L59 n x1 s2 = some o → F_x8_clear_v2 s o := by
    refine fr_ind (fun x1 s2 hF h => by cases h) ?_
    intro n59 ih59 x1 s2 hF h
    have h : m_x8_clear_v2_b59 (m_x8_clear_v2_L59 n59) x1 s2 = some o := h
    unfold m_x8_clear_v2_b59 at h
    obtain ⟨hr3, h⟩ := rg_e h
    by_cases c4 : 8 ≤ x1
    · have h := if_t c4 h
      obtain rfl := Option.some.inj h
      exact hF
    · have h := if_f c4 h
      obtain ⟨hi5, h⟩ := inb_e h
      obtain ⟨s6, hs6, h⟩ := st_e h
      have hF : F_x8_clear_v2 s s6 := hs6 ▸ Fr.uA hF (by decide)
      obtain ⟨hi7, h⟩ := inb_e h
      obtain ⟨s8, hs8, h⟩ := st_e h
      have hF : F_x8_clear_v2 s s8 := hs8 ▸ Fr.uA hF (by decide)
      exact ih59 (x1 + 1) s8 hF h
  have L17 : ∀ (n : Nat) (x9 : Int) (s10 : MS), F_x8_clear_v2 s s10 → m_x8_clear_v2_L17 n x9 s10 = some o → F_x8_clear_v2 s o := by
    refine fr_ind (fun x9 s10 hF h => by cases h) ?_
    intro n17 ih17 x9 s10 hF h
    have h : m_x8_clear_v2_b17 (m_x8_clear_v2_L17 n17) x9 s10 = some o := h
    unfold m_x8_clear_v2_b17 at h
    obtain ⟨hr11, h⟩ := rg_e h
    by_cases c12 : 48 ≤ x9
    · have h := if_t c12 h
      exact L59 FU 0 s10 hF h
    · have h := if_f c12 h
      obtain ⟨hi13, h⟩ := inb_e h
      obtain ⟨s14, hs14, h⟩ := st_e h
      have hF : F_x8_clear_v2 s s14 := hs14 ▸ Fr.uA hF (by decide)
      obtain ⟨hi15, h⟩ := inb_e h
      obtain ⟨s16, hs16, h⟩ := st_e h
      have hF : F_x8_clear_v2 s s16 := hs16 ▸ Fr.uA hF (by decide)
      obtain ⟨hi17, h⟩ := inb_e h
      obtain ⟨s18, hs18, h⟩ := st_e h
      have hF : F_x8_clear_v2 s s18 := hs18 ▸ Fr.uA hF (by decide)
      obtain ⟨hi19, h⟩ := inb_e h
      obtain ⟨s20, hs20, h⟩ := st_e h
      have hF : F_x8_clear_v2 s s20 := hs20 ▸ Fr.uA hF (by decide)
      exact ih17 (x9 + 1) s20 hF h
  obtain ⟨s21, hs21, h⟩ := st_e h
  have hF : F_x8_clear_v2 s s21 := hs21 ▸ Fr.uI hF (by decide)
  obtain ⟨s22, hs22, h⟩ := st_e h
  have hF : F_x8_clear_v2 s s22 := hs22 ▸ Fr.uI hF (by decide)
  obtain ⟨s23, hs23, h⟩ := st_e h
  have hF : F_x8_clear_v2 s s23 := hs23 ▸ Fr.uL hF (by decide)
  exact L17 FU 0 s23 hF h
abbrev F_x1_build (s o : MS) : Prop := Fr [1060, 1061, 1420, 1421, 1601, 1602, 1603, 1604, 1605] [50, 51, 54, 55, 56, 57, 58, 59, 60, 61, 72, 73, 74, 75, 76, 77, 78, 79, 81] [1062, 1422] [] s o
theorem fr_x1_build {s : MS} {o : MS} (h : m_x1_build s = some o) : F_x1_build s o := by
  have hF : F_x1_build s s := Fr.rf s
  unfold m_x1_build at h
  have L18 : ∀ (n : Nat) (x1 : Int) (s2 : MS), F_x1_build s s2 → m_x1_build_L18 n x1 s2 = some o → F_x1_build s o := by
    refine fr_ind (fun x1 s2 hF h => by cases h) ?_
    intro n18 ih18 x1 s2 hF h
    have h : m_x1_build_b18 (m_x1_build_L18 n18) x1 s2 = some o := h
    unfold m_x1_build_b18 at h
    have J135 : ∀ (x3 : Int) (s4 : MS), F_x1_build s s4 → m_x1_build_J135 (m_x1_build_L18 n18) x3 s4 = some o → F_x1_build s o := by
      intro x3 s4 hF h
      unfold m_x1_build_J135 at h
      exact ih18 (x3 + 1) s4 hF h
    obtain ⟨hr5, h⟩ := rg_e h
    obtain ⟨hr6, h⟩ := rg_e h
    by_cases c7 : (gI s2 585) ≤ x1
    · have h := if_t c7 h
      obtain ⟨s9, hc8, h⟩ := bn_e h
      have hF : F_x1_build s s9 := Fr.tr hF (fr_x8_save hc8) (by decide)
      obtain ⟨s10, hs10, h⟩ := st_e h
      have hF : F_x1_build s s10 := hs10 ▸ Fr.uI hF (by decide)
      obtain ⟨s11, hs11, h⟩ := st_e h
      have hF : F_x1_build s s11 := hs11 ▸ Fr.uL hF (by decide)
      obtain rfl := Option.some.inj h
      exact hF
    · have h := if_f c7 h
      obtain ⟨y12, ey12, iy12, h⟩ := rdI_e h
      obtain ⟨y13, ey13, iy13, h⟩ := rdI_e h
      obtain ⟨hr14, h⟩ := rg_e h
      by_cases c15 : y13 = 2
      · have h := if_t c15 h
        obtain ⟨hi16, h⟩ := inb_e h
        obtain ⟨s17, hs17, h⟩ := st_e h
        have hF : F_x1_build s s17 := hs17 ▸ Fr.uA hF (by decide)
        exact J135 x1 s17 hF h
      · have h := if_f c15 h
        by_cases c18 : y13 = 3
        · have h := if_t c18 h
          obtain ⟨y19, ey19, iy19, h⟩ := rdI_e h
          obtain ⟨s21, hc20, h⟩ := bn_e h
          have hF : F_x1_build s s21 := Fr.tr hF (fr_x1_share hc20) (by decide)
          exact J135 x1 s21 hF h
        · have h := if_f c18 h
          by_cases c22 : y13 = 4
          · have h := if_t c22 h
            exact J135 x1 s2 hF h
          · have h := if_f c22 h
            by_cases c23 : y13 = 5
            · have h := if_t c23 h
              obtain ⟨y24, ey24, iy24, h⟩ := rdI_e h
              obtain ⟨y25, ey25, iy25, h⟩ := rdI_e h
              obtain ⟨⟨r28, s27⟩, hc26, h⟩ := bn_e h
              have hF : F_x1_build s s27 := Fr.tr hF (fr_x1_tryPlant hc26) (by decide)
              exact J135 x1 s27 hF h
            · have h := if_f c23 h
              by_cases c29 : y13 = 6
              · have h := if_t c29 h
                obtain ⟨y30, ey30, iy30, h⟩ := rdI_e h
                obtain ⟨⟨r33, s32⟩, hc31, h⟩ := bn_e h
                have hF : F_x1_build s s32 := Fr.tr hF (fr_x1_tryUproot hc31) (by decide)
                exact J135 x1 s32 hF h
              · have h := if_f c29 h
                exact J135 x1 s2 hF h
  obtain ⟨s35, hc34, h⟩ := bn_e h
  have hF : F_x1_build s s35 := Fr.tr hF (fr_x8_clear_v2 hc34) (by decide)
  exact L18 FU 0 s35 hF h
