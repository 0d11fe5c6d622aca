abbrev F_x11_writes (s o : MS) : Prop := Fr [1060, 1061, 1240, 1241, 1601, 1602, 1603, 1604, 1605] [50, 54, 55, 56, 57, 58, 59, 60, 61, 63, 64, 65, 66, 67, 68, 69, 70, 81] [1062, 1242] [] s o
theorem fr_x11_writes {p0 : Int} {p1 : Int} {p2 : Int} {s : MS} {o : (Int × MS)} (h : m_x11_writes p0 p1 p2 s = some o) : F_x11_writes s o.2 := by
  have hF : F_x11_writes s s := Fr.rf s
  unfold m_x11_writes at h
  have J55 : ∀ (x1 : Int) (s2 : MS), F_x11_writes s s2 → m_x11_writes_J55 x1 s2 = some o → F_x11_writes s o.2 := by
    intro x1 s2 hF h
    unfold m_x11_writes_J55 at h
    obtain rfl := Option.some.inj h
    exact hF
  have J21 : ∀ (s3 : MS), F_x11_writes s s3 → m_x11_writes_J21 s3 = some o → F_x11_writes s o.2 := by
    intro s3 hF h
    unfold m_x11_writes_J21 at h
    obtain rfl := Option.some.inj h
    exact hF
  obtain ⟨r5, hc4, h⟩ := bn_e h
  obtain ⟨hr6, h⟩ := rg_e h
  by_cases c7 : r5 = 0
  · have h := if_t c7 h
    exact J21 s hF h
  · have h := if_f c7 h
    obtain ⟨r9, hc8, h⟩ := bn_e h
    obtain ⟨hr10, h⟩ := rg_e h
    by_cases c11 : r9 = 0
    · have h := if_t c11 h
      exact J21 s hF h
    · have h := if_f c11 h
      obtain ⟨hr12, h⟩ := rg_e h
      by_cases c13 : p2 = 0
      · have h := if_t c13 h
        obtain ⟨⟨r21, s20⟩, hc19, h⟩ := bn_e h
        have hF : F_x11_writes s s20 := Fr.tr hF (fr_x1_wouldWrite hc19) (by decide)
        obtain rfl := Option.some.inj h
        exact hF
      · have h := if_f c13 h
        obtain ⟨hr14, h⟩ := rg_e h
        by_cases c15 : p2 = 1
        · have h := if_t c15 h
          obtain ⟨⟨r18, s17⟩, hc16, h⟩ := bn_e h
          have hF : F_x11_writes s s17 := Fr.tr hF (fr_x1_wouldCost hc16) (by decide)
          exact J55 r18 s17 hF h
        · have h := if_f c15 h
          exact J55 (-1) s hF h
abbrev F_x11_spread (s o : MS) : Prop := Fr [1060, 1061, 1240, 1241, 1601, 1602, 1603, 1604, 1605] [50, 54, 55, 56, 57, 58, 59, 60, 61, 63, 64, 65, 66, 67, 68, 69, 70, 81] [1062, 1242] [] s o
theorem fr_x11_spread {p0 : Int} {p1 : Int} {s : MS} {o : (Int × MS)} (h : m_x11_spread p0 p1 s = some o) : F_x11_spread s o.2 := by
  have hF : F_x11_spread s s := Fr.rf s
  unfold m_x11_spread at h
  have L26 : ∀ (n : Nat) (x1 : Int) (x2 : Int) (x3 : Int) (x4 : Int) (s5 : MS), F_x11_spread s s5 → m_x11_spread_L26 n x1 x2 x3 x4 s5 = some o → F_x11_spread s o.2 := by
    refine fr_ind (fun x1 x2 x3 x4 s5 hF h => by cases h) ?_
    intro n26 ih26 x1 x2 x3 x4 s5 hF h
    have h : m_x11_spread_b26 (m_x11_spread_L26 n26) x1 x2 x3 x4 s5 = some o := h
    unfold m_x11_spread_b26 at h
    have J50 : ∀ (x6 : Int) (x7 : Int) (x8 : Int) (x9 : Int) (s10 : MS), F_x11_spread s s10 → m_x11_spread_J50 (m_x11_spread_L26 n26) x6 x7 x8 x9 s10 = some o → F_x11_spread s o.2 := by
      intro x6 x7 x8 x9 s10 hF h
      unfold m_x11_spread_J50 at h
      exact ih26 x6 x7 x8 (x9 + 1) s10 hF h
    obtain ⟨hr11, h⟩ := rg_e h
    by_cases c12 : 100 ≤ x4
    · have h := if_t c12 h
      obtain rfl := Option.some.inj h
      exact hF
    · have h := if_f c12 h
      obtain ⟨⟨r15, s14⟩, hc13, h⟩ := bn_e h
      have hF : F_x11_spread s s14 := Fr.tr hF (fr_x1_wouldWrite hc13) (by decide)
      obtain ⟨hr16, h⟩ := rg_e h
      obtain ⟨hr17, h⟩ := rg_e h
      by_cases c18 : r15 = x2
      · have h := if_t c18 h
        exact J50 x1 x2 (x3 + 1) x4 s14 hF h
      · have h := if_f c18 h
        exact J50 x1 x2 x3 x4 s14 hF h
  have J19 : ∀ (s19 : MS), F_x11_spread s s19 → m_x11_spread_J19 s19 = some o → F_x11_spread s o.2 := by
    intro s19 hF h
    unfold m_x11_spread_J19 at h
    obtain rfl := Option.some.inj h
    exact hF
  obtain ⟨r21, hc20, h⟩ := bn_e h
  obtain ⟨hr22, h⟩ := rg_e h
  by_cases c23 : r21 = 0
  · have h := if_t c23 h
    exact J19 s hF h
  · have h := if_f c23 h
    obtain ⟨hr24, h⟩ := rg_e h
    by_cases c25 : (-1) ≤ p1
    · have h := if_t c25 h
      exact L26 FU p0 p1 0 0 s hF h
    · have h := if_f c25 h
      exact J19 s hF h
abbrev F_x11_growTrees (s o : MS) : Prop := Fr [421] [22] [] [1] s o
theorem fr_x11_growTrees {s : MS} {o : MS} (h : m_x11_growTrees s = some o) : F_x11_growTrees s o := by
  have hF : F_x11_growTrees s s := Fr.rf s
  unfold m_x11_growTrees at h
  have L10 : ∀ (n : Nat) (x1 : Int) (s2 : MS), F_x11_growTrees s s2 → m_x11_growTrees_L10 n x1 s2 = some o → F_x11_growTrees s o := by
    refine fr_ind (fun x1 s2 hF h => by cases h) ?_
    intro n10 ih10 x1 s2 hF h
    have h : m_x11_growTrees_b10 (m_x11_growTrees_L10 n10) x1 s2 = some o := h
    unfold m_x11_growTrees_b10 at h
    have J47 : ∀ (x3 : Int) (z4 : Int) (x5 : Int) (s6 : MS), F_x11_growTrees s s6 → m_x11_growTrees_J47 (m_x11_growTrees_L10 n10) x3 z4 x5 s6 = some o → F_x11_growTrees s o := by
      intro x3 z4 x5 s6 hF h
      unfold m_x11_growTrees_J47 at h
      obtain ⟨hi7, h⟩ := inb_e h
      obtain ⟨s8, hs8, h⟩ := st_e h
      have hF : F_x11_growTrees s s8 := hs8 ▸ Fr.uB hF (by decide)
      exact ih10 (x3 + 1) s8 hF h
    obtain ⟨hr9, h⟩ := rg_e h
    by_cases c10 : 8 ≤ x1
    · have h := if_t c10 h
      obtain rfl := Option.some.inj h
      exact hF
    · have h := if_f c10 h
      obtain ⟨r12, hc11, h⟩ := bn_e h
      obtain ⟨hr13, h⟩ := rg_e h
      by_cases c14 : r12 = 0
      · have h := if_t c14 h
        exact J47 x1 0 x1 s2 hF h
      · have h := if_f c14 h
        obtain ⟨y15, ey15, iy15, h⟩ := rdI_e h
        obtain ⟨⟨rl18, s17⟩, hc16, h⟩ := bn_e h
        have hF : F_x11_growTrees s s17 := Fr.tr hF (fr_x10_tree hc16) (by decide)
        exact J47 x1 rl18 x1 s17 hF h
  exact L10 FU 0 s hF h
abbrev F_x11_lostWith (s o : MS) : Prop := Fr [421] [22, 23, 24] [] [] s o
theorem fr_x11_lostWith {p0 : Int} {s : MS} {o : (Int × MS)} (h : m_x11_lostWith p0 s = some o) : F_x11_lostWith s o.2 := by
  have hF : F_x11_lostWith s s := Fr.rf s
  unfold m_x11_lostWith at h
  have J55 : ∀ (x1 : Int) (s2 : MS), F_x11_lostWith s s2 → m_x11_lostWith_J55 x1 s2 = some o → F_x11_lostWith s o.2 := by
    intro x1 s2 hF h
    unfold m_x11_lostWith_J55 at h
    obtain rfl := Option.some.inj h
    exact hF
  have L4 : ∀ (n : Nat) (x3 : Int) (x4 : Int) (x5 : Int) (s6 : MS), F_x11_lostWith s s6 → m_x11_lostWith_L4 n x3 x4 x5 s6 = some o → F_x11_lostWith s o.2 := by
    refine fr_ind (fun x3 x4 x5 s6 hF h => by cases h) ?_
    intro n4 ih4 x3 x4 x5 s6 hF h
    have h : m_x11_lostWith_b4 (m_x11_lostWith_L4 n4) x3 x4 x5 s6 = some o := h
    unfold m_x11_lostWith_b4 at h
    obtain ⟨hr7, h⟩ := rg_e h
    by_cases c8 : 8 ≤ x5
    · have h := if_t c8 h
      obtain ⟨hr9, h⟩ := rg_e h
      by_cases c10 : x4 = 0
      · have h := if_t c10 h
        exact J55 0 s6 hF h
      · have h := if_f c10 h
        obtain ⟨⟨r13, s12⟩, hc11, h⟩ := bn_e h
        have hF : F_x11_lostWith s s12 := Fr.tr hF (fr_x10_gather hc11) (by decide)
        exact J55 (x4 * r13) s12 hF h
    · have h := if_f c8 h
      obtain ⟨yl14, eyl14, iyl14, h⟩ := rdL_e h
      exact ih4 x3 (x4 + (andL (ushrLZ yl14 x3) 1)) (x5 + 1) s6 hF h
  exact L4 FU p0 0 0 s hF h
abbrev F_x11_lost (s o : MS) : Prop := Fr [421] [22, 23, 24] [] [1] s o
theorem fr_x11_lost {p0 : Int} {s : MS} {o : (Int × MS)} (h : m_x11_lost p0 s = some o) : F_x11_lost s o.2 := by
  have hF : F_x11_lost s s := Fr.rf s
  unfold m_x11_lost at h
  obtain ⟨r2, hc1, h⟩ := bn_e h
  obtain ⟨hr3, h⟩ := rg_e h
  by_cases c4 : r2 = 0
  · have h := if_t c4 h
    obtain rfl := Option.some.inj h
    exact hF
  · have h := if_f c4 h
    obtain ⟨s6, hc5, h⟩ := bn_e h
    have hF : F_x11_lost s s6 := Fr.tr hF (fr_x11_growTrees hc5) (by decide)
    obtain ⟨⟨r9, s8⟩, hc7, h⟩ := bn_e h
    have hF : F_x11_lost s s8 := Fr.tr hF (fr_x11_lostWith hc7) (by decide)
    obtain rfl := Option.some.inj h
    exact hF
abbrev F_x11_worst (s o : MS) : Prop := Fr [421] [22, 23, 24] [] [1] s o
theorem fr_x11_worst {p0 : Int} {s : MS} {o : (Int × MS)} (h : m_x11_worst p0 s = some o) : F_x11_worst s o.2 := by
  have hF : F_x11_worst s s := Fr.rf s
  unfold m_x11_worst at h
  have L11 : ∀ (n : Nat) (x1 : Int) (x2 : Int) (x3 : Int) (x4 : Int) (s5 : MS), F_x11_worst s s5 → m_x11_worst_L11 n x1 x2 x3 x4 s5 = some o → F_x11_worst s o.2 := by
    refine fr_ind (fun x1 x2 x3 x4 s5 hF h => by cases h) ?_
    intro n11 ih11 x1 x2 x3 x4 s5 hF h
    have h : m_x11_worst_b11 (m_x11_worst_L11 n11) x1 x2 x3 x4 s5 = some o := h
    unfold m_x11_worst_b11 at h
    have J46 : ∀ (x6 : Int) (x7 : Int) (x8 : Int) (x9 : Int) (s10 : MS), F_x11_worst s s10 → m_x11_worst_J46 (m_x11_worst_L11 n11) x6 x7 x8 x9 s10 = some o → F_x11_worst s o.2 := by
      intro x6 x7 x8 x9 s10 hF h
      unfold m_x11_worst_J46 at h
      exact ih11 x6 x7 x8 (x9 + 1) s10 hF h
    obtain ⟨hr11, h⟩ := rg_e h
    obtain ⟨hr12, h⟩ := rg_e h
    by_cases c13 : (gI s5 1060) ≤ x4
    · have h := if_t c13 h
      obtain ⟨hr14, h⟩ := rg_e h
      by_cases c15 : x2 = (-1)
      · have h := if_t c15 h
        obtain rfl := Option.some.inj h
        exact hF
      · have h := if_f c15 h
        obtain ⟨r17, hc16, h⟩ := bn_e h
        obtain rfl := Option.some.inj h
        exact hF
    · have h := if_f c13 h
      obtain ⟨⟨r20, s19⟩, hc18, h⟩ := bn_e h
      have hF : F_x11_worst s s19 := Fr.tr hF (fr_x11_lostWith hc18) (by decide)
      obtain ⟨hr21, h⟩ := rg_e h
      obtain ⟨hr22, h⟩ := rg_e h
      by_cases c23 : r20 ≤ x3
      · have h := if_t c23 h
        exact J46 x1 x2 x3 x4 s19 hF h
      · have h := if_f c23 h
        exact J46 x1 x4 r20 x4 s19 hF h
  obtain ⟨s25, hc24, h⟩ := bn_e h
  have hF : F_x11_worst s s25 := Fr.tr hF (fr_x11_growTrees hc24) (by decide)
  exact L11 FU p0 (-1) 0 0 s25 hF h
abbrev F_x11_victim (s o : MS) : Prop := Fr [] [50, 52] [] [] s o
theorem fr_x11_victim {p0 : Int} {s : MS} {o : (Int × MS)} (h : m_x11_victim p0 s = some o) : F_x11_victim s o.2 := by
  have hF : F_x11_victim s s := Fr.rf s
  unfold m_x11_victim at h
  have L16 : ∀ (n : Nat) (x1 : Int) (x2 : Int) (x3 : Int) (x4 : Int) (s5 : MS), F_x11_victim s s5 → m_x11_victim_L16 n x1 x2 x3 x4 s5 = some o → F_x11_victim s o.2 := by
    refine fr_ind (fun x1 x2 x3 x4 s5 hF h => by cases h) ?_
    intro n16 ih16 x1 x2 x3 x4 s5 hF h
    have h : m_x11_victim_b16 (m_x11_victim_L16 n16) x1 x2 x3 x4 s5 = some o := h
    unfold m_x11_victim_b16 at h
    have J66 : ∀ (x6 : Int) (x7 : Int) (x8 : Int) (x9 : Int) (s10 : MS), F_x11_victim s s10 → m_x11_victim_J66 (m_x11_victim_L16 n16) x6 x7 x8 x9 s10 = some o → F_x11_victim s o.2 := by
      intro x6 x7 x8 x9 s10 hF h
      unfold m_x11_victim_J66 at h
      exact ih16 x6 x7 x8 (x9 + 1) s10 hF h
    have J50 : ∀ (x11 : Int) (x12 : Int) (x13 : Int) (x14 : Int) (x15 : Int) (s16 : MS), F_x11_victim s s16 → m_x11_victim_J50 (m_x11_victim_L16 n16) x11 x12 x13 x14 x15 s16 = some o → F_x11_victim s o.2 := by
      intro x11 x12 x13 x14 x15 s16 hF h
      unfold m_x11_victim_J50 at h
      obtain ⟨hr17, h⟩ := rg_e h
      obtain ⟨hr18, h⟩ := rg_e h
      by_cases c19 : x15 ≤ x13
      · have h := if_t c19 h
        exact J66 x11 x12 x13 x14 s16 hF h
      · have h := if_f c19 h
        exact J66 x11 x14 x15 x14 s16 hF h
    obtain ⟨hr20, h⟩ := rg_e h
    by_cases c21 : 8 ≤ x4
    · have h := if_t c21 h
      obtain ⟨r23, hc22, h⟩ := bn_e h
      obtain rfl := Option.some.inj h
      exact hF
    · have h := if_f c21 h
      obtain ⟨r25, hc24, h⟩ := bn_e h
      obtain ⟨hr26, h⟩ := rg_e h
      by_cases c27 : r25 = 0
      · have h := if_t c27 h
        exact J50 x1 x2 x3 x4 (-1) s5 hF h
      · have h := if_f c27 h
        obtain ⟨y28, ey28, iy28, h⟩ := rdI_e h
        obtain ⟨⟨r31, s30⟩, hc29, h⟩ := bn_e h
        have hF : F_x11_victim s s30 := Fr.tr hF (fr_x1_freedWith hc29) (by decide)
        exact J50 x1 x2 x3 x4 r31 s30 hF h
  exact L16 FU p0 (-1) (-1) 0 s hF h
abbrev F_x11_back (s o : MS) : Prop := Fr [421, 501] [22, 23, 24, 26, 27, 28] [] [] s o
theorem fr_x11_back {p0 : Int} {s : MS} {o : (Int × MS)} (h : m_x11_back p0 s = some o) : F_x11_back s o.2 := by
  have hF : F_x11_back s s := Fr.rf s
  unfold m_x11_back at h
  have J27 : ∀ (s1 : MS), F_x11_back s s1 → m_x11_back_J27 s1 = some o → F_x11_back s o.2 := by
    intro s1 hF h
    unfold m_x11_back_J27 at h
    obtain rfl := Option.some.inj h
    exact hF
  obtain ⟨r3, hc2, h⟩ := bn_e h
  obtain ⟨hr4, h⟩ := rg_e h
  by_cases c5 : r3 = 0
  · have h := if_t c5 h
    exact J27 s hF h
  · have h := if_f c5 h
    obtain ⟨y6, ey6, iy6, h⟩ := rdI_e h
    obtain ⟨hr7, h⟩ := rg_e h
    by_cases c8 : y6 = (-2)
    · have h := if_t c8 h
      exact J27 s hF h
    · have h := if_f c8 h
      obtain ⟨y9, ey9, iy9, h⟩ := rdI_e h
      obtain ⟨y10, ey10, iy10, h⟩ := rdI_e h
      obtain ⟨⟨r13, s12⟩, hc11, h⟩ := bn_e h
      have hF : F_x11_back s s12 := Fr.tr hF (fr_x11_unlike hc11) (by decide)
      obtain rfl := Option.some.inj h
      exact hF
abbrev F_x7_take (s o : MS) : Prop := Fr [220] [12, 13] [] [] s o
theorem fr_x7_take {s : MS} {o : (Int × MS)} (h : m_x7_take s = some o) : F_x7_take s o.2 := by
  have hF : F_x7_take s s := Fr.rf s
  unfold m_x7_take at h
  have L74 : ∀ (n : Nat) (x1 : Int) (x2 : Int) (s3 : MS), F_x7_take s s3 → m_x7_take_L74 n x1 x2 s3 = some o → F_x7_take s o.2 := by
    refine fr_ind (fun x1 x2 s3 hF h => by cases h) ?_
    intro n74 ih74 x1 x2 s3 hF h
    have h : m_x7_take_b74 (m_x7_take_L74 n74) x1 x2 s3 = some o := h
    unfold m_x7_take_b74 at h
    obtain ⟨hr4, h⟩ := rg_e h
    obtain ⟨hr5, h⟩ := rg_e h
    by_cases c6 : x1 ≤ x2
    · have h := if_t c6 h
      obtain ⟨s7, hs7, h⟩ := st_e h
      have hF : F_x7_take s s7 := hs7 ▸ Fr.uI hF (by decide)
      obtain rfl := Option.some.inj h
      exact hF
    · have h := if_f c6 h
      obtain ⟨r9, hc8, h⟩ := bn_e h
      obtain ⟨hi10, h⟩ := inb_e h
      obtain ⟨s11, hs11, h⟩ := st_e h
      have hF : F_x7_take s s11 := hs11 ▸ Fr.uA hF (by decide)
      obtain ⟨r13, hc12, h⟩ := bn_e h
      obtain ⟨hi14, h⟩ := inb_e h
      obtain ⟨s15, hs15, h⟩ := st_e h
      have hF : F_x7_take s s15 := hs15 ▸ Fr.uA hF (by decide)
      exact ih74 x1 (x2 + 1) s15 hF h
  have J64 : ∀ (s16 : MS), F_x7_take s s16 → m_x7_take_J64 s16 = some o → F_x7_take s o.2 := by
    intro s16 hF h
    unfold m_x7_take_J64 at h
    obtain rfl := Option.some.inj h
    exact hF
  have L31 : ∀ (n : Nat) (x17 : Int) (x18 : Int) (s19 : MS), F_x7_take s s19 → m_x7_take_L31 n x17 x18 s19 = some o → F_x7_take s o.2 := by
    refine fr_ind (fun x17 x18 s19 hF h => by cases h) ?_
    intro n31 ih31 x17 x18 s19 hF h
    have h : m_x7_take_b31 (m_x7_take_L31 n31) x17 x18 s19 = some o := h
    unfold m_x7_take_b31 at h
    obtain ⟨hr20, h⟩ := rg_e h
    obtain ⟨hr21, h⟩ := rg_e h
    by_cases c22 : x17 ≤ x18
    · have h := if_t c22 h
      exact L74 FU x17 0 s19 hF h
    · have h := if_f c22 h
      obtain ⟨r24, hc23, h⟩ := bn_e h
      obtain ⟨hr25, h⟩ := rg_e h
      by_cases c26 : 999 < r24
      · have h := if_t c26 h
        exact J64 s19 hF h
      · have h := if_f c26 h
        obtain ⟨r28, hc27, h⟩ := bn_e h
        obtain ⟨hr29, h⟩ := rg_e h
        by_cases c30 : r28 ≤ 1000
        · have h := if_t c30 h
          exact ih31 x17 (x18 + 1) s19 hF h
        · have h := if_f c30 h
          exact J64 s19 hF h
  have J27 : ∀ (s31 : MS), F_x7_take s s31 → m_x7_take_J27 s31 = some o → F_x7_take s o.2 := by
    intro s31 hF h
    unfold m_x7_take_J27 at h
    obtain rfl := Option.some.inj h
    exact hF
  obtain ⟨hn32, h⟩ := dv_e h
  obtain ⟨hn33, h⟩ := dv_e h
  obtain ⟨hr34, h⟩ := rg_e h
  by_cases c35 : (Int.tmod (gI s 61) 4) = 0
  · have h := if_t c35 h
    obtain ⟨hr36, h⟩ := rg_e h
    by_cases c37 : (Int.tdiv (gI s 61) 4) < 1
    · have h := if_t c37 h
      exact J27 s hF h
    · have h := if_f c37 h
      obtain ⟨hr38, h⟩ := rg_e h
      by_cases c39 : (Int.tdiv (gI s 61) 4) ≤ 12
      · have h := if_t c39 h
        exact L31 FU (Int.tdiv (gI s 61) 4) 0 s hF h
      · have h := if_f c39 h
        exact J27 s hF h
  · have h := if_f c35 h
    exact J27 s hF h
abbrev F_x11_see (s o : MS) : Prop := Fr [61, 220] [2, 12, 13] [] [] s o
theorem fr_x11_see {s : MS} {o : (Int × MS)} (h : m_x11_see s = some o) : F_x11_see s o.2 := by
  have hF : F_x11_see s s := Fr.rf s
  unfold m_x11_see at h
  have J39 : ∀ (x1 : Int) (s2 : MS), F_x11_see s s2 → m_x11_see_J39 x1 s2 = some o → F_x11_see s o.2 := by
    intro x1 s2 hF h
    unfold m_x11_see_J39 at h
    obtain rfl := Option.some.inj h
    exact hF
  obtain ⟨⟨r5, s4⟩, hc3, h⟩ := bn_e h
  have hF : F_x11_see s s4 := Fr.tr hF (fr_x7_take hc3) (by decide)
  obtain ⟨s6, hs6, h⟩ := st_e h
  have hF : F_x11_see s s6 := hs6 ▸ Fr.uI hF (by decide)
  obtain ⟨hr7, h⟩ := rg_e h
  by_cases c8 : r5 = 0
  · have h := if_t c8 h
    obtain ⟨⟨r11, s10⟩, hc9, h⟩ := bn_e h
    have hF : F_x11_see s s10 := Fr.tr hF (fr_x11_refuse hc9) (by decide)
    exact J39 r11 s10 hF h
  · have h := if_f c8 h
    exact J39 (gI s6 220) s6 hF h
abbrev F_x7_findFits (s o : MS) : Prop := Fr [224] [14] [] [] s o
theorem fr_x7_findFits {s : MS} {o : (Int × MS)} (h : m_x7_findFits s = some o) : F_x7_findFits s o.2 := by
  have hF : F_x7_findFits s s := Fr.rf s
  unfold m_x7_findFits at h
  have L7 : ∀ (n : Nat) (x1 : Int) (s2 : MS), F_x7_findFits s s2 → m_x7_findFits_L7 n x1 s2 = some o → F_x7_findFits s o.2 := by
    refine fr_ind (fun x1 s2 hF h => by cases h) ?_
    intro n7 ih7 x1 s2 hF h
    have h : m_x7_findFits_b7 (m_x7_findFits_L7 n7) x1 s2 = some o := h
    unfold m_x7_findFits_b7 at h
    have J50 : ∀ (x3 : Int) (s4 : MS), F_x7_findFits s s4 → m_x7_findFits_J50 (m_x7_findFits_L7 n7) x3 s4 = some o → F_x7_findFits s o.2 := by
      intro x3 s4 hF h
      unfold m_x7_findFits_J50 at h
      exact ih7 (x3 + 1) s4 hF h
    obtain ⟨hr5, h⟩ := rg_e h
    by_cases c6 : 8 ≤ x1
    · have h := if_t c6 h
      obtain rfl := Option.some.inj h
      exact hF
    · have h := if_f c6 h
      obtain ⟨r8, hc7, h⟩ := bn_e h
      obtain ⟨hr9, h⟩ := rg_e h
      by_cases c10 : r8 = 0
      · have h := if_t c10 h
        exact J50 x1 s2 hF h
      · have h := if_f c10 h
        obtain ⟨r12, hc11, h⟩ := bn_e h
        obtain ⟨hr13, h⟩ := rg_e h
        by_cases c14 : r12 = 0
        · have h := if_t c14 h
          exact J50 x1 s2 hF h
        · have h := if_f c14 h
          obtain ⟨hi15, h⟩ := inb_e h
          obtain ⟨s16, hs16, h⟩ := st_e h
          have hF : F_x7_findFits s s16 := hs16 ▸ Fr.uA hF (by decide)
          obtain ⟨s17, hs17, h⟩ := st_e h
          have hF : F_x7_findFits s s17 := hs17 ▸ Fr.uI hF (by decide)
          exact J50 x1 s17 hF h
  obtain ⟨s18, hs18, h⟩ := st_e h
  have hF : F_x7_findFits s s18 := hs18 ▸ Fr.uI hF (by decide)
  exact L7 FU 0 s18 hF h
abbrev F_x11_fits (s o : MS) : Prop := Fr [224] [14] [] [] s o
theorem fr_x11_fits {p0 : Int} {s : MS} {o : (Int × MS)} (h : m_x11_fits p0 s = some o) : F_x11_fits s o.2 := by
  have hF : F_x11_fits s s := Fr.rf s
  unfold m_x11_fits at h
  have J44 : ∀ (x1 : Int) (s2 : MS), F_x11_fits s s2 → m_x11_fits_J44 x1 s2 = some o → F_x11_fits s o.2 := by
    intro x1 s2 hF h
    unfold m_x11_fits_J44 at h
    obtain rfl := Option.some.inj h
    exact hF
  have J43 : ∀ (s3 : MS), F_x11_fits s s3 → m_x11_fits_J43 s3 = some o → F_x11_fits s o.2 := by
    intro s3 hF h
    unfold m_x11_fits_J43 at h
    exact J44 (-1) s3 hF h
  obtain ⟨⟨r6, s5⟩, hc4, h⟩ := bn_e h
  have hF : F_x11_fits s s5 := Fr.tr hF (fr_x7_findFits hc4) (by decide)
  obtain ⟨hr7, h⟩ := rg_e h
  by_cases c8 : p0 = (-1)
  · have h := if_t c8 h
    obtain rfl := Option.some.inj h
    exact hF
  · have h := if_f c8 h
    obtain ⟨hr9, h⟩ := rg_e h
    by_cases c10 : p0 < 0
    · have h := if_t c10 h
      exact J43 s5 hF h
    · have h := if_f c10 h
      obtain ⟨hr11, h⟩ := rg_e h
      obtain ⟨hr12, h⟩ := rg_e h
      by_cases c13 : r6 ≤ p0
      · have h := if_t c13 h
        exact J43 s5 hF h
      · have h := if_f c13 h
        obtain ⟨y14, ey14, iy14, h⟩ := rdI_e h
        exact J44 y14 s5 hF h
abbrev F_x7_mostLeft (s o : MS) : Prop := Fr [] [15] [] [] s o
theorem fr_x7_mostLeft {p1 : Int} {s : MS} {o : (Int × MS)} (h : m_x7_mostLeft p1 s = some o) : F_x7_mostLeft s o.2 := by
  have hF : F_x7_mostLeft s s := Fr.rf s
  unfold m_x7_mostLeft at h
  have L5 : ∀ (n : Nat) (x1 : Int) (x2 : Int) (x3 : Int) (s4 : MS), F_x7_mostLeft s s4 → m_x7_mostLeft_L5 n x1 x2 x3 s4 = some o → F_x7_mostLeft s o.2 := by
    refine fr_ind (fun x1 x2 x3 s4 hF h => by cases h) ?_
    intro n5 ih5 x1 x2 x3 s4 hF h
    have h : m_x7_mostLeft_b5 (m_x7_mostLeft_L5 n5) x1 x2 x3 s4 = some o := h
    unfold m_x7_mostLeft_b5 at h
    have L39 : ∀ (n : Nat) (x5 : Int) (x6 : Int) (x7 : Int) (x8 : Int) (x9 : Int) (s10 : MS), F_x7_mostLeft s s10 → m_x7_mostLeft_L39 (m_x7_mostLeft_L5 n5) n x5 x6 x7 x8 x9 s10 = some o → F_x7_mostLeft s o.2 := by
      refine fr_ind (fun x5 x6 x7 x8 x9 s10 hF h => by cases h) ?_
      intro n39 ih39 x5 x6 x7 x8 x9 s10 hF h
      have h : m_x7_mostLeft_b39 (m_x7_mostLeft_L5 n5) (m_x7_mostLeft_L39 (m_x7_mostLeft_L5 n5) n39) x5 x6 x7 x8 x9 s10 = some o := h
      unfold m_x7_mostLeft_b39 at h
      have J70 : ∀ (x11 : Int) (x12 : Int) (x13 : Int) (x14 : Int) (x15 : Int) (x16 : Int) (s17 : MS), F_x7_mostLeft s s17 → m_x7_mostLeft_J70 (m_x7_mostLeft_L5 n5) (m_x7_mostLeft_L39 (m_x7_mostLeft_L5 n5) n39) x11 x12 x13 x14 x15 x16 s17 = some o → F_x7_mostLeft s o.2 := by
        intro x11 x12 x13 x14 x15 x16 s17 hF h
        unfold m_x7_mostLeft_J70 at h
        exact ih39 x11 x12 x13 (x16 + x15) (x14 + 1) s17 hF h
      obtain ⟨hr18, h⟩ := rg_e h
      obtain ⟨hr19, h⟩ := rg_e h
      by_cases c20 : x7 < x9
      · have h := if_t c20 h
        obtain ⟨hr21, h⟩ := rg_e h
        obtain ⟨hr22, h⟩ := rg_e h
        exact ih5 x5 (maxZ x6 x8) (x7 + 1) s10 hF h
      · have h := if_f c20 h
        obtain ⟨y23, ey23, iy23, h⟩ := rdI_e h
        obtain ⟨y24, ey24, iy24, h⟩ := rdI_e h
        obtain ⟨hr25, h⟩ := rg_e h
        obtain ⟨hr26, h⟩ := rg_e h
        by_cases c27 : y23 = y24
        · have h := if_t c27 h
          exact J70 x5 x6 x7 x9 1 x8 s10 hF h
        · have h := if_f c27 h
          exact J70 x5 x6 x7 x9 0 x8 s10 hF h
    obtain ⟨hr28, h⟩ := rg_e h
    obtain ⟨hr29, h⟩ := rg_e h
    by_cases c30 : (gI s4 224) ≤ x3
    · have h := if_t c30 h
      obtain rfl := Option.some.inj h
      exact hF
    · have h := if_f c30 h
      obtain ⟨y31, ey31, iy31, h⟩ := rdI_e h
      obtain ⟨r33, hc32, h⟩ := bn_e h
      obtain ⟨hi34, h⟩ := inb_e h
      obtain ⟨s35, hs35, h⟩ := st_e h
      have hF : F_x7_mostLeft s s35 := hs35 ▸ Fr.uA hF (by decide)
      exact L39 FU x1 x2 x3 0 0 s35 hF h
  exact L5 FU p1 0 0 s hF h
abbrev F_x11_tells (s o : MS) : Prop := Fr [224] [14, 15] [] [] s o
theorem fr_x11_tells {p0 : Int} {s : MS} {o : (Int × MS)} (h : m_x11_tells p0 s = some o) : F_x11_tells s o.2 := by
  have hF : F_x11_tells s s := Fr.rf s
  unfold m_x11_tells at h
  have L27 : ∀ (n : Nat) (x1 : Int) (x2 : Int) (x3 : Int) (x4 : Int) (s5 : MS), F_x11_tells s s5 → m_x11_tells_L27 n x1 x2 x3 x4 s5 = some o → F_x11_tells s o.2 := by
    refine fr_ind (fun x1 x2 x3 x4 s5 hF h => by cases h) ?_
    intro n27 ih27 x1 x2 x3 x4 s5 hF h
    have h : m_x11_tells_b27 (m_x11_tells_L27 n27) x1 x2 x3 x4 s5 = some o := h
    unfold m_x11_tells_b27 at h
    have J64 : ∀ (x6 : Int) (x7 : Int) (x8 : Int) (x9 : Int) (s10 : MS), F_x11_tells s s10 → m_x11_tells_J64 (m_x11_tells_L27 n27) x6 x7 x8 x9 s10 = some o → F_x11_tells s o.2 := by
      intro x6 x7 x8 x9 s10 hF h
      unfold m_x11_tells_J64 at h
      exact ih27 x6 x7 x8 (x9 + 1) s10 hF h
    obtain ⟨hr11, h⟩ := rg_e h
    by_cases c12 : 100 ≤ x4
    · have h := if_t c12 h
      obtain ⟨r14, hc13, h⟩ := bn_e h
      obtain rfl := Option.some.inj h
      exact hF
    · have h := if_f c12 h
      obtain ⟨⟨r17, s16⟩, hc15, h⟩ := bn_e h
      have hF : F_x11_tells s s16 := Fr.tr hF (fr_x7_mostLeft hc15) (by decide)
      obtain ⟨hr18, h⟩ := rg_e h
      obtain ⟨hr19, h⟩ := rg_e h
      by_cases c20 : x3 ≤ r17
      · have h := if_t c20 h
        exact J64 x1 x2 x3 x4 s16 hF h
      · have h := if_f c20 h
        exact J64 x1 x4 r17 x4 s16 hF h
  obtain ⟨⟨r23, s22⟩, hc21, h⟩ := bn_e h
  have hF : F_x11_tells s s22 := Fr.tr hF (fr_x7_findFits hc21) (by decide)
  obtain ⟨hr24, h⟩ := rg_e h
  by_cases c25 : r23 = 0
  · have h := if_t c25 h
    obtain rfl := Option.some.inj h
    exact hF
  · have h := if_f c25 h
    exact L27 FU p0 0 9 0 s22 hF h
abbrev F_x8_become_v3 (s o : MS) : Prop := Fr [1420, 1421] [72, 73, 74, 75, 76, 77, 78, 79] [1422] [] s o
theorem fr_x8_become_v3 {s : MS} {o : MS} (h : m_x8_become_v3 s = some o) : F_x8_become_v3 s o := by
  have hF : F_x8_become_v3 s s := Fr.rf s
  unfold m_x8_become_v3 at h
  obtain ⟨s1, hs1, h⟩ := st_e h
  have hF : F_x8_become_v3 s s1 := hs1 ▸ Fr.uI hF (by decide)
  obtain ⟨s2, hs2, h⟩ := st_e h
  have hF : F_x8_become_v3 s s2 := hs2 ▸ Fr.uI hF (by decide)
  obtain ⟨s3, hs3, h⟩ := st_e h
  have hF : F_x8_become_v3 s s3 := hs3 ▸ Fr.uL hF (by decide)
  obtain ⟨hc4, h⟩ := cpg_e h
  obtain ⟨s5, hs5, h⟩ := st_e h
  have hF : F_x8_become_v3 s s5 := hs5 ▸ Fr.uA hF (by decide)
  obtain ⟨hc6, h⟩ := cpg_e h
  obtain ⟨s7, hs7, h⟩ := st_e h
  have hF : F_x8_become_v3 s s7 := hs7 ▸ Fr.uA hF (by decide)
  obtain ⟨hc8, h⟩ := cpg_e h
  obtain ⟨s9, hs9, h⟩ := st_e h
  have hF : F_x8_become_v3 s s9 := hs9 ▸ Fr.uA hF (by decide)
  obtain ⟨hc10, h⟩ := cpg_e h
  obtain ⟨s11, hs11, h⟩ := st_e h
  have hF : F_x8_become_v3 s s11 := hs11 ▸ Fr.uA hF (by decide)
  obtain ⟨hc12, h⟩ := cpg_e h
  obtain ⟨s13, hs13, h⟩ := st_e h
  have hF : F_x8_become_v3 s s13 := hs13 ▸ Fr.uA hF (by decide)
  obtain ⟨hc14, h⟩ := cpg_e h
  obtain ⟨s15, hs15, h⟩ := st_e h
  have hF : F_x8_become_v3 s s15 := hs15 ▸ Fr.uA hF (by decide)
  obtain ⟨hc16, h⟩ := cpg_e h
  obtain ⟨s17, hs17, h⟩ := st_e h
  have hF : F_x8_become_v3 s s17 := hs17 ▸ Fr.uA hF (by decide)
  obtain ⟨hc18, h⟩ := cpg_e h
  obtain ⟨s19, hs19, h⟩ := st_e h
  have hF : F_x8_become_v3 s s19 := hs19 ▸ Fr.uA hF (by decide)
  obtain rfl := Option.some.inj h
  exact hF
abbrev F_x8_become_v4 (s o : MS) : Prop := Fr [1060, 1061] [54, 55, 56, 57, 58, 59, 60, 61] [1062] [] s o
theorem fr_x8_become_v4 {s : MS} {o : MS} (h : m_x8_become_v4 s = some o) : F_x8_become_v4 s o := by
  have hF : F_x8_become_v4 s s := Fr.rf s
  unfold m_x8_become_v4 at h
  obtain ⟨s1, hs1, h⟩ := st_e h
  have hF : F_x8_become_v4 s s1 := hs1 ▸ Fr.uI hF (by decide)
  obtain ⟨s2, hs2, h⟩ := st_e h
  have hF : F_x8_become_v4 s s2 := hs2 ▸ Fr.uI hF (by decide)
  obtain ⟨s3, hs3, h⟩ := st_e h
  have hF : F_x8_become_v4 s s3 := hs3 ▸ Fr.uL hF (by decide)
  obtain ⟨hc4, h⟩ := cpg_e h
  obtain ⟨s5, hs5, h⟩ := st_e h
  have hF : F_x8_become_v4 s s5 := hs5 ▸ Fr.uA hF (by decide)
  obtain ⟨hc6, h⟩ := cpg_e h
  obtain ⟨s7, hs7, h⟩ := st_e h
  have hF : F_x8_become_v4 s s7 := hs7 ▸ Fr.uA hF (by decide)
  obtain ⟨hc8, h⟩ := cpg_e h
  obtain ⟨s9, hs9, h⟩ := st_e h
  have hF : F_x8_become_v4 s s9 := hs9 ▸ Fr.uA hF (by decide)
  obtain ⟨hc10, h⟩ := cpg_e h
  obtain ⟨s11, hs11, h⟩ := st_e h
  have hF : F_x8_become_v4 s s11 := hs11 ▸ Fr.uA hF (by decide)
  obtain ⟨hc12, h⟩ := cpg_e h
  obtain ⟨s13, hs13, h⟩ := st_e h
  have hF : F_x8_become_v4 s s13 := hs13 ▸ Fr.uA hF (by decide)
  obtain ⟨hc14, h⟩ := cpg_e h
  obtain ⟨s15, hs15, h⟩ := st_e h
  have hF : F_x8_become_v4 s s15 := hs15 ▸ Fr.uA hF (by decide)
  obtain ⟨hc16, h⟩ := cpg_e h
  obtain ⟨s17, hs17, h⟩ := st_e h
  have hF : F_x8_become_v4 s s17 := hs17 ▸ Fr.uA hF (by decide)
  obtain ⟨hc18, h⟩ := cpg_e h
  obtain ⟨s19, hs19, h⟩ := st_e h
  have hF : F_x8_become_v4 s s19 := hs19 ▸ Fr.uA hF (by decide)
  obtain rfl := Option.some.inj h
  exact hF
abbrev F_x1_tryPlant (s o : MS) : Prop := Fr [1060, 1061, 1420, 1421, 1601, 1602, 1603, 1604, 1605] [50, 54, 55, 56, 57, 58, 59, 60, 61, 72, 73, 74, 75, 76, 77, 78, 79, 81] [1062, 1422] [] s o
theorem fr_x1_tryPlant {p0 : Int} {p1 : Int} {p2 : Int} {s : MS} {o : (Int × MS)} (h : m_x1_tryPlant p0 p1 p2 s = some o) : F_x1_tryPlant s o.2 := by
  have hF : F_x1_tryPlant s s := Fr.rf s
  unfold m_x1_tryPlant at h
  have J36 : ∀ (x1 : Int) (s2 : MS), F_x1_tryPlant s s2 → m_x1_tryPlant_J36 x1 s2 = some o → F_x1_tryPlant s o.2 := by
    intro x1 s2 hF h
    unfold m_x1_tryPlant_J36 at h
    obtain ⟨hb3, h⟩ := bo_e h
    obtain rfl := Option.some.inj h
    exact hF
  obtain ⟨s5, hc4, h⟩ := bn_e h
  have hF : F_x1_tryPlant s s5 := Fr.tr hF (fr_x8_become_v3 hc4) (by decide)
  obtain ⟨⟨r8, s7⟩, hc6, h⟩ := bn_e h
  have hF : F_x1_tryPlant s s7 := Fr.tr hF (fr_x1_plant hc6) (by decide)
  obtain ⟨hr9, h⟩ := rg_e h
  by_cases c10 : r8 = 0
  · have h := if_t c10 h
    obtain ⟨s12, hc11, h⟩ := bn_e h
    have hF : F_x1_tryPlant s s12 := Fr.tr hF (fr_x8_become_v4 hc11) (by decide)
    exact J36 r8 s12 hF h
  · have h := if_f c10 h
    exact J36 r8 s7 hF h
abbrev F_x8_delete (s o : MS) : Prop := Fr [] [57, 58, 59] [1062] [] s o
theorem fr_x8_delete {p0 : Int} {p1 : Int} {s : MS} {o : MS} (h : m_x8_delete p0 p1 s = some o) : F_x8_delete s o := by
  have hF : F_x8_delete s s := Fr.rf s
  unfold m_x8_delete at h
  have L45 : ∀ (n : Nat) (x1 : Int) (x2 : Int) (x3 : Int) (s4 : MS), F_x8_delete s s4 → m_x8_delete_L45 n x1 x2 x3 s4 = some o → F_x8_delete s o := by
    refine fr_ind (fun x1 x2 x3 s4 hF h => by cases h) ?_
    intro n45 ih45 x1 x2 x3 s4 hF h
    have h : m_x8_delete_b45 (m_x8_delete_L45 n45) x1 x2 x3 s4 = some o := h
    unfold m_x8_delete_b45 at h
    obtain ⟨hr5, h⟩ := rg_e h
    obtain ⟨hr6, h⟩ := rg_e h
    by_cases c7 : x2 ≤ x3
    · have h := if_t c7 h
      obtain ⟨s9, hc8, h⟩ := bn_e h
      have hF : F_x8_delete s s9 := Fr.tr hF (fr_x8_mark hc8) (by decide)
      obtain rfl := Option.some.inj h
      exact hF
    · have h := if_f c7 h
      obtain ⟨y10, ey10, iy10, h⟩ := rdI_e h
      obtain ⟨hi11, h⟩ := inb_e h
      obtain ⟨s12, hs12, h⟩ := st_e h
      have hF : F_x8_delete s s12 := hs12 ▸ Fr.uA hF (by decide)
      obtain ⟨y13, ey13, iy13, h⟩ := rdI_e h
      obtain ⟨hi14, h⟩ := inb_e h
      obtain ⟨s15, hs15, h⟩ := st_e h
      have hF : F_x8_delete s s15 := hs15 ▸ Fr.uA hF (by decide)
      exact ih45 x1 x2 (x3 + 1) s15 hF h
  have J14 : ∀ (s16 : MS), F_x8_delete s s16 → m_x8_delete_J14 s16 = some o → F_x8_delete s o := by
    intro s16 hF h
    unfold m_x8_delete_J14 at h
    obtain rfl := Option.some.inj h
    exact hF
  obtain ⟨hr17, h⟩ := rg_e h
  by_cases c18 : p1 < 0
  · have h := if_t c18 h
    exact J14 s hF h
  · have h := if_f c18 h
    obtain ⟨y19, ey19, iy19, h⟩ := rdI_e h
    obtain ⟨hr20, h⟩ := rg_e h
    obtain ⟨hr21, h⟩ := rg_e h
    by_cases c22 : p1 < y19
    · have h := if_t c22 h
      obtain ⟨y23, ey23, iy23, h⟩ := rdI_e h
      obtain ⟨hi24, h⟩ := inb_e h
      obtain ⟨s25, hs25, h⟩ := st_e h
      have hF : F_x8_delete s s25 := hs25 ▸ Fr.uA hF (by decide)
      obtain ⟨y26, ey26, iy26, h⟩ := rdI_e h
      obtain ⟨r28, hc27, h⟩ := bn_e h
      obtain ⟨r30, hc29, h⟩ := bn_e h
      exact L45 FU p0 r28 r30 s25 hF h
    · have h := if_f c22 h
      exact J14 s hF h
abbrev F_x1_prune (s o : MS) : Prop := Fr [] [50, 54, 57, 58, 59, 60] [1062] [] s o
theorem fr_x1_prune {p0 : Int} {p1 : Int} {p2 : Int} {s : MS} {o : MS} (h : m_x1_prune p0 p1 p2 s = some o) : F_x1_prune s o := by
  have hF : F_x1_prune s s := Fr.rf s
  unfold m_x1_prune at h
  have J186 : ∀ (s1 : MS), F_x1_prune s s1 → m_x1_prune_J186 s1 = some o → F_x1_prune s o := by
    intro s1 hF h
    unfold m_x1_prune_J186 at h
    obtain rfl := Option.some.inj h
    exact hF
  have L98 : ∀ (n : Nat) (x2 : Int) (x3 : Int) (s4 : MS), F_x1_prune s s4 → m_x1_prune_L98 n x2 x3 s4 = some o → F_x1_prune s o := by
    refine fr_ind (fun x2 x3 s4 hF h => by cases h) ?_
    intro n98 ih98 x2 x3 s4 hF h
    have h : m_x1_prune_b98 (m_x1_prune_L98 n98) x2 x3 s4 = some o := h
    unfold m_x1_prune_b98 at h
    have J180 : ∀ (x5 : Int) (x6 : Int) (s7 : MS), F_x1_prune s s7 → m_x1_prune_J180 (m_x1_prune_L98 n98) x5 x6 s7 = some o → F_x1_prune s o := by
      intro x5 x6 s7 hF h
      unfold m_x1_prune_J180 at h
      exact ih98 x5 (x6 + (-1)) s7 hF h
    obtain ⟨hr8, h⟩ := rg_e h
    by_cases c9 : x3 < 0
    · have h := if_t c9 h
      exact J186 s4 hF h
    · have h := if_f c9 h
      obtain ⟨y10, ey10, iy10, h⟩ := rdI_e h
      obtain ⟨y11, ey11, iy11, h⟩ := rdI_e h
      obtain ⟨hr12, h⟩ := rg_e h
      by_cases c13 : y11 = 0
      · have h := if_t c13 h
        obtain ⟨y14, ey14, iy14, h⟩ := rdI_e h
        obtain ⟨hi15, h⟩ := inb_e h
        obtain ⟨s16, hs16, h⟩ := st_e h
        have hF : F_x1_prune s s16 := hs16 ▸ Fr.uA hF (by decide)
        obtain ⟨hr17, h⟩ := rg_e h
        by_cases c18 : x3 ≤ 0
        · have h := if_t c18 h
          obtain ⟨hi19, h⟩ := inb_e h
          obtain ⟨s20, hs20, h⟩ := st_e h
          have hF : F_x1_prune s s20 := hs20 ▸ Fr.uA hF (by decide)
          exact J180 x2 x3 s20 hF h
        · have h := if_f c18 h
          obtain ⟨y21, ey21, iy21, h⟩ := rdI_e h
          obtain ⟨y22, ey22, iy22, h⟩ := rdI_e h
          obtain ⟨s24, hc23, h⟩ := bn_e h
          have hF : F_x1_prune s s24 := Fr.tr hF (fr_x8_delete hc23) (by decide)
          exact J180 x2 x3 s24 hF h
      · have h := if_f c13 h
        exact J186 s4 hF h
  have L18 : ∀ (n : Nat) (x25 : Int) (x26 : Int) (x27 : Int) (x28 : Int) (s29 : MS), F_x1_prune s s29 → m_x1_prune_L18 n x25 x26 x27 x28 s29 = some o → F_x1_prune s o := by
    refine fr_ind (fun x25 x26 x27 x28 s29 hF h => by cases h) ?_
    intro n18 ih18 x25 x26 x27 x28 s29 hF h
    have h : m_x1_prune_b18 (m_x1_prune_L18 n18) x25 x26 x27 x28 s29 = some o := h
    unfold m_x1_prune_b18 at h
    obtain ⟨hr30, h⟩ := rg_e h
    obtain ⟨hr31, h⟩ := rg_e h
    by_cases c32 : x27 ≤ x28
    · have h := if_t c32 h
      obtain ⟨y33, ey33, iy33, h⟩ := rdI_e h
      obtain ⟨y34, ey34, iy34, h⟩ := rdI_e h
      obtain ⟨r36, hc35, h⟩ := bn_e h
      obtain ⟨s38, hc37, h⟩ := bn_e h
      have hF : F_x1_prune s s38 := Fr.tr hF (fr_x8_delete hc37) (by decide)
      exact L98 FU x25 x27 s38 hF h
    · have h := if_f c32 h
      obtain ⟨y39, ey39, iy39, h⟩ := rdI_e h
      obtain ⟨y40, ey40, iy40, h⟩ := rdI_e h
      obtain ⟨r42, hc41, h⟩ := bn_e h
      obtain ⟨y43, ey43, iy43, h⟩ := rdI_e h
      obtain ⟨hi44, h⟩ := inb_e h
      obtain ⟨s45, hs45, h⟩ := st_e h
      have hF : F_x1_prune s s45 := hs45 ▸ Fr.uA hF (by decide)
      exact ih18 x25 x26 x27 (x28 + 1) s45 hF h
  obtain ⟨y46, ey46, iy46, h⟩ := rdI_e h
  obtain ⟨hi47, h⟩ := inb_e h
  obtain ⟨s48, hs48, h⟩ := st_e h
  have hF : F_x1_prune s s48 := hs48 ▸ Fr.uA hF (by decide)
  exact L18 FU p0 p1 p2 0 s48 hF h
abbrev F_x1_lowerRoot (s o : MS) : Prop := Fr [] [50, 54, 60] [] [] s o
theorem fr_x1_lowerRoot {p0 : Int} {s : MS} {o : MS} (h : m_x1_lowerRoot p0 s = some o) : F_x1_lowerRoot s o := by
  have hF : F_x1_lowerRoot s s := Fr.rf s
  unfold m_x1_lowerRoot at h
  have J48 : ∀ (s1 : MS), F_x1_lowerRoot s s1 → m_x1_lowerRoot_J48 s1 = some o → F_x1_lowerRoot s o := by
    intro s1 hF h
    unfold m_x1_lowerRoot_J48 at h
    obtain rfl := Option.some.inj h
    exact hF
  have L2 : ∀ (n : Nat) (x2 : Int) (x3 : Int) (s4 : MS), F_x1_lowerRoot s s4 → m_x1_lowerRoot_L2 n x2 x3 s4 = some o → F_x1_lowerRoot s o := by
    refine fr_ind (fun x2 x3 s4 hF h => by cases h) ?_
    intro n2 ih2 x2 x3 s4 hF h
    have h : m_x1_lowerRoot_b2 (m_x1_lowerRoot_L2 n2) x2 x3 s4 = some o := h
    unfold m_x1_lowerRoot_b2 at h
    obtain ⟨hr5, h⟩ := rg_e h
    by_cases c6 : 48 ≤ x3
    · have h := if_t c6 h
      obtain rfl := Option.some.inj h
      exact hF
    · have h := if_f c6 h
      obtain ⟨y7, ey7, iy7, h⟩ := rdI_e h
      obtain ⟨hr8, h⟩ := rg_e h
      by_cases c9 : y7 = (-1)
      · have h := if_t c9 h
        exact J48 s4 hF h
      · have h := if_f c9 h
        obtain ⟨y10, ey10, iy10, h⟩ := rdI_e h
        obtain ⟨hr11, h⟩ := rg_e h
        by_cases c12 : y10 = 0
        · have h := if_t c12 h
          exact J48 s4 hF h
        · have h := if_f c12 h
          obtain ⟨y13, ey13, iy13, h⟩ := rdI_e h
          obtain ⟨hr14, h⟩ := rg_e h
          by_cases c15 : y13 = 1
          · have h := if_t c15 h
            obtain ⟨r17, hc16, h⟩ := bn_e h
            obtain ⟨y18, ey18, iy18, h⟩ := rdI_e h
            obtain ⟨y19, ey19, iy19, h⟩ := rdI_e h
            obtain ⟨hi20, h⟩ := inb_e h
            obtain ⟨s21, hs21, h⟩ := st_e h
            have hF : F_x1_lowerRoot s s21 := hs21 ▸ Fr.uA hF (by decide)
            obtain ⟨hi22, h⟩ := inb_e h
            obtain ⟨s23, hs23, h⟩ := st_e h
            have hF : F_x1_lowerRoot s s23 := hs23 ▸ Fr.uA hF (by decide)
            obtain ⟨⟨r26, s25⟩, hc24, h⟩ := bn_e h
            have hF : F_x1_lowerRoot s s25 := Fr.tr hF (fr_x1_release_v2 hc24) (by decide)
            exact ih2 x2 (x3 + 1) s25 hF h
          · have h := if_f c15 h
            exact J48 s4 hF h
  exact L2 FU p0 0 s hF h
abbrev F_x1_uproot (s o : MS) : Prop := Fr [1601, 1602, 1603, 1604] [50, 51, 54, 56, 57, 58, 59, 60, 81] [1062] [] s o
theorem fr_x1_uproot {p0 : Int} {p1 : Int} {s : MS} {o : (Int × MS)} (h : m_x1_uproot p0 p1 s = some o) : F_x1_uproot s o.2 := by
  have hF : F_x1_uproot s s := Fr.rf s
  unfold m_x1_uproot at h
  have L55 : ∀ (n : Nat) (x1 : Int) (x2 : Int) (x3 : Int) (x4 : Int) (x5 : Int) (s6 : MS), F_x1_uproot s s6 → m_x1_uproot_L55 n x1 x2 x3 x4 x5 s6 = some o → F_x1_uproot s o.2 := by
    refine fr_ind (fun x1 x2 x3 x4 x5 s6 hF h => by cases h) ?_
    intro n55 ih55 x1 x2 x3 x4 x5 s6 hF h
    have h : m_x1_uproot_b55 (m_x1_uproot_L55 n55) x1 x2 x3 x4 x5 s6 = some o := h
    unfold m_x1_uproot_b55 at h
    obtain ⟨hr7, h⟩ := rg_e h
    obtain ⟨hr8, h⟩ := rg_e h
    by_cases c9 : x3 ≤ x5
    · have h := if_t c9 h
      obtain ⟨s11, hc10, h⟩ := bn_e h
      have hF : F_x1_uproot s s11 := Fr.tr hF (fr_x1_prune hc10) (by decide)
      obtain ⟨s13, hc12, h⟩ := bn_e h
      have hF : F_x1_uproot s s13 := Fr.tr hF (fr_x1_lowerRoot hc12) (by decide)
      obtain rfl := Option.some.inj h
      exact hF
    · have h := if_f c9 h
      obtain ⟨r15, hc14, h⟩ := bn_e h
      obtain ⟨r17, hc16, h⟩ := bn_e h
      obtain ⟨y18, ey18, iy18, h⟩ := rdI_e h
      obtain ⟨⟨r21, s20⟩, hc19, h⟩ := bn_e h
      have hF : F_x1_uproot s s20 := Fr.tr hF (fr_x1_owned hc19) (by decide)
      obtain ⟨hr22, h⟩ := rg_e h
      by_cases c23 : r21 = (-1)
      · have h := if_t c23 h
        obtain rfl := Option.some.inj h
        exact hF
      · have h := if_f c23 h
        obtain ⟨s25, hc24, h⟩ := bn_e h
        have hF : F_x1_uproot s s25 := Fr.tr hF (fr_x8_set hc24) (by decide)
        obtain ⟨hi26, h⟩ := inb_e h
        obtain ⟨s27, hs27, h⟩ := st_e h
        have hF : F_x1_uproot s s27 := hs27 ▸ Fr.uA hF (by decide)
        exact ih55 x1 x2 x3 r21 (x5 + 1) s27 hF h
  obtain ⟨y28, ey28, iy28, h⟩ := rdI_e h
  obtain ⟨y29, ey29, iy29, h⟩ := rdI_e h
  obtain ⟨y30, ey30, iy30, h⟩ := rdI_e h
  obtain ⟨⟨r33, s32⟩, hc31, h⟩ := bn_e h
  have hF : F_x1_uproot s s32 := Fr.tr hF (fr_x1_owned hc31) (by decide)
  obtain ⟨hr34, h⟩ := rg_e h
  by_cases c35 : r33 = (-1)
  · have h := if_t c35 h
    obtain rfl := Option.some.inj h
    exact hF
  · have h := if_f c35 h
    obtain ⟨hi36, h⟩ := inb_e h
    obtain ⟨s37, hs37, h⟩ := st_e h
    have hF : F_x1_uproot s s37 := hs37 ▸ Fr.uA hF (by decide)
    exact L55 FU p0 p1 y29 r33 0 s37 hF h
abbrev F_x1_tryUproot (s o : MS) : Prop := Fr [1060, 1061, 1420, 1421, 1601, 1602, 1603, 1604] [50, 51, 54, 55, 56, 57, 58, 59, 60, 61, 72, 73, 74, 75, 76, 77, 78, 79, 81] [1062, 1422] [] s o
theorem fr_x1_tryUproot {p0 : Int} {p1 : Int} {s : MS} {o : (Int × MS)} (h : m_x1_tryUproot p0 p1 s = some o) : F_x1_tryUproot s o.2 := by
  have hF : F_x1_tryUproot s s := Fr.rf s
  unfold m_x1_tryUproot at h
  have J56 : ∀ (x1 : Int) (s2 : MS), F_x1_tryUproot s s2 → m_x1_tryUproot_J56 x1 s2 = some o → F_x1_tryUproot s o.2 := by
    intro x1 s2 hF h
    unfold m_x1_tryUproot_J56 at h
    obtain ⟨hb3, h⟩ := bo_e h
    obtain rfl := Option.some.inj h
    exact hF
  obtain ⟨y4, ey4, iy4, h⟩ := rdI_e h
  obtain ⟨r6, hc5, h⟩ := bn_e h
  obtain ⟨hr7, h⟩ := rg_e h
  by_cases c8 : r6 = (-1)
  · have h := if_t c8 h
    obtain rfl := Option.some.inj h
    exact hF
  · have h := if_f c8 h
    obtain ⟨s10, hc9, h⟩ := bn_e h
    have hF : F_x1_tryUproot s s10 := Fr.tr hF (fr_x8_become_v3 hc9) (by decide)
    obtain ⟨⟨r13, s12⟩, hc11, h⟩ := bn_e h
    have hF : F_x1_tryUproot s s12 := Fr.tr hF (fr_x1_uproot hc11) (by decide)
    obtain ⟨hr14, h⟩ := rg_e h
    by_cases c15 : r13 = 0
    · have h := if_t c15 h
      obtain ⟨s17, hc16, h⟩ := bn_e h
      have hF : F_x1_tryUproot s s17 := Fr.tr hF (fr_x8_become_v4 hc16) (by decide)
      exact J56 r13 s17 hF h
    · have h := if_f c15 h
      exact J56 r13 s12 hF h
abbrev F_x1_share (s o : MS) : Prop := Fr [] [54, 60] [] [] s o
theorem fr_x1_share {p0 : Int} {p1 : Int} {s : MS} {o : MS} (h : m_x1_share p0 p1 s = some o) : F_x1_share s o := by
  have hF : F_x1_share s s := Fr.rf s
  unfold m_x1_share at h
  have J52 : ∀ (s1 : MS), F_x1_share s s1 → m_x1_share_J52 s1 = some o → F_x1_share s o := by
    intro s1 hF h
    unfold m_x1_share_J52 at h
    obtain rfl := Option.some.inj h
    exact hF
  obtain ⟨y2, ey2, iy2, h⟩ := rdI_e h
  obtain ⟨hi3, h⟩ := inb_e h
  obtain ⟨s4, hs4, h⟩ := st_e h
  have hF : F_x1_share s s4 := hs4 ▸ Fr.uA hF (by decide)
  obtain ⟨y5, ey5, iy5, h⟩ := rdI_e h
  obtain ⟨hr6, h⟩ := rg_e h
  by_cases c7 : y5 = (-1)
  · have h := if_t c7 h
    exact J52 s4 hF h
  · have h := if_f c7 h
    obtain ⟨y8, ey8, iy8, h⟩ := rdI_e h
    obtain ⟨y9, ey9, iy9, h⟩ := rdI_e h
    obtain ⟨hi10, h⟩ := inb_e h
    obtain ⟨s11, hs11, h⟩ := st_e h
    have hF : F_x1_share s s11 := hs11 ▸ Fr.uA hF (by decide)
    exact J52 s11 hF h
abbrev F_x1_letGo (s o : MS) : Prop := Fr [] [50, 54, 60] [] [] s o
theorem fr_x1_letGo {p0 : Int} {s : MS} {o : MS} (h : m_x1_letGo p0 s = some o) : F_x1_letGo s o := by
  have hF : F_x1_letGo s s := Fr.rf s
  unfold m_x1_letGo at h
  have J34 : ∀ (x1 : Int) (s2 : MS), F_x1_letGo s s2 → m_x1_letGo_J34 x1 s2 = some o → F_x1_letGo s o := by
    intro x1 s2 hF h
    unfold m_x1_letGo_J34 at h
    obtain ⟨hi3, h⟩ := inb_e h
    obtain ⟨s4, hs4, h⟩ := st_e h
    have hF : F_x1_letGo s s4 := hs4 ▸ Fr.uA hF (by decide)
    obtain rfl := Option.some.inj h
    exact hF
  obtain ⟨y5, ey5, iy5, h⟩ := rdI_e h
  obtain ⟨hr6, h⟩ := rg_e h
  by_cases c7 : y5 = (-1)
  · have h := if_t c7 h
    exact J34 p0 s hF h
  · have h := if_f c7 h
    obtain ⟨y8, ey8, iy8, h⟩ := rdI_e h
    obtain ⟨⟨r11, s10⟩, hc9, h⟩ := bn_e h
    have hF : F_x1_letGo s s10 := Fr.tr hF (fr_x1_release_v2 hc9) (by decide)
    exact J34 p0 s10 hF h
abbrev F_x8_save (s o : MS) : Prop := Fr [] [55, 61] [] [] s o
theorem fr_x8_save {s : MS} {o : MS} (h : m_x8_save s = some o) : F_x8_save s o := by
  have hF : F_x8_save s s := Fr.rf s
  unfold m_x8_save at h
  obtain ⟨hc1, h⟩ := cpg_e h
  obtain ⟨s2, hs2, h⟩ := st_e h
  have hF : F_x8_save s s2 := hs2 ▸ Fr.uA hF (by decide)
  obtain ⟨hc3, h⟩ := cpg_e h
  obtain ⟨s4, hs4, h⟩ := st_e h
  have hF : F_x8_save s s4 := hs4 ▸ Fr.uA hF (by decide)
  obtain rfl := Option.some.inj h
  exact hF
abbrev F_x8_fallBack (s o : MS) : Prop := Fr [] [54, 60] [] [] s o
theorem fr_x8_fallBack {s : MS} {o : MS} (h : m_x8_fallBack s = some o) : F_x8_fallBack s o := by
  have hF : F_x8_fallBack s s := Fr.rf s
  unfold m_x8_fallBack at h
  obtain ⟨hc1, h⟩ := cpg_e h
  obtain ⟨s2, hs2, h⟩ := st_e h
  have hF : F_x8_fallBack s s2 := hs2 ▸ Fr.uA hF (by decide)
  obtain ⟨hc3, h⟩ := cpg_e h
  obtain ⟨s4, hs4, h⟩ := st_e h
  have hF : F_x8_fallBack s s4 := hs4 ▸ Fr.uA hF (by decide)
  obtain rfl := Option.some.inj h
  exact hF
abbrev F_x11_seed (s o : MS) : Prop := Fr [983] [2] [] [] s o
theorem fr_x11_seed {p0 : Int} {s : MS} {o : (Int × MS)} (h : m_x11_seed p0 s = some o) : F_x11_seed s o.2 := by
  have hF : F_x11_seed s s := Fr.rf s
  unfold m_x11_seed at h
  obtain ⟨hr1, h⟩ := rg_e h
  by_cases c2 : 0 ≤ p0
  · have h := if_t c2 h
    obtain ⟨s3, hs3, h⟩ := st_e h
    have hF : F_x11_seed s s3 := hs3 ▸ Fr.uI hF (by decide)
    obtain rfl := Option.some.inj h
    exact hF
  · have h := if_f c2 h
    obtain ⟨⟨r6, s5⟩, hc4, h⟩ := bn_e h
    have hF : F_x11_seed s s5 := Fr.tr hF (fr_x11_refuse hc4) (by decide)
    obtain rfl := Option.some.inj h
    exact hF
abbrev F_x3_value_v2 (s o : MS) : Prop := Fr [1601] [81] [] [] s o
theorem fr_x3_value_v2 {p1 : Int} {p2 : Int} {s : MS} {o : (Int × MS)} (h : m_x3_value_v2 p1 p2 s = some o) : F_x3_value_v2 s o.2 := by
  have hF : F_x3_value_v2 s s := Fr.rf s
  unfold m_x3_value_v2 at h
  have J125 : ∀ (s1 : MS), F_x3_value_v2 s s1 → m_x3_value_v2_J125 s1 = some o → F_x3_value_v2 s o.2 := by
    intro s1 hF h
    unfold m_x3_value_v2_J125 at h
    obtain ⟨⟨r4, s3⟩, hc2, h⟩ := bn_e h
    have hF : F_x3_value_v2 s s3 := Fr.tr hF (fr_x3_pop hc2) (by decide)
    obtain rfl := Option.some.inj h
    exact hF
  have L8 : ∀ (n : Nat) (x5 : Int) (x6 : Int) (s7 : MS), F_x3_value_v2 s s7 → m_x3_value_v2_L8 n x5 x6 s7 = some o → F_x3_value_v2 s o.2 := by
    refine fr_ind (fun x5 x6 s7 hF h => by cases h) ?_
    intro n8 ih8 x5 x6 s7 hF h
    have h : m_x3_value_v2_b8 (m_x3_value_v2_L8 n8) x5 x6 s7 = some o := h
    unfold m_x3_value_v2_b8 at h
    have J119 : ∀ (x8 : Int) (x9 : Int) (s10 : MS), F_x3_value_v2 s s10 → m_x3_value_v2_J119 (m_x3_value_v2_L8 n8) x8 x9 s10 = some o → F_x3_value_v2 s o.2 := by
      intro x8 x9 s10 hF h
      unfold m_x3_value_v2_J119 at h
      exact ih8 x8 (x9 + 1) s10 hF h
    obtain ⟨hr11, h⟩ := rg_e h
    by_cases c12 : x6 < 0
    · have h := if_t c12 h
      exact J125 s7 hF h
    · have h := if_f c12 h
      obtain ⟨hr13, h⟩ := rg_e h
      obtain ⟨hr14, h⟩ := rg_e h
      by_cases c15 : x5 ≤ x6
      · have h := if_t c15 h
        exact J125 s7 hF h
      · have h := if_f c15 h
        obtain ⟨hr16, h⟩ := rg_e h
        obtain ⟨hr17, h⟩ := rg_e h
        by_cases c18 : (gI s7 941) ≤ x6
        · have h := if_t c18 h
          exact J125 s7 hF h
        · have h := if_f c18 h
          obtain ⟨y19, ey19, iy19, h⟩ := rdI_e h
          obtain ⟨hr20, h⟩ := rg_e h
          by_cases c21 : y19 < 0
          · have h := if_t c21 h
            obtain ⟨hr22, h⟩ := rg_e h
            by_cases c23 : (-100) < y19
            · have h := if_t c23 h
              obtain ⟨hr24, h⟩ := rg_e h
              by_cases c25 : (-12) < y19
              · have h := if_t c25 h
                obtain ⟨⟨r28, s27⟩, hc26, h⟩ := bn_e h
                have hF : F_x3_value_v2 s s27 := Fr.tr hF (fr_x3_pop hc26) (by decide)
                obtain ⟨⟨r31, s30⟩, hc29, h⟩ := bn_e h
                have hF : F_x3_value_v2 s s30 := Fr.tr hF (fr_x3_pop hc29) (by decide)
                obtain ⟨r33, hc32, h⟩ := bn_e h
                obtain ⟨s35, hc34, h⟩ := bn_e h
                have hF : F_x3_value_v2 s s35 := Fr.tr hF (fr_x3_push hc34) (by decide)
                exact J119 x5 x6 s35 hF h
              · have h := if_f c25 h
                obtain ⟨⟨r38, s37⟩, hc36, h⟩ := bn_e h
                have hF : F_x3_value_v2 s s37 := Fr.tr hF (fr_x3_pop hc36) (by decide)
                obtain ⟨r40, hc39, h⟩ := bn_e h
                obtain ⟨s42, hc41, h⟩ := bn_e h
                have hF : F_x3_value_v2 s s42 := Fr.tr hF (fr_x3_push hc41) (by decide)
                exact J119 x5 x6 s42 hF h
            · have h := if_f c23 h
              obtain ⟨r44, hc43, h⟩ := bn_e h
              obtain ⟨s46, hc45, h⟩ := bn_e h
              have hF : F_x3_value_v2 s s46 := Fr.tr hF (fr_x3_push hc45) (by decide)
              exact J119 x5 x6 s46 hF h
          · have h := if_f c21 h
            obtain ⟨s48, hc47, h⟩ := bn_e h
            have hF : F_x3_value_v2 s s48 := Fr.tr hF (fr_x3_push hc47) (by decide)
            exact J119 x5 x6 s48 hF h
  obtain ⟨s49, hs49, h⟩ := st_e h
  have hF : F_x3_value_v2 s s49 := hs49 ▸ Fr.uI hF (by decide)
  exact L8 FU p2 p1 s49 hF h
abbrev F_x1_valueFor (s o : MS) : Prop := Fr [1601, 1602, 1604, 1605, 1606, 1607, 1608] [81] [] [] s o
theorem fr_x1_valueFor {p0 : Int} {s : MS} {o : (Int × MS)} (h : m_x1_valueFor p0 s = some o) : F_x1_valueFor s o.2 := by
  have hF : F_x1_valueFor s s := Fr.rf s
  unfold m_x1_valueFor at h
  have J74 : ∀ (x1 : Int) (x2 : Int) (s3 : MS), F_x1_valueFor s s3 → m_x1_valueFor_J74 x1 x2 s3 = some o → F_x1_valueFor s o.2 := by
    intro x1 x2 s3 hF h
    unfold m_x1_valueFor_J74 at h
    obtain ⟨s4, hs4, h⟩ := st_e h
    have hF : F_x1_valueFor s s4 := hs4 ▸ Fr.uI hF (by decide)
    obtain ⟨y5, ey5, iy5, h⟩ := rdI_e h
    obtain ⟨s6, hs6, h⟩ := st_e h
    have hF : F_x1_valueFor s s6 := hs6 ▸ Fr.uI hF (by decide)
    obtain ⟨⟨r9, s8⟩, hc7, h⟩ := bn_e h
    have hF : F_x1_valueFor s s8 := Fr.tr hF (fr_x3_value_v2 hc7) (by decide)
    obtain rfl := Option.some.inj h
    exact hF
  obtain ⟨s10, hs10, h⟩ := st_e h
  have hF : F_x1_valueFor s s10 := hs10 ▸ Fr.uI hF (by decide)
  obtain ⟨r12, hc11, h⟩ := bn_e h
  obtain ⟨s13, hs13, h⟩ := st_e h
  have hF : F_x1_valueFor s s13 := hs13 ▸ Fr.uI hF (by decide)
  obtain ⟨r15, hc14, h⟩ := bn_e h
  obtain ⟨s16, hs16, h⟩ := st_e h
  have hF : F_x1_valueFor s s16 := hs16 ▸ Fr.uI hF (by decide)
  obtain ⟨y17, ey17, iy17, h⟩ := rdI_e h
  obtain ⟨s18, hs18, h⟩ := st_e h
  have hF : F_x1_valueFor s s18 := hs18 ▸ Fr.uI hF (by decide)
  obtain ⟨r20, hc19, h⟩ := bn_e h
  obtain ⟨hr21, h⟩ := rg_e h
  by_cases c22 : r20 = 0
  · have h := if_t c22 h
    exact J74 p0 0 s18 hF h
  · have h := if_f c22 h
    exact J74 p0 1 s18 hF h
abbrev F_x11_answerTest (s o : MS) : Prop := Fr [1601, 1602, 1604, 1605, 1606, 1607, 1608] [81] [] [] s o
theorem fr_x11_answerTest {p0 : Int} {s : MS} {o : (Int × MS)} (h : m_x11_answerTest p0 s = some o) : F_x11_answerTest s o.2 := by
  have hF : F_x11_answerTest s s := Fr.rf s
  unfold m_x11_answerTest at h
  have J76 : ∀ (z1 : Int) (s2 : MS), F_x11_answerTest s s2 → m_x11_answerTest_J76 z1 s2 = some o → F_x11_answerTest s o.2 := by
    intro z1 s2 hF h
    unfold m_x11_answerTest_J76 at h
    obtain rfl := Option.some.inj h
    exact hF
  have L7 : ∀ (n : Nat) (x3 : Int) (x4 : Int) (x5 : Int) (x6 : Int) (s7 : MS), F_x11_answerTest s s7 → m_x11_answerTest_L7 n x3 x4 x5 x6 s7 = some o → F_x11_answerTest s o.2 := by
    refine fr_ind (fun x3 x4 x5 x6 s7 hF h => by cases h) ?_
    intro n7 ih7 x3 x4 x5 x6 s7 hF h
    have h : m_x11_answerTest_b7 (m_x11_answerTest_L7 n7) x3 x4 x5 x6 s7 = some o := h
    unfold m_x11_answerTest_b7 at h
    have J57 : ∀ (x8 : Int) (x9 : Int) (x10 : Int) (x11 : Int) (s12 : MS), F_x11_answerTest s s12 → m_x11_answerTest_J57 (m_x11_answerTest_L7 n7) x8 x9 x10 x11 s12 = some o → F_x11_answerTest s o.2 := by
      intro x8 x9 x10 x11 s12 hF h
      unfold m_x11_answerTest_J57 at h
      exact ih7 x8 x9 x10 (x11 + 1) s12 hF h
    obtain ⟨hr13, h⟩ := rg_e h
    obtain ⟨hr14, h⟩ := rg_e h
    by_cases c15 : (gI s7 1060) ≤ x6
    · have h := if_t c15 h
      obtain ⟨hr16, h⟩ := rg_e h
      by_cases c17 : x3 = 29
      · have h := if_t c17 h
        obtain ⟨hr19, h⟩ := rg_e h
        exact J76 x4 s7 hF h
      · have h := if_f c17 h
        obtain ⟨hr18, h⟩ := rg_e h
        exact J76 x5 s7 hF h
    · have h := if_f c15 h
      obtain ⟨⟨r22, s21⟩, hc20, h⟩ := bn_e h
      have hF : F_x11_answerTest s s21 := Fr.tr hF (fr_x1_valueFor hc20) (by decide)
      obtain ⟨hr23, h⟩ := rg_e h
      by_cases c24 : r22 = 0
      · have h := if_t c24 h
        exact J57 x3 x4 x5 x6 s21 hF h
      · have h := if_f c24 h
        obtain ⟨hr25, h⟩ := rg_e h
        by_cases c26 : x3 = 27
        · have h := if_t c26 h
          obtain ⟨hr27, h⟩ := rg_e h
          obtain rfl := Option.some.inj h
          exact hF
        · have h := if_f c26 h
          exact J57 x3 (x4 + 1) x6 x6 s21 hF h
  exact L7 FU p0 0 (-1) 0 s hF h
abbrev F_x6_begin (s o : MS) : Prop := Fr [100, 101, 106, 107, 108, 109, 110, 111, 9999] [] [] [] s o
theorem fr_x6_begin {s : MS} {o : MS} (h : m_x6_begin s = some o) : F_x6_begin s o := by
  have hF : F_x6_begin s s := Fr.rf s
  unfold m_x6_begin at h
  obtain ⟨s1, hs1, h⟩ := st_e h
  have hF : F_x6_begin s s1 := hs1 ▸ Fr.uI hF (by decide)
  obtain ⟨s2, hs2, h⟩ := st_e h
  have hF : F_x6_begin s s2 := hs2 ▸ Fr.uI hF (by decide)
  obtain ⟨s3, hs3, h⟩ := st_e h
  have hF : F_x6_begin s s3 := hs3 ▸ Fr.uI hF (by decide)
  obtain ⟨s4, hs4, h⟩ := st_e h
  have hF : F_x6_begin s s4 := hs4 ▸ Fr.uI hF (by decide)
  obtain ⟨s5, hs5, h⟩ := st_e h
  have hF : F_x6_begin s s5 := hs5 ▸ Fr.uI hF (by decide)
  obtain ⟨s7, hc6, h⟩ := bn_e h
  have hF : F_x6_begin s s7 := Fr.tr hF (fr_x6_advance hc6) (by decide)
  obtain rfl := Option.some.inj h
  exact hF
abbrev F_x6_readQuestion (s o : MS) : Prop := Fr [100, 101, 102, 103, 104, 105, 106, 107, 108, 109, 110, 111, 941, 9999] [48] [] [] s o
theorem fr_x6_readQuestion {s : MS} {o : (Int × MS)} (h : m_x6_readQuestion s = some o) : F_x6_readQuestion s o.2 := by
  have hF : F_x6_readQuestion s s := Fr.rf s
  unfold m_x6_readQuestion at h
  have J121 : ∀ (x1 : Int) (s2 : MS), F_x6_readQuestion s s2 → m_x6_readQuestion_J121 x1 s2 = some o → F_x6_readQuestion s o.2 := by
    intro x1 s2 hF h
    unfold m_x6_readQuestion_J121 at h
    obtain rfl := Option.some.inj h
    exact hF
  have J104 : ∀ (x3 : Int) (s4 : MS), F_x6_readQuestion s s4 → m_x6_readQuestion_J104 x3 s4 = some o → F_x6_readQuestion s o.2 := by
    intro x3 s4 hF h
    unfold m_x6_readQuestion_J104 at h
    obtain ⟨hr5, h⟩ := rg_e h
    by_cases c6 : (gI s4 107) = 0
    · have h := if_t c6 h
      exact J121 x3 s4 hF h
    · have h := if_f c6 h
      obtain ⟨⟨r9, s8⟩, hc7, h⟩ := bn_e h
      have hF : F_x6_readQuestion s s8 := Fr.tr hF (fr_x6_fail hc7) (by decide)
      exact J121 x3 s8 hF h
  have J83 : ∀ (x10 : Int) (s11 : MS), F_x6_readQuestion s s11 → m_x6_readQuestion_J83 x10 s11 = some o → F_x6_readQuestion s o.2 := by
    intro x10 s11 hF h
    unfold m_x6_readQuestion_J83 at h
    obtain ⟨s13, hc12, h⟩ := bn_e h
    have hF : F_x6_readQuestion s s13 := Fr.tr hF (fr_x6_advance hc12) (by decide)
    obtain ⟨s15, hc14, h⟩ := bn_e h
    have hF : F_x6_readQuestion s s15 := Fr.tr hF (fr_rg1.1 _ _ hc14) (by decide)
    exact J104 x10 s15 hF h
  have J72 : ∀ (x16 : Int) (s17 : MS), F_x6_readQuestion s s17 → m_x6_readQuestion_J72 x16 s17 = some o → F_x6_readQuestion s o.2 := by
    intro x16 s17 hF h
    unfold m_x6_readQuestion_J72 at h
    obtain ⟨s19, hc18, h⟩ := bn_e h
    have hF : F_x6_readQuestion s s19 := Fr.tr hF (fr_x6_advance hc18) (by decide)
    obtain ⟨s21, hc20, h⟩ := bn_e h
    have hF : F_x6_readQuestion s s21 := Fr.tr hF (fr_rg2.2 _ _ hc20) (by decide)
    exact J104 x16 s21 hF h
  have J31 : ∀ (x22 : Int) (s23 : MS), F_x6_readQuestion s s23 → m_x6_readQuestion_J31 x22 s23 = some o → F_x6_readQuestion s o.2 := by
    intro x22 s23 hF h
    unfold m_x6_readQuestion_J31 at h
    obtain ⟨hr24, h⟩ := rg_e h
    by_cases c25 : x22 = 27
    · have h := if_t c25 h
      exact J72 x22 s23 hF h
    · have h := if_f c25 h
      by_cases c26 : x22 = 28
      · have h := if_t c26 h
        exact J72 x22 s23 hF h
      · have h := if_f c26 h
        by_cases c27 : x22 = 29
        · have h := if_t c27 h
          exact J72 x22 s23 hF h
        · have h := if_f c27 h
          by_cases c28 : x22 = 30
          · have h := if_t c28 h
            exact J83 x22 s23 hF h
          · have h := if_f c28 h
            by_cases c29 : x22 = 31
            · have h := if_t c29 h
              exact J83 x22 s23 hF h
            · have h := if_f c29 h
              by_cases c30 : x22 = 32
              · have h := if_t c30 h
                exact J83 x22 s23 hF h
              · have h := if_f c30 h
                obtain ⟨⟨r33, s32⟩, hc31, h⟩ := bn_e h
                have hF : F_x6_readQuestion s s32 := Fr.tr hF (fr_x6_fail hc31) (by decide)
                exact J104 x22 s32 hF h
  obtain ⟨s34, hs34, h⟩ := st_e h
  have hF : F_x6_readQuestion s s34 := hs34 ▸ Fr.uI hF (by decide)
  obtain ⟨s36, hc35, h⟩ := bn_e h
  have hF : F_x6_readQuestion s s36 := Fr.tr hF (fr_x6_begin hc35) (by decide)
  obtain ⟨s37, hs37, h⟩ := st_e h
  have hF : F_x6_readQuestion s s37 := hs37 ▸ Fr.uI hF (by decide)
  obtain ⟨hr38, h⟩ := rg_e h
  by_cases c39 : (gI s37 107) = 1
  · have h := if_t c39 h
    exact J31 (gI s37 110) s37 hF h
  · have h := if_f c39 h
    exact J31 (-1) s37 hF h
abbrev F_x11_answerSum (s o : MS) : Prop := Fr [1601, 1602, 1604, 1605, 1606, 1607, 1608] [81] [] [] s o
theorem fr_x11_answerSum {p0 : Int} {s : MS} {o : (Int × MS)} (h : m_x11_answerSum p0 s = some o) : F_x11_answerSum s o.2 := by
  have hF : F_x11_answerSum s s := Fr.rf s
  unfold m_x11_answerSum at h
  have J101 : ∀ (z1 : Int) (s2 : MS), F_x11_answerSum s s2 → m_x11_answerSum_J101 z1 s2 = some o → F_x11_answerSum s o.2 := by
    intro z1 s2 hF h
    unfold m_x11_answerSum_J101 at h
    obtain rfl := Option.some.inj h
    exact hF
  have L15 : ∀ (n : Nat) (x3 : Int) (z4 : Int) (x5 : Int) (x6 : Int) (x7 : Int) (s8 : MS), F_x11_answerSum s s8 → m_x11_answerSum_L15 n x3 z4 x5 x6 x7 s8 = some o → F_x11_answerSum s o.2 := by
    refine fr_ind (fun x3 z4 x5 x6 x7 s8 hF h => by cases h) ?_
    intro n15 ih15 x3 z4 x5 x6 x7 s8 hF h
    have h : m_x11_answerSum_b15 (m_x11_answerSum_L15 n15) x3 z4 x5 x6 x7 s8 = some o := h
    unfold m_x11_answerSum_b15 at h
    obtain ⟨hr9, h⟩ := rg_e h
    obtain ⟨hr10, h⟩ := rg_e h
    by_cases c11 : (gI s8 1060) ≤ x7
    · have h := if_t c11 h
      obtain ⟨hr12, h⟩ := rg_e h
      by_cases c13 : x3 = 30
      · have h := if_t c13 h
        obtain rfl := Option.some.inj h
        exact hF
      · have h := if_f c13 h
        obtain ⟨hr14, h⟩ := rg_e h
        by_cases c15 : x3 = 31
        · have h := if_t c15 h
          obtain ⟨hr17, h⟩ := rg_e h
          exact J101 x5 s8 hF h
        · have h := if_f c15 h
          obtain ⟨hr16, h⟩ := rg_e h
          exact J101 x6 s8 hF h
    · have h := if_f c11 h
      obtain ⟨⟨r20, s19⟩, hc18, h⟩ := bn_e h
      have hF : F_x11_answerSum s s19 := Fr.tr hF (fr_x1_valueFor hc18) (by decide)
      obtain ⟨hr21, h⟩ := rg_e h
      obtain ⟨hr22, h⟩ := rg_e h
      obtain ⟨hr23, h⟩ := rg_e h
      obtain ⟨hr24, h⟩ := rg_e h
      obtain ⟨hr25, h⟩ := rg_e h
      exact ih15 x3 (z4 + r20) (maxZ x5 r20) (minZ x6 r20) (x7 + 1) s19 hF h
  exact L15 FU p0 0 (-1000000) 1000000 0 s hF h
abbrev F_x11_ask (s o : MS) : Prop := Fr [61, 100, 101, 102, 103, 104, 105, 106, 107, 108, 109, 110, 111, 941, 1601, 1602, 1604, 1605, 1606, 1607, 1608, 9999] [48, 81] [] [] s o
theorem fr_x11_ask {s : MS} {o : (Int × MS)} (h : m_x11_ask s = some o) : F_x11_ask s o.2 := by
  have hF : F_x11_ask s s := Fr.rf s
  unfold m_x11_ask at h
  have J84 : ∀ (x1 : Int) (s2 : MS), F_x11_ask s s2 → m_x11_ask_J84 x1 s2 = some o → F_x11_ask s o.2 := by
    intro x1 s2 hF h
    unfold m_x11_ask_J84 at h
    obtain ⟨⟨rl5, s4⟩, hc3, h⟩ := bn_e h
    have hF : F_x11_ask s s4 := Fr.tr hF (fr_x11_answerTest hc3) (by decide)
    obtain rfl := Option.some.inj h
    exact hF
  obtain ⟨hr6, h⟩ := rg_e h
  by_cases c7 : (gI s 12) = 0
  · have h := if_t c7 h
    obtain ⟨s21, hs21, h⟩ := st_e h
    have hF : F_x11_ask s s21 := hs21 ▸ Fr.uI hF (by decide)
    obtain rfl := Option.some.inj h
    exact hF
  · have h := if_f c7 h
    obtain ⟨⟨r10, s9⟩, hc8, h⟩ := bn_e h
    have hF : F_x11_ask s s9 := Fr.tr hF (fr_x6_readQuestion hc8) (by decide)
    obtain ⟨s11, hs11, h⟩ := st_e h
    have hF : F_x11_ask s s11 := hs11 ▸ Fr.uI hF (by decide)
    obtain ⟨hr12, h⟩ := rg_e h
    by_cases c13 : (gI s11 100) = 0
    · have h := if_t c13 h
      obtain ⟨hr14, h⟩ := rg_e h
      by_cases c15 : r10 = 27
      · have h := if_t c15 h
        exact J84 r10 s11 hF h
      · have h := if_f c15 h
        by_cases c16 : r10 = 28
        · have h := if_t c16 h
          exact J84 r10 s11 hF h
        · have h := if_f c16 h
          by_cases c17 : r10 = 29
          · have h := if_t c17 h
            exact J84 r10 s11 hF h
          · have h := if_f c17 h
            obtain ⟨⟨rl20, s19⟩, hc18, h⟩ := bn_e h
            have hF : F_x11_ask s s19 := Fr.tr hF (fr_x11_answerSum hc18) (by decide)
            obtain rfl := Option.some.inj h
            exact hF
    · have h := if_f c13 h
      obtain rfl := Option.some.inj h
      exact hF
abbrev F_x4_add (s o : MS) : Prop := Fr [321] [17] [] [] s o
theorem fr_x4_add {p0 : Int} {s : MS} {o : MS} (h : m_x4_add p0 s = some o) : F_x4_add s o := by
  have hF : F_x4_add s s := Fr.rf s
  unfold m_x4_add at h
  have J36 : ∀ (s1 : MS), F_x4_add s s1 → m_x4_add_J36 s1 = some o → F_x4_add s o := by
    intro s1 hF h
    unfold m_x4_add_J36 at h
    obtain rfl := Option.some.inj h
    exact hF
  obtain ⟨hr2, h⟩ := rg_e h
  by_cases c3 : 1364 ≤ (gI s 321)
  · have h := if_t c3 h
    exact J36 s hF h
  · have h := if_f c3 h
    obtain ⟨hi4, h⟩ := inb_e h
    obtain ⟨s5, hs5, h⟩ := st_e h
    have hF : F_x4_add s s5 := hs5 ▸ Fr.uA hF (by decide)
    obtain ⟨s6, hs6, h⟩ := st_e h
    have hF : F_x4_add s s6 := hs6 ▸ Fr.uI hF (by decide)
    exact J36 s6 hF h
abbrev F_x4_addPair (s o : MS) : Prop := Fr [321] [17] [] [] s o
theorem fr_x4_addPair {p0 : Int} {s : MS} {o : MS} (h : m_x4_addPair p0 s = some o) : F_x4_addPair s o := by
  have hF : F_x4_addPair s s := Fr.rf s
  unfold m_x4_addPair at h
  obtain ⟨s2, hc1, h⟩ := bn_e h
  have hF : F_x4_addPair s s2 := Fr.tr hF (fr_x4_add hc1) (by decide)
  obtain ⟨s4, hc3, h⟩ := bn_e h
  have hF : F_x4_addPair s s4 := Fr.tr hF (fr_x4_add hc3) (by decide)
  obtain rfl := Option.some.inj h
  exact hF
abbrev F_x4_drawBlock (s o : MS) : Prop := Fr [321] [17] [] [] s o
theorem fr_x4_drawBlock {p1 : Int} {s : MS} {o : MS} (h : m_x4_drawBlock p1 s = some o) : F_x4_drawBlock s o := by
  have hF : F_x4_drawBlock s s := Fr.rf s
  unfold m_x4_drawBlock at h
  have L22 : ∀ (n : Nat) (x1 : Int) (x2 : Int) (s3 : MS), F_x4_drawBlock s s3 → m_x4_drawBlock_L22 n x1 x2 s3 = some o → F_x4_drawBlock s o := by
    refine fr_ind (fun x1 x2 s3 hF h => by cases h) ?_
    intro n22 ih22 x1 x2 s3 hF h
    have h : m_x4_drawBlock_b22 (m_x4_drawBlock_L22 n22) x1 x2 s3 = some o := h
    unfold m_x4_drawBlock_b22 at h
    obtain ⟨y4, ey4, iy4, h⟩ := rdI_e h
    obtain ⟨hr5, h⟩ := rg_e h
    obtain ⟨hr6, h⟩ := rg_e h
    by_cases c7 : y4 ≤ x2
    · have h := if_t c7 h
      obtain rfl := Option.some.inj h
      exact hF
    · have h := if_f c7 h
      obtain ⟨r9, hc8, h⟩ := bn_e h
      obtain ⟨y10, ey10, iy10, h⟩ := rdI_e h
      obtain ⟨s12, hc11, h⟩ := bn_e h
      have hF : F_x4_drawBlock s s12 := Fr.tr hF (fr_x4_addPair hc11) (by decide)
      obtain ⟨r14, hc13, h⟩ := bn_e h
      obtain ⟨y15, ey15, iy15, h⟩ := rdI_e h
      obtain ⟨s17, hc16, h⟩ := bn_e h
      have hF : F_x4_drawBlock s s17 := Fr.tr hF (fr_x4_addPair hc16) (by decide)
      exact ih22 x1 (x2 + 1) s17 hF h
  obtain ⟨y18, ey18, iy18, h⟩ := rdI_e h
  obtain ⟨s20, hc19, h⟩ := bn_e h
  have hF : F_x4_drawBlock s s20 := Fr.tr hF (fr_x4_add hc19) (by decide)
  obtain ⟨y21, ey21, iy21, h⟩ := rdI_e h
  obtain ⟨s23, hc22, h⟩ := bn_e h
  have hF : F_x4_drawBlock s s23 := Fr.tr hF (fr_x4_add hc22) (by decide)
  exact L22 FU p1 0 s23 hF h
abbrev F_x4_draw (s o : MS) : Prop := Fr [321] [17] [] [] s o
theorem fr_x4_draw {s : MS} {o : (Int × MS)} (h : m_x4_draw s = some o) : F_x4_draw s o.2 := by
  have hF : F_x4_draw s s := Fr.rf s
  unfold m_x4_draw at h
  have L69 : ∀ (n : Nat) (x1 : Int) (s2 : MS), F_x4_draw s s2 → m_x4_draw_L69 n x1 s2 = some o → F_x4_draw s o.2 := by
    refine fr_ind (fun x1 s2 hF h => by cases h) ?_
    intro n69 ih69 x1 s2 hF h
    have h : m_x4_draw_b69 (m_x4_draw_L69 n69) x1 s2 = some o := h
    unfold m_x4_draw_b69 at h
    have J111 : ∀ (x3 : Int) (s4 : MS), F_x4_draw s s4 → m_x4_draw_J111 (m_x4_draw_L69 n69) x3 s4 = some o → F_x4_draw s o.2 := by
      intro x3 s4 hF h
      unfold m_x4_draw_J111 at h
      exact ih69 (x3 + 1) s4 hF h
    obtain ⟨hr5, h⟩ := rg_e h
    obtain ⟨hr6, h⟩ := rg_e h
    by_cases c7 : (gI s2 1060) ≤ x1
    · have h := if_t c7 h
      obtain ⟨r9, hc8, h⟩ := bn_e h
      obtain ⟨s11, hc10, h⟩ := bn_e h
      have hF : F_x4_draw s s11 := Fr.tr hF (fr_x4_add hc10) (by decide)
      obtain rfl := Option.some.inj h
      exact hF
    · have h := if_f c7 h
      obtain ⟨y12, ey12, iy12, h⟩ := rdI_e h
      obtain ⟨s14, hc13, h⟩ := bn_e h
      have hF : F_x4_draw s s14 := Fr.tr hF (fr_x4_add hc13) (by decide)
      obtain ⟨y15, ey15, iy15, h⟩ := rdI_e h
      obtain ⟨s17, hc16, h⟩ := bn_e h
      have hF : F_x4_draw s s17 := Fr.tr hF (fr_x4_add hc16) (by decide)
      obtain ⟨r19, hc18, h⟩ := bn_e h
      obtain ⟨hr20, h⟩ := rg_e h
      by_cases c21 : r19 = 0
      · have h := if_t c21 h
        obtain ⟨s23, hc22, h⟩ := bn_e h
        have hF : F_x4_draw s s23 := Fr.tr hF (fr_x4_drawBlock hc22) (by decide)
        exact J111 x1 s23 hF h
      · have h := if_f c21 h
        exact J111 x1 s17 hF h
  have L29 : ∀ (n : Nat) (x24 : Int) (s25 : MS), F_x4_draw s s25 → m_x4_draw_L29 n x24 s25 = some o → F_x4_draw s o.2 := by
    refine fr_ind (fun x24 s25 hF h => by cases h) ?_
    intro n29 ih29 x24 s25 hF h
    have h : m_x4_draw_b29 (m_x4_draw_L29 n29) x24 s25 = some o := h
    unfold m_x4_draw_b29 at h
    obtain ⟨hr26, h⟩ := rg_e h
    by_cases c27 : 8 ≤ x24
    · have h := if_t c27 h
      exact L69 FU 0 s25 hF h
    · have h := if_f c27 h
      obtain ⟨y28, ey28, iy28, h⟩ := rdI_e h
      obtain ⟨r30, hc29, h⟩ := bn_e h
      obtain ⟨s32, hc31, h⟩ := bn_e h
      have hF : F_x4_draw s s32 := Fr.tr hF (fr_x4_add hc31) (by decide)
      obtain ⟨y33, ey33, iy33, h⟩ := rdI_e h
      obtain ⟨r35, hc34, h⟩ := bn_e h
      obtain ⟨s37, hc36, h⟩ := bn_e h
      have hF : F_x4_draw s s37 := Fr.tr hF (fr_x4_add hc36) (by decide)
      exact ih29 (x24 + 1) s37 hF h
  obtain ⟨s38, hs38, h⟩ := st_e h
  have hF : F_x4_draw s s38 := hs38 ▸ Fr.uI hF (by decide)
  obtain ⟨s40, hc39, h⟩ := bn_e h
  have hF : F_x4_draw s s40 := Fr.tr hF (fr_x4_add hc39) (by decide)
  obtain ⟨s42, hc41, h⟩ := bn_e h
  have hF : F_x4_draw s s42 := Fr.tr hF (fr_x4_addPair hc41) (by decide)
  exact L29 FU 0 s42 hF h
abbrev F_x11_image (s o : MS) : Prop := Fr [321] [17] [] [] s o
theorem fr_x11_image {s : MS} {o : (Int × MS)} (h : m_x11_image s = some o) : F_x11_image s o.2 := by
  have hF : F_x11_image s s := Fr.rf s
  unfold m_x11_image at h
  obtain ⟨⟨r3, s2⟩, hc1, h⟩ := bn_e h
  have hF : F_x11_image s s2 := Fr.tr hF (fr_x4_draw hc1) (by decide)
  obtain rfl := Option.some.inj h
  exact hF
abbrev F_x2_clear (s o : MS) : Prop := Fr [143, 145] [] [] [] s o
theorem fr_x2_clear {s : MS} {o : MS} (h : m_x2_clear s = some o) : F_x2_clear s o := by
  have hF : F_x2_clear s s := Fr.rf s
  unfold m_x2_clear at h
  obtain ⟨s1, hs1, h⟩ := st_e h
  have hF : F_x2_clear s s1 := hs1 ▸ Fr.uI hF (by decide)
  obtain ⟨s2, hs2, h⟩ := st_e h
  have hF : F_x2_clear s s2 := hs2 ▸ Fr.uI hF (by decide)
  obtain rfl := Option.some.inj h
  exact hF
abbrev F_x4_isSoundBlock (s o : MS) : Prop := Fr [] [18, 19] [] [] s o
theorem fr_x4_isSoundBlock {p1 : Int} {s : MS} {o : (Int × MS)} (h : m_x4_isSoundBlock p1 s = some o) : F_x4_isSoundBlock s o.2 := by
  have hF : F_x4_isSoundBlock s s := Fr.rf s
  unfold m_x4_isSoundBlock at h
  have L120 : ∀ (n : Nat) (x1 : Int) (x2 : Int) (x3 : Int) (s4 : MS), F_x4_isSoundBlock s s4 → m_x4_isSoundBlock_L120 n x1 x2 x3 s4 = some o → F_x4_isSoundBlock s o.2 := by
    refine fr_ind (fun x1 x2 x3 s4 hF h => by cases h) ?_
    intro n120 ih120 x1 x2 x3 s4 hF h
    have h : m_x4_isSoundBlock_b120 (m_x4_isSoundBlock_L120 n120) x1 x2 x3 s4 = some o := h
    unfold m_x4_isSoundBlock_b120 at h
    obtain ⟨hr5, h⟩ := rg_e h
    obtain ⟨hr6, h⟩ := rg_e h
    by_cases c7 : x2 < x3
    · have h := if_t c7 h
      obtain ⟨r9, hc8, h⟩ := bn_e h
      obtain ⟨y10, ey10, iy10, h⟩ := rdI_e h
      obtain ⟨y11, ey11, iy11, h⟩ := rdI_e h
      obtain ⟨hi12, h⟩ := inb_e h
      obtain ⟨s13, hs13, h⟩ := st_e h
      have hF : F_x4_isSoundBlock s s13 := hs13 ▸ Fr.uA hF (by decide)
      obtain ⟨r15, hc14, h⟩ := bn_e h
      obtain ⟨y16, ey16, iy16, h⟩ := rdI_e h
      obtain ⟨y17, ey17, iy17, h⟩ := rdI_e h
      obtain ⟨hi18, h⟩ := inb_e h
      obtain ⟨s19, hs19, h⟩ := st_e h
      have hF : F_x4_isSoundBlock s s19 := hs19 ▸ Fr.uA hF (by decide)
      obtain rfl := Option.some.inj h
      exact hF
    · have h := if_f c7 h
      obtain ⟨r21, hc20, h⟩ := bn_e h
      obtain ⟨hr22, h⟩ := rg_e h
      by_cases c23 : r21 = 0
      · have h := if_t c23 h
        obtain rfl := Option.some.inj h
        exact hF
      · have h := if_f c23 h
        exact ih120 x1 x2 (x3 + 1) s4 hF h
  have L29 : ∀ (n : Nat) (x24 : Int) (x25 : Int) (x26 : Int) (s27 : MS), F_x4_isSoundBlock s s27 → m_x4_isSoundBlock_L29 n x24 x25 x26 s27 = some o → F_x4_isSoundBlock s o.2 := by
    refine fr_ind (fun x24 x25 x26 s27 hF h => by cases h) ?_
    intro n29 ih29 x24 x25 x26 s27 hF h
    have h : m_x4_isSoundBlock_b29 (m_x4_isSoundBlock_L29 n29) x24 x25 x26 s27 = some o := h
    unfold m_x4_isSoundBlock_b29 at h
    obtain ⟨hr28, h⟩ := rg_e h
    obtain ⟨hr29, h⟩ := rg_e h
    by_cases c30 : x25 ≤ x26
    · have h := if_t c30 h
      obtain ⟨y31, ey31, iy31, h⟩ := rdI_e h
      obtain ⟨hr32, h⟩ := rg_e h
      by_cases c33 : y31 = 0
      · have h := if_t c33 h
        obtain ⟨r35, hc34, h⟩ := bn_e h
        obtain ⟨y36, ey36, iy36, h⟩ := rdI_e h
        obtain ⟨hi37, h⟩ := inb_e h
        obtain ⟨s38, hs38, h⟩ := st_e h
        have hF : F_x4_isSoundBlock s s38 := hs38 ▸ Fr.uA hF (by decide)
        obtain ⟨r40, hc39, h⟩ := bn_e h
        obtain ⟨y41, ey41, iy41, h⟩ := rdI_e h
        obtain ⟨hi42, h⟩ := inb_e h
        obtain ⟨s43, hs43, h⟩ := st_e h
        have hF : F_x4_isSoundBlock s s43 := hs43 ▸ Fr.uA hF (by decide)
        obtain rfl := Option.some.inj h
        exact hF
      · have h := if_f c33 h
        exact L120 FU x24 x25 0 s27 hF h
    · have h := if_f c30 h
      obtain ⟨r45, hc44, h⟩ := bn_e h
      obtain ⟨y46, ey46, iy46, h⟩ := rdI_e h
      obtain ⟨r48, hc47, h⟩ := bn_e h
      obtain ⟨y49, ey49, iy49, h⟩ := rdI_e h
      obtain ⟨hr50, h⟩ := rg_e h
      obtain ⟨hr51, h⟩ := rg_e h
      by_cases c52 : y46 < y49
      · have h := if_t c52 h
        exact ih29 x24 x25 (x26 + 1) s27 hF h
      · have h := if_f c52 h
        obtain rfl := Option.some.inj h
        exact hF
  have J23 : ∀ (x53 : Int) (x54 : Int) (x55 : Int) (s56 : MS), F_x4_isSoundBlock s s56 → m_x4_isSoundBlock_J23 x53 x54 x55 s56 = some o → F_x4_isSoundBlock s o.2 := by
    intro x53 x54 x55 s56 hF h
    unfold m_x4_isSoundBlock_J23 at h
    exact L29 FU x53 x54 x55 s56 hF h
  obtain ⟨y57, ey57, iy57, h⟩ := rdI_e h
  obtain ⟨y58, ey58, iy58, h⟩ := rdI_e h
  obtain ⟨hr59, h⟩ := rg_e h
  by_cases c60 : y58 = 0
  · have h := if_t c60 h
    exact J23 p1 (y57 - 1) 0 s hF h
  · have h := if_f c60 h
    exact J23 p1 (y57 - 1) 1 s hF h
abbrev F_x4_refsAre (s o : MS) : Prop := Fr [] [20] [] [] s o
theorem fr_x4_refsAre {s : MS} {o : (Int × MS)} (h : m_x4_refsAre s = some o) : F_x4_refsAre s o.2 := by
  have hF : F_x4_refsAre s s := Fr.rf s
  unfold m_x4_refsAre at h
  have L151 : ∀ (n : Nat) (x1 : Int) (s2 : MS), F_x4_refsAre s s2 → m_x4_refsAre_L151 n x1 s2 = some o → F_x4_refsAre s o.2 := by
    refine fr_ind (fun x1 s2 hF h => by cases h) ?_
    intro n151 ih151 x1 s2 hF h
    have h : m_x4_refsAre_b151 (m_x4_refsAre_L151 n151) x1 s2 = some o := h
    unfold m_x4_refsAre_b151 at h
    obtain ⟨hr3, h⟩ := rg_e h
    obtain ⟨hr4, h⟩ := rg_e h
    by_cases c5 : (gI s2 1420) ≤ x1
    · have h := if_t c5 h
      obtain rfl := Option.some.inj h
      exact hF
    · have h := if_f c5 h
      obtain ⟨y6, ey6, iy6, h⟩ := rdI_e h
      obtain ⟨y7, ey7, iy7, h⟩ := rdI_e h
      obtain ⟨hr8, h⟩ := rg_e h
      obtain ⟨hr9, h⟩ := rg_e h
      by_cases c10 : y6 = y7
      · have h := if_t c10 h
        exact ih151 (x1 + 1) s2 hF h
      · have h := if_f c10 h
        obtain rfl := Option.some.inj h
        exact hF
  have L65 : ∀ (n : Nat) (x11 : Int) (s12 : MS), F_x4_refsAre s s12 → m_x4_refsAre_L65 n x11 s12 = some o → F_x4_refsAre s o.2 := by
    refine fr_ind (fun x11 s12 hF h => by cases h) ?_
    intro n65 ih65 x11 s12 hF h
    have h : m_x4_refsAre_b65 (m_x4_refsAre_L65 n65) x11 s12 = some o := h
    unfold m_x4_refsAre_b65 at h
    have L107 : ∀ (n : Nat) (x13 : Int) (x14 : Int) (x15 : Int) (s16 : MS), F_x4_refsAre s s16 → m_x4_refsAre_L107 (m_x4_refsAre_L65 n65) n x13 x14 x15 s16 = some o → F_x4_refsAre s o.2 := by
      refine fr_ind (fun x13 x14 x15 s16 hF h => by cases h) ?_
      intro n107 ih107 x13 x14 x15 s16 hF h
      have h : m_x4_refsAre_b107 (m_x4_refsAre_L65 n65) (m_x4_refsAre_L107 (m_x4_refsAre_L65 n65) n107) x13 x14 x15 s16 = some o := h
      unfold m_x4_refsAre_b107 at h
      obtain ⟨hr17, h⟩ := rg_e h
      obtain ⟨hr18, h⟩ := rg_e h
      by_cases c19 : x14 ≤ x15
      · have h := if_t c19 h
        exact ih65 (x13 + 1) s16 hF h
      · have h := if_f c19 h
        obtain ⟨r21, hc20, h⟩ := bn_e h
        obtain ⟨y22, ey22, iy22, h⟩ := rdI_e h
        obtain ⟨y23, ey23, iy23, h⟩ := rdI_e h
        obtain ⟨hi24, h⟩ := inb_e h
        obtain ⟨s25, hs25, h⟩ := st_e h
        have hF : F_x4_refsAre s s25 := hs25 ▸ Fr.uA hF (by decide)
        exact ih107 x13 x14 (x15 + 1) s25 hF h
    have J102 : ∀ (x26 : Int) (x27 : Int) (s28 : MS), F_x4_refsAre s s28 → m_x4_refsAre_J102 (m_x4_refsAre_L65 n65) x26 x27 s28 = some o → F_x4_refsAre s o.2 := by
      intro x26 x27 s28 hF h
      unfold m_x4_refsAre_J102 at h
      exact L107 FU x26 x27 0 s28 hF h
    have J101 : ∀ (x29 : Int) (s30 : MS), F_x4_refsAre s s30 → m_x4_refsAre_J101 (m_x4_refsAre_L65 n65) x29 s30 = some o → F_x4_refsAre s o.2 := by
      intro x29 s30 hF h
      unfold m_x4_refsAre_J101 at h
      exact J102 x29 0 s30 hF h
    obtain ⟨hr31, h⟩ := rg_e h
    obtain ⟨hr32, h⟩ := rg_e h
    by_cases c33 : (gI s12 1420) ≤ x11
    · have h := if_t c33 h
      exact L151 FU 0 s12 hF h
    · have h := if_f c33 h
      obtain ⟨y34, ey34, iy34, h⟩ := rdI_e h
      obtain ⟨hr35, h⟩ := rg_e h
      by_cases c36 : y34 ≤ 0
      · have h := if_t c36 h
        exact J101 x11 s12 hF h
      · have h := if_f c36 h
        obtain ⟨y37, ey37, iy37, h⟩ := rdI_e h
        obtain ⟨hr38, h⟩ := rg_e h
        by_cases c39 : y37 ≤ 0
        · have h := if_t c39 h
          exact J101 x11 s12 hF h
        · have h := if_f c39 h
          obtain ⟨y40, ey40, iy40, h⟩ := rdI_e h
          exact J102 x11 y40 s12 hF h
  have L29 : ∀ (n : Nat) (x41 : Int) (s42 : MS), F_x4_refsAre s s42 → m_x4_refsAre_L29 n x41 s42 = some o → F_x4_refsAre s o.2 := by
    refine fr_ind (fun x41 s42 hF h => by cases h) ?_
    intro n29 ih29 x41 s42 hF h
    have h : m_x4_refsAre_b29 (m_x4_refsAre_L29 n29) x41 s42 = some o := h
    unfold m_x4_refsAre_b29 at h
    have J56 : ∀ (x43 : Int) (s44 : MS), F_x4_refsAre s s44 → m_x4_refsAre_J56 (m_x4_refsAre_L29 n29) x43 s44 = some o → F_x4_refsAre s o.2 := by
      intro x43 s44 hF h
      unfold m_x4_refsAre_J56 at h
      exact ih29 (x43 + 1) s44 hF h
    obtain ⟨hr45, h⟩ := rg_e h
    by_cases c46 : 8 ≤ x41
    · have h := if_t c46 h
      exact L65 FU 0 s42 hF h
    · have h := if_f c46 h
      obtain ⟨y47, ey47, iy47, h⟩ := rdI_e h
      obtain ⟨hr48, h⟩ := rg_e h
      by_cases c49 : y47 < 0
      · have h := if_t c49 h
        exact J56 x41 s42 hF h
      · have h := if_f c49 h
        obtain ⟨y50, ey50, iy50, h⟩ := rdI_e h
        obtain ⟨y51, ey51, iy51, h⟩ := rdI_e h
        obtain ⟨hi52, h⟩ := inb_e h
        obtain ⟨s53, hs53, h⟩ := st_e h
        have hF : F_x4_refsAre s s53 := hs53 ▸ Fr.uA hF (by decide)
        exact J56 x41 s53 hF h
  have L3 : ∀ (n : Nat) (x54 : Int) (s55 : MS), F_x4_refsAre s s55 → m_x4_refsAre_L3 n x54 s55 = some o → F_x4_refsAre s o.2 := by
    refine fr_ind (fun x54 s55 hF h => by cases h) ?_
    intro n3 ih3 x54 s55 hF h
    have h : m_x4_refsAre_b3 (m_x4_refsAre_L3 n3) x54 s55 = some o := h
    unfold m_x4_refsAre_b3 at h
    obtain ⟨hr56, h⟩ := rg_e h
    obtain ⟨hr57, h⟩ := rg_e h
    by_cases c58 : (gI s55 1420) ≤ x54
    · have h := if_t c58 h
      exact L29 FU 0 s55 hF h
    · have h := if_f c58 h
      obtain ⟨hi59, h⟩ := inb_e h
      obtain ⟨s60, hs60, h⟩ := st_e h
      have hF : F_x4_refsAre s s60 := hs60 ▸ Fr.uA hF (by decide)
      exact ih3 (x54 + 1) s60 hF h
  exact L3 FU 0 s hF h
abbrev F_x4_refsAre_v2 (s o : MS) : Prop := Fr [] [20] [] [] s o
theorem fr_x4_refsAre_v2 {s : MS} {o : (Int × MS)} (h : m_x4_refsAre_v2 s = some o) : F_x4_refsAre_v2 s o.2 := by
  have hF : F_x4_refsAre_v2 s s := Fr.rf s
  unfold m_x4_refsAre_v2 at h
  have L151 : ∀ (n : Nat) (x1 : Int) (s2 : MS), F_x4_refsAre_v2 s s2 → m_x4_refsAre_v2_L151 n x1 s2 = some o → F_x4_refsAre_v2 s o.2 := by
    refine fr_ind (fun x1 s2 hF h => by cases h) ?_
    intro n151 ih151 x1 s2 hF h
    have h : m_x4_refsAre_v2_b151 (m_x4_refsAre_v2_L151 n151) x1 s2 = some o := h
    unfold m_x4_refsAre_v2_b151 at h
    obtain ⟨hr3, h⟩ := rg_e h
    obtain ⟨hr4, h⟩ := rg_e h
    by_cases c5 : (gI s2 1420) ≤ x1
    · have h := if_t c5 h
      obtain rfl := Option.some.inj h
      exact hF
    · have h := if_f c5 h
      obtain ⟨y6, ey6, iy6, h⟩ := rdI_e h
      obtain ⟨y7, ey7, iy7, h⟩ := rdI_e h
      obtain ⟨hr8, h⟩ := rg_e h
      obtain ⟨hr9, h⟩ := rg_e h
      by_cases c10 : y6 = y7
      · have h := if_t c10 h
        exact ih151 (x1 + 1) s2 hF h
      · have h := if_f c10 h
        obtain rfl := Option.some.inj h
        exact hF
  have L65 : ∀ (n : Nat) (x11 : Int) (s12 : MS), F_x4_refsAre_v2 s s12 → m_x4_refsAre_v2_L65 n x11 s12 = some o → F_x4_refsAre_v2 s o.2 := by
    refine fr_ind (fun x11 s12 hF h => by cases h) ?_
    intro n65 ih65 x11 s12 hF h
    have h : m_x4_refsAre_v2_b65 (m_x4_refsAre_v2_L65 n65) x11 s12 = some o := h
    unfold m_x4_refsAre_v2_b65 at h
    have L107 : ∀ (n : Nat) (x13 : Int) (x14 : Int) (x15 : Int) (s16 : MS), F_x4_refsAre_v2 s s16 → m_x4_refsAre_v2_L107 (m_x4_refsAre_v2_L65 n65) n x13 x14 x15 s16 = some o → F_x4_refsAre_v2 s o.2 := by
      refine fr_ind (fun x13 x14 x15 s16 hF h => by cases h) ?_
      intro n107 ih107 x13 x14 x15 s16 hF h
      have h : m_x4_refsAre_v2_b107 (m_x4_refsAre_v2_L65 n65) (m_x4_refsAre_v2_L107 (m_x4_refsAre_v2_L65 n65) n107) x13 x14 x15 s16 = some o := h
      unfold m_x4_refsAre_v2_b107 at h
      obtain ⟨hr17, h⟩ := rg_e h
      obtain ⟨hr18, h⟩ := rg_e h
      by_cases c19 : x14 ≤ x15
      · have h := if_t c19 h
        exact ih65 (x13 + 1) s16 hF h
      · have h := if_f c19 h
        obtain ⟨r21, hc20, h⟩ := bn_e h
        obtain ⟨y22, ey22, iy22, h⟩ := rdI_e h
        obtain ⟨y23, ey23, iy23, h⟩ := rdI_e h
        obtain ⟨hi24, h⟩ := inb_e h
        obtain ⟨s25, hs25, h⟩ := st_e h
        have hF : F_x4_refsAre_v2 s s25 := hs25 ▸ Fr.uA hF (by decide)
        exact ih107 x13 x14 (x15 + 1) s25 hF h
    have J102 : ∀ (x26 : Int) (x27 : Int) (s28 : MS), F_x4_refsAre_v2 s s28 → m_x4_refsAre_v2_J102 (m_x4_refsAre_v2_L65 n65) x26 x27 s28 = some o → F_x4_refsAre_v2 s o.2 := by
      intro x26 x27 s28 hF h
      unfold m_x4_refsAre_v2_J102 at h
      exact L107 FU x26 x27 0 s28 hF h
    have J101 : ∀ (x29 : Int) (s30 : MS), F_x4_refsAre_v2 s s30 → m_x4_refsAre_v2_J101 (m_x4_refsAre_v2_L65 n65) x29 s30 = some o → F_x4_refsAre_v2 s o.2 := by
      intro x29 s30 hF h
      unfold m_x4_refsAre_v2_J101 at h
      exact J102 x29 0 s30 hF h
    obtain ⟨hr31, h⟩ := rg_e h
    obtain ⟨hr32, h⟩ := rg_e h
    by_cases c33 : (gI s12 1420) ≤ x11
    · have h := if_t c33 h
      exact L151 FU 0 s12 hF h
    · have h := if_f c33 h
      obtain ⟨y34, ey34, iy34, h⟩ := rdI_e h
      obtain ⟨hr35, h⟩ := rg_e h
      by_cases c36 : y34 ≤ 0
      · have h := if_t c36 h
        exact J101 x11 s12 hF h
      · have h := if_f c36 h
        obtain ⟨y37, ey37, iy37, h⟩ := rdI_e h
        obtain ⟨hr38, h⟩ := rg_e h
        by_cases c39 : y37 ≤ 0
        · have h := if_t c39 h
          exact J101 x11 s12 hF h
        · have h := if_f c39 h
          obtain ⟨y40, ey40, iy40, h⟩ := rdI_e h
          exact J102 x11 y40 s12 hF h
  have L29 : ∀ (n : Nat) (x41 : Int) (s42 : MS), F_x4_refsAre_v2 s s42 → m_x4_refsAre_v2_L29 n x41 s42 = some o → F_x4_refsAre_v2 s o.2 := by
    refine fr_ind (fun x41 s42 hF h => by cases h) ?_
    intro n29 ih29 x41 s42 hF h
    have h : m_x4_refsAre_v2_b29 (m_x4_refsAre_v2_L29 n29) x41 s42 = some o := h
    unfold m_x4_refsAre_v2_b29 at h
    have J56 : ∀ (x43 : Int) (s44 : MS), F_x4_refsAre_v2 s s44 → m_x4_refsAre_v2_J56 (m_x4_refsAre_v2_L29 n29) x43 s44 = some o → F_x4_refsAre_v2 s o.2 := by
      intro x43 s44 hF h
      unfold m_x4_refsAre_v2_J56 at h
      exact ih29 (x43 + 1) s44 hF h
    obtain ⟨hr45, h⟩ := rg_e h
    by_cases c46 : 8 ≤ x41
    · have h := if_t c46 h
      exact L65 FU 0 s42 hF h
    · have h := if_f c46 h
      obtain ⟨y47, ey47, iy47, h⟩ := rdI_e h
      obtain ⟨hr48, h⟩ := rg_e h
      by_cases c49 : y47 < 0
      · have h := if_t c49 h
        exact J56 x41 s42 hF h
      · have h := if_f c49 h
        obtain ⟨y50, ey50, iy50, h⟩ := rdI_e h
        obtain ⟨y51, ey51, iy51, h⟩ := rdI_e h
        obtain ⟨hi52, h⟩ := inb_e h
        obtain ⟨s53, hs53, h⟩ := st_e h
        have hF : F_x4_refsAre_v2 s s53 := hs53 ▸ Fr.uA hF (by decide)
        exact J56 x41 s53 hF h
  have L3 : ∀ (n : Nat) (x54 : Int) (s55 : MS), F_x4_refsAre_v2 s s55 → m_x4_refsAre_v2_L3 n x54 s55 = some o → F_x4_refsAre_v2 s o.2 := by
    refine fr_ind (fun x54 s55 hF h => by cases h) ?_
    intro n3 ih3 x54 s55 hF h
    have h : m_x4_refsAre_v2_b3 (m_x4_refsAre_v2_L3 n3) x54 s55 = some o := h
    unfold m_x4_refsAre_v2_b3 at h
    obtain ⟨hr56, h⟩ := rg_e h
    obtain ⟨hr57, h⟩ := rg_e h
    by_cases c58 : (gI s55 1420) ≤ x54
    · have h := if_t c58 h
      exact L29 FU 0 s55 hF h
    · have h := if_f c58 h
      obtain ⟨hi59, h⟩ := inb_e h
      obtain ⟨s60, hs60, h⟩ := st_e h
      have hF : F_x4_refsAre_v2 s s60 := hs60 ▸ Fr.uA hF (by decide)
      exact ih3 (x54 + 1) s60 hF h
  exact L3 FU 0 s hF h
abbrev F_x4_isSound (s o : MS) : Prop := Fr [] [18, 19, 20] [] [] s o
theorem fr_x4_isSound {s : MS} {o : (Int × MS)} (h : m_x4_isSound s = some o) : F_x4_isSound s o.2 := by
  have hF : F_x4_isSound s s := Fr.rf s
  unfold m_x4_isSound at h
  have J96 : ∀ (x1 : Int) (s2 : MS), F_x4_isSound s s2 → m_x4_isSound_J96 x1 s2 = some o → F_x4_isSound s o.2 := by
    intro x1 s2 hF h
    unfold m_x4_isSound_J96 at h
    obtain ⟨hb3, h⟩ := bo_e h
    obtain rfl := Option.some.inj h
    exact hF
  have J95 : ∀ (s4 : MS), F_x4_isSound s s4 → m_x4_isSound_J95 s4 = some o → F_x4_isSound s o.2 := by
    intro s4 hF h
    unfold m_x4_isSound_J95 at h
    exact J96 0 s4 hF h
  have L2 : ∀ (n : Nat) (x5 : Int) (s6 : MS), F_x4_isSound s s6 → m_x4_isSound_L2 n x5 s6 = some o → F_x4_isSound s o.2 := by
    refine fr_ind (fun x5 s6 hF h => by cases h) ?_
    intro n2 ih2 x5 s6 hF h
    have h : m_x4_isSound_b2 (m_x4_isSound_L2 n2) x5 s6 = some o := h
    unfold m_x4_isSound_b2 at h
    have L10 : ∀ (n : Nat) (x7 : Int) (x8 : Int) (s9 : MS), F_x4_isSound s s9 → m_x4_isSound_L10 (m_x4_isSound_L2 n2) n x7 x8 s9 = some o → F_x4_isSound s o.2 := by
      refine fr_ind (fun x7 x8 s9 hF h => by cases h) ?_
      intro n10 ih10 x7 x8 s9 hF h
      have h : m_x4_isSound_b10 (m_x4_isSound_L2 n2) (m_x4_isSound_L10 (m_x4_isSound_L2 n2) n10) x7 x8 s9 = some o := h
      unfold m_x4_isSound_b10 at h
      have J47 : ∀ (x10 : Int) (x11 : Int) (s12 : MS), F_x4_isSound s s12 → m_x4_isSound_J47 (m_x4_isSound_L2 n2) (m_x4_isSound_L10 (m_x4_isSound_L2 n2) n10) x10 x11 s12 = some o → F_x4_isSound s o.2 := by
        intro x10 x11 s12 hF h
        unfold m_x4_isSound_J47 at h
        exact ih10 x10 (x11 + 1) s12 hF h
      obtain ⟨hr13, h⟩ := rg_e h
      obtain ⟨hr14, h⟩ := rg_e h
      by_cases c15 : (gI s9 1420) ≤ x8
      · have h := if_t c15 h
        exact ih2 (x7 + 1) s9 hF h
      · have h := if_f c15 h
        obtain ⟨r17, hc16, h⟩ := bn_e h
        obtain ⟨hr18, h⟩ := rg_e h
        by_cases c19 : r17 = 0
        · have h := if_t c19 h
          obtain ⟨y20, ey20, iy20, h⟩ := rdI_e h
          obtain ⟨hr21, h⟩ := rg_e h
          obtain ⟨hr22, h⟩ := rg_e h
          by_cases c23 : y20 = x7
          · have h := if_t c23 h
            obtain ⟨⟨r26, s25⟩, hc24, h⟩ := bn_e h
            have hF : F_x4_isSound s s25 := Fr.tr hF (fr_x4_isSoundBlock hc24) (by decide)
            obtain ⟨hr27, h⟩ := rg_e h
            by_cases c28 : r26 = 0
            · have h := if_t c28 h
              obtain rfl := Option.some.inj h
              exact hF
            · have h := if_f c28 h
              exact J47 x7 x8 s25 hF h
          · have h := if_f c23 h
            exact J47 x7 x8 s9 hF h
        · have h := if_f c19 h
          exact J47 x7 x8 s9 hF h
    obtain ⟨hr29, h⟩ := rg_e h
    by_cases c30 : 48 ≤ x5
    · have h := if_t c30 h
      obtain ⟨⟨r33, s32⟩, hc31, h⟩ := bn_e h
      have hF : F_x4_isSound s s32 := Fr.tr hF (fr_x4_refsAre hc31) (by decide)
      obtain ⟨hr34, h⟩ := rg_e h
      by_cases c35 : r33 = 0
      · have h := if_t c35 h
        exact J95 s32 hF h
      · have h := if_f c35 h
        obtain ⟨⟨r38, s37⟩, hc36, h⟩ := bn_e h
        have hF : F_x4_isSound s s37 := Fr.tr hF (fr_x4_refsAre_v2 hc36) (by decide)
        obtain ⟨hr39, h⟩ := rg_e h
        by_cases c40 : r38 = 0
        · have h := if_t c40 h
          exact J95 s37 hF h
        · have h := if_f c40 h
          exact J96 1 s37 hF h
    · have h := if_f c30 h
      exact L10 FU x5 0 s6 hF h
  exact L2 FU 0 s hF h
abbrev F_x4_next (s o : MS) : Prop := Fr [322] [] [] [] s o
theorem fr_x4_next {s : MS} {o : (Int × MS)} (h : m_x4_next s = some o) : F_x4_next s o.2 := by
  have hF : F_x4_next s s := Fr.rf s
  unfold m_x4_next at h
  obtain ⟨r2, hc1, h⟩ := bn_e h
  obtain ⟨s3, hs3, h⟩ := st_e h
  have hF : F_x4_next s s3 := hs3 ▸ Fr.uI hF (by decide)
  obtain rfl := Option.some.inj h
  exact hF
abbrev F_x4_nextPair (s o : MS) : Prop := Fr [322] [] [] [] s o
theorem fr_x4_nextPair {s : MS} {o : (Int × MS)} (h : m_x4_nextPair s = some o) : F_x4_nextPair s o.2 := by
  have hF : F_x4_nextPair s s := Fr.rf s
  unfold m_x4_nextPair at h
  obtain ⟨⟨r3, s2⟩, hc1, h⟩ := bn_e h
  have hF : F_x4_nextPair s s2 := Fr.tr hF (fr_x4_next hc1) (by decide)
  obtain ⟨⟨r6, s5⟩, hc4, h⟩ := bn_e h
  have hF : F_x4_nextPair s s5 := Fr.tr hF (fr_x4_next hc4) (by decide)
  obtain rfl := Option.some.inj h
  exact hF
abbrev F_x4_loadBlock (s o : MS) : Prop := Fr [322] [72, 73, 74, 75, 76, 77] [] [] s o
theorem fr_x4_loadBlock {p2 : Int} {p3 : Int} {s : MS} {o : (Int × MS)} (h : m_x4_loadBlock p2 p3 s = some o) : F_x4_loadBlock s o.2 := by
  have hF : F_x4_loadBlock s s := Fr.rf s
  unfold m_x4_loadBlock at h
  have L123 : ∀ (n : Nat) (x1 : Int) (x2 : Int) (x3 : Int) (s4 : MS), F_x4_loadBlock s s4 → m_x4_loadBlock_L123 n x1 x2 x3 s4 = some o → F_x4_loadBlock s o.2 := by
    refine fr_ind (fun x1 x2 x3 s4 hF h => by cases h) ?_
    intro n123 ih123 x1 x2 x3 s4 hF h
    have h : m_x4_loadBlock_b123 (m_x4_loadBlock_L123 n123) x1 x2 x3 s4 = some o := h
    unfold m_x4_loadBlock_b123 at h
    have J202 : ∀ (x5 : Int) (x6 : Int) (x7 : Int) (s8 : MS), F_x4_loadBlock s s8 → m_x4_loadBlock_J202 (m_x4_loadBlock_L123 n123) x5 x6 x7 s8 = some o → F_x4_loadBlock s o.2 := by
      intro x5 x6 x7 s8 hF h
      unfold m_x4_loadBlock_J202 at h
      exact ih123 x5 x7 (x6 + 1) s8 hF h
    have J201 : ∀ (x9 : Int) (x10 : Int) (s11 : MS), F_x4_loadBlock s s11 → m_x4_loadBlock_J201 (m_x4_loadBlock_L123 n123) x9 x10 s11 = some o → F_x4_loadBlock s o.2 := by
      intro x9 x10 s11 hF h
      unfold m_x4_loadBlock_J201 at h
      exact J202 x9 x10 0 s11 hF h
    obtain ⟨y12, ey12, iy12, h⟩ := rdI_e h
    obtain ⟨hr13, h⟩ := rg_e h
    obtain ⟨hr14, h⟩ := rg_e h
    by_cases c15 : y12 ≤ x3
    · have h := if_t c15 h
      obtain ⟨hb16, h⟩ := bo_e h
      obtain rfl := Option.some.inj h
      exact hF
    · have h := if_f c15 h
      obtain ⟨⟨r19, s18⟩, hc17, h⟩ := bn_e h
      have hF : F_x4_loadBlock s s18 := Fr.tr hF (fr_x4_nextPair hc17) (by decide)
      obtain ⟨⟨r22, s21⟩, hc20, h⟩ := bn_e h
      have hF : F_x4_loadBlock s s21 := Fr.tr hF (fr_x4_nextPair hc20) (by decide)
      obtain ⟨r24, hc23, h⟩ := bn_e h
      obtain ⟨hi25, h⟩ := inb_e h
      obtain ⟨s26, hs26, h⟩ := st_e h
      have hF : F_x4_loadBlock s s26 := hs26 ▸ Fr.uA hF (by decide)
      obtain ⟨r28, hc27, h⟩ := bn_e h
      obtain ⟨hi29, h⟩ := inb_e h
      obtain ⟨s30, hs30, h⟩ := st_e h
      have hF : F_x4_loadBlock s s30 := hs30 ▸ Fr.uA hF (by decide)
      obtain ⟨hr31, h⟩ := rg_e h
      by_cases c32 : x2 = 0
      · have h := if_t c32 h
        exact J201 x1 x3 s30 hF h
      · have h := if_f c32 h
        obtain ⟨r34, hc33, h⟩ := bn_e h
        obtain ⟨hr35, h⟩ := rg_e h
        by_cases c36 : r34 = 0
        · have h := if_t c36 h
          exact J201 x1 x3 s30 hF h
        · have h := if_f c36 h
          obtain ⟨r38, hc37, h⟩ := bn_e h
          obtain ⟨hr39, h⟩ := rg_e h
          by_cases c40 : r38 = 0
          · have h := if_t c40 h
            exact J201 x1 x3 s30 hF h
          · have h := if_f c40 h
            exact J202 x1 x3 1 s30 hF h
  have J115 : ∀ (s41 : MS), F_x4_loadBlock s s41 → m_x4_loadBlock_J115 s41 = some o → F_x4_loadBlock s o.2 := by
    intro s41 hF h
    unfold m_x4_loadBlock_J115 at h
    obtain rfl := Option.some.inj h
    exact hF
  have J40 : ∀ (s42 : MS), F_x4_loadBlock s s42 → m_x4_loadBlock_J40 s42 = some o → F_x4_loadBlock s o.2 := by
    intro s42 hF h
    unfold m_x4_loadBlock_J40 at h
    obtain rfl := Option.some.inj h
    exact hF
  obtain ⟨⟨r45, s44⟩, hc43, h⟩ := bn_e h
  have hF : F_x4_loadBlock s s44 := Fr.tr hF (fr_x4_next hc43) (by decide)
  obtain ⟨hi46, h⟩ := inb_e h
  obtain ⟨s47, hs47, h⟩ := st_e h
  have hF : F_x4_loadBlock s s47 := hs47 ▸ Fr.uA hF (by decide)
  obtain ⟨⟨r50, s49⟩, hc48, h⟩ := bn_e h
  have hF : F_x4_loadBlock s s49 := Fr.tr hF (fr_x4_next hc48) (by decide)
  obtain ⟨hi51, h⟩ := inb_e h
  obtain ⟨s52, hs52, h⟩ := st_e h
  have hF : F_x4_loadBlock s s52 := hs52 ▸ Fr.uA hF (by decide)
  obtain ⟨y53, ey53, iy53, h⟩ := rdI_e h
  obtain ⟨hr54, h⟩ := rg_e h
  by_cases c55 : y53 < 0
  · have h := if_t c55 h
    exact J40 s52 hF h
  · have h := if_f c55 h
    obtain ⟨y56, ey56, iy56, h⟩ := rdI_e h
    obtain ⟨hr57, h⟩ := rg_e h
    by_cases c58 : 0 ≤ y56
    · have h := if_t c58 h
      obtain ⟨r60, hc59, h⟩ := bn_e h
      obtain ⟨hr61, h⟩ := rg_e h
      by_cases c62 : r60 = 0
      · have h := if_t c62 h
        obtain ⟨⟨r65, s64⟩, hc63, h⟩ := bn_e h
        have hF : F_x4_loadBlock s s64 := Fr.tr hF (fr_x4_next hc63) (by decide)
        obtain ⟨hi66, h⟩ := inb_e h
        obtain ⟨s67, hs67, h⟩ := st_e h
        have hF : F_x4_loadBlock s s67 := hs67 ▸ Fr.uA hF (by decide)
        obtain ⟨⟨r70, s69⟩, hc68, h⟩ := bn_e h
        have hF : F_x4_loadBlock s s69 := Fr.tr hF (fr_x4_next hc68) (by decide)
        obtain ⟨hi71, h⟩ := inb_e h
        obtain ⟨s72, hs72, h⟩ := st_e h
        have hF : F_x4_loadBlock s s72 := hs72 ▸ Fr.uA hF (by decide)
        obtain ⟨y73, ey73, iy73, h⟩ := rdI_e h
        obtain ⟨hr74, h⟩ := rg_e h
        by_cases c75 : y73 < 0
        · have h := if_t c75 h
          exact J115 s72 hF h
        · have h := if_f c75 h
          obtain ⟨y76, ey76, iy76, h⟩ := rdI_e h
          obtain ⟨hr77, h⟩ := rg_e h
          by_cases c78 : 48 ≤ y76
          · have h := if_t c78 h
            exact J115 s72 hF h
          · have h := if_f c78 h
            obtain ⟨y79, ey79, iy79, h⟩ := rdI_e h
            obtain ⟨hr80, h⟩ := rg_e h
            by_cases c81 : y79 < 1
            · have h := if_t c81 h
              exact J115 s72 hF h
            · have h := if_f c81 h
              obtain ⟨y82, ey82, iy82, h⟩ := rdI_e h
              obtain ⟨hr83, h⟩ := rg_e h
              obtain ⟨hr84, h⟩ := rg_e h
              by_cases c85 : y82 ≤ p3
              · have h := if_t c85 h
                exact L123 FU p2 1 0 s72 hF h
              · have h := if_f c85 h
                exact J115 s72 hF h
      · have h := if_f c62 h
        obtain rfl := Option.some.inj h
        exact hF
    · have h := if_f c58 h
      exact J40 s52 hF h
abbrev F_x8_clear (s o : MS) : Prop := Fr [1420, 1421] [72, 73, 74, 75, 78, 79] [1422] [] s o
theorem fr_x8_clear {p0 : Int} {s : MS} {o : MS} (h : m_x8_clear p0 s = some o) : F_x8_clear s o := by
  have hF : F_x8_clear s s := Fr.rf s
  unfold m_x8_clear at h
  have L59 : ∀ (n : Nat) (x1 : Int) (s2 : MS), F_x8_clear s s2 → m_x8_clear_L59 n x1 s2 = some o → F_x8_clear s o := by
    refine fr_ind (fun x1 s2 hF h => by cases h) ?_
    intro n59 ih59 x1 s2 hF h
    have h : m_x8_clear_b59 (m_x8_clear_L59 n59) x1 s2 = some o := h
    unfold m_x8_clear_b59 at h
    obtain ⟨hr3, h⟩ := rg_e h
    by_cases c4 : 8 ≤ x1
    · have h := if_t c4 h
      obtain rfl := Option.some.inj h
      exact hF
    · have h := if_f c4 h
      obtain ⟨hi5, h⟩ := inb_e h
      obtain ⟨s6, hs6, h⟩ := st_e h
      have hF : F_x8_clear s s6 := hs6 ▸ Fr.uA hF (by decide)
      obtain ⟨hi7, h⟩ := inb_e h
      obtain ⟨s8, hs8, h⟩ := st_e h
      have hF : F_x8_clear s s8 := hs8 ▸ Fr.uA hF (by decide)
      exact ih59 (x1 + 1) s8 hF h
  have L17 : ∀ (n : Nat) (x9 : Int) (s10 : MS), F_x8_clear s s10 → m_x8_clear_L17 n x9 s10 = some o → F_x8_clear s o := by
    refine fr_ind (fun x9 s10 hF h => by cases h) ?_
    intro n17 ih17 x9 s10 hF h
    have h : m_x8_clear_b17 (m_x8_clear_L17 n17) x9 s10 = some o := h
    unfold m_x8_clear_b17 at h
    obtain ⟨hr11, h⟩ := rg_e h
    by_cases c12 : 48 ≤ x9
    · have h := if_t c12 h
      exact L59 FU 0 s10 hF h
    · have h := if_f c12 h
      obtain ⟨hi13, h⟩ := inb_e h
      obtain ⟨s14, hs14, h⟩ := st_e h
      have hF : F_x8_clear s s14 := hs14 ▸ Fr.uA hF (by decide)
      obtain ⟨hi15, h⟩ := inb_e h
      obtain ⟨s16, hs16, h⟩ := st_e h
      have hF : F_x8_clear s s16 := hs16 ▸ Fr.uA hF (by decide)
      obtain ⟨hi17, h⟩ := inb_e h
      obtain ⟨s18, hs18, h⟩ := st_e h
      have hF : F_x8_clear s s18 := hs18 ▸ Fr.uA hF (by decide)
      obtain ⟨hi19, h⟩ := inb_e h
      obtain ⟨s20, hs20, h⟩ := st_e h
      have hF : F_x8_clear s s20 := hs20 ▸ Fr.uA hF (by decide)
      exact ih17 (x9 + 1) s20 hF h
  obtain ⟨s21, hs21, h⟩ := st_e h
  have hF : F_x8_clear s s21 := hs21 ▸ Fr.uI hF (by decide)
  obtain ⟨s22, hs22, h⟩ := st_e h
  have hF : F_x8_clear s s22 := hs22 ▸ Fr.uI hF (by decide)
  obtain ⟨s23, hs23, h⟩ := st_e h
  have hF : F_x8_clear s s23 := hs23 ▸ Fr.uL hF (by decide)
  exact L17 FU 0 s23 hF h
abbrev F_x4_loadHead (s o : MS) : Prop := Fr [322, 1421] [78, 79] [] [] s o
theorem fr_x4_loadHead {s : MS} {o : (Int × MS)} (h : m_x4_loadHead s = some o) : F_x4_loadHead s o.2 := by
  have hF : F_x4_loadHead s s := Fr.rf s
  unfold m_x4_loadHead at h
  have L39 : ∀ (n : Nat) (x1 : Int) (x2 : Int) (s3 : MS), F_x4_loadHead s s3 → m_x4_loadHead_L39 n x1 x2 s3 = some o → F_x4_loadHead s o.2 := by
    refine fr_ind (fun x1 x2 s3 hF h => by cases h) ?_
    intro n39 ih39 x1 x2 s3 hF h
    have h : m_x4_loadHead_b39 (m_x4_loadHead_L39 n39) x1 x2 s3 = some o := h
    unfold m_x4_loadHead_b39 at h
    have J114 : ∀ (x4 : Int) (x5 : Int) (s6 : MS), F_x4_loadHead s s6 → m_x4_loadHead_J114 (m_x4_loadHead_L39 n39) x4 x5 s6 = some o → F_x4_loadHead s o.2 := by
      intro x4 x5 s6 hF h
      unfold m_x4_loadHead_J114 at h
      exact ih39 x5 (x4 + 1) s6 hF h
    have J113 : ∀ (x7 : Int) (s8 : MS), F_x4_loadHead s s8 → m_x4_loadHead_J113 (m_x4_loadHead_L39 n39) x7 s8 = some o → F_x4_loadHead s o.2 := by
      intro x7 s8 hF h
      unfold m_x4_loadHead_J113 at h
      exact J114 x7 0 s8 hF h
    obtain ⟨hr9, h⟩ := rg_e h
    by_cases c10 : 8 ≤ x2
    · have h := if_t c10 h
      obtain ⟨hb11, h⟩ := bo_e h
      obtain rfl := Option.some.inj h
      exact hF
    · have h := if_f c10 h
      obtain ⟨⟨r14, s13⟩, hc12, h⟩ := bn_e h
      have hF : F_x4_loadHead s s13 := Fr.tr hF (fr_x4_next hc12) (by decide)
      obtain ⟨r16, hc15, h⟩ := bn_e h
      obtain ⟨hi17, h⟩ := inb_e h
      obtain ⟨s18, hs18, h⟩ := st_e h
      have hF : F_x4_loadHead s s18 := hs18 ▸ Fr.uA hF (by decide)
      obtain ⟨⟨r21, s20⟩, hc19, h⟩ := bn_e h
      have hF : F_x4_loadHead s s20 := Fr.tr hF (fr_x4_next hc19) (by decide)
      obtain ⟨r23, hc22, h⟩ := bn_e h
      obtain ⟨hi24, h⟩ := inb_e h
      obtain ⟨s25, hs25, h⟩ := st_e h
      have hF : F_x4_loadHead s s25 := hs25 ▸ Fr.uA hF (by decide)
      obtain ⟨hr26, h⟩ := rg_e h
      by_cases c27 : x1 = 0
      · have h := if_t c27 h
        exact J113 x2 s25 hF h
      · have h := if_f c27 h
        obtain ⟨y28, ey28, iy28, h⟩ := rdI_e h
        obtain ⟨hr29, h⟩ := rg_e h
        obtain ⟨hr30, h⟩ := rg_e h
        by_cases c31 : (gI s25 1420) ≤ y28
        · have h := if_t c31 h
          exact J113 x2 s25 hF h
        · have h := if_f c31 h
          obtain ⟨y32, ey32, iy32, h⟩ := rdI_e h
          obtain ⟨hr33, h⟩ := rg_e h
          obtain ⟨hr34, h⟩ := rg_e h
          by_cases c35 : (gI s25 1420) ≤ y32
          · have h := if_t c35 h
            exact J113 x2 s25 hF h
          · have h := if_f c35 h
            exact J114 x2 1 s25 hF h
  have J34 : ∀ (x36 : Int) (s37 : MS), F_x4_loadHead s s37 → m_x4_loadHead_J34 x36 s37 = some o → F_x4_loadHead s o.2 := by
    intro x36 s37 hF h
    unfold m_x4_loadHead_J34 at h
    exact L39 FU x36 0 s37 hF h
  obtain ⟨⟨r40, s39⟩, hc38, h⟩ := bn_e h
  have hF : F_x4_loadHead s s39 := Fr.tr hF (fr_x4_next hc38) (by decide)
  obtain ⟨⟨r43, s42⟩, hc41, h⟩ := bn_e h
  have hF : F_x4_loadHead s s42 := Fr.tr hF (fr_x4_nextPair hc41) (by decide)
  obtain ⟨s44, hs44, h⟩ := st_e h
  have hF : F_x4_loadHead s s44 := hs44 ▸ Fr.uI hF (by decide)
  obtain ⟨hr45, h⟩ := rg_e h
  by_cases c46 : 999999 < (gI s44 1421)
  · have h := if_t c46 h
    exact J34 0 s44 hF h
  · have h := if_f c46 h
    exact J34 1 s44 hF h
abbrev F_x4_load (s o : MS) : Prop := Fr [322, 1420, 1421] [18, 19, 20, 72, 73, 74, 75, 76, 77, 78, 79] [1422] [] s o
theorem fr_x4_load {p2 : Int} {p3 : Int} {s : MS} {o : (Int × MS)} (h : m_x4_load p2 p3 s = some o) : F_x4_load s o.2 := by
  have hF : F_x4_load s s := Fr.rf s
  unfold m_x4_load at h
  have J108 : ∀ (x1 : Int) (s2 : MS), F_x4_load s s2 → m_x4_load_J108 x1 s2 = some o → F_x4_load s o.2 := by
    intro x1 s2 hF h
    unfold m_x4_load_J108 at h
    obtain ⟨hb3, h⟩ := bo_e h
    obtain rfl := Option.some.inj h
    exact hF
  have J107 : ∀ (s4 : MS), F_x4_load s s4 → m_x4_load_J107 s4 = some o → F_x4_load s o.2 := by
    intro s4 hF h
    unfold m_x4_load_J107 at h
    exact J108 0 s4 hF h
  have L59 : ∀ (n : Nat) (x5 : Int) (x6 : Int) (x7 : Int) (x8 : Int) (s9 : MS), F_x4_load s s9 → m_x4_load_L59 n x5 x6 x7 x8 s9 = some o → F_x4_load s o.2 := by
    refine fr_ind (fun x5 x6 x7 x8 s9 hF h => by cases h) ?_
    intro n59 ih59 x5 x6 x7 x8 s9 hF h
    have h : m_x4_load_b59 (m_x4_load_L59 n59) x5 x6 x7 x8 s9 = some o := h
    unfold m_x4_load_b59 at h
    obtain ⟨hr10, h⟩ := rg_e h
    obtain ⟨hr11, h⟩ := rg_e h
    by_cases c12 : x5 ≤ x8
    · have h := if_t c12 h
      obtain ⟨hr13, h⟩ := rg_e h
      obtain ⟨hr14, h⟩ := rg_e h
      by_cases c15 : (gI s9 322) = x7
      · have h := if_t c15 h
        obtain ⟨⟨r18, s17⟩, hc16, h⟩ := bn_e h
        have hF : F_x4_load s s17 := Fr.tr hF (fr_x4_isSound hc16) (by decide)
        obtain ⟨hr19, h⟩ := rg_e h
        by_cases c20 : r18 = 0
        · have h := if_t c20 h
          exact J107 s17 hF h
        · have h := if_f c20 h
          exact J108 1 s17 hF h
      · have h := if_f c15 h
        exact J107 s9 hF h
    · have h := if_f c12 h
      obtain ⟨⟨r23, s22⟩, hc21, h⟩ := bn_e h
      have hF : F_x4_load s s22 := Fr.tr hF (fr_x4_loadBlock hc21) (by decide)
      obtain ⟨hr24, h⟩ := rg_e h
      by_cases c25 : r23 = 0
      · have h := if_t c25 h
        obtain rfl := Option.some.inj h
        exact hF
      · have h := if_f c25 h
        exact ih59 x5 x6 x7 (x8 + 1) s22 hF h
  have J33 : ∀ (s26 : MS), F_x4_load s s26 → m_x4_load_J33 s26 = some o → F_x4_load s o.2 := by
    intro s26 hF h
    unfold m_x4_load_J33 at h
    obtain rfl := Option.some.inj h
    exact hF
  obtain ⟨hr27, h⟩ := rg_e h
  by_cases c28 : ((gI s 61) - 1) < 19
  · have h := if_t c28 h
    exact J33 s hF h
  · have h := if_f c28 h
    obtain ⟨r30, hc29, h⟩ := bn_e h
    obtain ⟨r32, hc31, h⟩ := bn_e h
    obtain ⟨hr33, h⟩ := rg_e h
    obtain ⟨hr34, h⟩ := rg_e h
    by_cases c35 : r30 = r32
    · have h := if_t c35 h
      obtain ⟨s37, hc36, h⟩ := bn_e h
      have hF : F_x4_load s s37 := Fr.tr hF (fr_x8_clear hc36) (by decide)
      obtain ⟨s38, hs38, h⟩ := st_e h
      have hF : F_x4_load s s38 := hs38 ▸ Fr.uI hF (by decide)
      obtain ⟨⟨r41, s40⟩, hc39, h⟩ := bn_e h
      have hF : F_x4_load s s40 := Fr.tr hF (fr_x4_loadHead hc39) (by decide)
      obtain ⟨hr42, h⟩ := rg_e h
      by_cases c43 : r41 = 0
      · have h := if_t c43 h
        obtain rfl := Option.some.inj h
        exact hF
      · have h := if_f c43 h
        exact L59 FU p2 p3 ((gI s 61) - 1) 0 s40 hF h
    · have h := if_f c35 h
      exact J33 s hF h
abbrev F_x11_on (s o : MS) : Prop := Fr [61, 143, 145, 322, 1060, 1061, 1420, 1421] [2, 18, 19, 20, 54, 55, 56, 57, 58, 59, 60, 61, 72, 73, 74, 75, 76, 77, 78, 79] [1062, 1422] [] s o
theorem fr_x11_on {s : MS} {o : (Int × MS)} (h : m_x11_on s = some o) : F_x11_on s o.2 := by
  have hF : F_x11_on s s := Fr.rf s
  unfold m_x11_on at h
  have J47 : ∀ (x1 : Int) (s2 : MS), F_x11_on s s2 → m_x11_on_J47 x1 s2 = some o → F_x11_on s o.2 := by
    intro x1 s2 hF h
    unfold m_x11_on_J47 at h
    obtain ⟨s3, hs3, h⟩ := st_e h
    have hF : F_x11_on s s3 := hs3 ▸ Fr.uI hF (by decide)
    obtain ⟨hr4, h⟩ := rg_e h
    by_cases c5 : x1 = 0
    · have h := if_t c5 h
      obtain ⟨⟨r12, s11⟩, hc10, h⟩ := bn_e h
      have hF : F_x11_on s s11 := Fr.tr hF (fr_x11_refuse hc10) (by decide)
      obtain rfl := Option.some.inj h
      exact hF
    · have h := if_f c5 h
      obtain ⟨s7, hc6, h⟩ := bn_e h
      have hF : F_x11_on s s7 := Fr.tr hF (fr_x8_become_v4 hc6) (by decide)
      obtain ⟨s9, hc8, h⟩ := bn_e h
      have hF : F_x11_on s s9 := Fr.tr hF (fr_x2_clear hc8) (by decide)
      obtain rfl := Option.some.inj h
      exact hF
  have J46 : ∀ (s13 : MS), F_x11_on s s13 → m_x11_on_J46 s13 = some o → F_x11_on s o.2 := by
    intro s13 hF h
    unfold m_x11_on_J46 at h
    exact J47 0 s13 hF h
  obtain ⟨hr14, h⟩ := rg_e h
  by_cases c15 : (gI s 12) = 0
  · have h := if_t c15 h
    exact J46 s hF h
  · have h := if_f c15 h
    obtain ⟨⟨r18, s17⟩, hc16, h⟩ := bn_e h
    have hF : F_x11_on s s17 := Fr.tr hF (fr_x4_load hc16) (by decide)
    obtain ⟨hr19, h⟩ := rg_e h
    by_cases c20 : r18 = 0
    · have h := if_t c20 h
      exact J46 s17 hF h
    · have h := if_f c20 h
      exact J47 1 s17 hF h
abbrev F_x5_addChange (s o : MS) : Prop := Fr [785] [41, 42, 43, 44] [] [] s o
theorem fr_x5_addChange {p0 : Int} {p1 : Int} {p2 : Int} {p3 : Int} {s : MS} {o : MS} (h : m_x5_addChange p0 p1 p2 p3 s = some o) : F_x5_addChange s o := by
  have hF : F_x5_addChange s s := Fr.rf s
  unfold m_x5_addChange at h
  have J60 : ∀ (s1 : MS), F_x5_addChange s s1 → m_x5_addChange_J60 s1 = some o → F_x5_addChange s o := by
    intro s1 hF h
    unfold m_x5_addChange_J60 at h
    obtain rfl := Option.some.inj h
    exact hF
  obtain ⟨hr2, h⟩ := rg_e h
  by_cases c3 : 60 ≤ (gI s 785)
  · have h := if_t c3 h
    exact J60 s hF h
  · have h := if_f c3 h
    obtain ⟨hi4, h⟩ := inb_e h
    obtain ⟨s5, hs5, h⟩ := st_e h
    have hF : F_x5_addChange s s5 := hs5 ▸ Fr.uA hF (by decide)
    obtain ⟨hi6, h⟩ := inb_e h
    obtain ⟨s7, hs7, h⟩ := st_e h
    have hF : F_x5_addChange s s7 := hs7 ▸ Fr.uA hF (by decide)
    obtain ⟨hi8, h⟩ := inb_e h
    obtain ⟨s9, hs9, h⟩ := st_e h
    have hF : F_x5_addChange s s9 := hs9 ▸ Fr.uA hF (by decide)
    obtain ⟨hi10, h⟩ := inb_e h
    obtain ⟨s11, hs11, h⟩ := st_e h
    have hF : F_x5_addChange s s11 := hs11 ▸ Fr.uA hF (by decide)
    obtain ⟨s12, hs12, h⟩ := st_e h
    have hF : F_x5_addChange s s12 := hs12 ▸ Fr.uI hF (by decide)
    exact J60 s12 hF h
abbrev F_x6_isName (s o : MS) : Prop := Fr [100, 101, 107] [] [] [] s o
theorem fr_x6_isName {s : MS} {o : (Int × MS)} (h : m_x6_isName s = some o) : F_x6_isName s o.2 := by
  have hF : F_x6_isName s s := Fr.rf s
  unfold m_x6_isName at h
  have J69 : ∀ (x1 : Int) (s2 : MS), F_x6_isName s s2 → m_x6_isName_J69 x1 s2 = some o → F_x6_isName s o.2 := by
    intro x1 s2 hF h
    unfold m_x6_isName_J69 at h
    obtain ⟨hb3, h⟩ := bo_e h
    obtain rfl := Option.some.inj h
    exact hF
  have J64 : ∀ (s4 : MS), F_x6_isName s s4 → m_x6_isName_J64 s4 = some o → F_x6_isName s o.2 := by
    intro s4 hF h
    unfold m_x6_isName_J64 at h
    exact J69 1 s4 hF h
  have J35 : ∀ (s5 : MS), F_x6_isName s s5 → m_x6_isName_J35 s5 = some o → F_x6_isName s o.2 := by
    intro s5 hF h
    unfold m_x6_isName_J35 at h
    obtain ⟨hr6, h⟩ := rg_e h
    by_cases c7 : ((gI s5 109) - (gI s5 108)) ≤ 6
    · have h := if_t c7 h
      exact J64 s5 hF h
    · have h := if_f c7 h
      obtain ⟨⟨r10, s9⟩, hc8, h⟩ := bn_e h
      have hF : F_x6_isName s s9 := Fr.tr hF (fr_x6_fail hc8) (by decide)
      obtain ⟨hr11, h⟩ := rg_e h
      by_cases c12 : r10 = 0
      · have h := if_t c12 h
        exact J69 0 s9 hF h
      · have h := if_f c12 h
        exact J64 s9 hF h
  have J25 : ∀ (s13 : MS), F_x6_isName s s13 → m_x6_isName_J25 s13 = some o → F_x6_isName s o.2 := by
    intro s13 hF h
    unfold m_x6_isName_J25 at h
    obtain ⟨⟨r16, s15⟩, hc14, h⟩ := bn_e h
    have hF : F_x6_isName s s15 := Fr.tr hF (fr_x6_fail hc14) (by decide)
    obtain ⟨hb17, h⟩ := bo_e h
    obtain rfl := Option.some.inj h
    exact hF
  obtain ⟨hr18, h⟩ := rg_e h
  by_cases c19 : (gI s 107) = 1
  · have h := if_t c19 h
    obtain ⟨hr20, h⟩ := rg_e h
    by_cases c21 : (gI s 110) = (-1)
    · have h := if_t c21 h
      exact J35 s hF h
    · have h := if_f c21 h
      obtain ⟨hr22, h⟩ := rg_e h
      by_cases c23 : 27 ≤ (gI s 110)
      · have h := if_t c23 h
        exact J35 s hF h
      · have h := if_f c23 h
        exact J25 s hF h
  · have h := if_f c19 h
    exact J25 s hF h
abbrev F_x6_expectVolume (s o : MS) : Prop := Fr [100, 101, 107, 108, 109, 110, 111] [] [] [] s o
theorem fr_x6_expectVolume {s : MS} {o : (Int × MS)} (h : m_x6_expectVolume s = some o) : F_x6_expectVolume s o.2 := by
  have hF : F_x6_expectVolume s s := Fr.rf s
  unfold m_x6_expectVolume at h
  have J41 : ∀ (x1 : Int) (s2 : MS), F_x6_expectVolume s s2 → m_x6_expectVolume_J41 x1 s2 = some o → F_x6_expectVolume s o.2 := by
    intro x1 s2 hF h
    unfold m_x6_expectVolume_J41 at h
    obtain ⟨s4, hc3, h⟩ := bn_e h
    have hF : F_x6_expectVolume s s4 := Fr.tr hF (fr_x6_advance hc3) (by decide)
    obtain rfl := Option.some.inj h
    exact hF
  obtain ⟨⟨r7, s6⟩, hc5, h⟩ := bn_e h
  have hF : F_x6_expectVolume s s6 := Fr.tr hF (fr_x6_isName hc5) (by decide)
  obtain ⟨hr8, h⟩ := rg_e h
  by_cases c9 : r7 = 0
  · have h := if_t c9 h
    obtain rfl := Option.some.inj h
    exact hF
  · have h := if_f c9 h
    obtain ⟨r11, hc10, h⟩ := bn_e h
    obtain ⟨hr12, h⟩ := rg_e h
    by_cases c13 : r11 = (-1)
    · have h := if_t c13 h
      obtain ⟨⟨r16, s15⟩, hc14, h⟩ := bn_e h
      have hF : F_x6_expectVolume s s15 := Fr.tr hF (fr_x6_fail hc14) (by decide)
      exact J41 r11 s15 hF h
    · have h := if_f c13 h
      exact J41 r11 s6 hF h
abbrev F_x6_readChange (s o : MS) : Prop := Fr [100, 101, 107, 108, 109, 110, 111, 785] [41, 42, 43, 44] [] [] s o
theorem fr_x6_readChange {p1 : Int} {s : MS} {o : MS} (h : m_x6_readChange p1 s = some o) : F_x6_readChange s o := by
  have hF : F_x6_readChange s s := Fr.rf s
  unfold m_x6_readChange at h
  have J37 : ∀ (x1 : Int) (x2 : Int) (x3 : Int) (x4 : Int) (s5 : MS), F_x6_readChange s s5 → m_x6_readChange_J37 x1 x2 x3 x4 s5 = some o → F_x6_readChange s o := by
    intro x1 x2 x3 x4 s5 hF h
    unfold m_x6_readChange_J37 at h
    obtain ⟨s7, hc6, h⟩ := bn_e h
    have hF : F_x6_readChange s s7 := Fr.tr hF (fr_x5_addChange hc6) (by decide)
    obtain rfl := Option.some.inj h
    exact hF
  obtain ⟨s9, hc8, h⟩ := bn_e h
  have hF : F_x6_readChange s s9 := Fr.tr hF (fr_x6_advance hc8) (by decide)
  obtain ⟨⟨r12, s11⟩, hc10, h⟩ := bn_e h
  have hF : F_x6_readChange s s11 := Fr.tr hF (fr_x6_expectVolume hc10) (by decide)
  obtain ⟨⟨r15, s14⟩, hc13, h⟩ := bn_e h
  have hF : F_x6_readChange s s14 := Fr.tr hF (fr_x6_expectNumber hc13) (by decide)
  obtain ⟨hr16, h⟩ := rg_e h
  by_cases c17 : p1 = 5
  · have h := if_t c17 h
    obtain ⟨⟨r20, s19⟩, hc18, h⟩ := bn_e h
    have hF : F_x6_readChange s s19 := Fr.tr hF (fr_x6_expectNumber hc18) (by decide)
    exact J37 p1 r12 r15 r20 s19 hF h
  · have h := if_f c17 h
    exact J37 p1 r12 r15 0 s14 hF h
abbrev F_x5_addVolume (s o : MS) : Prop := Fr [784] [40] [] [] s o
theorem fr_x5_addVolume {p1 : Int} {p2 : Int} {s : MS} {o : (Int × MS)} (h : m_x5_addVolume p1 p2 s = some o) : F_x5_addVolume s o.2 := by
  have hF : F_x5_addVolume s s := Fr.rf s
  unfold m_x5_addVolume at h
  have L14 : ∀ (n : Nat) (x1 : Int) (x2 : Int) (x3 : Int) (s4 : MS), F_x5_addVolume s s4 → m_x5_addVolume_L14 n x1 x2 x3 s4 = some o → F_x5_addVolume s o.2 := by
    refine fr_ind (fun x1 x2 x3 s4 hF h => by cases h) ?_
    intro n14 ih14 x1 x2 x3 s4 hF h
    have h : m_x5_addVolume_b14 (m_x5_addVolume_L14 n14) x1 x2 x3 s4 = some o := h
    unfold m_x5_addVolume_b14 at h
    obtain ⟨hr5, h⟩ := rg_e h
    by_cases c6 : 6 ≤ x3
    · have h := if_t c6 h
      obtain ⟨s7, hs7, h⟩ := st_e h
      have hF : F_x5_addVolume s s7 := hs7 ▸ Fr.uI hF (by decide)
      obtain rfl := Option.some.inj h
      exact hF
    · have h := if_f c6 h
      obtain ⟨r9, hc8, h⟩ := bn_e h
      obtain ⟨hi10, h⟩ := inb_e h
      obtain ⟨s11, hs11, h⟩ := st_e h
      have hF : F_x5_addVolume s s11 := hs11 ▸ Fr.uA hF (by decide)
      exact ih14 x1 x2 (x3 + 1) s11 hF h
  obtain ⟨hr12, h⟩ := rg_e h
  by_cases c13 : (gI s 784) < 8
  · have h := if_t c13 h
    exact L14 FU p1 p2 0 s hF h
  · have h := if_f c13 h
    obtain rfl := Option.some.inj h
    exact hF
abbrev F_x6_expectWord (s o : MS) : Prop := Fr [100, 101, 107, 108, 109, 110, 111] [] [] [] s o
theorem fr_x6_expectWord {p0 : Int} {s : MS} {o : MS} (h : m_x6_expectWord p0 s = some o) : F_x6_expectWord s o := by
  have hF : F_x6_expectWord s s := Fr.rf s
  unfold m_x6_expectWord at h
  have J25 : ∀ (s1 : MS), F_x6_expectWord s s1 → m_x6_expectWord_J25 s1 = some o → F_x6_expectWord s o := by
    intro s1 hF h
    unfold m_x6_expectWord_J25 at h
    obtain rfl := Option.some.inj h
    exact hF
  obtain ⟨r3, hc2, h⟩ := bn_e h
  obtain ⟨hr4, h⟩ := rg_e h
  by_cases c5 : r3 = 0
  · have h := if_t c5 h
    obtain ⟨⟨r8, s7⟩, hc6, h⟩ := bn_e h
    have hF : F_x6_expectWord s s7 := Fr.tr hF (fr_x6_fail hc6) (by decide)
    exact J25 s7 hF h
  · have h := if_f c5 h
    obtain ⟨s10, hc9, h⟩ := bn_e h
    have hF : F_x6_expectWord s s10 := Fr.tr hF (fr_x6_advance hc9) (by decide)
    exact J25 s10 hF h
abbrev F_x6_readVolume (s o : MS) : Prop := Fr [100, 101, 107, 108, 109, 110, 111, 784, 785] [40, 41, 42, 43, 44] [] [] s o
theorem fr_x6_readVolume {p1 : Int} {s : MS} {o : MS} (h : m_x6_readVolume p1 s = some o) : F_x6_readVolume s o := by
  have hF : F_x6_readVolume s s := Fr.rf s
  unfold m_x6_readVolume at h
  have J96 : ∀ (x1 : Int) (x2 : Int) (x3 : Int) (x4 : Int) (s5 : MS), F_x6_readVolume s s5 → m_x6_readVolume_J96 x1 x2 x3 x4 s5 = some o → F_x6_readVolume s o := by
    intro x1 x2 x3 x4 s5 hF h
    unfold m_x6_readVolume_J96 at h
    obtain ⟨⟨r8, s7⟩, hc6, h⟩ := bn_e h
    have hF : F_x6_readVolume s s7 := Fr.tr hF (fr_x5_addVolume hc6) (by decide)
    obtain ⟨s10, hc9, h⟩ := bn_e h
    have hF : F_x6_readVolume s s10 := Fr.tr hF (fr_x5_addChange hc9) (by decide)
    obtain rfl := Option.some.inj h
    exact hF
  have J61 : ∀ (x11 : Int) (s12 : MS), F_x6_readVolume s s12 → m_x6_readVolume_J61 x11 s12 = some o → F_x6_readVolume s o := by
    intro x11 s12 hF h
    unfold m_x6_readVolume_J61 at h
    obtain ⟨s14, hc13, h⟩ := bn_e h
    have hF : F_x6_readVolume s s14 := Fr.tr hF (fr_x6_advance hc13) (by decide)
    obtain ⟨hr15, h⟩ := rg_e h
    by_cases c16 : x11 = 3
    · have h := if_t c16 h
      obtain ⟨s18, hc17, h⟩ := bn_e h
      have hF : F_x6_readVolume s s18 := Fr.tr hF (fr_x6_expectWord hc17) (by decide)
      obtain ⟨⟨r21, s20⟩, hc19, h⟩ := bn_e h
      have hF : F_x6_readVolume s s20 := Fr.tr hF (fr_x6_expectVolume hc19) (by decide)
      exact J96 x11 (gI s12 108) (gI s12 109) r21 s20 hF h
    · have h := if_f c16 h
      exact J96 x11 (gI s12 108) (gI s12 109) (-1) s14 hF h
  have J19 : ∀ (x22 : Int) (s23 : MS), F_x6_readVolume s s23 → m_x6_readVolume_J19 x22 s23 = some o → F_x6_readVolume s o := by
    intro x22 s23 hF h
    unfold m_x6_readVolume_J19 at h
    obtain ⟨s25, hc24, h⟩ := bn_e h
    have hF : F_x6_readVolume s s25 := Fr.tr hF (fr_x6_advance hc24) (by decide)
    obtain ⟨⟨r28, s27⟩, hc26, h⟩ := bn_e h
    have hF : F_x6_readVolume s s27 := Fr.tr hF (fr_x6_isName hc26) (by decide)
    obtain ⟨hr29, h⟩ := rg_e h
    by_cases c30 : r28 = 0
    · have h := if_t c30 h
      obtain rfl := Option.some.inj h
      exact hF
    · have h := if_f c30 h
      obtain ⟨r32, hc31, h⟩ := bn_e h
      obtain ⟨hr33, h⟩ := rg_e h
      by_cases c34 : r32 = (-1)
      · have h := if_t c34 h
        exact J61 x22 s27 hF h
      · have h := if_f c34 h
        obtain ⟨⟨r37, s36⟩, hc35, h⟩ := bn_e h
        have hF : F_x6_readVolume s s36 := Fr.tr hF (fr_x6_fail hc35) (by decide)
        exact J61 x22 s36 hF h
  obtain ⟨hr38, h⟩ := rg_e h
  by_cases c39 : (gI s 784) = 8
  · have h := if_t c39 h
    obtain ⟨⟨r42, s41⟩, hc40, h⟩ := bn_e h
    have hF : F_x6_readVolume s s41 := Fr.tr hF (fr_x6_fail hc40) (by decide)
    exact J19 p1 s41 hF h
  · have h := if_f c39 h
    exact J19 p1 s hF h
abbrev F_x6_readBlocks (s o : MS) : Prop := Fr [100, 101, 107, 108, 109, 110, 111, 780, 781] [] [] [] s o
theorem fr_x6_readBlocks {s : MS} {o : MS} (h : m_x6_readBlocks s = some o) : F_x6_readBlocks s o := by
  have hF : F_x6_readBlocks s s := Fr.rf s
  unfold m_x6_readBlocks at h
  obtain ⟨s2, hc1, h⟩ := bn_e h
  have hF : F_x6_readBlocks s s2 := Fr.tr hF (fr_x6_advance hc1) (by decide)
  obtain ⟨⟨r5, s4⟩, hc3, h⟩ := bn_e h
  have hF : F_x6_readBlocks s s4 := Fr.tr hF (fr_x6_expectNumber hc3) (by decide)
  obtain ⟨s6, hs6, h⟩ := st_e h
  have hF : F_x6_readBlocks s s6 := hs6 ▸ Fr.uI hF (by decide)
  obtain ⟨s8, hc7, h⟩ := bn_e h
  have hF : F_x6_readBlocks s s8 := Fr.tr hF (fr_x6_expectWord hc7) (by decide)
  obtain ⟨⟨r11, s10⟩, hc9, h⟩ := bn_e h
  have hF : F_x6_readBlocks s s10 := Fr.tr hF (fr_x6_expectNumber hc9) (by decide)
  obtain ⟨s12, hs12, h⟩ := st_e h
  have hF : F_x6_readBlocks s s12 := hs12 ▸ Fr.uI hF (by decide)
  obtain rfl := Option.some.inj h
  exact hF
abbrev F_x6_beginFormula (s o : MS) : Prop := Fr [100, 101, 105, 107, 108, 109, 110, 111] [45] [] [] s o
theorem fr_x6_beginFormula {p1 : Int} {s : MS} {o : MS} (h : m_x6_beginFormula p1 s = some o) : F_x6_beginFormula s o := by
  have hF : F_x6_beginFormula s s := Fr.rf s
  unfold m_x6_beginFormula at h
  have J20 : ∀ (x1 : Int) (s2 : MS), F_x6_beginFormula s s2 → m_x6_beginFormula_J20 x1 s2 = some o → F_x6_beginFormula s o := by
    intro x1 s2 hF h
    unfold m_x6_beginFormula_J20 at h
    obtain ⟨s4, hc3, h⟩ := bn_e h
    have hF : F_x6_beginFormula s s4 := Fr.tr hF (fr_x6_advance hc3) (by decide)
    obtain ⟨s5, hs5, h⟩ := st_e h
    have hF : F_x6_beginFormula s s5 := hs5 ▸ Fr.uI hF (by decide)
    obtain ⟨he6, h⟩ := eqg_e h
    obtain ⟨hi7, h⟩ := inb_e h
    obtain ⟨s8, hs8, h⟩ := st_e h
    have hF : F_x6_beginFormula s s8 := hs8 ▸ Fr.uA hF (by decide)
    obtain rfl := Option.some.inj h
    exact hF
  obtain ⟨y9, ey9, iy9, h⟩ := rdI_e h
  obtain ⟨hr10, h⟩ := rg_e h
  by_cases c11 : y9 = (-1)
  · have h := if_t c11 h
    exact J20 p1 s hF h
  · have h := if_f c11 h
    obtain ⟨⟨r14, s13⟩, hc12, h⟩ := bn_e h
    have hF : F_x6_beginFormula s s13 := Fr.tr hF (fr_x6_fail hc12) (by decide)
    exact J20 p1 s13 hF h
abbrev F_x6_readStatement (s o : MS) : Prop := Fr [100, 101, 102, 103, 104, 105, 106, 107, 108, 109, 110, 111, 780, 781, 782, 783, 784, 785, 941] [40, 41, 42, 43, 44, 45, 46, 48] [] [] s o
theorem fr_x6_readStatement {s : MS} {o : MS} (h : m_x6_readStatement s = some o) : F_x6_readStatement s o := by
  have hF : F_x6_readStatement s s := Fr.rf s
  unfold m_x6_readStatement at h
  have J244 : ∀ (s1 : MS), F_x6_readStatement s s1 → m_x6_readStatement_J244 s1 = some o → F_x6_readStatement s o := by
    intro s1 hF h
    unfold m_x6_readStatement_J244 at h
    obtain ⟨s3, hc2, h⟩ := bn_e h
    have hF : F_x6_readStatement s s3 := Fr.tr hF (fr_x6_expectSign hc2) (by decide)
    obtain ⟨s4, hs4, h⟩ := st_e h
    have hF : F_x6_readStatement s s4 := hs4 ▸ Fr.uI hF (by decide)
    obtain rfl := Option.some.inj h
    exact hF
  have J234 : ∀ (s5 : MS), F_x6_readStatement s s5 → m_x6_readStatement_J234 s5 = some o → F_x6_readStatement s o := by
    intro s5 hF h
    unfold m_x6_readStatement_J234 at h
    obtain ⟨⟨r8, s7⟩, hc6, h⟩ := bn_e h
    have hF : F_x6_readStatement s s7 := Fr.tr hF (fr_x6_fail hc6) (by decide)
    exact J244 s7 hF h
  have J129 : ∀ (x9 : Int) (s10 : MS), F_x6_readStatement s s10 → m_x6_readStatement_J129 x9 s10 = some o → F_x6_readStatement s o := by
    intro x9 s10 hF h
    unfold m_x6_readStatement_J129 at h
    obtain ⟨s12, hc11, h⟩ := bn_e h
    have hF : F_x6_readStatement s s12 := Fr.tr hF (fr_x6_readChange hc11) (by decide)
    exact J244 s12 hF h
  have J120 : ∀ (x13 : Int) (s14 : MS), F_x6_readStatement s s14 → m_x6_readStatement_J120 x13 s14 = some o → F_x6_readStatement s o := by
    intro x13 s14 hF h
    unfold m_x6_readStatement_J120 at h
    obtain ⟨s16, hc15, h⟩ := bn_e h
    have hF : F_x6_readStatement s s16 := Fr.tr hF (fr_x6_readVolume hc15) (by decide)
    exact J244 s16 hF h
  have J40 : ∀ (x17 : Int) (x18 : Int) (x19 : Int) (s20 : MS), F_x6_readStatement s s20 → m_x6_readStatement_J40 x17 x18 x19 s20 = some o → F_x6_readStatement s o := by
    intro x17 x18 x19 s20 hF h
    unfold m_x6_readStatement_J40 at h
    obtain ⟨hr21, h⟩ := rg_e h
    obtain ⟨hr22, h⟩ := rg_e h
    by_cases c23 : x19 = x18
    · have h := if_t c23 h
      obtain ⟨hr24, h⟩ := rg_e h
      by_cases c25 : x17 = 0
      · have h := if_t c25 h
        obtain ⟨s27, hc26, h⟩ := bn_e h
        have hF : F_x6_readStatement s s27 := Fr.tr hF (fr_x6_readBlocks hc26) (by decide)
        exact J244 s27 hF h
      · have h := if_f c25 h
        by_cases c28 : x17 = 1
        · have h := if_t c28 h
          exact J234 s20 hF h
        · have h := if_f c28 h
          by_cases c29 : x17 = 2
          · have h := if_t c29 h
            exact J120 x17 s20 hF h
          · have h := if_f c29 h
            by_cases c30 : x17 = 3
            · have h := if_t c30 h
              exact J120 x17 s20 hF h
            · have h := if_f c30 h
              by_cases c31 : x17 = 4
              · have h := if_t c31 h
                exact J234 s20 hF h
              · have h := if_f c31 h
                by_cases c32 : x17 = 5
                · have h := if_t c32 h
                  exact J129 x17 s20 hF h
                · have h := if_f c32 h
                  by_cases c33 : x17 = 6
                  · have h := if_t c33 h
                    exact J129 x17 s20 hF h
                  · have h := if_f c33 h
                    by_cases c34 : x17 = 7
                    · have h := if_t c34 h
                      obtain ⟨s36, hc35, h⟩ := bn_e h
                      have hF : F_x6_readStatement s s36 := Fr.tr hF (fr_x6_beginFormula hc35) (by decide)
                      obtain ⟨s38, hc37, h⟩ := bn_e h
                      have hF : F_x6_readStatement s s38 := Fr.tr hF (fr_rg1.1 _ _ hc37) (by decide)
                      obtain ⟨he39, h⟩ := eqg_e h
                      obtain ⟨hi40, h⟩ := inb_e h
                      obtain ⟨s41, hs41, h⟩ := st_e h
                      have hF : F_x6_readStatement s s41 := hs41 ▸ Fr.uA hF (by decide)
                      exact J244 s41 hF h
                    · have h := if_f c34 h
                      by_cases c42 : x17 = 8
                      · have h := if_t c42 h
                        obtain ⟨s44, hc43, h⟩ := bn_e h
                        have hF : F_x6_readStatement s s44 := Fr.tr hF (fr_x6_beginFormula hc43) (by decide)
                        obtain ⟨s46, hc45, h⟩ := bn_e h
                        have hF : F_x6_readStatement s s46 := Fr.tr hF (fr_rg2.2 _ _ hc45) (by decide)
                        obtain ⟨he47, h⟩ := eqg_e h
                        obtain ⟨hi48, h⟩ := inb_e h
                        obtain ⟨s49, hs49, h⟩ := st_e h
                        have hF : F_x6_readStatement s s49 := hs49 ▸ Fr.uA hF (by decide)
                        exact J244 s49 hF h
                      · have h := if_f c42 h
                        by_cases c50 : x17 = 9
                        · have h := if_t c50 h
                          obtain ⟨s52, hc51, h⟩ := bn_e h
                          have hF : F_x6_readStatement s s52 := Fr.tr hF (fr_x6_beginFormula hc51) (by decide)
                          obtain ⟨s54, hc53, h⟩ := bn_e h
                          have hF : F_x6_readStatement s s54 := Fr.tr hF (fr_rg1.1 _ _ hc53) (by decide)
                          obtain ⟨he55, h⟩ := eqg_e h
                          obtain ⟨hi56, h⟩ := inb_e h
                          obtain ⟨s57, hs57, h⟩ := st_e h
                          have hF : F_x6_readStatement s s57 := hs57 ▸ Fr.uA hF (by decide)
                          exact J244 s57 hF h
                        · have h := if_f c50 h
                          by_cases c58 : x17 = 10
                          · have h := if_t c58 h
                            obtain ⟨s60, hc59, h⟩ := bn_e h
                            have hF : F_x6_readStatement s s60 := Fr.tr hF (fr_x6_advance hc59) (by decide)
                            obtain ⟨⟨r63, s62⟩, hc61, h⟩ := bn_e h
                            have hF : F_x6_readStatement s s62 := Fr.tr hF (fr_x6_expectNumber hc61) (by decide)
                            obtain ⟨s64, hs64, h⟩ := st_e h
                            have hF : F_x6_readStatement s s64 := hs64 ▸ Fr.uI hF (by decide)
                            exact J244 s64 hF h
                          · have h := if_f c58 h
                            exact J234 s20 hF h
    · have h := if_f c23 h
      obtain ⟨⟨r67, s66⟩, hc65, h⟩ := bn_e h
      have hF : F_x6_readStatement s s66 := Fr.tr hF (fr_x6_fail hc65) (by decide)
      obtain rfl := Option.some.inj h
      exact hF
  have J29 : ∀ (x68 : Int) (x69 : Int) (s70 : MS), F_x6_readStatement s s70 → m_x6_readStatement_J29 x68 x69 s70 = some o → F_x6_readStatement s o := by
    intro x68 x69 s70 hF h
    unfold m_x6_readStatement_J29 at h
    obtain ⟨hr71, h⟩ := rg_e h
    by_cases c72 : x68 = 0
    · have h := if_t c72 h
      exact J40 x68 1 x69 s70 hF h
    · have h := if_f c72 h
      exact J40 x68 0 x69 s70 hF h
  have J16 : ∀ (x73 : Int) (s74 : MS), F_x6_readStatement s s74 → m_x6_readStatement_J16 x73 s74 = some o → F_x6_readStatement s o := by
    intro x73 s74 hF h
    unfold m_x6_readStatement_J16 at h
    obtain ⟨hr75, h⟩ := rg_e h
    by_cases c76 : (gI s74 783) = 0
    · have h := if_t c76 h
      exact J29 x73 1 s74 hF h
    · have h := if_f c76 h
      exact J29 x73 0 s74 hF h
  obtain ⟨hr77, h⟩ := rg_e h
  by_cases c78 : (gI s 107) = 1
  · have h := if_t c78 h
    exact J16 (gI s 110) s hF h
  · have h := if_f c78 h
    exact J16 (-1) s hF h
