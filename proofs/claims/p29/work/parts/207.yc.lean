abbrev F_x5_clear (s o : MS) : Prop := Fr [782, 783, 784, 785, 941] [45, 46] [] [] s o
theorem fr_x5_clear {s : MS} {o : MS} (h : m_x5_clear s = some o) : F_x5_clear s o := by
  have hF : F_x5_clear s s := Fr.rf s
  unfold m_x5_clear at h
  have L30 : ∀ (n : Nat) (x1 : Int) (s2 : MS), F_x5_clear s s2 → m_x5_clear_L30 n x1 s2 = some o → F_x5_clear s o := by
    refine fr_ind (fun x1 s2 hF h => by cases h) ?_
    intro n30 ih30 x1 s2 hF h
    have h : m_x5_clear_b30 (m_x5_clear_L30 n30) x1 s2 = some o := h
    unfold m_x5_clear_b30 at h
    obtain ⟨hr3, h⟩ := rg_e h
    by_cases c4 : 3 ≤ x1
    · have h := if_t c4 h
      obtain rfl := Option.some.inj h
      exact hF
    · have h := if_f c4 h
      obtain ⟨hi5, h⟩ := inb_e h
      obtain ⟨s6, hs6, h⟩ := st_e h
      have hF : F_x5_clear s s6 := hs6 ▸ Fr.uA hF (by decide)
      obtain ⟨hi7, h⟩ := inb_e h
      obtain ⟨s8, hs8, h⟩ := st_e h
      have hF : F_x5_clear s s8 := hs8 ▸ Fr.uA hF (by decide)
      exact ih30 (x1 + 1) s8 hF h
  obtain ⟨s9, hs9, h⟩ := st_e h
  have hF : F_x5_clear s s9 := hs9 ▸ Fr.uI hF (by decide)
  obtain ⟨s10, hs10, h⟩ := st_e h
  have hF : F_x5_clear s s10 := hs10 ▸ Fr.uI hF (by decide)
  obtain ⟨s11, hs11, h⟩ := st_e h
  have hF : F_x5_clear s s11 := hs11 ▸ Fr.uI hF (by decide)
  obtain ⟨s12, hs12, h⟩ := st_e h
  have hF : F_x5_clear s s12 := hs12 ▸ Fr.uI hF (by decide)
  obtain ⟨s13, hs13, h⟩ := st_e h
  have hF : F_x5_clear s s13 := hs13 ▸ Fr.uI hF (by decide)
  exact L30 FU 0 s13 hF h
abbrev F_x6_readStore (s o : MS) : Prop := Fr [100, 101, 102, 103, 104, 105, 106, 107, 108, 109, 110, 111, 780, 781, 782, 783, 784, 785, 941, 9999] [40, 41, 42, 43, 44, 45, 46, 48] [] [] s o
theorem fr_x6_readStore {s : MS} {o : (Int × MS)} (h : m_x6_readStore s = some o) : F_x6_readStore s o.2 := by
  have hF : F_x6_readStore s s := Fr.rf s
  unfold m_x6_readStore at h
  have J87 : ∀ (x1 : Int) (s2 : MS), F_x6_readStore s s2 → m_x6_readStore_J87 x1 s2 = some o → F_x6_readStore s o.2 := by
    intro x1 s2 hF h
    unfold m_x6_readStore_J87 at h
    obtain ⟨hb3, h⟩ := bo_e h
    obtain rfl := Option.some.inj h
    exact hF
  have J75 : ∀ (s4 : MS), F_x6_readStore s s4 → m_x6_readStore_J75 s4 = some o → F_x6_readStore s o.2 := by
    intro s4 hF h
    unfold m_x6_readStore_J75 at h
    obtain ⟨hr5, h⟩ := rg_e h
    by_cases c6 : (gI s4 100) = 0
    · have h := if_t c6 h
      exact J87 1 s4 hF h
    · have h := if_f c6 h
      exact J87 0 s4 hF h
  have J38 : ∀ (s7 : MS), F_x6_readStore s s7 → m_x6_readStore_J38 s7 = some o → F_x6_readStore s o.2 := by
    intro s7 hF h
    unfold m_x6_readStore_J38 at h
    obtain ⟨hr8, h⟩ := rg_e h
    by_cases c9 : (gI s7 107) = 0
    · have h := if_t c9 h
      obtain ⟨hr10, h⟩ := rg_e h
      by_cases c11 : (gI s7 783) = 0
      · have h := if_t c11 h
        obtain ⟨⟨r14, s13⟩, hc12, h⟩ := bn_e h
        have hF : F_x6_readStore s s13 := Fr.tr hF (fr_x6_fail hc12) (by decide)
        exact J75 s13 hF h
      · have h := if_f c11 h
        exact J75 s7 hF h
    · have h := if_f c9 h
      obtain ⟨⟨r17, s16⟩, hc15, h⟩ := bn_e h
      have hF : F_x6_readStore s s16 := Fr.tr hF (fr_x6_fail hc15) (by decide)
      exact J75 s16 hF h
  have L14 : ∀ (n : Nat) (x18 : Int) (s19 : MS), F_x6_readStore s s19 → m_x6_readStore_L14 n x18 s19 = some o → F_x6_readStore s o.2 := by
    refine fr_ind (fun x18 s19 hF h => by cases h) ?_
    intro n14 ih14 x18 s19 hF h
    have h : m_x6_readStore_b14 (m_x6_readStore_L14 n14) x18 s19 = some o := h
    unfold m_x6_readStore_b14 at h
    obtain ⟨hr20, h⟩ := rg_e h
    by_cases c21 : 60 ≤ x18
    · have h := if_t c21 h
      exact J38 s19 hF h
    · have h := if_f c21 h
      obtain ⟨hr22, h⟩ := rg_e h
      by_cases c23 : (gI s19 107) = 0
      · have h := if_t c23 h
        exact J38 s19 hF h
      · have h := if_f c23 h
        obtain ⟨s25, hc24, h⟩ := bn_e h
        have hF : F_x6_readStore s s25 := Fr.tr hF (fr_x6_readStatement hc24) (by decide)
        exact ih14 (x18 + 1) s25 hF h
  obtain ⟨s27, hc26, h⟩ := bn_e h
  have hF : F_x6_readStore s s27 := Fr.tr hF (fr_x5_clear hc26) (by decide)
  obtain ⟨s29, hc28, h⟩ := bn_e h
  have hF : F_x6_readStore s s29 := Fr.tr hF (fr_x6_begin hc28) (by decide)
  exact L14 FU 0 s29 hF h
abbrev F_x12_feed (s o : MS) : Prop := Fr [1] [0, 9] [] [] s o
theorem fr_x12_feed {p0 : Int} {p1 : Int} {p2 : Int} {p3 : Int} {p4 : Int} {s : MS} {o : (Int × MS)} (h : m_x12_feed p0 p1 p2 p3 p4 s = some o) : F_x12_feed s o.2 := by
  have hF : F_x12_feed s s := Fr.rf s
  unfold m_x12_feed at h
  have L28 : ∀ (n : Nat) (x1 : Int) (x2 : Int) (x3 : Int) (x4 : Int) (x5 : Int) (x6 : Int) (s7 : MS), F_x12_feed s s7 → m_x12_feed_L28 n x1 x2 x3 x4 x5 x6 s7 = some o → F_x12_feed s o.2 := by
    refine fr_ind (fun x1 x2 x3 x4 x5 x6 s7 hF h => by cases h) ?_
    intro n28 ih28 x1 x2 x3 x4 x5 x6 s7 hF h
    have h : m_x12_feed_b28 (m_x12_feed_L28 n28) x1 x2 x3 x4 x5 x6 s7 = some o := h
    unfold m_x12_feed_b28 at h
    have J81 : ∀ (x8 : Int) (x9 : Int) (x10 : Int) (x11 : Int) (x12 : Int) (x13 : Int) (x14 : Int) (s15 : MS), F_x12_feed s s15 → m_x12_feed_J81 (m_x12_feed_L28 n28) x8 x9 x10 x11 x12 x13 x14 s15 = some o → F_x12_feed s o.2 := by
      intro x8 x9 x10 x11 x12 x13 x14 s15 hF h
      unfold m_x12_feed_J81 at h
      obtain ⟨hn16, h⟩ := dv_e h
      obtain ⟨hi17, h⟩ := inb_e h
      obtain ⟨s18, hs18, h⟩ := st_e h
      have hF : F_x12_feed s s18 := hs18 ▸ Fr.uA hF (by decide)
      obtain ⟨s19, hs19, h⟩ := st_e h
      have hF : F_x12_feed s s19 := hs19 ▸ Fr.uI hF (by decide)
      exact ih28 x8 x9 x10 x11 x12 (x13 + 1) s19 hF h
    obtain ⟨hr20, h⟩ := rg_e h
    by_cases c21 : 20 ≤ x6
    · have h := if_t c21 h
      obtain rfl := Option.some.inj h
      exact hF
    · have h := if_f c21 h
      obtain ⟨hr22, h⟩ := rg_e h
      by_cases c23 : 4 ≤ x6
      · have h := if_t c23 h
        obtain ⟨hr24, h⟩ := rg_e h
        by_cases c25 : 8 ≤ x6
        · have h := if_t c25 h
          obtain ⟨hr26, h⟩ := rg_e h
          by_cases c27 : 12 ≤ x6
          · have h := if_t c27 h
            obtain ⟨hr28, h⟩ := rg_e h
            by_cases c29 : 16 ≤ x6
            · have h := if_t c29 h
              exact J81 x1 x2 x3 x4 x5 x6 x5 s7 hF h
            · have h := if_f c29 h
              exact J81 x1 x2 x3 x4 x5 x6 x4 s7 hF h
          · have h := if_f c27 h
            exact J81 x1 x2 x3 x4 x5 x6 x3 s7 hF h
        · have h := if_f c25 h
          exact J81 x1 x2 x3 x4 x5 x6 x2 s7 hF h
      · have h := if_f c23 h
        exact J81 x1 x2 x3 x4 x5 x6 x1 s7 hF h
  obtain ⟨hr30, h⟩ := rg_e h
  by_cases c31 : ((gI s 1) + 20) ≤ 1600
  · have h := if_t c31 h
    exact L28 FU p0 p1 p2 p3 p4 0 s hF h
  · have h := if_f c31 h
    obtain ⟨y32, ey32, iy32, h⟩ := rdI_e h
    obtain ⟨hi33, h⟩ := inb_e h
    obtain ⟨s34, hs34, h⟩ := st_e h
    have hF : F_x12_feed s s34 := hs34 ▸ Fr.uA hF (by decide)
    obtain rfl := Option.some.inj h
    exact hF
abbrev F_x12_end (s o : MS) : Prop := Fr [1] [9] [] [] s o
theorem fr_x12_end {p0 : Int} {s : MS} {o : (Int × MS)} (h : m_x12_end p0 s = some o) : F_x12_end s o.2 := by
  have hF : F_x12_end s s := Fr.rf s
  unfold m_x12_end at h
  have J12 : ∀ (s1 : MS), F_x12_end s s1 → m_x12_end_J12 s1 = some o → F_x12_end s o.2 := by
    intro s1 hF h
    unfold m_x12_end_J12 at h
    obtain ⟨y2, ey2, iy2, h⟩ := rdI_e h
    obtain ⟨hi3, h⟩ := inb_e h
    obtain ⟨s4, hs4, h⟩ := st_e h
    have hF : F_x12_end s s4 := hs4 ▸ Fr.uA hF (by decide)
    obtain rfl := Option.some.inj h
    exact hF
  obtain ⟨hr5, h⟩ := rg_e h
  by_cases c6 : p0 < 0
  · have h := if_t c6 h
    exact J12 s hF h
  · have h := if_f c6 h
    obtain ⟨hr7, h⟩ := rg_e h
    obtain ⟨hr8, h⟩ := rg_e h
    by_cases c9 : p0 ≤ (gI s 1)
    · have h := if_t c9 h
      obtain ⟨s10, hs10, h⟩ := st_e h
      have hF : F_x12_end s s10 := hs10 ▸ Fr.uI hF (by decide)
      obtain rfl := Option.some.inj h
      exact hF
    · have h := if_f c9 h
      exact J12 s hF h
abbrev F_x12_fail (s o : MS) : Prop := Fr [5, 6] [] [] [] s o
theorem fr_x12_fail {p0 : Int} {p1 : Int} {s : MS} {o : MS} (h : m_x12_fail p0 p1 s = some o) : F_x12_fail s o := by
  have hF : F_x12_fail s s := Fr.rf s
  unfold m_x12_fail at h
  obtain ⟨hr1, h⟩ := rg_e h
  by_cases c2 : (gI s 5) = 0
  · have h := if_t c2 h
    obtain ⟨s3, hs3, h⟩ := st_e h
    have hF : F_x12_fail s s3 := hs3 ▸ Fr.uI hF (by decide)
    obtain ⟨s4, hs4, h⟩ := st_e h
    have hF : F_x12_fail s s4 := hs4 ▸ Fr.uI hF (by decide)
    obtain rfl := Option.some.inj h
    exact hF
  · have h := if_f c2 h
    obtain rfl := Option.some.inj h
    exact hF
abbrev F_x12_look (s o : MS) : Prop := Fr [2] [] [] [] s o
theorem fr_x12_look {s : MS} {o : (Int × MS)} (h : m_x12_look s = some o) : F_x12_look s o.2 := by
  have hF : F_x12_look s s := Fr.rf s
  unfold m_x12_look at h
  have J76 : ∀ (x1 : Int) (s2 : MS), F_x12_look s s2 → m_x12_look_J76 x1 s2 = some o → F_x12_look s o.2 := by
    intro x1 s2 hF h
    unfold m_x12_look_J76 at h
    obtain rfl := Option.some.inj h
    exact hF
  have J52 : ∀ (s3 : MS), F_x12_look s s3 → m_x12_look_J52 s3 = some o → F_x12_look s o.2 := by
    intro s3 hF h
    unfold m_x12_look_J52 at h
    obtain ⟨hr4, h⟩ := rg_e h
    obtain ⟨hr5, h⟩ := rg_e h
    by_cases c6 : (gI s3 3) ≤ (gI s3 2)
    · have h := if_t c6 h
      exact J76 (-1) s3 hF h
    · have h := if_f c6 h
      obtain ⟨y7, ey7, iy7, h⟩ := rdI_e h
      exact J76 y7 s3 hF h
  have L0 : ∀ (n : Nat) (s8 : MS), F_x12_look s s8 → m_x12_look_L0 n s8 = some o → F_x12_look s o.2 := by
    refine fr_ind (fun s8 hF h => by cases h) ?_
    intro n0 ih0 s8 hF h
    have h : m_x12_look_b0 (m_x12_look_L0 n0) s8 = some o := h
    unfold m_x12_look_b0 at h
    have J39 : ∀ (s9 : MS), F_x12_look s s9 → m_x12_look_J39 (m_x12_look_L0 n0) s9 = some o → F_x12_look s o.2 := by
      intro s9 hF h
      unfold m_x12_look_J39 at h
      obtain ⟨s10, hs10, h⟩ := st_e h
      have hF : F_x12_look s s10 := hs10 ▸ Fr.uI hF (by decide)
      exact ih0 s10 hF h
    obtain ⟨hr11, h⟩ := rg_e h
    obtain ⟨hr12, h⟩ := rg_e h
    by_cases c13 : (gI s8 3) ≤ (gI s8 2)
    · have h := if_t c13 h
      exact J52 s8 hF h
    · have h := if_f c13 h
      obtain ⟨y14, ey14, iy14, h⟩ := rdI_e h
      obtain ⟨hr15, h⟩ := rg_e h
      by_cases c16 : y14 = 10
      · have h := if_t c16 h
        exact J39 s8 hF h
      · have h := if_f c16 h
        obtain ⟨y17, ey17, iy17, h⟩ := rdI_e h
        obtain ⟨hr18, h⟩ := rg_e h
        by_cases c19 : y17 = 32
        · have h := if_t c19 h
          exact J39 s8 hF h
        · have h := if_f c19 h
          exact J52 s8 hF h
  exact L0 FU s hF h
abbrev F_x12_isHere (s o : MS) : Prop := Fr [2] [] [] [] s o
theorem fr_x12_isHere {wid wn : Nat} {s : MS} {o : (Int × MS)} (h : m_x12_isHere wid wn s = some o) : F_x12_isHere s o.2 := by
  have hF : F_x12_isHere s s := Fr.rf s
  unfold m_x12_isHere at h
  have L76 : ∀ (n : Nat) (x1 : Int) (s2 : MS), F_x12_isHere s s2 → m_x12_isHere_L76 wid wn n x1 s2 = some o → F_x12_isHere s o.2 := by
    refine fr_ind (fun x1 s2 hF h => by cases h) ?_
    intro n76 ih76 x1 s2 hF h
    have h : m_x12_isHere_b76 wid wn (m_x12_isHere_L76 wid wn n76) x1 s2 = some o := h
    unfold m_x12_isHere_b76 at h
    obtain ⟨hr3, h⟩ := rg_e h
    obtain ⟨hr4, h⟩ := rg_e h
    by_cases c5 : (wn : Int) ≤ x1
    · have h := if_t c5 h
      obtain rfl := Option.some.inj h
      exact hF
    · have h := if_f c5 h
      obtain ⟨y6, ey6, iy6, h⟩ := rdI_e h
      obtain ⟨y7, ey7, iy7, h⟩ := rdI_e h
      obtain ⟨hr8, h⟩ := rg_e h
      obtain ⟨hr9, h⟩ := rg_e h
      by_cases c10 : y6 = y7
      · have h := if_t c10 h
        exact ih76 (x1 + 1) s2 hF h
      · have h := if_f c10 h
        obtain rfl := Option.some.inj h
        exact hF
  have J61 : ∀ (x11 : Int) (s12 : MS), F_x12_isHere s s12 → m_x12_isHere_J61 wid wn x11 s12 = some o → F_x12_isHere s o.2 := by
    intro x11 s12 hF h
    unfold m_x12_isHere_J61 at h
    obtain ⟨hr13, h⟩ := rg_e h
    obtain ⟨hr14, h⟩ := rg_e h
    by_cases c15 : (x11 - (gI s12 2)) = (wn : Int)
    · have h := if_t c15 h
      exact L76 FU 0 s12 hF h
    · have h := if_f c15 h
      obtain rfl := Option.some.inj h
      exact hF
  have L35 : ∀ (n : Nat) (x16 : Int) (s17 : MS), F_x12_isHere s s17 → m_x12_isHere_L35 wid wn n x16 s17 = some o → F_x12_isHere s o.2 := by
    refine fr_ind (fun x16 s17 hF h => by cases h) ?_
    intro n35 ih35 x16 s17 hF h
    have h : m_x12_isHere_b35 wid wn (m_x12_isHere_L35 wid wn n35) x16 s17 = some o := h
    unfold m_x12_isHere_b35 at h
    obtain ⟨hr18, h⟩ := rg_e h
    obtain ⟨hr19, h⟩ := rg_e h
    by_cases c20 : (gI s17 3) ≤ x16
    · have h := if_t c20 h
      exact J61 x16 s17 hF h
    · have h := if_f c20 h
      obtain ⟨y21, ey21, iy21, h⟩ := rdI_e h
      obtain ⟨r23, hc22, h⟩ := bn_e h
      obtain ⟨hr24, h⟩ := rg_e h
      by_cases c25 : r23 = 0
      · have h := if_t c25 h
        exact J61 x16 s17 hF h
      · have h := if_f c25 h
        exact ih35 (x16 + 1) s17 hF h
  have J28 : ∀ (s26 : MS), F_x12_isHere s s26 → m_x12_isHere_J28 wid wn s26 = some o → F_x12_isHere s o.2 := by
    intro s26 hF h
    unfold m_x12_isHere_J28 at h
    obtain rfl := Option.some.inj h
    exact hF
  obtain ⟨hr27, h⟩ := rg_e h
  by_cases c28 : (gI s 5) = 0
  · have h := if_t c28 h
    obtain ⟨⟨r31, s30⟩, hc29, h⟩ := bn_e h
    have hF : F_x12_isHere s s30 := Fr.tr hF (fr_x12_look hc29) (by decide)
    obtain ⟨r33, hc32, h⟩ := bn_e h
    obtain ⟨hr34, h⟩ := rg_e h
    by_cases c35 : r33 = 0
    · have h := if_t c35 h
      exact J28 s30 hF h
    · have h := if_f c35 h
      obtain ⟨hr36, h⟩ := rg_e h
      obtain ⟨hr37, h⟩ := rg_e h
      by_cases c38 : (gI s30 2) = (gI s30 4)
      · have h := if_t c38 h
        exact J28 s30 hF h
      · have h := if_f c38 h
        exact L35 FU (gI s30 2) s30 hF h
  · have h := if_f c28 h
    exact J28 s hF h
abbrev F_x12_takes (s o : MS) : Prop := Fr [2, 4] [] [] [] s o
theorem fr_x12_takes {wid wn : Nat} {s : MS} {o : (Int × MS)} (h : m_x12_takes wid wn s = some o) : F_x12_takes s o.2 := by
  have hF : F_x12_takes s s := Fr.rf s
  unfold m_x12_takes at h
  obtain ⟨⟨r3, s2⟩, hc1, h⟩ := bn_e h
  have hF : F_x12_takes s s2 := Fr.tr hF (fr_x12_isHere hc1) (by decide)
  obtain ⟨hr4, h⟩ := rg_e h
  by_cases c5 : r3 = 0
  · have h := if_t c5 h
    obtain rfl := Option.some.inj h
    exact hF
  · have h := if_f c5 h
    obtain ⟨s6, hs6, h⟩ := st_e h
    have hF : F_x12_takes s s6 := hs6 ▸ Fr.uI hF (by decide)
    obtain ⟨s7, hs7, h⟩ := st_e h
    have hF : F_x12_takes s s7 := hs7 ▸ Fr.uI hF (by decide)
    obtain rfl := Option.some.inj h
    exact hF
abbrev F_x12_asks (s o : MS) : Prop := Fr [2, 4, 5, 6] [] [] [] s o
theorem fr_x12_asks {wid wn : Nat} {s : MS} {o : MS} (h : m_x12_asks wid wn s = some o) : F_x12_asks s o := by
  have hF : F_x12_asks s s := Fr.rf s
  unfold m_x12_asks at h
  have J24 : ∀ (s1 : MS), F_x12_asks s s1 → m_x12_asks_J24 wid wn s1 = some o → F_x12_asks s o := by
    intro s1 hF h
    unfold m_x12_asks_J24 at h
    obtain rfl := Option.some.inj h
    exact hF
  obtain ⟨hr2, h⟩ := rg_e h
  by_cases c3 : (gI s 5) = 0
  · have h := if_t c3 h
    obtain ⟨⟨r6, s5⟩, hc4, h⟩ := bn_e h
    have hF : F_x12_asks s s5 := Fr.tr hF (fr_x12_takes hc4) (by decide)
    obtain ⟨hr7, h⟩ := rg_e h
    by_cases c8 : r6 = 0
    · have h := if_t c8 h
      obtain ⟨s10, hc9, h⟩ := bn_e h
      have hF : F_x12_asks s s10 := Fr.tr hF (fr_x12_fail hc9) (by decide)
      exact J24 s10 hF h
    · have h := if_f c8 h
      exact J24 s5 hF h
  · have h := if_f c3 h
    exact J24 s hF h
abbrev F_x12_takesSign (s o : MS) : Prop := Fr [2] [] [] [] s o
theorem fr_x12_takesSign {p0 : Int} {s : MS} {o : (Int × MS)} (h : m_x12_takesSign p0 s = some o) : F_x12_takesSign s o.2 := by
  have hF : F_x12_takesSign s s := Fr.rf s
  unfold m_x12_takesSign at h
  have J15 : ∀ (s1 : MS), F_x12_takesSign s s1 → m_x12_takesSign_J15 s1 = some o → F_x12_takesSign s o.2 := by
    intro s1 hF h
    unfold m_x12_takesSign_J15 at h
    obtain rfl := Option.some.inj h
    exact hF
  obtain ⟨hr2, h⟩ := rg_e h
  by_cases c3 : (gI s 5) = 0
  · have h := if_t c3 h
    obtain ⟨⟨r6, s5⟩, hc4, h⟩ := bn_e h
    have hF : F_x12_takesSign s s5 := Fr.tr hF (fr_x12_look hc4) (by decide)
    obtain ⟨hr7, h⟩ := rg_e h
    obtain ⟨hr8, h⟩ := rg_e h
    by_cases c9 : r6 = p0
    · have h := if_t c9 h
      obtain ⟨s10, hs10, h⟩ := st_e h
      have hF : F_x12_takesSign s s10 := hs10 ▸ Fr.uI hF (by decide)
      obtain rfl := Option.some.inj h
      exact hF
    · have h := if_f c9 h
      exact J15 s5 hF h
  · have h := if_f c3 h
    exact J15 s hF h
abbrev F_x12_asksSign (s o : MS) : Prop := Fr [2, 5, 6] [] [] [] s o
theorem fr_x12_asksSign {p0 : Int} {s : MS} {o : MS} (h : m_x12_asksSign p0 s = some o) : F_x12_asksSign s o := by
  have hF : F_x12_asksSign s s := Fr.rf s
  unfold m_x12_asksSign at h
  have J24 : ∀ (s1 : MS), F_x12_asksSign s s1 → m_x12_asksSign_J24 s1 = some o → F_x12_asksSign s o := by
    intro s1 hF h
    unfold m_x12_asksSign_J24 at h
    obtain rfl := Option.some.inj h
    exact hF
  obtain ⟨hr2, h⟩ := rg_e h
  by_cases c3 : (gI s 5) = 0
  · have h := if_t c3 h
    obtain ⟨⟨r6, s5⟩, hc4, h⟩ := bn_e h
    have hF : F_x12_asksSign s s5 := Fr.tr hF (fr_x12_takesSign hc4) (by decide)
    obtain ⟨hr7, h⟩ := rg_e h
    by_cases c8 : r6 = 0
    · have h := if_t c8 h
      obtain ⟨s10, hc9, h⟩ := bn_e h
      have hF : F_x12_asksSign s s10 := Fr.tr hF (fr_x12_fail hc9) (by decide)
      exact J24 s10 hF h
    · have h := if_f c8 h
      exact J24 s5 hF h
  · have h := if_f c3 h
    exact J24 s hF h
abbrev F_x12_number (s o : MS) : Prop := Fr [2, 4, 5, 6, 10] [] [] [] s o
theorem fr_x12_number {p0 : Int} {p1 : Int} {s : MS} {o : (Int × MS)} (h : m_x12_number p0 p1 s = some o) : F_x12_number s o.2 := by
  have hF : F_x12_number s s := Fr.rf s
  unfold m_x12_number at h
  have J164 : ∀ (x1 : Int) (s2 : MS), F_x12_number s s2 → m_x12_number_J164 x1 s2 = some o → F_x12_number s o.2 := by
    intro x1 s2 hF h
    unfold m_x12_number_J164 at h
    obtain rfl := Option.some.inj h
    exact hF
  have J129 : ∀ (x3 : Int) (x4 : Int) (x5 : Int) (x6 : Int) (s7 : MS), F_x12_number s s7 → m_x12_number_J129 x3 x4 x5 x6 s7 = some o → F_x12_number s o.2 := by
    intro x3 x4 x5 x6 s7 hF h
    unfold m_x12_number_J129 at h
    obtain ⟨s8, hs8, h⟩ := st_e h
    have hF : F_x12_number s s8 := hs8 ▸ Fr.uI hF (by decide)
    obtain ⟨s9, hs9, h⟩ := st_e h
    have hF : F_x12_number s s9 := hs9 ▸ Fr.uI hF (by decide)
    obtain ⟨hr10, h⟩ := rg_e h
    obtain ⟨hr11, h⟩ := rg_e h
    obtain ⟨hr12, h⟩ := rg_e h
    obtain ⟨r14, hc13, h⟩ := bn_e h
    obtain ⟨hr15, h⟩ := rg_e h
    by_cases c16 : r14 = 0
    · have h := if_t c16 h
      obtain ⟨s18, hc17, h⟩ := bn_e h
      have hF : F_x12_number s s18 := Fr.tr hF (fr_x12_fail hc17) (by decide)
      exact J164 x6 s18 hF h
    · have h := if_f c16 h
      exact J164 x6 s9 hF h
  have L49 : ∀ (n : Nat) (x19 : Int) (x20 : Int) (x21 : Int) (x22 : Int) (s23 : MS), F_x12_number s s23 → m_x12_number_L49 n x19 x20 x21 x22 s23 = some o → F_x12_number s o.2 := by
    refine fr_ind (fun x19 x20 x21 x22 s23 hF h => by cases h) ?_
    intro n49 ih49 x19 x20 x21 x22 s23 hF h
    have h : m_x12_number_b49 (m_x12_number_L49 n49) x19 x20 x21 x22 s23 = some o := h
    unfold m_x12_number_b49 at h
    obtain ⟨hr24, h⟩ := rg_e h
    obtain ⟨hr25, h⟩ := rg_e h
    by_cases c26 : (gI s23 3) ≤ (gI s23 2)
    · have h := if_t c26 h
      exact J129 x19 x20 x21 x22 s23 hF h
    · have h := if_f c26 h
      obtain ⟨y27, ey27, iy27, h⟩ := rdI_e h
      obtain ⟨r29, hc28, h⟩ := bn_e h
      obtain ⟨hr30, h⟩ := rg_e h
      by_cases c31 : r29 = 0
      · have h := if_t c31 h
        exact J129 x19 x20 x21 x22 s23 hF h
      · have h := if_f c31 h
        obtain ⟨hr32, h⟩ := rg_e h
        by_cases c33 : ((gI s23 2) - x21) = 4
        · have h := if_t c33 h
          obtain ⟨s37, hc36, h⟩ := bn_e h
          have hF : F_x12_number s s37 := Fr.tr hF (fr_x12_fail hc36) (by decide)
          obtain rfl := Option.some.inj h
          exact hF
        · have h := if_f c33 h
          obtain ⟨y34, ey34, iy34, h⟩ := rdI_e h
          obtain ⟨s35, hs35, h⟩ := st_e h
          have hF : F_x12_number s s35 := hs35 ▸ Fr.uI hF (by decide)
          exact ih49 x19 x20 x21 (((10 * x22) + y34) - 48) s35 hF h
  have J30 : ∀ (s38 : MS), F_x12_number s s38 → m_x12_number_J30 s38 = some o → F_x12_number s o.2 := by
    intro s38 hF h
    unfold m_x12_number_J30 at h
    obtain ⟨s40, hc39, h⟩ := bn_e h
    have hF : F_x12_number s s40 := Fr.tr hF (fr_x12_fail hc39) (by decide)
    obtain rfl := Option.some.inj h
    exact hF
  obtain ⟨hr41, h⟩ := rg_e h
  by_cases c42 : (gI s 5) = 0
  · have h := if_t c42 h
    obtain ⟨⟨r45, s44⟩, hc43, h⟩ := bn_e h
    have hF : F_x12_number s s44 := Fr.tr hF (fr_x12_look hc43) (by decide)
    obtain ⟨r47, hc46, h⟩ := bn_e h
    obtain ⟨hr48, h⟩ := rg_e h
    by_cases c49 : r47 = 0
    · have h := if_t c49 h
      exact J30 s44 hF h
    · have h := if_f c49 h
      obtain ⟨hr50, h⟩ := rg_e h
      obtain ⟨hr51, h⟩ := rg_e h
      by_cases c52 : (gI s44 2) = (gI s44 4)
      · have h := if_t c52 h
        exact J30 s44 hF h
      · have h := if_f c52 h
        exact L49 FU p0 p1 (gI s44 2) 0 s44 hF h
  · have h := if_f c42 h
    obtain rfl := Option.some.inj h
    exact hF
abbrev F_x12_isOwnHere (s o : MS) : Prop := Fr [2] [] [] [] s o
theorem fr_x12_isOwnHere {s : MS} {o : (Int × MS)} (h : m_x12_isOwnHere s = some o) : F_x12_isOwnHere s o.2 := by
  have hF : F_x12_isOwnHere s s := Fr.rf s
  unfold m_x12_isOwnHere at h
  have J342 : ∀ (x1 : Int) (s2 : MS), F_x12_isOwnHere s s2 → m_x12_isOwnHere_J342 x1 s2 = some o → F_x12_isOwnHere s o.2 := by
    intro x1 s2 hF h
    unfold m_x12_isOwnHere_J342 at h
    obtain ⟨hb3, h⟩ := bo_e h
    obtain rfl := Option.some.inj h
    exact hF
  have J337 : ∀ (s4 : MS), F_x12_isOwnHere s s4 → m_x12_isOwnHere_J337 s4 = some o → F_x12_isOwnHere s o.2 := by
    intro s4 hF h
    unfold m_x12_isOwnHere_J337 at h
    exact J342 1 s4 hF h
  have J299 : ∀ (x5 : Int) (s6 : MS), F_x12_isOwnHere s s6 → m_x12_isOwnHere_J299 x5 s6 = some o → F_x12_isOwnHere s o.2 := by
    intro x5 s6 hF h
    unfold m_x12_isOwnHere_J299 at h
    obtain ⟨hr7, h⟩ := rg_e h
    by_cases c8 : x5 = 0
    · have h := if_t c8 h
      obtain ⟨⟨r11, s10⟩, hc9, h⟩ := bn_e h
      have hF : F_x12_isOwnHere s s10 := Fr.tr hF (fr_x12_isHere hc9) (by decide)
      obtain ⟨hr12, h⟩ := rg_e h
      by_cases c13 : r11 = 0
      · have h := if_t c13 h
        obtain ⟨⟨r16, s15⟩, hc14, h⟩ := bn_e h
        have hF : F_x12_isOwnHere s s15 := Fr.tr hF (fr_x12_isHere hc14) (by decide)
        obtain ⟨hr17, h⟩ := rg_e h
        by_cases c18 : r16 = 0
        · have h := if_t c18 h
          obtain ⟨⟨r21, s20⟩, hc19, h⟩ := bn_e h
          have hF : F_x12_isOwnHere s s20 := Fr.tr hF (fr_x12_isHere hc19) (by decide)
          obtain ⟨hr22, h⟩ := rg_e h
          by_cases c23 : r21 = 0
          · have h := if_t c23 h
            exact J342 0 s20 hF h
          · have h := if_f c23 h
            exact J337 s20 hF h
        · have h := if_f c18 h
          exact J337 s15 hF h
      · have h := if_f c13 h
        exact J337 s10 hF h
    · have h := if_f c8 h
      exact J337 s6 hF h
  have J294 : ∀ (s24 : MS), F_x12_isOwnHere s s24 → m_x12_isOwnHere_J294 s24 = some o → F_x12_isOwnHere s o.2 := by
    intro s24 hF h
    unfold m_x12_isOwnHere_J294 at h
    exact J299 1 s24 hF h
  have J223 : ∀ (x25 : Int) (s26 : MS), F_x12_isOwnHere s s26 → m_x12_isOwnHere_J223 x25 s26 = some o → F_x12_isOwnHere s o.2 := by
    intro x25 s26 hF h
    unfold m_x12_isOwnHere_J223 at h
    obtain ⟨hr27, h⟩ := rg_e h
    by_cases c28 : x25 = 0
    · have h := if_t c28 h
      obtain ⟨⟨r31, s30⟩, hc29, h⟩ := bn_e h
      have hF : F_x12_isOwnHere s s30 := Fr.tr hF (fr_x12_isHere hc29) (by decide)
      obtain ⟨hr32, h⟩ := rg_e h
      by_cases c33 : r31 = 0
      · have h := if_t c33 h
        obtain ⟨⟨r36, s35⟩, hc34, h⟩ := bn_e h
        have hF : F_x12_isOwnHere s s35 := Fr.tr hF (fr_x12_isHere hc34) (by decide)
        obtain ⟨hr37, h⟩ := rg_e h
        by_cases c38 : r36 = 0
        · have h := if_t c38 h
          obtain ⟨⟨r41, s40⟩, hc39, h⟩ := bn_e h
          have hF : F_x12_isOwnHere s s40 := Fr.tr hF (fr_x12_isHere hc39) (by decide)
          obtain ⟨hr42, h⟩ := rg_e h
          by_cases c43 : r41 = 0
          · have h := if_t c43 h
            obtain ⟨⟨r46, s45⟩, hc44, h⟩ := bn_e h
            have hF : F_x12_isOwnHere s s45 := Fr.tr hF (fr_x12_isHere hc44) (by decide)
            obtain ⟨hr47, h⟩ := rg_e h
            by_cases c48 : r46 = 0
            · have h := if_t c48 h
              obtain ⟨⟨r51, s50⟩, hc49, h⟩ := bn_e h
              have hF : F_x12_isOwnHere s s50 := Fr.tr hF (fr_x12_isHere hc49) (by decide)
              obtain ⟨hr52, h⟩ := rg_e h
              by_cases c53 : r51 = 0
              · have h := if_t c53 h
                obtain ⟨⟨r56, s55⟩, hc54, h⟩ := bn_e h
                have hF : F_x12_isOwnHere s s55 := Fr.tr hF (fr_x12_isHere hc54) (by decide)
                obtain ⟨hr57, h⟩ := rg_e h
                by_cases c58 : r56 = 0
                · have h := if_t c58 h
                  exact J299 0 s55 hF h
                · have h := if_f c58 h
                  exact J294 s55 hF h
              · have h := if_f c53 h
                exact J294 s50 hF h
            · have h := if_f c48 h
              exact J294 s45 hF h
          · have h := if_f c43 h
            exact J294 s40 hF h
        · have h := if_f c38 h
          exact J294 s35 hF h
      · have h := if_f c33 h
        exact J294 s30 hF h
    · have h := if_f c28 h
      exact J294 s26 hF h
  have J218 : ∀ (s59 : MS), F_x12_isOwnHere s s59 → m_x12_isOwnHere_J218 s59 = some o → F_x12_isOwnHere s o.2 := by
    intro s59 hF h
    unfold m_x12_isOwnHere_J218 at h
    exact J223 1 s59 hF h
  have J147 : ∀ (x60 : Int) (s61 : MS), F_x12_isOwnHere s s61 → m_x12_isOwnHere_J147 x60 s61 = some o → F_x12_isOwnHere s o.2 := by
    intro x60 s61 hF h
    unfold m_x12_isOwnHere_J147 at h
    obtain ⟨hr62, h⟩ := rg_e h
    by_cases c63 : x60 = 0
    · have h := if_t c63 h
      obtain ⟨⟨r66, s65⟩, hc64, h⟩ := bn_e h
      have hF : F_x12_isOwnHere s s65 := Fr.tr hF (fr_x12_isHere hc64) (by decide)
      obtain ⟨hr67, h⟩ := rg_e h
      by_cases c68 : r66 = 0
      · have h := if_t c68 h
        obtain ⟨⟨r71, s70⟩, hc69, h⟩ := bn_e h
        have hF : F_x12_isOwnHere s s70 := Fr.tr hF (fr_x12_isHere hc69) (by decide)
        obtain ⟨hr72, h⟩ := rg_e h
        by_cases c73 : r71 = 0
        · have h := if_t c73 h
          obtain ⟨⟨r76, s75⟩, hc74, h⟩ := bn_e h
          have hF : F_x12_isOwnHere s s75 := Fr.tr hF (fr_x12_isHere hc74) (by decide)
          obtain ⟨hr77, h⟩ := rg_e h
          by_cases c78 : r76 = 0
          · have h := if_t c78 h
            obtain ⟨⟨r81, s80⟩, hc79, h⟩ := bn_e h
            have hF : F_x12_isOwnHere s s80 := Fr.tr hF (fr_x12_isHere hc79) (by decide)
            obtain ⟨hr82, h⟩ := rg_e h
            by_cases c83 : r81 = 0
            · have h := if_t c83 h
              obtain ⟨⟨r86, s85⟩, hc84, h⟩ := bn_e h
              have hF : F_x12_isOwnHere s s85 := Fr.tr hF (fr_x12_isHere hc84) (by decide)
              obtain ⟨hr87, h⟩ := rg_e h
              by_cases c88 : r86 = 0
              · have h := if_t c88 h
                obtain ⟨⟨r91, s90⟩, hc89, h⟩ := bn_e h
                have hF : F_x12_isOwnHere s s90 := Fr.tr hF (fr_x12_isHere hc89) (by decide)
                obtain ⟨hr92, h⟩ := rg_e h
                by_cases c93 : r91 = 0
                · have h := if_t c93 h
                  exact J223 0 s90 hF h
                · have h := if_f c93 h
                  exact J218 s90 hF h
              · have h := if_f c88 h
                exact J218 s85 hF h
            · have h := if_f c83 h
              exact J218 s80 hF h
          · have h := if_f c78 h
            exact J218 s75 hF h
        · have h := if_f c73 h
          exact J218 s70 hF h
      · have h := if_f c68 h
        exact J218 s65 hF h
    · have h := if_f c63 h
      exact J218 s61 hF h
  have J142 : ∀ (s94 : MS), F_x12_isOwnHere s s94 → m_x12_isOwnHere_J142 s94 = some o → F_x12_isOwnHere s o.2 := by
    intro s94 hF h
    unfold m_x12_isOwnHere_J142 at h
    exact J147 1 s94 hF h
  have J71 : ∀ (x95 : Int) (s96 : MS), F_x12_isOwnHere s s96 → m_x12_isOwnHere_J71 x95 s96 = some o → F_x12_isOwnHere s o.2 := by
    intro x95 s96 hF h
    unfold m_x12_isOwnHere_J71 at h
    obtain ⟨hr97, h⟩ := rg_e h
    by_cases c98 : x95 = 0
    · have h := if_t c98 h
      obtain ⟨⟨r101, s100⟩, hc99, h⟩ := bn_e h
      have hF : F_x12_isOwnHere s s100 := Fr.tr hF (fr_x12_isHere hc99) (by decide)
      obtain ⟨hr102, h⟩ := rg_e h
      by_cases c103 : r101 = 0
      · have h := if_t c103 h
        obtain ⟨⟨r106, s105⟩, hc104, h⟩ := bn_e h
        have hF : F_x12_isOwnHere s s105 := Fr.tr hF (fr_x12_isHere hc104) (by decide)
        obtain ⟨hr107, h⟩ := rg_e h
        by_cases c108 : r106 = 0
        · have h := if_t c108 h
          obtain ⟨⟨r111, s110⟩, hc109, h⟩ := bn_e h
          have hF : F_x12_isOwnHere s s110 := Fr.tr hF (fr_x12_isHere hc109) (by decide)
          obtain ⟨hr112, h⟩ := rg_e h
          by_cases c113 : r111 = 0
          · have h := if_t c113 h
            obtain ⟨⟨r116, s115⟩, hc114, h⟩ := bn_e h
            have hF : F_x12_isOwnHere s s115 := Fr.tr hF (fr_x12_isHere hc114) (by decide)
            obtain ⟨hr117, h⟩ := rg_e h
            by_cases c118 : r116 = 0
            · have h := if_t c118 h
              obtain ⟨⟨r121, s120⟩, hc119, h⟩ := bn_e h
              have hF : F_x12_isOwnHere s s120 := Fr.tr hF (fr_x12_isHere hc119) (by decide)
              obtain ⟨hr122, h⟩ := rg_e h
              by_cases c123 : r121 = 0
              · have h := if_t c123 h
                obtain ⟨⟨r126, s125⟩, hc124, h⟩ := bn_e h
                have hF : F_x12_isOwnHere s s125 := Fr.tr hF (fr_x12_isHere hc124) (by decide)
                obtain ⟨hr127, h⟩ := rg_e h
                by_cases c128 : r126 = 0
                · have h := if_t c128 h
                  exact J147 0 s125 hF h
                · have h := if_f c128 h
                  exact J142 s125 hF h
              · have h := if_f c123 h
                exact J142 s120 hF h
            · have h := if_f c118 h
              exact J142 s115 hF h
          · have h := if_f c113 h
            exact J142 s110 hF h
        · have h := if_f c108 h
          exact J142 s105 hF h
      · have h := if_f c103 h
        exact J142 s100 hF h
    · have h := if_f c98 h
      exact J142 s96 hF h
  have J66 : ∀ (s129 : MS), F_x12_isOwnHere s s129 → m_x12_isOwnHere_J66 s129 = some o → F_x12_isOwnHere s o.2 := by
    intro s129 hF h
    unfold m_x12_isOwnHere_J66 at h
    exact J71 1 s129 hF h
  obtain ⟨⟨r132, s131⟩, hc130, h⟩ := bn_e h
  have hF : F_x12_isOwnHere s s131 := Fr.tr hF (fr_x12_isHere hc130) (by decide)
  obtain ⟨hr133, h⟩ := rg_e h
  by_cases c134 : r132 = 0
  · have h := if_t c134 h
    obtain ⟨⟨r137, s136⟩, hc135, h⟩ := bn_e h
    have hF : F_x12_isOwnHere s s136 := Fr.tr hF (fr_x12_isHere hc135) (by decide)
    obtain ⟨hr138, h⟩ := rg_e h
    by_cases c139 : r137 = 0
    · have h := if_t c139 h
      obtain ⟨⟨r142, s141⟩, hc140, h⟩ := bn_e h
      have hF : F_x12_isOwnHere s s141 := Fr.tr hF (fr_x12_isHere hc140) (by decide)
      obtain ⟨hr143, h⟩ := rg_e h
      by_cases c144 : r142 = 0
      · have h := if_t c144 h
        obtain ⟨⟨r147, s146⟩, hc145, h⟩ := bn_e h
        have hF : F_x12_isOwnHere s s146 := Fr.tr hF (fr_x12_isHere hc145) (by decide)
        obtain ⟨hr148, h⟩ := rg_e h
        by_cases c149 : r147 = 0
        · have h := if_t c149 h
          obtain ⟨⟨r152, s151⟩, hc150, h⟩ := bn_e h
          have hF : F_x12_isOwnHere s s151 := Fr.tr hF (fr_x12_isHere hc150) (by decide)
          obtain ⟨hr153, h⟩ := rg_e h
          by_cases c154 : r152 = 0
          · have h := if_t c154 h
            obtain ⟨⟨r157, s156⟩, hc155, h⟩ := bn_e h
            have hF : F_x12_isOwnHere s s156 := Fr.tr hF (fr_x12_isHere hc155) (by decide)
            obtain ⟨hr158, h⟩ := rg_e h
            by_cases c159 : r157 = 0
            · have h := if_t c159 h
              exact J71 0 s156 hF h
            · have h := if_f c159 h
              exact J66 s156 hF h
          · have h := if_f c154 h
            exact J66 s151 hF h
        · have h := if_f c149 h
          exact J66 s146 hF h
      · have h := if_f c144 h
        exact J66 s141 hF h
    · have h := if_f c139 h
      exact J66 s136 hF h
  · have h := if_f c134 h
    exact J66 s131 hF h
abbrev F_x12_name (s o : MS) : Prop := Fr [2, 4, 5, 6, 38] [] [] [] s o
theorem fr_x12_name {s : MS} {o : (Int × MS)} (h : m_x12_name s = some o) : F_x12_name s o.2 := by
  have hF : F_x12_name s s := Fr.rf s
  unfold m_x12_name at h
  have J145 : ∀ (z1 : Int) (s2 : MS), F_x12_name s s2 → m_x12_name_J145 z1 s2 = some o → F_x12_name s o.2 := by
    intro z1 s2 hF h
    unfold m_x12_name_J145 at h
    obtain ⟨s3, hs3, h⟩ := st_e h
    have hF : F_x12_name s s3 := hs3 ▸ Fr.uI hF (by decide)
    obtain rfl := Option.some.inj h
    exact hF
  have L58 : ∀ (n : Nat) (z4 : Int) (s5 : MS), F_x12_name s s5 → m_x12_name_L58 n z4 s5 = some o → F_x12_name s o.2 := by
    refine fr_ind (fun z4 s5 hF h => by cases h) ?_
    intro n58 ih58 z4 s5 hF h
    have h : m_x12_name_b58 (m_x12_name_L58 n58) z4 s5 = some o := h
    unfold m_x12_name_b58 at h
    obtain ⟨hr6, h⟩ := rg_e h
    obtain ⟨hr7, h⟩ := rg_e h
    by_cases c8 : (gI s5 3) ≤ (gI s5 2)
    · have h := if_t c8 h
      exact J145 z4 s5 hF h
    · have h := if_f c8 h
      obtain ⟨y9, ey9, iy9, h⟩ := rdI_e h
      obtain ⟨r11, hc10, h⟩ := bn_e h
      obtain ⟨hr12, h⟩ := rg_e h
      by_cases c13 : r11 = 0
      · have h := if_t c13 h
        exact J145 z4 s5 hF h
      · have h := if_f c13 h
        obtain ⟨hr14, h⟩ := rg_e h
        by_cases c15 : ((gI s5 2) - (gI s5 38)) = 6
        · have h := if_t c15 h
          obtain ⟨s20, hc19, h⟩ := bn_e h
          have hF : F_x12_name s s20 := Fr.tr hF (fr_x12_fail hc19) (by decide)
          obtain rfl := Option.some.inj h
          exact hF
        · have h := if_f c15 h
          obtain ⟨y16, ey16, iy16, h⟩ := rdI_e h
          obtain ⟨hr17, h⟩ := rg_e h
          obtain ⟨s18, hs18, h⟩ := st_e h
          have hF : F_x12_name s s18 := hs18 ▸ Fr.uI hF (by decide)
          exact ih58 ((((27 * z4) + y16) - 97) + 1) s18 hF h
  have J37 : ∀ (s21 : MS), F_x12_name s s21 → m_x12_name_J37 s21 = some o → F_x12_name s o.2 := by
    intro s21 hF h
    unfold m_x12_name_J37 at h
    obtain ⟨s23, hc22, h⟩ := bn_e h
    have hF : F_x12_name s s23 := Fr.tr hF (fr_x12_fail hc22) (by decide)
    obtain rfl := Option.some.inj h
    exact hF
  obtain ⟨hr24, h⟩ := rg_e h
  by_cases c25 : (gI s 5) = 0
  · have h := if_t c25 h
    obtain ⟨⟨r28, s27⟩, hc26, h⟩ := bn_e h
    have hF : F_x12_name s s27 := Fr.tr hF (fr_x12_look hc26) (by decide)
    obtain ⟨r30, hc29, h⟩ := bn_e h
    obtain ⟨hr31, h⟩ := rg_e h
    by_cases c32 : r30 = 0
    · have h := if_t c32 h
      exact J37 s27 hF h
    · have h := if_f c32 h
      obtain ⟨hr33, h⟩ := rg_e h
      obtain ⟨hr34, h⟩ := rg_e h
      by_cases c35 : (gI s27 2) = (gI s27 4)
      · have h := if_t c35 h
        exact J37 s27 hF h
      · have h := if_f c35 h
        obtain ⟨⟨r38, s37⟩, hc36, h⟩ := bn_e h
        have hF : F_x12_name s s37 := Fr.tr hF (fr_x12_isOwnHere hc36) (by decide)
        obtain ⟨hr39, h⟩ := rg_e h
        by_cases c40 : r38 = 0
        · have h := if_t c40 h
          obtain ⟨s41, hs41, h⟩ := st_e h
          have hF : F_x12_name s s41 := hs41 ▸ Fr.uI hF (by decide)
          exact L58 FU 0 s41 hF h
        · have h := if_f c40 h
          exact J37 s37 hF h
  · have h := if_f c25 h
    obtain rfl := Option.some.inj h
    exact hF
abbrev F_x12_storeTold (s o : MS) : Prop := Fr [2, 4, 5, 6, 10] [39] [] [] s o
theorem fr_x12_storeTold {s : MS} {o : MS} (h : m_x12_storeTold s = some o) : F_x12_storeTold s o := by
  have hF : F_x12_storeTold s s := Fr.rf s
  unfold m_x12_storeTold at h
  obtain ⟨s2, hc1, h⟩ := bn_e h
  have hF : F_x12_storeTold s s2 := Fr.tr hF (fr_x12_asks hc1) (by decide)
  obtain ⟨⟨r5, s4⟩, hc3, h⟩ := bn_e h
  have hF : F_x12_storeTold s s4 := Fr.tr hF (fr_x12_number hc3) (by decide)
  obtain ⟨hi6, h⟩ := inb_e h
  obtain ⟨s7, hs7, h⟩ := st_e h
  have hF : F_x12_storeTold s s7 := hs7 ▸ Fr.uA hF (by decide)
  obtain ⟨s9, hc8, h⟩ := bn_e h
  have hF : F_x12_storeTold s s9 := Fr.tr hF (fr_x12_asks hc8) (by decide)
  obtain ⟨⟨r12, s11⟩, hc10, h⟩ := bn_e h
  have hF : F_x12_storeTold s s11 := Fr.tr hF (fr_x12_number hc10) (by decide)
  obtain ⟨hi13, h⟩ := inb_e h
  obtain ⟨s14, hs14, h⟩ := st_e h
  have hF : F_x12_storeTold s s14 := hs14 ▸ Fr.uA hF (by decide)
  obtain ⟨s16, hc15, h⟩ := bn_e h
  have hF : F_x12_storeTold s s16 := Fr.tr hF (fr_x12_asksSign hc15) (by decide)
  obtain rfl := Option.some.inj h
  exact hF
abbrev F_x12_actTold (s o : MS) : Prop := Fr [] [39, 41] [] [] s o
theorem fr_x12_actTold {p0 : Int} {p1 : Int} {p2 : Int} {p3 : Int} {s : MS} {o : MS} (h : m_x12_actTold p0 p1 p2 p3 s = some o) : F_x12_actTold s o := by
  have hF : F_x12_actTold s s := Fr.rf s
  unfold m_x12_actTold at h
  obtain ⟨hr1, h⟩ := rg_e h
  by_cases c2 : (gI s 5) = 0
  · have h := if_t c2 h
    obtain ⟨y3, ey3, iy3, h⟩ := rdI_e h
    obtain ⟨hi4, h⟩ := inb_e h
    obtain ⟨s5, hs5, h⟩ := st_e h
    have hF : F_x12_actTold s s5 := hs5 ▸ Fr.uA hF (by decide)
    obtain ⟨hi6, h⟩ := inb_e h
    obtain ⟨s7, hs7, h⟩ := st_e h
    have hF : F_x12_actTold s s7 := hs7 ▸ Fr.uA hF (by decide)
    obtain ⟨hi8, h⟩ := inb_e h
    obtain ⟨s9, hs9, h⟩ := st_e h
    have hF : F_x12_actTold s s9 := hs9 ▸ Fr.uA hF (by decide)
    obtain ⟨hi10, h⟩ := inb_e h
    obtain ⟨s11, hs11, h⟩ := st_e h
    have hF : F_x12_actTold s s11 := hs11 ▸ Fr.uA hF (by decide)
    obtain ⟨y12, ey12, iy12, h⟩ := rdI_e h
    obtain ⟨hi13, h⟩ := inb_e h
    obtain ⟨s14, hs14, h⟩ := st_e h
    have hF : F_x12_actTold s s14 := hs14 ▸ Fr.uA hF (by decide)
    obtain rfl := Option.some.inj h
    exact hF
  · have h := if_f c2 h
    obtain rfl := Option.some.inj h
    exact hF
abbrev F_x12_newName (s o : MS) : Prop := Fr [2, 4, 5, 6, 38] [] [] [] s o
theorem fr_x12_newName {s : MS} {o : (Int × MS)} (h : m_x12_newName s = some o) : F_x12_newName s o.2 := by
  have hF : F_x12_newName s s := Fr.rf s
  unfold m_x12_newName at h
  have L7 : ∀ (n : Nat) (z1 : Int) (x2 : Int) (s3 : MS), F_x12_newName s s3 → m_x12_newName_L7 n z1 x2 s3 = some o → F_x12_newName s o.2 := by
    refine fr_ind (fun z1 x2 s3 hF h => by cases h) ?_
    intro n7 ih7 z1 x2 s3 hF h
    have h : m_x12_newName_b7 (m_x12_newName_L7 n7) z1 x2 s3 = some o := h
    unfold m_x12_newName_b7 at h
    have J44 : ∀ (z4 : Int) (x5 : Int) (s6 : MS), F_x12_newName s s6 → m_x12_newName_J44 (m_x12_newName_L7 n7) z4 x5 s6 = some o → F_x12_newName s o.2 := by
      intro z4 x5 s6 hF h
      unfold m_x12_newName_J44 at h
      exact ih7 z4 (x5 + 1) s6 hF h
    obtain ⟨y7, ey7, iy7, h⟩ := rdI_e h
    obtain ⟨hr8, h⟩ := rg_e h
    obtain ⟨hr9, h⟩ := rg_e h
    by_cases c10 : y7 ≤ x2
    · have h := if_t c10 h
      obtain rfl := Option.some.inj h
      exact hF
    · have h := if_f c10 h
      obtain ⟨hr11, h⟩ := rg_e h
      by_cases c12 : (gI s3 5) = 0
      · have h := if_t c12 h
        obtain ⟨yl13, eyl13, iyl13, h⟩ := rdL_e h
        obtain ⟨hr14, h⟩ := rgL_e h
        obtain ⟨hr15, h⟩ := rgL_e h
        by_cases c16 : yl13 = z1
        · have h := if_t c16 h
          obtain ⟨s18, hc17, h⟩ := bn_e h
          have hF : F_x12_newName s s18 := Fr.tr hF (fr_x12_fail hc17) (by decide)
          exact J44 z1 x2 s18 hF h
        · have h := if_f c16 h
          exact J44 z1 x2 s3 hF h
      · have h := if_f c12 h
        exact J44 z1 x2 s3 hF h
  obtain ⟨⟨rl21, s20⟩, hc19, h⟩ := bn_e h
  have hF : F_x12_newName s s20 := Fr.tr hF (fr_x12_name hc19) (by decide)
  exact L7 FU rl21 0 s20 hF h
abbrev F_x12_volumeNamed (s o : MS) : Prop := Fr [2, 4, 5, 6, 38] [] [] [] s o
theorem fr_x12_volumeNamed {s : MS} {o : (Int × MS)} (h : m_x12_volumeNamed s = some o) : F_x12_volumeNamed s o.2 := by
  have hF : F_x12_volumeNamed s s := Fr.rf s
  unfold m_x12_volumeNamed at h
  have J52 : ∀ (s1 : MS), F_x12_volumeNamed s s1 → m_x12_volumeNamed_J52 s1 = some o → F_x12_volumeNamed s o.2 := by
    intro s1 hF h
    unfold m_x12_volumeNamed_J52 at h
    obtain rfl := Option.some.inj h
    exact hF
  have L7 : ∀ (n : Nat) (z2 : Int) (x3 : Int) (s4 : MS), F_x12_volumeNamed s s4 → m_x12_volumeNamed_L7 n z2 x3 s4 = some o → F_x12_volumeNamed s o.2 := by
    refine fr_ind (fun z2 x3 s4 hF h => by cases h) ?_
    intro n7 ih7 z2 x3 s4 hF h
    have h : m_x12_volumeNamed_b7 (m_x12_volumeNamed_L7 n7) z2 x3 s4 = some o := h
    unfold m_x12_volumeNamed_b7 at h
    obtain ⟨y5, ey5, iy5, h⟩ := rdI_e h
    obtain ⟨hr6, h⟩ := rg_e h
    obtain ⟨hr7, h⟩ := rg_e h
    by_cases c8 : y5 ≤ x3
    · have h := if_t c8 h
      obtain ⟨hr9, h⟩ := rg_e h
      by_cases c10 : (gI s4 5) = 0
      · have h := if_t c10 h
        obtain ⟨s12, hc11, h⟩ := bn_e h
        have hF : F_x12_volumeNamed s s12 := Fr.tr hF (fr_x12_fail hc11) (by decide)
        exact J52 s12 hF h
      · have h := if_f c10 h
        exact J52 s4 hF h
    · have h := if_f c8 h
      obtain ⟨yl13, eyl13, iyl13, h⟩ := rdL_e h
      obtain ⟨hr14, h⟩ := rgL_e h
      obtain ⟨hr15, h⟩ := rgL_e h
      by_cases c16 : yl13 = z2
      · have h := if_t c16 h
        obtain rfl := Option.some.inj h
        exact hF
      · have h := if_f c16 h
        exact ih7 z2 (x3 + 1) s4 hF h
  obtain ⟨⟨rl19, s18⟩, hc17, h⟩ := bn_e h
  have hF : F_x12_volumeNamed s s18 := Fr.tr hF (fr_x12_name hc17) (by decide)
  exact L7 FU rl19 0 s18 hF h
abbrev F_x12_volumeTold (s o : MS) : Prop := Fr [2, 4, 5, 6, 38] [39, 41] [] [40] s o
theorem fr_x12_volumeTold {p0 : Int} {p1 : Int} {s : MS} {o : MS} (h : m_x12_volumeTold p0 p1 s = some o) : F_x12_volumeTold s o := by
  have hF : F_x12_volumeTold s s := Fr.rf s
  unfold m_x12_volumeTold at h
  have J83 : ∀ (z1 : Int) (x2 : Int) (x3 : Int) (s4 : MS), F_x12_volumeTold s s4 → m_x12_volumeTold_J83 z1 x2 x3 s4 = some o → F_x12_volumeTold s o := by
    intro z1 x2 x3 s4 hF h
    unfold m_x12_volumeTold_J83 at h
    obtain ⟨y5, ey5, iy5, h⟩ := rdI_e h
    obtain ⟨s7, hc6, h⟩ := bn_e h
    have hF : F_x12_volumeTold s s7 := Fr.tr hF (fr_x12_actTold hc6) (by decide)
    obtain ⟨y8, ey8, iy8, h⟩ := rdI_e h
    obtain ⟨hi9, h⟩ := inb_e h
    obtain ⟨s10, hs10, h⟩ := st_e h
    have hF : F_x12_volumeTold s s10 := hs10 ▸ Fr.uB hF (by decide)
    obtain ⟨y11, ey11, iy11, h⟩ := rdI_e h
    obtain ⟨hi12, h⟩ := inb_e h
    obtain ⟨s13, hs13, h⟩ := st_e h
    have hF : F_x12_volumeTold s s13 := hs13 ▸ Fr.uA hF (by decide)
    obtain rfl := Option.some.inj h
    exact hF
  have J68 : ∀ (x14 : Int) (z15 : Int) (x16 : Int) (x17 : Int) (s18 : MS), F_x12_volumeTold s s18 → m_x12_volumeTold_J68 x14 z15 x16 x17 s18 = some o → F_x12_volumeTold s o := by
    intro x14 z15 x16 x17 s18 hF h
    unfold m_x12_volumeTold_J68 at h
    obtain ⟨hr19, h⟩ := rg_e h
    by_cases c20 : x14 = 0
    · have h := if_t c20 h
      obtain ⟨y21, ey21, iy21, h⟩ := rdI_e h
      exact J83 z15 y21 x17 s18 hF h
    · have h := if_f c20 h
      exact J83 z15 x16 x17 s18 hF h
  have J50 : ∀ (x22 : Int) (z23 : Int) (x24 : Int) (s25 : MS), F_x12_volumeTold s s25 → m_x12_volumeTold_J50 x22 z23 x24 s25 = some o → F_x12_volumeTold s o := by
    intro x22 z23 x24 s25 hF h
    unfold m_x12_volumeTold_J50 at h
    obtain ⟨hr26, h⟩ := rg_e h
    by_cases c27 : (gI s25 5) = 0
    · have h := if_t c27 h
      obtain ⟨hr28, h⟩ := rg_e h
      by_cases c29 : x22 = 0
      · have h := if_t c29 h
        exact J68 x22 z23 x24 0 s25 hF h
      · have h := if_f c29 h
        exact J68 x22 z23 x24 1 s25 hF h
    · have h := if_f c27 h
      obtain rfl := Option.some.inj h
      exact hF
  have J24 : ∀ (x30 : Int) (s31 : MS), F_x12_volumeTold s s31 → m_x12_volumeTold_J24 x30 s31 = some o → F_x12_volumeTold s o := by
    intro x30 s31 hF h
    unfold m_x12_volumeTold_J24 at h
    obtain ⟨⟨rl34, s33⟩, hc32, h⟩ := bn_e h
    have hF : F_x12_volumeTold s s33 := Fr.tr hF (fr_x12_newName hc32) (by decide)
    obtain ⟨hr35, h⟩ := rg_e h
    by_cases c36 : x30 = 0
    · have h := if_t c36 h
      exact J50 x30 rl34 (-1) s33 hF h
    · have h := if_f c36 h
      obtain ⟨s38, hc37, h⟩ := bn_e h
      have hF : F_x12_volumeTold s s38 := Fr.tr hF (fr_x12_asks hc37) (by decide)
      obtain ⟨⟨r41, s40⟩, hc39, h⟩ := bn_e h
      have hF : F_x12_volumeTold s s40 := Fr.tr hF (fr_x12_volumeNamed hc39) (by decide)
      exact J50 x30 rl34 r41 s40 hF h
  obtain ⟨hr42, h⟩ := rg_e h
  by_cases c43 : (gI s 5) = 0
  · have h := if_t c43 h
    obtain ⟨y44, ey44, iy44, h⟩ := rdI_e h
    obtain ⟨hr45, h⟩ := rg_e h
    by_cases c46 : y44 = 8
    · have h := if_t c46 h
      obtain ⟨s48, hc47, h⟩ := bn_e h
      have hF : F_x12_volumeTold s s48 := Fr.tr hF (fr_x12_fail hc47) (by decide)
      exact J24 p0 s48 hF h
    · have h := if_f c46 h
      exact J24 p0 s hF h
  · have h := if_f c43 h
    exact J24 p0 s hF h
abbrev F_x12_putTold (s o : MS) : Prop := Fr [2, 4, 5, 6, 10, 38] [39, 41] [] [] s o
theorem fr_x12_putTold {s : MS} {o : MS} (h : m_x12_putTold s = some o) : F_x12_putTold s o := by
  have hF : F_x12_putTold s s := Fr.rf s
  unfold m_x12_putTold at h
  obtain ⟨⟨r3, s2⟩, hc1, h⟩ := bn_e h
  have hF : F_x12_putTold s s2 := Fr.tr hF (fr_x12_volumeNamed hc1) (by decide)
  obtain ⟨⟨r6, s5⟩, hc4, h⟩ := bn_e h
  have hF : F_x12_putTold s s5 := Fr.tr hF (fr_x12_number hc4) (by decide)
  obtain ⟨⟨r9, s8⟩, hc7, h⟩ := bn_e h
  have hF : F_x12_putTold s s8 := Fr.tr hF (fr_x12_number hc7) (by decide)
  obtain ⟨s11, hc10, h⟩ := bn_e h
  have hF : F_x12_putTold s s11 := Fr.tr hF (fr_x12_actTold hc10) (by decide)
  obtain rfl := Option.some.inj h
  exact hF
abbrev F_x12_removeTold (s o : MS) : Prop := Fr [2, 4, 5, 6, 10, 38] [39, 41] [] [] s o
theorem fr_x12_removeTold {s : MS} {o : MS} (h : m_x12_removeTold s = some o) : F_x12_removeTold s o := by
  have hF : F_x12_removeTold s s := Fr.rf s
  unfold m_x12_removeTold at h
  obtain ⟨⟨r3, s2⟩, hc1, h⟩ := bn_e h
  have hF : F_x12_removeTold s s2 := Fr.tr hF (fr_x12_volumeNamed hc1) (by decide)
  obtain ⟨⟨r6, s5⟩, hc4, h⟩ := bn_e h
  have hF : F_x12_removeTold s s5 := Fr.tr hF (fr_x12_number hc4) (by decide)
  obtain ⟨s8, hc7, h⟩ := bn_e h
  have hF : F_x12_removeTold s s8 := Fr.tr hF (fr_x12_actTold hc7) (by decide)
  obtain rfl := Option.some.inj h
  exact hF
abbrev F_x12_qCode (s o : MS) : Prop := Fr [102] [101] [] [] s o
theorem fr_x12_qCode {p0 : Int} {s : MS} {o : MS} (h : m_x12_qCode p0 s = some o) : F_x12_qCode s o := by
  have hF : F_x12_qCode s s := Fr.rf s
  unfold m_x12_qCode at h
  obtain ⟨hi1, h⟩ := inb_e h
  obtain ⟨s2, hs2, h⟩ := st_e h
  have hF : F_x12_qCode s s2 := hs2 ▸ Fr.uA hF (by decide)
  obtain ⟨s3, hs3, h⟩ := st_e h
  have hF : F_x12_qCode s s3 := hs3 ▸ Fr.uI hF (by decide)
  obtain rfl := Option.some.inj h
  exact hF
abbrev F_x12_qDrops (s o : MS) : Prop := Fr [102, 104] [101] [] [] s o
theorem fr_x12_qDrops {s : MS} {o : MS} (h : m_x12_qDrops s = some o) : F_x12_qDrops s o := by
  have hF : F_x12_qDrops s s := Fr.rf s
  unfold m_x12_qDrops at h
  obtain ⟨s1, hs1, h⟩ := st_e h
  have hF : F_x12_qDrops s s1 := hs1 ▸ Fr.uI hF (by decide)
  obtain ⟨y2, ey2, iy2, h⟩ := rdI_e h
  obtain ⟨s4, hc3, h⟩ := bn_e h
  have hF : F_x12_qDrops s s4 := Fr.tr hF (fr_x12_qCode hc3) (by decide)
  obtain rfl := Option.some.inj h
  exact hF
abbrev F_x12_qEndsPart (s o : MS) : Prop := Fr [102, 104, 105] [101] [] [] s o
theorem fr_x12_qEndsPart {s : MS} {o : MS} (h : m_x12_qEndsPart s = some o) : F_x12_qEndsPart s o := by
  have hF : F_x12_qEndsPart s s := Fr.rf s
  unfold m_x12_qEndsPart at h
  have J51 : ∀ (s1 : MS), F_x12_qEndsPart s s1 → m_x12_qEndsPart_J51 s1 = some o → F_x12_qEndsPart s o := by
    intro s1 hF h
    unfold m_x12_qEndsPart_J51 at h
    obtain rfl := Option.some.inj h
    exact hF
  have L0 : ∀ (n : Nat) (s2 : MS), F_x12_qEndsPart s s2 → m_x12_qEndsPart_L0 n s2 = some o → F_x12_qEndsPart s o := by
    refine fr_ind (fun s2 hF h => by cases h) ?_
    intro n0 ih0 s2 hF h
    have h : m_x12_qEndsPart_b0 (m_x12_qEndsPart_L0 n0) s2 = some o := h
    unfold m_x12_qEndsPart_b0 at h
    obtain ⟨hr3, h⟩ := rg_e h
    by_cases c4 : (gI s2 5) = 0
    · have h := if_t c4 h
      obtain ⟨hr5, h⟩ := rg_e h
      obtain ⟨hr6, h⟩ := rg_e h
      by_cases c7 : (gI s2 104) ≤ (gI s2 106)
      · have h := if_t c7 h
        exact J51 s2 hF h
      · have h := if_f c7 h
        obtain ⟨y8, ey8, iy8, h⟩ := rdI_e h
        obtain ⟨hr9, h⟩ := rg_e h
        by_cases c10 : y8 < 60
        · have h := if_t c10 h
          exact J51 s2 hF h
        · have h := if_f c10 h
          obtain ⟨s11, hs11, h⟩ := st_e h
          have hF : F_x12_qEndsPart s s11 := hs11 ▸ Fr.uI hF (by decide)
          obtain ⟨s13, hc12, h⟩ := bn_e h
          have hF : F_x12_qEndsPart s s13 := Fr.tr hF (fr_x12_qDrops hc12) (by decide)
          exact ih0 s13 hF h
    · have h := if_f c4 h
      exact J51 s2 hF h
  exact L0 FU s hF h
abbrev F_x12_qWordHere (s o : MS) : Prop := Fr [2] [] [] [] s o
theorem fr_x12_qWordHere {s : MS} {o : (Int × MS)} (h : m_x12_qWordHere s = some o) : F_x12_qWordHere s o.2 := by
  have hF : F_x12_qWordHere s s := Fr.rf s
  unfold m_x12_qWordHere at h
  obtain ⟨⟨r3, s2⟩, hc1, h⟩ := bn_e h
  have hF : F_x12_qWordHere s s2 := Fr.tr hF (fr_x12_isHere hc1) (by decide)
  obtain ⟨hr4, h⟩ := rg_e h
  by_cases c5 : r3 = 0
  · have h := if_t c5 h
    obtain ⟨⟨r8, s7⟩, hc6, h⟩ := bn_e h
    have hF : F_x12_qWordHere s s7 := Fr.tr hF (fr_x12_isHere hc6) (by decide)
    obtain ⟨hr9, h⟩ := rg_e h
    by_cases c10 : r8 = 0
    · have h := if_t c10 h
      obtain ⟨⟨r13, s12⟩, hc11, h⟩ := bn_e h
      have hF : F_x12_qWordHere s s12 := Fr.tr hF (fr_x12_isHere hc11) (by decide)
      obtain ⟨hr14, h⟩ := rg_e h
      by_cases c15 : r13 = 0
      · have h := if_t c15 h
        obtain ⟨⟨r18, s17⟩, hc16, h⟩ := bn_e h
        have hF : F_x12_qWordHere s s17 := Fr.tr hF (fr_x12_isHere hc16) (by decide)
        obtain ⟨hr19, h⟩ := rg_e h
        by_cases c20 : r18 = 0
        · have h := if_t c20 h
          obtain ⟨⟨r23, s22⟩, hc21, h⟩ := bn_e h
          have hF : F_x12_qWordHere s s22 := Fr.tr hF (fr_x12_isHere hc21) (by decide)
          obtain ⟨hr24, h⟩ := rg_e h
          by_cases c25 : r23 = 0
          · have h := if_t c25 h
            obtain ⟨⟨r28, s27⟩, hc26, h⟩ := bn_e h
            have hF : F_x12_qWordHere s s27 := Fr.tr hF (fr_x12_isHere hc26) (by decide)
            obtain ⟨hr29, h⟩ := rg_e h
            by_cases c30 : r28 = 0
            · have h := if_t c30 h
              obtain ⟨⟨r33, s32⟩, hc31, h⟩ := bn_e h
              have hF : F_x12_qWordHere s s32 := Fr.tr hF (fr_x12_isHere hc31) (by decide)
              obtain ⟨hr34, h⟩ := rg_e h
              by_cases c35 : r33 = 0
              · have h := if_t c35 h
                obtain ⟨⟨r38, s37⟩, hc36, h⟩ := bn_e h
                have hF : F_x12_qWordHere s s37 := Fr.tr hF (fr_x12_isHere hc36) (by decide)
                obtain ⟨hr39, h⟩ := rg_e h
                by_cases c40 : r38 = 0
                · have h := if_t c40 h
                  obtain ⟨⟨r43, s42⟩, hc41, h⟩ := bn_e h
                  have hF : F_x12_qWordHere s s42 := Fr.tr hF (fr_x12_isHere hc41) (by decide)
                  obtain ⟨hr44, h⟩ := rg_e h
                  by_cases c45 : r43 = 0
                  · have h := if_t c45 h
                    obtain ⟨⟨r48, s47⟩, hc46, h⟩ := bn_e h
                    have hF : F_x12_qWordHere s s47 := Fr.tr hF (fr_x12_isHere hc46) (by decide)
                    obtain ⟨hr49, h⟩ := rg_e h
                    by_cases c50 : r48 = 0
                    · have h := if_t c50 h
                      obtain rfl := Option.some.inj h
                      exact hF
                    · have h := if_f c50 h
                      obtain rfl := Option.some.inj h
                      exact hF
                  · have h := if_f c45 h
                    obtain rfl := Option.some.inj h
                    exact hF
                · have h := if_f c40 h
                  obtain rfl := Option.some.inj h
                  exact hF
              · have h := if_f c35 h
                obtain rfl := Option.some.inj h
                exact hF
            · have h := if_f c30 h
              obtain rfl := Option.some.inj h
              exact hF
          · have h := if_f c25 h
            obtain rfl := Option.some.inj h
            exact hF
        · have h := if_f c20 h
          obtain rfl := Option.some.inj h
          exact hF
      · have h := if_f c15 h
        obtain rfl := Option.some.inj h
        exact hF
    · have h := if_f c10 h
      obtain rfl := Option.some.inj h
      exact hF
  · have h := if_f c5 h
    obtain rfl := Option.some.inj h
    exact hF
abbrev F_x12_qWordOf (s o : MS) : Prop := Fr [2] [] [] [] s o
theorem fr_x12_qWordOf {p0 : Int} {p1 : Int} {s : MS} {o : (Int × MS)} (h : m_x12_qWordOf p0 p1 s = some o) : F_x12_qWordOf s o.2 := by
  have hF : F_x12_qWordOf s s := Fr.rf s
  unfold m_x12_qWordOf at h
  have J28 : ∀ (x1 : Int) (s2 : MS), F_x12_qWordOf s s2 → m_x12_qWordOf_J28 x1 s2 = some o → F_x12_qWordOf s o.2 := by
    intro x1 s2 hF h
    unfold m_x12_qWordOf_J28 at h
    obtain rfl := Option.some.inj h
    exact hF
  have J27 : ∀ (s3 : MS), F_x12_qWordOf s s3 → m_x12_qWordOf_J27 s3 = some o → F_x12_qWordOf s o.2 := by
    intro s3 hF h
    unfold m_x12_qWordOf_J27 at h
    exact J28 (-1) s3 hF h
  obtain ⟨⟨r6, s5⟩, hc4, h⟩ := bn_e h
  have hF : F_x12_qWordOf s s5 := Fr.tr hF (fr_x12_qWordHere hc4) (by decide)
  obtain ⟨hr7, h⟩ := rg_e h
  obtain ⟨hr8, h⟩ := rg_e h
  by_cases c9 : r6 < p0
  · have h := if_t c9 h
    exact J27 s5 hF h
  · have h := if_f c9 h
    obtain ⟨hr10, h⟩ := rg_e h
    obtain ⟨hr11, h⟩ := rg_e h
    by_cases c12 : p1 ≤ r6
    · have h := if_t c12 h
      exact J27 s5 hF h
    · have h := if_f c12 h
      obtain ⟨r14, hc13, h⟩ := bn_e h
      obtain ⟨hr15, h⟩ := rg_e h
      by_cases c16 : r14 = 0
      · have h := if_t c16 h
        exact J27 s5 hF h
      · have h := if_f c16 h
        exact J28 r6 s5 hF h
abbrev F_x12_qAsksWord (s o : MS) : Prop := Fr [2, 4, 5, 6] [] [] [] s o
theorem fr_x12_qAsksWord {p0 : Int} {s : MS} {o : MS} (h : m_x12_qAsksWord p0 s = some o) : F_x12_qAsksWord s o := by
  have hF : F_x12_qAsksWord s s := Fr.rf s
  unfold m_x12_qAsksWord at h
  have J159 : ∀ (s1 : MS), F_x12_qAsksWord s s1 → m_x12_qAsksWord_J159 s1 = some o → F_x12_qAsksWord s o := by
    intro s1 hF h
    unfold m_x12_qAsksWord_J159 at h
    obtain rfl := Option.some.inj h
    exact hF
  obtain ⟨hr2, h⟩ := rg_e h
  by_cases c3 : p0 = 0
  · have h := if_t c3 h
    obtain ⟨s5, hc4, h⟩ := bn_e h
    have hF : F_x12_qAsksWord s s5 := Fr.tr hF (fr_x12_asks hc4) (by decide)
    exact J159 s5 hF h
  · have h := if_f c3 h
    by_cases c6 : p0 = 1
    · have h := if_t c6 h
      obtain ⟨s8, hc7, h⟩ := bn_e h
      have hF : F_x12_qAsksWord s s8 := Fr.tr hF (fr_x12_asks hc7) (by decide)
      exact J159 s8 hF h
    · have h := if_f c6 h
      by_cases c9 : p0 = 2
      · have h := if_t c9 h
        obtain ⟨s11, hc10, h⟩ := bn_e h
        have hF : F_x12_qAsksWord s s11 := Fr.tr hF (fr_x12_asks hc10) (by decide)
        exact J159 s11 hF h
      · have h := if_f c9 h
        by_cases c12 : p0 = 3
        · have h := if_t c12 h
          obtain ⟨s14, hc13, h⟩ := bn_e h
          have hF : F_x12_qAsksWord s s14 := Fr.tr hF (fr_x12_asks hc13) (by decide)
          exact J159 s14 hF h
        · have h := if_f c12 h
          by_cases c15 : p0 = 4
          · have h := if_t c15 h
            obtain ⟨s17, hc16, h⟩ := bn_e h
            have hF : F_x12_qAsksWord s s17 := Fr.tr hF (fr_x12_asks hc16) (by decide)
            exact J159 s17 hF h
          · have h := if_f c15 h
            by_cases c18 : p0 = 5
            · have h := if_t c18 h
              obtain ⟨s20, hc19, h⟩ := bn_e h
              have hF : F_x12_qAsksWord s s20 := Fr.tr hF (fr_x12_asks hc19) (by decide)
              exact J159 s20 hF h
            · have h := if_f c18 h
              by_cases c21 : p0 = 6
              · have h := if_t c21 h
                obtain ⟨s23, hc22, h⟩ := bn_e h
                have hF : F_x12_qAsksWord s s23 := Fr.tr hF (fr_x12_asks hc22) (by decide)
                exact J159 s23 hF h
              · have h := if_f c21 h
                by_cases c24 : p0 = 7
                · have h := if_t c24 h
                  obtain ⟨s26, hc25, h⟩ := bn_e h
                  have hF : F_x12_qAsksWord s s26 := Fr.tr hF (fr_x12_asks hc25) (by decide)
                  exact J159 s26 hF h
                · have h := if_f c24 h
                  by_cases c27 : p0 = 8
                  · have h := if_t c27 h
                    obtain ⟨s29, hc28, h⟩ := bn_e h
                    have hF : F_x12_qAsksWord s s29 := Fr.tr hF (fr_x12_asks hc28) (by decide)
                    exact J159 s29 hF h
                  · have h := if_f c27 h
                    obtain ⟨s31, hc30, h⟩ := bn_e h
                    have hF : F_x12_qAsksWord s s31 := Fr.tr hF (fr_x12_asks hc30) (by decide)
                    exact J159 s31 hF h
abbrev F_x12_qOpens (s o : MS) : Prop := Fr [5, 6, 104, 105] [103] [] [] s o
theorem fr_x12_qOpens {p0 : Int} {p1 : Int} {s : MS} {o : MS} (h : m_x12_qOpens p0 p1 s = some o) : F_x12_qOpens s o := by
  have hF : F_x12_qOpens s s := Fr.rf s
  unfold m_x12_qOpens at h
  obtain ⟨hr1, h⟩ := rg_e h
  by_cases c2 : (gI s 5) = 0
  · have h := if_t c2 h
    obtain ⟨hr3, h⟩ := rg_e h
    by_cases c4 : (gI s 105) = 6
    · have h := if_t c4 h
      obtain ⟨s10, hc9, h⟩ := bn_e h
      have hF : F_x12_qOpens s s10 := Fr.tr hF (fr_x12_fail hc9) (by decide)
      obtain rfl := Option.some.inj h
      exact hF
    · have h := if_f c4 h
      obtain ⟨s5, hs5, h⟩ := st_e h
      have hF : F_x12_qOpens s s5 := hs5 ▸ Fr.uI hF (by decide)
      obtain ⟨hi6, h⟩ := inb_e h
      obtain ⟨s7, hs7, h⟩ := st_e h
      have hF : F_x12_qOpens s s7 := hs7 ▸ Fr.uA hF (by decide)
      obtain ⟨s8, hs8, h⟩ := st_e h
      have hF : F_x12_qOpens s s8 := hs8 ▸ Fr.uI hF (by decide)
      obtain rfl := Option.some.inj h
      exact hF
  · have h := if_f c2 h
    obtain rfl := Option.some.inj h
    exact hF
abbrev F_x12_qPartTold (s o : MS) : Prop := Fr [2, 4, 5, 6, 10, 102, 104, 105] [101, 103] [] [] s o
theorem fr_x12_qPartTold {s : MS} {o : MS} (h : m_x12_qPartTold s = some o) : F_x12_qPartTold s o := by
  have hF : F_x12_qPartTold s s := Fr.rf s
  unfold m_x12_qPartTold at h
  have J237 : ∀ (x1 : Int) (s2 : MS), F_x12_qPartTold s s2 → m_x12_qPartTold_J237 x1 s2 = some o → F_x12_qPartTold s o := by
    intro x1 s2 hF h
    unfold m_x12_qPartTold_J237 at h
    obtain ⟨s4, hc3, h⟩ := bn_e h
    have hF : F_x12_qPartTold s s4 := Fr.tr hF (fr_x12_qCode hc3) (by decide)
    obtain ⟨s6, hc5, h⟩ := bn_e h
    have hF : F_x12_qPartTold s s6 := Fr.tr hF (fr_x12_qEndsPart hc5) (by decide)
    obtain rfl := Option.some.inj h
    exact hF
  have J212 : ∀ (x7 : Int) (s8 : MS), F_x12_qPartTold s s8 → m_x12_qPartTold_J212 x7 s8 = some o → F_x12_qPartTold s o := by
    intro x7 s8 hF h
    unfold m_x12_qPartTold_J212 at h
    obtain ⟨hr9, h⟩ := rg_e h
    by_cases c10 : x7 = (-1)
    · have h := if_t c10 h
      obtain ⟨⟨r13, s12⟩, hc11, h⟩ := bn_e h
      have hF : F_x12_qPartTold s s12 := Fr.tr hF (fr_x12_number hc11) (by decide)
      exact J237 (1000 + r13) s12 hF h
    · have h := if_f c10 h
      exact J237 (40 + x7) s8 hF h
  have J186 : ∀ (s14 : MS), F_x12_qPartTold s s14 → m_x12_qPartTold_J186 s14 = some o → F_x12_qPartTold s o := by
    intro s14 hF h
    unfold m_x12_qPartTold_J186 at h
    obtain ⟨hr15, h⟩ := rg_e h
    by_cases c16 : (gI s14 5) = 0
    · have h := if_t c16 h
      obtain ⟨⟨r19, s18⟩, hc17, h⟩ := bn_e h
      have hF : F_x12_qPartTold s s18 := Fr.tr hF (fr_x12_qWordOf hc17) (by decide)
      obtain ⟨hr20, h⟩ := rg_e h
      by_cases c21 : r19 = (-1)
      · have h := if_t c21 h
        exact J212 r19 s18 hF h
      · have h := if_f c21 h
        obtain ⟨s23, hc22, h⟩ := bn_e h
        have hF : F_x12_qPartTold s s23 := Fr.tr hF (fr_x12_qAsksWord hc22) (by decide)
        exact J212 r19 s23 hF h
    · have h := if_f c16 h
      obtain rfl := Option.some.inj h
      exact hF
  have L2 : ∀ (n : Nat) (x24 : Int) (s25 : MS), F_x12_qPartTold s s25 → m_x12_qPartTold_L2 n x24 s25 = some o → F_x12_qPartTold s o := by
    refine fr_ind (fun x24 s25 hF h => by cases h) ?_
    intro n2 ih2 x24 s25 hF h
    have h : m_x12_qPartTold_b2 (m_x12_qPartTold_L2 n2) x24 s25 = some o := h
    unfold m_x12_qPartTold_b2 at h
    have J183 : ∀ (x26 : Int) (s27 : MS), F_x12_qPartTold s s27 → m_x12_qPartTold_J183 (m_x12_qPartTold_L2 n2) x26 s27 = some o → F_x12_qPartTold s o := by
      intro x26 s27 hF h
      unfold m_x12_qPartTold_J183 at h
      exact ih2 x26 s27 hF h
    have J144 : ∀ (x28 : Int) (s29 : MS), F_x12_qPartTold s s29 → m_x12_qPartTold_J144 (m_x12_qPartTold_L2 n2) x28 s29 = some o → F_x12_qPartTold s o := by
      intro x28 s29 hF h
      unfold m_x12_qPartTold_J144 at h
      obtain ⟨s31, hc30, h⟩ := bn_e h
      have hF : F_x12_qPartTold s s31 := Fr.tr hF (fr_x12_asksSign hc30) (by decide)
      exact J183 x28 s31 hF h
    have J139 : ∀ (x32 : Int) (x33 : Int) (x34 : Int) (s35 : MS), F_x12_qPartTold s s35 → m_x12_qPartTold_J139 (m_x12_qPartTold_L2 n2) x32 x33 x34 s35 = some o → F_x12_qPartTold s o := by
      intro x32 x33 x34 s35 hF h
      unfold m_x12_qPartTold_J139 at h
      obtain ⟨s37, hc36, h⟩ := bn_e h
      have hF : F_x12_qPartTold s s37 := Fr.tr hF (fr_x12_qOpens hc36) (by decide)
      exact J144 x32 s37 hF h
    have J118 : ∀ (x38 : Int) (x39 : Int) (x40 : Int) (s41 : MS), F_x12_qPartTold s s41 → m_x12_qPartTold_J118 (m_x12_qPartTold_L2 n2) x38 x39 x40 s41 = some o → F_x12_qPartTold s o := by
      intro x38 x39 x40 s41 hF h
      unfold m_x12_qPartTold_J118 at h
      obtain ⟨hr42, h⟩ := rg_e h
      by_cases c43 : x40 = (-1)
      · have h := if_t c43 h
        exact J144 x38 s41 hF h
      · have h := if_f c43 h
        obtain ⟨hr44, h⟩ := rg_e h
        by_cases c45 : x39 = 0
        · have h := if_t c45 h
          exact J139 x38 x40 22 s41 hF h
        · have h := if_f c45 h
          exact J139 x38 x40 21 s41 hF h
    have J101 : ∀ (x46 : Int) (x47 : Int) (s48 : MS), F_x12_qPartTold s s48 → m_x12_qPartTold_J101 (m_x12_qPartTold_L2 n2) x46 x47 s48 = some o → F_x12_qPartTold s o := by
      intro x46 x47 s48 hF h
      unfold m_x12_qPartTold_J101 at h
      obtain ⟨⟨r51, s50⟩, hc49, h⟩ := bn_e h
      have hF : F_x12_qPartTold s s50 := Fr.tr hF (fr_x12_look hc49) (by decide)
      obtain ⟨hr52, h⟩ := rg_e h
      by_cases c53 : r51 = 40
      · have h := if_t c53 h
        exact J118 x46 x47 (gI s50 2) s50 hF h
      · have h := if_f c53 h
        exact J118 x46 x47 (-1) s50 hF h
    have J78 : ∀ (x54 : Int) (s55 : MS), F_x12_qPartTold s s55 → m_x12_qPartTold_J78 (m_x12_qPartTold_L2 n2) x54 s55 = some o → F_x12_qPartTold s o := by
      intro x54 s55 hF h
      unfold m_x12_qPartTold_J78 at h
      obtain ⟨⟨r58, s57⟩, hc56, h⟩ := bn_e h
      have hF : F_x12_qPartTold s s57 := Fr.tr hF (fr_x12_takes hc56) (by decide)
      obtain ⟨hr59, h⟩ := rg_e h
      by_cases c60 : r58 = 0
      · have h := if_t c60 h
        obtain ⟨s62, hc61, h⟩ := bn_e h
        have hF : F_x12_qPartTold s s62 := Fr.tr hF (fr_x12_asks hc61) (by decide)
        exact J101 x54 r58 s62 hF h
      · have h := if_f c60 h
        exact J101 x54 r58 s57 hF h
    obtain ⟨hr63, h⟩ := rg_e h
    by_cases c64 : x24 = 0
    · have h := if_t c64 h
      exact J186 s25 hF h
    · have h := if_f c64 h
      obtain ⟨hr65, h⟩ := rg_e h
      by_cases c66 : (gI s25 5) = 0
      · have h := if_t c66 h
        obtain ⟨⟨r69, s68⟩, hc67, h⟩ := bn_e h
        have hF : F_x12_qPartTold s s68 := Fr.tr hF (fr_x12_look hc67) (by decide)
        obtain ⟨⟨r72, s71⟩, hc70, h⟩ := bn_e h
        have hF : F_x12_qPartTold s s71 := Fr.tr hF (fr_x12_qWordOf hc70) (by decide)
        obtain ⟨hr73, h⟩ := rg_e h
        by_cases c74 : r69 = 40
        · have h := if_t c74 h
          obtain ⟨s92, hc91, h⟩ := bn_e h
          have hF : F_x12_qPartTold s s92 := Fr.tr hF (fr_x12_qOpens hc91) (by decide)
          obtain ⟨s93, hs93, h⟩ := st_e h
          have hF : F_x12_qPartTold s s93 := hs93 ▸ Fr.uI hF (by decide)
          exact J183 x24 s93 hF h
        · have h := if_f c74 h
          obtain ⟨⟨r77, s76⟩, hc75, h⟩ := bn_e h
          have hF : F_x12_qPartTold s s76 := Fr.tr hF (fr_x12_isHere hc75) (by decide)
          obtain ⟨hr78, h⟩ := rg_e h
          by_cases c79 : r77 = 0
          · have h := if_t c79 h
            obtain ⟨⟨r82, s81⟩, hc80, h⟩ := bn_e h
            have hF : F_x12_qPartTold s s81 := Fr.tr hF (fr_x12_isHere hc80) (by decide)
            obtain ⟨hr83, h⟩ := rg_e h
            by_cases c84 : r82 = 0
            · have h := if_t c84 h
              obtain ⟨hr85, h⟩ := rg_e h
              by_cases c86 : r72 = (-1)
              · have h := if_t c86 h
                exact J183 0 s81 hF h
              · have h := if_f c86 h
                obtain ⟨s88, hc87, h⟩ := bn_e h
                have hF : F_x12_qPartTold s s88 := Fr.tr hF (fr_x12_qOpens hc87) (by decide)
                obtain ⟨s90, hc89, h⟩ := bn_e h
                have hF : F_x12_qPartTold s s90 := Fr.tr hF (fr_x12_qAsksWord hc89) (by decide)
                exact J183 x24 s90 hF h
            · have h := if_f c84 h
              exact J78 x24 s81 hF h
          · have h := if_f c79 h
            exact J78 x24 s76 hF h
      · have h := if_f c66 h
        exact J186 s25 hF h
  exact L2 FU 1 s hF h
abbrev F_x12_qDropsToBracket (s o : MS) : Prop := Fr [102, 104] [101] [] [] s o
theorem fr_x12_qDropsToBracket {s : MS} {o : MS} (h : m_x12_qDropsToBracket s = some o) : F_x12_qDropsToBracket s o := by
  have hF : F_x12_qDropsToBracket s s := Fr.rf s
  unfold m_x12_qDropsToBracket at h
  have J35 : ∀ (s1 : MS), F_x12_qDropsToBracket s s1 → m_x12_qDropsToBracket_J35 s1 = some o → F_x12_qDropsToBracket s o := by
    intro s1 hF h
    unfold m_x12_qDropsToBracket_J35 at h
    obtain rfl := Option.some.inj h
    exact hF
  have L0 : ∀ (n : Nat) (s2 : MS), F_x12_qDropsToBracket s s2 → m_x12_qDropsToBracket_L0 n s2 = some o → F_x12_qDropsToBracket s o := by
    refine fr_ind (fun s2 hF h => by cases h) ?_
    intro n0 ih0 s2 hF h
    have h : m_x12_qDropsToBracket_b0 (m_x12_qDropsToBracket_L0 n0) s2 = some o := h
    unfold m_x12_qDropsToBracket_b0 at h
    obtain ⟨hr3, h⟩ := rg_e h
    obtain ⟨hr4, h⟩ := rg_e h
    by_cases c5 : (gI s2 104) ≤ (gI s2 106)
    · have h := if_t c5 h
      exact J35 s2 hF h
    · have h := if_f c5 h
      obtain ⟨y6, ey6, iy6, h⟩ := rdI_e h
      obtain ⟨r8, hc7, h⟩ := bn_e h
      obtain ⟨hr9, h⟩ := rg_e h
      by_cases c10 : r8 = 0
      · have h := if_t c10 h
        obtain ⟨s12, hc11, h⟩ := bn_e h
        have hF : F_x12_qDropsToBracket s s12 := Fr.tr hF (fr_x12_qDrops hc11) (by decide)
        exact ih0 s12 hF h
      · have h := if_f c10 h
        exact J35 s2 hF h
  exact L0 FU s hF h
abbrev F_x12_qGoesOn (s o : MS) : Prop := Fr [2, 5, 6, 102, 104, 105] [101, 103] [] [] s o
theorem fr_x12_qGoesOn {s : MS} {o : (Int × MS)} (h : m_x12_qGoesOn s = some o) : F_x12_qGoesOn s o.2 := by
  have hF : F_x12_qGoesOn s s := Fr.rf s
  unfold m_x12_qGoesOn at h
  have J386 : ∀ (s1 : MS), F_x12_qGoesOn s s1 → m_x12_qGoesOn_J386 s1 = some o → F_x12_qGoesOn s o.2 := by
    intro s1 hF h
    unfold m_x12_qGoesOn_J386 at h
    obtain rfl := Option.some.inj h
    exact hF
  have J326 : ∀ (s2 : MS), F_x12_qGoesOn s s2 → m_x12_qGoesOn_J326 s2 = some o → F_x12_qGoesOn s o.2 := by
    intro s2 hF h
    unfold m_x12_qGoesOn_J326 at h
    obtain ⟨s4, hc3, h⟩ := bn_e h
    have hF : F_x12_qGoesOn s s4 := Fr.tr hF (fr_x12_asksSign hc3) (by decide)
    obtain ⟨hr5, h⟩ := rg_e h
    by_cases c6 : (gI s4 5) = 0
    · have h := if_t c6 h
      obtain ⟨s8, hc7, h⟩ := bn_e h
      have hF : F_x12_qGoesOn s s8 := Fr.tr hF (fr_x12_qDropsToBracket hc7) (by decide)
      obtain ⟨y9, ey9, iy9, h⟩ := rdI_e h
      obtain ⟨hi10, h⟩ := inb_e h
      obtain ⟨s11, hs11, h⟩ := st_e h
      have hF : F_x12_qGoesOn s s11 := hs11 ▸ Fr.uA hF (by decide)
      obtain rfl := Option.some.inj h
      exact hF
    · have h := if_f c6 h
      obtain rfl := Option.some.inj h
      exact hF
  have L247 : ∀ (n : Nat) (x12 : Int) (s13 : MS), F_x12_qGoesOn s s13 → m_x12_qGoesOn_L247 n x12 s13 = some o → F_x12_qGoesOn s o.2 := by
    refine fr_ind (fun x12 s13 hF h => by cases h) ?_
    intro n247 ih247 x12 s13 hF h
    have h : m_x12_qGoesOn_b247 (m_x12_qGoesOn_L247 n247) x12 s13 = some o := h
    unfold m_x12_qGoesOn_b247 at h
    have J279 : ∀ (x14 : Int) (s15 : MS), F_x12_qGoesOn s s15 → m_x12_qGoesOn_J279 (m_x12_qGoesOn_L247 n247) x14 s15 = some o → F_x12_qGoesOn s o.2 := by
      intro x14 s15 hF h
      unfold m_x12_qGoesOn_J279 at h
      obtain ⟨s17, hc16, h⟩ := bn_e h
      have hF : F_x12_qGoesOn s s17 := Fr.tr hF (fr_x12_qDrops hc16) (by decide)
      exact ih247 x14 s17 hF h
    obtain ⟨r19, hc18, h⟩ := bn_e h
    obtain ⟨hr20, h⟩ := rg_e h
    by_cases c21 : r19 = 0
    · have h := if_t c21 h
      obtain ⟨r23, hc22, h⟩ := bn_e h
      obtain ⟨hr24, h⟩ := rg_e h
      by_cases c25 : r23 = 0
      · have h := if_t c25 h
        obtain ⟨r27, hc26, h⟩ := bn_e h
        obtain ⟨hr28, h⟩ := rg_e h
        by_cases c29 : r27 = 0
        · have h := if_t c29 h
          obtain ⟨r31, hc30, h⟩ := bn_e h
          obtain ⟨hr32, h⟩ := rg_e h
          by_cases c33 : r31 = 0
          · have h := if_t c33 h
            obtain ⟨hi34, h⟩ := inb_e h
            obtain ⟨s35, hs35, h⟩ := st_e h
            have hF : F_x12_qGoesOn s s35 := hs35 ▸ Fr.uA hF (by decide)
            obtain ⟨s36, hs36, h⟩ := st_e h
            have hF : F_x12_qGoesOn s s36 := hs36 ▸ Fr.uI hF (by decide)
            obtain rfl := Option.some.inj h
            exact hF
          · have h := if_f c33 h
            exact J279 x12 s13 hF h
        · have h := if_f c29 h
          exact J279 x12 s13 hF h
      · have h := if_f c25 h
        exact J279 x12 s13 hF h
    · have h := if_f c21 h
      exact J279 x12 s13 hF h
  have J246 : ∀ (x37 : Int) (s38 : MS), F_x12_qGoesOn s s38 → m_x12_qGoesOn_J246 x37 s38 = some o → F_x12_qGoesOn s o.2 := by
    intro x37 s38 hF h
    unfold m_x12_qGoesOn_J246 at h
    exact L247 FU x37 s38 hF h
  have J225 : ∀ (s39 : MS), F_x12_qGoesOn s s39 → m_x12_qGoesOn_J225 s39 = some o → F_x12_qGoesOn s o.2 := by
    intro s39 hF h
    unfold m_x12_qGoesOn_J225 at h
    obtain ⟨y40, ey40, iy40, h⟩ := rdI_e h
    obtain ⟨hr41, h⟩ := rg_e h
    by_cases c42 : y40 = 43
    · have h := if_t c42 h
      exact J246 1 s39 hF h
    · have h := if_f c42 h
      exact J246 2 s39 hF h
  have L162 : ∀ (n : Nat) (x43 : Int) (s44 : MS), F_x12_qGoesOn s s44 → m_x12_qGoesOn_L162 n x43 s44 = some o → F_x12_qGoesOn s o.2 := by
    refine fr_ind (fun x43 s44 hF h => by cases h) ?_
    intro n162 ih162 x43 s44 hF h
    have h : m_x12_qGoesOn_b162 (m_x12_qGoesOn_L162 n162) x43 s44 = some o := h
    unfold m_x12_qGoesOn_b162 at h
    have J178 : ∀ (x45 : Int) (s46 : MS), F_x12_qGoesOn s s46 → m_x12_qGoesOn_J178 (m_x12_qGoesOn_L162 n162) x45 s46 = some o → F_x12_qGoesOn s o.2 := by
      intro x45 s46 hF h
      unfold m_x12_qGoesOn_J178 at h
      obtain ⟨s48, hc47, h⟩ := bn_e h
      have hF : F_x12_qGoesOn s s48 := Fr.tr hF (fr_x12_qDrops hc47) (by decide)
      exact ih162 x45 s48 hF h
    obtain ⟨r50, hc49, h⟩ := bn_e h
    obtain ⟨hr51, h⟩ := rg_e h
    by_cases c52 : r50 = 0
    · have h := if_t c52 h
      obtain ⟨r54, hc53, h⟩ := bn_e h
      obtain ⟨hr55, h⟩ := rg_e h
      by_cases c56 : r54 = 0
      · have h := if_t c56 h
        obtain ⟨hi57, h⟩ := inb_e h
        obtain ⟨s58, hs58, h⟩ := st_e h
        have hF : F_x12_qGoesOn s s58 := hs58 ▸ Fr.uA hF (by decide)
        obtain ⟨s59, hs59, h⟩ := st_e h
        have hF : F_x12_qGoesOn s s59 := hs59 ▸ Fr.uI hF (by decide)
        obtain rfl := Option.some.inj h
        exact hF
      · have h := if_f c56 h
        exact J178 x43 s44 hF h
    · have h := if_f c52 h
      exact J178 x43 s44 hF h
  have J161 : ∀ (x60 : Int) (s61 : MS), F_x12_qGoesOn s s61 → m_x12_qGoesOn_J161 x60 s61 = some o → F_x12_qGoesOn s o.2 := by
    intro x60 s61 hF h
    unfold m_x12_qGoesOn_J161 at h
    exact L162 FU x60 s61 hF h
  have J140 : ∀ (s62 : MS), F_x12_qGoesOn s s62 → m_x12_qGoesOn_J140 s62 = some o → F_x12_qGoesOn s o.2 := by
    intro s62 hF h
    unfold m_x12_qGoesOn_J140 at h
    obtain ⟨y63, ey63, iy63, h⟩ := rdI_e h
    obtain ⟨hr64, h⟩ := rg_e h
    by_cases c65 : y63 = 42
    · have h := if_t c65 h
      exact J161 3 s62 hF h
    · have h := if_f c65 h
      exact J161 4 s62 hF h
  have J122 : ∀ (s66 : MS), F_x12_qGoesOn s s66 → m_x12_qGoesOn_J122 s66 = some o → F_x12_qGoesOn s o.2 := by
    intro s66 hF h
    unfold m_x12_qGoesOn_J122 at h
    obtain ⟨⟨r69, s68⟩, hc67, h⟩ := bn_e h
    have hF : F_x12_qGoesOn s s68 := Fr.tr hF (fr_x12_takesSign hc67) (by decide)
    obtain ⟨hr70, h⟩ := rg_e h
    by_cases c71 : r69 = 0
    · have h := if_t c71 h
      obtain ⟨⟨r74, s73⟩, hc72, h⟩ := bn_e h
      have hF : F_x12_qGoesOn s s73 := Fr.tr hF (fr_x12_takesSign hc72) (by decide)
      obtain ⟨hr75, h⟩ := rg_e h
      by_cases c76 : r74 = 0
      · have h := if_t c76 h
        obtain ⟨⟨r79, s78⟩, hc77, h⟩ := bn_e h
        have hF : F_x12_qGoesOn s s78 := Fr.tr hF (fr_x12_takesSign hc77) (by decide)
        obtain ⟨hr80, h⟩ := rg_e h
        by_cases c81 : r79 = 0
        · have h := if_t c81 h
          obtain ⟨⟨r84, s83⟩, hc82, h⟩ := bn_e h
          have hF : F_x12_qGoesOn s s83 := Fr.tr hF (fr_x12_takesSign hc82) (by decide)
          obtain ⟨hr85, h⟩ := rg_e h
          by_cases c86 : r84 = 0
          · have h := if_t c86 h
            obtain ⟨r88, hc87, h⟩ := bn_e h
            obtain ⟨hr89, h⟩ := rg_e h
            by_cases c90 : r88 = 21
            · have h := if_t c90 h
              exact J326 s83 hF h
            · have h := if_f c90 h
              obtain ⟨r92, hc91, h⟩ := bn_e h
              obtain ⟨hr93, h⟩ := rg_e h
              by_cases c94 : r92 = 22
              · have h := if_t c94 h
                exact J326 s83 hF h
              · have h := if_f c94 h
                obtain ⟨r96, hc95, h⟩ := bn_e h
                obtain ⟨hr97, h⟩ := rg_e h
                by_cases c98 : r96 = (-1)
                · have h := if_t c98 h
                  exact J386 s83 hF h
                · have h := if_f c98 h
                  obtain ⟨hr99, h⟩ := rg_e h
                  by_cases c100 : (gI s83 5) = 0
                  · have h := if_t c100 h
                    obtain ⟨s102, hc101, h⟩ := bn_e h
                    have hF : F_x12_qGoesOn s s102 := Fr.tr hF (fr_x12_fail hc101) (by decide)
                    exact J386 s102 hF h
                  · have h := if_f c100 h
                    exact J386 s83 hF h
          · have h := if_f c86 h
            exact J225 s83 hF h
        · have h := if_f c81 h
          exact J225 s78 hF h
      · have h := if_f c76 h
        exact J140 s73 hF h
    · have h := if_f c71 h
      exact J140 s68 hF h
  have L0 : ∀ (n : Nat) (s103 : MS), F_x12_qGoesOn s s103 → m_x12_qGoesOn_L0 n s103 = some o → F_x12_qGoesOn s o.2 := by
    refine fr_ind (fun s103 hF h => by cases h) ?_
    intro n0 ih0 s103 hF h
    have h : m_x12_qGoesOn_b0 (m_x12_qGoesOn_L0 n0) s103 = some o := h
    unfold m_x12_qGoesOn_b0 at h
    have J115 : ∀ (s104 : MS), F_x12_qGoesOn s s104 → m_x12_qGoesOn_J115 (m_x12_qGoesOn_L0 n0) s104 = some o → F_x12_qGoesOn s o.2 := by
      intro s104 hF h
      unfold m_x12_qGoesOn_J115 at h
      obtain ⟨s106, hc105, h⟩ := bn_e h
      have hF : F_x12_qGoesOn s s106 := Fr.tr hF (fr_x12_qEndsPart hc105) (by decide)
      exact ih0 s106 hF h
    have J112 : ∀ (x107 : Int) (s108 : MS), F_x12_qGoesOn s s108 → m_x12_qGoesOn_J112 (m_x12_qGoesOn_L0 n0) x107 s108 = some o → F_x12_qGoesOn s o.2 := by
      intro x107 s108 hF h
      unfold m_x12_qGoesOn_J112 at h
      obtain ⟨s110, hc109, h⟩ := bn_e h
      have hF : F_x12_qGoesOn s s110 := Fr.tr hF (fr_x12_qCode hc109) (by decide)
      exact J115 s110 hF h
    have J43 : ∀ (s111 : MS), F_x12_qGoesOn s s111 → m_x12_qGoesOn_J43 (m_x12_qGoesOn_L0 n0) s111 = some o → F_x12_qGoesOn s o.2 := by
      intro s111 hF h
      unfold m_x12_qGoesOn_J43 at h
      obtain ⟨s112, hs112, h⟩ := st_e h
      have hF : F_x12_qGoesOn s s112 := hs112 ▸ Fr.uI hF (by decide)
      obtain ⟨s114, hc113, h⟩ := bn_e h
      have hF : F_x12_qGoesOn s s114 := Fr.tr hF (fr_x12_qDropsToBracket hc113) (by decide)
      obtain ⟨s115, hs115, h⟩ := st_e h
      have hF : F_x12_qGoesOn s s115 := hs115 ▸ Fr.uI hF (by decide)
      obtain ⟨s116, hs116, h⟩ := st_e h
      have hF : F_x12_qGoesOn s s116 := hs116 ▸ Fr.uI hF (by decide)
      obtain ⟨y117, ey117, iy117, h⟩ := rdI_e h
      obtain ⟨hr118, h⟩ := rg_e h
      by_cases c119 : y117 = 20
      · have h := if_t c119 h
        exact J115 s116 hF h
      · have h := if_f c119 h
        obtain ⟨y120, ey120, iy120, h⟩ := rdI_e h
        obtain ⟨hr121, h⟩ := rg_e h
        by_cases c122 : y120 = 23
        · have h := if_t c122 h
          exact J112 5 s116 hF h
        · have h := if_f c122 h
          exact J112 6 s116 hF h
    obtain ⟨hr123, h⟩ := rg_e h
    by_cases c124 : (gI s103 5) = 0
    · have h := if_t c124 h
      obtain ⟨⟨r127, s126⟩, hc125, h⟩ := bn_e h
      have hF : F_x12_qGoesOn s s126 := Fr.tr hF (fr_x12_look hc125) (by decide)
      obtain ⟨hr128, h⟩ := rg_e h
      by_cases c129 : r127 = 41
      · have h := if_t c129 h
        obtain ⟨r131, hc130, h⟩ := bn_e h
        obtain ⟨hr132, h⟩ := rg_e h
        by_cases c133 : r131 = 20
        · have h := if_t c133 h
          exact J43 s126 hF h
        · have h := if_f c133 h
          obtain ⟨r135, hc134, h⟩ := bn_e h
          obtain ⟨hr136, h⟩ := rg_e h
          by_cases c137 : r135 = 23
          · have h := if_t c137 h
            exact J43 s126 hF h
          · have h := if_f c137 h
            obtain ⟨r139, hc138, h⟩ := bn_e h
            obtain ⟨hr140, h⟩ := rg_e h
            by_cases c141 : r139 = 24
            · have h := if_t c141 h
              exact J43 s126 hF h
            · have h := if_f c141 h
              exact J122 s126 hF h
      · have h := if_f c129 h
        exact J122 s126 hF h
    · have h := if_f c124 h
      exact J122 s103 hF h
  exact L0 FU s hF h
abbrev F_x12_qSums (s o : MS) : Prop := Fr [2, 4, 5, 6, 10, 102, 104, 105, 106] [101, 103] [] [] s o
theorem fr_x12_qSums {s : MS} {o : MS} (h : m_x12_qSums s = some o) : F_x12_qSums s o := by
  have hF : F_x12_qSums s s := Fr.rf s
  unfold m_x12_qSums at h
  have J78 : ∀ (x1 : Int) (s2 : MS), F_x12_qSums s s2 → m_x12_qSums_J78 x1 s2 = some o → F_x12_qSums s o := by
    intro x1 s2 hF h
    unfold m_x12_qSums_J78 at h
    obtain ⟨s3, hs3, h⟩ := st_e h
    have hF : F_x12_qSums s s3 := hs3 ▸ Fr.uI hF (by decide)
    obtain rfl := Option.some.inj h
    exact hF
  have L53 : ∀ (n : Nat) (x4 : Int) (s5 : MS), F_x12_qSums s s5 → m_x12_qSums_L53 n x4 s5 = some o → F_x12_qSums s o := by
    refine fr_ind (fun x4 s5 hF h => by cases h) ?_
    intro n53 ih53 x4 s5 hF h
    have h : m_x12_qSums_b53 (m_x12_qSums_L53 n53) x4 s5 = some o := h
    unfold m_x12_qSums_b53 at h
    obtain ⟨hr6, h⟩ := rg_e h
    by_cases c7 : (gI s5 5) = 0
    · have h := if_t c7 h
      obtain ⟨hr8, h⟩ := rg_e h
      obtain ⟨hr9, h⟩ := rg_e h
      by_cases c10 : (gI s5 104) ≤ (gI s5 106)
      · have h := if_t c10 h
        exact J78 x4 s5 hF h
      · have h := if_f c10 h
        obtain ⟨s12, hc11, h⟩ := bn_e h
        have hF : F_x12_qSums s s12 := Fr.tr hF (fr_x12_qDrops hc11) (by decide)
        exact ih53 x4 s12 hF h
    · have h := if_f c7 h
      exact J78 x4 s5 hF h
  have L15 : ∀ (n : Nat) (x13 : Int) (x14 : Int) (s15 : MS), F_x12_qSums s s15 → m_x12_qSums_L15 n x13 x14 s15 = some o → F_x12_qSums s o := by
    refine fr_ind (fun x13 x14 s15 hF h => by cases h) ?_
    intro n15 ih15 x13 x14 s15 hF h
    have h : m_x12_qSums_b15 (m_x12_qSums_L15 n15) x13 x14 s15 = some o := h
    unfold m_x12_qSums_b15 at h
    have J49 : ∀ (x16 : Int) (x17 : Int) (s18 : MS), F_x12_qSums s s18 → m_x12_qSums_J49 (m_x12_qSums_L15 n15) x16 x17 s18 = some o → F_x12_qSums s o := by
      intro x16 x17 s18 hF h
      unfold m_x12_qSums_J49 at h
      exact ih15 x16 x17 s18 hF h
    have J48 : ∀ (x19 : Int) (s20 : MS), F_x12_qSums s s20 → m_x12_qSums_J48 (m_x12_qSums_L15 n15) x19 s20 = some o → F_x12_qSums s o := by
      intro x19 s20 hF h
      unfold m_x12_qSums_J48 at h
      exact J49 x19 0 s20 hF h
    obtain ⟨hr21, h⟩ := rg_e h
    by_cases c22 : x14 = 0
    · have h := if_t c22 h
      exact L53 FU x13 s15 hF h
    · have h := if_f c22 h
      obtain ⟨hr23, h⟩ := rg_e h
      by_cases c24 : (gI s15 5) = 0
      · have h := if_t c24 h
        obtain ⟨s26, hc25, h⟩ := bn_e h
        have hF : F_x12_qSums s s26 := Fr.tr hF (fr_x12_qPartTold hc25) (by decide)
        obtain ⟨hr27, h⟩ := rg_e h
        by_cases c28 : (gI s26 5) = 0
        · have h := if_t c28 h
          obtain ⟨⟨r31, s30⟩, hc29, h⟩ := bn_e h
          have hF : F_x12_qSums s s30 := Fr.tr hF (fr_x12_qGoesOn hc29) (by decide)
          obtain ⟨hr32, h⟩ := rg_e h
          by_cases c33 : r31 = 0
          · have h := if_t c33 h
            exact J48 x13 s30 hF h
          · have h := if_f c33 h
            exact J49 x13 1 s30 hF h
        · have h := if_f c28 h
          exact J48 x13 s26 hF h
      · have h := if_f c24 h
        exact L53 FU x13 s15 hF h
  obtain ⟨s34, hs34, h⟩ := st_e h
  have hF : F_x12_qSums s s34 := hs34 ▸ Fr.uI hF (by decide)
  exact L15 FU (gI s 106) 1 s34 hF h
abbrev F_x12_qFact (s o : MS) : Prop := Fr [2, 4, 5, 6, 10, 102, 104, 105, 106] [101, 103] [] [] s o
theorem fr_x12_qFact {s : MS} {o : MS} (h : m_x12_qFact s = some o) : F_x12_qFact s o := by
  have hF : F_x12_qFact s s := Fr.rf s
  unfold m_x12_qFact at h
  have J102 : ∀ (x1 : Int) (s2 : MS), F_x12_qFact s s2 → m_x12_qFact_J102 x1 s2 = some o → F_x12_qFact s o := by
    intro x1 s2 hF h
    unfold m_x12_qFact_J102 at h
    obtain ⟨s4, hc3, h⟩ := bn_e h
    have hF : F_x12_qFact s s4 := Fr.tr hF (fr_x12_qCode hc3) (by decide)
    obtain rfl := Option.some.inj h
    exact hF
  have J63 : ∀ (x5 : Int) (s6 : MS), F_x12_qFact s s6 → m_x12_qFact_J63 x5 s6 = some o → F_x12_qFact s o := by
    intro x5 s6 hF h
    unfold m_x12_qFact_J63 at h
    obtain ⟨s7, hs7, h⟩ := st_e h
    have hF : F_x12_qFact s s7 := hs7 ▸ Fr.uI hF (by decide)
    obtain ⟨s9, hc8, h⟩ := bn_e h
    have hF : F_x12_qFact s s9 := Fr.tr hF (fr_x12_qSums hc8) (by decide)
    obtain ⟨hr10, h⟩ := rg_e h
    by_cases c11 : x5 = 60
    · have h := if_t c11 h
      exact J102 7 s9 hF h
    · have h := if_f c11 h
      obtain ⟨hr12, h⟩ := rg_e h
      by_cases c13 : x5 = 62
      · have h := if_t c13 h
        exact J102 8 s9 hF h
      · have h := if_f c13 h
        exact J102 9 s9 hF h
  obtain ⟨⟨r16, s15⟩, hc14, h⟩ := bn_e h
  have hF : F_x12_qFact s s15 := Fr.tr hF (fr_x12_takes hc14) (by decide)
  obtain ⟨hr17, h⟩ := rg_e h
  by_cases c18 : r16 = 0
  · have h := if_t c18 h
    obtain ⟨s20, hc19, h⟩ := bn_e h
    have hF : F_x12_qFact s s20 := Fr.tr hF (fr_x12_qSums hc19) (by decide)
    obtain ⟨hr21, h⟩ := rg_e h
    by_cases c22 : (gI s20 5) = 0
    · have h := if_t c22 h
      obtain ⟨⟨r25, s24⟩, hc23, h⟩ := bn_e h
      have hF : F_x12_qFact s s24 := Fr.tr hF (fr_x12_look hc23) (by decide)
      obtain ⟨hr26, h⟩ := rg_e h
      by_cases c27 : r25 = 60
      · have h := if_t c27 h
        exact J63 r25 s24 hF h
      · have h := if_f c27 h
        obtain ⟨hr28, h⟩ := rg_e h
        by_cases c29 : r25 = 62
        · have h := if_t c29 h
          exact J63 r25 s24 hF h
        · have h := if_f c29 h
          obtain ⟨hr30, h⟩ := rg_e h
          by_cases c31 : r25 = 61
          · have h := if_t c31 h
            exact J63 r25 s24 hF h
          · have h := if_f c31 h
            obtain ⟨s33, hc32, h⟩ := bn_e h
            have hF : F_x12_qFact s s33 := Fr.tr hF (fr_x12_fail hc32) (by decide)
            obtain rfl := Option.some.inj h
            exact hF
    · have h := if_f c22 h
      obtain rfl := Option.some.inj h
      exact hF
  · have h := if_f c18 h
    obtain ⟨s35, hc34, h⟩ := bn_e h
    have hF : F_x12_qFact s s35 := Fr.tr hF (fr_x12_qCode hc34) (by decide)
    obtain rfl := Option.some.inj h
    exact hF
abbrev F_x12_qDropsNots (s o : MS) : Prop := Fr [102, 104, 105] [101] [] [] s o
theorem fr_x12_qDropsNots {s : MS} {o : MS} (h : m_x12_qDropsNots s = some o) : F_x12_qDropsNots s o := by
  have hF : F_x12_qDropsNots s s := Fr.rf s
  unfold m_x12_qDropsNots at h
  have J33 : ∀ (s1 : MS), F_x12_qDropsNots s s1 → m_x12_qDropsNots_J33 s1 = some o → F_x12_qDropsNots s o := by
    intro s1 hF h
    unfold m_x12_qDropsNots_J33 at h
    obtain rfl := Option.some.inj h
    exact hF
  have L0 : ∀ (n : Nat) (s2 : MS), F_x12_qDropsNots s s2 → m_x12_qDropsNots_L0 n s2 = some o → F_x12_qDropsNots s o := by
    refine fr_ind (fun s2 hF h => by cases h) ?_
    intro n0 ih0 s2 hF h
    have h : m_x12_qDropsNots_b0 (m_x12_qDropsNots_L0 n0) s2 = some o := h
    unfold m_x12_qDropsNots_b0 at h
    obtain ⟨hr3, h⟩ := rg_e h
    by_cases c4 : (gI s2 5) = 0
    · have h := if_t c4 h
      obtain ⟨r6, hc5, h⟩ := bn_e h
      obtain ⟨hr7, h⟩ := rg_e h
      by_cases c8 : r6 = 0
      · have h := if_t c8 h
        exact J33 s2 hF h
      · have h := if_f c8 h
        obtain ⟨s9, hs9, h⟩ := st_e h
        have hF : F_x12_qDropsNots s s9 := hs9 ▸ Fr.uI hF (by decide)
        obtain ⟨s11, hc10, h⟩ := bn_e h
        have hF : F_x12_qDropsNots s s11 := Fr.tr hF (fr_x12_qDrops hc10) (by decide)
        exact ih0 s11 hF h
    · have h := if_f c4 h
      exact J33 s2 hF h
  exact L0 FU s hF h
abbrev F_x12_qGoesOnTest (s o : MS) : Prop := Fr [2, 4, 5, 6, 102, 104, 105] [101, 103] [] [] s o
theorem fr_x12_qGoesOnTest {s : MS} {o : (Int × MS)} (h : m_x12_qGoesOnTest s = some o) : F_x12_qGoesOnTest s o.2 := by
  have hF : F_x12_qGoesOnTest s s := Fr.rf s
  unfold m_x12_qGoesOnTest at h
  have J208 : ∀ (s1 : MS), F_x12_qGoesOnTest s s1 → m_x12_qGoesOnTest_J208 s1 = some o → F_x12_qGoesOnTest s o.2 := by
    intro s1 hF h
    unfold m_x12_qGoesOnTest_J208 at h
    obtain rfl := Option.some.inj h
    exact hF
  have L137 : ∀ (n : Nat) (s2 : MS), F_x12_qGoesOnTest s s2 → m_x12_qGoesOnTest_L137 n s2 = some o → F_x12_qGoesOnTest s o.2 := by
    refine fr_ind (fun s2 hF h => by cases h) ?_
    intro n137 ih137 s2 hF h
    have h : m_x12_qGoesOnTest_b137 (m_x12_qGoesOnTest_L137 n137) s2 = some o := h
    unfold m_x12_qGoesOnTest_b137 at h
    have J155 : ∀ (s3 : MS), F_x12_qGoesOnTest s s3 → m_x12_qGoesOnTest_J155 (m_x12_qGoesOnTest_L137 n137) s3 = some o → F_x12_qGoesOnTest s o.2 := by
      intro s3 hF h
      unfold m_x12_qGoesOnTest_J155 at h
      obtain ⟨s5, hc4, h⟩ := bn_e h
      have hF : F_x12_qGoesOnTest s s5 := Fr.tr hF (fr_x12_qDrops hc4) (by decide)
      exact ih137 s5 hF h
    obtain ⟨r7, hc6, h⟩ := bn_e h
    obtain ⟨hr8, h⟩ := rg_e h
    by_cases c9 : r7 = 0
    · have h := if_t c9 h
      obtain ⟨r11, hc10, h⟩ := bn_e h
      obtain ⟨hr12, h⟩ := rg_e h
      by_cases c13 : r11 = 0
      · have h := if_t c13 h
        obtain ⟨hi14, h⟩ := inb_e h
        obtain ⟨s15, hs15, h⟩ := st_e h
        have hF : F_x12_qGoesOnTest s s15 := hs15 ▸ Fr.uA hF (by decide)
        obtain ⟨s16, hs16, h⟩ := st_e h
        have hF : F_x12_qGoesOnTest s s16 := hs16 ▸ Fr.uI hF (by decide)
        obtain rfl := Option.some.inj h
        exact hF
      · have h := if_f c13 h
        exact J155 s2 hF h
    · have h := if_f c9 h
      exact J155 s2 hF h
  have L87 : ∀ (n : Nat) (s17 : MS), F_x12_qGoesOnTest s s17 → m_x12_qGoesOnTest_L87 n s17 = some o → F_x12_qGoesOnTest s o.2 := by
    refine fr_ind (fun s17 hF h => by cases h) ?_
    intro n87 ih87 s17 hF h
    have h : m_x12_qGoesOnTest_b87 (m_x12_qGoesOnTest_L87 n87) s17 = some o := h
    unfold m_x12_qGoesOnTest_b87 at h
    obtain ⟨r19, hc18, h⟩ := bn_e h
    obtain ⟨hr20, h⟩ := rg_e h
    by_cases c21 : r19 = 0
    · have h := if_t c21 h
      obtain ⟨hi22, h⟩ := inb_e h
      obtain ⟨s23, hs23, h⟩ := st_e h
      have hF : F_x12_qGoesOnTest s s23 := hs23 ▸ Fr.uA hF (by decide)
      obtain ⟨s24, hs24, h⟩ := st_e h
      have hF : F_x12_qGoesOnTest s s24 := hs24 ▸ Fr.uI hF (by decide)
      obtain rfl := Option.some.inj h
      exact hF
    · have h := if_f c21 h
      obtain ⟨s26, hc25, h⟩ := bn_e h
      have hF : F_x12_qGoesOnTest s s26 := Fr.tr hF (fr_x12_qDrops hc25) (by decide)
      exact ih87 s26 hF h
  have J76 : ∀ (s27 : MS), F_x12_qGoesOnTest s s27 → m_x12_qGoesOnTest_J76 s27 = some o → F_x12_qGoesOnTest s o.2 := by
    intro s27 hF h
    unfold m_x12_qGoesOnTest_J76 at h
    obtain ⟨⟨r30, s29⟩, hc28, h⟩ := bn_e h
    have hF : F_x12_qGoesOnTest s s29 := Fr.tr hF (fr_x12_takes hc28) (by decide)
    obtain ⟨hr31, h⟩ := rg_e h
    by_cases c32 : r30 = 0
    · have h := if_t c32 h
      obtain ⟨⟨r35, s34⟩, hc33, h⟩ := bn_e h
      have hF : F_x12_qGoesOnTest s s34 := Fr.tr hF (fr_x12_takes hc33) (by decide)
      obtain ⟨hr36, h⟩ := rg_e h
      by_cases c37 : r35 = 0
      · have h := if_t c37 h
        obtain ⟨hr38, h⟩ := rg_e h
        by_cases c39 : (gI s34 5) = 0
        · have h := if_t c39 h
          obtain ⟨r41, hc40, h⟩ := bn_e h
          obtain ⟨hr42, h⟩ := rg_e h
          by_cases c43 : r41 = 0
          · have h := if_t c43 h
            exact J208 s34 hF h
          · have h := if_f c43 h
            obtain ⟨s45, hc44, h⟩ := bn_e h
            have hF : F_x12_qGoesOnTest s s45 := Fr.tr hF (fr_x12_fail hc44) (by decide)
            exact J208 s45 hF h
        · have h := if_f c39 h
          exact J208 s34 hF h
      · have h := if_f c37 h
        exact L137 FU s34 hF h
    · have h := if_f c32 h
      exact L87 FU s29 hF h
  have L0 : ∀ (n : Nat) (s46 : MS), F_x12_qGoesOnTest s s46 → m_x12_qGoesOnTest_L0 n s46 = some o → F_x12_qGoesOnTest s o.2 := by
    refine fr_ind (fun s46 hF h => by cases h) ?_
    intro n0 ih0 s46 hF h
    have h : m_x12_qGoesOnTest_b0 (m_x12_qGoesOnTest_L0 n0) s46 = some o := h
    unfold m_x12_qGoesOnTest_b0 at h
    have L33 : ∀ (n : Nat) (s47 : MS), F_x12_qGoesOnTest s s47 → m_x12_qGoesOnTest_L33 (m_x12_qGoesOnTest_L0 n0) n s47 = some o → F_x12_qGoesOnTest s o.2 := by
      refine fr_ind (fun s47 hF h => by cases h) ?_
      intro n33 ih33 s47 hF h
      have h : m_x12_qGoesOnTest_b33 (m_x12_qGoesOnTest_L0 n0) (m_x12_qGoesOnTest_L33 (m_x12_qGoesOnTest_L0 n0) n33) s47 = some o := h
      unfold m_x12_qGoesOnTest_b33 at h
      obtain ⟨r49, hc48, h⟩ := bn_e h
      obtain ⟨hr50, h⟩ := rg_e h
      by_cases c51 : r49 = 0
      · have h := if_t c51 h
        obtain ⟨s57, hc56, h⟩ := bn_e h
        have hF : F_x12_qGoesOnTest s s57 := Fr.tr hF (fr_x12_qDrops hc56) (by decide)
        exact ih33 s57 hF h
      · have h := if_f c51 h
        obtain ⟨s52, hs52, h⟩ := st_e h
        have hF : F_x12_qGoesOnTest s s52 := hs52 ▸ Fr.uI hF (by decide)
        obtain ⟨s53, hs53, h⟩ := st_e h
        have hF : F_x12_qGoesOnTest s s53 := hs53 ▸ Fr.uI hF (by decide)
        obtain ⟨s55, hc54, h⟩ := bn_e h
        have hF : F_x12_qGoesOnTest s s55 := Fr.tr hF (fr_x12_qDropsNots hc54) (by decide)
        exact ih0 s55 hF h
    obtain ⟨hr58, h⟩ := rg_e h
    by_cases c59 : (gI s46 5) = 0
    · have h := if_t c59 h
      obtain ⟨⟨r62, s61⟩, hc60, h⟩ := bn_e h
      have hF : F_x12_qGoesOnTest s s61 := Fr.tr hF (fr_x12_look hc60) (by decide)
      obtain ⟨hr63, h⟩ := rg_e h
      by_cases c64 : r62 = 93
      · have h := if_t c64 h
        obtain ⟨r66, hc65, h⟩ := bn_e h
        obtain ⟨hr67, h⟩ := rg_e h
        by_cases c68 : r66 = 0
        · have h := if_t c68 h
          exact J76 s61 hF h
        · have h := if_f c68 h
          obtain ⟨s69, hs69, h⟩ := st_e h
          have hF : F_x12_qGoesOnTest s s69 := hs69 ▸ Fr.uI hF (by decide)
          exact L33 FU s69 hF h
      · have h := if_f c64 h
        exact J76 s61 hF h
    · have h := if_f c59 h
      exact J76 s46 hF h
  exact L0 FU s hF h
abbrev F_x12_qTest (s o : MS) : Prop := Fr [2, 4, 5, 6, 10, 102, 104, 105, 106] [101, 103] [] [] s o
theorem fr_x12_qTest {s : MS} {o : MS} (h : m_x12_qTest s = some o) : F_x12_qTest s o := by
  have hF : F_x12_qTest s s := Fr.rf s
  unfold m_x12_qTest at h
  have J131 : ∀ (s1 : MS), F_x12_qTest s s1 → m_x12_qTest_J131 s1 = some o → F_x12_qTest s o := by
    intro s1 hF h
    unfold m_x12_qTest_J131 at h
    obtain rfl := Option.some.inj h
    exact hF
  have L110 : ∀ (n : Nat) (s2 : MS), F_x12_qTest s s2 → m_x12_qTest_L110 n s2 = some o → F_x12_qTest s o := by
    refine fr_ind (fun s2 hF h => by cases h) ?_
    intro n110 ih110 s2 hF h
    have h : m_x12_qTest_b110 (m_x12_qTest_L110 n110) s2 = some o := h
    unfold m_x12_qTest_b110 at h
    obtain ⟨hr3, h⟩ := rg_e h
    by_cases c4 : (gI s2 5) = 0
    · have h := if_t c4 h
      obtain ⟨hr5, h⟩ := rg_e h
      by_cases c6 : (gI s2 104) ≤ 0
      · have h := if_t c6 h
        exact J131 s2 hF h
      · have h := if_f c6 h
        obtain ⟨s8, hc7, h⟩ := bn_e h
        have hF : F_x12_qTest s s8 := Fr.tr hF (fr_x12_qDrops hc7) (by decide)
        exact ih110 s8 hF h
    · have h := if_f c4 h
      exact J131 s2 hF h
  have L2 : ∀ (n : Nat) (x9 : Int) (s10 : MS), F_x12_qTest s s10 → m_x12_qTest_L2 n x9 s10 = some o → F_x12_qTest s o := by
    refine fr_ind (fun x9 s10 hF h => by cases h) ?_
    intro n2 ih2 x9 s10 hF h
    have h : m_x12_qTest_b2 (m_x12_qTest_L2 n2) x9 s10 = some o := h
    unfold m_x12_qTest_b2 at h
    have J106 : ∀ (x11 : Int) (s12 : MS), F_x12_qTest s s12 → m_x12_qTest_J106 (m_x12_qTest_L2 n2) x11 s12 = some o → F_x12_qTest s o := by
      intro x11 s12 hF h
      unfold m_x12_qTest_J106 at h
      exact ih2 x11 s12 hF h
    have J105 : ∀ (s13 : MS), F_x12_qTest s s13 → m_x12_qTest_J105 (m_x12_qTest_L2 n2) s13 = some o → F_x12_qTest s o := by
      intro s13 hF h
      unfold m_x12_qTest_J105 at h
      exact J106 0 s13 hF h
    obtain ⟨hr14, h⟩ := rg_e h
    by_cases c15 : x9 = 0
    · have h := if_t c15 h
      exact L110 FU s10 hF h
    · have h := if_f c15 h
      obtain ⟨hr16, h⟩ := rg_e h
      by_cases c17 : (gI s10 5) = 0
      · have h := if_t c17 h
        obtain ⟨⟨r20, s19⟩, hc18, h⟩ := bn_e h
        have hF : F_x12_qTest s s19 := Fr.tr hF (fr_x12_look hc18) (by decide)
        obtain ⟨hr21, h⟩ := rg_e h
        by_cases c22 : r20 = 91
        · have h := if_t c22 h
          obtain ⟨s44, hc43, h⟩ := bn_e h
          have hF : F_x12_qTest s s44 := Fr.tr hF (fr_x12_qOpens hc43) (by decide)
          obtain ⟨s45, hs45, h⟩ := st_e h
          have hF : F_x12_qTest s s45 := hs45 ▸ Fr.uI hF (by decide)
          exact ih2 x9 s45 hF h
        · have h := if_f c22 h
          obtain ⟨⟨r25, s24⟩, hc23, h⟩ := bn_e h
          have hF : F_x12_qTest s s24 := Fr.tr hF (fr_x12_isHere hc23) (by decide)
          obtain ⟨hr26, h⟩ := rg_e h
          by_cases c27 : r25 = 0
          · have h := if_t c27 h
            obtain ⟨s29, hc28, h⟩ := bn_e h
            have hF : F_x12_qTest s s29 := Fr.tr hF (fr_x12_qFact hc28) (by decide)
            obtain ⟨s31, hc30, h⟩ := bn_e h
            have hF : F_x12_qTest s s31 := Fr.tr hF (fr_x12_qDropsNots hc30) (by decide)
            obtain ⟨hr32, h⟩ := rg_e h
            by_cases c33 : (gI s31 5) = 0
            · have h := if_t c33 h
              obtain ⟨⟨r36, s35⟩, hc34, h⟩ := bn_e h
              have hF : F_x12_qTest s s35 := Fr.tr hF (fr_x12_qGoesOnTest hc34) (by decide)
              obtain ⟨hr37, h⟩ := rg_e h
              by_cases c38 : r36 = 0
              · have h := if_t c38 h
                exact J105 s35 hF h
              · have h := if_f c38 h
                exact J106 1 s35 hF h
            · have h := if_f c33 h
              exact J105 s31 hF h
          · have h := if_f c27 h
            obtain ⟨s40, hc39, h⟩ := bn_e h
            have hF : F_x12_qTest s s40 := Fr.tr hF (fr_x12_qOpens hc39) (by decide)
            obtain ⟨s42, hc41, h⟩ := bn_e h
            have hF : F_x12_qTest s s42 := Fr.tr hF (fr_x12_asks hc41) (by decide)
            exact ih2 x9 s42 hF h
      · have h := if_f c17 h
        exact L110 FU s10 hF h
  exact L2 FU 1 s hF h
abbrev F_x12_codesTold (s o : MS) : Prop := Fr [2, 4, 5, 6, 10, 45, 48, 102, 104, 105, 106] [42, 43, 44, 101, 103] [] [] s o
theorem fr_x12_codesTold {p0 : Int} {p1 : Int} {s : MS} {o : MS} (h : m_x12_codesTold p0 p1 s = some o) : F_x12_codesTold s o := by
  have hF : F_x12_codesTold s s := Fr.rf s
  unfold m_x12_codesTold at h
  have L92 : ∀ (n : Nat) (x1 : Int) (x2 : Int) (s3 : MS), F_x12_codesTold s s3 → m_x12_codesTold_L92 n x1 x2 s3 = some o → F_x12_codesTold s o := by
    refine fr_ind (fun x1 x2 s3 hF h => by cases h) ?_
    intro n92 ih92 x1 x2 s3 hF h
    have h : m_x12_codesTold_b92 (m_x12_codesTold_L92 n92) x1 x2 s3 = some o := h
    unfold m_x12_codesTold_b92 at h
    obtain ⟨hr4, h⟩ := rg_e h
    obtain ⟨hr5, h⟩ := rg_e h
    by_cases c6 : (gI s3 102) ≤ x2
    · have h := if_t c6 h
      obtain ⟨hi7, h⟩ := inb_e h
      obtain ⟨s8, hs8, h⟩ := st_e h
      have hF : F_x12_codesTold s s8 := hs8 ▸ Fr.uA hF (by decide)
      obtain rfl := Option.some.inj h
      exact hF
    · have h := if_f c6 h
      obtain ⟨y9, ey9, iy9, h⟩ := rdI_e h
      obtain ⟨hi10, h⟩ := inb_e h
      obtain ⟨s11, hs11, h⟩ := st_e h
      have hF : F_x12_codesTold s s11 := hs11 ▸ Fr.uA hF (by decide)
      obtain ⟨s12, hs12, h⟩ := st_e h
      have hF : F_x12_codesTold s s12 := hs12 ▸ Fr.uI hF (by decide)
      exact ih92 x1 (x2 + 1) s12 hF h
  have J72 : ∀ (x13 : Int) (s14 : MS), F_x12_codesTold s s14 → m_x12_codesTold_J72 x13 s14 = some o → F_x12_codesTold s o := by
    intro x13 s14 hF h
    unfold m_x12_codesTold_J72 at h
    obtain ⟨hr15, h⟩ := rg_e h
    by_cases c16 : (gI s14 5) = 0
    · have h := if_t c16 h
      obtain ⟨hi17, h⟩ := inb_e h
      obtain ⟨s18, hs18, h⟩ := st_e h
      have hF : F_x12_codesTold s s18 := hs18 ▸ Fr.uA hF (by decide)
      exact L92 FU x13 0 s18 hF h
    · have h := if_f c16 h
      obtain rfl := Option.some.inj h
      exact hF
  have J23 : ∀ (x19 : Int) (s20 : MS), F_x12_codesTold s s20 → m_x12_codesTold_J23 x19 s20 = some o → F_x12_codesTold s o := by
    intro x19 s20 hF h
    unfold m_x12_codesTold_J23 at h
    obtain ⟨hr21, h⟩ := rg_e h
    by_cases c22 : (gI s20 5) = 0
    · have h := if_t c22 h
      obtain ⟨s23, hs23, h⟩ := st_e h
      have hF : F_x12_codesTold s s23 := hs23 ▸ Fr.uI hF (by decide)
      obtain ⟨s24, hs24, h⟩ := st_e h
      have hF : F_x12_codesTold s s24 := hs24 ▸ Fr.uI hF (by decide)
      obtain ⟨s25, hs25, h⟩ := st_e h
      have hF : F_x12_codesTold s s25 := hs25 ▸ Fr.uI hF (by decide)
      obtain ⟨s26, hs26, h⟩ := st_e h
      have hF : F_x12_codesTold s s26 := hs26 ▸ Fr.uI hF (by decide)
      obtain ⟨s27, hs27, h⟩ := st_e h
      have hF : F_x12_codesTold s s27 := hs27 ▸ Fr.uI hF (by decide)
      obtain ⟨hr28, h⟩ := rg_e h
      by_cases c29 : x19 = 1
      · have h := if_t c29 h
        obtain ⟨s33, hc32, h⟩ := bn_e h
        have hF : F_x12_codesTold s s33 := Fr.tr hF (fr_x12_qTest hc32) (by decide)
        exact J72 x19 s33 hF h
      · have h := if_f c29 h
        obtain ⟨s31, hc30, h⟩ := bn_e h
        have hF : F_x12_codesTold s s31 := Fr.tr hF (fr_x12_qSums hc30) (by decide)
        exact J72 x19 s31 hF h
    · have h := if_f c22 h
      obtain rfl := Option.some.inj h
      exact hF
  obtain ⟨hr34, h⟩ := rg_e h
  by_cases c35 : (gI s 5) = 0
  · have h := if_t c35 h
    obtain ⟨y36, ey36, iy36, h⟩ := rdI_e h
    obtain ⟨hr37, h⟩ := rg_e h
    by_cases c38 : y36 = (-1)
    · have h := if_t c38 h
      exact J23 p0 s hF h
    · have h := if_f c38 h
      obtain ⟨s40, hc39, h⟩ := bn_e h
      have hF : F_x12_codesTold s s40 := Fr.tr hF (fr_x12_fail hc39) (by decide)
      exact J23 p0 s40 hF h
  · have h := if_f c35 h
    exact J23 p0 s hF h
abbrev F_x12_statementTold (s o : MS) : Prop := Fr [2, 4, 5, 6, 10, 38, 45, 46, 48, 102, 104, 105, 106] [39, 41, 42, 43, 44, 101, 103] [] [40] s o
theorem fr_x12_statementTold {s : MS} {o : MS} (h : m_x12_statementTold s = some o) : F_x12_statementTold s o := by
  have hF : F_x12_statementTold s s := Fr.rf s
  unfold m_x12_statementTold at h
  have J178 : ∀ (s1 : MS), F_x12_statementTold s s1 → m_x12_statementTold_J178 s1 = some o → F_x12_statementTold s o := by
    intro s1 hF h
    unfold m_x12_statementTold_J178 at h
    obtain ⟨s3, hc2, h⟩ := bn_e h
    have hF : F_x12_statementTold s s3 := Fr.tr hF (fr_x12_asksSign hc2) (by decide)
    obtain ⟨s4, hs4, h⟩ := st_e h
    have hF : F_x12_statementTold s s4 := hs4 ▸ Fr.uI hF (by decide)
    obtain rfl := Option.some.inj h
    exact hF
  obtain ⟨hr5, h⟩ := rg_e h
  by_cases c6 : (gI s 46) = 60
  · have h := if_t c6 h
    obtain ⟨s64, hc63, h⟩ := bn_e h
    have hF : F_x12_statementTold s s64 := Fr.tr hF (fr_x12_fail hc63) (by decide)
    obtain rfl := Option.some.inj h
    exact hF
  · have h := if_f c6 h
    obtain ⟨⟨r9, s8⟩, hc7, h⟩ := bn_e h
    have hF : F_x12_statementTold s s8 := Fr.tr hF (fr_x12_takes hc7) (by decide)
    obtain ⟨hr10, h⟩ := rg_e h
    by_cases c11 : r9 = 0
    · have h := if_t c11 h
      obtain ⟨⟨r14, s13⟩, hc12, h⟩ := bn_e h
      have hF : F_x12_statementTold s s13 := Fr.tr hF (fr_x12_takes hc12) (by decide)
      obtain ⟨hr15, h⟩ := rg_e h
      by_cases c16 : r14 = 0
      · have h := if_t c16 h
        obtain ⟨⟨r19, s18⟩, hc17, h⟩ := bn_e h
        have hF : F_x12_statementTold s s18 := Fr.tr hF (fr_x12_takes hc17) (by decide)
        obtain ⟨hr20, h⟩ := rg_e h
        by_cases c21 : r19 = 0
        · have h := if_t c21 h
          obtain ⟨⟨r24, s23⟩, hc22, h⟩ := bn_e h
          have hF : F_x12_statementTold s s23 := Fr.tr hF (fr_x12_takes hc22) (by decide)
          obtain ⟨hr25, h⟩ := rg_e h
          by_cases c26 : r24 = 0
          · have h := if_t c26 h
            obtain ⟨⟨r29, s28⟩, hc27, h⟩ := bn_e h
            have hF : F_x12_statementTold s s28 := Fr.tr hF (fr_x12_takes hc27) (by decide)
            obtain ⟨hr30, h⟩ := rg_e h
            by_cases c31 : r29 = 0
            · have h := if_t c31 h
              obtain ⟨⟨r34, s33⟩, hc32, h⟩ := bn_e h
              have hF : F_x12_statementTold s s33 := Fr.tr hF (fr_x12_takes hc32) (by decide)
              obtain ⟨hr35, h⟩ := rg_e h
              by_cases c36 : r34 = 0
              · have h := if_t c36 h
                obtain ⟨⟨r39, s38⟩, hc37, h⟩ := bn_e h
                have hF : F_x12_statementTold s s38 := Fr.tr hF (fr_x12_takes hc37) (by decide)
                obtain ⟨hr40, h⟩ := rg_e h
                by_cases c41 : r39 = 0
                · have h := if_t c41 h
                  obtain ⟨s43, hc42, h⟩ := bn_e h
                  have hF : F_x12_statementTold s s43 := Fr.tr hF (fr_x12_asks hc42) (by decide)
                  obtain ⟨⟨r46, s45⟩, hc44, h⟩ := bn_e h
                  have hF : F_x12_statementTold s s45 := Fr.tr hF (fr_x12_number hc44) (by decide)
                  obtain ⟨hi47, h⟩ := inb_e h
                  obtain ⟨s48, hs48, h⟩ := st_e h
                  have hF : F_x12_statementTold s s48 := hs48 ▸ Fr.uA hF (by decide)
                  exact J178 s48 hF h
                · have h := if_f c41 h
                  obtain ⟨s50, hc49, h⟩ := bn_e h
                  have hF : F_x12_statementTold s s50 := Fr.tr hF (fr_x12_codesTold hc49) (by decide)
                  exact J178 s50 hF h
              · have h := if_f c36 h
                obtain ⟨s52, hc51, h⟩ := bn_e h
                have hF : F_x12_statementTold s s52 := Fr.tr hF (fr_x12_codesTold hc51) (by decide)
                exact J178 s52 hF h
            · have h := if_f c31 h
              obtain ⟨s54, hc53, h⟩ := bn_e h
              have hF : F_x12_statementTold s s54 := Fr.tr hF (fr_x12_codesTold hc53) (by decide)
              exact J178 s54 hF h
          · have h := if_f c26 h
            obtain ⟨s56, hc55, h⟩ := bn_e h
            have hF : F_x12_statementTold s s56 := Fr.tr hF (fr_x12_removeTold hc55) (by decide)
            exact J178 s56 hF h
        · have h := if_f c21 h
          obtain ⟨s58, hc57, h⟩ := bn_e h
          have hF : F_x12_statementTold s s58 := Fr.tr hF (fr_x12_putTold hc57) (by decide)
          exact J178 s58 hF h
      · have h := if_f c16 h
        obtain ⟨s60, hc59, h⟩ := bn_e h
        have hF : F_x12_statementTold s s60 := Fr.tr hF (fr_x12_volumeTold hc59) (by decide)
        exact J178 s60 hF h
    · have h := if_f c11 h
      obtain ⟨s62, hc61, h⟩ := bn_e h
      have hF : F_x12_statementTold s s62 := Fr.tr hF (fr_x12_volumeTold hc61) (by decide)
      exact J178 s62 hF h
abbrev F_x12_checks (s o : MS) : Prop := Fr [] [49] [] [] s o
theorem fr_x12_checks {s : MS} {o : MS} (h : m_x12_checks s = some o) : F_x12_checks s o := by
  have hF : F_x12_checks s s := Fr.rf s
  unfold m_x12_checks at h
  have L31 : ∀ (n : Nat) (x1 : Int) (s2 : MS), F_x12_checks s s2 → m_x12_checks_L31 n x1 s2 = some o → F_x12_checks s o := by
    refine fr_ind (fun x1 s2 hF h => by cases h) ?_
    intro n31 ih31 x1 s2 hF h
    have h : m_x12_checks_b31 (m_x12_checks_L31 n31) x1 s2 = some o := h
    unfold m_x12_checks_b31 at h
    obtain ⟨hr3, h⟩ := rg_e h
    by_cases c4 : 48 ≤ x1
    · have h := if_t c4 h
      obtain rfl := Option.some.inj h
      exact hF
    · have h := if_f c4 h
      obtain ⟨r6, hc5, h⟩ := bn_e h
      obtain ⟨hi7, h⟩ := inb_e h
      obtain ⟨s8, hs8, h⟩ := st_e h
      have hF : F_x12_checks s s8 := hs8 ▸ Fr.uA hF (by decide)
      exact ih31 (x1 + 1) s8 hF h
  have L2 : ∀ (n : Nat) (x9 : Int) (s10 : MS), F_x12_checks s s10 → m_x12_checks_L2 n x9 s10 = some o → F_x12_checks s o := by
    refine fr_ind (fun x9 s10 hF h => by cases h) ?_
    intro n2 ih2 x9 s10 hF h
    have h : m_x12_checks_b2 (m_x12_checks_L2 n2) x9 s10 = some o := h
    unfold m_x12_checks_b2 at h
    obtain ⟨hr11, h⟩ := rg_e h
    by_cases c12 : 8 ≤ x9
    · have h := if_t c12 h
      exact L31 FU 0 s10 hF h
    · have h := if_f c12 h
      obtain ⟨y13, ey13, iy13, h⟩ := rdI_e h
      obtain ⟨hi14, h⟩ := inb_e h
      obtain ⟨s15, hs15, h⟩ := st_e h
      have hF : F_x12_checks s s15 := hs15 ▸ Fr.uA hF (by decide)
      exact ih2 (x9 + 1) s15 hF h
  exact L2 FU 0 s hF h
abbrev F_x12_counts (s o : MS) : Prop := Fr [] [49] [] [] s o
theorem fr_x12_counts {p0 : Int} {p1 : Int} {s : MS} {o : MS} (h : m_x12_counts p0 p1 s = some o) : F_x12_counts s o := by
  have hF : F_x12_counts s s := Fr.rf s
  unfold m_x12_counts at h
  obtain ⟨y1, ey1, iy1, h⟩ := rdI_e h
  obtain ⟨hi2, h⟩ := inb_e h
  obtain ⟨s3, hs3, h⟩ := st_e h
  have hF : F_x12_counts s s3 := hs3 ▸ Fr.uA hF (by decide)
  obtain rfl := Option.some.inj h
  exact hF
abbrev F_x12_lowers (s o : MS) : Prop := Fr [] [49] [] [] s o
theorem fr_x12_lowers {p0 : Int} {s : MS} {o : MS} (h : m_x12_lowers p0 s = some o) : F_x12_lowers s o := by
  have hF : F_x12_lowers s s := Fr.rf s
  unfold m_x12_lowers at h
  have J63 : ∀ (s1 : MS), F_x12_lowers s s1 → m_x12_lowers_J63 s1 = some o → F_x12_lowers s o := by
    intro s1 hF h
    unfold m_x12_lowers_J63 at h
    obtain rfl := Option.some.inj h
    exact hF
  have L7 : ∀ (n : Nat) (x2 : Int) (x3 : Int) (s4 : MS), F_x12_lowers s s4 → m_x12_lowers_L7 n x2 x3 s4 = some o → F_x12_lowers s o := by
    refine fr_ind (fun x2 x3 s4 hF h => by cases h) ?_
    intro n7 ih7 x2 x3 s4 hF h
    have h : m_x12_lowers_b7 (m_x12_lowers_L7 n7) x2 x3 s4 = some o := h
    unfold m_x12_lowers_b7 at h
    have J51 : ∀ (x5 : Int) (x6 : Int) (s7 : MS), F_x12_lowers s s7 → m_x12_lowers_J51 (m_x12_lowers_L7 n7) x5 x6 s7 = some o → F_x12_lowers s o := by
      intro x5 x6 s7 hF h
      unfold m_x12_lowers_J51 at h
      obtain ⟨hi8, h⟩ := inb_e h
      obtain ⟨s9, hs9, h⟩ := st_e h
      have hF : F_x12_lowers s s9 := hs9 ▸ Fr.uA hF (by decide)
      exact ih7 x5 x6 s9 hF h
    obtain ⟨r11, hc10, h⟩ := bn_e h
    obtain ⟨hr12, h⟩ := rg_e h
    by_cases c13 : r11 ≤ 0
    · have h := if_t c13 h
      exact J63 s4 hF h
    · have h := if_f c13 h
      obtain ⟨r15, hc14, h⟩ := bn_e h
      obtain ⟨hr16, h⟩ := rg_e h
      by_cases c17 : r15 = 1
      · have h := if_t c17 h
        obtain ⟨r19, hc18, h⟩ := bn_e h
        obtain ⟨s21, hc20, h⟩ := bn_e h
        have hF : F_x12_lowers s s21 := Fr.tr hF (fr_x12_counts hc20) (by decide)
        obtain ⟨r23, hc22, h⟩ := bn_e h
        obtain ⟨hr24, h⟩ := rg_e h
        by_cases c25 : r23 ≤ 0
        · have h := if_t c25 h
          exact J51 x2 r19 s21 hF h
        · have h := if_f c25 h
          obtain ⟨s27, hc26, h⟩ := bn_e h
          have hF : F_x12_lowers s s27 := Fr.tr hF (fr_x12_counts hc26) (by decide)
          exact J51 x2 r19 s27 hF h
      · have h := if_f c17 h
        exact J63 s4 hF h
  obtain ⟨y28, ey28, iy28, h⟩ := rdI_e h
  exact L7 FU p0 y28 s hF h
abbrev F_x12_setsEntry (s o : MS) : Prop := Fr [] [49, 54] [] [] s o
theorem fr_x12_setsEntry {p0 : Int} {p1 : Int} {p2 : Int} {p3 : Int} {s : MS} {o : MS} (h : m_x12_setsEntry p0 p1 p2 p3 s = some o) : F_x12_setsEntry s o := by
  have hF : F_x12_setsEntry s s := Fr.rf s
  unfold m_x12_setsEntry at h
  obtain ⟨hi1, h⟩ := inb_e h
  obtain ⟨s2, hs2, h⟩ := st_e h
  have hF : F_x12_setsEntry s s2 := hs2 ▸ Fr.uA hF (by decide)
  obtain ⟨hi3, h⟩ := inb_e h
  obtain ⟨s4, hs4, h⟩ := st_e h
  have hF : F_x12_setsEntry s s4 := hs4 ▸ Fr.uA hF (by decide)
  obtain ⟨hi5, h⟩ := inb_e h
  obtain ⟨hb6, h⟩ := bo_e h
  obtain ⟨s7, hs7, h⟩ := st_e h
  have hF : F_x12_setsEntry s s7 := hs7 ▸ Fr.uA hF (by decide)
  obtain rfl := Option.some.inj h
  exact hF
abbrev F_x12_cutsEntry (s o : MS) : Prop := Fr [] [49, 54] [] [] s o
theorem fr_x12_cutsEntry {p0 : Int} {p1 : Int} {s : MS} {o : MS} (h : m_x12_cutsEntry p0 p1 s = some o) : F_x12_cutsEntry s o := by
  have hF : F_x12_cutsEntry s s := Fr.rf s
  unfold m_x12_cutsEntry at h
  have L2 : ∀ (n : Nat) (x1 : Int) (x2 : Int) (s3 : MS), F_x12_cutsEntry s s3 → m_x12_cutsEntry_L2 n x1 x2 s3 = some o → F_x12_cutsEntry s o := by
    refine fr_ind (fun x1 x2 s3 hF h => by cases h) ?_
    intro n2 ih2 x1 x2 s3 hF h
    have h : m_x12_cutsEntry_b2 (m_x12_cutsEntry_L2 n2) x1 x2 s3 = some o := h
    unfold m_x12_cutsEntry_b2 at h
    obtain ⟨r5, hc4, h⟩ := bn_e h
    obtain ⟨hr6, h⟩ := rg_e h
    obtain ⟨hr7, h⟩ := rg_e h
    by_cases c8 : (r5 - 1) ≤ x2
    · have h := if_t c8 h
      obtain ⟨y9, ey9, iy9, h⟩ := rdI_e h
      obtain ⟨hi10, h⟩ := inb_e h
      obtain ⟨s11, hs11, h⟩ := st_e h
      have hF : F_x12_cutsEntry s s11 := hs11 ▸ Fr.uA hF (by decide)
      obtain ⟨hi12, h⟩ := inb_e h
      obtain ⟨hb13, h⟩ := bo_e h
      obtain ⟨s14, hs14, h⟩ := st_e h
      have hF : F_x12_cutsEntry s s14 := hs14 ▸ Fr.uA hF (by decide)
      obtain rfl := Option.some.inj h
      exact hF
    · have h := if_f c8 h
      obtain ⟨r16, hc15, h⟩ := bn_e h
      obtain ⟨r18, hc17, h⟩ := bn_e h
      obtain ⟨s20, hc19, h⟩ := bn_e h
      have hF : F_x12_cutsEntry s s20 := Fr.tr hF (fr_x12_setsEntry hc19) (by decide)
      exact ih2 x1 (x2 + 1) s20 hF h
  exact L2 FU p0 p1 s hF h
abbrev F_x12_falls (s o : MS) : Prop := Fr [] [49, 56] [] [] s o
theorem fr_x12_falls {p0 : Int} {s : MS} {o : MS} (h : m_x12_falls p0 s = some o) : F_x12_falls s o := by
  have hF : F_x12_falls s s := Fr.rf s
  unfold m_x12_falls at h
  have L9 : ∀ (n : Nat) (x1 : Int) (s2 : MS), F_x12_falls s s2 → m_x12_falls_L9 n x1 s2 = some o → F_x12_falls s o := by
    refine fr_ind (fun x1 s2 hF h => by cases h) ?_
    intro n9 ih9 x1 s2 hF h
    have h : m_x12_falls_b9 (m_x12_falls_L9 n9) x1 s2 = some o := h
    unfold m_x12_falls_b9 at h
    have L51 : ∀ (n : Nat) (x3 : Int) (x4 : Int) (x5 : Int) (s6 : MS), F_x12_falls s s6 → m_x12_falls_L51 (m_x12_falls_L9 n9) n x3 x4 x5 s6 = some o → F_x12_falls s o := by
      refine fr_ind (fun x3 x4 x5 s6 hF h => by cases h) ?_
      intro n51 ih51 x3 x4 x5 s6 hF h
      have h : m_x12_falls_b51 (m_x12_falls_L9 n9) (m_x12_falls_L51 (m_x12_falls_L9 n9) n51) x3 x4 x5 s6 = some o := h
      unfold m_x12_falls_b51 at h
      obtain ⟨r8, hc7, h⟩ := bn_e h
      obtain ⟨hr9, h⟩ := rg_e h
      obtain ⟨hr10, h⟩ := rg_e h
      by_cases c11 : r8 ≤ x5
      · have h := if_t c11 h
        exact ih9 x3 s6 hF h
      · have h := if_f c11 h
        obtain ⟨r13, hc12, h⟩ := bn_e h
        obtain ⟨hi14, h⟩ := inb_e h
        obtain ⟨s15, hs15, h⟩ := st_e h
        have hF : F_x12_falls s s15 := hs15 ▸ Fr.uA hF (by decide)
        exact ih51 (x3 + 1) x4 (x5 + 1) s15 hF h
    obtain ⟨hr16, h⟩ := rg_e h
    by_cases c17 : x1 ≤ 0
    · have h := if_t c17 h
      obtain rfl := Option.some.inj h
      exact hF
    · have h := if_f c17 h
      obtain ⟨y18, ey18, iy18, h⟩ := rdI_e h
      obtain ⟨s20, hc19, h⟩ := bn_e h
      have hF : F_x12_falls s s20 := Fr.tr hF (fr_x12_counts hc19) (by decide)
      obtain ⟨r22, hc21, h⟩ := bn_e h
      obtain ⟨hr23, h⟩ := rg_e h
      by_cases c24 : r22 = 0
      · have h := if_t c24 h
        obtain ⟨r26, hc25, h⟩ := bn_e h
        obtain ⟨hr27, h⟩ := rg_e h
        by_cases c28 : r26 = 0
        · have h := if_t c28 h
          exact ih9 (x1 + (-1)) s20 hF h
        · have h := if_f c28 h
          exact L51 FU (x1 + (-1)) y18 0 s20 hF h
      · have h := if_f c24 h
        exact ih9 (x1 + (-1)) s20 hF h
  obtain ⟨hi29, h⟩ := inb_e h
  obtain ⟨s30, hs30, h⟩ := st_e h
  have hF : F_x12_falls s s30 := hs30 ▸ Fr.uA hF (by decide)
  exact L9 FU 1 s30 hF h
abbrev F_x12_qPuts (s o : MS) : Prop := Fr [108] [] [] [107] s o
theorem fr_x12_qPuts {p0 : Int} {s : MS} {o : MS} (h : m_x12_qPuts p0 s = some o) : F_x12_qPuts s o := by
  have hF : F_x12_qPuts s s := Fr.rf s
  unfold m_x12_qPuts at h
  obtain ⟨hi1, h⟩ := inb_e h
  obtain ⟨s2, hs2, h⟩ := st_e h
  have hF : F_x12_qPuts s s2 := hs2 ▸ Fr.uB hF (by decide)
  obtain ⟨s3, hs3, h⟩ := st_e h
  have hF : F_x12_qPuts s s3 := hs3 ▸ Fr.uI hF (by decide)
  obtain rfl := Option.some.inj h
  exact hF
abbrev F_x12_qJoins (s o : MS) : Prop := Fr [108] [] [] [107] s o
theorem fr_x12_qJoins {p0 : Int} {s : MS} {o : MS} (h : m_x12_qJoins p0 s = some o) : F_x12_qJoins s o := by
  have hF : F_x12_qJoins s s := Fr.rf s
  unfold m_x12_qJoins at h
  have J273 : ∀ (s1 : MS), F_x12_qJoins s s1 → m_x12_qJoins_J273 s1 = some o → F_x12_qJoins s o := by
    intro s1 hF h
    unfold m_x12_qJoins_J273 at h
    obtain rfl := Option.some.inj h
    exact hF
  have J270 : ∀ (z2 : Int) (s3 : MS), F_x12_qJoins s s3 → m_x12_qJoins_J270 z2 s3 = some o → F_x12_qJoins s o := by
    intro z2 s3 hF h
    unfold m_x12_qJoins_J270 at h
    obtain ⟨s5, hc4, h⟩ := bn_e h
    have hF : F_x12_qJoins s s5 := Fr.tr hF (fr_x12_qPuts hc4) (by decide)
    exact J273 s5 hF h
  have J238 : ∀ (z6 : Int) (s7 : MS), F_x12_qJoins s s7 → m_x12_qJoins_J238 z6 s7 = some o → F_x12_qJoins s o := by
    intro z6 s7 hF h
    unfold m_x12_qJoins_J238 at h
    obtain ⟨s9, hc8, h⟩ := bn_e h
    have hF : F_x12_qJoins s s9 := Fr.tr hF (fr_x12_qPuts hc8) (by decide)
    exact J273 s9 hF h
  have J219 : ∀ (z10 : Int) (s11 : MS), F_x12_qJoins s s11 → m_x12_qJoins_J219 z10 s11 = some o → F_x12_qJoins s o := by
    intro z10 s11 hF h
    unfold m_x12_qJoins_J219 at h
    obtain ⟨s13, hc12, h⟩ := bn_e h
    have hF : F_x12_qJoins s s13 := Fr.tr hF (fr_x12_qPuts hc12) (by decide)
    exact J273 s13 hF h
  have J200 : ∀ (z14 : Int) (s15 : MS), F_x12_qJoins s s15 → m_x12_qJoins_J200 z14 s15 = some o → F_x12_qJoins s o := by
    intro z14 s15 hF h
    unfold m_x12_qJoins_J200 at h
    obtain ⟨s17, hc16, h⟩ := bn_e h
    have hF : F_x12_qJoins s s17 := Fr.tr hF (fr_x12_qPuts hc16) (by decide)
    exact J273 s17 hF h
  have J181 : ∀ (z18 : Int) (s19 : MS), F_x12_qJoins s s19 → m_x12_qJoins_J181 z18 s19 = some o → F_x12_qJoins s o := by
    intro z18 s19 hF h
    unfold m_x12_qJoins_J181 at h
    obtain ⟨s21, hc20, h⟩ := bn_e h
    have hF : F_x12_qJoins s s21 := Fr.tr hF (fr_x12_qPuts hc20) (by decide)
    exact J273 s21 hF h
  have J161 : ∀ (z22 : Int) (s23 : MS), F_x12_qJoins s s23 → m_x12_qJoins_J161 z22 s23 = some o → F_x12_qJoins s o := by
    intro z22 s23 hF h
    unfold m_x12_qJoins_J161 at h
    obtain ⟨s25, hc24, h⟩ := bn_e h
    have hF : F_x12_qJoins s s25 := Fr.tr hF (fr_x12_qPuts hc24) (by decide)
    exact J273 s25 hF h
  obtain ⟨yl26, eyl26, iyl26, h⟩ := rdL_e h
  obtain ⟨yl27, eyl27, iyl27, h⟩ := rdL_e h
  obtain ⟨s28, hs28, h⟩ := st_e h
  have hF : F_x12_qJoins s s28 := hs28 ▸ Fr.uI hF (by decide)
  obtain ⟨hr29, h⟩ := rg_e h
  by_cases c30 : p0 = 1
  · have h := if_t c30 h
    obtain ⟨rl32, hc31, h⟩ := bn_e h
    obtain ⟨s34, hc33, h⟩ := bn_e h
    have hF : F_x12_qJoins s s34 := Fr.tr hF (fr_x12_qPuts hc33) (by decide)
    exact J273 s34 hF h
  · have h := if_f c30 h
    by_cases c35 : p0 = 2
    · have h := if_t c35 h
      obtain ⟨rl37, hc36, h⟩ := bn_e h
      obtain ⟨s39, hc38, h⟩ := bn_e h
      have hF : F_x12_qJoins s s39 := Fr.tr hF (fr_x12_qPuts hc38) (by decide)
      exact J273 s39 hF h
    · have h := if_f c35 h
      by_cases c40 : p0 = 3
      · have h := if_t c40 h
        obtain ⟨rl42, hc41, h⟩ := bn_e h
        obtain ⟨s44, hc43, h⟩ := bn_e h
        have hF : F_x12_qJoins s s44 := Fr.tr hF (fr_x12_qPuts hc43) (by decide)
        exact J273 s44 hF h
      · have h := if_f c40 h
        by_cases c45 : p0 = 4
        · have h := if_t c45 h
          obtain ⟨rl47, hc46, h⟩ := bn_e h
          obtain ⟨s49, hc48, h⟩ := bn_e h
          have hF : F_x12_qJoins s s49 := Fr.tr hF (fr_x12_qPuts hc48) (by decide)
          exact J273 s49 hF h
        · have h := if_f c45 h
          by_cases c50 : p0 = 5
          · have h := if_t c50 h
            obtain ⟨hr51, h⟩ := rgL_e h
            obtain ⟨hr52, h⟩ := rgL_e h
            by_cases c53 : yl26 ≤ yl27
            · have h := if_t c53 h
              exact J161 yl26 s28 hF h
            · have h := if_f c53 h
              exact J161 yl27 s28 hF h
          · have h := if_f c50 h
            by_cases c54 : p0 = 6
            · have h := if_t c54 h
              obtain ⟨hr55, h⟩ := rgL_e h
              obtain ⟨hr56, h⟩ := rgL_e h
              by_cases c57 : yl27 ≤ yl26
              · have h := if_t c57 h
                exact J181 yl26 s28 hF h
              · have h := if_f c57 h
                exact J181 yl27 s28 hF h
            · have h := if_f c54 h
              by_cases c58 : p0 = 7
              · have h := if_t c58 h
                obtain ⟨hr59, h⟩ := rgL_e h
                obtain ⟨hr60, h⟩ := rgL_e h
                by_cases c61 : yl26 ≤ yl27
                · have h := if_t c61 h
                  exact J200 0 s28 hF h
                · have h := if_f c61 h
                  exact J200 1 s28 hF h
              · have h := if_f c58 h
                by_cases c62 : p0 = 8
                · have h := if_t c62 h
                  obtain ⟨hr63, h⟩ := rgL_e h
                  obtain ⟨hr64, h⟩ := rgL_e h
                  by_cases c65 : yl27 ≤ yl26
                  · have h := if_t c65 h
                    exact J219 0 s28 hF h
                  · have h := if_f c65 h
                    exact J219 1 s28 hF h
                · have h := if_f c62 h
                  by_cases c66 : p0 = 9
                  · have h := if_t c66 h
                    obtain ⟨hr67, h⟩ := rgL_e h
                    obtain ⟨hr68, h⟩ := rgL_e h
                    by_cases c69 : yl27 = yl26
                    · have h := if_t c69 h
                      exact J238 1 s28 hF h
                    · have h := if_f c69 h
                      exact J238 0 s28 hF h
                  · have h := if_f c66 h
                    by_cases c70 : p0 = 10
                    · have h := if_t c70 h
                      obtain ⟨s72, hc71, h⟩ := bn_e h
                      have hF : F_x12_qJoins s s72 := Fr.tr hF (fr_x12_qPuts hc71) (by decide)
                      exact J273 s72 hF h
                    · have h := if_f c70 h
                      obtain ⟨hr73, h⟩ := rgL_e h
                      by_cases c74 : (yl27 + yl26) ≤ 0
                      · have h := if_t c74 h
                        exact J270 0 s28 hF h
                      · have h := if_f c74 h
                        exact J270 1 s28 hF h
