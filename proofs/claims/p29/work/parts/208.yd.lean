abbrev F_x12_codesTell (s o : MS) : Prop := Fr [48, 108] [] [] [107] s o
theorem fr_x12_codesTell {p0 : Int} {s : MS} {o : (Int × MS)} (h : m_x12_codesTell p0 s = some o) : F_x12_codesTell s o.2 := by
  have hF : F_x12_codesTell s s := Fr.rf s
  unfold m_x12_codesTell at h
  have L19 : ∀ (n : Nat) (x1 : Int) (x2 : Int) (s3 : MS), F_x12_codesTell s s3 → m_x12_codesTell_L19 n x1 x2 s3 = some o → F_x12_codesTell s o.2 := by
    refine fr_ind (fun x1 x2 s3 hF h => by cases h) ?_
    intro n19 ih19 x1 x2 s3 hF h
    have h : m_x12_codesTell_b19 (m_x12_codesTell_L19 n19) x1 x2 s3 = some o := h
    unfold m_x12_codesTell_b19 at h
    have J136 : ∀ (x4 : Int) (x5 : Int) (s6 : MS), F_x12_codesTell s s6 → m_x12_codesTell_J136 (m_x12_codesTell_L19 n19) x4 x5 s6 = some o → F_x12_codesTell s o.2 := by
      intro x4 x5 s6 hF h
      unfold m_x12_codesTell_J136 at h
      exact ih19 x4 (x5 + 1) s6 hF h
    obtain ⟨y7, ey7, iy7, h⟩ := rdI_e h
    obtain ⟨hr8, h⟩ := rg_e h
    obtain ⟨hr9, h⟩ := rg_e h
    by_cases c10 : y7 ≤ x2
    · have h := if_t c10 h
      obtain ⟨yl11, eyl11, iyl11, h⟩ := rdL_e h
      obtain rfl := Option.some.inj h
      exact hF
    · have h := if_f c10 h
      obtain ⟨y12, ey12, iy12, h⟩ := rdI_e h
      obtain ⟨hr13, h⟩ := rg_e h
      by_cases c14 : y12 < 1000
      · have h := if_t c14 h
        obtain ⟨hr15, h⟩ := rg_e h
        by_cases c16 : y12 < 40
        · have h := if_t c16 h
          obtain ⟨hr17, h⟩ := rg_e h
          by_cases c18 : y12 = 13
          · have h := if_t c18 h
            obtain ⟨s27, hc26, h⟩ := bn_e h
            have hF : F_x12_codesTell s s27 := Fr.tr hF (fr_x12_qPuts hc26) (by decide)
            exact J136 x1 x2 s27 hF h
          · have h := if_f c18 h
            obtain ⟨hr19, h⟩ := rg_e h
            by_cases c20 : y12 = 12
            · have h := if_t c20 h
              obtain ⟨yl23, eyl23, iyl23, h⟩ := rdL_e h
              obtain ⟨hi24, h⟩ := inb_e h
              obtain ⟨s25, hs25, h⟩ := st_e h
              have hF : F_x12_codesTell s s25 := hs25 ▸ Fr.uB hF (by decide)
              exact J136 x1 x2 s25 hF h
            · have h := if_f c20 h
              obtain ⟨s22, hc21, h⟩ := bn_e h
              have hF : F_x12_codesTell s s22 := Fr.tr hF (fr_x12_qJoins hc21) (by decide)
              exact J136 x1 x2 s22 hF h
        · have h := if_f c16 h
          obtain ⟨rl29, hc28, h⟩ := bn_e h
          obtain ⟨s31, hc30, h⟩ := bn_e h
          have hF : F_x12_codesTell s s31 := Fr.tr hF (fr_x12_qPuts hc30) (by decide)
          exact J136 x1 x2 s31 hF h
      · have h := if_f c14 h
        obtain ⟨hr32, h⟩ := rg_e h
        obtain ⟨s34, hc33, h⟩ := bn_e h
        have hF : F_x12_codesTell s s34 := Fr.tr hF (fr_x12_qPuts hc33) (by decide)
        exact J136 x1 x2 s34 hF h
  obtain ⟨s35, hs35, h⟩ := st_e h
  have hF : F_x12_codesTell s s35 := hs35 ▸ Fr.uI hF (by decide)
  obtain ⟨s36, hs36, h⟩ := st_e h
  have hF : F_x12_codesTell s s36 := hs36 ▸ Fr.uI hF (by decide)
  obtain ⟨y37, ey37, iy37, h⟩ := rdI_e h
  exact L19 FU p0 y37 s36 hF h
abbrev F_x12_taken (s o : MS) : Prop := Fr [48, 50, 51, 52, 55, 108] [49, 54] [] [107] s o
theorem fr_x12_taken {p0 : Int} {p1 : Int} {s : MS} {o : (Int × MS)} (h : m_x12_taken p0 p1 s = some o) : F_x12_taken s o.2 := by
  have hF : F_x12_taken s s := Fr.rf s
  unfold m_x12_taken at h
  have L126 : ∀ (n : Nat) (x1 : Int) (x2 : Int) (x3 : Int) (x4 : Int) (s5 : MS), F_x12_taken s s5 → m_x12_taken_L126 n x1 x2 x3 x4 s5 = some o → F_x12_taken s o.2 := by
    refine fr_ind (fun x1 x2 x3 x4 s5 hF h => by cases h) ?_
    intro n126 ih126 x1 x2 x3 x4 s5 hF h
    have h : m_x12_taken_b126 (m_x12_taken_L126 n126) x1 x2 x3 x4 s5 = some o := h
    unfold m_x12_taken_b126 at h
    obtain ⟨hr6, h⟩ := rg_e h
    by_cases c7 : 16 ≤ x4
    · have h := if_t c7 h
      obtain ⟨hi8, h⟩ := inb_e h
      obtain ⟨s9, hs9, h⟩ := st_e h
      have hF : F_x12_taken s s9 := hs9 ▸ Fr.uA hF (by decide)
      obtain ⟨hi10, h⟩ := inb_e h
      obtain ⟨s11, hs11, h⟩ := st_e h
      have hF : F_x12_taken s s11 := hs11 ▸ Fr.uA hF (by decide)
      obtain ⟨hi12, h⟩ := inb_e h
      obtain ⟨hb13, h⟩ := bo_e h
      obtain ⟨s14, hs14, h⟩ := st_e h
      have hF : F_x12_taken s s14 := hs14 ▸ Fr.uA hF (by decide)
      obtain rfl := Option.some.inj h
      exact hF
    · have h := if_f c7 h
      obtain ⟨hi15, h⟩ := inb_e h
      obtain ⟨s16, hs16, h⟩ := st_e h
      have hF : F_x12_taken s s16 := hs16 ▸ Fr.uA hF (by decide)
      exact ih126 x1 x2 x3 (x4 + 1) s16 hF h
  have J102 : ∀ (x17 : Int) (x18 : Int) (s19 : MS), F_x12_taken s s19 → m_x12_taken_J102 x17 x18 s19 = some o → F_x12_taken s o.2 := by
    intro x17 x18 s19 hF h
    unfold m_x12_taken_J102 at h
    obtain ⟨hr20, h⟩ := rg_e h
    by_cases c21 : x18 = (-1)
    · have h := if_t c21 h
      obtain ⟨s22, hs22, h⟩ := st_e h
      have hF : F_x12_taken s s22 := hs22 ▸ Fr.uI hF (by decide)
      obtain rfl := Option.some.inj h
      exact hF
    · have h := if_f c21 h
      exact L126 FU x17 x18 (17 + (16 * x18)) 0 s19 hF h
  have L8 : ∀ (n : Nat) (x23 : Int) (x24 : Int) (x25 : Int) (z26 : Int) (x27 : Int) (s28 : MS), F_x12_taken s s28 → m_x12_taken_L8 n x23 x24 x25 z26 x27 s28 = some o → F_x12_taken s o.2 := by
    refine fr_ind (fun x23 x24 x25 z26 x27 s28 hF h => by cases h) ?_
    intro n8 ih8 x23 x24 x25 z26 x27 s28 hF h
    have h : m_x12_taken_b8 (m_x12_taken_L8 n8) x23 x24 x25 z26 x27 s28 = some o := h
    unfold m_x12_taken_b8 at h
    have J96 : ∀ (x29 : Int) (x30 : Int) (x31 : Int) (z32 : Int) (x33 : Int) (s34 : MS), F_x12_taken s s34 → m_x12_taken_J96 (m_x12_taken_L8 n8) x29 x30 x31 z32 x33 s34 = some o → F_x12_taken s o.2 := by
      intro x29 x30 x31 z32 x33 s34 hF h
      unfold m_x12_taken_J96 at h
      exact ih8 x29 x30 x31 z32 (x33 + 1) s34 hF h
    have J89 : ∀ (x35 : Int) (x36 : Int) (x37 : Int) (z38 : Int) (s39 : MS), F_x12_taken s s39 → m_x12_taken_J89 (m_x12_taken_L8 n8) x35 x36 x37 z38 s39 = some o → F_x12_taken s o.2 := by
      intro x35 x36 x37 z38 s39 hF h
      unfold m_x12_taken_J89 at h
      exact J96 x35 x36 x37 z38 x37 s39 hF h
    have J71 : ∀ (x40 : Int) (x41 : Int) (x42 : Int) (z43 : Int) (x44 : Int) (z45 : Int) (s46 : MS), F_x12_taken s s46 → m_x12_taken_J71 (m_x12_taken_L8 n8) x40 x41 x42 z43 x44 z45 s46 = some o → F_x12_taken s o.2 := by
      intro x40 x41 x42 z43 x44 z45 s46 hF h
      unfold m_x12_taken_J71 at h
      obtain ⟨hr47, h⟩ := rg_e h
      by_cases c48 : x42 = (-1)
      · have h := if_t c48 h
        exact J89 x40 x41 x44 z45 s46 hF h
      · have h := if_f c48 h
        obtain ⟨hr49, h⟩ := rgL_e h
        obtain ⟨hr50, h⟩ := rgL_e h
        by_cases c51 : z45 < z43
        · have h := if_t c51 h
          exact J89 x40 x41 x44 z45 s46 hF h
        · have h := if_f c51 h
          exact J96 x40 x41 x42 z43 x44 s46 hF h
    obtain ⟨r53, hc52, h⟩ := bn_e h
    obtain ⟨hr54, h⟩ := rg_e h
    obtain ⟨hr55, h⟩ := rg_e h
    by_cases c56 : r53 ≤ x27
    · have h := if_t c56 h
      exact J102 x23 x25 s28 hF h
    · have h := if_f c56 h
      obtain ⟨hr57, h⟩ := rg_e h
      by_cases c58 : (gI s28 55) = 0
      · have h := if_t c58 h
        obtain ⟨r60, hc59, h⟩ := bn_e h
        obtain ⟨hr61, h⟩ := rg_e h
        by_cases c62 : r60 = 0
        · have h := if_t c62 h
          obtain ⟨s63, hs63, h⟩ := st_e h
          have hF : F_x12_taken s s63 := hs63 ▸ Fr.uI hF (by decide)
          obtain ⟨s64, hs64, h⟩ := st_e h
          have hF : F_x12_taken s s64 := hs64 ▸ Fr.uI hF (by decide)
          obtain ⟨s65, hs65, h⟩ := st_e h
          have hF : F_x12_taken s s65 := hs65 ▸ Fr.uI hF (by decide)
          obtain ⟨r67, hc66, h⟩ := bn_e h
          obtain ⟨hr68, h⟩ := rg_e h
          by_cases c69 : r67 = 0
          · have h := if_t c69 h
            obtain ⟨hr70, h⟩ := rg_e h
            exact J71 x23 x24 x25 z26 x27 x27 s65 hF h
          · have h := if_f c69 h
            obtain ⟨⟨rl73, s72⟩, hc71, h⟩ := bn_e h
            have hF : F_x12_taken s s72 := Fr.tr hF (fr_x12_codesTell hc71) (by decide)
            exact J71 x23 x24 x25 z26 x27 rl73 s72 hF h
        · have h := if_f c62 h
          exact J96 x23 x24 x25 z26 x27 s28 hF h
      · have h := if_f c58 h
        exact J102 x23 x25 s28 hF h
  exact L8 FU p0 p1 (-1) 0 0 s hF h
abbrev F_x12_owned (s o : MS) : Prop := Fr [48, 50, 51, 52, 55, 108] [49, 54, 56] [] [107] s o
theorem fr_x12_owned {p0 : Int} {s : MS} {o : (Int × MS)} (h : m_x12_owned p0 s = some o) : F_x12_owned s o.2 := by
  have hF : F_x12_owned s s := Fr.rf s
  unfold m_x12_owned at h
  have J117 : ∀ (x1 : Int) (x2 : Int) (s3 : MS), F_x12_owned s s3 → m_x12_owned_J117 x1 x2 s3 = some o → F_x12_owned s o.2 := by
    intro x1 x2 s3 hF h
    unfold m_x12_owned_J117 at h
    obtain ⟨s5, hc4, h⟩ := bn_e h
    have hF : F_x12_owned s s5 := Fr.tr hF (fr_x12_falls hc4) (by decide)
    obtain rfl := Option.some.inj h
    exact hF
  have L91 : ∀ (n : Nat) (x6 : Int) (x7 : Int) (x8 : Int) (s9 : MS), F_x12_owned s s9 → m_x12_owned_L91 n x6 x7 x8 s9 = some o → F_x12_owned s o.2 := by
    refine fr_ind (fun x6 x7 x8 s9 hF h => by cases h) ?_
    intro n91 ih91 x6 x7 x8 s9 hF h
    have h : m_x12_owned_b91 (m_x12_owned_L91 n91) x6 x7 x8 s9 = some o := h
    unfold m_x12_owned_b91 at h
    obtain ⟨r11, hc10, h⟩ := bn_e h
    obtain ⟨hr12, h⟩ := rg_e h
    obtain ⟨hr13, h⟩ := rg_e h
    by_cases c14 : r11 ≤ x8
    · have h := if_t c14 h
      exact J117 x6 x7 s9 hF h
    · have h := if_f c14 h
      obtain ⟨r16, hc15, h⟩ := bn_e h
      obtain ⟨s18, hc17, h⟩ := bn_e h
      have hF : F_x12_owned s s18 := Fr.tr hF (fr_x12_counts hc17) (by decide)
      exact ih91 x6 x7 (x8 + 1) s18 hF h
  have L41 : ∀ (n : Nat) (x19 : Int) (x20 : Int) (x21 : Int) (s22 : MS), F_x12_owned s s22 → m_x12_owned_L41 n x19 x20 x21 s22 = some o → F_x12_owned s o.2 := by
    refine fr_ind (fun x19 x20 x21 s22 hF h => by cases h) ?_
    intro n41 ih41 x19 x20 x21 s22 hF h
    have h : m_x12_owned_b41 (m_x12_owned_L41 n41) x19 x20 x21 s22 = some o := h
    unfold m_x12_owned_b41 at h
    obtain ⟨hr23, h⟩ := rg_e h
    by_cases c24 : 16 ≤ x21
    · have h := if_t c24 h
      obtain ⟨r26, hc25, h⟩ := bn_e h
      obtain ⟨hr27, h⟩ := rg_e h
      by_cases c28 : r26 ≤ 0
      · have h := if_t c28 h
        exact J117 x19 x20 s22 hF h
      · have h := if_f c28 h
        exact L91 FU x19 x20 0 s22 hF h
    · have h := if_f c24 h
      obtain ⟨y29, ey29, iy29, h⟩ := rdI_e h
      obtain ⟨hi30, h⟩ := inb_e h
      obtain ⟨s31, hs31, h⟩ := st_e h
      have hF : F_x12_owned s s31 := hs31 ▸ Fr.uA hF (by decide)
      exact ih41 x19 x20 (x21 + 1) s31 hF h
  have J19 : ∀ (x32 : Int) (s33 : MS), F_x12_owned s s33 → m_x12_owned_J19 x32 s33 = some o → F_x12_owned s o.2 := by
    intro x32 s33 hF h
    unfold m_x12_owned_J19 at h
    obtain ⟨r35, hc34, h⟩ := bn_e h
    obtain ⟨⟨r38, s37⟩, hc36, h⟩ := bn_e h
    have hF : F_x12_owned s s37 := Fr.tr hF (fr_x12_taken hc36) (by decide)
    obtain ⟨hr39, h⟩ := rg_e h
    by_cases c40 : (gI s37 55) = 0
    · have h := if_t c40 h
      exact L41 FU x32 r38 3 s37 hF h
    · have h := if_f c40 h
      obtain rfl := Option.some.inj h
      exact hF
  obtain ⟨r42, hc41, h⟩ := bn_e h
  obtain ⟨hr43, h⟩ := rg_e h
  by_cases c44 : r42 = 0
  · have h := if_t c44 h
    exact J19 p0 s hF h
  · have h := if_f c44 h
    obtain ⟨r46, hc45, h⟩ := bn_e h
    obtain ⟨hr47, h⟩ := rg_e h
    by_cases c48 : r46 = 1
    · have h := if_t c48 h
      obtain rfl := Option.some.inj h
      exact hF
    · have h := if_f c48 h
      exact J19 p0 s hF h
abbrev F_x12_removes (s o : MS) : Prop := Fr [48, 50, 51, 52, 55, 108] [49, 54, 56, 57, 58] [] [107] s o
theorem fr_x12_removes {p0 : Int} {p1 : Int} {s : MS} {o : MS} (h : m_x12_removes p0 p1 s = some o) : F_x12_removes s o := by
  have hF : F_x12_removes s s := Fr.rf s
  unfold m_x12_removes at h
  have J182 : ∀ (x1 : Int) (x2 : Int) (s3 : MS), F_x12_removes s s3 → m_x12_removes_J182 x1 x2 s3 = some o → F_x12_removes s o := by
    intro x1 x2 s3 hF h
    unfold m_x12_removes_J182 at h
    obtain ⟨r5, hc4, h⟩ := bn_e h
    obtain ⟨hr6, h⟩ := rg_e h
    by_cases c7 : r5 = 0
    · have h := if_t c7 h
      obtain ⟨s11, hc10, h⟩ := bn_e h
      have hF : F_x12_removes s s11 := Fr.tr hF (fr_x12_counts hc10) (by decide)
      obtain ⟨hi12, h⟩ := inb_e h
      obtain ⟨s13, hs13, h⟩ := st_e h
      have hF : F_x12_removes s s13 := hs13 ▸ Fr.uA hF (by decide)
      obtain rfl := Option.some.inj h
      exact hF
    · have h := if_f c7 h
      obtain ⟨s9, hc8, h⟩ := bn_e h
      have hF : F_x12_removes s s9 := Fr.tr hF (fr_x12_lowers hc8) (by decide)
      obtain rfl := Option.some.inj h
      exact hF
  have L137 : ∀ (n : Nat) (x14 : Int) (x15 : Int) (x16 : Int) (s17 : MS), F_x12_removes s s17 → m_x12_removes_L137 n x14 x15 x16 s17 = some o → F_x12_removes s o := by
    refine fr_ind (fun x14 x15 x16 s17 hF h => by cases h) ?_
    intro n137 ih137 x14 x15 x16 s17 hF h
    have h : m_x12_removes_b137 (m_x12_removes_L137 n137) x14 x15 x16 s17 = some o := h
    unfold m_x12_removes_b137 at h
    obtain ⟨r19, hc18, h⟩ := bn_e h
    obtain ⟨hr20, h⟩ := rg_e h
    by_cases c21 : r19 = 0
    · have h := if_t c21 h
      obtain ⟨hr22, h⟩ := rg_e h
      by_cases c23 : x16 ≤ 0
      · have h := if_t c23 h
        exact J182 x14 x15 s17 hF h
      · have h := if_f c23 h
        obtain ⟨s25, hc24, h⟩ := bn_e h
        have hF : F_x12_removes s s25 := Fr.tr hF (fr_x12_counts hc24) (by decide)
        obtain ⟨y26, ey26, iy26, h⟩ := rdI_e h
        obtain ⟨y27, ey27, iy27, h⟩ := rdI_e h
        obtain ⟨s29, hc28, h⟩ := bn_e h
        have hF : F_x12_removes s s29 := Fr.tr hF (fr_x12_cutsEntry hc28) (by decide)
        exact ih137 x14 y26 (x16 + (-1)) s29 hF h
    · have h := if_f c21 h
      exact J182 x14 x15 s17 hF h
  have J118 : ∀ (x30 : Int) (x31 : Int) (x32 : Int) (x33 : Int) (s34 : MS), F_x12_removes s s34 → m_x12_removes_J118 x30 x31 x32 x33 s34 = some o → F_x12_removes s o := by
    intro x30 x31 x32 x33 s34 hF h
    unfold m_x12_removes_J118 at h
    obtain ⟨hr35, h⟩ := rg_e h
    by_cases c36 : (gI s34 55) = 0
    · have h := if_t c36 h
      obtain ⟨r38, hc37, h⟩ := bn_e h
      obtain ⟨s40, hc39, h⟩ := bn_e h
      have hF : F_x12_removes s s40 := Fr.tr hF (fr_x12_cutsEntry hc39) (by decide)
      exact L137 FU x30 x32 x33 s40 hF h
    · have h := if_f c36 h
      obtain rfl := Option.some.inj h
      exact hF
  have L29 : ∀ (n : Nat) (x41 : Int) (x42 : Int) (x43 : Int) (x44 : Int) (s45 : MS), F_x12_removes s s45 → m_x12_removes_L29 n x41 x42 x43 x44 s45 = some o → F_x12_removes s o := by
    refine fr_ind (fun x41 x42 x43 x44 s45 hF h => by cases h) ?_
    intro n29 ih29 x41 x42 x43 x44 s45 hF h
    have h : m_x12_removes_b29 (m_x12_removes_L29 n29) x41 x42 x43 x44 s45 = some o := h
    unfold m_x12_removes_b29 at h
    have J92 : ∀ (x46 : Int) (x47 : Int) (x48 : Int) (x49 : Int) (x50 : Int) (x51 : Int) (s52 : MS), F_x12_removes s s52 → m_x12_removes_J92 (m_x12_removes_L29 n29) x46 x47 x48 x49 x50 x51 s52 = some o → F_x12_removes s o := by
      intro x46 x47 x48 x49 x50 x51 s52 hF h
      unfold m_x12_removes_J92 at h
      obtain ⟨hi53, h⟩ := inb_e h
      obtain ⟨s54, hs54, h⟩ := st_e h
      have hF : F_x12_removes s s54 := hs54 ▸ Fr.uA hF (by decide)
      obtain ⟨hi55, h⟩ := inb_e h
      obtain ⟨s56, hs56, h⟩ := st_e h
      have hF : F_x12_removes s s56 := hs56 ▸ Fr.uA hF (by decide)
      exact ih29 x46 x47 x51 (x49 + 1) s56 hF h
    obtain ⟨hr57, h⟩ := rg_e h
    by_cases c58 : (gI s45 55) = 0
    · have h := if_t c58 h
      obtain ⟨r60, hc59, h⟩ := bn_e h
      obtain ⟨hr61, h⟩ := rg_e h
      by_cases c62 : r60 ≤ 0
      · have h := if_t c62 h
        exact J118 x41 x42 x43 x44 s45 hF h
      · have h := if_f c62 h
        obtain ⟨r64, hc63, h⟩ := bn_e h
        obtain ⟨r66, hc65, h⟩ := bn_e h
        obtain ⟨⟨r69, s68⟩, hc67, h⟩ := bn_e h
        have hF : F_x12_removes s s68 := Fr.tr hF (fr_x12_owned hc67) (by decide)
        obtain ⟨hr70, h⟩ := rg_e h
        obtain ⟨hr71, h⟩ := rg_e h
        by_cases c72 : r69 = r66
        · have h := if_t c72 h
          exact J92 x41 x42 x43 x44 r64 r69 s68 hF h
        · have h := if_f c72 h
          obtain ⟨r74, hc73, h⟩ := bn_e h
          obtain ⟨s76, hc75, h⟩ := bn_e h
          have hF : F_x12_removes s s76 := Fr.tr hF (fr_x12_setsEntry hc75) (by decide)
          exact J92 x41 x42 x43 x44 r64 r69 s76 hF h
    · have h := if_f c58 h
      exact J118 x41 x42 x43 x44 s45 hF h
  obtain ⟨y77, ey77, iy77, h⟩ := rdI_e h
  obtain ⟨⟨r80, s79⟩, hc78, h⟩ := bn_e h
  have hF : F_x12_removes s s79 := Fr.tr hF (fr_x12_owned hc78) (by decide)
  obtain ⟨hr81, h⟩ := rg_e h
  by_cases c82 : (gI s79 55) = 0
  · have h := if_t c82 h
    obtain ⟨hi83, h⟩ := inb_e h
    obtain ⟨s84, hs84, h⟩ := st_e h
    have hF : F_x12_removes s s84 := hs84 ▸ Fr.uA hF (by decide)
    exact L29 FU p0 p1 r80 0 s84 hF h
  · have h := if_f c82 h
    obtain rfl := Option.some.inj h
    exact hF
abbrev F_x12_inserts (s o : MS) : Prop := Fr [] [49, 54] [] [] s o
theorem fr_x12_inserts {p0 : Int} {p1 : Int} {p2 : Int} {p3 : Int} {s : MS} {o : MS} (h : m_x12_inserts p0 p1 p2 p3 s = some o) : F_x12_inserts s o := by
  have hF : F_x12_inserts s s := Fr.rf s
  unfold m_x12_inserts at h
  have L7 : ∀ (n : Nat) (x1 : Int) (x2 : Int) (x3 : Int) (x4 : Int) (x5 : Int) (s6 : MS), F_x12_inserts s s6 → m_x12_inserts_L7 n x1 x2 x3 x4 x5 s6 = some o → F_x12_inserts s o := by
    refine fr_ind (fun x1 x2 x3 x4 x5 s6 hF h => by cases h) ?_
    intro n7 ih7 x1 x2 x3 x4 x5 s6 hF h
    have h : m_x12_inserts_b7 (m_x12_inserts_L7 n7) x1 x2 x3 x4 x5 s6 = some o := h
    unfold m_x12_inserts_b7 at h
    obtain ⟨hr7, h⟩ := rg_e h
    obtain ⟨hr8, h⟩ := rg_e h
    by_cases c9 : x5 ≤ x2
    · have h := if_t c9 h
      obtain ⟨s11, hc10, h⟩ := bn_e h
      have hF : F_x12_inserts s s11 := Fr.tr hF (fr_x12_setsEntry hc10) (by decide)
      obtain ⟨y12, ey12, iy12, h⟩ := rdI_e h
      obtain ⟨hi13, h⟩ := inb_e h
      obtain ⟨s14, hs14, h⟩ := st_e h
      have hF : F_x12_inserts s s14 := hs14 ▸ Fr.uA hF (by decide)
      obtain rfl := Option.some.inj h
      exact hF
    · have h := if_f c9 h
      obtain ⟨r16, hc15, h⟩ := bn_e h
      obtain ⟨r18, hc17, h⟩ := bn_e h
      obtain ⟨s20, hc19, h⟩ := bn_e h
      have hF : F_x12_inserts s s20 := Fr.tr hF (fr_x12_setsEntry hc19) (by decide)
      exact ih7 x1 x2 x3 x4 (x5 + (-1)) s20 hF h
  obtain ⟨r22, hc21, h⟩ := bn_e h
  exact L7 FU p0 p1 p2 p3 r22 s hF h
abbrev F_x12_putsIn (s o : MS) : Prop := Fr [] [49, 54] [] [] s o
theorem fr_x12_putsIn {p0 : Int} {p1 : Int} {p2 : Int} {s : MS} {o : MS} (h : m_x12_putsIn p0 p1 p2 s = some o) : F_x12_putsIn s o := by
  have hF : F_x12_putsIn s s := Fr.rf s
  unfold m_x12_putsIn at h
  have J73 : ∀ (s1 : MS), F_x12_putsIn s s1 → m_x12_putsIn_J73 s1 = some o → F_x12_putsIn s o := by
    intro s1 hF h
    unfold m_x12_putsIn_J73 at h
    obtain rfl := Option.some.inj h
    exact hF
  have J34 : ∀ (x2 : Int) (x3 : Int) (x4 : Int) (x5 : Int) (x6 : Int) (s7 : MS), F_x12_putsIn s s7 → m_x12_putsIn_J34 x2 x3 x4 x5 x6 s7 = some o → F_x12_putsIn s o := by
    intro x2 x3 x4 x5 x6 s7 hF h
    unfold m_x12_putsIn_J34 at h
    obtain ⟨hr8, h⟩ := rg_e h
    by_cases c9 : x6 = 0
    · have h := if_t c9 h
      obtain ⟨s18, hc17, h⟩ := bn_e h
      have hF : F_x12_putsIn s s18 := Fr.tr hF (fr_x12_inserts hc17) (by decide)
      exact J73 s18 hF h
    · have h := if_f c9 h
      obtain ⟨r11, hc10, h⟩ := bn_e h
      obtain ⟨hr12, h⟩ := rg_e h
      obtain ⟨hr13, h⟩ := rg_e h
      by_cases c14 : r11 = x4
      · have h := if_t c14 h
        exact J73 s7 hF h
      · have h := if_f c14 h
        obtain ⟨s16, hc15, h⟩ := bn_e h
        have hF : F_x12_putsIn s s16 := Fr.tr hF (fr_x12_setsEntry hc15) (by decide)
        exact J73 s16 hF h
  have J33 : ∀ (x19 : Int) (x20 : Int) (x21 : Int) (x22 : Int) (s23 : MS), F_x12_putsIn s s23 → m_x12_putsIn_J33 x19 x20 x21 x22 s23 = some o → F_x12_putsIn s o := by
    intro x19 x20 x21 x22 s23 hF h
    unfold m_x12_putsIn_J33 at h
    exact J34 x19 x20 x21 x22 0 s23 hF h
  obtain ⟨r25, hc24, h⟩ := bn_e h
  obtain ⟨r27, hc26, h⟩ := bn_e h
  obtain ⟨hr28, h⟩ := rg_e h
  obtain ⟨hr29, h⟩ := rg_e h
  by_cases c30 : r27 ≤ r25
  · have h := if_t c30 h
    exact J33 p0 p1 p2 r25 s hF h
  · have h := if_f c30 h
    obtain ⟨r32, hc31, h⟩ := bn_e h
    obtain ⟨hr33, h⟩ := rg_e h
    obtain ⟨hr34, h⟩ := rg_e h
    by_cases c35 : r32 = p1
    · have h := if_t c35 h
      exact J34 p0 p1 p2 r25 1 s hF h
    · have h := if_f c35 h
      exact J33 p0 p1 p2 r25 s hF h
abbrev F_x12_doesSplit (s o : MS) : Prop := Fr [48, 52, 53, 108] [] [] [107] s o
theorem fr_x12_doesSplit {p0 : Int} {s : MS} {o : (Int × MS)} (h : m_x12_doesSplit p0 s = some o) : F_x12_doesSplit s o.2 := by
  have hF : F_x12_doesSplit s s := Fr.rf s
  unfold m_x12_doesSplit at h
  have J60 : ∀ (x1 : Int) (s2 : MS), F_x12_doesSplit s s2 → m_x12_doesSplit_J60 x1 s2 = some o → F_x12_doesSplit s o.2 := by
    intro x1 s2 hF h
    unfold m_x12_doesSplit_J60 at h
    obtain ⟨hb3, h⟩ := bo_e h
    obtain rfl := Option.some.inj h
    exact hF
  have J29 : ∀ (s4 : MS), F_x12_doesSplit s s4 → m_x12_doesSplit_J29 s4 = some o → F_x12_doesSplit s o.2 := by
    intro s4 hF h
    unfold m_x12_doesSplit_J29 at h
    obtain rfl := Option.some.inj h
    exact hF
  obtain ⟨r6, hc5, h⟩ := bn_e h
  obtain ⟨r8, hc7, h⟩ := bn_e h
  obtain ⟨hr9, h⟩ := rg_e h
  obtain ⟨hr10, h⟩ := rg_e h
  by_cases c11 : r6 < r8
  · have h := if_t c11 h
    obtain ⟨hr12, h⟩ := rg_e h
    by_cases c13 : r6 < 2
    · have h := if_t c13 h
      exact J29 s hF h
    · have h := if_f c13 h
      obtain ⟨r15, hc14, h⟩ := bn_e h
      obtain ⟨hr16, h⟩ := rg_e h
      by_cases c17 : r15 = 0
      · have h := if_t c17 h
        exact J29 s hF h
      · have h := if_f c17 h
        obtain ⟨r19, hc18, h⟩ := bn_e h
        obtain ⟨s20, hs20, h⟩ := st_e h
        have hF : F_x12_doesSplit s s20 := hs20 ▸ Fr.uI hF (by decide)
        obtain ⟨s21, hs21, h⟩ := st_e h
        have hF : F_x12_doesSplit s s21 := hs21 ▸ Fr.uI hF (by decide)
        obtain ⟨⟨rl24, s23⟩, hc22, h⟩ := bn_e h
        have hF : F_x12_doesSplit s s23 := Fr.tr hF (fr_x12_codesTell hc22) (by decide)
        obtain ⟨hr25, h⟩ := rgL_e h
        by_cases c26 : rl24 = 1
        · have h := if_t c26 h
          exact J60 1 s23 hF h
        · have h := if_f c26 h
          exact J60 0 s23 hF h
  · have h := if_f c11 h
    obtain rfl := Option.some.inj h
    exact hF
abbrev F_x12_half (s o : MS) : Prop := Fr [48, 50, 51, 52, 55, 108] [49, 54] [] [107] s o
theorem fr_x12_half {p0 : Int} {p1 : Int} {p2 : Int} {p3 : Int} {s : MS} {o : (Int × MS)} (h : m_x12_half p0 p1 p2 p3 s = some o) : F_x12_half s o.2 := by
  have hF : F_x12_half s s := Fr.rf s
  unfold m_x12_half at h
  have J142 : ∀ (x1 : Int) (s2 : MS), F_x12_half s s2 → m_x12_half_J142 x1 s2 = some o → F_x12_half s o.2 := by
    intro x1 s2 hF h
    unfold m_x12_half_J142 at h
    obtain rfl := Option.some.inj h
    exact hF
  have L43 : ∀ (n : Nat) (x3 : Int) (x4 : Int) (x5 : Int) (x6 : Int) (x7 : Int) (x8 : Int) (x9 : Int) (x10 : Int) (s11 : MS), F_x12_half s s11 → m_x12_half_L43 n x3 x4 x5 x6 x7 x8 x9 x10 s11 = some o → F_x12_half s o.2 := by
    refine fr_ind (fun x3 x4 x5 x6 x7 x8 x9 x10 s11 hF h => by cases h) ?_
    intro n43 ih43 x3 x4 x5 x6 x7 x8 x9 x10 s11 hF h
    have h : m_x12_half_b43 (m_x12_half_L43 n43) x3 x4 x5 x6 x7 x8 x9 x10 s11 = some o := h
    unfold m_x12_half_b43 at h
    obtain ⟨hr12, h⟩ := rg_e h
    obtain ⟨hr13, h⟩ := rg_e h
    by_cases c14 : x8 ≤ x10
    · have h := if_t c14 h
      obtain ⟨hi15, h⟩ := inb_e h
      obtain ⟨s16, hs16, h⟩ := st_e h
      have hF : F_x12_half s s16 := hs16 ▸ Fr.uA hF (by decide)
      obtain ⟨hi17, h⟩ := inb_e h
      obtain ⟨hb18, h⟩ := bo_e h
      obtain ⟨s19, hs19, h⟩ := st_e h
      have hF : F_x12_half s s19 := hs19 ▸ Fr.uA hF (by decide)
      obtain ⟨r21, hc20, h⟩ := bn_e h
      obtain ⟨s23, hc22, h⟩ := bn_e h
      have hF : F_x12_half s s23 := Fr.tr hF (fr_x12_inserts hc22) (by decide)
      obtain ⟨r25, hc24, h⟩ := bn_e h
      obtain ⟨hr26, h⟩ := rg_e h
      obtain ⟨hr27, h⟩ := rg_e h
      by_cases c28 : x6 < r25
      · have h := if_t c28 h
        exact J142 x5 s23 hF h
      · have h := if_f c28 h
        exact J142 x7 s23 hF h
    · have h := if_f c14 h
      obtain ⟨r30, hc29, h⟩ := bn_e h
      obtain ⟨r32, hc31, h⟩ := bn_e h
      obtain ⟨s34, hc33, h⟩ := bn_e h
      have hF : F_x12_half s s34 := Fr.tr hF (fr_x12_inserts hc33) (by decide)
      exact ih43 x3 x4 x5 x6 x7 x8 x9 (x10 + 1) s34 hF h
  obtain ⟨r36, hc35, h⟩ := bn_e h
  obtain ⟨⟨r39, s38⟩, hc37, h⟩ := bn_e h
  have hF : F_x12_half s s38 := Fr.tr hF (fr_x12_taken hc37) (by decide)
  obtain ⟨hr40, h⟩ := rg_e h
  by_cases c41 : (gI s38 55) = 0
  · have h := if_t c41 h
    obtain ⟨r43, hc42, h⟩ := bn_e h
    obtain ⟨hn44, h⟩ := dv_e h
    obtain ⟨r46, hc45, h⟩ := bn_e h
    exact L43 FU p0 p1 p2 p3 r39 (Int.tdiv r43 2) (r46 - (Int.tdiv r43 2)) 0 s38 hF h
  · have h := if_f c41 h
    obtain rfl := Option.some.inj h
    exact hF
abbrev F_x12_rootSplit (s o : MS) : Prop := Fr [48, 50, 51, 52, 55, 108] [49, 54] [] [107] s o
theorem fr_x12_rootSplit {p0 : Int} {p1 : Int} {p2 : Int} {s : MS} {o : (Int × MS)} (h : m_x12_rootSplit p0 p1 p2 s = some o) : F_x12_rootSplit s o.2 := by
  have hF : F_x12_rootSplit s s := Fr.rf s
  unfold m_x12_rootSplit at h
  obtain ⟨r2, hc1, h⟩ := bn_e h
  obtain ⟨⟨r5, s4⟩, hc3, h⟩ := bn_e h
  have hF : F_x12_rootSplit s s4 := Fr.tr hF (fr_x12_taken hc3) (by decide)
  obtain ⟨hr6, h⟩ := rg_e h
  by_cases c7 : (gI s4 55) = 0
  · have h := if_t c7 h
    obtain ⟨r9, hc8, h⟩ := bn_e h
    obtain ⟨s11, hc10, h⟩ := bn_e h
    have hF : F_x12_rootSplit s s11 := Fr.tr hF (fr_x12_inserts hc10) (by decide)
    obtain ⟨hi12, h⟩ := inb_e h
    obtain ⟨s13, hs13, h⟩ := st_e h
    have hF : F_x12_rootSplit s s13 := hs13 ▸ Fr.uA hF (by decide)
    obtain ⟨⟨r16, s15⟩, hc14, h⟩ := bn_e h
    have hF : F_x12_rootSplit s s15 := Fr.tr hF (fr_x12_half hc14) (by decide)
    obtain rfl := Option.some.inj h
    exact hF
  · have h := if_f c7 h
    obtain rfl := Option.some.inj h
    exact hF
abbrev F_x12_puts (s o : MS) : Prop := Fr [48, 50, 51, 52, 53, 55, 108] [49, 54, 56] [] [107] s o
theorem fr_x12_puts {p0 : Int} {p1 : Int} {p2 : Int} {s : MS} {o : MS} (h : m_x12_puts p0 p1 p2 s = some o) : F_x12_puts s o := by
  have hF : F_x12_puts s s := Fr.rf s
  unfold m_x12_puts at h
  have J213 : ∀ (s1 : MS), F_x12_puts s s1 → m_x12_puts_J213 s1 = some o → F_x12_puts s o := by
    intro s1 hF h
    unfold m_x12_puts_J213 at h
    obtain rfl := Option.some.inj h
    exact hF
  have J198 : ∀ (x2 : Int) (x3 : Int) (x4 : Int) (s5 : MS), F_x12_puts s s5 → m_x12_puts_J198 x2 x3 x4 s5 = some o → F_x12_puts s o := by
    intro x2 x3 x4 s5 hF h
    unfold m_x12_puts_J198 at h
    obtain ⟨hr6, h⟩ := rg_e h
    by_cases c7 : (gI s5 55) = 0
    · have h := if_t c7 h
      obtain ⟨s9, hc8, h⟩ := bn_e h
      have hF : F_x12_puts s s9 := Fr.tr hF (fr_x12_putsIn hc8) (by decide)
      exact J213 s9 hF h
    · have h := if_f c7 h
      exact J213 s5 hF h
  have L94 : ∀ (n : Nat) (x10 : Int) (x11 : Int) (x12 : Int) (s13 : MS), F_x12_puts s s13 → m_x12_puts_L94 n x10 x11 x12 s13 = some o → F_x12_puts s o := by
    refine fr_ind (fun x10 x11 x12 s13 hF h => by cases h) ?_
    intro n94 ih94 x10 x11 x12 s13 hF h
    have h : m_x12_puts_b94 (m_x12_puts_L94 n94) x10 x11 x12 s13 = some o := h
    unfold m_x12_puts_b94 at h
    have J191 : ∀ (x14 : Int) (x15 : Int) (x16 : Int) (s17 : MS), F_x12_puts s s17 → m_x12_puts_J191 (m_x12_puts_L94 n94) x14 x15 x16 s17 = some o → F_x12_puts s o := by
      intro x14 x15 x16 s17 hF h
      unfold m_x12_puts_J191 at h
      exact ih94 x14 x15 x16 s17 hF h
    have J162 : ∀ (x18 : Int) (x19 : Int) (x20 : Int) (x21 : Int) (x22 : Int) (s23 : MS), F_x12_puts s s23 → m_x12_puts_J162 (m_x12_puts_L94 n94) x18 x19 x20 x21 x22 s23 = some o → F_x12_puts s o := by
      intro x18 x19 x20 x21 x22 s23 hF h
      unfold m_x12_puts_J162 at h
      obtain ⟨hr24, h⟩ := rg_e h
      by_cases c25 : (gI s23 55) = 0
      · have h := if_t c25 h
        obtain ⟨⟨r28, s27⟩, hc26, h⟩ := bn_e h
        have hF : F_x12_puts s s27 := Fr.tr hF (fr_x12_doesSplit hc26) (by decide)
        obtain ⟨hr29, h⟩ := rg_e h
        by_cases c30 : r28 = 0
        · have h := if_t c30 h
          exact J191 x18 x19 x22 s27 hF h
        · have h := if_f c30 h
          obtain ⟨⟨r33, s32⟩, hc31, h⟩ := bn_e h
          have hF : F_x12_puts s s32 := Fr.tr hF (fr_x12_half hc31) (by decide)
          exact J191 x18 x19 r33 s32 hF h
      · have h := if_f c25 h
        exact J191 x18 x19 x22 s23 hF h
    obtain ⟨hr34, h⟩ := rg_e h
    by_cases c35 : (gI s13 55) = 0
    · have h := if_t c35 h
      obtain ⟨r37, hc36, h⟩ := bn_e h
      obtain ⟨hr38, h⟩ := rg_e h
      by_cases c39 : r37 ≤ 0
      · have h := if_t c39 h
        exact J198 x10 x11 x12 s13 hF h
      · have h := if_f c39 h
        obtain ⟨r41, hc40, h⟩ := bn_e h
        obtain ⟨r43, hc42, h⟩ := bn_e h
        obtain ⟨⟨r46, s45⟩, hc44, h⟩ := bn_e h
        have hF : F_x12_puts s s45 := Fr.tr hF (fr_x12_owned hc44) (by decide)
        obtain ⟨hr47, h⟩ := rg_e h
        obtain ⟨hr48, h⟩ := rg_e h
        by_cases c49 : r46 = r43
        · have h := if_t c49 h
          exact J162 x10 x11 x12 r41 r46 s45 hF h
        · have h := if_f c49 h
          obtain ⟨r51, hc50, h⟩ := bn_e h
          obtain ⟨s53, hc52, h⟩ := bn_e h
          have hF : F_x12_puts s s53 := Fr.tr hF (fr_x12_setsEntry hc52) (by decide)
          exact J162 x10 x11 x12 r41 r46 s53 hF h
    · have h := if_f c35 h
      exact J198 x10 x11 x12 s13 hF h
  obtain ⟨y54, ey54, iy54, h⟩ := rdI_e h
  obtain ⟨hr55, h⟩ := rg_e h
  by_cases c56 : y54 = 254
  · have h := if_t c56 h
    obtain ⟨⟨r75, s74⟩, hc73, h⟩ := bn_e h
    have hF : F_x12_puts s s74 := Fr.tr hF (fr_x12_taken hc73) (by decide)
    obtain ⟨hr76, h⟩ := rg_e h
    by_cases c77 : (gI s74 55) = 0
    · have h := if_t c77 h
      obtain ⟨s79, hc78, h⟩ := bn_e h
      have hF : F_x12_puts s s79 := Fr.tr hF (fr_x12_inserts hc78) (by decide)
      obtain ⟨hi80, h⟩ := inb_e h
      obtain ⟨s81, hs81, h⟩ := st_e h
      have hF : F_x12_puts s s81 := hs81 ▸ Fr.uA hF (by decide)
      obtain rfl := Option.some.inj h
      exact hF
    · have h := if_f c77 h
      obtain rfl := Option.some.inj h
      exact hF
  · have h := if_f c56 h
    obtain ⟨y57, ey57, iy57, h⟩ := rdI_e h
    obtain ⟨⟨r60, s59⟩, hc58, h⟩ := bn_e h
    have hF : F_x12_puts s s59 := Fr.tr hF (fr_x12_owned hc58) (by decide)
    obtain ⟨hr61, h⟩ := rg_e h
    by_cases c62 : (gI s59 55) = 0
    · have h := if_t c62 h
      obtain ⟨hi63, h⟩ := inb_e h
      obtain ⟨s64, hs64, h⟩ := st_e h
      have hF : F_x12_puts s s64 := hs64 ▸ Fr.uA hF (by decide)
      obtain ⟨⟨r67, s66⟩, hc65, h⟩ := bn_e h
      have hF : F_x12_puts s s66 := Fr.tr hF (fr_x12_doesSplit hc65) (by decide)
      obtain ⟨hr68, h⟩ := rg_e h
      by_cases c69 : r67 = 0
      · have h := if_t c69 h
        exact L94 FU p1 p2 r60 s66 hF h
      · have h := if_f c69 h
        obtain ⟨⟨r72, s71⟩, hc70, h⟩ := bn_e h
        have hF : F_x12_puts s s71 := Fr.tr hF (fr_x12_rootSplit hc70) (by decide)
        exact L94 FU p1 p2 r72 s71 hF h
    · have h := if_f c62 h
      obtain rfl := Option.some.inj h
      exact hF
abbrev F_x12_tries (s o : MS) : Prop := Fr [48, 50, 51, 52, 53, 55, 108] [49, 54, 56, 57, 58, 59, 60] [] [107] s o
theorem fr_x12_tries {p0 : Int} {p1 : Int} {p2 : Int} {p3 : Int} {s : MS} {o : (Int × MS)} (h : m_x12_tries p0 p1 p2 p3 s = some o) : F_x12_tries s o.2 := by
  have hF : F_x12_tries s s := Fr.rf s
  unfold m_x12_tries at h
  have L164 : ∀ (n : Nat) (x1 : Int) (s2 : MS), F_x12_tries s s2 → m_x12_tries_L164 n x1 s2 = some o → F_x12_tries s o.2 := by
    refine fr_ind (fun x1 s2 hF h => by cases h) ?_
    intro n164 ih164 x1 s2 hF h
    have h : m_x12_tries_b164 (m_x12_tries_L164 n164) x1 s2 = some o := h
    unfold m_x12_tries_b164 at h
    obtain ⟨hr3, h⟩ := rg_e h
    by_cases c4 : 48 ≤ x1
    · have h := if_t c4 h
      obtain ⟨s5, hs5, h⟩ := st_e h
      have hF : F_x12_tries s s5 := hs5 ▸ Fr.uI hF (by decide)
      obtain rfl := Option.some.inj h
      exact hF
    · have h := if_f c4 h
      obtain ⟨y6, ey6, iy6, h⟩ := rdI_e h
      obtain ⟨hi7, h⟩ := inb_e h
      obtain ⟨hb8, h⟩ := bo_e h
      obtain ⟨s9, hs9, h⟩ := st_e h
      have hF : F_x12_tries s s9 := hs9 ▸ Fr.uA hF (by decide)
      exact ih164 (x1 + 1) s9 hF h
  have L133 : ∀ (n : Nat) (x10 : Int) (s11 : MS), F_x12_tries s s11 → m_x12_tries_L133 n x10 s11 = some o → F_x12_tries s o.2 := by
    refine fr_ind (fun x10 s11 hF h => by cases h) ?_
    intro n133 ih133 x10 s11 hF h
    have h : m_x12_tries_b133 (m_x12_tries_L133 n133) x10 s11 = some o := h
    unfold m_x12_tries_b133 at h
    obtain ⟨hr12, h⟩ := rg_e h
    by_cases c13 : 785 ≤ x10
    · have h := if_t c13 h
      exact L164 FU 0 s11 hF h
    · have h := if_f c13 h
      obtain ⟨y14, ey14, iy14, h⟩ := rdI_e h
      obtain ⟨hi15, h⟩ := inb_e h
      obtain ⟨s16, hs16, h⟩ := st_e h
      have hF : F_x12_tries s s16 := hs16 ▸ Fr.uA hF (by decide)
      exact ih133 (x10 + 1) s16 hF h
  have J121 : ∀ (s17 : MS), F_x12_tries s s17 → m_x12_tries_J121 s17 = some o → F_x12_tries s o.2 := by
    intro s17 hF h
    unfold m_x12_tries_J121 at h
    obtain ⟨hr18, h⟩ := rg_e h
    by_cases c19 : (gI s17 55) = 0
    · have h := if_t c19 h
      obtain rfl := Option.some.inj h
      exact hF
    · have h := if_f c19 h
      exact L133 FU 0 s17 hF h
  have J108 : ∀ (x20 : Int) (x21 : Int) (s22 : MS), F_x12_tries s s22 → m_x12_tries_J108 x20 x21 s22 = some o → F_x12_tries s o.2 := by
    intro x20 x21 s22 hF h
    unfold m_x12_tries_J108 at h
    obtain ⟨hr23, h⟩ := rg_e h
    by_cases c24 : (gI s22 55) = 0
    · have h := if_t c24 h
      obtain ⟨s26, hc25, h⟩ := bn_e h
      have hF : F_x12_tries s s26 := Fr.tr hF (fr_x12_removes hc25) (by decide)
      exact J121 s26 hF h
    · have h := if_f c24 h
      exact J121 s22 hF h
  have J82 : ∀ (x27 : Int) (x28 : Int) (x29 : Int) (x30 : Int) (x31 : Int) (s32 : MS), F_x12_tries s s32 → m_x12_tries_J82 x27 x28 x29 x30 x31 s32 = some o → F_x12_tries s o.2 := by
    intro x27 x28 x29 x30 x31 s32 hF h
    unfold m_x12_tries_J82 at h
    obtain ⟨hb33, h⟩ := bo_e h
    obtain ⟨s34, hs34, h⟩ := st_e h
    have hF : F_x12_tries s s34 := hs34 ▸ Fr.uI hF (by decide)
    obtain ⟨hr35, h⟩ := rg_e h
    by_cases c36 : (gI s34 55) = 0
    · have h := if_t c36 h
      obtain ⟨hr37, h⟩ := rg_e h
      by_cases c38 : x27 = 2
      · have h := if_t c38 h
        obtain ⟨s40, hc39, h⟩ := bn_e h
        have hF : F_x12_tries s s40 := Fr.tr hF (fr_x12_puts hc39) (by decide)
        exact J121 s40 hF h
      · have h := if_f c38 h
        exact J108 x28 x29 s34 hF h
    · have h := if_f c36 h
      exact J108 x28 x29 s34 hF h
  have J81 : ∀ (x41 : Int) (x42 : Int) (x43 : Int) (x44 : Int) (s45 : MS), F_x12_tries s s45 → m_x12_tries_J81 x41 x42 x43 x44 s45 = some o → F_x12_tries s o.2 := by
    intro x41 x42 x43 x44 s45 hF h
    unfold m_x12_tries_J81 at h
    exact J82 x41 x42 x43 x44 0 s45 hF h
  have L34 : ∀ (n : Nat) (x46 : Int) (x47 : Int) (x48 : Int) (x49 : Int) (x50 : Int) (s51 : MS), F_x12_tries s s51 → m_x12_tries_L34 n x46 x47 x48 x49 x50 s51 = some o → F_x12_tries s o.2 := by
    refine fr_ind (fun x46 x47 x48 x49 x50 s51 hF h => by cases h) ?_
    intro n34 ih34 x46 x47 x48 x49 x50 s51 hF h
    have h : m_x12_tries_b34 (m_x12_tries_L34 n34) x46 x47 x48 x49 x50 s51 = some o := h
    unfold m_x12_tries_b34 at h
    obtain ⟨hr52, h⟩ := rg_e h
    by_cases c53 : 48 ≤ x50
    · have h := if_t c53 h
      obtain ⟨hr54, h⟩ := rg_e h
      by_cases c55 : x46 = 3
      · have h := if_t c55 h
        obtain ⟨r57, hc56, h⟩ := bn_e h
        obtain ⟨hr58, h⟩ := rg_e h
        by_cases c59 : r57 = (-1)
        · have h := if_t c59 h
          exact J82 x46 x47 x48 x49 1 s51 hF h
        · have h := if_f c59 h
          exact J81 x46 x47 x48 x49 s51 hF h
      · have h := if_f c55 h
        exact J81 x46 x47 x48 x49 s51 hF h
    · have h := if_f c53 h
      obtain ⟨y60, ey60, iy60, h⟩ := rdI_e h
      obtain ⟨hi61, h⟩ := inb_e h
      obtain ⟨hb62, h⟩ := bo_e h
      obtain ⟨s63, hs63, h⟩ := st_e h
      have hF : F_x12_tries s s63 := hs63 ▸ Fr.uA hF (by decide)
      exact ih34 x46 x47 x48 x49 (x50 + 1) s63 hF h
  have L3 : ∀ (n : Nat) (x64 : Int) (x65 : Int) (x66 : Int) (x67 : Int) (x68 : Int) (s69 : MS), F_x12_tries s s69 → m_x12_tries_L3 n x64 x65 x66 x67 x68 s69 = some o → F_x12_tries s o.2 := by
    refine fr_ind (fun x64 x65 x66 x67 x68 s69 hF h => by cases h) ?_
    intro n3 ih3 x64 x65 x66 x67 x68 s69 hF h
    have h : m_x12_tries_b3 (m_x12_tries_L3 n3) x64 x65 x66 x67 x68 s69 = some o := h
    unfold m_x12_tries_b3 at h
    obtain ⟨hr70, h⟩ := rg_e h
    by_cases c71 : 785 ≤ x68
    · have h := if_t c71 h
      exact L34 FU x64 x65 x66 x67 0 s69 hF h
    · have h := if_f c71 h
      obtain ⟨y72, ey72, iy72, h⟩ := rdI_e h
      obtain ⟨hi73, h⟩ := inb_e h
      obtain ⟨s74, hs74, h⟩ := st_e h
      have hF : F_x12_tries s s74 := hs74 ▸ Fr.uA hF (by decide)
      exact ih3 x64 x65 x66 x67 (x68 + 1) s74 hF h
  exact L3 FU p0 p1 p2 p3 0 s hF h
abbrev F_x12_copies (s o : MS) : Prop := Fr [] [49] [] [] s o
theorem fr_x12_copies {p0 : Int} {p1 : Int} {s : MS} {o : MS} (h : m_x12_copies p0 p1 s = some o) : F_x12_copies s o := by
  have hF : F_x12_copies s s := Fr.rf s
  unfold m_x12_copies at h
  have J35 : ∀ (s1 : MS), F_x12_copies s s1 → m_x12_copies_J35 s1 = some o → F_x12_copies s o := by
    intro s1 hF h
    unfold m_x12_copies_J35 at h
    obtain rfl := Option.some.inj h
    exact hF
  obtain ⟨y2, ey2, iy2, h⟩ := rdI_e h
  obtain ⟨hi3, h⟩ := inb_e h
  obtain ⟨s4, hs4, h⟩ := st_e h
  have hF : F_x12_copies s s4 := hs4 ▸ Fr.uA hF (by decide)
  obtain ⟨y5, ey5, iy5, h⟩ := rdI_e h
  obtain ⟨hr6, h⟩ := rg_e h
  by_cases c7 : y5 = 254
  · have h := if_t c7 h
    exact J35 s4 hF h
  · have h := if_f c7 h
    obtain ⟨y8, ey8, iy8, h⟩ := rdI_e h
    obtain ⟨s10, hc9, h⟩ := bn_e h
    have hF : F_x12_copies s s10 := Fr.tr hF (fr_x12_counts hc9) (by decide)
    exact J35 s10 hF h
abbrev F_x12_actGoes (s o : MS) : Prop := Fr [48, 50, 51, 52, 53, 55, 108] [49, 54, 56, 57, 58, 59, 60] [] [107] s o
theorem fr_x12_actGoes {p0 : Int} {p1 : Int} {p2 : Int} {p3 : Int} {s : MS} {o : MS} (h : m_x12_actGoes p0 p1 p2 p3 s = some o) : F_x12_actGoes s o := by
  have hF : F_x12_actGoes s s := Fr.rf s
  unfold m_x12_actGoes at h
  have J40 : ∀ (s1 : MS), F_x12_actGoes s s1 → m_x12_actGoes_J40 s1 = some o → F_x12_actGoes s o := by
    intro s1 hF h
    unfold m_x12_actGoes_J40 at h
    obtain rfl := Option.some.inj h
    exact hF
  obtain ⟨hr2, h⟩ := rg_e h
  by_cases c3 : p0 = 0
  · have h := if_t c3 h
    obtain ⟨hi11, h⟩ := inb_e h
    obtain ⟨s12, hs12, h⟩ := st_e h
    have hF : F_x12_actGoes s s12 := hs12 ▸ Fr.uA hF (by decide)
    exact J40 s12 hF h
  · have h := if_f c3 h
    obtain ⟨hr4, h⟩ := rg_e h
    by_cases c5 : p0 = 1
    · have h := if_t c5 h
      obtain ⟨s10, hc9, h⟩ := bn_e h
      have hF : F_x12_actGoes s s10 := Fr.tr hF (fr_x12_copies hc9) (by decide)
      exact J40 s10 hF h
    · have h := if_f c5 h
      obtain ⟨⟨r8, s7⟩, hc6, h⟩ := bn_e h
      have hF : F_x12_actGoes s s7 := Fr.tr hF (fr_x12_tries hc6) (by decide)
      exact J40 s7 hF h
abbrev F_x12_stands (s o : MS) : Prop := Fr [47, 48, 50, 51, 52, 53, 55, 73, 76, 108] [39, 42, 43, 44, 49, 54, 56, 57, 58, 59, 60] [] [40, 107] s o
theorem fr_x12_stands {s : MS} {o : MS} (h : m_x12_stands s = some o) : F_x12_stands s o := by
  have hF : F_x12_stands s s := Fr.rf s
  unfold m_x12_stands at h
  have L193 : ∀ (n : Nat) (x1 : Int) (s2 : MS), F_x12_stands s s2 → m_x12_stands_L193 n x1 s2 = some o → F_x12_stands s o := by
    refine fr_ind (fun x1 s2 hF h => by cases h) ?_
    intro n193 ih193 x1 s2 hF h
    have h : m_x12_stands_b193 (m_x12_stands_L193 n193) x1 s2 = some o := h
    unfold m_x12_stands_b193 at h
    obtain ⟨y3, ey3, iy3, h⟩ := rdI_e h
    obtain ⟨hr4, h⟩ := rg_e h
    obtain ⟨hr5, h⟩ := rg_e h
    by_cases c6 : y3 ≤ x1
    · have h := if_t c6 h
      obtain ⟨s8, hc7, h⟩ := bn_e h
      have hF : F_x12_stands s s8 := Fr.tr hF (fr_x12_checks hc7) (by decide)
      obtain ⟨hi9, h⟩ := inb_e h
      obtain ⟨s10, hs10, h⟩ := st_e h
      have hF : F_x12_stands s s10 := hs10 ▸ Fr.uA hF (by decide)
      obtain ⟨s11, hs11, h⟩ := st_e h
      have hF : F_x12_stands s s11 := hs11 ▸ Fr.uI hF (by decide)
      obtain ⟨s12, hs12, h⟩ := st_e h
      have hF : F_x12_stands s s12 := hs12 ▸ Fr.uI hF (by decide)
      obtain rfl := Option.some.inj h
      exact hF
    · have h := if_f c6 h
      obtain ⟨y13, ey13, iy13, h⟩ := rdI_e h
      obtain ⟨y14, ey14, iy14, h⟩ := rdI_e h
      obtain ⟨y15, ey15, iy15, h⟩ := rdI_e h
      obtain ⟨y16, ey16, iy16, h⟩ := rdI_e h
      obtain ⟨s18, hc17, h⟩ := bn_e h
      have hF : F_x12_stands s s18 := Fr.tr hF (fr_x12_actGoes hc17) (by decide)
      exact ih193 (x1 + 1) s18 hF h
  have L158 : ∀ (n : Nat) (x19 : Int) (s20 : MS), F_x12_stands s s20 → m_x12_stands_L158 n x19 s20 = some o → F_x12_stands s o := by
    refine fr_ind (fun x19 s20 hF h => by cases h) ?_
    intro n158 ih158 x19 s20 hF h
    have h : m_x12_stands_b158 (m_x12_stands_L158 n158) x19 s20 = some o := h
    unfold m_x12_stands_b158 at h
    obtain ⟨hr21, h⟩ := rg_e h
    by_cases c22 : 8 ≤ x19
    · have h := if_t c22 h
      exact L193 FU 0 s20 hF h
    · have h := if_f c22 h
      obtain ⟨hi23, h⟩ := inb_e h
      obtain ⟨s24, hs24, h⟩ := st_e h
      have hF : F_x12_stands s s24 := hs24 ▸ Fr.uA hF (by decide)
      obtain ⟨hi25, h⟩ := inb_e h
      obtain ⟨s26, hs26, h⟩ := st_e h
      have hF : F_x12_stands s s26 := hs26 ▸ Fr.uA hF (by decide)
      exact ih158 (x19 + 1) s26 hF h
  have L136 : ∀ (n : Nat) (x27 : Int) (s28 : MS), F_x12_stands s s28 → m_x12_stands_L136 n x27 s28 = some o → F_x12_stands s o := by
    refine fr_ind (fun x27 s28 hF h => by cases h) ?_
    intro n136 ih136 x27 s28 hF h
    have h : m_x12_stands_b136 (m_x12_stands_L136 n136) x27 s28 = some o := h
    unfold m_x12_stands_b136 at h
    obtain ⟨hr29, h⟩ := rg_e h
    by_cases c30 : 906 ≤ x27
    · have h := if_t c30 h
      exact L158 FU 0 s28 hF h
    · have h := if_f c30 h
      obtain ⟨hi31, h⟩ := inb_e h
      obtain ⟨s32, hs32, h⟩ := st_e h
      have hF : F_x12_stands s s32 := hs32 ▸ Fr.uA hF (by decide)
      exact ih136 (x27 + 1) s32 hF h
  have L104 : ∀ (n : Nat) (x33 : Int) (s34 : MS), F_x12_stands s s34 → m_x12_stands_L104 n x33 s34 = some o → F_x12_stands s o := by
    refine fr_ind (fun x33 s34 hF h => by cases h) ?_
    intro n104 ih104 x33 s34 hF h
    have h : m_x12_stands_b104 (m_x12_stands_L104 n104) x33 s34 = some o := h
    unfold m_x12_stands_b104 at h
    obtain ⟨hr35, h⟩ := rg_e h
    obtain ⟨hr36, h⟩ := rg_e h
    by_cases c37 : (gI s34 45) ≤ x33
    · have h := if_t c37 h
      exact L136 FU 0 s34 hF h
    · have h := if_f c37 h
      obtain ⟨y38, ey38, iy38, h⟩ := rdI_e h
      obtain ⟨hi39, h⟩ := inb_e h
      obtain ⟨s40, hs40, h⟩ := st_e h
      have hF : F_x12_stands s s40 := hs40 ▸ Fr.uA hF (by decide)
      exact ih104 (x33 + 1) s40 hF h
  have L75 : ∀ (n : Nat) (x41 : Int) (s42 : MS), F_x12_stands s s42 → m_x12_stands_L75 n x41 s42 = some o → F_x12_stands s o := by
    refine fr_ind (fun x41 s42 hF h => by cases h) ?_
    intro n75 ih75 x41 s42 hF h
    have h : m_x12_stands_b75 (m_x12_stands_L75 n75) x41 s42 = some o := h
    unfold m_x12_stands_b75 at h
    obtain ⟨hr43, h⟩ := rg_e h
    by_cases c44 : 8 ≤ x41
    · have h := if_t c44 h
      exact L104 FU 0 s42 hF h
    · have h := if_f c44 h
      obtain ⟨yl45, eyl45, iyl45, h⟩ := rdL_e h
      obtain ⟨hi46, h⟩ := inb_e h
      obtain ⟨s47, hs47, h⟩ := st_e h
      have hF : F_x12_stands s s47 := hs47 ▸ Fr.uB hF (by decide)
      exact ih75 (x41 + 1) s47 hF h
  have L34 : ∀ (n : Nat) (x48 : Int) (s49 : MS), F_x12_stands s s49 → m_x12_stands_L34 n x48 s49 = some o → F_x12_stands s o := by
    refine fr_ind (fun x48 s49 hF h => by cases h) ?_
    intro n34 ih34 x48 s49 hF h
    have h : m_x12_stands_b34 (m_x12_stands_L34 n34) x48 s49 = some o := h
    unfold m_x12_stands_b34 at h
    obtain ⟨hr50, h⟩ := rg_e h
    by_cases c51 : 3 ≤ x48
    · have h := if_t c51 h
      exact L75 FU 0 s49 hF h
    · have h := if_f c51 h
      obtain ⟨y52, ey52, iy52, h⟩ := rdI_e h
      obtain ⟨hi53, h⟩ := inb_e h
      obtain ⟨s54, hs54, h⟩ := st_e h
      have hF : F_x12_stands s s54 := hs54 ▸ Fr.uA hF (by decide)
      obtain ⟨y55, ey55, iy55, h⟩ := rdI_e h
      obtain ⟨hi56, h⟩ := inb_e h
      obtain ⟨s57, hs57, h⟩ := st_e h
      have hF : F_x12_stands s s57 := hs57 ▸ Fr.uA hF (by decide)
      exact ih34 (x48 + 1) s57 hF h
  have L7 : ∀ (n : Nat) (x58 : Int) (s59 : MS), F_x12_stands s s59 → m_x12_stands_L7 n x58 s59 = some o → F_x12_stands s o := by
    refine fr_ind (fun x58 s59 hF h => by cases h) ?_
    intro n7 ih7 x58 s59 hF h
    have h : m_x12_stands_b7 (m_x12_stands_L7 n7) x58 s59 = some o := h
    unfold m_x12_stands_b7 at h
    obtain ⟨hr60, h⟩ := rg_e h
    by_cases c61 : 5 ≤ x58
    · have h := if_t c61 h
      exact L34 FU 0 s59 hF h
    · have h := if_f c61 h
      obtain ⟨y62, ey62, iy62, h⟩ := rdI_e h
      obtain ⟨hi63, h⟩ := inb_e h
      obtain ⟨s64, hs64, h⟩ := st_e h
      have hF : F_x12_stands s s64 := hs64 ▸ Fr.uA hF (by decide)
      exact ih7 (x58 + 1) s64 hF h
  obtain ⟨s65, hs65, h⟩ := st_e h
  have hF : F_x12_stands s s65 := hs65 ▸ Fr.uI hF (by decide)
  exact L7 FU 0 s65 hF h
abbrev F_x12_refuses (s o : MS) : Prop := Fr [] [9] [] [] s o
theorem fr_x12_refuses {p0 : Int} {s : MS} {o : (Int × MS)} (h : m_x12_refuses p0 s = some o) : F_x12_refuses s o.2 := by
  have hF : F_x12_refuses s s := Fr.rf s
  unfold m_x12_refuses at h
  obtain ⟨y1, ey1, iy1, h⟩ := rdI_e h
  obtain ⟨hi2, h⟩ := inb_e h
  obtain ⟨s3, hs3, h⟩ := st_e h
  have hF : F_x12_refuses s s3 := hs3 ▸ Fr.uA hF (by decide)
  obtain rfl := Option.some.inj h
  exact hF
abbrev F_x12_store (s o : MS) : Prop := Fr [1, 2, 3, 4, 5, 6, 7, 8, 10, 38, 45, 46, 47, 48, 50, 51, 52, 53, 55, 73, 76, 102, 104, 105, 106, 108] [9, 39, 41, 42, 43, 44, 49, 54, 56, 57, 58, 59, 60, 101, 103] [] [40, 107] s o
theorem fr_x12_store {s : MS} {o : (Int × MS)} (h : m_x12_store s = some o) : F_x12_store s o.2 := by
  have hF : F_x12_store s s := Fr.rf s
  unfold m_x12_store at h
  have J109 : ∀ (s1 : MS), F_x12_store s s1 → m_x12_store_J109 s1 = some o → F_x12_store s o.2 := by
    intro s1 hF h
    unfold m_x12_store_J109 at h
    obtain ⟨s2, hs2, h⟩ := st_e h
    have hF : F_x12_store s s2 := hs2 ▸ Fr.uI hF (by decide)
    obtain ⟨s3, hs3, h⟩ := st_e h
    have hF : F_x12_store s s3 := hs3 ▸ Fr.uI hF (by decide)
    obtain ⟨hr4, h⟩ := rg_e h
    by_cases c5 : (gI s3 5) = 0
    · have h := if_t c5 h
      obtain ⟨s7, hc6, h⟩ := bn_e h
      have hF : F_x12_store s s7 := Fr.tr hF (fr_x12_stands hc6) (by decide)
      obtain rfl := Option.some.inj h
      exact hF
    · have h := if_f c5 h
      obtain ⟨⟨r10, s9⟩, hc8, h⟩ := bn_e h
      have hF : F_x12_store s s9 := Fr.tr hF (fr_x12_refuses hc8) (by decide)
      obtain rfl := Option.some.inj h
      exact hF
  have L87 : ∀ (n : Nat) (s11 : MS), F_x12_store s s11 → m_x12_store_L87 n s11 = some o → F_x12_store s o.2 := by
    refine fr_ind (fun s11 hF h => by cases h) ?_
    intro n87 ih87 s11 hF h
    have h : m_x12_store_b87 (m_x12_store_L87 n87) s11 = some o := h
    unfold m_x12_store_b87 at h
    obtain ⟨hr12, h⟩ := rg_e h
    by_cases c13 : (gI s11 5) = 0
    · have h := if_t c13 h
      obtain ⟨⟨r16, s15⟩, hc14, h⟩ := bn_e h
      have hF : F_x12_store s s15 := Fr.tr hF (fr_x12_look hc14) (by decide)
      obtain ⟨hr17, h⟩ := rg_e h
      by_cases c18 : r16 = (-1)
      · have h := if_t c18 h
        exact J109 s15 hF h
      · have h := if_f c18 h
        obtain ⟨s20, hc19, h⟩ := bn_e h
        have hF : F_x12_store s s20 := Fr.tr hF (fr_x12_statementTold hc19) (by decide)
        exact ih87 s20 hF h
    · have h := if_f c13 h
      exact J109 s11 hF h
  have L60 : ∀ (n : Nat) (x21 : Int) (s22 : MS), F_x12_store s s22 → m_x12_store_L60 n x21 s22 = some o → F_x12_store s o.2 := by
    refine fr_ind (fun x21 s22 hF h => by cases h) ?_
    intro n60 ih60 x21 s22 hF h
    have h : m_x12_store_b60 (m_x12_store_L60 n60) x21 s22 = some o := h
    unfold m_x12_store_b60 at h
    obtain ⟨hr23, h⟩ := rg_e h
    by_cases c24 : 3 ≤ x21
    · have h := if_t c24 h
      obtain ⟨s26, hc25, h⟩ := bn_e h
      have hF : F_x12_store s s26 := Fr.tr hF (fr_x12_storeTold hc25) (by decide)
      obtain ⟨s27, hs27, h⟩ := st_e h
      have hF : F_x12_store s s27 := hs27 ▸ Fr.uI hF (by decide)
      exact L87 FU s27 hF h
    · have h := if_f c24 h
      obtain ⟨hi28, h⟩ := inb_e h
      obtain ⟨s29, hs29, h⟩ := st_e h
      have hF : F_x12_store s s29 := hs29 ▸ Fr.uA hF (by decide)
      exact ih60 (x21 + 1) s29 hF h
  have L40 : ∀ (n : Nat) (x30 : Int) (s31 : MS), F_x12_store s s31 → m_x12_store_L40 n x30 s31 = some o → F_x12_store s o.2 := by
    refine fr_ind (fun x30 s31 hF h => by cases h) ?_
    intro n40 ih40 x30 s31 hF h
    have h : m_x12_store_b40 (m_x12_store_L40 n40) x30 s31 = some o := h
    unfold m_x12_store_b40 at h
    obtain ⟨hr32, h⟩ := rg_e h
    by_cases c33 : 5 ≤ x30
    · have h := if_t c33 h
      exact L60 FU 0 s31 hF h
    · have h := if_f c33 h
      obtain ⟨hi34, h⟩ := inb_e h
      obtain ⟨s35, hs35, h⟩ := st_e h
      have hF : F_x12_store s s35 := hs35 ▸ Fr.uA hF (by decide)
      exact ih40 (x30 + 1) s35 hF h
  obtain ⟨s36, hs36, h⟩ := st_e h
  have hF : F_x12_store s s36 := hs36 ▸ Fr.uI hF (by decide)
  obtain ⟨s37, hs37, h⟩ := st_e h
  have hF : F_x12_store s s37 := hs37 ▸ Fr.uI hF (by decide)
  obtain ⟨s38, hs38, h⟩ := st_e h
  have hF : F_x12_store s s38 := hs38 ▸ Fr.uI hF (by decide)
  obtain ⟨s39, hs39, h⟩ := st_e h
  have hF : F_x12_store s s39 := hs39 ▸ Fr.uI hF (by decide)
  obtain ⟨s40, hs40, h⟩ := st_e h
  have hF : F_x12_store s s40 := hs40 ▸ Fr.uI hF (by decide)
  obtain ⟨s41, hs41, h⟩ := st_e h
  have hF : F_x12_store s s41 := hs41 ▸ Fr.uI hF (by decide)
  obtain ⟨s42, hs42, h⟩ := st_e h
  have hF : F_x12_store s s42 := hs42 ▸ Fr.uI hF (by decide)
  exact L40 FU 0 s42 hF h
abbrev F_x12_clearsTouched (s o : MS) : Prop := Fr [] [54] [] [] s o
theorem fr_x12_clearsTouched {s : MS} {o : MS} (h : m_x12_clearsTouched s = some o) : F_x12_clearsTouched s o := by
  have hF : F_x12_clearsTouched s s := Fr.rf s
  unfold m_x12_clearsTouched at h
  have L2 : ∀ (n : Nat) (x1 : Int) (s2 : MS), F_x12_clearsTouched s s2 → m_x12_clearsTouched_L2 n x1 s2 = some o → F_x12_clearsTouched s o := by
    refine fr_ind (fun x1 s2 hF h => by cases h) ?_
    intro n2 ih2 x1 s2 hF h
    have h : m_x12_clearsTouched_b2 (m_x12_clearsTouched_L2 n2) x1 s2 = some o := h
    unfold m_x12_clearsTouched_b2 at h
    obtain ⟨hr3, h⟩ := rg_e h
    by_cases c4 : 48 ≤ x1
    · have h := if_t c4 h
      obtain rfl := Option.some.inj h
      exact hF
    · have h := if_f c4 h
      obtain ⟨hi5, h⟩ := inb_e h
      obtain ⟨hb6, h⟩ := bo_e h
      obtain ⟨s7, hs7, h⟩ := st_e h
      have hF : F_x12_clearsTouched s s7 := hs7 ▸ Fr.uA hF (by decide)
      exact ih2 (x1 + 1) s7 hF h
  exact L2 FU 0 s hF h
abbrev F_x12_costOf (s o : MS) : Prop := Fr [48, 50, 52, 53, 108] [] [] [107] s o
theorem fr_x12_costOf {p0 : Int} {s : MS} {o : (Int × MS)} (h : m_x12_costOf p0 s = some o) : F_x12_costOf s o.2 := by
  have hF : F_x12_costOf s s := Fr.rf s
  unfold m_x12_costOf at h
  have J43 : ∀ (x1 : Int) (s2 : MS), F_x12_costOf s s2 → m_x12_costOf_J43 x1 s2 = some o → F_x12_costOf s o.2 := by
    intro x1 s2 hF h
    unfold m_x12_costOf_J43 at h
    obtain rfl := Option.some.inj h
    exact hF
  obtain ⟨s3, hs3, h⟩ := st_e h
  have hF : F_x12_costOf s s3 := hs3 ▸ Fr.uI hF (by decide)
  obtain ⟨r5, hc4, h⟩ := bn_e h
  obtain ⟨s6, hs6, h⟩ := st_e h
  have hF : F_x12_costOf s s6 := hs6 ▸ Fr.uI hF (by decide)
  obtain ⟨r8, hc7, h⟩ := bn_e h
  obtain ⟨s9, hs9, h⟩ := st_e h
  have hF : F_x12_costOf s s9 := hs9 ▸ Fr.uI hF (by decide)
  obtain ⟨r11, hc10, h⟩ := bn_e h
  obtain ⟨hr12, h⟩ := rg_e h
  by_cases c13 : r11 = 0
  · have h := if_t c13 h
    exact J43 1 s9 hF h
  · have h := if_f c13 h
    obtain ⟨⟨rl16, s15⟩, hc14, h⟩ := bn_e h
    have hF : F_x12_costOf s s15 := Fr.tr hF (fr_x12_codesTell hc14) (by decide)
    obtain ⟨r18, hc17, h⟩ := bn_e h
    exact J43 r18 s15 hF h
abbrev F_x12_writtenCost (s o : MS) : Prop := Fr [48, 50, 52, 53, 108] [] [] [107] s o
theorem fr_x12_writtenCost {s : MS} {o : (Int × MS)} (h : m_x12_writtenCost s = some o) : F_x12_writtenCost s o.2 := by
  have hF : F_x12_writtenCost s s := Fr.rf s
  unfold m_x12_writtenCost at h
  have L4 : ∀ (n : Nat) (x1 : Int) (x2 : Int) (s3 : MS), F_x12_writtenCost s s3 → m_x12_writtenCost_L4 n x1 x2 s3 = some o → F_x12_writtenCost s o.2 := by
    refine fr_ind (fun x1 x2 s3 hF h => by cases h) ?_
    intro n4 ih4 x1 x2 s3 hF h
    have h : m_x12_writtenCost_b4 (m_x12_writtenCost_L4 n4) x1 x2 s3 = some o := h
    unfold m_x12_writtenCost_b4 at h
    have J37 : ∀ (x4 : Int) (x5 : Int) (s6 : MS), F_x12_writtenCost s s6 → m_x12_writtenCost_J37 (m_x12_writtenCost_L4 n4) x4 x5 s6 = some o → F_x12_writtenCost s o.2 := by
      intro x4 x5 s6 hF h
      unfold m_x12_writtenCost_J37 at h
      exact ih4 x4 (x5 + 1) s6 hF h
    obtain ⟨r8, hc7, h⟩ := bn_e h
    obtain ⟨hr9, h⟩ := rg_e h
    obtain ⟨hr10, h⟩ := rg_e h
    by_cases c11 : r8 ≤ x2
    · have h := if_t c11 h
      obtain rfl := Option.some.inj h
      exact hF
    · have h := if_f c11 h
      obtain ⟨y12, ey12, iy12, h⟩ := rdI_e h
      obtain ⟨hr13, h⟩ := rg_e h
      by_cases c14 : y12 = 0
      · have h := if_t c14 h
        exact J37 x1 x2 s3 hF h
      · have h := if_f c14 h
        obtain ⟨r16, hc15, h⟩ := bn_e h
        obtain ⟨hr17, h⟩ := rg_e h
        by_cases c18 : r16 = 0
        · have h := if_t c18 h
          exact J37 x1 x2 s3 hF h
        · have h := if_f c18 h
          obtain ⟨⟨r21, s20⟩, hc19, h⟩ := bn_e h
          have hF : F_x12_writtenCost s s20 := Fr.tr hF (fr_x12_costOf hc19) (by decide)
          exact J37 (x1 + r21) x2 s20 hF h
  exact L4 FU 0 0 s hF h
abbrev F_x12_isKept (s o : MS) : Prop := Fr [48, 50, 52, 53, 108] [49] [] [107] s o
theorem fr_x12_isKept {p0 : Int} {p1 : Int} {s : MS} {o : MS} (h : m_x12_isKept p0 p1 s = some o) : F_x12_isKept s o := by
  have hF : F_x12_isKept s s := Fr.rf s
  unfold m_x12_isKept at h
  have J105 : ∀ (x1 : Int) (x2 : Int) (x3 : Int) (s4 : MS), F_x12_isKept s s4 → m_x12_isKept_J105 x1 x2 x3 s4 = some o → F_x12_isKept s o := by
    intro x1 x2 x3 s4 hF h
    unfold m_x12_isKept_J105 at h
    obtain ⟨y5, ey5, iy5, h⟩ := rdI_e h
    obtain ⟨hi6, h⟩ := inb_e h
    obtain ⟨s7, hs7, h⟩ := st_e h
    have hF : F_x12_isKept s s7 := hs7 ▸ Fr.uA hF (by decide)
    obtain ⟨hi8, h⟩ := inb_e h
    obtain ⟨s9, hs9, h⟩ := st_e h
    have hF : F_x12_isKept s s9 := hs9 ▸ Fr.uA hF (by decide)
    obtain ⟨hi10, h⟩ := inb_e h
    obtain ⟨s11, hs11, h⟩ := st_e h
    have hF : F_x12_isKept s s11 := hs11 ▸ Fr.uA hF (by decide)
    obtain rfl := Option.some.inj h
    exact hF
  have L60 : ∀ (n : Nat) (x12 : Int) (x13 : Int) (x14 : Int) (x15 : Int) (s16 : MS), F_x12_isKept s s16 → m_x12_isKept_L60 n x12 x13 x14 x15 s16 = some o → F_x12_isKept s o := by
    refine fr_ind (fun x12 x13 x14 x15 s16 hF h => by cases h) ?_
    intro n60 ih60 x12 x13 x14 x15 s16 hF h
    have h : m_x12_isKept_b60 (m_x12_isKept_L60 n60) x12 x13 x14 x15 s16 = some o := h
    unfold m_x12_isKept_b60 at h
    obtain ⟨hr17, h⟩ := rg_e h
    by_cases c18 : 903 ≤ x15
    · have h := if_t c18 h
      exact J105 x12 x13 x14 s16 hF h
    · have h := if_f c18 h
      obtain ⟨y19, ey19, iy19, h⟩ := rdI_e h
      obtain ⟨hi20, h⟩ := inb_e h
      obtain ⟨s21, hs21, h⟩ := st_e h
      have hF : F_x12_isKept s s21 := hs21 ▸ Fr.uA hF (by decide)
      exact ih60 x12 x13 x14 (x15 + 1) s21 hF h
  have J42 : ∀ (x22 : Int) (x23 : Int) (x24 : Int) (s25 : MS), F_x12_isKept s s25 → m_x12_isKept_J42 x22 x23 x24 s25 = some o → F_x12_isKept s o := by
    intro x22 x23 x24 s25 hF h
    unfold m_x12_isKept_J42 at h
    obtain ⟨y26, ey26, iy26, h⟩ := rdI_e h
    obtain ⟨hr27, h⟩ := rg_e h
    by_cases c28 : y26 = 40
    · have h := if_t c28 h
      exact L60 FU x22 x23 x24 786 s25 hF h
    · have h := if_f c28 h
      obtain ⟨y29, ey29, iy29, h⟩ := rdI_e h
      obtain ⟨hi30, h⟩ := inb_e h
      obtain ⟨s31, hs31, h⟩ := st_e h
      have hF : F_x12_isKept s s31 := hs31 ▸ Fr.uA hF (by decide)
      exact J105 x22 x23 x24 s31 hF h
  obtain ⟨r33, hc32, h⟩ := bn_e h
  obtain ⟨y34, ey34, iy34, h⟩ := rdI_e h
  obtain ⟨⟨r37, s36⟩, hc35, h⟩ := bn_e h
  have hF : F_x12_isKept s s36 := Fr.tr hF (fr_x12_writtenCost hc35) (by decide)
  obtain ⟨hi38, h⟩ := inb_e h
  obtain ⟨s39, hs39, h⟩ := st_e h
  have hF : F_x12_isKept s s39 := hs39 ▸ Fr.uA hF (by decide)
  obtain ⟨y40, ey40, iy40, h⟩ := rdI_e h
  obtain ⟨hr41, h⟩ := rg_e h
  by_cases c42 : y40 ≤ 999999
  · have h := if_t c42 h
    exact J42 p0 p1 r33 s39 hF h
  · have h := if_f c42 h
    obtain ⟨hi43, h⟩ := inb_e h
    obtain ⟨s44, hs44, h⟩ := st_e h
    have hF : F_x12_isKept s s44 := hs44 ▸ Fr.uA hF (by decide)
    exact J42 p0 p1 r33 s44 hF h
abbrev F_x12_drops (s o : MS) : Prop := Fr [] [49, 56] [] [] s o
theorem fr_x12_drops {p0 : Int} {s : MS} {o : MS} (h : m_x12_drops p0 s = some o) : F_x12_drops s o := by
  have hF : F_x12_drops s s := Fr.rf s
  unfold m_x12_drops at h
  have J22 : ∀ (x1 : Int) (s2 : MS), F_x12_drops s s2 → m_x12_drops_J22 x1 s2 = some o → F_x12_drops s o := by
    intro x1 s2 hF h
    unfold m_x12_drops_J22 at h
    obtain ⟨hi3, h⟩ := inb_e h
    obtain ⟨s4, hs4, h⟩ := st_e h
    have hF : F_x12_drops s s4 := hs4 ▸ Fr.uA hF (by decide)
    obtain rfl := Option.some.inj h
    exact hF
  obtain ⟨y5, ey5, iy5, h⟩ := rdI_e h
  obtain ⟨hr6, h⟩ := rg_e h
  by_cases c7 : y5 = 254
  · have h := if_t c7 h
    exact J22 p0 s hF h
  · have h := if_f c7 h
    obtain ⟨y8, ey8, iy8, h⟩ := rdI_e h
    obtain ⟨s10, hc9, h⟩ := bn_e h
    have hF : F_x12_drops s s10 := Fr.tr hF (fr_x12_falls hc9) (by decide)
    exact J22 p0 s10 hF h
abbrev F_x12_crashes (s o : MS) : Prop := Fr [] [49] [] [] s o
theorem fr_x12_crashes {s : MS} {o : MS} (h : m_x12_crashes s = some o) : F_x12_crashes s o := by
  have hF : F_x12_crashes s s := Fr.rf s
  unfold m_x12_crashes at h
  have L31 : ∀ (n : Nat) (x1 : Int) (s2 : MS), F_x12_crashes s s2 → m_x12_crashes_L31 n x1 s2 = some o → F_x12_crashes s o := by
    refine fr_ind (fun x1 s2 hF h => by cases h) ?_
    intro n31 ih31 x1 s2 hF h
    have h : m_x12_crashes_b31 (m_x12_crashes_L31 n31) x1 s2 = some o := h
    unfold m_x12_crashes_b31 at h
    obtain ⟨hr3, h⟩ := rg_e h
    by_cases c4 : 48 ≤ x1
    · have h := if_t c4 h
      obtain rfl := Option.some.inj h
      exact hF
    · have h := if_f c4 h
      obtain ⟨r6, hc5, h⟩ := bn_e h
      obtain ⟨hi7, h⟩ := inb_e h
      obtain ⟨s8, hs8, h⟩ := st_e h
      have hF : F_x12_crashes s s8 := hs8 ▸ Fr.uA hF (by decide)
      exact ih31 (x1 + 1) s8 hF h
  have L2 : ∀ (n : Nat) (x9 : Int) (s10 : MS), F_x12_crashes s s10 → m_x12_crashes_L2 n x9 s10 = some o → F_x12_crashes s o := by
    refine fr_ind (fun x9 s10 hF h => by cases h) ?_
    intro n2 ih2 x9 s10 hF h
    have h : m_x12_crashes_b2 (m_x12_crashes_L2 n2) x9 s10 = some o := h
    unfold m_x12_crashes_b2 at h
    obtain ⟨hr11, h⟩ := rg_e h
    by_cases c12 : 8 ≤ x9
    · have h := if_t c12 h
      exact L31 FU 0 s10 hF h
    · have h := if_f c12 h
      obtain ⟨y13, ey13, iy13, h⟩ := rdI_e h
      obtain ⟨hi14, h⟩ := inb_e h
      obtain ⟨s15, hs15, h⟩ := st_e h
      have hF : F_x12_crashes s s15 := hs15 ▸ Fr.uA hF (by decide)
      exact ih2 (x9 + 1) s15 hF h
  exact L2 FU 0 s hF h
abbrev F_x12_putsAside (s o : MS) : Prop := Fr [] [54, 61] [] [] s o
theorem fr_x12_putsAside {s : MS} {o : MS} (h : m_x12_putsAside s = some o) : F_x12_putsAside s o := by
  have hF : F_x12_putsAside s s := Fr.rf s
  unfold m_x12_putsAside at h
  have L2 : ∀ (n : Nat) (x1 : Int) (s2 : MS), F_x12_putsAside s s2 → m_x12_putsAside_L2 n x1 s2 = some o → F_x12_putsAside s o := by
    refine fr_ind (fun x1 s2 hF h => by cases h) ?_
    intro n2 ih2 x1 s2 hF h
    have h : m_x12_putsAside_b2 (m_x12_putsAside_L2 n2) x1 s2 = some o := h
    unfold m_x12_putsAside_b2 at h
    obtain ⟨hr3, h⟩ := rg_e h
    by_cases c4 : 785 ≤ x1
    · have h := if_t c4 h
      obtain ⟨s6, hc5, h⟩ := bn_e h
      have hF : F_x12_putsAside s s6 := Fr.tr hF (fr_x12_clearsTouched hc5) (by decide)
      obtain rfl := Option.some.inj h
      exact hF
    · have h := if_f c4 h
      obtain ⟨y7, ey7, iy7, h⟩ := rdI_e h
      obtain ⟨hi8, h⟩ := inb_e h
      obtain ⟨s9, hs9, h⟩ := st_e h
      have hF : F_x12_putsAside s s9 := hs9 ▸ Fr.uA hF (by decide)
      exact ih2 (x1 + 1) s9 hF h
  exact L2 FU 0 s hF h
abbrev F_x12_takesBack (s o : MS) : Prop := Fr [] [49] [] [] s o
theorem fr_x12_takesBack {s : MS} {o : MS} (h : m_x12_takesBack s = some o) : F_x12_takesBack s o := by
  have hF : F_x12_takesBack s s := Fr.rf s
  unfold m_x12_takesBack at h
  have L2 : ∀ (n : Nat) (x1 : Int) (s2 : MS), F_x12_takesBack s s2 → m_x12_takesBack_L2 n x1 s2 = some o → F_x12_takesBack s o := by
    refine fr_ind (fun x1 s2 hF h => by cases h) ?_
    intro n2 ih2 x1 s2 hF h
    have h : m_x12_takesBack_b2 (m_x12_takesBack_L2 n2) x1 s2 = some o := h
    unfold m_x12_takesBack_b2 at h
    obtain ⟨hr3, h⟩ := rg_e h
    by_cases c4 : 785 ≤ x1
    · have h := if_t c4 h
      obtain rfl := Option.some.inj h
      exact hF
    · have h := if_f c4 h
      obtain ⟨y5, ey5, iy5, h⟩ := rdI_e h
      obtain ⟨hi6, h⟩ := inb_e h
      obtain ⟨s7, hs7, h⟩ := st_e h
      have hF : F_x12_takesBack s s7 := hs7 ▸ Fr.uA hF (by decide)
      exact ih2 (x1 + 1) s7 hF h
  exact L2 FU 0 s hF h
abbrev F_x12_laysLeaf (s o : MS) : Prop := Fr [67] [64, 65, 66] [] [] s o
theorem fr_x12_laysLeaf {p0 : Int} {s : MS} {o : MS} (h : m_x12_laysLeaf p0 s = some o) : F_x12_laysLeaf s o := by
  have hF : F_x12_laysLeaf s s := Fr.rf s
  unfold m_x12_laysLeaf at h
  have L2 : ∀ (n : Nat) (x1 : Int) (x2 : Int) (s3 : MS), F_x12_laysLeaf s s3 → m_x12_laysLeaf_L2 n x1 x2 s3 = some o → F_x12_laysLeaf s o := by
    refine fr_ind (fun x1 x2 s3 hF h => by cases h) ?_
    intro n2 ih2 x1 x2 s3 hF h
    have h : m_x12_laysLeaf_b2 (m_x12_laysLeaf_L2 n2) x1 x2 s3 = some o := h
    unfold m_x12_laysLeaf_b2 at h
    obtain ⟨r5, hc4, h⟩ := bn_e h
    obtain ⟨hr6, h⟩ := rg_e h
    obtain ⟨hr7, h⟩ := rg_e h
    by_cases c8 : r5 ≤ x2
    · have h := if_t c8 h
      obtain rfl := Option.some.inj h
      exact hF
    · have h := if_f c8 h
      obtain ⟨r10, hc9, h⟩ := bn_e h
      obtain ⟨hi11, h⟩ := inb_e h
      obtain ⟨s12, hs12, h⟩ := st_e h
      have hF : F_x12_laysLeaf s s12 := hs12 ▸ Fr.uA hF (by decide)
      obtain ⟨r14, hc13, h⟩ := bn_e h
      obtain ⟨hi15, h⟩ := inb_e h
      obtain ⟨s16, hs16, h⟩ := st_e h
      have hF : F_x12_laysLeaf s s16 := hs16 ▸ Fr.uA hF (by decide)
      obtain ⟨hi17, h⟩ := inb_e h
      obtain ⟨s18, hs18, h⟩ := st_e h
      have hF : F_x12_laysLeaf s s18 := hs18 ▸ Fr.uA hF (by decide)
      obtain ⟨s19, hs19, h⟩ := st_e h
      have hF : F_x12_laysLeaf s s19 := hs19 ▸ Fr.uI hF (by decide)
      exact ih2 x1 (x2 + 1) s19 hF h
  exact L2 FU p0 0 s hF h
abbrev F_x12_laysTree (s o : MS) : Prop := Fr [67, 68] [62, 63, 64, 65, 66] [] [] s o
theorem fr_x12_laysTree {p0 : Int} {s : MS} {o : MS} (h : m_x12_laysTree p0 s = some o) : F_x12_laysTree s o := by
  have hF : F_x12_laysTree s s := Fr.rf s
  unfold m_x12_laysTree at h
  have L48 : ∀ (n : Nat) (x1 : Int) (s2 : MS), F_x12_laysTree s s2 → m_x12_laysTree_L48 n x1 s2 = some o → F_x12_laysTree s o := by
    refine fr_ind (fun x1 s2 hF h => by cases h) ?_
    intro n48 ih48 x1 s2 hF h
    have h : m_x12_laysTree_b48 (m_x12_laysTree_L48 n48) x1 s2 = some o := h
    unfold m_x12_laysTree_b48 at h
    have J140 : ∀ (x3 : Int) (s4 : MS), F_x12_laysTree s s4 → m_x12_laysTree_J140 (m_x12_laysTree_L48 n48) x3 s4 = some o → F_x12_laysTree s o := by
      intro x3 s4 hF h
      unfold m_x12_laysTree_J140 at h
      exact ih48 x3 s4 hF h
    have L113 : ∀ (n : Nat) (x5 : Int) (x6 : Int) (x7 : Int) (s8 : MS), F_x12_laysTree s s8 → m_x12_laysTree_L113 (m_x12_laysTree_L48 n48) n x5 x6 x7 s8 = some o → F_x12_laysTree s o := by
      refine fr_ind (fun x5 x6 x7 s8 hF h => by cases h) ?_
      intro n113 ih113 x5 x6 x7 s8 hF h
      have h : m_x12_laysTree_b113 (m_x12_laysTree_L48 n48) (m_x12_laysTree_L113 (m_x12_laysTree_L48 n48) n113) x5 x6 x7 s8 = some o := h
      unfold m_x12_laysTree_b113 at h
      obtain ⟨hr9, h⟩ := rg_e h
      by_cases c10 : x7 < 0
      · have h := if_t c10 h
        exact J140 x5 s8 hF h
      · have h := if_f c10 h
        obtain ⟨r12, hc11, h⟩ := bn_e h
        obtain ⟨hi13, h⟩ := inb_e h
        obtain ⟨s14, hs14, h⟩ := st_e h
        have hF : F_x12_laysTree s s14 := hs14 ▸ Fr.uA hF (by decide)
        exact ih113 (x5 + 1) x6 (x7 + (-1)) s14 hF h
    have J81 : ∀ (x15 : Int) (x16 : Int) (s17 : MS), F_x12_laysTree s s17 → m_x12_laysTree_J81 (m_x12_laysTree_L48 n48) x15 x16 s17 = some o → F_x12_laysTree s o := by
      intro x15 x16 s17 hF h
      unfold m_x12_laysTree_J81 at h
      obtain ⟨hi18, h⟩ := inb_e h
      obtain ⟨hb19, h⟩ := bo_e h
      obtain ⟨s20, hs20, h⟩ := st_e h
      have hF : F_x12_laysTree s s20 := hs20 ▸ Fr.uA hF (by decide)
      obtain ⟨r22, hc21, h⟩ := bn_e h
      obtain ⟨hr23, h⟩ := rg_e h
      by_cases c24 : r22 = 0
      · have h := if_t c24 h
        obtain ⟨s28, hc27, h⟩ := bn_e h
        have hF : F_x12_laysTree s s28 := Fr.tr hF (fr_x12_laysLeaf hc27) (by decide)
        exact J140 x15 s28 hF h
      · have h := if_f c24 h
        obtain ⟨r26, hc25, h⟩ := bn_e h
        exact L113 FU x15 x16 (r26 - 1) s20 hF h
    obtain ⟨hr29, h⟩ := rg_e h
    by_cases c30 : x1 ≤ 0
    · have h := if_t c30 h
      obtain rfl := Option.some.inj h
      exact hF
    · have h := if_f c30 h
      obtain ⟨y31, ey31, iy31, h⟩ := rdI_e h
      obtain ⟨y32, ey32, iy32, h⟩ := rdI_e h
      obtain ⟨hr33, h⟩ := rg_e h
      by_cases c34 : y32 = 0
      · have h := if_t c34 h
        obtain ⟨s35, hs35, h⟩ := st_e h
        have hF : F_x12_laysTree s s35 := hs35 ▸ Fr.uI hF (by decide)
        exact J81 (x1 + (-1)) y31 s35 hF h
      · have h := if_f c34 h
        exact J81 (x1 + (-1)) y31 s2 hF h
  have L12 : ∀ (n : Nat) (x36 : Int) (x37 : Int) (s38 : MS), F_x12_laysTree s s38 → m_x12_laysTree_L12 n x36 x37 s38 = some o → F_x12_laysTree s o := by
    refine fr_ind (fun x36 x37 s38 hF h => by cases h) ?_
    intro n12 ih12 x36 x37 s38 hF h
    have h : m_x12_laysTree_b12 (m_x12_laysTree_L12 n12) x36 x37 s38 = some o := h
    unfold m_x12_laysTree_b12 at h
    obtain ⟨hr39, h⟩ := rg_e h
    by_cases c40 : 48 ≤ x37
    · have h := if_t c40 h
      obtain ⟨hr41, h⟩ := rg_e h
      by_cases c42 : x36 < 254
      · have h := if_t c42 h
        obtain ⟨hi43, h⟩ := inb_e h
        obtain ⟨s44, hs44, h⟩ := st_e h
        have hF : F_x12_laysTree s s44 := hs44 ▸ Fr.uA hF (by decide)
        exact L48 FU 1 s44 hF h
      · have h := if_f c42 h
        obtain rfl := Option.some.inj h
        exact hF
    · have h := if_f c40 h
      obtain ⟨hi45, h⟩ := inb_e h
      obtain ⟨hb46, h⟩ := bo_e h
      obtain ⟨s47, hs47, h⟩ := st_e h
      have hF : F_x12_laysTree s s47 := hs47 ▸ Fr.uA hF (by decide)
      exact ih12 x36 (x37 + 1) s47 hF h
  obtain ⟨s48, hs48, h⟩ := st_e h
  have hF : F_x12_laysTree s s48 := hs48 ▸ Fr.uI hF (by decide)
  obtain ⟨s49, hs49, h⟩ := st_e h
  have hF : F_x12_laysTree s s49 := hs49 ▸ Fr.uI hF (by decide)
  exact L12 FU p0 0 s49 hF h
abbrev F_x12_dropsMany (s o : MS) : Prop := Fr [] [49, 54, 56, 61] [] [] s o
theorem fr_x12_dropsMany {p0 : Int} {s : MS} {o : (Int × MS)} (h : m_x12_dropsMany p0 s = some o) : F_x12_dropsMany s o.2 := by
  have hF : F_x12_dropsMany s s := Fr.rf s
  unfold m_x12_dropsMany at h
  obtain ⟨s2, hc1, h⟩ := bn_e h
  have hF : F_x12_dropsMany s s2 := Fr.tr hF (fr_x12_putsAside hc1) (by decide)
  obtain ⟨r4, hc3, h⟩ := bn_e h
  obtain ⟨s6, hc5, h⟩ := bn_e h
  have hF : F_x12_dropsMany s s6 := Fr.tr hF (fr_x12_drops hc5) (by decide)
  obtain ⟨r8, hc7, h⟩ := bn_e h
  obtain ⟨s10, hc9, h⟩ := bn_e h
  have hF : F_x12_dropsMany s s10 := Fr.tr hF (fr_x12_takesBack hc9) (by decide)
  obtain rfl := Option.some.inj h
  exact hF
abbrev F_x12_volume (s o : MS) : Prop := Fr [67, 68] [49, 54, 56, 61, 62, 63, 64, 65, 66] [] [] s o
theorem fr_x12_volume {p0 : Int} {p1 : Int} {s : MS} {o : (Int × MS)} (h : m_x12_volume p0 p1 s = some o) : F_x12_volume s o.2 := by
  have hF : F_x12_volume s s := Fr.rf s
  unfold m_x12_volume at h
  have J96 : ∀ (x1 : Int) (s2 : MS), F_x12_volume s s2 → m_x12_volume_J96 x1 s2 = some o → F_x12_volume s o.2 := by
    intro x1 s2 hF h
    unfold m_x12_volume_J96 at h
    obtain rfl := Option.some.inj h
    exact hF
  have J72 : ∀ (x3 : Int) (s4 : MS), F_x12_volume s s4 → m_x12_volume_J72 x3 s4 = some o → F_x12_volume s o.2 := by
    intro x3 s4 hF h
    unfold m_x12_volume_J72 at h
    obtain rfl := Option.some.inj h
    exact hF
  obtain ⟨hr5, h⟩ := rg_e h
  obtain ⟨r7, hc6, h⟩ := bn_e h
  obtain ⟨hr8, h⟩ := rg_e h
  by_cases c9 : r7 = 0
  · have h := if_t c9 h
    obtain rfl := Option.some.inj h
    exact hF
  · have h := if_f c9 h
    obtain ⟨y10, ey10, iy10, h⟩ := rdI_e h
    obtain ⟨s12, hc11, h⟩ := bn_e h
    have hF : F_x12_volume s s12 := Fr.tr hF (fr_x12_laysTree hc11) (by decide)
    obtain ⟨hr13, h⟩ := rg_e h
    by_cases c14 : p1 = 0
    · have h := if_t c14 h
      obtain ⟨hr15, h⟩ := rg_e h
      by_cases c16 : y10 = 254
      · have h := if_t c16 h
        exact J72 (-1) s12 hF h
      · have h := if_f c16 h
        exact J72 y10 s12 hF h
    · have h := if_f c14 h
      by_cases c17 : p1 = 1
      · have h := if_t c17 h
        obtain rfl := Option.some.inj h
        exact hF
      · have h := if_f c17 h
        by_cases c18 : p1 = 2
        · have h := if_t c18 h
          obtain ⟨hr19, h⟩ := rg_e h
          by_cases c20 : y10 = 254
          · have h := if_t c20 h
            exact J96 0 s12 hF h
          · have h := if_f c20 h
            obtain ⟨r22, hc21, h⟩ := bn_e h
            exact J96 (r22 + 1) s12 hF h
        · have h := if_f c18 h
          by_cases c23 : p1 = 3
          · have h := if_t c23 h
            obtain rfl := Option.some.inj h
            exact hF
          · have h := if_f c23 h
            by_cases c24 : p1 = 4
            · have h := if_t c24 h
              obtain ⟨⟨r27, s26⟩, hc25, h⟩ := bn_e h
              have hF : F_x12_volume s s26 := Fr.tr hF (fr_x12_dropsMany hc25) (by decide)
              obtain rfl := Option.some.inj h
              exact hF
            · have h := if_f c24 h
              obtain rfl := Option.some.inj h
              exact hF
abbrev F_x12_key (s o : MS) : Prop := Fr [67, 68] [62, 63, 64, 65, 66] [] [] s o
theorem fr_x12_key {p0 : Int} {p1 : Int} {s : MS} {o : (Int × MS)} (h : m_x12_key p0 p1 s = some o) : F_x12_key s o.2 := by
  have hF : F_x12_key s s := Fr.rf s
  unfold m_x12_key at h
  have J47 : ∀ (x1 : Int) (s2 : MS), F_x12_key s s2 → m_x12_key_J47 x1 s2 = some o → F_x12_key s o.2 := by
    intro x1 s2 hF h
    unfold m_x12_key_J47 at h
    obtain rfl := Option.some.inj h
    exact hF
  obtain ⟨hr3, h⟩ := rg_e h
  obtain ⟨r5, hc4, h⟩ := bn_e h
  obtain ⟨hr6, h⟩ := rg_e h
  by_cases c7 : r5 = 0
  · have h := if_t c7 h
    obtain rfl := Option.some.inj h
    exact hF
  · have h := if_f c7 h
    obtain ⟨y8, ey8, iy8, h⟩ := rdI_e h
    obtain ⟨s10, hc9, h⟩ := bn_e h
    have hF : F_x12_key s s10 := Fr.tr hF (fr_x12_laysTree hc9) (by decide)
    obtain ⟨hr11, h⟩ := rg_e h
    obtain ⟨hr12, h⟩ := rg_e h
    obtain ⟨r14, hc13, h⟩ := bn_e h
    obtain ⟨hr15, h⟩ := rg_e h
    by_cases c16 : r14 = 0
    · have h := if_t c16 h
      exact J47 (-1) s10 hF h
    · have h := if_f c16 h
      obtain ⟨y17, ey17, iy17, h⟩ := rdI_e h
      exact J47 y17 s10 hF h
abbrev F_x12_total (s o : MS) : Prop := Fr [67, 68] [62, 63, 64, 65, 66] [] [] s o
theorem fr_x12_total {p0 : Int} {p1 : Int} {p2 : Int} {s : MS} {o : (Int × MS)} (h : m_x12_total p0 p1 p2 s = some o) : F_x12_total s o.2 := by
  have hF : F_x12_total s s := Fr.rf s
  unfold m_x12_total at h
  have L27 : ∀ (n : Nat) (x1 : Int) (x2 : Int) (x3 : Int) (x4 : Int) (s5 : MS), F_x12_total s s5 → m_x12_total_L27 n x1 x2 x3 x4 s5 = some o → F_x12_total s o.2 := by
    refine fr_ind (fun x1 x2 x3 x4 s5 hF h => by cases h) ?_
    intro n27 ih27 x1 x2 x3 x4 s5 hF h
    have h : m_x12_total_b27 (m_x12_total_L27 n27) x1 x2 x3 x4 s5 = some o := h
    unfold m_x12_total_b27 at h
    have J66 : ∀ (x6 : Int) (x7 : Int) (x8 : Int) (x9 : Int) (s10 : MS), F_x12_total s s10 → m_x12_total_J66 (m_x12_total_L27 n27) x6 x7 x8 x9 s10 = some o → F_x12_total s o.2 := by
      intro x6 x7 x8 x9 s10 hF h
      unfold m_x12_total_J66 at h
      exact ih27 x6 x7 x8 (x9 + 1) s10 hF h
    obtain ⟨hr11, h⟩ := rg_e h
    obtain ⟨hr12, h⟩ := rg_e h
    by_cases c13 : (gI s5 67) ≤ x4
    · have h := if_t c13 h
      obtain rfl := Option.some.inj h
      exact hF
    · have h := if_f c13 h
      obtain ⟨y14, ey14, iy14, h⟩ := rdI_e h
      obtain ⟨hr15, h⟩ := rg_e h
      obtain ⟨hr16, h⟩ := rg_e h
      obtain ⟨hr17, h⟩ := rg_e h
      obtain ⟨r19, hc18, h⟩ := bn_e h
      obtain ⟨hr20, h⟩ := rg_e h
      by_cases c21 : r19 = 0
      · have h := if_t c21 h
        exact J66 x1 x2 x3 x4 s5 hF h
      · have h := if_f c21 h
        obtain ⟨y22, ey22, iy22, h⟩ := rdI_e h
        exact J66 x1 x2 (x3 + y22) x4 s5 hF h
  obtain ⟨hr23, h⟩ := rg_e h
  obtain ⟨r25, hc24, h⟩ := bn_e h
  obtain ⟨hr26, h⟩ := rg_e h
  by_cases c27 : r25 = 0
  · have h := if_t c27 h
    obtain rfl := Option.some.inj h
    exact hF
  · have h := if_f c27 h
    obtain ⟨y28, ey28, iy28, h⟩ := rdI_e h
    obtain ⟨s30, hc29, h⟩ := bn_e h
    have hF : F_x12_total s s30 := Fr.tr hF (fr_x12_laysTree hc29) (by decide)
    exact L27 FU p1 p2 0 0 s30 hF h
abbrev F_x12_shared (s o : MS) : Prop := Fr [67, 68] [62, 63, 64, 65, 66, 69] [] [] s o
theorem fr_x12_shared {p0 : Int} {p1 : Int} {s : MS} {o : (Int × MS)} (h : m_x12_shared p0 p1 s = some o) : F_x12_shared s o.2 := by
  have hF : F_x12_shared s s := Fr.rf s
  unfold m_x12_shared at h
  have L71 : ∀ (n : Nat) (x1 : Int) (x2 : Int) (s3 : MS), F_x12_shared s s3 → m_x12_shared_L71 n x1 x2 s3 = some o → F_x12_shared s o.2 := by
    refine fr_ind (fun x1 x2 s3 hF h => by cases h) ?_
    intro n71 ih71 x1 x2 s3 hF h
    have h : m_x12_shared_b71 (m_x12_shared_L71 n71) x1 x2 s3 = some o := h
    unfold m_x12_shared_b71 at h
    have J101 : ∀ (x4 : Int) (x5 : Int) (s6 : MS), F_x12_shared s s6 → m_x12_shared_J101 (m_x12_shared_L71 n71) x4 x5 s6 = some o → F_x12_shared s o.2 := by
      intro x4 x5 s6 hF h
      unfold m_x12_shared_J101 at h
      exact ih71 x4 (x5 + 1) s6 hF h
    obtain ⟨hr7, h⟩ := rg_e h
    by_cases c8 : 48 ≤ x2
    · have h := if_t c8 h
      obtain rfl := Option.some.inj h
      exact hF
    · have h := if_f c8 h
      obtain ⟨y9, ey9, iy9, h⟩ := rdI_e h
      obtain ⟨hr10, h⟩ := rg_e h
      by_cases c11 : y9 = 0
      · have h := if_t c11 h
        exact J101 x1 x2 s3 hF h
      · have h := if_f c11 h
        obtain ⟨y12, ey12, iy12, h⟩ := rdI_e h
        obtain ⟨hr13, h⟩ := rg_e h
        by_cases c14 : y12 = 0
        · have h := if_t c14 h
          exact J101 x1 x2 s3 hF h
        · have h := if_f c14 h
          exact J101 (x1 + 1) x2 s3 hF h
  have L32 : ∀ (n : Nat) (x15 : Int) (x16 : Int) (s17 : MS), F_x12_shared s s17 → m_x12_shared_L32 n x15 x16 s17 = some o → F_x12_shared s o.2 := by
    refine fr_ind (fun x15 x16 s17 hF h => by cases h) ?_
    intro n32 ih32 x15 x16 s17 hF h
    have h : m_x12_shared_b32 (m_x12_shared_L32 n32) x15 x16 s17 = some o := h
    unfold m_x12_shared_b32 at h
    obtain ⟨hr18, h⟩ := rg_e h
    by_cases c19 : 48 ≤ x16
    · have h := if_t c19 h
      obtain ⟨y20, ey20, iy20, h⟩ := rdI_e h
      obtain ⟨s22, hc21, h⟩ := bn_e h
      have hF : F_x12_shared s s22 := Fr.tr hF (fr_x12_laysTree hc21) (by decide)
      exact L71 FU 0 0 s22 hF h
    · have h := if_f c19 h
      obtain ⟨y23, ey23, iy23, h⟩ := rdI_e h
      obtain ⟨hi24, h⟩ := inb_e h
      obtain ⟨hb25, h⟩ := bo_e h
      obtain ⟨s26, hs26, h⟩ := st_e h
      have hF : F_x12_shared s s26 := hs26 ▸ Fr.uA hF (by decide)
      exact ih32 x15 (x16 + 1) s26 hF h
  have J18 : ∀ (s27 : MS), F_x12_shared s s27 → m_x12_shared_J18 s27 = some o → F_x12_shared s o.2 := by
    intro s27 hF h
    unfold m_x12_shared_J18 at h
    obtain rfl := Option.some.inj h
    exact hF
  obtain ⟨hr28, h⟩ := rg_e h
  obtain ⟨r30, hc29, h⟩ := bn_e h
  obtain ⟨hr31, h⟩ := rg_e h
  by_cases c32 : r30 = 0
  · have h := if_t c32 h
    exact J18 s hF h
  · have h := if_f c32 h
    obtain ⟨hr33, h⟩ := rg_e h
    obtain ⟨r35, hc34, h⟩ := bn_e h
    obtain ⟨hr36, h⟩ := rg_e h
    by_cases c37 : r35 = 0
    · have h := if_t c37 h
      exact J18 s hF h
    · have h := if_f c37 h
      obtain ⟨y38, ey38, iy38, h⟩ := rdI_e h
      obtain ⟨s40, hc39, h⟩ := bn_e h
      have hF : F_x12_shared s s40 := Fr.tr hF (fr_x12_laysTree hc39) (by decide)
      exact L32 FU p1 0 s40 hF h
abbrev F_x12_laysWrites (s o : MS) : Prop := Fr [48, 50, 51, 52, 53, 55, 70, 71, 108] [49, 54, 56, 57, 58, 59, 60, 61] [] [107] s o
theorem fr_x12_laysWrites {p0 : Int} {p1 : Int} {s : MS} {o : MS} (h : m_x12_laysWrites p0 p1 s = some o) : F_x12_laysWrites s o := by
  have hF : F_x12_laysWrites s s := Fr.rf s
  unfold m_x12_laysWrites at h
  have J56 : ∀ (s1 : MS), F_x12_laysWrites s s1 → m_x12_laysWrites_J56 s1 = some o → F_x12_laysWrites s o := by
    intro s1 hF h
    unfold m_x12_laysWrites_J56 at h
    obtain ⟨s3, hc2, h⟩ := bn_e h
    have hF : F_x12_laysWrites s s3 := Fr.tr hF (fr_x12_takesBack hc2) (by decide)
    obtain rfl := Option.some.inj h
    exact hF
  have J34 : ∀ (x4 : Int) (x5 : Int) (x6 : Int) (x7 : Int) (s8 : MS), F_x12_laysWrites s s8 → m_x12_laysWrites_J34 x4 x5 x6 x7 s8 = some o → F_x12_laysWrites s o := by
    intro x4 x5 x6 x7 s8 hF h
    unfold m_x12_laysWrites_J34 at h
    obtain ⟨⟨r11, s10⟩, hc9, h⟩ := bn_e h
    have hF : F_x12_laysWrites s s10 := Fr.tr hF (fr_x12_tries hc9) (by decide)
    obtain ⟨hr12, h⟩ := rg_e h
    by_cases c13 : r11 = 0
    · have h := if_t c13 h
      exact J56 s10 hF h
    · have h := if_f c13 h
      obtain ⟨r15, hc14, h⟩ := bn_e h
      obtain ⟨s16, hs16, h⟩ := st_e h
      have hF : F_x12_laysWrites s s16 := hs16 ▸ Fr.uI hF (by decide)
      obtain ⟨⟨r19, s18⟩, hc17, h⟩ := bn_e h
      have hF : F_x12_laysWrites s s18 := Fr.tr hF (fr_x12_writtenCost hc17) (by decide)
      obtain ⟨s20, hs20, h⟩ := st_e h
      have hF : F_x12_laysWrites s s20 := hs20 ▸ Fr.uI hF (by decide)
      exact J56 s20 hF h
  obtain ⟨s21, hs21, h⟩ := st_e h
  have hF : F_x12_laysWrites s s21 := hs21 ▸ Fr.uI hF (by decide)
  obtain ⟨s22, hs22, h⟩ := st_e h
  have hF : F_x12_laysWrites s s22 := hs22 ▸ Fr.uI hF (by decide)
  obtain ⟨r24, hc23, h⟩ := bn_e h
  obtain ⟨s26, hc25, h⟩ := bn_e h
  have hF : F_x12_laysWrites s s26 := Fr.tr hF (fr_x12_putsAside hc25) (by decide)
  obtain ⟨hr27, h⟩ := rg_e h
  by_cases c28 : r24 = 0
  · have h := if_t c28 h
    exact J34 1 p1 p0 2 s26 hF h
  · have h := if_f c28 h
    exact J34 0 p1 p0 2 s26 hF h
abbrev F_x12_writes (s o : MS) : Prop := Fr [48, 50, 51, 52, 53, 55, 70, 71, 108] [49, 54, 56, 57, 58, 59, 60, 61] [] [107] s o
theorem fr_x12_writes {p0 : Int} {p1 : Int} {p2 : Int} {s : MS} {o : (Int × MS)} (h : m_x12_writes p0 p1 p2 s = some o) : F_x12_writes s o.2 := by
  have hF : F_x12_writes s s := Fr.rf s
  unfold m_x12_writes at h
  have J54 : ∀ (x1 : Int) (s2 : MS), F_x12_writes s s2 → m_x12_writes_J54 x1 s2 = some o → F_x12_writes s o.2 := by
    intro x1 s2 hF h
    unfold m_x12_writes_J54 at h
    obtain rfl := Option.some.inj h
    exact hF
  have J31 : ∀ (s3 : MS), F_x12_writes s s3 → m_x12_writes_J31 s3 = some o → F_x12_writes s o.2 := by
    intro s3 hF h
    unfold m_x12_writes_J31 at h
    obtain rfl := Option.some.inj h
    exact hF
  obtain ⟨hr4, h⟩ := rg_e h
  obtain ⟨r6, hc5, h⟩ := bn_e h
  obtain ⟨hr7, h⟩ := rg_e h
  by_cases c8 : r6 = 0
  · have h := if_t c8 h
    exact J31 s hF h
  · have h := if_f c8 h
    obtain ⟨hr9, h⟩ := rg_e h
    obtain ⟨r11, hc10, h⟩ := bn_e h
    obtain ⟨hr12, h⟩ := rg_e h
    by_cases c13 : r11 = 0
    · have h := if_t c13 h
      exact J31 s hF h
    · have h := if_f c13 h
      obtain ⟨hr14, h⟩ := rg_e h
      obtain ⟨r16, hc15, h⟩ := bn_e h
      obtain ⟨hr17, h⟩ := rg_e h
      by_cases c18 : r16 = 0
      · have h := if_t c18 h
        exact J31 s hF h
      · have h := if_f c18 h
        obtain ⟨s20, hc19, h⟩ := bn_e h
        have hF : F_x12_writes s s20 := Fr.tr hF (fr_x12_laysWrites hc19) (by decide)
        obtain ⟨hr21, h⟩ := rg_e h
        by_cases c22 : p2 = 0
        · have h := if_t c22 h
          exact J54 (gI s20 70) s20 hF h
        · have h := if_f c22 h
          exact J54 (gI s20 71) s20 hF h
abbrev F_x12_spread (s o : MS) : Prop := Fr [48, 50, 51, 52, 53, 55, 70, 71, 108] [49, 54, 56, 57, 58, 59, 60, 61] [] [107] s o
theorem fr_x12_spread {p0 : Int} {p1 : Int} {s : MS} {o : (Int × MS)} (h : m_x12_spread p0 p1 s = some o) : F_x12_spread s o.2 := by
  have hF : F_x12_spread s s := Fr.rf s
  unfold m_x12_spread at h
  have L21 : ∀ (n : Nat) (x1 : Int) (x2 : Int) (x3 : Int) (x4 : Int) (s5 : MS), F_x12_spread s s5 → m_x12_spread_L21 n x1 x2 x3 x4 s5 = some o → F_x12_spread s o.2 := by
    refine fr_ind (fun x1 x2 x3 x4 s5 hF h => by cases h) ?_
    intro n21 ih21 x1 x2 x3 x4 s5 hF h
    have h : m_x12_spread_b21 (m_x12_spread_L21 n21) x1 x2 x3 x4 s5 = some o := h
    unfold m_x12_spread_b21 at h
    have J46 : ∀ (x6 : Int) (x7 : Int) (x8 : Int) (x9 : Int) (s10 : MS), F_x12_spread s s10 → m_x12_spread_J46 (m_x12_spread_L21 n21) x6 x7 x8 x9 s10 = some o → F_x12_spread s o.2 := by
      intro x6 x7 x8 x9 s10 hF h
      unfold m_x12_spread_J46 at h
      exact ih21 x6 x7 x8 (x9 + 1) s10 hF h
    obtain ⟨hr11, h⟩ := rg_e h
    by_cases c12 : 100 ≤ x4
    · have h := if_t c12 h
      obtain rfl := Option.some.inj h
      exact hF
    · have h := if_f c12 h
      obtain ⟨s14, hc13, h⟩ := bn_e h
      have hF : F_x12_spread s s14 := Fr.tr hF (fr_x12_laysWrites hc13) (by decide)
      obtain ⟨hr15, h⟩ := rg_e h
      obtain ⟨hr16, h⟩ := rg_e h
      by_cases c17 : (gI s14 70) = x2
      · have h := if_t c17 h
        exact J46 x1 x2 (x3 + 1) x4 s14 hF h
      · have h := if_f c17 h
        exact J46 x1 x2 x3 x4 s14 hF h
  have J14 : ∀ (s18 : MS), F_x12_spread s s18 → m_x12_spread_J14 s18 = some o → F_x12_spread s o.2 := by
    intro s18 hF h
    unfold m_x12_spread_J14 at h
    obtain rfl := Option.some.inj h
    exact hF
  obtain ⟨hr19, h⟩ := rg_e h
  obtain ⟨r21, hc20, h⟩ := bn_e h
  obtain ⟨hr22, h⟩ := rg_e h
  by_cases c23 : r21 = 0
  · have h := if_t c23 h
    exact J14 s hF h
  · have h := if_f c23 h
    obtain ⟨hr24, h⟩ := rg_e h
    by_cases c25 : (-1) ≤ p1
    · have h := if_t c25 h
      exact L21 FU p0 p1 0 0 s hF h
    · have h := if_f c25 h
      exact J14 s hF h
abbrev F_x12_laysLost (s o : MS) : Prop := Fr [67, 68] [62, 63, 64, 65, 66, 72] [] [] s o
theorem fr_x12_laysLost {s : MS} {o : MS} (h : m_x12_laysLost s = some o) : F_x12_laysLost s o := by
  have hF : F_x12_laysLost s s := Fr.rf s
  unfold m_x12_laysLost at h
  have L23 : ∀ (n : Nat) (x1 : Int) (s2 : MS), F_x12_laysLost s s2 → m_x12_laysLost_L23 n x1 s2 = some o → F_x12_laysLost s o := by
    refine fr_ind (fun x1 s2 hF h => by cases h) ?_
    intro n23 ih23 x1 s2 hF h
    have h : m_x12_laysLost_b23 (m_x12_laysLost_L23 n23) x1 s2 = some o := h
    unfold m_x12_laysLost_b23 at h
    have J122 : ∀ (x3 : Int) (s4 : MS), F_x12_laysLost s s4 → m_x12_laysLost_J122 (m_x12_laysLost_L23 n23) x3 s4 = some o → F_x12_laysLost s o := by
      intro x3 s4 hF h
      unfold m_x12_laysLost_J122 at h
      exact ih23 (x3 + 1) s4 hF h
    have L53 : ∀ (n : Nat) (x5 : Int) (x6 : Int) (s7 : MS), F_x12_laysLost s s7 → m_x12_laysLost_L53 (m_x12_laysLost_L23 n23) n x5 x6 s7 = some o → F_x12_laysLost s o := by
      refine fr_ind (fun x5 x6 s7 hF h => by cases h) ?_
      intro n53 ih53 x5 x6 s7 hF h
      have h : m_x12_laysLost_b53 (m_x12_laysLost_L23 n23) (m_x12_laysLost_L53 (m_x12_laysLost_L23 n23) n53) x5 x6 s7 = some o := h
      unfold m_x12_laysLost_b53 at h
      have L68 : ∀ (n : Nat) (x8 : Int) (x9 : Int) (x10 : Int) (s11 : MS), F_x12_laysLost s s11 → m_x12_laysLost_L68 (m_x12_laysLost_L23 n23) (m_x12_laysLost_L53 (m_x12_laysLost_L23 n23) n53) n x8 x9 x10 s11 = some o → F_x12_laysLost s o := by
        refine fr_ind (fun x8 x9 x10 s11 hF h => by cases h) ?_
        intro n68 ih68 x8 x9 x10 s11 hF h
        have h : m_x12_laysLost_b68 (m_x12_laysLost_L23 n23) (m_x12_laysLost_L53 (m_x12_laysLost_L23 n23) n53) (m_x12_laysLost_L68 (m_x12_laysLost_L23 n23) (m_x12_laysLost_L53 (m_x12_laysLost_L23 n23) n53) n68) x8 x9 x10 s11 = some o := h
        unfold m_x12_laysLost_b68 at h
        obtain ⟨r13, hc12, h⟩ := bn_e h
        obtain ⟨hr14, h⟩ := rg_e h
        by_cases c15 : r13 ≤ 0
        · have h := if_t c15 h
          obtain ⟨y16, ey16, iy16, h⟩ := rdI_e h
          obtain ⟨hi17, h⟩ := inb_e h
          obtain ⟨s18, hs18, h⟩ := st_e h
          have hF : F_x12_laysLost s s18 := hs18 ▸ Fr.uA hF (by decide)
          exact ih53 x8 (x9 + 1) s18 hF h
        · have h := if_f c15 h
          obtain ⟨y19, ey19, iy19, h⟩ := rdI_e h
          obtain ⟨hi20, h⟩ := inb_e h
          obtain ⟨s21, hs21, h⟩ := st_e h
          have hF : F_x12_laysLost s s21 := hs21 ▸ Fr.uA hF (by decide)
          obtain ⟨y22, ey22, iy22, h⟩ := rdI_e h
          obtain ⟨r24, hc23, h⟩ := bn_e h
          obtain ⟨r26, hc25, h⟩ := bn_e h
          exact ih68 x8 x9 r26 s21 hF h
      obtain ⟨hr27, h⟩ := rg_e h
      obtain ⟨hr28, h⟩ := rg_e h
      by_cases c29 : (gI s7 67) ≤ x6
      · have h := if_t c29 h
        exact J122 x5 s7 hF h
      · have h := if_f c29 h
        obtain ⟨y30, ey30, iy30, h⟩ := rdI_e h
        exact L68 FU x5 x6 y30 s7 hF h
    obtain ⟨hr31, h⟩ := rg_e h
    by_cases c32 : 8 ≤ x1
    · have h := if_t c32 h
      obtain rfl := Option.some.inj h
      exact hF
    · have h := if_f c32 h
      obtain ⟨hr33, h⟩ := rg_e h
      obtain ⟨r35, hc34, h⟩ := bn_e h
      obtain ⟨hr36, h⟩ := rg_e h
      by_cases c37 : r35 = 0
      · have h := if_t c37 h
        exact J122 x1 s2 hF h
      · have h := if_f c37 h
        obtain ⟨y38, ey38, iy38, h⟩ := rdI_e h
        obtain ⟨s40, hc39, h⟩ := bn_e h
        have hF : F_x12_laysLost s s40 := Fr.tr hF (fr_x12_laysTree hc39) (by decide)
        exact L53 FU x1 0 s40 hF h
  have L2 : ∀ (n : Nat) (x41 : Int) (s42 : MS), F_x12_laysLost s s42 → m_x12_laysLost_L2 n x41 s42 = some o → F_x12_laysLost s o := by
    refine fr_ind (fun x41 s42 hF h => by cases h) ?_
    intro n2 ih2 x41 s42 hF h
    have h : m_x12_laysLost_b2 (m_x12_laysLost_L2 n2) x41 s42 = some o := h
    unfold m_x12_laysLost_b2 at h
    obtain ⟨hr43, h⟩ := rg_e h
    by_cases c44 : 48 ≤ x41
    · have h := if_t c44 h
      exact L23 FU 0 s42 hF h
    · have h := if_f c44 h
      obtain ⟨hi45, h⟩ := inb_e h
      obtain ⟨s46, hs46, h⟩ := st_e h
      have hF : F_x12_laysLost s s46 := hs46 ▸ Fr.uA hF (by decide)
      exact ih2 (x41 + 1) s46 hF h
  exact L2 FU 0 s hF h
abbrev F_x12_lost (s o : MS) : Prop := Fr [67, 68] [62, 63, 64, 65, 66, 72] [] [] s o
theorem fr_x12_lost {p0 : Int} {s : MS} {o : (Int × MS)} (h : m_x12_lost p0 s = some o) : F_x12_lost s o.2 := by
  have hF : F_x12_lost s s := Fr.rf s
  unfold m_x12_lost at h
  obtain ⟨hr1, h⟩ := rg_e h
  obtain ⟨r3, hc2, h⟩ := bn_e h
  obtain ⟨hr4, h⟩ := rg_e h
  by_cases c5 : r3 = 0
  · have h := if_t c5 h
    obtain rfl := Option.some.inj h
    exact hF
  · have h := if_f c5 h
    obtain ⟨s7, hc6, h⟩ := bn_e h
    have hF : F_x12_lost s s7 := Fr.tr hF (fr_x12_laysLost hc6) (by decide)
    obtain ⟨y8, ey8, iy8, h⟩ := rdI_e h
    obtain rfl := Option.some.inj h
    exact hF
abbrev F_x12_worst (s o : MS) : Prop := Fr [67, 68] [62, 63, 64, 65, 66, 72] [] [] s o
theorem fr_x12_worst {p0 : Int} {s : MS} {o : (Int × MS)} (h : m_x12_worst p0 s = some o) : F_x12_worst s o.2 := by
  have hF : F_x12_worst s s := Fr.rf s
  unfold m_x12_worst at h
  have J76 : ∀ (x1 : Int) (s2 : MS), F_x12_worst s s2 → m_x12_worst_J76 x1 s2 = some o → F_x12_worst s o.2 := by
    intro x1 s2 hF h
    unfold m_x12_worst_J76 at h
    obtain rfl := Option.some.inj h
    exact hF
  have L20 : ∀ (n : Nat) (x3 : Int) (x4 : Int) (x5 : Int) (s6 : MS), F_x12_worst s s6 → m_x12_worst_L20 n x3 x4 x5 s6 = some o → F_x12_worst s o.2 := by
    refine fr_ind (fun x3 x4 x5 s6 hF h => by cases h) ?_
    intro n20 ih20 x3 x4 x5 s6 hF h
    have h : m_x12_worst_b20 (m_x12_worst_L20 n20) x3 x4 x5 s6 = some o := h
    unfold m_x12_worst_b20 at h
    have J43 : ∀ (x7 : Int) (x8 : Int) (x9 : Int) (s10 : MS), F_x12_worst s s10 → m_x12_worst_J43 (m_x12_worst_L20 n20) x7 x8 x9 s10 = some o → F_x12_worst s o.2 := by
      intro x7 x8 x9 s10 hF h
      unfold m_x12_worst_J43 at h
      exact ih20 x7 x8 (x9 + 1) s10 hF h
    obtain ⟨hr11, h⟩ := rg_e h
    by_cases c12 : 48 ≤ x5
    · have h := if_t c12 h
      obtain ⟨y13, ey13, iy13, h⟩ := rdI_e h
      obtain ⟨hr14, h⟩ := rg_e h
      by_cases c15 : y13 = 0
      · have h := if_t c15 h
        exact J76 (-1) s6 hF h
      · have h := if_f c15 h
        obtain ⟨hr16, h⟩ := rg_e h
        by_cases c17 : x3 = 0
        · have h := if_t c17 h
          exact J76 x4 s6 hF h
        · have h := if_f c17 h
          obtain ⟨y18, ey18, iy18, h⟩ := rdI_e h
          exact J76 y18 s6 hF h
    · have h := if_f c12 h
      obtain ⟨y19, ey19, iy19, h⟩ := rdI_e h
      obtain ⟨y20, ey20, iy20, h⟩ := rdI_e h
      obtain ⟨hr21, h⟩ := rg_e h
      obtain ⟨hr22, h⟩ := rg_e h
      by_cases c23 : y19 ≤ y20
      · have h := if_t c23 h
        exact J43 x3 x4 x5 s6 hF h
      · have h := if_f c23 h
        exact J43 x3 x5 x5 s6 hF h
  obtain ⟨hr24, h⟩ := rg_e h
  obtain ⟨r26, hc25, h⟩ := bn_e h
  obtain ⟨hr27, h⟩ := rg_e h
  by_cases c28 : r26 = 0
  · have h := if_t c28 h
    obtain rfl := Option.some.inj h
    exact hF
  · have h := if_f c28 h
    obtain ⟨s30, hc29, h⟩ := bn_e h
    have hF : F_x12_worst s s30 := Fr.tr hF (fr_x12_laysLost hc29) (by decide)
    exact L20 FU p0 0 1 s30 hF h
abbrev F_x12_victim (s o : MS) : Prop := Fr [] [49, 54, 56, 61] [] [] s o
theorem fr_x12_victim {p0 : Int} {s : MS} {o : (Int × MS)} (h : m_x12_victim p0 s = some o) : F_x12_victim s o.2 := by
  have hF : F_x12_victim s s := Fr.rf s
  unfold m_x12_victim at h
  have J78 : ∀ (x1 : Int) (s2 : MS), F_x12_victim s s2 → m_x12_victim_J78 x1 s2 = some o → F_x12_victim s o.2 := by
    intro x1 s2 hF h
    unfold m_x12_victim_J78 at h
    obtain rfl := Option.some.inj h
    exact hF
  have L19 : ∀ (n : Nat) (x3 : Int) (x4 : Int) (x5 : Int) (x6 : Int) (s7 : MS), F_x12_victim s s7 → m_x12_victim_L19 n x3 x4 x5 x6 s7 = some o → F_x12_victim s o.2 := by
    refine fr_ind (fun x3 x4 x5 x6 s7 hF h => by cases h) ?_
    intro n19 ih19 x3 x4 x5 x6 s7 hF h
    have h : m_x12_victim_b19 (m_x12_victim_L19 n19) x3 x4 x5 x6 s7 = some o := h
    unfold m_x12_victim_b19 at h
    have J63 : ∀ (x8 : Int) (x9 : Int) (x10 : Int) (x11 : Int) (s12 : MS), F_x12_victim s s12 → m_x12_victim_J63 (m_x12_victim_L19 n19) x8 x9 x10 x11 s12 = some o → F_x12_victim s o.2 := by
      intro x8 x9 x10 x11 s12 hF h
      unfold m_x12_victim_J63 at h
      exact ih19 x8 x9 x10 (x11 + 1) s12 hF h
    have J46 : ∀ (x13 : Int) (x14 : Int) (x15 : Int) (x16 : Int) (x17 : Int) (s18 : MS), F_x12_victim s s18 → m_x12_victim_J46 (m_x12_victim_L19 n19) x13 x14 x15 x16 x17 s18 = some o → F_x12_victim s o.2 := by
      intro x13 x14 x15 x16 x17 s18 hF h
      unfold m_x12_victim_J46 at h
      obtain ⟨hr19, h⟩ := rg_e h
      obtain ⟨hr20, h⟩ := rg_e h
      by_cases c21 : x15 < x17
      · have h := if_t c21 h
        exact J63 x13 x16 x17 x16 s18 hF h
      · have h := if_f c21 h
        exact J63 x13 x14 x15 x16 s18 hF h
    obtain ⟨hr22, h⟩ := rg_e h
    by_cases c23 : 8 ≤ x6
    · have h := if_t c23 h
      obtain ⟨hr24, h⟩ := rg_e h
      by_cases c25 : x3 = 0
      · have h := if_t c25 h
        exact J78 x4 s7 hF h
      · have h := if_f c25 h
        exact J78 x5 s7 hF h
    · have h := if_f c23 h
      obtain ⟨hr26, h⟩ := rg_e h
      obtain ⟨r28, hc27, h⟩ := bn_e h
      obtain ⟨hr29, h⟩ := rg_e h
      by_cases c30 : r28 = 0
      · have h := if_t c30 h
        exact J46 x3 x4 x5 x6 (-1) s7 hF h
      · have h := if_f c30 h
        obtain ⟨⟨r33, s32⟩, hc31, h⟩ := bn_e h
        have hF : F_x12_victim s s32 := Fr.tr hF (fr_x12_dropsMany hc31) (by decide)
        exact J46 x3 x4 x5 x6 r33 s32 hF h
  obtain ⟨hr34, h⟩ := rg_e h
  obtain ⟨r36, hc35, h⟩ := bn_e h
  obtain ⟨hr37, h⟩ := rg_e h
  by_cases c38 : r36 = 0
  · have h := if_t c38 h
    obtain rfl := Option.some.inj h
    exact hF
  · have h := if_f c38 h
    exact L19 FU p0 (-1) (-1) 0 s hF h
abbrev F_x12_see (s o : MS) : Prop := Fr [1, 73] [9, 74] [] [] s o
theorem fr_x12_see {s : MS} {o : (Int × MS)} (h : m_x12_see s = some o) : F_x12_see s o.2 := by
  have hF : F_x12_see s s := Fr.rf s
  unfold m_x12_see at h
  have L121 : ∀ (n : Nat) (x1 : Int) (x2 : Int) (s3 : MS), F_x12_see s s3 → m_x12_see_L121 n x1 x2 s3 = some o → F_x12_see s o.2 := by
    refine fr_ind (fun x1 x2 s3 hF h => by cases h) ?_
    intro n121 ih121 x1 x2 s3 hF h
    have h : m_x12_see_b121 (m_x12_see_L121 n121) x1 x2 s3 = some o := h
    unfold m_x12_see_b121 at h
    obtain ⟨hn4, h⟩ := dv_e h
    obtain ⟨hr5, h⟩ := rg_e h
    obtain ⟨hr6, h⟩ := rg_e h
    by_cases c7 : (Int.tdiv x1 2) ≤ x2
    · have h := if_t c7 h
      obtain ⟨hn8, h⟩ := dv_e h
      obtain ⟨s9, hs9, h⟩ := st_e h
      have hF : F_x12_see s s9 := hs9 ▸ Fr.uI hF (by decide)
      obtain rfl := Option.some.inj h
      exact hF
    · have h := if_f c7 h
      obtain ⟨y10, ey10, iy10, h⟩ := rdI_e h
      obtain ⟨y11, ey11, iy11, h⟩ := rdI_e h
      obtain ⟨hi12, h⟩ := inb_e h
      obtain ⟨s13, hs13, h⟩ := st_e h
      have hF : F_x12_see s s13 := hs13 ▸ Fr.uA hF (by decide)
      exact ih121 x1 (x2 + 1) s13 hF h
  have J109 : ∀ (x14 : Int) (x15 : Int) (s16 : MS), F_x12_see s s16 → m_x12_see_J109 x14 x15 s16 = some o → F_x12_see s o.2 := by
    intro x14 x15 s16 hF h
    unfold m_x12_see_J109 at h
    obtain ⟨hr17, h⟩ := rg_e h
    by_cases c18 : x15 = 0
    · have h := if_t c18 h
      obtain ⟨⟨r21, s20⟩, hc19, h⟩ := bn_e h
      have hF : F_x12_see s s20 := Fr.tr hF (fr_x12_refuses hc19) (by decide)
      obtain rfl := Option.some.inj h
      exact hF
    · have h := if_f c18 h
      exact L121 FU x14 0 s16 hF h
  have L36 : ∀ (n : Nat) (x22 : Int) (x23 : Int) (x24 : Int) (s25 : MS), F_x12_see s s25 → m_x12_see_L36 n x22 x23 x24 s25 = some o → F_x12_see s o.2 := by
    refine fr_ind (fun x22 x23 x24 s25 hF h => by cases h) ?_
    intro n36 ih36 x22 x23 x24 s25 hF h
    have h : m_x12_see_b36 (m_x12_see_L36 n36) x22 x23 x24 s25 = some o := h
    unfold m_x12_see_b36 at h
    have J102 : ∀ (x26 : Int) (x27 : Int) (x28 : Int) (s29 : MS), F_x12_see s s29 → m_x12_see_J102 (m_x12_see_L36 n36) x26 x27 x28 s29 = some o → F_x12_see s o.2 := by
      intro x26 x27 x28 s29 hF h
      unfold m_x12_see_J102 at h
      exact ih36 x26 x28 (x27 + 4) s29 hF h
    have J101 : ∀ (x30 : Int) (x31 : Int) (s32 : MS), F_x12_see s s32 → m_x12_see_J101 (m_x12_see_L36 n36) x30 x31 s32 = some o → F_x12_see s o.2 := by
      intro x30 x31 s32 hF h
      unfold m_x12_see_J101 at h
      exact J102 x30 x31 0 s32 hF h
    obtain ⟨hr33, h⟩ := rg_e h
    obtain ⟨hr34, h⟩ := rg_e h
    by_cases c35 : x22 ≤ x24
    · have h := if_t c35 h
      exact J109 x22 x23 s25 hF h
    · have h := if_f c35 h
      obtain ⟨hr36, h⟩ := rg_e h
      by_cases c37 : x23 = 0
      · have h := if_t c37 h
        exact J109 x22 x23 s25 hF h
      · have h := if_f c37 h
        obtain ⟨y38, ey38, iy38, h⟩ := rdI_e h
        obtain ⟨y39, ey39, iy39, h⟩ := rdI_e h
        obtain ⟨hr40, h⟩ := rg_e h
        by_cases c41 : 999 < ((256 * y38) + y39)
        · have h := if_t c41 h
          exact J101 x22 x24 s25 hF h
        · have h := if_f c41 h
          obtain ⟨y42, ey42, iy42, h⟩ := rdI_e h
          obtain ⟨y43, ey43, iy43, h⟩ := rdI_e h
          obtain ⟨hr44, h⟩ := rg_e h
          by_cases c45 : 1000 < ((256 * y42) + y43)
          · have h := if_t c45 h
            exact J101 x22 x24 s25 hF h
          · have h := if_f c45 h
            exact J102 x22 x24 1 s25 hF h
  have J33 : ∀ (x46 : Int) (x47 : Int) (s48 : MS), F_x12_see s s48 → m_x12_see_J33 x46 x47 s48 = some o → F_x12_see s o.2 := by
    intro x46 x47 s48 hF h
    unfold m_x12_see_J33 at h
    exact L36 FU x46 x47 0 s48 hF h
  have J32 : ∀ (x49 : Int) (s50 : MS), F_x12_see s s50 → m_x12_see_J32 x49 s50 = some o → F_x12_see s o.2 := by
    intro x49 s50 hF h
    unfold m_x12_see_J32 at h
    exact J33 x49 0 s50 hF h
  obtain ⟨s51, hs51, h⟩ := st_e h
  have hF : F_x12_see s s51 := hs51 ▸ Fr.uI hF (by decide)
  obtain ⟨hr52, h⟩ := rg_e h
  by_cases c53 : (gI s 1) ≤ 0
  · have h := if_t c53 h
    exact J32 (gI s 1) s51 hF h
  · have h := if_f c53 h
    obtain ⟨hn54, h⟩ := dv_e h
    obtain ⟨hr55, h⟩ := rg_e h
    by_cases c56 : (Int.tmod (gI s 1) 4) = 0
    · have h := if_t c56 h
      obtain ⟨hn57, h⟩ := dv_e h
      obtain ⟨hr58, h⟩ := rg_e h
      by_cases c59 : 12 < (Int.tdiv (gI s 1) 4)
      · have h := if_t c59 h
        exact J32 (gI s 1) s51 hF h
      · have h := if_f c59 h
        exact J33 (gI s 1) 1 s51 hF h
    · have h := if_f c56 h
      exact J32 (gI s 1) s51 hF h
abbrev F_x12_keeps (s o : MS) : Prop := Fr [76, 77] [75] [] [] s o
theorem fr_x12_keeps {s : MS} {o : MS} (h : m_x12_keeps s = some o) : F_x12_keeps s o := by
  have hF : F_x12_keeps s s := Fr.rf s
  unfold m_x12_keeps at h
  have J68 : ∀ (s1 : MS), F_x12_keeps s s1 → m_x12_keeps_J68 s1 = some o → F_x12_keeps s o := by
    intro s1 hF h
    unfold m_x12_keeps_J68 at h
    obtain rfl := Option.some.inj h
    exact hF
  have L15 : ∀ (n : Nat) (x2 : Int) (s3 : MS), F_x12_keeps s s3 → m_x12_keeps_L15 n x2 s3 = some o → F_x12_keeps s o := by
    refine fr_ind (fun x2 s3 hF h => by cases h) ?_
    intro n15 ih15 x2 s3 hF h
    have h : m_x12_keeps_b15 (m_x12_keeps_L15 n15) x2 s3 = some o := h
    unfold m_x12_keeps_b15 at h
    obtain ⟨hr4, h⟩ := rg_e h
    by_cases c5 : 906 ≤ x2
    · have h := if_t c5 h
      obtain ⟨hr6, h⟩ := rg_e h
      by_cases c7 : 20 ≤ (gI s3 76)
      · have h := if_t c7 h
        exact J68 s3 hF h
      · have h := if_f c7 h
        obtain ⟨s8, hs8, h⟩ := st_e h
        have hF : F_x12_keeps s s8 := hs8 ▸ Fr.uI hF (by decide)
        exact J68 s8 hF h
    · have h := if_f c5 h
      obtain ⟨y9, ey9, iy9, h⟩ := rdI_e h
      obtain ⟨hi10, h⟩ := inb_e h
      obtain ⟨s11, hs11, h⟩ := st_e h
      have hF : F_x12_keeps s s11 := hs11 ▸ Fr.uA hF (by decide)
      exact ih15 (x2 + 1) s11 hF h
  obtain ⟨hn12, h⟩ := dv_e h
  obtain ⟨s13, hs13, h⟩ := st_e h
  have hF : F_x12_keeps s s13 := hs13 ▸ Fr.uI hF (by decide)
  exact L15 FU 0 s13 hF h
abbrev F_x12_undo (s o : MS) : Prop := Fr [76, 77] [9, 49] [] [] s o
theorem fr_x12_undo {s : MS} {o : (Int × MS)} (h : m_x12_undo s = some o) : F_x12_undo s o.2 := by
  have hF : F_x12_undo s s := Fr.rf s
  unfold m_x12_undo at h
  have L21 : ∀ (n : Nat) (x1 : Int) (s2 : MS), F_x12_undo s s2 → m_x12_undo_L21 n x1 s2 = some o → F_x12_undo s o.2 := by
    refine fr_ind (fun x1 s2 hF h => by cases h) ?_
    intro n21 ih21 x1 s2 hF h
    have h : m_x12_undo_b21 (m_x12_undo_L21 n21) x1 s2 = some o := h
    unfold m_x12_undo_b21 at h
    obtain ⟨hr3, h⟩ := rg_e h
    by_cases c4 : 906 ≤ x1
    · have h := if_t c4 h
      obtain ⟨hn5, h⟩ := dv_e h
      obtain ⟨s6, hs6, h⟩ := st_e h
      have hF : F_x12_undo s s6 := hs6 ▸ Fr.uI hF (by decide)
      obtain ⟨s7, hs7, h⟩ := st_e h
      have hF : F_x12_undo s s7 := hs7 ▸ Fr.uI hF (by decide)
      obtain rfl := Option.some.inj h
      exact hF
    · have h := if_f c4 h
      obtain ⟨y8, ey8, iy8, h⟩ := rdI_e h
      obtain ⟨hi9, h⟩ := inb_e h
      obtain ⟨s10, hs10, h⟩ := st_e h
      have hF : F_x12_undo s s10 := hs10 ▸ Fr.uA hF (by decide)
      exact ih21 (x1 + 1) s10 hF h
  obtain ⟨hr11, h⟩ := rg_e h
  by_cases c12 : (gI s 76) = 0
  · have h := if_t c12 h
    obtain ⟨y13, ey13, iy13, h⟩ := rdI_e h
    obtain ⟨hi14, h⟩ := inb_e h
    obtain ⟨s15, hs15, h⟩ := st_e h
    have hF : F_x12_undo s s15 := hs15 ▸ Fr.uA hF (by decide)
    obtain rfl := Option.some.inj h
    exact hF
  · have h := if_f c12 h
    exact L21 FU 0 s hF h
abbrev F_x12_isRefused (s o : MS) : Prop := Fr [] [9] [] [] s o
theorem fr_x12_isRefused {p0 : Int} {s : MS} {o : (Int × MS)} (h : m_x12_isRefused p0 s = some o) : F_x12_isRefused s o.2 := by
  have hF : F_x12_isRefused s s := Fr.rf s
  unfold m_x12_isRefused at h
  obtain ⟨y1, ey1, iy1, h⟩ := rdI_e h
  obtain ⟨hi2, h⟩ := inb_e h
  obtain ⟨s3, hs3, h⟩ := st_e h
  have hF : F_x12_isRefused s s3 := hs3 ▸ Fr.uA hF (by decide)
  obtain rfl := Option.some.inj h
  exact hF
abbrev F_x12_canBe (s o : MS) : Prop := Fr [48, 50, 51, 52, 53, 55, 76, 77, 108] [49, 54, 56, 57, 58, 59, 60, 61, 75] [] [107] s o
theorem fr_x12_canBe {p0 : Int} {p1 : Int} {p2 : Int} {p3 : Int} {s : MS} {o : (Int × MS)} (h : m_x12_canBe p0 p1 p2 p3 s = some o) : F_x12_canBe s o.2 := by
  have hF : F_x12_canBe s s := Fr.rf s
  unfold m_x12_canBe at h
  have L101 : ∀ (n : Nat) (x1 : Int) (s2 : MS), F_x12_canBe s s2 → m_x12_canBe_L101 n x1 s2 = some o → F_x12_canBe s o.2 := by
    refine fr_ind (fun x1 s2 hF h => by cases h) ?_
    intro n101 ih101 x1 s2 hF h
    have h : m_x12_canBe_b101 (m_x12_canBe_L101 n101) x1 s2 = some o := h
    unfold m_x12_canBe_b101 at h
    obtain ⟨hr3, h⟩ := rg_e h
    by_cases c4 : 785 ≤ x1
    · have h := if_t c4 h
      obtain rfl := Option.some.inj h
      exact hF
    · have h := if_f c4 h
      obtain ⟨y5, ey5, iy5, h⟩ := rdI_e h
      obtain ⟨hi6, h⟩ := inb_e h
      obtain ⟨s7, hs7, h⟩ := st_e h
      have hF : F_x12_canBe s s7 := hs7 ▸ Fr.uA hF (by decide)
      exact ih101 (x1 + 1) s7 hF h
  have L48 : ∀ (n : Nat) (x8 : Int) (s9 : MS), F_x12_canBe s s9 → m_x12_canBe_L48 n x8 s9 = some o → F_x12_canBe s o.2 := by
    refine fr_ind (fun x8 s9 hF h => by cases h) ?_
    intro n48 ih48 x8 s9 hF h
    have h : m_x12_canBe_b48 (m_x12_canBe_L48 n48) x8 s9 = some o := h
    unfold m_x12_canBe_b48 at h
    obtain ⟨hr10, h⟩ := rg_e h
    by_cases c11 : 785 ≤ x8
    · have h := if_t c11 h
      obtain ⟨s13, hc12, h⟩ := bn_e h
      have hF : F_x12_canBe s s13 := Fr.tr hF (fr_x12_keeps hc12) (by decide)
      exact L101 FU 0 s13 hF h
    · have h := if_f c11 h
      obtain ⟨y14, ey14, iy14, h⟩ := rdI_e h
      obtain ⟨y15, ey15, iy15, h⟩ := rdI_e h
      obtain ⟨hi16, h⟩ := inb_e h
      obtain ⟨s17, hs17, h⟩ := st_e h
      have hF : F_x12_canBe s s17 := hs17 ▸ Fr.uA hF (by decide)
      obtain ⟨hi18, h⟩ := inb_e h
      obtain ⟨s19, hs19, h⟩ := st_e h
      have hF : F_x12_canBe s s19 := hs19 ▸ Fr.uA hF (by decide)
      exact ih48 (x8 + 1) s19 hF h
  have L3 : ∀ (n : Nat) (x20 : Int) (x21 : Int) (x22 : Int) (x23 : Int) (x24 : Int) (s25 : MS), F_x12_canBe s s25 → m_x12_canBe_L3 n x20 x21 x22 x23 x24 s25 = some o → F_x12_canBe s o.2 := by
    refine fr_ind (fun x20 x21 x22 x23 x24 s25 hF h => by cases h) ?_
    intro n3 ih3 x20 x21 x22 x23 x24 s25 hF h
    have h : m_x12_canBe_b3 (m_x12_canBe_L3 n3) x20 x21 x22 x23 x24 s25 = some o := h
    unfold m_x12_canBe_b3 at h
    obtain ⟨hr26, h⟩ := rg_e h
    by_cases c27 : 785 ≤ x24
    · have h := if_t c27 h
      obtain ⟨⟨r30, s29⟩, hc28, h⟩ := bn_e h
      have hF : F_x12_canBe s s29 := Fr.tr hF (fr_x12_tries hc28) (by decide)
      obtain ⟨hr31, h⟩ := rg_e h
      by_cases c32 : r30 = 0
      · have h := if_t c32 h
        obtain rfl := Option.some.inj h
        exact hF
      · have h := if_f c32 h
        exact L48 FU 0 s29 hF h
    · have h := if_f c27 h
      obtain ⟨y33, ey33, iy33, h⟩ := rdI_e h
      obtain ⟨hi34, h⟩ := inb_e h
      obtain ⟨s35, hs35, h⟩ := st_e h
      have hF : F_x12_canBe s s35 := hs35 ▸ Fr.uA hF (by decide)
      exact ih3 x20 x21 x22 x23 (x24 + 1) s35 hF h
  exact L3 FU p0 p1 p2 p3 0 s hF h
abbrev F_x12_put (s o : MS) : Prop := Fr [48, 50, 51, 52, 53, 55, 76, 77, 108] [9, 49, 54, 56, 57, 58, 59, 60, 61, 75] [] [107] s o
theorem fr_x12_put {p0 : Int} {p1 : Int} {p2 : Int} {s : MS} {o : (Int × MS)} (h : m_x12_put p0 p1 p2 s = some o) : F_x12_put s o.2 := by
  have hF : F_x12_put s s := Fr.rf s
  unfold m_x12_put at h
  have J33 : ∀ (s1 : MS), F_x12_put s s1 → m_x12_put_J33 s1 = some o → F_x12_put s o.2 := by
    intro s1 hF h
    unfold m_x12_put_J33 at h
    obtain ⟨⟨r4, s3⟩, hc2, h⟩ := bn_e h
    have hF : F_x12_put s s3 := Fr.tr hF (fr_x12_refuses hc2) (by decide)
    obtain rfl := Option.some.inj h
    exact hF
  obtain ⟨hr5, h⟩ := rg_e h
  obtain ⟨r7, hc6, h⟩ := bn_e h
  obtain ⟨hr8, h⟩ := rg_e h
  by_cases c9 : r7 = 0
  · have h := if_t c9 h
    exact J33 s hF h
  · have h := if_f c9 h
    obtain ⟨hr10, h⟩ := rg_e h
    obtain ⟨r12, hc11, h⟩ := bn_e h
    obtain ⟨hr13, h⟩ := rg_e h
    by_cases c14 : r12 = 0
    · have h := if_t c14 h
      exact J33 s hF h
    · have h := if_f c14 h
      obtain ⟨hr15, h⟩ := rg_e h
      obtain ⟨r17, hc16, h⟩ := bn_e h
      obtain ⟨hr18, h⟩ := rg_e h
      by_cases c19 : r17 = 0
      · have h := if_t c19 h
        exact J33 s hF h
      · have h := if_f c19 h
        obtain ⟨s21, hc20, h⟩ := bn_e h
        have hF : F_x12_put s s21 := Fr.tr hF (fr_x12_clearsTouched hc20) (by decide)
        obtain ⟨⟨r24, s23⟩, hc22, h⟩ := bn_e h
        have hF : F_x12_put s s23 := Fr.tr hF (fr_x12_canBe hc22) (by decide)
        obtain ⟨hr25, h⟩ := rg_e h
        by_cases c26 : r24 = 0
        · have h := if_t c26 h
          obtain ⟨⟨r33, s32⟩, hc31, h⟩ := bn_e h
          have hF : F_x12_put s s32 := Fr.tr hF (fr_x12_refuses hc31) (by decide)
          obtain rfl := Option.some.inj h
          exact hF
        · have h := if_f c26 h
          obtain ⟨s28, hc27, h⟩ := bn_e h
          have hF : F_x12_put s s28 := Fr.tr hF (fr_x12_isKept hc27) (by decide)
          obtain ⟨r30, hc29, h⟩ := bn_e h
          obtain rfl := Option.some.inj h
          exact hF
abbrev F_x12_remove (s o : MS) : Prop := Fr [48, 50, 51, 52, 53, 55, 76, 77, 108] [9, 49, 54, 56, 57, 58, 59, 60, 61, 75] [] [107] s o
theorem fr_x12_remove {p0 : Int} {p1 : Int} {s : MS} {o : (Int × MS)} (h : m_x12_remove p0 p1 s = some o) : F_x12_remove s o.2 := by
  have hF : F_x12_remove s s := Fr.rf s
  unfold m_x12_remove at h
  obtain ⟨hr1, h⟩ := rg_e h
  obtain ⟨r3, hc2, h⟩ := bn_e h
  obtain ⟨hr4, h⟩ := rg_e h
  by_cases c5 : r3 = 0
  · have h := if_t c5 h
    obtain ⟨⟨r22, s21⟩, hc20, h⟩ := bn_e h
    have hF : F_x12_remove s s21 := Fr.tr hF (fr_x12_refuses hc20) (by decide)
    obtain rfl := Option.some.inj h
    exact hF
  · have h := if_f c5 h
    obtain ⟨s7, hc6, h⟩ := bn_e h
    have hF : F_x12_remove s s7 := Fr.tr hF (fr_x12_clearsTouched hc6) (by decide)
    obtain ⟨⟨r10, s9⟩, hc8, h⟩ := bn_e h
    have hF : F_x12_remove s s9 := Fr.tr hF (fr_x12_canBe hc8) (by decide)
    obtain ⟨hr11, h⟩ := rg_e h
    by_cases c12 : r10 = 0
    · have h := if_t c12 h
      obtain ⟨⟨r19, s18⟩, hc17, h⟩ := bn_e h
      have hF : F_x12_remove s s18 := Fr.tr hF (fr_x12_refuses hc17) (by decide)
      obtain rfl := Option.some.inj h
      exact hF
    · have h := if_f c12 h
      obtain ⟨s14, hc13, h⟩ := bn_e h
      have hF : F_x12_remove s s14 := Fr.tr hF (fr_x12_isKept hc13) (by decide)
      obtain ⟨r16, hc15, h⟩ := bn_e h
      obtain rfl := Option.some.inj h
      exact hF
abbrev F_x12_copy (s o : MS) : Prop := Fr [48, 50, 52, 53, 76, 77, 108] [9, 49, 54, 75] [] [107] s o
theorem fr_x12_copy {p0 : Int} {s : MS} {o : (Int × MS)} (h : m_x12_copy p0 s = some o) : F_x12_copy s o.2 := by
  have hF : F_x12_copy s s := Fr.rf s
  unfold m_x12_copy at h
  have J20 : ∀ (s1 : MS), F_x12_copy s s1 → m_x12_copy_J20 s1 = some o → F_x12_copy s o.2 := by
    intro s1 hF h
    unfold m_x12_copy_J20 at h
    obtain ⟨⟨r4, s3⟩, hc2, h⟩ := bn_e h
    have hF : F_x12_copy s s3 := Fr.tr hF (fr_x12_refuses hc2) (by decide)
    obtain rfl := Option.some.inj h
    exact hF
  obtain ⟨r6, hc5, h⟩ := bn_e h
  obtain ⟨hr7, h⟩ := rg_e h
  obtain ⟨r9, hc8, h⟩ := bn_e h
  obtain ⟨hr10, h⟩ := rg_e h
  by_cases c11 : r9 = 0
  · have h := if_t c11 h
    exact J20 s hF h
  · have h := if_f c11 h
    obtain ⟨hr12, h⟩ := rg_e h
    by_cases c13 : r6 = 8
    · have h := if_t c13 h
      exact J20 s hF h
    · have h := if_f c13 h
      obtain ⟨s15, hc14, h⟩ := bn_e h
      have hF : F_x12_copy s s15 := Fr.tr hF (fr_x12_keeps hc14) (by decide)
      obtain ⟨s17, hc16, h⟩ := bn_e h
      have hF : F_x12_copy s s17 := Fr.tr hF (fr_x12_clearsTouched hc16) (by decide)
      obtain ⟨s19, hc18, h⟩ := bn_e h
      have hF : F_x12_copy s s19 := Fr.tr hF (fr_x12_copies hc18) (by decide)
      obtain ⟨s21, hc20, h⟩ := bn_e h
      have hF : F_x12_copy s s21 := Fr.tr hF (fr_x12_isKept hc20) (by decide)
      obtain rfl := Option.some.inj h
      exact hF
abbrev F_x12_drop (s o : MS) : Prop := Fr [48, 50, 52, 53, 76, 77, 108] [9, 49, 54, 56, 75] [] [107] s o
theorem fr_x12_drop {p0 : Int} {s : MS} {o : (Int × MS)} (h : m_x12_drop p0 s = some o) : F_x12_drop s o.2 := by
  have hF : F_x12_drop s s := Fr.rf s
  unfold m_x12_drop at h
  obtain ⟨hr1, h⟩ := rg_e h
  obtain ⟨r3, hc2, h⟩ := bn_e h
  obtain ⟨hr4, h⟩ := rg_e h
  by_cases c5 : r3 = 0
  · have h := if_t c5 h
    obtain ⟨⟨r20, s19⟩, hc18, h⟩ := bn_e h
    have hF : F_x12_drop s s19 := Fr.tr hF (fr_x12_refuses hc18) (by decide)
    obtain rfl := Option.some.inj h
    exact hF
  · have h := if_f c5 h
    obtain ⟨s7, hc6, h⟩ := bn_e h
    have hF : F_x12_drop s s7 := Fr.tr hF (fr_x12_keeps hc6) (by decide)
    obtain ⟨s9, hc8, h⟩ := bn_e h
    have hF : F_x12_drop s s9 := Fr.tr hF (fr_x12_clearsTouched hc8) (by decide)
    obtain ⟨r11, hc10, h⟩ := bn_e h
    obtain ⟨s13, hc12, h⟩ := bn_e h
    have hF : F_x12_drop s s13 := Fr.tr hF (fr_x12_drops hc12) (by decide)
    obtain ⟨s15, hc14, h⟩ := bn_e h
    have hF : F_x12_drop s s15 := Fr.tr hF (fr_x12_isKept hc14) (by decide)
    obtain ⟨r17, hc16, h⟩ := bn_e h
    obtain rfl := Option.some.inj h
    exact hF
abbrev F_x12_checkpoint (s o : MS) : Prop := Fr [48, 50, 52, 53, 76, 77, 108] [9, 49, 54, 75] [] [107] s o
theorem fr_x12_checkpoint {s : MS} {o : (Int × MS)} (h : m_x12_checkpoint s = some o) : F_x12_checkpoint s o.2 := by
  have hF : F_x12_checkpoint s s := Fr.rf s
  unfold m_x12_checkpoint at h
  obtain ⟨hr1, h⟩ := rg_e h
  by_cases c2 : (gI s 47) = 0
  · have h := if_t c2 h
    obtain ⟨⟨r15, s14⟩, hc13, h⟩ := bn_e h
    have hF : F_x12_checkpoint s s14 := Fr.tr hF (fr_x12_refuses hc13) (by decide)
    obtain rfl := Option.some.inj h
    exact hF
  · have h := if_f c2 h
    obtain ⟨s4, hc3, h⟩ := bn_e h
    have hF : F_x12_checkpoint s s4 := Fr.tr hF (fr_x12_keeps hc3) (by decide)
    obtain ⟨s6, hc5, h⟩ := bn_e h
    have hF : F_x12_checkpoint s s6 := Fr.tr hF (fr_x12_clearsTouched hc5) (by decide)
    obtain ⟨r8, hc7, h⟩ := bn_e h
    obtain ⟨s10, hc9, h⟩ := bn_e h
    have hF : F_x12_checkpoint s s10 := Fr.tr hF (fr_x12_checks hc9) (by decide)
    obtain ⟨s12, hc11, h⟩ := bn_e h
    have hF : F_x12_checkpoint s s12 := Fr.tr hF (fr_x12_isKept hc11) (by decide)
    obtain rfl := Option.some.inj h
    exact hF
abbrev F_x12_crash (s o : MS) : Prop := Fr [48, 50, 52, 53, 76, 77, 108] [9, 49, 54, 75] [] [107] s o
theorem fr_x12_crash {s : MS} {o : (Int × MS)} (h : m_x12_crash s = some o) : F_x12_crash s o.2 := by
  have hF : F_x12_crash s s := Fr.rf s
  unfold m_x12_crash at h
  have L25 : ∀ (n : Nat) (x1 : Int) (x2 : Int) (s3 : MS), F_x12_crash s s3 → m_x12_crash_L25 n x1 x2 s3 = some o → F_x12_crash s o.2 := by
    refine fr_ind (fun x1 x2 s3 hF h => by cases h) ?_
    intro n25 ih25 x1 x2 s3 hF h
    have h : m_x12_crash_b25 (m_x12_crash_L25 n25) x1 x2 s3 = some o := h
    unfold m_x12_crash_b25 at h
    have J44 : ∀ (x4 : Int) (x5 : Int) (s6 : MS), F_x12_crash s s6 → m_x12_crash_J44 (m_x12_crash_L25 n25) x4 x5 s6 = some o → F_x12_crash s o.2 := by
      intro x4 x5 s6 hF h
      unfold m_x12_crash_J44 at h
      exact ih25 x4 (x5 + 1) s6 hF h
    obtain ⟨r8, hc7, h⟩ := bn_e h
    obtain ⟨hr9, h⟩ := rg_e h
    obtain ⟨hr10, h⟩ := rg_e h
    by_cases c11 : r8 ≤ x2
    · have h := if_t c11 h
      obtain ⟨s13, hc12, h⟩ := bn_e h
      have hF : F_x12_crash s s13 := Fr.tr hF (fr_x12_crashes hc12) (by decide)
      obtain ⟨s15, hc14, h⟩ := bn_e h
      have hF : F_x12_crash s s15 := Fr.tr hF (fr_x12_isKept hc14) (by decide)
      obtain rfl := Option.some.inj h
      exact hF
    · have h := if_f c11 h
      obtain ⟨r17, hc16, h⟩ := bn_e h
      obtain ⟨hr18, h⟩ := rg_e h
      by_cases c19 : r17 = 0
      · have h := if_t c19 h
        exact J44 x1 x2 s3 hF h
      · have h := if_f c19 h
        exact J44 (x1 + 1) x2 s3 hF h
  obtain ⟨hr20, h⟩ := rg_e h
  by_cases c21 : (gI s 47) = 0
  · have h := if_t c21 h
    obtain ⟨⟨r28, s27⟩, hc26, h⟩ := bn_e h
    have hF : F_x12_crash s s27 := Fr.tr hF (fr_x12_refuses hc26) (by decide)
    obtain rfl := Option.some.inj h
    exact hF
  · have h := if_f c21 h
    obtain ⟨s23, hc22, h⟩ := bn_e h
    have hF : F_x12_crash s s23 := Fr.tr hF (fr_x12_keeps hc22) (by decide)
    obtain ⟨s25, hc24, h⟩ := bn_e h
    have hF : F_x12_crash s s25 := Fr.tr hF (fr_x12_clearsTouched hc24) (by decide)
    exact L25 FU 0 0 s25 hF h
abbrev F_x12_seed (s o : MS) : Prop := Fr [] [9] [78] [] s o
theorem fr_x12_seed {p0 : Int} {s : MS} {o : (Int × MS)} (h : m_x12_seed p0 s = some o) : F_x12_seed s o.2 := by
  have hF : F_x12_seed s s := Fr.rf s
  unfold m_x12_seed at h
  obtain ⟨hr1, h⟩ := rg_e h
  by_cases c2 : 0 ≤ p0
  · have h := if_t c2 h
    obtain ⟨hr3, h⟩ := rg_e h
    obtain ⟨s4, hs4, h⟩ := st_e h
    have hF : F_x12_seed s s4 := hs4 ▸ Fr.uL hF (by decide)
    obtain rfl := Option.some.inj h
    exact hF
  · have h := if_f c2 h
    obtain ⟨⟨r7, s6⟩, hc5, h⟩ := bn_e h
    have hF : F_x12_seed s s6 := Fr.tr hF (fr_x12_isRefused hc5) (by decide)
    obtain ⟨hb8, h⟩ := bo_e h
    obtain rfl := Option.some.inj h
    exact hF
abbrev F_x12_drawOf (s o : MS) : Prop := Fr [] [] [78] [] s o
theorem fr_x12_drawOf {p0 : Int} {s : MS} {o : (Int × MS)} (h : m_x12_drawOf p0 s = some o) : F_x12_drawOf s o.2 := by
  have hF : F_x12_drawOf s s := Fr.rf s
  unfold m_x12_drawOf at h
  obtain ⟨hn1, h⟩ := dvL_e h
  obtain ⟨s2, hs2, h⟩ := st_e h
  have hF : F_x12_drawOf s s2 := hs2 ▸ Fr.uL hF (by decide)
  obtain ⟨hn3, h⟩ := dvL_e h
  obtain ⟨hr4, h⟩ := rg_e h
  obtain ⟨hn5, h⟩ := dvL_e h
  obtain rfl := Option.some.inj h
  exact hF
abbrev F_x12_isDrawn (s o : MS) : Prop := Fr [48, 50, 51, 52, 53, 55, 108] [49, 54, 56, 57, 58, 59, 60] [78] [107] s o
theorem fr_x12_isDrawn {s : MS} {o : (Int × MS)} (h : m_x12_isDrawn s = some o) : F_x12_isDrawn s o.2 := by
  have hF : F_x12_isDrawn s s := Fr.rf s
  unfold m_x12_isDrawn at h
  have J84 : ∀ (x1 : Int) (s2 : MS), F_x12_isDrawn s s2 → m_x12_isDrawn_J84 x1 s2 = some o → F_x12_isDrawn s o.2 := by
    intro x1 s2 hF h
    unfold m_x12_isDrawn_J84 at h
    obtain ⟨hb3, h⟩ := bo_e h
    obtain rfl := Option.some.inj h
    exact hF
  have J20 : ∀ (s4 : MS), F_x12_isDrawn s s4 → m_x12_isDrawn_J20 s4 = some o → F_x12_isDrawn s o.2 := by
    intro s4 hF h
    unfold m_x12_isDrawn_J20 at h
    obtain ⟨r6, hc5, h⟩ := bn_e h
    obtain ⟨hr7, h⟩ := rg_e h
    by_cases c8 : r6 = 0
    · have h := if_t c8 h
      obtain rfl := Option.some.inj h
      exact hF
    · have h := if_f c8 h
      obtain ⟨r10, hc9, h⟩ := bn_e h
      obtain ⟨⟨r13, s12⟩, hc11, h⟩ := bn_e h
      have hF : F_x12_isDrawn s s12 := Fr.tr hF (fr_x12_drawOf hc11) (by decide)
      obtain ⟨r15, hc14, h⟩ := bn_e h
      obtain ⟨⟨r18, s17⟩, hc16, h⟩ := bn_e h
      have hF : F_x12_isDrawn s s17 := Fr.tr hF (fr_x12_drawOf hc16) (by decide)
      obtain ⟨⟨r21, s20⟩, hc19, h⟩ := bn_e h
      have hF : F_x12_isDrawn s s20 := Fr.tr hF (fr_x12_drawOf hc19) (by decide)
      obtain ⟨hr22, h⟩ := rg_e h
      by_cases c23 : 2 ≤ r18
      · have h := if_t c23 h
        obtain ⟨⟨r26, s25⟩, hc24, h⟩ := bn_e h
        have hF : F_x12_isDrawn s s25 := Fr.tr hF (fr_x12_tries hc24) (by decide)
        exact J84 r26 s25 hF h
      · have h := if_f c23 h
        obtain ⟨⟨r29, s28⟩, hc27, h⟩ := bn_e h
        have hF : F_x12_isDrawn s s28 := Fr.tr hF (fr_x12_drawOf hc27) (by decide)
        obtain ⟨⟨r32, s31⟩, hc30, h⟩ := bn_e h
        have hF : F_x12_isDrawn s s31 := Fr.tr hF (fr_x12_tries hc30) (by decide)
        exact J84 r32 s31 hF h
  obtain ⟨⟨r35, s34⟩, hc33, h⟩ := bn_e h
  have hF : F_x12_isDrawn s s34 := Fr.tr hF (fr_x12_drawOf hc33) (by decide)
  obtain ⟨y36, ey36, iy36, h⟩ := rdI_e h
  obtain ⟨hr37, h⟩ := rg_e h
  obtain ⟨hr38, h⟩ := rg_e h
  by_cases c39 : y36 ≤ r35
  · have h := if_t c39 h
    exact J20 s34 hF h
  · have h := if_f c39 h
    obtain ⟨s41, hc40, h⟩ := bn_e h
    have hF : F_x12_isDrawn s s41 := Fr.tr hF (fr_x12_checks hc40) (by decide)
    exact J20 s41 hF h
abbrev F_x12_chance (s o : MS) : Prop := Fr [48, 50, 51, 52, 53, 55, 76, 77, 108] [9, 49, 54, 56, 57, 58, 59, 60, 75] [78] [107] s o
theorem fr_x12_chance {p0 : Int} {s : MS} {o : (Int × MS)} (h : m_x12_chance p0 s = some o) : F_x12_chance s o.2 := by
  have hF : F_x12_chance s s := Fr.rf s
  unfold m_x12_chance at h
  have L37 : ∀ (n : Nat) (x1 : Int) (x2 : Int) (x3 : Int) (s4 : MS), F_x12_chance s s4 → m_x12_chance_L37 n x1 x2 x3 s4 = some o → F_x12_chance s o.2 := by
    refine fr_ind (fun x1 x2 x3 s4 hF h => by cases h) ?_
    intro n37 ih37 x1 x2 x3 s4 hF h
    have h : m_x12_chance_b37 (m_x12_chance_L37 n37) x1 x2 x3 s4 = some o := h
    unfold m_x12_chance_b37 at h
    have J52 : ∀ (x5 : Int) (x6 : Int) (x7 : Int) (s8 : MS), F_x12_chance s s8 → m_x12_chance_J52 (m_x12_chance_L37 n37) x5 x6 x7 s8 = some o → F_x12_chance s o.2 := by
      intro x5 x6 x7 s8 hF h
      unfold m_x12_chance_J52 at h
      exact ih37 x5 x6 (x7 + 1) s8 hF h
    obtain ⟨hr9, h⟩ := rg_e h
    obtain ⟨hr10, h⟩ := rg_e h
    by_cases c11 : x1 ≤ x3
    · have h := if_t c11 h
      obtain ⟨s13, hc12, h⟩ := bn_e h
      have hF : F_x12_chance s s13 := Fr.tr hF (fr_x12_isKept hc12) (by decide)
      obtain rfl := Option.some.inj h
      exact hF
    · have h := if_f c11 h
      obtain ⟨⟨r16, s15⟩, hc14, h⟩ := bn_e h
      have hF : F_x12_chance s s15 := Fr.tr hF (fr_x12_isDrawn hc14) (by decide)
      obtain ⟨hr17, h⟩ := rg_e h
      by_cases c18 : r16 = 0
      · have h := if_t c18 h
        exact J52 x1 x2 x3 s15 hF h
      · have h := if_f c18 h
        exact J52 x1 (x2 + 1) x3 s15 hF h
  have J19 : ∀ (s19 : MS), F_x12_chance s s19 → m_x12_chance_J19 s19 = some o → F_x12_chance s o.2 := by
    intro s19 hF h
    unfold m_x12_chance_J19 at h
    obtain ⟨⟨r22, s21⟩, hc20, h⟩ := bn_e h
    have hF : F_x12_chance s s21 := Fr.tr hF (fr_x12_refuses hc20) (by decide)
    obtain rfl := Option.some.inj h
    exact hF
  obtain ⟨hr23, h⟩ := rg_e h
  by_cases c24 : (gI s 47) = 0
  · have h := if_t c24 h
    exact J19 s hF h
  · have h := if_f c24 h
    obtain ⟨hr25, h⟩ := rg_e h
    obtain ⟨r27, hc26, h⟩ := bn_e h
    obtain ⟨hr28, h⟩ := rg_e h
    by_cases c29 : r27 = 0
    · have h := if_t c29 h
      exact J19 s hF h
    · have h := if_f c29 h
      obtain ⟨s31, hc30, h⟩ := bn_e h
      have hF : F_x12_chance s s31 := Fr.tr hF (fr_x12_keeps hc30) (by decide)
      obtain ⟨s33, hc32, h⟩ := bn_e h
      have hF : F_x12_chance s s33 := Fr.tr hF (fr_x12_clearsTouched hc32) (by decide)
      exact L37 FU p0 0 0 s33 hF h
abbrev F_x12_qTold (s o : MS) : Prop := Fr [108] [] [] [107] s o
theorem fr_x12_qTold {p0 : Int} {s : MS} {o : (Int × MS)} (h : m_x12_qTold p0 s = some o) : F_x12_qTold s o.2 := by
  have hF : F_x12_qTold s s := Fr.rf s
  unfold m_x12_qTold at h
  have L7 : ∀ (n : Nat) (x1 : Int) (x2 : Int) (s3 : MS), F_x12_qTold s s3 → m_x12_qTold_L7 n x1 x2 s3 = some o → F_x12_qTold s o.2 := by
    refine fr_ind (fun x1 x2 s3 hF h => by cases h) ?_
    intro n7 ih7 x1 x2 s3 hF h
    have h : m_x12_qTold_b7 (m_x12_qTold_L7 n7) x1 x2 s3 = some o := h
    unfold m_x12_qTold_b7 at h
    have J162 : ∀ (x4 : Int) (x5 : Int) (s6 : MS), F_x12_qTold s s6 → m_x12_qTold_J162 (m_x12_qTold_L7 n7) x4 x5 s6 = some o → F_x12_qTold s o.2 := by
      intro x4 x5 s6 hF h
      unfold m_x12_qTold_J162 at h
      exact ih7 x4 (x5 + 1) s6 hF h
    obtain ⟨hr7, h⟩ := rg_e h
    obtain ⟨hr8, h⟩ := rg_e h
    by_cases c9 : (gI s3 102) ≤ x2
    · have h := if_t c9 h
      obtain ⟨yl10, eyl10, iyl10, h⟩ := rdL_e h
      obtain rfl := Option.some.inj h
      exact hF
    · have h := if_f c9 h
      obtain ⟨y11, ey11, iy11, h⟩ := rdI_e h
      obtain ⟨hr12, h⟩ := rg_e h
      by_cases c13 : y11 < 1000
      · have h := if_t c13 h
        obtain ⟨hr14, h⟩ := rg_e h
        by_cases c15 : y11 < 60
        · have h := if_t c15 h
          obtain ⟨hr16, h⟩ := rg_e h
          by_cases c17 : y11 < 40
          · have h := if_t c17 h
            obtain ⟨hr18, h⟩ := rg_e h
            by_cases c19 : y11 = 13
            · have h := if_t c19 h
              obtain ⟨s28, hc27, h⟩ := bn_e h
              have hF : F_x12_qTold s s28 := Fr.tr hF (fr_x12_qPuts hc27) (by decide)
              exact J162 x1 x2 s28 hF h
            · have h := if_f c19 h
              obtain ⟨hr20, h⟩ := rg_e h
              by_cases c21 : y11 = 12
              · have h := if_t c21 h
                obtain ⟨yl24, eyl24, iyl24, h⟩ := rdL_e h
                obtain ⟨hi25, h⟩ := inb_e h
                obtain ⟨s26, hs26, h⟩ := st_e h
                have hF : F_x12_qTold s s26 := hs26 ▸ Fr.uB hF (by decide)
                exact J162 x1 x2 s26 hF h
              · have h := if_f c21 h
                obtain ⟨s23, hc22, h⟩ := bn_e h
                have hF : F_x12_qTold s s23 := Fr.tr hF (fr_x12_qJoins hc22) (by decide)
                exact J162 x1 x2 s23 hF h
          · have h := if_f c17 h
            obtain ⟨rl30, hc29, h⟩ := bn_e h
            obtain ⟨rl32, hc31, h⟩ := bn_e h
            obtain ⟨s34, hc33, h⟩ := bn_e h
            have hF : F_x12_qTold s s34 := Fr.tr hF (fr_x12_qPuts hc33) (by decide)
            exact J162 x1 x2 s34 hF h
        · have h := if_f c15 h
          obtain ⟨yl35, eyl35, iyl35, h⟩ := rdL_e h
          obtain ⟨rl37, hc36, h⟩ := bn_e h
          obtain ⟨rl39, hc38, h⟩ := bn_e h
          obtain ⟨hi40, h⟩ := inb_e h
          obtain ⟨s41, hs41, h⟩ := st_e h
          have hF : F_x12_qTold s s41 := hs41 ▸ Fr.uB hF (by decide)
          exact J162 x1 x2 s41 hF h
      · have h := if_f c13 h
        obtain ⟨hr42, h⟩ := rg_e h
        obtain ⟨s44, hc43, h⟩ := bn_e h
        have hF : F_x12_qTold s s44 := Fr.tr hF (fr_x12_qPuts hc43) (by decide)
        exact J162 x1 x2 s44 hF h
  obtain ⟨s45, hs45, h⟩ := st_e h
  have hF : F_x12_qTold s s45 := hs45 ▸ Fr.uI hF (by decide)
  exact L7 FU p0 0 s45 hF h
abbrev F_x12_qKind (s o : MS) : Prop := Fr [2, 4, 5, 6] [] [] [] s o
theorem fr_x12_qKind {s : MS} {o : (Int × MS)} (h : m_x12_qKind s = some o) : F_x12_qKind s o.2 := by
  have hF : F_x12_qKind s s := Fr.rf s
  unfold m_x12_qKind at h
  have J90 : ∀ (x1 : Int) (s2 : MS), F_x12_qKind s s2 → m_x12_qKind_J90 x1 s2 = some o → F_x12_qKind s o.2 := by
    intro x1 s2 hF h
    unfold m_x12_qKind_J90 at h
    obtain rfl := Option.some.inj h
    exact hF
  have J76 : ∀ (x3 : Int) (s4 : MS), F_x12_qKind s s4 → m_x12_qKind_J76 x3 s4 = some o → F_x12_qKind s o.2 := by
    intro x3 s4 hF h
    unfold m_x12_qKind_J76 at h
    obtain ⟨hr5, h⟩ := rg_e h
    by_cases c6 : x3 = 5
    · have h := if_t c6 h
      obtain ⟨s8, hc7, h⟩ := bn_e h
      have hF : F_x12_qKind s s8 := Fr.tr hF (fr_x12_asks hc7) (by decide)
      exact J90 x3 s8 hF h
    · have h := if_f c6 h
      exact J90 x3 s4 hF h
  obtain ⟨⟨r11, s10⟩, hc9, h⟩ := bn_e h
  have hF : F_x12_qKind s s10 := Fr.tr hF (fr_x12_takes hc9) (by decide)
  obtain ⟨hr12, h⟩ := rg_e h
  by_cases c13 : r11 = 0
  · have h := if_t c13 h
    obtain ⟨⟨r16, s15⟩, hc14, h⟩ := bn_e h
    have hF : F_x12_qKind s s15 := Fr.tr hF (fr_x12_takes hc14) (by decide)
    obtain ⟨hr17, h⟩ := rg_e h
    by_cases c18 : r16 = 0
    · have h := if_t c18 h
      obtain ⟨⟨r21, s20⟩, hc19, h⟩ := bn_e h
      have hF : F_x12_qKind s s20 := Fr.tr hF (fr_x12_takes hc19) (by decide)
      obtain ⟨hr22, h⟩ := rg_e h
      by_cases c23 : r21 = 0
      · have h := if_t c23 h
        obtain ⟨⟨r26, s25⟩, hc24, h⟩ := bn_e h
        have hF : F_x12_qKind s s25 := Fr.tr hF (fr_x12_takes hc24) (by decide)
        obtain ⟨hr27, h⟩ := rg_e h
        by_cases c28 : r26 = 0
        · have h := if_t c28 h
          obtain ⟨⟨r31, s30⟩, hc29, h⟩ := bn_e h
          have hF : F_x12_qKind s s30 := Fr.tr hF (fr_x12_takes hc29) (by decide)
          obtain ⟨hr32, h⟩ := rg_e h
          by_cases c33 : r31 = 0
          · have h := if_t c33 h
            exact J76 5 s30 hF h
          · have h := if_f c33 h
            exact J76 4 s30 hF h
        · have h := if_f c28 h
          exact J76 3 s25 hF h
      · have h := if_f c23 h
        exact J76 2 s20 hF h
    · have h := if_f c18 h
      exact J76 1 s15 hF h
  · have h := if_f c13 h
    exact J76 0 s10 hF h
abbrev F_x12_qTakes (s o : MS) : Prop := Fr [110] [] [109] [] s o
theorem fr_x12_qTakes {p0 : Int} {p1 : Int} {p2 : Int} {s : MS} {o : MS} (h : m_x12_qTakes p0 p1 p2 s = some o) : F_x12_qTakes s o := by
  have hF : F_x12_qTakes s s := Fr.rf s
  unfold m_x12_qTakes at h
  have J133 : ∀ (s1 : MS), F_x12_qTakes s s1 → m_x12_qTakes_J133 s1 = some o → F_x12_qTakes s o := by
    intro s1 hF h
    unfold m_x12_qTakes_J133 at h
    obtain ⟨s2, hs2, h⟩ := st_e h
    have hF : F_x12_qTakes s s2 := hs2 ▸ Fr.uI hF (by decide)
    obtain rfl := Option.some.inj h
    exact hF
  have J128 : ∀ (z3 : Int) (s4 : MS), F_x12_qTakes s s4 → m_x12_qTakes_J128 z3 s4 = some o → F_x12_qTakes s o := by
    intro z3 s4 hF h
    unfold m_x12_qTakes_J128 at h
    obtain ⟨s5, hs5, h⟩ := st_e h
    have hF : F_x12_qTakes s s5 := hs5 ▸ Fr.uL hF (by decide)
    exact J133 s5 hF h
  have J90 : ∀ (x6 : Int) (z7 : Int) (s8 : MS), F_x12_qTakes s s8 → m_x12_qTakes_J90 x6 z7 s8 = some o → F_x12_qTakes s o := by
    intro x6 z7 s8 hF h
    unfold m_x12_qTakes_J90 at h
    obtain ⟨hr9, h⟩ := rg_e h
    by_cases c10 : x6 ≤ 3
    · have h := if_t c10 h
      exact J133 s8 hF h
    · have h := if_f c10 h
      obtain ⟨hr11, h⟩ := rg_e h
      by_cases c12 : (gI s8 110) = 0
      · have h := if_t c12 h
        obtain ⟨hr13, h⟩ := rg_e h
        by_cases c14 : x6 = 4
        · have h := if_t c14 h
          obtain ⟨hr18, h⟩ := rgL_e h
          obtain ⟨hr19, h⟩ := rgL_e h
          by_cases c20 : z7 ≤ (gL s8 109)
          · have h := if_t c20 h
            exact J133 s8 hF h
          · have h := if_f c20 h
            exact J128 z7 s8 hF h
        · have h := if_f c14 h
          obtain ⟨hr15, h⟩ := rgL_e h
          obtain ⟨hr16, h⟩ := rgL_e h
          by_cases c17 : (gL s8 109) ≤ z7
          · have h := if_t c17 h
            exact J133 s8 hF h
          · have h := if_f c17 h
            exact J128 z7 s8 hF h
      · have h := if_f c12 h
        exact J128 z7 s8 hF h
  have J75 : ∀ (x21 : Int) (z22 : Int) (s23 : MS), F_x12_qTakes s s23 → m_x12_qTakes_J75 x21 z22 s23 = some o → F_x12_qTakes s o := by
    intro x21 z22 s23 hF h
    unfold m_x12_qTakes_J75 at h
    obtain ⟨hr24, h⟩ := rg_e h
    by_cases c25 : x21 = 3
    · have h := if_t c25 h
      obtain ⟨s26, hs26, h⟩ := st_e h
      have hF : F_x12_qTakes s s26 := hs26 ▸ Fr.uL hF (by decide)
      exact J90 x21 z22 s26 hF h
    · have h := if_f c25 h
      exact J90 x21 z22 s23 hF h
  have J55 : ∀ (x27 : Int) (z28 : Int) (x29 : Int) (s30 : MS), F_x12_qTakes s s30 → m_x12_qTakes_J55 x27 z28 x29 s30 = some o → F_x12_qTakes s o := by
    intro x27 z28 x29 s30 hF h
    unfold m_x12_qTakes_J55 at h
    obtain ⟨hr31, h⟩ := rg_e h
    by_cases c32 : x27 = 2
    · have h := if_t c32 h
      obtain ⟨hr33, h⟩ := rg_e h
      by_cases c34 : x29 = 0
      · have h := if_t c34 h
        exact J75 x27 z28 s30 hF h
      · have h := if_f c34 h
        obtain ⟨s35, hs35, h⟩ := st_e h
        have hF : F_x12_qTakes s s35 := hs35 ▸ Fr.uL hF (by decide)
        exact J75 x27 z28 s35 hF h
    · have h := if_f c32 h
      exact J75 x27 z28 s30 hF h
  have J48 : ∀ (x36 : Int) (z37 : Int) (x38 : Int) (x39 : Int) (s40 : MS), F_x12_qTakes s s40 → m_x12_qTakes_J48 x36 z37 x38 x39 s40 = some o → F_x12_qTakes s o := by
    intro x36 z37 x38 x39 s40 hF h
    unfold m_x12_qTakes_J48 at h
    obtain ⟨hr41, h⟩ := rg_e h
    obtain ⟨s42, hs42, h⟩ := st_e h
    have hF : F_x12_qTakes s s42 := hs42 ▸ Fr.uL hF (by decide)
    exact J55 x36 z37 x39 s42 hF h
  have J38 : ∀ (x43 : Int) (z44 : Int) (x45 : Int) (x46 : Int) (s47 : MS), F_x12_qTakes s s47 → m_x12_qTakes_J38 x43 z44 x45 x46 s47 = some o → F_x12_qTakes s o := by
    intro x43 z44 x45 x46 s47 hF h
    unfold m_x12_qTakes_J38 at h
    obtain ⟨hr48, h⟩ := rg_e h
    by_cases c49 : x43 = 1
    · have h := if_t c49 h
      obtain ⟨hr50, h⟩ := rg_e h
      by_cases c51 : x46 = 0
      · have h := if_t c51 h
        exact J55 x43 z44 x46 s47 hF h
      · have h := if_f c51 h
        exact J48 x43 z44 x45 x46 s47 hF h
    · have h := if_f c49 h
      exact J55 x43 z44 x46 s47 hF h
  have J16 : ∀ (x52 : Int) (z53 : Int) (x54 : Int) (x55 : Int) (s56 : MS), F_x12_qTakes s s56 → m_x12_qTakes_J16 x52 z53 x54 x55 s56 = some o → F_x12_qTakes s o := by
    intro x52 z53 x54 x55 s56 hF h
    unfold m_x12_qTakes_J16 at h
    obtain ⟨hr57, h⟩ := rg_e h
    by_cases c58 : x52 = 0
    · have h := if_t c58 h
      obtain ⟨hr59, h⟩ := rg_e h
      by_cases c60 : x55 = 0
      · have h := if_t c60 h
        exact J38 x52 z53 x54 x55 s56 hF h
      · have h := if_f c60 h
        obtain ⟨hr61, h⟩ := rgL_e h
        by_cases c62 : (gL s56 109) = (-1)
        · have h := if_t c62 h
          exact J48 x52 z53 x54 x55 s56 hF h
        · have h := if_f c62 h
          exact J38 x52 z53 x54 x55 s56 hF h
    · have h := if_f c58 h
      exact J38 x52 z53 x54 x55 s56 hF h
  have J15 : ∀ (x63 : Int) (z64 : Int) (x65 : Int) (s66 : MS), F_x12_qTakes s s66 → m_x12_qTakes_J15 x63 z64 x65 s66 = some o → F_x12_qTakes s o := by
    intro x63 z64 x65 s66 hF h
    unfold m_x12_qTakes_J15 at h
    exact J16 x63 z64 x65 0 s66 hF h
  obtain ⟨hr67, h⟩ := rg_e h
  by_cases c68 : 3 ≤ p0
  · have h := if_t c68 h
    exact J15 p0 p1 p2 s hF h
  · have h := if_f c68 h
    obtain ⟨hr69, h⟩ := rgL_e h
    by_cases c70 : p1 = 1
    · have h := if_t c70 h
      exact J16 p0 p1 p2 1 s hF h
    · have h := if_f c70 h
      exact J15 p0 p1 p2 s hF h
abbrev F_x12_ask (s o : MS) : Prop := Fr [1, 2, 3, 4, 5, 6, 7, 8, 10, 48, 50, 52, 53, 102, 104, 105, 106, 108, 110] [101, 103] [109] [107] s o
theorem fr_x12_ask {s : MS} {o : (Int × MS)} (h : m_x12_ask s = some o) : F_x12_ask s o.2 := by
  have hF : F_x12_ask s s := Fr.rf s
  unfold m_x12_ask at h
  have L183 : ∀ (n : Nat) (x1 : Int) (x2 : Int) (s3 : MS), F_x12_ask s s3 → m_x12_ask_L183 n x1 x2 s3 = some o → F_x12_ask s o.2 := by
    refine fr_ind (fun x1 x2 s3 hF h => by cases h) ?_
    intro n183 ih183 x1 x2 s3 hF h
    have h : m_x12_ask_b183 (m_x12_ask_L183 n183) x1 x2 s3 = some o := h
    unfold m_x12_ask_b183 at h
    have J235 : ∀ (x4 : Int) (x5 : Int) (x6 : Int) (s7 : MS), F_x12_ask s s7 → m_x12_ask_J235 (m_x12_ask_L183 n183) x4 x5 x6 s7 = some o → F_x12_ask s o.2 := by
      intro x4 x5 x6 s7 hF h
      unfold m_x12_ask_J235 at h
      obtain ⟨s8, hs8, h⟩ := st_e h
      have hF : F_x12_ask s s8 := hs8 ▸ Fr.uI hF (by decide)
      obtain ⟨⟨rl11, s10⟩, hc9, h⟩ := bn_e h
      have hF : F_x12_ask s s10 := Fr.tr hF (fr_x12_qTold hc9) (by decide)
      obtain ⟨s13, hc12, h⟩ := bn_e h
      have hF : F_x12_ask s s13 := Fr.tr hF (fr_x12_qTakes hc12) (by decide)
      exact ih183 x4 (x5 + 1) s13 hF h
    have J214 : ∀ (x14 : Int) (x15 : Int) (x16 : Int) (s17 : MS), F_x12_ask s s17 → m_x12_ask_J214 (m_x12_ask_L183 n183) x14 x15 x16 s17 = some o → F_x12_ask s o.2 := by
      intro x14 x15 x16 s17 hF h
      unfold m_x12_ask_J214 at h
      obtain ⟨s18, hs18, h⟩ := st_e h
      have hF : F_x12_ask s s18 := hs18 ▸ Fr.uI hF (by decide)
      obtain ⟨r20, hc19, h⟩ := bn_e h
      obtain ⟨hr21, h⟩ := rg_e h
      by_cases c22 : r20 = 0
      · have h := if_t c22 h
        exact J235 x14 x15 0 s18 hF h
      · have h := if_f c22 h
        obtain ⟨r24, hc23, h⟩ := bn_e h
        exact J235 x14 x15 r24 s18 hF h
    obtain ⟨r26, hc25, h⟩ := bn_e h
    obtain ⟨hr27, h⟩ := rg_e h
    obtain ⟨hr28, h⟩ := rg_e h
    by_cases c29 : r26 ≤ x2
    · have h := if_t c29 h
      obtain rfl := Option.some.inj h
      exact hF
    · have h := if_f c29 h
      obtain ⟨s30, hs30, h⟩ := st_e h
      have hF : F_x12_ask s s30 := hs30 ▸ Fr.uI hF (by decide)
      obtain ⟨r32, hc31, h⟩ := bn_e h
      obtain ⟨hr33, h⟩ := rg_e h
      by_cases c34 : r32 = 0
      · have h := if_t c34 h
        exact J214 x1 x2 0 s30 hF h
      · have h := if_f c34 h
        obtain ⟨r36, hc35, h⟩ := bn_e h
        exact J214 x1 x2 r36 s30 hF h
  have J173 : ∀ (x37 : Int) (z38 : Int) (s39 : MS), F_x12_ask s s39 → m_x12_ask_J173 x37 z38 s39 = some o → F_x12_ask s o.2 := by
    intro x37 z38 s39 hF h
    unfold m_x12_ask_J173 at h
    obtain ⟨s40, hs40, h⟩ := st_e h
    have hF : F_x12_ask s s40 := hs40 ▸ Fr.uL hF (by decide)
    obtain ⟨s41, hs41, h⟩ := st_e h
    have hF : F_x12_ask s s41 := hs41 ▸ Fr.uI hF (by decide)
    exact L183 FU x37 0 s41 hF h
  have J133 : ∀ (x42 : Int) (s43 : MS), F_x12_ask s s43 → m_x12_ask_J133 x42 s43 = some o → F_x12_ask s o.2 := by
    intro x42 s43 hF h
    unfold m_x12_ask_J133 at h
    obtain ⟨s44, hs44, h⟩ := st_e h
    have hF : F_x12_ask s s44 := hs44 ▸ Fr.uI hF (by decide)
    obtain ⟨s45, hs45, h⟩ := st_e h
    have hF : F_x12_ask s s45 := hs45 ▸ Fr.uI hF (by decide)
    obtain ⟨hr46, h⟩ := rg_e h
    by_cases c47 : (gI s45 5) = 0
    · have h := if_t c47 h
      obtain ⟨hr48, h⟩ := rg_e h
      by_cases c49 : 2 ≤ x42
      · have h := if_t c49 h
        exact J173 x42 0 s45 hF h
      · have h := if_f c49 h
        exact J173 x42 (-1) s45 hF h
    · have h := if_f c47 h
      obtain rfl := Option.some.inj h
      exact hF
  have J109 : ∀ (x50 : Int) (s51 : MS), F_x12_ask s s51 → m_x12_ask_J109 x50 s51 = some o → F_x12_ask s o.2 := by
    intro x50 s51 hF h
    unfold m_x12_ask_J109 at h
    obtain ⟨hr52, h⟩ := rg_e h
    by_cases c53 : (gI s51 5) = 0
    · have h := if_t c53 h
      obtain ⟨⟨r56, s55⟩, hc54, h⟩ := bn_e h
      have hF : F_x12_ask s s55 := Fr.tr hF (fr_x12_look hc54) (by decide)
      obtain ⟨hr57, h⟩ := rg_e h
      by_cases c58 : r56 = (-1)
      · have h := if_t c58 h
        exact J133 x50 s55 hF h
      · have h := if_f c58 h
        obtain ⟨s60, hc59, h⟩ := bn_e h
        have hF : F_x12_ask s s60 := Fr.tr hF (fr_x12_fail hc59) (by decide)
        exact J133 x50 s60 hF h
    · have h := if_f c53 h
      exact J133 x50 s51 hF h
  have J98 : ∀ (x61 : Int) (s62 : MS), F_x12_ask s s62 → m_x12_ask_J98 x61 s62 = some o → F_x12_ask s o.2 := by
    intro x61 s62 hF h
    unfold m_x12_ask_J98 at h
    obtain ⟨hr63, h⟩ := rg_e h
    by_cases c64 : (gI s62 5) = 0
    · have h := if_t c64 h
      obtain ⟨s66, hc65, h⟩ := bn_e h
      have hF : F_x12_ask s s66 := Fr.tr hF (fr_x12_qSums hc65) (by decide)
      exact J109 x61 s66 hF h
    · have h := if_f c64 h
      exact J109 x61 s62 hF h
  obtain ⟨hr67, h⟩ := rg_e h
  by_cases c68 : (gI s 47) = 0
  · have h := if_t c68 h
    obtain ⟨s89, hs89, h⟩ := st_e h
    have hF : F_x12_ask s s89 := hs89 ▸ Fr.uI hF (by decide)
    obtain rfl := Option.some.inj h
    exact hF
  · have h := if_f c68 h
    obtain ⟨s69, hs69, h⟩ := st_e h
    have hF : F_x12_ask s s69 := hs69 ▸ Fr.uI hF (by decide)
    obtain ⟨s70, hs70, h⟩ := st_e h
    have hF : F_x12_ask s s70 := hs70 ▸ Fr.uI hF (by decide)
    obtain ⟨s71, hs71, h⟩ := st_e h
    have hF : F_x12_ask s s71 := hs71 ▸ Fr.uI hF (by decide)
    obtain ⟨s72, hs72, h⟩ := st_e h
    have hF : F_x12_ask s s72 := hs72 ▸ Fr.uI hF (by decide)
    obtain ⟨s73, hs73, h⟩ := st_e h
    have hF : F_x12_ask s s73 := hs73 ▸ Fr.uI hF (by decide)
    obtain ⟨s74, hs74, h⟩ := st_e h
    have hF : F_x12_ask s s74 := hs74 ▸ Fr.uI hF (by decide)
    obtain ⟨s75, hs75, h⟩ := st_e h
    have hF : F_x12_ask s s75 := hs75 ▸ Fr.uI hF (by decide)
    obtain ⟨s76, hs76, h⟩ := st_e h
    have hF : F_x12_ask s s76 := hs76 ▸ Fr.uI hF (by decide)
    obtain ⟨s77, hs77, h⟩ := st_e h
    have hF : F_x12_ask s s77 := hs77 ▸ Fr.uI hF (by decide)
    obtain ⟨s78, hs78, h⟩ := st_e h
    have hF : F_x12_ask s s78 := hs78 ▸ Fr.uI hF (by decide)
    obtain ⟨s79, hs79, h⟩ := st_e h
    have hF : F_x12_ask s s79 := hs79 ▸ Fr.uI hF (by decide)
    obtain ⟨⟨r82, s81⟩, hc80, h⟩ := bn_e h
    have hF : F_x12_ask s s81 := Fr.tr hF (fr_x12_qKind hc80) (by decide)
    obtain ⟨hr83, h⟩ := rg_e h
    by_cases c84 : (gI s81 5) = 0
    · have h := if_t c84 h
      obtain ⟨hr85, h⟩ := rg_e h
      by_cases c86 : 3 ≤ r82
      · have h := if_t c86 h
        exact J98 r82 s81 hF h
      · have h := if_f c86 h
        obtain ⟨s88, hc87, h⟩ := bn_e h
        have hF : F_x12_ask s s88 := Fr.tr hF (fr_x12_qTest hc87) (by decide)
        exact J109 r82 s88 hF h
    · have h := if_f c84 h
      exact J98 r82 s81 hF h
abbrev F_x12_tellsByte (s o : MS) : Prop := Fr [112] [111] [] [] s o
theorem fr_x12_tellsByte {p0 : Int} {s : MS} {o : MS} (h : m_x12_tellsByte p0 s = some o) : F_x12_tellsByte s o := by
  have hF : F_x12_tellsByte s s := Fr.rf s
  unfold m_x12_tellsByte at h
  obtain ⟨hi1, h⟩ := inb_e h
  obtain ⟨s2, hs2, h⟩ := st_e h
  have hF : F_x12_tellsByte s s2 := hs2 ▸ Fr.uA hF (by decide)
  obtain ⟨s3, hs3, h⟩ := st_e h
  have hF : F_x12_tellsByte s s3 := hs3 ▸ Fr.uI hF (by decide)
  obtain rfl := Option.some.inj h
  exact hF
abbrev F_x12_tellsTwo (s o : MS) : Prop := Fr [112] [111] [] [] s o
theorem fr_x12_tellsTwo {p0 : Int} {s : MS} {o : MS} (h : m_x12_tellsTwo p0 s = some o) : F_x12_tellsTwo s o := by
  have hF : F_x12_tellsTwo s s := Fr.rf s
  unfold m_x12_tellsTwo at h
  obtain ⟨hn1, h⟩ := dv_e h
  obtain ⟨s3, hc2, h⟩ := bn_e h
  have hF : F_x12_tellsTwo s s3 := Fr.tr hF (fr_x12_tellsByte hc2) (by decide)
  obtain ⟨hn4, h⟩ := dv_e h
  obtain ⟨s6, hc5, h⟩ := bn_e h
  have hF : F_x12_tellsTwo s s6 := Fr.tr hF (fr_x12_tellsByte hc5) (by decide)
  obtain rfl := Option.some.inj h
  exact hF
abbrev F_x12_writesBlock (s o : MS) : Prop := Fr [112] [111] [] [] s o
theorem fr_x12_writesBlock {p0 : Int} {s : MS} {o : MS} (h : m_x12_writesBlock p0 s = some o) : F_x12_writesBlock s o := by
  have hF : F_x12_writesBlock s s := Fr.rf s
  unfold m_x12_writesBlock at h
  have L47 : ∀ (n : Nat) (x1 : Int) (x2 : Int) (s3 : MS), F_x12_writesBlock s s3 → m_x12_writesBlock_L47 n x1 x2 s3 = some o → F_x12_writesBlock s o := by
    refine fr_ind (fun x1 x2 s3 hF h => by cases h) ?_
    intro n47 ih47 x1 x2 s3 hF h
    have h : m_x12_writesBlock_b47 (m_x12_writesBlock_L47 n47) x1 x2 s3 = some o := h
    unfold m_x12_writesBlock_b47 at h
    obtain ⟨r5, hc4, h⟩ := bn_e h
    obtain ⟨hr6, h⟩ := rg_e h
    obtain ⟨hr7, h⟩ := rg_e h
    by_cases c8 : r5 ≤ x2
    · have h := if_t c8 h
      obtain rfl := Option.some.inj h
      exact hF
    · have h := if_f c8 h
      obtain ⟨r10, hc9, h⟩ := bn_e h
      obtain ⟨s12, hc11, h⟩ := bn_e h
      have hF : F_x12_writesBlock s s12 := Fr.tr hF (fr_x12_tellsTwo hc11) (by decide)
      obtain ⟨r14, hc13, h⟩ := bn_e h
      obtain ⟨s16, hc15, h⟩ := bn_e h
      have hF : F_x12_writesBlock s s16 := Fr.tr hF (fr_x12_tellsTwo hc15) (by decide)
      exact ih47 x1 (x2 + 1) s16 hF h
  obtain ⟨r18, hc17, h⟩ := bn_e h
  obtain ⟨s20, hc19, h⟩ := bn_e h
  have hF : F_x12_writesBlock s s20 := Fr.tr hF (fr_x12_tellsByte hc19) (by decide)
  obtain ⟨r22, hc21, h⟩ := bn_e h
  obtain ⟨s24, hc23, h⟩ := bn_e h
  have hF : F_x12_writesBlock s s24 := Fr.tr hF (fr_x12_tellsByte hc23) (by decide)
  obtain ⟨r26, hc25, h⟩ := bn_e h
  obtain ⟨hr27, h⟩ := rg_e h
  by_cases c28 : r26 = 0
  · have h := if_t c28 h
    obtain rfl := Option.some.inj h
    exact hF
  · have h := if_f c28 h
    obtain ⟨r30, hc29, h⟩ := bn_e h
    obtain ⟨s32, hc31, h⟩ := bn_e h
    have hF : F_x12_writesBlock s s32 := Fr.tr hF (fr_x12_tellsByte hc31) (by decide)
    obtain ⟨r34, hc33, h⟩ := bn_e h
    obtain ⟨s36, hc35, h⟩ := bn_e h
    have hF : F_x12_writesBlock s s36 := Fr.tr hF (fr_x12_tellsByte hc35) (by decide)
    exact L47 FU p0 0 s36 hF h
abbrev F_x12_image (s o : MS) : Prop := Fr [112] [111] [] [] s o
theorem fr_x12_image {s : MS} {o : (Int × MS)} (h : m_x12_image s = some o) : F_x12_image s o.2 := by
  have hF : F_x12_image s s := Fr.rf s
  unfold m_x12_image at h
  have L72 : ∀ (n : Nat) (x1 : Int) (s2 : MS), F_x12_image s s2 → m_x12_image_L72 n x1 s2 = some o → F_x12_image s o.2 := by
    refine fr_ind (fun x1 s2 hF h => by cases h) ?_
    intro n72 ih72 x1 s2 hF h
    have h : m_x12_image_b72 (m_x12_image_L72 n72) x1 s2 = some o := h
    unfold m_x12_image_b72 at h
    obtain ⟨r4, hc3, h⟩ := bn_e h
    obtain ⟨hr5, h⟩ := rg_e h
    obtain ⟨hr6, h⟩ := rg_e h
    by_cases c7 : r4 ≤ x1
    · have h := if_t c7 h
      obtain ⟨r9, hc8, h⟩ := bn_e h
      obtain ⟨s11, hc10, h⟩ := bn_e h
      have hF : F_x12_image s s11 := Fr.tr hF (fr_x12_tellsByte hc10) (by decide)
      obtain rfl := Option.some.inj h
      exact hF
    · have h := if_f c7 h
      obtain ⟨s13, hc12, h⟩ := bn_e h
      have hF : F_x12_image s s13 := Fr.tr hF (fr_x12_writesBlock hc12) (by decide)
      exact ih72 (x1 + 1) s13 hF h
  have L37 : ∀ (n : Nat) (x14 : Int) (s15 : MS), F_x12_image s s15 → m_x12_image_L37 n x14 s15 = some o → F_x12_image s o.2 := by
    refine fr_ind (fun x14 s15 hF h => by cases h) ?_
    intro n37 ih37 x14 s15 hF h
    have h : m_x12_image_b37 (m_x12_image_L37 n37) x14 s15 = some o := h
    unfold m_x12_image_b37 at h
    obtain ⟨hr16, h⟩ := rg_e h
    by_cases c17 : 8 ≤ x14
    · have h := if_t c17 h
      exact L72 FU 0 s15 hF h
    · have h := if_f c17 h
      obtain ⟨r19, hc18, h⟩ := bn_e h
      obtain ⟨s21, hc20, h⟩ := bn_e h
      have hF : F_x12_image s s21 := Fr.tr hF (fr_x12_tellsByte hc20) (by decide)
      obtain ⟨r23, hc22, h⟩ := bn_e h
      obtain ⟨s25, hc24, h⟩ := bn_e h
      have hF : F_x12_image s s25 := Fr.tr hF (fr_x12_tellsByte hc24) (by decide)
      exact ih37 (x14 + 1) s25 hF h
  obtain ⟨s26, hs26, h⟩ := st_e h
  have hF : F_x12_image s s26 := hs26 ▸ Fr.uI hF (by decide)
  obtain ⟨y27, ey27, iy27, h⟩ := rdI_e h
  obtain ⟨hn28, h⟩ := dv_e h
  obtain ⟨s30, hc29, h⟩ := bn_e h
  have hF : F_x12_image s s30 := Fr.tr hF (fr_x12_tellsByte hc29) (by decide)
  obtain ⟨y31, ey31, iy31, h⟩ := rdI_e h
  obtain ⟨hn32, h⟩ := dv_e h
  obtain ⟨s34, hc33, h⟩ := bn_e h
  have hF : F_x12_image s s34 := Fr.tr hF (fr_x12_tellsTwo hc33) (by decide)
  exact L37 FU 0 s34 hF h
abbrev F_x12_byteRead (s o : MS) : Prop := Fr [114] [] [] [] s o
theorem fr_x12_byteRead {p0 : Int} {s : MS} {o : (Int × MS)} (h : m_x12_byteRead p0 s = some o) : F_x12_byteRead s o.2 := by
  have hF : F_x12_byteRead s s := Fr.rf s
  unfold m_x12_byteRead at h
  have J33 : ∀ (x1 : Int) (s2 : MS), F_x12_byteRead s s2 → m_x12_byteRead_J33 x1 s2 = some o → F_x12_byteRead s o.2 := by
    intro x1 s2 hF h
    unfold m_x12_byteRead_J33 at h
    obtain rfl := Option.some.inj h
    exact hF
  obtain ⟨s3, hs3, h⟩ := st_e h
  have hF : F_x12_byteRead s s3 := hs3 ▸ Fr.uI hF (by decide)
  obtain ⟨hr4, h⟩ := rg_e h
  obtain ⟨hr5, h⟩ := rg_e h
  by_cases c6 : p0 < (gI s3 114)
  · have h := if_t c6 h
    exact J33 (-1) s3 hF h
  · have h := if_f c6 h
    obtain ⟨y7, ey7, iy7, h⟩ := rdI_e h
    exact J33 y7 s3 hF h
abbrev F_x12_twoRead (s o : MS) : Prop := Fr [114] [] [] [] s o
theorem fr_x12_twoRead {p0 : Int} {s : MS} {o : (Int × MS)} (h : m_x12_twoRead p0 s = some o) : F_x12_twoRead s o.2 := by
  have hF : F_x12_twoRead s s := Fr.rf s
  unfold m_x12_twoRead at h
  have J33 : ∀ (x1 : Int) (s2 : MS), F_x12_twoRead s s2 → m_x12_twoRead_J33 x1 s2 = some o → F_x12_twoRead s o.2 := by
    intro x1 s2 hF h
    unfold m_x12_twoRead_J33 at h
    obtain rfl := Option.some.inj h
    exact hF
  have J22 : ∀ (s3 : MS), F_x12_twoRead s s3 → m_x12_twoRead_J22 s3 = some o → F_x12_twoRead s o.2 := by
    intro s3 hF h
    unfold m_x12_twoRead_J22 at h
    exact J33 (-1) s3 hF h
  obtain ⟨⟨r6, s5⟩, hc4, h⟩ := bn_e h
  have hF : F_x12_twoRead s s5 := Fr.tr hF (fr_x12_byteRead hc4) (by decide)
  obtain ⟨⟨r9, s8⟩, hc7, h⟩ := bn_e h
  have hF : F_x12_twoRead s s8 := Fr.tr hF (fr_x12_byteRead hc7) (by decide)
  obtain ⟨hr10, h⟩ := rg_e h
  by_cases c11 : r6 = (-1)
  · have h := if_t c11 h
    exact J22 s8 hF h
  · have h := if_f c11 h
    obtain ⟨hr12, h⟩ := rg_e h
    by_cases c13 : r9 = (-1)
    · have h := if_t c13 h
      exact J22 s8 hF h
    · have h := if_f c13 h
      exact J33 ((256 * r6) + r9) s8 hF h
abbrev F_x12_isLaidBlock (s o : MS) : Prop := Fr [114] [113] [] [] s o
theorem fr_x12_isLaidBlock {p0 : Int} {p1 : Int} {s : MS} {o : (Int × MS)} (h : m_x12_isLaidBlock p0 p1 s = some o) : F_x12_isLaidBlock s o.2 := by
  have hF : F_x12_isLaidBlock s s := Fr.rf s
  unfold m_x12_isLaidBlock at h
  have J262 : ∀ (x1 : Int) (s2 : MS), F_x12_isLaidBlock s s2 → m_x12_isLaidBlock_J262 x1 s2 = some o → F_x12_isLaidBlock s o.2 := by
    intro x1 s2 hF h
    unfold m_x12_isLaidBlock_J262 at h
    obtain ⟨hb3, h⟩ := bo_e h
    obtain rfl := Option.some.inj h
    exact hF
  have L130 : ∀ (n : Nat) (x4 : Int) (x5 : Int) (x6 : Int) (s7 : MS), F_x12_isLaidBlock s s7 → m_x12_isLaidBlock_L130 n x4 x5 x6 s7 = some o → F_x12_isLaidBlock s o.2 := by
    refine fr_ind (fun x4 x5 x6 s7 hF h => by cases h) ?_
    intro n130 ih130 x4 x5 x6 s7 hF h
    have h : m_x12_isLaidBlock_b130 (m_x12_isLaidBlock_L130 n130) x4 x5 x6 s7 = some o := h
    unfold m_x12_isLaidBlock_b130 at h
    have J215 : ∀ (x8 : Int) (x9 : Int) (x10 : Int) (x11 : Int) (s12 : MS), F_x12_isLaidBlock s s12 → m_x12_isLaidBlock_J215 (m_x12_isLaidBlock_L130 n130) x8 x9 x10 x11 s12 = some o → F_x12_isLaidBlock s o.2 := by
      intro x8 x9 x10 x11 s12 hF h
      unfold m_x12_isLaidBlock_J215 at h
      obtain ⟨y13, ey13, iy13, h⟩ := rdI_e h
      obtain ⟨hr14, h⟩ := rg_e h
      obtain ⟨hr15, h⟩ := rg_e h
      obtain ⟨r17, hc16, h⟩ := bn_e h
      obtain ⟨hr18, h⟩ := rg_e h
      by_cases c19 : r17 = 0
      · have h := if_t c19 h
        obtain rfl := Option.some.inj h
        exact hF
      · have h := if_f c19 h
        exact ih130 x8 x9 (x10 + 1) s12 hF h
    have J202 : ∀ (x20 : Int) (x21 : Int) (x22 : Int) (s23 : MS), F_x12_isLaidBlock s s23 → m_x12_isLaidBlock_J202 (m_x12_isLaidBlock_L130 n130) x20 x21 x22 s23 = some o → F_x12_isLaidBlock s o.2 := by
      intro x20 x21 x22 s23 hF h
      unfold m_x12_isLaidBlock_J202 at h
      obtain ⟨y24, ey24, iy24, h⟩ := rdI_e h
      exact J215 x20 x21 x22 (y24 + 1) s23 hF h
    have J198 : ∀ (x25 : Int) (x26 : Int) (x27 : Int) (s28 : MS), F_x12_isLaidBlock s s28 → m_x12_isLaidBlock_J198 (m_x12_isLaidBlock_L130 n130) x25 x26 x27 s28 = some o → F_x12_isLaidBlock s o.2 := by
      intro x25 x26 x27 s28 hF h
      unfold m_x12_isLaidBlock_J198 at h
      exact J215 x25 x26 x27 0 s28 hF h
    obtain ⟨y29, ey29, iy29, h⟩ := rdI_e h
    obtain ⟨hr30, h⟩ := rg_e h
    obtain ⟨hr31, h⟩ := rg_e h
    by_cases c32 : y29 ≤ x6
    · have h := if_t c32 h
      obtain ⟨hr33, h⟩ := rg_e h
      obtain ⟨hr34, h⟩ := rg_e h
      by_cases c35 : x4 < (gI s7 114)
      · have h := if_t c35 h
        exact J262 0 s7 hF h
      · have h := if_f c35 h
        exact J262 1 s7 hF h
    · have h := if_f c32 h
      obtain ⟨⟨r38, s37⟩, hc36, h⟩ := bn_e h
      have hF : F_x12_isLaidBlock s s37 := Fr.tr hF (fr_x12_twoRead hc36) (by decide)
      obtain ⟨hi39, h⟩ := inb_e h
      obtain ⟨s40, hs40, h⟩ := st_e h
      have hF : F_x12_isLaidBlock s s40 := hs40 ▸ Fr.uA hF (by decide)
      obtain ⟨⟨r43, s42⟩, hc41, h⟩ := bn_e h
      have hF : F_x12_isLaidBlock s s42 := Fr.tr hF (fr_x12_twoRead hc41) (by decide)
      obtain ⟨hi44, h⟩ := inb_e h
      obtain ⟨s45, hs45, h⟩ := st_e h
      have hF : F_x12_isLaidBlock s s45 := hs45 ▸ Fr.uA hF (by decide)
      obtain ⟨hr46, h⟩ := rg_e h
      by_cases c47 : x6 = 0
      · have h := if_t c47 h
        exact J198 x4 x5 x6 s45 hF h
      · have h := if_f c47 h
        obtain ⟨hr48, h⟩ := rg_e h
        by_cases c49 : x6 = 1
        · have h := if_t c49 h
          obtain ⟨y50, ey50, iy50, h⟩ := rdI_e h
          obtain ⟨hr51, h⟩ := rg_e h
          by_cases c52 : y50 ≤ 0
          · have h := if_t c52 h
            exact J202 x4 x5 x6 s45 hF h
          · have h := if_f c52 h
            exact J198 x4 x5 x6 s45 hF h
        · have h := if_f c49 h
          exact J202 x4 x5 x6 s45 hF h
  have L11 : ∀ (n : Nat) (x53 : Int) (x54 : Int) (x55 : Int) (s56 : MS), F_x12_isLaidBlock s s56 → m_x12_isLaidBlock_L11 n x53 x54 x55 s56 = some o → F_x12_isLaidBlock s o.2 := by
    refine fr_ind (fun x53 x54 x55 s56 hF h => by cases h) ?_
    intro n11 ih11 x53 x54 x55 s56 hF h
    have h : m_x12_isLaidBlock_b11 (m_x12_isLaidBlock_L11 n11) x53 x54 x55 s56 = some o := h
    unfold m_x12_isLaidBlock_b11 at h
    obtain ⟨hr57, h⟩ := rg_e h
    by_cases c58 : 16 ≤ x55
    · have h := if_t c58 h
      obtain ⟨⟨r61, s60⟩, hc59, h⟩ := bn_e h
      have hF : F_x12_isLaidBlock s s60 := Fr.tr hF (fr_x12_byteRead hc59) (by decide)
      obtain ⟨hi62, h⟩ := inb_e h
      obtain ⟨s63, hs63, h⟩ := st_e h
      have hF : F_x12_isLaidBlock s s63 := hs63 ▸ Fr.uA hF (by decide)
      obtain ⟨⟨r66, s65⟩, hc64, h⟩ := bn_e h
      have hF : F_x12_isLaidBlock s s65 := Fr.tr hF (fr_x12_byteRead hc64) (by decide)
      obtain ⟨hi67, h⟩ := inb_e h
      obtain ⟨s68, hs68, h⟩ := st_e h
      have hF : F_x12_isLaidBlock s s68 := hs68 ▸ Fr.uA hF (by decide)
      obtain ⟨y69, ey69, iy69, h⟩ := rdI_e h
      obtain ⟨y70, ey70, iy70, h⟩ := rdI_e h
      obtain ⟨hr71, h⟩ := rg_e h
      by_cases c72 : (y69 + y70) = 0
      · have h := if_t c72 h
        obtain rfl := Option.some.inj h
        exact hF
      · have h := if_f c72 h
        obtain ⟨⟨r75, s74⟩, hc73, h⟩ := bn_e h
        have hF : F_x12_isLaidBlock s s74 := Fr.tr hF (fr_x12_byteRead hc73) (by decide)
        obtain ⟨hi76, h⟩ := inb_e h
        obtain ⟨s77, hs77, h⟩ := st_e h
        have hF : F_x12_isLaidBlock s s77 := hs77 ▸ Fr.uA hF (by decide)
        obtain ⟨⟨r80, s79⟩, hc78, h⟩ := bn_e h
        have hF : F_x12_isLaidBlock s s79 := Fr.tr hF (fr_x12_byteRead hc78) (by decide)
        obtain ⟨hi81, h⟩ := inb_e h
        obtain ⟨s82, hs82, h⟩ := st_e h
        have hF : F_x12_isLaidBlock s s82 := hs82 ▸ Fr.uA hF (by decide)
        obtain ⟨y83, ey83, iy83, h⟩ := rdI_e h
        obtain ⟨hr84, h⟩ := rg_e h
        obtain ⟨r86, hc85, h⟩ := bn_e h
        obtain ⟨hr87, h⟩ := rg_e h
        obtain ⟨r89, hc88, h⟩ := bn_e h
        obtain ⟨hr90, h⟩ := rg_e h
        by_cases c91 : r89 = 0
        · have h := if_t c91 h
          obtain rfl := Option.some.inj h
          exact hF
        · have h := if_f c91 h
          exact L130 FU x53 x54 0 s82 hF h
    · have h := if_f c58 h
      obtain ⟨hi92, h⟩ := inb_e h
      obtain ⟨s93, hs93, h⟩ := st_e h
      have hF : F_x12_isLaidBlock s s93 := hs93 ▸ Fr.uA hF (by decide)
      exact ih11 x53 x54 (x55 + 1) s93 hF h
  exact L11 FU p1 (17 + (16 * p0)) 0 s hF h
abbrev F_x12_isLaid (s o : MS) : Prop := Fr [114] [113] [] [] s o
theorem fr_x12_isLaid {p0 : Int} {s : MS} {o : (Int × MS)} (h : m_x12_isLaid p0 s = some o) : F_x12_isLaid s o.2 := by
  have hF : F_x12_isLaid s s := Fr.rf s
  unfold m_x12_isLaid at h
  have J194 : ∀ (x1 : Int) (s2 : MS), F_x12_isLaid s s2 → m_x12_isLaid_J194 x1 s2 = some o → F_x12_isLaid s o.2 := by
    intro x1 s2 hF h
    unfold m_x12_isLaid_J194 at h
    obtain ⟨hb3, h⟩ := bo_e h
    obtain rfl := Option.some.inj h
    exact hF
  have L135 : ∀ (n : Nat) (x4 : Int) (x5 : Int) (s6 : MS), F_x12_isLaid s s6 → m_x12_isLaid_L135 n x4 x5 s6 = some o → F_x12_isLaid s o.2 := by
    refine fr_ind (fun x4 x5 s6 hF h => by cases h) ?_
    intro n135 ih135 x4 x5 s6 hF h
    have h : m_x12_isLaid_b135 (m_x12_isLaid_L135 n135) x4 x5 s6 = some o := h
    unfold m_x12_isLaid_b135 at h
    have L145 : ∀ (n : Nat) (x7 : Int) (x8 : Int) (x9 : Int) (s10 : MS), F_x12_isLaid s s10 → m_x12_isLaid_L145 (m_x12_isLaid_L135 n135) n x7 x8 x9 s10 = some o → F_x12_isLaid s o.2 := by
      refine fr_ind (fun x7 x8 x9 s10 hF h => by cases h) ?_
      intro n145 ih145 x7 x8 x9 s10 hF h
      have h : m_x12_isLaid_b145 (m_x12_isLaid_L135 n135) (m_x12_isLaid_L145 (m_x12_isLaid_L135 n135) n145) x7 x8 x9 s10 = some o := h
      unfold m_x12_isLaid_b145 at h
      obtain ⟨hr11, h⟩ := rg_e h
      by_cases c12 : 16 ≤ x9
      · have h := if_t c12 h
        exact ih135 x7 (x8 + 1) s10 hF h
      · have h := if_f c12 h
        obtain ⟨hi13, h⟩ := inb_e h
        obtain ⟨s14, hs14, h⟩ := st_e h
        have hF : F_x12_isLaid s s14 := hs14 ▸ Fr.uA hF (by decide)
        exact ih145 x7 x8 (x9 + 1) s14 hF h
    obtain ⟨hr15, h⟩ := rg_e h
    by_cases c16 : 48 ≤ x5
    · have h := if_t c16 h
      obtain ⟨hr17, h⟩ := rg_e h
      obtain ⟨hr18, h⟩ := rg_e h
      by_cases c19 : (gI s6 114) = x4
      · have h := if_t c19 h
        exact J194 1 s6 hF h
      · have h := if_f c19 h
        exact J194 0 s6 hF h
    · have h := if_f c16 h
      exact L145 FU x4 x5 0 s6 hF h
  have L102 : ∀ (n : Nat) (x20 : Int) (x21 : Int) (s22 : MS), F_x12_isLaid s s22 → m_x12_isLaid_L102 n x20 x21 s22 = some o → F_x12_isLaid s o.2 := by
    refine fr_ind (fun x20 x21 s22 hF h => by cases h) ?_
    intro n102 ih102 x20 x21 s22 hF h
    have h : m_x12_isLaid_b102 (m_x12_isLaid_L102 n102) x20 x21 s22 = some o := h
    unfold m_x12_isLaid_b102 at h
    obtain ⟨r24, hc23, h⟩ := bn_e h
    obtain ⟨hr25, h⟩ := rg_e h
    obtain ⟨hr26, h⟩ := rg_e h
    by_cases c27 : r24 ≤ x21
    · have h := if_t c27 h
      obtain ⟨r29, hc28, h⟩ := bn_e h
      exact L135 FU x20 r29 s22 hF h
    · have h := if_f c27 h
      obtain ⟨⟨r32, s31⟩, hc30, h⟩ := bn_e h
      have hF : F_x12_isLaid s s31 := Fr.tr hF (fr_x12_isLaidBlock hc30) (by decide)
      obtain ⟨hr33, h⟩ := rg_e h
      by_cases c34 : r32 = 0
      · have h := if_t c34 h
        obtain rfl := Option.some.inj h
        exact hF
      · have h := if_f c34 h
        exact ih102 x20 (x21 + 1) s31 hF h
  have L59 : ∀ (n : Nat) (x35 : Int) (x36 : Int) (s37 : MS), F_x12_isLaid s s37 → m_x12_isLaid_L59 n x35 x36 s37 = some o → F_x12_isLaid s o.2 := by
    refine fr_ind (fun x35 x36 s37 hF h => by cases h) ?_
    intro n59 ih59 x35 x36 s37 hF h
    have h : m_x12_isLaid_b59 (m_x12_isLaid_L59 n59) x35 x36 s37 = some o := h
    unfold m_x12_isLaid_b59 at h
    obtain ⟨hr38, h⟩ := rg_e h
    by_cases c39 : 8 ≤ x36
    · have h := if_t c39 h
      exact L102 FU x35 0 s37 hF h
    · have h := if_f c39 h
      obtain ⟨⟨r42, s41⟩, hc40, h⟩ := bn_e h
      have hF : F_x12_isLaid s s41 := Fr.tr hF (fr_x12_byteRead hc40) (by decide)
      obtain ⟨hi43, h⟩ := inb_e h
      obtain ⟨s44, hs44, h⟩ := st_e h
      have hF : F_x12_isLaid s s44 := hs44 ▸ Fr.uA hF (by decide)
      obtain ⟨⟨r47, s46⟩, hc45, h⟩ := bn_e h
      have hF : F_x12_isLaid s s46 := Fr.tr hF (fr_x12_byteRead hc45) (by decide)
      obtain ⟨hi48, h⟩ := inb_e h
      obtain ⟨s49, hs49, h⟩ := st_e h
      have hF : F_x12_isLaid s s49 := hs49 ▸ Fr.uA hF (by decide)
      exact ih59 x35 (x36 + 1) s49 hF h
  have J54 : ∀ (s50 : MS), F_x12_isLaid s s50 → m_x12_isLaid_J54 s50 = some o → F_x12_isLaid s o.2 := by
    intro s50 hF h
    unfold m_x12_isLaid_J54 at h
    obtain rfl := Option.some.inj h
    exact hF
  obtain ⟨s51, hs51, h⟩ := st_e h
  have hF : F_x12_isLaid s s51 := hs51 ▸ Fr.uI hF (by decide)
  obtain ⟨⟨r54, s53⟩, hc52, h⟩ := bn_e h
  have hF : F_x12_isLaid s s53 := Fr.tr hF (fr_x12_byteRead hc52) (by decide)
  obtain ⟨⟨r57, s56⟩, hc55, h⟩ := bn_e h
  have hF : F_x12_isLaid s s56 := Fr.tr hF (fr_x12_twoRead hc55) (by decide)
  obtain ⟨hi58, h⟩ := inb_e h
  obtain ⟨s59, hs59, h⟩ := st_e h
  have hF : F_x12_isLaid s s59 := hs59 ▸ Fr.uA hF (by decide)
  obtain ⟨hr60, h⟩ := rg_e h
  by_cases c61 : r54 = (-1)
  · have h := if_t c61 h
    exact J54 s59 hF h
  · have h := if_f c61 h
    obtain ⟨hr62, h⟩ := rg_e h
    by_cases c63 : r57 = (-1)
    · have h := if_t c63 h
      exact J54 s59 hF h
    · have h := if_f c63 h
      obtain ⟨y64, ey64, iy64, h⟩ := rdI_e h
      obtain ⟨hr65, h⟩ := rg_e h
      by_cases c66 : y64 ≤ 999999
      · have h := if_t c66 h
        exact L59 FU p0 0 s59 hF h
      · have h := if_f c66 h
        exact J54 s59 hF h
abbrev F_x12_areCounts (s o : MS) : Prop := Fr [] [115] [] [] s o
theorem fr_x12_areCounts {p0 : Int} {s : MS} {o : (Int × MS)} (h : m_x12_areCounts p0 s = some o) : F_x12_areCounts s o.2 := by
  have hF : F_x12_areCounts s s := Fr.rf s
  unfold m_x12_areCounts at h
  have L153 : ∀ (n : Nat) (x1 : Int) (x2 : Int) (s3 : MS), F_x12_areCounts s s3 → m_x12_areCounts_L153 n x1 x2 s3 = some o → F_x12_areCounts s o.2 := by
    refine fr_ind (fun x1 x2 s3 hF h => by cases h) ?_
    intro n153 ih153 x1 x2 s3 hF h
    have h : m_x12_areCounts_b153 (m_x12_areCounts_L153 n153) x1 x2 s3 = some o := h
    unfold m_x12_areCounts_b153 at h
    obtain ⟨r5, hc4, h⟩ := bn_e h
    obtain ⟨hr6, h⟩ := rg_e h
    obtain ⟨hr7, h⟩ := rg_e h
    by_cases c8 : r5 ≤ x2
    · have h := if_t c8 h
      obtain rfl := Option.some.inj h
      exact hF
    · have h := if_f c8 h
      obtain ⟨y9, ey9, iy9, h⟩ := rdI_e h
      obtain ⟨r11, hc10, h⟩ := bn_e h
      obtain ⟨hr12, h⟩ := rg_e h
      obtain ⟨hr13, h⟩ := rg_e h
      by_cases c14 : y9 = r11
      · have h := if_t c14 h
        exact ih153 x1 (x2 + 1) s3 hF h
      · have h := if_f c14 h
        obtain rfl := Option.some.inj h
        exact hF
  have L80 : ∀ (n : Nat) (x15 : Int) (x16 : Int) (s17 : MS), F_x12_areCounts s s17 → m_x12_areCounts_L80 n x15 x16 s17 = some o → F_x12_areCounts s o.2 := by
    refine fr_ind (fun x15 x16 s17 hF h => by cases h) ?_
    intro n80 ih80 x15 x16 s17 hF h
    have h : m_x12_areCounts_b80 (m_x12_areCounts_L80 n80) x15 x16 s17 = some o := h
    unfold m_x12_areCounts_b80 at h
    have J145 : ∀ (x18 : Int) (x19 : Int) (s20 : MS), F_x12_areCounts s s20 → m_x12_areCounts_J145 (m_x12_areCounts_L80 n80) x18 x19 s20 = some o → F_x12_areCounts s o.2 := by
      intro x18 x19 s20 hF h
      unfold m_x12_areCounts_J145 at h
      exact ih80 x18 (x19 + 1) s20 hF h
    have L111 : ∀ (n : Nat) (x21 : Int) (x22 : Int) (x23 : Int) (s24 : MS), F_x12_areCounts s s24 → m_x12_areCounts_L111 (m_x12_areCounts_L80 n80) n x21 x22 x23 s24 = some o → F_x12_areCounts s o.2 := by
      refine fr_ind (fun x21 x22 x23 s24 hF h => by cases h) ?_
      intro n111 ih111 x21 x22 x23 s24 hF h
      have h : m_x12_areCounts_b111 (m_x12_areCounts_L80 n80) (m_x12_areCounts_L111 (m_x12_areCounts_L80 n80) n111) x21 x22 x23 s24 = some o := h
      unfold m_x12_areCounts_b111 at h
      obtain ⟨r26, hc25, h⟩ := bn_e h
      obtain ⟨hr27, h⟩ := rg_e h
      obtain ⟨hr28, h⟩ := rg_e h
      by_cases c29 : r26 ≤ x23
      · have h := if_t c29 h
        exact J145 x21 x22 s24 hF h
      · have h := if_f c29 h
        obtain ⟨r31, hc30, h⟩ := bn_e h
        obtain ⟨y32, ey32, iy32, h⟩ := rdI_e h
        obtain ⟨hi33, h⟩ := inb_e h
        obtain ⟨s34, hs34, h⟩ := st_e h
        have hF : F_x12_areCounts s s34 := hs34 ▸ Fr.uA hF (by decide)
        exact ih111 x21 x22 (x23 + 1) s34 hF h
    obtain ⟨r36, hc35, h⟩ := bn_e h
    obtain ⟨hr37, h⟩ := rg_e h
    obtain ⟨hr38, h⟩ := rg_e h
    by_cases c39 : r36 ≤ x16
    · have h := if_t c39 h
      exact L153 FU x15 0 s17 hF h
    · have h := if_f c39 h
      obtain ⟨r41, hc40, h⟩ := bn_e h
      obtain ⟨hr42, h⟩ := rg_e h
      by_cases c43 : r41 = 0
      · have h := if_t c43 h
        exact J145 x15 x16 s17 hF h
      · have h := if_f c43 h
        obtain ⟨r45, hc44, h⟩ := bn_e h
        obtain ⟨hr46, h⟩ := rg_e h
        by_cases c47 : r45 = 0
        · have h := if_t c47 h
          exact J145 x15 x16 s17 hF h
        · have h := if_f c47 h
          exact L111 FU x15 x16 0 s17 hF h
  have L23 : ∀ (n : Nat) (x48 : Int) (x49 : Int) (s50 : MS), F_x12_areCounts s s50 → m_x12_areCounts_L23 n x48 x49 s50 = some o → F_x12_areCounts s o.2 := by
    refine fr_ind (fun x48 x49 s50 hF h => by cases h) ?_
    intro n23 ih23 x48 x49 s50 hF h
    have h : m_x12_areCounts_b23 (m_x12_areCounts_L23 n23) x48 x49 s50 = some o := h
    unfold m_x12_areCounts_b23 at h
    have J72 : ∀ (x51 : Int) (x52 : Int) (s53 : MS), F_x12_areCounts s s53 → m_x12_areCounts_J72 (m_x12_areCounts_L23 n23) x51 x52 s53 = some o → F_x12_areCounts s o.2 := by
      intro x51 x52 s53 hF h
      unfold m_x12_areCounts_J72 at h
      exact ih23 x51 (x52 + 1) s53 hF h
    obtain ⟨hr54, h⟩ := rg_e h
    by_cases c55 : 8 ≤ x49
    · have h := if_t c55 h
      exact L80 FU x48 0 s50 hF h
    · have h := if_f c55 h
      obtain ⟨y56, ey56, iy56, h⟩ := rdI_e h
      obtain ⟨hr57, h⟩ := rg_e h
      by_cases c58 : y56 < 254
      · have h := if_t c58 h
        obtain ⟨hr59, h⟩ := rg_e h
        obtain ⟨r61, hc60, h⟩ := bn_e h
        obtain ⟨hr62, h⟩ := rg_e h
        by_cases c63 : r61 = 0
        · have h := if_t c63 h
          obtain rfl := Option.some.inj h
          exact hF
        · have h := if_f c63 h
          obtain ⟨y64, ey64, iy64, h⟩ := rdI_e h
          obtain ⟨hi65, h⟩ := inb_e h
          obtain ⟨s66, hs66, h⟩ := st_e h
          have hF : F_x12_areCounts s s66 := hs66 ▸ Fr.uA hF (by decide)
          exact J72 x48 x49 s66 hF h
      · have h := if_f c58 h
        exact J72 x48 x49 s50 hF h
  have L2 : ∀ (n : Nat) (x67 : Int) (x68 : Int) (s69 : MS), F_x12_areCounts s s69 → m_x12_areCounts_L2 n x67 x68 s69 = some o → F_x12_areCounts s o.2 := by
    refine fr_ind (fun x67 x68 s69 hF h => by cases h) ?_
    intro n2 ih2 x67 x68 s69 hF h
    have h : m_x12_areCounts_b2 (m_x12_areCounts_L2 n2) x67 x68 s69 = some o := h
    unfold m_x12_areCounts_b2 at h
    obtain ⟨hr70, h⟩ := rg_e h
    by_cases c71 : 48 ≤ x68
    · have h := if_t c71 h
      exact L23 FU x67 0 s69 hF h
    · have h := if_f c71 h
      obtain ⟨hi72, h⟩ := inb_e h
      obtain ⟨s73, hs73, h⟩ := st_e h
      have hF : F_x12_areCounts s s73 := hs73 ▸ Fr.uA hF (by decide)
      exact ih2 x67 (x68 + 1) s73 hF h
  exact L2 FU p0 0 s hF h
abbrev F_x12_areBetween (s o : MS) : Prop := Fr [] [62] [] [] s o
theorem fr_x12_areBetween {p0 : Int} {p1 : Int} {p2 : Int} {s : MS} {o : (Int × MS)} (h : m_x12_areBetween p0 p1 p2 s = some o) : F_x12_areBetween s o.2 := by
  have hF : F_x12_areBetween s s := Fr.rf s
  unfold m_x12_areBetween at h
  have L10 : ∀ (n : Nat) (x1 : Int) (x2 : Int) (x3 : Int) (s4 : MS), F_x12_areBetween s s4 → m_x12_areBetween_L10 n x1 x2 x3 s4 = some o → F_x12_areBetween s o.2 := by
    refine fr_ind (fun x1 x2 x3 s4 hF h => by cases h) ?_
    intro n10 ih10 x1 x2 x3 s4 hF h
    have h : m_x12_areBetween_b10 (m_x12_areBetween_L10 n10) x1 x2 x3 s4 = some o := h
    unfold m_x12_areBetween_b10 at h
    have L30 : ∀ (n : Nat) (x5 : Int) (x6 : Int) (x7 : Int) (x8 : Int) (x9 : Int) (s10 : MS), F_x12_areBetween s s10 → m_x12_areBetween_L30 (m_x12_areBetween_L10 n10) n x5 x6 x7 x8 x9 s10 = some o → F_x12_areBetween s o.2 := by
      refine fr_ind (fun x5 x6 x7 x8 x9 s10 hF h => by cases h) ?_
      intro n30 ih30 x5 x6 x7 x8 x9 s10 hF h
      have h : m_x12_areBetween_b30 (m_x12_areBetween_L10 n10) (m_x12_areBetween_L30 (m_x12_areBetween_L10 n10) n30) x5 x6 x7 x8 x9 s10 = some o := h
      unfold m_x12_areBetween_b30 at h
      have J96 : ∀ (x11 : Int) (x12 : Int) (x13 : Int) (x14 : Int) (x15 : Int) (s16 : MS), F_x12_areBetween s s16 → m_x12_areBetween_J96 (m_x12_areBetween_L10 n10) (m_x12_areBetween_L30 (m_x12_areBetween_L10 n10) n30) x11 x12 x13 x14 x15 s16 = some o → F_x12_areBetween s o.2 := by
        intro x11 x12 x13 x14 x15 s16 hF h
        unfold m_x12_areBetween_J96 at h
        exact ih30 x11 x12 x13 x14 (x15 + 1) s16 hF h
      obtain ⟨r18, hc17, h⟩ := bn_e h
      obtain ⟨hr19, h⟩ := rg_e h
      obtain ⟨hr20, h⟩ := rg_e h
      by_cases c21 : r18 ≤ x9
      · have h := if_t c21 h
        exact ih10 x5 x6 x7 s10 hF h
      · have h := if_f c21 h
        obtain ⟨r23, hc22, h⟩ := bn_e h
        obtain ⟨hr24, h⟩ := rg_e h
        by_cases c25 : r23 = 0
        · have h := if_t c25 h
          obtain ⟨r31, hc30, h⟩ := bn_e h
          obtain ⟨hr32, h⟩ := rg_e h
          obtain ⟨hr33, h⟩ := rg_e h
          obtain ⟨hr34, h⟩ := rg_e h
          obtain ⟨r36, hc35, h⟩ := bn_e h
          obtain ⟨hr37, h⟩ := rg_e h
          by_cases c38 : r36 = 0
          · have h := if_t c38 h
            obtain rfl := Option.some.inj h
            exact hF
          · have h := if_f c38 h
            exact J96 x5 x6 x7 x8 x9 s10 hF h
        · have h := if_f c25 h
          obtain ⟨r27, hc26, h⟩ := bn_e h
          obtain ⟨hi28, h⟩ := inb_e h
          obtain ⟨s29, hs29, h⟩ := st_e h
          have hF : F_x12_areBetween s s29 := hs29 ▸ Fr.uA hF (by decide)
          exact J96 x5 x6 (x7 + 1) x8 x9 s29 hF h
    obtain ⟨hr39, h⟩ := rg_e h
    by_cases c40 : x3 ≤ 0
    · have h := if_t c40 h
      obtain rfl := Option.some.inj h
      exact hF
    · have h := if_f c40 h
      obtain ⟨y41, ey41, iy41, h⟩ := rdI_e h
      exact L30 FU x1 x2 (x3 + (-1)) y41 0 s4 hF h
  obtain ⟨hi42, h⟩ := inb_e h
  obtain ⟨s43, hs43, h⟩ := st_e h
  have hF : F_x12_areBetween s s43 := hs43 ▸ Fr.uA hF (by decide)
  exact L10 FU p1 p2 1 s43 hF h
abbrev F_x12_areKeys (s o : MS) : Prop := Fr [] [62] [] [] s o
theorem fr_x12_areKeys {p0 : Int} {s : MS} {o : (Int × MS)} (h : m_x12_areKeys p0 s = some o) : F_x12_areKeys s o.2 := by
  have hF : F_x12_areKeys s s := Fr.rf s
  unfold m_x12_areKeys at h
  have J86 : ∀ (s1 : MS), F_x12_areKeys s s1 → m_x12_areKeys_J86 s1 = some o → F_x12_areKeys s o.2 := by
    intro s1 hF h
    unfold m_x12_areKeys_J86 at h
    obtain rfl := Option.some.inj h
    exact hF
  have L9 : ∀ (n : Nat) (x2 : Int) (x3 : Int) (x4 : Int) (s5 : MS), F_x12_areKeys s s5 → m_x12_areKeys_L9 n x2 x3 x4 s5 = some o → F_x12_areKeys s o.2 := by
    refine fr_ind (fun x2 x3 x4 s5 hF h => by cases h) ?_
    intro n9 ih9 x2 x3 x4 s5 hF h
    have h : m_x12_areKeys_b9 (m_x12_areKeys_L9 n9) x2 x3 x4 s5 = some o := h
    unfold m_x12_areKeys_b9 at h
    have J72 : ∀ (x6 : Int) (x7 : Int) (x8 : Int) (x9 : Int) (x10 : Int) (x11 : Int) (s12 : MS), F_x12_areKeys s s12 → m_x12_areKeys_J72 (m_x12_areKeys_L9 n9) x6 x7 x8 x9 x10 x11 s12 = some o → F_x12_areKeys s o.2 := by
      intro x6 x7 x8 x9 x10 x11 s12 hF h
      unfold m_x12_areKeys_J72 at h
      obtain ⟨⟨r15, s14⟩, hc13, h⟩ := bn_e h
      have hF : F_x12_areKeys s s14 := Fr.tr hF (fr_x12_areBetween hc13) (by decide)
      obtain ⟨hr16, h⟩ := rg_e h
      by_cases c17 : r15 = 0
      · have h := if_t c17 h
        obtain rfl := Option.some.inj h
        exact hF
      · have h := if_f c17 h
        exact ih9 x6 x7 (x8 + 1) s14 hF h
    have J49 : ∀ (x18 : Int) (x19 : Int) (x20 : Int) (x21 : Int) (x22 : Int) (s23 : MS), F_x12_areKeys s s23 → m_x12_areKeys_J49 (m_x12_areKeys_L9 n9) x18 x19 x20 x21 x22 s23 = some o → F_x12_areKeys s o.2 := by
      intro x18 x19 x20 x21 x22 s23 hF h
      unfold m_x12_areKeys_J49 at h
      obtain ⟨hr24, h⟩ := rg_e h
      obtain ⟨hr25, h⟩ := rg_e h
      by_cases c26 : x19 ≤ (x20 + 1)
      · have h := if_t c26 h
        exact J72 x18 x19 x20 999 x21 x22 s23 hF h
      · have h := if_f c26 h
        obtain ⟨r28, hc27, h⟩ := bn_e h
        exact J72 x18 x19 x20 (r28 - 1) x21 x22 s23 hF h
    obtain ⟨hr29, h⟩ := rg_e h
    obtain ⟨hr30, h⟩ := rg_e h
    by_cases c31 : x3 ≤ x4
    · have h := if_t c31 h
      exact J86 s5 hF h
    · have h := if_f c31 h
      obtain ⟨r33, hc32, h⟩ := bn_e h
      obtain ⟨hr34, h⟩ := rg_e h
      by_cases c35 : r33 ≤ 0
      · have h := if_t c35 h
        exact J86 s5 hF h
      · have h := if_f c35 h
        obtain ⟨r37, hc36, h⟩ := bn_e h
        obtain ⟨hr38, h⟩ := rg_e h
        by_cases c39 : x4 = 0
        · have h := if_t c39 h
          exact J49 x2 x3 x4 0 r37 s5 hF h
        · have h := if_f c39 h
          obtain ⟨r41, hc40, h⟩ := bn_e h
          exact J49 x2 x3 x4 r41 r37 s5 hF h
  obtain ⟨r43, hc42, h⟩ := bn_e h
  exact L9 FU p0 r43 0 s hF h
abbrev F_x12_isImage (s o : MS) : Prop := Fr [114] [62, 113, 115] [] [] s o
theorem fr_x12_isImage {p0 : Int} {s : MS} {o : (Int × MS)} (h : m_x12_isImage p0 s = some o) : F_x12_isImage s o.2 := by
  have hF : F_x12_isImage s s := Fr.rf s
  unfold m_x12_isImage at h
  have L92 : ∀ (n : Nat) (x1 : Int) (s2 : MS), F_x12_isImage s s2 → m_x12_isImage_L92 n x1 s2 = some o → F_x12_isImage s o.2 := by
    refine fr_ind (fun x1 s2 hF h => by cases h) ?_
    intro n92 ih92 x1 s2 hF h
    have h : m_x12_isImage_b92 (m_x12_isImage_L92 n92) x1 s2 = some o := h
    unfold m_x12_isImage_b92 at h
    have L101 : ∀ (n : Nat) (x3 : Int) (x4 : Int) (s5 : MS), F_x12_isImage s s5 → m_x12_isImage_L101 (m_x12_isImage_L92 n92) n x3 x4 s5 = some o → F_x12_isImage s o.2 := by
      refine fr_ind (fun x3 x4 s5 hF h => by cases h) ?_
      intro n101 ih101 x3 x4 s5 hF h
      have h : m_x12_isImage_b101 (m_x12_isImage_L92 n92) (m_x12_isImage_L101 (m_x12_isImage_L92 n92) n101) x3 x4 s5 = some o := h
      unfold m_x12_isImage_b101 at h
      have J129 : ∀ (x6 : Int) (x7 : Int) (s8 : MS), F_x12_isImage s s8 → m_x12_isImage_J129 (m_x12_isImage_L92 n92) (m_x12_isImage_L101 (m_x12_isImage_L92 n92) n101) x6 x7 s8 = some o → F_x12_isImage s o.2 := by
        intro x6 x7 s8 hF h
        unfold m_x12_isImage_J129 at h
        exact ih101 x6 (x7 + 1) s8 hF h
      obtain ⟨r10, hc9, h⟩ := bn_e h
      obtain ⟨hr11, h⟩ := rg_e h
      obtain ⟨hr12, h⟩ := rg_e h
      by_cases c13 : r10 ≤ x4
      · have h := if_t c13 h
        exact ih92 (x3 + 1) s5 hF h
      · have h := if_f c13 h
        obtain ⟨r15, hc14, h⟩ := bn_e h
        obtain ⟨hr16, h⟩ := rg_e h
        obtain ⟨hr17, h⟩ := rg_e h
        by_cases c18 : r15 = x3
        · have h := if_t c18 h
          obtain ⟨⟨r21, s20⟩, hc19, h⟩ := bn_e h
          have hF : F_x12_isImage s s20 := Fr.tr hF (fr_x12_areKeys hc19) (by decide)
          obtain ⟨hr22, h⟩ := rg_e h
          by_cases c23 : r21 = 0
          · have h := if_t c23 h
            obtain rfl := Option.some.inj h
            exact hF
          · have h := if_f c23 h
            exact J129 x3 x4 s20 hF h
        · have h := if_f c18 h
          exact J129 x3 x4 s5 hF h
    obtain ⟨hr24, h⟩ := rg_e h
    by_cases c25 : 256 ≤ x1
    · have h := if_t c25 h
      obtain rfl := Option.some.inj h
      exact hF
    · have h := if_f c25 h
      exact L101 FU x1 0 s2 hF h
  have J88 : ∀ (s26 : MS), F_x12_isImage s s26 → m_x12_isImage_J88 s26 = some o → F_x12_isImage s o.2 := by
    intro s26 hF h
    unfold m_x12_isImage_J88 at h
    obtain rfl := Option.some.inj h
    exact hF
  have L48 : ∀ (n : Nat) (x27 : Int) (s28 : MS), F_x12_isImage s s28 → m_x12_isImage_L48 n x27 s28 = some o → F_x12_isImage s o.2 := by
    refine fr_ind (fun x27 s28 hF h => by cases h) ?_
    intro n48 ih48 x27 s28 hF h
    have h : m_x12_isImage_b48 (m_x12_isImage_L48 n48) x27 s28 = some o := h
    unfold m_x12_isImage_b48 at h
    obtain ⟨r30, hc29, h⟩ := bn_e h
    obtain ⟨hr31, h⟩ := rg_e h
    obtain ⟨hr32, h⟩ := rg_e h
    by_cases c33 : r30 ≤ x27
    · have h := if_t c33 h
      obtain ⟨⟨r36, s35⟩, hc34, h⟩ := bn_e h
      have hF : F_x12_isImage s s35 := Fr.tr hF (fr_x12_areCounts hc34) (by decide)
      obtain ⟨hr37, h⟩ := rg_e h
      by_cases c38 : r36 = 0
      · have h := if_t c38 h
        exact J88 s35 hF h
      · have h := if_f c38 h
        obtain ⟨⟨r41, s40⟩, hc39, h⟩ := bn_e h
        have hF : F_x12_isImage s s40 := Fr.tr hF (fr_x12_areCounts hc39) (by decide)
        obtain ⟨hr42, h⟩ := rg_e h
        by_cases c43 : r41 = 0
        · have h := if_t c43 h
          exact J88 s40 hF h
        · have h := if_f c43 h
          exact L92 FU 1 s40 hF h
    · have h := if_f c33 h
      obtain ⟨r45, hc44, h⟩ := bn_e h
      obtain ⟨hr46, h⟩ := rg_e h
      by_cases c47 : r45 = 0
      · have h := if_t c47 h
        obtain rfl := Option.some.inj h
        exact hF
      · have h := if_f c47 h
        exact ih48 (x27 + 1) s28 hF h
  have J44 : ∀ (s48 : MS), F_x12_isImage s s48 → m_x12_isImage_J44 s48 = some o → F_x12_isImage s o.2 := by
    intro s48 hF h
    unfold m_x12_isImage_J44 at h
    obtain rfl := Option.some.inj h
    exact hF
  obtain ⟨hr49, h⟩ := rg_e h
  by_cases c50 : (gI s 47) = 0
  · have h := if_t c50 h
    exact J44 s hF h
  · have h := if_f c50 h
    obtain ⟨hr51, h⟩ := rg_e h
    by_cases c52 : p0 < 20
    · have h := if_t c52 h
      exact J44 s hF h
    · have h := if_f c52 h
      obtain ⟨y53, ey53, iy53, h⟩ := rdI_e h
      obtain ⟨r55, hc54, h⟩ := bn_e h
      obtain ⟨hr56, h⟩ := rg_e h
      obtain ⟨hr57, h⟩ := rg_e h
      by_cases c58 : y53 = r55
      · have h := if_t c58 h
        obtain ⟨⟨r61, s60⟩, hc59, h⟩ := bn_e h
        have hF : F_x12_isImage s s60 := Fr.tr hF (fr_x12_isLaid hc59) (by decide)
        obtain ⟨hr62, h⟩ := rg_e h
        by_cases c63 : r61 = 0
        · have h := if_t c63 h
          exact J44 s60 hF h
        · have h := if_f c63 h
          exact L48 FU 0 s60 hF h
      · have h := if_f c58 h
        exact J44 s hF h
abbrev F_x12_on (s o : MS) : Prop := Fr [1, 76, 114] [9, 49, 62, 113, 115] [] [] s o
theorem fr_x12_on {s : MS} {o : (Int × MS)} (h : m_x12_on s = some o) : F_x12_on s o.2 := by
  have hF : F_x12_on s s := Fr.rf s
  unfold m_x12_on at h
  have L26 : ∀ (n : Nat) (x1 : Int) (s2 : MS), F_x12_on s s2 → m_x12_on_L26 n x1 s2 = some o → F_x12_on s o.2 := by
    refine fr_ind (fun x1 s2 hF h => by cases h) ?_
    intro n26 ih26 x1 s2 hF h
    have h : m_x12_on_b26 (m_x12_on_L26 n26) x1 s2 = some o := h
    unfold m_x12_on_b26 at h
    obtain ⟨hr3, h⟩ := rg_e h
    by_cases c4 : 785 ≤ x1
    · have h := if_t c4 h
      obtain ⟨hi5, h⟩ := inb_e h
      obtain ⟨s6, hs6, h⟩ := st_e h
      have hF : F_x12_on s s6 := hs6 ▸ Fr.uA hF (by decide)
      obtain ⟨s7, hs7, h⟩ := st_e h
      have hF : F_x12_on s s7 := hs7 ▸ Fr.uI hF (by decide)
      obtain rfl := Option.some.inj h
      exact hF
    · have h := if_f c4 h
      obtain ⟨y8, ey8, iy8, h⟩ := rdI_e h
      obtain ⟨hi9, h⟩ := inb_e h
      obtain ⟨s10, hs10, h⟩ := st_e h
      have hF : F_x12_on s s10 := hs10 ▸ Fr.uA hF (by decide)
      exact ih26 (x1 + 1) s10 hF h
  obtain ⟨s11, hs11, h⟩ := st_e h
  have hF : F_x12_on s s11 := hs11 ▸ Fr.uI hF (by decide)
  obtain ⟨⟨r14, s13⟩, hc12, h⟩ := bn_e h
  have hF : F_x12_on s s13 := Fr.tr hF (fr_x12_isImage hc12) (by decide)
  obtain ⟨hr15, h⟩ := rg_e h
  by_cases c16 : r14 = 0
  · have h := if_t c16 h
    obtain ⟨⟨r19, s18⟩, hc17, h⟩ := bn_e h
    have hF : F_x12_on s s18 := Fr.tr hF (fr_x12_isRefused hc17) (by decide)
    obtain ⟨hb20, h⟩ := bo_e h
    obtain rfl := Option.some.inj h
    exact hF
  · have h := if_f c16 h
    exact L26 FU 0 s13 hF h
abbrev F_x1_settle (s o : MS) : Prop := Fr [1061, 1601, 1602, 1604, 1605] [81] [] [] s o
theorem fr_x1_settle {s : MS} {o : (Int × MS)} (h : m_x1_settle s = some o) : F_x1_settle s o.2 := by
  have hF : F_x1_settle s s := Fr.rf s
  unfold m_x1_settle at h
  obtain ⟨⟨r3, s2⟩, hc1, h⟩ := bn_e h
  have hF : F_x1_settle s s2 := Fr.tr hF (fr_x1_price hc1) (by decide)
  obtain ⟨hr4, h⟩ := rg_e h
  obtain ⟨s5, hs5, h⟩ := st_e h
  have hF : F_x1_settle s s5 := hs5 ▸ Fr.uI hF (by decide)
  obtain ⟨r7, hc6, h⟩ := bn_e h
  obtain rfl := Option.some.inj h
  exact hF
abbrev F_x2_keep (s o : MS) : Prop := Fr [143] [8, 9, 10] [] [] s o
theorem fr_x2_keep {p0 : Int} {p1 : Int} {p2 : Int} {s : MS} {o : MS} (h : m_x2_keep p0 p1 p2 s = some o) : F_x2_keep s o := by
  have hF : F_x2_keep s s := Fr.rf s
  unfold m_x2_keep at h
  have J70 : ∀ (x1 : Int) (x2 : Int) (x3 : Int) (s4 : MS), F_x2_keep s s4 → m_x2_keep_J70 x1 x2 x3 s4 = some o → F_x2_keep s o := by
    intro x1 x2 x3 s4 hF h
    unfold m_x2_keep_J70 at h
    obtain ⟨hi5, h⟩ := inb_e h
    obtain ⟨s6, hs6, h⟩ := st_e h
    have hF : F_x2_keep s s6 := hs6 ▸ Fr.uA hF (by decide)
    obtain ⟨hi7, h⟩ := inb_e h
    obtain ⟨s8, hs8, h⟩ := st_e h
    have hF : F_x2_keep s s8 := hs8 ▸ Fr.uA hF (by decide)
    obtain ⟨hi9, h⟩ := inb_e h
    obtain ⟨s10, hs10, h⟩ := st_e h
    have hF : F_x2_keep s s10 := hs10 ▸ Fr.uA hF (by decide)
    obtain ⟨s11, hs11, h⟩ := st_e h
    have hF : F_x2_keep s s11 := hs11 ▸ Fr.uI hF (by decide)
    obtain rfl := Option.some.inj h
    exact hF
  obtain ⟨hr12, h⟩ := rg_e h
  by_cases c13 : (gI s 143) = 60
  · have h := if_t c13 h
    obtain ⟨s14, hs14, h⟩ := st_e h
    have hF : F_x2_keep s s14 := hs14 ▸ Fr.uI hF (by decide)
    obtain ⟨hc15, h⟩ := cpg_e h
    obtain ⟨s16, hs16, h⟩ := st_e h
    have hF : F_x2_keep s s16 := hs16 ▸ Fr.uA hF (by decide)
    obtain ⟨hc17, h⟩ := cpg_e h
    obtain ⟨s18, hs18, h⟩ := st_e h
    have hF : F_x2_keep s s18 := hs18 ▸ Fr.uA hF (by decide)
    obtain ⟨hc19, h⟩ := cpg_e h
    obtain ⟨s20, hs20, h⟩ := st_e h
    have hF : F_x2_keep s s20 := hs20 ▸ Fr.uA hF (by decide)
    exact J70 p0 p1 p2 s20 hF h
  · have h := if_f c13 h
    exact J70 p0 p1 p2 s hF h
abbrev F_x1_draw (s o : MS) : Prop := Fr [983] [] [] [] s o
theorem fr_x1_draw {p0 : Int} {s : MS} {o : (Int × MS)} (h : m_x1_draw p0 s = some o) : F_x1_draw s o.2 := by
  have hF : F_x1_draw s s := Fr.rf s
  unfold m_x1_draw at h
  have J39 : ∀ (x1 : Int) (s2 : MS), F_x1_draw s s2 → m_x1_draw_J39 x1 s2 = some o → F_x1_draw s o.2 := by
    intro x1 s2 hF h
    unfold m_x1_draw_J39 at h
    obtain rfl := Option.some.inj h
    exact hF
  obtain ⟨hr3, h⟩ := rg_e h
  obtain ⟨s4, hs4, h⟩ := st_e h
  have hF : F_x1_draw s s4 := hs4 ▸ Fr.uI hF (by decide)
  obtain ⟨hr5, h⟩ := rg_e h
  by_cases c6 : p0 ≤ 0
  · have h := if_t c6 h
    exact J39 0 s4 hF h
  · have h := if_f c6 h
    obtain ⟨hn7, h⟩ := dv_e h
    obtain ⟨hn8, h⟩ := dv_e h
    exact J39 (Int.tmod (Int.tdiv (gI s4 983) 64) p0) s4 hF h
abbrev F_x1_actBySeed (s o : MS) : Prop := Fr [983, 1060, 1061, 1420, 1421, 1601, 1602, 1603, 1604, 1605] [50, 51, 54, 55, 56, 57, 58, 59, 60, 61, 72, 73, 74, 75, 76, 77, 78, 79, 81] [1062, 1422] [] s o
theorem fr_x1_actBySeed {s : MS} {o : (Int × MS)} (h : m_x1_actBySeed s = some o) : F_x1_actBySeed s o.2 := by
  have hF : F_x1_actBySeed s s := Fr.rf s
  unfold m_x1_actBySeed at h
  have J23 : ∀ (s1 : MS), F_x1_actBySeed s s1 → m_x1_actBySeed_J23 s1 = some o → F_x1_actBySeed s o.2 := by
    intro s1 hF h
    unfold m_x1_actBySeed_J23 at h
    obtain ⟨r3, hc2, h⟩ := bn_e h
    obtain ⟨hr4, h⟩ := rg_e h
    by_cases c5 : r3 = 0
    · have h := if_t c5 h
      obtain rfl := Option.some.inj h
      exact hF
    · have h := if_f c5 h
      obtain ⟨⟨r8, s7⟩, hc6, h⟩ := bn_e h
      have hF : F_x1_actBySeed s s7 := Fr.tr hF (fr_x1_draw hc6) (by decide)
      obtain ⟨r10, hc9, h⟩ := bn_e h
      obtain ⟨⟨r13, s12⟩, hc11, h⟩ := bn_e h
      have hF : F_x1_actBySeed s s12 := Fr.tr hF (fr_x1_draw hc11) (by decide)
      obtain ⟨⟨r16, s15⟩, hc14, h⟩ := bn_e h
      have hF : F_x1_actBySeed s s15 := Fr.tr hF (fr_x1_draw hc14) (by decide)
      obtain ⟨hr17, h⟩ := rg_e h
      by_cases c18 : r13 = 2
      · have h := if_t c18 h
        obtain ⟨⟨r28, s27⟩, hc26, h⟩ := bn_e h
        have hF : F_x1_actBySeed s s27 := Fr.tr hF (fr_x1_tryUproot hc26) (by decide)
        obtain ⟨hb29, h⟩ := bo_e h
        obtain rfl := Option.some.inj h
        exact hF
      · have h := if_f c18 h
        obtain ⟨⟨r21, s20⟩, hc19, h⟩ := bn_e h
        have hF : F_x1_actBySeed s s20 := Fr.tr hF (fr_x1_draw hc19) (by decide)
        obtain ⟨⟨r24, s23⟩, hc22, h⟩ := bn_e h
        have hF : F_x1_actBySeed s s23 := Fr.tr hF (fr_x1_tryPlant hc22) (by decide)
        obtain ⟨hb25, h⟩ := bo_e h
        obtain rfl := Option.some.inj h
        exact hF
  obtain ⟨⟨r32, s31⟩, hc30, h⟩ := bn_e h
  have hF : F_x1_actBySeed s s31 := Fr.tr hF (fr_x1_draw hc30) (by decide)
  obtain ⟨hr33, h⟩ := rg_e h
  obtain ⟨hr34, h⟩ := rg_e h
  by_cases c35 : (gI s31 582) ≤ r32
  · have h := if_t c35 h
    exact J23 s31 hF h
  · have h := if_f c35 h
    obtain ⟨s37, hc36, h⟩ := bn_e h
    have hF : F_x1_actBySeed s s37 := Fr.tr hF (fr_x8_save hc36) (by decide)
    exact J23 s37 hF h
abbrev F_x8_becomeP (s o : MS) : Prop := Fr [1060, 1061] [54, 55, 56, 57, 58, 59, 60, 61] [1062] [] s o
theorem fr_x8_becomeP {s : MS} {o : MS} (h : m_x8_becomeP s = some o) : F_x8_becomeP s o := by
  have hF : F_x8_becomeP s s := Fr.rf s
  unfold m_x8_becomeP at h
  obtain ⟨s1, hs1, h⟩ := st_e h
  have hF : F_x8_becomeP s s1 := hs1 ▸ Fr.uI hF (by decide)
  obtain ⟨s2, hs2, h⟩ := st_e h
  have hF : F_x8_becomeP s s2 := hs2 ▸ Fr.uI hF (by decide)
  obtain ⟨s3, hs3, h⟩ := st_e h
  have hF : F_x8_becomeP s s3 := hs3 ▸ Fr.uL hF (by decide)
  obtain ⟨hc4, h⟩ := cpg_e h
  obtain ⟨s5, hs5, h⟩ := st_e h
  have hF : F_x8_becomeP s s5 := hs5 ▸ Fr.uA hF (by decide)
  obtain ⟨hc6, h⟩ := cpg_e h
  obtain ⟨s7, hs7, h⟩ := st_e h
  have hF : F_x8_becomeP s s7 := hs7 ▸ Fr.uA hF (by decide)
  obtain ⟨hc8, h⟩ := cpg_e h
  obtain ⟨s9, hs9, h⟩ := st_e h
  have hF : F_x8_becomeP s s9 := hs9 ▸ Fr.uA hF (by decide)
  obtain ⟨hc10, h⟩ := cpg_e h
  obtain ⟨s11, hs11, h⟩ := st_e h
  have hF : F_x8_becomeP s s11 := hs11 ▸ Fr.uA hF (by decide)
  obtain ⟨hc12, h⟩ := cpg_e h
  obtain ⟨s13, hs13, h⟩ := st_e h
  have hF : F_x8_becomeP s s13 := hs13 ▸ Fr.uA hF (by decide)
  obtain ⟨hc14, h⟩ := cpg_e h
  obtain ⟨s15, hs15, h⟩ := st_e h
  have hF : F_x8_becomeP s s15 := hs15 ▸ Fr.uA hF (by decide)
  obtain ⟨hc16, h⟩ := cpg_e h
  obtain ⟨s17, hs17, h⟩ := st_e h
  have hF : F_x8_becomeP s s17 := hs17 ▸ Fr.uA hF (by decide)
  obtain ⟨hc18, h⟩ := cpg_e h
  obtain ⟨s19, hs19, h⟩ := st_e h
  have hF : F_x8_becomeP s s19 := hs19 ▸ Fr.uA hF (by decide)
  obtain rfl := Option.some.inj h
  exact hF
abbrev F_x8_clear_v2 (s o : MS) : Prop := Fr [1060, 1061] [54, 55, 56, 57, 60, 61] [1062] [] s o
theorem fr_x8_clear_v2 {p0 : Int} {s : MS} {o : MS} (h : m_x8_clear_v2 p0 s = some o) : F_x8_clear_v2 s o := by
  have hF : F_x8_clear_v2 s s := Fr.rf s
  unfold m_x8_clear_v2 at h
  have L59 : ∀ (n : Nat) (x1 : Int) (s2 : MS), F_x8_clear_v2 s s2 → m_x8_clear_v2_L59 n x1 s2 = some o → F_x8_clear_v2 s o := by
    refine fr_ind (fun x1 s2 hF h => by cases h) ?_
    intro n59 ih59 x1 s2 hF h
    have h : m_x8_clear_v2_b59 (m_x8_clear_v2_L59 n59) x1 s2 = some o := h
    unfold m_x8_clear_v2_b59 at h
    obtain ⟨hr3, h⟩ := rg_e h
    by_cases c4 : 8 ≤ x1
    · have h := if_t c4 h
      obtain rfl := Option.some.inj h
      exact hF
    · have h := if_f c4 h
      obtain ⟨hi5, h⟩ := inb_e h
      obtain ⟨s6, hs6, h⟩ := st_e h
      have hF : F_x8_clear_v2 s s6 := hs6 ▸ Fr.uA hF (by decide)
      obtain ⟨hi7, h⟩ := inb_e h
      obtain ⟨s8, hs8, h⟩ := st_e h
      have hF : F_x8_clear_v2 s s8 := hs8 ▸ Fr.uA hF (by decide)
      exact ih59 (x1 + 1) s8 hF h
  have L17 : ∀ (n : Nat) (x9 : Int) (s10 : MS), F_x8_clear_v2 s s10 → m_x8_clear_v2_L17 n x9 s10 = some o → F_x8_clear_v2 s o := by
    refine fr_ind (fun x9 s10 hF h => by cases h) ?_
    intro n17 ih17 x9 s10 hF h
    have h : m_x8_clear_v2_b17 (m_x8_clear_v2_L17 n17) x9 s10 = some o := h
    unfold m_x8_clear_v2_b17 at h
    obtain ⟨hr11, h⟩ := rg_e h
    by_cases c12 : 48 ≤ x9
    · have h := if_t c12 h
      exact L59 FU 0 s10 hF h
    · have h := if_f c12 h
      obtain ⟨hi13, h⟩ := inb_e h
      obtain ⟨s14, hs14, h⟩ := st_e h
      have hF : F_x8_clear_v2 s s14 := hs14 ▸ Fr.uA hF (by decide)
      obtain ⟨hi15, h⟩ := inb_e h
      obtain ⟨s16, hs16, h⟩ := st_e h
      have hF : F_x8_clear_v2 s s16 := hs16 ▸ Fr.uA hF (by decide)
      obtain ⟨hi17, h⟩ := inb_e h
      obtain ⟨s18, hs18, h⟩ := st_e h
      have hF : F_x8_clear_v2 s s18 := hs18 ▸ Fr.uA hF (by decide)
      obtain ⟨hi19, h⟩ := inb_e h
      obtain ⟨s20, hs20, h⟩ := st_e h
      have hF : F_x8_clear_v2 s s20 := hs20 ▸ Fr.uA hF (by decide)
      exact ih17 (x9 + 1) s20 hF h
  obtain ⟨s21, hs21, h⟩ := st_e h
  have hF : F_x8_clear_v2 s s21 := hs21 ▸ Fr.uI hF (by decide)
  obtain ⟨s22, hs22, h⟩ := st_e h
  have hF : F_x8_clear_v2 s s22 := hs22 ▸ Fr.uI hF (by decide)
  obtain ⟨s23, hs23, h⟩ := st_e h
  have hF : F_x8_clear_v2 s s23 := hs23 ▸ Fr.uL hF (by decide)
  exact L17 FU 0 s23 hF h
abbrev F_x1_build (s o : MS) : Prop := Fr [1060, 1061, 1420, 1421, 1601, 1602, 1603, 1604, 1605] [50, 51, 54, 55, 56, 57, 58, 59, 60, 61, 72, 73, 74, 75, 76, 77, 78, 79, 81] [1062, 1422] [] s o
theorem fr_x1_build {s : MS} {o : MS} (h : m_x1_build s = some o) : F_x1_build s o := by
  have hF : F_x1_build s s := Fr.rf s
  unfold m_x1_build at h
  have L18 : ∀ (n : Nat) (x1 : Int) (s2 : MS), F_x1_build s s2 → m_x1_build_L18 n x1 s2 = some o → F_x1_build s o := by
    refine fr_ind (fun x1 s2 hF h => by cases h) ?_
    intro n18 ih18 x1 s2 hF h
    have h : m_x1_build_b18 (m_x1_build_L18 n18) x1 s2 = some o := h
    unfold m_x1_build_b18 at h
    have J135 : ∀ (x3 : Int) (s4 : MS), F_x1_build s s4 → m_x1_build_J135 (m_x1_build_L18 n18) x3 s4 = some o → F_x1_build s o := by
      intro x3 s4 hF h
      unfold m_x1_build_J135 at h
      exact ih18 (x3 + 1) s4 hF h
    obtain ⟨hr5, h⟩ := rg_e h
    obtain ⟨hr6, h⟩ := rg_e h
    by_cases c7 : (gI s2 585) ≤ x1
    · have h := if_t c7 h
      obtain ⟨s9, hc8, h⟩ := bn_e h
      have hF : F_x1_build s s9 := Fr.tr hF (fr_x8_save hc8) (by decide)
      obtain ⟨s10, hs10, h⟩ := st_e h
      have hF : F_x1_build s s10 := hs10 ▸ Fr.uI hF (by decide)
      obtain ⟨s11, hs11, h⟩ := st_e h
      have hF : F_x1_build s s11 := hs11 ▸ Fr.uL hF (by decide)
      obtain rfl := Option.some.inj h
      exact hF
    · have h := if_f c7 h
      obtain ⟨y12, ey12, iy12, h⟩ := rdI_e h
      obtain ⟨y13, ey13, iy13, h⟩ := rdI_e h
      obtain ⟨hr14, h⟩ := rg_e h
      by_cases c15 : y13 = 2
      · have h := if_t c15 h
        obtain ⟨hi16, h⟩ := inb_e h
        obtain ⟨s17, hs17, h⟩ := st_e h
        have hF : F_x1_build s s17 := hs17 ▸ Fr.uA hF (by decide)
        exact J135 x1 s17 hF h
      · have h := if_f c15 h
        by_cases c18 : y13 = 3
        · have h := if_t c18 h
          obtain ⟨y19, ey19, iy19, h⟩ := rdI_e h
          obtain ⟨s21, hc20, h⟩ := bn_e h
          have hF : F_x1_build s s21 := Fr.tr hF (fr_x1_share hc20) (by decide)
          exact J135 x1 s21 hF h
        · have h := if_f c18 h
          by_cases c22 : y13 = 4
          · have h := if_t c22 h
            exact J135 x1 s2 hF h
          · have h := if_f c22 h
            by_cases c23 : y13 = 5
            · have h := if_t c23 h
              obtain ⟨y24, ey24, iy24, h⟩ := rdI_e h
              obtain ⟨y25, ey25, iy25, h⟩ := rdI_e h
              obtain ⟨⟨r28, s27⟩, hc26, h⟩ := bn_e h
              have hF : F_x1_build s s27 := Fr.tr hF (fr_x1_tryPlant hc26) (by decide)
              exact J135 x1 s27 hF h
            · have h := if_f c23 h
              by_cases c29 : y13 = 6
              · have h := if_t c29 h
                obtain ⟨y30, ey30, iy30, h⟩ := rdI_e h
                obtain ⟨⟨r33, s32⟩, hc31, h⟩ := bn_e h
                have hF : F_x1_build s s32 := Fr.tr hF (fr_x1_tryUproot hc31) (by decide)
                exact J135 x1 s32 hF h
              · have h := if_f c29 h
                exact J135 x1 s2 hF h
  obtain ⟨s35, hc34, h⟩ := bn_e h
  have hF : F_x1_build s s35 := Fr.tr hF (fr_x8_clear_v2 hc34) (by decide)
  exact L18 FU 0 s35 hF h
/-! ===== a function answers, and what then holds ===== -/
def wp {α : Type} (x : Option α) (P : α → Prop) : Prop := ∃ o, x = some o ∧ P o
theorem wp_some {α : Type} {P : α → Prop} {a : α} (h : P a) : wp (some a) P := ⟨a, rfl, h⟩
theorem wp_mono {α : Type} {x : Option α} {P Q : α → Prop} (h : wp x P) (g : ∀ a, P a → Q a) : wp x Q := by
  obtain ⟨o, h1, h2⟩ := h
  exact ⟨o, h1, g o h2⟩
/-- with the equation at hand -/
theorem wp_eq {α : Type} {x : Option α} {P Q : α → Prop} (h : wp x P) (g : ∀ a, x = some a → P a → Q a) : wp x Q := by
  obtain ⟨o, h1, h2⟩ := h
  exact ⟨o, h1, g o h1 h2⟩
theorem wp_bn {α β : Type} {x : Option α} {k : α → Option β} {P : β → Prop} {Q : α → Prop} (h : wp x Q) (g : ∀ a, x = some a → Q a → wp (k a) P) : wp (bn x k) P := by
  obtain ⟨o, h1, h2⟩ := h
  obtain ⟨b, h3, h4⟩ := g o h1 h2
  exact ⟨b, by rw [h1]; exact h3, h4⟩
theorem wp_rdI {α : Type} {f : Nat → Int} {n : Nat} {i : Int} {k : Int → Option α} {P : α → Prop} (hi : 0 ≤ i ∧ i < (n : Int)) (h : wp (k (f i.toNat)) P) : wp (rdI f n i k) P := by unfold rdI; rw [if_pos hi]; exact h
theorem wp_rdL {α : Type} {f : Nat → Int} {n : Nat} {i : Int} {k : Int → Option α} {P : α → Prop} (hi : 0 ≤ i ∧ i < (n : Int)) (h : wp (k (f i.toNat)) P) : wp (rdL f n i k) P := by unfold rdL; rw [if_pos hi]; exact h
theorem wp_inb {α : Type} {n : Nat} {i : Int} {k : Option α} {P : α → Prop} (hi : 0 ≤ i ∧ i < (n : Int)) (h : wp k P) : wp (inb n i k) P := by unfold inb; rw [if_pos hi]; exact h
theorem wp_rg {α : Type} {x : Int} {k : Option α} {P : α → Prop} (hx : R2 x) (h : wp k P) : wp (rg x k) P := by unfold rg; rw [if_pos hx]; exact h
theorem wp_rgL {α : Type} {x : Int} {k : Option α} {P : α → Prop} (hx : R8 x) (h : wp k P) : wp (rgL x k) P := by unfold rgL; rw [if_pos hx]; exact h
theorem wp_dv {α : Type} {x y : Int} {k : Option α} {P : α → Prop} (hx : (R2 x ∧ R2 y) ∧ ¬ y = 0) (h : wp k P) : wp (dv x y k) P := by unfold dv; rw [if_pos hx]; exact h
theorem wp_dvL {α : Type} {x y : Int} {k : Option α} {P : α → Prop} (hx : (R8 x ∧ R8 y) ∧ ¬ y = 0) (h : wp k P) : wp (dvL x y k) P := by unfold dvL; rw [if_pos hx]; exact h
theorem wp_bo {α : Type} {v : Int} {k : Option α} {P : α → Prop} (hv : v = 0 ∨ v = 1) (h : wp k P) : wp (bo v k) P := by unfold bo; rw [if_pos hv]; exact h
theorem wp_eqg {α : Type} {x y : Int} {k : Option α} {P : α → Prop} (hv : x = y) (h : wp k P) : wp (eqg x y k) P := by unfold eqg; rw [if_pos hv]; exact h
theorem wp_cpg {α : Type} {sp dp n : Int} {n0 n1 : Nat} {k : Option α} {P : α → Prop} (hv : (0 ≤ sp ∧ 0 ≤ dp ∧ 0 ≤ n) ∧ sp + n ≤ (n0 : Int) ∧ dp + n ≤ (n1 : Int)) (h : wp k P) : wp (cpg sp dp n n0 n1 k) P := by unfold cpg; rw [if_pos hv]; exact h
theorem wp_if {α : Type} {c : Prop} [Decidable c] {x y : Option α} {P : α → Prop} (ht : c → wp x P) (hf : ¬ c → wp y P) : wp (if c then x else y) P := by
  by_cases h : c
  · rw [if_pos h]; exact ht h
  · rw [if_neg h]; exact hf h
theorem wp_st {α : Type} {t : MS} {k : MS → Option α} {P : α → Prop} (h : wp (k t) P) : wp (stn t k) P := h
/-- the same with a name for the state -/
theorem wp_stn {α : Type} {t : MS} {k : MS → Option α} {P : α → Prop} (h : ∀ s, t = s → wp (k s) P) : wp (stn t k) P := h t rfl
theorem FU_big : 100000000 ≤ FU := by unfold FU; decide
theorem FU_big2 : 10000000000 ≤ FU := by unfold FU; decide
/-! ===== reading what was written ===== -/
theorem gI_sI (s : MS) (k : Nat) (v : Int) (j : Nat) : gI (sI s k v) j = if j = k then v else gI s j := rfl
theorem gI_sL (s : MS) (k : Nat) (v : Int) (j : Nat) : gI (sL s k v) j = gI s j := rfl
theorem gI_sA (s : MS) (k : Nat) (f : Nat → Int) (j : Nat) : gI (sA s k f) j = gI s j := rfl
theorem gI_sB (s : MS) (k : Nat) (f : Nat → Int) (j : Nat) : gI (sB s k f) j = gI s j := rfl
theorem gL_sI (s : MS) (k : Nat) (v : Int) (j : Nat) : gL (sI s k v) j = gL s j := rfl
theorem gL_sL (s : MS) (k : Nat) (v : Int) (j : Nat) : gL (sL s k v) j = if j = k then v else gL s j := rfl
theorem gL_sA (s : MS) (k : Nat) (f : Nat → Int) (j : Nat) : gL (sA s k f) j = gL s j := rfl
theorem gL_sB (s : MS) (k : Nat) (f : Nat → Int) (j : Nat) : gL (sB s k f) j = gL s j := rfl
theorem gA_sI (s : MS) (k : Nat) (v : Int) (j : Nat) : gA (sI s k v) j = gA s j := rfl
theorem gA_sL (s : MS) (k : Nat) (v : Int) (j : Nat) : gA (sL s k v) j = gA s j := rfl
theorem gA_sA (s : MS) (k : Nat) (f : Nat → Int) (j : Nat) : gA (sA s k f) j = if j = k then f else gA s j := rfl
theorem gA_sB (s : MS) (k : Nat) (f : Nat → Int) (j : Nat) : gA (sB s k f) j = gA s j := rfl
theorem gB_sI (s : MS) (k : Nat) (v : Int) (j : Nat) : gB (sI s k v) j = gB s j := rfl
theorem gB_sL (s : MS) (k : Nat) (v : Int) (j : Nat) : gB (sL s k v) j = gB s j := rfl
theorem gB_sA (s : MS) (k : Nat) (f : Nat → Int) (j : Nat) : gB (sA s k f) j = gB s j := rfl
theorem gB_sB (s : MS) (k : Nat) (f : Nat → Int) (j : Nat) : gB (sB s k f) j = if j = k then f else gB s j := rfl
theorem upZ_s (f : Nat → Int) (i : Nat) (v : Int) : upZ f i v i = v := if_pos rfl
theorem upZ_n {f : Nat → Int} {i j : Nat} {v : Int} (h : j ≠ i) : upZ f i v j = f j := if_neg h
/-! ===== bits ===== -/
theorem R2_and (x y : Int) : R2 (andZ x y) := ⟨Int32.le_toInt _, Int.le_of_lt_add_one (Int32.toInt_lt _)⟩
theorem R2_or (x y : Int) : R2 (orZ x y) := ⟨Int32.le_toInt _, Int.le_of_lt_add_one (Int32.toInt_lt _)⟩
theorem wp_rdIn {α : Type} {f : Nat → Int} {n : Nat} {i : Int} {k : Int → Option α} {P : α → Prop} (hi : 0 ≤ i ∧ i < (n : Int)) (h : ∀ y, f i.toNat = y → wp (k y) P) : wp (rdI f n i k) P := by unfold rdI; rw [if_pos hi]; exact h _ rfl
theorem wp_rdLn {α : Type} {f : Nat → Int} {n : Nat} {i : Int} {k : Int → Option α} {P : α → Prop} (hi : 0 ≤ i ∧ i < (n : Int)) (h : ∀ y, f i.toNat = y → wp (k y) P) : wp (rdL f n i k) P := by unfold rdL; rw [if_pos hi]; exact h _ rfl
/-! ===== a state that has a name ===== -/
theorem q_II {s t : MS} {k : Nat} {v : Int} (e : sI s k v = t) : gI t k = v := by subst e; exact if_pos rfl
theorem q_Ii {s t : MS} {k j : Nat} {v : Int} (e : sI s k v = t) (h : j ≠ k) : gI t j = gI s j := by subst e; exact if_neg h
theorem q_Li {s t : MS} {k j : Nat} {v : Int} (e : sL s k v = t) : gI t j = gI s j := by subst e; rfl
theorem q_Ai {s t : MS} {k j : Nat} {f : Nat → Int} (e : sA s k f = t) : gI t j = gI s j := by subst e; rfl
theorem q_Bi {s t : MS} {k j : Nat} {f : Nat → Int} (e : sB s k f = t) : gI t j = gI s j := by subst e; rfl
theorem q_AA {s t : MS} {k : Nat} {f : Nat → Int} (e : sA s k f = t) : gA t k = f := by subst e; exact if_pos rfl
theorem q_Aa {s t : MS} {k j : Nat} {f : Nat → Int} (e : sA s k f = t) (h : j ≠ k) : gA t j = gA s j := by subst e; exact if_neg h
theorem q_Ia {s t : MS} {k j : Nat} {v : Int} (e : sI s k v = t) : gA t j = gA s j := by subst e; rfl
theorem q_La {s t : MS} {k j : Nat} {v : Int} (e : sL s k v = t) : gA t j = gA s j := by subst e; rfl
theorem q_Ba {s t : MS} {k j : Nat} {f : Nat → Int} (e : sB s k f = t) : gA t j = gA s j := by subst e; rfl
theorem q_LL {s t : MS} {k : Nat} {v : Int} (e : sL s k v = t) : gL t k = v := by subst e; exact if_pos rfl
theorem q_Ll {s t : MS} {k j : Nat} {v : Int} (e : sL s k v = t) (h : j ≠ k) : gL t j = gL s j := by subst e; exact if_neg h
theorem q_Il {s t : MS} {k j : Nat} {v : Int} (e : sI s k v = t) : gL t j = gL s j := by subst e; rfl
theorem q_Al {s t : MS} {k j : Nat} {f : Nat → Int} (e : sA s k f = t) : gL t j = gL s j := by subst e; rfl
theorem q_Bl {s t : MS} {k j : Nat} {f : Nat → Int} (e : sB s k f = t) : gL t j = gL s j := by subst e; rfl
theorem q_BB {s t : MS} {k : Nat} {f : Nat → Int} (e : sB s k f = t) : gB t k = f := by subst e; exact if_pos rfl
theorem q_Bb {s t : MS} {k j : Nat} {f : Nat → Int} (e : sB s k f = t) (h : j ≠ k) : gB t j = gB s j := by subst e; exact if_neg h
theorem q_Ib {s t : MS} {k j : Nat} {v : Int} (e : sI s k v = t) : gB t j = gB s j := by subst e; rfl
theorem q_Lb {s t : MS} {k j : Nat} {v : Int} (e : sL s k v = t) : gB t j = gB s j := by subst e; rfl
theorem q_Ab {s t : MS} {k j : Nat} {f : Nat → Int} (e : sA s k f = t) : gB t j = gB s j := by subst e; rfl
/-! ===== sums ===== -/
def sm : Nat → (Nat → Int) → Int
  | 0, _ => 0
  | n + 1, f => sm n f + f n
theorem sm_c {n : Nat} {f g : Nat → Int} (h : ∀ i, i < n → f i = g i) : sm n f = sm n g := by
  induction n with
  | zero => rfl
  | succ n ih =>
    show sm n f + f n = sm n g + g n
    rw [ih (fun i hi => h i (by omega)), h n (by omega)]
theorem sm_le {n : Nat} {f g : Nat → Int} (h : ∀ i, i < n → f i ≤ g i) : sm n f ≤ sm n g := by
  induction n with
  | zero => exact Int.le_refl 0
  | succ n ih =>
    show sm n f + f n ≤ sm n g + g n
    have h1 := ih (fun i hi => h i (by omega))
    have h2 := h n (by omega)
    omega
theorem sm_nn {n : Nat} {f : Nat → Int} (h : ∀ i, i < n → 0 ≤ f i) : 0 ≤ sm n f := by
  induction n with
  | zero => exact Int.le_refl 0
  | succ n ih =>
    show 0 ≤ sm n f + f n
    have h1 := ih (fun i hi => h i (by omega))
    have h2 := h n (by omega)
    omega
theorem sm_0 {n : Nat} {f : Nat → Int} (h : ∀ i, i < n → f i = 0) : sm n f = 0 := by
  induction n with
  | zero => rfl
  | succ n ih =>
    show sm n f + f n = 0
    rw [ih (fun i hi => h i (by omega)), h n (by omega)]
    rfl
theorem sm_add (n : Nat) (f g : Nat → Int) : sm n (fun i => f i + g i) = sm n f + sm n g := by
  induction n with
  | zero => rfl
  | succ n ih =>
    show sm n (fun i => f i + g i) + (f n + g n) = sm n f + f n + (sm n g + g n)
    rw [ih]; omega
theorem sm_sub (n : Nat) (f g : Nat → Int) : sm n (fun i => f i - g i) = sm n f - sm n g := by
  induction n with
  | zero => rfl
  | succ n ih =>
    show sm n (fun i => f i - g i) + (f n - g n) = sm n f + f n - (sm n g + g n)
    rw [ih]; omega
/-- one term changes -/
theorem sm_one {n i : Nat} {f g : Nat → Int} (hi : i < n) (h : ∀ j, j < n → j ≠ i → g j = f j) : sm n g = sm n f - f i + g i := by
  induction n with
  | zero => omega
  | succ n ih =>
    show sm n g + g n = sm n f + f n - f i + g i
    by_cases e : i = n
    · subst e
      rw [sm_c (f := g) (g := f) (fun j hj => h j (by omega) (by omega))]; omega
    · rw [ih (by omega) (fun j hj hn => h j (by omega) hn), h n (by omega) (by omega)]; omega
theorem sm_ge {n i : Nat} {f : Nat → Int} (hi : i < n) (h : ∀ j, j < n → 0 ≤ f j) : f i ≤ sm n f := by
  have h1 := sm_one (f := fun j => if j = i then 0 else f j) (g := f) hi (fun j _ hn => (if_neg hn).symm)
  have h2 : 0 ≤ sm n (fun j => if j = i then 0 else f j) := sm_nn (fun j hj => by
    show 0 ≤ if j = i then 0 else f j
    split
    · exact Int.le_refl 0
    · exact h j hj)
  have h3 : (fun j => if j = i then (0 : Int) else f j) i = 0 := if_pos rfl
  rw [if_pos (rfl : i = i)] at h1
  omega
/-- two terms -/
theorem sm_ge2 {n i k : Nat} {f : Nat → Int} (hi : i < n) (hk : k < n) (hik : i ≠ k) (h : ∀ j, j < n → 0 ≤ f j) : f i + f k ≤ sm n f := by
  have h1 := sm_one (f := fun j => if j = i then 0 else f j) (g := f) hi (fun j _ hn => (if_neg hn).symm)
  have h2 : (fun j => if j = i then 0 else f j) k ≤ sm n (fun j => if j = i then 0 else f j) := sm_ge hk (fun j hj => by
    show 0 ≤ if j = i then 0 else f j
    split
    · exact Int.le_refl 0
    · exact h j hj)
  have h3 : (fun j => if j = i then (0 : Int) else f j) i = 0 := if_pos rfl
  have h4 : (fun j => if j = i then (0 : Int) else f j) k = f k := if_neg (fun e => hik e.symm)
  rw [if_pos (rfl : i = i)] at h1
  rw [h4] at h2
  omega
theorem sm_bd {n : Nat} {f : Nat → Int} {c : Int} (h : ∀ i, i < n → f i ≤ c) : sm n f ≤ (n : Int) * c := by
  induction n with
  | zero => show (0 : Int) ≤ (0 : Nat) * c; rw [Int.natCast_zero, Int.zero_mul]; exact Int.le_refl 0
  | succ n ih =>
    have h1 := ih (fun i hi => h i (by omega))
    have h2 := h n (by omega)
    show sm n f + f n ≤ ((n + 1 : Nat) : Int) * c
    rw [Int.natCast_succ, Int.add_mul, Int.one_mul]
    omega
theorem sm_sw (n m : Nat) (f : Nat → Nat → Int) : sm n (fun i => sm m (fun j => f i j)) = sm m (fun j => sm n (fun i => f i j)) := by
  induction n with
  | zero => exact (sm_0 (fun _ _ => rfl)).symm
  | succ n ih =>
    show sm n (fun i => sm m (fun j => f i j)) + sm m (fun j => f n j) = sm m (fun j => sm n (fun i => f i j) + f n j)
    rw [sm_add m (fun j => sm n (fun i => f i j)) (fun j => f n j), ih]
/-- some term is above 0 -/
theorem sm_ex {n : Nat} {f : Nat → Int} (h : 0 < sm n f) : ∃ i, i < n ∧ 0 < f i := by
  induction n with
  | zero => exact absurd h (Int.lt_irrefl 0)
  | succ n ih =>
    have h' : 0 < sm n f + f n := h
    by_cases e : 0 < f n
    · exact ⟨n, by omega, e⟩
    · obtain ⟨i, h1, h2⟩ := ih (by omega)
      exact ⟨i, by omega, h2⟩
theorem sm_z {n : Nat} {f : Nat → Int} (h : ∀ i, i < n → 0 ≤ f i) (hz : sm n f = 0) : ∀ i, i < n → f i = 0 := by
  intro i hi
  have h1 := sm_ge hi h
  have h2 := h i hi
  omega
theorem upZ_c (f : Nat → Int) (i : Nat) (v : Int) (j : Nat) : upZ f i v j = if j = i then v else f j := rfl
/-! ===== trees of blocks: level, size, entries; counts; roots ===== -/
abbrev SH : Type := (Nat → Int) × (Nat → Int) × (Nat → Nat → Int)
/-- how often an inner block's entries name x, from the k-th on -/
def enf (h : SH) (p : Nat) (i : Int) (x : Int) : Int := if 0 < h.1 p then sm 6 (fun k => if i ≤ (k : Int) ∧ (k : Int) < h.2.1 p ∧ h.2.2 p k = x then 1 else 0) else 0
def en (h : SH) (p : Nat) (x : Int) : Int := enf h p 0 x
def rr (r : Nat → Int) (x : Int) : Int := sm 8 (fun v => if r v = x then 1 else 0)
def rf (h : SH) (c r : Nat → Int) (x : Int) : Int := rr r x + sm 48 (fun p => if 0 < c p then en h p x else 0)
/-- how far a count is above what refers -/
def df (h : SH) (c r : Nat → Int) (x : Nat) : Int := c x - rf h c r (x : Int)
def Nd (h : SH) (N : Int) (p : Nat) : Prop := 0 ≤ h.1 p ∧ (0 ≤ h.2.1 p ∧ h.2.1 p ≤ 6) ∧ (0 < h.1 p → ∀ k : Nat, (k : Int) < h.2.1 p → (0 ≤ h.2.2 p k ∧ h.2.2 p k < N) ∧ h.1 (h.2.2 p k).toNat = h.1 p - 1)
def WN (h : SH) (N : Int) (c : Nat → Int) : Prop := ∀ p : Nat, p < 48 → 0 ≤ c p ∧ (N ≤ (p : Int) → c p = 0) ∧ (0 < c p → Nd h N p)
def Ne (h : SH) (c : Nat → Int) : Prop := ∀ p : Nat, p < 48 → 0 < c p → 1 ≤ h.2.1 p
/-- roots are none or blocks -/
def RO (N : Int) (r : Nat → Int) : Prop := ∀ v : Nat, v < 8 → (0 ≤ r v ∧ r v < N) ∨ r v < 0 ∨ 254 ≤ r v
theorem enf_nn (h : SH) (p : Nat) (i x : Int) : 0 ≤ enf h p i x := by
  unfold enf
  split
  · exact sm_nn (fun k _ => by split <;> omega)
  · exact Int.le_refl 0
theorem en_nn (h : SH) (p : Nat) (x : Int) : 0 ≤ en h p x := enf_nn h p 0 x
theorem rr_nn (r : Nat → Int) (x : Int) : 0 ≤ rr r x := sm_nn (fun k _ => by split <;> omega)
theorem rf_nn (h : SH) (c r : Nat → Int) (x : Int) : 0 ≤ rf h c r x := by
  have h1 := rr_nn r x
  have h2 : 0 ≤ sm 48 (fun p => if 0 < c p then en h p x else 0) := sm_nn (fun p _ => by
    split
    · exact en_nn h p x
    · exact Int.le_refl 0)
  unfold rf
  omega
/-- an entry counts -/
theorem enf_pos {h : SH} {p k : Nat} {i : Int} (hl : 0 < h.1 p) (hk : (k : Int) < h.2.1 p) (h6 : k < 6) (hi : i ≤ (k : Int)) : 1 ≤ enf h p i (h.2.2 p k) := by
  unfold enf
  rw [if_pos hl]
  have h1 := sm_ge (n := 6) (i := k) (f := fun j => if i ≤ (j : Int) ∧ (j : Int) < h.2.1 p ∧ h.2.2 p j = h.2.2 p k then 1 else 0) h6 (fun j _ => by split <;> omega)
  have h2 : (fun j : Nat => if i ≤ (j : Int) ∧ (j : Int) < h.2.1 p ∧ h.2.2 p j = h.2.2 p k then (1 : Int) else 0) k = 1 := if_pos ⟨hi, hk, rfl⟩
  rw [if_pos ⟨hi, hk, rfl⟩] at h1
  exact h1
/-- the entry at hand is done -/
theorem enf_step {h : SH} {p k : Nat} {x : Int} (hl : 0 < h.1 p) (hk : (k : Int) < h.2.1 p) (h6 : k < 6) : enf h p (k : Int) x = enf h p ((k : Int) + 1) x + (if h.2.2 p k = x then 1 else 0) := by
  unfold enf
  rw [if_pos hl, if_pos hl]
  have h1 := sm_one (n := 6) (i := k) (f := fun j : Nat => if (k : Int) + 1 ≤ (j : Int) ∧ (j : Int) < h.2.1 p ∧ h.2.2 p j = x then (1 : Int) else 0) (g := fun j : Nat => if (k : Int) ≤ (j : Int) ∧ (j : Int) < h.2.1 p ∧ h.2.2 p j = x then (1 : Int) else 0) h6 (fun j _ hn => by
    show (if (k : Int) ≤ (j : Int) ∧ (j : Int) < h.2.1 p ∧ h.2.2 p j = x then (1 : Int) else 0) = if (k : Int) + 1 ≤ (j : Int) ∧ (j : Int) < h.2.1 p ∧ h.2.2 p j = x then (1 : Int) else 0
    by_cases e : (k : Int) ≤ (j : Int) ∧ (j : Int) < h.2.1 p ∧ h.2.2 p j = x
    · rw [if_pos e, if_pos ⟨by omega, e.2⟩]
    · rw [if_neg e, if_neg (fun q => e ⟨by omega, q.2⟩)])
  rw [h1]
  have h2 : ¬ ((k : Int) + 1 ≤ (k : Int) ∧ (k : Int) < h.2.1 p ∧ h.2.2 p k = x) := fun q => by omega
  show sm 6 _ - (if (k : Int) + 1 ≤ (k : Int) ∧ (k : Int) < h.2.1 p ∧ h.2.2 p k = x then (1 : Int) else 0) + (if (k : Int) ≤ (k : Int) ∧ (k : Int) < h.2.1 p ∧ h.2.2 p k = x then (1 : Int) else 0) = _
  rw [if_neg h2]
  by_cases e : h.2.2 p k = x
  · rw [if_pos ⟨Int.le_refl _, hk, e⟩, if_pos e]; omega
  · rw [if_neg (fun q => e q.2.2), if_neg e]; omega
theorem enf_end {h : SH} {p : Nat} {i x : Int} (hk : h.2.1 p ≤ i) : enf h p i x = 0 := by
  unfold enf
  split
  · exact sm_0 (fun j _ => if_neg (fun q => by omega))
  · rfl
theorem en_leaf {h : SH} {p : Nat} {x : Int} (hl : h.1 p ≤ 0) : en h p x = 0 := by
  unfold en enf
  rw [if_neg (by omega)]
theorem en_ext {h h' : SH} {p p' : Nat} {i x : Int} (hl : 0 < h'.1 p' ↔ 0 < h.1 p) (hz : h'.2.1 p' = h.2.1 p) (hv : ∀ k : Nat, k < 6 → (k : Int) < h.2.1 p → h'.2.2 p' k = h.2.2 p k) : enf h' p' i x = enf h p i x := by
  unfold enf
  by_cases e : 0 < h.1 p
  · rw [if_pos e, if_pos (hl.mpr e), hz]
    refine sm_c (fun k hk => ?_)
    by_cases e2 : (k : Int) < h.2.1 p
    · rw [hv k hk e2]
    · rw [if_neg (fun q => e2 q.2.1), if_neg (fun q => e2 q.2.1)]
  · rw [if_neg e, if_neg (fun q => e (hl.mp q))]
/-- what is named by a block in use is counted -/
theorem rf_en {h : SH} {c r : Nat → Int} {p : Nat} {x : Int} (hp : p < 48) (hc : 0 < c p) : en h p x + rr r x ≤ rf h c r x := by
  have h1 := sm_ge (n := 48) (i := p) (f := fun p => if 0 < c p then en h p x else 0) hp (fun j _ => by
    show 0 ≤ if 0 < c j then en h j x else 0
    split
    · exact en_nn h j x
    · exact Int.le_refl 0)
  have h2 : (fun p => if 0 < c p then en h p x else 0) p = en h p x := if_pos hc
  rw [if_pos hc] at h1
  unfold rf
  omega
theorem rr_pos {r : Nat → Int} {v : Nat} (hv : v < 8) : 1 ≤ rr r (r v) := by
  have h1 := sm_ge (n := 8) (i := v) (f := fun j => if r j = r v then 1 else 0) hv (fun j _ => by split <;> omega)
  have h2 : (fun j => if r j = r v then (1 : Int) else 0) v = 1 := if_pos rfl
  rw [if_pos rfl] at h1
  exact h1
/-! ===== how df moves ===== -/
theorem df_cnt {h : SH} {c r : Nat → Int} {b : Nat} {v : Int} (hb : b < 48) (x : Nat) : df h (upZ c b v) r x = df h c r x + (if x = b then v - c b else 0) + (if 0 < c b then en h b (x : Int) else 0) - (if 0 < v then en h b (x : Int) else 0) := by
  unfold df rf
  have h1 := sm_one (n := 48) (i := b) (f := fun p => if 0 < c p then en h p (x : Int) else 0) (g := fun p => if 0 < upZ c b v p then en h p (x : Int) else 0) hb (fun j _ hn => by
    show (if 0 < upZ c b v j then en h j (x : Int) else 0) = _
    rw [upZ_n hn])
  rw [h1]
  show upZ c b v x - (rr r x + (sm 48 (fun p => if 0 < c p then en h p (x : Int) else 0) - (if 0 < c b then en h b (x : Int) else 0) + (if 0 < upZ c b v b then en h b (x : Int) else 0))) = _
  rw [upZ_s]
  by_cases e : x = b
  · subst e
    rw [upZ_s, if_pos rfl]; omega
  · rw [upZ_n e, if_neg e]; omega
theorem rr_up {r : Nat → Int} {v : Nat} {q x : Int} (hv : v < 8) : rr (upZ r v q) x = rr r x - (if r v = x then 1 else 0) + (if q = x then 1 else 0) := by
  unfold rr
  have h1 := sm_one (n := 8) (i := v) (f := fun j => if r j = x then 1 else 0) (g := fun j => if upZ r v q j = x then 1 else 0) hv (fun j _ hn => by
    show (if upZ r v q j = x then 1 else 0) = _
    rw [upZ_n hn])
  rw [h1]
  show _ - (if r v = x then 1 else 0) + (if upZ r v q v = x then 1 else 0) = _
  rw [upZ_s]
theorem df_root {h : SH} {c r : Nat → Int} {v : Nat} {q : Int} (hv : v < 8) (x : Nat) : df h c (upZ r v q) x = df h c r x + (if r v = (x : Int) then 1 else 0) - (if q = (x : Int) then 1 else 0) := by
  unfold df rf
  rw [rr_up hv]
  omega
theorem df_sh {h h' : SH} {c r : Nat → Int} {b : Nat} (hb : b < 48) (x : Nat) (he : ∀ p, p < 48 → p ≠ b → 0 < c p → en h' p (x : Int) = en h p (x : Int)) : df h' c r x = df h c r x + (if 0 < c b then en h b (x : Int) - en h' b (x : Int) else 0) := by
  unfold df rf
  have h1 := sm_one (n := 48) (i := b) (f := fun p => if 0 < c p then en h p (x : Int) else 0) (g := fun p => if 0 < c p then en h' p (x : Int) else 0) hb (fun j hj hn => by
    show (if 0 < c j then en h' j (x : Int) else 0) = if 0 < c j then en h j (x : Int) else 0
    by_cases e : 0 < c j
    · rw [if_pos e, if_pos e, he j hj hn e]
    · rw [if_neg e, if_neg e])
  rw [h1]
  show c x - (rr r x + (sm 48 (fun p => if 0 < c p then en h p (x : Int) else 0) - (if 0 < c b then en h b (x : Int) else 0) + (if 0 < c b then en h' b (x : Int) else 0))) = _
  by_cases e : 0 < c b
  · rw [if_pos e, if_pos e, if_pos e]; omega
  · rw [if_neg e, if_neg e, if_neg e]; omega
/-- nothing that counts has changed -/
theorem df_same {h h' : SH} {c r : Nat → Int} {x : Nat} (he : ∀ p, p < 48 → 0 < c p → en h' p (x : Int) = en h p (x : Int)) : df h' c r x = df h c r x := by
  unfold df rf
  rw [sm_c (f := fun p => if 0 < c p then en h' p (x : Int) else 0) (g := fun p => if 0 < c p then en h p (x : Int) else 0) (fun p hp => by
    show (if 0 < c p then en h' p (x : Int) else 0) = if 0 < c p then en h p (x : Int) else 0
    by_cases e : 0 < c p
    · rw [if_pos e, if_pos e, he p hp e]
    · rw [if_neg e, if_neg e])]
theorem df_cext {h : SH} {c c' r : Nat → Int} {x : Nat} (he : ∀ p, p < 48 → c' p = c p) (hx : x < 48) : df h c' r x = df h c r x := by
  unfold df rf
  rw [he x hx, sm_c (f := fun p => if 0 < c' p then en h p (x : Int) else 0) (g := fun p => if 0 < c p then en h p (x : Int) else 0) (fun p hp => by
    show (if 0 < c' p then en h p (x : Int) else 0) = if 0 < c p then en h p (x : Int) else 0
    rw [he p hp])]
/-- how many counts are above 0 -/
def pos (c : Nat → Int) : Int := sm 48 (fun p => if 0 < c p then 1 else 0)
theorem pos_b (c : Nat → Int) : 0 ≤ pos c ∧ pos c ≤ 48 := by
  refine ⟨sm_nn (fun p _ => by split <;> omega), ?_⟩
  have := sm_bd (n := 48) (f := fun p => if 0 < c p then (1 : Int) else 0) (c := 1) (fun p _ => by split <;> omega)
  unfold pos
  omega
theorem pos_up {c : Nat → Int} {b : Nat} {v : Int} (hb : b < 48) : pos (upZ c b v) = pos c - (if 0 < c b then 1 else 0) + (if 0 < v then 1 else 0) := by
  unfold pos
  have h1 := sm_one (n := 48) (i := b) (f := fun p => if 0 < c p then (1 : Int) else 0) (g := fun p => if 0 < upZ c b v p then (1 : Int) else 0) hb (fun j _ hn => by
    show (if 0 < upZ c b v j then (1 : Int) else 0) = _
    rw [upZ_n hn])
  rw [h1]
  show _ - (if 0 < c b then (1 : Int) else 0) + (if 0 < upZ c b v b then (1 : Int) else 0) = _
  rw [upZ_s]
/-! ===== entries by number ===== -/
theorem sm_app (a b : Nat) (f : Nat → Int) : sm (a + b) f = sm a f + sm b (fun j => f (a + j)) := by
  induction b with
  | zero => show sm a f = sm a f + 0; omega
  | succ b ih =>
    show sm (a + b) f + f (a + b) = sm a f + (sm b (fun j => f (a + j)) + f (a + b))
    rw [ih]; omega
theorem en_sm {h : SH} {p : Nat} {x : Int} (hz : 0 ≤ h.2.1 p ∧ h.2.1 p ≤ 6) : en h p x = if 0 < h.1 p then sm (h.2.1 p).toNat (fun k => if h.2.2 p k = x then 1 else 0) else 0 := by
  unfold en enf
  by_cases e : 0 < h.1 p
  · rw [if_pos e, if_pos e]
    have h6 : 6 = (h.2.1 p).toNat + (6 - (h.2.1 p).toNat) := by omega
    rw [h6, sm_app]
    rw [sm_0 (n := 6 - (h.2.1 p).toNat) (fun i hi => by
      show (if (0 : Int) ≤ (((h.2.1 p).toNat + i : Nat) : Int) ∧ (((h.2.1 p).toNat + i : Nat) : Int) < h.2.1 p ∧ h.2.2 p ((h.2.1 p).toNat + i) = x then (1 : Int) else 0) = 0
      rw [if_neg (fun q => by omega)])]
    rw [Int.add_zero]
    refine sm_c (fun k hk => ?_)
    by_cases e2 : h.2.2 p k = x
    · rw [if_pos e2, if_pos ⟨by omega, by omega, e2⟩]
    · rw [if_neg e2, if_neg (fun q => e2 q.2.2)]
  · rw [if_neg e, if_neg e]
/-- one more -/
theorem sm_ins {n k : Nat} {f g : Nat → Int} {v : Int} (hk : k ≤ n) (h1 : ∀ j, j < k → g j = f j) (h2 : g k = v) (h3 : ∀ j, k ≤ j → j < n → g (j + 1) = f j) : sm (n + 1) g = sm n f + v := by
  induction n with
  | zero =>
    have : k = 0 := by omega
    subst this
    show sm 0 g + g 0 = sm 0 f + v
    rw [h2]; rfl
  | succ n ih =>
    show sm (n + 1) g + g (n + 1) = sm n f + f n + v
    by_cases e : k = n + 1
    · subst e
      rw [h2, sm_c (f := g) (g := f) (fun j hj => h1 j hj)]; rfl
    · rw [ih (by omega) (fun j hj hn => h3 j hj (by omega)), h3 n (by omega) (by omega)]; omega
theorem en_ins {h h' : SH} {p : Nat} {k : Nat} {v x : Int} (hl : h'.1 p = h.1 p) (hz : 0 ≤ h.2.1 p ∧ h.2.1 p ≤ 5) (hz' : h'.2.1 p = h.2.1 p + 1) (hk : (k : Int) ≤ h.2.1 p) (h1 : ∀ j, j < k → h'.2.2 p j = h.2.2 p j) (h2 : h'.2.2 p k = v) (h3 : ∀ j, k ≤ j → (j : Int) < h.2.1 p → h'.2.2 p (j + 1) = h.2.2 p j) : en h' p x = en h p x + (if 0 < h.1 p ∧ v = x then 1 else 0) := by
  rw [en_sm (h := h') (by omega), en_sm (h := h) (by omega), hl, hz']
  by_cases e : 0 < h.1 p
  · rw [if_pos e, if_pos e, show (h.2.1 p + 1).toNat = (h.2.1 p).toNat + 1 by omega]
    rw [sm_ins (k := k) (f := fun k => if h.2.2 p k = x then 1 else 0) (v := if v = x then 1 else 0) (by omega) (fun j hj => by
      show (if h'.2.2 p j = x then 1 else 0) = _
      rw [h1 j hj]) (by
      show (if h'.2.2 p k = x then 1 else 0) = _
      rw [h2]) (fun j hj hn => by
      show (if h'.2.2 p (j + 1) = x then 1 else 0) = _
      rw [h3 j hj (by omega)])]
    by_cases e2 : v = x
    · rw [if_pos e2, if_pos ⟨e, e2⟩]
    · rw [if_neg e2, if_neg (fun q => e2 q.2)]
  · rw [if_neg e, if_neg e, if_neg (fun q => e q.1)]; rfl
theorem en_del {h h' : SH} {p : Nat} {k : Nat} {x : Int} (hl : h'.1 p = h.1 p) (hz : 1 ≤ h.2.1 p ∧ h.2.1 p ≤ 6) (hz' : h'.2.1 p = h.2.1 p - 1) (hk : (k : Int) < h.2.1 p) (h1 : ∀ j, j < k → h'.2.2 p j = h.2.2 p j) (h3 : ∀ j, k ≤ j → (j : Int) < h.2.1 p - 1 → h'.2.2 p j = h.2.2 p (j + 1)) : en h' p x = en h p x - (if 0 < h.1 p ∧ h.2.2 p k = x then 1 else 0) := by
  have := en_ins (h := h') (h' := h) (p := p) (k := k) (v := h.2.2 p k) (x := x) hl.symm (by omega) (by omega) (by omega) (fun j hj => (h1 j hj).symm) rfl (fun j hj hn => (h3 j hj (by omega)).symm)
  rw [this, hl]; omega
theorem en_set {h h' : SH} {p : Nat} {k : Nat} {v x : Int} (hl : h'.1 p = h.1 p) (hz : 0 ≤ h.2.1 p ∧ h.2.1 p ≤ 6) (hz' : h'.2.1 p = h.2.1 p) (hk : (k : Int) < h.2.1 p) (h1 : ∀ j, j < 6 → j ≠ k → h'.2.2 p j = h.2.2 p j) (h2 : h'.2.2 p k = v) : en h' p x = en h p x - (if 0 < h.1 p ∧ h.2.2 p k = x then 1 else 0) + (if 0 < h.1 p ∧ v = x then 1 else 0) := by
  rw [en_sm (h := h') (by omega), en_sm (h := h) (by omega), hl, hz']
  by_cases e : 0 < h.1 p
  · rw [if_pos e, if_pos e]
    rw [sm_one (i := k) (f := fun k => if h.2.2 p k = x then 1 else 0) (g := fun k => if h'.2.2 p k = x then 1 else 0) (by omega) (fun j hj hn => by
      show (if h'.2.2 p j = x then 1 else 0) = _
      rw [h1 j (by omega) hn])]
    show _ - (if h.2.2 p k = x then 1 else 0) + (if h'.2.2 p k = x then 1 else 0) = _
    rw [h2]
    by_cases e2 : h.2.2 p k = x
    · by_cases e3 : v = x
      · rw [if_pos e2, if_pos e3, if_pos ⟨e, e2⟩, if_pos ⟨e, e3⟩]
      · rw [if_pos e2, if_neg e3, if_pos ⟨e, e2⟩, if_neg (fun q => e3 q.2)]
    · by_cases e3 : v = x
      · rw [if_neg e2, if_pos e3, if_neg (fun q => e2 q.2), if_pos ⟨e, e3⟩]
      · rw [if_neg e2, if_neg e3, if_neg (fun q => e2 q.2), if_neg (fun q => e3 q.2)]
  · rw [if_neg e, if_neg e, if_neg (fun q => e q.1), if_neg (fun q => e q.1)]; rfl
/-- a block's entries go to two -/
theorem en_two {h h' : SH} {b q : Nat} {a : Int} {x : Int} (hl : h'.1 b = h.1 b) (hlq : h'.1 q = h.1 b) (hz : 0 ≤ a ∧ a ≤ h.2.1 b ∧ h.2.1 b ≤ 6) (hb : h'.2.1 b = a) (hq : h'.2.1 q = h.2.1 b - a) (h1 : ∀ j : Nat, (j : Int) < a → h'.2.2 b j = h.2.2 b j) (h2 : ∀ j : Nat, (j : Int) < h.2.1 b - a → h'.2.2 q j = h.2.2 b (a.toNat + j)) : en h' b x + en h' q x = en h b x := by
  rw [en_sm (h := h') (p := b) (by omega), en_sm (h := h') (p := q) (by omega), en_sm (h := h) (by omega), hl, hlq, hb, hq]
  by_cases e : 0 < h.1 b
  · rw [if_pos e, if_pos e, if_pos e, show (h.2.1 b).toNat = a.toNat + (h.2.1 b - a).toNat by omega, sm_app]
    rw [sm_c (n := a.toNat) (f := fun k => if h'.2.2 b k = x then 1 else 0) (g := fun k => if h.2.2 b k = x then 1 else 0) (fun j hj => by
      show (if h'.2.2 b j = x then 1 else 0) = _
      rw [h1 j (by omega)])]
    rw [sm_c (n := (h.2.1 b - a).toNat) (f := fun k => if h'.2.2 q k = x then 1 else 0) (g := fun j => (fun k => if h.2.2 b k = x then 1 else 0) (a.toNat + j)) (fun j hj => by
      show (if h'.2.2 q j = x then 1 else 0) = if h.2.2 b (a.toNat + j) = x then 1 else 0
      rw [h2 j (by omega)])]
  · rw [if_neg e, if_neg e, if_neg e]; rfl
/-! ===== nodes ===== -/
theorem Nd_ext {h h' : SH} {N : Int} {p : Nat} (H : Nd h N p) (h1 : h'.1 p = h.1 p) (h2 : h'.2.1 p = h.2.1 p) (h3 : ∀ k : Nat, (k : Int) < h.2.1 p → h'.2.2 p k = h.2.2 p k) (h4 : 0 < h.1 p → ∀ k : Nat, (k : Int) < h.2.1 p → h'.1 (h.2.2 p k).toNat = h.1 (h.2.2 p k).toNat) : Nd h' N p := by
  refine ⟨by rw [h1]; exact H.1, by rw [h2]; exact H.2.1, fun hl k hk => ?_⟩
  rw [h1] at hl
  rw [h2] at hk
  rw [h3 k hk, h1, h4 hl k hk]
  exact H.2.2 hl k hk
theorem WN_one {h h' : SH} {N : Int} {c : Nat → Int} {b : Nat} (hN : N ≤ 48) (hW : WN h N c) (hl : ∀ q, q < 48 → q ≠ b → h'.1 q = h.1 q) (hz : ∀ q, q < 48 → q ≠ b → h'.2.1 q = h.2.1 q) (hv : ∀ q, q < 48 → q ≠ b → ∀ k, k < 6 → h'.2.2 q k = h.2.2 q k) (hb : 0 < c b → Nd h' N b) (hk : h'.1 b = h.1 b ∨ ∀ p, p < 48 → p ≠ b → 0 < c p → 0 < h.1 p → ∀ k : Nat, (k : Int) < h.2.1 p → h.2.2 p k ≠ (b : Int)) : WN h' N c := by
  intro p hp
  obtain ⟨w1, w2, w3⟩ := hW p hp
  refine ⟨w1, w2, fun hc => ?_⟩
  by_cases e : p = b
  · subst e; exact hb hc
  · have H := w3 hc
    refine Nd_ext H (hl p hp e) (hz p hp e) (fun k hk => hv p hp e k (by have := H.2.1; omega)) (fun hpl k hkz => ?_)
    obtain ⟨⟨a1, a2⟩, a3⟩ := H.2.2 hpl k hkz
    by_cases e2 : (h.2.2 p k).toNat = b
    · rcases hk with hk | hk
      · rw [e2]; exact hk
      · exact absurd (show h.2.2 p k = (b : Int) by omega) (hk p hp e hc hpl k hkz)
    · exact hl _ (by omega) e2
/-- who is named by a block in use is in use -/
theorem kid_live {h : SH} {N : Int} {c r : Nat → Int} (hN : N ≤ 48) (hW : WN h N c) {p k : Nat} (hp : p < 48) (hc : 0 < c p) (hl : 0 < h.1 p) (hk : (k : Int) < h.2.1 p) (hD : 0 ≤ df h c r (h.2.2 p k).toNat) : 0 < c (h.2.2 p k).toNat := by
  have H := (hW p hp).2.2 hc
  have h6 := H.2.1
  obtain ⟨⟨a1, a2⟩, a3⟩ := H.2.2 hl k hk
  have h1 := rf_en (h := h) (r := r) (x := h.2.2 p k) hp hc
  have h2 := enf_pos (i := 0) hl hk (by omega) (by omega)
  have h3 := rr_nn r (h.2.2 p k)
  unfold df at hD
  rw [show (((h.2.2 p k).toNat : Nat) : Int) = h.2.2 p k by omega] at hD
  unfold en at h1
  omega
theorem root_live {h : SH} {N : Int} {c r : Nat → Int} {v : Nat} (hv : v < 8) (h0 : 0 ≤ r v) (hD : 0 ≤ df h c r (r v).toNat) : 0 < c (r v).toNat := by
  have h1 := rr_pos (r := r) hv
  have h2 : 0 ≤ sm 48 (fun p => if 0 < c p then en h p (r v) else 0) := sm_nn (fun p _ => by
    split
    · exact en_nn h p _
    · exact Int.le_refl 0)
  unfold df rf at hD
  rw [show (((r v).toNat : Nat) : Int) = r v by omega] at hD
  omega
/-- a block that nobody counts is named by none -/
theorem free_unnamed {h : SH} {N : Int} {c r : Nat → Int} {b : Nat} (hN : N ≤ 48) (hW : WN h N c) (hb : c b ≤ 0) (hD : 0 ≤ df h c r b) : ∀ p, p < 48 → p ≠ b → 0 < c p → 0 < h.1 p → ∀ k : Nat, (k : Int) < h.2.1 p → h.2.2 p k ≠ (b : Int) := by
  intro p hp _ hc hl k hk e
  have := kid_live (r := r) hN hW hp hc hl hk (by rw [e]; exact hD)
  rw [e] at this
  have e2 : ((b : Int)).toNat = b := by omega
  rw [e2] at this
  omega
/-! ===== no level is above 47 ===== -/
theorem lev_chain {h : SH} {N : Int} {c r : Nat → Int} (hN : N ≤ 48) (hW : WN h N c) (hE : Ne h c) (hD : ∀ x, x < 48 → 0 ≤ df h c r x) : ∀ (L p : Nat), p < 48 → 0 < c p → h.1 p = (L : Int) → ∀ j : Nat, j ≤ L → ∃ q, q < 48 ∧ 0 < c q ∧ h.1 q = (j : Int) := by
  intro L
  induction L with
  | zero =>
    intro p hp hc hl j hj
    have : j = 0 := by omega
    subst this
    exact ⟨p, hp, hc, hl⟩
  | succ L ih =>
    intro p hp hc hl j hj
    by_cases e : j = L + 1
    · subst e; exact ⟨p, hp, hc, hl⟩
    · have H := (hW p hp).2.2 hc
      have hz := hE p hp hc
      have hl0 : 0 < h.1 p := by rw [hl]; omega
      obtain ⟨⟨a1, a2⟩, a3⟩ := H.2.2 hl0 0 (by omega)
      have h1 := kid_live (r := r) hN hW hp hc hl0 (k := 0) (by omega) (hD _ (by omega))
      exact ih (h.2.2 p 0).toNat (by omega) h1 (by rw [a3, hl]; omega) j (by omega)
theorem sm_delta (n : Nat) (a : Int) : sm n (fun j => if a = (j : Int) then 1 else 0) ≤ 1 ∧ ((n : Int) ≤ a → sm n (fun j => if a = (j : Int) then 1 else 0) = 0) := by
  induction n with
  | zero => exact ⟨by show (0 : Int) ≤ 1; omega, fun _ => rfl⟩
  | succ n ih =>
    have e : sm (n + 1) (fun j => if a = (j : Int) then (1 : Int) else 0) = sm n (fun j => if a = (j : Int) then (1 : Int) else 0) + (if a = (n : Int) then 1 else 0) := rfl
    rw [e]
    by_cases e2 : a = (n : Int)
    · rw [if_pos e2]
      have := ih.2 (by omega)
      exact ⟨by omega, fun h => by omega⟩
    · rw [if_neg e2]
      exact ⟨by have := ih.1; omega, fun h => by have := ih.2 (by omega); omega⟩
theorem lev_le {h : SH} {N : Int} {c r : Nat → Int} (hN : N ≤ 48) (hW : WN h N c) (hE : Ne h c) (hD : ∀ x, x < 48 → 0 ≤ df h c r x) {p : Nat} (hp : p < 48) (hc : 0 < c p) : h.1 p ≤ 47 := by
  by_cases e : h.1 p ≤ 47
  · exact e
  · exfalso
    have h0 := ((hW p hp).2.2 hc).1
    have h1 : (49 : Int) ≤ sm 49 (fun j => sm 48 (fun q => if 0 < c q ∧ h.1 q = (j : Int) then 1 else 0)) := by
      have h2 : sm 49 (fun _ => (1 : Int)) ≤ sm 49 (fun j => sm 48 (fun q => if 0 < c q ∧ h.1 q = (j : Int) then 1 else 0)) := sm_le (fun j hj => by
        obtain ⟨q, q1, q2, q3⟩ := lev_chain (r := r) hN hW hE hD (h.1 p).toNat p hp hc (by omega) j (by omega)
        have h3 := sm_ge (n := 48) (i := q) (f := fun q => if 0 < c q ∧ h.1 q = (j : Int) then (1 : Int) else 0) q1 (fun i _ => by split <;> omega)
        have h4 : (fun q => if 0 < c q ∧ h.1 q = (j : Int) then (1 : Int) else 0) q = 1 := if_pos ⟨q2, q3⟩
        rw [if_pos ⟨q2, q3⟩] at h3
        exact h3)
      have h5 : sm 49 (fun _ => (1 : Int)) = 49 := by decide
      omega
    rw [sm_sw] at h1
    have h6 := sm_bd (n := 48) (f := fun q => sm 49 (fun j => if 0 < c q ∧ h.1 q = (j : Int) then (1 : Int) else 0)) (c := 1) (fun q _ => by
      have h7 := (sm_delta 49 (h.1 q)).1
      have h8 : sm 49 (fun j => if 0 < c q ∧ h.1 q = (j : Int) then (1 : Int) else 0) ≤ sm 49 (fun j => if h.1 q = (j : Int) then (1 : Int) else 0) := sm_le (fun j _ => by
        by_cases e3 : h.1 q = (j : Int)
        · rw [if_pos e3]; split <;> omega
        · rw [if_neg e3, if_neg (fun w => e3 w.2)]; exact Int.le_refl 0)
      exact Int.le_trans h8 h7)
    omega
/-! ===== the whole ===== -/
def TIx (h : SH) (N : Int) (c sv r rs : Nat → Int) : Prop := (N ≤ 48 ∧ WN h N c ∧ WN h N sv) ∧ ((∀ x, x < 48 → df h c r x = 0) ∧ (∀ x, x < 48 → df h sv rs x = 0)) ∧ (Ne h c ∧ Ne h sv) ∧ (RO N r ∧ RO N rs)
theorem df_ext {h h' : SH} {c c' r r' : Nat → Int} {N : Int} (hW : WN h N c) (h1 : ∀ p, p < 48 → h'.1 p = h.1 p) (h2 : ∀ p, p < 48 → h'.2.1 p = h.2.1 p) (h3 : ∀ p, p < 48 → ∀ k, k < 6 → h'.2.2 p k = h.2.2 p k) (h4 : ∀ p, p < 48 → c' p = c p) (h5 : ∀ v, v < 8 → r' v = r v) {x : Nat} (hx : x < 48) : df h' c' r' x = df h c r x := by
  unfold df rf rr
  rw [h4 x hx, sm_c (n := 8) (f := fun v => if r' v = (x : Int) then 1 else 0) (g := fun v => if r v = (x : Int) then 1 else 0) (fun v hv => by rw [h5 v hv])]
  rw [sm_c (n := 48) (f := fun p => if 0 < c' p then en h' p (x : Int) else 0) (g := fun p => if 0 < c p then en h p (x : Int) else 0) (fun p hp => by
    show (if 0 < c' p then en h' p (x : Int) else 0) = if 0 < c p then en h p (x : Int) else 0
    rw [h4 p hp]
    unfold en
    rw [en_ext (by rw [h1 p hp]) (h2 p hp) (fun k hk _ => h3 p hp k hk)])]
theorem WN_ext {h h' : SH} {N : Int} {c c' : Nat → Int} (hN : N ≤ 48) (hW : WN h N c) (h1 : ∀ p, p < 48 → h'.1 p = h.1 p) (h2 : ∀ p, p < 48 → h'.2.1 p = h.2.1 p) (h3 : ∀ p, p < 48 → ∀ k, k < 6 → h'.2.2 p k = h.2.2 p k) (h4 : ∀ p, p < 48 → c' p = c p) : WN h' N c' := by
  intro p hp
  rw [h4 p hp]
  obtain ⟨w1, w2, w3⟩ := hW p hp
  refine ⟨w1, w2, fun hc => ?_⟩
  have H := w3 hc
  refine Nd_ext H (h1 p hp) (h2 p hp) (fun k hk => h3 p hp k (by have := H.2.1; omega)) (fun hl k hk => ?_)
  have := (H.2.2 hl k hk).1
  exact h1 _ (by omega)
theorem TIx_ext {h h' : SH} {N : Int} {c c' sv sv' r r' rs rs' : Nat → Int} (H : TIx h N c sv r rs) (h1 : ∀ p, p < 48 → h'.1 p = h.1 p) (h2 : ∀ p, p < 48 → h'.2.1 p = h.2.1 p) (h3 : ∀ p, p < 48 → ∀ k, k < 6 → h'.2.2 p k = h.2.2 p k) (h4 : ∀ p, p < 48 → c' p = c p) (h5 : ∀ p, p < 48 → sv' p = sv p) (h6 : ∀ v, v < 8 → r' v = r v) (h7 : ∀ v, v < 8 → rs' v = rs v) : TIx h' N c' sv' r' rs' := by
  obtain ⟨⟨a1, a2, a3⟩, ⟨b1, b2⟩, ⟨d1, d2⟩, ⟨e1, e2⟩⟩ := H
  refine ⟨⟨a1, WN_ext a1 a2 h1 h2 h3 h4, WN_ext a1 a3 h1 h2 h3 h5⟩, ⟨fun x hx => ?_, fun x hx => ?_⟩, ⟨fun p hp hc => ?_, fun p hp hc => ?_⟩, ⟨fun v hv => ?_, fun v hv => ?_⟩⟩
  · rw [df_ext a2 h1 h2 h3 h4 h6 hx]; exact b1 x hx
  · rw [df_ext a3 h1 h2 h3 h5 h7 hx]; exact b2 x hx
  · rw [h2 p hp]; rw [h4 p hp] at hc; exact d1 p hp hc
  · rw [h2 p hp]; rw [h5 p hp] at hc; exact d2 p hp hc
  · rw [h6 v hv]; exact e1 v hv
  · rw [h7 v hv]; exact e2 v hv
/-! ===== counts that fall ===== -/
def RelI (h : SH) (r c0 : Nat → Int) (b : Int) (c E : Nat → Int) : Prop := (∀ x, x < 48 → 0 ≤ c x ∧ c x ≤ c0 x) ∧ (∀ x, x < 48 → df h c r x = df h c0 r x - (if (x : Int) = b then 1 else 0) + E x)
theorem RelI_E {h : SH} {r c0 c E E' : Nat → Int} {b : Int} (H : RelI h r c0 b c E) (e : ∀ x, x < 48 → E' x = E x) : RelI h r c0 b c E' := ⟨H.1, fun x hx => by rw [e x hx]; exact H.2 x hx⟩
/-- at first -/
theorem RelI_0 {h : SH} {r c0 : Nat → Int} {b : Nat} (hb : b < 48) (h0 : ∀ x, x < 48 → 0 ≤ c0 x) (h1 : 0 < c0 b) : RelI h r c0 (b : Int) (upZ c0 b (c0 b - 1)) (fun x => if 0 < c0 b - 1 then 0 else en h b (x : Int)) := by
  refine ⟨fun x hx => ?_, fun x hx => ?_⟩
  · by_cases e : x = b
    · subst e; rw [upZ_s]; omega
    · rw [upZ_n e]; have := h0 x hx; omega
  · rw [df_cnt hb, if_pos h1]
    dsimp only
    by_cases q : 0 < c0 b - 1
    · rw [if_pos q, if_pos q]
      by_cases e : x = b
      · subst e
        rw [if_pos rfl, if_pos rfl]; omega
      · rw [if_neg e, if_neg (show ¬ (x : Int) = (b : Int) by omega)]; omega
    · rw [if_neg q, if_neg q]
      by_cases e : x = b
      · subst e
        rw [if_pos rfl, if_pos rfl]; omega
      · rw [if_neg e, if_neg (show ¬ (x : Int) = (b : Int) by omega)]; omega
/-- what is named by a block that has fallen counts still -/
theorem Rel_pos {h : SH} {r c0 c P : Nat → Int} {b : Int} {p k : Nat} (H : RelI h r c0 b c (fun x => P x + enf h p (k : Int) (x : Int))) (hP : ∀ x, x < 48 → 0 ≤ P x) (hD : ∀ x, x < 48 → 0 ≤ df h c0 r x) (hl : 0 < h.1 p) (hk : (k : Int) < h.2.1 p) (h6 : k < 6) {y : Nat} (hy : h.2.2 p k = (y : Int)) (hy48 : y < 48) (hyb : (y : Int) ≠ b) : 1 ≤ c y := by
  have h1 := H.2 y hy48
  rw [if_neg hyb] at h1
  have h2 := enf_pos (i := (k : Int)) hl hk h6 (Int.le_refl _)
  rw [hy] at h2
  have h3 := hP y hy48
  have h4 := hD y hy48
  have h5 := rf_nn h c r (y : Int)
  unfold df at h1 h4
  dsimp only at h1
  unfold df at *
  omega
theorem Rel_step {h : SH} {r c0 c P : Nat → Int} {b : Int} {p k : Nat} (H : RelI h r c0 b c (fun x => P x + enf h p (k : Int) (x : Int))) (hl : 0 < h.1 p) (hk : (k : Int) < h.2.1 p) (h6 : k < 6) {y : Nat} (hy : h.2.2 p k = (y : Int)) (hy48 : y < 48) (hc : 1 ≤ c y) : RelI h r c0 b (upZ c y (c y - 1)) (fun x => P x + enf h p ((k : Int) + 1) (x : Int) + (if 0 < c y - 1 then 0 else en h y (x : Int))) := by
  refine ⟨fun x hx => ?_, fun x hx => ?_⟩
  · have := H.1 x hx
    by_cases e : x = y
    · subst e; rw [upZ_s]; omega
    · rw [upZ_n e]; exact this
  · rw [df_cnt hy48, H.2 x hx]
    dsimp only
    rw [enf_step hl hk h6, hy, if_pos (show 0 < c y by omega)]
    by_cases e : x = y
    · subst e
      rw [if_pos rfl, if_pos rfl]
      split <;> omega
    · rw [if_neg e, if_neg (show ¬ (y : Int) = (x : Int) by omega)]
      split <;> omega
/-- those that wait in a row -/
def pn (h : SH) (ch : Nat → Int) (i f : Int) (x : Nat) : Int := sm 48 (fun j => if i ≤ (j : Int) ∧ (j : Int) < f then en h (ch j).toNat (x : Int) else 0)
theorem pn_nn (h : SH) (ch : Nat → Int) (i f : Int) (x : Nat) : 0 ≤ pn h ch i f x := sm_nn (fun j _ => by
  split
  · exact en_nn h _ _
  · exact Int.le_refl 0)
theorem pn_0 {h : SH} {ch : Nat → Int} {i f : Int} {x : Nat} (hf : f ≤ i) : pn h ch i f x = 0 := sm_0 (fun j _ => if_neg (fun q => by omega))
theorem pn_first {h : SH} {ch : Nat → Int} {i f : Int} {x : Nat} (h0 : 0 ≤ i) (hf : i < f) (h48 : i < 48) : pn h ch i f x = pn h ch (i + 1) f x + en h (ch i.toNat).toNat (x : Int) := by
  unfold pn
  rw [sm_one (n := 48) (i := i.toNat) (f := fun j => if i + 1 ≤ (j : Int) ∧ (j : Int) < f then en h (ch j).toNat (x : Int) else 0) (g := fun j => if i ≤ (j : Int) ∧ (j : Int) < f then en h (ch j).toNat (x : Int) else 0) (by omega) (fun j _ hn => by
    show (if i ≤ (j : Int) ∧ (j : Int) < f then en h (ch j).toNat (x : Int) else 0) = if i + 1 ≤ (j : Int) ∧ (j : Int) < f then en h (ch j).toNat (x : Int) else 0
    by_cases e : i ≤ (j : Int) ∧ (j : Int) < f
    · rw [if_pos e, if_pos ⟨by omega, e.2⟩]
    · rw [if_neg e, if_neg (fun q => e ⟨by omega, q.2⟩)])]
  show _ - (if i + 1 ≤ ((i.toNat : Nat) : Int) ∧ ((i.toNat : Nat) : Int) < f then en h (ch i.toNat).toNat (x : Int) else 0) + (if i ≤ ((i.toNat : Nat) : Int) ∧ ((i.toNat : Nat) : Int) < f then en h (ch i.toNat).toNat (x : Int) else 0) = _
  rw [if_neg (fun q => by omega), if_pos ⟨by omega, by omega⟩]; omega
theorem pn_more {h : SH} {ch : Nat → Int} {i f y : Int} {x : Nat} (h0 : 0 ≤ i) (hf : i ≤ f) (h48 : f < 48) : pn h (upZ ch f.toNat y) i (f + 1) x = pn h ch i f x + en h y.toNat (x : Int) := by
  unfold pn
  rw [sm_one (n := 48) (i := f.toNat) (f := fun j => if i ≤ (j : Int) ∧ (j : Int) < f then en h (ch j).toNat (x : Int) else 0) (g := fun j => if i ≤ (j : Int) ∧ (j : Int) < f + 1 then en h (upZ ch f.toNat y j).toNat (x : Int) else 0) (by omega) (fun j _ hn => by
    show (if i ≤ (j : Int) ∧ (j : Int) < f + 1 then en h (upZ ch f.toNat y j).toNat (x : Int) else 0) = if i ≤ (j : Int) ∧ (j : Int) < f then en h (ch j).toNat (x : Int) else 0
    rw [upZ_n hn]
    by_cases e : i ≤ (j : Int) ∧ (j : Int) < f
    · rw [if_pos e, if_pos ⟨e.1, by omega⟩]
    · rw [if_neg e, if_neg (fun q => e ⟨q.1, by omega⟩)])]
  show _ - (if i ≤ ((f.toNat : Nat) : Int) ∧ ((f.toNat : Nat) : Int) < f then en h (ch f.toNat).toNat (x : Int) else 0) + (if i ≤ ((f.toNat : Nat) : Int) ∧ ((f.toNat : Nat) : Int) < f + 1 then en h (upZ ch f.toNat y f.toNat).toNat (x : Int) else 0) = _
  rw [if_neg (fun q => by omega), if_pos ⟨by omega, by omega⟩, upZ_s]; omega
theorem pn_up {h : SH} {ch : Nat → Int} {i f y : Int} {g : Nat} {x : Nat} (hg : f ≤ (g : Int)) : pn h (upZ ch g y) i f x = pn h ch i f x := sm_c (fun j _ => by
  show (if i ≤ (j : Int) ∧ (j : Int) < f then en h (upZ ch g y j).toNat (x : Int) else 0) = if i ≤ (j : Int) ∧ (j : Int) < f then en h (ch j).toNat (x : Int) else 0
  by_cases e : i ≤ (j : Int) ∧ (j : Int) < f
  · rw [if_pos e, if_pos e, upZ_n (by omega)]
  · rw [if_neg e, if_neg e])
theorem RelI_WN {h : SH} {N : Int} {r c0 c E : Nat → Int} {b : Int} (hW : WN h N c0) (H : RelI h r c0 b c E) : WN h N c := by
  intro p hp
  have h1 := H.1 p hp
  obtain ⟨w1, w2, w3⟩ := hW p hp
  exact ⟨h1.1, fun q => by have := w2 q; omega, fun q => w3 (by omega)⟩
/-- the class's blocks -/
def hN (s : MS) : SH := (gA s 56, gA s 57, fun p k => gA s 59 (6 * p + k))
theorem hN_eq {s o : MS} (h1 : gA o 56 = gA s 56) (h2 : gA o 57 = gA s 57) (h3 : gA o 59 = gA s 59) : hN o = hN s := by
  unfold hN
  rw [h1, h2, h3]
