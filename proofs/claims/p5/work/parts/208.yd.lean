abbrev F_x12_codesTell (s o : MS) : Prop := Fr [48, 108] [] [] [107] s o
theorem fr_x12_codesTell {p0 : Int} {s : MS} {o : (Int × MS)} (h : m_x12_codesTell p0 s = some o) : F_x12_codesTell s o.2 := by
  have hF : F_x12_codesTell s s := Fr.rf s
  unfold m_x12_codesTell at h
  have L19 : ∀ (n : Nat) (x1 : Int) (x2 : Int) (s3 : MS), F_x12_codesTell s s3 → m_x12_codesTell_L19 n x1 x2 s3 = some o → F_x12_codesTell s o.2 := by
    refine fr_ind (fun x1 x2 s3 hF h => by cases h) ?_
    intro n19 ih19 x1 x2 s3 hF h
    have h : m_x12_codesTell_b19 (m_x12_codesTell_L19 n19) x1 x2 s3 = some o := h
    unfold m_x12_codesTell_b19 at h
    have J136 : ∀ (x4 : Int) (x5 : Int) (s6 : MS), F_x12_codesTell s s6 → m_x12_codesTell_J136 (m_x12_codesTell_L19 n19) x4 x5 s6 = some o → F_x12_codesTell s o.2 := by
      intro x4 x5 s6 hF h
      unfold m_x12_codesTell_J136 at h
      exact ih19 x4 (x5 + 1) s6 hF h
    obtain ⟨y7, ey7, iy7, h⟩ := rdI_e h
    obtain ⟨hr8, h⟩ := rg_e h
    obtain ⟨hr9, h⟩ := rg_e h
    by_cases c10 : y7 ≤ x2
    · have h := if_t c10 h
      obtain ⟨yl11, eyl11, iyl11, h⟩ := rdL_e h
      obtain rfl := Option.some.inj h
      exact hF
    · have h := if_f c10 h
      obtain ⟨y12, ey12, iy12, h⟩ := rdI_e h
      obtain ⟨hr13, h⟩ := rg_e h
      by_cases c14 : y12 < 1000
      · have h := if_t c14 h
        obtain ⟨hr15, h⟩ := rg_e h
        by_cases c16 : y12 < 40
        · have h := if_t c16 h
          obtain ⟨hr17, h⟩ := rg_e h
          by_cases c18 : y12 = 13
          · have h := if_t c18 h
            obtain ⟨s27, hc26, h⟩ := bn_e h
            have hF : F_x12_codesTell s s27 := Fr.tr hF (fr_x12_qPuts hc26) (by decide)
            exact J136 x1 x2 s27 hF h
          · have h := if_f c18 h
            obtain ⟨hr19, h⟩ := rg_e h
            by_cases c20 : y12 = 12
            · have h := if_t c20 h
              obtain ⟨yl23, eyl23, iyl23, h⟩ := rdL_e h
              obtain ⟨hi24, h⟩ := inb_e h
              obtain ⟨s25, hs25, h⟩ := st_e h
              have hF : F_x12_codesTell s s25 := hs25 ▸ Fr.uB hF (by decide)
              exact J136 x1 x2 s25 hF h
            · have h := if_f c20 h
              obtain ⟨s22, hc21, h⟩ := bn_e h
              have hF : F_x12_codesTell s s22 := Fr.tr hF (fr_x12_qJoins hc21) (by decide)
              exact J136 x1 x2 s22 hF h
        · have h := if_f c16 h
          obtain ⟨rl29, hc28, h⟩ := bn_e h
          obtain ⟨s31, hc30, h⟩ := bn_e h
          have hF : F_x12_codesTell s s31 := Fr.tr hF (fr_x12_qPuts hc30) (by decide)
          exact J136 x1 x2 s31 hF h
      · have h := if_f c14 h
        obtain ⟨hr32, h⟩ := rg_e h
        obtain ⟨s34, hc33, h⟩ := bn_e h
        have hF : F_x12_codesTell s s34 := Fr.tr hF (fr_x12_qPuts hc33) (by decide)
        exact J136 x1 x2 s34 hF h
  obtain ⟨s35, hs35, h⟩ := st_e h
  have hF : F_x12_codesTell s s35 := hs35 ▸ Fr.uI hF (by decide)
  obtain ⟨s36, hs36, h⟩ := st_e h
  have hF : F_x12_codesTell s s36 := hs36 ▸ Fr.uI hF (by decide)
  obtain ⟨y37, ey37, iy37, h⟩ := rdI_e h
  exact L19 FU p0 y37 s36 hF h
abbrev F_x12_taken (s o : MS) : Prop := Fr [48, 50, 51, 52, 55, 108] [49, 54] [] [107] s o
theorem fr_x12_taken {p0 : Int} {p1 : Int} {s : MS} {o : (Int × MS)} (h : m_x12_taken p0 p1 s = some o) : F_x12_taken s o.2 := by
  have hF : F_x12_taken s s := Fr.rf s
  unfold m_x12_taken at h
  have L126 : ∀ (n : Nat) (x1 : Int) (x2 : Int) (x3 : Int) (x4 : Int) (s5 : MS), F_x12_taken s s5 → m_x12_taken_L126 n x1 x2 x3 x4 s5 = some o → F_x12_taken s o.2 := by
    refine fr_ind (fun x1 x2 x3 x4 s5 hF h => by cases h) ?_
    intro n126 ih126 x1 x2 x3 x4 s5 hF h
    have h : m_x12_taken_b126 (m_x12_taken_L126 n126) x1 x2 x3 x4 s5 = some o := h
    unfold m_x12_taken_b126 at h
    obtain ⟨hr6, h⟩ := rg_e h
    by_cases c7 : 16 ≤ x4
    · have h := if_t c7 h
      obtain ⟨hi8, h⟩ := inb_e h
      obtain ⟨s9, hs9, h⟩ := st_e h
      have hF : F_x12_taken s s9 := hs9 ▸ Fr.uA hF (by decide)
      obtain ⟨hi10, h⟩ := inb_e h
      obtain ⟨s11, hs11, h⟩ := st_e h
      have hF : F_x12_taken s s11 := hs11 ▸ Fr.uA hF (by decide)
      obtain ⟨hi12, h⟩ := inb_e h
      obtain ⟨hb13, h⟩ := bo_e h
      obtain ⟨s14, hs14, h⟩ := st_e h
      have hF : F_x12_taken s s14 := hs14 ▸ Fr.uA hF (by decide)
      obtain rfl := Option.some.inj h
      exact hF
    · have h := if_f c7 h
      obtain ⟨hi15, h⟩ := inb_e h
      obtain ⟨s16, hs16, h⟩ := st_e h
      have hF : F_x12_taken s s16 := hs16 ▸ Fr.uA hF (by decide)
      exact ih126 x1 x2 x3 (x4 + 1) s16 hF h
  have J102 : ∀ (x17 : Int) (x18 : Int) (s19 : MS), F_x12_taken s s19 → m_x12_taken_J102 x17 x18 s19 = some o → F_x12_taken s o.2 := by
    intro x17 x18 s19 hF h
    unfold m_x12_taken_J102 at h
    obtain ⟨hr20, h⟩ := rg_e h
    by_cases c21 : x18 = (-1)
    · have h := if_t c21 h
      obtain ⟨s22, hs22, h⟩ := st_e h
      have hF : F_x12_taken s s22 := hs22 ▸ Fr.uI hF (by decide)
      obtain rfl := Option.some.inj h
      exact hF
    · have h := if_f c21 h
      exact L126 FU x17 x18 (17 + (16 * x18)) 0 s19 hF h
  have L8 : ∀ (n : Nat) (x23 : Int) (x24 : Int) (x25 : Int) (z26 : Int) (x27 : Int) (s28 : MS), F_x12_taken s s28 → m_x12_taken_L8 n x23 x24 x25 z26 x27 s28 = some o → F_x12_taken s o.2 := by
    refine fr_ind (fun x23 x24 x25 z26 x27 s28 hF h => by cases h) ?_
    intro n8 ih8 x23 x24 x25 z26 x27 s28 hF h
    have h : m_x12_taken_b8 (m_x12_taken_L8 n8) x23 x24 x25 z26 x27 s28 = some o := h
    unfold m_x12_taken_b8 at h
    have J96 : ∀ (x29 : Int) (x30 : Int) (x31 : Int) (z32 : Int) (x33 : Int) (s34 : MS), F_x12_taken s s34 → m_x12_taken_J96 (m_x12_taken_L8 n8) x29 x30 x31 z32 x33 s34 = some o → F_x12_taken s o.2 := by
      intro x29 x30 x31 z32 x33 s34 hF h
      unfold m_x12_taken_J96 at h
      exact ih8 x29 x30 x31 z32 (x33 + 1) s34 hF h
    have J89 : ∀ (x35 : Int) (x36 : Int) (x37 : Int) (z38 : Int) (s39 : MS), F_x12_taken s s39 → m_x12_taken_J89 (m_x12_taken_L8 n8) x35 x36 x37 z38 s39 = some o → F_x12_taken s o.2 := by
      intro x35 x36 x37 z38 s39 hF h
      unfold m_x12_taken_J89 at h
      exact J96 x35 x36 x37 z38 x37 s39 hF h
    have J71 : ∀ (x40 : Int) (x41 : Int) (x42 : Int) (z43 : Int) (x44 : Int) (z45 : Int) (s46 : MS), F_x12_taken s s46 → m_x12_taken_J71 (m_x12_taken_L8 n8) x40 x41 x42 z43 x44 z45 s46 = some o → F_x12_taken s o.2 := by
      intro x40 x41 x42 z43 x44 z45 s46 hF h
      unfold m_x12_taken_J71 at h
      obtain ⟨hr47, h⟩ := rg_e h
      by_cases c48 : x42 = (-1)
      · have h := if_t c48 h
        exact J89 x40 x41 x44 z45 s46 hF h
      · have h := if_f c48 h
        obtain ⟨hr49, h⟩ := rgL_e h
        obtain ⟨hr50, h⟩ := rgL_e h
        by_cases c51 : z45 < z43
        · have h := if_t c51 h
          exact J89 x40 x41 x44 z45 s46 hF h
        · have h := if_f c51 h
          exact J96 x40 x41 x42 z43 x44 s46 hF h
    obtain ⟨r53, hc52, h⟩ := bn_e h
    obtain ⟨hr54, h⟩ := rg_e h
    obtain ⟨hr55, h⟩ := rg_e h
    by_cases c56 : r53 ≤ x27
    · have h := if_t c56 h
      exact J102 x23 x25 s28 hF h
    · have h := if_f c56 h
      obtain ⟨hr57, h⟩ := rg_e h
      by_cases c58 : (gI s28 55) = 0
      · have h := if_t c58 h
        obtain ⟨r60, hc59, h⟩ := bn_e h
        obtain ⟨hr61, h⟩ := rg_e h
        by_cases c62 : r60 = 0
        · have h := if_t c62 h
          obtain ⟨s63, hs63, h⟩ := st_e h
          have hF : F_x12_taken s s63 := hs63 ▸ Fr.uI hF (by decide)
          obtain ⟨s64, hs64, h⟩ := st_e h
          have hF : F_x12_taken s s64 := hs64 ▸ Fr.uI hF (by decide)
          obtain ⟨s65, hs65, h⟩ := st_e h
          have hF : F_x12_taken s s65 := hs65 ▸ Fr.uI hF (by decide)
          obtain ⟨r67, hc66, h⟩ := bn_e h
          obtain ⟨hr68, h⟩ := rg_e h
          by_cases c69 : r67 = 0
          · have h := if_t c69 h
            obtain ⟨hr70, h⟩ := rg_e h
            exact J71 x23 x24 x25 z26 x27 x27 s65 hF h
          · have h := if_f c69 h
            obtain ⟨⟨rl73, s72⟩, hc71, h⟩ := bn_e h
            have hF : F_x12_taken s s72 := Fr.tr hF (fr_x12_codesTell hc71) (by decide)
            exact J71 x23 x24 x25 z26 x27 rl73 s72 hF h
        · have h := if_f c62 h
          exact J96 x23 x24 x25 z26 x27 s28 hF h
      · have h := if_f c58 h
        exact J102 x23 x25 s28 hF h
  exact L8 FU p0 p1 (-1) 0 0 s hF h
abbrev F_x12_owned (s o : MS) : Prop := Fr [48, 50, 51, 52, 55, 108] [49, 54, 56] [] [107] s o
theorem fr_x12_owned {p0 : Int} {s : MS} {o : (Int × MS)} (h : m_x12_owned p0 s = some o) : F_x12_owned s o.2 := by
  have hF : F_x12_owned s s := Fr.rf s
  unfold m_x12_owned at h
  have J117 : ∀ (x1 : Int) (x2 : Int) (s3 : MS), F_x12_owned s s3 → m_x12_owned_J117 x1 x2 s3 = some o → F_x12_owned s o.2 := by
    intro x1 x2 s3 hF h
    unfold m_x12_owned_J117 at h
    obtain ⟨s5, hc4, h⟩ := bn_e h
    have hF : F_x12_owned s s5 := Fr.tr hF (fr_x12_falls hc4) (by decide)
    obtain rfl := Option.some.inj h
    exact hF
  have L91 : ∀ (n : Nat) (x6 : Int) (x7 : Int) (x8 : Int) (s9 : MS), F_x12_owned s s9 → m_x12_owned_L91 n x6 x7 x8 s9 = some o → F_x12_owned s o.2 := by
    refine fr_ind (fun x6 x7 x8 s9 hF h => by cases h) ?_
    intro n91 ih91 x6 x7 x8 s9 hF h
    have h : m_x12_owned_b91 (m_x12_owned_L91 n91) x6 x7 x8 s9 = some o := h
    unfold m_x12_owned_b91 at h
    obtain ⟨r11, hc10, h⟩ := bn_e h
    obtain ⟨hr12, h⟩ := rg_e h
    obtain ⟨hr13, h⟩ := rg_e h
    by_cases c14 : r11 ≤ x8
    · have h := if_t c14 h
      exact J117 x6 x7 s9 hF h
    · have h := if_f c14 h
      obtain ⟨r16, hc15, h⟩ := bn_e h
      obtain ⟨s18, hc17, h⟩ := bn_e h
      have hF : F_x12_owned s s18 := Fr.tr hF (fr_x12_counts hc17) (by decide)
      exact ih91 x6 x7 (x8 + 1) s18 hF h
  have L41 : ∀ (n : Nat) (x19 : Int) (x20 : Int) (x21 : Int) (s22 : MS), F_x12_owned s s22 → m_x12_owned_L41 n x19 x20 x21 s22 = some o → F_x12_owned s o.2 := by
    refine fr_ind (fun x19 x20 x21 s22 hF h => by cases h) ?_
    intro n41 ih41 x19 x20 x21 s22 hF h
    have h : m_x12_owned_b41 (m_x12_owned_L41 n41) x19 x20 x21 s22 = some o := h
    unfold m_x12_owned_b41 at h
    obtain ⟨hr23, h⟩ := rg_e h
    by_cases c24 : 16 ≤ x21
    · have h := if_t c24 h
      obtain ⟨r26, hc25, h⟩ := bn_e h
      obtain ⟨hr27, h⟩ := rg_e h
      by_cases c28 : r26 ≤ 0
      · have h := if_t c28 h
        exact J117 x19 x20 s22 hF h
      · have h := if_f c28 h
        exact L91 FU x19 x20 0 s22 hF h
    · have h := if_f c24 h
      obtain ⟨y29, ey29, iy29, h⟩ := rdI_e h
      obtain ⟨hi30, h⟩ := inb_e h
      obtain ⟨s31, hs31, h⟩ := st_e h
      have hF : F_x12_owned s s31 := hs31 ▸ Fr.uA hF (by decide)
      exact ih41 x19 x20 (x21 + 1) s31 hF h
  have J19 : ∀ (x32 : Int) (s33 : MS), F_x12_owned s s33 → m_x12_owned_J19 x32 s33 = some o → F_x12_owned s o.2 := by
    intro x32 s33 hF h
    unfold m_x12_owned_J19 at h
    obtain ⟨r35, hc34, h⟩ := bn_e h
    obtain ⟨⟨r38, s37⟩, hc36, h⟩ := bn_e h
    have hF : F_x12_owned s s37 := Fr.tr hF (fr_x12_taken hc36) (by decide)
    obtain ⟨hr39, h⟩ := rg_e h
    by_cases c40 : (gI s37 55) = 0
    · have h := if_t c40 h
      exact L41 FU x32 r38 3 s37 hF h
    · have h := if_f c40 h
      obtain rfl := Option.some.inj h
      exact hF
  obtain ⟨r42, hc41, h⟩ := bn_e h
  obtain ⟨hr43, h⟩ := rg_e h
  by_cases c44 : r42 = 0
  · have h := if_t c44 h
    exact J19 p0 s hF h
  · have h := if_f c44 h
    obtain ⟨r46, hc45, h⟩ := bn_e h
    obtain ⟨hr47, h⟩ := rg_e h
    by_cases c48 : r46 = 1
    · have h := if_t c48 h
      obtain rfl := Option.some.inj h
      exact hF
    · have h := if_f c48 h
      exact J19 p0 s hF h
abbrev F_x12_removes (s o : MS) : Prop := Fr [48, 50, 51, 52, 55, 108] [49, 54, 56, 57, 58] [] [107] s o
theorem fr_x12_removes {p0 : Int} {p1 : Int} {s : MS} {o : MS} (h : m_x12_removes p0 p1 s = some o) : F_x12_removes s o := by
  have hF : F_x12_removes s s := Fr.rf s
  unfold m_x12_removes at h
  have J182 : ∀ (x1 : Int) (x2 : Int) (s3 : MS), F_x12_removes s s3 → m_x12_removes_J182 x1 x2 s3 = some o → F_x12_removes s o := by
    intro x1 x2 s3 hF h
    unfold m_x12_removes_J182 at h
    obtain ⟨r5, hc4, h⟩ := bn_e h
    obtain ⟨hr6, h⟩ := rg_e h
    by_cases c7 : r5 = 0
    · have h := if_t c7 h
      obtain ⟨s11, hc10, h⟩ := bn_e h
      have hF : F_x12_removes s s11 := Fr.tr hF (fr_x12_counts hc10) (by decide)
      obtain ⟨hi12, h⟩ := inb_e h
      obtain ⟨s13, hs13, h⟩ := st_e h
      have hF : F_x12_removes s s13 := hs13 ▸ Fr.uA hF (by decide)
      obtain rfl := Option.some.inj h
      exact hF
    · have h := if_f c7 h
      obtain ⟨s9, hc8, h⟩ := bn_e h
      have hF : F_x12_removes s s9 := Fr.tr hF (fr_x12_lowers hc8) (by decide)
      obtain rfl := Option.some.inj h
      exact hF
  have L137 : ∀ (n : Nat) (x14 : Int) (x15 : Int) (x16 : Int) (s17 : MS), F_x12_removes s s17 → m_x12_removes_L137 n x14 x15 x16 s17 = some o → F_x12_removes s o := by
    refine fr_ind (fun x14 x15 x16 s17 hF h => by cases h) ?_
    intro n137 ih137 x14 x15 x16 s17 hF h
    have h : m_x12_removes_b137 (m_x12_removes_L137 n137) x14 x15 x16 s17 = some o := h
    unfold m_x12_removes_b137 at h
    obtain ⟨r19, hc18, h⟩ := bn_e h
    obtain ⟨hr20, h⟩ := rg_e h
    by_cases c21 : r19 = 0
    · have h := if_t c21 h
      obtain ⟨hr22, h⟩ := rg_e h
      by_cases c23 : x16 ≤ 0
      · have h := if_t c23 h
        exact J182 x14 x15 s17 hF h
      · have h := if_f c23 h
        obtain ⟨s25, hc24, h⟩ := bn_e h
        have hF : F_x12_removes s s25 := Fr.tr hF (fr_x12_counts hc24) (by decide)
        obtain ⟨y26, ey26, iy26, h⟩ := rdI_e h
        obtain ⟨y27, ey27, iy27, h⟩ := rdI_e h
        obtain ⟨s29, hc28, h⟩ := bn_e h
        have hF : F_x12_removes s s29 := Fr.tr hF (fr_x12_cutsEntry hc28) (by decide)
        exact ih137 x14 y26 (x16 + (-1)) s29 hF h
    · have h := if_f c21 h
      exact J182 x14 x15 s17 hF h
  have J118 : ∀ (x30 : Int) (x31 : Int) (x32 : Int) (x33 : Int) (s34 : MS), F_x12_removes s s34 → m_x12_removes_J118 x30 x31 x32 x33 s34 = some o → F_x12_removes s o := by
    intro x30 x31 x32 x33 s34 hF h
    unfold m_x12_removes_J118 at h
    obtain ⟨hr35, h⟩ := rg_e h
    by_cases c36 : (gI s34 55) = 0
    · have h := if_t c36 h
      obtain ⟨r38, hc37, h⟩ := bn_e h
      obtain ⟨s40, hc39, h⟩ := bn_e h
      have hF : F_x12_removes s s40 := Fr.tr hF (fr_x12_cutsEntry hc39) (by decide)
      exact L137 FU x30 x32 x33 s40 hF h
    · have h := if_f c36 h
      obtain rfl := Option.some.inj h
      exact hF
  have L29 : ∀ (n : Nat) (x41 : Int) (x42 : Int) (x43 : Int) (x44 : Int) (s45 : MS), F_x12_removes s s45 → m_x12_removes_L29 n x41 x42 x43 x44 s45 = some o → F_x12_removes s o := by
    refine fr_ind (fun x41 x42 x43 x44 s45 hF h => by cases h) ?_
    intro n29 ih29 x41 x42 x43 x44 s45 hF h
    have h : m_x12_removes_b29 (m_x12_removes_L29 n29) x41 x42 x43 x44 s45 = some o := h
    unfold m_x12_removes_b29 at h
    have J92 : ∀ (x46 : Int) (x47 : Int) (x48 : Int) (x49 : Int) (x50 : Int) (x51 : Int) (s52 : MS), F_x12_removes s s52 → m_x12_removes_J92 (m_x12_removes_L29 n29) x46 x47 x48 x49 x50 x51 s52 = some o → F_x12_removes s o := by
      intro x46 x47 x48 x49 x50 x51 s52 hF h
      unfold m_x12_removes_J92 at h
      obtain ⟨hi53, h⟩ := inb_e h
      obtain ⟨s54, hs54, h⟩ := st_e h
      have hF : F_x12_removes s s54 := hs54 ▸ Fr.uA hF (by decide)
      obtain ⟨hi55, h⟩ := inb_e h
      obtain ⟨s56, hs56, h⟩ := st_e h
      have hF : F_x12_removes s s56 := hs56 ▸ Fr.uA hF (by decide)
      exact ih29 x46 x47 x51 (x49 + 1) s56 hF h
    obtain ⟨hr57, h⟩ := rg_e h
    by_cases c58 : (gI s45 55) = 0
    · have h := if_t c58 h
      obtain ⟨r60, hc59, h⟩ := bn_e h
      obtain ⟨hr61, h⟩ := rg_e h
      by_cases c62 : r60 ≤ 0
      · have h := if_t c62 h
        exact J118 x41 x42 x43 x44 s45 hF h
      · have h := if_f c62 h
        obtain ⟨r64, hc63, h⟩ := bn_e h
        obtain ⟨r66, hc65, h⟩ := bn_e h
        obtain ⟨⟨r69, s68⟩, hc67, h⟩ := bn_e h
        have hF : F_x12_removes s s68 := Fr.tr hF (fr_x12_owned hc67) (by decide)
        obtain ⟨hr70, h⟩ := rg_e h
        obtain ⟨hr71, h⟩ := rg_e h
        by_cases c72 : r69 = r66
        · have h := if_t c72 h
          exact J92 x41 x42 x43 x44 r64 r69 s68 hF h
        · have h := if_f c72 h
          obtain ⟨r74, hc73, h⟩ := bn_e h
          obtain ⟨s76, hc75, h⟩ := bn_e h
          have hF : F_x12_removes s s76 := Fr.tr hF (fr_x12_setsEntry hc75) (by decide)
          exact J92 x41 x42 x43 x44 r64 r69 s76 hF h
    · have h := if_f c58 h
      exact J118 x41 x42 x43 x44 s45 hF h
  obtain ⟨y77, ey77, iy77, h⟩ := rdI_e h
  obtain ⟨⟨r80, s79⟩, hc78, h⟩ := bn_e h
  have hF : F_x12_removes s s79 := Fr.tr hF (fr_x12_owned hc78) (by decide)
  obtain ⟨hr81, h⟩ := rg_e h
  by_cases c82 : (gI s79 55) = 0
  · have h := if_t c82 h
    obtain ⟨hi83, h⟩ := inb_e h
    obtain ⟨s84, hs84, h⟩ := st_e h
    have hF : F_x12_removes s s84 := hs84 ▸ Fr.uA hF (by decide)
    exact L29 FU p0 p1 r80 0 s84 hF h
  · have h := if_f c82 h
    obtain rfl := Option.some.inj h
    exact hF
abbrev F_x12_inserts (s o : MS) : Prop := Fr [] [49, 54] [] [] s o
theorem fr_x12_inserts {p0 : Int} {p1 : Int} {p2 : Int} {p3 : Int} {s : MS} {o : MS} (h : m_x12_inserts p0 p1 p2 p3 s = some o) : F_x12_inserts s o := by
  have hF : F_x12_inserts s s := Fr.rf s
  unfold m_x12_inserts at h
  have L7 : ∀ (n : Nat) (x1 : Int) (x2 : Int) (x3 : Int) (x4 : Int) (x5 : Int) (s6 : MS), F_x12_inserts s s6 → m_x12_inserts_L7 n x1 x2 x3 x4 x5 s6 = some o → F_x12_inserts s o := by
    refine fr_ind (fun x1 x2 x3 x4 x5 s6 hF h => by cases h) ?_
    intro n7 ih7 x1 x2 x3 x4 x5 s6 hF h
    have h : m_x12_inserts_b7 (m_x12_inserts_L7 n7) x1 x2 x3 x4 x5 s6 = some o := h
    unfold m_x12_inserts_b7 at h
    obtain ⟨hr7, h⟩ := rg_e h
    obtain ⟨hr8, h⟩ := rg_e h
    by_cases c9 : x5 ≤ x2
    · have h := if_t c9 h
      obtain ⟨s11, hc10, h⟩ := bn_e h
      have hF : F_x12_inserts s s11 := Fr.tr hF (fr_x12_setsEntry hc10) (by decide)
      obtain ⟨y12, ey12, iy12, h⟩ := rdI_e h
      obtain ⟨hi13, h⟩ := inb_e h
      obtain ⟨s14, hs14, h⟩ := st_e h
      have hF : F_x12_inserts s s14 := hs14 ▸ Fr.uA hF (by decide)
      obtain rfl := Option.some.inj h
      exact hF
    · have h := if_f c9 h
      obtain ⟨r16, hc15, h⟩ := bn_e h
      obtain ⟨r18, hc17, h⟩ := bn_e h
      obtain ⟨s20, hc19, h⟩ := bn_e h
      have hF : F_x12_inserts s s20 := Fr.tr hF (fr_x12_setsEntry hc19) (by decide)
      exact ih7 x1 x2 x3 x4 (x5 + (-1)) s20 hF h
  obtain ⟨r22, hc21, h⟩ := bn_e h
  exact L7 FU p0 p1 p2 p3 r22 s hF h
abbrev F_x12_putsIn (s o : MS) : Prop := Fr [] [49, 54] [] [] s o
theorem fr_x12_putsIn {p0 : Int} {p1 : Int} {p2 : Int} {s : MS} {o : MS} (h : m_x12_putsIn p0 p1 p2 s = some o) : F_x12_putsIn s o := by
  have hF : F_x12_putsIn s s := Fr.rf s
  unfold m_x12_putsIn at h
  have J73 : ∀ (s1 : MS), F_x12_putsIn s s1 → m_x12_putsIn_J73 s1 = some o → F_x12_putsIn s o := by
    intro s1 hF h
    unfold m_x12_putsIn_J73 at h
    obtain rfl := Option.some.inj h
    exact hF
  have J34 : ∀ (x2 : Int) (x3 : Int) (x4 : Int) (x5 : Int) (x6 : Int) (s7 : MS), F_x12_putsIn s s7 → m_x12_putsIn_J34 x2 x3 x4 x5 x6 s7 = some o → F_x12_putsIn s o := by
    intro x2 x3 x4 x5 x6 s7 hF h
    unfold m_x12_putsIn_J34 at h
    obtain ⟨hr8, h⟩ := rg_e h
    by_cases c9 : x6 = 0
    · have h := if_t c9 h
      obtain ⟨s18, hc17, h⟩ := bn_e h
      have hF : F_x12_putsIn s s18 := Fr.tr hF (fr_x12_inserts hc17) (by decide)
      exact J73 s18 hF h
    · have h := if_f c9 h
      obtain ⟨r11, hc10, h⟩ := bn_e h
      obtain ⟨hr12, h⟩ := rg_e h
      obtain ⟨hr13, h⟩ := rg_e h
      by_cases c14 : r11 = x4
      · have h := if_t c14 h
        exact J73 s7 hF h
      · have h := if_f c14 h
        obtain ⟨s16, hc15, h⟩ := bn_e h
        have hF : F_x12_putsIn s s16 := Fr.tr hF (fr_x12_setsEntry hc15) (by decide)
        exact J73 s16 hF h
  have J33 : ∀ (x19 : Int) (x20 : Int) (x21 : Int) (x22 : Int) (s23 : MS), F_x12_putsIn s s23 → m_x12_putsIn_J33 x19 x20 x21 x22 s23 = some o → F_x12_putsIn s o := by
    intro x19 x20 x21 x22 s23 hF h
    unfold m_x12_putsIn_J33 at h
    exact J34 x19 x20 x21 x22 0 s23 hF h
  obtain ⟨r25, hc24, h⟩ := bn_e h
  obtain ⟨r27, hc26, h⟩ := bn_e h
  obtain ⟨hr28, h⟩ := rg_e h
  obtain ⟨hr29, h⟩ := rg_e h
  by_cases c30 : r27 ≤ r25
  · have h := if_t c30 h
    exact J33 p0 p1 p2 r25 s hF h
  · have h := if_f c30 h
    obtain ⟨r32, hc31, h⟩ := bn_e h
    obtain ⟨hr33, h⟩ := rg_e h
    obtain ⟨hr34, h⟩ := rg_e h
    by_cases c35 : r32 = p1
    · have h := if_t c35 h
      exact J34 p0 p1 p2 r25 1 s hF h
    · have h := if_f c35 h
      exact J33 p0 p1 p2 r25 s hF h
abbrev F_x12_doesSplit (s o : MS) : Prop := Fr [48, 52, 53, 108] [] [] [107] s o
theorem fr_x12_doesSplit {p0 : Int} {s : MS} {o : (Int × MS)} (h : m_x12_doesSplit p0 s = some o) : F_x12_doesSplit s o.2 := by
  have hF : F_x12_doesSplit s s := Fr.rf s
  unfold m_x12_doesSplit at h
  have J60 : ∀ (x1 : Int) (s2 : MS), F_x12_doesSplit s s2 → m_x12_doesSplit_J60 x1 s2 = some o → F_x12_doesSplit s o.2 := by
    intro x1 s2 hF h
    unfold m_x12_doesSplit_J60 at h
    obtain ⟨hb3, h⟩ := bo_e h
    obtain rfl := Option.some.inj h
    exact hF
  have J29 : ∀ (s4 : MS), F_x12_doesSplit s s4 → m_x12_doesSplit_J29 s4 = some o → F_x12_doesSplit s o.2 := by
    intro s4 hF h
    unfold m_x12_doesSplit_J29 at h
    obtain rfl := Option.some.inj h
    exact hF
  obtain ⟨r6, hc5, h⟩ := bn_e h
  obtain ⟨r8, hc7, h⟩ := bn_e h
  obtain ⟨hr9, h⟩ := rg_e h
  obtain ⟨hr10, h⟩ := rg_e h
  by_cases c11 : r6 < r8
  · have h := if_t c11 h
    obtain ⟨hr12, h⟩ := rg_e h
    by_cases c13 : r6 < 2
    · have h := if_t c13 h
      exact J29 s hF h
    · have h := if_f c13 h
      obtain ⟨r15, hc14, h⟩ := bn_e h
      obtain ⟨hr16, h⟩ := rg_e h
      by_cases c17 : r15 = 0
      · have h := if_t c17 h
        exact J29 s hF h
      · have h := if_f c17 h
        obtain ⟨r19, hc18, h⟩ := bn_e h
        obtain ⟨s20, hs20, h⟩ := st_e h
        have hF : F_x12_doesSplit s s20 := hs20 ▸ Fr.uI hF (by decide)
        obtain ⟨s21, hs21, h⟩ := st_e h
        have hF : F_x12_doesSplit s s21 := hs21 ▸ Fr.uI hF (by decide)
        obtain ⟨⟨rl24, s23⟩, hc22, h⟩ := bn_e h
        have hF : F_x12_doesSplit s s23 := Fr.tr hF (fr_x12_codesTell hc22) (by decide)
        obtain ⟨hr25, h⟩ := rgL_e h
        by_cases c26 : rl24 = 1
        · have h := if_t c26 h
          exact J60 1 s23 hF h
        · have h := if_f c26 h
          exact J60 0 s23 hF h
  · have h := if_f c11 h
    obtain rfl := Option.some.inj h
    exact hF
abbrev F_x12_half (s o : MS) : Prop := Fr [48, 50, 51, 52, 55, 108] [49, 54] [] [107] s o
theorem fr_x12_half {p0 : Int} {p1 : Int} {p2 : Int} {p3 : Int} {s : MS} {o : (Int × MS)} (h : m_x12_half p0 p1 p2 p3 s = some o) : F_x12_half s o.2 := by
  have hF : F_x12_half s s := Fr.rf s
  unfold m_x12_half at h
  have J142 : ∀ (x1 : Int) (s2 : MS), F_x12_half s s2 → m_x12_half_J142 x1 s2 = some o → F_x12_half s o.2 := by
    intro x1 s2 hF h
    unfold m_x12_half_J142 at h
    obtain rfl := Option.some.inj h
    exact hF
  have L43 : ∀ (n : Nat) (x3 : Int) (x4 : Int) (x5 : Int) (x6 : Int) (x7 : Int) (x8 : Int) (x9 : Int) (x10 : Int) (s11 : MS), F_x12_half s s11 → m_x12_half_L43 n x3 x4 x5 x6 x7 x8 x9 x10 s11 = some o → F_x12_half s o.2 := by
    refine fr_ind (fun x3 x4 x5 x6 x7 x8 x9 x10 s11 hF h => by cases h) ?_
    intro n43 ih43 x3 x4 x5 x6 x7 x8 x9 x10 s11 hF h
    have h : m_x12_half_b43 (m_x12_half_L43 n43) x3 x4 x5 x6 x7 x8 x9 x10 s11 = some o := h
    unfold m_x12_half_b43 at h
    obtain ⟨hr12, h⟩ := rg_e h
    obtain ⟨hr13, h⟩ := rg_e h
    by_cases c14 : x8 ≤ x10
    · have h := if_t c14 h
      obtain ⟨hi15, h⟩ := inb_e h
      obtain ⟨s16, hs16, h⟩ := st_e h
      have hF : F_x12_half s s16 := hs16 ▸ Fr.uA hF (by decide)
      obtain ⟨hi17, h⟩ := inb_e h
      obtain ⟨hb18, h⟩ := bo_e h
      obtain ⟨s19, hs19, h⟩ := st_e h
      have hF : F_x12_half s s19 := hs19 ▸ Fr.uA hF (by decide)
      obtain ⟨r21, hc20, h⟩ := bn_e h
      obtain ⟨s23, hc22, h⟩ := bn_e h
      have hF : F_x12_half s s23 := Fr.tr hF (fr_x12_inserts hc22) (by decide)
      obtain ⟨r25, hc24, h⟩ := bn_e h
      obtain ⟨hr26, h⟩ := rg_e h
      obtain ⟨hr27, h⟩ := rg_e h
      by_cases c28 : x6 < r25
      · have h := if_t c28 h
        exact J142 x5 s23 hF h
      · have h := if_f c28 h
        exact J142 x7 s23 hF h
    · have h := if_f c14 h
      obtain ⟨r30, hc29, h⟩ := bn_e h
      obtain ⟨r32, hc31, h⟩ := bn_e h
      obtain ⟨s34, hc33, h⟩ := bn_e h
      have hF : F_x12_half s s34 := Fr.tr hF (fr_x12_inserts hc33) (by decide)
      exact ih43 x3 x4 x5 x6 x7 x8 x9 (x10 + 1) s34 hF h
  obtain ⟨r36, hc35, h⟩ := bn_e h
  obtain ⟨⟨r39, s38⟩, hc37, h⟩ := bn_e h
  have hF : F_x12_half s s38 := Fr.tr hF (fr_x12_taken hc37) (by decide)
  obtain ⟨hr40, h⟩ := rg_e h
  by_cases c41 : (gI s38 55) = 0
  · have h := if_t c41 h
    obtain ⟨r43, hc42, h⟩ := bn_e h
    obtain ⟨hn44, h⟩ := dv_e h
    obtain ⟨r46, hc45, h⟩ := bn_e h
    exact L43 FU p0 p1 p2 p3 r39 (Int.tdiv r43 2) (r46 - (Int.tdiv r43 2)) 0 s38 hF h
  · have h := if_f c41 h
    obtain rfl := Option.some.inj h
    exact hF
abbrev F_x12_rootSplit (s o : MS) : Prop := Fr [48, 50, 51, 52, 55, 108] [49, 54] [] [107] s o
theorem fr_x12_rootSplit {p0 : Int} {p1 : Int} {p2 : Int} {s : MS} {o : (Int × MS)} (h : m_x12_rootSplit p0 p1 p2 s = some o) : F_x12_rootSplit s o.2 := by
  have hF : F_x12_rootSplit s s := Fr.rf s
  unfold m_x12_rootSplit at h
  obtain ⟨r2, hc1, h⟩ := bn_e h
  obtain ⟨⟨r5, s4⟩, hc3, h⟩ := bn_e h
  have hF : F_x12_rootSplit s s4 := Fr.tr hF (fr_x12_taken hc3) (by decide)
  obtain ⟨hr6, h⟩ := rg_e h
  by_cases c7 : (gI s4 55) = 0
  · have h := if_t c7 h
    obtain ⟨r9, hc8, h⟩ := bn_e h
    obtain ⟨s11, hc10, h⟩ := bn_e h
    have hF : F_x12_rootSplit s s11 := Fr.tr hF (fr_x12_inserts hc10) (by decide)
    obtain ⟨hi12, h⟩ := inb_e h
    obtain ⟨s13, hs13, h⟩ := st_e h
    have hF : F_x12_rootSplit s s13 := hs13 ▸ Fr.uA hF (by decide)
    obtain ⟨⟨r16, s15⟩, hc14, h⟩ := bn_e h
    have hF : F_x12_rootSplit s s15 := Fr.tr hF (fr_x12_half hc14) (by decide)
    obtain rfl := Option.some.inj h
    exact hF
  · have h := if_f c7 h
    obtain rfl := Option.some.inj h
    exact hF
abbrev F_x12_puts (s o : MS) : Prop := Fr [48, 50, 51, 52, 53, 55, 108] [49, 54, 56] [] [107] s o
theorem fr_x12_puts {p0 : Int} {p1 : Int} {p2 : Int} {s : MS} {o : MS} (h : m_x12_puts p0 p1 p2 s = some o) : F_x12_puts s o := by
  have hF : F_x12_puts s s := Fr.rf s
  unfold m_x12_puts at h
  have J213 : ∀ (s1 : MS), F_x12_puts s s1 → m_x12_puts_J213 s1 = some o → F_x12_puts s o := by
    intro s1 hF h
    unfold m_x12_puts_J213 at h
    obtain rfl := Option.some.inj h
    exact hF
  have J198 : ∀ (x2 : Int) (x3 : Int) (x4 : Int) (s5 : MS), F_x12_puts s s5 → m_x12_puts_J198 x2 x3 x4 s5 = some o → F_x12_puts s o := by
    intro x2 x3 x4 s5 hF h
    unfold m_x12_puts_J198 at h
    obtain ⟨hr6, h⟩ := rg_e h
    by_cases c7 : (gI s5 55) = 0
    · have h := if_t c7 h
      obtain ⟨s9, hc8, h⟩ := bn_e h
      have hF : F_x12_puts s s9 := Fr.tr hF (fr_x12_putsIn hc8) (by decide)
      exact J213 s9 hF h
    · have h := if_f c7 h
      exact J213 s5 hF h
  have L94 : ∀ (n : Nat) (x10 : Int) (x11 : Int) (x12 : Int) (s13 : MS), F_x12_puts s s13 → m_x12_puts_L94 n x10 x11 x12 s13 = some o → F_x12_puts s o := by
    refine fr_ind (fun x10 x11 x12 s13 hF h => by cases h) ?_
    intro n94 ih94 x10 x11 x12 s13 hF h
    have h : m_x12_puts_b94 (m_x12_puts_L94 n94) x10 x11 x12 s13 = some o := h
    unfold m_x12_puts_b94 at h
    have J191 : ∀ (x14 : Int) (x15 : Int) (x16 : Int) (s17 : MS), F_x12_puts s s17 → m_x12_puts_J191 (m_x12_puts_L94 n94) x14 x15 x16 s17 = some o → F_x12_puts s o := by
      intro x14 x15 x16 s17 hF h
      unfold m_x12_puts_J191 at h
      exact ih94 x14 x15 x16 s17 hF h
    have J162 : ∀ (x18 : Int) (x19 : Int) (x20 : Int) (x21 : Int) (x22 : Int) (s23 : MS), F_x12_puts s s23 → m_x12_puts_J162 (m_x12_puts_L94 n94) x18 x19 x20 x21 x22 s23 = some o → F_x12_puts s o := by
      intro x18 x19 x20 x21 x22 s23 hF h
      unfold m_x12_puts_J162 at h
      obtain ⟨hr24, h⟩ := rg_e h
      by_cases c25 : (gI s23 55) = 0
      · have h := if_t c25 h
        obtain ⟨⟨r28, s27⟩, hc26, h⟩ := bn_e h
        have hF : F_x12_puts s s27 := Fr.tr hF (fr_x12_doesSplit hc26) (by decide)
        obtain ⟨hr29, h⟩ := rg_e h
        by_cases c30 : r28 = 0
        · have h := if_t c30 h
          exact J191 x18 x19 x22 s27 hF h
        · have h := if_f c30 h
          obtain ⟨⟨r33, s32⟩, hc31, h⟩ := bn_e h
          have hF : F_x12_puts s s32 := Fr.tr hF (fr_x12_half hc31) (by decide)
          exact J191 x18 x19 r33 s32 hF h
      · have h := if_f c25 h
        exact J191 x18 x19 x22 s23 hF h
    obtain ⟨hr34, h⟩ := rg_e h
    by_cases c35 : (gI s13 55) = 0
    · have h := if_t c35 h
      obtain ⟨r37, hc36, h⟩ := bn_e h
      obtain ⟨hr38, h⟩ := rg_e h
      by_cases c39 : r37 ≤ 0
      · have h := if_t c39 h
        exact J198 x10 x11 x12 s13 hF h
      · have h := if_f c39 h
        obtain ⟨r41, hc40, h⟩ := bn_e h
        obtain ⟨r43, hc42, h⟩ := bn_e h
        obtain ⟨⟨r46, s45⟩, hc44, h⟩ := bn_e h
        have hF : F_x12_puts s s45 := Fr.tr hF (fr_x12_owned hc44) (by decide)
        obtain ⟨hr47, h⟩ := rg_e h
        obtain ⟨hr48, h⟩ := rg_e h
        by_cases c49 : r46 = r43
        · have h := if_t c49 h
          exact J162 x10 x11 x12 r41 r46 s45 hF h
        · have h := if_f c49 h
          obtain ⟨r51, hc50, h⟩ := bn_e h
          obtain ⟨s53, hc52, h⟩ := bn_e h
          have hF : F_x12_puts s s53 := Fr.tr hF (fr_x12_setsEntry hc52) (by decide)
          exact J162 x10 x11 x12 r41 r46 s53 hF h
    · have h := if_f c35 h
      exact J198 x10 x11 x12 s13 hF h
  obtain ⟨y54, ey54, iy54, h⟩ := rdI_e h
  obtain ⟨hr55, h⟩ := rg_e h
  by_cases c56 : y54 = 254
  · have h := if_t c56 h
    obtain ⟨⟨r75, s74⟩, hc73, h⟩ := bn_e h
    have hF : F_x12_puts s s74 := Fr.tr hF (fr_x12_taken hc73) (by decide)
    obtain ⟨hr76, h⟩ := rg_e h
    by_cases c77 : (gI s74 55) = 0
    · have h := if_t c77 h
      obtain ⟨s79, hc78, h⟩ := bn_e h
      have hF : F_x12_puts s s79 := Fr.tr hF (fr_x12_inserts hc78) (by decide)
      obtain ⟨hi80, h⟩ := inb_e h
      obtain ⟨s81, hs81, h⟩ := st_e h
      have hF : F_x12_puts s s81 := hs81 ▸ Fr.uA hF (by decide)
      obtain rfl := Option.some.inj h
      exact hF
    · have h := if_f c77 h
      obtain rfl := Option.some.inj h
      exact hF
  · have h := if_f c56 h
    obtain ⟨y57, ey57, iy57, h⟩ := rdI_e h
    obtain ⟨⟨r60, s59⟩, hc58, h⟩ := bn_e h
    have hF : F_x12_puts s s59 := Fr.tr hF (fr_x12_owned hc58) (by decide)
    obtain ⟨hr61, h⟩ := rg_e h
    by_cases c62 : (gI s59 55) = 0
    · have h := if_t c62 h
      obtain ⟨hi63, h⟩ := inb_e h
      obtain ⟨s64, hs64, h⟩ := st_e h
      have hF : F_x12_puts s s64 := hs64 ▸ Fr.uA hF (by decide)
      obtain ⟨⟨r67, s66⟩, hc65, h⟩ := bn_e h
      have hF : F_x12_puts s s66 := Fr.tr hF (fr_x12_doesSplit hc65) (by decide)
      obtain ⟨hr68, h⟩ := rg_e h
      by_cases c69 : r67 = 0
      · have h := if_t c69 h
        exact L94 FU p1 p2 r60 s66 hF h
      · have h := if_f c69 h
        obtain ⟨⟨r72, s71⟩, hc70, h⟩ := bn_e h
        have hF : F_x12_puts s s71 := Fr.tr hF (fr_x12_rootSplit hc70) (by decide)
        exact L94 FU p1 p2 r72 s71 hF h
    · have h := if_f c62 h
      obtain rfl := Option.some.inj h
      exact hF
abbrev F_x12_tries (s o : MS) : Prop := Fr [48, 50, 51, 52, 53, 55, 108] [49, 54, 56, 57, 58, 59, 60] [] [107] s o
theorem fr_x12_tries {p0 : Int} {p1 : Int} {p2 : Int} {p3 : Int} {s : MS} {o : (Int × MS)} (h : m_x12_tries p0 p1 p2 p3 s = some o) : F_x12_tries s o.2 := by
  have hF : F_x12_tries s s := Fr.rf s
  unfold m_x12_tries at h
  have L164 : ∀ (n : Nat) (x1 : Int) (s2 : MS), F_x12_tries s s2 → m_x12_tries_L164 n x1 s2 = some o → F_x12_tries s o.2 := by
    refine fr_ind (fun x1 s2 hF h => by cases h) ?_
    intro n164 ih164 x1 s2 hF h
    have h : m_x12_tries_b164 (m_x12_tries_L164 n164) x1 s2 = some o := h
    unfold m_x12_tries_b164 at h
    obtain ⟨hr3, h⟩ := rg_e h
    by_cases c4 : 48 ≤ x1
    · have h := if_t c4 h
      obtain ⟨s5, hs5, h⟩ := st_e h
      have hF : F_x12_tries s s5 := hs5 ▸ Fr.uI hF (by decide)
      obtain rfl := Option.some.inj h
      exact hF
    · have h := if_f c4 h
      obtain ⟨y6, ey6, iy6, h⟩ := rdI_e h
      obtain ⟨hi7, h⟩ := inb_e h
      obtain ⟨hb8, h⟩ := bo_e h
      obtain ⟨s9, hs9, h⟩ := st_e h
      have hF : F_x12_tries s s9 := hs9 ▸ Fr.uA hF (by decide)
      exact ih164 (x1 + 1) s9 hF h
  have L133 : ∀ (n : Nat) (x10 : Int) (s11 : MS), F_x12_tries s s11 → m_x12_tries_L133 n x10 s11 = some o → F_x12_tries s o.2 := by
    refine fr_ind (fun x10 s11 hF h => by cases h) ?_
    intro n133 ih133 x10 s11 hF h
    have h : m_x12_tries_b133 (m_x12_tries_L133 n133) x10 s11 = some o := h
    unfold m_x12_tries_b133 at h
    obtain ⟨hr12, h⟩ := rg_e h
    by_cases c13 : 785 ≤ x10
    · have h := if_t c13 h
      exact L164 FU 0 s11 hF h
    · have h := if_f c13 h
      obtain ⟨y14, ey14, iy14, h⟩ := rdI_e h
      obtain ⟨hi15, h⟩ := inb_e h
      obtain ⟨s16, hs16, h⟩ := st_e h
      have hF : F_x12_tries s s16 := hs16 ▸ Fr.uA hF (by decide)
      exact ih133 (x10 + 1) s16 hF h
  have J121 : ∀ (s17 : MS), F_x12_tries s s17 → m_x12_tries_J121 s17 = some o → F_x12_tries s o.2 := by
    intro s17 hF h
    unfold m_x12_tries_J121 at h
    obtain ⟨hr18, h⟩ := rg_e h
    by_cases c19 : (gI s17 55) = 0
    · have h := if_t c19 h
      obtain rfl := Option.some.inj h
      exact hF
    · have h := if_f c19 h
      exact L133 FU 0 s17 hF h
  have J108 : ∀ (x20 : Int) (x21 : Int) (s22 : MS), F_x12_tries s s22 → m_x12_tries_J108 x20 x21 s22 = some o → F_x12_tries s o.2 := by
    intro x20 x21 s22 hF h
    unfold m_x12_tries_J108 at h
    obtain ⟨hr23, h⟩ := rg_e h
    by_cases c24 : (gI s22 55) = 0
    · have h := if_t c24 h
      obtain ⟨s26, hc25, h⟩ := bn_e h
      have hF : F_x12_tries s s26 := Fr.tr hF (fr_x12_removes hc25) (by decide)
      exact J121 s26 hF h
    · have h := if_f c24 h
      exact J121 s22 hF h
  have J82 : ∀ (x27 : Int) (x28 : Int) (x29 : Int) (x30 : Int) (x31 : Int) (s32 : MS), F_x12_tries s s32 → m_x12_tries_J82 x27 x28 x29 x30 x31 s32 = some o → F_x12_tries s o.2 := by
    intro x27 x28 x29 x30 x31 s32 hF h
    unfold m_x12_tries_J82 at h
    obtain ⟨hb33, h⟩ := bo_e h
    obtain ⟨s34, hs34, h⟩ := st_e h
    have hF : F_x12_tries s s34 := hs34 ▸ Fr.uI hF (by decide)
    obtain ⟨hr35, h⟩ := rg_e h
    by_cases c36 : (gI s34 55) = 0
    · have h := if_t c36 h
      obtain ⟨hr37, h⟩ := rg_e h
      by_cases c38 : x27 = 2
      · have h := if_t c38 h
        obtain ⟨s40, hc39, h⟩ := bn_e h
        have hF : F_x12_tries s s40 := Fr.tr hF (fr_x12_puts hc39) (by decide)
        exact J121 s40 hF h
      · have h := if_f c38 h
        exact J108 x28 x29 s34 hF h
    · have h := if_f c36 h
      exact J108 x28 x29 s34 hF h
  have J81 : ∀ (x41 : Int) (x42 : Int) (x43 : Int) (x44 : Int) (s45 : MS), F_x12_tries s s45 → m_x12_tries_J81 x41 x42 x43 x44 s45 = some o → F_x12_tries s o.2 := by
    intro x41 x42 x43 x44 s45 hF h
    unfold m_x12_tries_J81 at h
    exact J82 x41 x42 x43 x44 0 s45 hF h
  have L34 : ∀ (n : Nat) (x46 : Int) (x47 : Int) (x48 : Int) (x49 : Int) (x50 : Int) (s51 : MS), F_x12_tries s s51 → m_x12_tries_L34 n x46 x47 x48 x49 x50 s51 = some o → F_x12_tries s o.2 := by
    refine fr_ind (fun x46 x47 x48 x49 x50 s51 hF h => by cases h) ?_
    intro n34 ih34 x46 x47 x48 x49 x50 s51 hF h
    have h : m_x12_tries_b34 (m_x12_tries_L34 n34) x46 x47 x48 x49 x50 s51 = some o := h
    unfold m_x12_tries_b34 at h
    obtain ⟨hr52, h⟩ := rg_e h
    by_cases c53 : 48 ≤ x50
    · have h := if_t c53 h
      obtain ⟨hr54, h⟩ := rg_e h
      by_cases c55 : x46 = 3
      · have h := if_t c55 h
        obtain ⟨r57, hc56, h⟩ := bn_e h
        obtain ⟨hr58, h⟩ := rg_e h
        by_cases c59 : r57 = (-1)
        · have h := if_t c59 h
          exact J82 x46 x47 x48 x49 1 s51 hF h
        · have h := if_f c59 h
          exact J81 x46 x47 x48 x49 s51 hF h
      · have h := if_f c55 h
        exact J81 x46 x47 x48 x49 s51 hF h
    · have h := if_f c53 h
      obtain ⟨y60, ey60, iy60, h⟩ := rdI_e h
      obtain ⟨hi61, h⟩ := inb_e h
      obtain ⟨hb62, h⟩ := bo_e h
      obtain ⟨s63, hs63, h⟩ := st_e h
      have hF : F_x12_tries s s63 := hs63 ▸ Fr.uA hF (by decide)
      exact ih34 x46 x47 x48 x49 (x50 + 1) s63 hF h
  have L3 : ∀ (n : Nat) (x64 : Int) (x65 : Int) (x66 : Int) (x67 : Int) (x68 : Int) (s69 : MS), F_x12_tries s s69 → m_x12_tries_L3 n x64 x65 x66 x67 x68 s69 = some o → F_x12_tries s o.2 := by
    refine fr_ind (fun x64 x65 x66 x67 x68 s69 hF h => by cases h) ?_
    intro n3 ih3 x64 x65 x66 x67 x68 s69 hF h
    have h : m_x12_tries_b3 (m_x12_tries_L3 n3) x64 x65 x66 x67 x68 s69 = some o := h
    unfold m_x12_tries_b3 at h
    obtain ⟨hr70, h⟩ := rg_e h
    by_cases c71 : 785 ≤ x68
    · have h := if_t c71 h
      exact L34 FU x64 x65 x66 x67 0 s69 hF h
    · have h := if_f c71 h
      obtain ⟨y72, ey72, iy72, h⟩ := rdI_e h
      obtain ⟨hi73, h⟩ := inb_e h
      obtain ⟨s74, hs74, h⟩ := st_e h
      have hF : F_x12_tries s s74 := hs74 ▸ Fr.uA hF (by decide)
      exact ih3 x64 x65 x66 x67 (x68 + 1) s74 hF h
  exact L3 FU p0 p1 p2 p3 0 s hF h
abbrev F_x12_copies (s o : MS) : Prop := Fr [] [49] [] [] s o
theorem fr_x12_copies {p0 : Int} {p1 : Int} {s : MS} {o : MS} (h : m_x12_copies p0 p1 s = some o) : F_x12_copies s o := by
  have hF : F_x12_copies s s := Fr.rf s
  unfold m_x12_copies at h
  have J35 : ∀ (s1 : MS), F_x12_copies s s1 → m_x12_copies_J35 s1 = some o → F_x12_copies s o := by
    intro s1 hF h
    unfold m_x12_copies_J35 at h
    obtain rfl := Option.some.inj h
    exact hF
  obtain ⟨y2, ey2, iy2, h⟩ := rdI_e h
  obtain ⟨hi3, h⟩ := inb_e h
  obtain ⟨s4, hs4, h⟩ := st_e h
  have hF : F_x12_copies s s4 := hs4 ▸ Fr.uA hF (by decide)
  obtain ⟨y5, ey5, iy5, h⟩ := rdI_e h
  obtain ⟨hr6, h⟩ := rg_e h
  by_cases c7 : y5 = 254
  · have h := if_t c7 h
    exact J35 s4 hF h
  · have h := if_f c7 h
    obtain ⟨y8, ey8, iy8, h⟩ := rdI_e h
    obtain ⟨s10, hc9, h⟩ := bn_e h
    have hF : F_x12_copies s s10 := Fr.tr hF (fr_x12_counts hc9) (by decide)
    exact J35 s10 hF h
abbrev F_x12_actGoes (s o : MS) : Prop := Fr [48, 50, 51, 52, 53, 55, 108] [49, 54, 56, 57, 58, 59, 60] [] [107] s o
theorem fr_x12_actGoes {p0 : Int} {p1 : Int} {p2 : Int} {p3 : Int} {s : MS} {o : MS} (h : m_x12_actGoes p0 p1 p2 p3 s = some o) : F_x12_actGoes s o := by
  have hF : F_x12_actGoes s s := Fr.rf s
  unfold m_x12_actGoes at h
  have J40 : ∀ (s1 : MS), F_x12_actGoes s s1 → m_x12_actGoes_J40 s1 = some o → F_x12_actGoes s o := by
    intro s1 hF h
    unfold m_x12_actGoes_J40 at h
    obtain rfl := Option.some.inj h
    exact hF
  obtain ⟨hr2, h⟩ := rg_e h
  by_cases c3 : p0 = 0
  · have h := if_t c3 h
    obtain ⟨hi11, h⟩ := inb_e h
    obtain ⟨s12, hs12, h⟩ := st_e h
    have hF : F_x12_actGoes s s12 := hs12 ▸ Fr.uA hF (by decide)
    exact J40 s12 hF h
  · have h := if_f c3 h
    obtain ⟨hr4, h⟩ := rg_e h
    by_cases c5 : p0 = 1
    · have h := if_t c5 h
      obtain ⟨s10, hc9, h⟩ := bn_e h
      have hF : F_x12_actGoes s s10 := Fr.tr hF (fr_x12_copies hc9) (by decide)
      exact J40 s10 hF h
    · have h := if_f c5 h
      obtain ⟨⟨r8, s7⟩, hc6, h⟩ := bn_e h
      have hF : F_x12_actGoes s s7 := Fr.tr hF (fr_x12_tries hc6) (by decide)
      exact J40 s7 hF h
abbrev F_x12_stands (s o : MS) : Prop := Fr [47, 48, 50, 51, 52, 53, 55, 73, 76, 108] [39, 42, 43, 44, 49, 54, 56, 57, 58, 59, 60] [] [40, 107] s o
theorem fr_x12_stands {s : MS} {o : MS} (h : m_x12_stands s = some o) : F_x12_stands s o := by
  have hF : F_x12_stands s s := Fr.rf s
  unfold m_x12_stands at h
  have L193 : ∀ (n : Nat) (x1 : Int) (s2 : MS), F_x12_stands s s2 → m_x12_stands_L193 n x1 s2 = some o → F_x12_stands s o := by
    refine fr_ind (fun x1 s2 hF h => by cases h) ?_
    intro n193 ih193 x1 s2 hF h
    have h : m_x12_stands_b193 (m_x12_stands_L193 n193) x1 s2 = some o := h
    unfold m_x12_stands_b193 at h
    obtain ⟨y3, ey3, iy3, h⟩ := rdI_e h
    obtain ⟨hr4, h⟩ := rg_e h
    obtain ⟨hr5, h⟩ := rg_e h
    by_cases c6 : y3 ≤ x1
    · have h := if_t c6 h
      obtain ⟨s8, hc7, h⟩ := bn_e h
      have hF : F_x12_stands s s8 := Fr.tr hF (fr_x12_checks hc7) (by decide)
      obtain ⟨hi9, h⟩ := inb_e h
      obtain ⟨s10, hs10, h⟩ := st_e h
      have hF : F_x12_stands s s10 := hs10 ▸ Fr.uA hF (by decide)
      obtain ⟨s11, hs11, h⟩ := st_e h
      have hF : F_x12_stands s s11 := hs11 ▸ Fr.uI hF (by decide)
      obtain ⟨s12, hs12, h⟩ := st_e h
      have hF : F_x12_stands s s12 := hs12 ▸ Fr.uI hF (by decide)
      obtain rfl := Option.some.inj h
      exact hF
    · have h := if_f c6 h
      obtain ⟨y13, ey13, iy13, h⟩ := rdI_e h
      obtain ⟨y14, ey14, iy14, h⟩ := rdI_e h
      obtain ⟨y15, ey15, iy15, h⟩ := rdI_e h
      obtain ⟨y16, ey16, iy16, h⟩ := rdI_e h
      obtain ⟨s18, hc17, h⟩ := bn_e h
      have hF : F_x12_stands s s18 := Fr.tr hF (fr_x12_actGoes hc17) (by decide)
      exact ih193 (x1 + 1) s18 hF h
  have L158 : ∀ (n : Nat) (x19 : Int) (s20 : MS), F_x12_stands s s20 → m_x12_stands_L158 n x19 s20 = some o → F_x12_stands s o := by
    refine fr_ind (fun x19 s20 hF h => by cases h) ?_
    intro n158 ih158 x19 s20 hF h
    have h : m_x12_stands_b158 (m_x12_stands_L158 n158) x19 s20 = some o := h
    unfold m_x12_stands_b158 at h
    obtain ⟨hr21, h⟩ := rg_e h
    by_cases c22 : 8 ≤ x19
    · have h := if_t c22 h
      exact L193 FU 0 s20 hF h
    · have h := if_f c22 h
      obtain ⟨hi23, h⟩ := inb_e h
      obtain ⟨s24, hs24, h⟩ := st_e h
      have hF : F_x12_stands s s24 := hs24 ▸ Fr.uA hF (by decide)
      obtain ⟨hi25, h⟩ := inb_e h
      obtain ⟨s26, hs26, h⟩ := st_e h
      have hF : F_x12_stands s s26 := hs26 ▸ Fr.uA hF (by decide)
      exact ih158 (x19 + 1) s26 hF h
  have L136 : ∀ (n : Nat) (x27 : Int) (s28 : MS), F_x12_stands s s28 → m_x12_stands_L136 n x27 s28 = some o → F_x12_stands s o := by
    refine fr_ind (fun x27 s28 hF h => by cases h) ?_
    intro n136 ih136 x27 s28 hF h
    have h : m_x12_stands_b136 (m_x12_stands_L136 n136) x27 s28 = some o := h
    unfold m_x12_stands_b136 at h
    obtain ⟨hr29, h⟩ := rg_e h
    by_cases c30 : 906 ≤ x27
    · have h := if_t c30 h
      exact L158 FU 0 s28 hF h
    · have h := if_f c30 h
      obtain ⟨hi31, h⟩ := inb_e h
      obtain ⟨s32, hs32, h⟩ := st_e h
      have hF : F_x12_stands s s32 := hs32 ▸ Fr.uA hF (by decide)
      exact ih136 (x27 + 1) s32 hF h
  have L104 : ∀ (n : Nat) (x33 : Int) (s34 : MS), F_x12_stands s s34 → m_x12_stands_L104 n x33 s34 = some o → F_x12_stands s o := by
    refine fr_ind (fun x33 s34 hF h => by cases h) ?_
    intro n104 ih104 x33 s34 hF h
    have h : m_x12_stands_b104 (m_x12_stands_L104 n104) x33 s34 = some o := h
    unfold m_x12_stands_b104 at h
    obtain ⟨hr35, h⟩ := rg_e h
    obtain ⟨hr36, h⟩ := rg_e h
    by_cases c37 : (gI s34 45) ≤ x33
    · have h := if_t c37 h
      exact L136 FU 0 s34 hF h
    · have h := if_f c37 h
      obtain ⟨y38, ey38, iy38, h⟩ := rdI_e h
      obtain ⟨hi39, h⟩ := inb_e h
      obtain ⟨s40, hs40, h⟩ := st_e h
      have hF : F_x12_stands s s40 := hs40 ▸ Fr.uA hF (by decide)
      exact ih104 (x33 + 1) s40 hF h
  have L75 : ∀ (n : Nat) (x41 : Int) (s42 : MS), F_x12_stands s s42 → m_x12_stands_L75 n x41 s42 = some o → F_x12_stands s o := by
    refine fr_ind (fun x41 s42 hF h => by cases h) ?_
    intro n75 ih75 x41 s42 hF h
    have h : m_x12_stands_b75 (m_x12_stands_L75 n75) x41 s42 = some o := h
    unfold m_x12_stands_b75 at h
    obtain ⟨hr43, h⟩ := rg_e h
    by_cases c44 : 8 ≤ x41
    · have h := if_t c44 h
      exact L104 FU 0 s42 hF h
    · have h := if_f c44 h
      obtain ⟨yl45, eyl45, iyl45, h⟩ := rdL_e h
      obtain ⟨hi46, h⟩ := inb_e h
      obtain ⟨s47, hs47, h⟩ := st_e h
      have hF : F_x12_stands s s47 := hs47 ▸ Fr.uB hF (by decide)
      exact ih75 (x41 + 1) s47 hF h
  have L34 : ∀ (n : Nat) (x48 : Int) (s49 : MS), F_x12_stands s s49 → m_x12_stands_L34 n x48 s49 = some o → F_x12_stands s o := by
    refine fr_ind (fun x48 s49 hF h => by cases h) ?_
    intro n34 ih34 x48 s49 hF h
    have h : m_x12_stands_b34 (m_x12_stands_L34 n34) x48 s49 = some o := h
    unfold m_x12_stands_b34 at h
    obtain ⟨hr50, h⟩ := rg_e h
    by_cases c51 : 3 ≤ x48
    · have h := if_t c51 h
      exact L75 FU 0 s49 hF h
    · have h := if_f c51 h
      obtain ⟨y52, ey52, iy52, h⟩ := rdI_e h
      obtain ⟨hi53, h⟩ := inb_e h
      obtain ⟨s54, hs54, h⟩ := st_e h
      have hF : F_x12_stands s s54 := hs54 ▸ Fr.uA hF (by decide)
      obtain ⟨y55, ey55, iy55, h⟩ := rdI_e h
      obtain ⟨hi56, h⟩ := inb_e h
      obtain ⟨s57, hs57, h⟩ := st_e h
      have hF : F_x12_stands s s57 := hs57 ▸ Fr.uA hF (by decide)
      exact ih34 (x48 + 1) s57 hF h
  have L7 : ∀ (n : Nat) (x58 : Int) (s59 : MS), F_x12_stands s s59 → m_x12_stands_L7 n x58 s59 = some o → F_x12_stands s o := by
    refine fr_ind (fun x58 s59 hF h => by cases h) ?_
    intro n7 ih7 x58 s59 hF h
    have h : m_x12_stands_b7 (m_x12_stands_L7 n7) x58 s59 = some o := h
    unfold m_x12_stands_b7 at h
    obtain ⟨hr60, h⟩ := rg_e h
    by_cases c61 : 5 ≤ x58
    · have h := if_t c61 h
      exact L34 FU 0 s59 hF h
    · have h := if_f c61 h
      obtain ⟨y62, ey62, iy62, h⟩ := rdI_e h
      obtain ⟨hi63, h⟩ := inb_e h
      obtain ⟨s64, hs64, h⟩ := st_e h
      have hF : F_x12_stands s s64 := hs64 ▸ Fr.uA hF (by decide)
      exact ih7 (x58 + 1) s64 hF h
  obtain ⟨s65, hs65, h⟩ := st_e h
  have hF : F_x12_stands s s65 := hs65 ▸ Fr.uI hF (by decide)
  exact L7 FU 0 s65 hF h
abbrev F_x12_refuses (s o : MS) : Prop := Fr [] [9] [] [] s o
theorem fr_x12_refuses {p0 : Int} {s : MS} {o : (Int × MS)} (h : m_x12_refuses p0 s = some o) : F_x12_refuses s o.2 := by
  have hF : F_x12_refuses s s := Fr.rf s
  unfold m_x12_refuses at h
  obtain ⟨y1, ey1, iy1, h⟩ := rdI_e h
  obtain ⟨hi2, h⟩ := inb_e h
  obtain ⟨s3, hs3, h⟩ := st_e h
  have hF : F_x12_refuses s s3 := hs3 ▸ Fr.uA hF (by decide)
  obtain rfl := Option.some.inj h
  exact hF
abbrev F_x12_store (s o : MS) : Prop := Fr [1, 2, 3, 4, 5, 6, 7, 8, 10, 38, 45, 46, 47, 48, 50, 51, 52, 53, 55, 73, 76, 102, 104, 105, 106, 108] [9, 39, 41, 42, 43, 44, 49, 54, 56, 57, 58, 59, 60, 101, 103] [] [40, 107] s o
theorem fr_x12_store {s : MS} {o : (Int × MS)} (h : m_x12_store s = some o) : F_x12_store s o.2 := by
  have hF : F_x12_store s s := Fr.rf s
  unfold m_x12_store at h
  have J109 : ∀ (s1 : MS), F_x12_store s s1 → m_x12_store_J109 s1 = some o → F_x12_store s o.2 := by
    intro s1 hF h
    unfold m_x12_store_J109 at h
    obtain ⟨s2, hs2, h⟩ := st_e h
    have hF : F_x12_store s s2 := hs2 ▸ Fr.uI hF (by decide)
    obtain ⟨s3, hs3, h⟩ := st_e h
    have hF : F_x12_store s s3 := hs3 ▸ Fr.uI hF (by decide)
    obtain ⟨hr4, h⟩ := rg_e h
    by_cases c5 : (gI s3 5) = 0
    · have h := if_t c5 h
      obtain ⟨s7, hc6, h⟩ := bn_e h
      have hF : F_x12_store s s7 := Fr.tr hF (fr_x12_stands hc6) (by decide)
      obtain rfl := Option.some.inj h
      exact hF
    · have h := if_f c5 h
      obtain ⟨⟨r10, s9⟩, hc8, h⟩ := bn_e h
      have hF : F_x12_store s s9 := Fr.tr hF (fr_x12_refuses hc8) (by decide)
      obtain rfl := Option.some.inj h
      exact hF
  have L87 : ∀ (n : Nat) (s11 : MS), F_x12_store s s11 → m_x12_store_L87 n s11 = some o → F_x12_store s o.2 := by
    refine fr_ind (fun s11 hF h => by cases h) ?_
    intro n87 ih87 s11 hF h
    have h : m_x12_store_b87 (m_x12_store_L87 n87) s11 = some o := h
    unfold m_x12_store_b87 at h
    obtain ⟨hr12, h⟩ := rg_e h
    by_cases c13 : (gI s11 5) = 0
    · have h := if_t c13 h
      obtain ⟨⟨r16, s15⟩, hc14, h⟩ := bn_e h
      have hF : F_x12_store s s15 := Fr.tr hF (fr_x12_look hc14) (by decide)
      obtain ⟨hr17, h⟩ := rg_e h
      by_cases c18 : r16 = (-1)
      · have h := if_t c18 h
        exact J109 s15 hF h
      · have h := if_f c18 h
        obtain ⟨s20, hc19, h⟩ := bn_e h
        have hF : F_x12_store s s20 := Fr.tr hF (fr_x12_statementTold hc19) (by decide)
        exact ih87 s20 hF h
    · have h := if_f c13 h
      exact J109 s11 hF h
  have L60 : ∀ (n : Nat) (x21 : Int) (s22 : MS), F_x12_store s s22 → m_x12_store_L60 n x21 s22 = some o → F_x12_store s o.2 := by
    refine fr_ind (fun x21 s22 hF h => by cases h) ?_
    intro n60 ih60 x21 s22 hF h
    have h : m_x12_store_b60 (m_x12_store_L60 n60) x21 s22 = some o := h
    unfold m_x12_store_b60 at h
    obtain ⟨hr23, h⟩ := rg_e h
    by_cases c24 : 3 ≤ x21
    · have h := if_t c24 h
      obtain ⟨s26, hc25, h⟩ := bn_e h
      have hF : F_x12_store s s26 := Fr.tr hF (fr_x12_storeTold hc25) (by decide)
      obtain ⟨s27, hs27, h⟩ := st_e h
      have hF : F_x12_store s s27 := hs27 ▸ Fr.uI hF (by decide)
      exact L87 FU s27 hF h
    · have h := if_f c24 h
      obtain ⟨hi28, h⟩ := inb_e h
      obtain ⟨s29, hs29, h⟩ := st_e h
      have hF : F_x12_store s s29 := hs29 ▸ Fr.uA hF (by decide)
      exact ih60 (x21 + 1) s29 hF h
  have L40 : ∀ (n : Nat) (x30 : Int) (s31 : MS), F_x12_store s s31 → m_x12_store_L40 n x30 s31 = some o → F_x12_store s o.2 := by
    refine fr_ind (fun x30 s31 hF h => by cases h) ?_
    intro n40 ih40 x30 s31 hF h
    have h : m_x12_store_b40 (m_x12_store_L40 n40) x30 s31 = some o := h
    unfold m_x12_store_b40 at h
    obtain ⟨hr32, h⟩ := rg_e h
    by_cases c33 : 5 ≤ x30
    · have h := if_t c33 h
      exact L60 FU 0 s31 hF h
    · have h := if_f c33 h
      obtain ⟨hi34, h⟩ := inb_e h
      obtain ⟨s35, hs35, h⟩ := st_e h
      have hF : F_x12_store s s35 := hs35 ▸ Fr.uA hF (by decide)
      exact ih40 (x30 + 1) s35 hF h
  obtain ⟨s36, hs36, h⟩ := st_e h
  have hF : F_x12_store s s36 := hs36 ▸ Fr.uI hF (by decide)
  obtain ⟨s37, hs37, h⟩ := st_e h
  have hF : F_x12_store s s37 := hs37 ▸ Fr.uI hF (by decide)
  obtain ⟨s38, hs38, h⟩ := st_e h
  have hF : F_x12_store s s38 := hs38 ▸ Fr.uI hF (by decide)
  obtain ⟨s39, hs39, h⟩ := st_e h
  have hF : F_x12_store s s39 := hs39 ▸ Fr.uI hF (by decide)
  obtain ⟨s40, hs40, h⟩ := st_e h
  have hF : F_x12_store s s40 := hs40 ▸ Fr.uI hF (by decide)
  obtain ⟨s41, hs41, h⟩ := st_e h
  have hF : F_x12_store s s41 := hs41 ▸ Fr.uI hF (by decide)
  obtain ⟨s42, hs42, h⟩ := st_e h
  have hF : F_x12_store s s42 := hs42 ▸ Fr.uI hF (by decide)
  exact L40 FU 0 s42 hF h
abbrev F_x12_clearsTouched (s o : MS) : Prop := Fr [] [54] [] [] s o
theorem fr_x12_clearsTouched {s : MS} {o : MS} (h : m_x12_clearsTouched s = some o) : F_x12_clearsTouched s o := by
  have hF : F_x12_clearsTouched s s := Fr.rf s
  unfold m_x12_clearsTouched at h
  have L2 : ∀ (n : Nat) (x1 : Int) (s2 : MS), F_x12_clearsTouched s s2 → m_x12_clearsTouched_L2 n x1 s2 = some o → F_x12_clearsTouched s o := by
    refine fr_ind (fun x1 s2 hF h => by cases h) ?_
    intro n2 ih2 x1 s2 hF h
    have h : m_x12_clearsTouched_b2 (m_x12_clearsTouched_L2 n2) x1 s2 = some o := h
    unfold m_x12_clearsTouched_b2 at h
    obtain ⟨hr3, h⟩ := rg_e h
    by_cases c4 : 48 ≤ x1
    · have h := if_t c4 h
      obtain rfl := Option.some.inj h
      exact hF
    · have h := if_f c4 h
      obtain ⟨hi5, h⟩ := inb_e h
      obtain ⟨hb6, h⟩ := bo_e h
      obtain ⟨s7, hs7, h⟩ := st_e h
      have hF : F_x12_clearsTouched s s7 := hs7 ▸ Fr.uA hF (by decide)
      exact ih2 (x1 + 1) s7 hF h
  exact L2 FU 0 s hF h
abbrev F_x12_costOf (s o : MS) : Prop := Fr [48, 50, 52, 53, 108] [] [] [107] s o
theorem fr_x12_costOf {p0 : Int} {s : MS} {o : (Int × MS)} (h : m_x12_costOf p0 s = some o) : F_x12_costOf s o.2 := by
  have hF : F_x12_costOf s s := Fr.rf s
  unfold m_x12_costOf at h
  have J43 : ∀ (x1 : Int) (s2 : MS), F_x12_costOf s s2 → m_x12_costOf_J43 x1 s2 = some o → F_x12_costOf s o.2 := by
    intro x1 s2 hF h
    unfold m_x12_costOf_J43 at h
    obtain rfl := Option.some.inj h
    exact hF
  obtain ⟨s3, hs3, h⟩ := st_e h
  have hF : F_x12_costOf s s3 := hs3 ▸ Fr.uI hF (by decide)
  obtain ⟨r5, hc4, h⟩ := bn_e h
  obtain ⟨s6, hs6, h⟩ := st_e h
  have hF : F_x12_costOf s s6 := hs6 ▸ Fr.uI hF (by decide)
  obtain ⟨r8, hc7, h⟩ := bn_e h
  obtain ⟨s9, hs9, h⟩ := st_e h
  have hF : F_x12_costOf s s9 := hs9 ▸ Fr.uI hF (by decide)
  obtain ⟨r11, hc10, h⟩ := bn_e h
  obtain ⟨hr12, h⟩ := rg_e h
  by_cases c13 : r11 = 0
  · have h := if_t c13 h
    exact J43 1 s9 hF h
  · have h := if_f c13 h
    obtain ⟨⟨rl16, s15⟩, hc14, h⟩ := bn_e h
    have hF : F_x12_costOf s s15 := Fr.tr hF (fr_x12_codesTell hc14) (by decide)
    obtain ⟨r18, hc17, h⟩ := bn_e h
    exact J43 r18 s15 hF h
abbrev F_x12_writtenCost (s o : MS) : Prop := Fr [48, 50, 52, 53, 108] [] [] [107] s o
theorem fr_x12_writtenCost {s : MS} {o : (Int × MS)} (h : m_x12_writtenCost s = some o) : F_x12_writtenCost s o.2 := by
  have hF : F_x12_writtenCost s s := Fr.rf s
  unfold m_x12_writtenCost at h
  have L4 : ∀ (n : Nat) (x1 : Int) (x2 : Int) (s3 : MS), F_x12_writtenCost s s3 → m_x12_writtenCost_L4 n x1 x2 s3 = some o → F_x12_writtenCost s o.2 := by
    refine fr_ind (fun x1 x2 s3 hF h => by cases h) ?_
    intro n4 ih4 x1 x2 s3 hF h
    have h : m_x12_writtenCost_b4 (m_x12_writtenCost_L4 n4) x1 x2 s3 = some o := h
    unfold m_x12_writtenCost_b4 at h
    have J37 : ∀ (x4 : Int) (x5 : Int) (s6 : MS), F_x12_writtenCost s s6 → m_x12_writtenCost_J37 (m_x12_writtenCost_L4 n4) x4 x5 s6 = some o → F_x12_writtenCost s o.2 := by
      intro x4 x5 s6 hF h
      unfold m_x12_writtenCost_J37 at h
      exact ih4 x4 (x5 + 1) s6 hF h
    obtain ⟨r8, hc7, h⟩ := bn_e h
    obtain ⟨hr9, h⟩ := rg_e h
    obtain ⟨hr10, h⟩ := rg_e h
    by_cases c11 : r8 ≤ x2
    · have h := if_t c11 h
      obtain rfl := Option.some.inj h
      exact hF
    · have h := if_f c11 h
      obtain ⟨y12, ey12, iy12, h⟩ := rdI_e h
      obtain ⟨hr13, h⟩ := rg_e h
      by_cases c14 : y12 = 0
      · have h := if_t c14 h
        exact J37 x1 x2 s3 hF h
      · have h := if_f c14 h
        obtain ⟨r16, hc15, h⟩ := bn_e h
        obtain ⟨hr17, h⟩ := rg_e h
        by_cases c18 : r16 = 0
        · have h := if_t c18 h
          exact J37 x1 x2 s3 hF h
        · have h := if_f c18 h
          obtain ⟨⟨r21, s20⟩, hc19, h⟩ := bn_e h
          have hF : F_x12_writtenCost s s20 := Fr.tr hF (fr_x12_costOf hc19) (by decide)
          exact J37 (x1 + r21) x2 s20 hF h
  exact L4 FU 0 0 s hF h
abbrev F_x12_isKept (s o : MS) : Prop := Fr [48, 50, 52, 53, 108] [49] [] [107] s o
theorem fr_x12_isKept {p0 : Int} {p1 : Int} {s : MS} {o : MS} (h : m_x12_isKept p0 p1 s = some o) : F_x12_isKept s o := by
  have hF : F_x12_isKept s s := Fr.rf s
  unfold m_x12_isKept at h
  have J105 : ∀ (x1 : Int) (x2 : Int) (x3 : Int) (s4 : MS), F_x12_isKept s s4 → m_x12_isKept_J105 x1 x2 x3 s4 = some o → F_x12_isKept s o := by
    intro x1 x2 x3 s4 hF h
    unfold m_x12_isKept_J105 at h
    obtain ⟨y5, ey5, iy5, h⟩ := rdI_e h
    obtain ⟨hi6, h⟩ := inb_e h
    obtain ⟨s7, hs7, h⟩ := st_e h
    have hF : F_x12_isKept s s7 := hs7 ▸ Fr.uA hF (by decide)
    obtain ⟨hi8, h⟩ := inb_e h
    obtain ⟨s9, hs9, h⟩ := st_e h
    have hF : F_x12_isKept s s9 := hs9 ▸ Fr.uA hF (by decide)
    obtain ⟨hi10, h⟩ := inb_e h
    obtain ⟨s11, hs11, h⟩ := st_e h
    have hF : F_x12_isKept s s11 := hs11 ▸ Fr.uA hF (by decide)
    obtain rfl := Option.some.inj h
    exact hF
  have L60 : ∀ (n : Nat) (x12 : Int) (x13 : Int) (x14 : Int) (x15 : Int) (s16 : MS), F_x12_isKept s s16 → m_x12_isKept_L60 n x12 x13 x14 x15 s16 = some o → F_x12_isKept s o := by
    refine fr_ind (fun x12 x13 x14 x15 s16 hF h => by cases h) ?_
    intro n60 ih60 x12 x13 x14 x15 s16 hF h
    have h : m_x12_isKept_b60 (m_x12_isKept_L60 n60) x12 x13 x14 x15 s16 = some o := h
    unfold m_x12_isKept_b60 at h
    obtain ⟨hr17, h⟩ := rg_e h
    by_cases c18 : 903 ≤ x15
    · have h := if_t c18 h
      exact J105 x12 x13 x14 s16 hF h
    · have h := if_f c18 h
      obtain ⟨y19, ey19, iy19, h⟩ := rdI_e h
      obtain ⟨hi20, h⟩ := inb_e h
      obtain ⟨s21, hs21, h⟩ := st_e h
      have hF : F_x12_isKept s s21 := hs21 ▸ Fr.uA hF (by decide)
      exact ih60 x12 x13 x14 (x15 + 1) s21 hF h
  have J42 : ∀ (x22 : Int) (x23 : Int) (x24 : Int) (s25 : MS), F_x12_isKept s s25 → m_x12_isKept_J42 x22 x23 x24 s25 = some o → F_x12_isKept s o := by
    intro x22 x23 x24 s25 hF h
    unfold m_x12_isKept_J42 at h
    obtain ⟨y26, ey26, iy26, h⟩ := rdI_e h
    obtain ⟨hr27, h⟩ := rg_e h
    by_cases c28 : y26 = 40
    · have h := if_t c28 h
      exact L60 FU x22 x23 x24 786 s25 hF h
    · have h := if_f c28 h
      obtain ⟨y29, ey29, iy29, h⟩ := rdI_e h
      obtain ⟨hi30, h⟩ := inb_e h
      obtain ⟨s31, hs31, h⟩ := st_e h
      have hF : F_x12_isKept s s31 := hs31 ▸ Fr.uA hF (by decide)
      exact J105 x22 x23 x24 s31 hF h
  obtain ⟨r33, hc32, h⟩ := bn_e h
  obtain ⟨y34, ey34, iy34, h⟩ := rdI_e h
  obtain ⟨⟨r37, s36⟩, hc35, h⟩ := bn_e h
  have hF : F_x12_isKept s s36 := Fr.tr hF (fr_x12_writtenCost hc35) (by decide)
  obtain ⟨hi38, h⟩ := inb_e h
  obtain ⟨s39, hs39, h⟩ := st_e h
  have hF : F_x12_isKept s s39 := hs39 ▸ Fr.uA hF (by decide)
  obtain ⟨y40, ey40, iy40, h⟩ := rdI_e h
  obtain ⟨hr41, h⟩ := rg_e h
  by_cases c42 : y40 ≤ 999999
  · have h := if_t c42 h
    exact J42 p0 p1 r33 s39 hF h
  · have h := if_f c42 h
    obtain ⟨hi43, h⟩ := inb_e h
    obtain ⟨s44, hs44, h⟩ := st_e h
    have hF : F_x12_isKept s s44 := hs44 ▸ Fr.uA hF (by decide)
    exact J42 p0 p1 r33 s44 hF h
abbrev F_x12_drops (s o : MS) : Prop := Fr [] [49, 56] [] [] s o
theorem fr_x12_drops {p0 : Int} {s : MS} {o : MS} (h : m_x12_drops p0 s = some o) : F_x12_drops s o := by
  have hF : F_x12_drops s s := Fr.rf s
  unfold m_x12_drops at h
  have J22 : ∀ (x1 : Int) (s2 : MS), F_x12_drops s s2 → m_x12_drops_J22 x1 s2 = some o → F_x12_drops s o := by
    intro x1 s2 hF h
    unfold m_x12_drops_J22 at h
    obtain ⟨hi3, h⟩ := inb_e h
    obtain ⟨s4, hs4, h⟩ := st_e h
    have hF : F_x12_drops s s4 := hs4 ▸ Fr.uA hF (by decide)
    obtain rfl := Option.some.inj h
    exact hF
  obtain ⟨y5, ey5, iy5, h⟩ := rdI_e h
  obtain ⟨hr6, h⟩ := rg_e h
  by_cases c7 : y5 = 254
  · have h := if_t c7 h
    exact J22 p0 s hF h
  · have h := if_f c7 h
    obtain ⟨y8, ey8, iy8, h⟩ := rdI_e h
    obtain ⟨s10, hc9, h⟩ := bn_e h
    have hF : F_x12_drops s s10 := Fr.tr hF (fr_x12_falls hc9) (by decide)
    exact J22 p0 s10 hF h
abbrev F_x12_crashes (s o : MS) : Prop := Fr [] [49] [] [] s o
theorem fr_x12_crashes {s : MS} {o : MS} (h : m_x12_crashes s = some o) : F_x12_crashes s o := by
  have hF : F_x12_crashes s s := Fr.rf s
  unfold m_x12_crashes at h
  have L31 : ∀ (n : Nat) (x1 : Int) (s2 : MS), F_x12_crashes s s2 → m_x12_crashes_L31 n x1 s2 = some o → F_x12_crashes s o := by
    refine fr_ind (fun x1 s2 hF h => by cases h) ?_
    intro n31 ih31 x1 s2 hF h
    have h : m_x12_crashes_b31 (m_x12_crashes_L31 n31) x1 s2 = some o := h
    unfold m_x12_crashes_b31 at h
    obtain ⟨hr3, h⟩ := rg_e h
    by_cases c4 : 48 ≤ x1
    · have h := if_t c4 h
      obtain rfl := Option.some.inj h
      exact hF
    · have h := if_f c4 h
      obtain ⟨r6, hc5, h⟩ := bn_e h
      obtain ⟨hi7, h⟩ := inb_e h
      obtain ⟨s8, hs8, h⟩ := st_e h
      have hF : F_x12_crashes s s8 := hs8 ▸ Fr.uA hF (by decide)
      exact ih31 (x1 + 1) s8 hF h
  have L2 : ∀ (n : Nat) (x9 : Int) (s10 : MS), F_x12_crashes s s10 → m_x12_crashes_L2 n x9 s10 = some o → F_x12_crashes s o := by
    refine fr_ind (fun x9 s10 hF h => by cases h) ?_
    intro n2 ih2 x9 s10 hF h
    have h : m_x12_crashes_b2 (m_x12_crashes_L2 n2) x9 s10 = some o := h
    unfold m_x12_crashes_b2 at h
    obtain ⟨hr11, h⟩ := rg_e h
    by_cases c12 : 8 ≤ x9
    · have h := if_t c12 h
      exact L31 FU 0 s10 hF h
    · have h := if_f c12 h
      obtain ⟨y13, ey13, iy13, h⟩ := rdI_e h
      obtain ⟨hi14, h⟩ := inb_e h
      obtain ⟨s15, hs15, h⟩ := st_e h
      have hF : F_x12_crashes s s15 := hs15 ▸ Fr.uA hF (by decide)
      exact ih2 (x9 + 1) s15 hF h
  exact L2 FU 0 s hF h
abbrev F_x12_putsAside (s o : MS) : Prop := Fr [] [54, 61] [] [] s o
theorem fr_x12_putsAside {s : MS} {o : MS} (h : m_x12_putsAside s = some o) : F_x12_putsAside s o := by
  have hF : F_x12_putsAside s s := Fr.rf s
  unfold m_x12_putsAside at h
  have L2 : ∀ (n : Nat) (x1 : Int) (s2 : MS), F_x12_putsAside s s2 → m_x12_putsAside_L2 n x1 s2 = some o → F_x12_putsAside s o := by
    refine fr_ind (fun x1 s2 hF h => by cases h) ?_
    intro n2 ih2 x1 s2 hF h
    have h : m_x12_putsAside_b2 (m_x12_putsAside_L2 n2) x1 s2 = some o := h
    unfold m_x12_putsAside_b2 at h
    obtain ⟨hr3, h⟩ := rg_e h
    by_cases c4 : 785 ≤ x1
    · have h := if_t c4 h
      obtain ⟨s6, hc5, h⟩ := bn_e h
      have hF : F_x12_putsAside s s6 := Fr.tr hF (fr_x12_clearsTouched hc5) (by decide)
      obtain rfl := Option.some.inj h
      exact hF
    · have h := if_f c4 h
      obtain ⟨y7, ey7, iy7, h⟩ := rdI_e h
      obtain ⟨hi8, h⟩ := inb_e h
      obtain ⟨s9, hs9, h⟩ := st_e h
      have hF : F_x12_putsAside s s9 := hs9 ▸ Fr.uA hF (by decide)
      exact ih2 (x1 + 1) s9 hF h
  exact L2 FU 0 s hF h
abbrev F_x12_takesBack (s o : MS) : Prop := Fr [] [49] [] [] s o
theorem fr_x12_takesBack {s : MS} {o : MS} (h : m_x12_takesBack s = some o) : F_x12_takesBack s o := by
  have hF : F_x12_takesBack s s := Fr.rf s
  unfold m_x12_takesBack at h
  have L2 : ∀ (n : Nat) (x1 : Int) (s2 : MS), F_x12_takesBack s s2 → m_x12_takesBack_L2 n x1 s2 = some o → F_x12_takesBack s o := by
    refine fr_ind (fun x1 s2 hF h => by cases h) ?_
    intro n2 ih2 x1 s2 hF h
    have h : m_x12_takesBack_b2 (m_x12_takesBack_L2 n2) x1 s2 = some o := h
    unfold m_x12_takesBack_b2 at h
    obtain ⟨hr3, h⟩ := rg_e h
    by_cases c4 : 785 ≤ x1
    · have h := if_t c4 h
      obtain rfl := Option.some.inj h
      exact hF
    · have h := if_f c4 h
      obtain ⟨y5, ey5, iy5, h⟩ := rdI_e h
      obtain ⟨hi6, h⟩ := inb_e h
      obtain ⟨s7, hs7, h⟩ := st_e h
      have hF : F_x12_takesBack s s7 := hs7 ▸ Fr.uA hF (by decide)
      exact ih2 (x1 + 1) s7 hF h
  exact L2 FU 0 s hF h
abbrev F_x12_laysLeaf (s o : MS) : Prop := Fr [67] [64, 65, 66] [] [] s o
theorem fr_x12_laysLeaf {p0 : Int} {s : MS} {o : MS} (h : m_x12_laysLeaf p0 s = some o) : F_x12_laysLeaf s o := by
  have hF : F_x12_laysLeaf s s := Fr.rf s
  unfold m_x12_laysLeaf at h
  have L2 : ∀ (n : Nat) (x1 : Int) (x2 : Int) (s3 : MS), F_x12_laysLeaf s s3 → m_x12_laysLeaf_L2 n x1 x2 s3 = some o → F_x12_laysLeaf s o := by
    refine fr_ind (fun x1 x2 s3 hF h => by cases h) ?_
    intro n2 ih2 x1 x2 s3 hF h
    have h : m_x12_laysLeaf_b2 (m_x12_laysLeaf_L2 n2) x1 x2 s3 = some o := h
    unfold m_x12_laysLeaf_b2 at h
    obtain ⟨r5, hc4, h⟩ := bn_e h
    obtain ⟨hr6, h⟩ := rg_e h
    obtain ⟨hr7, h⟩ := rg_e h
    by_cases c8 : r5 ≤ x2
    · have h := if_t c8 h
      obtain rfl := Option.some.inj h
      exact hF
    · have h := if_f c8 h
      obtain ⟨r10, hc9, h⟩ := bn_e h
      obtain ⟨hi11, h⟩ := inb_e h
      obtain ⟨s12, hs12, h⟩ := st_e h
      have hF : F_x12_laysLeaf s s12 := hs12 ▸ Fr.uA hF (by decide)
      obtain ⟨r14, hc13, h⟩ := bn_e h
      obtain ⟨hi15, h⟩ := inb_e h
      obtain ⟨s16, hs16, h⟩ := st_e h
      have hF : F_x12_laysLeaf s s16 := hs16 ▸ Fr.uA hF (by decide)
      obtain ⟨hi17, h⟩ := inb_e h
      obtain ⟨s18, hs18, h⟩ := st_e h
      have hF : F_x12_laysLeaf s s18 := hs18 ▸ Fr.uA hF (by decide)
      obtain ⟨s19, hs19, h⟩ := st_e h
      have hF : F_x12_laysLeaf s s19 := hs19 ▸ Fr.uI hF (by decide)
      exact ih2 x1 (x2 + 1) s19 hF h
  exact L2 FU p0 0 s hF h
abbrev F_x12_laysTree (s o : MS) : Prop := Fr [67, 68] [62, 63, 64, 65, 66] [] [] s o
theorem fr_x12_laysTree {p0 : Int} {s : MS} {o : MS} (h : m_x12_laysTree p0 s = some o) : F_x12_laysTree s o := by
  have hF : F_x12_laysTree s s := Fr.rf s
  unfold m_x12_laysTree at h
  have L48 : ∀ (n : Nat) (x1 : Int) (s2 : MS), F_x12_laysTree s s2 → m_x12_laysTree_L48 n x1 s2 = some o → F_x12_laysTree s o := by
    refine fr_ind (fun x1 s2 hF h => by cases h) ?_
    intro n48 ih48 x1 s2 hF h
    have h : m_x12_laysTree_b48 (m_x12_laysTree_L48 n48) x1 s2 = some o := h
    unfold m_x12_laysTree_b48 at h
    have J140 : ∀ (x3 : Int) (s4 : MS), F_x12_laysTree s s4 → m_x12_laysTree_J140 (m_x12_laysTree_L48 n48) x3 s4 = some o → F_x12_laysTree s o := by
      intro x3 s4 hF h
      unfold m_x12_laysTree_J140 at h
      exact ih48 x3 s4 hF h
    have L113 : ∀ (n : Nat) (x5 : Int) (x6 : Int) (x7 : Int) (s8 : MS), F_x12_laysTree s s8 → m_x12_laysTree_L113 (m_x12_laysTree_L48 n48) n x5 x6 x7 s8 = some o → F_x12_laysTree s o := by
      refine fr_ind (fun x5 x6 x7 s8 hF h => by cases h) ?_
      intro n113 ih113 x5 x6 x7 s8 hF h
      have h : m_x12_laysTree_b113 (m_x12_laysTree_L48 n48) (m_x12_laysTree_L113 (m_x12_laysTree_L48 n48) n113) x5 x6 x7 s8 = some o := h
      unfold m_x12_laysTree_b113 at h
      obtain ⟨hr9, h⟩ := rg_e h
      by_cases c10 : x7 < 0
      · have h := if_t c10 h
        exact J140 x5 s8 hF h
      · have h := if_f c10 h
        obtain ⟨r12, hc11, h⟩ := bn_e h
        obtain ⟨hi13, h⟩ := inb_e h
        obtain ⟨s14, hs14, h⟩ := st_e h
        have hF : F_x12_laysTree s s14 := hs14 ▸ Fr.uA hF (by decide)
        exact ih113 (x5 + 1) x6 (x7 + (-1)) s14 hF h
    have J81 : ∀ (x15 : Int) (x16 : Int) (s17 : MS), F_x12_laysTree s s17 → m_x12_laysTree_J81 (m_x12_laysTree_L48 n48) x15 x16 s17 = some o → F_x12_laysTree s o := by
      intro x15 x16 s17 hF h
      unfold m_x12_laysTree_J81 at h
      obtain ⟨hi18, h⟩ := inb_e h
      obtain ⟨hb19, h⟩ := bo_e h
      obtain ⟨s20, hs20, h⟩ := st_e h
      have hF : F_x12_laysTree s s20 := hs20 ▸ Fr.uA hF (by decide)
      obtain ⟨r22, hc21, h⟩ := bn_e h
      obtain ⟨hr23, h⟩ := rg_e h
      by_cases c24 : r22 = 0
      · have h := if_t c24 h
        obtain ⟨s28, hc27, h⟩ := bn_e h
        have hF : F_x12_laysTree s s28 := Fr.tr hF (fr_x12_laysLeaf hc27) (by decide)
        exact J140 x15 s28 hF h
      · have h := if_f c24 h
        obtain ⟨r26, hc25, h⟩ := bn_e h
        exact L113 FU x15 x16 (r26 - 1) s20 hF h
    obtain ⟨hr29, h⟩ := rg_e h
    by_cases c30 : x1 ≤ 0
    · have h := if_t c30 h
      obtain rfl := Option.some.inj h
      exact hF
    · have h := if_f c30 h
      obtain ⟨y31, ey31, iy31, h⟩ := rdI_e h
      obtain ⟨y32, ey32, iy32, h⟩ := rdI_e h
      obtain ⟨hr33, h⟩ := rg_e h
      by_cases c34 : y32 = 0
      · have h := if_t c34 h
        obtain ⟨s35, hs35, h⟩ := st_e h
        have hF : F_x12_laysTree s s35 := hs35 ▸ Fr.uI hF (by decide)
        exact J81 (x1 + (-1)) y31 s35 hF h
      · have h := if_f c34 h
        exact J81 (x1 + (-1)) y31 s2 hF h
  have L12 : ∀ (n : Nat) (x36 : Int) (x37 : Int) (s38 : MS), F_x12_laysTree s s38 → m_x12_laysTree_L12 n x36 x37 s38 = some o → F_x12_laysTree s o := by
    refine fr_ind (fun x36 x37 s38 hF h => by cases h) ?_
    intro n12 ih12 x36 x37 s38 hF h
    have h : m_x12_laysTree_b12 (m_x12_laysTree_L12 n12) x36 x37 s38 = some o := h
    unfold m_x12_laysTree_b12 at h
    obtain ⟨hr39, h⟩ := rg_e h
    by_cases c40 : 48 ≤ x37
    · have h := if_t c40 h
      obtain ⟨hr41, h⟩ := rg_e h
      by_cases c42 : x36 < 254
      · have h := if_t c42 h
        obtain ⟨hi43, h⟩ := inb_e h
        obtain ⟨s44, hs44, h⟩ := st_e h
        have hF : F_x12_laysTree s s44 := hs44 ▸ Fr.uA hF (by decide)
        exact L48 FU 1 s44 hF h
      · have h := if_f c42 h
        obtain rfl := Option.some.inj h
        exact hF
    · have h := if_f c40 h
      obtain ⟨hi45, h⟩ := inb_e h
      obtain ⟨hb46, h⟩ := bo_e h
      obtain ⟨s47, hs47, h⟩ := st_e h
      have hF : F_x12_laysTree s s47 := hs47 ▸ Fr.uA hF (by decide)
      exact ih12 x36 (x37 + 1) s47 hF h
  obtain ⟨s48, hs48, h⟩ := st_e h
  have hF : F_x12_laysTree s s48 := hs48 ▸ Fr.uI hF (by decide)
  obtain ⟨s49, hs49, h⟩ := st_e h
  have hF : F_x12_laysTree s s49 := hs49 ▸ Fr.uI hF (by decide)
  exact L12 FU p0 0 s49 hF h
abbrev F_x12_dropsMany (s o : MS) : Prop := Fr [] [49, 54, 56, 61] [] [] s o
theorem fr_x12_dropsMany {p0 : Int} {s : MS} {o : (Int × MS)} (h : m_x12_dropsMany p0 s = some o) : F_x12_dropsMany s o.2 := by
  have hF : F_x12_dropsMany s s := Fr.rf s
  unfold m_x12_dropsMany at h
  obtain ⟨s2, hc1, h⟩ := bn_e h
  have hF : F_x12_dropsMany s s2 := Fr.tr hF (fr_x12_putsAside hc1) (by decide)
  obtain ⟨r4, hc3, h⟩ := bn_e h
  obtain ⟨s6, hc5, h⟩ := bn_e h
  have hF : F_x12_dropsMany s s6 := Fr.tr hF (fr_x12_drops hc5) (by decide)
  obtain ⟨r8, hc7, h⟩ := bn_e h
  obtain ⟨s10, hc9, h⟩ := bn_e h
  have hF : F_x12_dropsMany s s10 := Fr.tr hF (fr_x12_takesBack hc9) (by decide)
  obtain rfl := Option.some.inj h
  exact hF
abbrev F_x12_volume (s o : MS) : Prop := Fr [67, 68] [49, 54, 56, 61, 62, 63, 64, 65, 66] [] [] s o
theorem fr_x12_volume {p0 : Int} {p1 : Int} {s : MS} {o : (Int × MS)} (h : m_x12_volume p0 p1 s = some o) : F_x12_volume s o.2 := by
  have hF : F_x12_volume s s := Fr.rf s
  unfold m_x12_volume at h
  have J96 : ∀ (x1 : Int) (s2 : MS), F_x12_volume s s2 → m_x12_volume_J96 x1 s2 = some o → F_x12_volume s o.2 := by
    intro x1 s2 hF h
    unfold m_x12_volume_J96 at h
    obtain rfl := Option.some.inj h
    exact hF
  have J72 : ∀ (x3 : Int) (s4 : MS), F_x12_volume s s4 → m_x12_volume_J72 x3 s4 = some o → F_x12_volume s o.2 := by
    intro x3 s4 hF h
    unfold m_x12_volume_J72 at h
    obtain rfl := Option.some.inj h
    exact hF
  obtain ⟨hr5, h⟩ := rg_e h
  obtain ⟨r7, hc6, h⟩ := bn_e h
  obtain ⟨hr8, h⟩ := rg_e h
  by_cases c9 : r7 = 0
  · have h := if_t c9 h
    obtain rfl := Option.some.inj h
    exact hF
  · have h := if_f c9 h
    obtain ⟨y10, ey10, iy10, h⟩ := rdI_e h
    obtain ⟨s12, hc11, h⟩ := bn_e h
    have hF : F_x12_volume s s12 := Fr.tr hF (fr_x12_laysTree hc11) (by decide)
    obtain ⟨hr13, h⟩ := rg_e h
    by_cases c14 : p1 = 0
    · have h := if_t c14 h
      obtain ⟨hr15, h⟩ := rg_e h
      by_cases c16 : y10 = 254
      · have h := if_t c16 h
        exact J72 (-1) s12 hF h
      · have h := if_f c16 h
        exact J72 y10 s12 hF h
    · have h := if_f c14 h
      by_cases c17 : p1 = 1
      · have h := if_t c17 h
        obtain rfl := Option.some.inj h
        exact hF
      · have h := if_f c17 h
        by_cases c18 : p1 = 2
        · have h := if_t c18 h
          obtain ⟨hr19, h⟩ := rg_e h
          by_cases c20 : y10 = 254
          · have h := if_t c20 h
            exact J96 0 s12 hF h
          · have h := if_f c20 h
            obtain ⟨r22, hc21, h⟩ := bn_e h
            exact J96 (r22 + 1) s12 hF h
        · have h := if_f c18 h
          by_cases c23 : p1 = 3
          · have h := if_t c23 h
            obtain rfl := Option.some.inj h
            exact hF
          · have h := if_f c23 h
            by_cases c24 : p1 = 4
            · have h := if_t c24 h
              obtain ⟨⟨r27, s26⟩, hc25, h⟩ := bn_e h
              have hF : F_x12_volume s s26 := Fr.tr hF (fr_x12_dropsMany hc25) (by decide)
              obtain rfl := Option.some.inj h
              exact hF
            · have h := if_f c24 h
              obtain rfl := Option.some.inj h
              exact hF
abbrev F_x12_key (s o : MS) : Prop := Fr [67, 68] [62, 63, 64, 65, 66] [] [] s o
theorem fr_x12_key {p0 : Int} {p1 : Int} {s : MS} {o : (Int × MS)} (h : m_x12_key p0 p1 s = some o) : F_x12_key s o.2 := by
  have hF : F_x12_key s s := Fr.rf s
  unfold m_x12_key at h
  have J47 : ∀ (x1 : Int) (s2 : MS), F_x12_key s s2 → m_x12_key_J47 x1 s2 = some o → F_x12_key s o.2 := by
    intro x1 s2 hF h
    unfold m_x12_key_J47 at h
    obtain rfl := Option.some.inj h
    exact hF
  obtain ⟨hr3, h⟩ := rg_e h
  obtain ⟨r5, hc4, h⟩ := bn_e h
  obtain ⟨hr6, h⟩ := rg_e h
  by_cases c7 : r5 = 0
  · have h := if_t c7 h
    obtain rfl := Option.some.inj h
    exact hF
  · have h := if_f c7 h
    obtain ⟨y8, ey8, iy8, h⟩ := rdI_e h
    obtain ⟨s10, hc9, h⟩ := bn_e h
    have hF : F_x12_key s s10 := Fr.tr hF (fr_x12_laysTree hc9) (by decide)
    obtain ⟨hr11, h⟩ := rg_e h
    obtain ⟨hr12, h⟩ := rg_e h
    obtain ⟨r14, hc13, h⟩ := bn_e h
    obtain ⟨hr15, h⟩ := rg_e h
    by_cases c16 : r14 = 0
    · have h := if_t c16 h
      exact J47 (-1) s10 hF h
    · have h := if_f c16 h
      obtain ⟨y17, ey17, iy17, h⟩ := rdI_e h
      exact J47 y17 s10 hF h
abbrev F_x12_total (s o : MS) : Prop := Fr [67, 68] [62, 63, 64, 65, 66] [] [] s o
theorem fr_x12_total {p0 : Int} {p1 : Int} {p2 : Int} {s : MS} {o : (Int × MS)} (h : m_x12_total p0 p1 p2 s = some o) : F_x12_total s o.2 := by
  have hF : F_x12_total s s := Fr.rf s
  unfold m_x12_total at h
  have L27 : ∀ (n : Nat) (x1 : Int) (x2 : Int) (x3 : Int) (x4 : Int) (s5 : MS), F_x12_total s s5 → m_x12_total_L27 n x1 x2 x3 x4 s5 = some o → F_x12_total s o.2 := by
    refine fr_ind (fun x1 x2 x3 x4 s5 hF h => by cases h) ?_
    intro n27 ih27 x1 x2 x3 x4 s5 hF h
    have h : m_x12_total_b27 (m_x12_total_L27 n27) x1 x2 x3 x4 s5 = some o := h
    unfold m_x12_total_b27 at h
    have J66 : ∀ (x6 : Int) (x7 : Int) (x8 : Int) (x9 : Int) (s10 : MS), F_x12_total s s10 → m_x12_total_J66 (m_x12_total_L27 n27) x6 x7 x8 x9 s10 = some o → F_x12_total s o.2 := by
      intro x6 x7 x8 x9 s10 hF h
      unfold m_x12_total_J66 at h
      exact ih27 x6 x7 x8 (x9 + 1) s10 hF h
    obtain ⟨hr11, h⟩ := rg_e h
    obtain ⟨hr12, h⟩ := rg_e h
    by_cases c13 : (gI s5 67) ≤ x4
    · have h := if_t c13 h
      obtain rfl := Option.some.inj h
      exact hF
    · have h := if_f c13 h
      obtain ⟨y14, ey14, iy14, h⟩ := rdI_e h
      obtain ⟨hr15, h⟩ := rg_e h
      obtain ⟨hr16, h⟩ := rg_e h
      obtain ⟨hr17, h⟩ := rg_e h
      obtain ⟨r19, hc18, h⟩ := bn_e h
      obtain ⟨hr20, h⟩ := rg_e h
      by_cases c21 : r19 = 0
      · have h := if_t c21 h
        exact J66 x1 x2 x3 x4 s5 hF h
      · have h := if_f c21 h
        obtain ⟨y22, ey22, iy22, h⟩ := rdI_e h
        exact J66 x1 x2 (x3 + y22) x4 s5 hF h
  obtain ⟨hr23, h⟩ := rg_e h
  obtain ⟨r25, hc24, h⟩ := bn_e h
  obtain ⟨hr26, h⟩ := rg_e h
  by_cases c27 : r25 = 0
  · have h := if_t c27 h
    obtain rfl := Option.some.inj h
    exact hF
  · have h := if_f c27 h
    obtain ⟨y28, ey28, iy28, h⟩ := rdI_e h
    obtain ⟨s30, hc29, h⟩ := bn_e h
    have hF : F_x12_total s s30 := Fr.tr hF (fr_x12_laysTree hc29) (by decide)
    exact L27 FU p1 p2 0 0 s30 hF h
abbrev F_x12_shared (s o : MS) : Prop := Fr [67, 68] [62, 63, 64, 65, 66, 69] [] [] s o
theorem fr_x12_shared {p0 : Int} {p1 : Int} {s : MS} {o : (Int × MS)} (h : m_x12_shared p0 p1 s = some o) : F_x12_shared s o.2 := by
  have hF : F_x12_shared s s := Fr.rf s
  unfold m_x12_shared at h
  have L71 : ∀ (n : Nat) (x1 : Int) (x2 : Int) (s3 : MS), F_x12_shared s s3 → m_x12_shared_L71 n x1 x2 s3 = some o → F_x12_shared s o.2 := by
    refine fr_ind (fun x1 x2 s3 hF h => by cases h) ?_
    intro n71 ih71 x1 x2 s3 hF h
    have h : m_x12_shared_b71 (m_x12_shared_L71 n71) x1 x2 s3 = some o := h
    unfold m_x12_shared_b71 at h
    have J101 : ∀ (x4 : Int) (x5 : Int) (s6 : MS), F_x12_shared s s6 → m_x12_shared_J101 (m_x12_shared_L71 n71) x4 x5 s6 = some o → F_x12_shared s o.2 := by
      intro x4 x5 s6 hF h
      unfold m_x12_shared_J101 at h
      exact ih71 x4 (x5 + 1) s6 hF h
    obtain ⟨hr7, h⟩ := rg_e h
    by_cases c8 : 48 ≤ x2
    · have h := if_t c8 h
      obtain rfl := Option.some.inj h
      exact hF
    · have h := if_f c8 h
      obtain ⟨y9, ey9, iy9, h⟩ := rdI_e h
      obtain ⟨hr10, h⟩ := rg_e h
      by_cases c11 : y9 = 0
      · have h := if_t c11 h
        exact J101 x1 x2 s3 hF h
      · have h := if_f c11 h
        obtain ⟨y12, ey12, iy12, h⟩ := rdI_e h
        obtain ⟨hr13, h⟩ := rg_e h
        by_cases c14 : y12 = 0
        · have h := if_t c14 h
          exact J101 x1 x2 s3 hF h
        · have h := if_f c14 h
          exact J101 (x1 + 1) x2 s3 hF h
  have L32 : ∀ (n : Nat) (x15 : Int) (x16 : Int) (s17 : MS), F_x12_shared s s17 → m_x12_shared_L32 n x15 x16 s17 = some o → F_x12_shared s o.2 := by
    refine fr_ind (fun x15 x16 s17 hF h => by cases h) ?_
    intro n32 ih32 x15 x16 s17 hF h
    have h : m_x12_shared_b32 (m_x12_shared_L32 n32) x15 x16 s17 = some o := h
    unfold m_x12_shared_b32 at h
    obtain ⟨hr18, h⟩ := rg_e h
    by_cases c19 : 48 ≤ x16
    · have h := if_t c19 h
      obtain ⟨y20, ey20, iy20, h⟩ := rdI_e h
      obtain ⟨s22, hc21, h⟩ := bn_e h
      have hF : F_x12_shared s s22 := Fr.tr hF (fr_x12_laysTree hc21) (by decide)
      exact L71 FU 0 0 s22 hF h
    · have h := if_f c19 h
      obtain ⟨y23, ey23, iy23, h⟩ := rdI_e h
      obtain ⟨hi24, h⟩ := inb_e h
      obtain ⟨hb25, h⟩ := bo_e h
      obtain ⟨s26, hs26, h⟩ := st_e h
      have hF : F_x12_shared s s26 := hs26 ▸ Fr.uA hF (by decide)
      exact ih32 x15 (x16 + 1) s26 hF h
  have J18 : ∀ (s27 : MS), F_x12_shared s s27 → m_x12_shared_J18 s27 = some o → F_x12_shared s o.2 := by
    intro s27 hF h
    unfold m_x12_shared_J18 at h
    obtain rfl := Option.some.inj h
    exact hF
  obtain ⟨hr28, h⟩ := rg_e h
  obtain ⟨r30, hc29, h⟩ := bn_e h
  obtain ⟨hr31, h⟩ := rg_e h
  by_cases c32 : r30 = 0
  · have h := if_t c32 h
    exact J18 s hF h
  · have h := if_f c32 h
    obtain ⟨hr33, h⟩ := rg_e h
    obtain ⟨r35, hc34, h⟩ := bn_e h
    obtain ⟨hr36, h⟩ := rg_e h
    by_cases c37 : r35 = 0
    · have h := if_t c37 h
      exact J18 s hF h
    · have h := if_f c37 h
      obtain ⟨y38, ey38, iy38, h⟩ := rdI_e h
      obtain ⟨s40, hc39, h⟩ := bn_e h
      have hF : F_x12_shared s s40 := Fr.tr hF (fr_x12_laysTree hc39) (by decide)
      exact L32 FU p1 0 s40 hF h
abbrev F_x12_laysWrites (s o : MS) : Prop := Fr [48, 50, 51, 52, 53, 55, 70, 71, 108] [49, 54, 56, 57, 58, 59, 60, 61] [] [107] s o
theorem fr_x12_laysWrites {p0 : Int} {p1 : Int} {s : MS} {o : MS} (h : m_x12_laysWrites p0 p1 s = some o) : F_x12_laysWrites s o := by
  have hF : F_x12_laysWrites s s := Fr.rf s
  unfold m_x12_laysWrites at h
  have J56 : ∀ (s1 : MS), F_x12_laysWrites s s1 → m_x12_laysWrites_J56 s1 = some o → F_x12_laysWrites s o := by
    intro s1 hF h
    unfold m_x12_laysWrites_J56 at h
    obtain ⟨s3, hc2, h⟩ := bn_e h
    have hF : F_x12_laysWrites s s3 := Fr.tr hF (fr_x12_takesBack hc2) (by decide)
    obtain rfl := Option.some.inj h
    exact hF
  have J34 : ∀ (x4 : Int) (x5 : Int) (x6 : Int) (x7 : Int) (s8 : MS), F_x12_laysWrites s s8 → m_x12_laysWrites_J34 x4 x5 x6 x7 s8 = some o → F_x12_laysWrites s o := by
    intro x4 x5 x6 x7 s8 hF h
    unfold m_x12_laysWrites_J34 at h
    obtain ⟨⟨r11, s10⟩, hc9, h⟩ := bn_e h
    have hF : F_x12_laysWrites s s10 := Fr.tr hF (fr_x12_tries hc9) (by decide)
    obtain ⟨hr12, h⟩ := rg_e h
    by_cases c13 : r11 = 0
    · have h := if_t c13 h
      exact J56 s10 hF h
    · have h := if_f c13 h
      obtain ⟨r15, hc14, h⟩ := bn_e h
      obtain ⟨s16, hs16, h⟩ := st_e h
      have hF : F_x12_laysWrites s s16 := hs16 ▸ Fr.uI hF (by decide)
      obtain ⟨⟨r19, s18⟩, hc17, h⟩ := bn_e h
      have hF : F_x12_laysWrites s s18 := Fr.tr hF (fr_x12_writtenCost hc17) (by decide)
      obtain ⟨s20, hs20, h⟩ := st_e h
      have hF : F_x12_laysWrites s s20 := hs20 ▸ Fr.uI hF (by decide)
      exact J56 s20 hF h
  obtain ⟨s21, hs21, h⟩ := st_e h
  have hF : F_x12_laysWrites s s21 := hs21 ▸ Fr.uI hF (by decide)
  obtain ⟨s22, hs22, h⟩ := st_e h
  have hF : F_x12_laysWrites s s22 := hs22 ▸ Fr.uI hF (by decide)
  obtain ⟨r24, hc23, h⟩ := bn_e h
  obtain ⟨s26, hc25, h⟩ := bn_e h
  have hF : F_x12_laysWrites s s26 := Fr.tr hF (fr_x12_putsAside hc25) (by decide)
  obtain ⟨hr27, h⟩ := rg_e h
  by_cases c28 : r24 = 0
  · have h := if_t c28 h
    exact J34 1 p1 p0 2 s26 hF h
  · have h := if_f c28 h
    exact J34 0 p1 p0 2 s26 hF h
abbrev F_x12_writes (s o : MS) : Prop := Fr [48, 50, 51, 52, 53, 55, 70, 71, 108] [49, 54, 56, 57, 58, 59, 60, 61] [] [107] s o
theorem fr_x12_writes {p0 : Int} {p1 : Int} {p2 : Int} {s : MS} {o : (Int × MS)} (h : m_x12_writes p0 p1 p2 s = some o) : F_x12_writes s o.2 := by
  have hF : F_x12_writes s s := Fr.rf s
  unfold m_x12_writes at h
  have J54 : ∀ (x1 : Int) (s2 : MS), F_x12_writes s s2 → m_x12_writes_J54 x1 s2 = some o → F_x12_writes s o.2 := by
    intro x1 s2 hF h
    unfold m_x12_writes_J54 at h
    obtain rfl := Option.some.inj h
    exact hF
  have J31 : ∀ (s3 : MS), F_x12_writes s s3 → m_x12_writes_J31 s3 = some o → F_x12_writes s o.2 := by
    intro s3 hF h
    unfold m_x12_writes_J31 at h
    obtain rfl := Option.some.inj h
    exact hF
  obtain ⟨hr4, h⟩ := rg_e h
  obtain ⟨r6, hc5, h⟩ := bn_e h
  obtain ⟨hr7, h⟩ := rg_e h
  by_cases c8 : r6 = 0
  · have h := if_t c8 h
    exact J31 s hF h
  · have h := if_f c8 h
    obtain ⟨hr9, h⟩ := rg_e h
    obtain ⟨r11, hc10, h⟩ := bn_e h
    obtain ⟨hr12, h⟩ := rg_e h
    by_cases c13 : r11 = 0
    · have h := if_t c13 h
      exact J31 s hF h
    · have h := if_f c13 h
      obtain ⟨hr14, h⟩ := rg_e h
      obtain ⟨r16, hc15, h⟩ := bn_e h
      obtain ⟨hr17, h⟩ := rg_e h
      by_cases c18 : r16 = 0
      · have h := if_t c18 h
        exact J31 s hF h
      · have h := if_f c18 h
        obtain ⟨s20, hc19, h⟩ := bn_e h
        have hF : F_x12_writes s s20 := Fr.tr hF (fr_x12_laysWrites hc19) (by decide)
        obtain ⟨hr21, h⟩ := rg_e h
        by_cases c22 : p2 = 0
        · have h := if_t c22 h
          exact J54 (gI s20 70) s20 hF h
        · have h := if_f c22 h
          exact J54 (gI s20 71) s20 hF h
abbrev F_x12_spread (s o : MS) : Prop := Fr [48, 50, 51, 52, 53, 55, 70, 71, 108] [49, 54, 56, 57, 58, 59, 60, 61] [] [107] s o
theorem fr_x12_spread {p0 : Int} {p1 : Int} {s : MS} {o : (Int × MS)} (h : m_x12_spread p0 p1 s = some o) : F_x12_spread s o.2 := by
  have hF : F_x12_spread s s := Fr.rf s
  unfold m_x12_spread at h
  have L21 : ∀ (n : Nat) (x1 : Int) (x2 : Int) (x3 : Int) (x4 : Int) (s5 : MS), F_x12_spread s s5 → m_x12_spread_L21 n x1 x2 x3 x4 s5 = some o → F_x12_spread s o.2 := by
    refine fr_ind (fun x1 x2 x3 x4 s5 hF h => by cases h) ?_
    intro n21 ih21 x1 x2 x3 x4 s5 hF h
    have h : m_x12_spread_b21 (m_x12_spread_L21 n21) x1 x2 x3 x4 s5 = some o := h
    unfold m_x12_spread_b21 at h
    have J46 : ∀ (x6 : Int) (x7 : Int) (x8 : Int) (x9 : Int) (s10 : MS), F_x12_spread s s10 → m_x12_spread_J46 (m_x12_spread_L21 n21) x6 x7 x8 x9 s10 = some o → F_x12_spread s o.2 := by
      intro x6 x7 x8 x9 s10 hF h
      unfold m_x12_spread_J46 at h
      exact ih21 x6 x7 x8 (x9 + 1) s10 hF h
    obtain ⟨hr11, h⟩ := rg_e h
    by_cases c12 : 100 ≤ x4
    · have h := if_t c12 h
      obtain rfl := Option.some.inj h
      exact hF
    · have h := if_f c12 h
      obtain ⟨s14, hc13, h⟩ := bn_e h
      have hF : F_x12_spread s s14 := Fr.tr hF (fr_x12_laysWrites hc13) (by decide)
      obtain ⟨hr15, h⟩ := rg_e h
      obtain ⟨hr16, h⟩ := rg_e h
      by_cases c17 : (gI s14 70) = x2
      · have h := if_t c17 h
        exact J46 x1 x2 (x3 + 1) x4 s14 hF h
      · have h := if_f c17 h
        exact J46 x1 x2 x3 x4 s14 hF h
  have J14 : ∀ (s18 : MS), F_x12_spread s s18 → m_x12_spread_J14 s18 = some o → F_x12_spread s o.2 := by
    intro s18 hF h
    unfold m_x12_spread_J14 at h
    obtain rfl := Option.some.inj h
    exact hF
  obtain ⟨hr19, h⟩ := rg_e h
  obtain ⟨r21, hc20, h⟩ := bn_e h
  obtain ⟨hr22, h⟩ := rg_e h
  by_cases c23 : r21 = 0
  · have h := if_t c23 h
    exact J14 s hF h
  · have h := if_f c23 h
    obtain ⟨hr24, h⟩ := rg_e h
    by_cases c25 : (-1) ≤ p1
    · have h := if_t c25 h
      exact L21 FU p0 p1 0 0 s hF h
    · have h := if_f c25 h
      exact J14 s hF h
abbrev F_x12_laysLost (s o : MS) : Prop := Fr [67, 68] [62, 63, 64, 65, 66, 72] [] [] s o
theorem fr_x12_laysLost {s : MS} {o : MS} (h : m_x12_laysLost s = some o) : F_x12_laysLost s o := by
  have hF : F_x12_laysLost s s := Fr.rf s
  unfold m_x12_laysLost at h
  have L23 : ∀ (n : Nat) (x1 : Int) (s2 : MS), F_x12_laysLost s s2 → m_x12_laysLost_L23 n x1 s2 = some o → F_x12_laysLost s o := by
    refine fr_ind (fun x1 s2 hF h => by cases h) ?_
    intro n23 ih23 x1 s2 hF h
    have h : m_x12_laysLost_b23 (m_x12_laysLost_L23 n23) x1 s2 = some o := h
    unfold m_x12_laysLost_b23 at h
    have J122 : ∀ (x3 : Int) (s4 : MS), F_x12_laysLost s s4 → m_x12_laysLost_J122 (m_x12_laysLost_L23 n23) x3 s4 = some o → F_x12_laysLost s o := by
      intro x3 s4 hF h
      unfold m_x12_laysLost_J122 at h
      exact ih23 (x3 + 1) s4 hF h
    have L53 : ∀ (n : Nat) (x5 : Int) (x6 : Int) (s7 : MS), F_x12_laysLost s s7 → m_x12_laysLost_L53 (m_x12_laysLost_L23 n23) n x5 x6 s7 = some o → F_x12_laysLost s o := by
      refine fr_ind (fun x5 x6 s7 hF h => by cases h) ?_
      intro n53 ih53 x5 x6 s7 hF h
      have h : m_x12_laysLost_b53 (m_x12_laysLost_L23 n23) (m_x12_laysLost_L53 (m_x12_laysLost_L23 n23) n53) x5 x6 s7 = some o := h
      unfold m_x12_laysLost_b53 at h
      have L68 : ∀ (n : Nat) (x8 : Int) (x9 : Int) (x10 : Int) (s11 : MS), F_x12_laysLost s s11 → m_x12_laysLost_L68 (m_x12_laysLost_L23 n23) (m_x12_laysLost_L53 (m_x12_laysLost_L23 n23) n53) n x8 x9 x10 s11 = some o → F_x12_laysLost s o := by
        refine fr_ind (fun x8 x9 x10 s11 hF h => by cases h) ?_
        intro n68 ih68 x8 x9 x10 s11 hF h
        have h : m_x12_laysLost_b68 (m_x12_laysLost_L23 n23) (m_x12_laysLost_L53 (m_x12_laysLost_L23 n23) n53) (m_x12_laysLost_L68 (m_x12_laysLost_L23 n23) (m_x12_laysLost_L53 (m_x12_laysLost_L23 n23) n53) n68) x8 x9 x10 s11 = some o := h
        unfold m_x12_laysLost_b68 at h
        obtain ⟨r13, hc12, h⟩ := bn_e h
        obtain ⟨hr14, h⟩ := rg_e h
        by_cases c15 : r13 ≤ 0
        · have h := if_t c15 h
          obtain ⟨y16, ey16, iy16, h⟩ := rdI_e h
          obtain ⟨hi17, h⟩ := inb_e h
          obtain ⟨s18, hs18, h⟩ := st_e h
          have hF : F_x12_laysLost s s18 := hs18 ▸ Fr.uA hF (by decide)
          exact ih53 x8 (x9 + 1) s18 hF h
        · have h := if_f c15 h
          obtain ⟨y19, ey19, iy19, h⟩ := rdI_e h
          obtain ⟨hi20, h⟩ := inb_e h
          obtain ⟨s21, hs21, h⟩ := st_e h
          have hF : F_x12_laysLost s s21 := hs21 ▸ Fr.uA hF (by decide)
          obtain ⟨y22, ey22, iy22, h⟩ := rdI_e h
          obtain ⟨r24, hc23, h⟩ := bn_e h
          obtain ⟨r26, hc25, h⟩ := bn_e h
          exact ih68 x8 x9 r26 s21 hF h
      obtain ⟨hr27, h⟩ := rg_e h
      obtain ⟨hr28, h⟩ := rg_e h
      by_cases c29 : (gI s7 67) ≤ x6
      · have h := if_t c29 h
        exact J122 x5 s7 hF h
      · have h := if_f c29 h
        obtain ⟨y30, ey30, iy30, h⟩ := rdI_e h
        exact L68 FU x5 x6 y30 s7 hF h
    obtain ⟨hr31, h⟩ := rg_e h
    by_cases c32 : 8 ≤ x1
    · have h := if_t c32 h
      obtain rfl := Option.some.inj h
      exact hF
    · have h := if_f c32 h
      obtain ⟨hr33, h⟩ := rg_e h
      obtain ⟨r35, hc34, h⟩ := bn_e h
      obtain ⟨hr36, h⟩ := rg_e h
      by_cases c37 : r35 = 0
      · have h := if_t c37 h
        exact J122 x1 s2 hF h
      · have h := if_f c37 h
        obtain ⟨y38, ey38, iy38, h⟩ := rdI_e h
        obtain ⟨s40, hc39, h⟩ := bn_e h
        have hF : F_x12_laysLost s s40 := Fr.tr hF (fr_x12_laysTree hc39) (by decide)
        exact L53 FU x1 0 s40 hF h
  have L2 : ∀ (n : Nat) (x41 : Int) (s42 : MS), F_x12_laysLost s s42 → m_x12_laysLost_L2 n x41 s42 = some o → F_x12_laysLost s o := by
    refine fr_ind (fun x41 s42 hF h => by cases h) ?_
    intro n2 ih2 x41 s42 hF h
    have h : m_x12_laysLost_b2 (m_x12_laysLost_L2 n2) x41 s42 = some o := h
    unfold m_x12_laysLost_b2 at h
    obtain ⟨hr43, h⟩ := rg_e h
    by_cases c44 : 48 ≤ x41
    · have h := if_t c44 h
      exact L23 FU 0 s42 hF h
    · have h := if_f c44 h
      obtain ⟨hi45, h⟩ := inb_e h
      obtain ⟨s46, hs46, h⟩ := st_e h
      have hF : F_x12_laysLost s s46 := hs46 ▸ Fr.uA hF (by decide)
      exact ih2 (x41 + 1) s46 hF h
  exact L2 FU 0 s hF h
abbrev F_x12_lost (s o : MS) : Prop := Fr [67, 68] [62, 63, 64, 65, 66, 72] [] [] s o
theorem fr_x12_lost {p0 : Int} {s : MS} {o : (Int × MS)} (h : m_x12_lost p0 s = some o) : F_x12_lost s o.2 := by
  have hF : F_x12_lost s s := Fr.rf s
  unfold m_x12_lost at h
  obtain ⟨hr1, h⟩ := rg_e h
  obtain ⟨r3, hc2, h⟩ := bn_e h
  obtain ⟨hr4, h⟩ := rg_e h
  by_cases c5 : r3 = 0
  · have h := if_t c5 h
    obtain rfl := Option.some.inj h
    exact hF
  · have h := if_f c5 h
    obtain ⟨s7, hc6, h⟩ := bn_e h
    have hF : F_x12_lost s s7 := Fr.tr hF (fr_x12_laysLost hc6) (by decide)
    obtain ⟨y8, ey8, iy8, h⟩ := rdI_e h
    obtain rfl := Option.some.inj h
    exact hF
abbrev F_x12_worst (s o : MS) : Prop := Fr [67, 68] [62, 63, 64, 65, 66, 72] [] [] s o
theorem fr_x12_worst {p0 : Int} {s : MS} {o : (Int × MS)} (h : m_x12_worst p0 s = some o) : F_x12_worst s o.2 := by
  have hF : F_x12_worst s s := Fr.rf s
  unfold m_x12_worst at h
  have J76 : ∀ (x1 : Int) (s2 : MS), F_x12_worst s s2 → m_x12_worst_J76 x1 s2 = some o → F_x12_worst s o.2 := by
    intro x1 s2 hF h
    unfold m_x12_worst_J76 at h
    obtain rfl := Option.some.inj h
    exact hF
  have L20 : ∀ (n : Nat) (x3 : Int) (x4 : Int) (x5 : Int) (s6 : MS), F_x12_worst s s6 → m_x12_worst_L20 n x3 x4 x5 s6 = some o → F_x12_worst s o.2 := by
    refine fr_ind (fun x3 x4 x5 s6 hF h => by cases h) ?_
    intro n20 ih20 x3 x4 x5 s6 hF h
    have h : m_x12_worst_b20 (m_x12_worst_L20 n20) x3 x4 x5 s6 = some o := h
    unfold m_x12_worst_b20 at h
    have J43 : ∀ (x7 : Int) (x8 : Int) (x9 : Int) (s10 : MS), F_x12_worst s s10 → m_x12_worst_J43 (m_x12_worst_L20 n20) x7 x8 x9 s10 = some o → F_x12_worst s o.2 := by
      intro x7 x8 x9 s10 hF h
      unfold m_x12_worst_J43 at h
      exact ih20 x7 x8 (x9 + 1) s10 hF h
    obtain ⟨hr11, h⟩ := rg_e h
    by_cases c12 : 48 ≤ x5
    · have h := if_t c12 h
      obtain ⟨y13, ey13, iy13, h⟩ := rdI_e h
      obtain ⟨hr14, h⟩ := rg_e h
      by_cases c15 : y13 = 0
      · have h := if_t c15 h
        exact J76 (-1) s6 hF h
      · have h := if_f c15 h
        obtain ⟨hr16, h⟩ := rg_e h
        by_cases c17 : x3 = 0
        · have h := if_t c17 h
          exact J76 x4 s6 hF h
        · have h := if_f c17 h
          obtain ⟨y18, ey18, iy18, h⟩ := rdI_e h
          exact J76 y18 s6 hF h
    · have h := if_f c12 h
      obtain ⟨y19, ey19, iy19, h⟩ := rdI_e h
      obtain ⟨y20, ey20, iy20, h⟩ := rdI_e h
      obtain ⟨hr21, h⟩ := rg_e h
      obtain ⟨hr22, h⟩ := rg_e h
      by_cases c23 : y19 ≤ y20
      · have h := if_t c23 h
        exact J43 x3 x4 x5 s6 hF h
      · have h := if_f c23 h
        exact J43 x3 x5 x5 s6 hF h
  obtain ⟨hr24, h⟩ := rg_e h
  obtain ⟨r26, hc25, h⟩ := bn_e h
  obtain ⟨hr27, h⟩ := rg_e h
  by_cases c28 : r26 = 0
  · have h := if_t c28 h
    obtain rfl := Option.some.inj h
    exact hF
  · have h := if_f c28 h
    obtain ⟨s30, hc29, h⟩ := bn_e h
    have hF : F_x12_worst s s30 := Fr.tr hF (fr_x12_laysLost hc29) (by decide)
    exact L20 FU p0 0 1 s30 hF h
abbrev F_x12_victim (s o : MS) : Prop := Fr [] [49, 54, 56, 61] [] [] s o
theorem fr_x12_victim {p0 : Int} {s : MS} {o : (Int × MS)} (h : m_x12_victim p0 s = some o) : F_x12_victim s o.2 := by
  have hF : F_x12_victim s s := Fr.rf s
  unfold m_x12_victim at h
  have J78 : ∀ (x1 : Int) (s2 : MS), F_x12_victim s s2 → m_x12_victim_J78 x1 s2 = some o → F_x12_victim s o.2 := by
    intro x1 s2 hF h
    unfold m_x12_victim_J78 at h
    obtain rfl := Option.some.inj h
    exact hF
  have L19 : ∀ (n : Nat) (x3 : Int) (x4 : Int) (x5 : Int) (x6 : Int) (s7 : MS), F_x12_victim s s7 → m_x12_victim_L19 n x3 x4 x5 x6 s7 = some o → F_x12_victim s o.2 := by
    refine fr_ind (fun x3 x4 x5 x6 s7 hF h => by cases h) ?_
    intro n19 ih19 x3 x4 x5 x6 s7 hF h
    have h : m_x12_victim_b19 (m_x12_victim_L19 n19) x3 x4 x5 x6 s7 = some o := h
    unfold m_x12_victim_b19 at h
    have J63 : ∀ (x8 : Int) (x9 : Int) (x10 : Int) (x11 : Int) (s12 : MS), F_x12_victim s s12 → m_x12_victim_J63 (m_x12_victim_L19 n19) x8 x9 x10 x11 s12 = some o → F_x12_victim s o.2 := by
      intro x8 x9 x10 x11 s12 hF h
      unfold m_x12_victim_J63 at h
      exact ih19 x8 x9 x10 (x11 + 1) s12 hF h
    have J46 : ∀ (x13 : Int) (x14 : Int) (x15 : Int) (x16 : Int) (x17 : Int) (s18 : MS), F_x12_victim s s18 → m_x12_victim_J46 (m_x12_victim_L19 n19) x13 x14 x15 x16 x17 s18 = some o → F_x12_victim s o.2 := by
      intro x13 x14 x15 x16 x17 s18 hF h
      unfold m_x12_victim_J46 at h
      obtain ⟨hr19, h⟩ := rg_e h
      obtain ⟨hr20, h⟩ := rg_e h
      by_cases c21 : x15 < x17
      · have h := if_t c21 h
        exact J63 x13 x16 x17 x16 s18 hF h
      · have h := if_f c21 h
        exact J63 x13 x14 x15 x16 s18 hF h
    obtain ⟨hr22, h⟩ := rg_e h
    by_cases c23 : 8 ≤ x6
    · have h := if_t c23 h
      obtain ⟨hr24, h⟩ := rg_e h
      by_cases c25 : x3 = 0
      · have h := if_t c25 h
        exact J78 x4 s7 hF h
      · have h := if_f c25 h
        exact J78 x5 s7 hF h
    · have h := if_f c23 h
      obtain ⟨hr26, h⟩ := rg_e h
      obtain ⟨r28, hc27, h⟩ := bn_e h
      obtain ⟨hr29, h⟩ := rg_e h
      by_cases c30 : r28 = 0
      · have h := if_t c30 h
        exact J46 x3 x4 x5 x6 (-1) s7 hF h
      · have h := if_f c30 h
        obtain ⟨⟨r33, s32⟩, hc31, h⟩ := bn_e h
        have hF : F_x12_victim s s32 := Fr.tr hF (fr_x12_dropsMany hc31) (by decide)
        exact J46 x3 x4 x5 x6 r33 s32 hF h
  obtain ⟨hr34, h⟩ := rg_e h
  obtain ⟨r36, hc35, h⟩ := bn_e h
  obtain ⟨hr37, h⟩ := rg_e h
  by_cases c38 : r36 = 0
  · have h := if_t c38 h
    obtain rfl := Option.some.inj h
    exact hF
  · have h := if_f c38 h
    exact L19 FU p0 (-1) (-1) 0 s hF h
abbrev F_x12_see (s o : MS) : Prop := Fr [1, 73] [9, 74] [] [] s o
theorem fr_x12_see {s : MS} {o : (Int × MS)} (h : m_x12_see s = some o) : F_x12_see s o.2 := by
  have hF : F_x12_see s s := Fr.rf s
  unfold m_x12_see at h
  have L121 : ∀ (n : Nat) (x1 : Int) (x2 : Int) (s3 : MS), F_x12_see s s3 → m_x12_see_L121 n x1 x2 s3 = some o → F_x12_see s o.2 := by
    refine fr_ind (fun x1 x2 s3 hF h => by cases h) ?_
    intro n121 ih121 x1 x2 s3 hF h
    have h : m_x12_see_b121 (m_x12_see_L121 n121) x1 x2 s3 = some o := h
    unfold m_x12_see_b121 at h
    obtain ⟨hn4, h⟩ := dv_e h
    obtain ⟨hr5, h⟩ := rg_e h
    obtain ⟨hr6, h⟩ := rg_e h
    by_cases c7 : (Int.tdiv x1 2) ≤ x2
    · have h := if_t c7 h
      obtain ⟨hn8, h⟩ := dv_e h
      obtain ⟨s9, hs9, h⟩ := st_e h
      have hF : F_x12_see s s9 := hs9 ▸ Fr.uI hF (by decide)
      obtain rfl := Option.some.inj h
      exact hF
    · have h := if_f c7 h
      obtain ⟨y10, ey10, iy10, h⟩ := rdI_e h
      obtain ⟨y11, ey11, iy11, h⟩ := rdI_e h
      obtain ⟨hi12, h⟩ := inb_e h
      obtain ⟨s13, hs13, h⟩ := st_e h
      have hF : F_x12_see s s13 := hs13 ▸ Fr.uA hF (by decide)
      exact ih121 x1 (x2 + 1) s13 hF h
  have J109 : ∀ (x14 : Int) (x15 : Int) (s16 : MS), F_x12_see s s16 → m_x12_see_J109 x14 x15 s16 = some o → F_x12_see s o.2 := by
    intro x14 x15 s16 hF h
    unfold m_x12_see_J109 at h
    obtain ⟨hr17, h⟩ := rg_e h
    by_cases c18 : x15 = 0
    · have h := if_t c18 h
      obtain ⟨⟨r21, s20⟩, hc19, h⟩ := bn_e h
      have hF : F_x12_see s s20 := Fr.tr hF (fr_x12_refuses hc19) (by decide)
      obtain rfl := Option.some.inj h
      exact hF
    · have h := if_f c18 h
      exact L121 FU x14 0 s16 hF h
  have L36 : ∀ (n : Nat) (x22 : Int) (x23 : Int) (x24 : Int) (s25 : MS), F_x12_see s s25 → m_x12_see_L36 n x22 x23 x24 s25 = some o → F_x12_see s o.2 := by
    refine fr_ind (fun x22 x23 x24 s25 hF h => by cases h) ?_
    intro n36 ih36 x22 x23 x24 s25 hF h
    have h : m_x12_see_b36 (m_x12_see_L36 n36) x22 x23 x24 s25 = some o := h
    unfold m_x12_see_b36 at h
    have J102 : ∀ (x26 : Int) (x27 : Int) (x28 : Int) (s29 : MS), F_x12_see s s29 → m_x12_see_J102 (m_x12_see_L36 n36) x26 x27 x28 s29 = some o → F_x12_see s o.2 := by
      intro x26 x27 x28 s29 hF h
      unfold m_x12_see_J102 at h
      exact ih36 x26 x28 (x27 + 4) s29 hF h
    have J101 : ∀ (x30 : Int) (x31 : Int) (s32 : MS), F_x12_see s s32 → m_x12_see_J101 (m_x12_see_L36 n36) x30 x31 s32 = some o → F_x12_see s o.2 := by
      intro x30 x31 s32 hF h
      unfold m_x12_see_J101 at h
      exact J102 x30 x31 0 s32 hF h
    obtain ⟨hr33, h⟩ := rg_e h
    obtain ⟨hr34, h⟩ := rg_e h
    by_cases c35 : x22 ≤ x24
    · have h := if_t c35 h
      exact J109 x22 x23 s25 hF h
    · have h := if_f c35 h
      obtain ⟨hr36, h⟩ := rg_e h
      by_cases c37 : x23 = 0
      · have h := if_t c37 h
        exact J109 x22 x23 s25 hF h
      · have h := if_f c37 h
        obtain ⟨y38, ey38, iy38, h⟩ := rdI_e h
        obtain ⟨y39, ey39, iy39, h⟩ := rdI_e h
        obtain ⟨hr40, h⟩ := rg_e h
        by_cases c41 : 999 < ((256 * y38) + y39)
        · have h := if_t c41 h
          exact J101 x22 x24 s25 hF h
        · have h := if_f c41 h
          obtain ⟨y42, ey42, iy42, h⟩ := rdI_e h
          obtain ⟨y43, ey43, iy43, h⟩ := rdI_e h
          obtain ⟨hr44, h⟩ := rg_e h
          by_cases c45 : 1000 < ((256 * y42) + y43)
          · have h := if_t c45 h
            exact J101 x22 x24 s25 hF h
          · have h := if_f c45 h
            exact J102 x22 x24 1 s25 hF h
  have J33 : ∀ (x46 : Int) (x47 : Int) (s48 : MS), F_x12_see s s48 → m_x12_see_J33 x46 x47 s48 = some o → F_x12_see s o.2 := by
    intro x46 x47 s48 hF h
    unfold m_x12_see_J33 at h
    exact L36 FU x46 x47 0 s48 hF h
  have J32 : ∀ (x49 : Int) (s50 : MS), F_x12_see s s50 → m_x12_see_J32 x49 s50 = some o → F_x12_see s o.2 := by
    intro x49 s50 hF h
    unfold m_x12_see_J32 at h
    exact J33 x49 0 s50 hF h
  obtain ⟨s51, hs51, h⟩ := st_e h
  have hF : F_x12_see s s51 := hs51 ▸ Fr.uI hF (by decide)
  obtain ⟨hr52, h⟩ := rg_e h
  by_cases c53 : (gI s 1) ≤ 0
  · have h := if_t c53 h
    exact J32 (gI s 1) s51 hF h
  · have h := if_f c53 h
    obtain ⟨hn54, h⟩ := dv_e h
    obtain ⟨hr55, h⟩ := rg_e h
    by_cases c56 : (Int.tmod (gI s 1) 4) = 0
    · have h := if_t c56 h
      obtain ⟨hn57, h⟩ := dv_e h
      obtain ⟨hr58, h⟩ := rg_e h
      by_cases c59 : 12 < (Int.tdiv (gI s 1) 4)
      · have h := if_t c59 h
        exact J32 (gI s 1) s51 hF h
      · have h := if_f c59 h
        exact J33 (gI s 1) 1 s51 hF h
    · have h := if_f c56 h
      exact J32 (gI s 1) s51 hF h
abbrev F_x12_keeps (s o : MS) : Prop := Fr [76, 77] [75] [] [] s o
theorem fr_x12_keeps {s : MS} {o : MS} (h : m_x12_keeps s = some o) : F_x12_keeps s o := by
  have hF : F_x12_keeps s s := Fr.rf s
  unfold m_x12_keeps at h
  have J68 : ∀ (s1 : MS), F_x12_keeps s s1 → m_x12_keeps_J68 s1 = some o → F_x12_keeps s o := by
    intro s1 hF h
    unfold m_x12_keeps_J68 at h
    obtain rfl := Option.some.inj h
    exact hF
  have L15 : ∀ (n : Nat) (x2 : Int) (s3 : MS), F_x12_keeps s s3 → m_x12_keeps_L15 n x2 s3 = some o → F_x12_keeps s o := by
    refine fr_ind (fun x2 s3 hF h => by cases h) ?_
    intro n15 ih15 x2 s3 hF h
    have h : m_x12_keeps_b15 (m_x12_keeps_L15 n15) x2 s3 = some o := h
    unfold m_x12_keeps_b15 at h
    obtain ⟨hr4, h⟩ := rg_e h
    by_cases c5 : 906 ≤ x2
    · have h := if_t c5 h
      obtain ⟨hr6, h⟩ := rg_e h
      by_cases c7 : 20 ≤ (gI s3 76)
      · have h := if_t c7 h
        exact J68 s3 hF h
      · have h := if_f c7 h
        obtain ⟨s8, hs8, h⟩ := st_e h
        have hF : F_x12_keeps s s8 := hs8 ▸ Fr.uI hF (by decide)
        exact J68 s8 hF h
    · have h := if_f c5 h
      obtain ⟨y9, ey9, iy9, h⟩ := rdI_e h
      obtain ⟨hi10, h⟩ := inb_e h
      obtain ⟨s11, hs11, h⟩ := st_e h
      have hF : F_x12_keeps s s11 := hs11 ▸ Fr.uA hF (by decide)
      exact ih15 (x2 + 1) s11 hF h
  obtain ⟨hn12, h⟩ := dv_e h
  obtain ⟨s13, hs13, h⟩ := st_e h
  have hF : F_x12_keeps s s13 := hs13 ▸ Fr.uI hF (by decide)
  exact L15 FU 0 s13 hF h
abbrev F_x12_undo (s o : MS) : Prop := Fr [76, 77] [9, 49] [] [] s o
theorem fr_x12_undo {s : MS} {o : (Int × MS)} (h : m_x12_undo s = some o) : F_x12_undo s o.2 := by
  have hF : F_x12_undo s s := Fr.rf s
  unfold m_x12_undo at h
  have L21 : ∀ (n : Nat) (x1 : Int) (s2 : MS), F_x12_undo s s2 → m_x12_undo_L21 n x1 s2 = some o → F_x12_undo s o.2 := by
    refine fr_ind (fun x1 s2 hF h => by cases h) ?_
    intro n21 ih21 x1 s2 hF h
    have h : m_x12_undo_b21 (m_x12_undo_L21 n21) x1 s2 = some o := h
    unfold m_x12_undo_b21 at h
    obtain ⟨hr3, h⟩ := rg_e h
    by_cases c4 : 906 ≤ x1
    · have h := if_t c4 h
      obtain ⟨hn5, h⟩ := dv_e h
      obtain ⟨s6, hs6, h⟩ := st_e h
      have hF : F_x12_undo s s6 := hs6 ▸ Fr.uI hF (by decide)
      obtain ⟨s7, hs7, h⟩ := st_e h
      have hF : F_x12_undo s s7 := hs7 ▸ Fr.uI hF (by decide)
      obtain rfl := Option.some.inj h
      exact hF
    · have h := if_f c4 h
      obtain ⟨y8, ey8, iy8, h⟩ := rdI_e h
      obtain ⟨hi9, h⟩ := inb_e h
      obtain ⟨s10, hs10, h⟩ := st_e h
      have hF : F_x12_undo s s10 := hs10 ▸ Fr.uA hF (by decide)
      exact ih21 (x1 + 1) s10 hF h
  obtain ⟨hr11, h⟩ := rg_e h
  by_cases c12 : (gI s 76) = 0
  · have h := if_t c12 h
    obtain ⟨y13, ey13, iy13, h⟩ := rdI_e h
    obtain ⟨hi14, h⟩ := inb_e h
    obtain ⟨s15, hs15, h⟩ := st_e h
    have hF : F_x12_undo s s15 := hs15 ▸ Fr.uA hF (by decide)
    obtain rfl := Option.some.inj h
    exact hF
  · have h := if_f c12 h
    exact L21 FU 0 s hF h
abbrev F_x12_isRefused (s o : MS) : Prop := Fr [] [9] [] [] s o
theorem fr_x12_isRefused {p0 : Int} {s : MS} {o : (Int × MS)} (h : m_x12_isRefused p0 s = some o) : F_x12_isRefused s o.2 := by
  have hF : F_x12_isRefused s s := Fr.rf s
  unfold m_x12_isRefused at h
  obtain ⟨y1, ey1, iy1, h⟩ := rdI_e h
  obtain ⟨hi2, h⟩ := inb_e h
  obtain ⟨s3, hs3, h⟩ := st_e h
  have hF : F_x12_isRefused s s3 := hs3 ▸ Fr.uA hF (by decide)
  obtain rfl := Option.some.inj h
  exact hF
abbrev F_x12_canBe (s o : MS) : Prop := Fr [48, 50, 51, 52, 53, 55, 76, 77, 108] [49, 54, 56, 57, 58, 59, 60, 61, 75] [] [107] s o
theorem fr_x12_canBe {p0 : Int} {p1 : Int} {p2 : Int} {p3 : Int} {s : MS} {o : (Int × MS)} (h : m_x12_canBe p0 p1 p2 p3 s = some o) : F_x12_canBe s o.2 := by
  have hF : F_x12_canBe s s := Fr.rf s
  unfold m_x12_canBe at h
  have L101 : ∀ (n : Nat) (x1 : Int) (s2 : MS), F_x12_canBe s s2 → m_x12_canBe_L101 n x1 s2 = some o → F_x12_canBe s o.2 := by
    refine fr_ind (fun x1 s2 hF h => by cases h) ?_
    intro n101 ih101 x1 s2 hF h
    have h : m_x12_canBe_b101 (m_x12_canBe_L101 n101) x1 s2 = some o := h
    unfold m_x12_canBe_b101 at h
    obtain ⟨hr3, h⟩ := rg_e h
    by_cases c4 : 785 ≤ x1
    · have h := if_t c4 h
      obtain rfl := Option.some.inj h
      exact hF
    · have h := if_f c4 h
      obtain ⟨y5, ey5, iy5, h⟩ := rdI_e h
      obtain ⟨hi6, h⟩ := inb_e h
      obtain ⟨s7, hs7, h⟩ := st_e h
      have hF : F_x12_canBe s s7 := hs7 ▸ Fr.uA hF (by decide)
      exact ih101 (x1 + 1) s7 hF h
  have L48 : ∀ (n : Nat) (x8 : Int) (s9 : MS), F_x12_canBe s s9 → m_x12_canBe_L48 n x8 s9 = some o → F_x12_canBe s o.2 := by
    refine fr_ind (fun x8 s9 hF h => by cases h) ?_
    intro n48 ih48 x8 s9 hF h
    have h : m_x12_canBe_b48 (m_x12_canBe_L48 n48) x8 s9 = some o := h
    unfold m_x12_canBe_b48 at h
    obtain ⟨hr10, h⟩ := rg_e h
    by_cases c11 : 785 ≤ x8
    · have h := if_t c11 h
      obtain ⟨s13, hc12, h⟩ := bn_e h
      have hF : F_x12_canBe s s13 := Fr.tr hF (fr_x12_keeps hc12) (by decide)
      exact L101 FU 0 s13 hF h
    · have h := if_f c11 h
      obtain ⟨y14, ey14, iy14, h⟩ := rdI_e h
      obtain ⟨y15, ey15, iy15, h⟩ := rdI_e h
      obtain ⟨hi16, h⟩ := inb_e h
      obtain ⟨s17, hs17, h⟩ := st_e h
      have hF : F_x12_canBe s s17 := hs17 ▸ Fr.uA hF (by decide)
      obtain ⟨hi18, h⟩ := inb_e h
      obtain ⟨s19, hs19, h⟩ := st_e h
      have hF : F_x12_canBe s s19 := hs19 ▸ Fr.uA hF (by decide)
      exact ih48 (x8 + 1) s19 hF h
  have L3 : ∀ (n : Nat) (x20 : Int) (x21 : Int) (x22 : Int) (x23 : Int) (x24 : Int) (s25 : MS), F_x12_canBe s s25 → m_x12_canBe_L3 n x20 x21 x22 x23 x24 s25 = some o → F_x12_canBe s o.2 := by
    refine fr_ind (fun x20 x21 x22 x23 x24 s25 hF h => by cases h) ?_
    intro n3 ih3 x20 x21 x22 x23 x24 s25 hF h
    have h : m_x12_canBe_b3 (m_x12_canBe_L3 n3) x20 x21 x22 x23 x24 s25 = some o := h
    unfold m_x12_canBe_b3 at h
    obtain ⟨hr26, h⟩ := rg_e h
    by_cases c27 : 785 ≤ x24
    · have h := if_t c27 h
      obtain ⟨⟨r30, s29⟩, hc28, h⟩ := bn_e h
      have hF : F_x12_canBe s s29 := Fr.tr hF (fr_x12_tries hc28) (by decide)
      obtain ⟨hr31, h⟩ := rg_e h
      by_cases c32 : r30 = 0
      · have h := if_t c32 h
        obtain rfl := Option.some.inj h
        exact hF
      · have h := if_f c32 h
        exact L48 FU 0 s29 hF h
    · have h := if_f c27 h
      obtain ⟨y33, ey33, iy33, h⟩ := rdI_e h
      obtain ⟨hi34, h⟩ := inb_e h
      obtain ⟨s35, hs35, h⟩ := st_e h
      have hF : F_x12_canBe s s35 := hs35 ▸ Fr.uA hF (by decide)
      exact ih3 x20 x21 x22 x23 (x24 + 1) s35 hF h
  exact L3 FU p0 p1 p2 p3 0 s hF h
abbrev F_x12_put (s o : MS) : Prop := Fr [48, 50, 51, 52, 53, 55, 76, 77, 108] [9, 49, 54, 56, 57, 58, 59, 60, 61, 75] [] [107] s o
theorem fr_x12_put {p0 : Int} {p1 : Int} {p2 : Int} {s : MS} {o : (Int × MS)} (h : m_x12_put p0 p1 p2 s = some o) : F_x12_put s o.2 := by
  have hF : F_x12_put s s := Fr.rf s
  unfold m_x12_put at h
  have J33 : ∀ (s1 : MS), F_x12_put s s1 → m_x12_put_J33 s1 = some o → F_x12_put s o.2 := by
    intro s1 hF h
    unfold m_x12_put_J33 at h
    obtain ⟨⟨r4, s3⟩, hc2, h⟩ := bn_e h
    have hF : F_x12_put s s3 := Fr.tr hF (fr_x12_refuses hc2) (by decide)
    obtain rfl := Option.some.inj h
    exact hF
  obtain ⟨hr5, h⟩ := rg_e h
  obtain ⟨r7, hc6, h⟩ := bn_e h
  obtain ⟨hr8, h⟩ := rg_e h
  by_cases c9 : r7 = 0
  · have h := if_t c9 h
    exact J33 s hF h
  · have h := if_f c9 h
    obtain ⟨hr10, h⟩ := rg_e h
    obtain ⟨r12, hc11, h⟩ := bn_e h
    obtain ⟨hr13, h⟩ := rg_e h
    by_cases c14 : r12 = 0
    · have h := if_t c14 h
      exact J33 s hF h
    · have h := if_f c14 h
      obtain ⟨hr15, h⟩ := rg_e h
      obtain ⟨r17, hc16, h⟩ := bn_e h
      obtain ⟨hr18, h⟩ := rg_e h
      by_cases c19 : r17 = 0
      · have h := if_t c19 h
        exact J33 s hF h
      · have h := if_f c19 h
        obtain ⟨s21, hc20, h⟩ := bn_e h
        have hF : F_x12_put s s21 := Fr.tr hF (fr_x12_clearsTouched hc20) (by decide)
        obtain ⟨⟨r24, s23⟩, hc22, h⟩ := bn_e h
        have hF : F_x12_put s s23 := Fr.tr hF (fr_x12_canBe hc22) (by decide)
        obtain ⟨hr25, h⟩ := rg_e h
        by_cases c26 : r24 = 0
        · have h := if_t c26 h
          obtain ⟨⟨r33, s32⟩, hc31, h⟩ := bn_e h
          have hF : F_x12_put s s32 := Fr.tr hF (fr_x12_refuses hc31) (by decide)
          obtain rfl := Option.some.inj h
          exact hF
        · have h := if_f c26 h
          obtain ⟨s28, hc27, h⟩ := bn_e h
          have hF : F_x12_put s s28 := Fr.tr hF (fr_x12_isKept hc27) (by decide)
          obtain ⟨r30, hc29, h⟩ := bn_e h
          obtain rfl := Option.some.inj h
          exact hF
abbrev F_x12_remove (s o : MS) : Prop := Fr [48, 50, 51, 52, 53, 55, 76, 77, 108] [9, 49, 54, 56, 57, 58, 59, 60, 61, 75] [] [107] s o
theorem fr_x12_remove {p0 : Int} {p1 : Int} {s : MS} {o : (Int × MS)} (h : m_x12_remove p0 p1 s = some o) : F_x12_remove s o.2 := by
  have hF : F_x12_remove s s := Fr.rf s
  unfold m_x12_remove at h
  obtain ⟨hr1, h⟩ := rg_e h
  obtain ⟨r3, hc2, h⟩ := bn_e h
  obtain ⟨hr4, h⟩ := rg_e h
  by_cases c5 : r3 = 0
  · have h := if_t c5 h
    obtain ⟨⟨r22, s21⟩, hc20, h⟩ := bn_e h
    have hF : F_x12_remove s s21 := Fr.tr hF (fr_x12_refuses hc20) (by decide)
    obtain rfl := Option.some.inj h
    exact hF
  · have h := if_f c5 h
    obtain ⟨s7, hc6, h⟩ := bn_e h
    have hF : F_x12_remove s s7 := Fr.tr hF (fr_x12_clearsTouched hc6) (by decide)
    obtain ⟨⟨r10, s9⟩, hc8, h⟩ := bn_e h
    have hF : F_x12_remove s s9 := Fr.tr hF (fr_x12_canBe hc8) (by decide)
    obtain ⟨hr11, h⟩ := rg_e h
    by_cases c12 : r10 = 0
    · have h := if_t c12 h
      obtain ⟨⟨r19, s18⟩, hc17, h⟩ := bn_e h
      have hF : F_x12_remove s s18 := Fr.tr hF (fr_x12_refuses hc17) (by decide)
      obtain rfl := Option.some.inj h
      exact hF
    · have h := if_f c12 h
      obtain ⟨s14, hc13, h⟩ := bn_e h
      have hF : F_x12_remove s s14 := Fr.tr hF (fr_x12_isKept hc13) (by decide)
      obtain ⟨r16, hc15, h⟩ := bn_e h
      obtain rfl := Option.some.inj h
      exact hF
abbrev F_x12_copy (s o : MS) : Prop := Fr [48, 50, 52, 53, 76, 77, 108] [9, 49, 54, 75] [] [107] s o
theorem fr_x12_copy {p0 : Int} {s : MS} {o : (Int × MS)} (h : m_x12_copy p0 s = some o) : F_x12_copy s o.2 := by
  have hF : F_x12_copy s s := Fr.rf s
  unfold m_x12_copy at h
  have J20 : ∀ (s1 : MS), F_x12_copy s s1 → m_x12_copy_J20 s1 = some o → F_x12_copy s o.2 := by
    intro s1 hF h
    unfold m_x12_copy_J20 at h
    obtain ⟨⟨r4, s3⟩, hc2, h⟩ := bn_e h
    have hF : F_x12_copy s s3 := Fr.tr hF (fr_x12_refuses hc2) (by decide)
    obtain rfl := Option.some.inj h
    exact hF
  obtain ⟨r6, hc5, h⟩ := bn_e h
  obtain ⟨hr7, h⟩ := rg_e h
  obtain ⟨r9, hc8, h⟩ := bn_e h
  obtain ⟨hr10, h⟩ := rg_e h
  by_cases c11 : r9 = 0
  · have h := if_t c11 h
    exact J20 s hF h
  · have h := if_f c11 h
    obtain ⟨hr12, h⟩ := rg_e h
    by_cases c13 : r6 = 8
    · have h := if_t c13 h
      exact J20 s hF h
    · have h := if_f c13 h
      obtain ⟨s15, hc14, h⟩ := bn_e h
      have hF : F_x12_copy s s15 := Fr.tr hF (fr_x12_keeps hc14) (by decide)
      obtain ⟨s17, hc16, h⟩ := bn_e h
      have hF : F_x12_copy s s17 := Fr.tr hF (fr_x12_clearsTouched hc16) (by decide)
      obtain ⟨s19, hc18, h⟩ := bn_e h
      have hF : F_x12_copy s s19 := Fr.tr hF (fr_x12_copies hc18) (by decide)
      obtain ⟨s21, hc20, h⟩ := bn_e h
      have hF : F_x12_copy s s21 := Fr.tr hF (fr_x12_isKept hc20) (by decide)
      obtain rfl := Option.some.inj h
      exact hF
abbrev F_x12_drop (s o : MS) : Prop := Fr [48, 50, 52, 53, 76, 77, 108] [9, 49, 54, 56, 75] [] [107] s o
theorem fr_x12_drop {p0 : Int} {s : MS} {o : (Int × MS)} (h : m_x12_drop p0 s = some o) : F_x12_drop s o.2 := by
  have hF : F_x12_drop s s := Fr.rf s
  unfold m_x12_drop at h
  obtain ⟨hr1, h⟩ := rg_e h
  obtain ⟨r3, hc2, h⟩ := bn_e h
  obtain ⟨hr4, h⟩ := rg_e h
  by_cases c5 : r3 = 0
  · have h := if_t c5 h
    obtain ⟨⟨r20, s19⟩, hc18, h⟩ := bn_e h
    have hF : F_x12_drop s s19 := Fr.tr hF (fr_x12_refuses hc18) (by decide)
    obtain rfl := Option.some.inj h
    exact hF
  · have h := if_f c5 h
    obtain ⟨s7, hc6, h⟩ := bn_e h
    have hF : F_x12_drop s s7 := Fr.tr hF (fr_x12_keeps hc6) (by decide)
    obtain ⟨s9, hc8, h⟩ := bn_e h
    have hF : F_x12_drop s s9 := Fr.tr hF (fr_x12_clearsTouched hc8) (by decide)
    obtain ⟨r11, hc10, h⟩ := bn_e h
    obtain ⟨s13, hc12, h⟩ := bn_e h
    have hF : F_x12_drop s s13 := Fr.tr hF (fr_x12_drops hc12) (by decide)
    obtain ⟨s15, hc14, h⟩ := bn_e h
    have hF : F_x12_drop s s15 := Fr.tr hF (fr_x12_isKept hc14) (by decide)
    obtain ⟨r17, hc16, h⟩ := bn_e h
    obtain rfl := Option.some.inj h
    exact hF
abbrev F_x12_checkpoint (s o : MS) : Prop := Fr [48, 50, 52, 53, 76, 77, 108] [9, 49, 54, 75] [] [107] s o
theorem fr_x12_checkpoint {s : MS} {o : (Int × MS)} (h : m_x12_checkpoint s = some o) : F_x12_checkpoint s o.2 := by
  have hF : F_x12_checkpoint s s := Fr.rf s
  unfold m_x12_checkpoint at h
  obtain ⟨hr1, h⟩ := rg_e h
  by_cases c2 : (gI s 47) = 0
  · have h := if_t c2 h
    obtain ⟨⟨r15, s14⟩, hc13, h⟩ := bn_e h
    have hF : F_x12_checkpoint s s14 := Fr.tr hF (fr_x12_refuses hc13) (by decide)
    obtain rfl := Option.some.inj h
    exact hF
  · have h := if_f c2 h
    obtain ⟨s4, hc3, h⟩ := bn_e h
    have hF : F_x12_checkpoint s s4 := Fr.tr hF (fr_x12_keeps hc3) (by decide)
    obtain ⟨s6, hc5, h⟩ := bn_e h
    have hF : F_x12_checkpoint s s6 := Fr.tr hF (fr_x12_clearsTouched hc5) (by decide)
    obtain ⟨r8, hc7, h⟩ := bn_e h
    obtain ⟨s10, hc9, h⟩ := bn_e h
    have hF : F_x12_checkpoint s s10 := Fr.tr hF (fr_x12_checks hc9) (by decide)
    obtain ⟨s12, hc11, h⟩ := bn_e h
    have hF : F_x12_checkpoint s s12 := Fr.tr hF (fr_x12_isKept hc11) (by decide)
    obtain rfl := Option.some.inj h
    exact hF
abbrev F_x12_crash (s o : MS) : Prop := Fr [48, 50, 52, 53, 76, 77, 108] [9, 49, 54, 75] [] [107] s o
theorem fr_x12_crash {s : MS} {o : (Int × MS)} (h : m_x12_crash s = some o) : F_x12_crash s o.2 := by
  have hF : F_x12_crash s s := Fr.rf s
  unfold m_x12_crash at h
  have L25 : ∀ (n : Nat) (x1 : Int) (x2 : Int) (s3 : MS), F_x12_crash s s3 → m_x12_crash_L25 n x1 x2 s3 = some o → F_x12_crash s o.2 := by
    refine fr_ind (fun x1 x2 s3 hF h => by cases h) ?_
    intro n25 ih25 x1 x2 s3 hF h
    have h : m_x12_crash_b25 (m_x12_crash_L25 n25) x1 x2 s3 = some o := h
    unfold m_x12_crash_b25 at h
    have J44 : ∀ (x4 : Int) (x5 : Int) (s6 : MS), F_x12_crash s s6 → m_x12_crash_J44 (m_x12_crash_L25 n25) x4 x5 s6 = some o → F_x12_crash s o.2 := by
      intro x4 x5 s6 hF h
      unfold m_x12_crash_J44 at h
      exact ih25 x4 (x5 + 1) s6 hF h
    obtain ⟨r8, hc7, h⟩ := bn_e h
    obtain ⟨hr9, h⟩ := rg_e h
    obtain ⟨hr10, h⟩ := rg_e h
    by_cases c11 : r8 ≤ x2
    · have h := if_t c11 h
      obtain ⟨s13, hc12, h⟩ := bn_e h
      have hF : F_x12_crash s s13 := Fr.tr hF (fr_x12_crashes hc12) (by decide)
      obtain ⟨s15, hc14, h⟩ := bn_e h
      have hF : F_x12_crash s s15 := Fr.tr hF (fr_x12_isKept hc14) (by decide)
      obtain rfl := Option.some.inj h
      exact hF
    · have h := if_f c11 h
      obtain ⟨r17, hc16, h⟩ := bn_e h
      obtain ⟨hr18, h⟩ := rg_e h
      by_cases c19 : r17 = 0
      · have h := if_t c19 h
        exact J44 x1 x2 s3 hF h
      · have h := if_f c19 h
        exact J44 (x1 + 1) x2 s3 hF h
  obtain ⟨hr20, h⟩ := rg_e h
  by_cases c21 : (gI s 47) = 0
  · have h := if_t c21 h
    obtain ⟨⟨r28, s27⟩, hc26, h⟩ := bn_e h
    have hF : F_x12_crash s s27 := Fr.tr hF (fr_x12_refuses hc26) (by decide)
    obtain rfl := Option.some.inj h
    exact hF
  · have h := if_f c21 h
    obtain ⟨s23, hc22, h⟩ := bn_e h
    have hF : F_x12_crash s s23 := Fr.tr hF (fr_x12_keeps hc22) (by decide)
    obtain ⟨s25, hc24, h⟩ := bn_e h
    have hF : F_x12_crash s s25 := Fr.tr hF (fr_x12_clearsTouched hc24) (by decide)
    exact L25 FU 0 0 s25 hF h
abbrev F_x12_seed (s o : MS) : Prop := Fr [] [9] [78] [] s o
theorem fr_x12_seed {p0 : Int} {s : MS} {o : (Int × MS)} (h : m_x12_seed p0 s = some o) : F_x12_seed s o.2 := by
  have hF : F_x12_seed s s := Fr.rf s
  unfold m_x12_seed at h
  obtain ⟨hr1, h⟩ := rg_e h
  by_cases c2 : 0 ≤ p0
  · have h := if_t c2 h
    obtain ⟨hr3, h⟩ := rg_e h
    obtain ⟨s4, hs4, h⟩ := st_e h
    have hF : F_x12_seed s s4 := hs4 ▸ Fr.uL hF (by decide)
    obtain rfl := Option.some.inj h
    exact hF
  · have h := if_f c2 h
    obtain ⟨⟨r7, s6⟩, hc5, h⟩ := bn_e h
    have hF : F_x12_seed s s6 := Fr.tr hF (fr_x12_isRefused hc5) (by decide)
    obtain ⟨hb8, h⟩ := bo_e h
    obtain rfl := Option.some.inj h
    exact hF
abbrev F_x12_drawOf (s o : MS) : Prop := Fr [] [] [78] [] s o
theorem fr_x12_drawOf {p0 : Int} {s : MS} {o : (Int × MS)} (h : m_x12_drawOf p0 s = some o) : F_x12_drawOf s o.2 := by
  have hF : F_x12_drawOf s s := Fr.rf s
  unfold m_x12_drawOf at h
  obtain ⟨hn1, h⟩ := dvL_e h
  obtain ⟨s2, hs2, h⟩ := st_e h
  have hF : F_x12_drawOf s s2 := hs2 ▸ Fr.uL hF (by decide)
  obtain ⟨hn3, h⟩ := dvL_e h
  obtain ⟨hr4, h⟩ := rg_e h
  obtain ⟨hn5, h⟩ := dvL_e h
  obtain rfl := Option.some.inj h
  exact hF
abbrev F_x12_isDrawn (s o : MS) : Prop := Fr [48, 50, 51, 52, 53, 55, 108] [49, 54, 56, 57, 58, 59, 60] [78] [107] s o
theorem fr_x12_isDrawn {s : MS} {o : (Int × MS)} (h : m_x12_isDrawn s = some o) : F_x12_isDrawn s o.2 := by
  have hF : F_x12_isDrawn s s := Fr.rf s
  unfold m_x12_isDrawn at h
  have J84 : ∀ (x1 : Int) (s2 : MS), F_x12_isDrawn s s2 → m_x12_isDrawn_J84 x1 s2 = some o → F_x12_isDrawn s o.2 := by
    intro x1 s2 hF h
    unfold m_x12_isDrawn_J84 at h
    obtain ⟨hb3, h⟩ := bo_e h
    obtain rfl := Option.some.inj h
    exact hF
  have J20 : ∀ (s4 : MS), F_x12_isDrawn s s4 → m_x12_isDrawn_J20 s4 = some o → F_x12_isDrawn s o.2 := by
    intro s4 hF h
    unfold m_x12_isDrawn_J20 at h
    obtain ⟨r6, hc5, h⟩ := bn_e h
    obtain ⟨hr7, h⟩ := rg_e h
    by_cases c8 : r6 = 0
    · have h := if_t c8 h
      obtain rfl := Option.some.inj h
      exact hF
    · have h := if_f c8 h
      obtain ⟨r10, hc9, h⟩ := bn_e h
      obtain ⟨⟨r13, s12⟩, hc11, h⟩ := bn_e h
      have hF : F_x12_isDrawn s s12 := Fr.tr hF (fr_x12_drawOf hc11) (by decide)
      obtain ⟨r15, hc14, h⟩ := bn_e h
      obtain ⟨⟨r18, s17⟩, hc16, h⟩ := bn_e h
      have hF : F_x12_isDrawn s s17 := Fr.tr hF (fr_x12_drawOf hc16) (by decide)
      obtain ⟨⟨r21, s20⟩, hc19, h⟩ := bn_e h
      have hF : F_x12_isDrawn s s20 := Fr.tr hF (fr_x12_drawOf hc19) (by decide)
      obtain ⟨hr22, h⟩ := rg_e h
      by_cases c23 : 2 ≤ r18
      · have h := if_t c23 h
        obtain ⟨⟨r26, s25⟩, hc24, h⟩ := bn_e h
        have hF : F_x12_isDrawn s s25 := Fr.tr hF (fr_x12_tries hc24) (by decide)
        exact J84 r26 s25 hF h
      · have h := if_f c23 h
        obtain ⟨⟨r29, s28⟩, hc27, h⟩ := bn_e h
        have hF : F_x12_isDrawn s s28 := Fr.tr hF (fr_x12_drawOf hc27) (by decide)
        obtain ⟨⟨r32, s31⟩, hc30, h⟩ := bn_e h
        have hF : F_x12_isDrawn s s31 := Fr.tr hF (fr_x12_tries hc30) (by decide)
        exact J84 r32 s31 hF h
  obtain ⟨⟨r35, s34⟩, hc33, h⟩ := bn_e h
  have hF : F_x12_isDrawn s s34 := Fr.tr hF (fr_x12_drawOf hc33) (by decide)
  obtain ⟨y36, ey36, iy36, h⟩ := rdI_e h
  obtain ⟨hr37, h⟩ := rg_e h
  obtain ⟨hr38, h⟩ := rg_e h
  by_cases c39 : y36 ≤ r35
  · have h := if_t c39 h
    exact J20 s34 hF h
  · have h := if_f c39 h
    obtain ⟨s41, hc40, h⟩ := bn_e h
    have hF : F_x12_isDrawn s s41 := Fr.tr hF (fr_x12_checks hc40) (by decide)
    exact J20 s41 hF h
abbrev F_x12_chance (s o : MS) : Prop := Fr [48, 50, 51, 52, 53, 55, 76, 77, 108] [9, 49, 54, 56, 57, 58, 59, 60, 75] [78] [107] s o
theorem fr_x12_chance {p0 : Int} {s : MS} {o : (Int × MS)} (h : m_x12_chance p0 s = some o) : F_x12_chance s o.2 := by
  have hF : F_x12_chance s s := Fr.rf s
  unfold m_x12_chance at h
  have L37 : ∀ (n : Nat) (x1 : Int) (x2 : Int) (x3 : Int) (s4 : MS), F_x12_chance s s4 → m_x12_chance_L37 n x1 x2 x3 s4 = some o → F_x12_chance s o.2 := by
    refine fr_ind (fun x1 x2 x3 s4 hF h => by cases h) ?_
    intro n37 ih37 x1 x2 x3 s4 hF h
    have h : m_x12_chance_b37 (m_x12_chance_L37 n37) x1 x2 x3 s4 = some o := h
    unfold m_x12_chance_b37 at h
    have J52 : ∀ (x5 : Int) (x6 : Int) (x7 : Int) (s8 : MS), F_x12_chance s s8 → m_x12_chance_J52 (m_x12_chance_L37 n37) x5 x6 x7 s8 = some o → F_x12_chance s o.2 := by
      intro x5 x6 x7 s8 hF h
      unfold m_x12_chance_J52 at h
      exact ih37 x5 x6 (x7 + 1) s8 hF h
    obtain ⟨hr9, h⟩ := rg_e h
    obtain ⟨hr10, h⟩ := rg_e h
    by_cases c11 : x1 ≤ x3
    · have h := if_t c11 h
      obtain ⟨s13, hc12, h⟩ := bn_e h
      have hF : F_x12_chance s s13 := Fr.tr hF (fr_x12_isKept hc12) (by decide)
      obtain rfl := Option.some.inj h
      exact hF
    · have h := if_f c11 h
      obtain ⟨⟨r16, s15⟩, hc14, h⟩ := bn_e h
      have hF : F_x12_chance s s15 := Fr.tr hF (fr_x12_isDrawn hc14) (by decide)
      obtain ⟨hr17, h⟩ := rg_e h
      by_cases c18 : r16 = 0
      · have h := if_t c18 h
        exact J52 x1 x2 x3 s15 hF h
      · have h := if_f c18 h
        exact J52 x1 (x2 + 1) x3 s15 hF h
  have J19 : ∀ (s19 : MS), F_x12_chance s s19 → m_x12_chance_J19 s19 = some o → F_x12_chance s o.2 := by
    intro s19 hF h
    unfold m_x12_chance_J19 at h
    obtain ⟨⟨r22, s21⟩, hc20, h⟩ := bn_e h
    have hF : F_x12_chance s s21 := Fr.tr hF (fr_x12_refuses hc20) (by decide)
    obtain rfl := Option.some.inj h
    exact hF
  obtain ⟨hr23, h⟩ := rg_e h
  by_cases c24 : (gI s 47) = 0
  · have h := if_t c24 h
    exact J19 s hF h
  · have h := if_f c24 h
    obtain ⟨hr25, h⟩ := rg_e h
    obtain ⟨r27, hc26, h⟩ := bn_e h
    obtain ⟨hr28, h⟩ := rg_e h
    by_cases c29 : r27 = 0
    · have h := if_t c29 h
      exact J19 s hF h
    · have h := if_f c29 h
      obtain ⟨s31, hc30, h⟩ := bn_e h
      have hF : F_x12_chance s s31 := Fr.tr hF (fr_x12_keeps hc30) (by decide)
      obtain ⟨s33, hc32, h⟩ := bn_e h
      have hF : F_x12_chance s s33 := Fr.tr hF (fr_x12_clearsTouched hc32) (by decide)
      exact L37 FU p0 0 0 s33 hF h
abbrev F_x12_qTold (s o : MS) : Prop := Fr [108] [] [] [107] s o
theorem fr_x12_qTold {p0 : Int} {s : MS} {o : (Int × MS)} (h : m_x12_qTold p0 s = some o) : F_x12_qTold s o.2 := by
  have hF : F_x12_qTold s s := Fr.rf s
  unfold m_x12_qTold at h
  have L7 : ∀ (n : Nat) (x1 : Int) (x2 : Int) (s3 : MS), F_x12_qTold s s3 → m_x12_qTold_L7 n x1 x2 s3 = some o → F_x12_qTold s o.2 := by
    refine fr_ind (fun x1 x2 s3 hF h => by cases h) ?_
    intro n7 ih7 x1 x2 s3 hF h
    have h : m_x12_qTold_b7 (m_x12_qTold_L7 n7) x1 x2 s3 = some o := h
    unfold m_x12_qTold_b7 at h
    have J162 : ∀ (x4 : Int) (x5 : Int) (s6 : MS), F_x12_qTold s s6 → m_x12_qTold_J162 (m_x12_qTold_L7 n7) x4 x5 s6 = some o → F_x12_qTold s o.2 := by
      intro x4 x5 s6 hF h
      unfold m_x12_qTold_J162 at h
      exact ih7 x4 (x5 + 1) s6 hF h
    obtain ⟨hr7, h⟩ := rg_e h
    obtain ⟨hr8, h⟩ := rg_e h
    by_cases c9 : (gI s3 102) ≤ x2
    · have h := if_t c9 h
      obtain ⟨yl10, eyl10, iyl10, h⟩ := rdL_e h
      obtain rfl := Option.some.inj h
      exact hF
    · have h := if_f c9 h
      obtain ⟨y11, ey11, iy11, h⟩ := rdI_e h
      obtain ⟨hr12, h⟩ := rg_e h
      by_cases c13 : y11 < 1000
      · have h := if_t c13 h
        obtain ⟨hr14, h⟩ := rg_e h
        by_cases c15 : y11 < 60
        · have h := if_t c15 h
          obtain ⟨hr16, h⟩ := rg_e h
          by_cases c17 : y11 < 40
          · have h := if_t c17 h
            obtain ⟨hr18, h⟩ := rg_e h
            by_cases c19 : y11 = 13
            · have h := if_t c19 h
              obtain ⟨s28, hc27, h⟩ := bn_e h
              have hF : F_x12_qTold s s28 := Fr.tr hF (fr_x12_qPuts hc27) (by decide)
              exact J162 x1 x2 s28 hF h
            · have h := if_f c19 h
              obtain ⟨hr20, h⟩ := rg_e h
              by_cases c21 : y11 = 12
              · have h := if_t c21 h
                obtain ⟨yl24, eyl24, iyl24, h⟩ := rdL_e h
                obtain ⟨hi25, h⟩ := inb_e h
                obtain ⟨s26, hs26, h⟩ := st_e h
                have hF : F_x12_qTold s s26 := hs26 ▸ Fr.uB hF (by decide)
                exact J162 x1 x2 s26 hF h
              · have h := if_f c21 h
                obtain ⟨s23, hc22, h⟩ := bn_e h
                have hF : F_x12_qTold s s23 := Fr.tr hF (fr_x12_qJoins hc22) (by decide)
                exact J162 x1 x2 s23 hF h
          · have h := if_f c17 h
            obtain ⟨rl30, hc29, h⟩ := bn_e h
            obtain ⟨rl32, hc31, h⟩ := bn_e h
            obtain ⟨s34, hc33, h⟩ := bn_e h
            have hF : F_x12_qTold s s34 := Fr.tr hF (fr_x12_qPuts hc33) (by decide)
            exact J162 x1 x2 s34 hF h
        · have h := if_f c15 h
          obtain ⟨yl35, eyl35, iyl35, h⟩ := rdL_e h
          obtain ⟨rl37, hc36, h⟩ := bn_e h
          obtain ⟨rl39, hc38, h⟩ := bn_e h
          obtain ⟨hi40, h⟩ := inb_e h
          obtain ⟨s41, hs41, h⟩ := st_e h
          have hF : F_x12_qTold s s41 := hs41 ▸ Fr.uB hF (by decide)
          exact J162 x1 x2 s41 hF h
      · have h := if_f c13 h
        obtain ⟨hr42, h⟩ := rg_e h
        obtain ⟨s44, hc43, h⟩ := bn_e h
        have hF : F_x12_qTold s s44 := Fr.tr hF (fr_x12_qPuts hc43) (by decide)
        exact J162 x1 x2 s44 hF h
  obtain ⟨s45, hs45, h⟩ := st_e h
  have hF : F_x12_qTold s s45 := hs45 ▸ Fr.uI hF (by decide)
  exact L7 FU p0 0 s45 hF h
