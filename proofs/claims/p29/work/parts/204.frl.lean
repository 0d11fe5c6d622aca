/-! ===== what a method leaves as it was ===== -/
def Fr (I A L B : List Nat) (s o : MS) : Prop := (∀ k, k ∉ I → gI o k = gI s k) ∧ (∀ k, k ∉ A → gA o k = gA s k) ∧ (∀ k, k ∉ L → gL o k = gL s k) ∧ (∀ k, k ∉ B → gB o k = gB s k)
theorem Fr.rf {I A L B : List Nat} (s : MS) : Fr I A L B s s := ⟨fun _ _ => rfl, fun _ _ => rfl, fun _ _ => rfl, fun _ _ => rfl⟩
theorem Fr.uI {I A L B : List Nat} {s t : MS} {k : Nat} {v : Int} (h : Fr I A L B s t) (hk : k ∈ I) : Fr I A L B s (sI t k v) := by
  refine ⟨fun j hj => ?_, h.2.1, h.2.2.1, h.2.2.2⟩
  have e : j ≠ k := fun q => hj (q ▸ hk)
  have : gI (sI t k v) j = gI t j := if_neg e
  rw [this]; exact h.1 j hj
theorem Fr.uL {I A L B : List Nat} {s t : MS} {k : Nat} {v : Int} (h : Fr I A L B s t) (hk : k ∈ L) : Fr I A L B s (sL t k v) := by
  refine ⟨h.1, h.2.1, fun j hj => ?_, h.2.2.2⟩
  have e : j ≠ k := fun q => hj (q ▸ hk)
  have : gL (sL t k v) j = gL t j := if_neg e
  rw [this]; exact h.2.2.1 j hj
theorem Fr.uA {I A L B : List Nat} {s t : MS} {k : Nat} {f : Nat → Int} (h : Fr I A L B s t) (hk : k ∈ A) : Fr I A L B s (sA t k f) := by
  refine ⟨h.1, fun j hj => ?_, h.2.2.1, h.2.2.2⟩
  have e : j ≠ k := fun q => hj (q ▸ hk)
  have : gA (sA t k f) j = gA t j := if_neg e
  rw [this]; exact h.2.1 j hj
theorem Fr.uB {I A L B : List Nat} {s t : MS} {k : Nat} {f : Nat → Int} (h : Fr I A L B s t) (hk : k ∈ B) : Fr I A L B s (sB t k f) := by
  refine ⟨h.1, h.2.1, h.2.2.1, fun j hj => ?_⟩
  have e : j ≠ k := fun q => hj (q ▸ hk)
  have : gB (sB t k f) j = gB t j := if_neg e
  rw [this]; exact h.2.2.2 j hj
theorem Fr.tr {I A L B I1 A1 L1 B1 : List Nat} {s t u : MS} (h : Fr I A L B s t) (g : Fr I1 A1 L1 B1 t u) (hs : (∀ k, k ∈ I1 → k ∈ I) ∧ (∀ k, k ∈ A1 → k ∈ A) ∧ (∀ k, k ∈ L1 → k ∈ L) ∧ (∀ k, k ∈ B1 → k ∈ B)) : Fr I A L B s u :=
  ⟨fun k hk => (g.1 k (fun q => hk (hs.1 k q))).trans (h.1 k hk), fun k hk => (g.2.1 k (fun q => hk (hs.2.1 k q))).trans (h.2.1 k hk), fun k hk => (g.2.2.1 k (fun q => hk (hs.2.2.1 k q))).trans (h.2.2.1 k hk), fun k hk => (g.2.2.2 k (fun q => hk (hs.2.2.2 k q))).trans (h.2.2.2 k hk)⟩
theorem fr_ind {P : Nat → Prop} (z : P 0) (s : ∀ n, P n → P (n + 1)) : ∀ n, P n := by
  intro n
  induction n with
  | zero => exact z
  | succ n ih => exact s n ih
abbrev F_rg (s o : MS) : Prop := Fr [100, 101, 102, 103, 104, 105, 106, 107, 108, 109, 110, 111, 941] [48] [] [] s o
abbrev F_x6_fail (s o : MS) : Prop := Fr [100, 101, 107] [] [] [] s o
theorem fr_x6_fail {p0 : Int} {p1 : Int} {s : MS} {o : (Int × MS)} (h : m_x6_fail p0 p1 s = some o) : F_x6_fail s o.2 := by
  have hF : F_x6_fail s s := Fr.rf s
  unfold m_x6_fail at h
  have J22 : ∀ (s1 : MS), F_x6_fail s s1 → m_x6_fail_J22 s1 = some o → F_x6_fail s o.2 := by
    intro s1 hF h
    unfold m_x6_fail_J22 at h
    obtain rfl := Option.some.inj h
    exact hF
  obtain ⟨hr2, h⟩ := rg_e h
  by_cases c3 : (gI s 100) = 0
  · have h := if_t c3 h
    obtain ⟨s4, hs4, h⟩ := st_e h
    have hF : F_x6_fail s s4 := hs4 ▸ Fr.uI hF (by decide)
    obtain ⟨s5, hs5, h⟩ := st_e h
    have hF : F_x6_fail s s5 := hs5 ▸ Fr.uI hF (by decide)
    obtain ⟨s6, hs6, h⟩ := st_e h
    have hF : F_x6_fail s s6 := hs6 ▸ Fr.uI hF (by decide)
    exact J22 s6 hF h
  · have h := if_f c3 h
    exact J22 s hF h
abbrev F_x6_opens (s o : MS) : Prop := Fr [100, 101, 106, 107] [] [] [] s o
theorem fr_x6_opens {s : MS} {o : (Int × MS)} (h : m_x6_opens s = some o) : F_x6_opens s o.2 := by
  have hF : F_x6_opens s s := Fr.rf s
  unfold m_x6_opens at h
  obtain ⟨hr1, h⟩ := rg_e h
  by_cases c2 : (gI s 106) < 6
  · have h := if_t c2 h
    obtain ⟨s3, hs3, h⟩ := st_e h
    have hF : F_x6_opens s s3 := hs3 ▸ Fr.uI hF (by decide)
    obtain rfl := Option.some.inj h
    exact hF
  · have h := if_f c2 h
    obtain ⟨⟨r6, s5⟩, hc4, h⟩ := bn_e h
    have hF : F_x6_opens s s5 := Fr.tr hF (fr_x6_fail hc4) (by decide)
    obtain ⟨hb7, h⟩ := bo_e h
    obtain rfl := Option.some.inj h
    exact hF
abbrev F_x6_advance (s o : MS) : Prop := Fr [107, 108, 109, 110, 111] [] [] [] s o
theorem fr_x6_advance {s : MS} {o : MS} (h : m_x6_advance s = some o) : F_x6_advance s o := by
  have hF : F_x6_advance s s := Fr.rf s
  unfold m_x6_advance at h
  have J300 : ∀ (s1 : MS), F_x6_advance s s1 → m_x6_advance_J300 s1 = some o → F_x6_advance s o := by
    intro s1 hF h
    unfold m_x6_advance_J300 at h
    obtain rfl := Option.some.inj h
    exact hF
  have J295 : ∀ (s2 : MS), F_x6_advance s s2 → m_x6_advance_J295 s2 = some o → F_x6_advance s o := by
    intro s2 hF h
    unfold m_x6_advance_J295 at h
    obtain ⟨s3, hs3, h⟩ := st_e h
    have hF : F_x6_advance s s3 := hs3 ▸ Fr.uI hF (by decide)
    exact J300 s3 hF h
  have J281 : ∀ (x4 : Int) (s5 : MS), F_x6_advance s s5 → m_x6_advance_J281 x4 s5 = some o → F_x6_advance s o := by
    intro x4 s5 hF h
    unfold m_x6_advance_J281 at h
    obtain ⟨r7, hc6, h⟩ := bn_e h
    obtain ⟨hr8, h⟩ := rg_e h
    by_cases c9 : r7 = 0
    · have h := if_t c9 h
      obtain ⟨r11, hc10, h⟩ := bn_e h
      obtain ⟨hr12, h⟩ := rg_e h
      by_cases c13 : r11 = 0
      · have h := if_t c13 h
        exact J300 s5 hF h
      · have h := if_f c13 h
        exact J295 s5 hF h
    · have h := if_f c9 h
      exact J295 s5 hF h
  have J251 : ∀ (s14 : MS), F_x6_advance s s14 → m_x6_advance_J251 s14 = some o → F_x6_advance s o := by
    intro s14 hF h
    unfold m_x6_advance_J251 at h
    obtain ⟨r16, hc15, h⟩ := bn_e h
    obtain ⟨hr17, h⟩ := rg_e h
    by_cases c18 : (gI s14 107) = 1
    · have h := if_t c18 h
      exact J281 r16 s14 hF h
    · have h := if_f c18 h
      obtain ⟨hr19, h⟩ := rg_e h
      by_cases c20 : (gI s14 107) = 2
      · have h := if_t c20 h
        exact J281 r16 s14 hF h
      · have h := if_f c20 h
        exact J300 s14 hF h
  have L191 : ∀ (n : Nat) (s21 : MS), F_x6_advance s s21 → m_x6_advance_L191 n s21 = some o → F_x6_advance s o := by
    refine fr_ind (fun s21 hF h => by cases h) ?_
    intro n191 ih191 s21 hF h
    have h : m_x6_advance_b191 (m_x6_advance_L191 n191) s21 = some o := h
    unfold m_x6_advance_b191 at h
    obtain ⟨hr22, h⟩ := rg_e h
    obtain ⟨hr23, h⟩ := rg_e h
    by_cases c24 : (gI s21 61) ≤ (gI s21 109)
    · have h := if_t c24 h
      exact J251 s21 hF h
    · have h := if_f c24 h
      obtain ⟨y25, ey25, iy25, h⟩ := rdI_e h
      obtain ⟨r27, hc26, h⟩ := bn_e h
      obtain ⟨hr28, h⟩ := rg_e h
      by_cases c29 : r27 = 0
      · have h := if_t c29 h
        exact J251 s21 hF h
      · have h := if_f c29 h
        obtain ⟨s30, hs30, h⟩ := st_e h
        have hF : F_x6_advance s s30 := hs30 ▸ Fr.uI hF (by decide)
        exact ih191 s30 hF h
  have J165 : ∀ (s31 : MS), F_x6_advance s s31 → m_x6_advance_J165 s31 = some o → F_x6_advance s o := by
    intro s31 hF h
    unfold m_x6_advance_J165 at h
    obtain ⟨r33, hc32, h⟩ := bn_e h
    obtain ⟨s34, hs34, h⟩ := st_e h
    have hF : F_x6_advance s s34 := hs34 ▸ Fr.uI hF (by decide)
    exact J251 s34 hF h
  have L120 : ∀ (n : Nat) (s35 : MS), F_x6_advance s s35 → m_x6_advance_L120 n s35 = some o → F_x6_advance s o := by
    refine fr_ind (fun s35 hF h => by cases h) ?_
    intro n120 ih120 s35 hF h
    have h : m_x6_advance_b120 (m_x6_advance_L120 n120) s35 = some o := h
    unfold m_x6_advance_b120 at h
    obtain ⟨hr36, h⟩ := rg_e h
    obtain ⟨hr37, h⟩ := rg_e h
    by_cases c38 : (gI s35 61) ≤ (gI s35 109)
    · have h := if_t c38 h
      exact J165 s35 hF h
    · have h := if_f c38 h
      obtain ⟨y39, ey39, iy39, h⟩ := rdI_e h
      obtain ⟨r41, hc40, h⟩ := bn_e h
      obtain ⟨hr42, h⟩ := rg_e h
      by_cases c43 : r41 = 0
      · have h := if_t c43 h
        exact J165 s35 hF h
      · have h := if_f c43 h
        obtain ⟨s44, hs44, h⟩ := st_e h
        have hF : F_x6_advance s s44 := hs44 ▸ Fr.uI hF (by decide)
        exact ih120 s44 hF h
  have J61 : ∀ (s45 : MS), F_x6_advance s s45 → m_x6_advance_J61 s45 = some o → F_x6_advance s o := by
    intro s45 hF h
    unfold m_x6_advance_J61 at h
    obtain ⟨s46, hs46, h⟩ := st_e h
    have hF : F_x6_advance s s46 := hs46 ▸ Fr.uI hF (by decide)
    obtain ⟨s47, hs47, h⟩ := st_e h
    have hF : F_x6_advance s s47 := hs47 ▸ Fr.uI hF (by decide)
    obtain ⟨r49, hc48, h⟩ := bn_e h
    obtain ⟨s50, hs50, h⟩ := st_e h
    have hF : F_x6_advance s s50 := hs50 ▸ Fr.uI hF (by decide)
    obtain ⟨hr51, h⟩ := rg_e h
    by_cases c52 : (gI s50 111) = (-1)
    · have h := if_t c52 h
      obtain ⟨s65, hs65, h⟩ := st_e h
      have hF : F_x6_advance s s65 := hs65 ▸ Fr.uI hF (by decide)
      exact J251 s65 hF h
    · have h := if_f c52 h
      obtain ⟨r54, hc53, h⟩ := bn_e h
      obtain ⟨hr55, h⟩ := rg_e h
      by_cases c56 : r54 = 0
      · have h := if_t c56 h
        obtain ⟨r58, hc57, h⟩ := bn_e h
        obtain ⟨hr59, h⟩ := rg_e h
        by_cases c60 : r58 = 0
        · have h := if_t c60 h
          obtain ⟨s61, hs61, h⟩ := st_e h
          have hF : F_x6_advance s s61 := hs61 ▸ Fr.uI hF (by decide)
          obtain ⟨s62, hs62, h⟩ := st_e h
          have hF : F_x6_advance s s62 := hs62 ▸ Fr.uI hF (by decide)
          exact J251 s62 hF h
        · have h := if_f c60 h
          obtain ⟨s63, hs63, h⟩ := st_e h
          have hF : F_x6_advance s s63 := hs63 ▸ Fr.uI hF (by decide)
          exact L191 FU s63 hF h
      · have h := if_f c56 h
        obtain ⟨s64, hs64, h⟩ := st_e h
        have hF : F_x6_advance s s64 := hs64 ▸ Fr.uI hF (by decide)
        exact L120 FU s64 hF h
  have L16 : ∀ (n : Nat) (s66 : MS), F_x6_advance s s66 → m_x6_advance_L16 n s66 = some o → F_x6_advance s o := by
    refine fr_ind (fun s66 hF h => by cases h) ?_
    intro n16 ih16 s66 hF h
    have h : m_x6_advance_b16 (m_x6_advance_L16 n16) s66 = some o := h
    unfold m_x6_advance_b16 at h
    obtain ⟨hr67, h⟩ := rg_e h
    obtain ⟨hr68, h⟩ := rg_e h
    by_cases c69 : (gI s66 61) ≤ (gI s66 108)
    · have h := if_t c69 h
      exact J61 s66 hF h
    · have h := if_f c69 h
      obtain ⟨y70, ey70, iy70, h⟩ := rdI_e h
      obtain ⟨r72, hc71, h⟩ := bn_e h
      obtain ⟨hr73, h⟩ := rg_e h
      by_cases c74 : r72 = 0
      · have h := if_t c74 h
        exact J61 s66 hF h
      · have h := if_f c74 h
        obtain ⟨s75, hs75, h⟩ := st_e h
        have hF : F_x6_advance s s75 := hs75 ▸ Fr.uI hF (by decide)
        exact ih16 s75 hF h
  obtain ⟨hr76, h⟩ := rg_e h
  by_cases c77 : (gI s 100) = 0
  · have h := if_t c77 h
    obtain ⟨s78, hs78, h⟩ := st_e h
    have hF : F_x6_advance s s78 := hs78 ▸ Fr.uI hF (by decide)
    exact L16 FU s78 hF h
  · have h := if_f c77 h
    obtain rfl := Option.some.inj h
    exact hF
abbrev F_x0_add (s o : MS) : Prop := Fr [941] [48] [] [] s o
theorem fr_x0_add {p0 : Int} {s : MS} {o : MS} (h : m_x0_add p0 s = some o) : F_x0_add s o := by
  have hF : F_x0_add s s := Fr.rf s
  unfold m_x0_add at h
  have J30 : ∀ (s1 : MS), F_x0_add s s1 → m_x0_add_J30 s1 = some o → F_x0_add s o := by
    intro s1 hF h
    unfold m_x0_add_J30 at h
    obtain rfl := Option.some.inj h
    exact hF
  obtain ⟨hr2, h⟩ := rg_e h
  by_cases c3 : 1600 ≤ (gI s 941)
  · have h := if_t c3 h
    exact J30 s hF h
  · have h := if_f c3 h
    obtain ⟨hi4, h⟩ := inb_e h
    obtain ⟨s5, hs5, h⟩ := st_e h
    have hF : F_x0_add s s5 := hs5 ▸ Fr.uA hF (by decide)
    obtain ⟨s6, hs6, h⟩ := st_e h
    have hF : F_x0_add s s6 := hs6 ▸ Fr.uI hF (by decide)
    exact J30 s6 hF h
abbrev F_x6_readOther (s o : MS) : Prop := Fr [100, 101, 102, 103, 104, 105, 106, 107, 108, 109, 110, 111, 941] [48] [] [] s o
theorem fr_x6_readOther {rgs : (MS → Option MS) × (MS → Option MS)} (hf1 : ∀ (s o : MS), rgs.1 s = some o → F_rg s o) (hf2 : ∀ (s o : MS), rgs.2 s = some o → F_rg s o) {p0 : Int} {s : MS} {o : MS} (h : m_x6_readOther rgs p0 s = some o) : F_x6_readOther s o := by
  have hF : F_x6_readOther s s := Fr.rf s
  unfold m_x6_readOther at h
  have J33 : ∀ (s1 : MS), F_x6_readOther s s1 → m_x6_readOther_J33 rgs s1 = some o → F_x6_readOther s o := by
    intro s1 hF h
    unfold m_x6_readOther_J33 at h
    obtain rfl := Option.some.inj h
    exact hF
  obtain ⟨⟨r4, s3⟩, hc2, h⟩ := bn_e h
  have hF : F_x6_readOther s s3 := Fr.tr hF (fr_x6_opens hc2) (by decide)
  obtain ⟨hr5, h⟩ := rg_e h
  by_cases c6 : r4 = 0
  · have h := if_t c6 h
    exact J33 s3 hF h
  · have h := if_f c6 h
    obtain ⟨s8, hc7, h⟩ := bn_e h
    have hF : F_x6_readOther s s8 := Fr.tr hF (fr_x6_advance hc7) (by decide)
    obtain ⟨s10, hc9, h⟩ := bn_e h
    have hF : F_x6_readOther s s10 := Fr.tr hF (hf2 _ _ hc9) (by decide)
    obtain ⟨he11, h⟩ := eqg_e h
    obtain ⟨s13, hc12, h⟩ := bn_e h
    have hF : F_x6_readOther s s13 := Fr.tr hF (fr_x0_add hc12) (by decide)
    obtain ⟨s14, hs14, h⟩ := st_e h
    have hF : F_x6_readOther s s14 := hs14 ▸ Fr.uI hF (by decide)
    exact J33 s14 hF h
abbrev F_x6_expectSign (s o : MS) : Prop := Fr [100, 101, 107, 108, 109, 110, 111] [] [] [] s o
theorem fr_x6_expectSign {p0 : Int} {s : MS} {o : MS} (h : m_x6_expectSign p0 s = some o) : F_x6_expectSign s o := by
  have hF : F_x6_expectSign s s := Fr.rf s
  unfold m_x6_expectSign at h
  have J25 : ∀ (s1 : MS), F_x6_expectSign s s1 → m_x6_expectSign_J25 s1 = some o → F_x6_expectSign s o := by
    intro s1 hF h
    unfold m_x6_expectSign_J25 at h
    obtain rfl := Option.some.inj h
    exact hF
  obtain ⟨r3, hc2, h⟩ := bn_e h
  obtain ⟨hr4, h⟩ := rg_e h
  by_cases c5 : r3 = 0
  · have h := if_t c5 h
    obtain ⟨⟨r8, s7⟩, hc6, h⟩ := bn_e h
    have hF : F_x6_expectSign s s7 := Fr.tr hF (fr_x6_fail hc6) (by decide)
    exact J25 s7 hF h
  · have h := if_f c5 h
    obtain ⟨s10, hc9, h⟩ := bn_e h
    have hF : F_x6_expectSign s s10 := Fr.tr hF (fr_x6_advance hc9) (by decide)
    exact J25 s10 hF h
abbrev F_x6_readChoice (s o : MS) : Prop := Fr [100, 101, 102, 103, 104, 105, 106, 107, 108, 109, 110, 111, 941] [48] [] [] s o
theorem fr_x6_readChoice {rgs : (MS → Option MS) × (MS → Option MS)} (hf1 : ∀ (s o : MS), rgs.1 s = some o → F_rg s o) (hf2 : ∀ (s o : MS), rgs.2 s = some o → F_rg s o) {p0 : Int} {s : MS} {o : MS} (h : m_x6_readChoice rgs p0 s = some o) : F_x6_readChoice s o := by
  have hF : F_x6_readChoice s s := Fr.rf s
  unfold m_x6_readChoice at h
  have J75 : ∀ (s1 : MS), F_x6_readChoice s s1 → m_x6_readChoice_J75 rgs s1 = some o → F_x6_readChoice s o := by
    intro s1 hF h
    unfold m_x6_readChoice_J75 at h
    obtain rfl := Option.some.inj h
    exact hF
  obtain ⟨s3, hc2, h⟩ := bn_e h
  have hF : F_x6_readChoice s s3 := Fr.tr hF (fr_x6_advance hc2) (by decide)
  obtain ⟨r5, hc4, h⟩ := bn_e h
  obtain ⟨hr6, h⟩ := rg_e h
  by_cases c7 : r5 = 0
  · have h := if_t c7 h
    obtain ⟨⟨r29, s28⟩, hc27, h⟩ := bn_e h
    have hF : F_x6_readChoice s s28 := Fr.tr hF (fr_x6_fail hc27) (by decide)
    exact J75 s28 hF h
  · have h := if_f c7 h
    obtain ⟨⟨r10, s9⟩, hc8, h⟩ := bn_e h
    have hF : F_x6_readChoice s s9 := Fr.tr hF (fr_x6_opens hc8) (by decide)
    obtain ⟨hr11, h⟩ := rg_e h
    by_cases c12 : r10 = 0
    · have h := if_t c12 h
      exact J75 s9 hF h
    · have h := if_f c12 h
      obtain ⟨s14, hc13, h⟩ := bn_e h
      have hF : F_x6_readChoice s s14 := Fr.tr hF (fr_x6_advance hc13) (by decide)
      obtain ⟨s16, hc15, h⟩ := bn_e h
      have hF : F_x6_readChoice s s16 := Fr.tr hF (hf1 _ _ hc15) (by decide)
      obtain ⟨s18, hc17, h⟩ := bn_e h
      have hF : F_x6_readChoice s s18 := Fr.tr hF (fr_x6_expectSign hc17) (by decide)
      obtain ⟨s20, hc19, h⟩ := bn_e h
      have hF : F_x6_readChoice s s20 := Fr.tr hF (hf1 _ _ hc19) (by decide)
      obtain ⟨s22, hc21, h⟩ := bn_e h
      have hF : F_x6_readChoice s s22 := Fr.tr hF (fr_x6_expectSign hc21) (by decide)
      obtain ⟨s23, hs23, h⟩ := st_e h
      have hF : F_x6_readChoice s s23 := hs23 ▸ Fr.uI hF (by decide)
      obtain ⟨he24, h⟩ := eqg_e h
      obtain ⟨s26, hc25, h⟩ := bn_e h
      have hF : F_x6_readChoice s s26 := Fr.tr hF (fr_x0_add hc25) (by decide)
      exact J75 s26 hF h
abbrev F_x6_expectNumber (s o : MS) : Prop := Fr [100, 101, 107, 108, 109, 110, 111] [] [] [] s o
theorem fr_x6_expectNumber {p0 : Int} {p1 : Int} {s : MS} {o : (Int × MS)} (h : m_x6_expectNumber p0 p1 s = some o) : F_x6_expectNumber s o.2 := by
  have hF : F_x6_expectNumber s s := Fr.rf s
  unfold m_x6_expectNumber at h
  have J98 : ∀ (x1 : Int) (s2 : MS), F_x6_expectNumber s s2 → m_x6_expectNumber_J98 x1 s2 = some o → F_x6_expectNumber s o.2 := by
    intro x1 s2 hF h
    unfold m_x6_expectNumber_J98 at h
    obtain ⟨⟨r5, s4⟩, hc3, h⟩ := bn_e h
    have hF : F_x6_expectNumber s s4 := Fr.tr hF (fr_x6_fail hc3) (by decide)
    obtain rfl := Option.some.inj h
    exact hF
  have L55 : ∀ (n : Nat) (x6 : Int) (x7 : Int) (x8 : Int) (x9 : Int) (s10 : MS), F_x6_expectNumber s s10 → m_x6_expectNumber_L55 n x6 x7 x8 x9 s10 = some o → F_x6_expectNumber s o.2 := by
    refine fr_ind (fun x6 x7 x8 x9 s10 hF h => by cases h) ?_
    intro n55 ih55 x6 x7 x8 x9 s10 hF h
    have h : m_x6_expectNumber_b55 (m_x6_expectNumber_L55 n55) x6 x7 x8 x9 s10 = some o := h
    unfold m_x6_expectNumber_b55 at h
    obtain ⟨hr11, h⟩ := rg_e h
    obtain ⟨hr12, h⟩ := rg_e h
    by_cases c13 : (gI s10 109) ≤ x9
    · have h := if_t c13 h
      obtain ⟨hr14, h⟩ := rg_e h
      obtain ⟨hr15, h⟩ := rg_e h
      by_cases c16 : x8 < x6
      · have h := if_t c16 h
        exact J98 x6 s10 hF h
      · have h := if_f c16 h
        obtain ⟨hr17, h⟩ := rg_e h
        obtain ⟨hr18, h⟩ := rg_e h
        by_cases c19 : x8 ≤ x7
        · have h := if_t c19 h
          obtain ⟨s21, hc20, h⟩ := bn_e h
          have hF : F_x6_expectNumber s s21 := Fr.tr hF (fr_x6_advance hc20) (by decide)
          obtain rfl := Option.some.inj h
          exact hF
        · have h := if_f c19 h
          exact J98 x6 s10 hF h
    · have h := if_f c13 h
      obtain ⟨r23, hc22, h⟩ := bn_e h
      exact ih55 x6 x7 (((x8 * 10) + r23) - 48) (x9 + 1) s10 hF h
  obtain ⟨hr24, h⟩ := rg_e h
  by_cases c25 : (gI s 107) = 2
  · have h := if_t c25 h
    obtain ⟨hr26, h⟩ := rg_e h
    by_cases c27 : ((gI s 109) - (gI s 108)) ≤ 4
    · have h := if_t c27 h
      exact L55 FU p0 p1 0 (gI s 108) s hF h
    · have h := if_f c27 h
      obtain ⟨⟨r30, s29⟩, hc28, h⟩ := bn_e h
      have hF : F_x6_expectNumber s s29 := Fr.tr hF (fr_x6_fail hc28) (by decide)
      obtain rfl := Option.some.inj h
      exact hF
  · have h := if_f c25 h
    obtain ⟨⟨r33, s32⟩, hc31, h⟩ := bn_e h
    have hF : F_x6_expectNumber s s32 := Fr.tr hF (fr_x6_fail hc31) (by decide)
    obtain rfl := Option.some.inj h
    exact hF
abbrev F_x6_readPart (s o : MS) : Prop := Fr [100, 101, 102, 103, 104, 105, 106, 107, 108, 109, 110, 111, 941] [48] [] [] s o
theorem fr_x6_readPart {rgs : (MS → Option MS) × (MS → Option MS)} (hf1 : ∀ (s o : MS), rgs.1 s = some o → F_rg s o) (hf2 : ∀ (s o : MS), rgs.2 s = some o → F_rg s o) {s : MS} {o : MS} (h : m_x6_readPart rgs s = some o) : F_x6_readPart s o := by
  have hF : F_x6_readPart s s := Fr.rf s
  unfold m_x6_readPart at h
  have J196 : ∀ (s1 : MS), F_x6_readPart s s1 → m_x6_readPart_J196 rgs s1 = some o → F_x6_readPart s o := by
    intro s1 hF h
    unfold m_x6_readPart_J196 at h
    obtain rfl := Option.some.inj h
    exact hF
  have J158 : ∀ (s2 : MS), F_x6_readPart s s2 → m_x6_readPart_J158 rgs s2 = some o → F_x6_readPart s o := by
    intro s2 hF h
    unfold m_x6_readPart_J158 at h
    obtain ⟨r4, hc3, h⟩ := bn_e h
    obtain ⟨hr5, h⟩ := rg_e h
    by_cases c6 : r4 = 0
    · have h := if_t c6 h
      obtain ⟨⟨r9, s8⟩, hc7, h⟩ := bn_e h
      have hF : F_x6_readPart s s8 := Fr.tr hF (fr_x6_fail hc7) (by decide)
      exact J196 s8 hF h
    · have h := if_f c6 h
      obtain ⟨he10, h⟩ := eqg_e h
      obtain ⟨s12, hc11, h⟩ := bn_e h
      have hF : F_x6_readPart s s12 := Fr.tr hF (fr_x0_add hc11) (by decide)
      obtain ⟨s14, hc13, h⟩ := bn_e h
      have hF : F_x6_readPart s s14 := Fr.tr hF (fr_x6_advance hc13) (by decide)
      exact J196 s14 hF h
  have J152 : ∀ (x15 : Int) (s16 : MS), F_x6_readPart s s16 → m_x6_readPart_J152 rgs x15 s16 = some o → F_x6_readPart s o := by
    intro x15 s16 hF h
    unfold m_x6_readPart_J152 at h
    obtain ⟨s18, hc17, h⟩ := bn_e h
    have hF : F_x6_readPart s s18 := Fr.tr hF (fr_x6_readOther hf1 hf2 hc17) (by decide)
    exact J196 s18 hF h
  have J135 : ∀ (s19 : MS), F_x6_readPart s s19 → m_x6_readPart_J135 rgs s19 = some o → F_x6_readPart s o := by
    intro s19 hF h
    unfold m_x6_readPart_J135 at h
    obtain ⟨r21, hc20, h⟩ := bn_e h
    obtain ⟨hr22, h⟩ := rg_e h
    by_cases c23 : r21 = 0
    · have h := if_t c23 h
      exact J152 (-14) s19 hF h
    · have h := if_f c23 h
      exact J152 (-13) s19 hF h
  have J103 : ∀ (x24 : Int) (s25 : MS), F_x6_readPart s s25 → m_x6_readPart_J103 rgs x24 s25 = some o → F_x6_readPart s o := by
    intro x24 s25 hF h
    unfold m_x6_readPart_J103 at h
    obtain ⟨s27, hc26, h⟩ := bn_e h
    have hF : F_x6_readPart s s27 := Fr.tr hF (fr_x6_readChoice hf1 hf2 hc26) (by decide)
    exact J196 s27 hF h
  have J86 : ∀ (s28 : MS), F_x6_readPart s s28 → m_x6_readPart_J86 rgs s28 = some o → F_x6_readPart s o := by
    intro s28 hF h
    unfold m_x6_readPart_J86 at h
    obtain ⟨r30, hc29, h⟩ := bn_e h
    obtain ⟨hr31, h⟩ := rg_e h
    by_cases c32 : r30 = 0
    · have h := if_t c32 h
      exact J103 (-6) s28 hF h
    · have h := if_f c32 h
      exact J103 (-5) s28 hF h
  obtain ⟨hr33, h⟩ := rg_e h
  by_cases c34 : (gI s 107) = 2
  · have h := if_t c34 h
    obtain ⟨he69, h⟩ := eqg_e h
    obtain ⟨⟨r72, s71⟩, hc70, h⟩ := bn_e h
    have hF : F_x6_readPart s s71 := Fr.tr hF (fr_x6_expectNumber hc70) (by decide)
    obtain ⟨s74, hc73, h⟩ := bn_e h
    have hF : F_x6_readPart s s74 := Fr.tr hF (fr_x0_add hc73) (by decide)
    exact J196 s74 hF h
  · have h := if_f c34 h
    obtain ⟨r36, hc35, h⟩ := bn_e h
    obtain ⟨hr37, h⟩ := rg_e h
    by_cases c38 : r36 = 0
    · have h := if_t c38 h
      obtain ⟨r40, hc39, h⟩ := bn_e h
      obtain ⟨hr41, h⟩ := rg_e h
      by_cases c42 : r40 = 0
      · have h := if_t c42 h
        obtain ⟨r44, hc43, h⟩ := bn_e h
        obtain ⟨hr45, h⟩ := rg_e h
        by_cases c46 : r44 = 0
        · have h := if_t c46 h
          obtain ⟨hr47, h⟩ := rg_e h
          by_cases c48 : (gI s 105) = 3
          · have h := if_t c48 h
            obtain ⟨r50, hc49, h⟩ := bn_e h
            obtain ⟨hr51, h⟩ := rg_e h
            by_cases c52 : r50 = 0
            · have h := if_t c52 h
              obtain ⟨r54, hc53, h⟩ := bn_e h
              obtain ⟨hr55, h⟩ := rg_e h
              by_cases c56 : r54 = 0
              · have h := if_t c56 h
                exact J158 s hF h
              · have h := if_f c56 h
                exact J135 s hF h
            · have h := if_f c52 h
              exact J135 s hF h
          · have h := if_f c48 h
            exact J158 s hF h
        · have h := if_f c46 h
          exact J86 s hF h
      · have h := if_f c42 h
        exact J86 s hF h
    · have h := if_f c38 h
      obtain ⟨⟨r59, s58⟩, hc57, h⟩ := bn_e h
      have hF : F_x6_readPart s s58 := Fr.tr hF (fr_x6_opens hc57) (by decide)
      obtain ⟨hr60, h⟩ := rg_e h
      by_cases c61 : r59 = 0
      · have h := if_t c61 h
        exact J196 s58 hF h
      · have h := if_f c61 h
        obtain ⟨s63, hc62, h⟩ := bn_e h
        have hF : F_x6_readPart s s63 := Fr.tr hF (fr_x6_advance hc62) (by decide)
        obtain ⟨s65, hc64, h⟩ := bn_e h
        have hF : F_x6_readPart s s65 := Fr.tr hF (hf1 _ _ hc64) (by decide)
        obtain ⟨s67, hc66, h⟩ := bn_e h
        have hF : F_x6_readPart s s67 := Fr.tr hF (fr_x6_expectSign hc66) (by decide)
        obtain ⟨s68, hs68, h⟩ := st_e h
        have hF : F_x6_readPart s s68 := hs68 ▸ Fr.uI hF (by decide)
        exact J196 s68 hF h
abbrev F_x6_readProduct (s o : MS) : Prop := Fr [100, 101, 102, 103, 104, 105, 106, 107, 108, 109, 110, 111, 941] [48] [] [] s o
theorem fr_x6_readProduct {rgs : (MS → Option MS) × (MS → Option MS)} (hf1 : ∀ (s o : MS), rgs.1 s = some o → F_rg s o) (hf2 : ∀ (s o : MS), rgs.2 s = some o → F_rg s o) {s : MS} {o : MS} (h : m_x6_readProduct rgs s = some o) : F_x6_readProduct s o := by
  have hF : F_x6_readProduct s s := Fr.rf s
  unfold m_x6_readProduct at h
  have J70 : ∀ (s1 : MS), F_x6_readProduct s s1 → m_x6_readProduct_J70 rgs s1 = some o → F_x6_readProduct s o := by
    intro s1 hF h
    unfold m_x6_readProduct_J70 at h
    obtain rfl := Option.some.inj h
    exact hF
  have L6 : ∀ (n : Nat) (x2 : Int) (s3 : MS), F_x6_readProduct s s3 → m_x6_readProduct_L6 rgs n x2 s3 = some o → F_x6_readProduct s o := by
    refine fr_ind (fun x2 s3 hF h => by cases h) ?_
    intro n6 ih6 x2 s3 hF h
    have h : m_x6_readProduct_b6 rgs (m_x6_readProduct_L6 rgs n6) x2 s3 = some o := h
    unfold m_x6_readProduct_b6 at h
    have J47 : ∀ (x4 : Int) (x5 : Int) (s6 : MS), F_x6_readProduct s s6 → m_x6_readProduct_J47 rgs (m_x6_readProduct_L6 rgs n6) x4 x5 s6 = some o → F_x6_readProduct s o := by
      intro x4 x5 s6 hF h
      unfold m_x6_readProduct_J47 at h
      obtain ⟨s8, hc7, h⟩ := bn_e h
      have hF : F_x6_readProduct s s8 := Fr.tr hF (fr_x6_advance hc7) (by decide)
      obtain ⟨s10, hc9, h⟩ := bn_e h
      have hF : F_x6_readProduct s s10 := Fr.tr hF (fr_x6_readPart hf1 hf2 hc9) (by decide)
      obtain ⟨he11, h⟩ := eqg_e h
      obtain ⟨s13, hc12, h⟩ := bn_e h
      have hF : F_x6_readProduct s s13 := Fr.tr hF (fr_x0_add hc12) (by decide)
      exact ih6 (x4 + 1) s13 hF h
    have J31 : ∀ (x14 : Int) (s15 : MS), F_x6_readProduct s s15 → m_x6_readProduct_J31 rgs (m_x6_readProduct_L6 rgs n6) x14 s15 = some o → F_x6_readProduct s o := by
      intro x14 s15 hF h
      unfold m_x6_readProduct_J31 at h
      obtain ⟨r17, hc16, h⟩ := bn_e h
      obtain ⟨hr18, h⟩ := rg_e h
      by_cases c19 : r17 = 0
      · have h := if_t c19 h
        exact J47 x14 (-4) s15 hF h
      · have h := if_f c19 h
        exact J47 x14 (-3) s15 hF h
    obtain ⟨hr20, h⟩ := rg_e h
    by_cases c21 : 1600 ≤ x2
    · have h := if_t c21 h
      exact J70 s3 hF h
    · have h := if_f c21 h
      obtain ⟨r23, hc22, h⟩ := bn_e h
      obtain ⟨hr24, h⟩ := rg_e h
      by_cases c25 : r23 = 0
      · have h := if_t c25 h
        obtain ⟨r27, hc26, h⟩ := bn_e h
        obtain ⟨hr28, h⟩ := rg_e h
        by_cases c29 : r27 = 0
        · have h := if_t c29 h
          exact J70 s3 hF h
        · have h := if_f c29 h
          exact J31 x2 s3 hF h
      · have h := if_f c25 h
        exact J31 x2 s3 hF h
  obtain ⟨s31, hc30, h⟩ := bn_e h
  have hF : F_x6_readProduct s s31 := Fr.tr hF (fr_x6_readPart hf1 hf2 hc30) (by decide)
  exact L6 FU 0 s31 hF h
abbrev F_x6_readSum (s o : MS) : Prop := Fr [100, 101, 102, 103, 104, 105, 106, 107, 108, 109, 110, 111, 941] [48] [] [] s o
theorem fr_x6_readSum {rgs : (MS → Option MS) × (MS → Option MS)} (hf1 : ∀ (s o : MS), rgs.1 s = some o → F_rg s o) (hf2 : ∀ (s o : MS), rgs.2 s = some o → F_rg s o) {s : MS} {o : MS} (h : m_x6_readSum rgs s = some o) : F_x6_readSum s o := by
  have hF : F_x6_readSum s s := Fr.rf s
  unfold m_x6_readSum at h
  have J69 : ∀ (s1 : MS), F_x6_readSum s s1 → m_x6_readSum_J69 rgs s1 = some o → F_x6_readSum s o := by
    intro s1 hF h
    unfold m_x6_readSum_J69 at h
    obtain rfl := Option.some.inj h
    exact hF
  have L6 : ∀ (n : Nat) (x2 : Int) (s3 : MS), F_x6_readSum s s3 → m_x6_readSum_L6 rgs n x2 s3 = some o → F_x6_readSum s o := by
    refine fr_ind (fun x2 s3 hF h => by cases h) ?_
    intro n6 ih6 x2 s3 hF h
    have h : m_x6_readSum_b6 rgs (m_x6_readSum_L6 rgs n6) x2 s3 = some o := h
    unfold m_x6_readSum_b6 at h
    have J46 : ∀ (x4 : Int) (x5 : Int) (s6 : MS), F_x6_readSum s s6 → m_x6_readSum_J46 rgs (m_x6_readSum_L6 rgs n6) x4 x5 s6 = some o → F_x6_readSum s o := by
      intro x4 x5 s6 hF h
      unfold m_x6_readSum_J46 at h
      obtain ⟨s8, hc7, h⟩ := bn_e h
      have hF : F_x6_readSum s s8 := Fr.tr hF (fr_x6_advance hc7) (by decide)
      obtain ⟨s10, hc9, h⟩ := bn_e h
      have hF : F_x6_readSum s s10 := Fr.tr hF (fr_x6_readProduct hf1 hf2 hc9) (by decide)
      obtain ⟨he11, h⟩ := eqg_e h
      obtain ⟨s13, hc12, h⟩ := bn_e h
      have hF : F_x6_readSum s s13 := Fr.tr hF (fr_x0_add hc12) (by decide)
      exact ih6 (x4 + 1) s13 hF h
    have J31 : ∀ (x14 : Int) (s15 : MS), F_x6_readSum s s15 → m_x6_readSum_J31 rgs (m_x6_readSum_L6 rgs n6) x14 s15 = some o → F_x6_readSum s o := by
      intro x14 s15 hF h
      unfold m_x6_readSum_J31 at h
      obtain ⟨r17, hc16, h⟩ := bn_e h
      obtain ⟨hr18, h⟩ := rg_e h
      by_cases c19 : r17 = 0
      · have h := if_t c19 h
        exact J46 x14 (-2) s15 hF h
      · have h := if_f c19 h
        exact J46 x14 (-1) s15 hF h
    obtain ⟨hr20, h⟩ := rg_e h
    by_cases c21 : 1600 ≤ x2
    · have h := if_t c21 h
      exact J69 s3 hF h
    · have h := if_f c21 h
      obtain ⟨r23, hc22, h⟩ := bn_e h
      obtain ⟨hr24, h⟩ := rg_e h
      by_cases c25 : r23 = 0
      · have h := if_t c25 h
        obtain ⟨r27, hc26, h⟩ := bn_e h
        obtain ⟨hr28, h⟩ := rg_e h
        by_cases c29 : r27 = 0
        · have h := if_t c29 h
          exact J69 s3 hF h
        · have h := if_f c29 h
          exact J31 x2 s3 hF h
      · have h := if_f c25 h
        exact J31 x2 s3 hF h
  obtain ⟨s31, hc30, h⟩ := bn_e h
  have hF : F_x6_readSum s s31 := Fr.tr hF (fr_x6_readProduct hf1 hf2 hc30) (by decide)
  exact L6 FU 0 s31 hF h
theorem fr_rg1_ : ∀ d : Nat, (∀ (s o : MS), (RG1 d).1 s = some o → F_rg s o) ∧ (∀ (s o : MS), (RG1 d).2 s = some o → F_rg s o) := by
  intro d
  induction d with
  | zero => exact ⟨fun s o h => (by cases h), fun s o h => (by cases h)⟩
  | succ d ih => exact ⟨fun s o h => Fr.tr (Fr.rf s) (fr_x6_readSum ih.1 ih.2 (h : m_x6_readSum (RG1 d) s = some o)) (by decide), fun s o h => Fr.tr (Fr.rf s) (fr_x6_readPart ih.1 ih.2 (h : m_x6_readPart (RG1 d) s = some o)) (by decide)⟩
theorem fr_rg1 : (∀ (s o : MS), (RG1 8).1 s = some o → F_rg s o) ∧ (∀ (s o : MS), (RG1 8).2 s = some o → F_rg s o) := fr_rg1_ 8
abbrev F_x6_comparison (s o : MS) : Prop := Fr [100, 101, 107, 108, 109, 110, 111] [] [] [] s o
theorem fr_x6_comparison {s : MS} {o : (Int × MS)} (h : m_x6_comparison s = some o) : F_x6_comparison s o.2 := by
  have hF : F_x6_comparison s s := Fr.rf s
  unfold m_x6_comparison at h
  have J52 : ∀ (x1 : Int) (s2 : MS), F_x6_comparison s s2 → m_x6_comparison_J52 x1 s2 = some o → F_x6_comparison s o.2 := by
    intro x1 s2 hF h
    unfold m_x6_comparison_J52 at h
    obtain ⟨s4, hc3, h⟩ := bn_e h
    have hF : F_x6_comparison s s4 := Fr.tr hF (fr_x6_advance hc3) (by decide)
    obtain rfl := Option.some.inj h
    exact hF
  obtain ⟨r6, hc5, h⟩ := bn_e h
  obtain ⟨hr7, h⟩ := rg_e h
  by_cases c8 : r6 = 0
  · have h := if_t c8 h
    obtain ⟨r10, hc9, h⟩ := bn_e h
    obtain ⟨hr11, h⟩ := rg_e h
    by_cases c12 : r10 = 0
    · have h := if_t c12 h
      obtain ⟨r14, hc13, h⟩ := bn_e h
      obtain ⟨hr15, h⟩ := rg_e h
      by_cases c16 : r14 = 0
      · have h := if_t c16 h
        obtain ⟨⟨r19, s18⟩, hc17, h⟩ := bn_e h
        have hF : F_x6_comparison s s18 := Fr.tr hF (fr_x6_fail hc17) (by decide)
        exact J52 (-9) s18 hF h
      · have h := if_f c16 h
        exact J52 (-9) s hF h
    · have h := if_f c12 h
      exact J52 (-8) s hF h
  · have h := if_f c8 h
    exact J52 (-7) s hF h
abbrev F_x6_readFact (s o : MS) : Prop := Fr [100, 101, 102, 103, 104, 105, 106, 107, 108, 109, 110, 111, 941] [48] [] [] s o
theorem fr_x6_readFact {rgs : (MS → Option MS) × (MS → Option MS)} (hf1 : ∀ (s o : MS), rgs.1 s = some o → F_rg s o) (hf2 : ∀ (s o : MS), rgs.2 s = some o → F_rg s o) {s : MS} {o : MS} (h : m_x6_readFact rgs s = some o) : F_x6_readFact s o := by
  have hF : F_x6_readFact s s := Fr.rf s
  unfold m_x6_readFact at h
  have J134 : ∀ (s1 : MS), F_x6_readFact s s1 → m_x6_readFact_J134 rgs s1 = some o → F_x6_readFact s o := by
    intro s1 hF h
    unfold m_x6_readFact_J134 at h
    obtain rfl := Option.some.inj h
    exact hF
  obtain ⟨r3, hc2, h⟩ := bn_e h
  obtain ⟨hr4, h⟩ := rg_e h
  by_cases c5 : r3 = 0
  · have h := if_t c5 h
    obtain ⟨r7, hc6, h⟩ := bn_e h
    obtain ⟨hr8, h⟩ := rg_e h
    by_cases c9 : r7 = 0
    · have h := if_t c9 h
      obtain ⟨r11, hc10, h⟩ := bn_e h
      obtain ⟨hr12, h⟩ := rg_e h
      by_cases c13 : r11 = 0
      · have h := if_t c13 h
        obtain ⟨s15, hc14, h⟩ := bn_e h
        have hF : F_x6_readFact s s15 := Fr.tr hF (fr_rg1.1 _ _ hc14) (by decide)
        obtain ⟨⟨r18, s17⟩, hc16, h⟩ := bn_e h
        have hF : F_x6_readFact s s17 := Fr.tr hF (fr_x6_comparison hc16) (by decide)
        obtain ⟨s20, hc19, h⟩ := bn_e h
        have hF : F_x6_readFact s s20 := Fr.tr hF (fr_rg1.1 _ _ hc19) (by decide)
        obtain ⟨he21, h⟩ := eqg_e h
        obtain ⟨s23, hc22, h⟩ := bn_e h
        have hF : F_x6_readFact s s23 := Fr.tr hF (fr_x0_add hc22) (by decide)
        exact J134 s23 hF h
      · have h := if_f c13 h
        obtain ⟨he24, h⟩ := eqg_e h
        obtain ⟨s26, hc25, h⟩ := bn_e h
        have hF : F_x6_readFact s s26 := Fr.tr hF (fr_x0_add hc25) (by decide)
        obtain ⟨s28, hc27, h⟩ := bn_e h
        have hF : F_x6_readFact s s28 := Fr.tr hF (fr_x6_advance hc27) (by decide)
        exact J134 s28 hF h
    · have h := if_f c9 h
      obtain ⟨⟨r31, s30⟩, hc29, h⟩ := bn_e h
      have hF : F_x6_readFact s s30 := Fr.tr hF (fr_x6_opens hc29) (by decide)
      obtain ⟨hr32, h⟩ := rg_e h
      by_cases c33 : r31 = 0
      · have h := if_t c33 h
        exact J134 s30 hF h
      · have h := if_f c33 h
        obtain ⟨s35, hc34, h⟩ := bn_e h
        have hF : F_x6_readFact s s35 := Fr.tr hF (fr_x6_advance hc34) (by decide)
        obtain ⟨s37, hc36, h⟩ := bn_e h
        have hF : F_x6_readFact s s37 := Fr.tr hF (hf2 _ _ hc36) (by decide)
        obtain ⟨s39, hc38, h⟩ := bn_e h
        have hF : F_x6_readFact s s39 := Fr.tr hF (fr_x6_expectSign hc38) (by decide)
        obtain ⟨s40, hs40, h⟩ := st_e h
        have hF : F_x6_readFact s s40 := hs40 ▸ Fr.uI hF (by decide)
        exact J134 s40 hF h
  · have h := if_f c5 h
    obtain ⟨⟨r43, s42⟩, hc41, h⟩ := bn_e h
    have hF : F_x6_readFact s s42 := Fr.tr hF (fr_x6_opens hc41) (by decide)
    obtain ⟨hr44, h⟩ := rg_e h
    by_cases c45 : r43 = 0
    · have h := if_t c45 h
      exact J134 s42 hF h
    · have h := if_f c45 h
      obtain ⟨s47, hc46, h⟩ := bn_e h
      have hF : F_x6_readFact s s47 := Fr.tr hF (fr_x6_advance hc46) (by decide)
      obtain ⟨s49, hc48, h⟩ := bn_e h
      have hF : F_x6_readFact s s49 := Fr.tr hF (hf1 _ _ hc48) (by decide)
      obtain ⟨he50, h⟩ := eqg_e h
      obtain ⟨s52, hc51, h⟩ := bn_e h
      have hF : F_x6_readFact s s52 := Fr.tr hF (fr_x0_add hc51) (by decide)
      obtain ⟨s53, hs53, h⟩ := st_e h
      have hF : F_x6_readFact s s53 := hs53 ▸ Fr.uI hF (by decide)
      exact J134 s53 hF h
abbrev F_x6_readBoth (s o : MS) : Prop := Fr [100, 101, 102, 103, 104, 105, 106, 107, 108, 109, 110, 111, 941] [48] [] [] s o
theorem fr_x6_readBoth {rgs : (MS → Option MS) × (MS → Option MS)} (hf1 : ∀ (s o : MS), rgs.1 s = some o → F_rg s o) (hf2 : ∀ (s o : MS), rgs.2 s = some o → F_rg s o) {s : MS} {o : MS} (h : m_x6_readBoth rgs s = some o) : F_x6_readBoth s o := by
  have hF : F_x6_readBoth s s := Fr.rf s
  unfold m_x6_readBoth at h
  have J45 : ∀ (s1 : MS), F_x6_readBoth s s1 → m_x6_readBoth_J45 rgs s1 = some o → F_x6_readBoth s o := by
    intro s1 hF h
    unfold m_x6_readBoth_J45 at h
    obtain rfl := Option.some.inj h
    exact hF
  have L6 : ∀ (n : Nat) (x2 : Int) (s3 : MS), F_x6_readBoth s s3 → m_x6_readBoth_L6 rgs n x2 s3 = some o → F_x6_readBoth s o := by
    refine fr_ind (fun x2 s3 hF h => by cases h) ?_
    intro n6 ih6 x2 s3 hF h
    have h : m_x6_readBoth_b6 rgs (m_x6_readBoth_L6 rgs n6) x2 s3 = some o := h
    unfold m_x6_readBoth_b6 at h
    obtain ⟨hr4, h⟩ := rg_e h
    by_cases c5 : 1600 ≤ x2
    · have h := if_t c5 h
      exact J45 s3 hF h
    · have h := if_f c5 h
      obtain ⟨r7, hc6, h⟩ := bn_e h
      obtain ⟨hr8, h⟩ := rg_e h
      by_cases c9 : r7 = 0
      · have h := if_t c9 h
        exact J45 s3 hF h
      · have h := if_f c9 h
        obtain ⟨s11, hc10, h⟩ := bn_e h
        have hF : F_x6_readBoth s s11 := Fr.tr hF (fr_x6_advance hc10) (by decide)
        obtain ⟨s13, hc12, h⟩ := bn_e h
        have hF : F_x6_readBoth s s13 := Fr.tr hF (fr_x6_readFact hf1 hf2 hc12) (by decide)
        obtain ⟨he14, h⟩ := eqg_e h
        obtain ⟨s16, hc15, h⟩ := bn_e h
        have hF : F_x6_readBoth s s16 := Fr.tr hF (fr_x0_add hc15) (by decide)
        exact ih6 (x2 + 1) s16 hF h
  obtain ⟨s18, hc17, h⟩ := bn_e h
  have hF : F_x6_readBoth s s18 := Fr.tr hF (fr_x6_readFact hf1 hf2 hc17) (by decide)
  exact L6 FU 0 s18 hF h
abbrev F_x6_readTest (s o : MS) : Prop := Fr [100, 101, 102, 103, 104, 105, 106, 107, 108, 109, 110, 111, 941] [48] [] [] s o
theorem fr_x6_readTest {rgs : (MS → Option MS) × (MS → Option MS)} (hf1 : ∀ (s o : MS), rgs.1 s = some o → F_rg s o) (hf2 : ∀ (s o : MS), rgs.2 s = some o → F_rg s o) {s : MS} {o : MS} (h : m_x6_readTest rgs s = some o) : F_x6_readTest s o := by
  have hF : F_x6_readTest s s := Fr.rf s
  unfold m_x6_readTest at h
  have J45 : ∀ (s1 : MS), F_x6_readTest s s1 → m_x6_readTest_J45 rgs s1 = some o → F_x6_readTest s o := by
    intro s1 hF h
    unfold m_x6_readTest_J45 at h
    obtain rfl := Option.some.inj h
    exact hF
  have L6 : ∀ (n : Nat) (x2 : Int) (s3 : MS), F_x6_readTest s s3 → m_x6_readTest_L6 rgs n x2 s3 = some o → F_x6_readTest s o := by
    refine fr_ind (fun x2 s3 hF h => by cases h) ?_
    intro n6 ih6 x2 s3 hF h
    have h : m_x6_readTest_b6 rgs (m_x6_readTest_L6 rgs n6) x2 s3 = some o := h
    unfold m_x6_readTest_b6 at h
    obtain ⟨hr4, h⟩ := rg_e h
    by_cases c5 : 1600 ≤ x2
    · have h := if_t c5 h
      exact J45 s3 hF h
    · have h := if_f c5 h
      obtain ⟨r7, hc6, h⟩ := bn_e h
      obtain ⟨hr8, h⟩ := rg_e h
      by_cases c9 : r7 = 0
      · have h := if_t c9 h
        exact J45 s3 hF h
      · have h := if_f c9 h
        obtain ⟨s11, hc10, h⟩ := bn_e h
        have hF : F_x6_readTest s s11 := Fr.tr hF (fr_x6_advance hc10) (by decide)
        obtain ⟨s13, hc12, h⟩ := bn_e h
        have hF : F_x6_readTest s s13 := Fr.tr hF (fr_x6_readBoth hf1 hf2 hc12) (by decide)
        obtain ⟨he14, h⟩ := eqg_e h
        obtain ⟨s16, hc15, h⟩ := bn_e h
        have hF : F_x6_readTest s s16 := Fr.tr hF (fr_x0_add hc15) (by decide)
        exact ih6 (x2 + 1) s16 hF h
  obtain ⟨s18, hc17, h⟩ := bn_e h
  have hF : F_x6_readTest s s18 := Fr.tr hF (fr_x6_readBoth hf1 hf2 hc17) (by decide)
  exact L6 FU 0 s18 hF h
theorem fr_rg2_ : ∀ d : Nat, (∀ (s o : MS), (RG2 d).1 s = some o → F_rg s o) ∧ (∀ (s o : MS), (RG2 d).2 s = some o → F_rg s o) := by
  intro d
  induction d with
  | zero => exact ⟨fun s o h => (by cases h), fun s o h => (by cases h)⟩
  | succ d ih => exact ⟨fun s o h => Fr.tr (Fr.rf s) (fr_x6_readFact ih.1 ih.2 (h : m_x6_readFact (RG2 d) s = some o)) (by decide), fun s o h => Fr.tr (Fr.rf s) (fr_x6_readTest ih.1 ih.2 (h : m_x6_readTest (RG2 d) s = some o)) (by decide)⟩
theorem fr_rg2 : (∀ (s o : MS), (RG2 8).1 s = some o → F_rg s o) ∧ (∀ (s o : MS), (RG2 8).2 s = some o → F_rg s o) := fr_rg2_ 8
abbrev F_x9_append (s o : MS) : Prop := Fr [61] [4] [] [] s o
theorem fr_x9_append {p0 : Int} {s : MS} {o : MS} (h : m_x9_append p0 s = some o) : F_x9_append s o := by
  have hF : F_x9_append s s := Fr.rf s
  unfold m_x9_append at h
  have J49 : ∀ (s1 : MS), F_x9_append s s1 → m_x9_append_J49 s1 = some o → F_x9_append s o := by
    intro s1 hF h
    unfold m_x9_append_J49 at h
    obtain rfl := Option.some.inj h
    exact hF
  have L3 : ∀ (n : Nat) (x2 : Int) (x3 : Int) (s4 : MS), F_x9_append s s4 → m_x9_append_L3 n x2 x3 s4 = some o → F_x9_append s o := by
    refine fr_ind (fun x2 x3 s4 hF h => by cases h) ?_
    intro n3 ih3 x2 x3 s4 hF h
    have h : m_x9_append_b3 (m_x9_append_L3 n3) x2 x3 s4 = some o := h
    unfold m_x9_append_b3 at h
    obtain ⟨hr5, h⟩ := rg_e h
    by_cases c6 : x3 < 0
    · have h := if_t c6 h
      exact J49 s4 hF h
    · have h := if_f c6 h
      obtain ⟨hr7, h⟩ := rg_e h
      by_cases c8 : 1600 ≤ (gI s4 61)
      · have h := if_t c8 h
        exact J49 s4 hF h
      · have h := if_f c8 h
        obtain ⟨hi9, h⟩ := inb_e h
        obtain ⟨s10, hs10, h⟩ := st_e h
        have hF : F_x9_append s s10 := hs10 ▸ Fr.uA hF (by decide)
        obtain ⟨s11, hs11, h⟩ := st_e h
        have hF : F_x9_append s s11 := hs11 ▸ Fr.uI hF (by decide)
        exact ih3 x2 (x3 + (-8)) s11 hF h
  exact L3 FU p0 24 s hF h
abbrev F_x11_refuse (s o : MS) : Prop := Fr [] [2] [] [] s o
theorem fr_x11_refuse {p0 : Int} {s : MS} {o : (Int × MS)} (h : m_x11_refuse p0 s = some o) : F_x11_refuse s o.2 := by
  have hF : F_x11_refuse s s := Fr.rf s
  unfold m_x11_refuse at h
  obtain ⟨y1, ey1, iy1, h⟩ := rdI_e h
  obtain ⟨hi2, h⟩ := inb_e h
  obtain ⟨s3, hs3, h⟩ := st_e h
  have hF : F_x11_refuse s s3 := hs3 ▸ Fr.uA hF (by decide)
  obtain rfl := Option.some.inj h
  exact hF
abbrev F_x11_feed (s o : MS) : Prop := Fr [61] [2, 4] [] [] s o
theorem fr_x11_feed {p0 : Int} {p1 : Int} {p2 : Int} {p3 : Int} {p4 : Int} {s : MS} {o : (Int × MS)} (h : m_x11_feed p0 p1 p2 p3 p4 s = some o) : F_x11_feed s o.2 := by
  have hF : F_x11_feed s s := Fr.rf s
  unfold m_x11_feed at h
  obtain ⟨r2, hc1, h⟩ := bn_e h
  obtain ⟨hr3, h⟩ := rg_e h
  by_cases c4 : r2 = 0
  · have h := if_t c4 h
    obtain ⟨⟨r17, s16⟩, hc15, h⟩ := bn_e h
    have hF : F_x11_feed s s16 := Fr.tr hF (fr_x11_refuse hc15) (by decide)
    obtain rfl := Option.some.inj h
    exact hF
  · have h := if_f c4 h
    obtain ⟨s6, hc5, h⟩ := bn_e h
    have hF : F_x11_feed s s6 := Fr.tr hF (fr_x9_append hc5) (by decide)
    obtain ⟨s8, hc7, h⟩ := bn_e h
    have hF : F_x11_feed s s8 := Fr.tr hF (fr_x9_append hc7) (by decide)
    obtain ⟨s10, hc9, h⟩ := bn_e h
    have hF : F_x11_feed s s10 := Fr.tr hF (fr_x9_append hc9) (by decide)
    obtain ⟨s12, hc11, h⟩ := bn_e h
    have hF : F_x11_feed s s12 := Fr.tr hF (fr_x9_append hc11) (by decide)
    obtain ⟨s14, hc13, h⟩ := bn_e h
    have hF : F_x11_feed s s14 := Fr.tr hF (fr_x9_append hc13) (by decide)
    obtain rfl := Option.some.inj h
    exact hF
abbrev F_x11_end (s o : MS) : Prop := Fr [61] [2] [] [] s o
theorem fr_x11_end {p0 : Int} {s : MS} {o : (Int × MS)} (h : m_x11_end p0 s = some o) : F_x11_end s o.2 := by
  have hF : F_x11_end s s := Fr.rf s
  unfold m_x11_end at h
  have J15 : ∀ (s1 : MS), F_x11_end s s1 → m_x11_end_J15 s1 = some o → F_x11_end s o.2 := by
    intro s1 hF h
    unfold m_x11_end_J15 at h
    obtain ⟨⟨r4, s3⟩, hc2, h⟩ := bn_e h
    have hF : F_x11_end s s3 := Fr.tr hF (fr_x11_refuse hc2) (by decide)
    obtain rfl := Option.some.inj h
    exact hF
  obtain ⟨hr5, h⟩ := rg_e h
  by_cases c6 : p0 < 0
  · have h := if_t c6 h
    exact J15 s hF h
  · have h := if_f c6 h
    obtain ⟨hr7, h⟩ := rg_e h
    obtain ⟨hr8, h⟩ := rg_e h
    by_cases c9 : p0 ≤ (gI s 61)
    · have h := if_t c9 h
      obtain ⟨s10, hs10, h⟩ := st_e h
      have hF : F_x11_end s s10 := hs10 ▸ Fr.uI hF (by decide)
      obtain rfl := Option.some.inj h
      exact hF
    · have h := if_f c9 h
      exact J15 s hF h
abbrev F_x10_tree (s o : MS) : Prop := Fr [421] [22] [] [] s o
theorem fr_x10_tree {p1 : Int} {s : MS} {o : (Int × MS)} (h : m_x10_tree p1 s = some o) : F_x10_tree s o.2 := by
  have hF : F_x10_tree s s := Fr.rf s
  unfold m_x10_tree at h
  have J161 : ∀ (z1 : Int) (s2 : MS), F_x10_tree s s2 → m_x10_tree_J161 z1 s2 = some o → F_x10_tree s o.2 := by
    intro z1 s2 hF h
    unfold m_x10_tree_J161 at h
    obtain rfl := Option.some.inj h
    exact hF
  have L30 : ∀ (n : Nat) (z3 : Int) (x4 : Int) (s5 : MS), F_x10_tree s s5 → m_x10_tree_L30 n z3 x4 s5 = some o → F_x10_tree s o.2 := by
    refine fr_ind (fun z3 x4 s5 hF h => by cases h) ?_
    intro n30 ih30 z3 x4 s5 hF h
    have h : m_x10_tree_b30 (m_x10_tree_L30 n30) z3 x4 s5 = some o := h
    unfold m_x10_tree_b30 at h
    have J155 : ∀ (z6 : Int) (x7 : Int) (s8 : MS), F_x10_tree s s8 → m_x10_tree_J155 (m_x10_tree_L30 n30) z6 x7 s8 = some o → F_x10_tree s o.2 := by
      intro z6 x7 s8 hF h
      unfold m_x10_tree_J155 at h
      exact ih30 z6 (x7 + 1) s8 hF h
    have L82 : ∀ (n : Nat) (z9 : Int) (x10 : Int) (x11 : Int) (x12 : Int) (s13 : MS), F_x10_tree s s13 → m_x10_tree_L82 (m_x10_tree_L30 n30) n z9 x10 x11 x12 s13 = some o → F_x10_tree s o.2 := by
      refine fr_ind (fun z9 x10 x11 x12 s13 hF h => by cases h) ?_
      intro n82 ih82 z9 x10 x11 x12 s13 hF h
      have h : m_x10_tree_b82 (m_x10_tree_L30 n30) (m_x10_tree_L82 (m_x10_tree_L30 n30) n82) z9 x10 x11 x12 s13 = some o := h
      unfold m_x10_tree_b82 at h
      obtain ⟨hr14, h⟩ := rg_e h
      obtain ⟨hr15, h⟩ := rg_e h
      by_cases c16 : x11 ≤ x12
      · have h := if_t c16 h
        exact J155 z9 x10 s13 hF h
      · have h := if_f c16 h
        obtain ⟨hr17, h⟩ := rg_e h
        by_cases c18 : 48 ≤ (gI s13 421)
        · have h := if_t c18 h
          exact J155 z9 x10 s13 hF h
        · have h := if_f c18 h
          obtain ⟨y19, ey19, iy19, h⟩ := rdI_e h
          obtain ⟨r21, hc20, h⟩ := bn_e h
          obtain ⟨y22, ey22, iy22, h⟩ := rdI_e h
          obtain ⟨hi23, h⟩ := inb_e h
          obtain ⟨s24, hs24, h⟩ := st_e h
          have hF : F_x10_tree s s24 := hs24 ▸ Fr.uA hF (by decide)
          obtain ⟨y25, ey25, iy25, h⟩ := rdI_e h
          obtain ⟨s26, hs26, h⟩ := st_e h
          have hF : F_x10_tree s s26 := hs26 ▸ Fr.uI hF (by decide)
          exact ih82 (orL z9 (shlLZ 1 y25)) x10 x11 (x12 + 1) s26 hF h
    have J77 : ∀ (z27 : Int) (x28 : Int) (x29 : Int) (s30 : MS), F_x10_tree s s30 → m_x10_tree_J77 (m_x10_tree_L30 n30) z27 x28 x29 s30 = some o → F_x10_tree s o.2 := by
      intro z27 x28 x29 s30 hF h
      unfold m_x10_tree_J77 at h
      exact L82 FU z27 x28 x29 0 s30 hF h
    obtain ⟨hr31, h⟩ := rg_e h
    obtain ⟨hr32, h⟩ := rg_e h
    by_cases c33 : (gI s5 421) ≤ x4
    · have h := if_t c33 h
      exact J161 z3 s5 hF h
    · have h := if_f c33 h
      obtain ⟨hr34, h⟩ := rg_e h
      by_cases c35 : 48 ≤ x4
      · have h := if_t c35 h
        exact J161 z3 s5 hF h
      · have h := if_f c35 h
        obtain ⟨y36, ey36, iy36, h⟩ := rdI_e h
        obtain ⟨y37, ey37, iy37, h⟩ := rdI_e h
        obtain ⟨hr38, h⟩ := rg_e h
        by_cases c39 : y37 ≤ 0
        · have h := if_t c39 h
          exact J77 z3 x4 0 s5 hF h
        · have h := if_f c39 h
          obtain ⟨y40, ey40, iy40, h⟩ := rdI_e h
          obtain ⟨y41, ey41, iy41, h⟩ := rdI_e h
          exact J77 z3 x4 y41 s5 hF h
  obtain ⟨s42, hs42, h⟩ := st_e h
  have hF : F_x10_tree s s42 := hs42 ▸ Fr.uI hF (by decide)
  obtain ⟨hr43, h⟩ := rg_e h
  by_cases c44 : 0 ≤ p1
  · have h := if_t c44 h
    obtain ⟨hi45, h⟩ := inb_e h
    obtain ⟨s46, hs46, h⟩ := st_e h
    have hF : F_x10_tree s s46 := hs46 ▸ Fr.uA hF (by decide)
    obtain ⟨s47, hs47, h⟩ := st_e h
    have hF : F_x10_tree s s47 := hs47 ▸ Fr.uI hF (by decide)
    exact L30 FU (shlLZ 1 p1) 0 s47 hF h
  · have h := if_f c44 h
    obtain rfl := Option.some.inj h
    exact hF
abbrev F_x10_gather (s o : MS) : Prop := Fr [421] [22, 23, 24] [] [] s o
theorem fr_x10_gather {p1 : Int} {s : MS} {o : (Int × MS)} (h : m_x10_gather p1 s = some o) : F_x10_gather s o.2 := by
  have hF : F_x10_gather s s := Fr.rf s
  unfold m_x10_gather at h
  have L12 : ∀ (n : Nat) (x1 : Int) (x2 : Int) (s3 : MS), F_x10_gather s s3 → m_x10_gather_L12 n x1 x2 s3 = some o → F_x10_gather s o.2 := by
    refine fr_ind (fun x1 x2 s3 hF h => by cases h) ?_
    intro n12 ih12 x1 x2 s3 hF h
    have h : m_x10_gather_b12 (m_x10_gather_L12 n12) x1 x2 s3 = some o := h
    unfold m_x10_gather_b12 at h
    have J128 : ∀ (x4 : Int) (x5 : Int) (s6 : MS), F_x10_gather s s6 → m_x10_gather_J128 (m_x10_gather_L12 n12) x4 x5 s6 = some o → F_x10_gather s o.2 := by
      intro x4 x5 s6 hF h
      unfold m_x10_gather_J128 at h
      exact ih12 x4 (x5 + 1) s6 hF h
    have L57 : ∀ (n : Nat) (x7 : Int) (x8 : Int) (x9 : Int) (x10 : Int) (s11 : MS), F_x10_gather s s11 → m_x10_gather_L57 (m_x10_gather_L12 n12) n x7 x8 x9 x10 s11 = some o → F_x10_gather s o.2 := by
      refine fr_ind (fun x7 x8 x9 x10 s11 hF h => by cases h) ?_
      intro n57 ih57 x7 x8 x9 x10 s11 hF h
      have h : m_x10_gather_b57 (m_x10_gather_L12 n12) (m_x10_gather_L57 (m_x10_gather_L12 n12) n57) x7 x8 x9 x10 s11 = some o := h
      unfold m_x10_gather_b57 at h
      obtain ⟨hr12, h⟩ := rg_e h
      obtain ⟨hr13, h⟩ := rg_e h
      by_cases c14 : x9 ≤ x10
      · have h := if_t c14 h
        exact J128 x7 x8 s11 hF h
      · have h := if_f c14 h
        obtain ⟨hr15, h⟩ := rg_e h
        by_cases c16 : 288 ≤ x7
        · have h := if_t c16 h
          exact J128 x7 x8 s11 hF h
        · have h := if_f c16 h
          obtain ⟨y17, ey17, iy17, h⟩ := rdI_e h
          obtain ⟨r19, hc18, h⟩ := bn_e h
          obtain ⟨y20, ey20, iy20, h⟩ := rdI_e h
          obtain ⟨hi21, h⟩ := inb_e h
          obtain ⟨s22, hs22, h⟩ := st_e h
          have hF : F_x10_gather s s22 := hs22 ▸ Fr.uA hF (by decide)
          obtain ⟨y23, ey23, iy23, h⟩ := rdI_e h
          obtain ⟨r25, hc24, h⟩ := bn_e h
          obtain ⟨y26, ey26, iy26, h⟩ := rdI_e h
          obtain ⟨hi27, h⟩ := inb_e h
          obtain ⟨s28, hs28, h⟩ := st_e h
          have hF : F_x10_gather s s28 := hs28 ▸ Fr.uA hF (by decide)
          exact ih57 (x7 + 1) x8 x9 (x10 + 1) s28 hF h
    have J52 : ∀ (x29 : Int) (x30 : Int) (x31 : Int) (s32 : MS), F_x10_gather s s32 → m_x10_gather_J52 (m_x10_gather_L12 n12) x29 x30 x31 s32 = some o → F_x10_gather s o.2 := by
      intro x29 x30 x31 s32 hF h
      unfold m_x10_gather_J52 at h
      exact L57 FU x29 x30 x31 0 s32 hF h
    obtain ⟨hr33, h⟩ := rg_e h
    obtain ⟨hr34, h⟩ := rg_e h
    by_cases c35 : (gI s3 421) ≤ x2
    · have h := if_t c35 h
      obtain rfl := Option.some.inj h
      exact hF
    · have h := if_f c35 h
      obtain ⟨y36, ey36, iy36, h⟩ := rdI_e h
      obtain ⟨y37, ey37, iy37, h⟩ := rdI_e h
      obtain ⟨hr38, h⟩ := rg_e h
      by_cases c39 : y37 = 0
      · have h := if_t c39 h
        obtain ⟨y40, ey40, iy40, h⟩ := rdI_e h
        obtain ⟨y41, ey41, iy41, h⟩ := rdI_e h
        exact J52 x1 x2 y41 s3 hF h
      · have h := if_f c39 h
        exact J52 x1 x2 0 s3 hF h
  obtain ⟨⟨rl44, s43⟩, hc42, h⟩ := bn_e h
  have hF : F_x10_gather s s43 := Fr.tr hF (fr_x10_tree hc42) (by decide)
  exact L12 FU 0 0 s43 hF h
abbrev F_x1_release (s o : MS) : Prop := Fr [] [50, 52] [] [] s o
theorem fr_x1_release {p0 : Int} {s : MS} {o : (Int × MS)} (h : m_x1_release p0 s = some o) : F_x1_release s o.2 := by
  have hF : F_x1_release s s := Fr.rf s
  unfold m_x1_release at h
  have J160 : ∀ (x1 : Int) (s2 : MS), F_x1_release s s2 → m_x1_release_J160 x1 s2 = some o → F_x1_release s o.2 := by
    intro x1 s2 hF h
    unfold m_x1_release_J160 at h
    obtain rfl := Option.some.inj h
    exact hF
  have L28 : ∀ (n : Nat) (x3 : Int) (x4 : Int) (s5 : MS), F_x1_release s s5 → m_x1_release_L28 n x3 x4 s5 = some o → F_x1_release s o.2 := by
    refine fr_ind (fun x3 x4 s5 hF h => by cases h) ?_
    intro n28 ih28 x3 x4 s5 hF h
    have h : m_x1_release_b28 (m_x1_release_L28 n28) x3 x4 s5 = some o := h
    unfold m_x1_release_b28 at h
    have L83 : ∀ (n : Nat) (x6 : Int) (x7 : Int) (x8 : Int) (x9 : Int) (s10 : MS), F_x1_release s s10 → m_x1_release_L83 (m_x1_release_L28 n28) n x6 x7 x8 x9 s10 = some o → F_x1_release s o.2 := by
      refine fr_ind (fun x6 x7 x8 x9 s10 hF h => by cases h) ?_
      intro n83 ih83 x6 x7 x8 x9 s10 hF h
      have h : m_x1_release_b83 (m_x1_release_L28 n28) (m_x1_release_L83 (m_x1_release_L28 n28) n83) x6 x7 x8 x9 s10 = some o := h
      unfold m_x1_release_b83 at h
      have J148 : ∀ (x11 : Int) (x12 : Int) (x13 : Int) (x14 : Int) (s15 : MS), F_x1_release s s15 → m_x1_release_J148 (m_x1_release_L28 n28) (m_x1_release_L83 (m_x1_release_L28 n28) n83) x11 x12 x13 x14 s15 = some o → F_x1_release s o.2 := by
        intro x11 x12 x13 x14 s15 hF h
        unfold m_x1_release_J148 at h
        exact ih83 x11 x12 x13 (x14 + 1) s15 hF h
      obtain ⟨hr16, h⟩ := rg_e h
      obtain ⟨hr17, h⟩ := rg_e h
      by_cases c18 : x8 ≤ x9
      · have h := if_t c18 h
        exact ih28 x6 (x7 + 1) s10 hF h
      · have h := if_f c18 h
        obtain ⟨y19, ey19, iy19, h⟩ := rdI_e h
        obtain ⟨r21, hc20, h⟩ := bn_e h
        obtain ⟨y22, ey22, iy22, h⟩ := rdI_e h
        obtain ⟨y23, ey23, iy23, h⟩ := rdI_e h
        obtain ⟨hi24, h⟩ := inb_e h
        obtain ⟨s25, hs25, h⟩ := st_e h
        have hF : F_x1_release s s25 := hs25 ▸ Fr.uA hF (by decide)
        obtain ⟨y26, ey26, iy26, h⟩ := rdI_e h
        obtain ⟨hr27, h⟩ := rg_e h
        by_cases c28 : y26 = 0
        · have h := if_t c28 h
          obtain ⟨hr29, h⟩ := rg_e h
          by_cases c30 : 48 ≤ x6
          · have h := if_t c30 h
            exact J148 x6 x7 x8 x9 s25 hF h
          · have h := if_f c30 h
            obtain ⟨hi31, h⟩ := inb_e h
            obtain ⟨s32, hs32, h⟩ := st_e h
            have hF : F_x1_release s s32 := hs32 ▸ Fr.uA hF (by decide)
            exact J148 (x6 + 1) x7 x8 x9 s32 hF h
        · have h := if_f c28 h
          exact J148 x6 x7 x8 x9 s25 hF h
    have J78 : ∀ (x33 : Int) (x34 : Int) (x35 : Int) (s36 : MS), F_x1_release s s36 → m_x1_release_J78 (m_x1_release_L28 n28) x33 x34 x35 s36 = some o → F_x1_release s o.2 := by
      intro x33 x34 x35 s36 hF h
      unfold m_x1_release_J78 at h
      exact L83 FU x33 x34 x35 0 s36 hF h
    obtain ⟨hr37, h⟩ := rg_e h
    obtain ⟨hr38, h⟩ := rg_e h
    by_cases c39 : x3 ≤ x4
    · have h := if_t c39 h
      exact J160 x3 s5 hF h
    · have h := if_f c39 h
      obtain ⟨hr40, h⟩ := rg_e h
      by_cases c41 : 48 ≤ x4
      · have h := if_t c41 h
        exact J160 x3 s5 hF h
      · have h := if_f c41 h
        obtain ⟨y42, ey42, iy42, h⟩ := rdI_e h
        obtain ⟨y43, ey43, iy43, h⟩ := rdI_e h
        obtain ⟨hr44, h⟩ := rg_e h
        by_cases c45 : y43 ≤ 0
        · have h := if_t c45 h
          exact J78 x3 x4 0 s5 hF h
        · have h := if_f c45 h
          obtain ⟨y46, ey46, iy46, h⟩ := rdI_e h
          obtain ⟨y47, ey47, iy47, h⟩ := rdI_e h
          exact J78 x3 x4 y47 s5 hF h
  have J25 : ∀ (x48 : Int) (s49 : MS), F_x1_release s s49 → m_x1_release_J25 x48 s49 = some o → F_x1_release s o.2 := by
    intro x48 s49 hF h
    unfold m_x1_release_J25 at h
    exact L28 FU x48 0 s49 hF h
  obtain ⟨y50, ey50, iy50, h⟩ := rdI_e h
  obtain ⟨hi51, h⟩ := inb_e h
  obtain ⟨s52, hs52, h⟩ := st_e h
  have hF : F_x1_release s s52 := hs52 ▸ Fr.uA hF (by decide)
  obtain ⟨y53, ey53, iy53, h⟩ := rdI_e h
  obtain ⟨hr54, h⟩ := rg_e h
  by_cases c55 : y53 = 0
  · have h := if_t c55 h
    obtain ⟨hi56, h⟩ := inb_e h
    obtain ⟨s57, hs57, h⟩ := st_e h
    have hF : F_x1_release s s57 := hs57 ▸ Fr.uA hF (by decide)
    exact J25 1 s57 hF h
  · have h := if_f c55 h
    exact J25 0 s52 hF h
abbrev F_x1_freedWith (s o : MS) : Prop := Fr [] [50, 52] [] [] s o
theorem fr_x1_freedWith {p0 : Int} {s : MS} {o : (Int × MS)} (h : m_x1_freedWith p0 s = some o) : F_x1_freedWith s o.2 := by
  have hF : F_x1_freedWith s s := Fr.rf s
  unfold m_x1_freedWith at h
  obtain ⟨hr1, h⟩ := rg_e h
  by_cases c2 : p0 = (-1)
  · have h := if_t c2 h
    obtain rfl := Option.some.inj h
    exact hF
  · have h := if_f c2 h
    obtain ⟨hc3, h⟩ := cpg_e h
    obtain ⟨s4, hs4, h⟩ := st_e h
    have hF : F_x1_freedWith s s4 := hs4 ▸ Fr.uA hF (by decide)
    obtain ⟨⟨r7, s6⟩, hc5, h⟩ := bn_e h
    have hF : F_x1_freedWith s s6 := Fr.tr hF (fr_x1_release hc5) (by decide)
    obtain rfl := Option.some.inj h
    exact hF
abbrev F_x11_volume (s o : MS) : Prop := Fr [421] [22, 23, 24, 50, 52] [] [] s o
theorem fr_x11_volume {p0 : Int} {p1 : Int} {s : MS} {o : (Int × MS)} (h : m_x11_volume p0 p1 s = some o) : F_x11_volume s o.2 := by
  have hF : F_x11_volume s s := Fr.rf s
  unfold m_x11_volume at h
  have J93 : ∀ (x1 : Int) (s2 : MS), F_x11_volume s s2 → m_x11_volume_J93 x1 s2 = some o → F_x11_volume s o.2 := by
    intro x1 s2 hF h
    unfold m_x11_volume_J93 at h
    obtain rfl := Option.some.inj h
    exact hF
  obtain ⟨r4, hc3, h⟩ := bn_e h
  obtain ⟨hr5, h⟩ := rg_e h
  by_cases c6 : r4 = 0
  · have h := if_t c6 h
    obtain rfl := Option.some.inj h
    exact hF
  · have h := if_f c6 h
    obtain ⟨y7, ey7, iy7, h⟩ := rdI_e h
    obtain ⟨hr8, h⟩ := rg_e h
    by_cases c9 : p1 = 0
    · have h := if_t c9 h
      obtain rfl := Option.some.inj h
      exact hF
    · have h := if_f c9 h
      by_cases c10 : p1 = 1
      · have h := if_t c10 h
        obtain ⟨⟨r13, s12⟩, hc11, h⟩ := bn_e h
        have hF : F_x11_volume s s12 := Fr.tr hF (fr_x10_gather hc11) (by decide)
        obtain rfl := Option.some.inj h
        exact hF
      · have h := if_f c10 h
        by_cases c14 : p1 = 2
        · have h := if_t c14 h
          obtain ⟨hr15, h⟩ := rg_e h
          by_cases c16 : y7 = (-1)
          · have h := if_t c16 h
            exact J93 0 s hF h
          · have h := if_f c16 h
            obtain ⟨y17, ey17, iy17, h⟩ := rdI_e h
            exact J93 (y17 + 1) s hF h
        · have h := if_f c14 h
          by_cases c18 : p1 = 3
          · have h := if_t c18 h
            obtain ⟨⟨rl21, s20⟩, hc19, h⟩ := bn_e h
            have hF : F_x11_volume s s20 := Fr.tr hF (fr_x10_tree hc19) (by decide)
            obtain ⟨r23, hc22, h⟩ := bn_e h
            obtain rfl := Option.some.inj h
            exact hF
          · have h := if_f c18 h
            by_cases c24 : p1 = 4
            · have h := if_t c24 h
              obtain ⟨⟨r27, s26⟩, hc25, h⟩ := bn_e h
              have hF : F_x11_volume s s26 := Fr.tr hF (fr_x1_freedWith hc25) (by decide)
              obtain rfl := Option.some.inj h
              exact hF
            · have h := if_f c24 h
              obtain rfl := Option.some.inj h
              exact hF
abbrev F_x11_key (s o : MS) : Prop := Fr [421] [22, 23, 24] [] [] s o
theorem fr_x11_key {p0 : Int} {p1 : Int} {s : MS} {o : (Int × MS)} (h : m_x11_key p0 p1 s = some o) : F_x11_key s o.2 := by
  have hF : F_x11_key s s := Fr.rf s
  unfold m_x11_key at h
  have J38 : ∀ (s1 : MS), F_x11_key s s1 → m_x11_key_J38 s1 = some o → F_x11_key s o.2 := by
    intro s1 hF h
    unfold m_x11_key_J38 at h
    obtain rfl := Option.some.inj h
    exact hF
  obtain ⟨r3, hc2, h⟩ := bn_e h
  obtain ⟨hr4, h⟩ := rg_e h
  by_cases c5 : r3 = 0
  · have h := if_t c5 h
    exact J38 s hF h
  · have h := if_f c5 h
    obtain ⟨hr6, h⟩ := rg_e h
    by_cases c7 : p1 < 0
    · have h := if_t c7 h
      exact J38 s hF h
    · have h := if_f c7 h
      obtain ⟨y8, ey8, iy8, h⟩ := rdI_e h
      obtain ⟨⟨r11, s10⟩, hc9, h⟩ := bn_e h
      have hF : F_x11_key s s10 := Fr.tr hF (fr_x10_gather hc9) (by decide)
      obtain ⟨hr12, h⟩ := rg_e h
      obtain ⟨hr13, h⟩ := rg_e h
      by_cases c14 : p1 < r11
      · have h := if_t c14 h
        obtain ⟨y15, ey15, iy15, h⟩ := rdI_e h
        obtain rfl := Option.some.inj h
        exact hF
      · have h := if_f c14 h
        exact J38 s10 hF h
abbrev F_x11_total (s o : MS) : Prop := Fr [421] [22, 23, 24] [] [] s o
theorem fr_x11_total {p0 : Int} {p1 : Int} {p2 : Int} {s : MS} {o : (Int × MS)} (h : m_x11_total p0 p1 p2 s = some o) : F_x11_total s o.2 := by
  have hF : F_x11_total s s := Fr.rf s
  unfold m_x11_total at h
  have L44 : ∀ (n : Nat) (x1 : Int) (x2 : Int) (x3 : Int) (x4 : Int) (x5 : Int) (s6 : MS), F_x11_total s s6 → m_x11_total_L44 n x1 x2 x3 x4 x5 s6 = some o → F_x11_total s o.2 := by
    refine fr_ind (fun x1 x2 x3 x4 x5 s6 hF h => by cases h) ?_
    intro n44 ih44 x1 x2 x3 x4 x5 s6 hF h
    have h : m_x11_total_b44 (m_x11_total_L44 n44) x1 x2 x3 x4 x5 s6 = some o := h
    unfold m_x11_total_b44 at h
    have J94 : ∀ (x7 : Int) (x8 : Int) (x9 : Int) (x10 : Int) (x11 : Int) (s12 : MS), F_x11_total s s12 → m_x11_total_J94 (m_x11_total_L44 n44) x7 x8 x9 x10 x11 s12 = some o → F_x11_total s o.2 := by
      intro x7 x8 x9 x10 x11 s12 hF h
      unfold m_x11_total_J94 at h
      exact ih44 x7 x8 x9 x10 (x11 + 1) s12 hF h
    obtain ⟨hr13, h⟩ := rg_e h
    obtain ⟨hr14, h⟩ := rg_e h
    by_cases c15 : x3 ≤ x5
    · have h := if_t c15 h
      obtain rfl := Option.some.inj h
      exact hF
    · have h := if_f c15 h
      obtain ⟨y16, ey16, iy16, h⟩ := rdI_e h
      obtain ⟨hr17, h⟩ := rg_e h
      obtain ⟨hr18, h⟩ := rg_e h
      by_cases c19 : y16 < x1
      · have h := if_t c19 h
        exact J94 x1 x2 x3 x4 x5 s6 hF h
      · have h := if_f c19 h
        obtain ⟨y20, ey20, iy20, h⟩ := rdI_e h
        obtain ⟨hr21, h⟩ := rg_e h
        obtain ⟨hr22, h⟩ := rg_e h
        by_cases c23 : x2 < y20
        · have h := if_t c23 h
          exact J94 x1 x2 x3 x4 x5 s6 hF h
        · have h := if_f c23 h
          obtain ⟨y24, ey24, iy24, h⟩ := rdI_e h
          exact J94 x1 x2 x3 (x4 + y24) x5 s6 hF h
  obtain ⟨r26, hc25, h⟩ := bn_e h
  obtain ⟨hr27, h⟩ := rg_e h
  by_cases c28 : r26 = 0
  · have h := if_t c28 h
    obtain rfl := Option.some.inj h
    exact hF
  · have h := if_f c28 h
    obtain ⟨y29, ey29, iy29, h⟩ := rdI_e h
    obtain ⟨⟨r32, s31⟩, hc30, h⟩ := bn_e h
    have hF : F_x11_total s s31 := Fr.tr hF (fr_x10_gather hc30) (by decide)
    exact L44 FU p1 p2 r32 0 0 s31 hF h
abbrev F_x11_shared (s o : MS) : Prop := Fr [421] [22] [] [] s o
theorem fr_x11_shared {p0 : Int} {p1 : Int} {s : MS} {o : (Int × MS)} (h : m_x11_shared p0 p1 s = some o) : F_x11_shared s o.2 := by
  have hF : F_x11_shared s s := Fr.rf s
  unfold m_x11_shared at h
  have J24 : ∀ (s1 : MS), F_x11_shared s s1 → m_x11_shared_J24 s1 = some o → F_x11_shared s o.2 := by
    intro s1 hF h
    unfold m_x11_shared_J24 at h
    obtain rfl := Option.some.inj h
    exact hF
  obtain ⟨r3, hc2, h⟩ := bn_e h
  obtain ⟨hr4, h⟩ := rg_e h
  by_cases c5 : r3 = 0
  · have h := if_t c5 h
    exact J24 s hF h
  · have h := if_f c5 h
    obtain ⟨r7, hc6, h⟩ := bn_e h
    obtain ⟨hr8, h⟩ := rg_e h
    by_cases c9 : r7 = 0
    · have h := if_t c9 h
      exact J24 s hF h
    · have h := if_f c9 h
      obtain ⟨y10, ey10, iy10, h⟩ := rdI_e h
      obtain ⟨⟨rl13, s12⟩, hc11, h⟩ := bn_e h
      have hF : F_x11_shared s s12 := Fr.tr hF (fr_x10_tree hc11) (by decide)
      obtain ⟨y14, ey14, iy14, h⟩ := rdI_e h
      obtain ⟨⟨rl17, s16⟩, hc15, h⟩ := bn_e h
      have hF : F_x11_shared s s16 := Fr.tr hF (fr_x10_tree hc15) (by decide)
      obtain ⟨r19, hc18, h⟩ := bn_e h
      obtain rfl := Option.some.inj h
      exact hF
abbrev F_x10_tree_v2 (s o : MS) : Prop := Fr [501] [26] [] [] s o
theorem fr_x10_tree_v2 {p1 : Int} {s : MS} {o : (Int × MS)} (h : m_x10_tree_v2 p1 s = some o) : F_x10_tree_v2 s o.2 := by
  have hF : F_x10_tree_v2 s s := Fr.rf s
  unfold m_x10_tree_v2 at h
  have J161 : ∀ (z1 : Int) (s2 : MS), F_x10_tree_v2 s s2 → m_x10_tree_v2_J161 z1 s2 = some o → F_x10_tree_v2 s o.2 := by
    intro z1 s2 hF h
    unfold m_x10_tree_v2_J161 at h
    obtain rfl := Option.some.inj h
    exact hF
  have L30 : ∀ (n : Nat) (z3 : Int) (x4 : Int) (s5 : MS), F_x10_tree_v2 s s5 → m_x10_tree_v2_L30 n z3 x4 s5 = some o → F_x10_tree_v2 s o.2 := by
    refine fr_ind (fun z3 x4 s5 hF h => by cases h) ?_
    intro n30 ih30 z3 x4 s5 hF h
    have h : m_x10_tree_v2_b30 (m_x10_tree_v2_L30 n30) z3 x4 s5 = some o := h
    unfold m_x10_tree_v2_b30 at h
    have J155 : ∀ (z6 : Int) (x7 : Int) (s8 : MS), F_x10_tree_v2 s s8 → m_x10_tree_v2_J155 (m_x10_tree_v2_L30 n30) z6 x7 s8 = some o → F_x10_tree_v2 s o.2 := by
      intro z6 x7 s8 hF h
      unfold m_x10_tree_v2_J155 at h
      exact ih30 z6 (x7 + 1) s8 hF h
    have L82 : ∀ (n : Nat) (z9 : Int) (x10 : Int) (x11 : Int) (x12 : Int) (s13 : MS), F_x10_tree_v2 s s13 → m_x10_tree_v2_L82 (m_x10_tree_v2_L30 n30) n z9 x10 x11 x12 s13 = some o → F_x10_tree_v2 s o.2 := by
      refine fr_ind (fun z9 x10 x11 x12 s13 hF h => by cases h) ?_
      intro n82 ih82 z9 x10 x11 x12 s13 hF h
      have h : m_x10_tree_v2_b82 (m_x10_tree_v2_L30 n30) (m_x10_tree_v2_L82 (m_x10_tree_v2_L30 n30) n82) z9 x10 x11 x12 s13 = some o := h
      unfold m_x10_tree_v2_b82 at h
      obtain ⟨hr14, h⟩ := rg_e h
      obtain ⟨hr15, h⟩ := rg_e h
      by_cases c16 : x11 ≤ x12
      · have h := if_t c16 h
        exact J155 z9 x10 s13 hF h
      · have h := if_f c16 h
        obtain ⟨hr17, h⟩ := rg_e h
        by_cases c18 : 48 ≤ (gI s13 501)
        · have h := if_t c18 h
          exact J155 z9 x10 s13 hF h
        · have h := if_f c18 h
          obtain ⟨y19, ey19, iy19, h⟩ := rdI_e h
          obtain ⟨r21, hc20, h⟩ := bn_e h
          obtain ⟨y22, ey22, iy22, h⟩ := rdI_e h
          obtain ⟨hi23, h⟩ := inb_e h
          obtain ⟨s24, hs24, h⟩ := st_e h
          have hF : F_x10_tree_v2 s s24 := hs24 ▸ Fr.uA hF (by decide)
          obtain ⟨y25, ey25, iy25, h⟩ := rdI_e h
          obtain ⟨s26, hs26, h⟩ := st_e h
          have hF : F_x10_tree_v2 s s26 := hs26 ▸ Fr.uI hF (by decide)
          exact ih82 (orL z9 (shlLZ 1 y25)) x10 x11 (x12 + 1) s26 hF h
    have J77 : ∀ (z27 : Int) (x28 : Int) (x29 : Int) (s30 : MS), F_x10_tree_v2 s s30 → m_x10_tree_v2_J77 (m_x10_tree_v2_L30 n30) z27 x28 x29 s30 = some o → F_x10_tree_v2 s o.2 := by
      intro z27 x28 x29 s30 hF h
      unfold m_x10_tree_v2_J77 at h
      exact L82 FU z27 x28 x29 0 s30 hF h
    obtain ⟨hr31, h⟩ := rg_e h
    obtain ⟨hr32, h⟩ := rg_e h
    by_cases c33 : (gI s5 501) ≤ x4
    · have h := if_t c33 h
      exact J161 z3 s5 hF h
    · have h := if_f c33 h
      obtain ⟨hr34, h⟩ := rg_e h
      by_cases c35 : 48 ≤ x4
      · have h := if_t c35 h
        exact J161 z3 s5 hF h
      · have h := if_f c35 h
        obtain ⟨y36, ey36, iy36, h⟩ := rdI_e h
        obtain ⟨y37, ey37, iy37, h⟩ := rdI_e h
        obtain ⟨hr38, h⟩ := rg_e h
        by_cases c39 : y37 ≤ 0
        · have h := if_t c39 h
          exact J77 z3 x4 0 s5 hF h
        · have h := if_f c39 h
          obtain ⟨y40, ey40, iy40, h⟩ := rdI_e h
          obtain ⟨y41, ey41, iy41, h⟩ := rdI_e h
          exact J77 z3 x4 y41 s5 hF h
  obtain ⟨s42, hs42, h⟩ := st_e h
  have hF : F_x10_tree_v2 s s42 := hs42 ▸ Fr.uI hF (by decide)
  obtain ⟨hr43, h⟩ := rg_e h
  by_cases c44 : 0 ≤ p1
  · have h := if_t c44 h
    obtain ⟨hi45, h⟩ := inb_e h
    obtain ⟨s46, hs46, h⟩ := st_e h
    have hF : F_x10_tree_v2 s s46 := hs46 ▸ Fr.uA hF (by decide)
    obtain ⟨s47, hs47, h⟩ := st_e h
    have hF : F_x10_tree_v2 s s47 := hs47 ▸ Fr.uI hF (by decide)
    exact L30 FU (shlLZ 1 p1) 0 s47 hF h
  · have h := if_f c44 h
    obtain rfl := Option.some.inj h
    exact hF
abbrev F_x10_gather_v2 (s o : MS) : Prop := Fr [501] [26, 27, 28] [] [] s o
theorem fr_x10_gather_v2 {p1 : Int} {s : MS} {o : (Int × MS)} (h : m_x10_gather_v2 p1 s = some o) : F_x10_gather_v2 s o.2 := by
  have hF : F_x10_gather_v2 s s := Fr.rf s
  unfold m_x10_gather_v2 at h
  have L12 : ∀ (n : Nat) (x1 : Int) (x2 : Int) (s3 : MS), F_x10_gather_v2 s s3 → m_x10_gather_v2_L12 n x1 x2 s3 = some o → F_x10_gather_v2 s o.2 := by
    refine fr_ind (fun x1 x2 s3 hF h => by cases h) ?_
    intro n12 ih12 x1 x2 s3 hF h
    have h : m_x10_gather_v2_b12 (m_x10_gather_v2_L12 n12) x1 x2 s3 = some o := h
    unfold m_x10_gather_v2_b12 at h
    have J128 : ∀ (x4 : Int) (x5 : Int) (s6 : MS), F_x10_gather_v2 s s6 → m_x10_gather_v2_J128 (m_x10_gather_v2_L12 n12) x4 x5 s6 = some o → F_x10_gather_v2 s o.2 := by
      intro x4 x5 s6 hF h
      unfold m_x10_gather_v2_J128 at h
      exact ih12 x4 (x5 + 1) s6 hF h
    have L57 : ∀ (n : Nat) (x7 : Int) (x8 : Int) (x9 : Int) (x10 : Int) (s11 : MS), F_x10_gather_v2 s s11 → m_x10_gather_v2_L57 (m_x10_gather_v2_L12 n12) n x7 x8 x9 x10 s11 = some o → F_x10_gather_v2 s o.2 := by
      refine fr_ind (fun x7 x8 x9 x10 s11 hF h => by cases h) ?_
      intro n57 ih57 x7 x8 x9 x10 s11 hF h
      have h : m_x10_gather_v2_b57 (m_x10_gather_v2_L12 n12) (m_x10_gather_v2_L57 (m_x10_gather_v2_L12 n12) n57) x7 x8 x9 x10 s11 = some o := h
      unfold m_x10_gather_v2_b57 at h
      obtain ⟨hr12, h⟩ := rg_e h
      obtain ⟨hr13, h⟩ := rg_e h
      by_cases c14 : x9 ≤ x10
      · have h := if_t c14 h
        exact J128 x7 x8 s11 hF h
      · have h := if_f c14 h
        obtain ⟨hr15, h⟩ := rg_e h
        by_cases c16 : 288 ≤ x7
        · have h := if_t c16 h
          exact J128 x7 x8 s11 hF h
        · have h := if_f c16 h
          obtain ⟨y17, ey17, iy17, h⟩ := rdI_e h
          obtain ⟨r19, hc18, h⟩ := bn_e h
          obtain ⟨y20, ey20, iy20, h⟩ := rdI_e h
          obtain ⟨hi21, h⟩ := inb_e h
          obtain ⟨s22, hs22, h⟩ := st_e h
          have hF : F_x10_gather_v2 s s22 := hs22 ▸ Fr.uA hF (by decide)
          obtain ⟨y23, ey23, iy23, h⟩ := rdI_e h
          obtain ⟨r25, hc24, h⟩ := bn_e h
          obtain ⟨y26, ey26, iy26, h⟩ := rdI_e h
          obtain ⟨hi27, h⟩ := inb_e h
          obtain ⟨s28, hs28, h⟩ := st_e h
          have hF : F_x10_gather_v2 s s28 := hs28 ▸ Fr.uA hF (by decide)
          exact ih57 (x7 + 1) x8 x9 (x10 + 1) s28 hF h
    have J52 : ∀ (x29 : Int) (x30 : Int) (x31 : Int) (s32 : MS), F_x10_gather_v2 s s32 → m_x10_gather_v2_J52 (m_x10_gather_v2_L12 n12) x29 x30 x31 s32 = some o → F_x10_gather_v2 s o.2 := by
      intro x29 x30 x31 s32 hF h
      unfold m_x10_gather_v2_J52 at h
      exact L57 FU x29 x30 x31 0 s32 hF h
    obtain ⟨hr33, h⟩ := rg_e h
    obtain ⟨hr34, h⟩ := rg_e h
    by_cases c35 : (gI s3 501) ≤ x2
    · have h := if_t c35 h
      obtain rfl := Option.some.inj h
      exact hF
    · have h := if_f c35 h
      obtain ⟨y36, ey36, iy36, h⟩ := rdI_e h
      obtain ⟨y37, ey37, iy37, h⟩ := rdI_e h
      obtain ⟨hr38, h⟩ := rg_e h
      by_cases c39 : y37 = 0
      · have h := if_t c39 h
        obtain ⟨y40, ey40, iy40, h⟩ := rdI_e h
        obtain ⟨y41, ey41, iy41, h⟩ := rdI_e h
        exact J52 x1 x2 y41 s3 hF h
      · have h := if_f c39 h
        exact J52 x1 x2 0 s3 hF h
  obtain ⟨⟨rl44, s43⟩, hc42, h⟩ := bn_e h
  have hF : F_x10_gather_v2 s s43 := Fr.tr hF (fr_x10_tree_v2 hc42) (by decide)
  exact L12 FU 0 0 s43 hF h
abbrev F_x11_unlike (s o : MS) : Prop := Fr [421, 501] [22, 23, 24, 26, 27, 28] [] [] s o
theorem fr_x11_unlike {p0 : Int} {p1 : Int} {p2 : Int} {s : MS} {o : (Int × MS)} (h : m_x11_unlike p0 p1 p2 s = some o) : F_x11_unlike s o.2 := by
  have hF : F_x11_unlike s s := Fr.rf s
  unfold m_x11_unlike at h
  have J240 : ∀ (x1 : Int) (s2 : MS), F_x11_unlike s s2 → m_x11_unlike_J240 x1 s2 = some o → F_x11_unlike s o.2 := by
    intro x1 s2 hF h
    unfold m_x11_unlike_J240 at h
    obtain rfl := Option.some.inj h
    exact hF
  have J229 : ∀ (x3 : Int) (x4 : Int) (s5 : MS), F_x11_unlike s s5 → m_x11_unlike_J229 x3 x4 s5 = some o → F_x11_unlike s o.2 := by
    intro x3 x4 s5 hF h
    unfold m_x11_unlike_J229 at h
    obtain ⟨hr6, h⟩ := rg_e h
    by_cases c7 : x3 = (-1)
    · have h := if_t c7 h
      exact J240 x4 s5 hF h
    · have h := if_f c7 h
      exact J240 (-1) s5 hF h
  have L46 : ∀ (n : Nat) (x8 : Int) (x9 : Int) (x10 : Int) (x11 : Int) (x12 : Int) (x13 : Int) (x14 : Int) (s15 : MS), F_x11_unlike s s15 → m_x11_unlike_L46 n x8 x9 x10 x11 x12 x13 x14 s15 = some o → F_x11_unlike s o.2 := by
    refine fr_ind (fun x8 x9 x10 x11 x12 x13 x14 s15 hF h => by cases h) ?_
    intro n46 ih46 x8 x9 x10 x11 x12 x13 x14 s15 hF h
    have h : m_x11_unlike_b46 (m_x11_unlike_L46 n46) x8 x9 x10 x11 x12 x13 x14 s15 = some o := h
    unfold m_x11_unlike_b46 at h
    have J220 : ∀ (x16 : Int) (x17 : Int) (x18 : Int) (x19 : Int) (x20 : Int) (x21 : Int) (x22 : Int) (x23 : Int) (s24 : MS), F_x11_unlike s s24 → m_x11_unlike_J220 (m_x11_unlike_L46 n46) x16 x17 x18 x19 x20 x21 x22 x23 s24 = some o → F_x11_unlike s o.2 := by
      intro x16 x17 x18 x19 x20 x21 x22 x23 s24 hF h
      unfold m_x11_unlike_J220 at h
      exact ih46 x16 x17 x18 x19 x20 (x23 + x22) (x21 + 1) s24 hF h
    have J203 : ∀ (x25 : Int) (x26 : Int) (x27 : Int) (x28 : Int) (x29 : Int) (x30 : Int) (x31 : Int) (x32 : Int) (x33 : Int) (x34 : Int) (s35 : MS), F_x11_unlike s s35 → m_x11_unlike_J203 (m_x11_unlike_L46 n46) x25 x26 x27 x28 x29 x30 x31 x32 x33 x34 s35 = some o → F_x11_unlike s o.2 := by
      intro x25 x26 x27 x28 x29 x30 x31 x32 x33 x34 s35 hF h
      unfold m_x11_unlike_J203 at h
      obtain ⟨hr36, h⟩ := rg_e h
      obtain ⟨hr37, h⟩ := rg_e h
      by_cases c38 : x31 < x32
      · have h := if_t c38 h
        exact J220 x25 x26 x27 x28 (x34 + x33) x30 0 x29 s35 hF h
      · have h := if_f c38 h
        exact J220 x25 x26 x27 x28 (x34 + x33) x30 1 x29 s35 hF h
    have J186 : ∀ (x39 : Int) (x40 : Int) (x41 : Int) (x42 : Int) (x43 : Int) (x44 : Int) (x45 : Int) (x46 : Int) (x47 : Int) (x48 : Int) (s49 : MS), F_x11_unlike s s49 → m_x11_unlike_J186 (m_x11_unlike_L46 n46) x39 x40 x41 x42 x43 x44 x45 x46 x47 x48 s49 = some o → F_x11_unlike s o.2 := by
      intro x39 x40 x41 x42 x43 x44 x45 x46 x47 x48 s49 hF h
      unfold m_x11_unlike_J186 at h
      obtain ⟨hr50, h⟩ := rg_e h
      obtain ⟨hr51, h⟩ := rg_e h
      by_cases c52 : x46 < x45
      · have h := if_t c52 h
        exact J203 x39 x40 x41 (x48 + x47) x43 x44 x45 x46 0 x42 s49 hF h
      · have h := if_f c52 h
        exact J203 x39 x40 x41 (x48 + x47) x43 x44 x45 x46 1 x42 s49 hF h
    have J174 : ∀ (x53 : Int) (x54 : Int) (x55 : Int) (x56 : Int) (x57 : Int) (x58 : Int) (x59 : Int) (x60 : Int) (x61 : Int) (x62 : Int) (s63 : MS), F_x11_unlike s s63 → m_x11_unlike_J174 (m_x11_unlike_L46 n46) x53 x54 x55 x56 x57 x58 x59 x60 x61 x62 s63 = some o → F_x11_unlike s o.2 := by
      intro x53 x54 x55 x56 x57 x58 x59 x60 x61 x62 s63 hF h
      unfold m_x11_unlike_J174 at h
      obtain ⟨hr64, h⟩ := rg_e h
      by_cases c65 : x62 = 0
      · have h := if_t c65 h
        exact J186 x53 x54 x55 x57 x58 x59 x60 x61 1 x56 s63 hF h
      · have h := if_f c65 h
        exact J186 x53 x54 x55 x57 x58 x59 x60 x61 0 x56 s63 hF h
    have J153 : ∀ (x66 : Int) (x67 : Int) (x68 : Int) (x69 : Int) (x70 : Int) (x71 : Int) (x72 : Int) (x73 : Int) (x74 : Int) (x75 : Int) (s76 : MS), F_x11_unlike s s76 → m_x11_unlike_J153 (m_x11_unlike_L46 n46) x66 x67 x68 x69 x70 x71 x72 x73 x74 x75 s76 = some o → F_x11_unlike s o.2 := by
      intro x66 x67 x68 x69 x70 x71 x72 x73 x74 x75 s76 hF h
      unfold m_x11_unlike_J153 at h
      obtain ⟨hr77, h⟩ := rg_e h
      by_cases c78 : x75 = 0
      · have h := if_t c78 h
        obtain ⟨hr79, h⟩ := rg_e h
        obtain ⟨hr80, h⟩ := rg_e h
        by_cases c81 : x69 = x66
        · have h := if_t c81 h
          obtain ⟨hr82, h⟩ := rg_e h
          obtain ⟨hr83, h⟩ := rg_e h
          obtain rfl := Option.some.inj h
          exact hF
        · have h := if_f c81 h
          exact J174 x66 x67 x68 x69 x70 x71 x72 x73 x74 x75 s76 hF h
      · have h := if_f c78 h
        exact J174 x66 x67 x68 x69 x70 x71 x72 x73 x74 x75 s76 hF h
    have J152 : ∀ (x84 : Int) (x85 : Int) (x86 : Int) (x87 : Int) (x88 : Int) (x89 : Int) (x90 : Int) (x91 : Int) (x92 : Int) (s93 : MS), F_x11_unlike s s93 → m_x11_unlike_J152 (m_x11_unlike_L46 n46) x84 x85 x86 x87 x88 x89 x90 x91 x92 s93 = some o → F_x11_unlike s o.2 := by
      intro x84 x85 x86 x87 x88 x89 x90 x91 x92 s93 hF h
      unfold m_x11_unlike_J152 at h
      exact J153 x84 x85 x86 x87 x88 x89 x90 x91 x92 0 s93 hF h
    have J116 : ∀ (x94 : Int) (x95 : Int) (x96 : Int) (x97 : Int) (x98 : Int) (x99 : Int) (x100 : Int) (x101 : Int) (x102 : Int) (s103 : MS), F_x11_unlike s s103 → m_x11_unlike_J116 (m_x11_unlike_L46 n46) x94 x95 x96 x97 x98 x99 x100 x101 x102 s103 = some o → F_x11_unlike s o.2 := by
      intro x94 x95 x96 x97 x98 x99 x100 x101 x102 s103 hF h
      unfold m_x11_unlike_J116 at h
      obtain ⟨hr104, h⟩ := rg_e h
      obtain ⟨hr105, h⟩ := rg_e h
      by_cases c106 : x101 = x102
      · have h := if_t c106 h
        obtain ⟨y107, ey107, iy107, h⟩ := rdI_e h
        obtain ⟨y108, ey108, iy108, h⟩ := rdI_e h
        obtain ⟨hr109, h⟩ := rg_e h
        obtain ⟨hr110, h⟩ := rg_e h
        by_cases c111 : y107 = y108
        · have h := if_t c111 h
          exact J153 x94 x95 x96 x97 x98 x99 x100 x101 x102 1 s103 hF h
        · have h := if_f c111 h
          exact J152 x94 x95 x96 x97 x98 x99 x100 x101 x102 s103 hF h
      · have h := if_f c106 h
        exact J152 x94 x95 x96 x97 x98 x99 x100 x101 x102 s103 hF h
    have J91 : ∀ (x112 : Int) (x113 : Int) (x114 : Int) (x115 : Int) (x116 : Int) (x117 : Int) (x118 : Int) (x119 : Int) (s120 : MS), F_x11_unlike s s120 → m_x11_unlike_J91 (m_x11_unlike_L46 n46) x112 x113 x114 x115 x116 x117 x118 x119 s120 = some o → F_x11_unlike s o.2 := by
      intro x112 x113 x114 x115 x116 x117 x118 x119 s120 hF h
      unfold m_x11_unlike_J91 at h
      obtain ⟨hr121, h⟩ := rg_e h
      obtain ⟨hr122, h⟩ := rg_e h
      by_cases c123 : x114 ≤ x117
      · have h := if_t c123 h
        exact J116 x112 x113 x114 x115 x116 x117 x118 x119 1000 s120 hF h
      · have h := if_f c123 h
        obtain ⟨y124, ey124, iy124, h⟩ := rdI_e h
        exact J116 x112 x113 x114 x115 x116 x117 x118 x119 y124 s120 hF h
    have J68 : ∀ (x125 : Int) (x126 : Int) (x127 : Int) (x128 : Int) (x129 : Int) (x130 : Int) (x131 : Int) (s132 : MS), F_x11_unlike s s132 → m_x11_unlike_J68 (m_x11_unlike_L46 n46) x125 x126 x127 x128 x129 x130 x131 s132 = some o → F_x11_unlike s o.2 := by
      intro x125 x126 x127 x128 x129 x130 x131 s132 hF h
      unfold m_x11_unlike_J68 at h
      obtain ⟨hr133, h⟩ := rg_e h
      obtain ⟨hr134, h⟩ := rg_e h
      by_cases c135 : x126 ≤ x129
      · have h := if_t c135 h
        exact J91 x125 x126 x127 x128 x129 x130 x131 1000 s132 hF h
      · have h := if_f c135 h
        obtain ⟨y136, ey136, iy136, h⟩ := rdI_e h
        exact J91 x125 x126 x127 x128 x129 x130 x131 y136 s132 hF h
    obtain ⟨hr137, h⟩ := rg_e h
    by_cases c138 : 576 ≤ x14
    · have h := if_t c138 h
      exact J229 x8 x11 s15 hF h
    · have h := if_f c138 h
      obtain ⟨hr139, h⟩ := rg_e h
      obtain ⟨hr140, h⟩ := rg_e h
      by_cases c141 : x12 < x9
      · have h := if_t c141 h
        exact J68 x8 x9 x10 x11 x12 x13 x14 s15 hF h
      · have h := if_f c141 h
        obtain ⟨hr142, h⟩ := rg_e h
        obtain ⟨hr143, h⟩ := rg_e h
        by_cases c144 : x10 ≤ x13
        · have h := if_t c144 h
          exact J229 x8 x11 s15 hF h
        · have h := if_f c144 h
          exact J68 x8 x9 x10 x11 x12 x13 x14 s15 hF h
  obtain ⟨⟨r147, s146⟩, hc145, h⟩ := bn_e h
  have hF : F_x11_unlike s s146 := Fr.tr hF (fr_x10_gather hc145) (by decide)
  obtain ⟨⟨r150, s149⟩, hc148, h⟩ := bn_e h
  have hF : F_x11_unlike s s149 := Fr.tr hF (fr_x10_gather_v2 hc148) (by decide)
  exact L46 FU p2 r147 r150 0 0 0 0 s149 hF h
abbrev F_x11_differs (s o : MS) : Prop := Fr [421, 501] [22, 23, 24, 26, 27, 28] [] [] s o
theorem fr_x11_differs {p0 : Int} {p1 : Int} {p2 : Int} {s : MS} {o : (Int × MS)} (h : m_x11_differs p0 p1 p2 s = some o) : F_x11_differs s o.2 := by
  have hF : F_x11_differs s s := Fr.rf s
  unfold m_x11_differs at h
  have J27 : ∀ (s1 : MS), F_x11_differs s s1 → m_x11_differs_J27 s1 = some o → F_x11_differs s o.2 := by
    intro s1 hF h
    unfold m_x11_differs_J27 at h
    obtain rfl := Option.some.inj h
    exact hF
  obtain ⟨r3, hc2, h⟩ := bn_e h
  obtain ⟨hr4, h⟩ := rg_e h
  by_cases c5 : r3 = 0
  · have h := if_t c5 h
    exact J27 s hF h
  · have h := if_f c5 h
    obtain ⟨r7, hc6, h⟩ := bn_e h
    obtain ⟨hr8, h⟩ := rg_e h
    by_cases c9 : r7 = 0
    · have h := if_t c9 h
      exact J27 s hF h
    · have h := if_f c9 h
      obtain ⟨y10, ey10, iy10, h⟩ := rdI_e h
      obtain ⟨y11, ey11, iy11, h⟩ := rdI_e h
      obtain ⟨⟨r14, s13⟩, hc12, h⟩ := bn_e h
      have hF : F_x11_differs s s13 := Fr.tr hF (fr_x11_unlike hc12) (by decide)
      obtain rfl := Option.some.inj h
      exact hF
abbrev F_x8_become (s o : MS) : Prop := Fr [1060, 1061] [54, 55, 56, 57, 58, 59, 60, 61] [1062] [] s o
theorem fr_x8_become {s : MS} {o : MS} (h : m_x8_become s = some o) : F_x8_become s o := by
  have hF : F_x8_become s s := Fr.rf s
  unfold m_x8_become at h
  obtain ⟨s1, hs1, h⟩ := st_e h
  have hF : F_x8_become s s1 := hs1 ▸ Fr.uI hF (by decide)
  obtain ⟨s2, hs2, h⟩ := st_e h
  have hF : F_x8_become s s2 := hs2 ▸ Fr.uI hF (by decide)
  obtain ⟨s3, hs3, h⟩ := st_e h
  have hF : F_x8_become s s3 := hs3 ▸ Fr.uL hF (by decide)
  obtain ⟨hc4, h⟩ := cpg_e h
  obtain ⟨s5, hs5, h⟩ := st_e h
  have hF : F_x8_become s s5 := hs5 ▸ Fr.uA hF (by decide)
  obtain ⟨hc6, h⟩ := cpg_e h
  obtain ⟨s7, hs7, h⟩ := st_e h
  have hF : F_x8_become s s7 := hs7 ▸ Fr.uA hF (by decide)
  obtain ⟨hc8, h⟩ := cpg_e h
  obtain ⟨s9, hs9, h⟩ := st_e h
  have hF : F_x8_become s s9 := hs9 ▸ Fr.uA hF (by decide)
  obtain ⟨hc10, h⟩ := cpg_e h
  obtain ⟨s11, hs11, h⟩ := st_e h
  have hF : F_x8_become s s11 := hs11 ▸ Fr.uA hF (by decide)
  obtain ⟨hc12, h⟩ := cpg_e h
  obtain ⟨s13, hs13, h⟩ := st_e h
  have hF : F_x8_become s s13 := hs13 ▸ Fr.uA hF (by decide)
  obtain ⟨hc14, h⟩ := cpg_e h
  obtain ⟨s15, hs15, h⟩ := st_e h
  have hF : F_x8_become s s15 := hs15 ▸ Fr.uA hF (by decide)
  obtain ⟨hc16, h⟩ := cpg_e h
  obtain ⟨s17, hs17, h⟩ := st_e h
  have hF : F_x8_become s s17 := hs17 ▸ Fr.uA hF (by decide)
  obtain ⟨hc18, h⟩ := cpg_e h
  obtain ⟨s19, hs19, h⟩ := st_e h
  have hF : F_x8_become s s19 := hs19 ▸ Fr.uA hF (by decide)
  obtain rfl := Option.some.inj h
  exact hF
abbrev F_x8_mark (s o : MS) : Prop := Fr [] [] [1062] [] s o
theorem fr_x8_mark {p0 : Int} {s : MS} {o : MS} (h : m_x8_mark p0 s = some o) : F_x8_mark s o := by
  have hF : F_x8_mark s s := Fr.rf s
  unfold m_x8_mark at h
  obtain ⟨s1, hs1, h⟩ := st_e h
  have hF : F_x8_mark s s1 := hs1 ▸ Fr.uL hF (by decide)
  obtain rfl := Option.some.inj h
  exact hF
abbrev F_x8_insert (s o : MS) : Prop := Fr [] [57, 58, 59] [1062] [] s o
theorem fr_x8_insert {p0 : Int} {p1 : Int} {p2 : Int} {p3 : Int} {s : MS} {o : MS} (h : m_x8_insert p0 p1 p2 p3 s = some o) : F_x8_insert s o := by
  have hF : F_x8_insert s s := Fr.rf s
  unfold m_x8_insert at h
  have L47 : ∀ (n : Nat) (x1 : Int) (x2 : Int) (x3 : Int) (x4 : Int) (x5 : Int) (s6 : MS), F_x8_insert s s6 → m_x8_insert_L47 n x1 x2 x3 x4 x5 s6 = some o → F_x8_insert s o := by
    refine fr_ind (fun x1 x2 x3 x4 x5 s6 hF h => by cases h) ?_
    intro n47 ih47 x1 x2 x3 x4 x5 s6 hF h
    have h : m_x8_insert_b47 (m_x8_insert_L47 n47) x1 x2 x3 x4 x5 s6 = some o := h
    unfold m_x8_insert_b47 at h
    obtain ⟨hr7, h⟩ := rg_e h
    obtain ⟨hr8, h⟩ := rg_e h
    by_cases c9 : x5 ≤ x4
    · have h := if_t c9 h
      obtain ⟨hi10, h⟩ := inb_e h
      obtain ⟨s11, hs11, h⟩ := st_e h
      have hF : F_x8_insert s s11 := hs11 ▸ Fr.uA hF (by decide)
      obtain ⟨hi12, h⟩ := inb_e h
      obtain ⟨s13, hs13, h⟩ := st_e h
      have hF : F_x8_insert s s13 := hs13 ▸ Fr.uA hF (by decide)
      obtain ⟨y14, ey14, iy14, h⟩ := rdI_e h
      obtain ⟨hi15, h⟩ := inb_e h
      obtain ⟨s16, hs16, h⟩ := st_e h
      have hF : F_x8_insert s s16 := hs16 ▸ Fr.uA hF (by decide)
      obtain ⟨s18, hc17, h⟩ := bn_e h
      have hF : F_x8_insert s s18 := Fr.tr hF (fr_x8_mark hc17) (by decide)
      obtain rfl := Option.some.inj h
      exact hF
    · have h := if_f c9 h
      obtain ⟨y19, ey19, iy19, h⟩ := rdI_e h
      obtain ⟨hi20, h⟩ := inb_e h
      obtain ⟨s21, hs21, h⟩ := st_e h
      have hF : F_x8_insert s s21 := hs21 ▸ Fr.uA hF (by decide)
      obtain ⟨y22, ey22, iy22, h⟩ := rdI_e h
      obtain ⟨hi23, h⟩ := inb_e h
      obtain ⟨s24, hs24, h⟩ := st_e h
      have hF : F_x8_insert s s24 := hs24 ▸ Fr.uA hF (by decide)
      exact ih47 x1 x2 x3 x4 (x5 + (-1)) s24 hF h
  have J25 : ∀ (s25 : MS), F_x8_insert s s25 → m_x8_insert_J25 s25 = some o → F_x8_insert s o := by
    intro s25 hF h
    unfold m_x8_insert_J25 at h
    obtain rfl := Option.some.inj h
    exact hF
  obtain ⟨hr26, h⟩ := rg_e h
  by_cases c27 : p1 < 0
  · have h := if_t c27 h
    exact J25 s hF h
  · have h := if_f c27 h
    obtain ⟨y28, ey28, iy28, h⟩ := rdI_e h
    obtain ⟨hr29, h⟩ := rg_e h
    obtain ⟨hr30, h⟩ := rg_e h
    by_cases c31 : y28 < p1
    · have h := if_t c31 h
      exact J25 s hF h
    · have h := if_f c31 h
      obtain ⟨y32, ey32, iy32, h⟩ := rdI_e h
      obtain ⟨hr33, h⟩ := rg_e h
      by_cases c34 : y32 < 6
      · have h := if_t c34 h
        obtain ⟨r36, hc35, h⟩ := bn_e h
        obtain ⟨y37, ey37, iy37, h⟩ := rdI_e h
        obtain ⟨r39, hc38, h⟩ := bn_e h
        exact L47 FU p0 p2 p3 r36 r39 s hF h
      · have h := if_f c34 h
        exact J25 s hF h
abbrev F_x8_set (s o : MS) : Prop := Fr [] [59] [1062] [] s o
theorem fr_x8_set {p0 : Int} {p1 : Int} {p2 : Int} {s : MS} {o : MS} (h : m_x8_set p0 p1 p2 s = some o) : F_x8_set s o := by
  have hF : F_x8_set s s := Fr.rf s
  unfold m_x8_set at h
  have J32 : ∀ (s1 : MS), F_x8_set s s1 → m_x8_set_J32 s1 = some o → F_x8_set s o := by
    intro s1 hF h
    unfold m_x8_set_J32 at h
    obtain rfl := Option.some.inj h
    exact hF
  obtain ⟨r3, hc2, h⟩ := bn_e h
  obtain ⟨y4, ey4, iy4, h⟩ := rdI_e h
  obtain ⟨hr5, h⟩ := rg_e h
  obtain ⟨hr6, h⟩ := rg_e h
  by_cases c7 : y4 = p2
  · have h := if_t c7 h
    exact J32 s hF h
  · have h := if_f c7 h
    obtain ⟨hi8, h⟩ := inb_e h
    obtain ⟨s9, hs9, h⟩ := st_e h
    have hF : F_x8_set s s9 := hs9 ▸ Fr.uA hF (by decide)
    obtain ⟨s11, hc10, h⟩ := bn_e h
    have hF : F_x8_set s s11 := Fr.tr hF (fr_x8_mark hc10) (by decide)
    exact J32 s11 hF h
abbrev F_x1_plantLow (s o : MS) : Prop := Fr [] [57, 58, 59] [1062] [] s o
theorem fr_x1_plantLow {p0 : Int} {p1 : Int} {p2 : Int} {s : MS} {o : MS} (h : m_x1_plantLow p0 p1 p2 s = some o) : F_x1_plantLow s o := by
  have hF : F_x1_plantLow s s := Fr.rf s
  unfold m_x1_plantLow at h
  have L35 : ∀ (n : Nat) (x1 : Int) (x2 : Int) (x3 : Int) (x4 : Int) (x5 : Int) (s6 : MS), F_x1_plantLow s s6 → m_x1_plantLow_L35 n x1 x2 x3 x4 x5 s6 = some o → F_x1_plantLow s o := by
    refine fr_ind (fun x1 x2 x3 x4 x5 s6 hF h => by cases h) ?_
    intro n35 ih35 x1 x2 x3 x4 x5 s6 hF h
    have h : m_x1_plantLow_b35 (m_x1_plantLow_L35 n35) x1 x2 x3 x4 x5 s6 = some o := h
    unfold m_x1_plantLow_b35 at h
    have J78 : ∀ (x7 : Int) (x8 : Int) (x9 : Int) (x10 : Int) (x11 : Int) (x12 : Int) (s13 : MS), F_x1_plantLow s s13 → m_x1_plantLow_J78 (m_x1_plantLow_L35 n35) x7 x8 x9 x10 x11 x12 s13 = some o → F_x1_plantLow s o := by
      intro x7 x8 x9 x10 x11 x12 s13 hF h
      unfold m_x1_plantLow_J78 at h
      exact ih35 x7 x8 x9 (x12 + x11) (x10 + 1) s13 hF h
    obtain ⟨y14, ey14, iy14, h⟩ := rdI_e h
    obtain ⟨hr15, h⟩ := rg_e h
    obtain ⟨hr16, h⟩ := rg_e h
    by_cases c17 : y14 ≤ x5
    · have h := if_t c17 h
      obtain ⟨s19, hc18, h⟩ := bn_e h
      have hF : F_x1_plantLow s s19 := Fr.tr hF (fr_x8_insert hc18) (by decide)
      obtain rfl := Option.some.inj h
      exact hF
    · have h := if_f c17 h
      obtain ⟨r21, hc20, h⟩ := bn_e h
      obtain ⟨y22, ey22, iy22, h⟩ := rdI_e h
      obtain ⟨hr23, h⟩ := rg_e h
      obtain ⟨hr24, h⟩ := rg_e h
      by_cases c25 : x2 ≤ y22
      · have h := if_t c25 h
        exact J78 x1 x2 x3 x5 0 x4 s6 hF h
      · have h := if_f c25 h
        exact J78 x1 x2 x3 x5 1 x4 s6 hF h
  obtain ⟨r27, hc26, h⟩ := bn_e h
  obtain ⟨hr28, h⟩ := rg_e h
  by_cases c29 : r27 = (-1)
  · have h := if_t c29 h
    exact L35 FU p0 p1 p2 0 0 s hF h
  · have h := if_f c29 h
    obtain ⟨s31, hc30, h⟩ := bn_e h
    have hF : F_x1_plantLow s s31 := Fr.tr hF (fr_x8_set hc30) (by decide)
    obtain rfl := Option.some.inj h
    exact hF
abbrev F_x1_release_v2 (s o : MS) : Prop := Fr [] [50, 54] [] [] s o
theorem fr_x1_release_v2 {p0 : Int} {s : MS} {o : (Int × MS)} (h : m_x1_release_v2 p0 s = some o) : F_x1_release_v2 s o.2 := by
  have hF : F_x1_release_v2 s s := Fr.rf s
  unfold m_x1_release_v2 at h
  have J160 : ∀ (x1 : Int) (s2 : MS), F_x1_release_v2 s s2 → m_x1_release_v2_J160 x1 s2 = some o → F_x1_release_v2 s o.2 := by
    intro x1 s2 hF h
    unfold m_x1_release_v2_J160 at h
    obtain rfl := Option.some.inj h
    exact hF
  have L28 : ∀ (n : Nat) (x3 : Int) (x4 : Int) (s5 : MS), F_x1_release_v2 s s5 → m_x1_release_v2_L28 n x3 x4 s5 = some o → F_x1_release_v2 s o.2 := by
    refine fr_ind (fun x3 x4 s5 hF h => by cases h) ?_
    intro n28 ih28 x3 x4 s5 hF h
    have h : m_x1_release_v2_b28 (m_x1_release_v2_L28 n28) x3 x4 s5 = some o := h
    unfold m_x1_release_v2_b28 at h
    have L83 : ∀ (n : Nat) (x6 : Int) (x7 : Int) (x8 : Int) (x9 : Int) (s10 : MS), F_x1_release_v2 s s10 → m_x1_release_v2_L83 (m_x1_release_v2_L28 n28) n x6 x7 x8 x9 s10 = some o → F_x1_release_v2 s o.2 := by
      refine fr_ind (fun x6 x7 x8 x9 s10 hF h => by cases h) ?_
      intro n83 ih83 x6 x7 x8 x9 s10 hF h
      have h : m_x1_release_v2_b83 (m_x1_release_v2_L28 n28) (m_x1_release_v2_L83 (m_x1_release_v2_L28 n28) n83) x6 x7 x8 x9 s10 = some o := h
      unfold m_x1_release_v2_b83 at h
      have J148 : ∀ (x11 : Int) (x12 : Int) (x13 : Int) (x14 : Int) (s15 : MS), F_x1_release_v2 s s15 → m_x1_release_v2_J148 (m_x1_release_v2_L28 n28) (m_x1_release_v2_L83 (m_x1_release_v2_L28 n28) n83) x11 x12 x13 x14 s15 = some o → F_x1_release_v2 s o.2 := by
        intro x11 x12 x13 x14 s15 hF h
        unfold m_x1_release_v2_J148 at h
        exact ih83 x11 x12 x13 (x14 + 1) s15 hF h
      obtain ⟨hr16, h⟩ := rg_e h
      obtain ⟨hr17, h⟩ := rg_e h
      by_cases c18 : x8 ≤ x9
      · have h := if_t c18 h
        exact ih28 x6 (x7 + 1) s10 hF h
      · have h := if_f c18 h
        obtain ⟨y19, ey19, iy19, h⟩ := rdI_e h
        obtain ⟨r21, hc20, h⟩ := bn_e h
        obtain ⟨y22, ey22, iy22, h⟩ := rdI_e h
        obtain ⟨y23, ey23, iy23, h⟩ := rdI_e h
        obtain ⟨hi24, h⟩ := inb_e h
        obtain ⟨s25, hs25, h⟩ := st_e h
        have hF : F_x1_release_v2 s s25 := hs25 ▸ Fr.uA hF (by decide)
        obtain ⟨y26, ey26, iy26, h⟩ := rdI_e h
        obtain ⟨hr27, h⟩ := rg_e h
        by_cases c28 : y26 = 0
        · have h := if_t c28 h
          obtain ⟨hr29, h⟩ := rg_e h
          by_cases c30 : 48 ≤ x6
          · have h := if_t c30 h
            exact J148 x6 x7 x8 x9 s25 hF h
          · have h := if_f c30 h
            obtain ⟨hi31, h⟩ := inb_e h
            obtain ⟨s32, hs32, h⟩ := st_e h
            have hF : F_x1_release_v2 s s32 := hs32 ▸ Fr.uA hF (by decide)
            exact J148 (x6 + 1) x7 x8 x9 s32 hF h
        · have h := if_f c28 h
          exact J148 x6 x7 x8 x9 s25 hF h
    have J78 : ∀ (x33 : Int) (x34 : Int) (x35 : Int) (s36 : MS), F_x1_release_v2 s s36 → m_x1_release_v2_J78 (m_x1_release_v2_L28 n28) x33 x34 x35 s36 = some o → F_x1_release_v2 s o.2 := by
      intro x33 x34 x35 s36 hF h
      unfold m_x1_release_v2_J78 at h
      exact L83 FU x33 x34 x35 0 s36 hF h
    obtain ⟨hr37, h⟩ := rg_e h
    obtain ⟨hr38, h⟩ := rg_e h
    by_cases c39 : x3 ≤ x4
    · have h := if_t c39 h
      exact J160 x3 s5 hF h
    · have h := if_f c39 h
      obtain ⟨hr40, h⟩ := rg_e h
      by_cases c41 : 48 ≤ x4
      · have h := if_t c41 h
        exact J160 x3 s5 hF h
      · have h := if_f c41 h
        obtain ⟨y42, ey42, iy42, h⟩ := rdI_e h
        obtain ⟨y43, ey43, iy43, h⟩ := rdI_e h
        obtain ⟨hr44, h⟩ := rg_e h
        by_cases c45 : y43 ≤ 0
        · have h := if_t c45 h
          exact J78 x3 x4 0 s5 hF h
        · have h := if_f c45 h
          obtain ⟨y46, ey46, iy46, h⟩ := rdI_e h
          obtain ⟨y47, ey47, iy47, h⟩ := rdI_e h
          exact J78 x3 x4 y47 s5 hF h
  have J25 : ∀ (x48 : Int) (s49 : MS), F_x1_release_v2 s s49 → m_x1_release_v2_J25 x48 s49 = some o → F_x1_release_v2 s o.2 := by
    intro x48 s49 hF h
    unfold m_x1_release_v2_J25 at h
    exact L28 FU x48 0 s49 hF h
  obtain ⟨y50, ey50, iy50, h⟩ := rdI_e h
  obtain ⟨hi51, h⟩ := inb_e h
  obtain ⟨s52, hs52, h⟩ := st_e h
  have hF : F_x1_release_v2 s s52 := hs52 ▸ Fr.uA hF (by decide)
  obtain ⟨y53, ey53, iy53, h⟩ := rdI_e h
  obtain ⟨hr54, h⟩ := rg_e h
  by_cases c55 : y53 = 0
  · have h := if_t c55 h
    obtain ⟨hi56, h⟩ := inb_e h
    obtain ⟨s57, hs57, h⟩ := st_e h
    have hF : F_x1_release_v2 s s57 := hs57 ▸ Fr.uA hF (by decide)
    exact J25 1 s57 hF h
  · have h := if_f c55 h
    exact J25 0 s52 hF h
abbrev F_x3_pop (s o : MS) : Prop := Fr [1601] [] [] [] s o
theorem fr_x3_pop {s : MS} {o : (Int × MS)} (h : m_x3_pop s = some o) : F_x3_pop s o.2 := by
  have hF : F_x3_pop s s := Fr.rf s
  unfold m_x3_pop at h
  obtain ⟨hr1, h⟩ := rg_e h
  by_cases c2 : 0 < (gI s 1601)
  · have h := if_t c2 h
    obtain ⟨s3, hs3, h⟩ := st_e h
    have hF : F_x3_pop s s3 := hs3 ▸ Fr.uI hF (by decide)
    obtain ⟨y4, ey4, iy4, h⟩ := rdI_e h
    obtain rfl := Option.some.inj h
    exact hF
  · have h := if_f c2 h
    obtain rfl := Option.some.inj h
    exact hF
abbrev F_x3_push (s o : MS) : Prop := Fr [1601] [81] [] [] s o
theorem fr_x3_push {p0 : Int} {s : MS} {o : MS} (h : m_x3_push p0 s = some o) : F_x3_push s o := by
  have hF : F_x3_push s s := Fr.rf s
  unfold m_x3_push at h
  have J29 : ∀ (s1 : MS), F_x3_push s s1 → m_x3_push_J29 s1 = some o → F_x3_push s o := by
    intro s1 hF h
    unfold m_x3_push_J29 at h
    obtain rfl := Option.some.inj h
    exact hF
  obtain ⟨hr2, h⟩ := rg_e h
  by_cases c3 : 64 ≤ (gI s 1601)
  · have h := if_t c3 h
    exact J29 s hF h
  · have h := if_f c3 h
    obtain ⟨hi4, h⟩ := inb_e h
    obtain ⟨s5, hs5, h⟩ := st_e h
    have hF : F_x3_push s s5 := hs5 ▸ Fr.uA hF (by decide)
    obtain ⟨s6, hs6, h⟩ := st_e h
    have hF : F_x3_push s s6 := hs6 ▸ Fr.uI hF (by decide)
    exact J29 s6 hF h
abbrev F_x3_value (s o : MS) : Prop := Fr [1601] [81] [] [] s o
theorem fr_x3_value {p1 : Int} {p2 : Int} {s : MS} {o : (Int × MS)} (h : m_x3_value p1 p2 s = some o) : F_x3_value s o.2 := by
  have hF : F_x3_value s s := Fr.rf s
  unfold m_x3_value at h
  have J125 : ∀ (s1 : MS), F_x3_value s s1 → m_x3_value_J125 s1 = some o → F_x3_value s o.2 := by
    intro s1 hF h
    unfold m_x3_value_J125 at h
    obtain ⟨⟨r4, s3⟩, hc2, h⟩ := bn_e h
    have hF : F_x3_value s s3 := Fr.tr hF (fr_x3_pop hc2) (by decide)
    obtain rfl := Option.some.inj h
    exact hF
  have L8 : ∀ (n : Nat) (x5 : Int) (x6 : Int) (s7 : MS), F_x3_value s s7 → m_x3_value_L8 n x5 x6 s7 = some o → F_x3_value s o.2 := by
    refine fr_ind (fun x5 x6 s7 hF h => by cases h) ?_
    intro n8 ih8 x5 x6 s7 hF h
    have h : m_x3_value_b8 (m_x3_value_L8 n8) x5 x6 s7 = some o := h
    unfold m_x3_value_b8 at h
    have J119 : ∀ (x8 : Int) (x9 : Int) (s10 : MS), F_x3_value s s10 → m_x3_value_J119 (m_x3_value_L8 n8) x8 x9 s10 = some o → F_x3_value s o.2 := by
      intro x8 x9 s10 hF h
      unfold m_x3_value_J119 at h
      exact ih8 x8 (x9 + 1) s10 hF h
    obtain ⟨hr11, h⟩ := rg_e h
    by_cases c12 : x6 < 0
    · have h := if_t c12 h
      exact J125 s7 hF h
    · have h := if_f c12 h
      obtain ⟨hr13, h⟩ := rg_e h
      obtain ⟨hr14, h⟩ := rg_e h
      by_cases c15 : x5 ≤ x6
      · have h := if_t c15 h
        exact J125 s7 hF h
      · have h := if_f c15 h
        obtain ⟨hr16, h⟩ := rg_e h
        obtain ⟨hr17, h⟩ := rg_e h
        by_cases c18 : (gI s7 741) ≤ x6
        · have h := if_t c18 h
          exact J125 s7 hF h
        · have h := if_f c18 h
          obtain ⟨y19, ey19, iy19, h⟩ := rdI_e h
          obtain ⟨hr20, h⟩ := rg_e h
          by_cases c21 : y19 < 0
          · have h := if_t c21 h
            obtain ⟨hr22, h⟩ := rg_e h
            by_cases c23 : (-100) < y19
            · have h := if_t c23 h
              obtain ⟨hr24, h⟩ := rg_e h
              by_cases c25 : (-12) < y19
              · have h := if_t c25 h
                obtain ⟨⟨r28, s27⟩, hc26, h⟩ := bn_e h
                have hF : F_x3_value s s27 := Fr.tr hF (fr_x3_pop hc26) (by decide)
                obtain ⟨⟨r31, s30⟩, hc29, h⟩ := bn_e h
                have hF : F_x3_value s s30 := Fr.tr hF (fr_x3_pop hc29) (by decide)
                obtain ⟨r33, hc32, h⟩ := bn_e h
                obtain ⟨s35, hc34, h⟩ := bn_e h
                have hF : F_x3_value s s35 := Fr.tr hF (fr_x3_push hc34) (by decide)
                exact J119 x5 x6 s35 hF h
              · have h := if_f c25 h
                obtain ⟨⟨r38, s37⟩, hc36, h⟩ := bn_e h
                have hF : F_x3_value s s37 := Fr.tr hF (fr_x3_pop hc36) (by decide)
                obtain ⟨r40, hc39, h⟩ := bn_e h
                obtain ⟨s42, hc41, h⟩ := bn_e h
                have hF : F_x3_value s s42 := Fr.tr hF (fr_x3_push hc41) (by decide)
                exact J119 x5 x6 s42 hF h
            · have h := if_f c23 h
              obtain ⟨r44, hc43, h⟩ := bn_e h
              obtain ⟨s46, hc45, h⟩ := bn_e h
              have hF : F_x3_value s s46 := Fr.tr hF (fr_x3_push hc45) (by decide)
              exact J119 x5 x6 s46 hF h
          · have h := if_f c21 h
            obtain ⟨s48, hc47, h⟩ := bn_e h
            have hF : F_x3_value s s48 := Fr.tr hF (fr_x3_push hc47) (by decide)
            exact J119 x5 x6 s48 hF h
  obtain ⟨s49, hs49, h⟩ := st_e h
  have hF : F_x3_value s s49 := hs49 ▸ Fr.uI hF (by decide)
  exact L8 FU p2 p1 s49 hF h
abbrev F_x1_take (s o : MS) : Prop := Fr [1601, 1602, 1603, 1604] [54, 56, 57, 81] [1062] [] s o
theorem fr_x1_take {p0 : Int} {p1 : Int} {s : MS} {o : (Int × MS)} (h : m_x1_take p0 p1 s = some o) : F_x1_take s o.2 := by
  have hF : F_x1_take s s := Fr.rf s
  unfold m_x1_take at h
  have J189 : ∀ (x1 : Int) (s2 : MS), F_x1_take s s2 → m_x1_take_J189 x1 s2 = some o → F_x1_take s o.2 := by
    intro x1 s2 hF h
    unfold m_x1_take_J189 at h
    obtain rfl := Option.some.inj h
    exact hF
  have L44 : ∀ (n : Nat) (x3 : Int) (x4 : Int) (x5 : Int) (x6 : Int) (x7 : Int) (s8 : MS), F_x1_take s s8 → m_x1_take_L44 n x3 x4 x5 x6 x7 s8 = some o → F_x1_take s o.2 := by
    refine fr_ind (fun x3 x4 x5 x6 x7 s8 hF h => by cases h) ?_
    intro n44 ih44 x3 x4 x5 x6 x7 s8 hF h
    have h : m_x1_take_b44 (m_x1_take_L44 n44) x3 x4 x5 x6 x7 s8 = some o := h
    unfold m_x1_take_b44 at h
    have J140 : ∀ (x9 : Int) (x10 : Int) (x11 : Int) (x12 : Int) (x13 : Int) (s14 : MS), F_x1_take s s14 → m_x1_take_J140 (m_x1_take_L44 n44) x9 x10 x11 x12 x13 s14 = some o → F_x1_take s o.2 := by
      intro x9 x10 x11 x12 x13 s14 hF h
      unfold m_x1_take_J140 at h
      exact ih44 x9 x10 x11 x12 (x13 + 1) s14 hF h
    have J133 : ∀ (x15 : Int) (x16 : Int) (x17 : Int) (x18 : Int) (s19 : MS), F_x1_take s s19 → m_x1_take_J133 (m_x1_take_L44 n44) x15 x16 x17 x18 s19 = some o → F_x1_take s o.2 := by
      intro x15 x16 x17 x18 s19 hF h
      unfold m_x1_take_J133 at h
      exact J140 x15 x17 x18 x16 x17 s19 hF h
    have J119 : ∀ (x20 : Int) (x21 : Int) (x22 : Int) (x23 : Int) (x24 : Int) (x25 : Int) (s26 : MS), F_x1_take s s26 → m_x1_take_J119 (m_x1_take_L44 n44) x20 x21 x22 x23 x24 x25 s26 = some o → F_x1_take s o.2 := by
      intro x20 x21 x22 x23 x24 x25 s26 hF h
      unfold m_x1_take_J119 at h
      obtain ⟨hr27, h⟩ := rg_e h
      by_cases c28 : x21 = (-1)
      · have h := if_t c28 h
        exact J133 x20 x23 x24 x25 s26 hF h
      · have h := if_f c28 h
        obtain ⟨hr29, h⟩ := rg_e h
        obtain ⟨hr30, h⟩ := rg_e h
        by_cases c31 : x22 ≤ x25
        · have h := if_t c31 h
          exact J140 x20 x21 x22 x23 x24 s26 hF h
        · have h := if_f c31 h
          exact J133 x20 x23 x24 x25 s26 hF h
    obtain ⟨hr32, h⟩ := rg_e h
    obtain ⟨hr33, h⟩ := rg_e h
    by_cases c34 : (gI s8 1060) ≤ x7
    · have h := if_t c34 h
      obtain ⟨hr35, h⟩ := rg_e h
      by_cases c36 : x4 = (-1)
      · have h := if_t c36 h
        exact J189 x4 s8 hF h
      · have h := if_f c36 h
        obtain ⟨hi37, h⟩ := inb_e h
        obtain ⟨s38, hs38, h⟩ := st_e h
        have hF : F_x1_take s s38 := hs38 ▸ Fr.uA hF (by decide)
        obtain ⟨hi39, h⟩ := inb_e h
        obtain ⟨s40, hs40, h⟩ := st_e h
        have hF : F_x1_take s s40 := hs40 ▸ Fr.uA hF (by decide)
        obtain ⟨hi41, h⟩ := inb_e h
        obtain ⟨s42, hs42, h⟩ := st_e h
        have hF : F_x1_take s s42 := hs42 ▸ Fr.uA hF (by decide)
        obtain ⟨s44, hc43, h⟩ := bn_e h
        have hF : F_x1_take s s44 := Fr.tr hF (fr_x8_mark hc43) (by decide)
        exact J189 x4 s44 hF h
    · have h := if_f c34 h
      obtain ⟨r46, hc45, h⟩ := bn_e h
      obtain ⟨hr47, h⟩ := rg_e h
      by_cases c48 : r46 = 0
      · have h := if_t c48 h
        exact J140 x3 x4 x5 x6 x7 s8 hF h
      · have h := if_f c48 h
        obtain ⟨s49, hs49, h⟩ := st_e h
        have hF : F_x1_take s s49 := hs49 ▸ Fr.uI hF (by decide)
        obtain ⟨hr50, h⟩ := rg_e h
        by_cases c51 : x6 = 0
        · have h := if_t c51 h
          exact J119 x3 x4 x5 x6 x7 x7 s49 hF h
        · have h := if_f c51 h
          obtain ⟨y52, ey52, iy52, h⟩ := rdI_e h
          obtain ⟨y53, ey53, iy53, h⟩ := rdI_e h
          obtain ⟨⟨r56, s55⟩, hc54, h⟩ := bn_e h
          have hF : F_x1_take s s55 := Fr.tr hF (fr_x3_value hc54) (by decide)
          exact J119 x3 x4 x5 x6 x7 r56 s55 hF h
  have J23 : ∀ (x57 : Int) (x58 : Int) (x59 : Int) (x60 : Int) (x61 : Int) (s62 : MS), F_x1_take s s62 → m_x1_take_J23 x57 x58 x59 x60 x61 s62 = some o → F_x1_take s o.2 := by
    intro x57 x58 x59 x60 x61 s62 hF h
    unfold m_x1_take_J23 at h
    obtain ⟨s63, hs63, h⟩ := st_e h
    have hF : F_x1_take s s63 := hs63 ▸ Fr.uI hF (by decide)
    obtain ⟨s64, hs64, h⟩ := st_e h
    have hF : F_x1_take s s64 := hs64 ▸ Fr.uI hF (by decide)
    exact L44 FU x57 x59 x60 x61 0 s64 hF h
  obtain ⟨y65, ey65, iy65, h⟩ := rdI_e h
  obtain ⟨hr66, h⟩ := rg_e h
  by_cases c67 : y65 = (-1)
  · have h := if_t c67 h
    exact J23 p0 p1 (-1) 0 0 s hF h
  · have h := if_f c67 h
    exact J23 p0 p1 (-1) 0 1 s hF h
abbrev F_x1_layEntries (s o : MS) : Prop := Fr [] [57, 58, 59] [] [] s o
theorem fr_x1_layEntries {p0 : Int} {p1 : Int} {p2 : Int} {s : MS} {o : MS} (h : m_x1_layEntries p0 p1 p2 s = some o) : F_x1_layEntries s o := by
  have hF : F_x1_layEntries s s := Fr.rf s
  unfold m_x1_layEntries at h
  obtain ⟨y1, ey1, iy1, h⟩ := rdI_e h
  obtain ⟨r3, hc2, h⟩ := bn_e h
  obtain ⟨r5, hc4, h⟩ := bn_e h
  obtain ⟨hc6, h⟩ := cpg_e h
  obtain ⟨s7, hs7, h⟩ := st_e h
  have hF : F_x1_layEntries s s7 := hs7 ▸ Fr.uA hF (by decide)
  obtain ⟨r9, hc8, h⟩ := bn_e h
  obtain ⟨r11, hc10, h⟩ := bn_e h
  obtain ⟨hc12, h⟩ := cpg_e h
  obtain ⟨s13, hs13, h⟩ := st_e h
  have hF : F_x1_layEntries s s13 := hs13 ▸ Fr.uA hF (by decide)
  obtain ⟨hi14, h⟩ := inb_e h
  obtain ⟨s15, hs15, h⟩ := st_e h
  have hF : F_x1_layEntries s s15 := hs15 ▸ Fr.uA hF (by decide)
  obtain rfl := Option.some.inj h
  exact hF
abbrev F_x1_owned (s o : MS) : Prop := Fr [1601, 1602, 1603, 1604] [50, 54, 56, 57, 58, 59, 81] [1062] [] s o
theorem fr_x1_owned {p0 : Int} {s : MS} {o : (Int × MS)} (h : m_x1_owned p0 s = some o) : F_x1_owned s o.2 := by
  have hF : F_x1_owned s s := Fr.rf s
  unfold m_x1_owned at h
  have J117 : ∀ (x1 : Int) (x2 : Int) (s3 : MS), F_x1_owned s s3 → m_x1_owned_J117 x1 x2 s3 = some o → F_x1_owned s o.2 := by
    intro x1 x2 s3 hF h
    unfold m_x1_owned_J117 at h
    obtain ⟨⟨r6, s5⟩, hc4, h⟩ := bn_e h
    have hF : F_x1_owned s s5 := Fr.tr hF (fr_x1_release_v2 hc4) (by decide)
    obtain rfl := Option.some.inj h
    exact hF
  have L69 : ∀ (n : Nat) (x7 : Int) (x8 : Int) (x9 : Int) (s10 : MS), F_x1_owned s s10 → m_x1_owned_L69 n x7 x8 x9 s10 = some o → F_x1_owned s o.2 := by
    refine fr_ind (fun x7 x8 x9 s10 hF h => by cases h) ?_
    intro n69 ih69 x7 x8 x9 s10 hF h
    have h : m_x1_owned_b69 (m_x1_owned_L69 n69) x7 x8 x9 s10 = some o := h
    unfold m_x1_owned_b69 at h
    obtain ⟨y11, ey11, iy11, h⟩ := rdI_e h
    obtain ⟨hr12, h⟩ := rg_e h
    obtain ⟨hr13, h⟩ := rg_e h
    by_cases c14 : y11 ≤ x9
    · have h := if_t c14 h
      exact J117 x7 x8 s10 hF h
    · have h := if_f c14 h
      obtain ⟨r16, hc15, h⟩ := bn_e h
      obtain ⟨y17, ey17, iy17, h⟩ := rdI_e h
      obtain ⟨y18, ey18, iy18, h⟩ := rdI_e h
      obtain ⟨hi19, h⟩ := inb_e h
      obtain ⟨s20, hs20, h⟩ := st_e h
      have hF : F_x1_owned s s20 := hs20 ▸ Fr.uA hF (by decide)
      exact ih69 x7 x8 (x9 + 1) s20 hF h
  have J26 : ∀ (x21 : Int) (s22 : MS), F_x1_owned s s22 → m_x1_owned_J26 x21 s22 = some o → F_x1_owned s o.2 := by
    intro x21 s22 hF h
    unfold m_x1_owned_J26 at h
    obtain ⟨y23, ey23, iy23, h⟩ := rdI_e h
    obtain ⟨⟨r26, s25⟩, hc24, h⟩ := bn_e h
    have hF : F_x1_owned s s25 := Fr.tr hF (fr_x1_take hc24) (by decide)
    obtain ⟨hr27, h⟩ := rg_e h
    by_cases c28 : r26 = (-1)
    · have h := if_t c28 h
      obtain rfl := Option.some.inj h
      exact hF
    · have h := if_f c28 h
      obtain ⟨s30, hc29, h⟩ := bn_e h
      have hF : F_x1_owned s s30 := Fr.tr hF (fr_x1_layEntries hc29) (by decide)
      obtain ⟨y31, ey31, iy31, h⟩ := rdI_e h
      obtain ⟨hr32, h⟩ := rg_e h
      by_cases c33 : y31 ≤ 0
      · have h := if_t c33 h
        exact J117 x21 r26 s30 hF h
      · have h := if_f c33 h
        exact L69 FU x21 r26 0 s30 hF h
  obtain ⟨r35, hc34, h⟩ := bn_e h
  obtain ⟨hr36, h⟩ := rg_e h
  by_cases c37 : r35 = 0
  · have h := if_t c37 h
    exact J26 p0 s hF h
  · have h := if_f c37 h
    obtain ⟨y38, ey38, iy38, h⟩ := rdI_e h
    obtain ⟨hr39, h⟩ := rg_e h
    by_cases c40 : y38 = 1
    · have h := if_t c40 h
      obtain rfl := Option.some.inj h
      exact hF
    · have h := if_f c40 h
      exact J26 p0 s hF h
abbrev F_x1_splits (s o : MS) : Prop := Fr [1601, 1604, 1605] [81] [] [] s o
theorem fr_x1_splits {p0 : Int} {s : MS} {o : (Int × MS)} (h : m_x1_splits p0 s = some o) : F_x1_splits s o.2 := by
  have hF : F_x1_splits s s := Fr.rf s
  unfold m_x1_splits at h
  have J121 : ∀ (x1 : Int) (s2 : MS), F_x1_splits s s2 → m_x1_splits_J121 x1 s2 = some o → F_x1_splits s o.2 := by
    intro x1 s2 hF h
    unfold m_x1_splits_J121 at h
    obtain ⟨hb3, h⟩ := bo_e h
    obtain rfl := Option.some.inj h
    exact hF
  have J47 : ∀ (s4 : MS), F_x1_splits s s4 → m_x1_splits_J47 s4 = some o → F_x1_splits s o.2 := by
    intro s4 hF h
    unfold m_x1_splits_J47 at h
    obtain rfl := Option.some.inj h
    exact hF
  obtain ⟨y5, ey5, iy5, h⟩ := rdI_e h
  obtain ⟨hr6, h⟩ := rg_e h
  obtain ⟨hr7, h⟩ := rg_e h
  by_cases c8 : y5 < (gI s 581)
  · have h := if_t c8 h
    obtain ⟨y9, ey9, iy9, h⟩ := rdI_e h
    obtain ⟨hr10, h⟩ := rg_e h
    by_cases c11 : y9 < 2
    · have h := if_t c11 h
      exact J47 s hF h
    · have h := if_f c11 h
      obtain ⟨y12, ey12, iy12, h⟩ := rdI_e h
      obtain ⟨hr13, h⟩ := rg_e h
      by_cases c14 : y12 = (-1)
      · have h := if_t c14 h
        exact J47 s hF h
      · have h := if_f c14 h
        obtain ⟨y15, ey15, iy15, h⟩ := rdI_e h
        obtain ⟨s16, hs16, h⟩ := st_e h
        have hF : F_x1_splits s s16 := hs16 ▸ Fr.uI hF (by decide)
        obtain ⟨y17, ey17, iy17, h⟩ := rdI_e h
        obtain ⟨s18, hs18, h⟩ := st_e h
        have hF : F_x1_splits s s18 := hs18 ▸ Fr.uI hF (by decide)
        obtain ⟨y19, ey19, iy19, h⟩ := rdI_e h
        obtain ⟨y20, ey20, iy20, h⟩ := rdI_e h
        obtain ⟨⟨r23, s22⟩, hc21, h⟩ := bn_e h
        have hF : F_x1_splits s s22 := Fr.tr hF (fr_x3_value hc21) (by decide)
        obtain ⟨hr24, h⟩ := rg_e h
        by_cases c25 : r23 = 0
        · have h := if_t c25 h
          exact J121 0 s22 hF h
        · have h := if_f c25 h
          exact J121 1 s22 hF h
  · have h := if_f c8 h
    obtain rfl := Option.some.inj h
    exact hF
abbrev F_x1_split (s o : MS) : Prop := Fr [1601, 1602, 1603, 1604] [54, 56, 57, 58, 59, 81] [1062] [] s o
theorem fr_x1_split {p0 : Int} {p1 : Int} {p2 : Int} {p3 : Int} {s : MS} {o : (Int × MS)} (h : m_x1_split p0 p1 p2 p3 s = some o) : F_x1_split s o.2 := by
  have hF : F_x1_split s s := Fr.rf s
  unfold m_x1_split at h
  have J123 : ∀ (x1 : Int) (s2 : MS), F_x1_split s s2 → m_x1_split_J123 x1 s2 = some o → F_x1_split s o.2 := by
    intro x1 s2 hF h
    unfold m_x1_split_J123 at h
    obtain rfl := Option.some.inj h
    exact hF
  obtain ⟨y3, ey3, iy3, h⟩ := rdI_e h
  obtain ⟨⟨r6, s5⟩, hc4, h⟩ := bn_e h
  have hF : F_x1_split s s5 := Fr.tr hF (fr_x1_take hc4) (by decide)
  obtain ⟨hr7, h⟩ := rg_e h
  by_cases c8 : r6 = (-1)
  · have h := if_t c8 h
    obtain rfl := Option.some.inj h
    exact hF
  · have h := if_f c8 h
    obtain ⟨y9, ey9, iy9, h⟩ := rdI_e h
    obtain ⟨y10, ey10, iy10, h⟩ := rdI_e h
    obtain ⟨hn11, h⟩ := dv_e h
    obtain ⟨s13, hc12, h⟩ := bn_e h
    have hF : F_x1_split s s13 := Fr.tr hF (fr_x1_layEntries hc12) (by decide)
    obtain ⟨hi14, h⟩ := inb_e h
    obtain ⟨s15, hs15, h⟩ := st_e h
    have hF : F_x1_split s s15 := hs15 ▸ Fr.uA hF (by decide)
    obtain ⟨s17, hc16, h⟩ := bn_e h
    have hF : F_x1_split s s17 := Fr.tr hF (fr_x8_mark hc16) (by decide)
    obtain ⟨r19, hc18, h⟩ := bn_e h
    obtain ⟨y20, ey20, iy20, h⟩ := rdI_e h
    obtain ⟨s22, hc21, h⟩ := bn_e h
    have hF : F_x1_split s s22 := Fr.tr hF (fr_x8_insert hc21) (by decide)
    obtain ⟨hr23, h⟩ := rg_e h
    obtain ⟨hr24, h⟩ := rg_e h
    by_cases c25 : p3 < y20
    · have h := if_t c25 h
      exact J123 p2 s22 hF h
    · have h := if_f c25 h
      exact J123 r6 s22 hF h
abbrev F_x1_raiseRoot (s o : MS) : Prop := Fr [1601, 1602, 1603, 1604] [54, 56, 57, 58, 59, 60, 81] [1062] [] s o
theorem fr_x1_raiseRoot {p0 : Int} {s : MS} {o : (Int × MS)} (h : m_x1_raiseRoot p0 s = some o) : F_x1_raiseRoot s o.2 := by
  have hF : F_x1_raiseRoot s s := Fr.rf s
  unfold m_x1_raiseRoot at h
  have J69 : ∀ (x1 : Int) (s2 : MS), F_x1_raiseRoot s s2 → m_x1_raiseRoot_J69 x1 s2 = some o → F_x1_raiseRoot s o.2 := by
    intro x1 s2 hF h
    unfold m_x1_raiseRoot_J69 at h
    obtain rfl := Option.some.inj h
    exact hF
  obtain ⟨y3, ey3, iy3, h⟩ := rdI_e h
  obtain ⟨y4, ey4, iy4, h⟩ := rdI_e h
  obtain ⟨⟨r7, s6⟩, hc5, h⟩ := bn_e h
  have hF : F_x1_raiseRoot s s6 := Fr.tr hF (fr_x1_take hc5) (by decide)
  obtain ⟨hr8, h⟩ := rg_e h
  by_cases c9 : r7 = (-1)
  · have h := if_t c9 h
    exact J69 r7 s6 hF h
  · have h := if_f c9 h
    obtain ⟨r11, hc10, h⟩ := bn_e h
    obtain ⟨y12, ey12, iy12, h⟩ := rdI_e h
    obtain ⟨s14, hc13, h⟩ := bn_e h
    have hF : F_x1_raiseRoot s s14 := Fr.tr hF (fr_x8_insert hc13) (by decide)
    obtain ⟨hi15, h⟩ := inb_e h
    obtain ⟨s16, hs16, h⟩ := st_e h
    have hF : F_x1_raiseRoot s s16 := hs16 ▸ Fr.uA hF (by decide)
    exact J69 r7 s16 hF h
abbrev F_x1_plant (s o : MS) : Prop := Fr [1601, 1602, 1603, 1604, 1605] [50, 54, 56, 57, 58, 59, 60, 81] [1062] [] s o
theorem fr_x1_plant {p0 : Int} {p1 : Int} {p2 : Int} {s : MS} {o : (Int × MS)} (h : m_x1_plant p0 p1 p2 s = some o) : F_x1_plant s o.2 := by
  have hF : F_x1_plant s s := Fr.rf s
  unfold m_x1_plant at h
  have J219 : ∀ (x1 : Int) (x2 : Int) (x3 : Int) (s4 : MS), F_x1_plant s s4 → m_x1_plant_J219 x1 x2 x3 s4 = some o → F_x1_plant s o.2 := by
    intro x1 x2 x3 s4 hF h
    unfold m_x1_plant_J219 at h
    obtain ⟨hr5, h⟩ := rg_e h
    by_cases c6 : x3 = (-1)
    · have h := if_t c6 h
      obtain rfl := Option.some.inj h
      exact hF
    · have h := if_f c6 h
      obtain ⟨s8, hc7, h⟩ := bn_e h
      have hF : F_x1_plant s s8 := Fr.tr hF (fr_x1_plantLow hc7) (by decide)
      obtain rfl := Option.some.inj h
      exact hF
  have L117 : ∀ (n : Nat) (x9 : Int) (x10 : Int) (x11 : Int) (x12 : Int) (s13 : MS), F_x1_plant s s13 → m_x1_plant_L117 n x9 x10 x11 x12 s13 = some o → F_x1_plant s o.2 := by
    refine fr_ind (fun x9 x10 x11 x12 s13 hF h => by cases h) ?_
    intro n117 ih117 x9 x10 x11 x12 s13 hF h
    have h : m_x1_plant_b117 (m_x1_plant_L117 n117) x9 x10 x11 x12 s13 = some o := h
    unfold m_x1_plant_b117 at h
    have J211 : ∀ (x14 : Int) (x15 : Int) (x16 : Int) (x17 : Int) (s18 : MS), F_x1_plant s s18 → m_x1_plant_J211 (m_x1_plant_L117 n117) x14 x15 x16 x17 s18 = some o → F_x1_plant s o.2 := by
      intro x14 x15 x16 x17 s18 hF h
      unfold m_x1_plant_J211 at h
      exact ih117 x14 x15 x17 (x16 + (-1)) s18 hF h
    obtain ⟨hr19, h⟩ := rg_e h
    by_cases c20 : x12 ≤ 0
    · have h := if_t c20 h
      exact J219 x9 x10 x11 s13 hF h
    · have h := if_f c20 h
      obtain ⟨hr21, h⟩ := rg_e h
      by_cases c22 : x11 = (-1)
      · have h := if_t c22 h
        exact J219 x9 x10 x11 s13 hF h
      · have h := if_f c22 h
        obtain ⟨r24, hc23, h⟩ := bn_e h
        obtain ⟨r26, hc25, h⟩ := bn_e h
        obtain ⟨y27, ey27, iy27, h⟩ := rdI_e h
        obtain ⟨⟨r30, s29⟩, hc28, h⟩ := bn_e h
        have hF : F_x1_plant s s29 := Fr.tr hF (fr_x1_owned hc28) (by decide)
        obtain ⟨hr31, h⟩ := rg_e h
        by_cases c32 : r30 = (-1)
        · have h := if_t c32 h
          obtain rfl := Option.some.inj h
          exact hF
        · have h := if_f c32 h
          obtain ⟨s34, hc33, h⟩ := bn_e h
          have hF : F_x1_plant s s34 := Fr.tr hF (fr_x8_set hc33) (by decide)
          obtain ⟨⟨r37, s36⟩, hc35, h⟩ := bn_e h
          have hF : F_x1_plant s s36 := Fr.tr hF (fr_x1_splits hc35) (by decide)
          obtain ⟨hr38, h⟩ := rg_e h
          by_cases c39 : r37 = 0
          · have h := if_t c39 h
            exact J211 x9 x10 x12 r30 s36 hF h
          · have h := if_f c39 h
            obtain ⟨⟨r42, s41⟩, hc40, h⟩ := bn_e h
            have hF : F_x1_plant s s41 := Fr.tr hF (fr_x1_split hc40) (by decide)
            exact J211 x9 x10 x12 r42 s41 hF h
  have J115 : ∀ (x43 : Int) (x44 : Int) (x45 : Int) (x46 : Int) (s47 : MS), F_x1_plant s s47 → m_x1_plant_J115 x43 x44 x45 x46 s47 = some o → F_x1_plant s o.2 := by
    intro x43 x44 x45 x46 s47 hF h
    unfold m_x1_plant_J115 at h
    exact L117 FU x43 x44 x45 x46 s47 hF h
  have J95 : ∀ (x48 : Int) (x49 : Int) (x50 : Int) (s51 : MS), F_x1_plant s s51 → m_x1_plant_J95 x48 x49 x50 s51 = some o → F_x1_plant s o.2 := by
    intro x48 x49 x50 s51 hF h
    unfold m_x1_plant_J95 at h
    obtain ⟨hr52, h⟩ := rg_e h
    by_cases c53 : x50 = (-1)
    · have h := if_t c53 h
      exact J115 x48 x49 x50 0 s51 hF h
    · have h := if_f c53 h
      obtain ⟨y54, ey54, iy54, h⟩ := rdI_e h
      exact J115 x48 x49 x50 y54 s51 hF h
  have J93 : ∀ (x55 : Int) (x56 : Int) (x57 : Int) (s58 : MS), F_x1_plant s s58 → m_x1_plant_J93 x55 x56 x57 s58 = some o → F_x1_plant s o.2 := by
    intro x55 x56 x57 s58 hF h
    unfold m_x1_plant_J93 at h
    exact J95 x55 x56 x57 s58 hF h
  have J36 : ∀ (x59 : Int) (x60 : Int) (x61 : Int) (x62 : Int) (s63 : MS), F_x1_plant s s63 → m_x1_plant_J36 x59 x60 x61 x62 s63 = some o → F_x1_plant s o.2 := by
    intro x59 x60 x61 x62 s63 hF h
    unfold m_x1_plant_J36 at h
    obtain ⟨hr64, h⟩ := rg_e h
    by_cases c65 : x62 = (-1)
    · have h := if_t c65 h
      obtain rfl := Option.some.inj h
      exact hF
    · have h := if_f c65 h
      obtain ⟨hi66, h⟩ := inb_e h
      obtain ⟨s67, hs67, h⟩ := st_e h
      have hF : F_x1_plant s s67 := hs67 ▸ Fr.uA hF (by decide)
      obtain ⟨⟨r70, s69⟩, hc68, h⟩ := bn_e h
      have hF : F_x1_plant s s69 := Fr.tr hF (fr_x1_splits hc68) (by decide)
      obtain ⟨hr71, h⟩ := rg_e h
      by_cases c72 : r70 = 0
      · have h := if_t c72 h
        exact J95 x60 x61 x62 s69 hF h
      · have h := if_f c72 h
        obtain ⟨⟨r75, s74⟩, hc73, h⟩ := bn_e h
        have hF : F_x1_plant s s74 := Fr.tr hF (fr_x1_raiseRoot hc73) (by decide)
        obtain ⟨hr76, h⟩ := rg_e h
        by_cases c77 : r75 = (-1)
        · have h := if_t c77 h
          exact J93 x60 x61 (-1) s74 hF h
        · have h := if_f c77 h
          obtain ⟨⟨r80, s79⟩, hc78, h⟩ := bn_e h
          have hF : F_x1_plant s s79 := Fr.tr hF (fr_x1_split hc78) (by decide)
          exact J93 x60 x61 r80 s79 hF h
  obtain ⟨y81, ey81, iy81, h⟩ := rdI_e h
  obtain ⟨hr82, h⟩ := rg_e h
  by_cases c83 : y81 = (-1)
  · have h := if_t c83 h
    obtain ⟨⟨r90, s89⟩, hc88, h⟩ := bn_e h
    have hF : F_x1_plant s s89 := Fr.tr hF (fr_x1_take hc88) (by decide)
    exact J36 p0 p1 p2 r90 s89 hF h
  · have h := if_f c83 h
    obtain ⟨y84, ey84, iy84, h⟩ := rdI_e h
    obtain ⟨⟨r87, s86⟩, hc85, h⟩ := bn_e h
    have hF : F_x1_plant s s86 := Fr.tr hF (fr_x1_owned hc85) (by decide)
    exact J36 p0 p1 p2 r87 s86 hF h
abbrev F_x8_become_v2 (s o : MS) : Prop := Fr [1240, 1241] [63, 64, 65, 66, 67, 68, 69, 70] [1242] [] s o
theorem fr_x8_become_v2 {s : MS} {o : MS} (h : m_x8_become_v2 s = some o) : F_x8_become_v2 s o := by
  have hF : F_x8_become_v2 s s := Fr.rf s
  unfold m_x8_become_v2 at h
  obtain ⟨s1, hs1, h⟩ := st_e h
  have hF : F_x8_become_v2 s s1 := hs1 ▸ Fr.uI hF (by decide)
  obtain ⟨s2, hs2, h⟩ := st_e h
  have hF : F_x8_become_v2 s s2 := hs2 ▸ Fr.uI hF (by decide)
  obtain ⟨s3, hs3, h⟩ := st_e h
  have hF : F_x8_become_v2 s s3 := hs3 ▸ Fr.uL hF (by decide)
  obtain ⟨hc4, h⟩ := cpg_e h
  obtain ⟨s5, hs5, h⟩ := st_e h
  have hF : F_x8_become_v2 s s5 := hs5 ▸ Fr.uA hF (by decide)
  obtain ⟨hc6, h⟩ := cpg_e h
  obtain ⟨s7, hs7, h⟩ := st_e h
  have hF : F_x8_become_v2 s s7 := hs7 ▸ Fr.uA hF (by decide)
  obtain ⟨hc8, h⟩ := cpg_e h
  obtain ⟨s9, hs9, h⟩ := st_e h
  have hF : F_x8_become_v2 s s9 := hs9 ▸ Fr.uA hF (by decide)
  obtain ⟨hc10, h⟩ := cpg_e h
  obtain ⟨s11, hs11, h⟩ := st_e h
  have hF : F_x8_become_v2 s s11 := hs11 ▸ Fr.uA hF (by decide)
  obtain ⟨hc12, h⟩ := cpg_e h
  obtain ⟨s13, hs13, h⟩ := st_e h
  have hF : F_x8_become_v2 s s13 := hs13 ▸ Fr.uA hF (by decide)
  obtain ⟨hc14, h⟩ := cpg_e h
  obtain ⟨s15, hs15, h⟩ := st_e h
  have hF : F_x8_become_v2 s s15 := hs15 ▸ Fr.uA hF (by decide)
  obtain ⟨hc16, h⟩ := cpg_e h
  obtain ⟨s17, hs17, h⟩ := st_e h
  have hF : F_x8_become_v2 s s17 := hs17 ▸ Fr.uA hF (by decide)
  obtain ⟨hc18, h⟩ := cpg_e h
  obtain ⟨s19, hs19, h⟩ := st_e h
  have hF : F_x8_become_v2 s s19 := hs19 ▸ Fr.uA hF (by decide)
  obtain rfl := Option.some.inj h
  exact hF
abbrev F_x1_begin (s o : MS) : Prop := Fr [1240, 1241] [63, 64, 65, 66, 67, 68, 69, 70] [1062, 1242] [] s o
theorem fr_x1_begin {s : MS} {o : MS} (h : m_x1_begin s = some o) : F_x1_begin s o := by
  have hF : F_x1_begin s s := Fr.rf s
  unfold m_x1_begin at h
  obtain ⟨s2, hc1, h⟩ := bn_e h
  have hF : F_x1_begin s s2 := Fr.tr hF (fr_x8_become_v2 hc1) (by decide)
  obtain ⟨s3, hs3, h⟩ := st_e h
  have hF : F_x1_begin s s3 := hs3 ▸ Fr.uL hF (by decide)
  obtain rfl := Option.some.inj h
  exact hF
abbrev F_x1_rehearse (s o : MS) : Prop := Fr [1240, 1241, 1601, 1602, 1603, 1604, 1605] [50, 54, 56, 57, 58, 59, 60, 63, 64, 65, 66, 67, 68, 69, 70, 81] [1062, 1242] [] s o
theorem fr_x1_rehearse {p0 : Int} {p1 : Int} {s : MS} {o : (Int × MS)} (h : m_x1_rehearse p0 p1 s = some o) : F_x1_rehearse s o.2 := by
  have hF : F_x1_rehearse s s := Fr.rf s
  unfold m_x1_rehearse at h
  have J29 : ∀ (x1 : Int) (x2 : Int) (x3 : Int) (s4 : MS), F_x1_rehearse s s4 → m_x1_rehearse_J29 x1 x2 x3 s4 = some o → F_x1_rehearse s o.2 := by
    intro x1 x2 x3 s4 hF h
    unfold m_x1_rehearse_J29 at h
    obtain ⟨⟨r7, s6⟩, hc5, h⟩ := bn_e h
    have hF : F_x1_rehearse s s6 := Fr.tr hF (fr_x1_plant hc5) (by decide)
    obtain ⟨hb8, h⟩ := bo_e h
    obtain rfl := Option.some.inj h
    exact hF
  obtain ⟨s10, hc9, h⟩ := bn_e h
  have hF : F_x1_rehearse s s10 := Fr.tr hF (fr_x1_begin hc9) (by decide)
  obtain ⟨y11, ey11, iy11, h⟩ := rdI_e h
  obtain ⟨r13, hc12, h⟩ := bn_e h
  obtain ⟨hr14, h⟩ := rg_e h
  by_cases c15 : r13 = 0
  · have h := if_t c15 h
    exact J29 p0 p1 1 s10 hF h
  · have h := if_f c15 h
    exact J29 p0 p1 0 s10 hF h
abbrev F_x1_costOf (s o : MS) : Prop := Fr [1601, 1602, 1604, 1605] [81] [] [] s o
theorem fr_x1_costOf {p0 : Int} {s : MS} {o : (Int × MS)} (h : m_x1_costOf p0 s = some o) : F_x1_costOf s o.2 := by
  have hF : F_x1_costOf s s := Fr.rf s
  unfold m_x1_costOf at h
  obtain ⟨y1, ey1, iy1, h⟩ := rdI_e h
  obtain ⟨hr2, h⟩ := rg_e h
  by_cases c3 : y1 = (-1)
  · have h := if_t c3 h
    obtain rfl := Option.some.inj h
    exact hF
  · have h := if_f c3 h
    obtain ⟨s4, hs4, h⟩ := st_e h
    have hF : F_x1_costOf s s4 := hs4 ▸ Fr.uI hF (by decide)
    obtain ⟨y5, ey5, iy5, h⟩ := rdI_e h
    obtain ⟨s6, hs6, h⟩ := st_e h
    have hF : F_x1_costOf s s6 := hs6 ▸ Fr.uI hF (by decide)
    obtain ⟨y7, ey7, iy7, h⟩ := rdI_e h
    obtain ⟨s8, hs8, h⟩ := st_e h
    have hF : F_x1_costOf s s8 := hs8 ▸ Fr.uI hF (by decide)
    obtain ⟨y9, ey9, iy9, h⟩ := rdI_e h
    obtain ⟨y10, ey10, iy10, h⟩ := rdI_e h
    obtain ⟨⟨r13, s12⟩, hc11, h⟩ := bn_e h
    have hF : F_x1_costOf s s12 := Fr.tr hF (fr_x3_value hc11) (by decide)
    obtain rfl := Option.some.inj h
    exact hF
abbrev F_x1_price (s o : MS) : Prop := Fr [1601, 1602, 1604, 1605] [81] [] [] s o
theorem fr_x1_price {s : MS} {o : (Int × MS)} (h : m_x1_price s = some o) : F_x1_price s o.2 := by
  have hF : F_x1_price s s := Fr.rf s
  unfold m_x1_price at h
  have L4 : ∀ (n : Nat) (x1 : Int) (x2 : Int) (s3 : MS), F_x1_price s s3 → m_x1_price_L4 n x1 x2 s3 = some o → F_x1_price s o.2 := by
    refine fr_ind (fun x1 x2 s3 hF h => by cases h) ?_
    intro n4 ih4 x1 x2 s3 hF h
    have h : m_x1_price_b4 (m_x1_price_L4 n4) x1 x2 s3 = some o := h
    unfold m_x1_price_b4 at h
    have J42 : ∀ (x4 : Int) (x5 : Int) (x6 : Int) (s7 : MS), F_x1_price s s7 → m_x1_price_J42 (m_x1_price_L4 n4) x4 x5 x6 s7 = some o → F_x1_price s o.2 := by
      intro x4 x5 x6 s7 hF h
      unfold m_x1_price_J42 at h
      exact ih4 (x6 + x5) (x4 + 1) s7 hF h
    obtain ⟨hr8, h⟩ := rg_e h
    obtain ⟨hr9, h⟩ := rg_e h
    by_cases c10 : (gI s3 1060) ≤ x2
    · have h := if_t c10 h
      obtain rfl := Option.some.inj h
      exact hF
    · have h := if_f c10 h
      obtain ⟨r12, hc11, h⟩ := bn_e h
      obtain ⟨hr13, h⟩ := rg_e h
      by_cases c14 : r12 = 0
      · have h := if_t c14 h
        exact J42 x2 0 x1 s3 hF h
      · have h := if_f c14 h
        obtain ⟨⟨r17, s16⟩, hc15, h⟩ := bn_e h
        have hF : F_x1_price s s16 := Fr.tr hF (fr_x1_costOf hc15) (by decide)
        obtain ⟨hr18, h⟩ := rg_e h
        obtain ⟨hr19, h⟩ := rg_e h
        exact J42 x2 (maxZ 0 (minZ 99 r17)) x1 s16 hF h
  exact L4 FU 0 0 s hF h
abbrev F_x1_wouldCost (s o : MS) : Prop := Fr [1060, 1061, 1240, 1241, 1601, 1602, 1603, 1604, 1605] [50, 54, 55, 56, 57, 58, 59, 60, 61, 63, 64, 65, 66, 67, 68, 69, 70, 81] [1062, 1242] [] s o
theorem fr_x1_wouldCost {p0 : Int} {p1 : Int} {s : MS} {o : (Int × MS)} (h : m_x1_wouldCost p0 p1 s = some o) : F_x1_wouldCost s o.2 := by
  have hF : F_x1_wouldCost s s := Fr.rf s
  unfold m_x1_wouldCost at h
  have J19 : ∀ (x1 : Int) (s2 : MS), F_x1_wouldCost s s2 → m_x1_wouldCost_J19 x1 s2 = some o → F_x1_wouldCost s o.2 := by
    intro x1 s2 hF h
    unfold m_x1_wouldCost_J19 at h
    obtain ⟨s4, hc3, h⟩ := bn_e h
    have hF : F_x1_wouldCost s s4 := Fr.tr hF (fr_x8_become hc3) (by decide)
    obtain rfl := Option.some.inj h
    exact hF
  obtain ⟨⟨r7, s6⟩, hc5, h⟩ := bn_e h
  have hF : F_x1_wouldCost s s6 := Fr.tr hF (fr_x1_rehearse hc5) (by decide)
  obtain ⟨hr8, h⟩ := rg_e h
  by_cases c9 : r7 = 0
  · have h := if_t c9 h
    exact J19 (-1) s6 hF h
  · have h := if_f c9 h
    obtain ⟨⟨r12, s11⟩, hc10, h⟩ := bn_e h
    have hF : F_x1_wouldCost s s11 := Fr.tr hF (fr_x1_price hc10) (by decide)
    exact J19 r12 s11 hF h
abbrev F_x1_wouldWrite (s o : MS) : Prop := Fr [1060, 1061, 1240, 1241, 1601, 1602, 1603, 1604, 1605] [50, 54, 55, 56, 57, 58, 59, 60, 61, 63, 64, 65, 66, 67, 68, 69, 70, 81] [1062, 1242] [] s o
theorem fr_x1_wouldWrite {p0 : Int} {p1 : Int} {s : MS} {o : (Int × MS)} (h : m_x1_wouldWrite p0 p1 s = some o) : F_x1_wouldWrite s o.2 := by
  have hF : F_x1_wouldWrite s s := Fr.rf s
  unfold m_x1_wouldWrite at h
  have J19 : ∀ (x1 : Int) (s2 : MS), F_x1_wouldWrite s s2 → m_x1_wouldWrite_J19 x1 s2 = some o → F_x1_wouldWrite s o.2 := by
    intro x1 s2 hF h
    unfold m_x1_wouldWrite_J19 at h
    obtain ⟨s4, hc3, h⟩ := bn_e h
    have hF : F_x1_wouldWrite s s4 := Fr.tr hF (fr_x8_become hc3) (by decide)
    obtain rfl := Option.some.inj h
    exact hF
  obtain ⟨⟨r7, s6⟩, hc5, h⟩ := bn_e h
  have hF : F_x1_wouldWrite s s6 := Fr.tr hF (fr_x1_rehearse hc5) (by decide)
  obtain ⟨hr8, h⟩ := rg_e h
  by_cases c9 : r7 = 0
  · have h := if_t c9 h
    exact J19 (-1) s6 hF h
  · have h := if_f c9 h
    obtain ⟨r11, hc10, h⟩ := bn_e h
    exact J19 r11 s6 hF h
