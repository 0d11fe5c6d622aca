/-! ===== both readers: words, numbers, signs ===== -/
abbrev isL (c : Int) : Prop := 97 ≤ c ∧ c ≤ 122
abbrev isD (c : Int) : Prop := 48 ≤ c ∧ c ≤ 57
abbrev isB (c : Int) : Prop := c = 10 ∨ c = 32
/-- the words, joined -/
def w6l : List Int := 98 :: 108 :: 111 :: 99 :: 107 :: 115 :: 32 :: 114 :: 111 :: 111 :: 109 :: 32 :: 118 :: 111 :: 108 :: 117 :: 109 :: 101 :: 32 :: 99 :: 108 :: 111 :: 110 :: 101 :: 32 :: 111 :: 102 :: 32 :: 112 :: 117 :: 116 :: 32 :: 114 :: 101 :: 109 :: 111 :: 118 :: 101 :: 32 :: 112 :: 105 :: 99 :: 107 :: 115 :: 32 :: 115 :: 112 :: 108 :: 105 :: 116 :: 115 :: 32 :: 99 :: 111 :: 115 :: 116 :: 115 :: 32 :: 99 :: 104 :: 117 :: 114 :: 110 :: 32 :: 98 :: 108 :: 111 :: 99 :: 107 :: 32 :: 102 :: 114 :: 111 :: 109 :: 32 :: 108 :: 101 :: 118 :: 101 :: 108 :: 32 :: 101 :: 110 :: 116 :: 114 :: 105 :: 101 :: 115 :: 32 :: 110 :: 117 :: 109 :: 98 :: 101 :: 114 :: 32 :: 99 :: 111 :: 117 :: 110 :: 116 :: 32 :: 102 :: 114 :: 101 :: 115 :: 104 :: 32 :: 115 :: 97 :: 118 :: 101 :: 100 :: 32 :: 114 :: 101 :: 102 :: 115 :: 32 :: 107 :: 101 :: 121 :: 32 :: 111 :: 114 :: 32 :: 97 :: 110 :: 100 :: 32 :: 110 :: 111 :: 116 :: 32 :: 97 :: 108 :: 108 :: 32 :: 109 :: 105 :: 110 :: 32 :: 109 :: 97 :: 120 :: 32 :: 102 :: 105 :: 114 :: 115 :: 116 :: 32 :: 108 :: 97 :: 115 :: 116 :: 32 :: 111 :: 102 :: 116 :: 101 :: 110 :: 32 :: 116 :: 111 :: 116 :: 97 :: 108 :: 32 :: 109 :: 111 :: 115 :: 116 :: 32 :: 108 :: 101 :: 97 :: 115 :: 116 :: []
def w6 (j : Nat) : Int := w6l.getD j 0
def wll : List Nat := 6 :: 4 :: 6 :: 5 :: 2 :: 3 :: 6 :: 5 :: 6 :: 5 :: 5 :: 5 :: 4 :: 5 :: 7 :: 6 :: 5 :: 5 :: 5 :: 4 :: 3 :: 2 :: 3 :: 3 :: 3 :: 3 :: 3 :: 5 :: 4 :: 5 :: 5 :: 4 :: 5 :: []
def wol : List Nat := 0 :: 7 :: 12 :: 19 :: 25 :: 28 :: 32 :: 39 :: 45 :: 52 :: 58 :: 64 :: 70 :: 75 :: 81 :: 89 :: 96 :: 102 :: 108 :: 114 :: 119 :: 123 :: 126 :: 130 :: 134 :: 138 :: 142 :: 146 :: 152 :: 157 :: 163 :: 169 :: 174 :: []
def wl (w : Nat) : Nat := wll.getD w 0
def woJ (w : Nat) : Nat := wol.getD w 0
def wc (w j : Nat) : Int := w6 (woJ w + j)
set_option maxRecDepth 20000 in
theorem w_no : ∀ w, w < 33 → ∀ j, j < wl w → wc w j ≠ 32 := by decide +kernel
set_option maxRecDepth 20000 in
theorem w_sp : ∀ w, w < 32 → w6 (woJ w + wl w) = 32 ∧ woJ (w + 1) = woJ w + wl w + 1 := by decide +kernel
theorem w_end : woJ 32 + wl 32 = 179 ∧ woJ 0 = 0 := by decide +kernel
set_option maxRecDepth 20000 in
theorem w_lt : ∀ w, w < 33 → woJ w + wl w ≤ 179 ∧ 1 ≤ wl w ∧ wl w ≤ 7 := by decide +kernel
set_option maxRecDepth 20000 in
theorem w_ne : ∀ v, v < 33 → ∀ w, w < 33 → v ≠ w → ¬ (wl v = wl w ∧ ∀ j, j < wl w → wc v j = wc w j) := by decide +kernel
/-- a run of one kind, from a on, ends at b -/
def Ru (L : Int → Prop) (f : Nat → Int) (n a b : Int) : Prop := (a ≤ b ∧ b ≤ n) ∧ (∀ j : Nat, a ≤ (j : Int) → (j : Int) < b → L (f j)) ∧ (b < n → ¬ L (f b.toNat))
theorem Ru_u {L : Int → Prop} {f : Nat → Int} {n a b c : Int} (ha : 0 ≤ a) (h : Ru L f n a b) (g : Ru L f n a c) : b = c := by
  have h1 := h.1
  have g1 := g.1
  by_cases z : b < c
  · have q := g.2.1 b.toNat (by omega) (by omega)
    exact absurd q (h.2.2 (by omega))
  · by_cases y : c < b
    · have q := h.2.1 c.toNat (by omega) (by omega)
      exact absurd q (g.2.2 (by omega))
    · omega
theorem Ru_c {L : Int → Prop} {f g : Nat → Int} {n a b : Int} (ha : 0 ≤ a) (h : Ru L f n a b) (e : ∀ j : Nat, (j : Int) < n → g j = f j) : Ru L g n a b := by
  have h1 := h.1
  exact ⟨h1, fun j h2 h3 => by rw [e j (by omega)]; exact h.2.1 j h2 h3, fun h2 => by rw [e _ (by omega)]; exact h.2.2 h2⟩
/-- the word from a to b -/
def WM (f : Nat → Int) (a b : Int) (w : Nat) : Prop := b - a = (wl w : Int) ∧ ∀ j : Nat, j < wl w → f (a.toNat + j) = wc w j
theorem WM_u {f : Nat → Int} {a b : Int} {v w : Nat} (hv : v < 33) (hw : w < 33) (h : WM f a b v) (g : WM f a b w) : v = w := by
  by_cases z : v = w
  · exact z
  · have h1 := h.1
    have g1 := g.1
    exact absurd ⟨by omega, fun j hj => by rw [← g.2 j hj]; exact (h.2 j (by omega)).symm⟩ (w_ne v hv w hw z)
/-- no blank ahead, and a letter or digit there -/
def GLU (f : Nat → Int) (a : Int) : Prop := 0 < a ∧ (isL (f (a - 1).toNat) ∨ isD (f (a - 1).toNat))
/-- of the kind k, or glued -/
def KG (s : MS) (k : Int) : Prop := (GLU (gA s 4) (gI s 108) ∧ gI s 107 = 4) ∨ (¬ GLU (gA s 4) (gI s 108) ∧ gI s 107 = k)
/-- what the class's reader has at hand -/
def TK (s : MS) : Prop := ((0 ≤ gI s 108 ∧ gI s 108 ≤ gI s 61) ∧ gI s 61 ≤ 1600) ∧ (gI s 108 < gI s 61 → ¬ isB (gA s 4 (gI s 108).toNat)) ∧
  ((gI s 108 = gI s 61 ∧ gI s 107 = 0 ∧ gI s 111 = -1 ∧ gI s 109 = gI s 108) ∨
   (gI s 108 < gI s 61 ∧ gI s 111 = gA s 4 (gI s 108).toNat ∧ gI s 108 < gI s 109 ∧ gI s 109 ≤ gI s 61 ∧
    ((isL (gA s 4 (gI s 108).toNat) ∧ Ru isL (gA s 4) (gI s 61) (gI s 108) (gI s 109) ∧ ((-1) ≤ gI s 110 ∧ gI s 110 ≤ 32 ∧ ∀ w : Nat, w < 33 → (gI s 110 = (w : Int) ↔ WM (gA s 4) (gI s 108) (gI s 109) w)) ∧ KG s 1) ∨
     (isD (gA s 4 (gI s 108).toNat) ∧ Ru isD (gA s 4) (gI s 61) (gI s 108) (gI s 109) ∧ KG s 2) ∨
     (¬ isL (gA s 4 (gI s 108).toNat) ∧ ¬ isD (gA s 4 (gI s 108).toNat) ∧ gI s 109 = gI s 108 + 1 ∧ gI s 107 = 3))))
theorem s_isL {p0 : Int} {s : MS} : pc (m_x6_isLetter p0 s) (fun r => (r = 1 ∧ isL p0) ∨ (r = 0 ∧ ¬ isL p0)) := by
  unfold m_x6_isLetter m_x6_isLetter_J16 m_x6_isLetter_J17
  exact pc_rg (pc_if (fun c => pc_bo (pc_some (Or.inr ⟨rfl, by omega⟩))) (fun c => pc_rg (pc_if (fun c2 => pc_bo (pc_some (Or.inr ⟨rfl, by omega⟩))) (fun c2 => pc_bo (pc_some (Or.inl ⟨rfl, by omega⟩))))))
theorem s_isD {p0 : Int} {s : MS} : pc (m_x6_isDigit p0 s) (fun r => (r = 1 ∧ isD p0) ∨ (r = 0 ∧ ¬ isD p0)) := by
  unfold m_x6_isDigit m_x6_isDigit_J16 m_x6_isDigit_J17
  exact pc_rg (pc_if (fun c => pc_bo (pc_some (Or.inr ⟨rfl, by omega⟩))) (fun c => pc_rg (pc_if (fun c2 => pc_bo (pc_some (Or.inr ⟨rfl, by omega⟩))) (fun c2 => pc_bo (pc_some (Or.inl ⟨rfl, by omega⟩))))))
theorem s_isB {p0 : Int} {s : MS} : pc (m_x6_isBlank p0 s) (fun r => (r = 1 ∧ isB p0) ∨ (r = 0 ∧ ¬ isB p0)) := by
  unfold m_x6_isBlank m_x6_isBlank_J12 m_x6_isBlank_J17
  exact pc_rg (pc_if (fun c => pc_bo (pc_some (Or.inl ⟨rfl, by omega⟩))) (fun c => pc_rg (pc_if (fun c2 => pc_bo (pc_some (Or.inl ⟨rfl, by omega⟩))) (fun c2 => pc_bo (pc_some (Or.inr ⟨rfl, by omega⟩))))))
theorem m_isL {p0 : Int} {s : MS} : pc (m_x12_isLetter p0 s) (fun r => (r = 1 ∧ isL p0) ∨ (r = 0 ∧ ¬ isL p0)) := by
  unfold m_x12_isLetter m_x12_isLetter_J16 m_x12_isLetter_J17
  exact pc_rg (pc_if (fun c => pc_bo (pc_some (Or.inr ⟨rfl, by omega⟩))) (fun c => pc_rg (pc_if (fun c2 => pc_bo (pc_some (Or.inr ⟨rfl, by omega⟩))) (fun c2 => pc_bo (pc_some (Or.inl ⟨rfl, by omega⟩))))))
theorem m_isD {p0 : Int} {s : MS} : pc (m_x12_isDigit p0 s) (fun r => (r = 1 ∧ isD p0) ∨ (r = 0 ∧ ¬ isD p0)) := by
  unfold m_x12_isDigit m_x12_isDigit_J16 m_x12_isDigit_J17
  exact pc_rg (pc_if (fun c => pc_bo (pc_some (Or.inr ⟨rfl, by omega⟩))) (fun c => pc_rg (pc_if (fun c2 => pc_bo (pc_some (Or.inr ⟨rfl, by omega⟩))) (fun c2 => pc_bo (pc_some (Or.inl ⟨rfl, by omega⟩))))))
/-- the byte at k, or -1 -/
theorem s_at {p0 : Int} {s : MS} : pc (m_x9_at p0 s) (fun r => ((0 ≤ p0 ∧ p0 < gI s 61) ∧ r = gA s 4 p0.toNat) ∨ ((p0 < 0 ∨ gI s 61 ≤ p0) ∧ r = -1)) := by
  unfold m_x9_at m_x9_at_J21 m_x9_at_J22
  exact pc_rg (pc_if (fun c => pc_some (Or.inr ⟨Or.inl c, rfl⟩)) (fun c => pc_rg (pc_rg (pc_if (fun c2 => pc_some (Or.inr ⟨Or.inr c2, rfl⟩)) (fun c2 => pc_rdI (fun _ => pc_some (Or.inl ⟨by omega, rfl⟩)))))))
/-- the joined words lie in the class's row -/
def W6 (s : MS) : Prop := ∀ j, j < 179 → gA s 6 j = w6 j
theorem s_word {s : MS} (hW : W6 s) (h0 : 0 ≤ gI s 108) : pc (m_x6_wordNumber s) (fun r => ((-1) ≤ r ∧ r ≤ 32) ∧ ∀ w : Nat, w < 33 → (r = (w : Int) ↔ WM (gA s 4) (gI s 108) (gI s 109) w)) := by
  have L : ∀ (n : Nat) (x2 x3 x4 x5 : Int) (w j : Nat), w < 33 → j ≤ wl w → x2 = (w : Int) → x3 = gI s 108 + (j : Int) → x5 = ((woJ w + j : Nat) : Int) → ((x4 = 1 ∧ ∀ i : Nat, i < j → gI s 108 + (i : Int) < gI s 109 ∧ gA s 4 ((gI s 108).toNat + i) = wc w i) ∨ (x4 = 0 ∧ ¬ WM (gA s 4) (gI s 108) (gI s 109) w)) → (∀ v : Nat, v < w → ¬ WM (gA s 4) (gI s 108) (gI s 109) v) → pc (m_x6_wordNumber_L12 s n x2 x3 x4 x5) (fun r => ((-1) ≤ r ∧ r ≤ 32) ∧ ∀ w : Nat, w < 33 → (r = (w : Int) ↔ WM (gA s 4) (gI s 108) (gI s 109) w)) := by
    refine fr_ind (fun _ _ _ _ _ _ _ _ _ _ _ _ _ => pc_none) (fun n ih x2 x3 x4 x5 w j hw hj e2 e3 e5 h4 hd => ?_)
    show pc (m_x6_wordNumber_b12 s (m_x6_wordNumber_L12 s n) x2 x3 x4 x5) _
    have wlt := w_lt w hw
    have we := w_end
    -- a word that is there is told
    have yes : WM (gA s 4) (gI s 108) (gI s 109) w → ((-1) ≤ x2 ∧ x2 ≤ 32) ∧ ∀ v : Nat, v < 33 → (x2 = (v : Int) ↔ WM (gA s 4) (gI s 108) (gI s 109) v) := fun hm => ⟨by omega, fun v hv => ⟨fun q => by rw [show v = w by omega]; exact hm, fun q => by have := WM_u hv hw q hm; omega⟩⟩
    have no : w = 32 → ¬ WM (gA s 4) (gI s 108) (gI s 109) w → ((-1) ≤ (-1 : Int) ∧ (-1 : Int) ≤ 32) ∧ ∀ v : Nat, v < 33 → ((-1 : Int) = (v : Int) ↔ WM (gA s 4) (gI s 108) (gI s 109) v) := fun e hm => ⟨by omega, fun v hv => ⟨fun q => by omega, fun q => by
      by_cases z : v = w
      · rw [z] at q; exact absurd q hm
      · exact absurd q (hd v (by omega))⟩⟩
    -- at a word's end
    have full : j = wl w → x4 = 1 → x3 = gI s 109 → WM (gA s 4) (gI s 108) (gI s 109) w := fun ej e4 e9 => by
      rcases h4 with ⟨_, h⟩ | ⟨h, _⟩
      · exact ⟨by omega, fun i hi => (h i (by omega)).2⟩
      · omega
    have nofull : j = wl w → (x4 = 0 ∨ x3 ≠ gI s 109) → ¬ WM (gA s 4) (gI s 108) (gI s 109) w := fun ej hz hm => by
      rcases h4 with ⟨g, h⟩ | ⟨_, h⟩
      · have := hm.1
        omega
      · exact h hm
    have x01 : x4 = 0 ∨ x4 = 1 := by
      rcases h4 with h | h
      · exact Or.inr h.1
      · exact Or.inl h.1
    unfold m_x6_wordNumber_b12 m_x6_wordNumber_J123 m_x6_wordNumber_J124
    refine pc_rg (pc_if (fun c => ?_) (fun c => ?_))
    · have e32 : w = 32 := by
        by_cases z : w < 32
        · have a := w_sp w z
          have b := (w_lt (w + 1) (by omega)).1
          omega
        · omega
      rw [e32] at wlt hj e5
      have ej : j = wl w := by rw [e32]; omega
      exact pc_rg (pc_if (fun c2 => pc_some (no e32 (nofull ej (Or.inl c2)))) (fun c2 => pc_rg (pc_rg (pc_if (fun c3 => pc_some (yes (full ej (by omega) c3))) (fun c3 => pc_some (no e32 (nofull ej (Or.inr c3))))))))
    · refine pc_rdI (fun _ => ?_)
      have r6 : gA s 6 x5.toNat = w6 (woJ w + j) := by rw [show x5.toNat = woJ w + j by omega]; exact hW _ (by omega)
      rw [r6]
      have nxt : w < 32 → j = wl w → ¬ WM (gA s 4) (gI s 108) (gI s 109) w → pc (m_x6_wordNumber_J91 s (m_x6_wordNumber_L12 s n) x2 x5) (fun r => ((-1) ≤ r ∧ r ≤ 32) ∧ ∀ w : Nat, w < 33 → (r = (w : Int) ↔ WM (gA s 4) (gI s 108) (gI s 109) w)) := fun hlt ej hm => by
        unfold m_x6_wordNumber_J91 m_x6_wordNumber_J101
        have a := w_sp w hlt
        exact ih (x2 + 1) (gI s 108) 1 (x5 + 1) (w + 1) 0 (by omega) (by omega) (by omega) (by omega) (by omega) (Or.inl ⟨rfl, fun i hi => by omega⟩) (fun v hv => by
          by_cases z : v = w
          · rw [z]; exact hm
          · exact hd v (by omega))
      have stp : ∀ y : Int, ((y = 1 ∧ ∀ i : Nat, i < j + 1 → gI s 108 + (i : Int) < gI s 109 ∧ gA s 4 ((gI s 108).toNat + i) = wc w i) ∨ (y = 0 ∧ ¬ WM (gA s 4) (gI s 108) (gI s 109) w)) → j < wl w → pc (m_x6_wordNumber_J70 s (m_x6_wordNumber_L12 s n) x2 x3 x5 y) (fun r => ((-1) ≤ r ∧ r ≤ 32) ∧ ∀ w : Nat, w < 33 → (r = (w : Int) ↔ WM (gA s 4) (gI s 108) (gI s 109) w)) := fun y hy hlt => by
        unfold m_x6_wordNumber_J70 m_x6_wordNumber_J101
        exact ih x2 (x3 + 1) y (x5 + 1) w (j + 1) hw (by omega) e2 (by omega) (by omega) hy hd
      refine pc_rg (pc_if (fun c2 => ?_) (fun c2 => ?_))
      · have ej : j = wl w := by
          by_cases z : j < wl w
          · exact absurd c2 (w_no w hw j z)
          · omega
        have hlt : w < 32 := by
          by_cases z : w = 32
          · rw [z] at ej e5; omega
          · omega
        refine pc_rg (pc_if (fun c3 => nxt hlt ej (nofull ej (Or.inl c3))) (fun c3 => pc_rg (pc_rg (pc_if (fun c4 => pc_some (yes (full ej (by omega) c4))) (fun c4 => nxt hlt ej (nofull ej (Or.inr c4)))))))
      · have hlt : j < wl w := by
          by_cases z : j = wl w
          · exfalso
            by_cases z2 : w < 32
            · have a := (w_sp w z2).1
              rw [z] at c2
              exact c2 a
            · rw [show w = 32 by omega] at z e5
              omega
          · omega
        have bad : ¬ (gI s 108 + (j : Int) < gI s 109 ∧ gA s 4 ((gI s 108).toNat + j) = wc w j) → ¬ WM (gA s 4) (gI s 108) (gI s 109) w := fun h hm => h ⟨by have := hm.1; omega, hm.2 j hlt⟩
        unfold m_x6_wordNumber_J69
        refine pc_rg (pc_if (fun c3 => stp 0 (Or.inr ⟨rfl, ?_⟩) hlt) (fun c3 => pc_rg (pc_rg (pc_if (fun c4 => stp 0 (Or.inr ⟨rfl, bad (fun q => by omega)⟩) hlt) (fun c4 => pc_rdI (fun _ => pc_rdI (fun _ => pc_rg (pc_rg (pc_if (fun c5 => stp 1 (Or.inl ⟨rfl, fun i hi => ?_⟩) hlt) (fun c5 => stp 0 (Or.inr ⟨rfl, bad (fun q => c5 ?_)⟩) hlt))))))))))
        · rcases h4 with h | h
          · omega
          · exact h.2
        · rcases h4 with ⟨_, h⟩ | ⟨h, _⟩
          · by_cases z : i = j
            · rw [z]
              refine ⟨by omega, ?_⟩
              rw [r6, show x3.toNat = (gI s 108).toNat + j by omega] at c5
              exact c5
            · exact h i (by omega)
          · omega
        · rw [r6, show x3.toNat = (gI s 108).toNat + j by omega]; exact q.2
  unfold m_x6_wordNumber
  exact L FU 0 (gI s 108) 1 0 0 0 (by omega) (by omega) rfl (by omega) (by have := w_end; omega) (Or.inl ⟨rfl, fun i hi => by omega⟩) (fun v hv => by omega)
