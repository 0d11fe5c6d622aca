/-! ===== names on both sides ===== -/
/-- one of the language's own words is at hand -/
def OWN (s : MS) : Prop := gI s 107 = 1 ∧ 0 ≤ gI s 110 ∧ gI s 110 < 27
def NW (s : MS) (w : Nat) : Prop := ∀ v : Nat, v < w → ¬ (gI s 107 = 1 ∧ gI s 110 = (v : Int))
def OWQ (s : MS) (q : Int × MS) : Prop := SY s q.2 ∧ gI q.2 2 = gI s 108 ∧ ((q.1 = 1 ∧ OWN s) ∨ (q.1 = 0 ∧ ¬ OWN s))
theorem own_here {w : Nat} {s t : MS} (h : SY s t) (hw : w < 27) (hN : NW s w) : pc (m_x12_isHere (11 + w) (wl w) t) (fun q => SY s q.2 ∧ gI q.2 2 = gI s 108 ∧ ((q.1 = 1 ∧ OWN s) ∨ (q.1 = 0 ∧ NW s (w + 1)))) := by
  refine pc_mono (y_here h (by omega) rfl (fun j hj => h.2.2.2.2.2.1 w hw j hj)) (fun q hq => ⟨hq.1, hq.2.1, ?_⟩)
  rcases hq.2.2 with ⟨a, b, c⟩ | ⟨a, b⟩
  · exact Or.inl ⟨a, b, by omega, by omega⟩
  · refine Or.inr ⟨a, fun v hv => ?_⟩
    by_cases z : v = w
    · rw [z]; exact b
    · exact hN v (by omega)
theorem NW_own {s : MS} (h : NW s 27) : ¬ OWN s := fun q => h (gI s 110).toNat (by have := q.2; omega) ⟨q.1, by have := q.2; omega⟩
theorem own_y {s : MS} {x : Int} {P : Prop} (h : (x = 1 ∧ OWN s) ∨ (x = 0 ∧ P)) (c : ¬ x = 0) : OWN s := by
  rcases h with q | q
  · exact q.2
  · exact absurd q.1 c
theorem own_n {s : MS} {x : Int} {P : Prop} (h : (x = 1 ∧ OWN s) ∨ (x = 0 ∧ P)) (c : x = 0) : P := by
  rcases h with q | q
  · rw [q.1] at c; cases c
  · exact q.2
theorem ow337 {s S : MS} (h : SY s S) (h2 : gI S 2 = gI s 108) (w : OWN s) : pc (m_x12_isOwnHere_J337 S) (OWQ s) := by
  unfold m_x12_isOwnHere_J337 m_x12_isOwnHere_J342
  exact pc_bo (pc_some ⟨h, h2, Or.inl ⟨rfl, w⟩⟩)
theorem ow299 {x : Int} {s S : MS} (h : SY s S) (h2 : gI S 2 = gI s 108) (hx : (x = 1 ∧ OWN s) ∨ (x = 0 ∧ NW s 24)) : pc (m_x12_isOwnHere_J299 x S) (OWQ s) := by
  unfold m_x12_isOwnHere_J299
  refine pc_rg (pc_if (fun c => ?_) (fun c => ow337 h h2 (own_y hx c)))
  have N := own_n hx c
  refine pc_bq (own_here (w := 24) h (by decide) N) (fun q24 g24 => ?_)
  obtain ⟨r24, S24⟩ := q24
  obtain ⟨a24, b24, c24⟩ := g24
  dsimp only at a24 b24 c24 ⊢
  refine pc_rg (pc_if (fun d24 => ?_) (fun d24 => ow337 a24 b24 (own_y c24 d24)))
  have N24 := own_n c24 d24
  refine pc_bq (own_here (w := 25) a24 (by decide) N24) (fun q25 g25 => ?_)
  obtain ⟨r25, S25⟩ := q25
  obtain ⟨a25, b25, c25⟩ := g25
  dsimp only at a25 b25 c25 ⊢
  refine pc_rg (pc_if (fun d25 => ?_) (fun d25 => ow337 a25 b25 (own_y c25 d25)))
  have N25 := own_n c25 d25
  refine pc_bq (own_here (w := 26) a25 (by decide) N25) (fun q26 g26 => ?_)
  obtain ⟨r26, S26⟩ := q26
  obtain ⟨a26, b26, c26⟩ := g26
  dsimp only at a26 b26 c26 ⊢
  refine pc_rg (pc_if (fun d26 => ?_) (fun d26 => ow337 a26 b26 (own_y c26 d26)))
  have N26 := own_n c26 d26
  exact pc_bo (pc_some ⟨a26, b26, Or.inr ⟨rfl, NW_own N26⟩⟩)
theorem ow294 {s S : MS} (h : SY s S) (h2 : gI S 2 = gI s 108) (w : OWN s) : pc (m_x12_isOwnHere_J294 S) (OWQ s) := ow299 h h2 (Or.inl ⟨rfl, w⟩)
theorem ow223 {x : Int} {s S : MS} (h : SY s S) (h2 : gI S 2 = gI s 108) (hx : (x = 1 ∧ OWN s) ∨ (x = 0 ∧ NW s 18)) : pc (m_x12_isOwnHere_J223 x S) (OWQ s) := by
  unfold m_x12_isOwnHere_J223
  refine pc_rg (pc_if (fun c => ?_) (fun c => ow294 h h2 (own_y hx c)))
  have N := own_n hx c
  refine pc_bq (own_here (w := 18) h (by decide) N) (fun q18 g18 => ?_)
  obtain ⟨r18, S18⟩ := q18
  obtain ⟨a18, b18, c18⟩ := g18
  dsimp only at a18 b18 c18 ⊢
  refine pc_rg (pc_if (fun d18 => ?_) (fun d18 => ow294 a18 b18 (own_y c18 d18)))
  have N18 := own_n c18 d18
  refine pc_bq (own_here (w := 19) a18 (by decide) N18) (fun q19 g19 => ?_)
  obtain ⟨r19, S19⟩ := q19
  obtain ⟨a19, b19, c19⟩ := g19
  dsimp only at a19 b19 c19 ⊢
  refine pc_rg (pc_if (fun d19 => ?_) (fun d19 => ow294 a19 b19 (own_y c19 d19)))
  have N19 := own_n c19 d19
  refine pc_bq (own_here (w := 20) a19 (by decide) N19) (fun q20 g20 => ?_)
  obtain ⟨r20, S20⟩ := q20
  obtain ⟨a20, b20, c20⟩ := g20
  dsimp only at a20 b20 c20 ⊢
  refine pc_rg (pc_if (fun d20 => ?_) (fun d20 => ow294 a20 b20 (own_y c20 d20)))
  have N20 := own_n c20 d20
  refine pc_bq (own_here (w := 21) a20 (by decide) N20) (fun q21 g21 => ?_)
  obtain ⟨r21, S21⟩ := q21
  obtain ⟨a21, b21, c21⟩ := g21
  dsimp only at a21 b21 c21 ⊢
  refine pc_rg (pc_if (fun d21 => ?_) (fun d21 => ow294 a21 b21 (own_y c21 d21)))
  have N21 := own_n c21 d21
  refine pc_bq (own_here (w := 22) a21 (by decide) N21) (fun q22 g22 => ?_)
  obtain ⟨r22, S22⟩ := q22
  obtain ⟨a22, b22, c22⟩ := g22
  dsimp only at a22 b22 c22 ⊢
  refine pc_rg (pc_if (fun d22 => ?_) (fun d22 => ow294 a22 b22 (own_y c22 d22)))
  have N22 := own_n c22 d22
  refine pc_bq (own_here (w := 23) a22 (by decide) N22) (fun q23 g23 => ?_)
  obtain ⟨r23, S23⟩ := q23
  obtain ⟨a23, b23, c23⟩ := g23
  dsimp only at a23 b23 c23 ⊢
  refine pc_rg (pc_if (fun d23 => ?_) (fun d23 => ow294 a23 b23 (own_y c23 d23)))
  have N23 := own_n c23 d23
  exact ow299 a23 b23 (Or.inr ⟨rfl, N23⟩)
theorem ow218 {s S : MS} (h : SY s S) (h2 : gI S 2 = gI s 108) (w : OWN s) : pc (m_x12_isOwnHere_J218 S) (OWQ s) := ow223 h h2 (Or.inl ⟨rfl, w⟩)
theorem ow147 {x : Int} {s S : MS} (h : SY s S) (h2 : gI S 2 = gI s 108) (hx : (x = 1 ∧ OWN s) ∨ (x = 0 ∧ NW s 12)) : pc (m_x12_isOwnHere_J147 x S) (OWQ s) := by
  unfold m_x12_isOwnHere_J147
  refine pc_rg (pc_if (fun c => ?_) (fun c => ow218 h h2 (own_y hx c)))
  have N := own_n hx c
  refine pc_bq (own_here (w := 12) h (by decide) N) (fun q12 g12 => ?_)
  obtain ⟨r12, S12⟩ := q12
  obtain ⟨a12, b12, c12⟩ := g12
  dsimp only at a12 b12 c12 ⊢
  refine pc_rg (pc_if (fun d12 => ?_) (fun d12 => ow218 a12 b12 (own_y c12 d12)))
  have N12 := own_n c12 d12
  refine pc_bq (own_here (w := 13) a12 (by decide) N12) (fun q13 g13 => ?_)
  obtain ⟨r13, S13⟩ := q13
  obtain ⟨a13, b13, c13⟩ := g13
  dsimp only at a13 b13 c13 ⊢
  refine pc_rg (pc_if (fun d13 => ?_) (fun d13 => ow218 a13 b13 (own_y c13 d13)))
  have N13 := own_n c13 d13
  refine pc_bq (own_here (w := 14) a13 (by decide) N13) (fun q14 g14 => ?_)
  obtain ⟨r14, S14⟩ := q14
  obtain ⟨a14, b14, c14⟩ := g14
  dsimp only at a14 b14 c14 ⊢
  refine pc_rg (pc_if (fun d14 => ?_) (fun d14 => ow218 a14 b14 (own_y c14 d14)))
  have N14 := own_n c14 d14
  refine pc_bq (own_here (w := 15) a14 (by decide) N14) (fun q15 g15 => ?_)
  obtain ⟨r15, S15⟩ := q15
  obtain ⟨a15, b15, c15⟩ := g15
  dsimp only at a15 b15 c15 ⊢
  refine pc_rg (pc_if (fun d15 => ?_) (fun d15 => ow218 a15 b15 (own_y c15 d15)))
  have N15 := own_n c15 d15
  refine pc_bq (own_here (w := 16) a15 (by decide) N15) (fun q16 g16 => ?_)
  obtain ⟨r16, S16⟩ := q16
  obtain ⟨a16, b16, c16⟩ := g16
  dsimp only at a16 b16 c16 ⊢
  refine pc_rg (pc_if (fun d16 => ?_) (fun d16 => ow218 a16 b16 (own_y c16 d16)))
  have N16 := own_n c16 d16
  refine pc_bq (own_here (w := 17) a16 (by decide) N16) (fun q17 g17 => ?_)
  obtain ⟨r17, S17⟩ := q17
  obtain ⟨a17, b17, c17⟩ := g17
  dsimp only at a17 b17 c17 ⊢
  refine pc_rg (pc_if (fun d17 => ?_) (fun d17 => ow218 a17 b17 (own_y c17 d17)))
  have N17 := own_n c17 d17
  exact ow223 a17 b17 (Or.inr ⟨rfl, N17⟩)
theorem ow142 {s S : MS} (h : SY s S) (h2 : gI S 2 = gI s 108) (w : OWN s) : pc (m_x12_isOwnHere_J142 S) (OWQ s) := ow147 h h2 (Or.inl ⟨rfl, w⟩)
theorem ow71 {x : Int} {s S : MS} (h : SY s S) (h2 : gI S 2 = gI s 108) (hx : (x = 1 ∧ OWN s) ∨ (x = 0 ∧ NW s 6)) : pc (m_x12_isOwnHere_J71 x S) (OWQ s) := by
  unfold m_x12_isOwnHere_J71
  refine pc_rg (pc_if (fun c => ?_) (fun c => ow142 h h2 (own_y hx c)))
  have N := own_n hx c
  refine pc_bq (own_here (w := 6) h (by decide) N) (fun q6 g6 => ?_)
  obtain ⟨r6, S6⟩ := q6
  obtain ⟨a6, b6, c6⟩ := g6
  dsimp only at a6 b6 c6 ⊢
  refine pc_rg (pc_if (fun d6 => ?_) (fun d6 => ow142 a6 b6 (own_y c6 d6)))
  have N6 := own_n c6 d6
  refine pc_bq (own_here (w := 7) a6 (by decide) N6) (fun q7 g7 => ?_)
  obtain ⟨r7, S7⟩ := q7
  obtain ⟨a7, b7, c7⟩ := g7
  dsimp only at a7 b7 c7 ⊢
  refine pc_rg (pc_if (fun d7 => ?_) (fun d7 => ow142 a7 b7 (own_y c7 d7)))
  have N7 := own_n c7 d7
  refine pc_bq (own_here (w := 8) a7 (by decide) N7) (fun q8 g8 => ?_)
  obtain ⟨r8, S8⟩ := q8
  obtain ⟨a8, b8, c8⟩ := g8
  dsimp only at a8 b8 c8 ⊢
  refine pc_rg (pc_if (fun d8 => ?_) (fun d8 => ow142 a8 b8 (own_y c8 d8)))
  have N8 := own_n c8 d8
  refine pc_bq (own_here (w := 9) a8 (by decide) N8) (fun q9 g9 => ?_)
  obtain ⟨r9, S9⟩ := q9
  obtain ⟨a9, b9, c9⟩ := g9
  dsimp only at a9 b9 c9 ⊢
  refine pc_rg (pc_if (fun d9 => ?_) (fun d9 => ow142 a9 b9 (own_y c9 d9)))
  have N9 := own_n c9 d9
  refine pc_bq (own_here (w := 10) a9 (by decide) N9) (fun q10 g10 => ?_)
  obtain ⟨r10, S10⟩ := q10
  obtain ⟨a10, b10, c10⟩ := g10
  dsimp only at a10 b10 c10 ⊢
  refine pc_rg (pc_if (fun d10 => ?_) (fun d10 => ow142 a10 b10 (own_y c10 d10)))
  have N10 := own_n c10 d10
  refine pc_bq (own_here (w := 11) a10 (by decide) N10) (fun q11 g11 => ?_)
  obtain ⟨r11, S11⟩ := q11
  obtain ⟨a11, b11, c11⟩ := g11
  dsimp only at a11 b11 c11 ⊢
  refine pc_rg (pc_if (fun d11 => ?_) (fun d11 => ow142 a11 b11 (own_y c11 d11)))
  have N11 := own_n c11 d11
  exact ow147 a11 b11 (Or.inr ⟨rfl, N11⟩)
theorem ow66 {s S : MS} (h : SY s S) (h2 : gI S 2 = gI s 108) (w : OWN s) : pc (m_x12_isOwnHere_J66 S) (OWQ s) := ow71 h h2 (Or.inl ⟨rfl, w⟩)
theorem y_own {s t : MS} (h : SY s t) : pc (m_x12_isOwnHere t) (OWQ s) := by
  unfold m_x12_isOwnHere
  have N : NW s 0 := fun v hv => absurd hv (Nat.not_lt_zero v)
  refine pc_bq (own_here (w := 0) h (by decide) N) (fun q0 g0 => ?_)
  obtain ⟨r0, S0⟩ := q0
  obtain ⟨a0, b0, c0⟩ := g0
  dsimp only at a0 b0 c0 ⊢
  refine pc_rg (pc_if (fun d0 => ?_) (fun d0 => ow66 a0 b0 (own_y c0 d0)))
  have N0 := own_n c0 d0
  refine pc_bq (own_here (w := 1) a0 (by decide) N0) (fun q1 g1 => ?_)
  obtain ⟨r1, S1⟩ := q1
  obtain ⟨a1, b1, c1⟩ := g1
  dsimp only at a1 b1 c1 ⊢
  refine pc_rg (pc_if (fun d1 => ?_) (fun d1 => ow66 a1 b1 (own_y c1 d1)))
  have N1 := own_n c1 d1
  refine pc_bq (own_here (w := 2) a1 (by decide) N1) (fun q2 g2 => ?_)
  obtain ⟨r2, S2⟩ := q2
  obtain ⟨a2, b2, c2⟩ := g2
  dsimp only at a2 b2 c2 ⊢
  refine pc_rg (pc_if (fun d2 => ?_) (fun d2 => ow66 a2 b2 (own_y c2 d2)))
  have N2 := own_n c2 d2
  refine pc_bq (own_here (w := 3) a2 (by decide) N2) (fun q3 g3 => ?_)
  obtain ⟨r3, S3⟩ := q3
  obtain ⟨a3, b3, c3⟩ := g3
  dsimp only at a3 b3 c3 ⊢
  refine pc_rg (pc_if (fun d3 => ?_) (fun d3 => ow66 a3 b3 (own_y c3 d3)))
  have N3 := own_n c3 d3
  refine pc_bq (own_here (w := 4) a3 (by decide) N3) (fun q4 g4 => ?_)
  obtain ⟨r4, S4⟩ := q4
  obtain ⟨a4, b4, c4⟩ := g4
  dsimp only at a4 b4 c4 ⊢
  refine pc_rg (pc_if (fun d4 => ?_) (fun d4 => ow66 a4 b4 (own_y c4 d4)))
  have N4 := own_n c4 d4
  refine pc_bq (own_here (w := 5) a4 (by decide) N4) (fun q5 g5 => ?_)
  obtain ⟨r5, S5⟩ := q5
  obtain ⟨a5, b5, c5⟩ := g5
  dsimp only at a5 b5 c5 ⊢
  refine pc_rg (pc_if (fun d5 => ?_) (fun d5 => ow66 a5 b5 (own_y c5 d5)))
  have N5 := own_n c5 d5
  exact ow71 a5 b5 (Or.inr ⟨rfl, N5⟩)
/-- a name is at hand -/
def NAM (s : MS) : Prop := gI s 107 = 1 ∧ ¬ OWN s
/-- letters as a number -/
def nv (g : Nat → Int) : Nat → Int
  | 0 => 0
  | k + 1 => 27 * nv g k + g k
/-- the letters at hand -/
def lt (s : MS) (j : Nat) : Int := if gI s 108 + (j : Int) < gI s 109 then gA s 4 ((gI s 108).toNat + j) - 97 + 1 else 0
theorem lt_in {s : MS} {j : Nat} (h : gI s 108 + (j : Int) < gI s 109) : lt s j = gA s 4 ((gI s 108).toNat + j) - 97 + 1 := if_pos h
theorem lt_out {s : MS} {j : Nat} (h : gI s 109 ≤ gI s 108 + (j : Int)) : lt s j = 0 := if_neg (by omega)
theorem nv_pos {g : Nat → Int} : ∀ {n : Nat}, (∀ j, j < n → 1 ≤ g j ∧ g j ≤ 26) → 0 ≤ nv g n
  | 0, _ => Int.le_refl 0
  | n + 1, h => by
    have a := nv_pos (g := g) (n := n) (fun j hj => h j (by omega))
    have b := h n (by omega)
    show 0 ≤ 27 * nv g n + g n
    omega
theorem nv_inj {f g : Nat → Int} : ∀ {n m : Nat}, (∀ j, j < n → 1 ≤ f j ∧ f j ≤ 26) → (∀ j, j < m → 1 ≤ g j ∧ g j ≤ 26) → nv f n = nv g m → n = m ∧ ∀ j, j < n → f j = g j
  | 0, 0, _, _, _ => ⟨rfl, fun j hj => absurd hj (Nat.not_lt_zero j)⟩
  | 0, m + 1, _, hg, e => by
    have a := nv_pos (g := g) (n := m) (fun j hj => hg j (by omega))
    have b := hg m (by omega)
    have e : (0 : Int) = 27 * nv g m + g m := e
    exfalso; omega
  | n + 1, 0, hf, _, e => by
    have a := nv_pos (g := f) (n := n) (fun j hj => hf j (by omega))
    have b := hf n (by omega)
    have e : 27 * nv f n + f n = (0 : Int) := e
    exfalso; omega
  | n + 1, m + 1, hf, hg, e => by
    have b := hf n (by omega)
    have d := hg m (by omega)
    have e : 27 * nv f n + f n = 27 * nv g m + g m := e
    obtain ⟨i1, i2⟩ := nv_inj (f := f) (g := g) (n := n) (m := m) (fun j hj => hf j (by omega)) (fun j hj => hg j (by omega)) (by omega)
    refine ⟨by omega, fun j hj => ?_⟩
    by_cases z : j = n
    · rw [z]
      rw [i1]
      rw [i1] at e b
      omega
    · exact i2 j (by omega)
theorem nv_e {f g : Nat → Int} : ∀ {n : Nat}, (∀ j, j < n → f j = g j) → nv f n = nv g n
  | 0, _ => rfl
  | n + 1, h => by
    show 27 * nv f n + f n = 27 * nv g n + g n
    rw [nv_e (n := n) (fun j hj => h j (by omega)), h n (by omega)]
theorem s_fail0 {k p : Int} {s : MS} : pc (m_x6_fail k p s) (fun q => q.1 = 0) := by
  unfold m_x6_fail m_x6_fail_J22
  exact pc_rg (pc_if (fun c => pc_stn (fun s4 e4 => pc_stn (fun s5 e5 => pc_stn (fun s6 e6 => pc_some rfl)))) (fun c => pc_some rfl))
theorem TK_w {s : MS} (h : TK s) (k : gI s 107 = 1) : (gI s 108 < gI s 61 ∧ gI s 108 < gI s 109 ∧ gI s 109 ≤ gI s 61) ∧ isL (gA s 4 (gI s 108).toNat) ∧ Ru isL (gA s 4) (gI s 61) (gI s 108) (gI s 109) ∧ ((-1) ≤ gI s 110 ∧ gI s 110 ≤ 32) ∧ ¬ GLU (gA s 4) (gI s 108) := by
  rcases h.2.2 with g | ⟨g1, g2, g3, g4, g⟩
  · omega
  · rcases g with ⟨a, ru, hw, kg⟩ | ⟨_, _, kg⟩ | ⟨_, _, _, kg⟩
    · refine ⟨⟨g1, g3, g4⟩, a, ru, ⟨hw.1, hw.2.1⟩, ?_⟩
      rcases kg with ⟨_, q⟩ | ⟨q, _⟩
      · omega
      · exact q
    · rcases kg with ⟨_, q⟩ | ⟨_, q⟩ <;> omega
    · omega
theorem s_name {s : MS} (h0 : gI s 100 = 0) (hT : TK s) : pc (m_x6_isName s) (fun q => (q.1 = 0 ∧ ¬ NAM s ∧ gI q.2 100 = 1 ∧ gI q.2 101 = gI s 108) ∨ (q.1 = 0 ∧ (NAM s ∧ 6 < gI s 109 - gI s 108) ∧ gI q.2 100 = 1 ∧ gI q.2 101 = gI s 108 + 6) ∨ (q.1 = 1 ∧ (NAM s ∧ gI s 109 - gI s 108 ≤ 6) ∧ q.2 = s)) := by
  have J25 : ¬ NAM s → pc (m_x6_isName_J25 s) (fun q => (q.1 = 0 ∧ ¬ NAM s ∧ gI q.2 100 = 1 ∧ gI q.2 101 = gI s 108) ∨ (q.1 = 0 ∧ (NAM s ∧ 6 < gI s 109 - gI s 108) ∧ gI q.2 100 = 1 ∧ gI q.2 101 = gI s 108 + 6) ∨ (q.1 = 1 ∧ (NAM s ∧ gI s 109 - gI s 108 ≤ 6) ∧ q.2 = s)) := fun hn => by
    unfold m_x6_isName_J25
    exact pc_bn (fun q16 e16 => pc_bo (pc_some (Or.inl ⟨s_fail0 q16 e16, hn, s_fail h0 q16 e16⟩)))
  have J35 : NAM s → pc (m_x6_isName_J35 s) (fun q => (q.1 = 0 ∧ ¬ NAM s ∧ gI q.2 100 = 1 ∧ gI q.2 101 = gI s 108) ∨ (q.1 = 0 ∧ (NAM s ∧ 6 < gI s 109 - gI s 108) ∧ gI q.2 100 = 1 ∧ gI q.2 101 = gI s 108 + 6) ∨ (q.1 = 1 ∧ (NAM s ∧ gI s 109 - gI s 108 ≤ 6) ∧ q.2 = s)) := fun hn => by
    unfold m_x6_isName_J35 m_x6_isName_J64 m_x6_isName_J69
    refine pc_rg (pc_if (fun c => pc_bo (pc_some (Or.inr (Or.inr ⟨rfl, ⟨hn, c⟩, rfl⟩)))) (fun c => pc_bn (fun q10 e10 => pc_rg (pc_if (fun c2 => pc_bo (pc_some (Or.inr (Or.inl ⟨rfl, ⟨hn, by omega⟩, s_fail h0 q10 e10⟩)))) (fun c2 => absurd (s_fail0 q10 e10) c2)))))
  unfold m_x6_isName
  refine pc_rg (pc_if (fun c => pc_rg (pc_if (fun c2 => J35 ⟨c, fun q => ?_⟩) (fun c2 => pc_rg (pc_if (fun c3 => J35 ⟨c, fun q => ?_⟩) (fun c3 => J25 (fun q => q.2 ⟨c, ?_⟩)))))) (fun c => J25 (fun q => c q.1)))
  · have := q.2; omega
  · have := q.2; omega
  · have w := (TK_w hT c).2.2.2.1
    omega
theorem y_name {s t : MS} (h : SY s t) : pc (m_x12_name t) (fun q => (¬ NAM s ∧ gI q.2 5 = 1 ∧ gI q.2 6 = gI s 108) ∨ ((NAM s ∧ 6 < gI s 109 - gI s 108) ∧ gI q.2 5 = 1 ∧ gI q.2 6 = gI s 108 + 6) ∨ ((NAM s ∧ gI s 109 - gI s 108 ≤ 6) ∧ q.1 = nv (lt s) (gI s 109 - gI s 108).toNat ∧ NX s q.2 ∧ gI q.2 38 = gI s 108)) := by
  unfold m_x12_name
  refine pc_rg (pc_if (fun c => pc_bq (y_look h) (fun q28 h28 => ?_)) (fun c => absurd h.2.1.2 c))
  obtain ⟨r28, S⟩ := q28
  obtain ⟨hS, h2, h1⟩ := h28
  dsimp only at hS h2 h1 ⊢
  have hk := hS.2.2.1.1
  have J37 : ∀ X : MS, SY s X → gI X 2 = gI s 108 → ¬ NAM s → pc (m_x12_name_J37 X) (fun q => (¬ NAM s ∧ gI q.2 5 = 1 ∧ gI q.2 6 = gI s 108) ∨ ((NAM s ∧ 6 < gI s 109 - gI s 108) ∧ gI q.2 5 = 1 ∧ gI q.2 6 = gI s 108 + 6) ∨ ((NAM s ∧ gI s 109 - gI s 108 ≤ 6) ∧ q.1 = nv (lt s) (gI s 109 - gI s 108).toNat ∧ NX s q.2 ∧ gI q.2 38 = gI s 108)) := fun X hX e2 hn => by
    unfold m_x12_name_J37
    refine pc_bq (m_fail hX.2.1.2) (fun s23 h23 => pc_some (Or.inl ⟨hn, ?_⟩))
    rw [e2] at h23
    exact h23
  refine pc_bq m_isL (fun r30 h30 => pc_rg (pc_if (fun c1 => J37 S hS h2 (fun q => ?_)) (fun c1 => pc_rg (pc_rg (pc_if (fun c2 => J37 S hS h2 (fun q => ?_)) (fun c2 => pc_bq (y_own hS) (fun q38 h38 => ?_)))))))
  · have w := TK_w hk q.1
    rcases TK_sg hk with g | g
    · omega
    · have w2 := w.2.1
      rw [← g.2] at w2
      omega
  · have w := TK_w hk q.1
    have gl := hS.2.2.2.2.1.2.1 c2.symm
    rw [h2] at gl
    exact w.2.2.2.2 gl
  · obtain ⟨r38, X⟩ := q38
    obtain ⟨hX, x2, hx⟩ := h38
    dsimp only at hX x2 hx ⊢
    refine pc_rg (pc_if (fun c3 => pc_stn (fun s41 e41 => ?_)) (fun c3 => J37 X hX x2 (fun q => q.2 ?_)))
    · have nm : NAM s := by
        refine ⟨?_, ?_⟩
        · have ng : ¬ GLU (gA s 4) (gI s 108) := fun gl => c2 (by
            have := hS.2.2.2.2.1.2.2 (by rw [h2]; exact gl)
            omega)
          rcases hk.2.2 with g | ⟨g1, g2, g3, g4, g⟩
          · omega
          · rcases g with ⟨_, _, _, g⟩ | ⟨a, _⟩ | ⟨a, _⟩
            · rcases g with ⟨q, _⟩ | ⟨_, q⟩
              · exact absurd q ng
              · exact q
            · omega
            · omega
        · rcases hx with q | q
          · omega
          · exact q.2
      have w := TK_w hk nm.1
      have hT := hX.1
      have k0 := hk.1
      have ru := w.2.2.1
      have rb := w.1
      have L : ∀ (n : Nat) (z : Int) (Y : MS) (k : Nat), (∀ i, i ≠ 2 → i ≠ 38 → gI Y i = gI X i) → (∀ i, gA Y i = gA X i) → gI Y 38 = gI s 108 → gI Y 2 = gI s 108 + (k : Int) → gI Y 2 ≤ gI s 109 → k ≤ 6 → z = nv (lt s) k → pc (m_x12_name_L58 n z Y) (fun q => (¬ NAM s ∧ gI q.2 5 = 1 ∧ gI q.2 6 = gI s 108) ∨ ((NAM s ∧ 6 < gI s 109 - gI s 108) ∧ gI q.2 5 = 1 ∧ gI q.2 6 = gI s 108 + 6) ∨ ((NAM s ∧ gI s 109 - gI s 108 ≤ 6) ∧ q.1 = nv (lt s) (gI s 109 - gI s 108).toNat ∧ NX s q.2 ∧ gI q.2 38 = gI s 108)) := by
        refine fr_ind (fun _ _ _ _ _ _ _ _ _ _ => pc_none) (fun n ih z Y k kI kA y38 y2 yb k6 hz => ?_)
        show pc (m_x12_name_b58 (m_x12_name_L58 n) z Y) _
        unfold m_x12_name_b58
        have e3 : gI Y 3 = gI s 61 := (kI 3 (by decide) (by decide)).trans hT.1
        have e0 : gA Y 0 = gA X 0 := kA 0
        have fin : gI Y 2 = gI s 109 → pc (m_x12_name_J145 z Y) (fun q => (¬ NAM s ∧ gI q.2 5 = 1 ∧ gI q.2 6 = gI s 108) ∨ ((NAM s ∧ 6 < gI s 109 - gI s 108) ∧ gI q.2 5 = 1 ∧ gI q.2 6 = gI s 108 + 6) ∨ ((NAM s ∧ gI s 109 - gI s 108 ≤ 6) ∧ q.1 = nv (lt s) (gI s 109 - gI s 108).toNat ∧ NX s q.2 ∧ gI q.2 38 = gI s 108)) := fun e9 => by
          unfold m_x12_name_J145
          refine pc_stn (fun s3 e3' => pc_some (Or.inr (Or.inr ⟨⟨nm, by omega⟩, ?_, ?_, (q_Ii e3' (by decide)).trans y38⟩)))
          · show z = _
            rw [hz, show (gI s 109 - gI s 108).toNat = k by omega]
          · have k3 : ∀ i, i ≠ 4 → gI s3 i = gI Y i := fun i hi => q_Ii e3' hi
            have k34 : gI s3 4 = gI Y 2 := q_II e3'
            have k32 : gI s3 2 = gI s 109 := (k3 2 (by decide)).trans e9
            have kA3 : ∀ i, gA s3 i = gA X i := fun i => (q_Ia e3').trans (kA i)
            show NX s s3
            refine ⟨⟨(k3 3 (by decide)).trans e3, fun j hj => by rw [kA3]; exact hT.2 j hj⟩, ⟨hX.2.1.1, (k3 5 (by decide)).trans ((kI 5 (by decide) (by decide)).trans hX.2.1.2)⟩, hX.2.2.1, k32, ⟨by omega, fun _ => ⟨by omega, Or.inl ?_⟩, fun _ => by omega⟩, RWD_e hX.2.2.2.2.2 (fun i _ => kA3 i)⟩
            exact ru.2.1 _ (by omega) (by omega)
        refine pc_rg (pc_rg (pc_if (fun d1 => fin (by omega)) (fun d1 => pc_rdI (fun _ => pc_bq m_isL (fun r11 h11 => pc_rg (pc_if (fun d2 => fin ?_) (fun d2 => ?_)))))))
        · rw [e0, hT.2 _ (by omega)] at h11
          by_cases zz : gI Y 2 < gI s 109
          · have q := ru.2.1 (gI Y 2).toNat (by omega) (by omega)
            omega
          · omega
        · rw [e0, hT.2 _ (by omega)] at h11
          have lt9 : gI Y 2 < gI s 109 := by
            by_cases zz : gI Y 2 = gI s 109
            · have q := ru.2.2 (by omega)
              rw [zz] at h11
              omega
            · omega
          refine pc_rg (pc_if (fun d3 => pc_bq (m_fail ((kI 5 (by decide) (by decide)).trans hX.2.1.2)) (fun s20 h20 => pc_some (Or.inr (Or.inl ⟨⟨nm, by omega⟩, h20.1, by rw [h20.2]; omega⟩)))) (fun d3 => pc_rdI (fun _ => pc_rg (pc_stn (fun s18 e18 => ?_)))))
          have k2' : gI s18 2 = gI Y 2 + 1 := q_II e18
          refine ih _ s18 (k + 1) (fun i a b => (q_Ii e18 a).trans (kI i a b)) (fun i => (q_Ia e18).trans (kA i)) ((q_Ii e18 (by decide)).trans y38) (by omega) (by omega) (by omega) ?_
          rw [e0, hT.2 _ (by omega), hz, show (gI Y 2).toNat = (gI s 108).toNat + k by omega]
          show _ = 27 * nv (lt s) k + lt s k
          rw [lt_in (by omega)]
          omega
      refine L FU 0 s41 0 (fun i a b => q_Ii e41 b) (fun i => q_Ia e41) ((q_II e41).trans x2) ?_ ?_ (by omega) rfl
      · rw [(q_Ii e41 (by decide) : gI s41 2 = gI X 2)]; omega
      · rw [(q_Ii e41 (by decide) : gI s41 2 = gI X 2)]; omega
    · exact own_y hx c3
