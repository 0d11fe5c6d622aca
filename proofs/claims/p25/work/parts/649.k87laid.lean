/-! ===== all blocks of an image, as the reference reads them ===== -/
set_option maxHeartbeats 2000000 in
theorem m_block {g : Nat → Int} {e p b : Nat} {E : Int} {T : MS} (hb : b < 48) (BY : ∀ j, j ≤ e → 0 ≤ g j ∧ g j ≤ 255) (hE : E ≤ 6) (h6 : gA T 39 6 = E) (hT : TPr T g e) (hp : gI T 114 = (p : Int)) : pc (m_x12_isLaidBlock (b : Int) (e : Int) T) (PLb g e p b E T) := by
  have L11 : ∀ (n k : Nat) (X : MS), k ≤ 16 → gI X 114 = (p : Int) → (∀ j, j < k → gA X 113 (17 + 16 * b + j) = 0) → (∀ j, (j < 17 + 16 * b ∨ 33 + 16 * b ≤ j) → gA X 113 j = gA T 113 j) → (∀ k, k ≠ 113 → gA X k = gA T k) → (∀ i, i ≠ 114 → gI X i = gI T i) → pc (m_x12_isLaidBlock_L11 n (e : Int) (17 + 16 * (b : Int)) (k : Int) X) (PLb g e p b E T) := by
    refine fr_ind (fun _ _ _ _ _ _ _ _ => pc_none) (fun n ih k X hk hp hz kO kA kI => ?_)
    show pc (m_x12_isLaidBlock_b11 (m_x12_isLaidBlock_L11 n) (e : Int) (17 + 16 * (b : Int)) (k : Int) X) _
    unfold m_x12_isLaidBlock_b11
    refine pc_rg (pc_if (fun c => ?_) (fun c => pc_inb (pc_stn (fun s e1 => ?_))))
    rotate_left
    · rw [show (17 + 16 * (b : Int) + (k : Int)).toNat = 17 + 16 * b + k by omega] at e1
      have k113 : gA s 113 = upZ (gA X 113) (17 + 16 * b + k) 0 := q_AA e1
      rw [show ((k : Int) + 1) = ((k + 1 : Nat) : Int) by omega]
      refine ih (k + 1) s (by omega) ((q_Ai e1).trans hp) (fun j hj => ?_) (fun j hj => by rw [k113, upZ_n (by omega)]; exact kO j hj) (fun j hj => (q_Aa e1 hj).trans (kA j hj)) (fun i hi => (q_Ai e1).trans (kI i hi))
      rw [k113]
      by_cases z : j = k
      · rw [z, upZ_s]
      · rw [upZ_n (by omega)]; exact hz j (by omega)
    have k16 : k = 16 := by omega
    have hX0 : TPr X g e := TPr_k hT (kA 0 (by decide))
    refine pc_bq (m_byte (e := e) hX0 hp) (fun q61 h61 => pc_inb (pc_stn (fun s63 e63 => ?_)))
    obtain ⟨a1, a2, a3, a4⟩ := h61
    rw [show (17 + 16 * (b : Int)).toNat = 17 + 16 * b by omega] at e63
    refine pc_bq (m_byte (e := e) (p := p + 1) (TPr_k hX0 (by rw [(q_Aa e63 (by decide) : gA s63 0 = _), a3])) (by rw [(q_Ai e63 : gI s63 114 = _), a2]; omega)) (fun q66 h66 => pc_inb (pc_stn (fun s68 e68 => pc_rdI (fun _ => pc_rdI (fun _ => ?_)))))
    obtain ⟨b1, b2, b3, b4⟩ := h66
    rw [show (17 + 16 * (b : Int) + 1).toNat = 18 + 16 * b by omega] at e68
    have k68 : gA s68 113 = upZ (upZ (gA X 113) (17 + 16 * b) q61.1) (18 + 16 * b) q66.1 := by
      rw [(q_AA e68 : gA s68 113 = _), b3, (q_AA e63 : gA s63 113 = _), a3]
    have A68 : ∀ j, j ≠ 113 → gA s68 j = gA T j := fun j hj => by rw [(q_Aa e68 hj : gA s68 j = _), b3, (q_Aa e63 hj : gA s63 j = _), a3]; exact kA j hj
    have I68 : ∀ i, i ≠ 114 → gI s68 i = gI T i := fun i hi => by rw [(q_Ai e68 : gI s68 i = _), b4 i hi, (q_Ai e63 : gI s63 i = _), a4 i hi]; exact kI i hi
    have i68 : gI s68 114 = ((p + 2 : Nat) : Int) := by rw [(q_Ai e68 : gI s68 114 = _), b2]; omega
    have v17 : gA s68 113 (17 + 16 * b) = br g e p := by rw [k68, upZ_n (by omega), upZ_s, a1]
    have v18 : gA s68 113 (18 + 16 * b) = br g e (p + 1) := by rw [k68, upZ_s, b1]
    have O68 : ∀ j, (j < 17 + 16 * b ∨ 33 + 16 * b ≤ j) → gA s68 113 j = gA T 113 j := fun j hj => by rw [k68, upZ_n (by omega), upZ_n (by omega)]; exact kO j hj
    have Z68 : ∀ i, 2 ≤ i → i < 16 → gA s68 113 (17 + 16 * b + i) = 0 := fun i i1 i2 => by rw [k68, upZ_n (by omega), upZ_n (by omega)]; exact hz i (by omega)
    rw [show (17 + 16 * (b : Int)).toNat = 17 + 16 * b by omega, show (17 + 16 * (b : Int) + 1).toNat = 18 + 16 * b by omega, v17, v18]
    have FAIL : ∀ X : MS, ¬ (nxp g p ≤ e ∧ ROK g p E) → (p : Int) < gI X 114 → (∀ j, (j < 17 + 16 * b ∨ 33 + 16 * b ≤ j) → gA X 113 j = gA T 113 j) → (∀ k, k ≠ 113 → gA X k = gA T k) → (∀ i, i ≠ 114 → gI X i = gI T i) → PLb g e p b E T (0, X) := fun X w h1 h2 h3 h4 => ⟨Or.inl rfl, fun w => absurd w (show ¬ ((0 : Int) = 1) by decide), fun w1 w2 => absurd ⟨w1, w2⟩ w, h1, h2, h3, h4⟩
    refine pc_rg (pc_if (fun c2 => pc_some ?_) (fun c2 => ?_))
    · -- free, or read beyond
      have IN : p + 2 ≤ e → ¬ thr g p := fun w => by
        rw [br_in (by omega), br_in (by omega)] at c2
        have y1 := (BY p (by omega)).1
        have y2 := (BY (p + 1) (by omega)).1
        exact fun t => t ⟨by omega, by omega⟩
      refine ⟨Or.inr rfl, fun _ w => ?_, fun w w2 => ?_, by show (p : Int) < gI s68 114; rw [i68]; omega, O68, A68, I68⟩
      · have w' : p + 2 ≤ e := by
          have w2 : gI s68 114 ≤ (e : Int) := w
          rw [i68] at w2; omega
        have nt := IN w'
        refine ⟨by rw [nxp_0 nt]; exact w', by show gI s68 114 = _; rw [i68, nxp_0 nt], fun t => absurd t nt, ⟨?_, ?_⟩, fun t => absurd t nt, fun _ => Z68⟩
        · show gA s68 113 (17 + 16 * b) = g p
          rw [v17, br_in (by omega)]
        · show gA s68 113 (18 + 16 * b) = g (p + 1)
          rw [v18, br_in (by omega)]
      · have l := nxp_lt g p
        have nt := IN (by omega)
        exact ⟨rfl, by show gI s68 114 = _; rw [i68, nxp_0 nt]⟩
    -- there
    have hT68 : TPr s68 g e := TPr_k hT (A68 0 (by decide))
    refine pc_bq (m_byte (e := e) (p := p + 2) hT68 i68) (fun q75 h75 => pc_inb (pc_stn (fun s77 e77 => ?_)))
    obtain ⟨d1, d2, d3, d4⟩ := h75
    rw [show (17 + 16 * (b : Int) + 2).toNat = 19 + 16 * b by omega] at e77
    refine pc_bq (m_byte (e := e) (p := p + 3) (TPr_k hT68 (by rw [(q_Aa e77 (by decide) : gA s77 0 = _), d3])) (by rw [(q_Ai e77 : gI s77 114 = _), d2]; omega)) (fun q80 h80 => pc_inb (pc_stn (fun s82 e82 => pc_rdI (fun _ => ?_))))
    obtain ⟨f1, f2, f3, f4⟩ := h80
    rw [show (17 + 16 * (b : Int) + 3).toNat = 20 + 16 * b by omega] at e82
    have k82 : gA s82 113 = upZ (upZ (gA s68 113) (19 + 16 * b) q75.1) (20 + 16 * b) q80.1 := by
      rw [(q_AA e82 : gA s82 113 = _), f3, (q_AA e77 : gA s77 113 = _), d3]
    have A82 : ∀ j, j ≠ 113 → gA s82 j = gA T j := fun j hj => by rw [(q_Aa e82 hj : gA s82 j = _), f3, (q_Aa e77 hj : gA s77 j = _), d3]; exact A68 j hj
    have I82 : ∀ i, i ≠ 114 → gI s82 i = gI T i := fun i hi => by rw [(q_Ai e82 : gI s82 i = _), f4 i hi, (q_Ai e77 : gI s77 i = _), d4 i hi]; exact I68 i hi
    have i82 : gI s82 114 = ((p + 4 + 4 * 0 : Nat) : Int) := by rw [(q_Ai e82 : gI s82 114 = _), f2]; omega
    have O82 : ∀ j, (j < 17 + 16 * b ∨ 33 + 16 * b ≤ j) → gA s82 113 j = gA T 113 j := fun j hj => by rw [k82, upZ_n (by omega), upZ_n (by omega)]; exact O68 j hj
    have w20 : gA s82 113 (20 + 16 * b) = br g e (p + 3) := by rw [k82, upZ_s, f1]
    have w19 : gA s82 113 (19 + 16 * b) = br g e (p + 2) := by rw [k82, upZ_n (by omega), upZ_s, d1]
    have w17 : gA s82 113 (17 + 16 * b) = br g e p := by rw [k82, upZ_n (by omega), upZ_n (by omega)]; exact v17
    have w18 : gA s82 113 (18 + 16 * b) = br g e (p + 1) := by rw [k82, upZ_n (by omega), upZ_n (by omega)]; exact v18
    rw [show (17 + 16 * (b : Int) + 3).toNat = 20 + 16 * b by omega, w20]
    have RM : pc (m_x12_roomOf s82) (fun r => r = E) := by
      unfold m_x12_roomOf
      exact pc_rdI (fun _ => pc_some (by show gA s82 39 6 = E; rw [A82 39 (by decide)]; exact h6))
    have TH : p + 2 ≤ e → thr g p := fun w t => c2 (by rw [br_in (by omega), br_in (by omega), t.1, t.2]; rfl)
    refine pc_rg (pc_bq RM (fun r86 h86 => ?_))
    rw [h86]
    refine pc_rg (pc_bq m_isIn (fun r89 h89 => pc_rg (pc_if (fun c3 => pc_some (FAIL s82 (fun w => ?_) (by rw [i82]; omega) O82 A82 I82)) (fun c3 => ?_))))
    · have l := nxp_lt g p
      have t := TH (by omega)
      have r := (w.2 t).1
      have n := w.1
      rw [nxp_1 t] at n
      rw [br_in (by omega)] at h89
      rcases h89 with ⟨a, _⟩ | ⟨_, a⟩
      · exact absurd (a.symm.trans c3) (by decide)
      · exact a r
    · have r : 1 ≤ br g e (p + 3) ∧ br g e (p + 3) ≤ E := by
        rcases h89 with ⟨_, a⟩ | ⟨a, _⟩
        · exact a
        · exact absurd a c3
      have p3 : p + 3 < e := by
        refine Classical.byContradiction (fun z => ?_)
        unfold br at r
        rw [if_neg z] at r
        omega
      rw [br_in p3] at r w20
      rw [br_in (by omega)] at w17 w18 w19
      exact m_entsL hb BY p3 (TH (by omega)) r hE FU 0 s82 (by omega) (TPr_k hT (A82 0 (by decide))) i82 ⟨w17, w18, w19, w20⟩ (fun j hj => absurd hj (by omega)) (fun _ j hj => absurd hj (by omega)) O82 A82 I82
  unfold m_x12_isLaidBlock
  exact L11 FU 0 T (by omega) hp (fun j hj => absurd hj (by omega)) (fun _ _ => rfl) (fun _ _ => rfl) (fun _ _ => rfl)
def IMR (g : Nat → Int) (e N : Nat) (E : Int) (b p : Nat) : Prop := p ≤ e ∧ PO g N = e ∧ ∀ x, b ≤ x → x < N → ROK g (PO g x) E
/-- the rows of all blocks -/
def RRA (f g : Nat → Int) (N : Nat) : Prop := (∀ x, x < N → RRB f g (PO g x) x) ∧ ∀ x i, N ≤ x → x < 48 → i < 16 → f (17 + 16 * x + i) = 0
def PIm (g : Nat → Int) (e N : Nat) (C : Prop) (T : MS) (q : Int × MS) : Prop := (q.1 = 0 ∨ q.1 = 1) ∧ (q.1 = 1 ↔ C) ∧ (q.1 = 1 → RRA (gA q.2 113) g N) ∧ (∀ j, j < 17 → gA q.2 113 j = gA T 113 j) ∧ (∀ k, k ≠ 113 → gA q.2 k = gA T k) ∧ ∀ i, i ≠ 114 → gI q.2 i = gI T i
set_option maxHeartbeats 1000000 in
theorem m_L102 {N e : Nat} {E : Int} {g : Nat → Int} (hN : N ≤ 48) (hE : E ≤ 6) (BY : ∀ j, j ≤ e → 0 ≤ g j ∧ g j ≤ 255) : ∀ (n b p : Nat) (T : MS), b ≤ N → gA T 39 5 = (N : Int) → gA T 39 6 = E → TPr T g e → gI T 114 = (p : Int) → (p ≤ e → p = PO g b ∧ ∀ x, x < b → RRB (gA T 113) g (PO g x) x) → pc (m_x12_isLaid_L102 n (e : Int) (b : Int) T) (PIm g e N (IMR g e N E b p) T) := by
  -- the blocks that the store does not have
  have L135 : ∀ (n x p : Nat) (T X : MS), N ≤ x → x ≤ 48 → gI X 114 = (p : Int) → (p ≤ e → p = PO g N ∧ ∀ x, x < N → RRB (gA T 113) g (PO g x) x) → (∀ y i, N ≤ y → y < x → i < 16 → gA X 113 (17 + 16 * y + i) = 0) → (∀ j, j < 17 + 16 * N → gA X 113 j = gA T 113 j) → (∀ k, k ≠ 113 → gA X k = gA T k) → (∀ i, i ≠ 114 → gI X i = gI T i) → pc (m_x12_isLaid_L135 n (e : Int) (x : Int) X) (PIm g e N (IMR g e N E N p) T) := by
    refine fr_ind (fun _ _ _ _ _ _ _ _ _ _ _ _ => pc_none) (fun n ih x p T X hx h48 hp hr hz kO kA kI => ?_)
    show pc (m_x12_isLaid_b135 (m_x12_isLaid_L135 n) (e : Int) (x : Int) X) _
    unfold m_x12_isLaid_b135 m_x12_isLaid_J194
    refine pc_rg (pc_if (fun c => ?_) (fun c => ?_))
    · have x48 : x = 48 := by omega
      rw [hp]
      refine pc_rg (pc_rg (pc_if (fun c2 => pc_bo (pc_some ⟨Or.inr rfl, ⟨fun _ => ?_, fun _ => rfl⟩, fun _ => ⟨fun y hy => ?_, fun y i y1 y2 i1 => hz y i y1 (by omega) i1⟩, fun j hj => kO j (by omega), kA, kI⟩)) (fun c2 => pc_bo (pc_some ⟨Or.inl rfl, ⟨fun w => absurd w (show ¬ ((0 : Int) = 1) by decide), fun w => ?_⟩, fun w => absurd w (show ¬ ((0 : Int) = 1) by decide), fun j hj => kO j (by omega), kA, kI⟩))))
      · have r := hr (by omega)
        exact ⟨by omega, by rw [← r.1]; omega, fun y y1 y2 => absurd y2 (by omega)⟩
      · have r := hr (by omega)
        exact RRB_x (r.2 y hy) (fun j j1 j2 => kO j (by omega))
      · exfalso
        have r := hr w.1
        have := w.2.1
        omega
    · have L145 : ∀ (m i : Nat) (X : MS), i ≤ 16 → gI X 114 = (p : Int) → (∀ y j, N ≤ y → y < x → j < 16 → gA X 113 (17 + 16 * y + j) = 0) → (∀ j, j < i → gA X 113 (17 + 16 * x + j) = 0) → (∀ j, j < 17 + 16 * N → gA X 113 j = gA T 113 j) → (∀ k, k ≠ 113 → gA X k = gA T k) → (∀ i, i ≠ 114 → gI X i = gI T i) → pc (m_x12_isLaid_L145 (m_x12_isLaid_L135 n) m (e : Int) (x : Int) (i : Int) X) (PIm g e N (IMR g e N E N p) T) := by
        refine fr_ind (fun _ _ _ _ _ _ _ _ _ => pc_none) (fun m ihm i X hi hp hz hz2 kO kA kI => ?_)
        show pc (m_x12_isLaid_b145 (m_x12_isLaid_L135 n) (m_x12_isLaid_L145 (m_x12_isLaid_L135 n) m) (e : Int) (x : Int) (i : Int) X) _
        unfold m_x12_isLaid_b145
        refine pc_rg (pc_if (fun d => ?_) (fun d => pc_inb (pc_stn (fun s14 e14 => ?_))))
        · rw [show ((x : Int) + 1) = ((x + 1 : Nat) : Int) by omega]
          refine ih (x + 1) p T X (by omega) (by omega) hp hr (fun y j y1 y2 j1 => ?_) kO kA kI
          by_cases z : y = x
          · rw [z]; exact hz2 j (by omega)
          · exact hz y j y1 (by omega) j1
        · rw [show (17 + 16 * (x : Int) + (i : Int)).toNat = 17 + 16 * x + i by omega] at e14
          have k113 : gA s14 113 = upZ (gA X 113) (17 + 16 * x + i) 0 := q_AA e14
          rw [show ((i : Int) + 1) = ((i + 1 : Nat) : Int) by omega]
          refine ihm (i + 1) s14 (by omega) ((q_Ai e14).trans hp) (fun y j y1 y2 j1 => by rw [k113, upZ_n (by omega)]; exact hz y j y1 y2 j1) (fun j hj => ?_) (fun j hj => by rw [k113, upZ_n (by omega)]; exact kO j hj) (fun j hj => (q_Aa e14 hj).trans (kA j hj)) (fun j hj => (q_Ai e14).trans (kI j hj))
          rw [k113]
          by_cases z : j = i
          · rw [z, upZ_s]
          · rw [upZ_n (by omega)]; exact hz2 j (by omega)
      exact L145 FU 0 X (by omega) hp hz (fun j hj => absurd hj (by omega)) kO kA kI
  refine fr_ind (fun _ _ _ _ _ _ _ _ _ => pc_none) (fun n ih b p T hb h5 h6 hT hp hr => ?_)
  show pc (m_x12_isLaid_b102 (m_x12_isLaid_L102 n) (e : Int) (b : Int) T) _
  unfold m_x12_isLaid_b102
  refine pc_bq m_blkMany (fun r24 h24 => ?_)
  rw [h24, h5]
  refine pc_rg (pc_rg (pc_if (fun c => pc_bq m_blkMany (fun r29 h29 => ?_)) (fun c => pc_bn (fun q32 e32 => ?_))))
  · rw [h29, h5]
    have bN : b = N := by omega
    rw [bN] at hr ⊢
    exact L135 FU N p T T (Nat.le_refl _) hN hp hr (fun y i y1 y2 _ => absurd y2 (by omega)) (fun _ _ => rfl) (fun _ _ => rfl) (fun _ _ => rfl)
  · have b48 : b < 48 := by omega
    obtain ⟨p1, p2, p3, p4, p5, p6, p7⟩ := m_block b48 BY hE h6 hT hp q32 e32
    have IN : IMR g e N E b p → nxp g p ≤ e ∧ ROK g p E := fun w => by
      have r := (hr w.1).1
      have m := PO_le (g := g) (show b + 1 ≤ N by omega)
      rw [PO_s, ← r, w.2.1] at m
      refine ⟨m, ?_⟩
      have y := w.2.2 b (Nat.le_refl _) (by omega)
      rw [← r] at y
      exact y
    refine pc_rg (pc_if (fun c2 => pc_some ⟨Or.inl rfl, ⟨fun w => absurd w (show ¬ ((0 : Int) = 1) by decide), fun w => ?_⟩, fun w => absurd w (show ¬ ((0 : Int) = 1) by decide), fun j hj => p5 j (by omega), p6, p7⟩) (fun c2 => ?_))
    · exfalso
      have i := IN w
      have y := (p3 i.1 i.2).1
      omega
    · have q1 : q32.1 = 1 := p1.resolve_left c2
      obtain ⟨p', hp'⟩ : ∃ p' : Nat, gI q32.2 114 = (p' : Int) := ⟨(gI q32.2 114).toNat, by omega⟩
      have step := ih (b + 1) p' q32.2 (by omega) (by rw [p6 39 (by decide)]; exact h5) (by rw [p6 39 (by decide)]; exact h6) (TPr_k hT (p6 0 (by decide))) hp' (fun hle => by
        obtain ⟨i1, i2, i3, i4⟩ := p2 q1 (by omega)
        have r := hr (by omega)
        refine ⟨by rw [PO_s, ← r.1]; omega, fun x hx => ?_⟩
        by_cases z : x = b
        · rw [z, ← r.1]; exact i4
        · exact RRB_x (r.2 x (by omega)) (fun j j1 j2 => p5 j (by omega)))
      rw [show ((b : Int) + 1) = ((b + 1 : Nat) : Int) by omega]
      have EQ : IMR g e N E b p ↔ IMR g e N E (b + 1) p' := by
        constructor
        · intro w
          have i := IN w
          have y := (p3 i.1 i.2).2
          exact ⟨by omega, w.2.1, fun x x1 x2 => w.2.2 x (by omega) x2⟩
        · intro w
          have w1 := w.1
          obtain ⟨i1, i2, i3, i4⟩ := p2 q1 (by omega)
          have r := hr (by omega)
          refine ⟨by omega, w.2.1, fun x x1 x2 => ?_⟩
          by_cases z : x = b
          · rw [z, ← r.1]; exact i3
          · exact w.2.2 x (by omega) x2
      refine pc_mono step (fun q hq => ?_)
      obtain ⟨c1, c2, c3, c4, c5, c6⟩ := hq
      exact ⟨c1, c2.trans EQ.symm, c3, fun j hj => (c4 j hj).trans (p5 j (by omega)), fun k hk => (c5 k hk).trans (p6 k hk), fun i hi => (c6 i hi).trans (p7 i hi)⟩
