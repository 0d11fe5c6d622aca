/-! ===== an image's soundness, as the class sees it ===== -/
/-- one child, by the least and the greatest key below it -/
def CHK (S : MS) (b k : Nat) : Prop := ((0 ≤ gA S 77 (6 * b + k) ∧ gA S 77 (6 * b + k) < gI S 1420) ∧ ¬ (gA S 72 (gA S 77 (6 * b + k)).toNat = 0 ∧ gA S 73 (gA S 77 (6 * b + k)).toNat = 0) ∧ gA S 74 (gA S 77 (6 * b + k)).toNat = gA S 74 b - 1) ∧ (0 < k → gA S 76 (6 * b + k) ≤ gA S 18 (gA S 77 (6 * b + k)).toNat) ∧ ((k : Int) + 1 < gA S 75 b → gA S 19 (gA S 77 (6 * b + k)).toNat < gA S 76 (6 * b + (k + 1)))
theorem s_slot2 {a b : Int} {s : MS} : pc (m_x8_slot_v2 a b s) (fun r => r = a * 6 + b) := by
  unfold m_x8_slot_v2
  exact pc_some rfl
theorem s_isBlk2 {p : Int} {S : MS} : pc (m_x8_isBlock_v2 p S) (fun r => (r = 1 ∧ 0 ≤ p ∧ p < gI S 1420) ∨ (r = 0 ∧ ¬ (0 ≤ p ∧ p < gI S 1420))) := by
  unfold m_x8_isBlock_v2 m_x8_isBlock_v2_J16 m_x8_isBlock_v2_J17
  exact pc_rg (pc_if (fun c => pc_bo (pc_some (Or.inr ⟨rfl, fun w => by omega⟩))) (fun c => pc_rg (pc_rg (pc_if (fun c2 => pc_bo (pc_some (Or.inr ⟨rfl, fun w => by omega⟩))) (fun c2 => pc_bo (pc_some (Or.inl ⟨rfl, by omega, by omega⟩)))))))
set_option maxHeartbeats 1000000 in
theorem s_child {b k : Nat} {S : MS} : pc (m_x4_isSoundChild (b : Int) (k : Int) S) (fun r => (r = 1 ∧ CHK S b k) ∨ (r = 0 ∧ ¬ CHK S b k)) := by
  have tb : ((b : Nat) : Int).toNat = b := Int.toNat_natCast _
  have sl : ∀ r : Int, r = (b : Int) * 6 + (k : Int) → r.toNat = 6 * b + k := fun r h => by omega
  have sl2 : ∀ r : Int, r = (b : Int) * 6 + ((k : Int) + 1) → r.toNat = 6 * b + (k + 1) := fun r h => by omega
  unfold m_x4_isSoundChild m_x4_isSoundChild_J49
  refine pc_bq s_slot2 (fun r18 h18 => pc_rdI (fun _ => ?_))
  rw [sl r18 h18]
  generalize hc : gA S 77 (6 * b + k) = ch
  refine pc_bq s_isBlk2 (fun r21 h21 => pc_rg (pc_if (fun c => pc_some (Or.inr ⟨rfl, fun w => ?_⟩)) (fun c => ?_)))
  · have w1 := w.1.1
    rw [hc] at w1
    rcases h21 with ⟨a, _⟩ | ⟨_, a⟩
    · exact absurd (a.symm.trans c) (by decide)
    · exact a w1
  have in1 : 0 ≤ ch ∧ ch < gI S 1420 := by
    rcases h21 with ⟨_, a⟩ | ⟨a, _⟩
    · exact a
    · exact absurd a c
  obtain ⟨x, hx⟩ : ∃ x : Nat, ch = (x : Int) := ⟨ch.toNat, by omega⟩
  rw [hx] at in1 ⊢
  have tx : ((x : Nat) : Int).toNat = x := Int.toNat_natCast _
  have hc' : (gA S 77 (6 * b + k)).toNat = x := by rw [hc, hx, tx]
  refine pc_bq (s_free2 in1.2) (fun r25 h25 => pc_rg (pc_if (fun c2 => pc_rdI (fun _ => pc_rdI (fun _ => ?_))) (fun c2 => pc_some (Or.inr ⟨rfl, fun w => ?_⟩))))
  · have nf : ¬ (gA S 72 x = 0 ∧ gA S 73 x = 0) := by
      rcases h25 with ⟨a, _⟩ | ⟨_, a⟩
      · exact absurd (a.symm.trans c2) (by decide)
      · exact a
    rw [tx, tb]
    -- behind the least key
    have J78 : (0 < k → gA S 76 (6 * b + k) ≤ gA S 18 x) → gA S 74 x = gA S 74 b - 1 → pc (m_x4_isSoundChild_J78 S (b : Int) (k : Int) (x : Int)) (fun r => (r = 1 ∧ CHK S b k) ∨ (r = 0 ∧ ¬ CHK S b k)) := fun lo lv => by
      unfold m_x4_isSoundChild_J78 m_x4_isSoundChild_J113 m_x4_isSoundChild_J118
      have YES : ((k : Int) + 1 < gA S 75 b → gA S 19 x < gA S 76 (6 * b + (k + 1))) → CHK S b k := fun h => by
        unfold CHK
        rw [hc', hc, hx]
        exact ⟨⟨in1, nf, lv⟩, lo, h⟩
      refine pc_rdI (fun _ => ?_)
      rw [tb]
      refine pc_rg (pc_rg (pc_if (fun d => pc_bo (pc_some (Or.inl ⟨rfl, YES (fun w => absurd w (by omega))⟩))) (fun d => pc_rdI (fun _ => pc_bq s_slot2 (fun r12 h12 => pc_rdI (fun _ => ?_))))))
      rw [tx, sl2 r12 h12]
      refine pc_rg (pc_rg (pc_if (fun d2 => pc_bo (pc_some (Or.inr ⟨rfl, fun w => ?_⟩))) (fun d2 => pc_bo (pc_some (Or.inl ⟨rfl, YES (fun _ => by omega)⟩)))))
      have y := w.2.2 (by omega)
      rw [hc'] at y
      omega
    refine pc_rg (pc_rg (pc_if (fun d => ?_) (fun d => pc_some (Or.inr ⟨rfl, fun w => ?_⟩))))
    · refine pc_rg (pc_if (fun d2 => J78 (fun w => absurd w (by omega)) d) (fun d2 => pc_rdI (fun _ => pc_bq s_slot2 (fun r37 h37 => pc_rdI (fun _ => ?_)))))
      rw [tx, sl r37 h37]
      refine pc_rg (pc_rg (pc_if (fun d3 => J78 (fun _ => d3) d) (fun d3 => pc_some (Or.inr ⟨rfl, fun w => ?_⟩))))
      have y := w.2.1 (by omega)
      rw [hc'] at y
      exact d3 y
    · have y := w.1.2.2
      rw [hc'] at y
      exact d y
  · have y := w.1.2.1
    rw [hc'] at y
    rcases h25 with ⟨_, a⟩ | ⟨a, _⟩
    · exact y a
    · exact absurd a c2
/-- a block, by the least and the greatest keys below its children -/
def SBkI (S : MS) (b : Nat) : Prop := (∀ k : Nat, (gA S 74 b = 0 ∨ 1 ≤ k) → (k : Int) + 1 < gA S 75 b → gA S 76 (6 * b + k) < gA S 76 (6 * b + (k + 1))) ∧ (gA S 74 b ≠ 0 → ∀ k : Nat, (k : Int) < gA S 75 b → CHK S b k)
/-- the least and the greatest key below a block -/
def LHk (S o : MS) (b : Nat) : Prop := (gA S 74 b = 0 → gA o 18 b = gA S 76 (6 * b) ∧ gA o 19 b = gA S 76 (6 * b + (gA S 75 b - 1).toNat)) ∧ (gA S 74 b ≠ 0 → gA o 18 b = gA S 18 (gA S 77 (6 * b)).toNat ∧ gA o 19 b = gA S 19 (gA S 77 (6 * b + (gA S 75 b - 1).toNat)).toNat)
def KLH (S o : MS) (b : Nat) : Prop := (∀ x, x ≠ b → gA o 18 x = gA S 18 x ∧ gA o 19 x = gA S 19 x) ∧ (∀ k, k ≠ 18 → k ≠ 19 → gA o k = gA S k) ∧ ∀ i, gI o i = gI S i
set_option maxHeartbeats 2000000 in
theorem s_sblock {b : Nat} {S : MS} (hc : 1 ≤ gA S 75 b ∧ gA S 75 b ≤ 6) (ho : gA S 74 b ≠ 0 → ∀ k : Nat, (k : Int) < gA S 75 b → gA S 74 (gA S 77 (6 * b + k)).toNat = gA S 74 b - 1 → (gA S 77 (6 * b + k)).toNat ≠ b) : pc (m_x4_isSoundBlock (b : Int) S) (fun q => (q.1 = 1 ∧ SBkI S b ∧ LHk S q.2 b ∧ KLH S q.2 b) ∨ (q.1 = 0 ∧ ¬ SBkI S b)) := by
  have tb : ((b : Nat) : Int).toNat = b := Int.toNat_natCast _
  obtain ⟨c, hcc⟩ : ∃ c : Nat, gA S 75 b = ((c + 1 : Nat) : Int) := ⟨(gA S 75 b - 1).toNat, by omega⟩
  have c1 : gA S 75 b - 1 = (c : Int) := by omega
  have tc : (gA S 75 b - 1).toNat = c := by omega
  have tc' : ((c : Nat) : Int).toNat = c := Int.toNat_natCast _
  -- the children
  have L120 : ∀ (n k : Nat), k ≤ c + 1 → (∀ j : Nat, (gA S 74 b = 0 ∨ 1 ≤ j) → (j : Int) + 1 < gA S 75 b → gA S 76 (6 * b + j) < gA S 76 (6 * b + (j + 1))) → gA S 74 b ≠ 0 → (∀ j, j < k → CHK S b j) → pc (m_x4_isSoundBlock_L120 n (b : Int) (c : Int) (k : Int) S) (fun q => (q.1 = 1 ∧ SBkI S b ∧ LHk S q.2 b ∧ KLH S q.2 b) ∨ (q.1 = 0 ∧ ¬ SBkI S b)) := by
    refine fr_ind (fun _ _ _ _ _ => pc_none) (fun n ih k hk hr hl hd => ?_)
    show pc (m_x4_isSoundBlock_b120 (m_x4_isSoundBlock_L120 n) (b : Int) (c : Int) (k : Int) S) _
    unfold m_x4_isSoundBlock_b120
    refine pc_rg (pc_rg (pc_if (fun d => ?_) (fun d => pc_bq s_child (fun r21 h21 => pc_rg (pc_if (fun d2 => pc_some (Or.inr ⟨rfl, fun w => ?_⟩)) (fun d2 => ?_))))))
    · have kc : k = c + 1 := by omega
      refine pc_bq s_slot2 (fun r9 h9 => pc_rdI (fun _ => pc_rdI (fun _ => pc_inb (pc_stn (fun s13 e13 => pc_bq s_slot2 (fun r15 h15 => pc_rdI (fun _ => pc_rdI (fun _ => pc_inb (pc_stn (fun s19 e19 => pc_some ?_))))))))))
      rw [tb, show r9.toNat = 6 * b by omega] at e13
      have k77 : gA s13 77 = gA S 77 := q_Aa e13 (by decide)
      have k19 : gA s13 19 = gA S 19 := q_Aa e13 (by decide)
      rw [tb, show r15.toNat = 6 * b + c by omega, k77, k19] at e19
      have v18 : gA s19 18 = upZ (gA S 18) b (gA S 18 (gA S 77 (6 * b)).toNat) := (q_Aa e19 (by decide) : gA s19 18 = gA s13 18).trans (q_AA e13)
      have v19 : gA s19 19 = upZ (gA S 19) b (gA S 19 (gA S 77 (6 * b + c)).toNat) := q_AA e19
      refine Or.inl ⟨rfl, ⟨hr, fun _ j hj => hd j (by omega)⟩, ⟨fun z => absurd z hl, fun _ => ⟨?_, ?_⟩⟩, ⟨fun x hx => ?_, fun j j1 j2 => (q_Aa e19 j2).trans (q_Aa e13 j1), fun i => (q_Ai e19).trans (q_Ai e13)⟩⟩
      · show gA s19 18 b = _
        rw [v18, upZ_s]
      · show gA s19 19 b = _
        rw [v19, upZ_s, tc]
      · show gA s19 18 x = _ ∧ gA s19 19 x = _
        rw [v18, v19, upZ_n hx, upZ_n hx]; exact ⟨rfl, rfl⟩
    · rcases h21 with ⟨a, _⟩ | ⟨_, a⟩
      · exact absurd (a.symm.trans d2) (by decide)
      · exact a (w.2 hl k (by omega))
    · have ck : CHK S b k := by
        rcases h21 with ⟨_, a⟩ | ⟨a, _⟩
        · exact a
        · exact absurd a d2
      rw [show ((k : Int) + 1) = ((k + 1 : Nat) : Int) by omega]
      refine ih (k + 1) (by omega) hr hl (fun j hj => ?_)
      by_cases z : j = k
      · rw [z]; exact ck
      · exact hd j (by omega)
  -- the keys
  have L29 : ∀ (n k : Nat), (gA S 74 b ≠ 0 → 1 ≤ k) → (k ≤ c ∨ (gA S 74 b ≠ 0 ∧ k = 1)) → (∀ j : Nat, j < k → (gA S 74 b = 0 ∨ 1 ≤ j) → (j : Int) + 1 < gA S 75 b → gA S 76 (6 * b + j) < gA S 76 (6 * b + (j + 1))) → pc (m_x4_isSoundBlock_L29 n (b : Int) (c : Int) (k : Int) S) (fun q => (q.1 = 1 ∧ SBkI S b ∧ LHk S q.2 b ∧ KLH S q.2 b) ∨ (q.1 = 0 ∧ ¬ SBkI S b)) := by
    refine fr_ind (fun _ _ _ _ => pc_none) (fun n ih k h1 h2 hr => ?_)
    show pc (m_x4_isSoundBlock_b29 (m_x4_isSoundBlock_L29 n) (b : Int) (c : Int) (k : Int) S) _
    unfold m_x4_isSoundBlock_b29
    refine pc_rg (pc_rg (pc_if (fun d => pc_rdI (fun _ => ?_)) (fun d => pc_bq s_slot2 (fun r45 h45 => pc_rdI (fun _ => pc_bq s_slot2 (fun r48 h48 => pc_rdI (fun _ => ?_)))))))
    · rw [tb]
      have hr' : ∀ j : Nat, (gA S 74 b = 0 ∨ 1 ≤ j) → (j : Int) + 1 < gA S 75 b → gA S 76 (6 * b + j) < gA S 76 (6 * b + (j + 1)) := fun j j1 j2 => hr j (by omega) j1 j2
      refine pc_rg (pc_if (fun z => ?_) (fun z => ?_))
      · refine pc_bq s_slot2 (fun r35 h35 => pc_rdI (fun _ => pc_inb (pc_stn (fun s38 e38 => pc_bq s_slot2 (fun r40 h40 => pc_rdI (fun _ => pc_inb (pc_stn (fun s43 e43 => pc_some ?_))))))))
        rw [tb, show r35.toNat = 6 * b by omega] at e38
        have k76 : gA s38 76 = gA S 76 := q_Aa e38 (by decide)
        rw [tb, show r40.toNat = 6 * b + c by omega, k76] at e43
        have v18 : gA s43 18 = upZ (gA S 18) b (gA S 76 (6 * b)) := (q_Aa e43 (by decide) : gA s43 18 = gA s38 18).trans (q_AA e38)
        have v19 : gA s43 19 = upZ (gA s38 19) b (gA S 76 (6 * b + c)) := q_AA e43
        have k19 : gA s38 19 = gA S 19 := q_Aa e38 (by decide)
        refine Or.inl ⟨rfl, ⟨hr', fun w => absurd z w⟩, ⟨fun _ => ⟨?_, ?_⟩, fun w => absurd z w⟩, ⟨fun x hx => ?_, fun j j1 j2 => (q_Aa e43 j2).trans (q_Aa e38 j1), fun i => (q_Ai e43).trans (q_Ai e38)⟩⟩
        · show gA s43 18 b = _
          rw [v18, upZ_s]
        · show gA s43 19 b = _
          rw [v19, upZ_s, tc]
        · show gA s43 18 x = _ ∧ gA s43 19 x = _
          rw [v18, v19, k19, upZ_n hx, upZ_n hx]; exact ⟨rfl, rfl⟩
      · exact L120 FU 0 (by omega) hr' z (fun j hj => absurd hj (by omega))
    · rw [show r45.toNat = 6 * b + k by omega, show r48.toNat = 6 * b + (k + 1) by omega]
      refine pc_rg (pc_rg (pc_if (fun d2 => ?_) (fun d2 => pc_some (Or.inr ⟨rfl, fun w => d2 (w.1 k ?_ (by omega))⟩))))
      · rw [show ((k : Int) + 1) = ((k + 1 : Nat) : Int) by omega]
        refine ih (k + 1) (fun w => by have := h1 w; omega) (Or.inl (by omega)) (fun j hj j1 j2 => ?_)
        by_cases z : j = k
        · rw [z]; exact d2
        · exact hr j (by omega) j1 j2
      · by_cases z : gA S 74 b = 0
        · exact Or.inl z
        · exact Or.inr (h1 z)
  unfold m_x4_isSoundBlock m_x4_isSoundBlock_J23
  refine pc_rdI (fun _ => pc_rdI (fun _ => ?_))
  rw [tb, c1]
  refine pc_rg (pc_if (fun z => L29 FU 0 (fun w => absurd z w) (Or.inl (by omega)) (fun j hj => absurd hj (by omega))) (fun z => L29 FU 1 (fun _ => Nat.le_refl _) (by omega) (fun j hj j1 _ => ?_)))
  rcases j1 with y | y
  · exact absurd y z
  · omega
