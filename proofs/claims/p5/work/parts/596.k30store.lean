/-! ===== a whole STORE on both sides ===== -/
def FINS (q o : Int × MS) : Prop := (q.1 = 0 ∧ gI q.2 100 ≠ 0 ∧ o.1 = -1 ∧ gI o.2 7 = gI q.2 100 ∧ gI o.2 8 = gI q.2 101) ∨ (q.1 = 1 ∧ gI q.2 100 = 0 ∧ ∃ T : MS, (gI T 5 = 0 ∧ gI T 6 = -1) ∧ PLJ q.2 T ∧ gI T 46 = gI q.2 783 ∧ 1 ≤ gI q.2 783 ∧ m_x12_store_J109 T = some o)
theorem fin_br {q : Int × MS} {T : MS} (h1 : q.1 = 0) (hB : BR q.2 T) : ∀ m : Nat, pc (m_x12_store_L87 m T) (fun o => FINS q o) := fun m =>
  pc_mono (m_gone (by rw [hB.2.1]; exact hB.1) m) (fun o ho => Or.inl ⟨h1, hB.1, ho.1, ho.2.1.trans hB.2.1, ho.2.2.trans hB.2.2⟩)
def INS (x : Int) (S T : MS) : Prop := SY S T ∧ PLJ S T ∧ gI S 941 ≤ gI S 108 ∧ gI T 46 = gI S 783 ∧ x = gI S 783 ∧ (1 ≤ gI S 783 ∧ gI S 783 ≤ 60) ∧ Rg S ∧ gI S 785 ≤ gI S 783 ∧ gI S 9999 = 2 ∧ gI T 6 = -1
theorem y_sloop : ∀ (n : Nat) (x : Int) (S T : MS), INS x S T → pc (m_x6_readStore_L14 n x S) (fun q => ∀ m : Nat, pc (m_x12_store_L87 m T) (fun o => FINS q o)) := by
  refine fr_ind (fun _ _ _ _ => pc_none) (fun n ih x S T I => ?_)
  obtain ⟨hS, hP, hb, h46, hx, h783, hR, h785, h99, h6⟩ := I
  have hk := hS.2.2.1.1
  have hy := hS.2.2.1.2.2
  have E : gI S 111 = -1 ↔ gI S 107 = 0 := by
    rcases hk.2.2 with ⟨_, a, b, _⟩ | ⟨a, b, _, _, g⟩
    · exact ⟨fun _ => a, fun _ => b⟩
    · have k1 := hk.1
      have p : 0 ≤ gI S 111 := by rw [b]; exact hy _ (by omega)
      have q : gI S 107 ≠ 0 := by
        rcases g with ⟨_, _, _, g⟩ | ⟨_, _, g⟩ | ⟨_, _, _, g⟩
        · rcases g with ⟨_, g⟩ | ⟨_, g⟩ <;> omega
        · rcases g with ⟨_, g⟩ | ⟨_, g⟩ <;> omega
        · omega
      exact ⟨fun z => by omega, fun z => absurd z q⟩
  have REF : ∀ q : Int × MS, (∀ T' : MS, SY S T' → PLJ S T' → gI T' 2 = gI S 108 → gI T' 46 = gI S 783 → gI T' 6 = -1 → (gI S 107 = 0 → pc (m_x12_store_J109 T') (fun o => FINS q o)) ∧ (gI S 107 ≠ 0 → ∀ m : Nat, pc (bn (m_x12_statementTold T') (fun s20 => m_x12_store_L87 m s20)) (fun o => FINS q o))) → ∀ m : Nat, pc (m_x12_store_L87 m T) (fun o => FINS q o) := fun q k m => by
    cases m with
    | zero => exact pc_none
    | succ m =>
      show pc (m_x12_store_b87 (m_x12_store_L87 m) T) _
      unfold m_x12_store_b87
      refine pc_rg (pc_if (fun c => pc_bn (fun q16 e16 => ?_)) (fun c => absurd hS.2.1.2 c))
      obtain ⟨hS', h2, h1⟩ := y_look hS q16 e16
      have F : F_x12_look T q16.2 := fr_x12_look e16
      have K := k q16.2 hS' (PL_f hP (Fr.rf S) (Fr_w F (by decide))) h2 ((F.1 46 (by decide)).trans h46) ((F.1 6 (by decide)).trans h6)
      exact pc_rg (pc_if (fun c2 => K.1 (E.1 (h1.symm.trans c2))) (fun c2 => K.2 (fun z => c2 (h1.trans (E.2 z))) m))
  have END : gI S 107 = 0 → pc (m_x6_readStore_J38 S) (fun q => ∀ m : Nat, pc (m_x12_store_L87 m T) (fun o => FINS q o)) := fun z => by
    unfold m_x6_readStore_J38 m_x6_readStore_J75 m_x6_readStore_J87
    refine pc_rg (pc_if (fun _ => pc_rg (pc_if (fun c => absurd c (by omega)) (fun _ => pc_rg (pc_if (fun _ => pc_bo (pc_some ?_)) (fun c => absurd hS.2.1.1 c))))) (fun c => absurd z c))
    exact REF (1, S) (fun T' y p a b c6 => ⟨fun _ o eo => Or.inr ⟨rfl, hS.2.1.1, T', ⟨y.2.1.2, c6⟩, p, b, h783.1, eo⟩, fun c => absurd z c⟩)
  show pc (m_x6_readStore_b14 (m_x6_readStore_L14 n) x S) _
  unfold m_x6_readStore_b14
  refine pc_rg (pc_if (fun c => ?_) (fun c => pc_rg (pc_if (fun c2 => END c2) (fun c2 => pc_bn (fun s25 e25 => ?_)))))
  · by_cases z : gI S 107 = 0
    · exact END z
    · unfold m_x6_readStore_J38 m_x6_readStore_J75 m_x6_readStore_J87
      refine pc_rg (pc_if (fun c2 => absurd c2 z) (fun _ => pc_bq (s_fail hS.2.1.1) (fun q17 h17 => ?_)))
      have n0 : gI q17.2 100 ≠ 0 := by rw [h17.1]; decide
      refine pc_rg (pc_if (fun c3 => absurd c3 n0) (fun _ => pc_bo (pc_some ?_)))
      exact REF (0, q17.2) (fun T' y p a b _ => ⟨fun c3 => absurd c3 z, fun _ m => pc_bq (m_stmt60 y.2.1.2 (by omega)) (fun s20 g => fin_br (q := (0, q17.2)) rfl (BR_mk (by decide) h17 ⟨g.1, g.2.trans a⟩) m)⟩)
  · have W := wp_det (w_x6_readStatement hR ⟨h785, by omega⟩ h99) e25
    have F25 : F_x6_readStatement S s25 := fr_x6_readStatement e25
    intro q eq
    refine REF q (fun T' y p a b c6 => ⟨fun c3 => absurd c3 c2, fun _ m => pc_bn (fun o eo => ?_)⟩)
    have D : STD S s25 o := y_stmt (Q := fun X => Rg X ∧ gI X 9999 = 2) y a p hb (by omega) b ⟨by omega, by omega⟩
      (fun p1 X eX hp => ⟨(wp_det (w_x6_beginFormula hR hp h99) eX).1, ((fr_x6_beginFormula eX : F_x6_beginFormula S X).1 9999 (by decide)).trans h99⟩)
      (fun X o1 hX e1 => by
        rcases e1 with e1 | e1
        · exact (wp_det (w_x6_readTestC hX.1 hX.2) e1).2.1
        · exact (wp_det (w_x6_readSumC hX.1 hX.2) e1).2.1) e25 o eo
    rcases D with ⟨d1, d2, d3, d4, d5⟩ | B
    · have w785 := W.2.1.1
      have o6 : gI o 6 = -1 := nb_x12_statementTold o eo (fun _ => c6) d1.2.1.2
      exact ih (x + 1) s25 o ⟨d1, d2, d3, d4, by omega, by omega, W.1, w785, (F25.1 9999 (by decide)).trans h99, o6⟩ q eq m
    · have g := s_gone n (x + 1) s25 B.1 q eq
      exact fin_br g.1 (BR_go B g.2 (FKp.rf o)) m
