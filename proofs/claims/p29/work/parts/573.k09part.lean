/-! ===== a part, on both sides ===== -/
def FCT (s : MS) : Prop := gI s 107 = 1 ∧ (gI s 110 = 13 ∨ (gI s 110 = 11 ∧ (gI s 105 = 0 ∨ gI s 105 = 2)) ∨ (gI s 110 = 12 ∧ gI s 105 = 0) ∨ (gI s 110 = 14 ∧ gI s 105 ≠ 0) ∨ ((gI s 110 = 15 ∨ gI s 110 = 16 ∨ gI s 110 = 17 ∨ gI s 110 = 18) ∧ gI s 105 = 3))
theorem s_isFact {s : MS} : pc (m_x6_isFact s) (fun r => (r = 1 ∧ FCT s) ∨ (r = 0 ∧ ¬ FCT s)) := by
  unfold m_x6_isFact m_x6_isFact_J77 m_x6_isFact_J82 m_x6_isFact_J95 m_x6_isFact_J108 m_x6_isFact_J109 m_x6_isFact_J122 FCT
  refine pc_rg (pc_if (fun c => pc_rg (pc_if (fun c1 => pc_rg (pc_if (fun c2 => pc_bo (pc_some ?_)) (fun c2 => pc_rg (pc_if (fun c3 => pc_bo (pc_some ?_)) (fun c3 => pc_bo (pc_some ?_)))))) (fun c1 => pc_if (fun c4 => pc_rg (pc_if (fun c2 => pc_bo (pc_some ?_)) (fun c2 => pc_bo (pc_some ?_)))) (fun c4 => pc_if (fun c5 => pc_some ?_) (fun c5 => pc_if (fun c6 => pc_rg (pc_if (fun c2 => pc_bo (pc_some ?_)) (fun c2 => pc_bo (pc_some ?_)))) (fun c6 => pc_if (fun c7 => pc_rg (pc_if (fun c2 => pc_bo (pc_some ?_)) (fun c2 => pc_bo (pc_some ?_)))) (fun c7 => pc_if (fun c8 => pc_rg (pc_if (fun c2 => pc_bo (pc_some ?_)) (fun c2 => pc_bo (pc_some ?_)))) (fun c8 => pc_if (fun c9 => pc_rg (pc_if (fun c2 => pc_bo (pc_some ?_)) (fun c2 => pc_bo (pc_some ?_)))) (fun c9 => pc_if (fun c10 => pc_rg (pc_if (fun c2 => pc_bo (pc_some ?_)) (fun c2 => pc_bo (pc_some ?_)))) (fun c10 => pc_some ?_)))))))))) (fun c => pc_some ?_))
  all_goals omega
/-- none of what opens, no number -/
def NOTS (s : MS) : Prop := gI s 107 ≠ 2 ∧ ¬ (gI s 107 = 3 ∧ gI s 111 = 40) ∧ ¬ (gI s 107 = 1 ∧ (gI s 110 = 25 ∨ gI s 110 = 26)) ∧ ¬ (gI s 105 = 3 ∧ gI s 107 = 1 ∧ (gI s 110 = 19 ∨ gI s 110 = 20))
theorem s_part {rgs : (MS → Option MS) × (MS → Option MS)} {s : MS} (h0 : gI s 100 = 0) : pc (m_x6_readPart rgs s) (fun s' =>
    (gI s 107 = 2 ∧ ∃ q, m_x6_expectNumber 0 1000000 s = some q ∧ m_x0_add q.1 q.2 = some s') ∨
    ((gI s 107 = 3 ∧ gI s 111 = 40) ∧ ∃ q, m_x6_opens s = some q ∧ ((q.1 = 0 ∧ s' = q.2) ∨ (q.1 ≠ 0 ∧ ∃ s2 s3 s4, m_x6_advance q.2 = some s2 ∧ rgs.1 s2 = some s3 ∧ m_x6_expectSign 41 s3 = some s4 ∧ sI s4 106 (gI s4 106 - 1) = s'))) ∨
    (gI s 107 = 1 ∧ ∃ c, ((gI s 110 = 25 ∧ c = -5) ∨ (gI s 110 = 26 ∧ c = -6)) ∧ m_x6_readChoice rgs c s = some s') ∨
    ((gI s 107 = 1 ∧ gI s 105 = 3) ∧ ∃ c, ((gI s 110 = 19 ∧ c = -13) ∨ (gI s 110 = 20 ∧ c = -14)) ∧ m_x6_readOther rgs c s = some s') ∨
    (NOTS s ∧ ((FCT s ∧ ∃ s1, m_x0_add (-100 - gI s 110) s = some s1 ∧ m_x6_advance s1 = some s') ∨ (¬ FCT s ∧ gI s' 100 = 1 ∧ gI s' 101 = gI s 108)))) := by
  unfold m_x6_readPart m_x6_readPart_J86 m_x6_readPart_J103 m_x6_readPart_J135 m_x6_readPart_J152 m_x6_readPart_J158 m_x6_readPart_J196
  have hF : NOTS s → pc (bn (m_x6_isFact s) (fun r4 => rg r4 (if r4 = 0 then bn (m_x6_fail 1 (gI s 108) s) (fun qr9 => some qr9.2) else eqg (gI s 9999) 2 (bn (m_x0_add ((-100) - (gI s 110)) s) (fun s12 => bn (m_x6_advance s12) (fun s14 => some s14)))))) (fun s' => NOTS s ∧ ((FCT s ∧ ∃ s1, m_x0_add (-100 - gI s 110) s = some s1 ∧ m_x6_advance s1 = some s') ∨ (¬ FCT s ∧ gI s' 100 = 1 ∧ gI s' 101 = gI s 108))) := fun hn => by
    refine pc_bq s_isFact (fun r4 h4 => pc_rg (pc_if (fun c => pc_bq (s_fail h0) (fun q9 h9 => pc_some ⟨hn, Or.inr ⟨?_, h9⟩⟩)) (fun c => pc_eqg (pc_bn (fun s12 e12 => pc_bn (fun s14 e14 => pc_some ⟨hn, Or.inl ⟨?_, s12, e12, e14⟩⟩))))))
    · rcases h4 with q | q
      · omega
      · exact q.2
    · rcases h4 with q | q
      · exact q.2
      · exact absurd q.1 c
  refine pc_rg (pc_if (fun c => pc_eqg (pc_bn (fun q72 e72 => pc_bn (fun s74 e74 => pc_some (Or.inl ⟨c, q72, e72, e74⟩))))) (fun c => ?_))
  refine pc_bq s_isSign (fun r36 h36 => pc_rg (pc_if (fun c1 => ?_) (fun c1 => ?_)))
  · have n36 : ¬ (gI s 107 = 3 ∧ gI s 111 = 40) := by
      rcases h36 with q | q
      · omega
      · exact q.2
    have CH : (gI s 107 = 1 ∧ (gI s 110 = 25 ∨ gI s 110 = 26)) → pc (bn (m_x6_isWord 25 s) (fun r30 => rg r30 (if r30 = 0 then bn (m_x6_readChoice rgs (-6) s) (fun s27 => some s27) else bn (m_x6_readChoice rgs (-5) s) (fun s27 => some s27)))) (fun s' => gI s 107 = 1 ∧ ∃ c, ((gI s 110 = 25 ∧ c = -5) ∨ (gI s 110 = 26 ∧ c = -6)) ∧ m_x6_readChoice rgs c s = some s') := fun hw => by
      refine pc_bq s_isWord (fun r30 h30 => pc_rg (pc_if (fun c2 => pc_bn (fun s27 e27 => pc_some ⟨hw.1, -6, by omega, e27⟩)) (fun c2 => pc_bn (fun s27 e27 => pc_some ⟨hw.1, -5, by omega, e27⟩))))
    have OT : (gI s 107 = 1 ∧ (gI s 110 = 19 ∨ gI s 110 = 20)) → gI s 105 = 3 → pc (bn (m_x6_isWord 19 s) (fun r21 => rg r21 (if r21 = 0 then bn (m_x6_readOther rgs (-14) s) (fun s18 => some s18) else bn (m_x6_readOther rgs (-13) s) (fun s18 => some s18)))) (fun s' => (gI s 107 = 1 ∧ gI s 105 = 3) ∧ ∃ c, ((gI s 110 = 19 ∧ c = -13) ∨ (gI s 110 = 20 ∧ c = -14)) ∧ m_x6_readOther rgs c s = some s') := fun hw hm => by
      refine pc_bq s_isWord (fun r21 h21 => pc_rg (pc_if (fun c2 => pc_bn (fun s18 e18 => pc_some ⟨⟨hw.1, hm⟩, -14, by omega, e18⟩)) (fun c2 => pc_bn (fun s18 e18 => pc_some ⟨⟨hw.1, hm⟩, -13, by omega, e18⟩))))
    refine pc_bq s_isWord (fun r40 h40 => pc_rg (pc_if (fun c2 => ?_) (fun c2 => ?_)))
    · refine pc_bq s_isWord (fun r44 h44 => pc_rg (pc_if (fun c3 => pc_rg (pc_if (fun c4 => ?_) (fun c4 => ?_))) (fun c3 => ?_)))
      · refine pc_bq s_isWord (fun r50 h50 => pc_rg (pc_if (fun c5 => pc_bq s_isWord (fun r54 h54 => pc_rg (pc_if (fun c6 => ?_) (fun c6 => ?_)))) (fun c5 => ?_)))
        · exact pc_mono (hF ⟨c, n36, by omega, by omega⟩) (fun o h => Or.inr (Or.inr (Or.inr (Or.inr h))))
        · exact pc_mono (OT (by omega) c4) (fun o h => Or.inr (Or.inr (Or.inr (Or.inl h))))
        · exact pc_mono (OT (by omega) c4) (fun o h => Or.inr (Or.inr (Or.inr (Or.inl h))))
      · exact pc_mono (hF ⟨c, n36, by omega, by omega⟩) (fun o h => Or.inr (Or.inr (Or.inr (Or.inr h))))
      · exact pc_mono (CH (by omega)) (fun o h => Or.inr (Or.inr (Or.inl h)))
    · exact pc_mono (CH (by omega)) (fun o h => Or.inr (Or.inr (Or.inl h)))
  · have y36 : gI s 107 = 3 ∧ gI s 111 = 40 := by
      rcases h36 with q | q
      · exact q.2
      · exact absurd q.1 c1
    exact pc_bn (fun q59 e59 => pc_rg (pc_if (fun c2 => pc_some (Or.inr (Or.inl ⟨y36, q59, e59, Or.inl ⟨c2, rfl⟩⟩))) (fun c2 => pc_bn (fun s63 e63 => pc_bn (fun s65 e65 => pc_bn (fun s67 e67 => pc_stn (fun s68 e68 => pc_some (Or.inr (Or.inl ⟨y36, q59, e59, Or.inr ⟨c2, s63, s65, s67, e63, e65, e67, e68⟩⟩)))))))))
section RE9
variable {P : MS → Prop} {x13 : Int} {k0 b0 : Int} {f0 : Nat → Int} {s s' s'' : MS} {K E : List Int}
theorem J237_ok {T : MS} {x : Int} (h : ∀ o, m_x12_qCode x T = some o → PE P x13 o) : pc (m_x12_qPartTold_J237 x T) (QA P x13) := by
  unfold m_x12_qPartTold_J237
  exact pc_bn (fun s4 e4 => pc_bq ((h s4 e4).1 FU) (fun s6 h6 => pc_some h6))
theorem J237_bad {T : MS} {x : Int} (h0 : gI T 5 ≠ 0) (hP : ∀ o, FKp 5 6 T o → P o) : pc (m_x12_qPartTold_J237 x T) (QA P x13) := by
  refine J237_ok (fun o e => ?_)
  have f : FKp 5 6 T o := FKp.of (fr_x12_qCode e) (by decide) (by decide)
  exact PE_bad (FKp_ne f h0) (fun u hu => hP u (f.tr hu))
/-- ahead of a part: what the reference finds -/
theorem r_b2 {t : MS} {Q : MS → Prop} {m : Nat} (h : REL k0 b0 f0 s t K [])
    (hi : gI s 107 = 3 → gI s 111 = 40 → ∀ S, REL k0 b0 f0 s S K [] → gI S 2 = gI s 108 → pc (bn (m_x12_qOpens 20 (gI S 2) S) (fun s92 => stn (sI s92 2 ((gI s92 2) + 1)) (fun s93 => m_x12_qPartTold_L2 m 1 s93))) Q)
    (hc : gI s 107 = 1 → (gI s 110 = 25 ∨ gI s 110 = 26) → ∀ S, REL k0 b0 f0 s S K [] → pc (m_x12_qPartTold_J78 (m_x12_qPartTold_L2 m) 1 S) Q)
    (ho : gI s 107 = 1 → gI s 105 = 3 → ∀ k : Nat, (k = 8 ∧ gI s 110 = 19) ∨ (k = 9 ∧ gI s 110 = 20) → ∀ S, REL k0 b0 f0 s S K [] → gI S 2 = gI s 108 → pc (bn (m_x12_qOpens ((60 + (k : Int)) - 8) (gI S 2) S) (fun s88 => bn (m_x12_qAsksWord (k : Int) s88) (fun s90 => m_x12_qPartTold_L2 m 1 s90))) Q)
    (hx : ¬ (gI s 107 = 3 ∧ gI s 111 = 40) → ¬ (gI s 107 = 1 ∧ (gI s 110 = 25 ∨ gI s 110 = 26)) → ¬ (gI s 105 = 3 ∧ gI s 107 = 1 ∧ (gI s 110 = 19 ∨ gI s 110 = 20)) → ∀ S, REL k0 b0 f0 s S K [] → pc (m_x12_qPartTold_J186 S) Q) : pc (m_x12_qPartTold_L2 (m + 1) 1 t) Q := by
  show pc (m_x12_qPartTold_b2 (m_x12_qPartTold_L2 m) 1 t) Q
  unfold m_x12_qPartTold_b2 m_x12_qPartTold_J183
  have hb0 : gI t 5 = 0 := h.1.2.1.2
  refine pc_rg (pc_if (fun c => absurd c (by decide)) (fun _ => pc_rg (pc_if (fun _ => pc_bq (r_look h) (fun q69 h69 => ?_)) (fun c => absurd hb0 c))))
  obtain ⟨r69, S1⟩ := q69
  obtain ⟨hS1, a1, v1⟩ := h69
  dsimp only at hS1 a1 v1 ⊢
  refine pc_bq (r_wordOf hS1) (fun q72 h72 => ?_)
  obtain ⟨r72, S2⟩ := q72
  obtain ⟨hS2, a2, v2⟩ := h72
  dsimp only at hS2 a2 v2 ⊢
  refine pc_rg (pc_if (fun c => hi (TK_3 hS2.1.2.2.1.1 (by omega)) (by omega) S2 hS2 a2) (fun c => ?_))
  have n40 : ¬ (gI s 107 = 3 ∧ gI s 111 = 40) := fun q => c (by omega)
  have hr : ∀ S : MS, REL k0 b0 f0 s S K [] → (∀ j, j < 3 → gA S 89 j = wc 25 j) ∧ (∀ j, j < 3 → gA S 90 j = wc 26 j) := fun S hS => ⟨fun j hj => hS.1.2.2.2.2.2.2 10 (by decide) j hj, fun j hj => hS.1.2.2.2.2.2.2 11 (by decide) j hj⟩
  refine pc_bq (r_here (w := 25) hS2 (by decide) rfl (hr S2 hS2).1) (fun q77 h77 => pc_rg (pc_if (fun c1 => ?_) (fun c1 => ?_)))
  · refine pc_bq (r_here (w := 26) h77.1 (by decide) rfl (hr _ h77.1).2) (fun q82 h82 => pc_rg (pc_if (fun c2 => pc_rg (pc_if (fun c3 => ?_) (fun c3 => ?_))) (fun c2 => ?_)))
    · have n1 : ¬ (gI s 107 = 1 ∧ (gI s 110 = 25 ∨ gI s 110 = 26)) := fun q => by
        rcases h77.2.2 with g | g
        · omega
        · rcases h82.2.2 with g2 | g2
          · omega
          · rcases q.2 with w | w
            · exact g.2 ⟨q.1, w⟩
            · exact g2.2 ⟨q.1, w⟩
      have n2 : ¬ (gI s 105 = 3 ∧ gI s 107 = 1 ∧ (gI s 110 = 19 ∨ gI s 110 = 20)) := fun q => by
        rcases v2 with ⟨k, _, e, _⟩ | ⟨_, g⟩
        · omega
        · rcases q.2.2 with w | w
          · exact g 8 (by decide) ⟨q.2.1, w⟩ (by omega) (Or.inr (Or.inr (Or.inr ⟨q.1, Or.inr (by decide)⟩)))
          · exact g 9 (by decide) ⟨q.2.1, w⟩ (by omega) (Or.inr (Or.inr (Or.inr ⟨q.1, Or.inr (by decide)⟩)))
      cases m with
      | zero => exact pc_none
      | succ m =>
        show pc (m_x12_qPartTold_b2 (m_x12_qPartTold_L2 m) 0 q82.2) Q
        unfold m_x12_qPartTold_b2
        exact pc_rg (pc_if (fun _ => hx n40 n1 n2 q82.2 h82.1) (fun c => absurd rfl c))
    · rcases v2 with ⟨k, hk, e, hw, hp, ha⟩ | ⟨e, _⟩
      · rw [e]
        have k89 : k = 8 ∨ k = 9 := by omega
        have hm : gI s 105 = 3 := by
          unfold alw at ha
          omega
        refine ho hw.1 hm k ?_ q82.2 h82.1 h82.2.1
        rcases k89 with z | z
        · rw [z] at hw; exact Or.inl ⟨z, hw.2⟩
        · rw [z] at hw; exact Or.inr ⟨z, hw.2⟩
      · exact absurd e c3
    · rcases h82.2.2 with g | g
      · exact hc g.2.1 (Or.inr g.2.2) q82.2 h82.1
      · exact absurd g.1 c2
  · rcases h77.2.2 with g | g
    · exact hc g.2.1 (Or.inl g.2.2) q77.2 h77.1
    · exact absurd g.1 c1
/-- a word that is at hand is taken -/
theorem y_asks1 {wid wn w : Nat} {t : MS} (h : SY s t) (hw : w < 33) (hn : wn = wl w) (hr : ∀ j, j < wn → gA t wid j = wc w j) (hk : gI s 107 = 1 ∧ gI s 110 = (w : Int)) : pc (m_x12_asks wid wn t) (fun o => NX s o) := by
  unfold m_x12_asks m_x12_asks_J24
  refine pc_rg (pc_if (fun _ => pc_bq (y_takes h hw hn hr) (fun q6 h6 => pc_rg (pc_if (fun c2 => ?_) (fun c2 => pc_some ?_)))) (fun c => absurd h.2.1.2 c))
  · rcases h6 with g | ⟨_, g2, _⟩
    · omega
    · exact absurd hk g2
  · rcases h6 with ⟨_, _, _, g4⟩ | g
    · exact g4
    · exact absurd g.1 c2
theorem y_asksW {t : MS} (h : SY s t) {k : Nat} (hk : k < 10) (hw : gI s 107 = 1 ∧ gI s 110 = (wk k : Int)) : pc (m_x12_qAsksWord (k : Int) t) (fun o => NX s o) := by
  have key : pc (m_x12_asks (91 + k) (wl (wk k)) t) (fun o => NX s o) := by
    have e : wqJ (12 + k) = wk k := by
      have : ∀ k, k < 10 → wqJ (12 + k) = wk k := by decide
      exact this k hk
    have l : wk k < 33 := by
      have : ∀ k, k < 10 → wk k < 33 := by decide
      exact this k hk
    refine y_asks1 h l rfl (fun j hj => ?_) hw
    have := h.2.2.2.2.2.2 (12 + k) (by omega) j (by rw [e]; exact hj)
    rw [e, show 79 + (12 + k) = 91 + k by omega] at this
    exact this
  unfold m_x12_qAsksWord m_x12_qAsksWord_J159
  refine pc_rg (pc_if (fun c => ?_) (fun _ => pc_if (fun c => ?_) (fun _ => pc_if (fun c => ?_) (fun _ => pc_if (fun c => ?_) (fun _ => pc_if (fun c => ?_) (fun _ => pc_if (fun c => ?_) (fun _ => pc_if (fun c => ?_) (fun _ => pc_if (fun c => ?_) (fun _ => pc_if (fun c => ?_) (fun c => ?_))))))))))
  · have z : k = 0 := by omega
    rw [z] at key
    exact pc_bq key (fun o ho => pc_some ho)
  · have z : k = 1 := by omega
    rw [z] at key
    exact pc_bq key (fun o ho => pc_some ho)
  · have z : k = 2 := by omega
    rw [z] at key
    exact pc_bq key (fun o ho => pc_some ho)
  · have z : k = 3 := by omega
    rw [z] at key
    exact pc_bq key (fun o ho => pc_some ho)
  · have z : k = 4 := by omega
    rw [z] at key
    exact pc_bq key (fun o ho => pc_some ho)
  · have z : k = 5 := by omega
    rw [z] at key
    exact pc_bq key (fun o ho => pc_some ho)
  · have z : k = 6 := by omega
    rw [z] at key
    exact pc_bq key (fun o ho => pc_some ho)
  · have z : k = 7 := by omega
    rw [z] at key
    exact pc_bq key (fun o ho => pc_some ho)
  · have z : k = 8 := by omega
    rw [z] at key
    exact pc_bq key (fun o ho => pc_some ho)
  · have z : k = 9 := by omega
    rw [z] at key
    exact pc_bq key (fun o ho => pc_some ho)
/-- an atom: a word or a number -/
theorem r_J186 {S : MS} {Q : MS → Prop} (h : REL k0 b0 f0 s S K [])
    (hf : ∀ k : Nat, k < 8 → (gI s 107 = 1 ∧ gI s 110 = (wk k : Int)) → alw (gI s 105) (k : Int) → ∀ T, NX s T → (∀ i, 48 ≤ i → gI T i = gI S i) → (∀ j, gA T j = gA S j) → pc (m_x12_qPartTold_J237 (40 + (k : Int)) T) Q)
    (hn : (∀ k : Nat, k < 8 → (gI s 107 = 1 ∧ gI s 110 = (wk k : Int)) → ¬ alw (gI s 105) (k : Int)) → ∀ T, REL k0 b0 f0 s T K [] → pc (bn (m_x12_number 0 9999 T) (fun q13 => m_x12_qPartTold_J237 (1000 + q13.1) q13.2)) Q) : pc (m_x12_qPartTold_J186 S) Q := by
  unfold m_x12_qPartTold_J186 m_x12_qPartTold_J212
  have hb0 : gI S 5 = 0 := h.1.2.1.2
  refine pc_rg (pc_if (fun _ => pc_bn (fun q19 e19 => ?_)) (fun c => absurd hb0 c))
  have F19 : F_x12_qWordOf S q19.2 := fr_x12_qWordOf e19
  have h19 := r_wordOf h q19 e19
  obtain ⟨r19, S2⟩ := q19
  obtain ⟨hS2, a2, v2⟩ := h19
  dsimp only at hS2 a2 v2 F19 ⊢
  refine pc_rg (pc_if (fun c => pc_rg (pc_if (fun _ => hn ?_ S2 hS2) (fun c2 => absurd c c2))) (fun c => ?_))
  · rcases v2 with ⟨k, _, e, _⟩ | ⟨_, g⟩
    · omega
    · exact fun k hk hw => g k (by omega) hw (by omega)
  · rcases v2 with ⟨k, hk, e, hw, hp, ha⟩ | ⟨e, _⟩
    · rw [e]
      refine pc_bn (fun s23 e23 => ?_)
      have hN := y_asksW hS2.1 hk hw s23 e23
      have F23 : F_x12_qAsksWord S2 s23 := fr_x12_qAsksWord e23
      refine pc_rg (pc_if (fun c2 => by omega) (fun _ => hf k (by omega) hw ha s23 hN (fun i hi => ?_) (fun j => ?_)))
      · rw [F23.1 i (by simp; omega), F19.1 i (by simp; omega)]
      · rw [F23.2.1 j (by simp), F19.2.1 j (by simp)]
    · exact absurd e c
end RE9
/-! ===== parts, products, sums: the same on both sides ===== -/
def SPart (g : MS → Option MS) : Prop := ∀ (s s' t : MS) (K : List Int) (k0 b0 : Int) (f0 : Nat → Int) (P : MS → Prop) (x13 : Int), g s = some s' → REL k0 b0 f0 s t K [] → (gI s' 100 = 0 → gI s 108 < gI s' 108 → gI s' 941 - gI s 941 ≤ gI s' 108 - gI s 108 → ∀ o, REL k0 b0 f0 s' o K [] → PE P x13 o) → (∀ o, BR s' o → P o) → PA P x13 t
def SSum (g : MS → Option MS) : Prop := ∀ (s s' t : MS) (K : List Int) (k0 b0 : Int) (f0 : Nat → Int) (P : MS → Prop) (x13 : Int), g s = some s' → REL k0 b0 f0 s t K [] → (¬ (1 ≤ hdk K ∧ hdk K ≤ 4) ∧ hdk K < 60) → (gI s' 100 = 0 → gI s 108 < gI s' 108 → gI s' 941 - gI s 941 ≤ gI s' 108 - gI s 108 → ¬ OPS s' → ∀ (o : MS) (E : List Int), REL k0 b0 f0 s' o K E → (∀ e, e ∈ E → 1 ≤ e ∧ e ≤ 4) → PB P x13 o) → (∀ o, BR s' o → P o) → PA P x13 t
def FKr (g : MS → Option MS) : Prop := ∀ s, pc (g s) (fun o => FKp 100 101 s o)
theorem BR_b {s s' o : MS} (f : FKp 100 101 s s') (h : BR s o) : BR s' o := BR_go h f (FKp.rf o)
theorem BR_0 {s t : MS} (h : BR s t) : gI t 5 ≠ 0 := by rw [h.2.1]; exact h.1
theorem dvl_b {f : Nat → Int} {a k : Nat} (h : ∀ j, j < k → isD (f (a + j))) (hk : k ≤ 4) : 0 ≤ dvl f a k ∧ dvl f a k ≤ 9999 := by
  have z : dvl f a 0 = 0 := rfl
  have e0 : dvl f a 1 = 10 * dvl f a 0 + f (a + 0) - 48 := rfl
  have e1 : dvl f a 2 = 10 * dvl f a 1 + f (a + 1) - 48 := rfl
  have e2 : dvl f a 3 = 10 * dvl f a 2 + f (a + 2) - 48 := rfl
  have e3 : dvl f a 4 = 10 * dvl f a 3 + f (a + 3) - 48 := rfl
  have hh : k = 0 ∨ k = 1 ∨ k = 2 ∨ k = 3 ∨ k = 4 := by omega
  rcases hh with q | q | q | q | q
  · rw [q]; omega
  · subst q
    have d0 := h 0 (by omega)
    omega
  · subst q
    have d0 := h 0 (by omega)
    have d1 := h 1 (by omega)
    omega
  · subst q
    have d0 := h 0 (by omega)
    have d1 := h 1 (by omega)
    have d2 := h 2 (by omega)
    omega
  · subst q
    have d0 := h 0 (by omega)
    have d1 := h 1 (by omega)
    have d2 := h 2 (by omega)
    have d3 := h 3 (by omega)
    omega
theorem nvl_b {s : MS} (h : TK s) (hk : gI s 107 = 2) (hl : gI s 109 - gI s 108 ≤ 4) : (0 ≤ nvl s ∧ nvl s ≤ 9999) ∧ gI s 108 < gI s 109 := by
  have k1 := h.1
  rcases h.2.2 with g | ⟨g1, g2, g3, g4, g⟩
  · omega
  · rcases g with ⟨_, _, _, g⟩ | ⟨_, ru, _⟩ | ⟨_, _, _, g⟩
    · rcases g with ⟨_, g⟩ | ⟨_, g⟩ <;> omega
    · refine ⟨dvl_b (fun j hj => ru.2.1 _ (by omega) (by omega)) (by omega), g3⟩
    · omega
section RF
variable {P : MS → Prop} {x13 : Int} {k0 b0 : Int} {f0 : Nat → Int} {s s' s1 : MS} {K E : List Int}
/-- both sides tell a step, the class ahead of the reference by no more than that -/
theorem REL_step {t o : MS} {c d : Int} (h : REL k0 b0 f0 s t K []) (hc : cr c d) (hb : gI s 941 + 1 ≤ gI s 108) (e : m_x0_add c s = some s') (g : m_x12_qCode d t = some o) : REL k0 b0 f0 s' o K [] ∧ gI s' 941 = gI s 941 + 1 ∧ (∀ i, i ≠ 941 → gI s' i = gI s i) := by
  have k1 := h.1.2.2.1.1.1
  obtain ⟨⟨a1, a2⟩, a3, a4⟩ := s_add (by omega) s' e
  obtain ⟨⟨r1, r2⟩, r3, r4⟩ := y_code o g
  refine ⟨REL_mk (E := []) h (SY_f (SY_c h.1 (fun i hi => a3 i (by omega)) (a4 4 (by decide)) (a4 6 (by decide))) (r3 2 (by decide)) (r3 3 (by decide)) (r3 4 (by decide)) (r3 5 (by decide)) (fun k hk => r4 k (by omega))) (OPN_e h.2.1 (a3 106 (by decide)) (a3 105 (by decide)) (r3 105 (by decide)) (r3 48 (by decide))) (r3 106 (by decide)) (r3 104 (by decide)) (r4 103 (by decide)) (CO_both h.2.2.2.1 hc a1 a2 r1 r2) (by rw [a1, a3 108 (by decide)]; exact hb), a1, a3⟩
theorem NX_c {o t : MS} (h : NX s t) (kI : ∀ i, i = 61 ∨ i = 100 ∨ (107 ≤ i ∧ i ≤ 111) → gI o i = gI s i) (k4 : gA o 4 = gA s 4) (k6 : gA o 6 = gA s 6) : NX o t := by
  obtain ⟨⟨h1, h2⟩, ⟨h3, h4⟩, ⟨h5, h5b, h5c⟩, h6, h8, h10⟩ := h
  exact ⟨⟨by rw [kI 61 (by omega)]; exact h1, fun j hj => by rw [k4]; rw [kI 61 (by omega)] at hj; exact h2 j hj⟩, ⟨by rw [kI 100 (by omega)]; exact h3, h4⟩, ⟨TK_e h5 (fun i hi => kI i (by omega)) k4, W6_e h5b k6, fun j hj => by rw [k4]; rw [kI 61 (by omega)] at hj; exact h5c j hj⟩, by rw [kI 109 (by omega)]; exact h6, by rw [k4]; exact h8, h10⟩
/-- a number -/
theorem P_num {t : MS} {q : Int × MS} (h : REL k0 b0 f0 s t K []) (hk : gI s 107 = 2) (e1 : m_x6_expectNumber 0 1000000 s = some q) (e2 : m_x0_add q.1 q.2 = some s') (hE : gI s' 100 = 0 → gI s 108 < gI s' 108 → gI s' 941 - gI s 941 ≤ gI s' 108 - gI s 108 → ∀ o, REL k0 b0 f0 s' o K [] → PE P x13 o) (hF : ∀ o, BR s' o → P o) : pc (bn (m_x12_number 0 9999 t) (fun q13 => m_x12_qPartTold_J237 (1000 + q13.1) q13.2)) (QA P x13) := by
  have hT := h.1.2.2.1.1
  have k1 := hT.1
  have b9 : 0 ≤ gI s 108 ∧ gI s 109 ≤ gI s 61 := by
    rcases hT.2.2 with q | q
    · omega
    · omega
  have hs := s_expNum h.1.2.1.1 b9 q e1
  obtain ⟨r, u⟩ := q
  dsimp only at hs e2
  have fk : FKp 100 101 u s' := FKp.of (fr_x0_add e2) (by decide) (by decide)
  refine pc_bn (fun q13 e13 => ?_)
  have hq := y_num h.1 (by omega) q13 e13
  have F13 : F_x12_number t q13.2 := fr_x12_number e13
  obtain ⟨r13, T⟩ := q13
  dsimp only at hq F13 ⊢
  rcases hq with ⟨a, _⟩ | ⟨a, b⟩ | ⟨a, a2, _⟩ | ⟨a, a2, b, b2⟩
  · exact absurd hk a
  · rcases hs with ⟨c, _⟩ | ⟨_, d⟩ | ⟨c, _⟩ | ⟨c, _⟩
    · exact absurd hk c
    · have B : BR s' T := BR_b fk (BR_mk (by decide) d b)
      exact J237_bad (BR_0 B) (BR_P B hF)
    · omega
    · omega
  · have := (nvl_b hT hk a.2).1
    omega
  · have nb := nvl_b hT hk a.2
    rcases hs with ⟨c, _⟩ | ⟨c, _⟩ | ⟨_, c, _⟩ | ⟨_, _, d, d2⟩
    · exact absurd hk c
    · omega
    · omega
    · obtain ⟨hR, hp⟩ := REL_adv h b2 (fun i hi => F13.1 i (by simp; omega)) (fun k => F13.2.1 k (by simp)) d2
      have Fa : F_x6_advance s u := fr_x6_advance d2
      have z941 : gI u 941 = gI s 941 := Fa.1 941 (by decide)
      have h5 := h.2.2.2.2.1
      refine J237_ok (fun o eo => ?_)
      obtain ⟨hR2, z1, z2⟩ := REL_step hR (c := r) (d := 1000 + r13) (by rw [b, d]; exact Or.inl ⟨nb.1.1, Or.inl rfl⟩) (by omega) e2 eo
      have z108 := z2 108 (by decide)
      exact hE hR2.1.2.1.1 (by omega) (by omega) o hR2
/-- a word that tells something of a block -/
theorem P_fact {t T : MS} {k : Nat} (h : REL k0 b0 f0 s t K []) (hk : k < 8) (hw : gI s 107 = 1 ∧ gI s 110 = (wk k : Int)) (hN : NX s T) (tI : ∀ i, 48 ≤ i → gI T i = gI t i) (tA : ∀ j, gA T j = gA t j) (e1 : m_x0_add (-100 - gI s 110) s = some s1) (e2 : m_x6_advance s1 = some s') (hE : gI s' 100 = 0 → gI s 108 < gI s' 108 → gI s' 941 - gI s 941 ≤ gI s' 108 - gI s 108 → ∀ o, REL k0 b0 f0 s' o K [] → PE P x13 o) : pc (m_x12_qPartTold_J237 (40 + (k : Int)) T) (QA P x13) := by
  have hT := h.1.2.2.1.1
  have k1 := hT.1
  have st : gI s 108 < gI s 109 ∧ gI s 108 < 1600 := by
    rcases hT.2.2 with q | q
    · omega
    · omega
  have h5 := h.2.2.2.2.1
  obtain ⟨⟨a1, a2⟩, a3, a4⟩ := s_add (by omega) s1 e1
  have hN1 : NX s1 T := NX_c hN (fun i hi => a3 i (by omega)) (a4 4 (by decide)) (a4 6 (by decide))
  obtain ⟨hS, hp⟩ := y_adv hN1 s' e2
  have Fa : F_x6_advance s1 s' := fr_x6_advance e2
  refine J237_ok (fun o eo => ?_)
  obtain ⟨⟨r1, r2⟩, r3, r4⟩ := y_code o eo
  have z1 : gI s' 941 = gI s 941 + 1 := (Fa.1 941 (by decide)).trans a1
  have z9 := a3 109 (by decide)
  have hc : cr (-100 - gI s 110) (40 + (k : Int)) := by
    have wks : wk 0 = 13 ∧ wk 1 = 11 ∧ wk 2 = 12 ∧ wk 3 = 14 ∧ wk 4 = 15 ∧ wk 5 = 16 ∧ wk 6 = 17 ∧ wk 7 = 18 := by decide
    have hh : k = 0 ∨ k = 1 ∨ k = 2 ∨ k = 3 ∨ k = 4 ∨ k = 5 ∨ k = 6 ∨ k = 7 := by omega
    have w2 := hw.2
    unfold cr
    rcases hh with q | q | q | q | q | q | q | q <;> (subst q; omega)
  have R : REL k0 b0 f0 s' o K [] := by
    refine REL_mk (E := []) h (SY_f hS (r3 2 (by decide)) (r3 3 (by decide)) (r3 4 (by decide)) (r3 5 (by decide)) (fun k hk => r4 k (by omega))) (OPN_e h.2.1 ((Fa.1 106 (by decide)).trans (a3 106 (by decide))) ((Fa.1 105 (by decide)).trans (a3 105 (by decide))) ((r3 105 (by decide)).trans (tI 105 (by decide))) ((r3 48 (by decide)).trans (tI 48 (by decide)))) ((r3 106 (by decide)).trans (tI 106 (by decide))) ((r3 104 (by decide)).trans (tI 104 (by decide))) ((r4 103 (by decide)).trans (tA 103)) (CO_both h.2.2.2.1 hc z1 ((Fa.2.1 48 (by decide)).trans a2) (by rw [r1, tI 102 (by decide)]) (by rw [r2, tA, tI 102 (by decide)])) (by omega)
  exact hE R.1.2.1.1 (by omega) (by omega) o R
end RF
theorem FCT_k {s : MS} (hm : 0 ≤ gI s 105 ∧ gI s 105 ≤ 3) : FCT s ↔ ∃ k : Nat, k < 8 ∧ (gI s 107 = 1 ∧ gI s 110 = (wk k : Int)) ∧ alw (gI s 105) (k : Int) := by
  have wks : wk 0 = 13 ∧ wk 1 = 11 ∧ wk 2 = 12 ∧ wk 3 = 14 ∧ wk 4 = 15 ∧ wk 5 = 16 ∧ wk 6 = 17 ∧ wk 7 = 18 := by decide
  constructor
  · intro h
    obtain ⟨h1, h2⟩ := h
    rcases h2 with q | ⟨q, z⟩ | ⟨q, z⟩ | ⟨q, z⟩ | ⟨q, z⟩
    · exact ⟨0, by omega, ⟨h1, by omega⟩, by unfold alw; omega⟩
    · exact ⟨1, by omega, ⟨h1, by omega⟩, by unfold alw; omega⟩
    · exact ⟨2, by omega, ⟨h1, by omega⟩, by unfold alw; omega⟩
    · exact ⟨3, by omega, ⟨h1, by omega⟩, by unfold alw; omega⟩
    · rcases q with q | q | q | q
      · exact ⟨4, by omega, ⟨h1, by omega⟩, by unfold alw; omega⟩
      · exact ⟨5, by omega, ⟨h1, by omega⟩, by unfold alw; omega⟩
      · exact ⟨6, by omega, ⟨h1, by omega⟩, by unfold alw; omega⟩
      · exact ⟨7, by omega, ⟨h1, by omega⟩, by unfold alw; omega⟩
  · rintro ⟨k, hk, ⟨h1, h2⟩, h3⟩
    have hh : k = 0 ∨ k = 1 ∨ k = 2 ∨ k = 3 ∨ k = 4 ∨ k = 5 ∨ k = 6 ∨ k = 7 := by omega
    unfold alw at h3
    refine ⟨h1, ?_⟩
    rcases hh with q | q | q | q | q | q | q | q <;> (subst q; omega)
theorem s_other {rgs : (MS → Option MS) × (MS → Option MS)} {c : Int} {s : MS} : pc (m_x6_readOther rgs c s) (fun s' => ∃ q, m_x6_opens s = some q ∧ ((q.1 = 0 ∧ s' = q.2) ∨ (q.1 ≠ 0 ∧ ∃ s8 s10 s13, m_x6_advance q.2 = some s8 ∧ rgs.2 s8 = some s10 ∧ m_x0_add c s10 = some s13 ∧ sI s13 106 (gI s13 106 - 1) = s'))) := by
  unfold m_x6_readOther m_x6_readOther_J33
  exact pc_bn (fun q4 e4 => pc_rg (pc_if (fun c1 => pc_some ⟨q4, e4, Or.inl ⟨c1, rfl⟩⟩) (fun c1 => pc_bn (fun s8 e8 => pc_bn (fun s10 e10 => pc_eqg (pc_bn (fun s13 e13 => pc_stn (fun s14 e14 => pc_some ⟨q4, e4, Or.inr ⟨c1, s8, s10, s13, e8, e10, e13, e14⟩⟩))))))))
theorem s_choice {rgs : (MS → Option MS) × (MS → Option MS)} {c : Int} {s : MS} : pc (m_x6_readChoice rgs c s) (fun s' => ∃ s3, m_x6_advance s = some s3 ∧ ((¬ (gI s3 107 = 3 ∧ gI s3 111 = 40) ∧ ∃ q, m_x6_fail 1 (gI s3 108) s3 = some q ∧ s' = q.2) ∨ ((gI s3 107 = 3 ∧ gI s3 111 = 40) ∧ ∃ q, m_x6_opens s3 = some q ∧ ((q.1 = 0 ∧ s' = q.2) ∨ (q.1 ≠ 0 ∧ ∃ s14 s16 s18 s20 s22 s23, m_x6_advance q.2 = some s14 ∧ rgs.1 s14 = some s16 ∧ m_x6_expectSign 44 s16 = some s18 ∧ rgs.1 s18 = some s20 ∧ m_x6_expectSign 41 s20 = some s22 ∧ sI s22 106 (gI s22 106 - 1) = s23 ∧ m_x0_add c s23 = some s'))))) := by
  unfold m_x6_readChoice m_x6_readChoice_J75
  refine pc_bn (fun s3 e3 => pc_bq s_isSign (fun r5 h5 => pc_rg (pc_if (fun c1 => pc_bn (fun q29 e29 => pc_some ⟨s3, e3, Or.inl ⟨?_, q29, e29, rfl⟩⟩)) (fun c1 => pc_bn (fun q10 e10 => pc_rg (pc_if (fun c2 => pc_some ⟨s3, e3, Or.inr ⟨?_, q10, e10, Or.inl ⟨c2, rfl⟩⟩⟩) (fun c2 => pc_bn (fun s14 e14 => pc_bn (fun s16 e16 => pc_bn (fun s18 e18 => pc_bn (fun s20 e20 => pc_bn (fun s22 e22 => pc_stn (fun s23 e23 => pc_eqg (pc_bn (fun s26 e26 => pc_some ⟨s3, e3, Or.inr ⟨?_, q10, e10, Or.inr ⟨c2, s14, s16, s18, s20, s22, s23, e14, e16, e18, e20, e22, e23, e26⟩⟩⟩)))))))))))))))
  · rcases h5 with g | g
    · omega
    · exact g.2
  · rcases h5 with g | g
    · exact g.2
    · exact absurd g.1 c1
  · rcases h5 with g | g
    · exact g.2
    · exact absurd g.1 c1
/-! ===== the ring of sums ===== -/
section RG
variable {rgs : (MS → Option MS) × (MS → Option MS)}
theorem cr_ch {cd c d : Int} (h : (cd = 21 ∧ c = -5) ∨ (cd = 22 ∧ c = -6)) (g : (cd + 2 = 23 ∧ d = 5) ∨ (cd + 2 = 24 ∧ d = 6)) : cr c d := Or.inr (Or.inl (by omega))
theorem cr_o {w c : Int} {k : Nat} (h : (w = 19 ∧ c = -13) ∨ (w = 20 ∧ c = -14)) (g : (k = 8 ∧ w = 19) ∨ (k = 9 ∧ w = 20)) : cr c (60 + (k : Int) - 8) := by
  rcases g with ⟨a, b⟩ | ⟨a, b⟩
  · exact Or.inr (Or.inr (Or.inl (by omega)))
  · exact Or.inr (Or.inr (Or.inr (Or.inl (by omega))))
theorem OPS_n {s : MS} (h : ¬ (gI s 107 = 3 ∧ (gI s 111 = 42 ∨ gI s 111 = 47 ∨ gI s 111 = 43 ∨ gI s 111 = 45))) : ¬ OPS s := h
theorem advs {s s' : MS} (h : TK s) (e : m_x6_advance s = some s') (h0 : gI s 100 = 0) (hW : W6 s) (hy : BY s) : gI s 109 ≤ gI s' 108 := by
  have k1 := h.1
  have b9 : 0 ≤ gI s 109 ∧ gI s 109 ≤ gI s 61 := by
    rcases h.2.2 with q | q
    · omega
    · omega
  exact (s_adv h0 ⟨b9, k1.2⟩ hW hy s' e).2.1.1
set_option maxHeartbeats 8000000 in
theorem SPart_of (h1 : SSum rgs.1) (h2 : SPart rgs.2) (f1 : FKr rgs.1) (f2 : FKr rgs.2) : SPart (m_x6_readPart rgs) := by
  intro s s' t K k0 b0 f0 P x13 e hR hE hF m
  cases m with
  | zero => exact pc_none
  | succ m =>
  have hT := hR.1.2.2.1.1
  have k1 := hT.1
  have h5 := hR.2.2.2.2.1
  have hm := hR.2.1.2.2
  have hs := s_part hR.1.2.1.1 s' e
  refine r_b2 hR (fun a b S hS h2' => ?_) (fun a b S hS => ?_) (fun a b k hk S hS h2' => ?_) (fun n1 n2 n3 S hS => ?_)
  · -- (
    rcases hs with ⟨c, _⟩ | ⟨_, q, eq, hq⟩ | ⟨c, _⟩ | ⟨c, _⟩ | ⟨c, _⟩
    · omega
    · obtain ⟨r, u⟩ := q
      dsimp only at hq
      refine pc_bq (r_opens hS eq) (fun s92 h92 => pc_stn (fun s93 e93 => ?_))
      rcases h92 with ⟨g1, g2, g3, g4, g5, g6⟩ | ⟨g1, g2, g3, g4⟩
      · rcases hq with ⟨z, _⟩ | ⟨_, s2, s3, s4, e2, e3, e4, e5⟩
        · omega
        · have hN : NX u s93 := NX_sg g3.1 (by rw [g6, g4 108 (by decide)]; exact h2') (by rw [g4 107 (by decide)]; exact a) e93
          obtain ⟨hR2, hp⟩ := REL_adv g3 hN (fun i hi => q_Ii e93 (by omega)) (fun k => q_Ia e93) e2
          have F2 : F_x6_advance u s2 := fr_x6_advance e2
          have z9 := g4 109 (by decide)
          have z8 := g4 108 (by decide)
          have z941 : gI s2 941 = gI s 941 := (F2.1 941 (by decide)).trans (g4 941 (by decide))
          have t3 := (TK_3' hT a).2.1
          have k34 : FKp 100 101 s3 s4 := fk_x6_expectSign s4 e4
          have k45 : FKp 100 101 s4 s' := FKp.i e5 (by decide) (by decide)
          refine h1 s2 s3 s93 (20 :: K) k0 b0 f0 P x13 e3 hR2 (by show ¬ (1 ≤ (20 : Int) ∧ (20 : Int) ≤ 4) ∧ (20 : Int) < 60; omega) (fun z3 l3 gr no o E hRo hEo => ?_) (fun o hb => hF o (BR_b (k34.tr k45) hb)) m
          have hs4 := s_expSign hRo.1.2.1.1 s4 e4
          rcases hs4 with ⟨⟨q1, q2⟩, ea⟩ | ⟨q1, q2⟩
          · have F4 : F_x6_advance s3 s4 := fr_x6_advance ea
            have t33 := TK_3' hRo.1.2.2.1.1 q1
            have p4 := advs hRo.1.2.2.1.1 ea hRo.1.2.1.1 hRo.1.2.2.1.2.1 hRo.1.2.2.1.2.2
            have y8 : gI s' 108 = gI s4 108 := q_Ii e5 (by decide)
            have y941 : gI s' 941 = gI s3 941 := (q_Ii e5 (by decide)).trans (F4.1 941 (by decide))
            refine PB_close hRo (Or.inl rfl) hEo q1 q2 ea e5 (fun _ o2 hR3 => hE hR3.1.2.1.1 (by omega) (by omega) o2 hR3) (fun d hd => by omega)
          · exact PB_open (s' := s') hRo (Or.inl rfl) hEo no q1 ⟨(k45 (by omega)).1.trans q2.1, (k45 (by omega)).2.trans q2.2⟩ hF
      · have B : BR s' s93 := by
          have kf : FKp 5 6 s92 s93 := FKp.i e93 (by decide) (by decide)
          rw [h2'] at g4
          rcases hq with ⟨_, z⟩ | ⟨z, _⟩
          · rw [z]; exact BR_go (BR_mk (k := 4) (p := gI s 108) (by decide) g2 ⟨g3, g4⟩) (FKp.rf u) kf
          · omega
        exact PA_bad (BR_0 B) (BR_P B hF) m
    · omega
    · omega
    · exact absurd ⟨a, b⟩ c.2.1
  · -- min, max
    rcases hs with ⟨c, _⟩ | ⟨c, _⟩ | ⟨_, c, hc, ec⟩ | ⟨_, c, hc, _⟩ | ⟨c, _⟩
    · omega
    · omega
    · obtain ⟨s3, e3, hs3⟩ := s_choice s' ec
      have F3 : F_x6_advance s s3 := fr_x6_advance e3
      have z941 : gI s3 941 = gI s 941 := F3.1 941 (by decide)
      have lt9 : gI s 108 < gI s 109 := by
        rcases hT.2.2 with q | q
        · omega
        · omega
      have rest : ∀ (x47 : Int) (T : MS), ((gI s 110 = 25 ∧ x47 = 1) ∨ (gI s 110 = 26 ∧ x47 = 0)) → REL k0 b0 f0 s3 T K [] → gI s 109 ≤ gI s3 108 → pc (m_x12_qPartTold_J101 (m_x12_qPartTold_L2 m) 1 x47 T) (QA P x13) := by
        intro x47 T hx hR3 hp3
        unfold m_x12_qPartTold_J101
        refine pc_bq (r_look hR3) (fun q51 h51 => ?_)
        obtain ⟨r51, T2⟩ := q51
        obtain ⟨hT2, a2, v2⟩ := h51
        dsimp only at hT2 a2 v2 ⊢
        have k3 := hT2.1.2.2.1.1.1
        have bad : ∀ U : MS, BR s' U → pc (m_x12_qPartTold_J144 (m_x12_qPartTold_L2 m) 1 U) (QA P x13) := fun U hB => by
          unfold m_x12_qPartTold_J144 m_x12_qPartTold_J183
          exact pc_bn (fun s31 e31 => by
            have B : BR s' s31 := BR_go hB (FKp.rf s') (fk_x12_asksSign s31 e31)
            exact PA_bad (BR_0 B) (BR_P B hF) m)
        refine pc_rg (pc_if (fun c40 => ?_) (fun c40 => ?_))
        · have k33 : gI s3 107 = 3 := TK_3 hT2.1.2.2.1.1 (by omega)
          have t33 := TK_3' hT2.1.2.2.1.1 k33
          rcases hs3 with ⟨q, _⟩ | ⟨_, q, eq, hq⟩
          · exact absurd ⟨k33, by omega⟩ q
          · obtain ⟨r, u⟩ := q
            dsimp only at hq
            have J139 : ∀ cd : Int, (cd = 21 ∧ c = -5) ∨ (cd = 22 ∧ c = -6) → pc (m_x12_qPartTold_J139 (m_x12_qPartTold_L2 m) 1 (gI T2 2) cd T2) (QA P x13) := by
              intro cd hcd
              unfold m_x12_qPartTold_J139
              refine pc_bq (r_opens hT2 eq) (fun s37 h37 => ?_)
              rcases h37 with ⟨g1, g2, g3, g4, g5, g6⟩ | ⟨g1, g2, g3, g4⟩
              · rcases hq with ⟨z, _⟩ | ⟨_, s14, s16, s18, s20, s22, s23, e14, e16, e18, e20, e22, e23, e26⟩
                · omega
                · unfold m_x12_qPartTold_J144 m_x12_qPartTold_J183
                  have u7 : gI u 107 = 3 := by rw [g4 107 (by decide)]; exact k33
                  have u11 : gI u 111 = 40 := by rw [g4 111 (by decide)]; omega
                  have u8 := g4 108 (by decide)
                  have u9 := g4 109 (by decide)
                  have u941 := g4 941 (by decide)
                  have ks : pc (m_x12_asksSign 40 s37) (fun o => REL k0 b0 f0 s14 o (cd :: K) [] ∧ gI u 109 ≤ gI s14 108) := by
                    unfold m_x12_asksSign m_x12_asksSign_J24
                    refine pc_rg (pc_if (fun _ => pc_bq (r_sign g3 (by omega)) (fun q6 h6 => pc_rg (pc_if (fun c2 => ?_) (fun c2 => pc_some ?_)))) (fun cc => absurd g3.1.2.1.2 cc))
                    · rcases h6 with g | ⟨_, g7, _⟩
                      · omega
                      · exact absurd ⟨u7, u11⟩ g7
                    · rcases h6 with ⟨_, _, _, _, g7⟩ | g
                      · exact g7 s14 e14
                      · exact absurd g.1 c2
                  refine pc_bq ks (fun s31 h31 => ?_)
                  have F14 : F_x6_advance u s14 := fr_x6_advance e14
                  have z14 : gI s14 941 = gI s 941 := (F14.1 941 (by decide)).trans (u941.trans z941)
                  have k67 : FKp 100 101 s23 s' := FKp.of (fr_x0_add e26) (by decide) (by decide)
                  have k56 : FKp 100 101 s22 s' := FKp.tr (FKp.i e23 (by decide) (by decide)) k67
                  have k46 : FKp 100 101 s20 s' := FKp.tr (fk_x6_expectSign s22 e22) k56
                  have k36 : FKp 100 101 s18 s' := FKp.tr (f1 s18 s20 e20) k46
                  have k26 : FKp 100 101 s16 s' := FKp.tr (fk_x6_expectSign s18 e18) k36
                  refine h1 s14 s16 s31 (cd :: K) k0 b0 f0 P x13 e16 h31.1 (by show ¬ (1 ≤ cd ∧ cd ≤ 4) ∧ cd < 60; omega) (fun z3 l3 gr no o E hRo hEo => ?_) (fun o hb => hF o (BR_b k26 hb)) m
                  refine PB_comma hRo (by omega) hEo no e18 (fun z18 o2 hR18 l18 => ?_) (fun o hb => hF o (BR_b k36 hb))
                  have z1816 : gI s18 941 = gI s16 941 := by
                    rcases s_expSign hRo.1.2.1.1 s18 e18 with ⟨_, ea⟩ | ⟨_, q2⟩
                    · exact (fr_x6_advance ea).1 941 (by decide)
                    · omega
                  refine h1 s18 s20 o2 ((cd + 2) :: K) k0 b0 f0 P x13 e20 hR18 (by show ¬ (1 ≤ cd + 2 ∧ cd + 2 ≤ 4) ∧ cd + 2 < 60; omega) (fun z20 l20 gr20 no20 o3 E3 hR20 hE20 => ?_) (fun o hb => hF o (BR_b k46 hb))
                  rcases s_expSign hR20.1.2.1.1 s22 e22 with ⟨⟨q1, q2⟩, ea⟩ | ⟨q1, q2⟩
                  · have F22 : F_x6_advance s20 s22 := fr_x6_advance ea
                    have t20 := TK_3' hR20.1.2.2.1.1 q1
                    have p22 := advs hR20.1.2.2.1.1 ea hR20.1.2.1.1 hR20.1.2.2.1.2.1 hR20.1.2.2.1.2.2
                    have y8 : gI s23 108 = gI s22 108 := q_Ii e23 (by decide)
                    have y941 : gI s23 941 = gI s20 941 := (q_Ii e23 (by decide)).trans (F22.1 941 (by decide))
                    refine PB_close hR20 (by omega) hE20 q1 q2 ea e23 (fun zz => by omega) (fun d hd T o4 hRT eo => ?_)
                    obtain ⟨hR5, w1, w2⟩ := REL_step hRT (c := c) (d := d) (cr_ch hcd hd) (by omega) e26 eo
                    have w8 := w2 108 (by decide)
                    exact hE hR5.1.2.1.1 (by omega) (by omega) o4 hR5
                  · exact PB_open (s' := s') hR20 (by omega) hE20 no20 q1 ⟨(k56 (by omega)).1.trans q2.1, (k56 (by omega)).2.trans q2.2⟩ hF
              · have B : BR s' s37 := by
                  rw [a2] at g4
                  rcases hq with ⟨_, z⟩ | ⟨z, _⟩
                  · rw [z]; exact BR_mk (k := 4) (p := gI s3 108) (by decide) g2 ⟨g3, g4⟩
                  · omega
                exact bad s37 B
            unfold m_x12_qPartTold_J118
            refine pc_rg (pc_if (fun z => by omega) (fun _ => pc_rg (pc_if (fun z => J139 22 (by omega)) (fun z => J139 21 (by omega)))))
        · unfold m_x12_qPartTold_J118
          refine pc_rg (pc_if (fun _ => ?_) (fun z => absurd rfl z))
          unfold m_x12_qPartTold_J144 m_x12_qPartTold_J183
          refine pc_bn (fun s31 e31 => ?_)
          have B : BR s' s31 := by
            have g : pc (m_x12_asksSign 40 T2) (fun o => BR s' o) := by
              unfold m_x12_asksSign m_x12_asksSign_J24
              refine pc_rg (pc_if (fun _ => pc_bq (r_sign hT2 (by omega)) (fun q6 h6 => pc_rg (pc_if (fun c2 => ?_) (fun c2 => ?_)))) (fun cc => absurd hT2.1.2.1.2 cc))
              · rcases h6 with g | ⟨_, g7, g8, g9⟩
                · omega
                · refine pc_bq (m_fail g8.1.2.1.2) (fun s10 h10 => pc_some ?_)
                  rw [g9] at h10
                  rcases hs3 with ⟨_, q, eq, ez⟩ | ⟨q, _⟩
                  · rw [ez]
                    exact BR_mk (by decide) (s_fail hT2.1.2.1.1 q eq) h10
                  · exact absurd q g7
              · rcases h6 with ⟨_, g7, g8, _⟩ | g
                · omega
                · exact absurd g.1 c2
            exact g s31 e31
          exact PA_bad (BR_0 B) (BR_P B hF) m
      unfold m_x12_qPartTold_J78
      have rw1 : (∀ j, j < 3 → gA S 89 j = wc 25 j) ∧ (∀ j, j < 3 → gA S 90 j = wc 26 j) := ⟨fun j hj => hS.1.2.2.2.2.2.2 10 (by decide) j hj, fun j hj => hS.1.2.2.2.2.2.2 11 (by decide) j hj⟩
      refine pc_bn (fun q58 e58 => ?_)
      have F58 : F_x12_takes S q58.2 := fr_x12_takes e58
      have h58 := y_takes (w := 25) hS.1 (by decide) rfl rw1.1 q58 e58
      obtain ⟨r58, T⟩ := q58
      dsimp only at h58 F58 ⊢
      rcases h58 with ⟨g1, g2, g3, g4⟩ | ⟨g1, g2, g3, g4⟩
      · refine pc_rg (pc_if (fun z => by omega) (fun _ => ?_))
        obtain ⟨r1, r2⟩ := REL_adv hS g4 (fun i hi => F58.1 i (by simp; omega)) (fun k => F58.2.1 k (by simp)) e3
        exact rest r58 T (by omega) r1 r2
      · refine pc_rg (pc_if (fun _ => ?_) (fun z => absurd g1 z))
        have w26 : gI s 110 = 26 := by
          rcases b with z | z
          · exact absurd ⟨a, z⟩ g2
          · exact z
        have tA : ∀ k, gA T k = gA S k := fun k => F58.2.1 k (by simp)
        refine pc_bn (fun s62 e62 => ?_)
        have F62 : F_x12_asks T s62 := fr_x12_asks e62
        have hN := y_asks1 (w := 26) g3 (by decide) rfl (fun j hj => by rw [tA]; exact rw1.2 j hj) ⟨a, w26⟩ s62 e62
        obtain ⟨r1, r2⟩ := REL_adv hS hN (fun i hi => by rw [F62.1 i (by simp; omega), F58.1 i (by simp; omega)]) (fun k => by rw [F62.2.1 k (by simp), tA]) e3
        exact rest r58 s62 (by omega) r1 r2
    · omega
    · exact absurd ⟨a, b⟩ c.2.2.1
  · -- refs, key
    rcases hs with ⟨c, _⟩ | ⟨c, _⟩ | ⟨_, c, hc, _⟩ | ⟨_, c, hc, ec⟩ | ⟨c, _⟩
    · omega
    · omega
    · omega
    · obtain ⟨q, eq, hq⟩ := s_other s' ec
      obtain ⟨r, u⟩ := q
      dsimp only at hq
      have wks : wk 8 = 19 ∧ wk 9 = 20 := by decide
      refine pc_bq (r_opens hS eq) (fun s88 h88 => pc_bn (fun s90 e90 => ?_))
      rcases h88 with ⟨g1, g2, g3, g4, g5, g6⟩ | ⟨g1, g2, g3, g4⟩
      · rcases hq with ⟨z, _⟩ | ⟨_, s8, s10, s13, e8, e10, e13, e14⟩
        · omega
        · have hw : gI u 107 = 1 ∧ gI u 110 = (wk k : Int) := by
            rw [g4 107 (by decide), g4 110 (by decide)]
            rcases hk with ⟨z, w⟩ | ⟨z, w⟩
            · rw [z]; exact ⟨a, by omega⟩
            · rw [z]; exact ⟨a, by omega⟩
          have hN := y_asksW g3.1 (by omega : k < 10) hw s90 e90
          have F90 : F_x12_qAsksWord s88 s90 := fr_x12_qAsksWord e90
          obtain ⟨hR8, hp⟩ := REL_adv g3 hN (fun i hi => F90.1 i (by simp; omega)) (fun j => F90.2.1 j (by simp)) e8
          have F8 : F_x6_advance u s8 := fr_x6_advance e8
          have z9 := g4 109 (by decide)
          have z941 : gI s8 941 = gI s 941 := (F8.1 941 (by decide)).trans (g4 941 (by decide))
          have lt9 : gI s 108 < gI s 109 := by
            rcases hT.2.2 with q | q
            · omega
            · omega
          have k13 : FKp 100 101 s10 s' := FKp.tr (FKp.of (fr_x0_add e13) (by decide) (by decide)) (FKp.i e14 (by decide) (by decide))
          refine h2 s8 s10 s90 ((60 + (k : Int) - 8) :: K) k0 b0 f0 P x13 e10 hR8 (fun z10 l10 gr o hRo => ?_) (fun o hb => hF o (BR_b k13 hb)) m
          refine PE_of hRo (by omega) (c := c) (cr_o hc hk) (by omega) e13 e14 (fun o2 hR2 => ?_)
          have k1' := hRo.1.2.2.1.1.1
          obtain ⟨⟨w1, _⟩, w3, _⟩ := s_add (by have := hRo.2.2.2.2.1; omega) s13 e13
          have y941 : gI s' 941 = gI s10 941 + 1 := (q_Ii e14 (by decide)).trans w1
          have y108 : gI s' 108 = gI s10 108 := (q_Ii e14 (by decide)).trans (w3 108 (by decide))
          exact hE hR2.1.2.1.1 (by omega) (by omega) o2 hR2
      · have B : BR s' s90 := by
          have kf : FKp 5 6 s88 s90 := fk_x12_qAsksWord s90 e90
          rw [h2'] at g4
          rcases hq with ⟨_, z⟩ | ⟨z, _⟩
          · rw [z]; exact BR_go (BR_mk (k := 4) (p := gI s 108) (by decide) g2 ⟨g3, g4⟩) (FKp.rf u) kf
          · omega
        exact PA_bad (BR_0 B) (BR_P B hF) m
    · exact absurd ⟨b, a, by omega⟩ c.2.2.2
  · -- an atom
    rcases hs with ⟨c, q, e1, e2⟩ | ⟨c, _⟩ | ⟨c1, c, hc, _⟩ | ⟨c1, c, hc, _⟩ | ⟨c, hc⟩
    · refine r_J186 hS (fun k hk hw => by omega) (fun _ T hT2 => P_num hT2 c e1 e2 hE hF)
    · exact absurd c n1
    · exact absurd ⟨c1, by omega⟩ n2
    · exact absurd ⟨c1.2, c1.1, by omega⟩ n3
    · rcases hc with ⟨fc, s1, e1, e2⟩ | ⟨nf, hb⟩
      · refine r_J186 hS (fun k hk hw ha T hN tI tA => P_fact hS hk hw hN tI tA e1 e2 hE) (fun hn T hT2 => ?_)
        obtain ⟨k, hk, hw, ha⟩ := (FCT_k hm).1 fc
        exact absurd ha (hn k hk hw)
      · refine r_J186 hS (fun k hk hw ha T hN tI tA => absurd ((FCT_k hm).2 ⟨k, hk, hw, ha⟩) nf) (fun hn T hT2 => ?_)
        refine pc_bn (fun q13 e13 => ?_)
        have hq := y_num hT2.1 (by omega) q13 e13
        obtain ⟨r13, T3⟩ := q13
        dsimp only at hq ⊢
        rcases hq with ⟨_, b⟩ | ⟨a, _⟩ | ⟨a, _⟩ | ⟨a, _⟩
        · have B : BR s' T3 := BR_mk (by decide) hb b
          exact J237_bad (BR_0 B) (BR_P B hF)
        · exact absurd a.1 c.1
        · exact absurd a.1 c.1
        · exact absurd a.1 c.1
end RG
/-! ===== products and sums ===== -/
def MUL (s : MS) : Prop := gI s 107 = 3 ∧ (gI s 111 = 42 ∨ gI s 111 = 47)
def ADD (s : MS) : Prop := gI s 107 = 3 ∧ (gI s 111 = 43 ∨ gI s 111 = 45)
section RH
variable {rgs : (MS → Option MS) × (MS → Option MS)}
theorem s_prodL {lr : Int → MS → Option MS} {x2 : Int} {s : MS} : pc (m_x6_readProduct_b6 rgs lr x2 s) (fun s' => (¬ MUL s ∧ s' = s) ∨ (1600 ≤ x2 ∧ s' = s) ∨ ((MUL s ∧ x2 < 1600) ∧ ∃ c s8 s10 s13, ((gI s 111 = 42 ∧ c = -3) ∨ (gI s 111 = 47 ∧ c = -4)) ∧ m_x6_advance s = some s8 ∧ m_x6_readPart rgs s8 = some s10 ∧ m_x0_add c s10 = some s13 ∧ lr (x2 + 1) s13 = some s')) := by
  unfold m_x6_readProduct_b6 m_x6_readProduct_J70 m_x6_readProduct_J31 m_x6_readProduct_J47
  have J : MUL s → x2 < 1600 → pc (bn (m_x6_isSign 42 s) (fun r17 => rg r17 (if r17 = 0 then bn (m_x6_advance s) (fun s8 => bn (m_x6_readPart rgs s8) (fun s10 => eqg (gI s10 9999) 2 (bn (m_x0_add (-4) s10) (fun s13 => lr (x2 + 1) s13)))) else bn (m_x6_advance s) (fun s8 => bn (m_x6_readPart rgs s8) (fun s10 => eqg (gI s10 9999) 2 (bn (m_x0_add (-3) s10) (fun s13 => lr (x2 + 1) s13))))))) (fun s' => (¬ MUL s ∧ s' = s) ∨ (1600 ≤ x2 ∧ s' = s) ∨ ((MUL s ∧ x2 < 1600) ∧ ∃ c s8 s10 s13, ((gI s 111 = 42 ∧ c = -3) ∨ (gI s 111 = 47 ∧ c = -4)) ∧ m_x6_advance s = some s8 ∧ m_x6_readPart rgs s8 = some s10 ∧ m_x0_add c s10 = some s13 ∧ lr (x2 + 1) s13 = some s')) := fun hm hx => by
    have hm' := hm
    unfold MUL at hm'
    refine pc_bq s_isSign (fun r17 h17 => pc_rg (pc_if (fun c => pc_bn (fun s8 e8 => pc_bn (fun s10 e10 => pc_eqg (pc_bn (fun s13 e13 => fun o eo => Or.inr (Or.inr ⟨⟨hm, hx⟩, -4, s8, s10, s13, by omega, e8, e10, e13, eo⟩)))))) (fun c => pc_bn (fun s8 e8 => pc_bn (fun s10 e10 => pc_eqg (pc_bn (fun s13 e13 => fun o eo => Or.inr (Or.inr ⟨⟨hm, hx⟩, -3, s8, s10, s13, by omega, e8, e10, e13, eo⟩))))))))
  refine pc_rg (pc_if (fun c => pc_some (Or.inr (Or.inl ⟨c, rfl⟩))) (fun c => pc_bq s_isSign (fun r23 h23 => pc_rg (pc_if (fun c2 => pc_bq s_isSign (fun r27 h27 => pc_rg (pc_if (fun c3 => pc_some (Or.inl ⟨fun hm => ?_, rfl⟩)) (fun c3 => J ?_ (by omega))))) (fun c2 => J ?_ (by omega))))))
  · unfold MUL at hm
    omega
  · unfold MUL
    omega
  · unfold MUL
    omega
theorem s_sumL {lr : Int → MS → Option MS} {x2 : Int} {s : MS} : pc (m_x6_readSum_b6 rgs lr x2 s) (fun s' => (¬ ADD s ∧ s' = s) ∨ (1600 ≤ x2 ∧ s' = s) ∨ ((ADD s ∧ x2 < 1600) ∧ ∃ c s8 s10 s13, ((gI s 111 = 43 ∧ c = -1) ∨ (gI s 111 = 45 ∧ c = -2)) ∧ m_x6_advance s = some s8 ∧ m_x6_readProduct rgs s8 = some s10 ∧ m_x0_add c s10 = some s13 ∧ lr (x2 + 1) s13 = some s')) := by
  unfold m_x6_readSum_b6 m_x6_readSum_J69 m_x6_readSum_J31 m_x6_readSum_J46
  have J : ADD s → x2 < 1600 → pc (bn (m_x6_isSign 43 s) (fun r17 => rg r17 (if r17 = 0 then bn (m_x6_advance s) (fun s8 => bn (m_x6_readProduct rgs s8) (fun s10 => eqg (gI s10 9999) 2 (bn (m_x0_add (-2) s10) (fun s13 => lr (x2 + 1) s13)))) else bn (m_x6_advance s) (fun s8 => bn (m_x6_readProduct rgs s8) (fun s10 => eqg (gI s10 9999) 2 (bn (m_x0_add (-1) s10) (fun s13 => lr (x2 + 1) s13))))))) (fun s' => (¬ ADD s ∧ s' = s) ∨ (1600 ≤ x2 ∧ s' = s) ∨ ((ADD s ∧ x2 < 1600) ∧ ∃ c s8 s10 s13, ((gI s 111 = 43 ∧ c = -1) ∨ (gI s 111 = 45 ∧ c = -2)) ∧ m_x6_advance s = some s8 ∧ m_x6_readProduct rgs s8 = some s10 ∧ m_x0_add c s10 = some s13 ∧ lr (x2 + 1) s13 = some s')) := fun hm hx => by
    have hm' := hm
    unfold ADD at hm'
    refine pc_bq s_isSign (fun r17 h17 => pc_rg (pc_if (fun c => pc_bn (fun s8 e8 => pc_bn (fun s10 e10 => pc_eqg (pc_bn (fun s13 e13 => fun o eo => Or.inr (Or.inr ⟨⟨hm, hx⟩, -2, s8, s10, s13, by omega, e8, e10, e13, eo⟩)))))) (fun c => pc_bn (fun s8 e8 => pc_bn (fun s10 e10 => pc_eqg (pc_bn (fun s13 e13 => fun o eo => Or.inr (Or.inr ⟨⟨hm, hx⟩, -1, s8, s10, s13, by omega, e8, e10, e13, eo⟩))))))))
  refine pc_rg (pc_if (fun c => pc_some (Or.inr (Or.inl ⟨c, rfl⟩))) (fun c => pc_bq s_isSign (fun r23 h23 => pc_rg (pc_if (fun c2 => pc_bq s_isSign (fun r27 h27 => pc_rg (pc_if (fun c3 => pc_some (Or.inl ⟨fun hm => ?_, rfl⟩)) (fun c3 => J ?_ (by omega))))) (fun c2 => J ?_ (by omega))))))
  · unfold ADD at hm
    omega
  · unfold ADD
    omega
  · unfold ADD
    omega
theorem fk_PL (f1 : FKr rgs.1) (f2 : FKr rgs.2) : ∀ (n : Nat) (x2 : Int) (s : MS), pc (m_x6_readProduct_L6 rgs n x2 s) (fun o => FKp 100 101 s o) := by
  refine fr_ind (fun _ _ => pc_none) (fun n ih x2 s => ?_)
  show pc (m_x6_readProduct_b6 rgs (m_x6_readProduct_L6 rgs n) x2 s) _
  refine pc_mono s_prodL (fun o h => ?_)
  rcases h with ⟨_, e⟩ | ⟨_, e⟩ | ⟨_, c, s8, s10, s13, _, e8, e10, e13, eo⟩
  · rw [e]; exact FKp.rf s
  · rw [e]; exact FKp.rf s
  · exact (((FKp.of (fr_x6_advance e8) (by decide) (by decide)).tr (fk_x6_readPart f1 f2 s10 e10)).tr (FKp.of (fr_x0_add e13) (by decide) (by decide))).tr (ih _ s13 o eo)
theorem fk_SL (f1 : FKr rgs.1) (f2 : FKr rgs.2) : ∀ (n : Nat) (x2 : Int) (s : MS), pc (m_x6_readSum_L6 rgs n x2 s) (fun o => FKp 100 101 s o) := by
  refine fr_ind (fun _ _ => pc_none) (fun n ih x2 s => ?_)
  show pc (m_x6_readSum_b6 rgs (m_x6_readSum_L6 rgs n) x2 s) _
  refine pc_mono s_sumL (fun o h => ?_)
  rcases h with ⟨_, e⟩ | ⟨_, e⟩ | ⟨_, c, s8, s10, s13, _, e8, e10, e13, eo⟩
  · rw [e]; exact FKp.rf s
  · rw [e]; exact FKp.rf s
  · exact (((FKp.of (fr_x6_advance e8) (by decide) (by decide)).tr (fk_x6_readProduct f1 f2 s10 e10)).tr (FKp.of (fr_x0_add e13) (by decide) (by decide))).tr (ih _ s13 o eo)
theorem cr_op {c x : Int} (h : -12 ≤ c ∧ c ≤ -1 ∧ x = -c) : cr c x := Or.inr (Or.inl h)
/-- a product's loop -/
theorem SPL (hp : SPart (m_x6_readPart rgs)) (f1 : FKr rgs.1) (f2 : FKr rgs.2) : ∀ (n : Nat) (x2 : Int) (s s' : MS), m_x6_readProduct_L6 rgs n x2 s = some s' → ∀ (t : MS) (K E : List Int) (k0 b0 : Int) (f0 : Nat → Int) (P : MS → Prop) (x13 : Int), REL k0 b0 f0 s t K E → (∀ e, e ∈ E → e = 3 ∨ e = 4) → ¬ (hdk K = 3 ∨ hdk K = 4) → (0 ≤ x2 ∧ x2 ≤ gI s 108) → (gI s' 100 = 0 → gI s 108 ≤ gI s' 108 → gI s' 941 - gI s 941 ≤ gI s' 108 - gI s 108 → ¬ MUL s' → ∀ (o : MS) (E' : List Int), REL k0 b0 f0 s' o K E' → (∀ e, e ∈ E' → e = 3 ∨ e = 4) → PB P x13 o) → (∀ o, BR s' o → P o) → PB P x13 t := by
  refine fr_ind (fun x2 s s' e => by cases e) (fun n ih x2 s s' e t K E k0 b0 f0 P x13 hR hE hK hx hC hF => ?_)
  have hT := hR.1.2.2.1.1
  have k1 := hT.1
  have h5 := hR.2.2.2.2.1
  have e : m_x6_readProduct_b6 rgs (m_x6_readProduct_L6 rgs n) x2 s = some s' := e
  rcases s_prodL s' e with ⟨nm, es⟩ | ⟨hb, es⟩ | ⟨⟨hm, _⟩, c, s8, s10, s13, hc, e8, e10, e13, eo⟩
  · rw [es] at hC
    exact hC hR.1.2.1.1 (by omega) (by omega) nm t E hR hE
  · rw [es] at hC
    refine hC hR.1.2.1.1 (by omega) (by omega) (fun hm => ?_) t E hR hE
    have := (TK_3' hT hm.1).1
    omega
  · have t3 := TK_3' hT hm.1
    have F8 : F_x6_advance s s8 := fr_x6_advance e8
    have z941 : gI s8 941 = gI s 941 := F8.1 941 (by decide)
    have p8 := advs hT e8 hR.1.2.1.1 hR.1.2.2.1.2.1 hR.1.2.2.1.2.2
    have kf : FKp 100 101 s10 s' := (FKp.of (fr_x0_add e13) (by decide) (by decide)).tr (fk_PL f1 f2 n _ s13 s' eo)
    have run : ∀ x : Int, ((gI s 111 = 42 ∧ x = 3) ∨ (gI s 111 = 47 ∧ x = 4)) → cr c x → PB P x13 t := fun x hx3 hcx => by
      refine PB_mul hR hE hK hm.1 hx3 e8 (fun o hRo => ?_)
      refine hp s8 s10 o (x :: K) k0 b0 f0 P x13 e10 hRo (fun z10 l10 gr o2 hR2 => ?_) (fun o hb => hF o (BR_b kf hb))
      refine PE_top hR2 (by show x < 60; omega) ?_
      obtain ⟨hR3, w1, w2⟩ := REL_add hR2 hcx (by omega) e13
      have w8 := w2 108 (by decide)
      refine ih (x2 + 1) s13 s' eo o2 K [x] k0 b0 f0 P x13 hR3 (fun e he => ?_) hK (by omega) (fun a b d f => hC a (by omega) (by omega) f) hF
      rw [List.mem_singleton.mp he]; omega
    rcases hc with ⟨q1, q2⟩ | ⟨q1, q2⟩
    · exact run 3 (Or.inl ⟨q1, rfl⟩) (cr_op (by omega))
    · exact run 4 (Or.inr ⟨q1, rfl⟩) (cr_op (by omega))
def SProd (g : MS → Option MS) : Prop := ∀ (s s' t : MS) (K : List Int) (k0 b0 : Int) (f0 : Nat → Int) (P : MS → Prop) (x13 : Int), g s = some s' → REL k0 b0 f0 s t K [] → (¬ (hdk K = 3 ∨ hdk K = 4) ∧ hdk K < 60) → (gI s' 100 = 0 → gI s 108 < gI s' 108 → gI s' 941 - gI s 941 ≤ gI s' 108 - gI s 108 → ¬ MUL s' → ∀ (o : MS) (E : List Int), REL k0 b0 f0 s' o K E → (∀ e, e ∈ E → e = 3 ∨ e = 4) → PB P x13 o) → (∀ o, BR s' o → P o) → PA P x13 t
theorem SProd_of (hp : SPart (m_x6_readPart rgs)) (f1 : FKr rgs.1) (f2 : FKr rgs.2) : SProd (m_x6_readProduct rgs) := by
  intro s s' t K k0 b0 f0 P x13 e hR hK hC hF
  have g : pc (m_x6_readProduct rgs s) (fun o => ∃ u, m_x6_readPart rgs s = some u ∧ m_x6_readProduct_L6 rgs FU 0 u = some o) := by
    unfold m_x6_readProduct
    exact pc_bn (fun u eu => fun o eo => ⟨u, eu, eo⟩)
  obtain ⟨u, eu, eo⟩ := g s' e
  refine hp s u t K k0 b0 f0 P x13 eu hR (fun z l gr o hRo => ?_) (fun o hb => hF o (BR_b (fk_PL f1 f2 FU 0 u s' eo) hb))
  have k1 := hRo.1.2.2.1.1.1
  refine PE_top hRo hK.2 (SPL hp f1 f2 FU 0 u s' eo o K [] k0 b0 f0 P x13 hRo (fun e he => absurd he (List.not_mem_nil)) hK.1 (by omega) (fun a b c d => hC a (by omega) (by omega) d) hF)
theorem MUL_e {s o : MS} (h : ∀ i, i ≠ 941 → gI o i = gI s i) (hn : ¬ MUL s) : ¬ MUL o := fun q => hn (by
  unfold MUL at q ⊢
  rw [h 107 (by decide), h 111 (by decide)] at q
  exact q)
theorem SSL (hp : SProd (m_x6_readProduct rgs)) (f1 : FKr rgs.1) (f2 : FKr rgs.2) : ∀ (n : Nat) (x2 : Int) (s s' : MS), m_x6_readSum_L6 rgs n x2 s = some s' → ∀ (t : MS) (K E : List Int) (k0 b0 : Int) (f0 : Nat → Int) (P : MS → Prop) (x13 : Int), REL k0 b0 f0 s t K E → (∀ e, e ∈ E → 1 ≤ e ∧ e ≤ 4) → (¬ (1 ≤ hdk K ∧ hdk K ≤ 4) ∧ hdk K < 60) → ¬ MUL s → (0 ≤ x2 ∧ x2 ≤ gI s 108) → (gI s' 100 = 0 → gI s 108 ≤ gI s' 108 → gI s' 941 - gI s 941 ≤ gI s' 108 - gI s 108 → ¬ OPS s' → ∀ (o : MS) (E' : List Int), REL k0 b0 f0 s' o K E' → (∀ e, e ∈ E' → 1 ≤ e ∧ e ≤ 4) → PB P x13 o) → (∀ o, BR s' o → P o) → PB P x13 t := by
  refine fr_ind (fun x2 s s' e => by cases e) (fun n ih x2 s s' e t K E k0 b0 f0 P x13 hR hE hK hM hx hC hF => ?_)
  have hT := hR.1.2.2.1.1
  have k1 := hT.1
  have h5 := hR.2.2.2.2.1
  have e : m_x6_readSum_b6 rgs (m_x6_readSum_L6 rgs n) x2 s = some s' := e
  have ops : ¬ ADD s → ¬ OPS s := fun na q => by
    unfold OPS at q
    unfold ADD at na
    unfold MUL at hM
    omega
  rcases s_sumL s' e with ⟨nm, es⟩ | ⟨hb, es⟩ | ⟨⟨hm, _⟩, c, s8, s10, s13, hc, e8, e10, e13, eo⟩
  · rw [es] at hC
    exact hC hR.1.2.1.1 (by omega) (by omega) (ops nm) t E hR hE
  · rw [es] at hC
    refine hC hR.1.2.1.1 (by omega) (by omega) (ops (fun hm => ?_)) t E hR hE
    have := (TK_3' hT hm.1).1
    omega
  · have t3 := TK_3' hT hm.1
    have F8 : F_x6_advance s s8 := fr_x6_advance e8
    have z941 : gI s8 941 = gI s 941 := F8.1 941 (by decide)
    have p8 := advs hT e8 hR.1.2.1.1 hR.1.2.2.1.2.1 hR.1.2.2.1.2.2
    have kf : FKp 100 101 s10 s' := (FKp.of (fr_x0_add e13) (by decide) (by decide)).tr (fk_SL f1 f2 n _ s13 s' eo)
    have run : ∀ x : Int, ((gI s 111 = 43 ∧ x = 1) ∨ (gI s 111 = 45 ∧ x = 2)) → cr c x → PB P x13 t := fun x hx3 hcx => by
      refine PB_add hR hE hK.1 hm.1 hx3 e8 (fun o hRo => ?_)
      refine hp s8 s10 o (x :: K) k0 b0 f0 P x13 e10 hRo (by show ¬ (x = 3 ∨ x = 4) ∧ x < 60; omega) (fun z10 l10 gr nm10 o2 E2 hR2 hE2 => ?_) (fun o hb => hF o (BR_b kf hb))
      obtain ⟨hR3, w1, w2⟩ := REL_add hR2 hcx (by omega) e13
      have w8 := w2 108 (by decide)
      refine ih (x2 + 1) s13 s' eo o2 K (E2 ++ [x]) k0 b0 f0 P x13 hR3 (fun e he => ?_) hK (MUL_e w2 nm10) (by omega) (fun a b d f => hC a (by omega) (by omega) f) hF
      rcases List.mem_append.mp he with q | q
      · have := hE2 e q
        omega
      · rw [List.mem_singleton.mp q]; omega
    rcases hc with ⟨q1, q2⟩ | ⟨q1, q2⟩
    · exact run 1 (Or.inl ⟨q1, rfl⟩) (cr_op (by omega))
    · exact run 2 (Or.inr ⟨q1, rfl⟩) (cr_op (by omega))
theorem SSum_of (hp : SProd (m_x6_readProduct rgs)) (f1 : FKr rgs.1) (f2 : FKr rgs.2) : SSum (m_x6_readSum rgs) := by
  intro s s' t K k0 b0 f0 P x13 e hR hK hC hF
  have g : pc (m_x6_readSum rgs s) (fun o => ∃ u, m_x6_readProduct rgs s = some u ∧ m_x6_readSum_L6 rgs FU 0 u = some o) := by
    unfold m_x6_readSum
    exact pc_bn (fun u eu => fun o eo => ⟨u, eu, eo⟩)
  obtain ⟨u, eu, eo⟩ := g s' e
  refine hp s u t K k0 b0 f0 P x13 eu hR ⟨by omega, hK.2⟩ (fun z l gr nm o E hRo hE => ?_) (fun o hb => hF o (BR_b (fk_SL f1 f2 FU 0 u s' eo) hb))
  have k1 := hRo.1.2.2.1.1.1
  refine SSL hp f1 f2 FU 0 u s' eo o K E k0 b0 f0 P x13 hRo (fun e he => by have := hE e he; omega) hK nm (by omega) (fun a b c d => hC a (by omega) (by omega) d) hF
end RH
theorem S_RG1 : ∀ n : Nat, SSum (RG1 n).1 ∧ SPart (RG1 n).2 := by
  refine fr_ind ⟨fun s s' _ _ _ _ _ _ _ e => (by cases e), fun s s' _ _ _ _ _ _ _ e => (by cases e)⟩ (fun n ih => ?_)
  have f := fk_RG1 n
  have p := SPart_of ih.1 ih.2 f.1 f.2
  exact ⟨SSum_of (SProd_of p f.1 f.2) f.1 f.2, p⟩
theorem S_sumC : SSum m_x6_readSumC := (S_RG1 8).1
theorem L15_go {P : MS → Prop} {x13 : Int} {t : MS} (h0 : gI t 5 = 0) (h : PA P x13 t) (n : Nat) : pc (m_x12_qSums_L15 n x13 1 t) P := by
  cases n with
  | zero => exact pc_none
  | succ n =>
    show pc (m_x12_qSums_b15 (m_x12_qSums_L15 n) x13 1 t) P
    unfold m_x12_qSums_b15
    refine pc_rg (pc_if (fun c => absurd c (by decide)) (fun _ => pc_rg (pc_if (fun _ => ?_) (fun c => absurd h0 c))))
    exact pc_bq (h FU) (fun s26 hq => hq n)
/-- a sum, on both sides -/
theorem y_sum {k0 : Int} {s s' t : MS} (hS : SY s t) (hO : OPN s t) (h104 : 0 ≤ gI t 104) (htop : 0 < gI t 104 → ¬ (1 ≤ gA t 103 (gI t 104 - 1).toNat ∧ gA t 103 (gI t 104 - 1).toNat ≤ 4)) (hC : CO k0 s t []) (hb : gI s 941 ≤ gI s 108) (e : m_x6_readSumC s = some s') : pc (m_x12_qSums t) (fun o => ((gI s' 100 = 0 ∧ gI s 108 < gI s' 108 ∧ ¬ OPS s' ∧ gI s' 941 - gI s 941 ≤ gI s' 108 - gI s 108) ∧ FIN k0 (gI t 104) (gA t 103) s' (gI t 106) o) ∨ BR s' o) := by
  unfold m_x12_qSums
  refine pc_stn (fun s34 e34 => ?_)
  have kI : ∀ i, i ≠ 106 → gI s34 i = gI t i := fun i hi => q_Ii e34 hi
  have kA : ∀ k, gA s34 k = gA t k := fun k => q_Ia e34
  have k6 : gI s34 106 = gI t 104 := q_II e34
  have R : REL k0 (gI t 104) (gA t 103) s s34 [] [] := by
    refine ⟨SY_f hS (kI 2 (by decide)) (kI 3 (by decide)) (kI 4 (by decide)) (kI 5 (by decide)) (fun k _ => kA k), OPN_e hO rfl rfl (kI 105 (by decide)) (kI 48 (by decide)), ?_, ?_, hb, k6, fun j _ => by rw [kA]⟩
    · rw [k6, kA, kI 104 (by decide)]
      exact ⟨⟨h104, htop⟩, rfl⟩
    · unfold CO at hC ⊢
      rw [kI 102 (by decide), kA]; exact hC
  refine L15_go R.1.2.1.2 (S_sumC s s' s34 [] k0 (gI t 104) (gA t 103) _ (gI t 106) e R (by show ¬ (1 ≤ (0 : Int) ∧ (0 : Int) ≤ 4) ∧ (0 : Int) < 60; omega) (fun z l gr no o E hRo hE => PB_end hRo hE no (fun o2 hF => Or.inl ⟨⟨z, l, no, gr⟩, hF⟩)) (fun o hb => Or.inr hb)) FU
/-! ===== tests on both sides ===== -/
def rTs (n : Nat) (q : Int × MS) : Option MS := rg q.1 (if q.1 = 0 then m_x12_qTest_J105 (m_x12_qTest_L2 n) q.2 else m_x12_qTest_J106 (m_x12_qTest_L2 n) 1 q.2)
def aftT (n : Nat) (s31 : MS) : Option MS := rg (gI s31 5) (if (gI s31 5) = 0 then bn (m_x12_qGoesOnTest s31) (fun q => rTs n q) else m_x12_qTest_J105 (m_x12_qTest_L2 n) s31)
def QTA (P : MS → Prop) : MS → Prop := fun s31 => ∀ n, pc (aftT n s31) P
def QTB (P : MS → Prop) : Int × MS → Prop := fun q => ∀ n, pc (rTs n q) P
def PTA (P : MS → Prop) (t : MS) : Prop := ∀ m, pc (m_x12_qTest_L2 m 1 t) P
def PTB (P : MS → Prop) (t : MS) : Prop := ∀ m, pc (m_x12_qGoesOnTest_L0 m t) (QTB P)
def PTE (P : MS → Prop) (t : MS) : Prop := (∀ k, pc (m_x12_qDropsNots_L0 k t) (QTA P)) ∧ (∀ m k, pc (m_x12_qDropsNots_L0 k t) (fun s55 => pc (m_x12_qGoesOnTest_L0 m s55) (QTB P)))
theorem fk_nots : ∀ (n : Nat) (t : MS), pc (m_x12_qDropsNots_L0 n t) (fun o => FKp 5 6 t o) := by
  refine fr_ind (fun _ => pc_none) (fun n ih t => ?_)
  show pc (m_x12_qDropsNots_b0 (m_x12_qDropsNots_L0 n) t) _
  unfold m_x12_qDropsNots_b0 m_x12_qDropsNots_J33
  refine pc_rg (pc_if (fun _ => pc_bn (fun r6 _ => pc_rg (pc_if (fun _ => pc_some (FKp.rf t)) (fun _ => pc_stn (fun s9 e9 => pc_bn (fun s11 e11 => ?_)))))) (fun _ => pc_some (FKp.rf t)))
  have f : FKp 5 6 t s11 := (FKp.i e9 (by decide) (by decide)).tr (FKp.of (fr_x12_qDrops e11) (by decide) (by decide))
  exact pc_mono (ih s11) (fun o ho => f.tr ho)
section TA1
variable {P : MS → Prop} {t : MS}
theorem L2_bad (n : Nat) (x : Int) (hP : ∀ o, FKp 5 6 t o → P o) : pc (m_x12_qTest_L2 n x t) P := pc_mono (fk_x12_qTest_L2 n x t (FKp.rf t)) hP
theorem QTA_PTB (h0 : gI t 5 = 0) (h : PTB P t) : QTA P t := fun n => by
  unfold aftT
  refine pc_rg (pc_if (fun _ => ?_) (fun c => absurd h0 c))
  show pc (bn (m_x12_qGoesOnTest_L0 FU t) (fun q => rTs n q)) P
  exact pc_bq (h FU) (fun q hq => hq n)
theorem QTA_bad (h0 : gI t 5 ≠ 0) (hP : ∀ o, FKp 5 6 t o → P o) : QTA P t := fun n => by
  unfold aftT
  exact pc_rg (pc_if (fun c => absurd c h0) (fun _ => L2_bad n 0 hP))
theorem QTB_bad {r : Int} (hP : ∀ o, FKp 5 6 t o → P o) : QTB P (r, t) := fun n => by
  unfold rTs
  exact pc_rg (pc_if (fun _ => L2_bad n 0 hP) (fun _ => L2_bad n 1 hP))
theorem PTA_bad (hP : ∀ o, FKp 5 6 t o → P o) : PTA P t := fun m => L2_bad m 1 hP
theorem PTB_bad (hP : ∀ o, FKp 5 6 t o → P o) : PTB P t := fun m => pc_mono (fk_x12_qGoesOnTest_L0 m t (FKp.rf t)) (fun o ho => by
  obtain ⟨r, o⟩ := o
  exact QTB_bad (fun u hu => hP u (FKp.tr ho hu)))
theorem PTE_bad (h0 : gI t 5 ≠ 0) (hP : ∀ o, FKp 5 6 t o → P o) : PTE P t := ⟨fun k => pc_mono (fk_nots k t) (fun o ho => QTA_bad (FKp_ne ho h0) (fun u hu => hP u (ho.tr hu))), fun m k => pc_mono (fk_nots k t) (fun o ho => PTB_bad (fun u hu => hP u (ho.tr hu)) m)⟩
theorem QTB_go (h : PTA P t) : QTB P (1, t) := fun n => by
  unfold rTs
  exact pc_rg (pc_if (fun c => absurd c (show ¬ (1 : Int) = 0 by decide)) (fun _ => h n))
end TA1
theorem SKr_c {f g : Nat → Int} {b : Int} (hb : 0 ≤ b) : ∀ {K : List Int} {h : Int}, SKr f b h K → (∀ j : Nat, (j : Int) < h → g j = f j) → SKr g b h K := by
  intro K
  induction K with
  | nil => intro h H _; exact H
  | cons k K ih =>
    intro h H e
    have h1 := H.1
    exact ⟨h1, by rw [e _ (by omega)]; exact H.2.1, ih H.2.2 (fun j hj => e j (by omega))⟩
theorem SKr_mem {f : Nat → Int} {v : Int} : ∀ {L : List Int} {h : Int}, SKr f 0 h L → (v ∈ L ↔ ∃ j : Nat, (j : Int) < h ∧ f j = v) := by
  intro L
  induction L with
  | nil =>
    intro h H
    have e : h = 0 := H
    exact ⟨fun q => absurd q (List.not_mem_nil), fun ⟨j, a, _⟩ => by omega⟩
  | cons k L ih =>
    intro h H
    have h1 : 0 < h := H.1
    have h2 : f (h - 1).toNat = k := H.2.1
    have q := ih H.2.2
    constructor
    · intro hv
      rcases List.mem_cons.mp hv with z | z
      · exact ⟨(h - 1).toNat, by omega, by rw [h2, z]⟩
      · obtain ⟨j, a, b⟩ := q.1 z
        exact ⟨j, by omega, b⟩
    · rintro ⟨j, a, b⟩
      by_cases z : j = (h - 1).toNat
      · rw [z, h2] at b
        exact List.mem_cons.mpr (Or.inl b.symm)
      · exact List.mem_cons.mpr (Or.inr (q.2 ⟨j, by omega, b⟩))
section TB1
variable {P : MS → Prop} {k0 : Int} {f0 : Nat → Int} {s s' : MS} {K E : List Int}
theorem y_square {t : MS} (h : REL k0 0 f0 s t K E) : pc (m_x12_qHasSquare t) (fun r => (r = 1 ∧ (25 : Int) ∈ E ++ K) ∨ (r = 0 ∧ ¬ (25 : Int) ∈ E ++ K)) := by
  have hs := h.2.2.1.2
  rw [h.2.2.2.2.2.1] at hs
  have mem := SKr_mem (v := 25) hs
  have LP : ∀ (n : Nat) (x : Int), 0 ≤ x → (∀ j : Nat, (j : Int) < x → gA t 103 j ≠ 25) → pc (m_x12_qHasSquare_L2 t n x) (fun r => (r = 1 ∧ (25 : Int) ∈ E ++ K) ∨ (r = 0 ∧ ¬ (25 : Int) ∈ E ++ K)) := by
    refine fr_ind (fun _ _ _ => pc_none) (fun n ih x hx hn => ?_)
    show pc (m_x12_qHasSquare_b2 t (m_x12_qHasSquare_L2 t n) x) _
    unfold m_x12_qHasSquare_b2
    refine pc_rg (pc_rg (pc_if (fun c => pc_some (Or.inr ⟨rfl, fun q => ?_⟩)) (fun c => pc_rdI (fun _ => pc_rg (pc_if (fun c2 => pc_some (Or.inl ⟨rfl, mem.2 ⟨x.toNat, by omega, c2⟩⟩)) (fun c2 => ih (x + 1) (by omega) (fun j hj => ?_)))))))
    · obtain ⟨j, a, b⟩ := mem.1 q
      exact hn j (by omega) b
    · by_cases z : j = x.toNat
      · rw [z]; exact c2
      · exact hn j (by omega)
  unfold m_x12_qHasSquare
  exact LP FU 0 (by omega) (fun j hj => by omega)
theorem y_isOnT {t : MS} {p0 : Int} (h : REL k0 0 f0 s t K E) (hp : p0 ≠ 0) : pc (m_x12_qIsOn p0 t) (fun r => (r = 1 ∧ hdk (E ++ K) = p0) ∨ (r = 0 ∧ hdk (E ++ K) ≠ p0)) := by
  have b3 := h.2.2.1.2
  rw [h.2.2.2.2.2.1] at b3
  unfold m_x12_qIsOn m_x12_qIsOn_J26 m_x12_qIsOn_J27
  cases hL : E ++ K with
  | nil =>
    rw [hL] at b3
    have e : gI t 104 = 0 := b3
    exact pc_rg (pc_if (fun c => pc_bo (pc_some (Or.inr ⟨rfl, fun q => hp q.symm⟩))) (fun c => by omega))
  | cons k L =>
    rw [hL] at b3
    have h1 : 0 < gI t 104 := b3.1
    have h2 : gA t 103 (gI t 104 - 1).toNat = k := b3.2.1
    refine pc_rg (pc_if (fun c => by omega) (fun c => pc_rdI (fun _ => pc_rg (pc_rg (pc_if (fun c2 => pc_bo (pc_some (Or.inl ⟨rfl, by show k = p0; omega⟩))) (fun c2 => pc_bo (pc_some (Or.inr ⟨rfl, by show k ≠ p0; omega⟩))))))))
/-- the test has ended -/
theorem QTB_end {t : MS} (h : REL k0 0 f0 s t [] E) (hP : ∀ o, REL k0 0 f0 s o [] [] → P o) : QTB P (0, t) := fun n => by
  have LP : ∀ (n : Nat) (E : List Int) (t : MS), REL k0 0 f0 s t [] E → pc (m_x12_qTest_L110 n t) P := by
    refine fr_ind (fun _ _ _ => pc_none) (fun n ih E t h => ?_)
    show pc (m_x12_qTest_b110 (m_x12_qTest_L110 n) t) P
    unfold m_x12_qTest_b110 m_x12_qTest_J131
    have b3 := h.2.2.1.2
    rw [h.2.2.2.2.2.1] at b3
    refine pc_rg (pc_if (fun _ => pc_rg ?_) (fun c => absurd h.1.2.1.2 c))
    cases E with
    | nil => exact pc_if (fun _ => pc_some (hP t h)) (fun c => by have e : gI t 104 = 0 := b3; omega)
    | cons e E =>
      have h1 : 0 < gI t 104 := b3.1
      exact pc_if (fun c => by omega) (fun _ => pc_bq (y_drop h) (fun s8 h8 => ih E s8 h8.1))
  unfold rTs
  refine pc_rg (pc_if (fun _ => ?_) (fun c => absurd rfl c))
  show pc (m_x12_qTest_L2 n 0 t) P
  cases n with
  | zero => exact pc_none
  | succ n =>
    show pc (m_x12_qTest_b2 (m_x12_qTest_L2 n) 0 t) P
    unfold m_x12_qTest_b2
    exact pc_rg (pc_if (fun _ => LP FU E t h) (fun c => absurd rfl c))
theorem PTE_top {t : MS} (h : REL k0 0 f0 s t K []) (hK : hdk K ≠ 12) (hB : PTB P t) : PTE P t := by
  have hb : gI t 5 = 0 := h.1.2.1.2
  have key : ∀ (Q : MS → Prop), Q t → ∀ k, pc (m_x12_qDropsNots_L0 k t) Q := fun Q hQ k => by
    cases k with
    | zero => exact pc_none
    | succ k =>
      show pc (m_x12_qDropsNots_b0 (m_x12_qDropsNots_L0 k) t) Q
      unfold m_x12_qDropsNots_b0 m_x12_qDropsNots_J33
      refine pc_rg (pc_if (fun _ => pc_bq (y_isOnT h (by decide)) (fun r6 h6 => pc_rg (pc_if (fun _ => pc_some hQ) (fun c2 => ?_)))) (fun _ => pc_some hQ))
      rcases h6 with q | q
      · exact absurd q.2 hK
      · exact absurd q.1 c2
  exact ⟨key _ (QTA_PTB hb hB), fun m => key _ (hB m)⟩
theorem PTE_not {t u s1 : MS} (h : REL k0 0 f0 s t (12 :: K) []) (hb : gI s 941 + 1 ≤ gI s 108) (e : m_x0_add (-12) s = some s1) (eu : sI s1 106 (gI s1 106 - 1) = u) (hP : ∀ o, REL k0 0 f0 u o K [] → PTE P o) : PTE P t := by
  have hb0 : gI t 5 = 0 := h.1.2.1.2
  obtain ⟨h1, _, _⟩ := REL_add h (c := -12) (cr_op (by omega)) hb e
  have h1 : REL k0 0 f0 s1 t K [12] := h1
  have key : ∀ (Q : MS → Prop), (∀ o, REL k0 0 f0 u o K [] → ∀ k, pc (m_x12_qDropsNots_L0 k o) Q) → ∀ k, pc (m_x12_qDropsNots_L0 k t) Q := fun Q hQ k => by
    cases k with
    | zero => exact pc_none
    | succ k =>
      show pc (m_x12_qDropsNots_b0 (m_x12_qDropsNots_L0 k) t) Q
      unfold m_x12_qDropsNots_b0
      refine pc_rg (pc_if (fun _ => pc_bq (y_isOnT h (by decide)) (fun r6 h6 => pc_rg (pc_if (fun c => ?_) (fun c => pc_stn (fun s9 e9 => ?_))))) (fun c => absurd hb0 c))
      · rcases h6 with q | q
        · omega
        · exact absurd rfl q.2
      · exact pc_bq (y_drop (REL_close h1 eu e9)) (fun s11 h11 => hQ s11 h11.1 k)
  exact ⟨key _ (fun o ho => (hP o ho).1), fun m => key _ (fun o ho => (hP o ho).2 m)⟩
/-- what comes behind a fact, when nothing closes -/
theorem PTB_J76 {t : MS} (h : REL k0 0 f0 s t K E) (hc : gI s 111 = 93 → ¬ (25 : Int) ∈ E ++ K) (hQ : ∀ S, REL k0 0 f0 s S K E → pc (m_x12_qGoesOnTest_J76 S) (QTB P)) : PTB P t := fun m => by
  cases m with
  | zero => exact pc_none
  | succ m =>
    show pc (m_x12_qGoesOnTest_b0 (m_x12_qGoesOnTest_L0 m) t) _
    unfold m_x12_qGoesOnTest_b0
    refine pc_rg (pc_if (fun _ => pc_bq (r_look h) (fun q62 h62 => ?_)) (fun c => absurd h.1.2.1.2 c))
    obtain ⟨hS, h2, h1⟩ := h62
    refine pc_rg (pc_if (fun c => pc_bq (y_square hS) (fun r66 h66 => pc_rg (pc_if (fun _ => hQ _ hS) (fun c2 => ?_)))) (fun _ => hQ _ hS))
    rcases h66 with q | q
    · exact absurd q.2 (hc (by omega))
    · exact absurd q.1 c2
theorem rw_q {t : MS} (h : REL k0 0 f0 s t K E) (i : Nat) (hi : i < 22) : ∀ j, j < wl (wqJ i) → gA t (79 + i) j = wc (wqJ i) j := h.1.2.2.2.2.2.2 i hi
theorem PTB_and {t : MS} (h : REL k0 0 f0 s t K E) (hE : ∀ e, e ∈ E → e = 10) (hK : hdk K ≠ 10) (hk : gI s 107 = 1) (hw : gI s 110 = 22) (e : m_x6_advance s = some s') (hP : ∀ o, REL k0 0 f0 s' o (10 :: K) [] → PTA P o) : PTB P t := by
  have hT := h.1.2.2.1.1
  have L87 : ∀ (n : Nat) (E : List Int) (t : MS), REL k0 0 f0 s' t K E → (∀ e, e ∈ E → e = 10) → pc (m_x12_qGoesOnTest_L87 n t) (QTB P) := by
    refine fr_ind (fun _ _ _ _ => pc_none) (fun n ih E t h hE => ?_)
    show pc (m_x12_qGoesOnTest_b87 (m_x12_qGoesOnTest_L87 n) t) _
    unfold m_x12_qGoesOnTest_b87
    refine pc_bq (y_isOnT h (by decide)) (fun r19 h19 => pc_rg (pc_if (fun c => pc_inb (pc_stn (fun s23 e23 => pc_stn (fun s24 e24 => pc_some (QTB_go (hP s24 ?_)))))) (fun c => ?_)))
    · have eE : E = [] := by
        cases E with
        | nil => rfl
        | cons e E =>
          have q := hE e (List.mem_cons_self)
          have : hdk (e :: E ++ K) = e := rfl
          omega
      subst eE
      exact REL_push h (fun i hi => (q_Ii e24 hi).trans (q_Ai e23)) (fun k hk => (q_Ia e24).trans (q_Aa e23 hk)) (by rw [(q_II e24 : gI s24 104 = _), (q_Ai e23 : gI s23 104 = gI t 104)]) ((q_Ia e24).trans (q_AA e23))
    · cases E with
      | nil =>
        rcases h19 with q | q
        · exact absurd q.2 hK
        · exact absurd q.1 c
      | cons e E => exact pc_bq (y_drop h) (fun s26 h26 => ih E s26 h26.1 (fun y hy => hE y (List.mem_cons_of_mem _ hy)))
  refine PTB_J76 h (fun q => ?_) (fun S hS => ?_)
  · exfalso
    rcases hT.2.2 with g | ⟨g1, g2, g3, g4, g⟩
    · omega
    · rcases g with ⟨a, _⟩ | ⟨_, _, g⟩ | ⟨_, _, _, g⟩
      · omega
      · rcases g with ⟨_, g⟩ | ⟨_, g⟩ <;> omega
      · omega
  · unfold m_x12_qGoesOnTest_J76
    refine pc_bn (fun q30 e30 => ?_)
    have F30 : F_x12_takes S q30.2 := fr_x12_takes e30
    rcases y_takes (w := 22) hS.1 (by decide) rfl (rw_q hS 7 (by decide)) q30 e30 with ⟨g1, _, _, g4⟩ | ⟨_, g2, _⟩
    · obtain ⟨r1, _⟩ := REL_adv hS g4 (fun i hi => F30.1 i (by simp; omega)) (fun k => F30.2.1 k (by simp)) e
      exact pc_rg (pc_if (fun c => by omega) (fun _ => L87 FU E _ r1 hE))
    · exact absurd ⟨hk, hw⟩ g2
theorem PTB_or {t : MS} (h : REL k0 0 f0 s t K E) (hE : ∀ e, e ∈ E → e = 10 ∨ e = 11) (hK : hdk K ≠ 10 ∧ hdk K ≠ 11) (hk : gI s 107 = 1) (hw : gI s 110 = 21) (e : m_x6_advance s = some s') (hP : ∀ o, REL k0 0 f0 s' o (11 :: K) [] → PTA P o) : PTB P t := by
  have hT := h.1.2.2.1.1
  have L137 : ∀ (n : Nat) (E : List Int) (t : MS), REL k0 0 f0 s' t K E → (∀ e, e ∈ E → e = 10 ∨ e = 11) → pc (m_x12_qGoesOnTest_L137 n t) (QTB P) := by
    refine fr_ind (fun _ _ _ _ => pc_none) (fun n ih E t h hE => ?_)
    show pc (m_x12_qGoesOnTest_b137 (m_x12_qGoesOnTest_L137 n) t) _
    unfold m_x12_qGoesOnTest_b137 m_x12_qGoesOnTest_J155
    have drop : (hdk (E ++ K) = 10 ∨ hdk (E ++ K) = 11) → pc (bn (m_x12_qDrops t) (fun s5 => m_x12_qGoesOnTest_L137 n s5)) (QTB P) := fun hd => by
      cases E with
      | nil =>
        have hd' : hdk K = 10 ∨ hdk K = 11 := hd
        omega
      | cons e E => exact pc_bq (y_drop h) (fun s5 h5 => ih E s5 h5.1 (fun y hy => hE y (List.mem_cons_of_mem _ hy)))
    refine pc_bq (y_isOnT h (by decide)) (fun r7 h7 => pc_rg (pc_if (fun c => pc_bq (y_isOnT h (by decide)) (fun r11 h11 => pc_rg (pc_if (fun c2 => pc_inb (pc_stn (fun s15 e15 => pc_stn (fun s16 e16 => pc_some (QTB_go (hP s16 ?_)))))) (fun c2 => drop ?_)))) (fun c => drop ?_)))
    · have eE : E = [] := by
        cases E with
        | nil => rfl
        | cons e E =>
          have q := hE e (List.mem_cons_self)
          have : hdk (e :: E ++ K) = e := rfl
          omega
      subst eE
      exact REL_push h (fun i hi => (q_Ii e16 hi).trans (q_Ai e15)) (fun k hk => (q_Ia e16).trans (q_Aa e15 hk)) (by rw [(q_II e16 : gI s16 104 = _), (q_Ai e15 : gI s15 104 = gI t 104)]) ((q_Ia e16).trans (q_AA e15))
    · rcases h11 with q | q
      · exact Or.inr q.2
      · exact absurd q.1 c2
    · rcases h7 with q | q
      · exact Or.inl q.2
      · exact absurd q.1 c
  refine PTB_J76 h (fun q => ?_) (fun S hS => ?_)
  · exfalso
    rcases hT.2.2 with g | ⟨g1, g2, g3, g4, g⟩
    · omega
    · rcases g with ⟨a, _⟩ | ⟨_, _, g⟩ | ⟨_, _, _, g⟩
      · omega
      · rcases g with ⟨_, g⟩ | ⟨_, g⟩ <;> omega
      · omega
  · unfold m_x12_qGoesOnTest_J76
    refine pc_bn (fun q30 e30 => ?_)
    have F30 : F_x12_takes S q30.2 := fr_x12_takes e30
    rcases y_takes (w := 22) hS.1 (by decide) rfl (rw_q hS 7 (by decide)) q30 e30 with ⟨_, _, g3, _⟩ | ⟨g1, _, g3, _⟩
    · omega
    · have hS2 : REL k0 0 f0 s q30.2 K E := REL_2 hS g3 (fun i hi => F30.1 i (by simp; omega)) (fun k => F30.2.1 k (by simp))
      refine pc_rg (pc_if (fun _ => pc_bn (fun q35 e35 => ?_)) (fun c => absurd g1 c))
      have F35 : F_x12_takes q30.2 q35.2 := fr_x12_takes e35
      rcases y_takes (w := 21) hS2.1 (by decide) rfl (rw_q hS2 8 (by decide)) q35 e35 with ⟨g5, _, _, g8⟩ | ⟨_, g6, _⟩
      · obtain ⟨r1, _⟩ := REL_adv hS2 g8 (fun i hi => F35.1 i (by simp; omega)) (fun k => F35.2.1 k (by simp)) e
        exact pc_rg (pc_if (fun c => by omega) (fun _ => L137 FU E _ r1 hE))
      · exact absurd ⟨hk, hw⟩ g6
/-- neither and nor or -/
theorem PTB_else {t : MS} (h : REL k0 0 f0 s t K E) (hn : ¬ (gI s 107 = 1 ∧ (gI s 110 = 21 ∨ gI s 110 = 22))) (hc : gI s 111 = 93 → ¬ (25 : Int) ∈ E ++ K) (hQ : ∀ S, REL k0 0 f0 s S K E → gI S 2 = gI s 108 → (¬ (25 : Int) ∈ E ++ K → QTB P (0, S)) ∧ ((25 : Int) ∈ E ++ K → pc (m_x12_fail 1 (gI s 108) S) (fun o => QTB P (0, o)))) : PTB P t := by
  refine PTB_J76 h hc (fun S hS => ?_)
  unfold m_x12_qGoesOnTest_J76 m_x12_qGoesOnTest_J208
  refine pc_bn (fun q30 e30 => ?_)
  have F30 : F_x12_takes S q30.2 := fr_x12_takes e30
  rcases y_takes (w := 22) hS.1 (by decide) rfl (rw_q hS 7 (by decide)) q30 e30 with ⟨_, g2, g3, _⟩ | ⟨g1, _, g3, _⟩
  · exact absurd ⟨g2, Or.inr g3⟩ hn
  · have hS2 : REL k0 0 f0 s q30.2 K E := REL_2 hS g3 (fun i hi => F30.1 i (by simp; omega)) (fun k => F30.2.1 k (by simp))
    refine pc_rg (pc_if (fun _ => pc_bn (fun q35 e35 => ?_)) (fun c => absurd g1 c))
    have F35 : F_x12_takes q30.2 q35.2 := fr_x12_takes e35
    rcases y_takes (w := 21) hS2.1 (by decide) rfl (rw_q hS2 8 (by decide)) q35 e35 with ⟨_, g2, g3, _⟩ | ⟨g5, _, g7, g8⟩
    · exact absurd ⟨g2, Or.inl g3⟩ hn
    · have hS3 : REL k0 0 f0 s q35.2 K E := REL_2 hS2 g7 (fun i hi => F35.1 i (by simp; omega)) (fun k => F35.2.1 k (by simp))
      have q := hQ q35.2 hS3 g8
      refine pc_rg (pc_if (fun _ => pc_rg (pc_if (fun _ => pc_bq (y_square hS3) (fun r41 h41 => pc_rg (pc_if (fun c => pc_some (q.1 ?_)) (fun c => ?_)))) (fun c => absurd hS3.1.2.1.2 c))) (fun c => absurd g5 c))
      · rcases h41 with g | g
        · omega
        · exact g.2
      · rw [g8]
        refine pc_bq (q.2 ?_) (fun s45 h45 => pc_some h45)
        rcases h41 with g | g
        · exact g.2
        · exact absurd g.1 c
theorem E_25 (hE : ∀ e, e ∈ E → e = 10 ∨ e = 11) : ¬ (25 : Int) ∈ E := fun q => by
  have := hE 25 q
  omega
theorem PTB_end {t : MS} (h : REL k0 0 f0 s t [] E) (hE : ∀ e, e ∈ E → e = 10 ∨ e = 11) (hn : ¬ (gI s 107 = 1 ∧ (gI s 110 = 21 ∨ gI s 110 = 22))) (hP : ∀ o, REL k0 0 f0 s o [] [] → P o) : PTB P t := by
  have n25 : ¬ (25 : Int) ∈ E ++ [] := by
    rw [List.append_nil]; exact E_25 hE
  exact PTB_else h hn (fun _ => n25) (fun S hS _ => ⟨fun _ => QTB_end hS hP, fun q => absurd q n25⟩)
theorem PTB_open {t : MS} (h : REL k0 0 f0 s t (25 :: K) E) (hn : ¬ (gI s 107 = 1 ∧ (gI s 110 = 21 ∨ gI s 110 = 22))) (h93 : ¬ (gI s 107 = 3 ∧ gI s 111 = 93)) (hs : gI s' 100 = 1 ∧ gI s' 101 = gI s 108) (hF : ∀ o, BR s' o → P o) : PTB P t := by
  have y25 : (25 : Int) ∈ E ++ 25 :: K := List.mem_append.mpr (Or.inr (List.mem_cons_self))
  refine PTB_else h hn (fun q => absurd ⟨TK_3 h.1.2.2.1.1 (by omega), q⟩ h93) (fun S hS _ => ⟨fun q => absurd y25 q, fun _ => pc_mono (m_fail hS.1.2.1.2) (fun o ho => QTB_bad (BR_P (BR_mk (by decide) hs ho) hF))⟩)
/-- a square closes -/
theorem PTB_close {t u : MS} (h : REL k0 0 f0 s t (25 :: K) E) (hE : ∀ e, e ∈ E → e = 10 ∨ e = 11) (hk : gI s 107 = 3) (h93 : gI s 111 = 93) (e : m_x6_advance s = some s') (eu : sI s' 106 (gI s' 106 - 1) = u) (hP : ∀ o, REL k0 0 f0 u o K [] → PTE P o) : PTB P t := fun m => by
  cases m with
  | zero => exact pc_none
  | succ m =>
    show pc (m_x12_qGoesOnTest_b0 (m_x12_qGoesOnTest_L0 m) t) _
    unfold m_x12_qGoesOnTest_b0
    have y25 : (25 : Int) ∈ E ++ 25 :: K := List.mem_append.mpr (Or.inr (List.mem_cons_self))
    have L33 : ∀ (n : Nat) (E : List Int) (t : MS), REL k0 0 f0 s' t (25 :: K) E → (∀ e, e ∈ E → e = 10 ∨ e = 11) → pc (m_x12_qGoesOnTest_L33 (m_x12_qGoesOnTest_L0 m) n t) (QTB P) := by
      refine fr_ind (fun _ _ _ _ => pc_none) (fun n ih E t h hE => ?_)
      show pc (m_x12_qGoesOnTest_b33 (m_x12_qGoesOnTest_L0 m) (m_x12_qGoesOnTest_L33 (m_x12_qGoesOnTest_L0 m) n) t) _
      unfold m_x12_qGoesOnTest_b33
      refine pc_bq (y_isOnT h (by decide)) (fun r49 h49 => pc_rg (pc_if (fun c => ?_) (fun c => pc_stn (fun s52 e52 => pc_stn (fun s53 e53 => ?_)))))
      · cases E with
        | nil =>
          rcases h49 with q | q
          · omega
          · exact absurd rfl q.2
        | cons e E => exact pc_bq (y_drop h) (fun s57 h57 => ih E s57 h57.1 (fun y hy => hE y (List.mem_cons_of_mem _ hy)))
      · have eE : E = [] := by
          cases E with
          | nil => rfl
          | cons e E =>
            have q := hE e (List.mem_cons_self)
            have z : hdk (e :: E ++ 25 :: K) = e := rfl
            rcases h49 with g | g
            · omega
            · exact absurd g.1 c
        subst eE
        obtain ⟨hO, _⟩ := REL_pop (o := s53) h eu (fun i a c => (q_Ii e53 c).trans (q_Ii e52 a)) (fun k => (q_Ia e53).trans (q_Ia e52)) ((q_Ii e53 (by decide)).trans (q_II e52)) (by rw [(q_II e53 : gI s53 105 = _), (q_Ii e52 (by decide) : gI s52 105 = gI t 105)])
        exact pc_bq ((hP s53 hO).2 m FU) (fun s55 h55 => h55)
    refine pc_rg (pc_if (fun _ => pc_bq (r_look h) (fun q62 h62 => ?_)) (fun c => absurd h.1.2.1.2 c))
    obtain ⟨hS, h2, h1⟩ := h62
    refine pc_rg (pc_if (fun c => pc_bq (y_square hS) (fun r66 h66 => pc_rg (pc_if (fun c2 => ?_) (fun c2 => pc_stn (fun s69 e69 => ?_))))) (fun c => by omega))
    · rcases h66 with q | q
      · omega
      · exact absurd y25 q.2
    · obtain ⟨hR, _⟩ := REL_adv hS (NX_sg hS.1 h2 hk e69) (fun i a => q_Ii e69 (by omega)) (fun k => q_Ia e69) e
      exact L33 FU E s69 hR hE
end TB1
/-! ===== the ring of tests ===== -/
def SFct (g : MS → Option MS) : Prop := ∀ (s s' t : MS) (K : List Int) (k0 : Int) (f0 : Nat → Int) (P : MS → Prop), g s = some s' → REL k0 0 f0 s t K [] → ¬ (1 ≤ hdk K ∧ hdk K ≤ 4) → (gI s' 100 = 0 → gI s 108 < gI s' 108 → gI s' 941 - gI s 941 ≤ gI s' 108 - gI s 108 → ∀ o, REL k0 0 f0 s' o K [] → PTE P o) → (∀ o, BR s' o → P o) → PTA P t
def ANDw (s : MS) : Prop := gI s 107 = 1 ∧ gI s 110 = 22
def ORw (s : MS) : Prop := gI s 107 = 1 ∧ gI s 110 = 21
def STst (g : MS → Option MS) : Prop := ∀ (s s' t : MS) (K : List Int) (k0 : Int) (f0 : Nat → Int) (P : MS → Prop), g s = some s' → REL k0 0 f0 s t K [] → (¬ (1 ≤ hdk K ∧ hdk K ≤ 4) ∧ hdk K ≠ 10 ∧ hdk K ≠ 11 ∧ hdk K ≠ 12) → (gI s' 100 = 0 → gI s 108 < gI s' 108 → gI s' 941 - gI s 941 ≤ gI s' 108 - gI s 108 → ¬ (gI s' 107 = 1 ∧ (gI s' 110 = 21 ∨ gI s' 110 = 22)) → ∀ (o : MS) (E : List Int), REL k0 0 f0 s' o K E → (∀ e, e ∈ E → e = 10 ∨ e = 11) → PTB P o) → (∀ o, BR s' o → P o) → PTA P t
theorem TK_1' {s : MS} (h : TK s) (hk : gI s 107 = 1) : (0 ≤ gI s 108 ∧ gI s 108 < gI s 61 ∧ gI s 61 ≤ 1600) ∧ gI s 108 < gI s 109 := by
  have k1 := h.1
  rcases h.2.2 with g | ⟨g1, g2, g3, g4, g⟩
  · omega
  · omega
theorem s_cmp {s : MS} (h0 : gI s 100 = 0) : pc (m_x6_comparison s) (fun q => ((gI s 107 = 3 ∧ ((gI s 111 = 60 ∧ q.1 = -7) ∨ (gI s 111 = 62 ∧ q.1 = -8) ∨ (gI s 111 = 61 ∧ q.1 = -9))) ∧ m_x6_advance s = some q.2) ∨ (¬ (gI s 107 = 3 ∧ (gI s 111 = 60 ∨ gI s 111 = 62 ∨ gI s 111 = 61)) ∧ gI q.2 100 = 1 ∧ gI q.2 101 = gI s 108)) := by
  unfold m_x6_comparison m_x6_comparison_J52
  refine pc_bq s_isSign (fun r6 h6 => pc_rg (pc_if (fun c => pc_bq s_isSign (fun r10 h10 => pc_rg (pc_if (fun c2 => pc_bq s_isSign (fun r14 h14 => pc_rg (pc_if (fun c3 => pc_bq (s_fail h0) (fun q19 h19 => pc_bn (fun s4 e4 => pc_some (Or.inr ⟨?_, ?_⟩)))) (fun c3 => pc_bn (fun s4 e4 => pc_some (Or.inl ⟨?_, e4⟩)))))) (fun c2 => pc_bn (fun s4 e4 => pc_some (Or.inl ⟨?_, e4⟩)))))) (fun c => pc_bn (fun s4 e4 => pc_some (Or.inl ⟨?_, e4⟩)))))
  · omega
  · have F : F_x6_advance q19.2 s4 := fr_x6_advance e4
    exact ⟨(F.1 100 (by decide)).trans h19.1, (F.1 101 (by decide)).trans h19.2⟩
  · dsimp only; omega
  · dsimp only; omega
  · dsimp only; omega
section TF
variable {rgs : (MS → Option MS) × (MS → Option MS)}
theorem s_fact {s : MS} : pc (m_x6_readFact rgs s) (fun s' =>
    ((gI s 107 = 1 ∧ gI s 110 = 23) ∧ ∃ q, m_x6_opens s = some q ∧ ((q.1 = 0 ∧ s' = q.2) ∨ (q.1 ≠ 0 ∧ ∃ s47 s49 s52, m_x6_advance q.2 = some s47 ∧ rgs.1 s47 = some s49 ∧ m_x0_add (-12) s49 = some s52 ∧ sI s52 106 (gI s52 106 - 1) = s'))) ∨
    ((gI s 107 = 3 ∧ gI s 111 = 91) ∧ ∃ q, m_x6_opens s = some q ∧ ((q.1 = 0 ∧ s' = q.2) ∨ (q.1 ≠ 0 ∧ ∃ s35 s37 s39, m_x6_advance q.2 = some s35 ∧ rgs.2 s35 = some s37 ∧ m_x6_expectSign 93 s37 = some s39 ∧ sI s39 106 (gI s39 106 - 1) = s'))) ∨
    ((gI s 107 = 1 ∧ gI s 110 = 24) ∧ ∃ s26, m_x0_add 1 s = some s26 ∧ m_x6_advance s26 = some s') ∨
    ((¬ (gI s 107 = 1 ∧ gI s 110 = 23) ∧ ¬ (gI s 107 = 3 ∧ gI s 111 = 91) ∧ ¬ (gI s 107 = 1 ∧ gI s 110 = 24)) ∧ ∃ s15 q s20, m_x6_readSumC s = some s15 ∧ m_x6_comparison s15 = some q ∧ m_x6_readSumC q.2 = some s20 ∧ m_x0_add q.1 s20 = some s')) := by
  unfold m_x6_readFact m_x6_readFact_J134
  refine pc_bq s_isWord (fun r3 h3 => pc_rg (pc_if (fun c => pc_bq s_isSign (fun r7 h7 => pc_rg (pc_if (fun c2 => pc_bq s_isWord (fun r11 h11 => pc_rg (pc_if (fun c3 => ?_) (fun c3 => ?_)))) (fun c2 => ?_)))) (fun c => ?_)))
  · exact pc_bn (fun s15 e15 => pc_bn (fun q18 e18 => pc_bn (fun s20 e20 => pc_eqg (pc_bn (fun s23 e23 => pc_some (Or.inr (Or.inr (Or.inr ⟨⟨by omega, by omega, by omega⟩, s15, q18, s20, e15, e18, e20, e23⟩))))))))
  · exact pc_eqg (pc_bn (fun s26 e26 => pc_bn (fun s28 e28 => pc_some (Or.inr (Or.inr (Or.inl ⟨by omega, s26, e26, e28⟩))))))
  · exact pc_bn (fun q31 e31 => pc_rg (pc_if (fun c4 => pc_some (Or.inr (Or.inl ⟨by omega, q31, e31, Or.inl ⟨c4, rfl⟩⟩))) (fun c4 => pc_bn (fun s35 e35 => pc_bn (fun s37 e37 => pc_bn (fun s39 e39 => pc_stn (fun s40 e40 => pc_some (Or.inr (Or.inl ⟨by omega, q31, e31, Or.inr ⟨c4, s35, s37, s39, e35, e37, e39, e40⟩⟩)))))))))
  · exact pc_bn (fun q43 e43 => pc_rg (pc_if (fun c4 => pc_some (Or.inl ⟨by omega, q43, e43, Or.inl ⟨c4, rfl⟩⟩)) (fun c4 => pc_bn (fun s47 e47 => pc_bn (fun s49 e49 => pc_eqg (pc_bn (fun s52 e52 => pc_stn (fun s53 e53 => pc_some (Or.inl ⟨by omega, q43, e43, Or.inr ⟨c4, s47, s49, s52, e47, e49, e52, e53⟩⟩)))))))))
end TF
section TG1
variable {P : MS → Prop} {k0 : Int} {f0 : Nat → Int} {s s' s1 : MS} {K E : List Int}
theorem REL_fin {t o : MS} (h : REL k0 0 f0 s t K []) (hF : FIN k0 (gI t 104) (gA t 103) s' (gI t 106) o) : REL k0 0 f0 s' o K [] := by
  obtain ⟨a1, a2, ⟨a3, a4, a5⟩, a6, a7⟩ := hF
  have st := h.2.2.1.2
  have e6 := h.2.2.2.2.2.1
  refine ⟨a1, a2, ⟨⟨by omega, fun q => by omega⟩, ?_⟩, a6, a7, a3.trans e6, fun j hj => by omega⟩
  rw [a3, a4]
  exact SKr_c (by omega) st a5
theorem htop_K {t : MS} (h : REL k0 0 f0 s t K []) (hK : ¬ (1 ≤ hdk K ∧ hdk K ≤ 4)) : 0 ≤ gI t 104 ∧ (0 < gI t 104 → ¬ (1 ≤ gA t 103 (gI t 104 - 1).toNat ∧ gA t 103 (gI t 104 - 1).toNat ≤ 4)) := by
  have st := h.2.2.1.2
  have e6 := h.2.2.2.2.2.1
  have le := SKr_le st
  refine ⟨by omega, fun q => ?_⟩
  cases K with
  | nil =>
    have e : gI t 104 = gI t 106 := st
    omega
  | cons k K =>
    have e : gA t 103 (gI t 104 - 1).toNat = k := st.2.1
    rw [e]; exact hK
/-- the sum in a test -/
theorem T_sum {t : MS} (h : REL k0 0 f0 s t K []) (hK : ¬ (1 ≤ hdk K ∧ hdk K ≤ 4)) (e : m_x6_readSumC s = some s') : pc (m_x12_qSums t) (fun o => ((gI s' 100 = 0 ∧ gI s 108 < gI s' 108 ∧ gI s' 941 - gI s 941 ≤ gI s' 108 - gI s 108) ∧ REL k0 0 f0 s' o K []) ∨ BR s' o) := by
  have tp := htop_K h hK
  refine pc_mono (y_sum h.1 h.2.1 tp.1 tp.2 h.2.2.2.1 h.2.2.2.2.1 e) (fun o ho => ?_)
  rcases ho with ⟨⟨a, b, _, d⟩, c⟩ | c
  · exact Or.inl ⟨⟨a, b, d⟩, REL_fin h c⟩
  · exact Or.inr c
theorem cr_cmp {x c d : Int} (h : (x = 60 ∧ c = -7) ∨ (x = 62 ∧ c = -8) ∨ (x = 61 ∧ c = -9)) (g : (x = 60 ∧ d = 7) ∨ (x = 62 ∧ d = 8) ∨ (x = 61 ∧ d = 9)) : cr c d := cr_op (by omega)
/-- two sums compared; growth is told apart -/
theorem T_cmp {t s15 s20 : MS} {q : Int × MS} (h : REL k0 0 f0 s t K []) (hK : ¬ (1 ≤ hdk K ∧ hdk K ≤ 4)) (n24 : ¬ (gI s 107 = 1 ∧ gI s 110 = 24)) (e1 : m_x6_readSumC s = some s15) (e2 : m_x6_comparison s15 = some q) (e3 : m_x6_readSumC q.2 = some s20) (e4 : m_x0_add q.1 s20 = some s') (hE : gI s' 100 = 0 → gI s 108 < gI s' 108 → gI s' 941 - gI s 941 ≤ gI s' 108 - gI s 108 → ∀ o, REL k0 0 f0 s' o K [] → PTE P o) (hF : ∀ o, BR s' o → P o) : pc (m_x12_qFact t) (PTE P) := by
  have k4 : FKp 100 101 s20 s' := FKp.of (fr_x0_add e4) (by decide) (by decide)
  have k3 : FKp 100 101 q.2 s' := (fk_x6_readSumC s20 e3).tr k4
  have k2 : FKp 100 101 s15 s' := (fk_x6_comparison q e2).tr k3
  unfold m_x12_qFact
  refine pc_bn (fun q16 e16 => ?_)
  have F16 : F_x12_takes t q16.2 := fr_x12_takes e16
  rcases y_takes (w := 24) h.1 (by decide) rfl (rw_q h 9 (by decide)) q16 e16 with ⟨_, a, b, _⟩ | ⟨g1, _, g3, _⟩
  · exact absurd ⟨a, b⟩ n24
  · have h16 : REL k0 0 f0 s q16.2 K [] := REL_2 h g3 (fun i hi => F16.1 i (by simp; omega)) (fun k => F16.2.1 k (by simp))
    refine pc_rg (pc_if (fun _ => pc_bq (T_sum h16 hK e1) (fun s20' h20' => ?_)) (fun c => absurd g1 c))
    rcases h20' with ⟨⟨z15, l15, g1'⟩, hR15⟩ | hB
    · refine pc_rg (pc_if (fun _ => pc_bq (r_look hR15) (fun q25 h25 => ?_)) (fun c => absurd hR15.1.2.1.2 c))
      obtain ⟨r25, S⟩ := q25
      obtain ⟨hS, a2, v2⟩ := h25
      dsimp only at hS a2 v2 ⊢
      have hs := s_cmp hR15.1.2.1.1 q e2
      have J63 : ∀ x5 : Int, x5 = gI s15 111 → (x5 = 60 ∨ x5 = 62 ∨ x5 = 61) → pc (m_x12_qFact_J63 x5 S) (PTE P) := fun x5 hx h3 => by
        have k33 : gI s15 107 = 3 := TK_3 hS.1.2.2.1.1 (by omega)
        have t33 := TK_3' hS.1.2.2.1.1 k33
        rcases hs with ⟨⟨_, hc⟩, ea⟩ | ⟨n, _⟩
        · have Fa : F_x6_advance s15 q.2 := fr_x6_advance ea
          have z941 : gI q.2 941 = gI s15 941 := Fa.1 941 (by decide)
          unfold m_x12_qFact_J63 m_x12_qFact_J102
          refine pc_stn (fun s7 e7 => ?_)
          obtain ⟨hR18, p18⟩ := REL_adv hS (NX_sg hS.1 a2 k33 e7) (fun i a => q_Ii e7 (by omega)) (fun k => q_Ia e7) ea
          refine pc_bq (T_sum hR18 hK e3) (fun s9 h9 => ?_)
          have fin : ∀ d : Int, ((x5 = 60 ∧ d = 7) ∨ (x5 = 62 ∧ d = 8) ∨ (x5 = 61 ∧ d = 9)) → pc (bn (m_x12_qCode d s9) (fun s4 => some s4)) (PTE P) := fun d hd => by
            refine pc_bn (fun s4 e4' => pc_some ?_)
            rcases h9 with ⟨⟨z20, l20, g2'⟩, hR20⟩ | hB
            · have b5 := h.2.2.2.2.1
              obtain ⟨hR5, w1, w2⟩ := REL_step hR20 (c := q.1) (d := d) (cr_cmp (x := x5) (by rw [hx]; exact hc) hd) (by omega) e4 e4'
              have w8 := w2 108 (by decide)
              exact hE hR5.1.2.1.1 (by omega) (by omega) s4 hR5
            · have f : FKp 5 6 s9 s4 := FKp.of (fr_x12_qCode e4') (by decide) (by decide)
              have B : BR s' s4 := BR_go (BR_b k4 hB) (FKp.rf s') f
              exact PTE_bad (BR_0 B) (BR_P B hF)
          refine pc_rg (pc_if (fun c => fin 7 (Or.inl ⟨c, rfl⟩)) (fun c => pc_rg (pc_if (fun c2 => fin 8 (Or.inr (Or.inl ⟨c2, rfl⟩))) (fun c2 => fin 9 (Or.inr (Or.inr ⟨by omega, rfl⟩))))))
        · exact absurd ⟨k33, by omega⟩ n
      refine pc_rg (pc_if (fun c => J63 r25 v2 (Or.inl c)) (fun c => pc_rg (pc_if (fun c2 => J63 r25 v2 (Or.inr (Or.inl c2))) (fun c2 => pc_rg (pc_if (fun c3 => J63 r25 v2 (Or.inr (Or.inr c3))) (fun c3 => ?_))))))
      refine pc_bq (m_fail hS.1.2.1.2) (fun s33 h33 => pc_some ?_)
      rw [a2] at h33
      rcases hs with ⟨⟨_, hc⟩, _⟩ | ⟨_, hb⟩
      · omega
      · have B : BR s' s33 := BR_b k3 (BR_mk (by decide) hb h33)
        exact PTE_bad (BR_0 B) (BR_P B hF)
    · have B : BR s' s20' := BR_b k2 hB
      exact pc_rg (pc_if (fun c => absurd c (BR_0 B)) (fun _ => pc_some (PTE_bad (BR_0 B) (BR_P B hF))))
/-- all -/
theorem T_all {t : MS} (h : REL k0 0 f0 s t K []) (hk : gI s 107 = 1) (hw : gI s 110 = 24) (e1 : m_x0_add 1 s = some s1) (e2 : m_x6_advance s1 = some s') (hE : gI s' 100 = 0 → gI s 108 < gI s' 108 → gI s' 941 - gI s 941 ≤ gI s' 108 - gI s 108 → ∀ o, REL k0 0 f0 s' o K [] → PTE P o) : pc (m_x12_qFact t) (PTE P) := by
  have hT := h.1.2.2.1.1
  have t1 := TK_1' hT hk
  have h5 := h.2.2.2.2.1
  unfold m_x12_qFact
  refine pc_bn (fun q16 e16 => ?_)
  have F16 : F_x12_takes t q16.2 := fr_x12_takes e16
  rcases y_takes (w := 24) h.1 (by decide) rfl (rw_q h 9 (by decide)) q16 e16 with ⟨g1, _, _, hN⟩ | ⟨_, g, _⟩
  · refine pc_rg (pc_if (fun c => by omega) (fun _ => pc_bn (fun o eo => pc_some ?_)))
    obtain ⟨⟨a1, a2⟩, a3, a4⟩ := s_add (by omega) s1 e1
    have hN1 : NX s1 q16.2 := NX_c hN (fun i hi => a3 i (by omega)) (a4 4 (by decide)) (a4 6 (by decide))
    obtain ⟨hS, hp⟩ := y_adv hN1 s' e2
    have Fa : F_x6_advance s1 s' := fr_x6_advance e2
    obtain ⟨⟨r1, r2⟩, r3, r4⟩ := y_code o eo
    have tI : ∀ i, 48 ≤ i → gI q16.2 i = gI t i := fun i hi => F16.1 i (by simp; omega)
    have tA : ∀ j, gA q16.2 j = gA t j := fun j => F16.2.1 j (by simp)
    have z1 : gI s' 941 = gI s 941 + 1 := (Fa.1 941 (by decide)).trans a1
    have z9 := a3 109 (by decide)
    have R : REL k0 0 f0 s' o K [] := by
      refine REL_mk (E := []) h (SY_f hS (r3 2 (by decide)) (r3 3 (by decide)) (r3 4 (by decide)) (r3 5 (by decide)) (fun k hk => r4 k (by omega))) (OPN_e h.2.1 ((Fa.1 106 (by decide)).trans (a3 106 (by decide))) ((Fa.1 105 (by decide)).trans (a3 105 (by decide))) ((r3 105 (by decide)).trans (tI 105 (by decide))) ((r3 48 (by decide)).trans (tI 48 (by decide)))) ((r3 106 (by decide)).trans (tI 106 (by decide))) ((r3 104 (by decide)).trans (tI 104 (by decide))) ((r4 103 (by decide)).trans (tA 103)) (CO_both h.2.2.2.1 (c := 1) (d := 13) (Or.inl ⟨by decide, Or.inr ⟨rfl, rfl⟩⟩) z1 ((Fa.2.1 48 (by decide)).trans a2) (by rw [r1, tI 102 (by decide)]) (by rw [r2, tA, tI 102 (by decide)])) (by omega)
    exact hE R.1.2.1.1 (by omega) (by omega) o R
  · exact absurd ⟨hk, hw⟩ g
end TG1
/-! ===== facts, tests: the same on both sides ===== -/
section TH
variable {rgs : (MS → Option MS) × (MS → Option MS)}
set_option maxHeartbeats 4000000 in
theorem SFct_of (h1 : SFct rgs.1) (h2 : STst rgs.2) (f1 : FKr rgs.1) (f2 : FKr rgs.2) : SFct (m_x6_readFact rgs) := by
  intro s s' t K k0 f0 P e hR hK hE hF m
  cases m with
  | zero => exact pc_none
  | succ m =>
  have hT := hR.1.2.2.1.1
  have k1 := hT.1
  have h5 := hR.2.2.2.2.1
  have hs := s_fact s' e
  have fact : pc (m_x12_qFact t) (PTE P) → True := fun _ => trivial
  show pc (m_x12_qTest_b2 (m_x12_qTest_L2 m) 1 t) P
  unfold m_x12_qTest_b2
  refine pc_rg (pc_if (fun c => absurd c (by decide)) (fun _ => pc_rg (pc_if (fun _ => pc_bq (r_look hR) (fun q20 h20 => ?_)) (fun c => absurd hR.1.2.1.2 c))))
  obtain ⟨r20, S⟩ := q20
  obtain ⟨hS, a2, v2⟩ := h20
  dsimp only at hS a2 v2 ⊢
  refine pc_rg (pc_if (fun c91 => ?_) (fun c91 => ?_))
  · -- a square
    have a : gI s 107 = 3 := TK_3 hT (by omega)
    rcases hs with ⟨c, _⟩ | ⟨_, q, eq, hq⟩ | ⟨c, _⟩ | ⟨c, _⟩
    · omega
    · obtain ⟨r, u⟩ := q
      dsimp only at hq
      refine pc_bq (r_opens hS eq) (fun s44 h44 => pc_stn (fun s45 e45 => ?_))
      rcases h44 with ⟨g1, g2, g3, g4, g5, g6⟩ | ⟨g1, g2, g3, g4⟩
      · rcases hq with ⟨z, _⟩ | ⟨_, s35, s37, s39, e35, e37, e39, e40⟩
        · omega
        · have hN : NX u s45 := NX_sg g3.1 (by rw [g6, g4 108 (by decide)]; exact a2) (by rw [g4 107 (by decide)]; exact a) e45
          obtain ⟨hR2, hp⟩ := REL_adv g3 hN (fun i hi => q_Ii e45 (by omega)) (fun k => q_Ia e45) e35
          have F2 : F_x6_advance u s35 := fr_x6_advance e35
          have z9 := g4 109 (by decide)
          have z941 : gI s35 941 = gI s 941 := (F2.1 941 (by decide)).trans (g4 941 (by decide))
          have t3 := (TK_3' hT a).2.1
          have k34 : FKp 100 101 s37 s39 := fk_x6_expectSign s39 e39
          have k45 : FKp 100 101 s39 s' := FKp.i e40 (by decide) (by decide)
          refine h2 s35 s37 s45 (25 :: K) k0 f0 P e37 hR2 (by show ¬ (1 ≤ (25 : Int) ∧ (25 : Int) ≤ 4) ∧ (25 : Int) ≠ 10 ∧ (25 : Int) ≠ 11 ∧ (25 : Int) ≠ 12; omega) (fun z3 l3 gr no o E hRo hEo => ?_) (fun o hb => hF o (BR_b (k34.tr k45) hb)) m
          rcases s_expSign hRo.1.2.1.1 s39 e39 with ⟨⟨q1, q2⟩, ea⟩ | ⟨q1, q2⟩
          · have F4 : F_x6_advance s37 s39 := fr_x6_advance ea
            have t33 := TK_3' hRo.1.2.2.1.1 q1
            have p4 := advs hRo.1.2.2.1.1 ea hRo.1.2.1.1 hRo.1.2.2.1.2.1 hRo.1.2.2.1.2.2
            have y8 : gI s' 108 = gI s39 108 := q_Ii e40 (by decide)
            have y941 : gI s' 941 = gI s37 941 := (q_Ii e40 (by decide)).trans (F4.1 941 (by decide))
            exact PTB_close hRo hEo q1 q2 ea e40 (fun o2 hR3 => hE hR3.1.2.1.1 (by omega) (by omega) o2 hR3)
          · exact PTB_open (s' := s') hRo no q1 ⟨(k45 (by omega)).1.trans q2.1, (k45 (by omega)).2.trans q2.2⟩ hF
      · have B : BR s' s45 := by
          have kf : FKp 5 6 s44 s45 := FKp.i e45 (by decide) (by decide)
          rw [a2] at g4
          rcases hq with ⟨_, z⟩ | ⟨z, _⟩
          · rw [z]; exact BR_go (BR_mk (k := 4) (p := gI s 108) (by decide) g2 ⟨g3, g4⟩) (FKp.rf u) kf
          · omega
        exact PTA_bad (BR_P B hF) m
    · omega
    · exact absurd ⟨a, by omega⟩ c.2.1
  · have n91 : ¬ (gI s 107 = 3 ∧ gI s 111 = 91) := fun q => c91 (by omega)
    refine pc_bq (r_here (w := 23) hS (by decide) rfl (rw_q hS 6 (by decide))) (fun q25 h25 => ?_)
    obtain ⟨r25, S2⟩ := q25
    obtain ⟨hS2, a3, v3⟩ := h25
    dsimp only at hS2 a3 v3 ⊢
    refine pc_rg (pc_if (fun c => ?_) (fun c => ?_))
    · have n23 : ¬ (gI s 107 = 1 ∧ gI s 110 = 23) := by
        rcases v3 with g | g
        · omega
        · exact g.2
      have hf : pc (m_x12_qFact S2) (PTE P) := by
        rcases hs with ⟨c, _⟩ | ⟨c, _⟩ | ⟨c, s26, e1, e2⟩ | ⟨c, s15, q, s20, e1, e2, e3, e4⟩
        · exact absurd c n23
        · exact absurd c n91
        · exact T_all hS2 c.1 c.2 e1 e2 hE
        · exact T_cmp hS2 hK c.2.2 e1 e2 e3 e4 hE hF
      exact pc_bq hf (fun s29 h29 => pc_bq (h29.1 FU) (fun s31 h31 => h31 m))
    · -- not
      have y23 : gI s 107 = 1 ∧ gI s 110 = 23 := by
        rcases v3 with g | g
        · exact g.2
        · exact absurd g.1 c
      rcases hs with ⟨_, q, eq, hq⟩ | ⟨c, _⟩ | ⟨c, _⟩ | ⟨c, _⟩
      · obtain ⟨r, u⟩ := q
        dsimp only at hq
        refine pc_bq (r_opens hS2 eq) (fun s40 h40 => pc_bn (fun s42 e42 => ?_))
        rcases h40 with ⟨g1, g2, g3, g4, g5, g6⟩ | ⟨g1, g2, g3, g4⟩
        · rcases hq with ⟨z, _⟩ | ⟨_, s47, s49, s52, e47, e49, e52, e53⟩
          · omega
          · have hw : gI u 107 = 1 ∧ gI u 110 = ((23 : Nat) : Int) := ⟨by rw [g4 107 (by decide)]; exact y23.1, by rw [g4 110 (by decide)]; exact y23.2⟩
            have hN := y_asks1 (w := 23) g3.1 (by decide) rfl (rw_q g3 6 (by decide)) hw s42 e42
            have F42 : F_x12_asks s40 s42 := fr_x12_asks e42
            obtain ⟨hR8, hp⟩ := REL_adv g3 hN (fun i hi => F42.1 i (by simp; omega)) (fun j => F42.2.1 j (by simp)) e47
            have F8 : F_x6_advance u s47 := fr_x6_advance e47
            have z9 := g4 109 (by decide)
            have z941 : gI s47 941 = gI s 941 := (F8.1 941 (by decide)).trans (g4 941 (by decide))
            have t1 := (TK_1' hT y23.1).2
            have k13 : FKp 100 101 s49 s' := FKp.tr (FKp.of (fr_x0_add e52) (by decide) (by decide)) (FKp.i e53 (by decide) (by decide))
            refine h1 s47 s49 s42 (12 :: K) k0 f0 P e49 hR8 (by show ¬ (1 ≤ (12 : Int) ∧ (12 : Int) ≤ 4); omega) (fun z10 l10 gr o hRo => ?_) (fun o hb => hF o (BR_b k13 hb)) m
            refine PTE_not hRo (by omega) e52 e53 (fun o2 hR2 => ?_)
            have b5 := hRo.2.2.2.2.1
            have kk := hRo.1.2.2.1.1.1
            obtain ⟨⟨w1, _⟩, w3, _⟩ := s_add (by omega) s52 e52
            have y941 : gI s' 941 = gI s49 941 + 1 := (q_Ii e53 (by decide)).trans w1
            have y108 : gI s' 108 = gI s49 108 := (q_Ii e53 (by decide)).trans (w3 108 (by decide))
            exact hE hR2.1.2.1.1 (by omega) (by omega) o2 hR2
        · have B : BR s' s42 := by
            have kf : FKp 5 6 s40 s42 := fk_x12_asks s42 e42
            rw [a3] at g4
            rcases hq with ⟨_, z⟩ | ⟨z, _⟩
            · rw [z]; exact BR_go (BR_mk (k := 4) (p := gI s 108) (by decide) g2 ⟨g3, g4⟩) (FKp.rf u) kf
            · omega
          exact PTA_bad (BR_P B hF) m
      · omega
      · omega
      · exact absurd y23 c.1
theorem s_bothL {lr : Int → MS → Option MS} {x2 : Int} {s : MS} : pc (m_x6_readBoth_b6 rgs lr x2 s) (fun s' => (¬ ANDw s ∧ s' = s) ∨ (1600 ≤ x2 ∧ s' = s) ∨ (ANDw s ∧ ∃ s8 s10 s13, m_x6_advance s = some s8 ∧ m_x6_readFact rgs s8 = some s10 ∧ m_x0_add (-10) s10 = some s13 ∧ lr (x2 + 1) s13 = some s')) := by
  unfold m_x6_readBoth_b6 m_x6_readBoth_J45
  refine pc_rg (pc_if (fun c => pc_some (Or.inr (Or.inl ⟨c, rfl⟩))) (fun c => pc_bq s_isWord (fun r7 h7 => pc_rg (pc_if (fun c2 => pc_some (Or.inl ⟨?_, rfl⟩)) (fun c2 => pc_bn (fun s8 e8 => pc_bn (fun s10 e10 => pc_eqg (pc_bn (fun s13 e13 => fun o eo => Or.inr (Or.inr ⟨?_, s8, s10, s13, e8, e10, e13, eo⟩))))))))))
  · unfold ANDw; omega
  · unfold ANDw; omega
theorem s_testL {lr : Int → MS → Option MS} {x2 : Int} {s : MS} : pc (m_x6_readTest_b6 rgs lr x2 s) (fun s' => (¬ ORw s ∧ s' = s) ∨ (1600 ≤ x2 ∧ s' = s) ∨ (ORw s ∧ ∃ s8 s10 s13, m_x6_advance s = some s8 ∧ m_x6_readBoth rgs s8 = some s10 ∧ m_x0_add (-11) s10 = some s13 ∧ lr (x2 + 1) s13 = some s')) := by
  unfold m_x6_readTest_b6 m_x6_readTest_J45
  refine pc_rg (pc_if (fun c => pc_some (Or.inr (Or.inl ⟨c, rfl⟩))) (fun c => pc_bq s_isWord (fun r7 h7 => pc_rg (pc_if (fun c2 => pc_some (Or.inl ⟨?_, rfl⟩)) (fun c2 => pc_bn (fun s8 e8 => pc_bn (fun s10 e10 => pc_eqg (pc_bn (fun s13 e13 => fun o eo => Or.inr (Or.inr ⟨?_, s8, s10, s13, e8, e10, e13, eo⟩))))))))))
  · unfold ORw; omega
  · unfold ORw; omega
theorem fk_BL (f1 : FKr rgs.1) (f2 : FKr rgs.2) : ∀ (n : Nat) (x2 : Int) (s : MS), pc (m_x6_readBoth_L6 rgs n x2 s) (fun o => FKp 100 101 s o) := by
  refine fr_ind (fun _ _ => pc_none) (fun n ih x2 s => ?_)
  show pc (m_x6_readBoth_b6 rgs (m_x6_readBoth_L6 rgs n) x2 s) _
  refine pc_mono s_bothL (fun o h => ?_)
  rcases h with ⟨_, e⟩ | ⟨_, e⟩ | ⟨_, s8, s10, s13, e8, e10, e13, eo⟩
  · rw [e]; exact FKp.rf s
  · rw [e]; exact FKp.rf s
  · exact (((FKp.of (fr_x6_advance e8) (by decide) (by decide)).tr (fk_x6_readFact f1 f2 s10 e10)).tr (FKp.of (fr_x0_add e13) (by decide) (by decide))).tr (ih _ s13 o eo)
theorem fk_TL (f1 : FKr rgs.1) (f2 : FKr rgs.2) : ∀ (n : Nat) (x2 : Int) (s : MS), pc (m_x6_readTest_L6 rgs n x2 s) (fun o => FKp 100 101 s o) := by
  refine fr_ind (fun _ _ => pc_none) (fun n ih x2 s => ?_)
  show pc (m_x6_readTest_b6 rgs (m_x6_readTest_L6 rgs n) x2 s) _
  refine pc_mono s_testL (fun o h => ?_)
  rcases h with ⟨_, e⟩ | ⟨_, e⟩ | ⟨_, s8, s10, s13, e8, e10, e13, eo⟩
  · rw [e]; exact FKp.rf s
  · rw [e]; exact FKp.rf s
  · exact (((FKp.of (fr_x6_advance e8) (by decide) (by decide)).tr (fk_x6_readBoth f1 f2 s10 e10)).tr (FKp.of (fr_x0_add e13) (by decide) (by decide))).tr (ih _ s13 o eo)
def SBth (g : MS → Option MS) : Prop := ∀ (s s' t : MS) (K : List Int) (k0 : Int) (f0 : Nat → Int) (P : MS → Prop), g s = some s' → REL k0 0 f0 s t K [] → (¬ (1 ≤ hdk K ∧ hdk K ≤ 4) ∧ hdk K ≠ 10 ∧ hdk K ≠ 12) → (gI s' 100 = 0 → gI s 108 < gI s' 108 → gI s' 941 - gI s 941 ≤ gI s' 108 - gI s 108 → ¬ ANDw s' → ∀ (o : MS) (E : List Int), REL k0 0 f0 s' o K E → (∀ e, e ∈ E → e = 10) → PTB P o) → (∀ o, BR s' o → P o) → PTA P t
theorem SBL (hp : SFct (m_x6_readFact rgs)) (f1 : FKr rgs.1) (f2 : FKr rgs.2) : ∀ (n : Nat) (x2 : Int) (s s' : MS), m_x6_readBoth_L6 rgs n x2 s = some s' → ∀ (t : MS) (K E : List Int) (k0 : Int) (f0 : Nat → Int) (P : MS → Prop), REL k0 0 f0 s t K E → (∀ e, e ∈ E → e = 10) → hdk K ≠ 10 → (0 ≤ x2 ∧ x2 ≤ gI s 108) → (gI s' 100 = 0 → gI s 108 ≤ gI s' 108 → gI s' 941 - gI s 941 ≤ gI s' 108 - gI s 108 → ¬ ANDw s' → ∀ (o : MS) (E' : List Int), REL k0 0 f0 s' o K E' → (∀ e, e ∈ E' → e = 10) → PTB P o) → (∀ o, BR s' o → P o) → PTB P t := by
  refine fr_ind (fun x2 s s' e => by cases e) (fun n ih x2 s s' e t K E k0 f0 P hR hE hK hx hC hF => ?_)
  have hT := hR.1.2.2.1.1
  have k1 := hT.1
  have h5 := hR.2.2.2.2.1
  have e : m_x6_readBoth_b6 rgs (m_x6_readBoth_L6 rgs n) x2 s = some s' := e
  rcases s_bothL s' e with ⟨nm, es⟩ | ⟨hb, es⟩ | ⟨hm, s8, s10, s13, e8, e10, e13, eo⟩
  · rw [es] at hC
    exact hC hR.1.2.1.1 (by omega) (by omega) nm t E hR hE
  · rw [es] at hC
    refine hC hR.1.2.1.1 (by omega) (by omega) (fun hm => ?_) t E hR hE
    have := (TK_1' hT hm.1).1
    omega
  · have t1 := TK_1' hT hm.1
    have F8 : F_x6_advance s s8 := fr_x6_advance e8
    have z941 : gI s8 941 = gI s 941 := F8.1 941 (by decide)
    have p8 := advs hT e8 hR.1.2.1.1 hR.1.2.2.1.2.1 hR.1.2.2.1.2.2
    have kf : FKp 100 101 s10 s' := (FKp.of (fr_x0_add e13) (by decide) (by decide)).tr (fk_BL f1 f2 n _ s13 s' eo)
    refine PTB_and hR hE hK hm.1 hm.2 e8 (fun o hRo => ?_)
    refine hp s8 s10 o (10 :: K) k0 f0 P e10 hRo (by show ¬ (1 ≤ (10 : Int) ∧ (10 : Int) ≤ 4); omega) (fun z10 l10 gr o2 hR2 => ?_) (fun o hb => hF o (BR_b kf hb))
    refine PTE_top hR2 (by show (10 : Int) ≠ 12; omega) ?_
    obtain ⟨hR3, w1, w2⟩ := REL_add hR2 (c := -10) (cr_op (by omega)) (by omega) e13
    have w8 := w2 108 (by decide)
    refine ih (x2 + 1) s13 s' eo o2 K [10] k0 f0 P hR3 (fun e he => List.mem_singleton.mp he) hK (by omega) (fun a b d f => hC a (by omega) (by omega) f) hF
theorem SBth_of (hp : SFct (m_x6_readFact rgs)) (f1 : FKr rgs.1) (f2 : FKr rgs.2) : SBth (m_x6_readBoth rgs) := by
  intro s s' t K k0 f0 P e hR hK hC hF
  have g : pc (m_x6_readBoth rgs s) (fun o => ∃ u, m_x6_readFact rgs s = some u ∧ m_x6_readBoth_L6 rgs FU 0 u = some o) := by
    unfold m_x6_readBoth
    exact pc_bn (fun u eu => fun o eo => ⟨u, eu, eo⟩)
  obtain ⟨u, eu, eo⟩ := g s' e
  refine hp s u t K k0 f0 P eu hR hK.1 (fun z l gr o hRo => ?_) (fun o hb => hF o (BR_b (fk_BL f1 f2 FU 0 u s' eo) hb))
  have k1 := hRo.1.2.2.1.1.1
  exact PTE_top hRo hK.2.2 (SBL hp f1 f2 FU 0 u s' eo o K [] k0 f0 P hRo (fun e he => absurd he (List.not_mem_nil)) hK.2.1 (by omega) (fun a b c d => hC a (by omega) (by omega) d) hF)
theorem ANDw_e {s o : MS} (h : ∀ i, i ≠ 941 → gI o i = gI s i) (hn : ¬ ANDw s) : ¬ ANDw o := fun q => hn (by
  unfold ANDw at q ⊢
  rw [h 107 (by decide), h 110 (by decide)] at q
  exact q)
theorem STL (hp : SBth (m_x6_readBoth rgs)) (f1 : FKr rgs.1) (f2 : FKr rgs.2) : ∀ (n : Nat) (x2 : Int) (s s' : MS), m_x6_readTest_L6 rgs n x2 s = some s' → ∀ (t : MS) (K E : List Int) (k0 : Int) (f0 : Nat → Int) (P : MS → Prop), REL k0 0 f0 s t K E → (∀ e, e ∈ E → e = 10 ∨ e = 11) → (hdk K ≠ 10 ∧ hdk K ≠ 11) → ¬ ANDw s → (0 ≤ x2 ∧ x2 ≤ gI s 108) → (gI s' 100 = 0 → gI s 108 ≤ gI s' 108 → gI s' 941 - gI s 941 ≤ gI s' 108 - gI s 108 → ¬ (gI s' 107 = 1 ∧ (gI s' 110 = 21 ∨ gI s' 110 = 22)) → ∀ (o : MS) (E' : List Int), REL k0 0 f0 s' o K E' → (∀ e, e ∈ E' → e = 10 ∨ e = 11) → PTB P o) → (∀ o, BR s' o → P o) → PTB P t := by
  refine fr_ind (fun x2 s s' e => by cases e) (fun n ih x2 s s' e t K E k0 f0 P hR hE hK hM hx hC hF => ?_)
  have hT := hR.1.2.2.1.1
  have k1 := hT.1
  have h5 := hR.2.2.2.2.1
  have e : m_x6_readTest_b6 rgs (m_x6_readTest_L6 rgs n) x2 s = some s' := e
  have ops : ¬ ORw s → ¬ (gI s 107 = 1 ∧ (gI s 110 = 21 ∨ gI s 110 = 22)) := fun na q => by
    unfold ORw at na
    unfold ANDw at hM
    omega
  rcases s_testL s' e with ⟨nm, es⟩ | ⟨hb, es⟩ | ⟨hm, s8, s10, s13, e8, e10, e13, eo⟩
  · rw [es] at hC
    exact hC hR.1.2.1.1 (by omega) (by omega) (ops nm) t E hR hE
  · rw [es] at hC
    refine hC hR.1.2.1.1 (by omega) (by omega) (ops (fun hm => ?_)) t E hR hE
    have := (TK_1' hT hm.1).1
    omega
  · have t1 := TK_1' hT hm.1
    have F8 : F_x6_advance s s8 := fr_x6_advance e8
    have z941 : gI s8 941 = gI s 941 := F8.1 941 (by decide)
    have p8 := advs hT e8 hR.1.2.1.1 hR.1.2.2.1.2.1 hR.1.2.2.1.2.2
    have kf : FKp 100 101 s10 s' := (FKp.of (fr_x0_add e13) (by decide) (by decide)).tr (fk_TL f1 f2 n _ s13 s' eo)
    refine PTB_or hR hE hK hm.1 hm.2 e8 (fun o hRo => ?_)
    refine hp s8 s10 o (11 :: K) k0 f0 P e10 hRo (by show ¬ (1 ≤ (11 : Int) ∧ (11 : Int) ≤ 4) ∧ (11 : Int) ≠ 10 ∧ (11 : Int) ≠ 12; omega) (fun z10 l10 gr nm10 o2 E2 hR2 hE2 => ?_) (fun o hb => hF o (BR_b kf hb))
    obtain ⟨hR3, w1, w2⟩ := REL_add hR2 (c := -11) (cr_op (by omega)) (by omega) e13
    have w8 := w2 108 (by decide)
    refine ih (x2 + 1) s13 s' eo o2 K (E2 ++ [11]) k0 f0 P hR3 (fun e he => ?_) hK (ANDw_e w2 nm10) (by omega) (fun a b d f => hC a (by omega) (by omega) f) hF
    rcases List.mem_append.mp he with q | q
    · exact Or.inl (hE2 e q)
    · exact Or.inr (List.mem_singleton.mp q)
theorem STst_of (hp : SBth (m_x6_readBoth rgs)) (f1 : FKr rgs.1) (f2 : FKr rgs.2) : STst (m_x6_readTest rgs) := by
  intro s s' t K k0 f0 P e hR hK hC hF
  have g : pc (m_x6_readTest rgs s) (fun o => ∃ u, m_x6_readBoth rgs s = some u ∧ m_x6_readTest_L6 rgs FU 0 u = some o) := by
    unfold m_x6_readTest
    exact pc_bn (fun u eu => fun o eo => ⟨u, eu, eo⟩)
  obtain ⟨u, eu, eo⟩ := g s' e
  refine hp s u t K k0 f0 P eu hR ⟨hK.1, hK.2.1, hK.2.2.2⟩ (fun z l gr nm o E hRo hE => ?_) (fun o hb => hF o (BR_b (fk_TL f1 f2 FU 0 u s' eo) hb))
  have k1 := hRo.1.2.2.1.1.1
  exact STL hp f1 f2 FU 0 u s' eo o K E k0 f0 P hRo (fun e he => Or.inl (hE e he)) ⟨hK.2.1, hK.2.2.1⟩ nm (by omega) (fun a b c d => hC a (by omega) (by omega) d) hF
end TH
theorem S_RG2 : ∀ n : Nat, SFct (RG2 n).1 ∧ STst (RG2 n).2 := by
  refine fr_ind ⟨fun s s' _ _ _ _ _ e => (by cases e), fun s s' _ _ _ _ _ e => (by cases e)⟩ (fun n ih => ?_)
  have f := fk_RG2 n
  have p := SFct_of ih.1 ih.2 f.1 f.2
  exact ⟨p, STst_of (SBth_of p f.1 f.2) f.1 f.2⟩
theorem S_testC : STst m_x6_readTestC := (S_RG2 8).2
/-- a test, on both sides -/
theorem y_test {k0 : Int} {s s' t : MS} (hS : SY s t) (hO : OPN s t) (h104 : gI t 104 = 0) (h106 : gI t 106 = 0) (hC : CO k0 s t []) (hb : gI s 941 ≤ gI s 108) (e : m_x6_readTestC s = some s') : pc (m_x12_qTest t) (fun o => ((gI s' 100 = 0 ∧ gI s 108 < gI s' 108 ∧ gI s' 941 - gI s 941 ≤ gI s' 108 - gI s 108) ∧ REL k0 0 (gA t 103) s' o [] []) ∨ BR s' o) := by
  have R : REL k0 0 (gA t 103) s t [] [] := ⟨hS, hO, ⟨⟨by omega, fun q => by omega⟩, by show gI t 104 = gI t 106; omega⟩, hC, hb, h106, fun j hj => rfl⟩
  unfold m_x12_qTest
  exact S_testC s s' t [] k0 (gA t 103) _ e R (by show ¬ (1 ≤ (0 : Int) ∧ (0 : Int) ≤ 4) ∧ (0 : Int) ≠ 10 ∧ (0 : Int) ≠ 11 ∧ (0 : Int) ≠ 12; omega) (fun z l gr no o E hRo hE => PTB_end hRo hE no (fun o2 h2 => Or.inl ⟨⟨z, l, gr⟩, h2⟩)) (fun o hb => Or.inr hb) FU
/-! ===== names on both sides ===== -/
/-- one of the language's own words is at hand -/
def OWN (s : MS) : Prop := gI s 107 = 1 ∧ 0 ≤ gI s 110 ∧ gI s 110 < 27
def NW (s : MS) (w : Nat) : Prop := ∀ v : Nat, v < w → ¬ (gI s 107 = 1 ∧ gI s 110 = (v : Int))
def OWQ (s : MS) (q : Int × MS) : Prop := SY s q.2 ∧ gI q.2 2 = gI s 108 ∧ ((q.1 = 1 ∧ OWN s) ∨ (q.1 = 0 ∧ ¬ OWN s))
theorem own_here {w : Nat} {s t : MS} (h : SY s t) (hw : w < 27) (hN : NW s w) : pc (m_x12_isHere (11 + w) (wl w) t) (fun q => SY s q.2 ∧ gI q.2 2 = gI s 108 ∧ ((q.1 = 1 ∧ OWN s) ∨ (q.1 = 0 ∧ NW s (w + 1)))) := by
  refine pc_mono (y_here h (by omega) rfl (fun j hj => h.2.2.2.2.2.1 w hw j hj)) (fun q hq => ⟨hq.1, hq.2.1, ?_⟩)
  rcases hq.2.2 with ⟨a, b, c⟩ | ⟨a, b⟩
  · exact Or.inl ⟨a, b, by omega, by omega⟩
  · refine Or.inr ⟨a, fun v hv => ?_⟩
    by_cases z : v = w
    · rw [z]; exact b
    · exact hN v (by omega)
theorem NW_own {s : MS} (h : NW s 27) : ¬ OWN s := fun q => h (gI s 110).toNat (by have := q.2; omega) ⟨q.1, by have := q.2; omega⟩
theorem own_y {s : MS} {x : Int} {P : Prop} (h : (x = 1 ∧ OWN s) ∨ (x = 0 ∧ P)) (c : ¬ x = 0) : OWN s := by
  rcases h with q | q
  · exact q.2
  · exact absurd q.1 c
theorem own_n {s : MS} {x : Int} {P : Prop} (h : (x = 1 ∧ OWN s) ∨ (x = 0 ∧ P)) (c : x = 0) : P := by
  rcases h with q | q
  · rw [q.1] at c; cases c
  · exact q.2
theorem ow337 {s S : MS} (h : SY s S) (h2 : gI S 2 = gI s 108) (w : OWN s) : pc (m_x12_isOwnHere_J337 S) (OWQ s) := by
  unfold m_x12_isOwnHere_J337 m_x12_isOwnHere_J342
  exact pc_bo (pc_some ⟨h, h2, Or.inl ⟨rfl, w⟩⟩)
theorem ow299 {x : Int} {s S : MS} (h : SY s S) (h2 : gI S 2 = gI s 108) (hx : (x = 1 ∧ OWN s) ∨ (x = 0 ∧ NW s 24)) : pc (m_x12_isOwnHere_J299 x S) (OWQ s) := by
  unfold m_x12_isOwnHere_J299
  refine pc_rg (pc_if (fun c => ?_) (fun c => ow337 h h2 (own_y hx c)))
  have N := own_n hx c
  refine pc_bq (own_here (w := 24) h (by decide) N) (fun q24 g24 => ?_)
  obtain ⟨r24, S24⟩ := q24
  obtain ⟨a24, b24, c24⟩ := g24
  dsimp only at a24 b24 c24 ⊢
  refine pc_rg (pc_if (fun d24 => ?_) (fun d24 => ow337 a24 b24 (own_y c24 d24)))
  have N24 := own_n c24 d24
  refine pc_bq (own_here (w := 25) a24 (by decide) N24) (fun q25 g25 => ?_)
  obtain ⟨r25, S25⟩ := q25
  obtain ⟨a25, b25, c25⟩ := g25
  dsimp only at a25 b25 c25 ⊢
  refine pc_rg (pc_if (fun d25 => ?_) (fun d25 => ow337 a25 b25 (own_y c25 d25)))
  have N25 := own_n c25 d25
  refine pc_bq (own_here (w := 26) a25 (by decide) N25) (fun q26 g26 => ?_)
  obtain ⟨r26, S26⟩ := q26
  obtain ⟨a26, b26, c26⟩ := g26
  dsimp only at a26 b26 c26 ⊢
  refine pc_rg (pc_if (fun d26 => ?_) (fun d26 => ow337 a26 b26 (own_y c26 d26)))
  have N26 := own_n c26 d26
  exact pc_bo (pc_some ⟨a26, b26, Or.inr ⟨rfl, NW_own N26⟩⟩)
theorem ow294 {s S : MS} (h : SY s S) (h2 : gI S 2 = gI s 108) (w : OWN s) : pc (m_x12_isOwnHere_J294 S) (OWQ s) := ow299 h h2 (Or.inl ⟨rfl, w⟩)
theorem ow223 {x : Int} {s S : MS} (h : SY s S) (h2 : gI S 2 = gI s 108) (hx : (x = 1 ∧ OWN s) ∨ (x = 0 ∧ NW s 18)) : pc (m_x12_isOwnHere_J223 x S) (OWQ s) := by
  unfold m_x12_isOwnHere_J223
  refine pc_rg (pc_if (fun c => ?_) (fun c => ow294 h h2 (own_y hx c)))
  have N := own_n hx c
  refine pc_bq (own_here (w := 18) h (by decide) N) (fun q18 g18 => ?_)
  obtain ⟨r18, S18⟩ := q18
  obtain ⟨a18, b18, c18⟩ := g18
  dsimp only at a18 b18 c18 ⊢
  refine pc_rg (pc_if (fun d18 => ?_) (fun d18 => ow294 a18 b18 (own_y c18 d18)))
  have N18 := own_n c18 d18
  refine pc_bq (own_here (w := 19) a18 (by decide) N18) (fun q19 g19 => ?_)
  obtain ⟨r19, S19⟩ := q19
  obtain ⟨a19, b19, c19⟩ := g19
  dsimp only at a19 b19 c19 ⊢
  refine pc_rg (pc_if (fun d19 => ?_) (fun d19 => ow294 a19 b19 (own_y c19 d19)))
  have N19 := own_n c19 d19
  refine pc_bq (own_here (w := 20) a19 (by decide) N19) (fun q20 g20 => ?_)
  obtain ⟨r20, S20⟩ := q20
  obtain ⟨a20, b20, c20⟩ := g20
  dsimp only at a20 b20 c20 ⊢
  refine pc_rg (pc_if (fun d20 => ?_) (fun d20 => ow294 a20 b20 (own_y c20 d20)))
  have N20 := own_n c20 d20
  refine pc_bq (own_here (w := 21) a20 (by decide) N20) (fun q21 g21 => ?_)
  obtain ⟨r21, S21⟩ := q21
  obtain ⟨a21, b21, c21⟩ := g21
  dsimp only at a21 b21 c21 ⊢
  refine pc_rg (pc_if (fun d21 => ?_) (fun d21 => ow294 a21 b21 (own_y c21 d21)))
  have N21 := own_n c21 d21
  refine pc_bq (own_here (w := 22) a21 (by decide) N21) (fun q22 g22 => ?_)
  obtain ⟨r22, S22⟩ := q22
  obtain ⟨a22, b22, c22⟩ := g22
  dsimp only at a22 b22 c22 ⊢
  refine pc_rg (pc_if (fun d22 => ?_) (fun d22 => ow294 a22 b22 (own_y c22 d22)))
  have N22 := own_n c22 d22
  refine pc_bq (own_here (w := 23) a22 (by decide) N22) (fun q23 g23 => ?_)
  obtain ⟨r23, S23⟩ := q23
  obtain ⟨a23, b23, c23⟩ := g23
  dsimp only at a23 b23 c23 ⊢
  refine pc_rg (pc_if (fun d23 => ?_) (fun d23 => ow294 a23 b23 (own_y c23 d23)))
  have N23 := own_n c23 d23
  exact ow299 a23 b23 (Or.inr ⟨rfl, N23⟩)
theorem ow218 {s S : MS} (h : SY s S) (h2 : gI S 2 = gI s 108) (w : OWN s) : pc (m_x12_isOwnHere_J218 S) (OWQ s) := ow223 h h2 (Or.inl ⟨rfl, w⟩)
theorem ow147 {x : Int} {s S : MS} (h : SY s S) (h2 : gI S 2 = gI s 108) (hx : (x = 1 ∧ OWN s) ∨ (x = 0 ∧ NW s 12)) : pc (m_x12_isOwnHere_J147 x S) (OWQ s) := by
  unfold m_x12_isOwnHere_J147
  refine pc_rg (pc_if (fun c => ?_) (fun c => ow218 h h2 (own_y hx c)))
  have N := own_n hx c
  refine pc_bq (own_here (w := 12) h (by decide) N) (fun q12 g12 => ?_)
  obtain ⟨r12, S12⟩ := q12
  obtain ⟨a12, b12, c12⟩ := g12
  dsimp only at a12 b12 c12 ⊢
  refine pc_rg (pc_if (fun d12 => ?_) (fun d12 => ow218 a12 b12 (own_y c12 d12)))
  have N12 := own_n c12 d12
  refine pc_bq (own_here (w := 13) a12 (by decide) N12) (fun q13 g13 => ?_)
  obtain ⟨r13, S13⟩ := q13
  obtain ⟨a13, b13, c13⟩ := g13
  dsimp only at a13 b13 c13 ⊢
  refine pc_rg (pc_if (fun d13 => ?_) (fun d13 => ow218 a13 b13 (own_y c13 d13)))
  have N13 := own_n c13 d13
  refine pc_bq (own_here (w := 14) a13 (by decide) N13) (fun q14 g14 => ?_)
  obtain ⟨r14, S14⟩ := q14
  obtain ⟨a14, b14, c14⟩ := g14
  dsimp only at a14 b14 c14 ⊢
  refine pc_rg (pc_if (fun d14 => ?_) (fun d14 => ow218 a14 b14 (own_y c14 d14)))
  have N14 := own_n c14 d14
  refine pc_bq (own_here (w := 15) a14 (by decide) N14) (fun q15 g15 => ?_)
  obtain ⟨r15, S15⟩ := q15
  obtain ⟨a15, b15, c15⟩ := g15
  dsimp only at a15 b15 c15 ⊢
  refine pc_rg (pc_if (fun d15 => ?_) (fun d15 => ow218 a15 b15 (own_y c15 d15)))
  have N15 := own_n c15 d15
  refine pc_bq (own_here (w := 16) a15 (by decide) N15) (fun q16 g16 => ?_)
  obtain ⟨r16, S16⟩ := q16
  obtain ⟨a16, b16, c16⟩ := g16
  dsimp only at a16 b16 c16 ⊢
  refine pc_rg (pc_if (fun d16 => ?_) (fun d16 => ow218 a16 b16 (own_y c16 d16)))
  have N16 := own_n c16 d16
  refine pc_bq (own_here (w := 17) a16 (by decide) N16) (fun q17 g17 => ?_)
  obtain ⟨r17, S17⟩ := q17
  obtain ⟨a17, b17, c17⟩ := g17
  dsimp only at a17 b17 c17 ⊢
  refine pc_rg (pc_if (fun d17 => ?_) (fun d17 => ow218 a17 b17 (own_y c17 d17)))
  have N17 := own_n c17 d17
  exact ow223 a17 b17 (Or.inr ⟨rfl, N17⟩)
theorem ow142 {s S : MS} (h : SY s S) (h2 : gI S 2 = gI s 108) (w : OWN s) : pc (m_x12_isOwnHere_J142 S) (OWQ s) := ow147 h h2 (Or.inl ⟨rfl, w⟩)
theorem ow71 {x : Int} {s S : MS} (h : SY s S) (h2 : gI S 2 = gI s 108) (hx : (x = 1 ∧ OWN s) ∨ (x = 0 ∧ NW s 6)) : pc (m_x12_isOwnHere_J71 x S) (OWQ s) := by
  unfold m_x12_isOwnHere_J71
  refine pc_rg (pc_if (fun c => ?_) (fun c => ow142 h h2 (own_y hx c)))
  have N := own_n hx c
  refine pc_bq (own_here (w := 6) h (by decide) N) (fun q6 g6 => ?_)
  obtain ⟨r6, S6⟩ := q6
  obtain ⟨a6, b6, c6⟩ := g6
  dsimp only at a6 b6 c6 ⊢
  refine pc_rg (pc_if (fun d6 => ?_) (fun d6 => ow142 a6 b6 (own_y c6 d6)))
  have N6 := own_n c6 d6
  refine pc_bq (own_here (w := 7) a6 (by decide) N6) (fun q7 g7 => ?_)
  obtain ⟨r7, S7⟩ := q7
  obtain ⟨a7, b7, c7⟩ := g7
  dsimp only at a7 b7 c7 ⊢
  refine pc_rg (pc_if (fun d7 => ?_) (fun d7 => ow142 a7 b7 (own_y c7 d7)))
  have N7 := own_n c7 d7
  refine pc_bq (own_here (w := 8) a7 (by decide) N7) (fun q8 g8 => ?_)
  obtain ⟨r8, S8⟩ := q8
  obtain ⟨a8, b8, c8⟩ := g8
  dsimp only at a8 b8 c8 ⊢
  refine pc_rg (pc_if (fun d8 => ?_) (fun d8 => ow142 a8 b8 (own_y c8 d8)))
  have N8 := own_n c8 d8
  refine pc_bq (own_here (w := 9) a8 (by decide) N8) (fun q9 g9 => ?_)
  obtain ⟨r9, S9⟩ := q9
  obtain ⟨a9, b9, c9⟩ := g9
  dsimp only at a9 b9 c9 ⊢
  refine pc_rg (pc_if (fun d9 => ?_) (fun d9 => ow142 a9 b9 (own_y c9 d9)))
  have N9 := own_n c9 d9
  refine pc_bq (own_here (w := 10) a9 (by decide) N9) (fun q10 g10 => ?_)
  obtain ⟨r10, S10⟩ := q10
  obtain ⟨a10, b10, c10⟩ := g10
  dsimp only at a10 b10 c10 ⊢
  refine pc_rg (pc_if (fun d10 => ?_) (fun d10 => ow142 a10 b10 (own_y c10 d10)))
  have N10 := own_n c10 d10
  refine pc_bq (own_here (w := 11) a10 (by decide) N10) (fun q11 g11 => ?_)
  obtain ⟨r11, S11⟩ := q11
  obtain ⟨a11, b11, c11⟩ := g11
  dsimp only at a11 b11 c11 ⊢
  refine pc_rg (pc_if (fun d11 => ?_) (fun d11 => ow142 a11 b11 (own_y c11 d11)))
  have N11 := own_n c11 d11
  exact ow147 a11 b11 (Or.inr ⟨rfl, N11⟩)
theorem ow66 {s S : MS} (h : SY s S) (h2 : gI S 2 = gI s 108) (w : OWN s) : pc (m_x12_isOwnHere_J66 S) (OWQ s) := ow71 h h2 (Or.inl ⟨rfl, w⟩)
theorem y_own {s t : MS} (h : SY s t) : pc (m_x12_isOwnHere t) (OWQ s) := by
  unfold m_x12_isOwnHere
  have N : NW s 0 := fun v hv => absurd hv (Nat.not_lt_zero v)
  refine pc_bq (own_here (w := 0) h (by decide) N) (fun q0 g0 => ?_)
  obtain ⟨r0, S0⟩ := q0
  obtain ⟨a0, b0, c0⟩ := g0
  dsimp only at a0 b0 c0 ⊢
  refine pc_rg (pc_if (fun d0 => ?_) (fun d0 => ow66 a0 b0 (own_y c0 d0)))
  have N0 := own_n c0 d0
  refine pc_bq (own_here (w := 1) a0 (by decide) N0) (fun q1 g1 => ?_)
  obtain ⟨r1, S1⟩ := q1
  obtain ⟨a1, b1, c1⟩ := g1
  dsimp only at a1 b1 c1 ⊢
  refine pc_rg (pc_if (fun d1 => ?_) (fun d1 => ow66 a1 b1 (own_y c1 d1)))
  have N1 := own_n c1 d1
  refine pc_bq (own_here (w := 2) a1 (by decide) N1) (fun q2 g2 => ?_)
  obtain ⟨r2, S2⟩ := q2
  obtain ⟨a2, b2, c2⟩ := g2
  dsimp only at a2 b2 c2 ⊢
  refine pc_rg (pc_if (fun d2 => ?_) (fun d2 => ow66 a2 b2 (own_y c2 d2)))
  have N2 := own_n c2 d2
  refine pc_bq (own_here (w := 3) a2 (by decide) N2) (fun q3 g3 => ?_)
  obtain ⟨r3, S3⟩ := q3
  obtain ⟨a3, b3, c3⟩ := g3
  dsimp only at a3 b3 c3 ⊢
  refine pc_rg (pc_if (fun d3 => ?_) (fun d3 => ow66 a3 b3 (own_y c3 d3)))
  have N3 := own_n c3 d3
  refine pc_bq (own_here (w := 4) a3 (by decide) N3) (fun q4 g4 => ?_)
  obtain ⟨r4, S4⟩ := q4
  obtain ⟨a4, b4, c4⟩ := g4
  dsimp only at a4 b4 c4 ⊢
  refine pc_rg (pc_if (fun d4 => ?_) (fun d4 => ow66 a4 b4 (own_y c4 d4)))
  have N4 := own_n c4 d4
  refine pc_bq (own_here (w := 5) a4 (by decide) N4) (fun q5 g5 => ?_)
  obtain ⟨r5, S5⟩ := q5
  obtain ⟨a5, b5, c5⟩ := g5
  dsimp only at a5 b5 c5 ⊢
  refine pc_rg (pc_if (fun d5 => ?_) (fun d5 => ow66 a5 b5 (own_y c5 d5)))
  have N5 := own_n c5 d5
  exact ow71 a5 b5 (Or.inr ⟨rfl, N5⟩)
/-- a name is at hand -/
def NAM (s : MS) : Prop := gI s 107 = 1 ∧ ¬ OWN s
/-- letters as a number -/
def nv (g : Nat → Int) : Nat → Int
  | 0 => 0
  | k + 1 => 27 * nv g k + g k
/-- the letters at hand -/
def lt (s : MS) (j : Nat) : Int := if gI s 108 + (j : Int) < gI s 109 then gA s 4 ((gI s 108).toNat + j) - 97 + 1 else 0
theorem lt_in {s : MS} {j : Nat} (h : gI s 108 + (j : Int) < gI s 109) : lt s j = gA s 4 ((gI s 108).toNat + j) - 97 + 1 := if_pos h
theorem lt_out {s : MS} {j : Nat} (h : gI s 109 ≤ gI s 108 + (j : Int)) : lt s j = 0 := if_neg (by omega)
theorem nv_pos {g : Nat → Int} : ∀ {n : Nat}, (∀ j, j < n → 1 ≤ g j ∧ g j ≤ 26) → 0 ≤ nv g n
  | 0, _ => Int.le_refl 0
  | n + 1, h => by
    have a := nv_pos (g := g) (n := n) (fun j hj => h j (by omega))
    have b := h n (by omega)
    show 0 ≤ 27 * nv g n + g n
    omega
theorem nv_inj {f g : Nat → Int} : ∀ {n m : Nat}, (∀ j, j < n → 1 ≤ f j ∧ f j ≤ 26) → (∀ j, j < m → 1 ≤ g j ∧ g j ≤ 26) → nv f n = nv g m → n = m ∧ ∀ j, j < n → f j = g j
  | 0, 0, _, _, _ => ⟨rfl, fun j hj => absurd hj (Nat.not_lt_zero j)⟩
  | 0, m + 1, _, hg, e => by
    have a := nv_pos (g := g) (n := m) (fun j hj => hg j (by omega))
    have b := hg m (by omega)
    have e : (0 : Int) = 27 * nv g m + g m := e
    exfalso; omega
  | n + 1, 0, hf, _, e => by
    have a := nv_pos (g := f) (n := n) (fun j hj => hf j (by omega))
    have b := hf n (by omega)
    have e : 27 * nv f n + f n = (0 : Int) := e
    exfalso; omega
  | n + 1, m + 1, hf, hg, e => by
    have b := hf n (by omega)
    have d := hg m (by omega)
    have e : 27 * nv f n + f n = 27 * nv g m + g m := e
    obtain ⟨i1, i2⟩ := nv_inj (f := f) (g := g) (n := n) (m := m) (fun j hj => hf j (by omega)) (fun j hj => hg j (by omega)) (by omega)
    refine ⟨by omega, fun j hj => ?_⟩
    by_cases z : j = n
    · rw [z]
      rw [i1]
      rw [i1] at e b
      omega
    · exact i2 j (by omega)
theorem nv_e {f g : Nat → Int} : ∀ {n : Nat}, (∀ j, j < n → f j = g j) → nv f n = nv g n
  | 0, _ => rfl
  | n + 1, h => by
    show 27 * nv f n + f n = 27 * nv g n + g n
    rw [nv_e (n := n) (fun j hj => h j (by omega)), h n (by omega)]
theorem s_fail0 {k p : Int} {s : MS} : pc (m_x6_fail k p s) (fun q => q.1 = 0) := by
  unfold m_x6_fail m_x6_fail_J22
  exact pc_rg (pc_if (fun c => pc_stn (fun s4 e4 => pc_stn (fun s5 e5 => pc_stn (fun s6 e6 => pc_some rfl)))) (fun c => pc_some rfl))
theorem TK_w {s : MS} (h : TK s) (k : gI s 107 = 1) : (gI s 108 < gI s 61 ∧ gI s 108 < gI s 109 ∧ gI s 109 ≤ gI s 61) ∧ isL (gA s 4 (gI s 108).toNat) ∧ Ru isL (gA s 4) (gI s 61) (gI s 108) (gI s 109) ∧ ((-1) ≤ gI s 110 ∧ gI s 110 ≤ 32) ∧ ¬ GLU (gA s 4) (gI s 108) := by
  rcases h.2.2 with g | ⟨g1, g2, g3, g4, g⟩
  · omega
  · rcases g with ⟨a, ru, hw, kg⟩ | ⟨_, _, kg⟩ | ⟨_, _, _, kg⟩
    · refine ⟨⟨g1, g3, g4⟩, a, ru, ⟨hw.1, hw.2.1⟩, ?_⟩
      rcases kg with ⟨_, q⟩ | ⟨q, _⟩
      · omega
      · exact q
    · rcases kg with ⟨_, q⟩ | ⟨_, q⟩ <;> omega
    · omega
theorem s_name {s : MS} (h0 : gI s 100 = 0) (hT : TK s) : pc (m_x6_isName s) (fun q => (q.1 = 0 ∧ ¬ NAM s ∧ gI q.2 100 = 1 ∧ gI q.2 101 = gI s 108) ∨ (q.1 = 0 ∧ (NAM s ∧ 6 < gI s 109 - gI s 108) ∧ gI q.2 100 = 1 ∧ gI q.2 101 = gI s 108 + 6) ∨ (q.1 = 1 ∧ (NAM s ∧ gI s 109 - gI s 108 ≤ 6) ∧ q.2 = s)) := by
  have J25 : ¬ NAM s → pc (m_x6_isName_J25 s) (fun q => (q.1 = 0 ∧ ¬ NAM s ∧ gI q.2 100 = 1 ∧ gI q.2 101 = gI s 108) ∨ (q.1 = 0 ∧ (NAM s ∧ 6 < gI s 109 - gI s 108) ∧ gI q.2 100 = 1 ∧ gI q.2 101 = gI s 108 + 6) ∨ (q.1 = 1 ∧ (NAM s ∧ gI s 109 - gI s 108 ≤ 6) ∧ q.2 = s)) := fun hn => by
    unfold m_x6_isName_J25
    exact pc_bn (fun q16 e16 => pc_bo (pc_some (Or.inl ⟨s_fail0 q16 e16, hn, s_fail h0 q16 e16⟩)))
  have J35 : NAM s → pc (m_x6_isName_J35 s) (fun q => (q.1 = 0 ∧ ¬ NAM s ∧ gI q.2 100 = 1 ∧ gI q.2 101 = gI s 108) ∨ (q.1 = 0 ∧ (NAM s ∧ 6 < gI s 109 - gI s 108) ∧ gI q.2 100 = 1 ∧ gI q.2 101 = gI s 108 + 6) ∨ (q.1 = 1 ∧ (NAM s ∧ gI s 109 - gI s 108 ≤ 6) ∧ q.2 = s)) := fun hn => by
    unfold m_x6_isName_J35 m_x6_isName_J64 m_x6_isName_J69
    refine pc_rg (pc_if (fun c => pc_bo (pc_some (Or.inr (Or.inr ⟨rfl, ⟨hn, c⟩, rfl⟩)))) (fun c => pc_bn (fun q10 e10 => pc_rg (pc_if (fun c2 => pc_bo (pc_some (Or.inr (Or.inl ⟨rfl, ⟨hn, by omega⟩, s_fail h0 q10 e10⟩)))) (fun c2 => absurd (s_fail0 q10 e10) c2)))))
  unfold m_x6_isName
  refine pc_rg (pc_if (fun c => pc_rg (pc_if (fun c2 => J35 ⟨c, fun q => ?_⟩) (fun c2 => pc_rg (pc_if (fun c3 => J35 ⟨c, fun q => ?_⟩) (fun c3 => J25 (fun q => q.2 ⟨c, ?_⟩)))))) (fun c => J25 (fun q => c q.1)))
  · have := q.2; omega
  · have := q.2; omega
  · have w := (TK_w hT c).2.2.2.1
    omega
theorem y_name {s t : MS} (h : SY s t) : pc (m_x12_name t) (fun q => (¬ NAM s ∧ gI q.2 5 = 1 ∧ gI q.2 6 = gI s 108) ∨ ((NAM s ∧ 6 < gI s 109 - gI s 108) ∧ gI q.2 5 = 1 ∧ gI q.2 6 = gI s 108 + 6) ∨ ((NAM s ∧ gI s 109 - gI s 108 ≤ 6) ∧ q.1 = nv (lt s) (gI s 109 - gI s 108).toNat ∧ NX s q.2 ∧ gI q.2 38 = gI s 108)) := by
  unfold m_x12_name
  refine pc_rg (pc_if (fun c => pc_bq (y_look h) (fun q28 h28 => ?_)) (fun c => absurd h.2.1.2 c))
  obtain ⟨r28, S⟩ := q28
  obtain ⟨hS, h2, h1⟩ := h28
  dsimp only at hS h2 h1 ⊢
  have hk := hS.2.2.1.1
  have J37 : ∀ X : MS, SY s X → gI X 2 = gI s 108 → ¬ NAM s → pc (m_x12_name_J37 X) (fun q => (¬ NAM s ∧ gI q.2 5 = 1 ∧ gI q.2 6 = gI s 108) ∨ ((NAM s ∧ 6 < gI s 109 - gI s 108) ∧ gI q.2 5 = 1 ∧ gI q.2 6 = gI s 108 + 6) ∨ ((NAM s ∧ gI s 109 - gI s 108 ≤ 6) ∧ q.1 = nv (lt s) (gI s 109 - gI s 108).toNat ∧ NX s q.2 ∧ gI q.2 38 = gI s 108)) := fun X hX e2 hn => by
    unfold m_x12_name_J37
    refine pc_bq (m_fail hX.2.1.2) (fun s23 h23 => pc_some (Or.inl ⟨hn, ?_⟩))
    rw [e2] at h23
    exact h23
  refine pc_bq m_isL (fun r30 h30 => pc_rg (pc_if (fun c1 => J37 S hS h2 (fun q => ?_)) (fun c1 => pc_rg (pc_rg (pc_if (fun c2 => J37 S hS h2 (fun q => ?_)) (fun c2 => pc_bq (y_own hS) (fun q38 h38 => ?_)))))))
  · have w := TK_w hk q.1
    rcases TK_sg hk with g | g
    · omega
    · have w2 := w.2.1
      rw [← g.2] at w2
      omega
  · have w := TK_w hk q.1
    have gl := hS.2.2.2.2.1.2.1 c2.symm
    rw [h2] at gl
    exact w.2.2.2.2 gl
  · obtain ⟨r38, X⟩ := q38
    obtain ⟨hX, x2, hx⟩ := h38
    dsimp only at hX x2 hx ⊢
    refine pc_rg (pc_if (fun c3 => pc_stn (fun s41 e41 => ?_)) (fun c3 => J37 X hX x2 (fun q => q.2 ?_)))
    · have nm : NAM s := by
        refine ⟨?_, ?_⟩
        · have ng : ¬ GLU (gA s 4) (gI s 108) := fun gl => c2 (by
            have := hS.2.2.2.2.1.2.2 (by rw [h2]; exact gl)
            omega)
          rcases hk.2.2 with g | ⟨g1, g2, g3, g4, g⟩
          · omega
          · rcases g with ⟨_, _, _, g⟩ | ⟨a, _⟩ | ⟨a, _⟩
            · rcases g with ⟨q, _⟩ | ⟨_, q⟩
              · exact absurd q ng
              · exact q
            · omega
            · omega
        · rcases hx with q | q
          · omega
          · exact q.2
      have w := TK_w hk nm.1
      have hT := hX.1
      have k0 := hk.1
      have ru := w.2.2.1
      have rb := w.1
      have L : ∀ (n : Nat) (z : Int) (Y : MS) (k : Nat), (∀ i, i ≠ 2 → i ≠ 38 → gI Y i = gI X i) → (∀ i, gA Y i = gA X i) → gI Y 38 = gI s 108 → gI Y 2 = gI s 108 + (k : Int) → gI Y 2 ≤ gI s 109 → k ≤ 6 → z = nv (lt s) k → pc (m_x12_name_L58 n z Y) (fun q => (¬ NAM s ∧ gI q.2 5 = 1 ∧ gI q.2 6 = gI s 108) ∨ ((NAM s ∧ 6 < gI s 109 - gI s 108) ∧ gI q.2 5 = 1 ∧ gI q.2 6 = gI s 108 + 6) ∨ ((NAM s ∧ gI s 109 - gI s 108 ≤ 6) ∧ q.1 = nv (lt s) (gI s 109 - gI s 108).toNat ∧ NX s q.2 ∧ gI q.2 38 = gI s 108)) := by
        refine fr_ind (fun _ _ _ _ _ _ _ _ _ _ => pc_none) (fun n ih z Y k kI kA y38 y2 yb k6 hz => ?_)
        show pc (m_x12_name_b58 (m_x12_name_L58 n) z Y) _
        unfold m_x12_name_b58
        have e3 : gI Y 3 = gI s 61 := (kI 3 (by decide) (by decide)).trans hT.1
        have e0 : gA Y 0 = gA X 0 := kA 0
        have fin : gI Y 2 = gI s 109 → pc (m_x12_name_J145 z Y) (fun q => (¬ NAM s ∧ gI q.2 5 = 1 ∧ gI q.2 6 = gI s 108) ∨ ((NAM s ∧ 6 < gI s 109 - gI s 108) ∧ gI q.2 5 = 1 ∧ gI q.2 6 = gI s 108 + 6) ∨ ((NAM s ∧ gI s 109 - gI s 108 ≤ 6) ∧ q.1 = nv (lt s) (gI s 109 - gI s 108).toNat ∧ NX s q.2 ∧ gI q.2 38 = gI s 108)) := fun e9 => by
          unfold m_x12_name_J145
          refine pc_stn (fun s3 e3' => pc_some (Or.inr (Or.inr ⟨⟨nm, by omega⟩, ?_, ?_, (q_Ii e3' (by decide)).trans y38⟩)))
          · show z = _
            rw [hz, show (gI s 109 - gI s 108).toNat = k by omega]
          · have k3 : ∀ i, i ≠ 4 → gI s3 i = gI Y i := fun i hi => q_Ii e3' hi
            have k34 : gI s3 4 = gI Y 2 := q_II e3'
            have k32 : gI s3 2 = gI s 109 := (k3 2 (by decide)).trans e9
            have kA3 : ∀ i, gA s3 i = gA X i := fun i => (q_Ia e3').trans (kA i)
            show NX s s3
            refine ⟨⟨(k3 3 (by decide)).trans e3, fun j hj => by rw [kA3]; exact hT.2 j hj⟩, ⟨hX.2.1.1, (k3 5 (by decide)).trans ((kI 5 (by decide) (by decide)).trans hX.2.1.2)⟩, hX.2.2.1, k32, ⟨by omega, fun _ => ⟨by omega, Or.inl ?_⟩, fun _ => by omega⟩, RWD_e hX.2.2.2.2.2 (fun i _ => kA3 i)⟩
            exact ru.2.1 _ (by omega) (by omega)
        refine pc_rg (pc_rg (pc_if (fun d1 => fin (by omega)) (fun d1 => pc_rdI (fun _ => pc_bq m_isL (fun r11 h11 => pc_rg (pc_if (fun d2 => fin ?_) (fun d2 => ?_)))))))
        · rw [e0, hT.2 _ (by omega)] at h11
          by_cases zz : gI Y 2 < gI s 109
          · have q := ru.2.1 (gI Y 2).toNat (by omega) (by omega)
            omega
          · omega
        · rw [e0, hT.2 _ (by omega)] at h11
          have lt9 : gI Y 2 < gI s 109 := by
            by_cases zz : gI Y 2 = gI s 109
            · have q := ru.2.2 (by omega)
              rw [zz] at h11
              omega
            · omega
          refine pc_rg (pc_if (fun d3 => pc_bq (m_fail ((kI 5 (by decide) (by decide)).trans hX.2.1.2)) (fun s20 h20 => pc_some (Or.inr (Or.inl ⟨⟨nm, by omega⟩, h20.1, by rw [h20.2]; omega⟩)))) (fun d3 => pc_rdI (fun _ => pc_rg (pc_stn (fun s18 e18 => ?_)))))
          have k2' : gI s18 2 = gI Y 2 + 1 := q_II e18
          refine ih _ s18 (k + 1) (fun i a b => (q_Ii e18 a).trans (kI i a b)) (fun i => (q_Ia e18).trans (kA i)) ((q_Ii e18 (by decide)).trans y38) (by omega) (by omega) (by omega) ?_
          rw [e0, hT.2 _ (by omega), hz, show (gI Y 2).toNat = (gI s 108).toNat + k by omega]
          show _ = 27 * nv (lt s) k + lt s k
          rw [lt_in (by omega)]
          omega
      refine L FU 0 s41 0 (fun i a b => q_Ii e41 b) (fun i => q_Ia e41) ((q_II e41).trans x2) ?_ ?_ (by omega) rfl
      · rw [(q_Ii e41 (by decide) : gI s41 2 = gI X 2)]; omega
      · rw [(q_Ii e41 (by decide) : gI s41 2 = gI X 2)]; omega
    · exact own_y hx c3
/-! ===== volumes' names on both sides ===== -/
/-- six letters and their number -/
def NM1 (g : Nat → Int) (z : Int) : Prop := ∃ n : Nat, (1 ≤ n ∧ n ≤ 6) ∧ (∀ j, j < n → 1 ≤ g j ∧ g j ≤ 26) ∧ (∀ j, n ≤ j → j < 6 → g j = 0) ∧ z = nv g n
theorem NM1_eq {f g : Nat → Int} {y z : Int} (hf : NM1 f y) (hg : NM1 g z) : y = z ↔ ∀ j, j < 6 → f j = g j := by
  obtain ⟨n, n1, n2, n3, n4⟩ := hf
  obtain ⟨m, m1, m2, m3, m4⟩ := hg
  constructor
  · intro e
    obtain ⟨i1, i2⟩ := nv_inj n2 m2 (by rw [← n4, ← m4]; exact e)
    intro j hj
    by_cases z : j < n
    · exact i2 j z
    · rw [n3 j (by omega) hj, m3 j (by omega) hj]
  · intro e
    have nm : n = m := by
      by_cases a : n < m
      · have b := m2 n a
        have c := n3 n (by omega) (by omega)
        have d := e n (by omega)
        omega
      · by_cases a2 : m < n
        · have b := n2 m a2
          have c := m3 m (by omega) (by omega)
          have d := e m (by omega)
          omega
        · omega
    rw [n4, m4, ← nm]
    exact nv_e (fun j hj => e j (by omega))
/-- the same volumes by name -/
def NMS (s t : MS) : Prop := (gA t 39 2 = gI s 784 ∧ 0 ≤ gI s 784 ∧ gI s 784 ≤ 8) ∧ ∀ v : Nat, (v : Int) < gI s 784 → NM1 (fun j => gA s 40 (v * 6 + j)) (gB t 40 v)
theorem NMS_e {s s' t t' : MS} (h : NMS s t) (a : gI s' 784 = gI s 784) (b : gA s' 40 = gA s 40) (c : gA t' 39 2 = gA t 39 2) (d : gB t' 40 = gB t 40) : NMS s' t' := by
  unfold NMS
  rw [a, b, c, d]; exact h
theorem lt_nm {s : MS} (hT : TK s) (k : gI s 107 = 1) (l : gI s 109 - gI s 108 ≤ 6) : NM1 (lt s) (nv (lt s) (gI s 109 - gI s 108).toNat) := by
  have w := TK_w hT k
  have k0 := hT.1
  have w1 := w.1
  refine ⟨_, by omega, fun j hj => ?_, fun j hj h6 => lt_out (by omega), rfl⟩
  rw [lt_in (by omega)]
  have q := w.2.2.1.2.1 ((gI s 108).toNat + j) (by omega) (by omega)
  omega
/-- volume v bears the name at hand -/
def SAM (s : MS) (v : Nat) : Prop := ∀ k, k < 6 → gA s 40 (v * 6 + k) = lt s k
theorem SAM_iff {s t : MS} (hN : NMS s t) (hT : TK s) (k : gI s 107 = 1) (l : gI s 109 - gI s 108 ≤ 6) {v : Nat} (hv : (v : Int) < gI s 784) : gB t 40 v = nv (lt s) (gI s 109 - gI s 108).toNat ↔ SAM s v := NM1_eq (hN.2 v hv) (lt_nm hT k l)
theorem s_let {s : MS} {k : Nat} (h0 : 0 ≤ gI s 108) (h9 : gI s 109 ≤ gI s 61) : pc (m_x5_letterAt (gI s 108 + (k : Int)) (gI s 109) s) (fun r => r = lt s k) := by
  unfold m_x5_letterAt m_x5_letterAt_J19
  refine pc_rg (pc_rg (pc_if (fun c => pc_some (lt_out (by omega)).symm) (fun c => pc_bq s_at (fun r6 h6 => pc_some ?_))))
  rw [lt_in (by omega)]
  rcases h6 with q | q
  · rw [q.2, show (gI s 108 + (k : Int)).toNat = (gI s 108).toNat + k by omega]
  · omega
theorem s_vol {s : MS} (h0 : 0 ≤ gI s 108) (h9 : gI s 109 ≤ gI s 61) : pc (m_x5_volumeNamed (gI s 108) (gI s 109) s) (fun r => (r = -1 ∧ ∀ v : Nat, (v : Int) < gI s 784 → ¬ SAM s v) ∨ (∃ v : Nat, r = (v : Int) ∧ (v : Int) < gI s 784 ∧ SAM s v ∧ ∀ u, u < v → ¬ SAM s u)) := by
  have O : ∀ (n : Nat) (v : Nat), (∀ u, u < v → ¬ SAM s u) → pc (m_x5_volumeNamed_L3 s n (gI s 108) (gI s 109) (v : Int)) (fun r => (r = -1 ∧ ∀ v : Nat, (v : Int) < gI s 784 → ¬ SAM s v) ∨ (∃ v : Nat, r = (v : Int) ∧ (v : Int) < gI s 784 ∧ SAM s v ∧ ∀ u, u < v → ¬ SAM s u)) := by
    refine fr_ind (fun _ _ => pc_none) (fun n ih v hv => ?_)
    show pc (m_x5_volumeNamed_b3 s (m_x5_volumeNamed_L3 s n) (gI s 108) (gI s 109) (v : Int)) _
    unfold m_x5_volumeNamed_b3
    refine pc_rg (pc_rg (pc_if (fun c => pc_some (Or.inl ⟨rfl, fun u hu => hv u (by omega)⟩)) (fun c => ?_)))
    have I : ∀ (m : Nat) (k : Nat) (x7 : Int), k ≤ 6 → ((x7 = 1 ∧ ∀ j, j < k → gA s 40 (v * 6 + j) = lt s j) ∨ (x7 = 0 ∧ ¬ SAM s v)) → pc (m_x5_volumeNamed_L18 s (m_x5_volumeNamed_L3 s n) m (gI s 108) (gI s 109) (v : Int) x7 (k : Int)) (fun r => (r = -1 ∧ ∀ v : Nat, (v : Int) < gI s 784 → ¬ SAM s v) ∨ (∃ v : Nat, r = (v : Int) ∧ (v : Int) < gI s 784 ∧ SAM s v ∧ ∀ u, u < v → ¬ SAM s u)) := by
      refine fr_ind (fun _ _ _ _ => pc_none) (fun m ih2 k x7 hk hx => ?_)
      show pc (m_x5_volumeNamed_b18 s (m_x5_volumeNamed_L3 s n) (m_x5_volumeNamed_L18 s (m_x5_volumeNamed_L3 s n) m) (gI s 108) (gI s 109) (v : Int) x7 (k : Int)) _
      unfold m_x5_volumeNamed_b18 m_x5_volumeNamed_J59 m_x5_volumeNamed_J60
      have ek : (k : Int) + 1 = ((k + 1 : Nat) : Int) := rfl
      refine pc_rg (pc_if (fun c1 => pc_rg (pc_if (fun c2 => ?_) (fun c2 => pc_some (Or.inr ⟨v, rfl, by omega, ?_, hv⟩)))) (fun c1 => pc_rg (pc_if (fun c2 => ?_) (fun c2 => pc_rdI (fun _ => pc_bq (s_let h0 h9) (fun r26 h26 => pc_rg (pc_rg (pc_if (fun c3 => ?_) (fun c3 => ?_)))))))))
      · have ns : ¬ SAM s v := by
          rcases hx with q | q
          · omega
          · exact q.2
        exact ih (v + 1) (fun u hu => by
          by_cases z : u = v
          · rw [z]; exact ns
          · exact hv u (by omega))
      · rcases hx with q | q
        · exact fun j hj => q.2 j (by omega)
        · exact absurd q.1 c2
      · rw [ek]
        refine ih2 (k + 1) 0 (by omega) (Or.inr ⟨rfl, ?_⟩)
        rcases hx with q | q
        · omega
        · exact q.2
      · rw [show ((v : Int) * 6 + (k : Int)).toNat = v * 6 + k by omega, h26] at c3
        rw [ek]
        refine ih2 (k + 1) 1 (by omega) (Or.inl ⟨rfl, fun j hj => ?_⟩)
        by_cases z : j = k
        · rw [z]; exact c3
        · rcases hx with q | q
          · exact q.2 j (by omega)
          · exact absurd q.1 c2
      · rw [show ((v : Int) * 6 + (k : Int)).toNat = v * 6 + k by omega, h26] at c3
        rw [ek]
        exact ih2 (k + 1) 0 (by omega) (Or.inr ⟨rfl, fun q => c3 (q k (by omega))⟩)
    exact I FU 0 1 (by omega) (Or.inl ⟨rfl, fun j hj => absurd hj (Nat.not_lt_zero j)⟩)
  unfold m_x5_volumeNamed
  exact O FU 0 (fun u hu => absurd hu (Nat.not_lt_zero u))
theorem s_expVol {s : MS} (h0 : gI s 100 = 0) (hT : TK s) : pc (m_x6_expectVolume s) (fun q => (¬ NAM s ∧ gI q.2 100 = 1 ∧ gI q.2 101 = gI s 108) ∨ ((NAM s ∧ 6 < gI s 109 - gI s 108) ∧ gI q.2 100 = 1 ∧ gI q.2 101 = gI s 108 + 6) ∨ ((NAM s ∧ gI s 109 - gI s 108 ≤ 6) ∧ (∀ v : Nat, (v : Int) < gI s 784 → ¬ SAM s v) ∧ gI q.2 100 = 3 ∧ gI q.2 101 = gI s 108) ∨ ((NAM s ∧ gI s 109 - gI s 108 ≤ 6) ∧ ∃ v : Nat, q.1 = (v : Int) ∧ ((v : Int) < gI s 784 ∧ SAM s v ∧ ∀ u, u < v → ¬ SAM s u) ∧ m_x6_advance s = some q.2)) := by
  unfold m_x6_expectVolume m_x6_expectVolume_J41
  have k0 := hT.1
  refine pc_bq (s_name h0 hT) (fun q7 h7 => ?_)
  obtain ⟨r7, S⟩ := q7
  dsimp only at h7 ⊢
  refine pc_rg (pc_if (fun c => pc_some ?_) (fun c => ?_))
  · rcases h7 with q | q | q
    · exact Or.inl q.2
    · exact Or.inr (Or.inl q.2)
    · omega
  · rcases h7 with q | q | ⟨_, q, e⟩
    · omega
    · omega
    · rw [e]
      have w := (TK_w hT q.1.1).1
      refine pc_bq (s_vol k0.1.1 (by omega)) (fun r11 h11 => pc_rg (pc_if (fun c2 => pc_bq (s_fail h0) (fun q16 h16 => pc_bn (fun s4 e4 => pc_some (Or.inr (Or.inr (Or.inl ⟨q, ?_, ?_⟩)))))) (fun c2 => pc_bn (fun s4 e4 => pc_some (Or.inr (Or.inr (Or.inr ⟨q, ?_⟩)))))))
      · rcases h11 with g | ⟨v, g, _⟩
        · exact g.2
        · omega
      · have F : F_x6_advance q16.2 s4 := fr_x6_advance e4
        show gI s4 100 = 3 ∧ gI s4 101 = gI s 108
        rw [F.1 100 (by decide), F.1 101 (by decide)]
        exact h16
      · rcases h11 with g | ⟨v, g1, g2, g3, g4⟩
        · exact absurd g.1 c2
        · exact ⟨v, g1, ⟨g2, g3, g4⟩, e4⟩
/-- the first volume of a name is one -/
theorem SAM_u {s : MS} {v w : Nat} (a : SAM s v) (b : ∀ u, u < v → ¬ SAM s u) (c : SAM s w) (d : ∀ u, u < w → ¬ SAM s u) : v = w := by
  by_cases z : v < w
  · exact absurd a (d v z)
  · by_cases z2 : w < v
    · exact absurd c (b w z2)
    · omega
theorem y_vn {s X : MS} (hN : NMS s X) (hT : TK s) (k : gI s 107 = 1) (l : gI s 109 - gI s 108 ≤ 6) (h5 : gI X 5 = 0) : ∀ (n : Nat) (v : Nat), (∀ u, u < v → ¬ SAM s u) → pc (m_x12_volumeNamed_L7 n (nv (lt s) (gI s 109 - gI s 108).toNat) (v : Int) X) (fun q => (∃ w : Nat, q.1 = (w : Int) ∧ ((w : Int) < gI s 784 ∧ SAM s w ∧ ∀ u, u < w → ¬ SAM s u) ∧ q.2 = X) ∨ ((∀ u : Nat, (u : Int) < gI s 784 → ¬ SAM s u) ∧ gI q.2 5 = 3 ∧ gI q.2 6 = gI X 38)) := by
  refine fr_ind (fun _ _ => pc_none) (fun n ih v hv => ?_)
  show pc (m_x12_volumeNamed_b7 (m_x12_volumeNamed_L7 n) _ (v : Int) X) _
  unfold m_x12_volumeNamed_b7 m_x12_volumeNamed_J52
  have e2 : gA X 39 (Int.toNat 2) = gI s 784 := hN.1.1
  refine pc_rdI (fun _ => pc_rg (pc_rg (pc_if (fun c => pc_rg (pc_if (fun c2 => pc_bq (m_fail h5) (fun s12 h12 => pc_some (Or.inr ⟨fun u hu => hv u (by omega), h12⟩))) (fun c2 => absurd h5 c2))) (fun c => pc_rdL (pc_rgL (pc_rgL (pc_if (fun c2 => pc_some (Or.inl ⟨v, rfl, ⟨by omega, ?_, hv⟩, rfl⟩)) (fun c2 => ?_))))))))
  · exact (SAM_iff hN hT k l (by omega)).1 c2
  · refine ih (v + 1) (fun u hu => ?_)
    by_cases z : u = v
    · rw [z]; exact fun q => c2 ((SAM_iff hN hT k l (by omega)).2 q)
    · exact hv u (by omega)
/-- a volume that is there, on both sides -/
theorem y_expVol {r : Int} {s s' t : MS} (h : SY s t) (hN : NMS s t) (e : m_x6_expectVolume s = some (r, s')) : pc (m_x12_volumeNamed t) (fun q => RS s' q.2 ∧ (gI s' 100 = 0 → q.1 = r ∧ 0 ≤ r ∧ r < gI s 784)) := by
  have hT := h.2.2.1.1
  have hs := s_expVol h.2.1.1 hT (r, s') e
  dsimp only at hs
  unfold m_x12_volumeNamed
  refine pc_bn (fun q19 e19 => ?_)
  have hy := y_name h q19 e19
  have F : F_x12_name t q19.2 := fr_x12_name e19
  obtain ⟨z, X⟩ := q19
  dsimp only at hy F ⊢
  have bad : gI X 5 ≠ 0 → BR s' X → pc (m_x12_volumeNamed_L7 FU z 0 X) (fun q => RS s' q.2 ∧ (gI s' 100 = 0 → q.1 = r ∧ 0 ≤ r ∧ r < gI s 784)) := fun _ hb =>
    pc_mono (fk_x12_volumeNamed_L7 FU z 0 X (FKp.rf X)) (fun q hq => ⟨Or.inr (BR_go hb (FKp.rf s') hq), fun z => absurd z hb.1⟩)
  rcases hy with ⟨a, b⟩ | ⟨a, b⟩ | ⟨a, a2, a3, a4⟩
  · rcases hs with ⟨_, d⟩ | ⟨c, _⟩ | ⟨c, _⟩ | ⟨c, _⟩
    · exact bad (by omega) (BR_mk (by decide) d b)
    · exact absurd c.1 a
    · exact absurd c.1 a
    · exact absurd c.1 a
  · rcases hs with ⟨c, _⟩ | ⟨_, d⟩ | ⟨c, _⟩ | ⟨c, _⟩
    · exact absurd a.1 c
    · exact bad (by omega) (BR_mk (by decide) d b)
    · omega
    · omega
  · have NX' : NMS s X := NMS_e hN rfl rfl (by rw [F.2.1 39 (by simp)]) (F.2.2.2 40 (by simp))
    rw [a2]
    refine pc_mono (y_vn NX' hT a.1.1 a.2 a3.2.1.2 FU 0 (fun u hu => absurd hu (Nat.not_lt_zero u))) (fun q hq => ?_)
    rcases hs with ⟨c, _⟩ | ⟨c, _⟩ | ⟨_, c, d⟩ | ⟨_, v, c1, c2, c3⟩
    · exact absurd a.1 c
    · omega
    · rcases hq with ⟨w, _, g, _⟩ | ⟨_, g⟩
      · exact absurd g.2.1 (c w g.1)
      · rw [a4] at g
        exact ⟨Or.inr (BR_mk (by decide) d g), fun z => by omega⟩
    · rcases hq with ⟨w, g1, g2, g3⟩ | ⟨g, _⟩
      · have vw := SAM_u c2.2.1 c2.2.2 g2.2.1 g2.2.2
        rw [g3]
        exact ⟨Or.inl (y_adv a3 s' c3).1, fun _ => ⟨by rw [g1, c1, vw], by omega, by omega⟩⟩
      · exact absurd c2.2.1 (g v c2.1)
/-! ===== formulas that stand: the kinds of what their steps pile ===== -/
/-- one step on the kinds of what lies there: true for tests (0 or 1) -/
def tyS (c : Int) (L : List Bool) : Option (List Bool) := if 0 ≤ c then some (decide (c ≤ 1) :: L) else if c ≤ -100 then some (false :: L) else if c ≤ -12 then (match L with | [] => none | x :: R => if c = -12 then (if x = true then some (true :: R) else none) else some (false :: R)) else (match L with | [] => none | x :: R => (match R with | [] => none | y :: R2 => if c ≤ -10 then (if x = true ∧ y = true then some (true :: R2) else none) else some (decide (c ≤ -7) :: R2)))
def tyr (f : Nat → Int) (a : Nat) : Nat → List Bool → Option (List Bool)
  | 0, L => some L
  | n + 1, L => (tyr f a n L).bind (tyS (f (a + n)))
theorem tyr_app (f : Nat → Int) (a m : Nat) (L R : List Bool) (h : tyr f a m L = some R) : ∀ n : Nat, tyr f a (m + n) L = tyr f (a + m) n R := by
  intro n
  induction n with
  | zero => exact h
  | succ n ih =>
    show (tyr f a (m + n) L).bind (tyS (f (a + (m + n)))) = (tyr f (a + m) n R).bind (tyS (f (a + m + n)))
    rw [ih, Nat.add_assoc]
theorem tyr_c {f g : Nat → Int} {a : Nat} {L : List Bool} : ∀ {n : Nat}, (∀ j, a ≤ j → j < a + n → g j = f j) → tyr g a n L = tyr f a n L := by
  intro n
  induction n with
  | zero => intro _; rfl
  | succ n ih =>
    intro e
    show (tyr g a n L).bind (tyS (g (a + n))) = (tyr f a n L).bind (tyS (f (a + n)))
    rw [ih (fun j h1 h2 => e j h1 (by omega)), e (a + n) (by omega) (by omega)]
/-- a formula that stands: steps as they were read -/
def FOK (f : Nat → Int) (a z B : Int) : Prop := (∀ j : Nat, a ≤ (j : Int) → (j : Int) < z → ¬ (f j = -13 ∨ f j = -14) ∧ (f j ≤ -100 → f j = -113 ∨ f j = -114)) ∧ tyr f a.toNat (z - a).toNat [] = some [true] ∧ ∀ n : Nat, n ≤ (z - a).toNat → ∃ R, tyr f a.toNat n [] = some R ∧ (R.length : Int) ≤ B
theorem FOK_c {f g : Nat → Int} {a z B : Int} (ha : 0 ≤ a) (h : FOK f a z B) (e : ∀ j : Nat, (j : Int) < z → g j = f j) : FOK g a z B := by
  obtain ⟨h1, h2, h3⟩ := h
  have r : ∀ n : Nat, n ≤ (z - a).toNat → ∀ L, tyr g a.toNat n L = tyr f a.toNat n L := fun n hn L => tyr_c (fun j j1 j2 => e j (by omega))
  exact ⟨fun j j1 j2 => by rw [e j j2]; exact h1 j j1 j2, by rw [r _ (Nat.le_refl _)]; exact h2, fun n hn => by rw [r n hn]; exact h3 n hn⟩
/-- what was told of splits, if it was -/
def FSr (f45 f46 f48 : Nat → Int) (n : Int) : Prop := f45 1 ≠ -1 → (0 ≤ f45 1 ∧ f45 1 ≤ f46 1 ∧ f46 1 ≤ n) ∧ FOK f48 (f45 1) (f46 1) 64
/-! ===== what a STORE has told so far, on both sides ===== -/
def AC1 (k w f g a0 a1 a2 a3 : Int) : Prop := (k = 2 ∧ a0 = 0 ∧ a1 = w ∧ a2 = w) ∨ (k = 3 ∧ a0 = 1 ∧ a1 = f ∧ a2 = w) ∨ (k = 5 ∧ a0 = 2 ∧ a1 = w ∧ a2 = f ∧ a3 = g) ∨ (k = 6 ∧ a0 = 3 ∧ a1 = w ∧ a2 = f)
def ACS (s t : MS) : Prop := (gA t 39 3 = gI s 785 ∧ 0 ≤ gI s 785) ∧ ∀ a : Nat, (a : Int) < gI s 785 → AC1 (gA s 41 a) (gA s 42 a) (gA s 43 a) (gA s 44 a) (gA t 41 (4 * a)) (gA t 41 (4 * a + 1)) (gA t 41 (4 * a + 2)) (gA t 41 (4 * a + 3))
def HDS (s t : MS) : Prop := gA t 39 0 = gI s 780 ∧ gA t 39 1 = gI s 781 ∧ gA t 39 4 = gI s 782
def CDS (s t : MS) : Prop := (gI t 45 = gI s 941 ∧ 0 ≤ gI s 941) ∧ (∀ j : Nat, (j : Int) < gI s 941 → cr (gA s 48 j) (gA t 44 j)) ∧ (∀ w : Nat, w < 3 → gA t 42 w = gA s 45 w ∧ (gA s 45 w ≠ -1 → gA t 43 w = gA s 46 w)) ∧ FSr (gA s 45) (gA s 46) (gA s 48) (gI s 941)
def PLJ (s t : MS) : Prop := NMS s t ∧ ACS s t ∧ HDS s t ∧ CDS s t ∧ gI s 106 = 0
abbrev FC (s o : MS) : Prop := Fr [100, 101, 107, 108, 109, 110, 111] [] [] [] s o
abbrev FRf (t o : MS) : Prop := Fr [2, 4, 5, 6, 10, 38] [] [] [] t o
theorem Fr_w {I J : List Nat} {s o : MS} (h : Fr I [] [] [] s o) (sub : ∀ i, i ∈ I → i ∈ J) : Fr J [] [] [] s o := ⟨fun k hk => h.1 k (fun m => hk (sub k m)), h.2.1, h.2.2.1, h.2.2.2⟩
theorem PL_f {s s' t t' : MS} (h : PLJ s t) (f : FC s s') (g : FRf t t') : PLJ s' t' := by
  have fA : ∀ k, gA s' k = gA s k := fun k => f.2.1 k (by simp)
  have tA : ∀ k, gA t' k = gA t k := fun k => g.2.1 k (by simp)
  have tB : ∀ k, gB t' k = gB t k := fun k => g.2.2.2 k (by simp)
  unfold PLJ NMS ACS HDS CDS
  rw [fA 40, fA 41, fA 42, fA 43, fA 44, fA 45, fA 46, fA 48, tA 39, tA 41, tA 42, tA 43, tA 44, tB 40, f.1 784 (by decide), f.1 785 (by decide), f.1 780 (by decide), f.1 781 (by decide), f.1 782 (by decide), f.1 941 (by decide), f.1 106 (by decide), g.1 45 (by decide)]
  exact h
theorem TK_le {s : MS} (h : TK s) : 0 ≤ gI s 108 ∧ gI s 108 ≤ gI s 109 ∧ gI s 109 ≤ gI s 61 := by
  have k := h.1
  rcases h.2.2 with q | q
  · omega
  · omega
/-- the class's reader goes on -/
theorem g_adv {s t s' : MS} (h : SY s t) (e : m_x6_advance s = some s') : gI s 108 ≤ gI s' 108 := by
  have a := TK_le h.2.2.1.1
  have b := (s_adv h.2.1.1 ⟨⟨by omega, a.2.2⟩, h.2.2.1.1.1.2⟩ h.2.2.1.2.1 h.2.2.1.2.2 s' e).2.1
  omega
theorem g_num {lo hi r : Int} {s t s' : MS} (h : SY s t) (e : m_x6_expectNumber lo hi s = some (r, s')) (z : gI s' 100 = 0) : gI s 108 ≤ gI s' 108 := by
  have a := TK_le h.2.2.1.1
  rcases s_expNum h.2.1.1 ⟨a.1, a.2.2⟩ (r, s') e with q | q | q | q
  · have := q.2.1; dsimp only at this; omega
  · have := q.2.1; dsimp only at this; omega
  · have := q.2.2.1; dsimp only at this; omega
  · exact g_adv h q.2.2.2
theorem g_word {w : Int} {s t s' : MS} (h : SY s t) (e : m_x6_expectWord w s = some s') (z : gI s' 100 = 0) : gI s 108 ≤ gI s' 108 := by
  rcases s_expWord h.2.1.1 s' e with q | q
  · exact g_adv h q.2
  · have := q.2.1; omega
theorem g_sign {w : Int} {s t s' : MS} (h : SY s t) (e : m_x6_expectSign w s = some s') (z : gI s' 100 = 0) : gI s 108 ≤ gI s' 108 := by
  rcases s_expSign h.2.1.1 s' e with q | q
  · exact g_adv h q.2
  · have := q.2.1; omega
theorem g_vol {r : Int} {s t s' : MS} (h : SY s t) (e : m_x6_expectVolume s = some (r, s')) (z : gI s' 100 = 0) : gI s 108 ≤ gI s' 108 := by
  rcases s_expVol h.2.1.1 h.2.2.1.1 (r, s') e with q | q | q | ⟨_, v, _, _, q⟩
  · have := q.2.1; dsimp only at this; omega
  · have := q.2.1; dsimp only at this; omega
  · have := q.2.2.1; dsimp only at this; omega
  · exact g_adv h q
theorem SY_z {s t : MS} (h : SY s t) : gI s 100 = 0 := h.2.1.1
theorem RS_z {s t : MS} (h : RS s t) (z : gI s 100 = 0) : SY s t := by
  rcases h with q | q
  · exact q
  · exact absurd z q.1
theorem RS_n {s t : MS} (h : RS s t) (z : gI s 100 ≠ 0) : BR s t := by
  rcases h with q | q
  · exact absurd q.2.1.1 z
  · exact q
/-! ===== a change more ===== -/
theorem s_chg {p0 p1 p2 p3 : Int} {s : MS} (h : gI s 785 < 60) : pc (m_x5_addChange p0 p1 p2 p3 s) (fun o => gI o 785 = gI s 785 + 1 ∧ gA o 41 = upZ (gA s 41) (gI s 785).toNat p0 ∧ gA o 42 = upZ (gA s 42) (gI s 785).toNat p1 ∧ gA o 43 = upZ (gA s 43) (gI s 785).toNat p2 ∧ gA o 44 = upZ (gA s 44) (gI s 785).toNat p3) := by
  unfold m_x5_addChange m_x5_addChange_J60
  refine pc_rg (pc_if (fun c => by exfalso; omega) (fun c => pc_inb (pc_stn (fun s5 e5 => pc_inb (pc_stn (fun s7 e7 => pc_inb (pc_stn (fun s9 e9 => pc_inb (pc_stn (fun s11 e11 => pc_stn (fun s12 e12 => pc_some ?_))))))))))) 
  have i5 : gI s5 785 = gI s 785 := q_Ai e5
  have i7 : gI s7 785 = gI s 785 := (q_Ai e7).trans i5
  have i9 : gI s9 785 = gI s 785 := (q_Ai e9).trans i7
  have i11 : gI s11 785 = gI s 785 := (q_Ai e11).trans i9
  refine ⟨by rw [(q_II e12 : gI s12 785 = gI s11 785 + 1), i11], ?_, ?_, ?_, ?_⟩
  · rw [(q_Ia e12 : gA s12 41 = gA s11 41), (q_Aa e11 (by decide) : gA s11 41 = gA s9 41), (q_Aa e9 (by decide) : gA s9 41 = gA s7 41), (q_Aa e7 (by decide) : gA s7 41 = gA s5 41), (q_AA e5 : gA s5 41 = _)]
  · rw [(q_Ia e12 : gA s12 42 = gA s11 42), (q_Aa e11 (by decide) : gA s11 42 = gA s9 42), (q_Aa e9 (by decide) : gA s9 42 = gA s7 42), (q_AA e7 : gA s7 42 = _), i5, (q_Aa e5 (by decide) : gA s5 42 = gA s 42)]
  · rw [(q_Ia e12 : gA s12 43 = gA s11 43), (q_Aa e11 (by decide) : gA s11 43 = gA s9 43), (q_AA e9 : gA s9 43 = _), i7, (q_Aa e7 (by decide) : gA s7 43 = gA s5 43), (q_Aa e5 (by decide) : gA s5 43 = gA s 43)]
  · rw [(q_Ia e12 : gA s12 44 = gA s11 44), (q_AA e11 : gA s11 44 = _), i9, (q_Aa e9 (by decide) : gA s9 44 = gA s7 44), (q_Aa e7 (by decide) : gA s7 44 = gA s5 44), (q_Aa e5 (by decide) : gA s5 44 = gA s 44)]
theorem m_act {p0 p1 p2 p3 : Int} {t : MS} (h5 : gI t 5 = 0) (h3 : 0 ≤ gA t 39 3) : pc (m_x12_actTold p0 p1 p2 p3 t) (fun o => (gA o 39 3 = gA t 39 3 + 1 ∧ ∀ k, k ≠ 3 → gA o 39 k = gA t 39 k) ∧ (gA o 41 (4 * (gA t 39 3).toNat) = p0 ∧ gA o 41 (4 * (gA t 39 3).toNat + 1) = p1 ∧ gA o 41 (4 * (gA t 39 3).toNat + 2) = p2 ∧ gA o 41 (4 * (gA t 39 3).toNat + 3) = p3) ∧ ∀ k : Nat, (k : Int) < 4 * gA t 39 3 → gA o 41 k = gA t 41 k) := by
  unfold m_x12_actTold
  refine pc_rg (pc_if (fun c => pc_rdI (fun _ => pc_inb (pc_stn (fun s5 e5 => pc_inb (pc_stn (fun s7 e7 => pc_inb (pc_stn (fun s9 e9 => pc_inb (pc_stn (fun s11 e11 => pc_rdI (fun _ => pc_inb (pc_stn (fun s14 e14 => pc_some ?_))))))))))))) (fun c => absurd h5 c))
  have e3 : gA t 39 (Int.toNat 3) = gA t 39 3 := rfl
  rw [e3] at e5 e7 e9 e11
  have r39 : gA s11 39 = gA t 39 := (q_Aa e11 (by decide)).trans ((q_Aa e9 (by decide)).trans ((q_Aa e7 (by decide)).trans (q_Aa e5 (by decide))))
  have r41 : gA s14 41 = upZ (upZ (upZ (upZ (gA t 41) (4 * gA t 39 3).toNat p0) (4 * gA t 39 3 + 1).toNat p1) (4 * gA t 39 3 + 2).toNat p2) (4 * gA t 39 3 + 3).toNat p3 := by
    rw [(q_Aa e14 (by decide) : gA s14 41 = gA s11 41), (q_AA e11 : gA s11 41 = _), (q_AA e9 : gA s9 41 = _), (q_AA e7 : gA s7 41 = _), (q_AA e5 : gA s5 41 = _)]
  have q39 : gA s14 39 = upZ (gA t 39) 3 (gA t 39 3 + 1) := by
    rw [(q_AA e14 : gA s14 39 = _), r39]
    rfl
  refine ⟨⟨by rw [q39, upZ_s], fun k hk => by rw [q39, upZ_n hk]⟩, ⟨?_, ?_, ?_, ?_⟩, fun k hk => ?_⟩
  · rw [r41, upZ_n (by omega), upZ_n (by omega), upZ_n (by omega), show (4 * gA t 39 3).toNat = 4 * (gA t 39 3).toNat by omega, upZ_s]
  · rw [r41, upZ_n (by omega), upZ_n (by omega), show (4 * gA t 39 3 + 1).toNat = 4 * (gA t 39 3).toNat + 1 by omega, upZ_s]
  · rw [r41, upZ_n (by omega), show (4 * gA t 39 3 + 2).toNat = 4 * (gA t 39 3).toNat + 2 by omega, upZ_s]
  · rw [r41, show (4 * gA t 39 3 + 3).toNat = 4 * (gA t 39 3).toNat + 3 by omega, upZ_s]
  · rw [r41, upZ_n (by omega), upZ_n (by omega), upZ_n (by omega), upZ_n (by omega)]
theorem y_act {p0 p1 p2 p3 q0 q1 q2 q3 : Int} {s s' t : MS} (h : SY s t) (hP : PLJ s t) (h60 : gI s 785 < 60) (hA : AC1 p0 p1 p2 p3 q0 q1 q2 q3) (e : m_x5_addChange p0 p1 p2 p3 s = some s') : pc (m_x12_actTold q0 q1 q2 q3 t) (fun o => SY s' o ∧ PLJ s' o ∧ gI s' 108 = gI s 108) := by
  have F1 : F_x5_addChange s s' := fr_x5_addChange e
  obtain ⟨a1, a2, a3, a4, a5⟩ := s_chg h60 s' e
  have b := hP.2.1.1
  intro o eo
  have F2 : F_x12_actTold t o := fr_x12_actTold eo
  obtain ⟨⟨c1, c2⟩, ⟨c3, c4, c5, c6⟩, c7⟩ := m_act h.2.1.2 (by omega) o eo
  refine ⟨SY_f (SY_c h (fun i hi => F1.1 i (by simp; omega)) (F1.2.1 4 (by decide)) (F1.2.1 6 (by decide))) (F2.1 2 (by simp)) (F2.1 3 (by simp)) (F2.1 4 (by simp)) (F2.1 5 (by simp)) (fun k hk => F2.2.1 k (by simp; omega)), ⟨NMS_e hP.1 (F1.1 784 (by decide)) (F1.2.1 40 (by decide)) (c2 2 (by decide)) (F2.2.2.2 40 (by simp)), ⟨⟨by rw [c1, a1]; omega, by omega⟩, fun a ha => ?_⟩, ⟨?_, ?_, ?_⟩, ?_, ?_⟩, F1.1 108 (by decide)⟩
  · rw [a2, a3, a4, a5]
    by_cases z : (a : Int) < gI s 785
    · rw [upZ_n (by omega), upZ_n (by omega), upZ_n (by omega), upZ_n (by omega), c7 _ (by omega), c7 _ (by omega), c7 _ (by omega), c7 _ (by omega)]
      exact hP.2.1.2 a z
    · have ea : a = (gI s 785).toNat := by omega
      have eb : a = (gA t 39 3).toNat := by omega
      rw [← eb] at c3 c4 c5 c6
      rw [← ea, upZ_s, upZ_s, upZ_s, upZ_s, c3, c4, c5, c6]
      exact hA
  · rw [c2 0 (by decide), F1.1 780 (by decide)]; exact hP.2.2.1.1
  · rw [c2 1 (by decide), F1.1 781 (by decide)]; exact hP.2.2.1.2.1
  · rw [c2 4 (by decide), F1.1 782 (by decide)]; exact hP.2.2.1.2.2
  · unfold CDS
    rw [F1.1 941 (by decide), F1.2.1 48 (by decide), F1.2.1 45 (by decide), F1.2.1 46 (by decide), F2.1 45 (by simp), F2.2.1 44 (by decide), F2.2.1 42 (by decide), F2.2.1 43 (by decide)]
    exact hP.2.2.2.1
  · rw [F1.1 106 (by decide)]; exact hP.2.2.2.2
/-- actTold does nothing behind a fault -/
theorem m_actB {p0 p1 p2 p3 : Int} {t : MS} (h5 : gI t 5 ≠ 0) : pc (m_x12_actTold p0 p1 p2 p3 t) (fun o => o = t) := by
  unfold m_x12_actTold
  exact pc_rg (pc_if (fun c => absurd c h5) (fun c => pc_some rfl))
/-! ===== put and remove ===== -/
def DONE (s s' o : MS) : Prop := (SY s' o ∧ PLJ s' o ∧ gI s 108 ≤ gI s' 108) ∨ BR s' o
theorem y_put {s s' t : MS} (h : NX s t) (hP : PLJ s t) (h60 : gI s 785 < 60) (e : m_x6_readChange 5 s = some s') : pc (m_x12_putTold t) (fun o => DONE s s' o) := by
  have g : pc (m_x6_readChange 5 s) (fun o => ∃ s9 q12 q15 q20, m_x6_advance s = some s9 ∧ m_x6_expectVolume s9 = some q12 ∧ m_x6_expectNumber 0 999 q12.2 = some q15 ∧ m_x6_expectNumber 0 999 q15.2 = some q20 ∧ m_x5_addChange 5 q12.1 q15.1 q20.1 q20.2 = some o) := by
    unfold m_x6_readChange m_x6_readChange_J37
    exact pc_bn (fun s9 e9 => pc_bn (fun q12 e12 => pc_bn (fun q15 e15 => pc_rg (pc_if (fun _ => pc_bn (fun q20 e20 => pc_bn (fun s7 e7 => pc_some ⟨s9, q12, q15, q20, e9, e12, e15, e20, e7⟩))) (fun c => absurd rfl c)))))
  obtain ⟨s9, ⟨v, s12⟩, ⟨k, s15⟩, ⟨w, s20⟩, e9, e12, e15, e20, e7⟩ := g s' e
  dsimp only at e15 e20 e7
  have h9 := (y_adv h s9 e9)
  have a9 := TK_le h.2.2.1.1
  have f9 : FC s s9 := Fr_w (fr_x6_advance e9) (by decide)
  have f12 : FC s9 s12 := fr_x6_expectVolume e12
  have f15 : FC s12 s15 := fr_x6_expectNumber e15
  have f20 : FC s15 s20 := fr_x6_expectNumber e20
  have k15 : FKp 100 101 s12 s15 := fk_x6_expectNumber _ e15
  have k20 : FKp 100 101 s15 s20 := fk_x6_expectNumber _ e20
  have k7 : FKp 100 101 s20 s' := FKp.of (fr_x5_addChange e7) (by decide) (by decide)
  unfold m_x12_putTold
  have P9 : PLJ s9 t := PL_f hP f9 (Fr.rf t)
  refine pc_bn (fun q3 e3 => pc_bn (fun q6 e6 => pc_bn (fun q9 e9' => pc_bn (fun o eo => pc_some ?_))))
  obtain ⟨v', t3⟩ := q3
  obtain ⟨k', t6⟩ := q6
  obtain ⟨w', t9⟩ := q9
  dsimp only at e6 e9' eo
  have r3 := y_expVol h9.1 P9.1 e12 _ e3
  dsimp only at r3
  have g3 : FRf t t3 := Fr_w (fr_x12_volumeNamed e3) (by decide)
  have g6 : FRf t3 t6 := Fr_w (fr_x12_number e6) (by decide)
  have g9 : FRf t6 t9 := Fr_w (fr_x12_number e9') (by decide)
  have b6 : FKp 5 6 t3 t6 := fk_x12_number _ e6
  have b9 : FKp 5 6 t6 t9 := fk_x12_number _ e9'
  have last : BR s20 t9 → DONE s s' o := fun hb => by
    have := m_actB (by rw [hb.2.1]; exact hb.1) o eo
    rw [this]
    exact Or.inr (BR_go hb k7 (FKp.rf t9))
  by_cases z12 : gI s12 100 = 0
  · have y12 := RS_z r3.1 z12
    have v12 := r3.2 z12
    have P12 : PLJ s12 t3 := PL_f P9 f12 g3
    have r6 := y_expNum y12 (by decide) e15 _ e6
    dsimp only at r6
    by_cases z15 : gI s15 100 = 0
    · have y15 := RS_z r6.1 z15
      have v15 := r6.2 z15
      have P15 : PLJ s15 t6 := PL_f P12 f15 g6
      have r9 := y_expNum y15 (by decide) e20 _ e9'
      dsimp only at r9
      by_cases z20 : gI s20 100 = 0
      · have y20 := RS_z r9.1 z20
        have v20 := r9.2 z20
        have P20 : PLJ s20 t9 := PL_f P15 f20 g9
        have e785 : gI s20 785 = gI s 785 := (f20.1 785 (by decide)).trans ((f15.1 785 (by decide)).trans ((f12.1 785 (by decide)).trans (f9.1 785 (by decide))))
        obtain ⟨x1, x2, x3⟩ := y_act (q0 := 2) (q1 := v') (q2 := k') (q3 := w') y20 P20 (by omega) (Or.inr (Or.inr (Or.inl ⟨rfl, rfl, v12.1, v15.1, v20.1⟩))) e7 o eo
        have n1 := g_vol h9.1 e12 z12
        have n2 := g_num y12 e15 z15
        have n3 := g_num y15 e20 z20
        exact Or.inl ⟨x1, x2, by omega⟩
      · exact last (RS_n r9.1 z20)
    · exact last (BR_go (RS_n r6.1 z15) k20 b9)
  · exact last (BR_go (RS_n r3.1 z12) (k15.tr k20) (b6.tr b9))
theorem y_remove {s s' t : MS} (h : NX s t) (hP : PLJ s t) (h60 : gI s 785 < 60) (e : m_x6_readChange 6 s = some s') : pc (m_x12_removeTold t) (fun o => DONE s s' o) := by
  have g : pc (m_x6_readChange 6 s) (fun o => ∃ s9 q12 q15, m_x6_advance s = some s9 ∧ m_x6_expectVolume s9 = some q12 ∧ m_x6_expectNumber 0 999 q12.2 = some q15 ∧ m_x5_addChange 6 q12.1 q15.1 0 q15.2 = some o) := by
    unfold m_x6_readChange m_x6_readChange_J37
    exact pc_bn (fun s9 e9 => pc_bn (fun q12 e12 => pc_bn (fun q15 e15 => pc_rg (pc_if (fun c => absurd c (by decide)) (fun _ => pc_bn (fun s7 e7 => pc_some ⟨s9, q12, q15, e9, e12, e15, e7⟩))))))
  obtain ⟨s9, ⟨v, s12⟩, ⟨k, s15⟩, e9, e12, e15, e7⟩ := g s' e
  dsimp only at e15 e7
  have h9 := (y_adv h s9 e9)
  have a9 := TK_le h.2.2.1.1
  have f9 : FC s s9 := Fr_w (fr_x6_advance e9) (by decide)
  have f12 : FC s9 s12 := fr_x6_expectVolume e12
  have f15 : FC s12 s15 := fr_x6_expectNumber e15
  have k15 : FKp 100 101 s12 s15 := fk_x6_expectNumber _ e15
  have k7 : FKp 100 101 s15 s' := FKp.of (fr_x5_addChange e7) (by decide) (by decide)
  unfold m_x12_removeTold
  have P9 : PLJ s9 t := PL_f hP f9 (Fr.rf t)
  refine pc_bn (fun q3 e3 => pc_bn (fun q6 e6 => pc_bn (fun o eo => pc_some ?_)))
  obtain ⟨v', t3⟩ := q3
  obtain ⟨k', t6⟩ := q6
  dsimp only at e6 eo
  have r3 := y_expVol h9.1 P9.1 e12 _ e3
  dsimp only at r3
  have g3 : FRf t t3 := Fr_w (fr_x12_volumeNamed e3) (by decide)
  have g6 : FRf t3 t6 := Fr_w (fr_x12_number e6) (by decide)
  have b6 : FKp 5 6 t3 t6 := fk_x12_number _ e6
  have last : BR s15 t6 → DONE s s' o := fun hb => by
    have := m_actB (by rw [hb.2.1]; exact hb.1) o eo
    rw [this]
    exact Or.inr (BR_go hb k7 (FKp.rf t6))
  by_cases z12 : gI s12 100 = 0
  · have y12 := RS_z r3.1 z12
    have v12 := r3.2 z12
    have P12 : PLJ s12 t3 := PL_f P9 f12 g3
    have r6 := y_expNum y12 (by decide) e15 _ e6
    dsimp only at r6
    by_cases z15 : gI s15 100 = 0
    · have y15 := RS_z r6.1 z15
      have v15 := r6.2 z15
      have P15 : PLJ s15 t6 := PL_f P12 f15 g6
      have e785 : gI s15 785 = gI s 785 := (f15.1 785 (by decide)).trans ((f12.1 785 (by decide)).trans (f9.1 785 (by decide)))
      obtain ⟨x1, x2, x3⟩ := y_act (q0 := 3) (q1 := v') (q2 := k') (q3 := 0) y15 P15 (by omega) (Or.inr (Or.inr (Or.inr ⟨rfl, rfl, v12.1, v15.1⟩))) e7 o eo
      have n1 := g_vol h9.1 e12 z12
      have n2 := g_num y12 e15 z15
      exact Or.inl ⟨x1, x2, by omega⟩
    · exact last (RS_n r6.1 z15)
  · exact last (BR_go (RS_n r3.1 z12) k15 b6)
/-! ===== volumes and clones on both sides ===== -/
theorem s_let2 {s X : MS} {k : Nat} (k4 : gA X 4 = gA s 4) (k61 : gI X 61 = gI s 61) (h0 : 0 ≤ gI s 108) (h9 : gI s 109 ≤ gI s 61) : pc (m_x5_letterAt (gI s 108 + (k : Int)) (gI s 109) X) (fun r => r = lt s k) := by
  unfold m_x5_letterAt m_x5_letterAt_J19
  refine pc_rg (pc_rg (pc_if (fun c => pc_some (lt_out (by omega)).symm) (fun c => pc_bq s_at (fun r6 h6 => pc_some ?_))))
  rw [lt_in (by omega)]
  rcases h6 with q | q
  · rw [q.2, k4, show (gI s 108 + (k : Int)).toNat = (gI s 108).toNat + k by omega]
  · omega
theorem s_addV {s X : MS} (k4 : gA X 4 = gA s 4) (k61 : gI X 61 = gI s 61) (h0 : 0 ≤ gI s 108) (h9 : gI s 109 ≤ gI s 61) (h8 : 0 ≤ gI X 784 ∧ gI X 784 < 8) : pc (m_x5_addVolume (gI s 108) (gI s 109) X) (fun q => (q.1 = gI X 784 ∧ gI q.2 784 = gI X 784 + 1) ∧ (∀ k, k < 6 → gA q.2 40 ((gI X 784).toNat * 6 + k) = lt s k) ∧ ∀ j : Nat, j < (gI X 784).toNat * 6 → gA q.2 40 j = gA X 40 j) := by
  have L : ∀ (n : Nat) (k : Nat) (S : MS), k ≤ 6 → (gA S 4 = gA X 4 ∧ gI S 61 = gI X 61 ∧ gI S 784 = gI X 784) → (∀ j, j < k → gA S 40 ((gI X 784).toNat * 6 + j) = lt s j) → (∀ j : Nat, j < (gI X 784).toNat * 6 → gA S 40 j = gA X 40 j) → pc (m_x5_addVolume_L14 n (gI s 108) (gI s 109) (k : Int) S) (fun q => (q.1 = gI X 784 ∧ gI q.2 784 = gI X 784 + 1) ∧ (∀ k, k < 6 → gA q.2 40 ((gI X 784).toNat * 6 + k) = lt s k) ∧ ∀ j : Nat, j < (gI X 784).toNat * 6 → gA q.2 40 j = gA X 40 j) := by
    refine fr_ind (fun _ _ _ _ _ _ => pc_none) (fun n ih k S hk hf hd hb => ?_)
    show pc (m_x5_addVolume_b14 (m_x5_addVolume_L14 n) (gI s 108) (gI s 109) (k : Int) S) _
    unfold m_x5_addVolume_b14
    refine pc_rg (pc_if (fun c => pc_stn (fun s7 e7 => pc_some ?_)) (fun c => pc_bq (s_let2 (hf.1.trans k4) (hf.2.1.trans k61) h0 h9) (fun r9 h9' => pc_inb (pc_stn (fun s11 e11 => ?_)))))
    · have a : gI s7 784 = gI S 784 + 1 := q_II e7
      have b : gA s7 40 = gA S 40 := q_Ia e7
      refine ⟨⟨by show gI s7 784 - 1 = _; omega, by show gI s7 784 = _; omega⟩, fun j hj => ?_, fun j hj => ?_⟩
      · show gA s7 40 _ = _
        rw [b]; exact hd j (by omega)
      · show gA s7 40 _ = _
        rw [b]; exact hb j hj
    · have ek : (k : Int) + 1 = ((k + 1 : Nat) : Int) := rfl
      rw [ek]
      have b : gA s11 40 = upZ (gA S 40) (gI S 784 * 6 + (k : Int)).toNat r9 := q_AA e11
      have c3 := hf.2.2
      have ei : (gI S 784 * 6 + (k : Int)).toNat = (gI X 784).toNat * 6 + k := by omega
      refine ih (k + 1) s11 (by omega) ⟨(q_Aa e11 (by decide)).trans hf.1, (q_Ai e11).trans hf.2.1, (q_Ai e11).trans c3⟩ (fun j hj => ?_) (fun j hj => ?_)
      · rw [b, ei]
        by_cases z : j = k
        · rw [z, upZ_s]; exact h9'
        · rw [upZ_n (by omega)]; exact hd j (by omega)
      · rw [b, ei, upZ_n (by omega)]; exact hb j hj
  unfold m_x5_addVolume
  exact pc_rg (pc_if (fun _ => L FU 0 X (by omega) ⟨rfl, rfl, rfl⟩ (fun j hj => absurd hj (Nat.not_lt_zero j)) (fun _ _ => rfl)) (fun c => by exfalso; omega))
theorem NM1_c {f g : Nat → Int} {z : Int} (h : NM1 g z) (e : ∀ j, j < 6 → f j = g j) : NM1 f z := by
  obtain ⟨n, n1, n2, n3, n4⟩ := h
  exact ⟨n, n1, fun j hj => by rw [e j (by omega)]; exact n2 j hj, fun j a b => by rw [e j b]; exact n3 j a b, by rw [n4]; exact (nv_e (fun j hj => e j (by omega))).symm⟩
theorem ACS_add {p0 p1 p2 p3 q0 q1 q2 q3 : Int} {s s' t o : MS} (hP : ACS s t) (h60 : gI s 785 < 60) (hA : AC1 p0 p1 p2 p3 q0 q1 q2 q3) (e : m_x5_addChange p0 p1 p2 p3 s = some s') (h5 : gI t 5 = 0) (eo : m_x12_actTold q0 q1 q2 q3 t = some o) : ACS s' o ∧ ∀ k, k ≠ 3 → gA o 39 k = gA t 39 k := by
  obtain ⟨a1, a2, a3, a4, a5⟩ := s_chg h60 s' e
  have b := hP.1
  obtain ⟨⟨c1, c2⟩, ⟨c3, c4, c5, c6⟩, c7⟩ := m_act h5 (by omega) o eo
  refine ⟨⟨⟨by rw [c1, a1]; omega, by omega⟩, fun a ha => ?_⟩, c2⟩
  rw [a2, a3, a4, a5]
  by_cases z : (a : Int) < gI s 785
  · rw [upZ_n (by omega), upZ_n (by omega), upZ_n (by omega), upZ_n (by omega), c7 _ (by omega), c7 _ (by omega), c7 _ (by omega), c7 _ (by omega)]
    exact hP.2 a z
  · have ea : a = (gI s 785).toNat := by omega
    have eb : a = (gA t 39 3).toNat := by omega
    rw [← eb] at c3 c4 c5 c6
    rw [← ea, upZ_s, upZ_s, upZ_s, upZ_s, c3, c4, c5, c6]
    exact hA
/-- a volume more -/
theorem y_vfin {x p r8 src of z : Int} {s s5 s8 s' t : MS} (h : SY s5 t) (hP : PLJ s5 t) (k4 : gA s5 4 = gA s 4) (k61 : gI s5 61 = gI s 61) (h0 : 0 ≤ gI s 108) (h9 : gI s 109 ≤ gI s 61) (h8 : gI s5 784 < 8) (h60 : gI s5 785 < 60) (hz : NM1 (lt s) z) (hx : (x = 2 ∧ p = 0) ∨ (x = 3 ∧ p = 1 ∧ of = src)) (e8 : m_x5_addVolume (gI s 108) (gI s 109) s5 = some (r8, s8)) (e10 : m_x5_addChange x r8 src 0 s8 = some s') : pc (m_x12_volumeTold_J50 p z of t) (fun o => SY s' o ∧ PLJ s' o ∧ gI s' 108 = gI s5 108) := by
  have n0 := hP.1.1
  obtain ⟨⟨a1, a2⟩, a3, a4⟩ := s_addV k4 k61 h0 h9 ⟨n0.2.1, h8⟩ _ e8
  dsimp only at a1 a2 a3 a4
  have F8 : F_x5_addVolume s5 s8 := fr_x5_addVolume e8
  have F10 : F_x5_addChange s8 s' := fr_x5_addChange e10
  have A8 : ACS s8 t := by
    have q := hP.2.1
    unfold ACS at q ⊢
    rw [F8.1 785 (by decide), F8.2.1 41 (by decide), F8.2.1 42 (by decide), F8.2.1 43 (by decide), F8.2.1 44 (by decide)]
    exact q
  have J83 : ∀ x2 x3 : Int, AC1 x r8 src 0 x3 x2 (gA t 39 2) 0 → pc (m_x12_volumeTold_J83 z x2 x3 t) (fun o => SY s' o ∧ PLJ s' o ∧ gI s' 108 = gI s5 108) := fun x2 x3 hA => by
    unfold m_x12_volumeTold_J83
    refine pc_rdI (fun _ => pc_bn (fun s7 e7 => pc_rdI (fun _ => pc_inb (pc_stn (fun s10 e10' => pc_rdI (fun _ => pc_inb (pc_stn (fun s13 e13 => pc_some ?_))))))))
    have e7 : m_x12_actTold x3 x2 (gA t 39 2) 0 t = some s7 := e7
    have F7 : F_x12_actTold t s7 := fr_x12_actTold e7
    obtain ⟨A', c2⟩ := ACS_add A8 (by rw [F8.1 785 (by decide)]; exact h60) hA e10 h.2.1.2 e7
    have r39 : gA s10 39 = gA s7 39 := q_Ba e10'
    have q39 : gA s13 39 = upZ (gA s7 39) 2 (gA t 39 2 + 1) := by
      rw [(q_AA e13 : gA s13 39 = _), r39]
      show upZ (gA s7 39) 2 (gA s7 39 2 + 1) = _
      rw [c2 2 (by decide)]
    have q40 : gB s13 40 = upZ (gB t 40) (gA t 39 2).toNat z := by
      rw [(q_Ab e13 : gB s13 40 = gB s10 40), (q_BB e10' : gB s10 40 = _), F7.2.2.2 40 (by simp)]
      show upZ (gB t 40) (gA s7 39 2).toNat z = _
      rw [c2 2 (by decide)]
    have kI : ∀ i, gI s13 i = gI t i := fun i => (q_Ai e13).trans ((q_Bi e10').trans (F7.1 i (by simp)))
    have kA : ∀ k, k ≠ 39 → k ≠ 41 → gA s13 k = gA t k := fun k a b => (q_Aa e13 a).trans ((q_Ba e10').trans (F7.2.1 k (by simp; omega)))
    have k41 : gA s13 41 = gA s7 41 := (q_Aa e13 (by decide)).trans (q_Ba e10')
    have cI : ∀ i, i ≠ 784 → i ≠ 785 → gI s' i = gI s5 i := fun i a b => (F10.1 i (by simp; omega)).trans (F8.1 i (by simp; omega))
    have cA : ∀ k, k < 40 ∨ 44 < k → gA s' k = gA s5 k := fun k a => (F10.2.1 k (by simp; omega)).trans (F8.2.1 k (by simp; omega))
    have c40 : gA s' 40 = gA s8 40 := F10.2.1 40 (by decide)
    have c784 : gI s' 784 = gI s5 784 + 1 := (F10.1 784 (by decide)).trans a2
    refine ⟨SY_f (SY_c h (fun i hi => cI i (by omega) (by omega)) (cA 4 (by omega)) (cA 6 (by omega))) (kI 2) (kI 3) (kI 4) (kI 5) (fun k hk => kA k (by omega) (by omega)), ⟨⟨⟨by rw [q39, upZ_s, c784]; omega, by omega, by omega⟩, fun v hv => ?_⟩, ?_, ⟨?_, ?_, ?_⟩, ?_, ?_⟩, cI 108 (by decide) (by decide)⟩
    · rw [q40, c40]
      by_cases zz : (v : Int) < gI s5 784
      · rw [upZ_n (by omega)]
        exact NM1_c (hP.1.2 v zz) (fun j hj => a4 _ (by omega))
      · have ev : v = (gI s5 784).toNat := by omega
        rw [show (gA t 39 2).toNat = v by omega, upZ_s, ev]
        exact NM1_c hz (fun j hj => a3 j hj)
    · unfold ACS at A' ⊢
      rw [q39, upZ_n (by decide), k41]
      exact A'
    · rw [q39, upZ_n (by decide), c2 0 (by decide), cI 780 (by decide) (by decide)]; exact hP.2.2.1.1
    · rw [q39, upZ_n (by decide), c2 1 (by decide), cI 781 (by decide) (by decide)]; exact hP.2.2.1.2.1
    · rw [q39, upZ_n (by decide), c2 4 (by decide), cI 782 (by decide) (by decide)]; exact hP.2.2.1.2.2
    · unfold CDS
      rw [cI 941 (by decide) (by decide), cA 48 (by omega), cA 45 (by omega), cA 46 (by omega), kI 45, kA 44 (by decide) (by decide), kA 42 (by decide) (by decide), kA 43 (by decide) (by decide)]
      exact hP.2.2.2.1
    · rw [cI 106 (by decide) (by decide)]; exact hP.2.2.2.2
  have e2 : gA t 39 2 = r8 := by omega
  unfold m_x12_volumeTold_J50 m_x12_volumeTold_J68
  refine pc_rg (pc_if (fun _ => pc_rg (pc_if (fun c => pc_rg (pc_if (fun _ => pc_rdI (fun _ => J83 _ 0 ?_)) (fun c2 => absurd c c2))) (fun c => pc_rg (pc_if (fun c2 => absurd c2 c) (fun _ => J83 of 1 ?_))))) (fun c => absurd h.2.1.2 c))
  · rcases hx with q | q
    · exact Or.inl ⟨q.1, rfl, e2, e2⟩
    · omega
  · rcases hx with q | q
    · exact absurd q.2 c
    · exact Or.inr (Or.inl ⟨q.1, rfl, q.2.2, e2⟩)
/-- a new name, with the reference -/
theorem y_nl {s X : MS} (hN : NMS s X) (hT : TK s) (k : gI s 107 = 1) (l : gI s 109 - gI s 108 ≤ 6) (h5 : gI X 5 = 0) : ∀ (n : Nat) (v : Nat), (∀ u, u < v → ¬ SAM s u) → pc (m_x12_newName_L7 n (nv (lt s) (gI s 109 - gI s 108).toNat) (v : Int) X) (fun q => (∃ w : Nat, ((w : Int) < gI s 784 ∧ SAM s w) ∧ gI q.2 5 = 3 ∧ gI q.2 6 = gI X 38) ∨ ((∀ u : Nat, (u : Int) < gI s 784 → ¬ SAM s u) ∧ q.1 = nv (lt s) (gI s 109 - gI s 108).toNat ∧ q.2 = X)) := by
  refine fr_ind (fun _ _ => pc_none) (fun n ih v hv => ?_)
  show pc (m_x12_newName_b7 (m_x12_newName_L7 n) _ (v : Int) X) _
  unfold m_x12_newName_b7 m_x12_newName_J44
  have e2 : gA X 39 (Int.toNat 2) = gI s 784 := hN.1.1
  refine pc_rdI (fun _ => pc_rg (pc_rg (pc_if (fun c => pc_some (Or.inr ⟨fun u hu => hv u (by omega), rfl, rfl⟩)) (fun c => pc_rg (pc_if (fun _ => pc_rdL (pc_rgL (pc_rgL (pc_if (fun c2 => pc_bq (m_fail h5) (fun s18 h18 => ?_)) (fun c2 => ?_))))) (fun c2 => absurd h5 c2))))))
  · refine pc_mono (fk_x12_newName_L7 n _ _ s18 (FKp.rf s18)) (fun q hq => Or.inl ⟨v, ⟨by omega, (SAM_iff hN hT k l (by omega)).1 c2⟩, ?_⟩)
    have a := hq (by omega)
    exact ⟨a.1.trans h18.1, a.2.trans h18.2⟩
  · refine ih (v + 1) (fun u hu => ?_)
    by_cases z : u = v
    · rw [z]; exact fun q => c2 ((SAM_iff hN hT k l (by omega)).2 q)
    · exact hv u (by omega)
theorem y_new {s t : MS} (h : SY s t) (hN : NMS s t) : pc (m_x12_newName t) (fun q => (¬ NAM s ∧ gI q.2 5 = 1 ∧ gI q.2 6 = gI s 108) ∨ ((NAM s ∧ 6 < gI s 109 - gI s 108) ∧ gI q.2 5 = 1 ∧ gI q.2 6 = gI s 108 + 6) ∨ ((NAM s ∧ gI s 109 - gI s 108 ≤ 6) ∧ (∃ w : Nat, (w : Int) < gI s 784 ∧ SAM s w) ∧ gI q.2 5 = 3 ∧ gI q.2 6 = gI s 108) ∨ ((NAM s ∧ gI s 109 - gI s 108 ≤ 6) ∧ (∀ u : Nat, (u : Int) < gI s 784 → ¬ SAM s u) ∧ q.1 = nv (lt s) (gI s 109 - gI s 108).toNat ∧ NX s q.2)) := by
  unfold m_x12_newName
  refine pc_bn (fun q21 e21 => ?_)
  have hy := y_name h q21 e21
  have F : F_x12_name t q21.2 := fr_x12_name e21
  obtain ⟨z, X⟩ := q21
  dsimp only at hy F ⊢
  rcases hy with ⟨a, b⟩ | ⟨a, b⟩ | ⟨a, a2, a3, a4⟩
  · refine pc_mono (fk_x12_newName_L7 FU z 0 X (FKp.rf X)) (fun q hq => Or.inl ⟨a, ?_⟩)
    have d := hq (by omega)
    exact ⟨d.1.trans b.1, d.2.trans b.2⟩
  · refine pc_mono (fk_x12_newName_L7 FU z 0 X (FKp.rf X)) (fun q hq => Or.inr (Or.inl ⟨a, ?_⟩))
    have d := hq (by omega)
    exact ⟨d.1.trans b.1, d.2.trans b.2⟩
  · have N' : NMS s X := NMS_e hN rfl rfl (by rw [F.2.1 39 (by simp)]) (F.2.2.2 40 (by simp))
    rw [a2]
    refine pc_mono (y_nl N' h.2.2.1.1 a.1.1 a.2 a3.2.1.2 FU 0 (fun u hu => absurd hu (Nat.not_lt_zero u))) (fun q hq => ?_)
    rcases hq with ⟨w, g1, g2⟩ | ⟨g1, g2, g3⟩
    · rw [a4] at g2
      exact Or.inr (Or.inr (Or.inl ⟨a, ⟨w, g1⟩, g2⟩))
    · exact Or.inr (Or.inr (Or.inr ⟨a, g1, g2, by rw [g3]; exact a3⟩))
/-! ===== a volume or a clone, whole ===== -/
theorem fk_cfail {k p : Int} {s : MS} : pc (m_x6_fail k p s) (fun q => FKp 100 101 s q.2) := by
  unfold m_x6_fail m_x6_fail_J22
  exact pc_rg (pc_if (fun c => pc_stn (fun s4 e4 => pc_stn (fun s5 e5 => pc_stn (fun s6 e6 => pc_some (fun z => absurd c z))))) (fun c => pc_some (FKp.rf s)))
theorem fk_J96 {x1 x2 x3 x4 : Int} {s : MS} : pc (m_x6_readVolume_J96 x1 x2 x3 x4 s) (fun o => FKp 100 101 s o) := by
  unfold m_x6_readVolume_J96
  refine pc_bn (fun q8 e8 => pc_bn (fun s10 e10 => pc_some ?_))
  have F8 : F_x5_addVolume s q8.2 := fr_x5_addVolume e8
  have F10 : F_x5_addChange q8.2 s10 := fr_x5_addChange e10
  exact (FKp.of F8 (by decide) (by decide)).tr (FKp.of F10 (by decide) (by decide))
theorem fk_cadv {s o : MS} (e : m_x6_advance s = some o) : FKp 100 101 s o := FKp.of (fr_x6_advance e) (by decide) (by decide)
theorem s_vJ61 {x : Int} {s : MS} : pc (m_x6_readVolume_J61 x s) (fun o => ∃ s14, m_x6_advance s = some s14 ∧ ((x = 3 ∧ ∃ s18 q21, m_x6_expectWord 4 s14 = some s18 ∧ m_x6_expectVolume s18 = some q21 ∧ m_x6_readVolume_J96 x (gI s 108) (gI s 109) q21.1 q21.2 = some o) ∨ (x ≠ 3 ∧ m_x6_readVolume_J96 x (gI s 108) (gI s 109) (-1) s14 = some o))) := by
  unfold m_x6_readVolume_J61
  exact pc_bn (fun s14 e14 => pc_rg (pc_if (fun c => pc_bn (fun s18 e18 => pc_bn (fun q21 e21 => fun o eo => ⟨s14, e14, Or.inl ⟨c, s18, q21, e18, e21, eo⟩⟩))) (fun c => fun o eo => ⟨s14, e14, Or.inr ⟨c, eo⟩⟩)))
theorem fk_J61 {x : Int} {s : MS} : pc (m_x6_readVolume_J61 x s) (fun o => FKp 100 101 s o) := fun o eo => by
  obtain ⟨s14, e14, q⟩ := s_vJ61 o eo
  rcases q with ⟨_, s18, q21, e18, e21, q⟩ | ⟨_, q⟩
  · exact (fk_cadv e14).tr ((fk_x6_expectWord s18 e18).tr ((fk_x6_expectVolume q21 e21).tr (fk_J96 o q)))
  · exact (fk_cadv e14).tr (fk_J96 o q)
theorem s_vJ19 {x : Int} {s : MS} : pc (m_x6_readVolume_J19 x s) (fun o => ∃ s25 q28, m_x6_advance s = some s25 ∧ m_x6_isName s25 = some q28 ∧ ((q28.1 = 0 ∧ o = q28.2) ∨ (q28.1 ≠ 0 ∧ ∃ r32, m_x5_volumeNamed (gI q28.2 108) (gI q28.2 109) q28.2 = some r32 ∧ ((r32 = -1 ∧ m_x6_readVolume_J61 x q28.2 = some o) ∨ (r32 ≠ -1 ∧ ∃ q37, m_x6_fail 3 (gI q28.2 108) q28.2 = some q37 ∧ m_x6_readVolume_J61 x q37.2 = some o))))) := by
  unfold m_x6_readVolume_J19
  exact pc_bn (fun s25 e25 => pc_bn (fun q28 e28 => pc_rg (pc_if (fun c => pc_some ⟨s25, q28, e25, e28, Or.inl ⟨c, rfl⟩⟩) (fun c => pc_bn (fun r32 e32 => pc_rg (pc_if (fun c2 => fun o eo => ⟨s25, q28, e25, e28, Or.inr ⟨c, r32, e32, Or.inl ⟨c2, eo⟩⟩⟩) (fun c2 => pc_bn (fun q37 e37 => fun o eo => ⟨s25, q28, e25, e28, Or.inr ⟨c, r32, e32, Or.inr ⟨c2, q37, e37, eo⟩⟩⟩))))))))
theorem fk_J19 {x : Int} {s : MS} : pc (m_x6_readVolume_J19 x s) (fun o => FKp 100 101 s o) := fun o eo => by
  obtain ⟨s25, q28, e25, e28, q⟩ := s_vJ19 o eo
  have a := (fk_cadv e25).tr (fk_x6_isName q28 e28)
  rcases q with ⟨_, q⟩ | ⟨_, r32, _, q⟩
  · rw [q]; exact a
  · rcases q with ⟨_, q⟩ | ⟨_, q37, e37, q⟩
    · exact a.tr (fk_J61 o q)
    · exact a.tr ((fk_cfail q37 e37).tr (fk_J61 o q))
theorem m_J50B {p z of : Int} {t : MS} (h5 : gI t 5 ≠ 0) : pc (m_x12_volumeTold_J50 p z of t) (fun o => o = t) := by
  unfold m_x12_volumeTold_J50
  exact pc_rg (pc_if (fun c => absurd c h5) (fun c => pc_some rfl))
theorem fk_tail {p z : Int} {t : MS} (h5 : gI t 5 ≠ 0) : pc (rg p (if p = 0 then m_x12_volumeTold_J50 p z (-1) t else bn (m_x12_asks 15 2 t) (fun s38 => bn (m_x12_volumeNamed s38) (fun qr41 => m_x12_volumeTold_J50 p z qr41.1 qr41.2)))) (fun o => FKp 5 6 t o) := by
  refine pc_rg (pc_if (fun c => pc_mono (m_J50B h5) (fun o e => by rw [e]; exact FKp.rf t)) (fun c => pc_bn (fun s38 e38 => pc_bn (fun q41 e41 => ?_))))
  have a : FKp 5 6 t s38 := fk_x12_asks s38 e38
  have b : FKp 5 6 s38 q41.2 := fk_x12_volumeNamed q41 e41
  have d := (a.tr b) h5
  exact pc_mono (m_J50B (by rw [d.1]; exact h5)) (fun o e => by rw [e]; exact a.tr b)
theorem fk_J24 {p : Int} {t : MS} (h5 : gI t 5 ≠ 0) : pc (m_x12_volumeTold_J24 p t) (fun o => FKp 5 6 t o) := by
  unfold m_x12_volumeTold_J24
  refine pc_bn (fun q34 e34 => ?_)
  have a : FKp 5 6 t q34.2 := fk_x12_newName q34 e34
  exact pc_mono (fk_tail (by rw [(a h5).1]; exact h5)) (fun o b => a.tr b)
theorem y_J24 {x p : Int} {s s' t : MS} (h : NX s t) (hP : PLJ s t) (h8 : gI s 784 < 8) (h60 : gI s 785 < 60) (hx : (x = 2 ∧ p = 0) ∨ (x = 3 ∧ p = 1)) (e : m_x6_readVolume_J19 x s = some s') : pc (m_x12_volumeTold_J24 p t) (fun o => DONE s s' o) := by
  obtain ⟨s25, q28, e25, e28, hq⟩ := s_vJ19 s' e
  have h25 := y_adv h s25 e25
  have a25 := TK_le h.2.2.1.1
  have f25 : FC s s25 := Fr_w (fr_x6_advance e25) (by decide)
  have P25 : PLJ s25 t := PL_f hP f25 (Fr.rf t)
  have hT := h25.1.2.2.1.1
  have b25 := TK_le hT
  have hn := s_name h25.1.2.1.1 hT q28 e28
  unfold m_x12_volumeTold_J24
  refine pc_bn (fun q34 e34 => ?_)
  have hy := y_new h25.1 P25.1 q34 e34
  have g34 : FRf t q34.2 := Fr_w (fr_x12_newName e34) (by decide)
  obtain ⟨z, t34⟩ := q34
  obtain ⟨r28, s28⟩ := q28
  dsimp only at hy g34 hn hq ⊢
  have bad : BR s' t34 → pc (rg p (if p = 0 then m_x12_volumeTold_J50 p z (-1) t34 else bn (m_x12_asks 15 2 t34) (fun s38 => bn (m_x12_volumeNamed s38) (fun qr41 => m_x12_volumeTold_J50 p z qr41.1 qr41.2)))) (fun o => DONE s s' o) := fun hb =>
    pc_mono (fk_tail (by rw [hb.2.1]; exact hb.1)) (fun o b => Or.inr (BR_go hb (FKp.rf s') b))
  rcases hn with ⟨n1, n2, n3⟩ | ⟨n1, n2, n3⟩ | ⟨n1, n2, n3⟩
  · rcases hq with ⟨_, q⟩ | ⟨q, _⟩
    · rw [q] at bad ⊢
      rcases hy with ⟨_, b⟩ | ⟨c, _⟩ | ⟨c, _⟩ | ⟨c, _⟩
      · exact bad (BR_mk (by decide) n3 b)
      · exact absurd c.1 n2
      · exact absurd c.1 n2
      · exact absurd c.1 n2
    · exact absurd n1 q
  · rcases hq with ⟨_, q⟩ | ⟨q, _⟩
    · rw [q] at bad ⊢
      rcases hy with ⟨c, _⟩ | ⟨_, b⟩ | ⟨c, _⟩ | ⟨c, _⟩
      · exact absurd n2.1 c
      · exact bad (BR_mk (by decide) n3 b)
      · omega
      · omega
    · exact absurd n1 q
  · rcases hq with ⟨q, _⟩ | ⟨_, r32, e32, hq⟩
    · omega
    · rw [n3] at e32 hq
      have hv := s_vol b25.1 b25.2.2 r32 e32
      rcases hq with ⟨q, eo⟩ | ⟨q, q37, e37, eo⟩
      · -- a new name
        have no : ∀ u : Nat, (u : Int) < gI s25 784 → ¬ SAM s25 u := by
          rcases hv with g | ⟨v, g, _⟩
          · exact g.2
          · omega
        rcases hy with ⟨c, _⟩ | ⟨c, _⟩ | ⟨_, ⟨w, c1, c2⟩, _⟩ | ⟨_, _, hz, N34⟩
        · exact absurd n2.1 c
        · omega
        · exact absurd c2 (no w c1)
        · obtain ⟨s14, e14, hq⟩ := s_vJ61 s' eo
          have h14 := y_adv N34 s14 e14
          have f14 : FC s25 s14 := Fr_w (fr_x6_advance e14) (by decide)
          have P14 : PLJ s14 t34 := PL_f P25 f14 g34
          have nm : NM1 (lt s25) z := by rw [hz]; exact lt_nm hT n2.1.1 n2.2
          have s96 : ∀ {src : Int} {X : MS}, m_x6_readVolume_J96 x (gI s25 108) (gI s25 109) src X = some s' → ∃ r8 s8, m_x5_addVolume (gI s25 108) (gI s25 109) X = some (r8, s8) ∧ m_x5_addChange x r8 src 0 s8 = some s' := fun {src X} eX => by
            have g : pc (m_x6_readVolume_J96 x (gI s25 108) (gI s25 109) src X) (fun o => ∃ r8 s8, m_x5_addVolume (gI s25 108) (gI s25 109) X = some (r8, s8) ∧ m_x5_addChange x r8 src 0 s8 = some o) := by
              unfold m_x6_readVolume_J96
              exact pc_bn (fun q8 e8 => pc_bn (fun s10 e10 => pc_some ⟨q8.1, q8.2, e8, e10⟩))
            exact g s' eX
          rcases hq with ⟨x3, s18, ⟨v21, s21⟩, e18, e21, e96⟩ | ⟨x3, e96⟩
          · have p1 : p = 1 := by clear hv; omega
            refine pc_rg (pc_if (fun c => by exfalso; omega) (fun _ => pc_bn (fun t38 e38 => pc_bn (fun q41 e41 => ?_))))
            obtain ⟨v41, t41⟩ := q41
            dsimp only at e96 ⊢
            have r38 : RS s18 t38 := y_expWord (w := 4) h14.1 (by decide) (by decide) (fun j hj => N34.2.2.2.2.2.1 4 (by decide) j hj) e18 t38 e38
            have f18 : FC s14 s18 := fr_x6_expectWord e18
            have f21 : FC s18 s21 := fr_x6_expectVolume e21
            have g38 : FRf t34 t38 := Fr_w (fr_x12_asks e38) (by decide)
            have g41 : FRf t38 t41 := Fr_w (fr_x12_volumeNamed e41) (by decide)
            have k21 : FKp 100 101 s18 s21 := fk_x6_expectVolume _ e21
            have k41 : FKp 5 6 t38 t41 := fk_x12_volumeNamed _ e41
            have kl : FKp 100 101 s21 s' := fk_J96 s' e96
            have last : BR s21 t41 → pc (m_x12_volumeTold_J50 p z v41 t41) (fun o => DONE s s' o) := fun hb =>
              pc_mono (m_J50B (by rw [hb.2.1]; exact hb.1)) (fun o e => by rw [e]; exact Or.inr (BR_go hb kl (FKp.rf t41)))
            by_cases z18 : gI s18 100 = 0
            · have y18 := RS_z r38 z18
              have P18 : PLJ s18 t38 := PL_f P14 f18 g38
              have r41 := y_expVol y18 P18.1 e21 _ e41
              dsimp only at r41
              by_cases z21 : gI s21 100 = 0
              · have y21 := RS_z r41.1 z21
                have v21' := r41.2 z21
                have P21 : PLJ s21 t41 := PL_f P18 f21 g41
                obtain ⟨r8, s8, e8, e10⟩ := s96 e96
                have fA : ∀ k, gA s21 k = gA s25 k := fun k => (f21.2.1 k (by simp)).trans ((f18.2.1 k (by simp)).trans (f14.2.1 k (by simp)))
                have fI : ∀ i, i ∉ [100, 101, 107, 108, 109, 110, 111] → gI s21 i = gI s25 i := fun i hi => (f21.1 i hi).trans ((f18.1 i hi).trans (f14.1 i hi))
                have u1 : gI s21 784 = gI s 784 := (fI 784 (by decide)).trans (f25.1 784 (by decide))
                have u2 : gI s21 785 = gI s 785 := (fI 785 (by decide)).trans (f25.1 785 (by decide))
                refine pc_mono (y_vfin (x := x) (p := p) (s := s25) y21 P21 (fA 4) (fI 61 (by decide)) b25.1 b25.2.2 (by omega) (by omega) nm (Or.inr ⟨x3, p1, v21'.1⟩) e8 e10) (fun o ho => Or.inl ⟨ho.1, ho.2.1, ?_⟩)
                have m1 := g_word h14.1 e18 z18
                have m2 := g_vol y18 e21 z21
                have m3 := ho.2.2
                omega
              · exact last (RS_n r41.1 z21)
            · exact last (BR_go (RS_n r38 z18) k21 k41)
          · have p0 : p = 0 := by clear hv; omega
            have x2 : x = 2 := by clear hv; omega
            refine pc_rg (pc_if (fun _ => ?_) (fun c => absurd p0 c))
            obtain ⟨r8, s8, e8, e10⟩ := s96 e96
            have u1 : gI s14 784 = gI s 784 := (f14.1 784 (by decide)).trans (f25.1 784 (by decide))
            have u2 : gI s14 785 = gI s 785 := (f14.1 785 (by decide)).trans (f25.1 785 (by decide))
            refine pc_mono (y_vfin (x := x) (p := p) (s := s25) h14.1 P14 (f14.2.1 4 (by simp)) (f14.1 61 (by decide)) b25.1 b25.2.2 (by omega) (by omega) nm (Or.inl ⟨x2, p0⟩) e8 e10) (fun o ho => Or.inl ⟨ho.1, ho.2.1, ?_⟩)
            have m3 := ho.2.2
            omega
      · -- a name that is there
        obtain ⟨v, v1, v2, v3, v4⟩ : ∃ v : Nat, r32 = (v : Int) ∧ (v : Int) < gI s25 784 ∧ SAM s25 v ∧ ∀ u, u < v → ¬ SAM s25 u := by
          rcases hv with g | g
          · exact absurd g.1 q
          · exact g
        rcases hy with ⟨c, _⟩ | ⟨c, _⟩ | ⟨_, _, b⟩ | ⟨_, c, _⟩
        · exact absurd n2.1 c
        · omega
        · exact bad (BR_go (BR_mk (by decide) (s_fail h25.1.2.1.1 q37 e37) b) (fk_J61 s' eo) (FKp.rf t34))
        · exact absurd v3 (c v v2)
/-- a volume or a clone, on both sides -/
theorem y_volume {x p : Int} {s s' t : MS} (h : NX s t) (hP : PLJ s t) (h60 : gI s 785 < 60) (hx : (x = 2 ∧ p = 0) ∨ (x = 3 ∧ p = 1)) (e : m_x6_readVolume x s = some s') : pc (m_x12_volumeTold p (gI s 108) t) (fun o => DONE s s' o) := by
  have g : pc (m_x6_readVolume x s) (fun o => (gI s 784 = 8 ∧ ∃ q, m_x6_fail 5 (gI s 108) s = some q ∧ m_x6_readVolume_J19 x q.2 = some o) ∨ (gI s 784 ≠ 8 ∧ m_x6_readVolume_J19 x s = some o)) := by
    unfold m_x6_readVolume
    exact pc_rg (pc_if (fun c => pc_bn (fun q e => fun o eo => Or.inl ⟨c, q, e, eo⟩)) (fun c => fun o eo => Or.inr ⟨c, eo⟩))
  have n0 := hP.1.1
  have e2 : gA t 39 (Int.toNat 2) = gI s 784 := n0.1
  unfold m_x12_volumeTold
  refine pc_rg (pc_if (fun _ => pc_rdI (fun _ => pc_rg (pc_if (fun c => pc_bn (fun t48 e48 => ?_)) (fun c => ?_)))) (fun c => absurd h.2.1.2 c))
  · rcases g s' e with ⟨_, q, e5, eo⟩ | ⟨c2, _⟩
    · have b := m_fail h.2.1.2 t48 e48
      have hb : BR q.2 t48 := BR_mk (by decide) (s_fail h.2.1.1 q e5) b
      exact pc_mono (fk_J24 (by rw [b.1]; decide)) (fun o ho => Or.inr (BR_go hb (fk_J19 s' eo) ho))
    · omega
  · rcases g s' e with ⟨c2, _⟩ | ⟨_, eo⟩
    · omega
    · exact y_J24 h hP (by omega) h60 hx eo
/-! ===== steps are only added behind those that are there ===== -/
def AP (s o : MS) : Prop := gI s 941 ≤ gI o 941 ∧ ∀ j : Nat, (j : Int) < gI s 941 → gA o 48 j = gA s 48 j
theorem AP.rf (s : MS) : AP s s := ⟨Int.le_refl _, fun _ _ => rfl⟩
theorem AP.tr {s o q : MS} (h : AP s o) (g : AP o q) : AP s q := ⟨Int.le_trans h.1 g.1, fun j hj => (g.2 j (Int.lt_of_lt_of_le hj h.1)).trans (h.2 j hj)⟩
theorem AP.of {I A L B : List Nat} {s o : MS} (h : Fr I A L B s o) (hi : 941 ∉ I) (hj : 48 ∉ A) : AP s o := ⟨by rw [h.1 941 hi]; exact Int.le_refl _, fun j _ => by rw [h.2.1 48 hj]⟩
theorem AP.i {k : Nat} {v : Int} {s o : MS} (e : sI s k v = o) (h : 941 ≠ k) : AP s o := ⟨by rw [q_Ii e h]; exact Int.le_refl _, fun j _ => by rw [(q_Ia e : gA o 48 = gA s 48)]⟩
theorem AP.a {k : Nat} {f : Nat → Int} {s o : MS} (e : sA s k f = o) (h : 48 ≠ k) : AP s o := ⟨by rw [(q_Ai e : gI o 941 = gI s 941)]; exact Int.le_refl _, fun j _ => by rw [q_Aa e h]⟩
theorem ap_x6_fail {p0 p1 : Int} {s : MS} : pc (m_x6_fail p0 p1 s) (fun q => AP s q.2) := fun q e => AP.of (fr_x6_fail e) (by decide) (by decide)
theorem ap_x0_add {c : Int} {s : MS} : pc (m_x0_add c s) (fun o => AP s o) := by
  unfold m_x0_add m_x0_add_J30
  refine pc_rg (pc_if (fun c => pc_some (AP.rf s)) (fun c => pc_inb2 (fun hi => pc_stn (fun s5 e5 => pc_stn (fun s6 e6 => pc_some ⟨?_, fun j hj => ?_⟩)))))
  · rw [(q_II e6 : gI s6 941 = _), (q_Ai e5 : gI s5 941 = gI s 941)]; omega
  · rw [(q_Ia e6 : gA s6 48 = gA s5 48), (q_AA e5 : gA s5 48 = _), upZ_n (by omega)]
set_option maxHeartbeats 1000000 in
theorem ap_x6_opens {s : MS} : pc (m_x6_opens s) (fun q => AP s q.2) := by
  unfold m_x6_opens
  refine pc_rg ?_
  refine pc_if (fun _ => ?_) (fun _ => ?_)
  · skip
    refine pc_stn (fun s3 es3 => ?_)
    have hs3 := (AP.rf s).tr (AP.i es3 (by decide))
    exact pc_some hs3
  · skip
    refine pc_bn (fun qr6 eqr6 => ?_)
    have hqr6 := (AP.rf s).tr (ap_x6_fail _ eqr6)
    refine pc_bo ?_
    exact pc_some hqr6
set_option maxHeartbeats 1000000 in
theorem ap_x6_expectSign {p0 : Int} {s : MS} : pc (m_x6_expectSign p0 s) (fun q => AP s q) := by
  unfold m_x6_expectSign
  refine pc_bn (fun r3 er3 => ?_)
  refine pc_rg ?_
  refine pc_if (fun _ => ?_) (fun _ => ?_)
  · skip
    refine pc_bn (fun qr8 eqr8 => ?_)
    have hqr8 := (AP.rf s).tr (ap_x6_fail _ eqr8)
    unfold m_x6_expectSign_J25
    exact pc_some hqr8
  · skip
    refine pc_bn (fun s10 es10 => ?_)
    have hs10 := (AP.rf s).tr (AP.of (fr_x6_advance es10) (by decide) (by decide))
    unfold m_x6_expectSign_J25
    exact pc_some hs10
set_option maxHeartbeats 1000000 in
theorem ap_x6_readOther {rgs : (MS → Option MS) × (MS → Option MS)} {p0 : Int} {s : MS} (hr1 : ∀ s, pc (rgs.1 s) (fun o => AP s o)) (hr2 : ∀ s, pc (rgs.2 s) (fun o => AP s o)) : pc (m_x6_readOther rgs p0 s) (fun q => AP s q) := by
  unfold m_x6_readOther
  refine pc_bn (fun qr4 eqr4 => ?_)
  have hqr4 := (AP.rf s).tr (ap_x6_opens _ eqr4)
  refine pc_rg ?_
  refine pc_if (fun _ => ?_) (fun _ => ?_)
  · skip
    unfold m_x6_readOther_J33
    exact pc_some hqr4
  · skip
    refine pc_bn (fun s8 es8 => ?_)
    have hs8 := hqr4.tr (AP.of (fr_x6_advance es8) (by decide) (by decide))
    refine pc_bn (fun s10 es10 => ?_)
    have hs10 := hs8.tr (hr2 _ _ es10)
    refine pc_eqg ?_
    refine pc_bn (fun s13 es13 => ?_)
    have hs13 := hs10.tr (ap_x0_add _ es13)
    refine pc_stn (fun s14 es14 => ?_)
    have hs14 := hs13.tr (AP.i es14 (by decide))
    unfold m_x6_readOther_J33
    exact pc_some hs14
set_option maxHeartbeats 1000000 in
theorem ap_x6_readChoice {rgs : (MS → Option MS) × (MS → Option MS)} {p0 : Int} {s : MS} (hr1 : ∀ s, pc (rgs.1 s) (fun o => AP s o)) (hr2 : ∀ s, pc (rgs.2 s) (fun o => AP s o)) : pc (m_x6_readChoice rgs p0 s) (fun q => AP s q) := by
  unfold m_x6_readChoice
  refine pc_bn (fun s3 es3 => ?_)
  have hs3 := (AP.rf s).tr (AP.of (fr_x6_advance es3) (by decide) (by decide))
  refine pc_bn (fun r5 er5 => ?_)
  refine pc_rg ?_
  refine pc_if (fun _ => ?_) (fun _ => ?_)
  · skip
    refine pc_bn (fun qr29 eqr29 => ?_)
    have hqr29 := hs3.tr (ap_x6_fail _ eqr29)
    unfold m_x6_readChoice_J75
    exact pc_some hqr29
  · skip
    refine pc_bn (fun qr10 eqr10 => ?_)
    have hqr10 := hs3.tr (ap_x6_opens _ eqr10)
    refine pc_rg ?_
    refine pc_if (fun _ => ?_) (fun _ => ?_)
    · skip
      unfold m_x6_readChoice_J75
      exact pc_some hqr10
    · skip
      refine pc_bn (fun s14 es14 => ?_)
      have hs14 := hqr10.tr (AP.of (fr_x6_advance es14) (by decide) (by decide))
      refine pc_bn (fun s16 es16 => ?_)
      have hs16 := hs14.tr (hr1 _ _ es16)
      refine pc_bn (fun s18 es18 => ?_)
      have hs18 := hs16.tr (ap_x6_expectSign _ es18)
      refine pc_bn (fun s20 es20 => ?_)
      have hs20 := hs18.tr (hr1 _ _ es20)
      refine pc_bn (fun s22 es22 => ?_)
      have hs22 := hs20.tr (ap_x6_expectSign _ es22)
      refine pc_stn (fun s23 es23 => ?_)
      have hs23 := hs22.tr (AP.i es23 (by decide))
      refine pc_eqg ?_
      refine pc_bn (fun s26 es26 => ?_)
      have hs26 := hs23.tr (ap_x0_add _ es26)
      unfold m_x6_readChoice_J75
      exact pc_some hs26
set_option maxHeartbeats 1000000 in
theorem ap_x6_expectNumber_L55 {s : MS} : ∀ (n : Nat) (x6 : Int) (x7 : Int) (x8 : Int) (x9 : Int) (s10 : MS), AP s s10 → pc (m_x6_expectNumber_L55 n x6 x7 x8 x9 s10) (fun q => AP s q.2) := by
  refine fr_ind (fun _ _ _ _ _ _ => pc_none) (fun n55 ih55 x6 x7 x8 x9 s10 hs10 => ?_)
  show pc (m_x6_expectNumber_b55 (m_x6_expectNumber_L55 n55) x6 x7 x8 x9 s10) _
  unfold m_x6_expectNumber_b55
  refine pc_rg ?_
  refine pc_rg ?_
  refine pc_if (fun _ => ?_) (fun _ => ?_)
  · skip
    refine pc_rg ?_
    refine pc_rg ?_
    refine pc_if (fun _ => ?_) (fun _ => ?_)
    · skip
      unfold m_x6_expectNumber_J98
      refine pc_bn (fun qr5 eqr5 => ?_)
      have hqr5 := hs10.tr (ap_x6_fail _ eqr5)
      exact pc_some hqr5
    · skip
      refine pc_rg ?_
      refine pc_rg ?_
      refine pc_if (fun _ => ?_) (fun _ => ?_)
      · skip
        refine pc_bn (fun s21 es21 => ?_)
        have hs21 := hs10.tr (AP.of (fr_x6_advance es21) (by decide) (by decide))
        exact pc_some hs21
      · skip
        unfold m_x6_expectNumber_J98
        refine pc_bn (fun qr5 eqr5 => ?_)
        have hqr5 := hs10.tr (ap_x6_fail _ eqr5)
        exact pc_some hqr5
  · skip
    refine pc_bn (fun r23 er23 => ?_)
    exact ih55 _ _ _ _ _ hs10
set_option maxHeartbeats 1000000 in
theorem ap_x6_expectNumber {p0 : Int} {p1 : Int} {s : MS} : pc (m_x6_expectNumber p0 p1 s) (fun q => AP s q.2) := by
  unfold m_x6_expectNumber
  refine pc_rg ?_
  refine pc_if (fun _ => ?_) (fun _ => ?_)
  · skip
    refine pc_rg ?_
    refine pc_if (fun _ => ?_) (fun _ => ?_)
    · skip
      exact ap_x6_expectNumber_L55 FU _ _ _ _ _ (AP.rf s)
    · skip
      refine pc_bn (fun qr30 eqr30 => ?_)
      have hqr30 := (AP.rf s).tr (ap_x6_fail _ eqr30)
      exact pc_some hqr30
  · skip
    refine pc_bn (fun qr33 eqr33 => ?_)
    have hqr33 := (AP.rf s).tr (ap_x6_fail _ eqr33)
    exact pc_some hqr33
set_option maxHeartbeats 1000000 in
theorem ap_x6_readPart {rgs : (MS → Option MS) × (MS → Option MS)} {s : MS} (hr1 : ∀ s, pc (rgs.1 s) (fun o => AP s o)) (hr2 : ∀ s, pc (rgs.2 s) (fun o => AP s o)) : pc (m_x6_readPart rgs s) (fun q => AP s q) := by
  unfold m_x6_readPart
  refine pc_rg ?_
  refine pc_if (fun _ => ?_) (fun _ => ?_)
  · skip
    refine pc_eqg ?_
    refine pc_bn (fun qr72 eqr72 => ?_)
    have hqr72 := (AP.rf s).tr (ap_x6_expectNumber _ eqr72)
    refine pc_bn (fun s74 es74 => ?_)
    have hs74 := hqr72.tr (ap_x0_add _ es74)
    unfold m_x6_readPart_J196
    exact pc_some hs74
  · skip
    refine pc_bn (fun r36 er36 => ?_)
    refine pc_rg ?_
    refine pc_if (fun _ => ?_) (fun _ => ?_)
    · skip
      refine pc_bn (fun r40 er40 => ?_)
      refine pc_rg ?_
      refine pc_if (fun _ => ?_) (fun _ => ?_)
      · skip
        refine pc_bn (fun r44 er44 => ?_)
        refine pc_rg ?_
        refine pc_if (fun _ => ?_) (fun _ => ?_)
        · skip
          refine pc_rg ?_
          refine pc_if (fun _ => ?_) (fun _ => ?_)
          · skip
            refine pc_bn (fun r50 er50 => ?_)
            refine pc_rg ?_
            refine pc_if (fun _ => ?_) (fun _ => ?_)
            · skip
              refine pc_bn (fun r54 er54 => ?_)
              refine pc_rg ?_
              refine pc_if (fun _ => ?_) (fun _ => ?_)
              · skip
                unfold m_x6_readPart_J158
                refine pc_bn (fun r4 er4 => ?_)
                refine pc_rg ?_
                refine pc_if (fun _ => ?_) (fun _ => ?_)
                · skip
                  refine pc_bn (fun qr9 eqr9 => ?_)
                  have hqr9 := (AP.rf s).tr (ap_x6_fail _ eqr9)
                  unfold m_x6_readPart_J196
                  exact pc_some hqr9
                · skip
                  refine pc_eqg ?_
                  refine pc_bn (fun s12 es12 => ?_)
                  have hs12 := (AP.rf s).tr (ap_x0_add _ es12)
                  refine pc_bn (fun s14 es14 => ?_)
                  have hs14 := hs12.tr (AP.of (fr_x6_advance es14) (by decide) (by decide))
                  unfold m_x6_readPart_J196
                  exact pc_some hs14
              · skip
                unfold m_x6_readPart_J135
                refine pc_bn (fun r21 er21 => ?_)
                refine pc_rg ?_
                refine pc_if (fun _ => ?_) (fun _ => ?_)
                · skip
                  unfold m_x6_readPart_J152
                  refine pc_bn (fun s18 es18 => ?_)
                  have hs18 := (AP.rf s).tr (ap_x6_readOther hr1 hr2 _ es18)
                  unfold m_x6_readPart_J196
                  exact pc_some hs18
                · skip
                  unfold m_x6_readPart_J152
                  refine pc_bn (fun s18 es18 => ?_)
                  have hs18 := (AP.rf s).tr (ap_x6_readOther hr1 hr2 _ es18)
                  unfold m_x6_readPart_J196
                  exact pc_some hs18
            · skip
              unfold m_x6_readPart_J135
              refine pc_bn (fun r21 er21 => ?_)
              refine pc_rg ?_
              refine pc_if (fun _ => ?_) (fun _ => ?_)
              · skip
                unfold m_x6_readPart_J152
                refine pc_bn (fun s18 es18 => ?_)
                have hs18 := (AP.rf s).tr (ap_x6_readOther hr1 hr2 _ es18)
                unfold m_x6_readPart_J196
                exact pc_some hs18
              · skip
                unfold m_x6_readPart_J152
                refine pc_bn (fun s18 es18 => ?_)
                have hs18 := (AP.rf s).tr (ap_x6_readOther hr1 hr2 _ es18)
                unfold m_x6_readPart_J196
                exact pc_some hs18
          · skip
            unfold m_x6_readPart_J158
            refine pc_bn (fun r4 er4 => ?_)
            refine pc_rg ?_
            refine pc_if (fun _ => ?_) (fun _ => ?_)
            · skip
              refine pc_bn (fun qr9 eqr9 => ?_)
              have hqr9 := (AP.rf s).tr (ap_x6_fail _ eqr9)
              unfold m_x6_readPart_J196
              exact pc_some hqr9
            · skip
              refine pc_eqg ?_
              refine pc_bn (fun s12 es12 => ?_)
              have hs12 := (AP.rf s).tr (ap_x0_add _ es12)
              refine pc_bn (fun s14 es14 => ?_)
              have hs14 := hs12.tr (AP.of (fr_x6_advance es14) (by decide) (by decide))
              unfold m_x6_readPart_J196
              exact pc_some hs14
        · skip
          unfold m_x6_readPart_J86
          refine pc_bn (fun r30 er30 => ?_)
          refine pc_rg ?_
          refine pc_if (fun _ => ?_) (fun _ => ?_)
          · skip
            unfold m_x6_readPart_J103
            refine pc_bn (fun s27 es27 => ?_)
            have hs27 := (AP.rf s).tr (ap_x6_readChoice hr1 hr2 _ es27)
            unfold m_x6_readPart_J196
            exact pc_some hs27
          · skip
            unfold m_x6_readPart_J103
            refine pc_bn (fun s27 es27 => ?_)
            have hs27 := (AP.rf s).tr (ap_x6_readChoice hr1 hr2 _ es27)
            unfold m_x6_readPart_J196
            exact pc_some hs27
      · skip
        unfold m_x6_readPart_J86
        refine pc_bn (fun r30 er30 => ?_)
        refine pc_rg ?_
        refine pc_if (fun _ => ?_) (fun _ => ?_)
        · skip
          unfold m_x6_readPart_J103
          refine pc_bn (fun s27 es27 => ?_)
          have hs27 := (AP.rf s).tr (ap_x6_readChoice hr1 hr2 _ es27)
          unfold m_x6_readPart_J196
          exact pc_some hs27
        · skip
          unfold m_x6_readPart_J103
          refine pc_bn (fun s27 es27 => ?_)
          have hs27 := (AP.rf s).tr (ap_x6_readChoice hr1 hr2 _ es27)
          unfold m_x6_readPart_J196
          exact pc_some hs27
    · skip
      refine pc_bn (fun qr59 eqr59 => ?_)
      have hqr59 := (AP.rf s).tr (ap_x6_opens _ eqr59)
      refine pc_rg ?_
      refine pc_if (fun _ => ?_) (fun _ => ?_)
      · skip
        unfold m_x6_readPart_J196
        exact pc_some hqr59
      · skip
        refine pc_bn (fun s63 es63 => ?_)
        have hs63 := hqr59.tr (AP.of (fr_x6_advance es63) (by decide) (by decide))
        refine pc_bn (fun s65 es65 => ?_)
        have hs65 := hs63.tr (hr1 _ _ es65)
        refine pc_bn (fun s67 es67 => ?_)
        have hs67 := hs65.tr (ap_x6_expectSign _ es67)
        refine pc_stn (fun s68 es68 => ?_)
        have hs68 := hs67.tr (AP.i es68 (by decide))
        unfold m_x6_readPart_J196
        exact pc_some hs68
set_option maxHeartbeats 1000000 in
theorem ap_x6_readProduct {rgs : (MS → Option MS) × (MS → Option MS)} {s : MS} (hr1 : ∀ s, pc (rgs.1 s) (fun o => AP s o)) (hr2 : ∀ s, pc (rgs.2 s) (fun o => AP s o)) : pc (m_x6_readProduct rgs s) (fun q => AP s q) := by
  unfold m_x6_readProduct
  refine pc_bn (fun s31 es31 => ?_)
  have hs31 := (AP.rf s).tr (ap_x6_readPart hr1 hr2 _ es31)
  have L6 : ∀ (n : Nat) (x2 : Int) (s3 : MS), AP s s3 → pc (m_x6_readProduct_L6 rgs n x2 s3) (fun q => AP s q) := by
    refine fr_ind (fun _ _ _ => pc_none) (fun n6 ih6 x2 s3 hs3 => ?_)
    show pc (m_x6_readProduct_b6 rgs (m_x6_readProduct_L6 rgs n6) x2 s3) _
    unfold m_x6_readProduct_b6
    refine pc_rg ?_
    refine pc_if (fun _ => ?_) (fun _ => ?_)
    · skip
      unfold m_x6_readProduct_J70
      exact pc_some hs3
    · skip
      refine pc_bn (fun r23 er23 => ?_)
      refine pc_rg ?_
      refine pc_if (fun _ => ?_) (fun _ => ?_)
      · skip
        refine pc_bn (fun r27 er27 => ?_)
        refine pc_rg ?_
        refine pc_if (fun _ => ?_) (fun _ => ?_)
        · skip
          unfold m_x6_readProduct_J70
          exact pc_some hs3
        · skip
          unfold m_x6_readProduct_J31
          refine pc_bn (fun r17 er17 => ?_)
          refine pc_rg ?_
          refine pc_if (fun _ => ?_) (fun _ => ?_)
          · skip
            unfold m_x6_readProduct_J47
            refine pc_bn (fun s8 es8 => ?_)
            have hs8 := hs3.tr (AP.of (fr_x6_advance es8) (by decide) (by decide))
            refine pc_bn (fun s10 es10 => ?_)
            have hs10 := hs8.tr (ap_x6_readPart hr1 hr2 _ es10)
            refine pc_eqg ?_
            refine pc_bn (fun s13 es13 => ?_)
            have hs13 := hs10.tr (ap_x0_add _ es13)
            exact ih6 _ _ hs13
          · skip
            unfold m_x6_readProduct_J47
            refine pc_bn (fun s8 es8 => ?_)
            have hs8 := hs3.tr (AP.of (fr_x6_advance es8) (by decide) (by decide))
            refine pc_bn (fun s10 es10 => ?_)
            have hs10 := hs8.tr (ap_x6_readPart hr1 hr2 _ es10)
            refine pc_eqg ?_
            refine pc_bn (fun s13 es13 => ?_)
            have hs13 := hs10.tr (ap_x0_add _ es13)
            exact ih6 _ _ hs13
      · skip
        unfold m_x6_readProduct_J31
        refine pc_bn (fun r17 er17 => ?_)
        refine pc_rg ?_
        refine pc_if (fun _ => ?_) (fun _ => ?_)
        · skip
          unfold m_x6_readProduct_J47
          refine pc_bn (fun s8 es8 => ?_)
          have hs8 := hs3.tr (AP.of (fr_x6_advance es8) (by decide) (by decide))
          refine pc_bn (fun s10 es10 => ?_)
          have hs10 := hs8.tr (ap_x6_readPart hr1 hr2 _ es10)
          refine pc_eqg ?_
          refine pc_bn (fun s13 es13 => ?_)
          have hs13 := hs10.tr (ap_x0_add _ es13)
          exact ih6 _ _ hs13
        · skip
          unfold m_x6_readProduct_J47
          refine pc_bn (fun s8 es8 => ?_)
          have hs8 := hs3.tr (AP.of (fr_x6_advance es8) (by decide) (by decide))
          refine pc_bn (fun s10 es10 => ?_)
          have hs10 := hs8.tr (ap_x6_readPart hr1 hr2 _ es10)
          refine pc_eqg ?_
          refine pc_bn (fun s13 es13 => ?_)
          have hs13 := hs10.tr (ap_x0_add _ es13)
          exact ih6 _ _ hs13
  exact L6 FU _ _ hs31
set_option maxHeartbeats 1000000 in
theorem ap_x6_readSum {rgs : (MS → Option MS) × (MS → Option MS)} {s : MS} (hr1 : ∀ s, pc (rgs.1 s) (fun o => AP s o)) (hr2 : ∀ s, pc (rgs.2 s) (fun o => AP s o)) : pc (m_x6_readSum rgs s) (fun q => AP s q) := by
  unfold m_x6_readSum
  refine pc_bn (fun s31 es31 => ?_)
  have hs31 := (AP.rf s).tr (ap_x6_readProduct hr1 hr2 _ es31)
  have L6 : ∀ (n : Nat) (x2 : Int) (s3 : MS), AP s s3 → pc (m_x6_readSum_L6 rgs n x2 s3) (fun q => AP s q) := by
    refine fr_ind (fun _ _ _ => pc_none) (fun n6 ih6 x2 s3 hs3 => ?_)
    show pc (m_x6_readSum_b6 rgs (m_x6_readSum_L6 rgs n6) x2 s3) _
    unfold m_x6_readSum_b6
    refine pc_rg ?_
    refine pc_if (fun _ => ?_) (fun _ => ?_)
    · skip
      unfold m_x6_readSum_J69
      exact pc_some hs3
    · skip
      refine pc_bn (fun r23 er23 => ?_)
      refine pc_rg ?_
      refine pc_if (fun _ => ?_) (fun _ => ?_)
      · skip
        refine pc_bn (fun r27 er27 => ?_)
        refine pc_rg ?_
        refine pc_if (fun _ => ?_) (fun _ => ?_)
        · skip
          unfold m_x6_readSum_J69
          exact pc_some hs3
        · skip
          unfold m_x6_readSum_J31
          refine pc_bn (fun r17 er17 => ?_)
          refine pc_rg ?_
          refine pc_if (fun _ => ?_) (fun _ => ?_)
          · skip
            unfold m_x6_readSum_J46
            refine pc_bn (fun s8 es8 => ?_)
            have hs8 := hs3.tr (AP.of (fr_x6_advance es8) (by decide) (by decide))
            refine pc_bn (fun s10 es10 => ?_)
            have hs10 := hs8.tr (ap_x6_readProduct hr1 hr2 _ es10)
            refine pc_eqg ?_
            refine pc_bn (fun s13 es13 => ?_)
            have hs13 := hs10.tr (ap_x0_add _ es13)
            exact ih6 _ _ hs13
          · skip
            unfold m_x6_readSum_J46
            refine pc_bn (fun s8 es8 => ?_)
            have hs8 := hs3.tr (AP.of (fr_x6_advance es8) (by decide) (by decide))
            refine pc_bn (fun s10 es10 => ?_)
            have hs10 := hs8.tr (ap_x6_readProduct hr1 hr2 _ es10)
            refine pc_eqg ?_
            refine pc_bn (fun s13 es13 => ?_)
            have hs13 := hs10.tr (ap_x0_add _ es13)
            exact ih6 _ _ hs13
      · skip
        unfold m_x6_readSum_J31
        refine pc_bn (fun r17 er17 => ?_)
        refine pc_rg ?_
        refine pc_if (fun _ => ?_) (fun _ => ?_)
        · skip
          unfold m_x6_readSum_J46
          refine pc_bn (fun s8 es8 => ?_)
          have hs8 := hs3.tr (AP.of (fr_x6_advance es8) (by decide) (by decide))
          refine pc_bn (fun s10 es10 => ?_)
          have hs10 := hs8.tr (ap_x6_readProduct hr1 hr2 _ es10)
          refine pc_eqg ?_
          refine pc_bn (fun s13 es13 => ?_)
          have hs13 := hs10.tr (ap_x0_add _ es13)
          exact ih6 _ _ hs13
        · skip
          unfold m_x6_readSum_J46
          refine pc_bn (fun s8 es8 => ?_)
          have hs8 := hs3.tr (AP.of (fr_x6_advance es8) (by decide) (by decide))
          refine pc_bn (fun s10 es10 => ?_)
          have hs10 := hs8.tr (ap_x6_readProduct hr1 hr2 _ es10)
          refine pc_eqg ?_
          refine pc_bn (fun s13 es13 => ?_)
          have hs13 := hs10.tr (ap_x0_add _ es13)
          exact ih6 _ _ hs13
  exact L6 FU _ _ hs31
theorem ap_RG1 : ∀ n : Nat, (∀ s, pc ((RG1 n).1 s) (fun o => AP s o)) ∧ ∀ s, pc ((RG1 n).2 s) (fun o => AP s o) := by
  refine fr_ind ⟨fun _ => pc_none, fun _ => pc_none⟩ (fun n ih => ⟨fun s => ?_, fun s => ?_⟩)
  · show pc (m_x6_readSum (RG1 n) s) _
    exact ap_x6_readSum ih.1 ih.2
  · show pc (m_x6_readPart (RG1 n) s) _
    exact ap_x6_readPart ih.1 ih.2
theorem ap_x6_readSumC {s : MS} : pc (m_x6_readSumC s) (fun q => AP s q) := (ap_RG1 8).1 s
set_option maxHeartbeats 1000000 in
theorem ap_x6_comparison {s : MS} : pc (m_x6_comparison s) (fun q => AP s q.2) := by
  unfold m_x6_comparison
  refine pc_bn (fun r6 er6 => ?_)
  refine pc_rg ?_
  refine pc_if (fun _ => ?_) (fun _ => ?_)
  · skip
    refine pc_bn (fun r10 er10 => ?_)
    refine pc_rg ?_
    refine pc_if (fun _ => ?_) (fun _ => ?_)
    · skip
      refine pc_bn (fun r14 er14 => ?_)
      refine pc_rg ?_
      refine pc_if (fun _ => ?_) (fun _ => ?_)
      · skip
        refine pc_bn (fun qr19 eqr19 => ?_)
        have hqr19 := (AP.rf s).tr (ap_x6_fail _ eqr19)
        unfold m_x6_comparison_J52
        refine pc_bn (fun s4 es4 => ?_)
        have hs4 := hqr19.tr (AP.of (fr_x6_advance es4) (by decide) (by decide))
        exact pc_some hs4
      · skip
        unfold m_x6_comparison_J52
        refine pc_bn (fun s4 es4 => ?_)
        have hs4 := (AP.rf s).tr (AP.of (fr_x6_advance es4) (by decide) (by decide))
        exact pc_some hs4
    · skip
      unfold m_x6_comparison_J52
      refine pc_bn (fun s4 es4 => ?_)
      have hs4 := (AP.rf s).tr (AP.of (fr_x6_advance es4) (by decide) (by decide))
      exact pc_some hs4
  · skip
    unfold m_x6_comparison_J52
    refine pc_bn (fun s4 es4 => ?_)
    have hs4 := (AP.rf s).tr (AP.of (fr_x6_advance es4) (by decide) (by decide))
    exact pc_some hs4
set_option maxHeartbeats 1000000 in
theorem ap_x6_readFact {rgs : (MS → Option MS) × (MS → Option MS)} {s : MS} (hr1 : ∀ s, pc (rgs.1 s) (fun o => AP s o)) (hr2 : ∀ s, pc (rgs.2 s) (fun o => AP s o)) : pc (m_x6_readFact rgs s) (fun q => AP s q) := by
  unfold m_x6_readFact
  refine pc_bn (fun r3 er3 => ?_)
  refine pc_rg ?_
  refine pc_if (fun _ => ?_) (fun _ => ?_)
  · skip
    refine pc_bn (fun r7 er7 => ?_)
    refine pc_rg ?_
    refine pc_if (fun _ => ?_) (fun _ => ?_)
    · skip
      refine pc_bn (fun r11 er11 => ?_)
      refine pc_rg ?_
      refine pc_if (fun _ => ?_) (fun _ => ?_)
      · skip
        refine pc_bn (fun s15 es15 => ?_)
        have hs15 := (AP.rf s).tr (ap_x6_readSumC _ es15)
        refine pc_bn (fun qr18 eqr18 => ?_)
        have hqr18 := hs15.tr (ap_x6_comparison _ eqr18)
        refine pc_bn (fun s20 es20 => ?_)
        have hs20 := hqr18.tr (ap_x6_readSumC _ es20)
        refine pc_eqg ?_
        refine pc_bn (fun s23 es23 => ?_)
        have hs23 := hs20.tr (ap_x0_add _ es23)
        unfold m_x6_readFact_J134
        exact pc_some hs23
      · skip
        refine pc_eqg ?_
        refine pc_bn (fun s26 es26 => ?_)
        have hs26 := (AP.rf s).tr (ap_x0_add _ es26)
        refine pc_bn (fun s28 es28 => ?_)
        have hs28 := hs26.tr (AP.of (fr_x6_advance es28) (by decide) (by decide))
        unfold m_x6_readFact_J134
        exact pc_some hs28
    · skip
      refine pc_bn (fun qr31 eqr31 => ?_)
      have hqr31 := (AP.rf s).tr (ap_x6_opens _ eqr31)
      refine pc_rg ?_
      refine pc_if (fun _ => ?_) (fun _ => ?_)
      · skip
        unfold m_x6_readFact_J134
        exact pc_some hqr31
      · skip
        refine pc_bn (fun s35 es35 => ?_)
        have hs35 := hqr31.tr (AP.of (fr_x6_advance es35) (by decide) (by decide))
        refine pc_bn (fun s37 es37 => ?_)
        have hs37 := hs35.tr (hr2 _ _ es37)
        refine pc_bn (fun s39 es39 => ?_)
        have hs39 := hs37.tr (ap_x6_expectSign _ es39)
        refine pc_stn (fun s40 es40 => ?_)
        have hs40 := hs39.tr (AP.i es40 (by decide))
        unfold m_x6_readFact_J134
        exact pc_some hs40
  · skip
    refine pc_bn (fun qr43 eqr43 => ?_)
    have hqr43 := (AP.rf s).tr (ap_x6_opens _ eqr43)
    refine pc_rg ?_
    refine pc_if (fun _ => ?_) (fun _ => ?_)
    · skip
      unfold m_x6_readFact_J134
      exact pc_some hqr43
    · skip
      refine pc_bn (fun s47 es47 => ?_)
      have hs47 := hqr43.tr (AP.of (fr_x6_advance es47) (by decide) (by decide))
      refine pc_bn (fun s49 es49 => ?_)
      have hs49 := hs47.tr (hr1 _ _ es49)
      refine pc_eqg ?_
      refine pc_bn (fun s52 es52 => ?_)
      have hs52 := hs49.tr (ap_x0_add _ es52)
      refine pc_stn (fun s53 es53 => ?_)
      have hs53 := hs52.tr (AP.i es53 (by decide))
      unfold m_x6_readFact_J134
      exact pc_some hs53
set_option maxHeartbeats 1000000 in
theorem ap_x6_readBoth {rgs : (MS → Option MS) × (MS → Option MS)} {s : MS} (hr1 : ∀ s, pc (rgs.1 s) (fun o => AP s o)) (hr2 : ∀ s, pc (rgs.2 s) (fun o => AP s o)) : pc (m_x6_readBoth rgs s) (fun q => AP s q) := by
  unfold m_x6_readBoth
  refine pc_bn (fun s18 es18 => ?_)
  have hs18 := (AP.rf s).tr (ap_x6_readFact hr1 hr2 _ es18)
  have L6 : ∀ (n : Nat) (x2 : Int) (s3 : MS), AP s s3 → pc (m_x6_readBoth_L6 rgs n x2 s3) (fun q => AP s q) := by
    refine fr_ind (fun _ _ _ => pc_none) (fun n6 ih6 x2 s3 hs3 => ?_)
    show pc (m_x6_readBoth_b6 rgs (m_x6_readBoth_L6 rgs n6) x2 s3) _
    unfold m_x6_readBoth_b6
    refine pc_rg ?_
    refine pc_if (fun _ => ?_) (fun _ => ?_)
    · skip
      unfold m_x6_readBoth_J45
      exact pc_some hs3
    · skip
      refine pc_bn (fun r7 er7 => ?_)
      refine pc_rg ?_
      refine pc_if (fun _ => ?_) (fun _ => ?_)
      · skip
        unfold m_x6_readBoth_J45
        exact pc_some hs3
      · skip
        refine pc_bn (fun s11 es11 => ?_)
        have hs11 := hs3.tr (AP.of (fr_x6_advance es11) (by decide) (by decide))
        refine pc_bn (fun s13 es13 => ?_)
        have hs13 := hs11.tr (ap_x6_readFact hr1 hr2 _ es13)
        refine pc_eqg ?_
        refine pc_bn (fun s16 es16 => ?_)
        have hs16 := hs13.tr (ap_x0_add _ es16)
        exact ih6 _ _ hs16
  exact L6 FU _ _ hs18
set_option maxHeartbeats 1000000 in
theorem ap_x6_readTest {rgs : (MS → Option MS) × (MS → Option MS)} {s : MS} (hr1 : ∀ s, pc (rgs.1 s) (fun o => AP s o)) (hr2 : ∀ s, pc (rgs.2 s) (fun o => AP s o)) : pc (m_x6_readTest rgs s) (fun q => AP s q) := by
  unfold m_x6_readTest
  refine pc_bn (fun s18 es18 => ?_)
  have hs18 := (AP.rf s).tr (ap_x6_readBoth hr1 hr2 _ es18)
  have L6 : ∀ (n : Nat) (x2 : Int) (s3 : MS), AP s s3 → pc (m_x6_readTest_L6 rgs n x2 s3) (fun q => AP s q) := by
    refine fr_ind (fun _ _ _ => pc_none) (fun n6 ih6 x2 s3 hs3 => ?_)
    show pc (m_x6_readTest_b6 rgs (m_x6_readTest_L6 rgs n6) x2 s3) _
    unfold m_x6_readTest_b6
    refine pc_rg ?_
    refine pc_if (fun _ => ?_) (fun _ => ?_)
    · skip
      unfold m_x6_readTest_J45
      exact pc_some hs3
    · skip
      refine pc_bn (fun r7 er7 => ?_)
      refine pc_rg ?_
      refine pc_if (fun _ => ?_) (fun _ => ?_)
      · skip
        unfold m_x6_readTest_J45
        exact pc_some hs3
      · skip
        refine pc_bn (fun s11 es11 => ?_)
        have hs11 := hs3.tr (AP.of (fr_x6_advance es11) (by decide) (by decide))
        refine pc_bn (fun s13 es13 => ?_)
        have hs13 := hs11.tr (ap_x6_readBoth hr1 hr2 _ es13)
        refine pc_eqg ?_
        refine pc_bn (fun s16 es16 => ?_)
        have hs16 := hs13.tr (ap_x0_add _ es16)
        exact ih6 _ _ hs16
  exact L6 FU _ _ hs18
theorem ap_RG2 : ∀ n : Nat, (∀ s, pc ((RG2 n).1 s) (fun o => AP s o)) ∧ ∀ s, pc ((RG2 n).2 s) (fun o => AP s o) := by
  refine fr_ind ⟨fun _ => pc_none, fun _ => pc_none⟩ (fun n ih => ⟨fun s => ?_, fun s => ?_⟩)
  · show pc (m_x6_readFact (RG2 n) s) _
    exact ap_x6_readFact ih.1 ih.2
  · show pc (m_x6_readTest (RG2 n) s) _
    exact ap_x6_readTest ih.1 ih.2
theorem ap_x6_readTestC {s : MS} : pc (m_x6_readTestC s) (fun q => AP s q) := (ap_RG2 8).2 s
/-! ===== the class's steps: how high they pile, and what they tell of ===== -/
/-- at least these kinds -/
def sb : List Bool → List Bool → Prop
  | Q, [] => Q = []
  | Q, y :: P => ∃ x R, Q = x :: R ∧ (y = true → x = true) ∧ sb R P
theorem sb_rf : ∀ P : List Bool, sb P P
  | [] => rfl
  | x :: P => ⟨x, P, rfl, fun h => h, sb_rf P⟩
theorem sb_len : ∀ {P Q : List Bool}, sb Q P → Q.length = P.length := by
  intro P
  induction P with
  | nil => intro Q h; rw [show Q = [] from h]
  | cons y P ih =>
    intro Q h
    obtain ⟨x, R, rfl, _, h2⟩ := h
    show R.length + 1 = P.length + 1
    rw [ih h2]
theorem sb_app : ∀ {P1 Q1 P2 Q2 : List Bool}, sb Q1 P1 → sb Q2 P2 → sb (Q1 ++ Q2) (P1 ++ P2) := by
  intro P1
  induction P1 with
  | nil => intro Q1 P2 Q2 h g; rw [show Q1 = [] from h]; exact g
  | cons y P ih =>
    intro Q1 P2 Q2 h g
    obtain ⟨x, R, rfl, h1, h2⟩ := h
    exact ⟨x, R ++ Q2, rfl, h1, ih h2 g⟩
/-- what a formula of splits may tell of -/
def okc (m c : Int) : Prop := m = 1 → ¬ (c = -13 ∨ c = -14) ∧ (c ≤ -100 → c = -113 ∨ c = -114)
def SG1 (B : Int) (P : List Bool) (s o : MS) : Prop := (∀ j : Nat, gI s 941 ≤ (j : Int) → (j : Int) < gI o 941 → okc (gI s 105) (gA o 48 j)) ∧ ∀ L : List Bool, (∃ Q, sb Q P ∧ tyr (gA o 48) (gI s 941).toNat (gI o 941 - gI s 941).toNat L = some (Q ++ L)) ∧ ∀ n : Nat, n ≤ (gI o 941 - gI s 941).toNat → ∃ R, tyr (gA o 48) (gI s 941).toNat n L = some R ∧ (R.length : Int) ≤ B + L.length
def SG (B : Int) (P : List Bool) (s o : MS) : Prop := AP s o ∧ gI o 105 = gI s 105 ∧ (gI o 100 = 0 → gI s 100 = 0) ∧ (0 ≤ gI s 941 → gI o 941 < 1600 → gI o 100 = 0 → SG1 B P s o)
theorem SG_tr {B B1 B2 : Int} {P P1 P2 : List Bool} {s o q : MS} (h : SG B1 P1 s o) (g : SG B2 P2 o q) (hB : B1 ≤ B) (hB2 : (P1.length : Int) + B2 ≤ B) (hd : P = P2 ++ P1) : SG B P s q := by
  obtain ⟨a1, a2, a3, a4⟩ := h
  obtain ⟨b1, b2, b3, b4⟩ := g
  refine ⟨a1.tr b1, b2.trans a2, fun z => a3 (b3 z), fun p0 p1 p2 => ?_⟩
  have l1 := a1.1
  have l2 := b1.1
  obtain ⟨c1, c2⟩ := a4 p0 (by omega) (b3 p2)
  obtain ⟨e1, e2⟩ := b4 (by omega) p1 p2
  have cc : ∀ (n : Nat) (L : List Bool), n ≤ (gI o 941 - gI s 941).toNat → tyr (gA q 48) (gI s 941).toNat n L = tyr (gA o 48) (gI s 941).toNat n L := fun n L hn => tyr_c (fun j j1 j2 => b1.2 j (by omega))
  have at2 : (gI s 941).toNat + (gI o 941 - gI s 941).toNat = (gI o 941).toNat := by omega
  refine ⟨fun j j1 j2 => ?_, fun L => ?_⟩
  · by_cases z : (j : Int) < gI o 941
    · rw [b1.2 j z]; exact c1 j j1 z
    · rw [← a2]; exact e1 j (by omega) j2
  · obtain ⟨⟨Q1, q1, r1⟩, m1⟩ := c2 L
    obtain ⟨⟨Q2, q2, r2⟩, m2⟩ := e2 (Q1 ++ L)
    have k1 := (cc _ L (Nat.le_refl _)).trans r1
    have len := sb_len q1
    refine ⟨⟨Q2 ++ Q1, by rw [hd]; exact sb_app q2 q1, ?_⟩, fun n hn => ?_⟩
    · rw [show (gI q 941 - gI s 941).toNat = (gI o 941 - gI s 941).toNat + (gI q 941 - gI o 941).toNat by omega, tyr_app _ _ _ _ _ k1, at2, r2, List.append_assoc]
    · by_cases z : n ≤ (gI o 941 - gI s 941).toNat
      · obtain ⟨R, x1, x2⟩ := m1 n z
        exact ⟨R, (cc n L z).trans x1, by omega⟩
      · obtain ⟨R, x1, x2⟩ := m2 (n - (gI o 941 - gI s 941).toNat) (by omega)
        refine ⟨R, ?_, ?_⟩
        · rw [show n = (gI o 941 - gI s 941).toNat + (n - (gI o 941 - gI s 941).toNat) by omega, tyr_app _ _ _ _ _ k1, at2]
          exact x1
        · rw [List.length_append] at x2
          omega
/-- nothing is added -/
theorem SG_0 {s o : MS} (h1 : gI o 941 = gI s 941) (h2 : gA o 48 = gA s 48) (h3 : gI o 105 = gI s 105) (h4 : FKp 100 101 s o) : SG 0 [] s o := by
  refine ⟨⟨by omega, fun j _ => by rw [h2]⟩, h3, fun z => Classical.byContradiction (fun n => n ((h4 n).1.symm.trans z)), fun p0 p1 p2 => ⟨fun j j1 j2 => absurd j2 (by omega), fun L => ⟨⟨[], rfl, ?_⟩, fun n hn => ⟨L, ?_, by omega⟩⟩⟩⟩
  · rw [h1, show (gI s 941 - gI s 941).toNat = 0 by omega]; rfl
  · rw [h1] at hn
    rw [show n = 0 by omega]
    rfl
theorem SG_fr {I A L B' : List Nat} {s o : MS} (f : Fr I A L B' s o) (k : FKp 100 101 s o) (h1 : 941 ∉ I) (h2 : 48 ∉ A) (h3 : 105 ∉ I) : SG 0 [] s o := SG_0 (f.1 941 h1) (f.2.1 48 h2) (f.1 105 h3) k
theorem SG_i {k : Nat} {v : Int} {s o : MS} (e : sI s k v = o) (h : 941 ≠ k ∧ 105 ≠ k ∧ 100 ≠ k ∧ 101 ≠ k) : SG 0 [] s o := SG_0 (q_Ii e h.1) (q_Ia e) (q_Ii e h.2.1) (FKp.i e h.2.2.1 h.2.2.2)
/-- with a fault nothing more is said -/
theorem SG_x {B : Int} {P : List Bool} {s o : MS} (a : AP s o) (h : gI o 105 = gI s 105) (f : gI o 100 ≠ 0) : SG B P s o := ⟨a, h, fun z => absurd z f, fun _ _ z => absurd z f⟩
theorem SG_up {B B' : Int} {P : List Bool} {s o : MS} (h : SG B P s o) (hB : B ≤ B') : SG B' P s o := ⟨h.1, h.2.1, h.2.2.1, fun a b c => ⟨(h.2.2.2 a b c).1, fun L => ⟨((h.2.2.2 a b c).2 L).1, fun n hn => by
  obtain ⟨R, x1, x2⟩ := ((h.2.2.2 a b c).2 L).2 n hn
  exact ⟨R, x1, by omega⟩⟩⟩⟩
/-- less is asked of the kinds -/
theorem SG_wk {B : Int} {P P' : List Bool} {s o : MS} (h : SG B P s o) (g : ∀ Q, sb Q P → sb Q P') : SG B P' s o := ⟨h.1, h.2.1, h.2.2.1, fun a b c => ⟨(h.2.2.2 a b c).1, fun L => ⟨by
  obtain ⟨Q, x1, x2⟩ := ((h.2.2.2 a b c).2 L).1
  exact ⟨Q, g Q x1, x2⟩, ((h.2.2.2 a b c).2 L).2⟩⟩⟩
theorem sb_w1 {x : Bool} {Q : List Bool} (h : sb Q [x]) : sb Q [false] := by
  obtain ⟨a, R, rfl, _, h2⟩ := h
  exact ⟨a, R, rfl, fun z => absurd z (by decide), h2⟩
theorem s_addC {c : Int} {s : MS} : pc (m_x0_add c s) (fun o => (1600 ≤ gI s 941 ∧ o = s) ∨ (0 ≤ gI s 941 ∧ gI o 941 = gI s 941 + 1 ∧ gA o 48 = upZ (gA s 48) (gI s 941).toNat c ∧ gI o 105 = gI s 105 ∧ gI o 100 = gI s 100)) := by
  unfold m_x0_add m_x0_add_J30
  exact pc_rg (pc_if (fun g => pc_some (Or.inl ⟨g, rfl⟩)) (fun g => pc_inb2 (fun gi => pc_stn (fun s5 e5 => pc_stn (fun s6 e6 => pc_some (Or.inr ⟨gi.1, by rw [(q_II e6 : gI s6 941 = _), (q_Ai e5 : gI s5 941 = gI s 941)], by rw [(q_Ia e6 : gA s6 48 = gA s5 48), (q_AA e5 : gA s5 48 = _)], (q_Ii e6 (by decide)).trans (q_Ai e5), (q_Ii e6 (by decide)).trans (q_Ai e5)⟩))))))
/-- one step more -/
theorem SG_add {B B' c : Int} {P P' : List Bool} {s o q : MS} (h : SG B P s o) (e : m_x0_add c o = some q) (ho : okc (gI o 105) c) (hB : B ≤ B') (hl : (P'.length : Int) ≤ B') (hs : ∀ Q, sb Q P → ∀ L, ∃ Q', sb Q' P' ∧ tyS c (Q ++ L) = some (Q' ++ L)) : SG B' P' s q := by
  obtain ⟨a1, a2, a3, a4⟩ := h
  rcases s_addC q e with ⟨z, rfl⟩ | ⟨z0, z1, z2, z3, z4⟩
  · exact ⟨a1, a2, a3, fun _ p1 _ => absurd p1 (by omega)⟩
  have l1 := a1.1
  have lo : ∀ j : Nat, (j : Int) < gI o 941 → gA q 48 j = gA o 48 j := fun j hj => by rw [z2, upZ_n (by omega)]
  refine ⟨a1.tr ⟨by omega, lo⟩, z3.trans a2, fun w => a3 (z4.symm.trans w), fun p0 p1 p2 => ?_⟩
  obtain ⟨c1, c2⟩ := a4 p0 (by omega) (z4.symm.trans p2)
  have at2 : (gI s 941).toNat + (gI o 941 - gI s 941).toNat = (gI o 941).toNat := by omega
  have cc : ∀ (n : Nat) (L : List Bool), n ≤ (gI o 941 - gI s 941).toNat → tyr (gA q 48) (gI s 941).toNat n L = tyr (gA o 48) (gI s 941).toNat n L := fun n L hn => tyr_c (fun j j1 j2 => lo j (by omega))
  refine ⟨fun j j1 j2 => ?_, fun L => ?_⟩
  · by_cases w : (j : Int) < gI o 941
    · rw [lo j w]; exact c1 j j1 w
    · rw [z2, show j = (gI o 941).toNat by omega, upZ_s, ← a2]; exact ho
  · obtain ⟨⟨Q, q1, r1⟩, m1⟩ := c2 L
    obtain ⟨Q', q2, r2⟩ := hs Q q1 L
    have k1 := (cc _ L (Nat.le_refl _)).trans r1
    have last : tyr (gA q 48) (gI s 941).toNat (gI q 941 - gI s 941).toNat L = some (Q' ++ L) := by
      rw [show (gI q 941 - gI s 941).toNat = (gI o 941 - gI s 941).toNat + 1 by omega]
      show (tyr (gA q 48) (gI s 941).toNat (gI o 941 - gI s 941).toNat L).bind (tyS (gA q 48 ((gI s 941).toNat + (gI o 941 - gI s 941).toNat))) = _
      rw [k1, at2, z2, upZ_s]
      exact r2
    refine ⟨⟨Q', q2, last⟩, fun n hn => ?_⟩
    by_cases w : n ≤ (gI o 941 - gI s 941).toNat
    · obtain ⟨R, x1, x2⟩ := m1 n w
      exact ⟨R, (cc n L w).trans x1, by omega⟩
    · refine ⟨Q' ++ L, ?_, ?_⟩
      · rw [show n = (gI q 941 - gI s 941).toNat by omega]; exact last
      · rw [List.length_append, sb_len q2]; omega
/-- a step that piles -/
theorem ty_p {c : Int} {x : Bool} {P : List Bool} (hc : 0 ≤ c ∨ c ≤ -100) (hx : x = true → 0 ≤ c ∧ c ≤ 1) : ∀ Q, sb Q P → ∀ L, ∃ Q', sb Q' (x :: P) ∧ tyS c (Q ++ L) = some (Q' ++ L) := fun Q hQ L => by
  by_cases h : 0 ≤ c
  · exact ⟨decide (c ≤ 1) :: Q, ⟨_, Q, rfl, fun z => decide_eq_true (hx z).2, hQ⟩, if_pos h⟩
  · exact ⟨false :: Q, ⟨_, Q, rfl, fun z => absurd (hx z).1 h, hQ⟩, (if_neg h).trans (if_pos (by omega))⟩
/-- a step that joins two -/
theorem ty_j {c : Int} {x y z : Bool} {P : List Bool} (hc : -11 ≤ c ∧ c ≤ -1) (hz : z = true → c ≤ -7) (hxy : c ≤ -10 → x = true ∧ y = true) : ∀ Q, sb Q (x :: y :: P) → ∀ L, ∃ Q', sb Q' (z :: P) ∧ tyS c (Q ++ L) = some (Q' ++ L) := fun Q hQ L => by
  obtain ⟨a, R, rfl, ha, b, R2, rfl, hb, hr⟩ := hQ
  have e : tyS c (a :: b :: (R2 ++ L)) = if c ≤ -10 then (if a = true ∧ b = true then some (true :: (R2 ++ L)) else none) else some (decide (c ≤ -7) :: (R2 ++ L)) := (if_neg (by omega)).trans ((if_neg (by omega)).trans (if_neg (by omega)))
  by_cases h : c ≤ -10
  · refine ⟨true :: R2, ⟨true, R2, rfl, fun _ => rfl, hr⟩, e.trans ?_⟩
    rw [if_pos h, if_pos ⟨ha (hxy h).1, hb (hxy h).2⟩]
    rfl
  · refine ⟨decide (c ≤ -7) :: R2, ⟨_, R2, rfl, fun w => decide_eq_true (hz w), hr⟩, e.trans ?_⟩
    rw [if_neg h]
    rfl
/-- a step that changes one -/
theorem ty_u {c : Int} {x z : Bool} {P : List Bool} (hc : c = -14 ∨ c = -13 ∨ c = -12) (hz : z = true → c = -12) (hx : c = -12 → x = true) : ∀ Q, sb Q (x :: P) → ∀ L, ∃ Q', sb Q' (z :: P) ∧ tyS c (Q ++ L) = some (Q' ++ L) := fun Q hQ L => by
  obtain ⟨a, R, rfl, ha, hr⟩ := hQ
  have e : tyS c (a :: (R ++ L)) = if c = -12 then (if a = true then some (true :: (R ++ L)) else none) else some (false :: (R ++ L)) := (if_neg (by omega)).trans ((if_neg (by omega)).trans (if_pos (by omega)))
  by_cases h : c = -12
  · refine ⟨true :: R, ⟨true, R, rfl, fun _ => rfl, hr⟩, e.trans ?_⟩
    rw [if_pos h, if_pos (ha (hx h))]
    rfl
  · refine ⟨false :: R, ⟨false, R, rfl, fun w => absurd (hz w) h, hr⟩, e.trans ?_⟩
    rw [if_neg h]
    rfl
theorem SG_r (s : MS) : SG 0 [] s s := SG_0 rfl rfl rfl (FKp.rf s)
theorem sb_l1 (x : Bool) : (([x] : List Bool).length : Int) = 1 := rfl
theorem sb_l2 (x y : Bool) : (([x, y] : List Bool).length : Int) = 2 := rfl
theorem sb_l0 : (([] : List Bool).length : Int) = 0 := rfl
theorem SG_t0 {B : Int} {s o q : MS} (h : SG B [] s o) (g : SG 0 [] o q) (hB : 0 ≤ B) : SG B [] s q := SG_tr h g (Int.le_refl _) (by rw [sb_l0]; omega) rfl
theorem SG_t1 {B : Int} {x : Bool} {s o q : MS} (h : SG B [x] s o) (g : SG 0 [] o q) (hB : 1 ≤ B) : SG B [x] s q := SG_tr h g (Int.le_refl _) (by rw [sb_l1]; omega) rfl
theorem SG_t2 {B : Int} {x y : Bool} {s o q : MS} (h : SG B [x, y] s o) (g : SG 0 [] o q) (hB : 2 ≤ B) : SG B [x, y] s q := SG_tr h g (Int.le_refl _) (by rw [sb_l2]; omega) rfl
theorem SG_s {B : Int} {P : List Bool} {s o q : MS} (h : SG 0 [] s o) (g : SG B P o q) (hB : 0 ≤ B) : SG B P s q := SG_tr h g hB (by rw [sb_l0]; omega) (List.append_nil P).symm
theorem SG_2 {B B1 B2 : Int} {x y : Bool} {s o q : MS} (h : SG B1 [y] s o) (g : SG B2 [x] o q) (h1 : B1 ≤ B) (h2 : 1 + B2 ≤ B) : SG B [x, y] s q := SG_tr h g h1 (by rw [sb_l1]; omega) rfl
theorem sg_p {c : Int} {x : Bool} {s q : MS} (hc : 0 ≤ c ∨ c ≤ -100) (hx : x = true → 0 ≤ c ∧ c ≤ 1) (ho : okc (gI s 105) c) (e : m_x0_add c s = some q) : SG 1 [x] s q := SG_add (SG_r s) e ho (by omega) (by rw [sb_l1]; omega) (ty_p hc hx)
theorem sg_j {B c : Int} {x y z : Bool} {s o q : MS} (h : SG B [x, y] s o) (hB : 1 ≤ B) (hc : -11 ≤ c ∧ c ≤ -1) (hz : z = true → c ≤ -7) (hxy : c ≤ -10 → x = true ∧ y = true) (e : m_x0_add c o = some q) : SG B [z] s q := SG_add h e (fun _ => ⟨by omega, fun _ => by omega⟩) (Int.le_refl _) (by rw [sb_l1]; omega) (ty_j hc hz hxy)
theorem sg_u {B c : Int} {x z : Bool} {s o q : MS} (h : SG B [x] s o) (hB : 1 ≤ B) (hc : c = -14 ∨ c = -13 ∨ c = -12) (hz : z = true → c = -12) (hx : c = -12 → x = true) (ho : gI o 105 = 1 → c = -12) (e : m_x0_add c o = some q) : SG B [z] s q := SG_add h e (fun w => ⟨by have := ho w; omega, fun _ => by omega⟩) (Int.le_refl _) (by rw [sb_l1]; omega) (ty_u hc hz hx)
theorem sg_adv {s o : MS} (e : m_x6_advance s = some o) : SG 0 [] s o := SG_fr (fr_x6_advance e) (FKp.of (fr_x6_advance e) (by decide) (by decide)) (by decide) (by decide) (by decide)
theorem sg_sign {p : Int} {s o : MS} (e : m_x6_expectSign p s = some o) : SG 0 [] s o := SG_fr (fr_x6_expectSign e) (fk_x6_expectSign o e) (by decide) (by decide) (by decide)
theorem sg_num {a b : Int} {s : MS} {q : Int × MS} (e : m_x6_expectNumber a b s = some q) : SG 0 [] s q.2 := SG_fr (fr_x6_expectNumber e) (fk_x6_expectNumber q e) (by decide) (by decide) (by decide)
theorem sg_opens {s : MS} {q : Int × MS} (e : m_x6_opens s = some q) : SG 0 [] s q.2 := SG_fr (fr_x6_opens e) (fk_x6_opens q e) (by decide) (by decide) (by decide)
theorem sg_fail {k p : Int} {s : MS} {q : Int × MS} (hk : k ≠ 0) (e : m_x6_fail k p s = some q) {B : Int} {P : List Bool} : SG B P s q.2 := by
  have F : F_x6_fail s q.2 := fr_x6_fail e
  refine SG_x (AP.of F (by decide) (by decide)) (F.1 105 (by decide)) ?_
  have g : pc (m_x6_fail k p s) (fun q => gI q.2 100 ≠ 0) := by
    by_cases z : gI s 100 = 0
    · exact pc_mono (s_fail z) (fun q hq => by rw [hq.1]; exact hk)
    · exact fun q' e' => by
        show gI q'.2 100 ≠ 0
        rw [(fk_x6_fail q' e' z).1]; exact z
  exact g q e
/-- an opening that is refused is a fault -/
theorem sg_opn0 {s : MS} {q : Int × MS} (e : m_x6_opens s = some q) (z : q.1 = 0) {B : Int} {P : List Bool} : SG B P s q.2 := by
  have g : pc (m_x6_opens s) (fun q => q.1 = 0 → SG B P s q.2) := by
    unfold m_x6_opens
    exact pc_rg (pc_if (fun _ => pc_stn (fun _ _ => pc_some (fun w => absurd (show (1 : Int) = 0 from w) (by decide)))) (fun _ => pc_bn (fun q6 e6 => pc_bo (pc_some (fun _ => sg_fail (by decide) e6)))))
  exact g q e z
section
variable {rgs : (MS → Option MS) × (MS → Option MS)} {R : Int}
theorem sg_other {p : Int} {s : MS} (h3 : gI s 105 = 3) (hR : 1 ≤ R) (h2 : ∀ s, pc (rgs.2 s) (fun o => SG R [false] s o)) (hp : p = -14 ∨ p = -13) : pc (m_x6_readOther rgs p s) (fun o => SG R [false] s o) := by
  unfold m_x6_readOther m_x6_readOther_J33
  refine pc_bn (fun q4 e4 => pc_rg (pc_if (fun c => pc_some (sg_opn0 e4 c)) (fun _ => pc_bn (fun s8 e8 => pc_bn (fun s10 e10 => pc_eqg (pc_bn (fun s13 e13 => pc_stn (fun s14 e14 => pc_some ?_))))))))
  have a := SG_s (SG_t0 (sg_opens e4) (sg_adv e8) (Int.le_refl _)) (h2 _ s10 e10) (by omega)
  have b := sg_u (z := false) a hR (by omega) (fun w => absurd w (by decide)) (fun w => by omega) (fun w => absurd (w.symm.trans (a.2.1.trans h3)) (by decide)) e13
  exact SG_t1 b (SG_i e14 (by decide)) hR
theorem sg_choice {p : Int} {s : MS} (hR : 1 ≤ R) (h1 : ∀ s, pc (rgs.1 s) (fun o => SG R [false] s o)) (hp : p = -5 ∨ p = -6) : pc (m_x6_readChoice rgs p s) (fun o => SG (1 + R) [false] s o) := by
  unfold m_x6_readChoice m_x6_readChoice_J75
  refine pc_bn (fun s3 e3 => pc_bn (fun r5 _ => pc_rg (pc_if (fun _ => pc_bn (fun q29 e29 => pc_some ?_)) (fun _ => pc_bn (fun q10 e10 => pc_rg (pc_if (fun c => pc_some ?_) (fun _ => pc_bn (fun s14 e14 => pc_bn (fun s16 e16 => pc_bn (fun s18 e18 => pc_bn (fun s20 e20 => pc_bn (fun s22 e22 => pc_stn (fun s23 e23 => pc_eqg (pc_bn (fun s26 e26 => pc_some ?_)))))))))))))))
  · exact SG_s (sg_adv e3) (sg_fail (by decide) e29) (by omega)
  · exact SG_s (sg_adv e3) (sg_opn0 e10 c) (by omega)
  · have a := SG_t0 (SG_t0 (sg_adv e3) (sg_opens e10) (Int.le_refl _)) (sg_adv e14) (Int.le_refl _)
    have b := SG_t1 (SG_s a (h1 _ s16 e16) (by omega)) (sg_sign e18) hR
    have c := SG_t2 (SG_2 (B := 1 + R) b (h1 _ s20 e20) (by omega) (by omega)) (sg_sign e22) (by omega)
    have d := SG_t2 c (SG_i e23 (by decide)) (by omega)
    exact sg_j d (by omega) (by omega) (fun w => absurd w (by decide)) (fun w => by omega) e26
theorem sg_isFact {s : MS} : pc (m_x6_isFact s) (fun r => r ≠ 0 → 11 ≤ gI s 110 ∧ okc (gI s 105) (-100 - gI s 110)) := by
  unfold m_x6_isFact m_x6_isFact_J77 m_x6_isFact_J82 m_x6_isFact_J95 m_x6_isFact_J108 m_x6_isFact_J109 m_x6_isFact_J122
  refine pc_rg (pc_if (fun _ => pc_rg (pc_if (fun c => pc_rg (pc_if (fun m => pc_bo (pc_some (fun _ => ⟨by omega, fun _ => ⟨by omega, fun _ => by omega⟩⟩))) (fun m => pc_rg (pc_if (fun m2 => pc_bo (pc_some (fun _ => ⟨by omega, fun _ => ⟨by omega, fun _ => by omega⟩⟩))) (fun _ => pc_bo (pc_some (fun z => absurd rfl z))))))) (fun _ => pc_if (fun c => pc_rg (pc_if (fun m => pc_bo (pc_some (fun _ => ⟨by omega, fun _ => ⟨by omega, fun _ => by omega⟩⟩))) (fun _ => pc_bo (pc_some (fun z => absurd rfl z))))) (fun _ => pc_if (fun c => pc_some (fun _ => ⟨by omega, fun _ => ⟨by omega, fun _ => by omega⟩⟩)) (fun _ => pc_if (fun c => pc_rg (pc_if (fun _ => pc_bo (pc_some (fun z => absurd rfl z))) (fun _ => pc_bo (pc_some (fun _ => ⟨by omega, fun _ => ⟨by omega, fun _ => by omega⟩⟩))))) (fun _ => pc_if (fun c => ?_) (fun _ => pc_if (fun c => ?_) (fun _ => pc_if (fun c => ?_) (fun _ => pc_if (fun c => ?_) (fun _ => pc_some (fun z => absurd rfl z))))))))))) (fun _ => pc_some (fun z => absurd rfl z)))
  all_goals exact pc_rg (pc_if (fun m => pc_bo (pc_some (fun _ => ⟨by omega, fun _ => ⟨by omega, fun _ => by omega⟩⟩))) (fun _ => pc_bo (pc_some (fun z => absurd rfl z))))
end
/-- the answer is never under the lowest -/
theorem sg_nn {lo hi : Int} {s : MS} : pc (m_x6_expectNumber lo hi s) (fun q => lo ≤ q.1) := by
  have L : ∀ (n : Nat) (x8 x9 : Int), pc (m_x6_expectNumber_L55 n lo hi x8 x9 s) (fun q => lo ≤ q.1) := by
    refine fr_ind (fun _ _ => pc_none) (fun n ih x8 x9 => ?_)
    show pc (m_x6_expectNumber_b55 (m_x6_expectNumber_L55 n) lo hi x8 x9 s) _
    unfold m_x6_expectNumber_b55 m_x6_expectNumber_J98
    exact pc_rg (pc_rg (pc_if (fun _ => pc_rg (pc_rg (pc_if (fun _ => pc_bn (fun _ _ => pc_some (Int.le_refl _))) (fun c => pc_rg (pc_rg (pc_if (fun _ => pc_bn (fun _ _ => pc_some (Int.not_lt.mp c))) (fun _ => pc_bn (fun _ _ => pc_some (Int.le_refl _))))))))) (fun _ => pc_bn (fun _ _ => ih _ _))))
  unfold m_x6_expectNumber
  exact pc_rg (pc_if (fun _ => pc_rg (pc_if (fun _ => L _ _ _) (fun _ => pc_bn (fun _ _ => pc_some (Int.le_refl _))))) (fun _ => pc_bn (fun _ _ => pc_some (Int.le_refl _))))
section
variable {rgs : (MS → Option MS) × (MS → Option MS)} {R : Int}
theorem sg_part {s : MS} (hR : 1 ≤ R) (h1 : ∀ s, pc (rgs.1 s) (fun o => SG R [false] s o)) (h2 : ∀ s, pc (rgs.2 s) (fun o => SG R [false] s o)) : pc (m_x6_readPart rgs s) (fun o => SG (1 + R) [false] s o) := by
  have J158 : pc (m_x6_readPart_J158 rgs s) (fun o => SG (1 + R) [false] s o) := by
    unfold m_x6_readPart_J158 m_x6_readPart_J196
    refine pc_bq sg_isFact (fun r4 h4 => pc_rg (pc_if (fun _ => pc_bn (fun q9 e9 => pc_some (sg_fail (by decide) e9))) (fun c => pc_eqg (pc_bn (fun s12 e12 => pc_bn (fun s14 e14 => pc_some ?_))))))
    have f := h4 c
    exact SG_up (SG_t1 (sg_p (x := false) (by omega) (fun w => absurd w (by decide)) f.2 e12) (sg_adv e14) (by omega)) (by omega)
  have J135 : gI s 105 = 3 → pc (m_x6_readPart_J135 rgs s) (fun o => SG (1 + R) [false] s o) := fun h3 => by
    unfold m_x6_readPart_J135 m_x6_readPart_J152 m_x6_readPart_J196
    exact pc_bn (fun r21 _ => pc_rg (pc_if (fun _ => pc_bq (sg_other h3 hR h2 (Or.inl rfl)) (fun s18 h => pc_some (SG_up h (by omega)))) (fun _ => pc_bq (sg_other h3 hR h2 (Or.inr rfl)) (fun s18 h => pc_some (SG_up h (by omega))))))
  have J86 : pc (m_x6_readPart_J86 rgs s) (fun o => SG (1 + R) [false] s o) := by
    unfold m_x6_readPart_J86 m_x6_readPart_J103 m_x6_readPart_J196
    exact pc_bn (fun r30 _ => pc_rg (pc_if (fun _ => pc_bq (sg_choice hR h1 (Or.inr rfl)) (fun s27 h => pc_some h)) (fun _ => pc_bq (sg_choice hR h1 (Or.inl rfl)) (fun s27 h => pc_some h))))
  unfold m_x6_readPart
  refine pc_rg (pc_if (fun _ => pc_eqg (pc_bn (fun q72 e72 => pc_bn (fun s74 e74 => ?_)))) (fun _ => pc_bn (fun r36 _ => pc_rg (pc_if (fun _ => pc_bn (fun r40 _ => pc_rg (pc_if (fun _ => pc_bn (fun r44 _ => pc_rg (pc_if (fun _ => pc_rg (pc_if (fun h3 => pc_bn (fun r50 _ => pc_rg (pc_if (fun _ => pc_bn (fun r54 _ => pc_rg (pc_if (fun _ => J158) (fun _ => J135 h3)))) (fun _ => J135 h3)))) (fun _ => J158))) (fun _ => J86)))) (fun _ => J86)))) (fun _ => pc_bn (fun q59 e59 => pc_rg (pc_if (fun c => ?_) (fun _ => pc_bn (fun s63 e63 => pc_bn (fun s65 e65 => pc_bn (fun s67 e67 => pc_stn (fun s68 e68 => ?_))))))))))))
  · unfold m_x6_readPart_J196
    refine pc_some ?_
    have nn : 0 ≤ q72.1 := sg_nn q72 e72
    exact SG_up (SG_s (sg_num e72) (sg_p (x := false) (Or.inl nn) (fun w => absurd w (by decide)) (fun _ => ⟨by omega, fun _ => by omega⟩) e74) (by omega)) (by omega)
  · unfold m_x6_readPart_J196
    exact pc_some (sg_opn0 e59 c)
  · unfold m_x6_readPart_J196
    refine pc_some ?_
    have a := SG_t0 (sg_opens e59) (sg_adv e63) (Int.le_refl _)
    have b := SG_t1 (SG_s a (h1 _ s65 e65) (by omega)) (sg_sign e67) hR
    exact SG_up (SG_t1 b (SG_i e68 (by decide)) hR) (by omega)
theorem sg_prod {B : Int} (hB : 1 ≤ B) (hP : ∀ s, pc (m_x6_readPart rgs s) (fun o => SG B [false] s o)) {s : MS} : pc (m_x6_readProduct rgs s) (fun o => SG (1 + B) [false] s o) := by
  have L : ∀ (n : Nat) (x : Int) (X : MS), SG (1 + B) [false] s X → pc (m_x6_readProduct_L6 rgs n x X) (fun o => SG (1 + B) [false] s o) := by
    refine fr_ind (fun _ _ _ => pc_none) (fun n ih x X hX => ?_)
    show pc (m_x6_readProduct_b6 rgs (m_x6_readProduct_L6 rgs n) x X) _
    have Ja : ∀ p : Int, -6 ≤ p ∧ p ≤ -1 → pc (m_x6_readProduct_J47 rgs (m_x6_readProduct_L6 rgs n) x p X) (fun o => SG (1 + B) [false] s o) := fun p hp => by
      unfold m_x6_readProduct_J47
      refine pc_bn (fun s8 e8 => pc_bn (fun s10 e10 => pc_eqg (pc_bn (fun s13 e13 => ih _ _ ?_))))
      have a := SG_2 (B := 1 + B) (SG_t1 hX (sg_adv e8) (by omega)) (hP s8 s10 e10) (Int.le_refl _) (Int.le_refl _)
      exact sg_j a (by omega) (by omega) (fun w => absurd w (by decide)) (fun w => by omega) e13
    have Jb : pc (m_x6_readProduct_J31 rgs (m_x6_readProduct_L6 rgs n) x X) (fun o => SG (1 + B) [false] s o) := by
      unfold m_x6_readProduct_J31
      exact pc_bn (fun _ _ => pc_rg (pc_if (fun _ => Ja _ (by decide)) (fun _ => Ja _ (by decide))))
    unfold m_x6_readProduct_b6 m_x6_readProduct_J70
    exact pc_rg (pc_if (fun _ => pc_some hX) (fun _ => pc_bn (fun _ _ => pc_rg (pc_if (fun _ => pc_bn (fun _ _ => pc_rg (pc_if (fun _ => pc_some hX) (fun _ => Jb)))) (fun _ => Jb)))))
  unfold m_x6_readProduct
  exact pc_bn (fun s31 e31 => L FU 0 s31 (SG_up (hP s s31 e31) (by omega)))
theorem sg_sums {B : Int} (hB : 1 ≤ B) (hP : ∀ s, pc (m_x6_readProduct rgs s) (fun o => SG B [false] s o)) {s : MS} : pc (m_x6_readSum rgs s) (fun o => SG (1 + B) [false] s o) := by
  have L : ∀ (n : Nat) (x : Int) (X : MS), SG (1 + B) [false] s X → pc (m_x6_readSum_L6 rgs n x X) (fun o => SG (1 + B) [false] s o) := by
    refine fr_ind (fun _ _ _ => pc_none) (fun n ih x X hX => ?_)
    show pc (m_x6_readSum_b6 rgs (m_x6_readSum_L6 rgs n) x X) _
    have Ja : ∀ p : Int, -6 ≤ p ∧ p ≤ -1 → pc (m_x6_readSum_J46 rgs (m_x6_readSum_L6 rgs n) x p X) (fun o => SG (1 + B) [false] s o) := fun p hp => by
      unfold m_x6_readSum_J46
      refine pc_bn (fun s8 e8 => pc_bn (fun s10 e10 => pc_eqg (pc_bn (fun s13 e13 => ih _ _ ?_))))
      have a := SG_2 (B := 1 + B) (SG_t1 hX (sg_adv e8) (by omega)) (hP s8 s10 e10) (Int.le_refl _) (Int.le_refl _)
      exact sg_j a (by omega) (by omega) (fun w => absurd w (by decide)) (fun w => by omega) e13
    have Jb : pc (m_x6_readSum_J31 rgs (m_x6_readSum_L6 rgs n) x X) (fun o => SG (1 + B) [false] s o) := by
      unfold m_x6_readSum_J31
      exact pc_bn (fun _ _ => pc_rg (pc_if (fun _ => Ja _ (by decide)) (fun _ => Ja _ (by decide))))
    unfold m_x6_readSum_b6 m_x6_readSum_J69
    exact pc_rg (pc_if (fun _ => pc_some hX) (fun _ => pc_bn (fun _ _ => pc_rg (pc_if (fun _ => pc_bn (fun _ _ => pc_rg (pc_if (fun _ => pc_some hX) (fun _ => Jb)))) (fun _ => Jb)))))
  unfold m_x6_readSum
  exact pc_bn (fun s31 e31 => L FU 0 s31 (SG_up (hP s s31 e31) (by omega)))
theorem sg_sum {s : MS} (hR : 1 ≤ R) (h1 : ∀ s, pc (rgs.1 s) (fun o => SG R [false] s o)) (h2 : ∀ s, pc (rgs.2 s) (fun o => SG R [false] s o)) : pc (m_x6_readSum rgs s) (fun o => SG (3 + R) [false] s o) :=
  pc_mono (sg_sums (B := 1 + (1 + R)) (by omega) (fun _ => sg_prod (B := 1 + R) (by omega) (fun _ => sg_part hR h1 h2))) (fun _ h => SG_up h (by omega))
end
theorem sg_RG1 : ∀ n : Nat, (∀ s, pc ((RG1 n).1 s) (fun o => SG (1 + 3 * (n : Int)) [false] s o)) ∧ ∀ s, pc ((RG1 n).2 s) (fun o => SG (1 + 3 * (n : Int)) [false] s o) := by
  refine fr_ind ⟨fun _ => pc_none, fun _ => pc_none⟩ (fun n ih => ⟨fun s => ?_, fun s => ?_⟩)
  · show pc (m_x6_readSum (RG1 n) s) _
    exact pc_mono (sg_sum (R := 1 + 3 * (n : Int)) (by omega) ih.1 ih.2) (fun _ h => SG_up h (by omega))
  · show pc (m_x6_readPart (RG1 n) s) _
    exact pc_mono (sg_part (R := 1 + 3 * (n : Int)) (by omega) ih.1 ih.2) (fun _ h => SG_up h (by omega))
theorem sg_sumC {s : MS} : pc (m_x6_readSumC s) (fun o => SG 25 [false] s o) := pc_mono ((sg_RG1 8).1 s) (fun _ h => SG_up h (by decide))
theorem sg_cmp {s : MS} : pc (m_x6_comparison s) (fun q => SG 0 [] s q.2 ∧ -9 ≤ q.1 ∧ q.1 ≤ -7) := by
  have J : ∀ (c : Int) (X : MS), SG 0 [] s X → (-9 ≤ c ∧ c ≤ -7) → pc (m_x6_comparison_J52 c X) (fun q => SG 0 [] s q.2 ∧ -9 ≤ q.1 ∧ q.1 ≤ -7) := fun c X hX hc => by
    unfold m_x6_comparison_J52
    exact pc_bn (fun s4 e4 => pc_some ⟨SG_t0 hX (sg_adv e4) (Int.le_refl _), hc⟩)
  unfold m_x6_comparison
  exact pc_bn (fun _ _ => pc_rg (pc_if (fun _ => pc_bn (fun _ _ => pc_rg (pc_if (fun _ => pc_bn (fun _ _ => pc_rg (pc_if (fun _ => pc_bn (fun q19 e19 => J _ _ (sg_fail (by decide) e19) (by decide))) (fun _ => J _ _ (SG_r s) (by decide))))) (fun _ => J _ _ (SG_r s) (by decide))))) (fun _ => J _ _ (SG_r s) (by decide))))
section
variable {rgs : (MS → Option MS) × (MS → Option MS)} {R : Int}
theorem sg_fact {s : MS} (hR : 26 ≤ R) (h1 : ∀ s, pc (rgs.1 s) (fun o => SG R [true] s o)) (h2 : ∀ s, pc (rgs.2 s) (fun o => SG R [true] s o)) : pc (m_x6_readFact rgs s) (fun o => SG R [true] s o) := by
  unfold m_x6_readFact m_x6_readFact_J134
  refine pc_bn (fun _ _ => pc_rg (pc_if (fun _ => pc_bn (fun _ _ => pc_rg (pc_if (fun _ => pc_bn (fun _ _ => pc_rg (pc_if (fun _ => pc_bn (fun s15 e15 => pc_bn (fun q18 e18 => pc_bn (fun s20 e20 => pc_eqg (pc_bn (fun s23 e23 => pc_some ?_)))))) (fun _ => pc_eqg (pc_bn (fun s26 e26 => pc_bn (fun s28 e28 => pc_some ?_))))))) (fun _ => pc_bn (fun q31 e31 => pc_rg (pc_if (fun c => pc_some ?_) (fun _ => pc_bn (fun s35 e35 => pc_bn (fun s37 e37 => pc_bn (fun s39 e39 => pc_stn (fun s40 e40 => pc_some ?_))))))))))) (fun _ => pc_bn (fun q43 e43 => pc_rg (pc_if (fun c => pc_some ?_) (fun _ => pc_bn (fun s47 e47 => pc_bn (fun s49 e49 => pc_eqg (pc_bn (fun s52 e52 => pc_stn (fun s53 e53 => pc_some ?_)))))))))))
  · obtain ⟨f1, f2⟩ := sg_cmp q18 e18
    have a := SG_t1 (sg_sumC s15 e15) f1 (by omega)
    have b := SG_2 (B := R) a (sg_sumC s20 e20) (by omega) (by omega)
    exact sg_j b (by omega) (by omega) (fun _ => f2.2) (fun w => by omega) e23
  · exact SG_up (SG_t1 (sg_p (x := true) (Or.inl (by decide)) (fun _ => by decide) (fun _ => ⟨by omega, fun _ => by omega⟩) e26) (sg_adv e28) (by omega)) (by omega)
  · exact sg_opn0 e31 c
  · have a := SG_t0 (sg_opens e31) (sg_adv e35) (Int.le_refl _)
    have b := SG_t1 (SG_s a (h2 _ s37 e37) (by omega)) (sg_sign e39) (by omega)
    exact SG_t1 b (SG_i e40 (by decide)) (by omega)
  · exact sg_opn0 e43 c
  · have a := SG_t0 (sg_opens e43) (sg_adv e47) (Int.le_refl _)
    have b := SG_s a (h1 _ s49 e49) (by omega)
    have c := sg_u (z := true) b (by omega) (by omega) (fun _ => rfl) (fun _ => rfl) (fun _ => rfl) e52
    exact SG_t1 c (SG_i e53 (by decide)) (by omega)
theorem sg_both {B : Int} (hB : 1 ≤ B) (hP : ∀ s, pc (m_x6_readFact rgs s) (fun o => SG B [true] s o)) {s : MS} : pc (m_x6_readBoth rgs s) (fun o => SG (1 + B) [true] s o) := by
  have L : ∀ (n : Nat) (x : Int) (X : MS), SG (1 + B) [true] s X → pc (m_x6_readBoth_L6 rgs n x X) (fun o => SG (1 + B) [true] s o) := by
    refine fr_ind (fun _ _ _ => pc_none) (fun n ih x X hX => ?_)
    show pc (m_x6_readBoth_b6 rgs (m_x6_readBoth_L6 rgs n) x X) _
    unfold m_x6_readBoth_b6 m_x6_readBoth_J45
    refine pc_rg (pc_if (fun _ => pc_some hX) (fun _ => pc_bn (fun _ _ => pc_rg (pc_if (fun _ => pc_some hX) (fun _ => pc_bn (fun s11 e11 => pc_bn (fun s13 e13 => pc_eqg (pc_bn (fun s16 e16 => ih _ _ ?_)))))))))
    have a := SG_2 (B := 1 + B) (SG_t1 hX (sg_adv e11) (by omega)) (hP s11 s13 e13) (Int.le_refl _) (Int.le_refl _)
    exact sg_j a (by omega) (by decide) (fun _ => by decide) (fun _ => ⟨rfl, rfl⟩) e16
  unfold m_x6_readBoth
  exact pc_bn (fun s18 e18 => L FU 0 s18 (SG_up (hP s s18 e18) (by omega)))
theorem sg_tests {B : Int} (hB : 1 ≤ B) (hP : ∀ s, pc (m_x6_readBoth rgs s) (fun o => SG B [true] s o)) {s : MS} : pc (m_x6_readTest rgs s) (fun o => SG (1 + B) [true] s o) := by
  have L : ∀ (n : Nat) (x : Int) (X : MS), SG (1 + B) [true] s X → pc (m_x6_readTest_L6 rgs n x X) (fun o => SG (1 + B) [true] s o) := by
    refine fr_ind (fun _ _ _ => pc_none) (fun n ih x X hX => ?_)
    show pc (m_x6_readTest_b6 rgs (m_x6_readTest_L6 rgs n) x X) _
    unfold m_x6_readTest_b6 m_x6_readTest_J45
    refine pc_rg (pc_if (fun _ => pc_some hX) (fun _ => pc_bn (fun _ _ => pc_rg (pc_if (fun _ => pc_some hX) (fun _ => pc_bn (fun s11 e11 => pc_bn (fun s13 e13 => pc_eqg (pc_bn (fun s16 e16 => ih _ _ ?_)))))))))
    have a := SG_2 (B := 1 + B) (SG_t1 hX (sg_adv e11) (by omega)) (hP s11 s13 e13) (Int.le_refl _) (Int.le_refl _)
    exact sg_j a (by omega) (by decide) (fun _ => by decide) (fun _ => ⟨rfl, rfl⟩) e16
  unfold m_x6_readTest
  exact pc_bn (fun s18 e18 => L FU 0 s18 (SG_up (hP s s18 e18) (by omega)))
end
theorem sg_RG2 : ∀ n : Nat, (∀ s, pc ((RG2 n).1 s) (fun o => SG (26 + 2 * (n : Int)) [true] s o)) ∧ ∀ s, pc ((RG2 n).2 s) (fun o => SG (26 + 2 * (n : Int)) [true] s o) := by
  refine fr_ind ⟨fun _ => pc_none, fun _ => pc_none⟩ (fun n ih => ⟨fun s => ?_, fun s => ?_⟩)
  · show pc (m_x6_readFact (RG2 n) s) _
    exact pc_mono (sg_fact (R := 26 + 2 * (n : Int)) (by omega) ih.1 ih.2) (fun _ h => SG_up h (by omega))
  · show pc (m_x6_readTest (RG2 n) s) _
    exact pc_mono (sg_tests (B := 1 + (26 + 2 * (n : Int))) (by omega) (fun _ => sg_both (B := 26 + 2 * (n : Int)) (by omega) (fun _ => sg_fact (by omega) ih.1 ih.2))) (fun _ h => SG_up h (by omega))
theorem sg_testC {s : MS} : pc (m_x6_readTestC s) (fun o => SG 42 [true] s o) := pc_mono ((sg_RG2 8).2 s) (fun _ h => SG_up h (by decide))
