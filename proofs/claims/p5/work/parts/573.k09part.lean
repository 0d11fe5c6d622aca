/-! ===== a part, on both sides ===== -/
def FCT (s : MS) : Prop := gI s 107 = 1 ∧ (gI s 110 = 13 ∨ (gI s 110 = 11 ∧ (gI s 105 = 0 ∨ gI s 105 = 2)) ∨ (gI s 110 = 12 ∧ gI s 105 = 0) ∨ (gI s 110 = 14 ∧ gI s 105 ≠ 0) ∨ ((gI s 110 = 15 ∨ gI s 110 = 16 ∨ gI s 110 = 17 ∨ gI s 110 = 18) ∧ gI s 105 = 3))
theorem s_isFact {s : MS} : pc (m_x6_isFact s) (fun r => (r = 1 ∧ FCT s) ∨ (r = 0 ∧ ¬ FCT s)) := by
  unfold m_x6_isFact m_x6_isFact_J77 m_x6_isFact_J82 m_x6_isFact_J95 m_x6_isFact_J108 m_x6_isFact_J109 m_x6_isFact_J122 FCT
  refine pc_rg (pc_if (fun c => pc_rg (pc_if (fun c1 => pc_rg (pc_if (fun c2 => pc_bo (pc_some ?_)) (fun c2 => pc_rg (pc_if (fun c3 => pc_bo (pc_some ?_)) (fun c3 => pc_bo (pc_some ?_)))))) (fun c1 => pc_if (fun c4 => pc_rg (pc_if (fun c2 => pc_bo (pc_some ?_)) (fun c2 => pc_bo (pc_some ?_)))) (fun c4 => pc_if (fun c5 => pc_some ?_) (fun c5 => pc_if (fun c6 => pc_rg (pc_if (fun c2 => pc_bo (pc_some ?_)) (fun c2 => pc_bo (pc_some ?_)))) (fun c6 => pc_if (fun c7 => pc_rg (pc_if (fun c2 => pc_bo (pc_some ?_)) (fun c2 => pc_bo (pc_some ?_)))) (fun c7 => pc_if (fun c8 => pc_rg (pc_if (fun c2 => pc_bo (pc_some ?_)) (fun c2 => pc_bo (pc_some ?_)))) (fun c8 => pc_if (fun c9 => pc_rg (pc_if (fun c2 => pc_bo (pc_some ?_)) (fun c2 => pc_bo (pc_some ?_)))) (fun c9 => pc_if (fun c10 => pc_rg (pc_if (fun c2 => pc_bo (pc_some ?_)) (fun c2 => pc_bo (pc_some ?_)))) (fun c10 => pc_some ?_)))))))))) (fun c => pc_some ?_))
  all_goals omega
/-- none of what opens, no number -/
def NOTS (s : MS) : Prop := gI s 107 ≠ 2 ∧ ¬ (gI s 107 = 3 ∧ gI s 111 = 40) ∧ ¬ (gI s 107 = 1 ∧ (gI s 110 = 25 ∨ gI s 110 = 26)) ∧ ¬ (gI s 105 = 3 ∧ gI s 107 = 1 ∧ (gI s 110 = 19 ∨ gI s 110 = 20))
theorem s_part {rgs : (MS → Option MS) × (MS → Option MS)} {s : MS} (h0 : gI s 100 = 0) : pc (m_x6_readPart rgs s) (fun s' =>
    (gI s 107 = 2 ∧ ∃ q, m_x6_expectNumber 0 1000000 s = some q ∧ m_x0_add q.1 q.2 = some s') ∨
    ((gI s 107 = 3 ∧ gI s 111 = 40) ∧ ∃ q, m_x6_opens s = some q ∧ ((q.1 = 0 ∧ s' = q.2) ∨ (q.1 ≠ 0 ∧ ∃ s2 s3 s4, m_x6_advance q.2 = some s2 ∧ rgs.1 s2 = some s3 ∧ m_x6_expectSign 41 s3 = some s4 ∧ sI s4 106 (gI s4 106 - 1) = s'))) ∨
    (gI s 107 = 1 ∧ ∃ c, ((gI s 110 = 25 ∧ c = -5) ∨ (gI s 110 = 26 ∧ c = -6)) ∧ m_x6_readChoice rgs c s = some s') ∨
    ((gI s 107 = 1 ∧ gI s 105 = 3) ∧ ∃ c, ((gI s 110 = 19 ∧ c = -13) ∨ (gI s 110 = 20 ∧ c = -14)) ∧ m_x6_readOther rgs c s = some s') ∨
    (NOTS s ∧ ((FCT s ∧ ∃ s1, m_x0_add (-100 - gI s 110) s = some s1 ∧ m_x6_advance s1 = some s') ∨ (¬ FCT s ∧ gI s' 100 = 1 ∧ gI s' 101 = gI s 108)))) := by
  unfold m_x6_readPart m_x6_readPart_J86 m_x6_readPart_J103 m_x6_readPart_J135 m_x6_readPart_J152 m_x6_readPart_J158 m_x6_readPart_J196
  have hF : NOTS s → pc (bn (m_x6_isFact s) (fun r4 => rg r4 (if r4 = 0 then bn (m_x6_fail 1 (gI s 108) s) (fun qr9 => some qr9.2) else eqg (gI s 9999) 2 (bn (m_x0_add ((-100) - (gI s 110)) s) (fun s12 => bn (m_x6_advance s12) (fun s14 => some s14)))))) (fun s' => NOTS s ∧ ((FCT s ∧ ∃ s1, m_x0_add (-100 - gI s 110) s = some s1 ∧ m_x6_advance s1 = some s') ∨ (¬ FCT s ∧ gI s' 100 = 1 ∧ gI s' 101 = gI s 108))) := fun hn => by
    refine pc_bq s_isFact (fun r4 h4 => pc_rg (pc_if (fun c => pc_bq (s_fail h0) (fun q9 h9 => pc_some ⟨hn, Or.inr ⟨?_, h9⟩⟩)) (fun c => pc_eqg (pc_bn (fun s12 e12 => pc_bn (fun s14 e14 => pc_some ⟨hn, Or.inl ⟨?_, s12, e12, e14⟩⟩))))))
    · rcases h4 with q | q
      · omega
      · exact q.2
    · rcases h4 with q | q
      · exact q.2
      · exact absurd q.1 c
  refine pc_rg (pc_if (fun c => pc_eqg (pc_bn (fun q72 e72 => pc_bn (fun s74 e74 => pc_some (Or.inl ⟨c, q72, e72, e74⟩))))) (fun c => ?_))
  refine pc_bq s_isSign (fun r36 h36 => pc_rg (pc_if (fun c1 => ?_) (fun c1 => ?_)))
  · have n36 : ¬ (gI s 107 = 3 ∧ gI s 111 = 40) := by
      rcases h36 with q | q
      · omega
      · exact q.2
    have CH : (gI s 107 = 1 ∧ (gI s 110 = 25 ∨ gI s 110 = 26)) → pc (bn (m_x6_isWord 25 s) (fun r30 => rg r30 (if r30 = 0 then bn (m_x6_readChoice rgs (-6) s) (fun s27 => some s27) else bn (m_x6_readChoice rgs (-5) s) (fun s27 => some s27)))) (fun s' => gI s 107 = 1 ∧ ∃ c, ((gI s 110 = 25 ∧ c = -5) ∨ (gI s 110 = 26 ∧ c = -6)) ∧ m_x6_readChoice rgs c s = some s') := fun hw => by
      refine pc_bq s_isWord (fun r30 h30 => pc_rg (pc_if (fun c2 => pc_bn (fun s27 e27 => pc_some ⟨hw.1, -6, by omega, e27⟩)) (fun c2 => pc_bn (fun s27 e27 => pc_some ⟨hw.1, -5, by omega, e27⟩))))
    have OT : (gI s 107 = 1 ∧ (gI s 110 = 19 ∨ gI s 110 = 20)) → gI s 105 = 3 → pc (bn (m_x6_isWord 19 s) (fun r21 => rg r21 (if r21 = 0 then bn (m_x6_readOther rgs (-14) s) (fun s18 => some s18) else bn (m_x6_readOther rgs (-13) s) (fun s18 => some s18)))) (fun s' => (gI s 107 = 1 ∧ gI s 105 = 3) ∧ ∃ c, ((gI s 110 = 19 ∧ c = -13) ∨ (gI s 110 = 20 ∧ c = -14)) ∧ m_x6_readOther rgs c s = some s') := fun hw hm => by
      refine pc_bq s_isWord (fun r21 h21 => pc_rg (pc_if (fun c2 => pc_bn (fun s18 e18 => pc_some ⟨⟨hw.1, hm⟩, -14, by omega, e18⟩)) (fun c2 => pc_bn (fun s18 e18 => pc_some ⟨⟨hw.1, hm⟩, -13, by omega, e18⟩))))
    refine pc_bq s_isWord (fun r40 h40 => pc_rg (pc_if (fun c2 => ?_) (fun c2 => ?_)))
    · refine pc_bq s_isWord (fun r44 h44 => pc_rg (pc_if (fun c3 => pc_rg (pc_if (fun c4 => ?_) (fun c4 => ?_))) (fun c3 => ?_)))
      · refine pc_bq s_isWord (fun r50 h50 => pc_rg (pc_if (fun c5 => pc_bq s_isWord (fun r54 h54 => pc_rg (pc_if (fun c6 => ?_) (fun c6 => ?_)))) (fun c5 => ?_)))
        · exact pc_mono (hF ⟨c, n36, by omega, by omega⟩) (fun o h => Or.inr (Or.inr (Or.inr (Or.inr h))))
        · exact pc_mono (OT (by omega) c4) (fun o h => Or.inr (Or.inr (Or.inr (Or.inl h))))
        · exact pc_mono (OT (by omega) c4) (fun o h => Or.inr (Or.inr (Or.inr (Or.inl h))))
      · exact pc_mono (hF ⟨c, n36, by omega, by omega⟩) (fun o h => Or.inr (Or.inr (Or.inr (Or.inr h))))
      · exact pc_mono (CH (by omega)) (fun o h => Or.inr (Or.inr (Or.inl h)))
    · exact pc_mono (CH (by omega)) (fun o h => Or.inr (Or.inr (Or.inl h)))
  · have y36 : gI s 107 = 3 ∧ gI s 111 = 40 := by
      rcases h36 with q | q
      · exact q.2
      · exact absurd q.1 c1
    exact pc_bn (fun q59 e59 => pc_rg (pc_if (fun c2 => pc_some (Or.inr (Or.inl ⟨y36, q59, e59, Or.inl ⟨c2, rfl⟩⟩))) (fun c2 => pc_bn (fun s63 e63 => pc_bn (fun s65 e65 => pc_bn (fun s67 e67 => pc_stn (fun s68 e68 => pc_some (Or.inr (Or.inl ⟨y36, q59, e59, Or.inr ⟨c2, s63, s65, s67, e63, e65, e67, e68⟩⟩)))))))))
section RE9
variable {P : MS → Prop} {x13 : Int} {k0 b0 : Int} {f0 : Nat → Int} {s s' s'' : MS} {K E : List Int}
theorem J237_ok {T : MS} {x : Int} (h : ∀ o, m_x12_qCode x T = some o → PE P x13 o) : pc (m_x12_qPartTold_J237 x T) (QA P x13) := by
  unfold m_x12_qPartTold_J237
  exact pc_bn (fun s4 e4 => pc_bq ((h s4 e4).1 FU) (fun s6 h6 => pc_some h6))
theorem J237_bad {T : MS} {x : Int} (h0 : gI T 5 ≠ 0) (hP : ∀ o, FKp 5 6 T o → P o) : pc (m_x12_qPartTold_J237 x T) (QA P x13) := by
  refine J237_ok (fun o e => ?_)
  have f : FKp 5 6 T o := FKp.of (fr_x12_qCode e) (by decide) (by decide)
  exact PE_bad (FKp_ne f h0) (fun u hu => hP u (f.tr hu))
/-- ahead of a part: what the reference finds -/
theorem r_b2 {t : MS} {Q : MS → Prop} {m : Nat} (h : REL k0 b0 f0 s t K [])
    (hi : gI s 107 = 3 → gI s 111 = 40 → ∀ S, REL k0 b0 f0 s S K [] → gI S 2 = gI s 108 → pc (bn (m_x12_qOpens 20 (gI S 2) S) (fun s92 => stn (sI s92 2 ((gI s92 2) + 1)) (fun s93 => m_x12_qPartTold_L2 m 1 s93))) Q)
    (hc : gI s 107 = 1 → (gI s 110 = 25 ∨ gI s 110 = 26) → ∀ S, REL k0 b0 f0 s S K [] → pc (m_x12_qPartTold_J78 (m_x12_qPartTold_L2 m) 1 S) Q)
    (ho : gI s 107 = 1 → gI s 105 = 3 → ∀ k : Nat, (k = 8 ∧ gI s 110 = 19) ∨ (k = 9 ∧ gI s 110 = 20) → ∀ S, REL k0 b0 f0 s S K [] → gI S 2 = gI s 108 → pc (bn (m_x12_qOpens ((60 + (k : Int)) - 8) (gI S 2) S) (fun s88 => bn (m_x12_qAsksWord (k : Int) s88) (fun s90 => m_x12_qPartTold_L2 m 1 s90))) Q)
    (hx : ¬ (gI s 107 = 3 ∧ gI s 111 = 40) → ¬ (gI s 107 = 1 ∧ (gI s 110 = 25 ∨ gI s 110 = 26)) → ¬ (gI s 105 = 3 ∧ gI s 107 = 1 ∧ (gI s 110 = 19 ∨ gI s 110 = 20)) → ∀ S, REL k0 b0 f0 s S K [] → pc (m_x12_qPartTold_J186 S) Q) : pc (m_x12_qPartTold_L2 (m + 1) 1 t) Q := by
  show pc (m_x12_qPartTold_b2 (m_x12_qPartTold_L2 m) 1 t) Q
  unfold m_x12_qPartTold_b2 m_x12_qPartTold_J183
  have hb0 : gI t 5 = 0 := h.1.2.1.2
  refine pc_rg (pc_if (fun c => absurd c (by decide)) (fun _ => pc_rg (pc_if (fun _ => pc_bq (r_look h) (fun q69 h69 => ?_)) (fun c => absurd hb0 c))))
  obtain ⟨r69, S1⟩ := q69
  obtain ⟨hS1, a1, v1⟩ := h69
  dsimp only at hS1 a1 v1 ⊢
  refine pc_bq (r_wordOf hS1) (fun q72 h72 => ?_)
  obtain ⟨r72, S2⟩ := q72
  obtain ⟨hS2, a2, v2⟩ := h72
  dsimp only at hS2 a2 v2 ⊢
  refine pc_rg (pc_if (fun c => hi (TK_3 hS2.1.2.2.1.1 (by omega)) (by omega) S2 hS2 a2) (fun c => ?_))
  have n40 : ¬ (gI s 107 = 3 ∧ gI s 111 = 40) := fun q => c (by omega)
  have hr : ∀ S : MS, REL k0 b0 f0 s S K [] → (∀ j, j < 3 → gA S 89 j = wc 25 j) ∧ (∀ j, j < 3 → gA S 90 j = wc 26 j) := fun S hS => ⟨fun j hj => hS.1.2.2.2.2.2.2 10 (by decide) j hj, fun j hj => hS.1.2.2.2.2.2.2 11 (by decide) j hj⟩
  refine pc_bq (r_here (w := 25) hS2 (by decide) rfl (hr S2 hS2).1) (fun q77 h77 => pc_rg (pc_if (fun c1 => ?_) (fun c1 => ?_)))
  · refine pc_bq (r_here (w := 26) h77.1 (by decide) rfl (hr _ h77.1).2) (fun q82 h82 => pc_rg (pc_if (fun c2 => pc_rg (pc_if (fun c3 => ?_) (fun c3 => ?_))) (fun c2 => ?_)))
    · have n1 : ¬ (gI s 107 = 1 ∧ (gI s 110 = 25 ∨ gI s 110 = 26)) := fun q => by
        rcases h77.2.2 with g | g
        · omega
        · rcases h82.2.2 with g2 | g2
          · omega
          · rcases q.2 with w | w
            · exact g.2 ⟨q.1, w⟩
            · exact g2.2 ⟨q.1, w⟩
      have n2 : ¬ (gI s 105 = 3 ∧ gI s 107 = 1 ∧ (gI s 110 = 19 ∨ gI s 110 = 20)) := fun q => by
        rcases v2 with ⟨k, _, e, _⟩ | ⟨_, g⟩
        · omega
        · rcases q.2.2 with w | w
          · exact g 8 (by decide) ⟨q.2.1, w⟩ (by omega) (Or.inr (Or.inr (Or.inr ⟨q.1, Or.inr (by decide)⟩)))
          · exact g 9 (by decide) ⟨q.2.1, w⟩ (by omega) (Or.inr (Or.inr (Or.inr ⟨q.1, Or.inr (by decide)⟩)))
      cases m with
      | zero => exact pc_none
      | succ m =>
        show pc (m_x12_qPartTold_b2 (m_x12_qPartTold_L2 m) 0 q82.2) Q
        unfold m_x12_qPartTold_b2
        exact pc_rg (pc_if (fun _ => hx n40 n1 n2 q82.2 h82.1) (fun c => absurd rfl c))
    · rcases v2 with ⟨k, hk, e, hw, hp, ha⟩ | ⟨e, _⟩
      · rw [e]
        have k89 : k = 8 ∨ k = 9 := by omega
        have hm : gI s 105 = 3 := by
          unfold alw at ha
          omega
        refine ho hw.1 hm k ?_ q82.2 h82.1 h82.2.1
        rcases k89 with z | z
        · rw [z] at hw; exact Or.inl ⟨z, hw.2⟩
        · rw [z] at hw; exact Or.inr ⟨z, hw.2⟩
      · exact absurd e c3
    · rcases h82.2.2 with g | g
      · exact hc g.2.1 (Or.inr g.2.2) q82.2 h82.1
      · exact absurd g.1 c2
  · rcases h77.2.2 with g | g
    · exact hc g.2.1 (Or.inl g.2.2) q77.2 h77.1
    · exact absurd g.1 c1
/-- a word that is at hand is taken -/
theorem y_asks1 {wid wn w : Nat} {t : MS} (h : SY s t) (hw : w < 33) (hn : wn = wl w) (hr : ∀ j, j < wn → gA t wid j = wc w j) (hk : gI s 107 = 1 ∧ gI s 110 = (w : Int)) : pc (m_x12_asks wid wn t) (fun o => NX s o) := by
  unfold m_x12_asks m_x12_asks_J24
  refine pc_rg (pc_if (fun _ => pc_bq (y_takes h hw hn hr) (fun q6 h6 => pc_rg (pc_if (fun c2 => ?_) (fun c2 => pc_some ?_)))) (fun c => absurd h.2.1.2 c))
  · rcases h6 with g | ⟨_, g2, _⟩
    · omega
    · exact absurd hk g2
  · rcases h6 with ⟨_, _, _, g4⟩ | g
    · exact g4
    · exact absurd g.1 c2
theorem y_asksW {t : MS} (h : SY s t) {k : Nat} (hk : k < 10) (hw : gI s 107 = 1 ∧ gI s 110 = (wk k : Int)) : pc (m_x12_qAsksWord (k : Int) t) (fun o => NX s o) := by
  have key : pc (m_x12_asks (91 + k) (wl (wk k)) t) (fun o => NX s o) := by
    have e : wqJ (12 + k) = wk k := by
      have : ∀ k, k < 10 → wqJ (12 + k) = wk k := by decide
      exact this k hk
    have l : wk k < 33 := by
      have : ∀ k, k < 10 → wk k < 33 := by decide
      exact this k hk
    refine y_asks1 h l rfl (fun j hj => ?_) hw
    have := h.2.2.2.2.2.2 (12 + k) (by omega) j (by rw [e]; exact hj)
    rw [e, show 79 + (12 + k) = 91 + k by omega] at this
    exact this
  unfold m_x12_qAsksWord m_x12_qAsksWord_J159
  refine pc_rg (pc_if (fun c => ?_) (fun _ => pc_if (fun c => ?_) (fun _ => pc_if (fun c => ?_) (fun _ => pc_if (fun c => ?_) (fun _ => pc_if (fun c => ?_) (fun _ => pc_if (fun c => ?_) (fun _ => pc_if (fun c => ?_) (fun _ => pc_if (fun c => ?_) (fun _ => pc_if (fun c => ?_) (fun c => ?_))))))))))
  · have z : k = 0 := by omega
    rw [z] at key
    exact pc_bq key (fun o ho => pc_some ho)
  · have z : k = 1 := by omega
    rw [z] at key
    exact pc_bq key (fun o ho => pc_some ho)
  · have z : k = 2 := by omega
    rw [z] at key
    exact pc_bq key (fun o ho => pc_some ho)
  · have z : k = 3 := by omega
    rw [z] at key
    exact pc_bq key (fun o ho => pc_some ho)
  · have z : k = 4 := by omega
    rw [z] at key
    exact pc_bq key (fun o ho => pc_some ho)
  · have z : k = 5 := by omega
    rw [z] at key
    exact pc_bq key (fun o ho => pc_some ho)
  · have z : k = 6 := by omega
    rw [z] at key
    exact pc_bq key (fun o ho => pc_some ho)
  · have z : k = 7 := by omega
    rw [z] at key
    exact pc_bq key (fun o ho => pc_some ho)
  · have z : k = 8 := by omega
    rw [z] at key
    exact pc_bq key (fun o ho => pc_some ho)
  · have z : k = 9 := by omega
    rw [z] at key
    exact pc_bq key (fun o ho => pc_some ho)
/-- an atom: a word or a number -/
theorem r_J186 {S : MS} {Q : MS → Prop} (h : REL k0 b0 f0 s S K [])
    (hf : ∀ k : Nat, k < 8 → (gI s 107 = 1 ∧ gI s 110 = (wk k : Int)) → alw (gI s 105) (k : Int) → ∀ T, NX s T → (∀ i, 48 ≤ i → gI T i = gI S i) → (∀ j, gA T j = gA S j) → pc (m_x12_qPartTold_J237 (40 + (k : Int)) T) Q)
    (hn : (∀ k : Nat, k < 8 → (gI s 107 = 1 ∧ gI s 110 = (wk k : Int)) → ¬ alw (gI s 105) (k : Int)) → ∀ T, REL k0 b0 f0 s T K [] → pc (bn (m_x12_number 0 9999 T) (fun q13 => m_x12_qPartTold_J237 (1000 + q13.1) q13.2)) Q) : pc (m_x12_qPartTold_J186 S) Q := by
  unfold m_x12_qPartTold_J186 m_x12_qPartTold_J212
  have hb0 : gI S 5 = 0 := h.1.2.1.2
  refine pc_rg (pc_if (fun _ => pc_bn (fun q19 e19 => ?_)) (fun c => absurd hb0 c))
  have F19 : F_x12_qWordOf S q19.2 := fr_x12_qWordOf e19
  have h19 := r_wordOf h q19 e19
  obtain ⟨r19, S2⟩ := q19
  obtain ⟨hS2, a2, v2⟩ := h19
  dsimp only at hS2 a2 v2 F19 ⊢
  refine pc_rg (pc_if (fun c => pc_rg (pc_if (fun _ => hn ?_ S2 hS2) (fun c2 => absurd c c2))) (fun c => ?_))
  · rcases v2 with ⟨k, _, e, _⟩ | ⟨_, g⟩
    · omega
    · exact fun k hk hw => g k (by omega) hw (by omega)
  · rcases v2 with ⟨k, hk, e, hw, hp, ha⟩ | ⟨e, _⟩
    · rw [e]
      refine pc_bn (fun s23 e23 => ?_)
      have hN := y_asksW hS2.1 hk hw s23 e23
      have F23 : F_x12_qAsksWord S2 s23 := fr_x12_qAsksWord e23
      refine pc_rg (pc_if (fun c2 => by omega) (fun _ => hf k (by omega) hw ha s23 hN (fun i hi => ?_) (fun j => ?_)))
      · rw [F23.1 i (by simp; omega), F19.1 i (by simp; omega)]
      · rw [F23.2.1 j (by simp), F19.2.1 j (by simp)]
    · exact absurd e c
end RE9
