/-! ===== one step down a tree, each side by itself ===== -/
theorem s_step1 {n B : Nat} {key val i : Int} {S : MS} {Q : Int × MS → Prop} (hi : 0 < i) (K : ∀ (r : Int) (q30 : Int × MS), EF (fun k => gA S 58 (6 * B + k)) (gA S 57 B) key r → m_x1_owned (gA S 59 (6 * B + r.toNat)) S = some q30 → (q30.1 = -1 → Q (0, q30.2)) ∧ (q30.1 ≠ -1 → ∀ (s34 : MS) (q37 : Int × MS), m_x8_set (B : Int) r q30.1 q30.2 = some s34 → m_x1_splits q30.1 s34 = some q37 → (q37.1 = 0 → pc (m_x1_plant_L117 n key val q30.1 (i + -1) q37.2) Q) ∧ (q37.1 ≠ 0 → ∀ q42 : Int × MS, m_x1_split (B : Int) r q30.1 key q37.2 = some q42 → pc (m_x1_plant_L117 n key val q42.1 (i + -1) q42.2) Q))) : pc (m_x1_plant_L117 (n + 1) key val (B : Int) i S) Q := by
  have tB : ((B : Nat) : Int).toNat = B := Int.toNat_natCast _
  show pc (m_x1_plant_b117 (m_x1_plant_L117 n) key val (B : Int) i S) Q
  unfold m_x1_plant_b117 m_x1_plant_J211 m_x8_slot
  refine pc_rg (pc_if (fun c => absurd c (by omega)) (fun _ => pc_rg (pc_if (fun c => absurd c (by omega)) (fun _ => pc_bq (s_entryFor (by omega)) (fun r24 h24 => pc_bn (fun r26 e26 => ?_))))))
  cases e26
  rw [tB] at h24
  have r0 := h24.1
  refine pc_rdI (fun _ => ?_)
  rw [show ((B : Int) * 6 + r24).toNat = 6 * B + r24.toNat by omega]
  refine pc_bn (fun q30 e30 => ?_)
  have k := K r24 q30 h24 e30
  exact pc_rg (pc_if (fun c => pc_some (k.1 c)) (fun c => pc_bn (fun s34 e34 => pc_bn (fun q37 e37 => pc_rg (pc_if (fun c2 => ((k.2 c) s34 q37 e34 e37).1 c2) (fun c2 => pc_bn (fun q42 e42 => ((k.2 c) s34 q37 e34 e37).2 c2 q42 e42)))))))
/-- nothing was to be had -/
theorem s_stepF {key val : Int} : ∀ (n : Nat) (i : Int) (S : MS), pc (m_x1_plant_L117 n key val (-1) i S) (fun q => q.1 = 0) := by
  have J : ∀ S : MS, pc (m_x1_plant_J219 key val (-1) S) (fun q => q.1 = 0) := fun S => by
    unfold m_x1_plant_J219
    exact pc_rg (pc_if (fun _ => pc_some rfl) (fun c => absurd rfl c))
  refine fr_ind (fun _ _ => pc_none) (fun n ih i S => ?_)
  show pc (m_x1_plant_b117 (m_x1_plant_L117 n) key val (-1) i S) _
  unfold m_x1_plant_b117
  exact pc_rg (pc_if (fun _ => J S) (fun _ => pc_rg (pc_if (fun _ => J S) (fun c => absurd rfl c))))
/-- at a leaf -/
theorem s_step0 {n B : Nat} {key val i : Int} {S : MS} {Q : Int × MS → Prop} (hi : i ≤ 0) (K : ∀ s8 : MS, m_x1_plantLow (B : Int) key val S = some s8 → Q (1, s8)) : pc (m_x1_plant_L117 (n + 1) key val (B : Int) i S) Q := by
  show pc (m_x1_plant_b117 (m_x1_plant_L117 n) key val (B : Int) i S) Q
  unfold m_x1_plant_b117 m_x1_plant_J219
  exact pc_rg (pc_if (fun _ => pc_rg (pc_if (fun c => absurd c (by omega)) (fun _ => pc_bn (fun s8 e8 => pc_some (K s8 e8))))) (fun c => absurd hi c))
/-! the reference -/
theorem m_stepF {key val : Int} : ∀ (m : Nat) (b : Int) (T : MS), gI T 55 = 1 → pc (m_x12_puts_L94 m key val b T) (fun o => gI o 55 = 1) := by
  refine fr_ind (fun _ _ _ => pc_none) (fun m ih b T h => ?_)
  show pc (m_x12_puts_b94 (m_x12_puts_L94 m) key val b T) _
  unfold m_x12_puts_b94 m_x12_puts_J198 m_x12_puts_J213
  exact pc_rg (pc_if (fun c => absurd (h.symm.trans c) (by decide)) (fun _ => pc_rg (pc_if (fun c => absurd (h.symm.trans c) (by decide)) (fun _ => pc_some h))))
theorem m_step0 {m b : Nat} {key val : Int} {T : MS} {Q : MS → Prop} (h55 : gI T 55 = 0) (hl : (hM T).1 b ≤ 0) (K : ∀ s9 : MS, m_x12_putsIn (b : Int) key val T = some s9 → Q s9) : pc (m_x12_puts_L94 (m + 1) key val (b : Int) T) Q := by
  have tb : ((b : Nat) : Int).toNat = b := Int.toNat_natCast _
  show pc (m_x12_puts_b94 (m_x12_puts_L94 m) key val (b : Int) T) Q
  unfold m_x12_puts_b94 m_x12_puts_J198 m_x12_puts_J213
  refine pc_rg (pc_if (fun _ => pc_bq (m_lev (by omega)) (fun r37 h37 => ?_)) (fun c => absurd h55 c))
  rw [tb] at h37
  exact pc_rg (pc_if (fun _ => pc_rg (pc_if (fun _ => pc_bn (fun s9 e9 => pc_some (K s9 e9))) (fun c => absurd h55 c))) (fun c => absurd (by omega) c))
theorem m_J162 {m b : Nat} {key val r c : Int} {X : MS} {Q : MS → Prop} (h55 : gI X 55 = 0) (K : ∀ q28 : Int × MS, m_x12_doesSplit c X = some q28 → (q28.1 = 0 → pc (m_x12_puts_L94 m key val c q28.2) Q) ∧ (q28.1 ≠ 0 → ∀ q33 : Int × MS, m_x12_half (b : Int) r c key q28.2 = some q33 → pc (m_x12_puts_L94 m key val q33.1 q33.2) Q)) : pc (m_x12_puts_J162 (m_x12_puts_L94 m) key val (b : Int) r c X) Q := by
  unfold m_x12_puts_J162 m_x12_puts_J191
  exact pc_rg (pc_if (fun _ => pc_bn (fun q28 e28 => pc_rg (pc_if (fun c2 => (K q28 e28).1 c2) (fun c2 => pc_bn (fun q33 e33 => (K q28 e28).2 c2 q33 e33))))) (fun z => absurd h55 z))
theorem m_J162F {m b : Nat} {key val r c : Int} {X : MS} (h55 : gI X 55 = 1) : pc (m_x12_puts_J162 (m_x12_puts_L94 m) key val (b : Int) r c X) (fun o => gI o 55 = 1) := by
  unfold m_x12_puts_J162 m_x12_puts_J191
  exact pc_rg (pc_if (fun z => absurd (h55.symm.trans z) (by decide)) (fun _ => m_stepF m c X h55))
theorem m_step1 {m b : Nat} {key val : Int} {T : MS} {Q : MS → Prop} (h55 : gI T 55 = 0) (hl : 0 < (hM T).1 b) (hz : 1 ≤ (hM T).2.1 b ∧ (hM T).2.1 b ≤ 6) (K : ∀ (r : Int) (q46 : Int × MS), PF (kM T b) ((hM T).2.1 b) key r → m_x12_owned ((hM T).2.2 b r.toNat) T = some q46 → (q46.1 = (hM T).2.2 b r.toNat → pc (m_x12_puts_J162 (m_x12_puts_L94 m) key val (b : Int) r q46.1 q46.2) Q) ∧ (q46.1 ≠ (hM T).2.2 b r.toNat → ∀ s53 : MS, m_x12_setsEntry (b : Int) r (kM q46.2 b r.toNat) q46.1 q46.2 = some s53 → pc (m_x12_puts_J162 (m_x12_puts_L94 m) key val (b : Int) r q46.1 s53) Q)) : pc (m_x12_puts_L94 (m + 1) key val (b : Int) T) Q := by
  have tb : ((b : Nat) : Int).toNat = b := Int.toNat_natCast _
  show pc (m_x12_puts_b94 (m_x12_puts_L94 m) key val (b : Int) T) Q
  unfold m_x12_puts_b94
  refine pc_rg (pc_if (fun _ => pc_bq (m_lev (by omega)) (fun r37 h37 => ?_)) (fun c => absurd h55 c))
  rw [tb] at h37
  refine pc_rg (pc_if (fun c => absurd c (by omega)) (fun _ => pc_bq (m_placeFor (by omega) (by rw [tb]; exact hz.2)) (fun r41 h41 => ?_)))
  rw [tb] at h41
  have r0 := h41.1
  have r1 := h41.2.1
  refine pc_bq (m_val (by omega) ⟨r0, by omega⟩) (fun r43 h43 => ?_)
  rw [tb] at h43
  rw [h43]
  refine pc_bn (fun q46 e46 => ?_)
  have k := K r41 q46 h41 e46
  refine pc_rg (pc_rg (pc_if (fun c => k.1 c) (fun c => pc_bq (m_key (by omega) ⟨r0, by omega⟩) (fun r51 h51 => ?_))))
  rw [tb] at h51
  rw [h51]
  exact pc_bn (fun s53 e53 => k.2 c s53 e53)
