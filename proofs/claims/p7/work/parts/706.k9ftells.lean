/-! ===== which KEY tells most, on both sides ===== -/
def tdv (t : MS) (key : Int) (v : Nat) : Int := (m_x12_toldOf (v : Int) key t).getD 0
set_option maxHeartbeats 250000 in theorem m_td {t : MS} {key : Int} {v : Nat} : pc (m_x12_toldOf (v : Int) key t) (fun r => r = tdv t key v) := fun r e => by
  unfold tdv
  rw [e]
  rfl
set_option maxHeartbeats 250000 in theorem f01v (t : MS) (v : Nat) : fitv t v = 0 ∨ fitv t v = 1 := by
  unfold fitv
  split
  · exact Or.inl rfl
  · exact Or.inr rfl
set_option maxHeartbeats 250000 in theorem fs_mo (t : MS) {u v : Nat} (h : u ≤ v) : sm u (fitv t) ≤ sm v (fitv t) := sm_mo h (fun k _ => by rcases f01v t k with w | w <;> omega)
set_option maxHeartbeats 250000 in theorem fs_nn (t : MS) (u : Nat) : 0 ≤ sm u (fitv t) := sm_nn (fun k _ => by rcases f01v t k with w | w <;> omega)
/- the next one that fits -/
set_option maxHeartbeats 250000 in theorem nextfit {t : MS} : ∀ (d u : Nat), u + d = 8 → sm u (fitv t) < sm 8 (fitv t) → ∃ v, u ≤ v ∧ v < 8 ∧ fitv t v = 1 ∧ sm v (fitv t) = sm u (fitv t) := by
  intro d
  induction d with
  | zero =>
    intro u hu h
    rw [show u = 8 by omega] at h
    exact absurd h (by omega)
  | succ d ih =>
    intro u hu h
    rcases f01v t u with w | w
    · have st : sm (u + 1) (fitv t) = sm u (fitv t) + fitv t u := rfl
      obtain ⟨v, h1, h2, h3, h4⟩ := ih (u + 1) (by omega) (by omega)
      exact ⟨v, by omega, h2, h3, by omega⟩
    · exact ⟨u, Nat.le_refl u, by omega, w, rfl⟩
/- nothing that fits lies between -/
set_option maxHeartbeats 250000 in theorem sup_eq {t : MS} {F : Nat → Int} (hF : ∀ w, fitv t w = 0 → F w = 0) {u v : Nat} (h : u ≤ v) (e : sm v (fitv t) = sm u (fitv t)) : sm v F = sm u F := by
  obtain ⟨b, hb⟩ : ∃ b, v = u + b := ⟨v - u, by omega⟩
  rw [hb, sm_app] at e
  rw [hb, sm_app]
  have z := sm_z (n := b) (f := fun j => fitv t (u + j)) (fun i _ => by
    show 0 ≤ fitv t (u + i)
    rcases f01v t (u + i) with w | w <;> omega) (by omega)
  have z2 : sm b (fun j => F (u + j)) = 0 := sm_0 (fun i hi => hF (u + i) (z i hi))
  omega
def FCt (t : MS) (key : Int) (n v : Nat) : Int := sm n (fun w => if fitv t w = 1 ∧ tdv t key w = tdv t key v then 1 else 0)
set_option maxHeartbeats 250000 in theorem FC_nn (t : MS) (key : Int) (n v : Nat) : 0 ≤ FCt t key n v := sm_nn (fun w _ => by
  show (0 : Int) ≤ if fitv t w = 1 ∧ tdv t key w = tdv t key v then 1 else 0
  split <;> decide)
set_option maxHeartbeats 250000 in theorem FC_le (t : MS) (key : Int) (n v : Nat) : FCt t key n v ≤ (n : Int) := by
  have := sm_bd (n := n) (f := fun w => if fitv t w = 1 ∧ tdv t key w = tdv t key v then (1 : Int) else 0) (c := 1) (fun w _ => by
    show (if fitv t w = 1 ∧ tdv t key w = tdv t key v then (1 : Int) else 0) ≤ 1
    split <;> decide)
  unfold FCt
  omega
set_option maxHeartbeats 250000 in theorem FC_e {t : MS} {key : Int} {n u v : Nat} (e : tdv t key u = tdv t key v) : FCt t key n u = FCt t key n v := by
  unfold FCt
  rw [e]
set_option maxHeartbeats 250000 in theorem m_mostA {t : MS} {key : Int} : pc (m_x12_mostAlike key t) (fun r => (∀ v, v < 8 → fitv t v = 1 → FCt t key 8 v ≤ r) ∧ (r = 0 ∨ ∃ v, v < 8 ∧ fitv t v = 1 ∧ r = FCt t key 8 v) ∧ 0 ≤ r) := by
  have L4 : ∀ (n v : Nat) (c : Int), v ≤ 8 → (∀ u, u < v → fitv t u = 1 → FCt t key 8 u ≤ c) → (c = 0 ∨ ∃ u, u < 8 ∧ fitv t u = 1 ∧ c = FCt t key 8 u) → 0 ≤ c → pc (m_x12_mostAlike_L4 t n key c (v : Int)) (fun r => (∀ v, v < 8 → fitv t v = 1 → FCt t key 8 v ≤ r) ∧ (r = 0 ∨ ∃ v, v < 8 ∧ fitv t v = 1 ∧ r = FCt t key 8 v) ∧ 0 ≤ r) := by
    refine fr_ind (fun _ _ _ _ _ _ => pc_none) (fun n ih v c hv h1 h2 h3 => ?_)
    show pc (m_x12_mostAlike_b4 t (m_x12_mostAlike_L4 t n) key c (v : Int)) _
    unfold m_x12_mostAlike_b4
    have nat1 : (v : Int) + 1 = ((v + 1 : Nat) : Int) := by omega
    refine pc_rg (pc_if (fun c8 => pc_some ⟨fun u hu hf => h1 u (by omega) hf, h2, h3⟩) (fun c8 => pc_bq m_fitv (fun r36 h36 => pc_rg (pc_if (fun c2 => ?_) (fun c2 => ?_)))))
    · unfold m_x12_mostAlike_J77
      rw [nat1]
      refine ih (v + 1) c (by omega) (fun u hu hf => ?_) h2 h3
      by_cases z : u = v
      · rw [z, h36.1 c2] at hf; exact absurd hf (by decide)
      · exact h1 u (by omega) hf
    · have fv := h36.2 c2
      have L27 : ∀ (m w : Nat) (k : Int), w ≤ 8 → k = FCt t key w v → pc (m_x12_mostAlike_L27 t (m_x12_mostAlike_L4 t n) m key c (v : Int) k (w : Int)) (fun r => (∀ v, v < 8 → fitv t v = 1 → FCt t key 8 v ≤ r) ∧ (r = 0 ∨ ∃ v, v < 8 ∧ fitv t v = 1 ∧ r = FCt t key 8 v) ∧ 0 ≤ r) := by
        refine fr_ind (fun _ _ _ _ => pc_none) (fun m ih2 w k hw hk => ?_)
        show pc (m_x12_mostAlike_b27 t (m_x12_mostAlike_L4 t n) (m_x12_mostAlike_L27 t (m_x12_mostAlike_L4 t n) m) key c (v : Int) k (w : Int)) _
        unfold m_x12_mostAlike_b27 m_x12_mostAlike_J77 m_x12_mostAlike_J62
        have nat2 : (w : Int) + 1 = ((w + 1 : Nat) : Int) := by omega
        have st : FCt t key (w + 1) v = FCt t key w v + (if fitv t w = 1 ∧ tdv t key w = tdv t key v then 1 else 0) := rfl
        refine pc_rg (pc_if (fun d8 => ?_) (fun d8 => pc_bq m_fitv (fun r23 h23 => pc_rg (pc_if (fun d2 => ?_) (fun d2 => pc_bq m_td (fun r27 h27 => pc_bq m_td (fun r29 h29 => pc_rg (pc_rg (pc_if (fun d3 => ?_) (fun d3 => ?_))))))))))
        · rw [show w = 8 by omega] at hk
          rw [nat1]
          refine pc_rg (pc_rg (pc_if (fun d9 => ih (v + 1) c (by omega) (fun u hu hf => ?_) h2 h3) (fun d9 => ih (v + 1) k (by omega) (fun u hu hf => ?_) (Or.inr ⟨v, by omega, fv, hk⟩) (by omega))))
          · by_cases z : u = v
            · rw [z]; omega
            · exact h1 u (by omega) hf
          · by_cases z : u = v
            · rw [z]; omega
            · have := h1 u (by omega) hf
              omega
        · rw [nat2]
          refine ih2 (w + 1) k (by omega) ?_
          rw [st, if_neg (fun u => by rw [h23.1 d2] at u; exact absurd u.1 (by decide)), hk]; omega
        · rw [nat2]
          refine ih2 (w + 1) (k + 1) (by omega) ?_
          rw [st, if_pos ⟨h23.2 d2, h27.symm.trans (d3.trans h29)⟩, hk]
        · rw [nat2]
          refine ih2 (w + 1) k (by omega) ?_
          rw [st, if_neg (fun u => d3 (h27.trans (u.2.trans h29.symm))), hk]; omega
      exact L27 FU 0 0 (by decide) rfl
  unfold m_x12_mostAlike
  exact L4 FU 0 0 (by decide) (fun u hu => absurd hu (by omega)) (Or.inl rfl) (Int.le_refl 0)
/- the class counts up to each one only: its greatest is the same -/
set_option maxHeartbeats 250000 in theorem FC_last {t : MS} {key : Int} : ∀ (d v : Nat), v + d = 7 → fitv t v = 1 → ∃ u, u < 8 ∧ fitv t u = 1 ∧ FCt t key (u + 1) u = FCt t key 8 v := by
  intro d
  induction d using Nat.strongRecOn with
  | ind d ih =>
    intro v hv hf
    by_cases z : ∃ w, v < w ∧ w < 8 ∧ fitv t w = 1 ∧ tdv t key w = tdv t key v
    · obtain ⟨w, h1, h2, h3, h4⟩ := z
      obtain ⟨u, g1, g2, g3⟩ := ih (7 - w) (by omega) w (by omega) h3
      exact ⟨u, g1, g2, g3.trans (FC_e h4)⟩
    · refine ⟨v, by omega, hf, ?_⟩
      unfold FCt
      rw [show (8 : Nat) = (v + 1) + d by omega, sm_app]
      have z0 : sm d (fun j => (fun w => if fitv t w = 1 ∧ tdv t key w = tdv t key v then (1 : Int) else 0) (v + 1 + j)) = 0 := sm_0 (fun j hj => if_neg (fun u => z ⟨v + 1 + j, by omega, by omega, u.1, u.2⟩))
      omega
set_option maxHeartbeats 1000000 in
theorem s_mostL {x t : MS} {ts : List MS} {key : Int} (hR : Rr t) (hJ : JI t) (B : BT x ts t) (h47 : gI t 47 = gI x 12) (ht : gI x 12 ≠ 0) (hk2 : R2 key) (S0 : MS) (kI : ∀ k, k ≠ 224 → gI S0 k = gI x k) (kA : ∀ k, k ≠ 14 → k ≠ 15 → gA S0 k = gA x k) (h224 : gI S0 224 = sm 8 (fitv t)) (h14 : ∀ v : Nat, v < 8 → fitv t v = 1 → gA S0 14 (sm v (fitv t)).toNat = (v : Int)) : pc (m_x7_mostLeft key S0) (fun q => ((∀ v, v < 8 → fitv t v = 1 → FCt t key (v + 1) v ≤ q.1) ∧ (q.1 = 0 ∨ ∃ v, v < 8 ∧ fitv t v = 1 ∧ q.1 = FCt t key (v + 1) v) ∧ 0 ≤ q.1 ∧ q.1 ≤ 8) ∧ (∀ k, gI q.2 k = gI S0 k) ∧ ∀ k, k ≠ 15 → gA q.2 k = gA S0 k) := by
  have RD : ∀ (v : Nat) (X : MS), v < 8 → (∀ k, k ≠ 224 → gI X k = gI x k) → (∀ k, k ≠ 14 → k ≠ 15 → gA X k = gA x k) → pc (m_x7_reading (v : Int) key X) (fun r => r = tdv t key v) := fun v X hv gi ga => by
    have BX : BT X ts t := BT_n B ⟨fun k hk => gi k (by omega), fun k hk => ga k (by omega) (by omega)⟩ (ZY_rf t) (gi 983 (by decide)) (ga 2 (by decide) (by decide)) rfl rfl
    refine pc_mono (y_told1 hJ BX (h47.trans (gi 12 (by decide)).symm) (by rw [gi 12 (by decide)]; exact ht) hv) (fun r hr => ?_)
    have G := JI_GA hJ (by rw [h47]; exact ht)
    obtain ⟨q, eq, _⟩ := w_x12_toldOf hR (p0 := (v : Int)) (p1 := key) ⟨by omega, by omega⟩ hk2 G.1.1.1 (by rw [Int.toNat_natCast]; have := G.1.1.2 v (by omega); omega)
    rw [hr q eq]
    exact m_td q eq
  have hF : ∀ v w, fitv t w = 0 → (fun w => if fitv t w = 1 ∧ tdv t key w = tdv t key v then (1 : Int) else 0) w = 0 := fun v w h => if_neg (fun u => by rw [h] at u; exact absurd u.1 (by decide))
  have L5 : ∀ (n v : Nat) (c : Int) (S : MS), v ≤ 8 → (∀ k, gI S k = gI S0 k) → (∀ k, k ≠ 15 → gA S k = gA S0 k) → (∀ u, u < v → fitv t u = 1 → gA S 15 (sm u (fitv t)).toNat = tdv t key u) → (∀ u, u < v → fitv t u = 1 → FCt t key (u + 1) u ≤ c) → (c = 0 ∨ ∃ u, u < 8 ∧ fitv t u = 1 ∧ c = FCt t key (u + 1) u) → (0 ≤ c ∧ c ≤ 8) → pc (m_x7_mostLeft_L5 n key c (sm v (fitv t)) S) (fun q => ((∀ v, v < 8 → fitv t v = 1 → FCt t key (v + 1) v ≤ q.1) ∧ (q.1 = 0 ∨ ∃ v, v < 8 ∧ fitv t v = 1 ∧ q.1 = FCt t key (v + 1) v) ∧ 0 ≤ q.1 ∧ q.1 ≤ 8) ∧ (∀ k, gI q.2 k = gI S0 k) ∧ ∀ k, k ≠ 15 → gA q.2 k = gA S0 k) := by
    refine fr_ind (fun _ _ _ _ _ _ _ _ _ _ => pc_none) (fun n ih v c S hv sI' sA' h15 h1 h2 h3 => ?_)
    show pc (m_x7_mostLeft_b5 (m_x7_mostLeft_L5 n) key c (sm v (fitv t)) S) _
    unfold m_x7_mostLeft_b5
    rw [sI' 224, h224]
    refine pc_rg (pc_rg (pc_if (fun c8 => pc_some ⟨⟨fun u hu hf => ?_, h2, h3.1, h3.2⟩, sI', sA'⟩) (fun c8 => pc_rdI (fun _ => ?_))))
    · by_cases z : u < v
      · exact h1 u z hf
      · -- no one fits behind
        exfalso
        have m1 := fs_mo t (u := v) (v := u) (by omega)
        have m2 := fs_mo t (u := u + 1) (v := 8) (by omega)
        have st : sm (u + 1) (fitv t) = sm u (fitv t) + fitv t u := rfl
        omega
    obtain ⟨v', g1, g2, g3, g4⟩ := nextfit (t := t) (8 - v) v (by omega) (by omega)
    rw [← g4]
    have e14 : gA S 14 (sm v' (fitv t)).toNat = (v' : Int) := by rw [sA' 14 (by decide)]; exact h14 v' g2 g3
    rw [e14]
    refine pc_bq (RD v' S g2 (fun k hk => (sI' k).trans (kI k hk)) (fun k k1 k2 => (sA' k k2).trans (kA k k1 k2))) (fun r33 h33 => pc_inb (pc_stn (fun s35 e35 => ?_)))
    have u15 : gA s35 15 = upZ (gA S 15) (sm v' (fitv t)).toNat r33 := q_AA e35
    have i35 : ∀ k, gI s35 k = gI S0 k := fun k => (q_Ai e35).trans (sI' k)
    have a35 : ∀ k, k ≠ 15 → gA s35 k = gA S0 k := fun k hk => (q_Aa e35 hk).trans (sA' k hk)
    have st : sm (v' + 1) (fitv t) = sm v' (fitv t) + fitv t v' := rfl
    have r15 : ∀ u, u < v' + 1 → fitv t u = 1 → gA s35 15 (sm u (fitv t)).toNat = tdv t key u := fun u hu hf => by
      rw [u15]
      by_cases z : u = v'
      · rw [z, upZ_s]; exact h33
      · have ul : u < v := by
          by_cases y : u < v
          · exact y
          · exfalso
            have m1 := fs_mo t (u := v) (v := u) (by omega)
            have m2 := fs_mo t (u := u + 1) (v := v') (by omega)
            have st2 : sm (u + 1) (fitv t) = sm u (fitv t) + fitv t u := rfl
            omega
        have m2 := fs_mo t (u := u + 1) (v := v') (by omega)
        have st2 : sm (u + 1) (fitv t) = sm u (fitv t) + fitv t u := rfl
        have n0 := fs_nn t u
        rw [upZ_n (by omega)]
        exact h15 u ul hf
    -- how many up to this one are alike
    have L39 : ∀ (m u : Nat) (k : Int), u ≤ 8 → sm u (fitv t) ≤ sm v' (fitv t) + 1 → k = FCt t key u v' → pc (m_x7_mostLeft_L39 (m_x7_mostLeft_L5 n) m key c (sm v' (fitv t)) k (sm u (fitv t)) s35) (fun q => ((∀ v, v < 8 → fitv t v = 1 → FCt t key (v + 1) v ≤ q.1) ∧ (q.1 = 0 ∨ ∃ v, v < 8 ∧ fitv t v = 1 ∧ q.1 = FCt t key (v + 1) v) ∧ 0 ≤ q.1 ∧ q.1 ≤ 8) ∧ (∀ k, gI q.2 k = gI S0 k) ∧ ∀ k, k ≠ 15 → gA q.2 k = gA S0 k) := by
      refine fr_ind (fun _ _ _ _ _ => pc_none) (fun m ih2 u k hu hle hk => ?_)
      show pc (m_x7_mostLeft_b39 (m_x7_mostLeft_L5 n) (m_x7_mostLeft_L39 (m_x7_mostLeft_L5 n) m) key c (sm v' (fitv t)) k (sm u (fitv t)) s35) _
      unfold m_x7_mostLeft_b39 m_x7_mostLeft_J70
      refine pc_rg (pc_rg (pc_if (fun d => pc_rg (pc_rg ?_)) (fun d => ?_)))
      · -- all of them were held against it
        have eS : sm u (fitv t) = sm (v' + 1) (fitv t) := by omega
        have eF : k = FCt t key (v' + 1) v' := by
          rw [hk]
          unfold FCt
          rcases Nat.le_total u (v' + 1) with y | y
          · exact (sup_eq (hF v') y eS.symm).symm
          · exact sup_eq (hF v') y eS
        have kb := FC_le t key (v' + 1) v'
        have kn := FC_nn t key (v' + 1) v'
        have eN : sm v' (fitv t) + 1 = sm (v' + 1) (fitv t) := by omega
        have mx : (maxZ c k = c ∧ k ≤ c) ∨ (maxZ c k = k ∧ c < k) := by
          unfold maxZ
          by_cases y : c < k
          · rw [if_pos y]; exact Or.inr ⟨rfl, y⟩
          · rw [if_neg y]; exact Or.inl ⟨rfl, by omega⟩
        rw [eN]
        refine ih (v' + 1) (maxZ c k) s35 (by omega) i35 a35 r15 (fun w hw hf => ?_) ?_ (by omega)
        · have wl : w = v' ∨ w < v := by
            by_cases y : w = v'
            · exact Or.inl y
            · refine Or.inr ?_
              by_cases y2 : w < v
              · exact y2
              · exfalso
                have m1 := fs_mo t (u := v) (v := w) (by omega)
                have m2 := fs_mo t (u := w + 1) (v := v') (by omega)
                have st2 : sm (w + 1) (fitv t) = sm w (fitv t) + fitv t w := rfl
                omega
          rcases wl with y | y
          · rw [y, ← eF]; omega
          · have := h1 w y hf
            omega
        · rcases mx with ⟨y, _⟩ | ⟨y, _⟩
          · rw [y]; exact h2
          · rw [y]; exact Or.inr ⟨v', g2, g3, eF⟩
      · obtain ⟨u', f1, f2, f3, f4⟩ := nextfit (t := t) (8 - u) u (by omega) (by
          have m2 := fs_mo t (u := v' + 1) (v := 8) (by omega)
          omega)
        have ule : u' < v' + 1 := by
          by_cases y : u' < v' + 1
          · exact y
          · exfalso
            have m2 := fs_mo t (u := v' + 1) (v := u') (by omega)
            omega
        refine pc_rdI (fun _ => pc_rdI (fun _ => ?_))
        rw [← f4, r15 u' ule f3, r15 v' (by omega) g3]
        have st2 : sm (u' + 1) (fitv t) = sm u' (fitv t) + fitv t u' := rfl
        have eN : sm u' (fitv t) + 1 = sm (u' + 1) (fitv t) := by omega
        have eU : FCt t key u' v' = FCt t key u v' := sup_eq (hF v') f1 f4
        have sF : FCt t key (u' + 1) v' = FCt t key u' v' + (if fitv t u' = 1 ∧ tdv t key u' = tdv t key v' then 1 else 0) := rfl
        rw [eN]
        refine pc_rg (pc_rg (pc_if (fun y => ih2 (u' + 1) (k + 1) (by omega) (by omega) ?_) (fun y => ?_)))
        · rw [sF, if_pos ⟨f3, y⟩, eU, hk]
        · rw [show k + 0 = FCt t key (u' + 1) v' by rw [sF, if_neg (fun z => y z.2), eU, hk]]
          exact ih2 (u' + 1) _ (by omega) (by omega) rfl
    have z0 : sm 0 (fitv t) = 0 := rfl
    have R := L39 FU 0 0 (by decide) (by have := fs_nn t v'; omega) rfl
    rw [z0] at R
    exact R
  unfold m_x7_mostLeft
  exact L5 FU 0 0 S0 (by decide) (fun _ => rfl) (fun _ _ => rfl) (fun u hu => absurd hu (by omega)) (fun u hu => absurd hu (by omega)) (Or.inl rfl) (by decide)
set_option maxHeartbeats 250000 in theorem y_most {t : MS} {key a b : Int} (ha : (∀ v, v < 8 → fitv t v = 1 → FCt t key (v + 1) v ≤ a) ∧ (a = 0 ∨ ∃ v, v < 8 ∧ fitv t v = 1 ∧ a = FCt t key (v + 1) v) ∧ 0 ≤ a ∧ a ≤ 8) (hb : (∀ v, v < 8 → fitv t v = 1 → FCt t key 8 v ≤ b) ∧ (b = 0 ∨ ∃ v, v < 8 ∧ fitv t v = 1 ∧ b = FCt t key 8 v) ∧ 0 ≤ b) : a = b := by
  have mono : ∀ v, v < 8 → FCt t key (v + 1) v ≤ FCt t key 8 v := fun v hv => sm_mo (by omega) (fun w _ => by
    show (0 : Int) ≤ if fitv t w = 1 ∧ tdv t key w = tdv t key v then 1 else 0
    split <;> decide)
  have l1 : a ≤ b := by
    rcases ha.2.1 with w | ⟨v, v8, fv, e⟩
    · have := hb.2.2; omega
    · have m1 := mono v v8
      have m2 := hb.1 v v8 fv
      omega
  have l2 : b ≤ a := by
    rcases hb.2.1 with w | ⟨v, v8, fv, e⟩
    · have := ha.2.2.1; omega
    · obtain ⟨u, u8, fu, eu⟩ := FC_last (t := t) (key := key) (7 - v) v (by omega) fv
      have m2 := ha.1 u u8 fu
      omega
  omega
/- TELLS -/
set_option maxHeartbeats 250000 in theorem y_tells {x t : MS} {ts : List MS} {p : Int} (hC : CI x ts) (hR : Rr t) (hJ : JI t) (B : BT x ts t) (h47 : gI t 47 = gI x 12) (G : SGT x t) : pc (m_x11_tells p x) (fun q => pc (m_x12_tells p t) (fun r => q.1 = r)) := by
  have V := BT_V B hC h47
  unfold m_x11_tells
  refine pc_bn (fun q23 e23 => ?_)
  obtain ⟨a1, a2, a3⟩ := s_findFits hJ B h47 V G hR q23 e23
  have F : F_x7_findFits x q23.2 := fr_x7_findFits e23
  have kI : ∀ k, k ≠ 224 → gI q23.2 k = gI x k := fun k hk => F.1 k (by simp; omega)
  have kA : ∀ k, k ≠ 14 → gA q23.2 k = gA x k := fun k hk => F.2.1 k (by simp; omega)
  -- the reference ahead of its loop
  have FITS : pc (m_x12_fits (-1) t) (fun r => r = sm 8 (fitv t)) := by
    have L : ∀ (n v : Nat) (c : Int), v ≤ 8 → c = sm v (fitv t) → pc (m_x12_fits_L11 t n (-1) c (v : Int)) (fun r => r = sm 8 (fitv t)) := by
      refine fr_ind (fun _ _ _ _ => pc_none) (fun n ih v c hv hc => ?_)
      show pc (m_x12_fits_b11 t (m_x12_fits_L11 t n) (-1) c (v : Int)) _
      unfold m_x12_fits_b11 m_x12_fits_J54 m_x12_fits_J38
      have nat1 : (v : Int) + 1 = ((v + 1 : Nat) : Int) := by omega
      have st : sm (v + 1) (fitv t) = sm v (fitv t) + fitv t v := rfl
      have n0 := fs_nn t v
      refine pc_rg (pc_if (fun c8 => pc_rg (pc_if (fun _ => pc_some ?_) (fun d => absurd rfl d))) (fun c8 => pc_bq m_fitv (fun r13 h13 => pc_rg (pc_if (fun c2 => ?_) (fun c2 => pc_rg (pc_rg (pc_if (fun c3 => absurd c3 (by omega)) (fun _ => ?_))))))))
      · rw [hc, show v = 8 by omega]
      · rw [nat1]; exact ih (v + 1) c (by omega) (by rw [st, h13.1 c2, hc]; omega)
      · rw [nat1]; exact ih (v + 1) (c + 1) (by omega) (by rw [st, h13.2 c2, hc])
    unfold m_x12_fits
    exact pc_rg (pc_if (fun _ => L FU 0 0 (by decide) rfl) (fun d => absurd (Int.le_refl _) d))
  have REF : ∀ Q : Int → Prop, (¬ (0 ≤ p ∧ p ≤ 1) → Q (-1)) → (0 ≤ p ∧ p ≤ 1 → (sm 8 (fitv t) = 0 → Q (-1)) ∧ (sm 8 (fitv t) ≠ 0 → pc (m_x12_tells_L27 t FU p (-1) (-1) 0) Q)) → pc (m_x12_tells p t) Q := fun Q k1 k2 => by
    unfold m_x12_tells m_x12_tells_J18
    refine pc_rg (pc_bn (fun r26 e26 => pc_rg (pc_if (fun c => pc_some (k1 ?_)) (fun c => pc_bq FITS (fun r30 h30 => ?_)))))
    · rcases m_isIn r26 e26 with ⟨u, _⟩ | ⟨_, u⟩
      · exact absurd c (by omega)
      · exact u
    · have i : 0 ≤ p ∧ p ≤ 1 := by
        rcases m_isIn r26 e26 with ⟨_, u⟩ | ⟨u, _⟩
        · exact u
        · exact absurd u c
      exact pc_rg (pc_if (fun d => pc_some ((k2 i).1 (h30.symm.trans d))) (fun d => (k2 i).2 (fun w => d (h30.trans w))))
  refine pc_rg (pc_if (fun c => pc_some (REF _ (fun _ => rfl) (fun _ => ⟨fun _ => rfl, fun d => absurd (a1.symm.trans c) d⟩))) (fun c => ?_))
  have zt : gI x 12 ≠ 0 := fun z => by
    have n0 : ∀ v, v < 8 → fitv t v = 0 := fun v hv => by
      obtain ⟨w, ew, _⟩ := w_x12_doesFit hR (p0 := (v : Int)) (by show (-2147483648 : Int) ≤ (v : Int) ∧ (v : Int) ≤ 2147483647; omega) hJ
      have g : pc (m_x12_doesFit (v : Int) t) (fun q => q = 0) := by
        unfold m_x12_doesFit
        refine pc_rg (pc_bn (fun r15 e15 => pc_rg (pc_if (fun _ => pc_some rfl) (fun d => ?_))))
        exact absurd (h47.trans z) (mVol_y e15 d).2.1
      exact (m_fitv w ew).1 (g w ew)
    exact c (a1.trans (sm_0 n0))
  have n8 : sm 8 (fitv t) ≠ 0 := fun z => c (a1.trans z)
  -- key by key
  have L : 0 ≤ p ∧ p ≤ 1 → ∀ (n m : Nat) (b v i b' v' : Int) (S : MS), (0 ≤ i ∧ ((i = 0 ∧ v = 9 ∧ b' = -1) ∨ (0 < i ∧ b = b' ∧ v = v' ∧ 0 ≤ b'))) → (∀ k, gI S k = gI q23.2 k) → (∀ k, k ≠ 15 → gA S k = gA q23.2 k) → pc (m_x11_tells_L27 n p b v i S) (fun q => pc (m_x12_tells_L27 t m p b' v' i) (fun r => q.1 = r)) := by
    intro hp
    refine fr_ind (fun _ _ _ _ _ _ _ _ _ _ => pc_none) (fun n ih m b v i b' v' S hI gi ga => ?_)
    cases m with
    | zero => exact fun q _ => pc_none
    | succ m =>
      have RF : ∀ Q : Int → Prop, (100 ≤ i → (p = 0 → Q b') ∧ (p ≠ 0 → Q v')) → (¬ 100 ≤ i → pc (m_x12_mostAlike i t) (fun r => (b' = -1 ∨ r < v' → pc (m_x12_tells_L27 t m p i r (i + 1)) Q) ∧ (¬ (b' = -1 ∨ r < v') → pc (m_x12_tells_L27 t m p b' v' (i + 1)) Q))) → pc (m_x12_tells_L27 t (m + 1) p b' v' i) Q := fun Q k1 k2 => by
        show pc (m_x12_tells_b27 t (m_x12_tells_L27 t m) p b' v' i) Q
        unfold m_x12_tells_b27 m_x12_tells_J77 m_x12_tells_J56 m_x12_tells_J62
        exact pc_rg (pc_if (fun d => pc_rg (pc_if (fun y => pc_some ((k1 d).1 y)) (fun y => pc_some ((k1 d).2 y)))) (fun d => pc_bq (k2 d) (fun r hr => pc_rg (pc_if (fun y => hr.1 (Or.inl y)) (fun y => pc_rg (pc_rg (pc_if (fun y2 => hr.1 (Or.inr y2)) (fun y2 => hr.2 (fun w => w.elim y y2)))))))))
      show pc (m_x11_tells_b27 (m_x11_tells_L27 n) p b v i S) _
      unfold m_x11_tells_b27 m_x11_tells_J64
      refine pc_rg (pc_if (fun d => ?_) (fun d => ?_))
      · have ONE : pc (m_x11_oneOf p b v S) (fun r => (p = 0 → r = b) ∧ (p = 1 → r = v)) := by
          unfold m_x11_oneOf m_x11_oneOf_J16
          exact pc_rg (pc_if (fun z => pc_some ⟨fun _ => rfl, fun w => absurd (z.symm.trans w) (by decide)⟩) (fun z => pc_rg (pc_if (fun z2 => pc_some ⟨fun w => absurd w z, fun _ => rfl⟩) (fun z2 => pc_some ⟨fun w => absurd w z, fun w => absurd w z2⟩))))
        refine pc_bq ONE (fun r14 h14' => pc_some (RF _ (fun _ => ⟨fun y => ?_, fun y => ?_⟩) (fun w => absurd d w)))
        · have := h14'.1 y
          omega
        · have := h14'.2 (by omega)
          omega
      · have M := s_mostL (key := i) hR hJ B h47 zt (by show (-2147483648 : Int) ≤ i ∧ i ≤ 2147483647; omega) S (fun k hk => (gi k).trans (kI k hk)) (fun k k1 k2 => (ga k k2).trans (kA k k1)) ((gi 224).trans a2) (fun v hv hf => by rw [ga 14 (by decide)]; exact a3 v hv hf)
        refine pc_bq M (fun q17 h17 => ?_)
        obtain ⟨hm, i17, a17⟩ := h17
        have gi' : ∀ k, gI q17.2 k = gI q23.2 k := fun k => (i17 k).trans (gi k)
        have ga' : ∀ k, k ≠ 15 → gA q17.2 k = gA q23.2 k := fun k hk => (a17 k hk).trans (ga k hk)
        have MA : pc (m_x12_mostAlike i t) (fun r => q17.1 = r) := pc_mono m_mostA (fun r hr => y_most hm hr)
        refine pc_rg (pc_rg (pc_if (fun y => fun q eq => RF _ (fun w => absurd w d) (fun _ => pc_mono MA (fun r hr => ⟨fun w => ?_, fun w => ?_⟩))) (fun y => fun q eq => RF _ (fun w => absurd w d) (fun _ => pc_mono MA (fun r hr => ⟨fun w => ?_, fun w => ?_⟩)))))
        · exfalso
          have := hm.2.2.2
          omega
        · exact ih m b v (i + 1) b' v' q17.2 (by omega) gi' ga' q eq
        · rw [← hr]
          exact ih m i q17.1 (i + 1) i q17.1 q17.2 (by omega) gi' ga' q eq
        · exfalso
          have := hm.2.2.2
          omega
  by_cases hp : 0 ≤ p ∧ p ≤ 1
  · exact fun q eq => REF _ (fun d => absurd hp d) (fun _ => ⟨fun z => absurd z n8, fun _ => L hp FU FU 0 9 0 (-1) (-1) q23.2 (by omega) (fun _ => rfl) (fun _ _ => rfl) q eq⟩)
  · have D : ∀ (n : Nat) (b v i : Int) (S : MS), pc (m_x11_tells_L27 n p b v i S) (fun q => q.1 = -1) := by
      refine fr_ind (fun _ _ _ _ => pc_none) (fun n ih b v i S => ?_)
      show pc (m_x11_tells_b27 (m_x11_tells_L27 n) p b v i S) _
      unfold m_x11_tells_b27 m_x11_tells_J64
      have ONE : pc (m_x11_oneOf p b v S) (fun r => r = -1) := by
        unfold m_x11_oneOf m_x11_oneOf_J16
        exact pc_rg (pc_if (fun z => absurd ⟨by omega, by omega⟩ hp) (fun _ => pc_rg (pc_if (fun z => absurd ⟨by omega, by omega⟩ hp) (fun _ => pc_some rfl))))
      exact pc_rg (pc_if (fun _ => pc_bq ONE (fun r h => pc_some h)) (fun _ => pc_bn (fun q17 _ => pc_rg (pc_rg (pc_if (fun _ => ih _ _ _ _) (fun _ => ih _ _ _ _))))))
    refine pc_mono (D FU 0 9 0 q23.2) (fun q hq => REF _ (fun _ => hq) (fun d => absurd d hp))
/-! ===== which BLOCKS two VOLUMES share ===== -/
/- what lies under a BLOCK, as the reference names it -/
def NDm (t : MS) (c : Int) (y : Nat) : Prop := ndP (hM t) ((hM t).1 c.toNat).toNat c.toNat y
set_option maxHeartbeats 250000 in theorem m_markL {t : MS} (hK : KLV t) : ∀ (n w : Nat) (S : MS), gA S 49 = gA t 49 → (∀ j, j < w → ∃ c : Nat, gA S 62 j = (c : Int) ∧ c < 48 ∧ LV t c) → pc (m_x12_laysTree_L48 n (w : Int) S) (fun o => ∀ y, y < 48 → (gA o 63 y ≠ 0 ↔ (gA S 63 y ≠ 0 ∨ ∃ j, j < w ∧ NDm t (gA S 62 j) y))) := by
  refine fr_ind (fun _ _ _ _ => pc_none) (fun n ih w S x49 hst => ?_)
  show pc (m_x12_laysTree_b48 (m_x12_laysTree_L48 n) (w : Int) S) _
  unfold m_x12_laysTree_b48
  cases w with
  | zero =>
    refine pc_rg (pc_if (fun _ => pc_some (fun y _ => ?_)) (fun c => absurd (by omega) c))
    exact ⟨Or.inl, fun h => h.elim id (fun ⟨j, hj, _⟩ => absurd hj (by omega))⟩
  | succ w' =>
    refine pc_rg (pc_if (fun c => absurd c (by omega)) (fun _ => ?_))
    obtain ⟨b, eb, b48, lb⟩ := hst w' (by omega)
    have tb : ((b : Nat) : Int).toNat = b := Int.toNat_natCast _
    have Kb := hK.2.1 b b48 lb
    have sz := Kb.1.1.2.1
    have lv0 := Kb.1.1.1
    rw [show ((w' + 1 : Nat) : Int) + (-1) = (w' : Int) by omega]
    refine pc_rdI (fun _ => ?_)
    rw [Int.toNat_natCast, eb]
    have TOP : ∀ y : Nat, (∃ j, j < w' + 1 ∧ NDm t (gA S 62 j) y) ↔ (NDm t (b : Int) y ∨ ∃ j, j < w' ∧ NDm t (gA S 62 j) y) := fun y => by
      constructor
      · rintro ⟨j, hj, h⟩
        by_cases z : j = w'
        · rw [z, eb] at h; exact Or.inl h
        · exact Or.inr ⟨j, by omega, h⟩
      · rintro (h | ⟨j, hj, h⟩)
        · exact ⟨w', by omega, by rw [eb]; exact h⟩
        · exact ⟨j, by omega, h⟩
    have J81 : ∀ X : MS, gA X 49 = gA t 49 → gA X 62 = gA S 62 → gA X 63 = gA S 63 → pc (m_x12_laysTree_J81 (m_x12_laysTree_L48 n) (w' : Int) (b : Int) X) (fun o => ∀ y, y < 48 → (gA o 63 y ≠ 0 ↔ (gA S 63 y ≠ 0 ∨ ∃ j, j < w' + 1 ∧ NDm t (gA S 62 j) y))) := fun X y49 y62 y63 => by
      unfold m_x12_laysTree_J81 m_x12_laysTree_J140
      refine pc_inb (pc_bo (pc_stn (fun s20 e20 => pc_bq (m_lev (by omega)) (fun r22 h22 => ?_))))
      have a49 : gA s20 49 = gA t 49 := (q_Aa e20 (by decide)).trans y49
      have a62 : gA s20 62 = gA S 62 := (q_Aa e20 (by decide)).trans y62
      have a63 : gA s20 63 = upZ (gA S 63) b 1 := by rw [(q_AA e20 : gA s20 63 = _), tb, y63]
      have m63 : ∀ y : Nat, gA s20 63 y ≠ 0 ↔ (y = b ∨ gA S 63 y ≠ 0) := fun y => by
        rw [a63]
        by_cases z : y = b
        · rw [z, upZ_s]; exact ⟨fun _ => Or.inl rfl, fun _ => by decide⟩
        · rw [upZ_n z]; exact ⟨Or.inr, fun h => h.resolve_left z⟩
      rw [tb, (eq49 a49).1] at h22
      refine pc_rg (pc_if (fun c2 => pc_bn (fun s28 e28 => ?_)) (fun c2 => pc_bq (m_ents (by omega)) (fun r26 h26 => ?_)))
      · have F28 : F_x12_laysLeaf s20 s28 := fr_x12_laysLeaf e28
        have f62 : gA s28 62 = gA S 62 := (F28.2.1 62 (by decide)).trans a62
        have f63 : gA s28 63 = gA s20 63 := F28.2.1 63 (by decide)
        refine pc_mono (ih w' s28 ((F28.2.1 49 (by decide)).trans a49) (fun j hj => by rw [f62]; exact hst j (by omega))) (fun o ho y hy => ?_)
        rw [ho y hy, f63, f62, m63 y, TOP y]
        have nb : NDm t (b : Int) y ↔ y = b := by
          unfold NDm
          rw [tb, show ((hM t).1 b).toNat = 0 by omega]
          exact Iff.rfl
        rw [nb]
        constructor
        · rintro ((h | h) | h)
          · exact Or.inr (Or.inl h)
          · exact Or.inl h
          · exact Or.inr (Or.inr h)
        · rintro (h | h | h)
          · exact Or.inl (Or.inr h)
          · exact Or.inl (Or.inl h)
          · exact Or.inr h
      · rw [tb, (eq49 a49).1] at h26
        obtain ⟨l, hl⟩ : ∃ l : Nat, ((hM t).1 b).toNat = l + 1 := ⟨((hM t).1 b).toNat - 1, by omega⟩
        have lev : 0 < (hM t).1 b := by omega
        have L113 : ∀ (m W k : Nat) (Q : MS), (k : Int) ≤ (hM t).2.1 b → gA Q 49 = gA t 49 → (∀ j, j < W → ∃ c : Nat, gA Q 62 j = (c : Int) ∧ c < 48 ∧ LV t c) → gA Q 63 = gA s20 63 → (∀ y : Nat, (∃ j, j < W ∧ NDm t (gA Q 62 j) y) ↔ ((∃ j, j < w' ∧ NDm t (gA S 62 j) y) ∨ ∃ i : Nat, k ≤ i ∧ (i : Int) < (hM t).2.1 b ∧ NDm t ((hM t).2.2 b i) y)) → pc (m_x12_laysTree_L113 (m_x12_laysTree_L48 n) m (W : Int) (b : Int) ((k : Int) - 1) Q) (fun o => ∀ y, y < 48 → (gA o 63 y ≠ 0 ↔ (gA S 63 y ≠ 0 ∨ ∃ j, j < w' + 1 ∧ NDm t (gA S 62 j) y))) := by
          refine fr_ind (fun _ _ _ _ _ _ _ _ => pc_none) (fun m ih2 W k Q hk q49 hQ q63 hS => ?_)
          show pc (m_x12_laysTree_b113 (m_x12_laysTree_L48 n) (m_x12_laysTree_L113 (m_x12_laysTree_L48 n) m) (W : Int) (b : Int) ((k : Int) - 1) Q) _
          unfold m_x12_laysTree_b113 m_x12_laysTree_J140
          cases k with
          | zero =>
            refine pc_rg (pc_if (fun _ => ?_) (fun c => absurd (by omega) c))
            refine pc_mono (ih W Q q49 hQ) (fun o ho y hy => ?_)
            rw [ho y hy, q63, m63 y, hS y, TOP y]
            have nb : NDm t (b : Int) y ↔ (y = b ∨ ∃ i : Nat, (i : Int) < (hM t).2.1 b ∧ NDm t ((hM t).2.2 b i) y) := by
              have lk : ∀ i : Nat, (i : Int) < (hM t).2.1 b → ((hM t).1 ((hM t).2.2 b i).toNat).toNat = l := fun i hi => by
                have := (Kb.1.1.2.2 lev i hi).2
                omega
              unfold NDm
              rw [tb, hl]
              constructor
              · rintro (h | ⟨i, hi, h⟩)
                · exact Or.inl h
                · exact Or.inr ⟨i, hi, by rw [lk i hi]; exact h⟩
              · rintro (h | ⟨i, hi, h⟩)
                · exact Or.inl h
                · rw [lk i hi] at h
                  exact Or.inr ⟨i, hi, h⟩
            rw [nb]
            constructor
            · rintro ((h | h) | (h | ⟨i, _, hi, h⟩))
              · exact Or.inr (Or.inl (Or.inl h))
              · exact Or.inl h
              · exact Or.inr (Or.inr h)
              · exact Or.inr (Or.inl (Or.inr ⟨i, hi, h⟩))
            · rintro (h | (h | ⟨i, hi, h⟩) | h)
              · exact Or.inl (Or.inr h)
              · exact Or.inl (Or.inl h)
              · exact Or.inr (Or.inr ⟨i, Nat.zero_le i, hi, h⟩)
              · exact Or.inr (Or.inl h)
          | succ k' =>
            rw [show ((k' + 1 : Nat) : Int) - 1 = (k' : Int) by omega]
            have tk : ((k' : Nat) : Int).toNat = k' := Int.toNat_natCast _
            refine pc_rg (pc_if (fun c => absurd c (by omega)) (fun _ => pc_bq (m_val (by omega) ⟨by omega, by omega⟩) (fun r12 h12 => pc_inb (pc_stn (fun s14 e14 => ?_)))))
            rw [tb, tk, (eq49 q49).1] at h12
            have kid := Kb.2 lev k' (by omega)
            have u62 : gA s14 62 = upZ (gA Q 62) W r12 := by
              rw [(q_AA e14 : gA s14 62 = _), Int.toNat_natCast]
            rw [show (W : Int) + 1 = ((W + 1 : Nat) : Int) by omega, show (k' : Int) + (-1) = (k' : Int) - 1 by omega]
            refine ih2 (W + 1) k' s14 (by omega) ((q_Aa e14 (by decide)).trans q49) (fun j hj => ?_) ((q_Aa e14 (by decide)).trans q63) (fun y => ?_)
            · rw [u62]
              by_cases z : j = W
              · rw [z, upZ_s, h12]
                exact ⟨((hM t).2.2 b k').toNat, by omega, by omega, kid.2⟩
              · rw [upZ_n z]; exact hQ j (by omega)
            · have st : (∃ j, j < W + 1 ∧ NDm t (gA s14 62 j) y) ↔ (NDm t ((hM t).2.2 b k') y ∨ ∃ j, j < W ∧ NDm t (gA Q 62 j) y) := by
                rw [u62]
                constructor
                · rintro ⟨j, hj, h⟩
                  by_cases z : j = W
                  · rw [z, upZ_s, h12] at h; exact Or.inl h
                  · rw [upZ_n z] at h; exact Or.inr ⟨j, by omega, h⟩
                · rintro (h | ⟨j, hj, h⟩)
                  · exact ⟨W, by omega, by rw [upZ_s, h12]; exact h⟩
                  · exact ⟨j, by omega, by rw [upZ_n (by omega)]; exact h⟩
              rw [st, hS y]
              constructor
              · rintro (h | h | ⟨i, h1, h2, h⟩)
                · exact Or.inr ⟨k', Nat.le_refl k', by omega, h⟩
                · exact Or.inl h
                · exact Or.inr ⟨i, by omega, h2, h⟩
              · rintro (h | ⟨i, h1, h2, h⟩)
                · exact Or.inr (Or.inl h)
                · by_cases z : i = k'
                  · rw [z] at h; exact Or.inl h
                  · exact Or.inr (Or.inr ⟨i, by omega, h2, h⟩)
        rw [h26, show (hM t).2.1 b - 1 = ((((hM t).2.1 b).toNat : Nat) : Int) - 1 by omega]
        refine L113 FU w' ((hM t).2.1 b).toNat s20 (by omega) a49 (fun j hj => by rw [a62]; exact hst j (by omega)) rfl (fun y => ?_)
        rw [a62]
        exact ⟨Or.inl, fun h => h.elim id (fun ⟨i, h1, h2, _⟩ => absurd h2 (by omega))⟩
    exact pc_rdI (fun _ => pc_rg (pc_if (fun _ => pc_stn (fun s35 e35 => J81 s35 ((q_Ia e35).trans x49) (q_Ia e35) (q_Ia e35))) (fun _ => J81 S x49 rfl rfl)))
set_option maxHeartbeats 250000 in theorem m_markT {t S0 : MS} {r : Int} (hK : KLV t) (h49 : gA S0 49 = gA t 49) (hr : r < 254 → (0 ≤ r ∧ r < 48) ∧ LV t r.toNat) : pc (m_x12_laysTree r S0) (fun o => ∀ y, y < 48 → (gA o 63 y ≠ 0 ↔ (r < 254 ∧ NDm t r y))) := by
  have L12 : ∀ (n : Nat) (x : Int) (S : MS), 0 ≤ x → gA S 49 = gA t 49 → (∀ y : Nat, (y : Int) < x → gA S 63 y = 0) → pc (m_x12_laysTree_L12 n r x S) (fun o => ∀ y, y < 48 → (gA o 63 y ≠ 0 ↔ (r < 254 ∧ NDm t r y))) := by
    refine fr_ind (fun _ _ _ _ _ => pc_none) (fun n ih x S hx x49 hz => ?_)
    show pc (m_x12_laysTree_b12 (m_x12_laysTree_L12 n) r x S) _
    unfold m_x12_laysTree_b12
    refine pc_rg (pc_if (fun c0 => pc_rg (pc_if (fun c => pc_inb (pc_stn (fun s44 e44 => ?_))) (fun c => pc_some (fun y hy => ?_)))) (fun c0 => pc_inb (pc_bo (pc_stn (fun s47 e47 => ih (x + 1) s47 (by omega) ((q_Aa e47 (by decide)).trans x49) (fun y hy => ?_))))))
    · obtain ⟨⟨r0, r48⟩, lr⟩ := hr c
      obtain ⟨b, hb⟩ : ∃ b : Nat, r = (b : Int) := ⟨r.toNat, by omega⟩
      have tb : ((b : Nat) : Int).toNat = b := Int.toNat_natCast _
      rw [hb, tb] at lr
      have u62 : gA s44 62 = upZ (gA S 62) 0 r := q_AA e44
      refine pc_mono (m_markL hK FU 1 s44 ((q_Aa e44 (by decide)).trans x49) (fun j hj => ⟨b, by rw [u62, show j = 0 by omega, upZ_s, hb], by omega, lr⟩)) (fun o ho y hy => ?_)
      rw [ho y hy, (q_Aa e44 (by decide) : gA s44 63 = gA S 63), hz y (by omega), u62]
      constructor
      · rintro (h | ⟨j, hj, h⟩)
        · exact absurd rfl h
        · rw [show j = 0 by omega, upZ_s] at h
          exact ⟨c, h⟩
      · rintro ⟨_, h⟩
        exact Or.inr ⟨0, by omega, by rw [upZ_s]; exact h⟩
    · rw [hz y (by omega)]
      exact ⟨fun h => absurd rfl h, fun h => absurd h.1 c⟩
    · rw [(q_AA e47 : gA s47 63 = _)]
      by_cases z : y = x.toNat
      · rw [z, upZ_s]
      · rw [upZ_n z]; exact hz y (by omega)
  unfold m_x12_laysTree
  exact pc_stn (fun s48 e48 => pc_stn (fun s49 e49 => L12 FU 0 s49 (Int.le_refl 0) ((q_Ia e49).trans ((q_Ia e48).trans h49)) (fun y hy => absurd hy (by omega))))
set_option maxHeartbeats 250000 in theorem bW_n {n x : Nat} (hn : n < 281474976710656) (hx : x < 48) : bW (n : Int) x ↔ Nat.testBit n x = true := by
  have a := i8_nat (x := (n : Int)) ⟨by omega, by omega⟩
  rw [bW_t hx, show (i8 (n : Int)).toBitVec.toNat = n by omega]
/- SHARED -/
set_option maxHeartbeats 250000 in theorem y_shared {x t : MS} {ts : List MS} {p0 p1 : Int} (hC : CI x ts) (hJ : JI t) (B : BT x ts t) (h47 : gI t 47 = gI x 12) : pc (m_x11_shared p0 p1 x) (fun q => pc (m_x12_shared p0 p1 t) (fun o => q.1 = o.1)) := by
  have V := BT_V B hC h47
  unfold m_x11_shared m_x11_shared_J24
  refine pc_bn (fun r3 e3 => pc_rg (pc_if (fun c => pc_some ?_) (fun c => pc_bn (fun r7 e7 => pc_rg (pc_if (fun c2 => pc_some ?_) (fun c2 => pc_rdI (fun _ => ?_)))))))
  · unfold m_x12_shared m_x12_shared_J18
    exact pc_rg (pc_bn (fun r4 e4 => pc_rg (pc_if (fun _ => pc_some rfl) (fun d => absurd ((y_isVol V e3 e4).1.symm.trans c) d))))
  · unfold m_x12_shared m_x12_shared_J18
    exact pc_rg (pc_bn (fun r4 e4 => pc_rg (pc_if (fun _ => pc_some rfl) (fun _ => pc_rg (pc_bn (fun r5 e5 => pc_rg (pc_if (fun _ => pc_some rfl) (fun d => absurd ((y_isVol V e7 e5).1.symm.trans c2) d))))))))
  have v0 := isVol_y e3 c
  have w0 := isVol_y e7 c2
  obtain ⟨v, hv⟩ : ∃ v : Nat, p0 = (v : Int) := ⟨p0.toNat, by omega⟩
  obtain ⟨u, hu⟩ : ∃ u : Nat, p1 = (u : Int) := ⟨p1.toNat, by omega⟩
  have tv : p0.toNat = v := by omega
  have tu : p1.toNat = u := by omega
  rw [tv] at v0 ⊢
  rw [tu] at w0
  have v8 : v < 8 := by omega
  have u8 : u < 8 := by omega
  have ht := CI_told hC v8 v0.2
  have nv : gA t 49 v ≠ 255 := fun z => v0.2 ((V v v8).2 (Or.inr z))
  have nu : gA t 49 u ≠ 255 := fun z => w0.2 ((V u u8).2 (Or.inr z))
  obtain ⟨π, σ, lo, hi, H, O, N, G, hK, _⟩ := BT_T hJ B h47 ht
  have rl : ∀ w : Nat, w < 8 → gA t 49 w ≠ 255 → ((0 ≤ gA t 49 w → gA t 49 w < 48 → LV t (gA t 49 w).toNat ∧ ∃ mu, MV (hM t) mu (gA t 49 w) (fun _ => 0)) ∧ (gA t 49 w < 254 → (0 ≤ gA t 49 w ∧ gA t 49 w < 48) ∧ LV t (gA t 49 w).toNat)) := fun w hw hn => by
    have r := GA_rt G hw hn
    have rr : rtr π (gA x 60 w) (gA t 49 w) := (H.2.2.2 w hw).1
    refine ⟨fun a b => ?_, fun c => ?_⟩
    · obtain ⟨mu, h1, _⟩ := RT_tree (u := w) G.1.1.1 (by omega) a (by omega)
      exact ⟨hK.2.2 w (by omega) a b, mu, h1⟩
    · have b48 : gA t 49 w < 48 := by
        rcases rr with ⟨a, _⟩ | ⟨a, _⟩ | ⟨_, a, _⟩ <;> omega
      exact ⟨⟨by omega, b48⟩, hK.2.2 w (by omega) (by omega) b48⟩
  have hBx : ∀ y, y < 48 → LV t y → BR1 π (hN x) (hM t) (kN x) (kM t) y := fun y hy l => H.2.2.1 y hy l
  refine pc_bq (s_treeR hBx H.1 hK (H.2.2.2 v v8).1 (rl v v8 nv).1) (fun q13 h13 => pc_rdI (fun _ => ?_))
  obtain ⟨⟨_, _, ⟨_, _, hA⟩, _, _⟩, ⟨n1, hn1, hz1⟩, hb1⟩ := h13
  rw [tu, hA 60 (by decide)]
  have eN : hN q13.2 = hN x := by
    unfold hN
    rw [hA 56 (by decide), hA 57 (by decide), hA 59 (by decide)]
  have eK : kN q13.2 = kN x := by
    unfold kN
    rw [hA 58 (by decide)]
  refine pc_bq (s_treeR (s := q13.2) (fun y hy l => by rw [eN, eK]; exact hBx y hy l) H.1 hK (H.2.2.2 u u8).1 (rl u u8 nu).1) (fun q17 h17 => ?_)
  obtain ⟨_, ⟨n2, hn2, hz2⟩, hb2⟩ := h17
  have hand : andL q13.1 q17.1 = ((n1 &&& n2 : Nat) : Int) := by
    rw [hz1, hz2]
    exact andL_n (by omega) (by omega)
  have lt : n1 &&& n2 < 2 ^ 48 := Nat.and_lt_two_pow n1 (n := 48) hn2
  rw [hand]
  refine pc_bq (bitc lt) (fun r19 h19 => pc_some ?_)
  -- the class's answer, by the reference's names
  have CL : r19 = sm 48 (fun y => if Nat.testBit (n1 &&& n2) (π y) = true then (1 : Int) else 0) := by
    rw [h19]
    exact sm_pm H.1 _
  have bit : ∀ y, y < 48 → (Nat.testBit (n1 &&& n2) (π y) = true ↔ ((gA t 49 v < 254 ∧ NDm t (gA t 49 v) y) ∧ (gA t 49 u < 254 ∧ NDm t (gA t 49 u) y))) := fun y hy => by
    have p48 := (H.1 y hy).1.1
    have c1 := hb1 y hy
    have c2 := hb2 y hy
    rw [hz1, bW_n hn1 p48] at c1
    rw [hz2, bW_n hn2 p48] at c2
    rw [Nat.testBit_and, Bool.and_eq_true]
    exact ⟨fun h => ⟨c1.1 h.1, c2.1 h.2⟩, fun h => ⟨c1.2 h.1, c2.2 h.2⟩⟩
  -- the reference
  show pc (m_x12_shared p0 p1 t) (fun o => r19 = o.1)
  unfold m_x12_shared m_x12_shared_J18
  refine pc_rg (pc_bn (fun r4 e4 => pc_rg (pc_if (fun d => absurd ((y_isVol V e3 e4).1.trans d) c) (fun _ => pc_rg (pc_bn (fun r5 e5 => pc_rg (pc_if (fun d => absurd ((y_isVol V e7 e5).1.trans d) c2) (fun _ => pc_rdI (fun _ => ?_)))))))))
  rw [tv]
  refine pc_bn (fun s40 e40 => ?_)
  have M1 := m_markT hK rfl (rl v v8 nv).2 s40 e40
  have F40 : F_x12_laysTree t s40 := fr_x12_laysTree e40
  have f49 : gA s40 49 = gA t 49 := F40.2.1 49 (by decide)
  have L71 : ∀ (S : MS), (∀ y, y < 48 → (gA S 69 y ≠ 0 ↔ (gA t 49 v < 254 ∧ NDm t (gA t 49 v) y))) → (∀ y, y < 48 → (gA S 63 y ≠ 0 ↔ (gA t 49 u < 254 ∧ NDm t (gA t 49 u) y))) → ∀ (n k : Nat) (a : Int), k ≤ 48 → a = sm k (fun y => if Nat.testBit (n1 &&& n2) (π y) = true then (1 : Int) else 0) → pc (m_x12_shared_L71 n a (k : Int) S) (fun o => r19 = o.1) := fun S h69 h63 => by
    refine fr_ind (fun _ _ _ _ => pc_none) (fun n ih k a hk ha => ?_)
    show pc (m_x12_shared_b71 (m_x12_shared_L71 n) a (k : Int) S) _
    unfold m_x12_shared_b71 m_x12_shared_J101
    have tk : ((k : Nat) : Int).toNat = k := Int.toNat_natCast _
    have nat1 : (k : Int) + 1 = ((k + 1 : Nat) : Int) := by omega
    have st : sm (k + 1) (fun y => if Nat.testBit (n1 &&& n2) (π y) = true then (1 : Int) else 0) = sm k (fun y => if Nat.testBit (n1 &&& n2) (π y) = true then (1 : Int) else 0) + (if Nat.testBit (n1 &&& n2) (π k) = true then 1 else 0) := rfl
    refine pc_rg (pc_if (fun d => pc_some ?_) (fun d => pc_rdI (fun _ => ?_)))
    · rw [CL, ha, show k = 48 by omega]
    rw [tk, nat1]
    have k48 : k < 48 := by omega
    refine pc_rg (pc_if (fun d1 => ih (k + 1) a (by omega) ?_) (fun d1 => pc_rdI (fun _ => ?_)))
    · rw [st, if_neg (fun w => (h69 k k48).2 ((bit k k48).1 w).1 d1), ha]; omega
    rw [tk]
    refine pc_rg (pc_if (fun d2 => ih (k + 1) a (by omega) ?_) (fun d2 => ih (k + 1) (a + 1) (by omega) ?_))
    · rw [st, if_neg (fun w => (h63 k k48).2 ((bit k k48).1 w).2 d2), ha]; omega
    · rw [st, if_pos ((bit k k48).2 ⟨(h69 k k48).1 d1, (h63 k k48).1 d2⟩), ha]
  have L32 : ∀ (n : Nat) (i : Int) (S : MS), 0 ≤ i → (∀ k, k ≠ 69 → gA S k = gA s40 k) → (∀ y : Nat, (y : Int) < i → gA S 69 y = gA s40 63 y) → pc (m_x12_shared_L32 n p1 i S) (fun o => r19 = o.1) := by
    refine fr_ind (fun _ _ _ _ _ => pc_none) (fun n ih i S hi hA' hz => ?_)
    show pc (m_x12_shared_b32 (m_x12_shared_L32 n) p1 i S) _
    unfold m_x12_shared_b32
    refine pc_rg (pc_if (fun d => pc_rdI (fun _ => ?_)) (fun d => pc_rdI (fun _ => pc_inb (pc_bo2 (fun _ => pc_stn (fun s26 e26 => ih (i + 1) s26 (by omega) (fun k hk => (q_Aa e26 hk).trans (hA' k hk)) (fun y hy => ?_)))))))
    · have g49 : gA S 49 = gA t 49 := (hA' 49 (by decide)).trans f49
      rw [tu, g49]
      refine pc_bn (fun s22 e22 => ?_)
      have M2 := m_markT hK g49 (rl u u8 nu).2 s22 e22
      have F22 : F_x12_laysTree S s22 := fr_x12_laysTree e22
      refine L71 s22 (fun y hy => ?_) M2 FU 0 0 (by decide) rfl
      rw [F22.2.1 69 (by decide), hz y (by omega)]
      exact M1 y hy
    · rw [(q_AA e26 : gA s26 69 = _)]
      by_cases z : y = i.toNat
      · rw [z, upZ_s, hA' 63 (by decide)]
      · rw [upZ_n z]; exact hz y (by omega)
  exact L32 FU 0 s40 (Int.le_refl 0) (fun _ _ => rfl) (fun y hy => absurd hy (by omega))
/-! ===== entries rise by KEY; a KEY's VALUE is looked up among them ===== -/
def lkL : List (Int × Int) → Int → Int
  | [], _ => -1
  | x :: L, k => if x.1 = k then x.2 else lkL L k
def upL : List (Int × Int) → Prop
  | [] => True
  | x :: L => (∀ y ∈ L, x.1 < y.1) ∧ upL L
set_option maxHeartbeats 250000 in theorem lk_none {k : Int} : ∀ L : List (Int × Int), (∀ x ∈ L, x.1 ≠ k) → lkL L k = -1 := by
  intro L
  induction L with
  | nil => intro _; rfl
  | cons x L ih =>
    intro h
    show (if x.1 = k then x.2 else lkL L k) = -1
    rw [if_neg (h x (List.mem_cons_self ..))]
    exact ih (fun y hy => h y (List.mem_cons_of_mem _ hy))
set_option maxHeartbeats 250000 in theorem lk_l {k : Int} {M : List (Int × Int)} (h : ∀ x ∈ M, x.1 ≠ k) : ∀ L, lkL (L ++ M) k = lkL L k := by
  intro L
  induction L with
  | nil => exact lk_none M h
  | cons x L ih =>
    show (if x.1 = k then x.2 else lkL (L ++ M) k) = if x.1 = k then x.2 else lkL L k
    rw [ih]
set_option maxHeartbeats 250000 in theorem lk_r {k : Int} {M : List (Int × Int)} : ∀ L, (∀ x ∈ L, x.1 ≠ k) → lkL (L ++ M) k = lkL M k := by
  intro L
  induction L with
  | nil => intro _; rfl
  | cons x L ih =>
    intro h
    show (if x.1 = k then x.2 else lkL (L ++ M) k) = lkL M k
    rw [if_neg (h x (List.mem_cons_self ..))]
    exact ih (fun y hy => h y (List.mem_cons_of_mem _ hy))
set_option maxHeartbeats 250000 in theorem up_app {M : List (Int × Int)} (hM' : upL M) : ∀ L, upL L → (∀ x ∈ L, ∀ y ∈ M, x.1 < y.1) → upL (L ++ M) := by
  intro L
  induction L with
  | nil => intro _ _; exact hM'
  | cons x L ih =>
    intro h1 h2
    refine ⟨fun y hy => ?_, ih h1.2 (fun z hz => h2 z (List.mem_cons_of_mem _ hz))⟩
    rcases List.mem_append.1 hy with w | w
    · exact h1.1 y w
    · exact h2 x (List.mem_cons_self ..) y w
set_option maxHeartbeats 250000 in theorem nth_mem : ∀ (L : List (Int × Int)) (i : Nat), i < L.length → nthL L i ∈ L := by
  intro L
  induction L with
  | nil => intro i hi; exact absurd hi (Nat.not_lt_zero i)
  | cons x L ih =>
    intro i hi
    cases i with
    | zero => exact List.mem_cons_self ..
    | succ i => exact List.mem_cons_of_mem _ (ih i (Nat.lt_of_succ_lt_succ hi))
set_option maxHeartbeats 250000 in theorem up_nth : ∀ (L : List (Int × Int)), upL L → ∀ i j, i < j → j < L.length → (nthL L i).1 < (nthL L j).1 := by
  intro L
  induction L with
  | nil => intro _ i j _ hj; exact absurd hj (Nat.not_lt_zero j)
  | cons x L ih =>
    intro h i j hij hj
    cases j with
    | zero => exact absurd hij (Nat.not_lt_zero i)
    | succ j =>
      cases i with
      | zero => exact h.1 _ (nth_mem L j (Nat.lt_of_succ_lt_succ hj))
      | succ i => exact ih h.2 i j (Nat.lt_of_succ_lt_succ hij) (Nat.lt_of_succ_lt_succ hj)
set_option maxHeartbeats 250000 in theorem lk_nth : ∀ (L : List (Int × Int)), upL L → ∀ i, i < L.length → lkL L (nthL L i).1 = (nthL L i).2 := by
  intro L
  induction L with
  | nil => intro _ i hi; exact absurd hi (Nat.not_lt_zero i)
  | cons x L ih =>
    intro h i hi
    cases i with
    | zero => exact if_pos rfl
    | succ i =>
      have hi' := Nat.lt_of_succ_lt_succ hi
      have lt := h.1 _ (nth_mem L i hi')
      show (if x.1 = (nthL L i).1 then x.2 else lkL L (nthL L i).1) = (nthL L i).2
      rw [if_neg (by omega)]
      exact ih h.2 i hi'
set_option maxHeartbeats 250000 in theorem mem_nth : ∀ (L : List (Int × Int)) (x : Int × Int), x ∈ L → ∃ i, i < L.length ∧ nthL L i = x := by
  intro L
  induction L with
  | nil => intro x hx; exact absurd hx (List.not_mem_nil)
  | cons y L ih =>
    intro x hx
    rcases List.mem_cons.1 hx with e | w
    · exact ⟨0, Nat.succ_pos _, e.symm⟩
    · obtain ⟨i, h1, h2⟩ := ih x w
      exact ⟨i + 1, Nat.succ_lt_succ h1, h2⟩
set_option maxHeartbeats 250000 in theorem es_mem {h : SH} {ky : Nat → Nat → Int} {b : Nat} : ∀ (n : Nat) (x : Int × Int), x ∈ esL h ky b n → ∃ j, j < n ∧ x = (ky b j, h.2.2 b j) := by
  intro n
  induction n with
  | zero => intro x hx; exact absurd hx (List.not_mem_nil)
  | succ n ih =>
    intro x hx
    have hx' : x ∈ esL h ky b n ++ [(ky b n, h.2.2 b n)] := hx
    rcases List.mem_append.1 hx' with w | w
    · obtain ⟨j, h1, h2⟩ := ih x w
      exact ⟨j, by omega, h2⟩
    · exact ⟨n, by omega, List.mem_singleton.1 w⟩
set_option maxHeartbeats 250000 in theorem es_up {h : SH} {ky : Nat → Nat → Int} {b : Nat} : ∀ n : Nat, (∀ i j, i < j → j < n → ky b i < ky b j) → upL (esL h ky b n) := by
  intro n
  induction n with
  | zero => intro _; exact trivial
  | succ n ih =>
    intro hs
    refine up_app (M := [(ky b n, h.2.2 b n)]) ⟨fun y hy => absurd hy (List.not_mem_nil), trivial⟩ _ (ih (fun i j h1 h2 => hs i j h1 (by omega))) (fun x hx y hy => ?_)
    obtain ⟨j, h1, h2⟩ := es_mem n x hx
    rw [h2, List.mem_singleton.1 hy]
    exact hs j n h1 (by omega)
set_option maxHeartbeats 250000 in theorem es_lk {h : SH} {ky : Nat → Nat → Int} {b : Nat} : ∀ n : Nat, (∀ i j, i < j → j < n → ky b i < ky b j) → ∀ q, q < n → lkL (esL h ky b n) (ky b q) = h.2.2 b q := by
  intro n
  induction n with
  | zero => intro _ q hq; exact absurd hq (Nat.not_lt_zero q)
  | succ n ih =>
    intro hs q hq
    by_cases z : q = n
    · show lkL (esL h ky b n ++ [(ky b n, h.2.2 b n)]) (ky b q) = h.2.2 b q
      rw [lk_r _ (fun x hx => by
        obtain ⟨j, h1, h2⟩ := es_mem n x hx
        rw [h2, z]
        have := hs j n h1 (by omega)
        show ky b j ≠ ky b n
        omega), z]
      exact if_pos rfl
    · show lkL (esL h ky b n ++ [(ky b n, h.2.2 b n)]) (ky b q) = h.2.2 b q
      rw [lk_l (fun x hx => by
        rw [List.mem_singleton.1 hx]
        have := hs q n (by omega) (by omega)
        show ky b n ≠ ky b q
        omega)]
      exact ih (fun i j h1 h2 => hs i j h1 (by omega)) q (by omega)
/- the entries of a tree -/
def WT (t : MS) (l b : Nat) : List (Int × Int) := wrL (hM t) (kM t) (lfL (hM t) l b)
def VT (t : MS) (l b k : Nat) : List (Int × Int) := wrL (hM t) (kM t) (catL (fun k => lfL (hM t) l ((hM t).2.2 b k).toNat) k)
set_option maxHeartbeats 250000 in theorem VT_s (t : MS) (l b k : Nat) : VT t l b (k + 1) = VT t l b k ++ WT t l ((hM t).2.2 b k).toNat := wrL_app _ _
set_option maxHeartbeats 1000000 in
theorem tree_W {t : MS} {lo hj : Nat → Int} (hK : KLV t) (hO : OI t lo hj) (n1 : ∀ x, x < 48 → LV t x → 0 < (hM t).1 x → 1 ≤ (hM t).2.1 x) (k9 : ∀ x, x < 48 → LV t x → ∀ k : Nat, (k : Int) < (hM t).2.1 x → 0 ≤ kM t x k ∧ kM t x k ≤ 999) : ∀ (l b : Nat), b < 48 → LV t b → (hM t).1 b = (l : Int) → (∀ x ∈ WT t l b, (lo b ≤ x.1 ∧ x.1 ≤ hj b) ∧ (0 ≤ x.1 ∧ x.1 ≤ 999) ∧ 0 ≤ x.2) ∧ upL (WT t l b) ∧ ∀ (m : Nat) (key : Int), pc (m_x12_valueFrom_L11 t m key (b : Int)) (fun o => o = lkL (WT t l b) key) := by
  intro l
  induction l with
  | zero =>
    intro b hb lb hl
    have c := (hO b hb lb).2.1 (by omega)
    have sz := (hK.2.1 b hb lb).1.1.2.1
    have e : WT t 0 b = esL (hM t) (kM t) b ((hM t).2.1 b).toNat := wrL_1 b
    have so : ∀ i j, i < j → j < ((hM t).2.1 b).toNat → kM t b i < kM t b j := fun i j h1 h2 => c.1 i j (Nat.zero_le _) h1 (by omega)
    rw [e]
    refine ⟨fun x hx => ?_, es_up _ so, fun m key => ?_⟩
    · obtain ⟨j, h1, h2⟩ := es_mem _ x hx
      have q := c.2 j (by omega)
      rw [h2]
      exact ⟨⟨q.1, q.2.1⟩, k9 b hb lb j (by omega), q.2.2⟩
    · cases m with
      | zero => exact pc_none
      | succ m =>
        refine pc_mono (m_val0 (by omega) sz) (fun o ho => ?_)
        obtain ⟨q, ⟨⟨q0, _⟩, q1, q2⟩, w⟩ := ho
        rcases w with ⟨w1, w2⟩ | ⟨⟨w1, w2⟩, w3⟩
        · rw [w2, lk_none _ (fun x hx => ?_)]
          obtain ⟨j, h1, h2⟩ := es_mem _ x hx
          rw [h2]
          show kM t b j ≠ key
          by_cases g : (j : Int) < q
          · have := q1 j g
            omega
          · have qz : q < (hM t).2.1 b := by omega
            have q3 := q2 qz
            by_cases g2 : j = q.toNat
            · rw [g2]; exact fun z => w1 ⟨qz, z⟩
            · have := so q.toNat j (by omega) h1
              omega
        · rw [w3, ← w2]
          exact (es_lk _ so q.toNat (by omega)).symm
  | succ l ih =>
    intro b hb lb hl
    have lev : 0 < (hM t).1 b := by omega
    have Kb := hK.2.1 b hb lb
    have sz := Kb.1.1.2.1
    have Ob := (hO b hb lb).2.2 lev
    have so := OI_SO hO hK hb lb
    have KID : ∀ k : Nat, (k : Int) < (hM t).2.1 b → _ := fun k hk => ih ((hM t).2.2 b k).toNat (by have := (Kb.2 lev k hk).1; omega) (Kb.2 lev k hk).2 (by have := (Kb.1.1.2.2 lev k hk).2; omega)
    have IN : ∀ k : Nat, (k : Int) ≤ (hM t).2.1 b → ∀ x ∈ VT t l b k, (∃ i : Nat, i < k ∧ lo ((hM t).2.2 b i).toNat ≤ x.1 ∧ x.1 ≤ hj ((hM t).2.2 b i).toNat) ∧ (0 ≤ x.1 ∧ x.1 ≤ 999) ∧ 0 ≤ x.2 := by
      intro k
      induction k with
      | zero => intro _ x hx; exact absurd hx (List.not_mem_nil)
      | succ k ihk =>
        intro hk x hx
        rw [VT_s] at hx
        rcases List.mem_append.1 hx with w | w
        · obtain ⟨⟨i, h1, h2⟩, h3⟩ := ihk (by omega) x w
          exact ⟨⟨i, by omega, h2⟩, h3⟩
        · have g := (KID k (by omega)).1 x w
          exact ⟨⟨k, by omega, g.1⟩, g.2⟩
    have UP : ∀ k : Nat, (k : Int) ≤ (hM t).2.1 b → upL (VT t l b k) := by
      intro k
      induction k with
      | zero => intro _; exact trivial
      | succ k ihk =>
        intro hk
        rw [VT_s]
        refine up_app (KID k (by omega)).2.1 _ (ihk (by omega)) (fun x hx y hy => ?_)
        obtain ⟨⟨i, i1, i2, i3⟩, _⟩ := IN k (by omega) x hx
        have gy := ((KID k (by omega)).1 y hy).1
        have c1 := (Ob i (by omega)).2.2 (by omega)
        have c2 := (Ob k (by omega)).2.1 (by omega)
        have mono : kM t b (i + 1) ≤ kM t b k := by
          by_cases z : i + 1 = k
          · rw [z]; exact Int.le_refl _
          · exact Int.le_of_lt (so (i + 1) k (by omega) (by omega) (by omega))
        omega
    have e : WT t (l + 1) b = VT t l b ((hM t).2.1 b).toNat := rfl
    rw [e]
    refine ⟨fun x hx => ?_, UP _ (by omega), fun m key => ?_⟩
    · obtain ⟨⟨i, i1, i2, i3⟩, g⟩ := IN _ (by omega) x hx
      have c := (Ob i (by omega)).1
      exact ⟨⟨by omega, by omega⟩, g⟩
    · cases m with
      | zero => exact pc_none
      | succ m =>
        refine m_val1 lev ⟨n1 b hb lb lev, sz.2⟩ (fun r hPF => ?_)
        obtain ⟨r0, r1, r2, r3⟩ := hPF
        have hr : r < (hM t).2.1 b := by
          have := n1 b hb lb lev
          omega
        obtain ⟨i, hi⟩ : ∃ i : Nat, r = (i : Int) := ⟨r.toNat, by omega⟩
        have ti : r.toNat = i := by omega
        have kid := (Kb.2 lev i (by omega)).1
        rw [ti, show (hM t).2.2 b i = ((((hM t).2.2 b i).toNat : Nat) : Int) by omega]
        refine pc_mono ((KID i (by omega)).2.2 m key) (fun o ho => ?_)
        rw [ho]
        -- no other child has it
        have A : ∀ d : Nat, ((i + 1 + d : Nat) : Int) ≤ (hM t).2.1 b → lkL (VT t l b (i + 1 + d)) key = lkL (WT t l ((hM t).2.2 b i).toNat) key := by
          intro d
          induction d with
          | zero =>
            intro hd
            rw [Nat.add_zero, VT_s, lk_r _ (fun x hx => ?_)]
            obtain ⟨⟨k, k1, k2, k3⟩, _⟩ := IN i (by omega) x hx
            have c1 := (Ob k (by omega)).2.2 (by omega)
            have c2 := r2 (k + 1) (by omega) (by omega)
            omega
          | succ d ihd =>
            intro hd
            rw [show i + 1 + (d + 1) = (i + 1 + d) + 1 by omega, VT_s, lk_l (fun x hx => ?_)]
            · exact ihd (by omega)
            · have gx := ((KID (i + 1 + d) (by omega)).1 x hx).1
              have c2 := (Ob (i + 1 + d) (by omega)).2.1 (by omega)
              have c3 := r3 (by omega)
              rw [show (r + 1).toNat = i + 1 by omega] at c3
              have mono : kM t b (i + 1) ≤ kM t b (i + 1 + d) := by
                by_cases z : d = 0
                · rw [z, Nat.add_zero]; exact Int.le_refl _
                · exact Int.le_of_lt (so (i + 1) (i + 1 + d) (by omega) (by omega) (by omega))
              omega
        have g := A (((hM t).2.1 b).toNat - (i + 1)) (by omega)
        rw [show i + 1 + (((hM t).2.1 b).toNat - (i + 1)) = ((hM t).2.1 b).toNat by omega] at g
        exact g.symm
/- the entries under a root -/
def WR' (t : MS) (r : Int) : List (Int × Int) := wrL (hM t) (kM t) (LFr t r)
set_option maxHeartbeats 250000 in theorem root_W {t : MS} {lo hj : Nat → Int} (hK : KLV t) (hO : OI t lo hj) (n1 : ∀ x, x < 48 → LV t x → 0 < (hM t).1 x → 1 ≤ (hM t).2.1 x) (k9 : ∀ x, x < 48 → LV t x → ∀ k : Nat, (k : Int) < (hM t).2.1 x → 0 ≤ kM t x k ∧ kM t x k ≤ 999) {r : Int} (hr : r < 254 → (0 ≤ r ∧ r < 48) ∧ LV t r.toNat) : (∀ x ∈ WR' t r, (0 ≤ x.1 ∧ x.1 ≤ 999) ∧ 0 ≤ x.2) ∧ upL (WR' t r) ∧ ∀ key : Int, pc (m_x12_valueFrom r key t) (fun o => o = lkL (WR' t r) key) := by
  unfold WR' LFr
  by_cases c : r < 254
  · obtain ⟨⟨r0, r48⟩, lr⟩ := hr c
    rw [if_pos c]
    have lv0 := (hK.2.1 r.toNat (by omega) lr).1.1.1
    have W := tree_W hK hO n1 k9 ((hM t).1 r.toNat).toNat r.toNat (by omega) lr (by omega)
    refine ⟨fun x hx => (W.1 x hx).2, W.2.1, fun key => ?_⟩
    unfold m_x12_valueFrom
    refine pc_rg (pc_if (fun _ => ?_) (fun d => absurd c d))
    have g := W.2.2 FU key
    rw [show ((r.toNat : Nat) : Int) = r by omega] at g
    exact g
  · rw [if_neg c]
    refine ⟨fun x hx => absurd hx (List.not_mem_nil), trivial, fun key => ?_⟩
    unfold m_x12_valueFrom
    exact pc_rg (pc_if (fun d => absurd d c) (fun _ => pc_some rfl))
/-! ===== two VOLUMES held against one another ===== -/
/- a row of entries: rising, looked up -/
def RWl (a v : Nat → Int) (n : Nat) (lk : Int → Int) : Prop := (∀ i j, i < j → j < n → a i < a j) ∧ (∀ i, i < n → lk (a i) = v i ∧ 0 ≤ v i ∧ 0 ≤ a i ∧ a i ≤ 999) ∧ ∀ k, (∀ i, i < n → a i ≠ k) → lk k = -1
set_option maxHeartbeats 250000 in theorem RWl_of {a v : Nat → Int} {c : Int} {L : List (Int × Int)} (h : ORe a v c L) (hu : upL L) (hp : ∀ x ∈ L, (0 ≤ x.1 ∧ x.1 ≤ 999) ∧ 0 ≤ x.2) : RWl a v L.length (lkL L) := by
  have e : ∀ i, i < L.length → (nthL L i).1 = a i ∧ (nthL L i).2 = v i := fun i hi => by rw [h.2 i hi]; exact ⟨rfl, rfl⟩
  refine ⟨fun i j h1 h2 => ?_, fun i hi => ?_, fun k hk => lk_none L (fun x hx => ?_)⟩
  · have g := up_nth L hu i j h1 h2
    rw [(e i (by omega)).1, (e j h2).1] at g
    exact g
  · have g := lk_nth L hu i hi
    have p := hp _ (nth_mem L i hi)
    rw [(e i hi).1, (e i hi).2] at g p
    exact ⟨g, p.2, p.1⟩
  · obtain ⟨i, h1, h2⟩ := mem_nth L x hx
    rw [← h2, (e i h1).1]
    exact hk i h1
/- KEYS that none has are passed -/
set_option maxHeartbeats 250000 in theorem m_skip {t : MS} {ra rb p c : Int} {lkA lkB : Int → Int} (hA : ∀ key, pc (m_x12_valueFrom ra key t) (fun o => o = lkA key)) (hB : ∀ key, pc (m_x12_valueFrom rb key t) (fun o => o = lkB key)) {Q : Int → Prop} : ∀ (d : Nat) (x : Int), x + (d : Int) ≤ 1000 → (∀ y, x ≤ y → y < x + (d : Int) → lkA y = -1 ∧ lkB y = -1) → (∀ m, pc (m_x12_unlike_L6 t m ra rb p c (x + (d : Int))) Q) → ∀ m, pc (m_x12_unlike_L6 t m ra rb p c x) Q := by
  intro d
  induction d with
  | zero =>
    intro x _ _ K m
    have g := K m
    rw [show x + ((0 : Nat) : Int) = x by omega] at g
    exact g
  | succ d ih =>
    intro x hx hn K m
    cases m with
    | zero => exact pc_none
    | succ m =>
      show pc (m_x12_unlike_b6 t (m_x12_unlike_L6 t m) ra rb p c x) Q
      unfold m_x12_unlike_b6 m_x12_unlike_J46
      have n0 := hn x (Int.le_refl x) (by omega)
      refine pc_rg (pc_if (fun w => absurd w (by omega)) (fun _ => pc_bq (hA x) (fun r17 h17 => pc_bq (hB x) (fun r19 h19 => pc_rg (pc_rg (pc_if (fun _ => ?_) (fun w => absurd (by rw [h17, h19, n0.1, n0.2]) w)))))))
      exact ih (x + 1) (by omega) (fun y h1 h2 => hn y (by omega) (by omega)) (fun m' => by
        have g := K m'
        rw [show x + 1 + (d : Int) = x + ((d + 1 : Nat) : Int) by omega]
        exact g) m
set_option maxHeartbeats 2000000 in
theorem y_merge {t : MS} {ra rb p : Int} {S : MS} {n1 n2 : Nat} {lkA lkB : Int → Int} (hA : ∀ key, pc (m_x12_valueFrom ra key t) (fun o => o = lkA key)) (hB : ∀ key, pc (m_x12_valueFrom rb key t) (fun o => o = lkB key)) (RA : RWl (gA S 23) (gA S 24) n1 lkA) (RB' : RWl (gA S 27) (gA S 28) n2 lkB) (h1 : n1 ≤ 288) (h2 : n2 ≤ 288) : ∀ (n i j k : Nat) (c x : Int) (m : Nat), i ≤ n1 → j ≤ n2 → k ≤ i + j → 0 ≤ c → 0 ≤ x → x ≤ 1000 → (∀ i', i' < i → gA S 23 i' < x) → (∀ i', i ≤ i' → i' < n1 → x ≤ gA S 23 i') → (∀ j', j' < j → gA S 27 j' < x) → (∀ j', j ≤ j' → j' < n2 → x ≤ gA S 27 j') → pc (m_x11_unlike_L46 n p (n1 : Int) (n2 : Int) c (i : Int) (j : Int) (k : Int) S) (fun q => pc (m_x12_unlike_L6 t m ra rb p c x) (fun r => q.1 = r)) := by
  refine fr_ind (fun _ _ _ _ _ _ _ _ _ _ _ _ _ _ _ _ => pc_none) (fun n ih i j k c x m hi hj hk hc hx hx1 a1 a2 b1 b2 => ?_)
  have absA : ∀ y : Int, x ≤ y → (∀ i', i ≤ i' → i' < n1 → y < gA S 23 i') → lkA y = -1 := fun y hy h => RA.2.2 y (fun i' hi' => by
    by_cases z : i' < i
    · have := a1 i' z
      omega
    · have := h i' (by omega) hi'
      omega)
  have absB : ∀ y : Int, x ≤ y → (∀ j', j ≤ j' → j' < n2 → y < gA S 27 j') → lkB y = -1 := fun y hy h => RB'.2.2 y (fun j' hj' => by
    by_cases z : j' < j
    · have := b1 j' z
      omega
    · have := h j' (by omega) hj'
      omega)
  -- both are through
  have FIN : i = n1 → j = n2 → pc (m_x11_unlike_J229 p c S) (fun q => pc (m_x12_unlike_L6 t m ra rb p c x) (fun r => q.1 = r)) := fun ei ej => by
    unfold m_x11_unlike_J229 m_x11_unlike_J240
    have R : ∀ z : Int, (p = -1 → z = c) → (p ≠ -1 → z = -1) → pc (m_x12_unlike_L6 t m ra rb p c x) (fun r => z = r) := fun z z1 z2 => by
      refine m_skip hA hB (1000 - x).toNat x (by omega) (fun y y1 y2 => ⟨absA y y1 (fun i' w1 w2 => absurd w2 (by omega)), absB y y1 (fun j' w1 w2 => absurd w2 (by omega))⟩) (fun m' => ?_) m
      rw [show x + ((1000 - x).toNat : Int) = 1000 by omega]
      cases m' with
      | zero => exact pc_none
      | succ m' =>
        show pc (m_x12_unlike_b6 t (m_x12_unlike_L6 t m') ra rb p c 1000) _
        unfold m_x12_unlike_b6 m_x12_unlike_J63
        exact pc_rg (pc_if (fun _ => pc_rg (pc_if (fun w => pc_some (z1 w)) (fun w => pc_some (z2 w)))) (fun w => absurd (by decide) w))
    exact pc_rg (pc_if (fun w => pc_some (R _ (fun _ => rfl) (fun d => absurd w d))) (fun w => pc_some (R _ (fun d => absurd d w) (fun _ => rfl))))
  -- one step
  have STEP : i < n1 ∨ j < n2 → k < 576 → pc (m_x11_unlike_J68 (m_x11_unlike_L46 n) p (n1 : Int) (n2 : Int) c (i : Int) (j : Int) (k : Int) S) (fun q => pc (m_x12_unlike_L6 t m ra rb p c x) (fun r => q.1 = r)) := fun one k576 => by
    have ti : ((i : Nat) : Int).toNat = i := Int.toNat_natCast _
    have tj : ((j : Nat) : Int).toNat = j := Int.toNat_natCast _
    -- the two KEYS at hand
    have GO : ∀ ka kb : Int, (i < n1 → ka = gA S 23 i) → (¬ i < n1 → ka = 1000) → (j < n2 → kb = gA S 27 j) → (¬ j < n2 → kb = 1000) → pc (m_x11_unlike_J116 (m_x11_unlike_L46 n) p (n1 : Int) (n2 : Int) c (i : Int) (j : Int) (k : Int) ka kb S) (fun q => pc (m_x12_unlike_L6 t m ra rb p c x) (fun r => q.1 = r)) := fun ka kb ka1 ka2 kb1 kb2 => by
      have xa : x ≤ ka := by
        by_cases z : i < n1
        · rw [ka1 z]; exact a2 i (Nat.le_refl i) z
        · rw [ka2 z]; exact hx1
      have xb : x ≤ kb := by
        by_cases z : j < n2
        · rw [kb1 z]; exact b2 j (Nat.le_refl j) z
        · rw [kb2 z]; exact hx1
      have ua : ka ≤ 1000 := by
        by_cases z : i < n1
        · rw [ka1 z]; have := (RA.2.1 i z).2.2.2; omega
        · rw [ka2 z]; exact Int.le_refl _
      have ub : kb ≤ 1000 := by
        by_cases z : j < n2
        · rw [kb1 z]; have := (RB'.2.1 j z).2.2.2; omega
        · rw [kb2 z]; exact Int.le_refl _
      have lowA : ∀ y, x ≤ y → y < ka → lkA y = -1 := fun y y1 y2 => absA y y1 (fun i' w1 w2 => by
        have z : i < n1 := by omega
        rw [ka1 z] at y2
        by_cases e : i' = i
        · rw [e]; exact y2
        · have := RA.1 i i' (by omega) w2
          omega)
      have lowB : ∀ y, x ≤ y → y < kb → lkB y = -1 := fun y y1 y2 => absB y y1 (fun j' w1 w2 => by
        have z : j < n2 := by omega
        rw [kb1 z] at y2
        by_cases e : j' = j
        · rw [e]; exact y2
        · have := RB'.1 j j' (by omega) w2
          omega)
      obtain ⟨K, hK1, hK2, hK3⟩ : ∃ K : Int, (K = ka ∨ K = kb) ∧ K ≤ ka ∧ K ≤ kb := by
        by_cases z : ka ≤ kb
        · exact ⟨ka, Or.inl rfl, Int.le_refl _, z⟩
        · exact ⟨kb, Or.inr rfl, by omega, Int.le_refl _⟩
      have K999 : K ≤ 999 := by
        rcases one with z | z
        · have := (RA.2.1 i z).2.2.2
          rw [← ka1 z] at this
          omega
        · have := (RB'.2.1 j z).2.2.2
          rw [← kb1 z] at this
          omega
      have xK : x ≤ K := by omega
      -- what the reference does at that KEY
      have REF : ∀ Q : Int → Prop, (lkA K = lkB K → ∀ m', pc (m_x12_unlike_L6 t m' ra rb p c (K + 1)) Q) → (lkA K ≠ lkB K → c = p → Q K) → (lkA K ≠ lkB K → c ≠ p → ∀ m', pc (m_x12_unlike_L6 t m' ra rb p (c + 1) (K + 1)) Q) → pc (m_x12_unlike_L6 t m ra rb p c x) Q := fun Q k1 k2 k3 => by
        refine m_skip hA hB (K - x).toNat x (by omega) (fun y y1 y2 => ⟨lowA y y1 (by omega), lowB y y1 (by omega)⟩) (fun m' => ?_) m
        rw [show x + ((K - x).toNat : Int) = K by omega]
        cases m' with
        | zero => exact pc_none
        | succ m' =>
          show pc (m_x12_unlike_b6 t (m_x12_unlike_L6 t m') ra rb p c K) Q
          unfold m_x12_unlike_b6 m_x12_unlike_J46
          refine pc_rg (pc_if (fun w => absurd w (by omega)) (fun _ => pc_bq (hA K) (fun r17 h17 => pc_bq (hB K) (fun r19 h19 => pc_rg (pc_rg (pc_if (fun w => k1 (h17.symm.trans (w.trans h19)) m') (fun w => pc_rg (pc_rg (pc_if (fun y => pc_some (k2 (fun z => w (h17.trans (z.trans h19.symm))) y)) (fun y => k3 (fun z => w (h17.trans (z.trans h19.symm))) y m'))))))))))
      have atA : ka ≤ kb → i < n1 → lkA K = gA S 24 i := fun z w => by
        rw [show K = gA S 23 i by rw [← ka1 w]; omega]
        exact (RA.2.1 i w).1
      have atB : kb ≤ ka → j < n2 → lkB K = gA S 28 j := fun z w => by
        rw [show K = gA S 27 j by rw [← kb1 w]; omega]
        exact (RB'.2.1 j w).1
      -- on
      have NX : ∀ (c' : Int) (i' j' : Nat), 0 ≤ c' → ((ka ≤ kb ∧ i' = i + 1) ∨ (kb < ka ∧ i' = i)) → ((kb ≤ ka ∧ j' = j + 1) ∨ (ka < kb ∧ j' = j)) → ∀ m', pc (m_x11_unlike_L46 n p (n1 : Int) (n2 : Int) c' (i' : Int) (j' : Int) ((k + 1 : Nat) : Int) S) (fun q => pc (m_x12_unlike_L6 t m' ra rb p c' (K + 1)) (fun r => q.1 = r)) := fun c' i' j' hc' hi' hj' m' => by
        have li : ka ≤ kb → i < n1 := fun z => by
          rcases one with w | w
          · exact w
          · by_cases y : i < n1
            · exact y
            · have e := ka2 y
              have := (RB'.2.1 j w).2.2.2
              rw [← kb1 w] at this
              omega
        have lj : kb ≤ ka → j < n2 := fun z => by
          rcases one with w | w
          · by_cases y : j < n2
            · exact y
            · have e := kb2 y
              have := (RA.2.1 i w).2.2.2
              rw [← ka1 w] at this
              omega
          · exact w
        refine ih i' j' (k + 1) c' (K + 1) m' ?_ ?_ (by omega) hc' (by omega) (by omega) (fun u hu => ?_) (fun u hu hu2 => ?_) (fun u hu => ?_) (fun u hu hu2 => ?_)
        · rcases hi' with ⟨z, e⟩ | ⟨z, e⟩
          · have := li z; omega
          · omega
        · rcases hj' with ⟨z, e⟩ | ⟨z, e⟩
          · have := lj z; omega
          · omega
        · by_cases w : u < i
          · have := a1 u w; omega
          · have e : u = i := by omega
            have z : ka ≤ kb := by omega
            rw [e, ← ka1 (li z)]; omega
        · rcases hi' with ⟨z, e⟩ | ⟨z, e⟩
          · have w := RA.1 i u (by omega) hu2
            have q := ka1 (li z)
            omega
          · by_cases w : u = i
            · rw [w]
              have q := ka1 (by omega)
              omega
            · have w2 := RA.1 i u (by omega) hu2
              have q := ka1 (by omega)
              omega
        · by_cases w : u < j
          · have := b1 u w; omega
          · have e : u = j := by omega
            have z : kb ≤ ka := by omega
            rw [e, ← kb1 (lj z)]; omega
        · rcases hj' with ⟨z, e⟩ | ⟨z, e⟩
          · have w := RB'.1 j u (by omega) hu2
            have q := kb1 (lj z)
            omega
          · by_cases w : u = j
            · rw [w]
              have q := kb1 (by omega)
              omega
            · have w2 := RB'.1 j u (by omega) hu2
              have q := kb1 (by omega)
              omega
      -- the same or not
      have J186 : ∀ (add : Int) (m' : Nat), 0 ≤ c + add → pc (m_x11_unlike_J186 (m_x11_unlike_L46 n) p (n1 : Int) (n2 : Int) (i : Int) (j : Int) (k : Int) ka kb add c S) (fun q => pc (m_x12_unlike_L6 t m' ra rb p (c + add) (K + 1)) (fun r => q.1 = r)) := fun add m' hadd => by
        unfold m_x11_unlike_J186 m_x11_unlike_J203 m_x11_unlike_J220
        have nk : (k : Int) + 1 = ((k + 1 : Nat) : Int) := by omega
        rw [nk]
        refine pc_rg (pc_rg (pc_if (fun w => pc_rg (pc_rg (pc_if (fun w2 => absurd w2 (by omega)) (fun w2 => ?_)))) (fun w => pc_rg (pc_rg (pc_if (fun w2 => ?_) (fun w2 => ?_))))))
        · rw [show (i : Int) + 0 = ((i : Nat) : Int) by omega, show (j : Int) + 1 = ((j + 1 : Nat) : Int) by omega]
          exact NX (c + add) i (j + 1) hadd (Or.inr ⟨w, rfl⟩) (Or.inl ⟨by omega, rfl⟩) m'
        · rw [show (i : Int) + 1 = ((i + 1 : Nat) : Int) by omega, show (j : Int) + 0 = ((j : Nat) : Int) by omega]
          exact NX (c + add) (i + 1) j hadd (Or.inl ⟨by omega, rfl⟩) (Or.inr ⟨w2, rfl⟩) m'
        · rw [show (i : Int) + 1 = ((i + 1 : Nat) : Int) by omega, show (j : Int) + 1 = ((j + 1 : Nat) : Int) by omega]
          exact NX (c + add) (i + 1) (j + 1) hadd (Or.inl ⟨by omega, rfl⟩) (Or.inl ⟨by omega, rfl⟩) m'
      have SAME : lkA K = lkB K → pc (m_x11_unlike_J153 (m_x11_unlike_L46 n) p (n1 : Int) (n2 : Int) c (i : Int) (j : Int) (k : Int) ka kb 1 S) (fun q => pc (m_x12_unlike_L6 t m ra rb p c x) (fun r => q.1 = r)) := fun e => by
        unfold m_x11_unlike_J153 m_x11_unlike_J174
        refine pc_rg (pc_if (fun w => absurd w (by decide)) (fun _ => pc_rg (pc_if (fun w => absurd w (by decide)) (fun _ => ?_))))
        intro q eq
        refine REF _ (fun _ m' => ?_) (fun w => absurd e w) (fun w => absurd e w)
        have g := J186 0 m' (by omega) q eq
        rw [Int.add_zero] at g
        exact g
      have DIFF : lkA K ≠ lkB K → pc (m_x11_unlike_J153 (m_x11_unlike_L46 n) p (n1 : Int) (n2 : Int) c (i : Int) (j : Int) (k : Int) ka kb 0 S) (fun q => pc (m_x12_unlike_L6 t m ra rb p c x) (fun r => q.1 = r)) := fun e => by
        unfold m_x11_unlike_J153 m_x11_unlike_J174
        refine pc_rg (pc_if (fun _ => pc_rg (pc_rg (pc_if (fun w => pc_rg (pc_rg (pc_some ?_))) (fun w => pc_rg (pc_if (fun _ => ?_) (fun d => absurd rfl d)))))) (fun d => absurd rfl d))
        · have mn : minZ ka kb = K := by
            unfold minZ
            by_cases z : kb < ka
            · rw [if_pos z]; omega
            · rw [if_neg z]; omega
          show pc (m_x12_unlike_L6 t m ra rb p c x) (fun r => minZ ka kb = r)
          rw [mn]
          exact REF _ (fun w => absurd w e) (fun _ _ => rfl) (fun _ d => absurd w d)
        · intro q eq
          exact REF _ (fun d => absurd d e) (fun _ d => absurd d w) (fun _ _ m' => J186 1 m' (by omega) q eq)
      unfold m_x11_unlike_J116 m_x11_unlike_J152
      refine pc_rg (pc_rg (pc_if (fun w => pc_rdI (fun _ => pc_rdI (fun _ => ?_))) (fun w => DIFF ?_)))
      · rw [ti, tj]
        have zi : i < n1 := by
          rcases one with z | z
          · exact z
          · by_cases y : i < n1
            · exact y
            · have e := ka2 y
              have := (RB'.2.1 j z).2.2.2
              rw [← kb1 z] at this
              omega
        have zj : j < n2 := by
          by_cases y : j < n2
          · exact y
          · have e := kb2 y
            have := (RA.2.1 i zi).2.2.2
            rw [← ka1 zi] at this
            omega
        have la := atA (by omega) zi
        have lb := atB (by omega) zj
        exact pc_rg (pc_rg (pc_if (fun y => SAME (by rw [la, lb, y])) (fun y => DIFF (by rw [la, lb]; exact y))))
      · by_cases z : ka < kb
        · have zi : i < n1 := by
            by_cases y : i < n1
            · exact y
            · have e := ka2 y
              omega
          have la := atA (by omega) zi
          have n0 := (RA.2.1 i zi).2.1
          have lb := lowB K xK (by omega)
          rw [la, lb]; omega
        · have zj : j < n2 := by
            by_cases y : j < n2
            · exact y
            · have e := kb2 y
              omega
          have lb := atB (by omega) zj
          have n0 := (RB'.2.1 j zj).2.1
          have la := lowA K xK (by omega)
          rw [la, lb]; omega
    have J91 : ∀ ka : Int, (i < n1 → ka = gA S 23 i) → (¬ i < n1 → ka = 1000) → pc (m_x11_unlike_J91 (m_x11_unlike_L46 n) p (n1 : Int) (n2 : Int) c (i : Int) (j : Int) (k : Int) ka S) (fun q => pc (m_x12_unlike_L6 t m ra rb p c x) (fun r => q.1 = r)) := fun ka k1 k2 => by
      unfold m_x11_unlike_J91
      refine pc_rg (pc_rg (pc_if (fun w => GO ka 1000 k1 k2 (fun y => absurd y (by omega)) (fun _ => rfl)) (fun w => pc_rdI (fun _ => GO ka _ k1 k2 (fun _ => by rw [tj]) (fun y => absurd (by omega) y)))))
    unfold m_x11_unlike_J68
    exact pc_rg (pc_rg (pc_if (fun w => J91 1000 (fun y => absurd y (by omega)) (fun _ => rfl)) (fun w => pc_rdI (fun _ => J91 _ (fun _ => by rw [ti]) (fun y => absurd (by omega) y)))))
  show pc (m_x11_unlike_b46 (m_x11_unlike_L46 n) p (n1 : Int) (n2 : Int) c (i : Int) (j : Int) (k : Int) S) _
  unfold m_x11_unlike_b46
  refine pc_rg (pc_if (fun w => FIN (by omega) (by omega)) (fun w => pc_rg (pc_rg (pc_if (fun w2 => STEP (Or.inl (by omega)) (by omega)) (fun w2 => pc_rg (pc_rg (pc_if (fun w3 => FIN (by omega) (by omega)) (fun w3 => STEP (Or.inr (by omega)) (by omega)))))))))
/- a k below -1 is none -/
set_option maxHeartbeats 250000 in theorem s_unl0 {p : Int} (hp : p < -1) : ∀ (n : Nat) (a b c i j k : Int) (S : MS), 0 ≤ c → pc (m_x11_unlike_L46 n p a b c i j k S) (fun q => q.1 = -1) := by
  refine fr_ind (fun _ _ _ _ _ _ _ _ => pc_none) (fun n ih a b c i j k S hc => ?_)
  have J229 : pc (m_x11_unlike_J229 p c S) (fun q => q.1 = -1) := by
    unfold m_x11_unlike_J229 m_x11_unlike_J240
    exact pc_rg (pc_if (fun w => absurd w (by omega)) (fun _ => pc_some rfl))
  have J186 : ∀ (ka kb add : Int), 0 ≤ c + add → pc (m_x11_unlike_J186 (m_x11_unlike_L46 n) p a b i j k ka kb add c S) (fun q => q.1 = -1) := fun ka kb add h => by
    unfold m_x11_unlike_J186 m_x11_unlike_J203 m_x11_unlike_J220
    exact pc_rg (pc_rg (pc_if (fun _ => pc_rg (pc_rg (pc_if (fun _ => ih _ _ _ _ _ _ _ h) (fun _ => ih _ _ _ _ _ _ _ h)))) (fun _ => pc_rg (pc_rg (pc_if (fun _ => ih _ _ _ _ _ _ _ h) (fun _ => ih _ _ _ _ _ _ _ h))))))
  have J153 : ∀ (ka kb s : Int), s = 0 ∨ s = 1 → pc (m_x11_unlike_J153 (m_x11_unlike_L46 n) p a b c i j k ka kb s S) (fun q => q.1 = -1) := fun ka kb s hs => by
    have J174 : pc (m_x11_unlike_J174 (m_x11_unlike_L46 n) p a b c i j k ka kb s S) (fun q => q.1 = -1) := by
      unfold m_x11_unlike_J174
      exact pc_rg (pc_if (fun _ => J186 _ _ _ (by omega)) (fun _ => J186 _ _ _ (by omega)))
    unfold m_x11_unlike_J153
    exact pc_rg (pc_if (fun _ => pc_rg (pc_rg (pc_if (fun w => absurd w (by omega)) (fun _ => J174)))) (fun _ => J174))
  have J116 : ∀ ka kb : Int, pc (m_x11_unlike_J116 (m_x11_unlike_L46 n) p a b c i j k ka kb S) (fun q => q.1 = -1) := fun ka kb => by
    unfold m_x11_unlike_J116 m_x11_unlike_J152
    exact pc_rg (pc_rg (pc_if (fun _ => pc_rdI (fun _ => pc_rdI (fun _ => pc_rg (pc_rg (pc_if (fun _ => J153 _ _ _ (Or.inr rfl)) (fun _ => J153 _ _ _ (Or.inl rfl))))))) (fun _ => J153 _ _ _ (Or.inl rfl))))
  have J68 : pc (m_x11_unlike_J68 (m_x11_unlike_L46 n) p a b c i j k S) (fun q => q.1 = -1) := by
    unfold m_x11_unlike_J68 m_x11_unlike_J91
    exact pc_rg (pc_rg (pc_if (fun _ => pc_rg (pc_rg (pc_if (fun _ => J116 _ _) (fun _ => pc_rdI (fun _ => J116 _ _))))) (fun _ => pc_rdI (fun _ => pc_rg (pc_rg (pc_if (fun _ => J116 _ _) (fun _ => pc_rdI (fun _ => J116 _ _))))))))
  show pc (m_x11_unlike_b46 (m_x11_unlike_L46 n) p a b c i j k S) _
  unfold m_x11_unlike_b46
  exact pc_rg (pc_if (fun _ => J229) (fun _ => pc_rg (pc_rg (pc_if (fun _ => J68) (fun _ => pc_rg (pc_rg (pc_if (fun _ => J229) (fun _ => J68))))))))
/- the class and the reference hold two roots against one another -/
set_option maxHeartbeats 250000 in theorem y_unlike {x t : MS} {ts : List MS} {p a b : Int} {u w : Nat} (hJ : JI t) (B : BT x ts t) (h47 : gI t 47 = gI x 12) (ht : gI x 12 ≠ 0) (hu : u < 16) (hw : w < 16) (ha : ∀ π : Nat → Nat, (∀ v, v < 8 → rtr π (gA x 60 v) (gA t 49 v) ∧ rtr π (gA x 61 v) (gA t 49 (8 + v))) → rtr π a (gA t 49 u) ∧ rtr π b (gA t 49 w)) (nu : gA t 49 u ≠ 255) (nw : gA t 49 w ≠ 255) : pc (m_x11_unlike a b p x) (fun q => (p < -1 → q.1 = -1) ∧ pc (m_x12_unlike (gA t 49 u) (gA t 49 w) p t) (fun r => q.1 = r)) := by
  obtain ⟨π, σ, lo, hi, H, O, N, G, hK, _⟩ := BT_T hJ B h47 ht
  obtain ⟨ra, rb⟩ := ha π H.2.2.2
  have n1 := n1_of G.1.1.1.1
  have k9 : ∀ x, x < 48 → LV t x → ∀ k : Nat, (k : Int) < (hM t).2.1 x → 0 ≤ kM t x k ∧ kM t x k ≤ 999 := fun y hy l k hk => (G.1.1.1.1.2.2.2.2 y hy l).2 k hk
  have rl : ∀ (c : Nat) (r : Int), c < 16 → gA t 49 c ≠ 255 → rtr π r (gA t 49 c) → ((0 ≤ gA t 49 c → gA t 49 c < 48 → LV t (gA t 49 c).toNat ∧ ∃ mu, MV (hM t) mu (gA t 49 c) (fun _ => 0)) ∧ (gA t 49 c < 254 → (0 ≤ gA t 49 c ∧ gA t 49 c < 48) ∧ LV t (gA t 49 c).toNat)) := fun c r hc hn rr => by
    refine ⟨fun y z => ?_, fun y => ?_⟩
    · obtain ⟨mu, h1, _⟩ := RT_tree (u := c) G.1.1.1 hc y (by omega)
      exact ⟨hK.2.2 c hc y z, mu, h1⟩
    · have b48 : 0 ≤ gA t 49 c ∧ gA t 49 c < 48 := by
        rcases rr with ⟨z, _⟩ | ⟨z, _⟩ | ⟨z1, z2, _⟩ <;> omega
      exact ⟨b48, hK.2.2 c hc b48.1 b48.2⟩
  have la := rl u a hu nu ra
  have lb := rl w b hw nw rb
  have WA := root_W hK O n1 k9 la.2
  have WB := root_W hK O n1 k9 lb.2
  have hBx : ∀ y, y < 48 → LV t y → BR1 π (hN x) (hM t) (kN x) (kM t) y := fun y hy l => H.2.2.1 y hy l
  unfold m_x11_unlike
  refine pc_bn (fun q1 e1 => pc_bn (fun q2 e2 => ?_))
  obtain ⟨g1, c1⟩ := s_gatherL hBx H.1 hK ra la.1 q1 e1
  have F1 : F_x10_gather x q1.2 := fr_x10_gather e1
  have eN : hN q1.2 = hN x := by
    unfold hN
    rw [F1.2.1 56 (by decide), F1.2.1 57 (by decide), F1.2.1 59 (by decide)]
  have eK : kN q1.2 = kN x := by
    unfold kN
    rw [F1.2.1 58 (by decide)]
  obtain ⟨g2, c2⟩ := s_gatherL2 (s := q1.2) (fun y hy l => by rw [eN, eK]; exact hBx y hy l) H.1 hK rb lb.1 q2 e2
  have F2 : F_x10_gather_v2 q1.2 q2.2 := fr_x10_gather_v2 e2
  have g1' : ORe (gA q2.2 23) (gA q2.2 24) q1.1 (WR' t (gA t 49 u)) := by
    rw [F2.2.1 23 (by decide), F2.2.1 24 (by decide)]; exact g1
  have g2' : ORe (gA q2.2 27) (gA q2.2 28) q2.1 (WR' t (gA t 49 w)) := g2
  have RA := RWl_of g1' WA.2.1 WA.1
  have RB' := RWl_of g2' WB.2.1 WB.1
  have b1 : (WR' t (gA t 49 u)).length ≤ 288 := by
    have := g1.1
    unfold WR'
    omega
  have b2 : (WR' t (gA t 49 w)).length ≤ 288 := by
    have := g2.1
    unfold WR'
    omega
  rw [g1.1, g2.1]
  refine fun q eq => ⟨fun hp => s_unl0 hp FU _ _ 0 0 0 0 _ (Int.le_refl 0) q eq, ?_⟩
  unfold m_x12_unlike
  exact y_merge WA.2.2 WB.2.2 RA RB' b1 b2 FU 0 0 0 0 0 FU (Nat.zero_le _) (Nat.zero_le _) (Nat.zero_le _) (Int.le_refl 0) (Int.le_refl 0) (by decide) (fun i hi => absurd hi (by omega)) (fun i _ hi => (RA.2.1 i hi).2.2.1) (fun j hj => absurd hj (by omega)) (fun j _ hj => (RB'.2.1 j hj).2.2.1) q eq

/- DIFFERS -/
set_option maxHeartbeats 250000 in theorem y_differs {x t : MS} {ts : List MS} {p0 p1 p2 : Int} (hC : CI x ts) (hJ : JI t) (B : BT x ts t) (h47 : gI t 47 = gI x 12) : pc (m_x11_differs p0 p1 p2 x) (fun q => pc (m_x12_differs p0 p1 p2 t) (fun r => q.1 = r)) := by
  have V := BT_V B hC h47
  unfold m_x11_differs m_x11_differs_J27
  refine pc_bn (fun r3 e3 => pc_rg (pc_if (fun c => pc_some ?_) (fun c => pc_bn (fun r7 e7 => pc_rg (pc_if (fun c2 => pc_some ?_) (fun c2 => pc_rdI (fun _ => pc_rdI (fun _ => ?_))))))))
  · unfold m_x12_differs m_x12_differs_J43 m_x12_differs_J44
    exact pc_rg (pc_bn (fun r4 e4 => pc_rg (pc_if (fun _ => pc_some rfl) (fun d => absurd ((y_isVol V e3 e4).1.symm.trans c) d))))
  · unfold m_x12_differs m_x12_differs_J43 m_x12_differs_J44
    exact pc_rg (pc_bn (fun r4 e4 => pc_rg (pc_if (fun _ => pc_some rfl) (fun _ => pc_rg (pc_bn (fun r9 e9 => pc_rg (pc_if (fun _ => pc_some rfl) (fun d => absurd ((y_isVol V e7 e9).1.symm.trans c2) d))))))))
  have v0 := isVol_y e3 c
  have w0 := isVol_y e7 c2
  obtain ⟨v, hv⟩ : ∃ v : Nat, p0 = (v : Int) := ⟨p0.toNat, by omega⟩
  obtain ⟨w, hw⟩ : ∃ w : Nat, p1 = (w : Int) := ⟨p1.toNat, by omega⟩
  have tv : p0.toNat = v := by omega
  have tw : p1.toNat = w := by omega
  rw [tv] at v0
  rw [tw] at w0
  have v8 : v < 8 := by omega
  have w8 : w < 8 := by omega
  have ht := CI_told hC v8 v0.2
  have nv : gA t 49 v ≠ 255 := fun z => v0.2 ((V v v8).2 (Or.inr z))
  have nw : gA t 49 w ≠ 255 := fun z => w0.2 ((V w w8).2 (Or.inr z))
  have U := y_unlike (p := p2) (a := gA x 60 v) (b := gA x 60 w) hJ B h47 ht (show v < 16 by omega) (show w < 16 by omega) (fun π h => ⟨(h v v8).1, (h w w8).1⟩) nv nw
  rw [tv, tw]
  refine pc_bq U (fun q hq => pc_some ?_)
  unfold m_x12_differs m_x12_differs_J43 m_x12_differs_J44
  refine pc_rg (pc_bn (fun r4 e4 => pc_rg (pc_if (fun d => absurd ((y_isVol V e3 e4).1.trans d) c) (fun _ => pc_rg (pc_bn (fun r9 e9 => pc_rg (pc_if (fun d => absurd ((y_isVol V e7 e9).1.trans d) c2) (fun _ => pc_rg (pc_if (fun g => pc_some (hq.1 g)) (fun _ => pc_rdI (fun _ => pc_rdI (fun _ => ?_))))))))))))
  rw [tv, tw]
  exact pc_bq hq.2 (fun r hr => pc_some hr)
/- BACK -/
set_option maxHeartbeats 250000 in theorem y_back {x t : MS} {ts : List MS} {p0 : Int} (hC : CI x ts) (hJ : JI t) (B : BT x ts t) (h47 : gI t 47 = gI x 12) : pc (m_x11_back p0 x) (fun q => pc (m_x12_back p0 t) (fun r => q.1 = r)) := by
  have V := BT_V B hC h47
  unfold m_x11_back m_x11_back_J27
  refine pc_bn (fun r3 e3 => pc_rg (pc_if (fun c => pc_some ?_) (fun c => pc_rdI (fun _ => ?_))))
  · unfold m_x12_back m_x12_back_J47 m_x12_back_J48
    exact pc_rg (pc_bn (fun r4 e4 => pc_rg (pc_if (fun _ => pc_some rfl) (fun d => absurd ((y_isVol V e3 e4).1.symm.trans c) d))))
  have v0 := isVol_y e3 c
  obtain ⟨v, hv⟩ : ∃ v : Nat, p0 = (v : Int) := ⟨p0.toNat, by omega⟩
  have tv : p0.toNat = v := by omega
  rw [tv] at v0
  have v8 : v < 8 := by omega
  have ht := CI_told hC v8 v0.2
  have nv : gA t 49 v ≠ 255 := fun z => v0.2 ((V v v8).2 (Or.inr z))
  obtain ⟨π0, _, _, _, H0, _⟩ := BT_T hJ B h47 ht
  have rr := rtr_e (H0.2.2.2 v v8).2
  have hx : gA x 61 v = -2 ↔ gA t 49 (8 + v) = 255 := rr.1
  have t8 : (8 + p0).toNat = 8 + v := by omega
  -- the reference
  have REF : ∀ Q : Int → Prop, (gA t 49 (8 + v) = 255 → Q (-1)) → (gA t 49 (8 + v) ≠ 255 → pc (m_x12_unlike (gA t 49 v) (gA t 49 (8 + v)) (-1) t) Q) → pc (m_x12_back p0 t) Q := fun Q k1 k2 => by
    unfold m_x12_back m_x12_back_J47 m_x12_back_J48
    refine pc_rg (pc_bn (fun r4 e4 => pc_rg (pc_if (fun d => absurd ((y_isVol V e3 e4).1.trans d) c) (fun _ => pc_rdI (fun _ => ?_)))))
    rw [t8]
    refine pc_rg (pc_if (fun g => pc_some (k1 g)) (fun g => pc_rdI (fun _ => pc_rdI (fun _ => ?_))))
    rw [tv, t8]
    exact pc_bq (k2 g) (fun r hr => pc_some hr)
  rw [tv]
  refine pc_rg (pc_if (fun g => pc_some (REF _ (fun _ => rfl) (fun n => absurd (hx.1 g) n))) (fun g => pc_rdI (fun _ => pc_rdI (fun _ => ?_))))
  rw [tv]
  have n8 : gA t 49 (8 + v) ≠ 255 := fun z => g (hx.2 z)
  have U := y_unlike (p := -1) (a := gA x 60 v) (b := gA x 61 v) hJ B h47 ht (show v < 16 by omega) (show 8 + v < 16 by omega) (fun π h => ⟨(h v v8).1, (h v v8).2⟩) nv n8
  exact pc_bq U (fun q hq => pc_some (REF _ (fun z => absurd z n8) (fun _ => hq.2)))
