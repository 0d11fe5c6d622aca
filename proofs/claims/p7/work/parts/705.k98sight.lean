/-! ===== what was seen, on both sides ===== -/
set_option maxHeartbeats 250000 in theorem sm_mo {a n : Nat} {f : Nat → Int} (h : a ≤ n) (hz : ∀ i, i < n → 0 ≤ f i) : sm a f ≤ sm n f := by
  obtain ⟨b, hb⟩ : ∃ b, n = a + b := ⟨n - a, by omega⟩
  rw [hb, sm_app]
  have := sm_nn (n := b) (f := fun j => f (a + j)) (fun i hi => hz (a + i) (by omega))
  omega
def SGT (x t : MS) : Prop := gI x 220 = gI t 73 ∧ ∀ k : Nat, (k : Int) < gI x 220 → gA t 74 (2 * k) = gA x 12 k ∧ gA t 74 (2 * k + 1) = gA x 13 k
set_option maxHeartbeats 250000 in theorem SG_k {x x1 t t1 : MS} (h : SGT x t) (a : gI x1 220 = gI x 220) (a2 : gA x1 12 = gA x 12) (a3 : gA x1 13 = gA x 13) (b : gI t1 73 = gI t 73) (b2 : gA t1 74 = gA t 74) : SGT x1 t1 := by
  unfold SGT
  rw [a, a2, a3, b, b2]; exact h
/- the rows of what is on the tape -/
def RWs4 (f : Nat → Int) (n : Int) (a b : Nat → Int) : Prop := ∀ k : Nat, (k : Int) < n → a k = 256 * f (4 * k) + f (4 * k + 1) ∧ b k = 256 * f (4 * k + 2) + f (4 * k + 3)
set_option maxHeartbeats 250000 in theorem s_takeR {s : MS} (h0 : 0 ≤ gI s 61) : pc (m_x7_take s) (fun q => (q.1 = 0 ∧ q.2 = s) ∨ (q.1 = 1 ∧ gI q.2 220 = gI s 61 / 4 ∧ RWs4 (gA s 4) (gI s 61 / 4) (gA q.2 12) (gA q.2 13))) := by
  have kd : Int.tdiv (gI s 61) 4 = gI s 61 / 4 := Int.tdiv_eq_ediv_of_nonneg h0
  have km : Int.tmod (gI s 61) 4 = gI s 61 % 4 := Int.tmod_eq_emod_of_nonneg h0
  unfold m_x7_take m_x7_take_J27
  rw [kd, km]
  refine pc_dv (pc_dv (pc_rg (pc_if (fun c1 => pc_rg (pc_if (fun c2 => pc_some (Or.inl ⟨rfl, rfl⟩)) (fun c2 => pc_rg (pc_if (fun c3 => ?_) (fun c3 => pc_some (Or.inl ⟨rfl, rfl⟩)))))) (fun c1 => pc_some (Or.inl ⟨rfl, rfl⟩)))))
  have L74 : ∀ (n : Nat) (x : Int) (S : MS), 0 ≤ x → gA S 4 = gA s 4 → gI S 61 = gI s 61 → RWs4 (gA s 4) x (gA S 12) (gA S 13) → pc (m_x7_take_L74 n (gI s 61 / 4) x S) (fun q => (q.1 = 0 ∧ q.2 = s) ∨ (q.1 = 1 ∧ gI q.2 220 = gI s 61 / 4 ∧ RWs4 (gA s 4) (gI s 61 / 4) (gA q.2 12) (gA q.2 13))) := by
    refine fr_ind (fun _ _ _ _ _ _ => pc_none) (fun n ih x S hx h4 h61 hr => ?_)
    show pc (m_x7_take_b74 (m_x7_take_L74 n) (gI s 61 / 4) x S) _
    unfold m_x7_take_b74
    refine pc_rg (pc_rg (pc_if (fun c => pc_stn (fun s7 e7 => pc_some (Or.inr ⟨rfl, q_II e7, fun k hk => ?_⟩))) (fun c => pc_bn (fun r9 e9 => pc_inb (pc_stn (fun s11 e11 => pc_bn (fun r13 e13 => pc_inb (pc_stn (fun s15 e15 => ?_)))))))))
    · show gA s7 12 k = _ ∧ gA s7 13 k = _
      rw [(q_Ia e7 : gA s7 12 = gA S 12), (q_Ia e7 : gA s7 13 = gA S 13)]
      exact hr k (by omega)
    · have h9 := t_pair (s := S) (by omega) r9 e9
      have f4 : gA s11 4 = gA S 4 := q_Aa e11 (by decide)
      have f61 : gI s11 61 = gI S 61 := q_Ai e11
      have h13 := t_pair (s := s11) (by omega) r13 e13
      dsimp only at h9 h13
      rw [h4, show (x * 4).toNat = 4 * x.toNat by omega] at h9
      rw [f4, h4, show (x * 4 + 2).toNat = 4 * x.toNat + 2 by omega, show 4 * x.toNat + 2 + 1 = 4 * x.toNat + 3 by omega] at h13
      refine ih (x + 1) s15 (by omega) (((q_Aa e15 (by decide) : gA s15 4 = gA s11 4).trans f4).trans h4) (((q_Ai e15 : gI s15 61 = gI s11 61).trans f61).trans h61) (fun k hk => ?_)
      rw [(q_Aa e15 (by decide) : gA s15 12 = gA s11 12), (q_AA e11 : gA s11 12 = _), (q_AA e15 : gA s15 13 = _), (q_Aa e11 (by decide) : gA s11 13 = gA S 13)]
      by_cases z : k = x.toNat
      · rw [z, upZ_s, upZ_s]; exact ⟨h9, h13⟩
      · rw [upZ_n z, upZ_n z]; exact hr k (by omega)
  have L31 : ∀ (n : Nat) (x : Int), pc (m_x7_take_L31 n (gI s 61 / 4) x s) (fun q => (q.1 = 0 ∧ q.2 = s) ∨ (q.1 = 1 ∧ gI q.2 220 = gI s 61 / 4 ∧ RWs4 (gA s 4) (gI s 61 / 4) (gA q.2 12) (gA q.2 13))) := by
    refine fr_ind (fun _ => pc_none) (fun n ih x => ?_)
    show pc (m_x7_take_b31 (m_x7_take_L31 n) (gI s 61 / 4) x s) _
    unfold m_x7_take_b31 m_x7_take_J64
    exact pc_rg (pc_rg (pc_if (fun _ => L74 FU 0 s (Int.le_refl 0) rfl rfl (fun k hk => absurd hk (by omega))) (fun _ => pc_bn (fun r24 _ => pc_rg (pc_if (fun _ => pc_some (Or.inl ⟨rfl, rfl⟩)) (fun _ => pc_bn (fun r28 _ => pc_rg (pc_if (fun _ => ih (x + 1)) (fun _ => pc_some (Or.inl ⟨rfl, rfl⟩))))))))))
  exact L31 FU 0
set_option maxHeartbeats 250000 in theorem s_seeR {s : MS} (h0 : 0 ≤ gI s 61) : pc (m_x11_see s) (fun q => (q.1 = -1 ∧ gI q.2 220 = gI s 220 ∧ gA q.2 12 = gA s 12 ∧ gA q.2 13 = gA s 13) ∨ (q.1 = gI s 61 / 4 ∧ gI q.2 220 = gI s 61 / 4 ∧ RWs4 (gA s 4) (gI s 61 / 4) (gA q.2 12) (gA q.2 13))) := by
  unfold m_x11_see m_x11_see_J39
  refine pc_bq (s_takeR h0) (fun q5 h5 => pc_stn (fun s6 e6 => pc_rg (pc_if (fun c => pc_bn (fun q11 e11 => pc_some ?_)) (fun c => pc_some ?_))))
  · rcases h5 with ⟨_, h⟩ | ⟨h, _⟩
    · have F : F_x11_refuse s6 q11.2 := fr_x11_refuse e11
      have g1 : pc (m_x11_refuse 1 s6) (fun q => q.1 = -1) := by
        unfold m_x11_refuse
        exact pc_rdI (fun _ => pc_inb (pc_stn (fun s3 _ => pc_some rfl)))
      rw [h] at e6
      exact Or.inl ⟨g1 q11 e11, (F.1 220 (by simp)).trans (q_Ii e6 (by decide)), (F.2.1 12 (by decide)).trans (q_Ia e6), (F.2.1 13 (by decide)).trans (q_Ia e6)⟩
    · exact absurd (h.symm.trans c) (by decide)
  · rcases h5 with ⟨h, _⟩ | ⟨_, h, hr⟩
    · exact absurd h c
    · have i : gI s6 220 = gI s 61 / 4 := (q_Ii e6 (by decide)).trans h
      refine Or.inr ⟨i, i, ?_⟩
      show RWs4 (gA s 4) (gI s 61 / 4) (gA s6 12) (gA s6 13)
      rw [(q_Ia e6 : gA s6 12 = gA q5.2 12), (q_Ia e6 : gA s6 13 = gA q5.2 13)]
      exact hr
set_option maxHeartbeats 250000 in theorem m_seeR {t : MS} (h0 : 0 ≤ gI t 1) : pc (m_x12_see t) (fun o => (o.1 = -1 ∧ gI o.2 73 = gI t 73 ∧ gA o.2 74 = gA t 74) ∨ (o.1 = gI t 1 / 4 ∧ gI o.2 73 = gI t 1 / 4 ∧ ∀ j : Nat, (j : Int) < gI t 1 / 2 → gA o.2 74 j = 256 * gA t 0 (2 * j) + gA t 0 (2 * j + 1))) := by
  have kd : Int.tdiv (gI t 1) 4 = gI t 1 / 4 := Int.tdiv_eq_ediv_of_nonneg h0
  have k2 : Int.tdiv (gI t 1) 2 = gI t 1 / 2 := Int.tdiv_eq_ediv_of_nonneg h0
  have L121 : ∀ (n : Nat) (x : Int) (S : MS), 0 ≤ x → gA S 0 = gA t 0 → (∀ j : Nat, (j : Int) < x → gA S 74 j = 256 * gA t 0 (2 * j) + gA t 0 (2 * j + 1)) → pc (m_x12_see_L121 n (gI t 1) x S) (fun o => o.1 = gI t 1 / 4 ∧ gI o.2 73 = gI t 1 / 4 ∧ ∀ j : Nat, (j : Int) < gI t 1 / 2 → gA o.2 74 j = 256 * gA t 0 (2 * j) + gA t 0 (2 * j + 1)) := by
    refine fr_ind (fun _ _ _ _ _ => pc_none) (fun n ih x S hx hS hr => ?_)
    show pc (m_x12_see_b121 (m_x12_see_L121 n) (gI t 1) x S) _
    unfold m_x12_see_b121
    rw [kd, k2]
    refine pc_dv (pc_rg (pc_rg (pc_if (fun c => pc_dv (pc_stn (fun s9 e9 => pc_some ⟨q_II e9, q_II e9, fun j hj => ?_⟩))) (fun c => pc_rdI (fun _ => pc_rdI (fun _ => pc_inb (pc_stn (fun s13 e13 => ih (x + 1) s13 (by omega) ((q_Aa e13 (by decide) : gA s13 0 = gA S 0).trans hS) (fun j hj => ?_)))))))))
    · show gA s9 74 j = _
      rw [(q_Ia e9 : gA s9 74 = gA S 74)]
      exact hr j (by omega)
    · rw [(q_AA e13 : gA s13 74 = _), hS]
      by_cases z : j = x.toNat
      · rw [z, upZ_s, show (2 * x).toNat = 2 * x.toNat by omega, show (2 * x + 1).toNat = 2 * x.toNat + 1 by omega]
      · rw [upZ_n z]; exact hr j (by omega)
  have J109 : ∀ (y : Int) (S : MS), gA S 0 = gA t 0 → gI S 73 = gI t 73 → gA S 74 = gA t 74 → pc (m_x12_see_J109 (gI t 1) y S) (fun o => (o.1 = -1 ∧ gI o.2 73 = gI t 73 ∧ gA o.2 74 = gA t 74) ∨ (o.1 = gI t 1 / 4 ∧ gI o.2 73 = gI t 1 / 4 ∧ ∀ j : Nat, (j : Int) < gI t 1 / 2 → gA o.2 74 j = 256 * gA t 0 (2 * j) + gA t 0 (2 * j + 1))) := fun y S hS h73 h74 => by
    unfold m_x12_see_J109
    refine pc_rg (pc_if (fun _ => pc_bn (fun q e => pc_some (Or.inl ?_))) (fun _ => pc_mono (L121 FU 0 S (Int.le_refl 0) hS (fun j hj => absurd hj (by omega))) (fun o ho => Or.inr ho)))
    have F : F_x12_refuses S q.2 := fr_x12_refuses e
    have g1 : pc (m_x12_refuses 1 S) (fun q => q.1 = -1) := by
      unfold m_x12_refuses
      exact pc_rdI (fun _ => pc_inb (pc_stn (fun s3 _ => pc_some rfl)))
    exact ⟨g1 q e, (F.1 73 (by simp)).trans h73, (F.2.1 74 (by decide)).trans h74⟩
  have L36 : ∀ (n : Nat) (y x : Int) (S : MS), gA S 0 = gA t 0 → gI S 73 = gI t 73 → gA S 74 = gA t 74 → pc (m_x12_see_L36 n (gI t 1) y x S) (fun o => (o.1 = -1 ∧ gI o.2 73 = gI t 73 ∧ gA o.2 74 = gA t 74) ∨ (o.1 = gI t 1 / 4 ∧ gI o.2 73 = gI t 1 / 4 ∧ ∀ j : Nat, (j : Int) < gI t 1 / 2 → gA o.2 74 j = 256 * gA t 0 (2 * j) + gA t 0 (2 * j + 1))) := by
    refine fr_ind (fun _ _ _ _ _ _ => pc_none) (fun n ih y x S h1 h2 h3 => ?_)
    show pc (m_x12_see_b36 (m_x12_see_L36 n) (gI t 1) y x S) _
    unfold m_x12_see_b36 m_x12_see_J101 m_x12_see_J102
    exact pc_rg (pc_rg (pc_if (fun _ => J109 _ _ h1 h2 h3) (fun _ => pc_rg (pc_if (fun _ => J109 _ _ h1 h2 h3) (fun _ => pc_rdI (fun _ => pc_rdI (fun _ => pc_rg (pc_if (fun _ => ih _ _ _ h1 h2 h3) (fun _ => pc_rdI (fun _ => pc_rdI (fun _ => pc_rg (pc_if (fun _ => ih _ _ _ h1 h2 h3) (fun _ => ih _ _ _ h1 h2 h3)))))))))))))
  unfold m_x12_see m_x12_see_J32 m_x12_see_J33
  refine pc_stn (fun s51 e51 => ?_)
  have a1 : gA s51 0 = gA t 0 := q_Ia e51
  have a2 : gI s51 73 = gI t 73 := q_Ii e51 (by decide)
  have a3 : gA s51 74 = gA t 74 := q_Ia e51
  exact pc_rg (pc_if (fun _ => L36 _ _ _ _ a1 a2 a3) (fun _ => pc_dv (pc_rg (pc_if (fun _ => pc_dv (pc_rg (pc_if (fun _ => L36 _ _ _ _ a1 a2 a3) (fun _ => L36 _ _ _ _ a1 a2 a3)))) (fun _ => L36 _ _ _ _ a1 a2 a3)))))
set_option maxHeartbeats 250000 in theorem SG_see {x t : MS} {q o : Int × MS} (h0 : 0 ≤ gI x 61) (hl : gI x 61 = gI t 1) (hT : TBJ x t) (h : SGT x t) (e1 : m_x11_see x = some q) (e2 : m_x12_see t = some o) (E : q.1 = o.1) : SGT q.2 o.2 := by
  rcases s_seeR h0 q e1 with ⟨a1, a2, a3, a4⟩ | ⟨a1, a2, a3⟩ <;> rcases m_seeR (by omega) o e2 with ⟨b1, b2, b3⟩ | ⟨b1, b2, b3⟩
  · exact SG_k h a2 a3 a4 b2 b3
  · exfalso; omega
  · exfalso; omega
  · refine ⟨by rw [a2, b2, hl], fun k hk => ?_⟩
    rw [a2] at hk
    obtain ⟨r1, r2⟩ := a3 k hk
    have i1 := b3 (2 * k) (by omega)
    have i2' := b3 (2 * k + 1) (by omega)
    rw [show 2 * (2 * k) = 4 * k by omega] at i1
    rw [show 2 * (2 * k + 1) = 4 * k + 2 by omega, show 4 * k + 2 + 1 = 4 * k + 3 by omega] at i2'
    rw [i1, i2', r1, r2, hT (4 * k) (by omega), hT (4 * k + 1) (by omega), hT (4 * k + 2) (by omega), hT (4 * k + 3) (by omega)]
    exact ⟨rfl, rfl⟩
/-! what fits -/
/- one side's VOLUME reads a KEY as the other's does -/
set_option maxHeartbeats 250000 in theorem y_told1 {s t : MS} {ts : List MS} (hJ : JI t) (B : BT s ts t) (h47 : gI t 47 = gI s 12) (z : gI s 12 ≠ 0) {v : Nat} (hv : v < 8) {key : Int} : pc (m_x7_reading (v : Int) key s) (fun r => pc (m_x12_toldOf (v : Int) key t) (fun q => r = q)) := by
  have tv : ((v : Nat) : Int).toNat = v := Int.toNat_natCast _
  unfold m_x7_reading m_x7_reading_J24
  refine pc_rdI (fun _ => ?_)
  rw [tv]
  refine pc_bq (y_valB hJ B h47 z hv) (fun r4 h4 => ?_)
  have G : pc (m_x12_valueOf (v : Int) key t) (fun o => r4 = o) := by
    unfold m_x12_valueOf
    refine pc_rdI (fun _ => ?_)
    rw [tv]
    exact pc_bq h4 (fun r h => pc_some h)
  unfold m_x12_toldOf m_x12_toldOf_J19
  exact pc_rg (pc_if (fun c => pc_some (pc_bq G (fun q hq => pc_rg (pc_if (fun _ => pc_some rfl) (fun d => absurd (hq.symm.trans c) d))))) (fun c => pc_some (pc_bq G (fun q hq => pc_rg (pc_if (fun d => absurd (hq.trans d) c) (fun _ => pc_some hq))))))
set_option maxHeartbeats 250000 in theorem y_agree {s t : MS} {ts : List MS} (hJ : JI t) (B : BT s ts t) (h47 : gI t 47 = gI s 12) (z : gI s 12 ≠ 0) (G : SGT s t) {v : Nat} (hv : v < 8) : ∀ (n m : Nat) (x : Int), 0 ≤ x → pc (m_x7_agrees_L2 s n (v : Int) x) (fun r => pc (m_x12_doesFit_L13 t m (v : Int) x) (fun q => r = q ∧ (r = 0 ∨ r = 1))) := by
  refine fr_ind (fun _ _ _ => pc_none) (fun n ih m x hx => ?_)
  cases m with
  | zero => exact fun q _ => pc_none
  | succ m =>
    show pc (m_x7_agrees_b2 s (m_x7_agrees_L2 s n) (v : Int) x) _
    unfold m_x7_agrees_b2
    have REF : ∀ Q : Int → Prop, (gI s 220 ≤ x → Q 1) → (¬ gI s 220 ≤ x → pc (m_x12_toldOf (v : Int) (gA s 12 x.toNat) t) (fun r8 => (r8 = gA s 13 x.toNat → pc (m_x12_doesFit_L13 t m (v : Int) (x + 1)) Q) ∧ (r8 ≠ gA s 13 x.toNat → Q 0))) → pc (m_x12_doesFit_L13 t (m + 1) (v : Int) x) Q := fun Q k1 k2 => by
      show pc (m_x12_doesFit_b13 t (m_x12_doesFit_L13 t m) (v : Int) x) Q
      unfold m_x12_doesFit_b13
      refine pc_rg (pc_rg (pc_if (fun c => pc_some (k1 (by rw [G.1]; exact c))) (fun c => pc_rdI (fun _ => ?_))))
      have g := G.2 x.toNat (by rw [G.1]; omega)
      have g1 : gA t 74 (2 * x).toNat = gA s 12 x.toNat := by rw [show (2 * x).toNat = 2 * x.toNat by omega]; exact g.1
      have g2 : gA t 74 (2 * x + 1).toNat = gA s 13 x.toNat := by rw [show (2 * x + 1).toNat = 2 * x.toNat + 1 by omega]; exact g.2
      rw [g1]
      refine pc_bq (k2 (by rw [G.1]; exact c)) (fun r8 h8 => pc_rdI (fun _ => ?_))
      rw [g2]
      exact pc_rg (pc_rg (pc_if (fun c2 => h8.1 c2) (fun c2 => pc_some (h8.2 c2))))
    refine pc_rg (pc_rg (pc_if (fun c => pc_some (REF _ (fun _ => ⟨rfl, Or.inr rfl⟩) (fun d => absurd c d))) (fun c => pc_rdI (fun _ => pc_bq (y_told1 hJ B h47 z hv) (fun r8 h8 => pc_rdI (fun _ => pc_rg (pc_rg (pc_if (fun c2 => ?_) (fun c2 => pc_some (REF _ (fun d => absurd d c) (fun _ => pc_mono h8 (fun q hq => ⟨fun d => absurd (hq.trans d) c2, fun _ => ⟨rfl, Or.inl rfl⟩⟩))))))))))))
    exact fun r e => REF _ (fun d => absurd d c) (fun _ => pc_mono h8 (fun q hq => ⟨fun _ => ih m (x + 1) (by omega) r e, fun d => absurd (hq.symm.trans c2) d⟩))
def fitv (t : MS) (v : Nat) : Int := if m_x12_doesFit (v : Int) t = some 0 then 0 else 1
/- whether a VOLUME fits -/
set_option maxHeartbeats 250000 in theorem y_fit {s t : MS} {ts : List MS} (hJ : JI t) (B : BT s ts t) (h47 : gI t 47 = gI s 12) (V : VJ s t) (G : SGT s t) (hR : Rr t) {v : Nat} (hv : v < 8) : pc (m_x8_isVolume (v : Int) s) (fun r8 => (r8 = 0 → fitv t v = 0) ∧ (r8 ≠ 0 → pc (m_x7_agrees (v : Int) s) (fun r12 => fitv t v = r12))) := by
  obtain ⟨w, ew, _⟩ := w_x12_doesFit hR (p0 := (v : Int)) (by show (-2147483648 : Int) ≤ (v : Int) ∧ (v : Int) ≤ 2147483647; omega) hJ
  have fw : fitv t v = if w = 0 then 0 else 1 := by
    unfold fitv
    by_cases c : w = 0
    · rw [if_pos c, if_pos (by rw [ew, c])]
    · rw [if_neg c, if_neg (fun d => c (Option.some.inj (ew.symm.trans d)))]
  intro r8 e8
  have D : ∀ Q : Int → Prop, (r8 = 0 → Q 0) → (r8 ≠ 0 → pc (m_x12_doesFit_L13 t FU (v : Int) 0) Q) → Q w := fun Q k1 k2 => by
    have g : pc (m_x12_doesFit (v : Int) t) Q := by
      unfold m_x12_doesFit
      refine pc_rg (pc_bn (fun r15 e15 => ?_))
      have Y := (y_isVol V e8 e15).1
      exact pc_rg (pc_if (fun c => pc_some (k1 (Y.trans c))) (fun c => k2 (fun d => c (Y.symm.trans d))))
    exact g w ew
  refine ⟨fun c => ?_, fun c => ?_⟩
  · rw [fw, if_pos (D (fun q => q = 0) (fun _ => rfl) (fun d => absurd c d))]
  · have v0 := isVol_y e8 c
    have zt : gI s 12 ≠ 0 := fun z => by
      have u := (B.2.2.1 z)
      rcases s_isVol r8 e8 with ⟨_, _, a⟩ | ⟨a, _⟩
      · exact a ((V v hv).2 (Or.inl (h47.trans z)))
      · exact c a
    unfold m_x7_agrees
    intro r12 e12
    have g := D (fun q => r12 = q ∧ (r12 = 0 ∨ r12 = 1)) (fun d => absurd d c) (fun _ => y_agree hJ B h47 zt G hv FU FU 0 (Int.le_refl 0) r12 e12)
    rw [fw, ← g.1]
    rcases g.2 with u | u
    · rw [if_pos u, u]
    · rw [if_neg (by omega), u]
set_option maxHeartbeats 250000 in theorem m_fitv {t : MS} {v : Nat} : pc (m_x12_doesFit (v : Int) t) (fun q => (q = 0 → fitv t v = 0) ∧ (q ≠ 0 → fitv t v = 1)) := fun q e => ⟨fun c => by unfold fitv; rw [if_pos (by rw [e, c])], fun c => by unfold fitv; rw [if_neg (fun d => c (Option.some.inj (e.symm.trans d)))]⟩
/- which VOLUMES fit, in order -/
set_option maxHeartbeats 250000 in theorem s_findFits {x t : MS} {ts : List MS} (hJ : JI t) (B : BT x ts t) (h47 : gI t 47 = gI x 12) (V : VJ x t) (G : SGT x t) (hR : Rr t) : pc (m_x7_findFits x) (fun q => q.1 = sm 8 (fitv t) ∧ gI q.2 224 = sm 8 (fitv t) ∧ ∀ v : Nat, v < 8 → fitv t v = 1 → gA q.2 14 (sm v (fitv t)).toNat = (v : Int)) := by
  have f01 : ∀ v, v < 8 → fitv t v = 0 ∨ fitv t v = 1 := fun v _ => by unfold fitv; split; exact Or.inl rfl; exact Or.inr rfl
  have L : ∀ (n : Nat) (v : Nat) (S : MS), v ≤ 8 → (∀ k, k ≠ 224 → gI S k = gI x k) → (∀ k, k ≠ 14 → gA S k = gA x k) → (∀ k, gL S k = gL x k) → gI S 224 = sm v (fitv t) → (∀ u : Nat, u < v → fitv t u = 1 → gA S 14 (sm u (fitv t)).toNat = (u : Int)) → pc (m_x7_findFits_L7 n (v : Int) S) (fun q => q.1 = sm 8 (fitv t) ∧ gI q.2 224 = sm 8 (fitv t) ∧ ∀ v : Nat, v < 8 → fitv t v = 1 → gA q.2 14 (sm v (fitv t)).toNat = (v : Int)) := by
    refine fr_ind (fun _ _ _ _ _ _ _ _ => pc_none) (fun n ih v S hv kI kA kL hc hr => ?_)
    show pc (m_x7_findFits_b7 (m_x7_findFits_L7 n) (v : Int) S) _
    unfold m_x7_findFits_b7 m_x7_findFits_J50
    refine pc_rg (pc_if (fun c => ?_) (fun c => ?_))
    · have v8 : v = 8 := by omega
      rw [v8] at hc hr
      exact pc_some ⟨hc, hc, hr⟩
    have BS : BT S ts t := BT_n B ⟨fun k hk => kI k (by omega), fun k hk => kA k (by omega)⟩ (ZY_rf t) (kI 983 (by decide)) (kA 2 (by decide)) rfl rfl
    have VS : VJ S t := fun u hu => by rw [kA 60 (by decide)]; exact V u hu
    have GS : SGT S t := SG_k G (kI 220 (by decide)) (kA 12 (by decide)) (kA 13 (by decide)) rfl rfl
    have st : ∀ w : Int, fitv t v = w → sm (v + 1) (fitv t) = sm v (fitv t) + w := fun w hw => by rw [← hw]; rfl
    have nat1 : (v : Int) + 1 = ((v + 1 : Nat) : Int) := by omega
    refine pc_bq (y_fit hJ BS (h47.trans (kI 12 (by decide)).symm) VS GS hR (v := v) (by omega)) (fun r8 h8 => pc_rg (pc_if (fun c2 => ?_) (fun c2 => pc_bq (h8.2 c2) (fun r12 h12 => pc_rg (pc_if (fun c3 => ?_) (fun c3 => pc_inb (pc_stn (fun s16 e16 => pc_stn (fun s17 e17 => ?_)))))))))
    · rw [nat1]
      refine ih (v + 1) S (by omega) kI kA kL (by rw [st 0 (h8.1 c2), hc]; omega) (fun u hu h1 => ?_)
      by_cases e : u = v
      · rw [e, h8.1 c2] at h1; exact absurd h1 (by decide)
      · exact hr u (by omega) h1
    · rw [nat1]
      refine ih (v + 1) S (by omega) kI kA kL (by rw [st 0 (h12.trans c3), hc]; omega) (fun u hu h1 => ?_)
      by_cases e : u = v
      · rw [e, h12, c3] at h1; exact absurd h1 (by decide)
      · exact hr u (by omega) h1
    · have f1 : fitv t v = 1 := by
        rcases f01 v (by omega) with w | w
        · exact absurd (h12.symm.trans w) c3
        · exact w
      rw [nat1]
      refine ih (v + 1) s17 (by omega) (fun k hk => (q_Ii e17 hk).trans ((q_Ai e16).trans (kI k hk))) (fun k hk => (q_Ia e17).trans ((q_Aa e16 hk).trans (kA k hk))) (fun k => (q_Il e17).trans ((q_Al e16).trans (kL k))) (by rw [(q_II e17 : gI s17 224 = _), (q_Ai e16 : gI s16 224 = gI S 224), hc, st 1 f1]) (fun u hu h1 => ?_)
      rw [(q_Ia e17 : gA s17 14 = gA s16 14), (q_AA e16 : gA s16 14 = _), hc]
      by_cases e : u = v
      · rw [e]; exact upZ_s
      · have lt : (sm u (fitv t)).toNat ≠ (sm v (fitv t)).toNat := by
          have m1 : sm (u + 1) (fitv t) ≤ sm v (fitv t) := sm_mo (by omega) (fun k hk => by rcases f01 k (by omega) with w | w <;> omega)
          have m2 : sm (u + 1) (fitv t) = sm u (fitv t) + fitv t u := rfl
          have m0 : 0 ≤ sm u (fitv t) := sm_nn (fun k hk => by rcases f01 k (by omega) with w | w <;> omega)
          omega
        rw [upZ_n lt]
        exact hr u (by omega) h1
  unfold m_x7_findFits
  refine pc_stn (fun s18 e18 => L FU 0 s18 (by decide) (fun k hk => q_Ii e18 hk) (fun k _ => q_Ia e18) (fun k => q_Il e18) (q_II e18) (fun u hu => absurd hu (by omega)))
set_option maxHeartbeats 250000 in theorem y_fits {x t : MS} {ts : List MS} {p : Int} (hC : CI x ts) (hR : Rr t) (hJ : JI t) (B : BT x ts t) (h47 : gI t 47 = gI x 12) (G : SGT x t) : pc (m_x11_fits p x) (fun q => pc (m_x12_fits p t) (fun r => q.1 = r)) := by
  have V := BT_V B hC h47
  have f01 : ∀ v, v < 8 → fitv t v = 0 ∨ fitv t v = 1 := fun v _ => by unfold fitv; split; exact Or.inl rfl; exact Or.inr rfl
  have mono : ∀ u v : Nat, u ≤ v → v ≤ 8 → sm u (fitv t) ≤ sm v (fitv t) := fun u v h1 h2 => sm_mo h1 (fun k hk => by rcases f01 k (by omega) with w | w <;> omega)
  -- the reference
  have REF : ∀ Q : Int → Prop, (p < -1 → Q (-1)) → (p = -1 → Q (sm 8 (fitv t))) → (0 ≤ p → sm 8 (fitv t) ≤ p → Q (-1)) → (0 ≤ p → ∀ v : Nat, v < 8 → fitv t v = 1 → sm v (fitv t) = p → Q (v : Int)) → pc (m_x12_fits p t) Q := fun Q k0 k1 k2 k3 => by
    have L : ∀ (n : Nat) (v : Nat) (c : Int), -1 ≤ p → v ≤ 8 → c = sm v (fitv t) → (0 ≤ p → c ≤ p) → pc (m_x12_fits_L11 t n p c (v : Int)) Q := by
      refine fr_ind (fun _ _ _ _ _ _ => pc_none) (fun n ih v c hp hv hc hcp => ?_)
      show pc (m_x12_fits_b11 t (m_x12_fits_L11 t n) p c (v : Int)) Q
      unfold m_x12_fits_b11 m_x12_fits_J54 m_x12_fits_J38
      have nat1 : (v : Int) + 1 = ((v + 1 : Nat) : Int) := by omega
      refine pc_rg (pc_if (fun c8 => ?_) (fun c8 => pc_bq m_fitv (fun r13 h13 => pc_rg (pc_if (fun c2 => ?_) (fun c2 => pc_rg (pc_rg (pc_if (fun c3 => pc_some ?_) (fun c3 => ?_))))))))
      · have v8 : v = 8 := by omega
        rw [v8] at hc
        refine pc_rg (pc_if (fun c4 => pc_some ?_) (fun c4 => pc_some ?_))
        · rw [hc]; exact k1 c4
        · exact k2 (by omega) (by rw [← hc]; exact hcp (by omega))
      · rw [nat1]
        have st : sm (v + 1) (fitv t) = sm v (fitv t) + fitv t v := rfl
        exact ih (v + 1) c hp (by omega) (by rw [st, h13.1 c2, hc]; omega) hcp
      · have p0 : 0 ≤ p := by
          have := mono 0 v (Nat.zero_le _) hv
          have e0 : sm 0 (fitv t) = 0 := rfl
          omega
        exact k3 p0 v (by omega) (h13.2 c2) (by rw [← hc]; exact c3)
      · rw [nat1]
        have st : sm (v + 1) (fitv t) = sm v (fitv t) + fitv t v := rfl
        exact ih (v + 1) (c + 1) hp (by omega) (by rw [st, h13.2 c2, hc]) (fun z => by have := hcp z; omega)
    unfold m_x12_fits
    refine pc_rg (pc_if (fun c => L FU 0 0 c (by decide) rfl id) (fun c => pc_some (k0 (by omega))))
  unfold m_x11_fits m_x11_fits_J43 m_x11_fits_J44
  refine pc_bq (s_findFits hJ B h47 V G hR) (fun q6 h6 => ?_)
  obtain ⟨a1, a2, a3⟩ := h6
  refine pc_rg (pc_if (fun c => pc_some (REF _ (fun z => absurd z (by omega)) (fun _ => a1) (fun z => absurd z (by omega)) (fun z => absurd z (by omega)))) (fun c => pc_rg (pc_if (fun c2 => pc_some (REF _ (fun _ => rfl) (fun z => absurd z c) (fun z => absurd c2 (by omega)) (fun z => absurd c2 (by omega)))) (fun c2 => pc_rg (pc_rg (pc_if (fun c3 => pc_some (REF _ (fun z => absurd z (by omega)) (fun z => absurd z c) (fun _ _ => rfl) (fun z v hv f1 e => ?_))) (fun c3 => pc_rdI (fun _ => pc_some (REF _ (fun z => absurd z (by omega)) (fun z => absurd z c) (fun z w => absurd w (by rw [← a1]; exact c3)) (fun z v hv f1 e => ?_))))))))))
  · have m1 := mono (v + 1) 8 (by omega) (by decide)
    have st : sm (v + 1) (fitv t) = sm v (fitv t) + fitv t v := rfl
    omega
  · have g := a3 v hv f1
    rw [e] at g
    exact g
/-! what was seen is forgotten by a STORE that stands -/
set_option maxHeartbeats 250000 in theorem m73_L : ∀ (n : Nat) (x : Int) (S : MS), pc (m_x12_stands_L193 n x S) (fun o => gI o 73 = 0) := by
  refine fr_ind (fun _ _ => pc_none) (fun n ih x S => ?_)
  show pc (m_x12_stands_b193 (m_x12_stands_L193 n) x S) _
  unfold m_x12_stands_b193
  exact pc_rdI (fun _ => pc_rg (pc_rg (pc_if (fun _ => pc_bn (fun s8 _ => pc_inb (pc_stn (fun s10 _ => pc_stn (fun s11 _ => pc_stn (fun s12 e12 => pc_some (q_II e12))))))) (fun _ => pc_rdI (fun _ => pc_rdI (fun _ => pc_rdI (fun _ => pc_rdI (fun _ => pc_bn (fun s18 _ => ih _ _)))))))))
set_option maxHeartbeats 250000 in theorem m_J109s {T : MS} (hR : Rr T) : pc (m_x12_store_J109 T) (fun o => (o.1 = -1 ∧ gI o.2 73 = gI T 73 ∧ gA o.2 74 = gA T 74) ∨ (o.1 = gI o.2 46 ∧ gI o.2 73 = 0)) := by
  have h45 : (0 : Int) ≤ gI T 45 ∧ gI T 45 ≤ 1600 := hR.1 45
  unfold m_x12_store_J109
  refine pc_stn (fun s2 e2 => pc_stn (fun s3 e3 => ?_))
  have i3 : ∀ k, k ≠ 7 → k ≠ 8 → gI s3 k = gI T k := fun k h7 h8 => (q_Ii e3 h8).trans (q_Ii e2 h7)
  have a3 : gA s3 74 = gA T 74 := (q_Ia e3 : gA s3 74 = gA s2 74).trans (q_Ia e2)
  refine pc_rg (pc_if (fun _ => pc_bn (fun s7 e7 => pc_some (Or.inr ⟨rfl, ?_⟩))) (fun _ => pc_bn (fun q e => pc_some (Or.inl ?_))))
  · exact m_std (P := fun o => gI o 73 = 0) (by rw [i3 45 (by decide) (by decide)]; exact h45) (fun X _ => m73_L FU 0 X) s7 e7
  · have F : F_x12_refuses s3 q.2 := fr_x12_refuses e
    have g1 : pc (m_x12_refuses 1 s3) (fun q => q.1 = -1) := by
      unfold m_x12_refuses
      exact pc_rdI (fun _ => pc_inb (pc_stn (fun s3 _ => pc_some rfl)))
    exact ⟨g1 q e, (F.1 73 (by simp)).trans (i3 73 (by decide) (by decide)), (F.2.1 74 (by decide)).trans a3⟩
set_option maxHeartbeats 250000 in theorem s_store220 {x : MS} : pc (m_x11_store x) (fun q => (q.1 = -1 ∧ gI q.2 220 = gI x 220 ∧ gA q.2 12 = gA x 12 ∧ gA q.2 13 = gA x 13) ∨ (q.1 = gI q.2 583 ∧ gI q.2 220 = 0)) := by
  unfold m_x11_store
  refine pc_bn (fun q3 e3 => pc_stn (fun s4 e4 => ?_))
  have F3 : F_x6_readStore x q3.2 := fr_x6_readStore e3
  refine pc_rg (pc_if (fun _ => pc_bn (fun q17 e17 => pc_some (Or.inl ?_))) (fun _ => pc_eqg (pc_stn (fun s8 e8 => pc_bn (fun s10 e10 => pc_bn (fun s12 e12 => pc_stn (fun s13 e13 => pc_stn (fun s14 e14 => pc_some (Or.inr ⟨rfl, ?_⟩)))))))))
  · have F : F_x11_refuse s4 q17.2 := fr_x11_refuse e17
    have g1 : pc (m_x11_refuse 1 s4) (fun q => q.1 = -1) := by
      unfold m_x11_refuse
      exact pc_rdI (fun _ => pc_inb (pc_stn (fun s3 _ => pc_some rfl)))
    exact ⟨g1 q17 e17, ((F.1 220 (by simp)).trans (q_Ii e4 (by decide))).trans (F3.1 220 (by decide)), ((F.2.1 12 (by decide)).trans (q_Ia e4)).trans (F3.2.1 12 (by decide)), ((F.2.1 13 (by decide)).trans (q_Ia e4)).trans (F3.2.1 13 (by decide))⟩
  · exact (q_Ii e14 (by decide) : gI s14 220 = gI s13 220).trans (q_II e13)
set_option maxHeartbeats 250000 in theorem SG_store {x t : MS} {ts : List MS} {q o : Int × MS} (hC : CI x ts) (hR : Rr t) (hJ : JI t) (h : SGT x t) (e1 : m_x11_store x = some q) (e2 : m_x12_store t = some o) (E : q.1 = o.1) : SGT q.2 o.2 := by
  obtain ⟨T', ⟨⟨RT', KT', _⟩, _⟩, eJ⟩ := rs_store hR o e2
  have r583 := ((wp_det (c_store hC) e1).1.1.1 583).1
  have n583 : (0 : Int) ≤ gI q.2 583 := r583
  have r46 := ((wp_det (w_x12_store hR hJ) e2).1.1 46).1
  have n46 : (0 : Int) ≤ gI o.2 46 := r46
  rcases s_store220 q e1 with ⟨a1, a2, a3, a4⟩ | ⟨a1, a2⟩ <;> rcases m_J109s RT' o eJ with ⟨b1, b2, b3⟩ | ⟨b1, b2⟩
  · exact SG_k h a2 a3 a4 (b2.trans (KT'.2.1 73 (by decide))) (b3.trans (KT'.2.2.1 74 (by decide)))
  · exfalso; omega
  · exfalso; omega
  · refine ⟨a2.trans b2.symm, fun k hk => ?_⟩
    rw [a2] at hk
    exact absurd hk (by omega)
/-! ===== how long an image is, on both sides ===== -/
set_option maxHeartbeats 250000 in theorem s_add1 {p : Int} {s : MS} (h : gI s 321 < 1364) : pc (m_x4_add p s) (fun o => gI o 321 = gI s 321 + 1) := by
  unfold m_x4_add m_x4_add_J36
  exact pc_rg (pc_if (fun c => absurd c (by omega)) (fun _ => pc_inb (pc_stn (fun s5 e5 => pc_stn (fun s6 e6 => pc_some (by rw [(q_II e6 : gI s6 321 = _), (q_Ai e5 : gI s5 321 = gI s 321)]))))))
set_option maxHeartbeats 250000 in theorem s_addP2 {p : Int} {s : MS} (h : gI s 321 + 1 < 1364) : pc (m_x4_addPair p s) (fun o => gI o 321 = gI s 321 + 2) := by
  unfold m_x4_addPair
  exact pc_bq (s_add1 (by omega)) (fun s2 h2 => pc_bq (s_add1 (by omega)) (fun s4 h4 => pc_some (by omega)))
set_option maxHeartbeats 250000 in theorem s_drawB {p : Nat} {s : MS} (hn : 0 ≤ gA s 57 p) (hb : gI s 321 + 2 + 4 * gA s 57 p ≤ 1363) : pc (m_x4_drawBlock (p : Int) s) (fun o => gI o 321 = gI s 321 + 2 + 4 * gA s 57 p) := by
  have tp : ((p : Nat) : Int).toNat = p := Int.toNat_natCast _
  have L : ∀ (n : Nat) (x : Int) (S : MS), (0 ≤ x ∧ x ≤ gA s 57 p) → gA S 57 = gA s 57 → gI S 321 = gI s 321 + 2 + 4 * x → pc (m_x4_drawBlock_L22 n (p : Int) x S) (fun o => gI o 321 = gI s 321 + 2 + 4 * gA s 57 p) := by
    refine fr_ind (fun _ _ _ _ _ => pc_none) (fun n ih x S hx h57 h321 => ?_)
    show pc (m_x4_drawBlock_b22 (m_x4_drawBlock_L22 n) (p : Int) x S) _
    unfold m_x4_drawBlock_b22 m_x8_slot
    refine pc_rdI (fun _ => ?_)
    rw [tp, h57]
    refine pc_rg (pc_rg (pc_if (fun c => pc_some (by omega)) (fun c => pc_bn (fun r9 _ => pc_rdI (fun _ => pc_bn (fun s12 e12 => pc_bn (fun r14 _ => pc_rdI (fun _ => pc_bn (fun s17 e17 => ?_)))))))))
    have h12 := s_addP2 (by omega) s12 e12
    have F12 : F_x4_addPair S s12 := fr_x4_addPair e12
    have h17 := s_addP2 (by omega) s17 e17
    have F17 : F_x4_addPair s12 s17 := fr_x4_addPair e17
    exact ih (x + 1) s17 (by omega) ((F17.2.1 57 (by decide)).trans ((F12.2.1 57 (by decide)).trans h57)) (by omega)
  unfold m_x4_drawBlock
  refine pc_rdI (fun _ => pc_bn (fun s20 e20 => pc_rdI (fun _ => pc_bn (fun s23 e23 => ?_))))
  have h20 := s_add1 (by omega) s20 e20
  have F20 : F_x4_add s s20 := fr_x4_add e20
  have h23 := s_add1 (by omega) s23 e23
  have F23 : F_x4_add s20 s23 := fr_x4_add e23
  exact L FU 0 s23 ⟨Int.le_refl 0, hn⟩ ((F23.2.1 57 (by decide)).trans (F20.2.1 57 (by decide))) (by omega)
/- what a BLOCK takes -/
def gS (s : MS) (b : Nat) : Int := 2 + (if 0 < gA s 54 b ∨ 0 < gA s 55 b then 2 + 4 * gA s 57 b else 0)
def gM (t : MS) (b : Nat) : Int := 2 + (if 0 < cM t b ∨ 0 < vM t b then 2 + 4 * (hM t).2.1 b else 0)
set_option maxHeartbeats 250000 in theorem s_imgL {s : MS} (hN : 0 ≤ gI s 1060 ∧ gI s 1060 ≤ 48) (h0 : ∀ b : Nat, (b : Int) < gI s 1060 → 0 ≤ gA s 54 b ∧ 0 ≤ gA s 55 b) (hz : ∀ b : Nat, (b : Int) < gI s 1060 → 0 < gA s 54 b ∨ 0 < gA s 55 b → 0 ≤ gA s 57 b ∧ gA s 57 b ≤ 6) : pc (m_x11_image s) (fun q => q.1 = 20 + cn (gI s 1060) (gS s)) := by
  have g28 : ∀ b : Nat, (b : Int) < gI s 1060 → gS s b ≤ 28 := fun b hb => by
    unfold gS
    by_cases z : 0 < gA s 54 b ∨ 0 < gA s 55 b
    · rw [if_pos z]; have := hz b hb z; omega
    · rw [if_neg z]; decide
  have L69 : ∀ (n : Nat) (x : Int) (S : MS), (0 ≤ x ∧ x ≤ gI s 1060) → gI S 1060 = gI s 1060 → (∀ k, k ≠ 17 → gA S k = gA s k) → gI S 321 = 19 + sm x.toNat (gS s) → pc (m_x4_draw_L69 n x S) (fun q => q.1 = 20 + cn (gI s 1060) (gS s)) := by
    refine fr_ind (fun _ _ _ _ _ _ => pc_none) (fun n ih x S hx hI hA h321 => ?_)
    show pc (m_x4_draw_b69 (m_x4_draw_L69 n) x S) _
    unfold m_x4_draw_b69 m_x4_draw_J111
    rw [hI]
    have bd := sm_bd (n := x.toNat) (f := gS s) (c := 28) (fun i hi => g28 i (by omega))
    have st : sm (x + 1).toNat (gS s) = sm x.toNat (gS s) + gS s x.toNat := by
      rw [show (x + 1).toNat = x.toNat + 1 by omega]; rfl
    refine pc_rg (pc_rg (pc_if (fun c => pc_bn (fun r9 _ => pc_bn (fun s11 e11 => pc_some ?_))) (fun c => pc_rdI (fun _ => pc_bn (fun s14 e14 => pc_rdI (fun _ => pc_bn (fun s17 e17 => pc_bq s_isFree (fun r19 h19 => ?_))))))))
    · have h11 := s_add1 (by omega) s11 e11
      have e : sm x.toNat (gS s) = cn (gI s 1060) (gS s) := by
        rw [show x = gI s 1060 by omega]; exact cn_sm hN.2
      show gI s11 321 = _
      omega
    · have h14 := s_add1 (by omega) s14 e14
      have F14 : F_x4_add S s14 := fr_x4_add e14
      have h17 := s_add1 (by omega) s17 e17
      have F17 : F_x4_add s14 s17 := fr_x4_add e17
      have a17 : ∀ k, k ≠ 17 → gA s17 k = gA s k := fun k hk => ((F17.2.1 k (by simp; omega)).trans (F14.2.1 k (by simp; omega))).trans (hA k hk)
      have i17 : gI s17 1060 = gI s 1060 := ((F17.1 1060 (by decide)).trans (F14.1 1060 (by decide))).trans hI
      rw [i17, a17 54 (by decide), a17 55 (by decide)] at h19
      have z0 := h0 x.toNat (by omega)
      refine pc_rg (pc_if (fun c2 => pc_bn (fun s23 e23 => ?_)) (fun c2 => ih (x + 1) s17 (by omega) i17 a17 ?_))
      · have lv : 0 < gA s 54 x.toNat ∨ 0 < gA s 55 x.toNat := by
          rcases h19 with ⟨a, _⟩ | ⟨_, a⟩
          · exact absurd (a.symm.trans c2) (by decide)
          · by_cases y : gA s 54 x.toNat = 0
            · by_cases y2 : gA s 55 x.toNat = 0
              · exact absurd ⟨⟨hx.1, by omega⟩, y, y2⟩ a
              · exact Or.inr (by omega)
            · exact Or.inl (by omega)
        have zz := hz x.toNat (by omega) lv
        have g : gS s x.toNat = 2 + (2 + 4 * gA s 57 x.toNat) := by unfold gS; rw [if_pos lv]
        rw [show x = ((x.toNat : Nat) : Int) by omega] at e23
        have D := s_drawB (s := s17) (p := x.toNat) (by rw [a17 57 (by decide)]; exact zz.1) (by rw [a17 57 (by decide)]; omega) s23 e23
        rw [a17 57 (by decide)] at D
        have F23 : F_x4_drawBlock s17 s23 := fr_x4_drawBlock e23
        exact ih (x + 1) s23 (by omega) ((F23.1 1060 (by decide)).trans i17) (fun k hk => (F23.2.1 k (by simp; omega)).trans (a17 k hk)) (by rw [st, g]; omega)
      · have nl : ¬ (0 < gA s 54 x.toNat ∨ 0 < gA s 55 x.toNat) := by
          rcases h19 with ⟨_, _, a, b⟩ | ⟨a, _⟩
          · omega
          · exact absurd a c2
        have g : gS s x.toNat = 2 + 0 := by unfold gS; rw [if_neg nl]
        rw [st, g]; omega
  have L29 : ∀ (n : Nat) (x : Int) (S : MS), (0 ≤ x ∧ x ≤ 8) → gI S 1060 = gI s 1060 → (∀ k, k ≠ 17 → gA S k = gA s k) → gI S 321 = 3 + 2 * x → pc (m_x4_draw_L29 n x S) (fun q => q.1 = 20 + cn (gI s 1060) (gS s)) := by
    refine fr_ind (fun _ _ _ _ _ _ => pc_none) (fun n ih x S hx hI hA h321 => ?_)
    show pc (m_x4_draw_b29 (m_x4_draw_L29 n) x S) _
    unfold m_x4_draw_b29
    refine pc_rg (pc_if (fun c => L69 FU 0 S ⟨Int.le_refl 0, hN.1⟩ hI hA (by show gI S 321 = 19 + 0; omega)) (fun c => pc_rdI (fun _ => pc_bn (fun r30 _ => pc_bn (fun s32 e32 => pc_rdI (fun _ => pc_bn (fun r35 _ => pc_bn (fun s37 e37 => ?_))))))))
    have h32 := s_add1 (by omega) s32 e32
    have F32 : F_x4_add S s32 := fr_x4_add e32
    have h37 := s_add1 (by omega) s37 e37
    have F37 : F_x4_add s32 s37 := fr_x4_add e37
    exact ih (x + 1) s37 (by omega) (((F37.1 1060 (by decide)).trans (F32.1 1060 (by decide))).trans hI) (fun k hk => ((F37.2.1 k (by simp; omega)).trans (F32.2.1 k (by simp; omega))).trans (hA k hk)) (by omega)
  have D : pc (m_x4_draw s) (fun q => q.1 = 20 + cn (gI s 1060) (gS s)) := by
    unfold m_x4_draw
    refine pc_stn (fun s38 e38 => pc_bn (fun s40 e40 => pc_bn (fun s42 e42 => ?_)))
    have h38 : gI s38 321 = 0 := q_II e38
    have h40 := s_add1 (by omega) s40 e40
    have F40 : F_x4_add s38 s40 := fr_x4_add e40
    have h42 := s_addP2 (by omega) s42 e42
    have F42 : F_x4_addPair s40 s42 := fr_x4_addPair e42
    exact L29 FU 0 s42 (by decide) (((F42.1 1060 (by decide)).trans (F40.1 1060 (by decide))).trans (q_Ii e38 (by decide))) (fun k hk => ((F42.2.1 k (by simp; omega)).trans (F40.2.1 k (by simp; omega))).trans (q_Ia e38)) (by omega)
  unfold m_x11_image
  exact pc_bq D (fun q hq => pc_some hq)
set_option maxHeartbeats 250000 in theorem m_b1 {p : Int} {t : MS} : pc (m_x12_tellsByte p t) (fun o => gI o 112 = gI t 112 + 1) := by
  unfold m_x12_tellsByte
  exact pc_inb (pc_stn (fun s2 e2 => pc_stn (fun s3 e3 => pc_some (by rw [(q_II e3 : gI s3 112 = _), (q_Ai e2 : gI s2 112 = gI t 112)]))))
set_option maxHeartbeats 250000 in theorem m_b2 {p : Int} {t : MS} : pc (m_x12_tellsTwo p t) (fun o => gI o 112 = gI t 112 + 2) := by
  unfold m_x12_tellsTwo
  exact pc_dv (pc_bq m_b1 (fun s3 h3 => pc_dv (pc_bq m_b1 (fun s6 h6 => pc_some (by omega)))))
set_option maxHeartbeats 250000 in theorem m_writesB {p : Nat} {t : MS} (hn : 0 < cM t p ∨ 0 < vM t p → 0 ≤ (hM t).2.1 p) : pc (m_x12_writesBlock (p : Int) t) (fun o => gI o 112 = gI t 112 + gM t p) := by
  have tp : ((p : Nat) : Int).toNat = p := Int.toNat_natCast _
  have L : ∀ (n : Nat) (x : Int) (S : MS), (0 ≤ x ∧ x ≤ (hM t).2.1 p) → gA S 49 = gA t 49 → gI S 112 = gI t 112 + 4 + 4 * x → pc (m_x12_writesBlock_L47 n (p : Int) x S) (fun o => gI o 112 = gI t 112 + 4 + 4 * (hM t).2.1 p) := by
    refine fr_ind (fun _ _ _ _ _ => pc_none) (fun n ih x S hx h49 h112 => ?_)
    show pc (m_x12_writesBlock_b47 (m_x12_writesBlock_L47 n) (p : Int) x S) _
    unfold m_x12_writesBlock_b47
    have eS : (hM S).2.1 p = (hM t).2.1 p := by
      show gA S 49 (20 + 16 * p) = gA t 49 (20 + 16 * p)
      rw [h49]
    refine pc_bq (m_ents (by omega)) (fun r5 h5 => ?_)
    rw [tp, eS] at h5
    refine pc_rg (pc_rg (pc_if (fun c => pc_some (by omega)) (fun c => pc_bn (fun r10 _ => pc_bn (fun s12 e12 => pc_bn (fun r14 _ => pc_bn (fun s16 e16 => ?_)))))))
    have h12 := m_b2 s12 e12
    have F12 : F_x12_tellsTwo S s12 := fr_x12_tellsTwo e12
    have h16 := m_b2 s16 e16
    have F16 : F_x12_tellsTwo s12 s16 := fr_x12_tellsTwo e16
    exact ih (x + 1) s16 (by omega) ((F16.2.1 49 (by decide)).trans ((F12.2.1 49 (by decide)).trans h49)) (by omega)
  unfold m_x12_writesBlock
  refine pc_bn (fun r18 _ => pc_bn (fun s20 e20 => pc_bn (fun r22 _ => pc_bn (fun s24 e24 => ?_))))
  have h20 := m_b1 s20 e20
  have F20 : F_x12_tellsByte t s20 := fr_x12_tellsByte e20
  have h24 := m_b1 s24 e24
  have F24 : F_x12_tellsByte s20 s24 := fr_x12_tellsByte e24
  have f24 : gA s24 49 = gA t 49 := (F24.2.1 49 (by decide)).trans (F20.2.1 49 (by decide))
  have c24 : cM s24 p = cM t p ∧ vM s24 p = vM t p := by
    show gA s24 49 (17 + 16 * p) = gA t 49 (17 + 16 * p) ∧ gA s24 49 (18 + 16 * p) = gA t 49 (18 + 16 * p)
    rw [f24]
    exact ⟨rfl, rfl⟩
  refine pc_bq (m_there (by omega)) (fun r26 h26 => ?_)
  rw [tp, c24.1, c24.2] at h26
  refine pc_rg (pc_if (fun c => pc_some ?_) (fun c => pc_bn (fun r30 _ => pc_bn (fun s32 e32 => pc_bn (fun r34 _ => pc_bn (fun s36 e36 => ?_))))))
  · have nl : ¬ (0 < cM t p ∨ 0 < vM t p) := by
      rcases h26 with ⟨a, _⟩ | ⟨_, a⟩
      · exact absurd (a.symm.trans c) (by decide)
      · exact a
    unfold gM
    rw [if_neg nl]
    omega
  · have lv : 0 < cM t p ∨ 0 < vM t p := by
      rcases h26 with ⟨_, a⟩ | ⟨a, _⟩
      · exact a
      · exact absurd a c
    have h32 := m_b1 s32 e32
    have F32 : F_x12_tellsByte s24 s32 := fr_x12_tellsByte e32
    have h36 := m_b1 s36 e36
    have F36 : F_x12_tellsByte s32 s36 := fr_x12_tellsByte e36
    refine pc_mono (L FU 0 s36 ⟨Int.le_refl 0, hn lv⟩ (((F36.2.1 49 (by decide)).trans (F32.2.1 49 (by decide))).trans f24) (by omega)) (fun o ho => ?_)
    unfold gM
    rw [if_pos lv]
    omega
set_option maxHeartbeats 250000 in theorem m_imgL {t : MS} (hM' : 0 ≤ gA t 39 5 ∧ gA t 39 5 ≤ 48) (hn : ∀ b : Nat, (b : Int) < gA t 39 5 → 0 < cM t b ∨ 0 < vM t b → 0 ≤ (hM t).2.1 b) : pc (m_x12_image t) (fun o => o.1 = 20 + cn (gA t 39 5) (gM t)) := by
  have L72 : ∀ (n : Nat) (x : Int) (S : MS), (0 ≤ x ∧ x ≤ gA t 39 5) → (∀ k, k ≠ 111 → gA S k = gA t k) → gI S 112 = 19 + sm x.toNat (gM t) → pc (m_x12_image_L72 n x S) (fun o => o.1 = 20 + cn (gA t 39 5) (gM t)) := by
    refine fr_ind (fun _ _ _ _ _ => pc_none) (fun n ih x S hx hA h112 => ?_)
    show pc (m_x12_image_b72 (m_x12_image_L72 n) x S) _
    unfold m_x12_image_b72
    have st : sm (x + 1).toNat (gM t) = sm x.toNat (gM t) + gM t x.toNat := by
      rw [show (x + 1).toNat = x.toNat + 1 by omega]; rfl
    refine pc_bq m_bm (fun r4 h4 => ?_)
    rw [hA 39 (by decide)] at h4
    rw [h4]
    refine pc_rg (pc_rg (pc_if (fun c => pc_bn (fun r9 _ => pc_bn (fun s11 e11 => pc_some ?_))) (fun c => pc_bn (fun s13 e13 => ?_))))
    · have h11 := m_b1 s11 e11
      have e : sm x.toNat (gM t) = cn (gA t 39 5) (gM t) := by
        rw [show x = gA t 39 5 by omega]; exact cn_sm hM'.2
      show gI s11 112 = _
      omega
    · rw [show x = ((x.toNat : Nat) : Int) by omega] at e13
      have eg : gM S x.toNat = gM t x.toNat := by
        have f49 := hA 49 (by decide)
        unfold gM cM vM hM
        rw [f49]
      have en : (hM S).2.1 x.toNat = (hM t).2.1 x.toNat := by
        show gA S 49 (20 + 16 * x.toNat) = gA t 49 (20 + 16 * x.toNat)
        rw [hA 49 (by decide)]
      have ec : cM S x.toNat = cM t x.toNat ∧ vM S x.toNat = vM t x.toNat := by
        show gA S 49 (17 + 16 * x.toNat) = gA t 49 (17 + 16 * x.toNat) ∧ gA S 49 (18 + 16 * x.toNat) = gA t 49 (18 + 16 * x.toNat)
        rw [hA 49 (by decide)]
        exact ⟨rfl, rfl⟩
      have D := m_writesB (t := S) (p := x.toNat) (fun z => by rw [en]; exact hn x.toNat (by omega) (by rw [ec.1, ec.2] at z; exact z)) s13 e13
      rw [eg] at D
      have F13 : F_x12_writesBlock S s13 := fr_x12_writesBlock e13
      exact ih (x + 1) s13 (by omega) (fun k hk => (F13.2.1 k (by simp; omega)).trans (hA k hk)) (by rw [st]; omega)
  have L37 : ∀ (n : Nat) (x : Int) (S : MS), (0 ≤ x ∧ x ≤ 8) → (∀ k, k ≠ 111 → gA S k = gA t k) → gI S 112 = 3 + 2 * x → pc (m_x12_image_L37 n x S) (fun o => o.1 = 20 + cn (gA t 39 5) (gM t)) := by
    refine fr_ind (fun _ _ _ _ _ => pc_none) (fun n ih x S hx hA h112 => ?_)
    show pc (m_x12_image_b37 (m_x12_image_L37 n) x S) _
    unfold m_x12_image_b37
    refine pc_rg (pc_if (fun c => L72 FU 0 S ⟨Int.le_refl 0, hM'.1⟩ hA (by show gI S 112 = 19 + 0; omega)) (fun c => pc_bn (fun r19 _ => pc_bn (fun s21 e21 => pc_bn (fun r23 _ => pc_bn (fun s25 e25 => ?_))))))
    have h21 := m_b1 s21 e21
    have F21 : F_x12_tellsByte S s21 := fr_x12_tellsByte e21
    have h25 := m_b1 s25 e25
    have F25 : F_x12_tellsByte s21 s25 := fr_x12_tellsByte e25
    exact ih (x + 1) s25 (by omega) (fun k hk => ((F25.2.1 k (by simp; omega)).trans (F21.2.1 k (by simp; omega))).trans (hA k hk)) (by omega)
  unfold m_x12_image
  refine pc_stn (fun s26 e26 => pc_rdI (fun _ => pc_dv (pc_bn (fun s30 e30 => pc_rdI (fun _ => pc_dv (pc_bn (fun s34 e34 => ?_)))))))
  have h26 : gI s26 112 = 0 := q_II e26
  have h30 := m_b1 s30 e30
  have F30 : F_x12_tellsByte s26 s30 := fr_x12_tellsByte e30
  have h34 := m_b2 s34 e34
  have F34 : F_x12_tellsTwo s30 s34 := fr_x12_tellsTwo e34
  exact L37 FU 0 s34 (by decide) (fun k hk => ((F34.2.1 k (by simp; omega)).trans (F30.2.1 k (by simp; omega))).trans (q_Ia e26)) (by omega)
set_option maxHeartbeats 250000 in theorem y_imageLen {x t : MS} {ts : List MS} (hC : CI x ts) (hJ : JI t) (B : BT x ts t) (h47 : gI t 47 = gI x 12) : pc (m_x11_image x) (fun q => pc (m_x12_image t) (fun o => q.1 = o.1)) := by
  have hN : (0 : Int) ≤ gI x 1060 ∧ gI x 1060 ≤ 48 := hC.1.1 1060
  have hM' : 0 ≤ gA t 39 5 ∧ gA t 39 5 ≤ 48 := JI_N hJ
  by_cases z : gI x 12 = 0
  · -- nothing is told
    have u1 := (B.2.2.1 z).1
    have t5 : gA t 39 5 = 0 := by
      rcases hJ.2.2.2 with ⟨_, a, _⟩ | ⟨a, _⟩
      · exact a
      · exfalso; omega
    have c0 : ∀ f : Nat → Int, cn 0 f = 0 := fun f => by rw [← cn_sm (N := 0) (by decide)]; rfl
    refine pc_mono (s_imgL hN (fun b hb => absurd hb (by omega)) (fun b hb => absurd hb (by omega))) (fun q hq => pc_mono (m_imgL hM' (fun b hb => absurd hb (by omega))) (fun o ho => ?_))
    rw [u1, c0] at hq
    rw [t5, c0] at ho
    exact hq.trans ho.symm
  · obtain ⟨π, σ, lo, hi, H, O, N, G, hK, CCx⟩ := BT_T hJ B h47 z
    have bk : ∀ b : Nat, (b : Int) < gI x 1060 → ∃ y, y < 48 ∧ b = π y := fun b hb => by
      have p := H.1 b (by omega)
      exact ⟨σ b, p.1.2, p.2.1.2.symm⟩
    have sz : ∀ y, y < 48 → LV t y → gA x 57 (π y) = (hM t).2.1 y := fun y hy l => (H.2.2.1 y hy l).2.1
    have ct : ∀ y, y < 48 → gA x 54 (π y) = cM t y ∧ gA x 55 (π y) = vM t y := fun y hy => H.2.1 y hy
    refine pc_mono (s_imgL hN (fun b hb => ?_) (fun b hb l => ?_)) (fun q hq => pc_mono (m_imgL hM' (fun b hb l => ?_)) (fun o ho => ?_))
    · obtain ⟨y, hy, e⟩ := bk b hb
      rw [e, (ct y hy).1, (ct y hy).2]
      exact (CCx.2.2 y hy).2
    · obtain ⟨y, hy, e⟩ := bk b hb
      rw [e, (ct y hy).1, (ct y hy).2] at l
      have ly : LV t y := l
      rw [e, sz y hy ly]
      exact (hK.2.1 y hy ly).1.1.2.1
    · have ly : LV t b := l
      exact (hK.2.1 b (by omega) ly).1.1.2.1.1
    · rw [hq, ho, ← N]
      refine congrArg (fun w : Int => 20 + w) (cn_pm H.1 (fun y hy _ => ?_))
      unfold gS gM
      rw [(ct y hy).1, (ct y hy).2]
      by_cases l : 0 < cM t y ∨ 0 < vM t y
      · rw [if_pos l, if_pos l, sz y hy l]
      · rw [if_neg l, if_neg l]
/-! ===== what a PUT would write, on both sides ===== -/
set_option maxHeartbeats 250000 in theorem y_plantT {s t : MS} {v : Nat} {key val : Int} (h : J2 s t) (hT : TE s) (hRt : Rr t) (G : GA t) (hv : v < 8) (hn : gA t 49 v ≠ 255) (hkey : 0 ≤ key ∧ key ≤ 999) (hval : 0 ≤ val ∧ val ≤ 999) : pc (m_x1_plant (v : Int) key val s) (fun q => pc (m_x12_tries 2 (v : Int) key val t) (fun o => (q.1 = 0 ∧ o.1 = 0) ∨ (q.1 ≠ 0 ∧ o.1 ≠ 0 ∧ ∃ π σ, SIM π σ q.2 o.2))) := by
  obtain ⟨⟨π, σ, lo, hi, H, O⟩, Z⟩ := h
  have N := G.1.2.1
  intro q8 e8
  have JO : ∀ X, SVm t X → pc (m_x12_puts (v : Int) key val X) (fun Y => CON q8 Y) := fun X SX => by
    have x49 : gA X 49 = gA t 49 := SX.1 49 (by decide) (by decide)
    have x39 : gA X 39 = gA t 39 := SX.1 39 (by decide) (by decide)
    have HX : SIM π σ s X := SIM_k H (fun _ _ _ => rfl) rfl rfl x49 (by rw [x39]) (SX.1 54 (by decide) (by decide))
    have ZX' : ZP s X := ZP_k Z rfl rfl (fun _ _ _ => rfl) (fun k hk => SX.1 k (by omega) (by omega))
    exact y_plant HX ZX' hT.1 (SX.2.2.2.2.2 hRt) hT.2.1 (RT_x G.1.1.1 (fun k _ => by rw [x49]) (by rw [x39]) (by rw [x39])) (CE_eq G.1.2.2.1 (SX.1 42 (by decide) (by decide)) (SX.1 43 (by decide) (by decide)) (SX.1 44 (by decide) (by decide))) (CE_eq G.1.2.2.2.1 (SX.1 42 (by decide) (by decide)) (SX.1 43 (by decide) (by decide)) (SX.1 44 (by decide) (by decide))) (by rw [x39]; omega) (by rw [x39]; exact N.2) hT.2.2 SX.2.2.2.2.1 hv (by rw [x49]; exact GA_rt G hv hn) (OI_49 O x49) hkey hval q8 e8
  refine pc_mono m_tries2 (fun o ho => ?_)
  obtain ⟨X, Y, SX, eY, hY⟩ := ho
  rcases JO X SX Y eY with ⟨z, y55⟩ | ⟨z, y55, π', σ', lo', hi', G1, _, _⟩
  · rcases hY with ⟨w, _⟩ | ⟨_, o1, _⟩
    · exfalso; omega
    · exact Or.inl ⟨z, o1⟩
  · rcases hY with ⟨_, e⟩ | ⟨w, _⟩
    · rw [e]
      exact Or.inr ⟨z, (by decide : (1 : Int) ≠ 0), π', σ', G1⟩
    · exact absurd y55 w
set_option maxHeartbeats 250000 in theorem m_aside {t : MS} : pc (m_x12_putsAside t) (fun o => (∀ k, k ≠ 61 → k ≠ 54 → gA o k = gA t k) ∧ (∀ k, gI o k = gI t k) ∧ ∀ x : Nat, x < 48 → gA o 54 x = 0) := by
  have L : ∀ (n : Nat) (x : Int) (S : MS), (∀ k, k ≠ 61 → gA S k = gA t k) → (∀ k, gI S k = gI t k) → pc (m_x12_putsAside_L2 n x S) (fun o => (∀ k, k ≠ 61 → k ≠ 54 → gA o k = gA t k) ∧ (∀ k, gI o k = gI t k) ∧ ∀ x : Nat, x < 48 → gA o 54 x = 0) := by
    refine fr_ind (fun _ _ _ _ => pc_none) (fun n ih x S h1 h2 => ?_)
    show pc (m_x12_putsAside_b2 (m_x12_putsAside_L2 n) x S) _
    unfold m_x12_putsAside_b2
    refine pc_rg (pc_if (fun _ => pc_bn (fun s6 e6 => pc_some ?_)) (fun _ => pc_rdI (fun _ => pc_inb (pc_stn (fun s9 e9 => ih (x + 1) s9 (fun k hk => (q_Aa e9 hk).trans (h1 k hk)) (fun k => (q_Ai e9).trans (h2 k)))))))
    have F : F_x12_clearsTouched S s6 := fr_x12_clearsTouched e6
    exact ⟨fun k k1 k2 => (F.2.1 k (by simp; omega)).trans (h1 k k1), fun k => (F.1 k (by simp)).trans (h2 k), m_clears s6 e6⟩
  unfold m_x12_putsAside
  exact L FU 0 t (fun _ _ => rfl) (fun _ => rfl)
set_option maxHeartbeats 250000 in theorem s_wrote1 {s : MS} (hR : Rg s) : pc (m_x1_wrote s) (fun r => r = cn (gI s 1060) (fun b => if 0 < gA s 54 b ∧ bW1 (gL s 1062) b = 1 then 1 else 0)) := s_wrote (show (0 : Int) ≤ gI s 1060 ∧ gI s 1060 ≤ 48 from hR.1 1060)
/- how many BLOCKS a PUT of one KEY would write -/
set_option maxHeartbeats 250000 in theorem y_write1 {s t : MS} {ts : List MS} {v : Nat} {key : Int} (hT : TE s) (ht : gI s 12 ≠ 0) (hR : Rr t) (hJ : JI t) (B : BT s ts t) (h47 : gI t 47 = gI s 12) (Z : ZP s t) (hv : v < 8) (hn : gA t 49 v ≠ 255) (h60 : gA s 60 v ≠ -2) (hkey : 0 ≤ key ∧ key ≤ 999) : pc (m_x1_wouldWrite (v : Int) key s) (fun q => pc (m_x12_laysWrites (v : Int) key t) (fun o => q.1 = gI o 70)) := by
  have tv : ((v : Nat) : Int).toNat = v := Int.toNat_natCast _
  have G := JI_GA hJ (by rw [h47]; exact ht)
  obtain ⟨N, R, _⟩ := B.2.2.2 ht
  -- the class tries
  have RH : pc (m_x1_rehearse (v : Int) key s) (fun q7 => ∃ s10 r13 val, m_x1_begin s = some s10 ∧ m_x8_valueAt (gA s 60 v) key s10 = some r13 ∧ ((r13 = 0 ∧ val = 1) ∨ (r13 ≠ 0 ∧ val = 0)) ∧ m_x1_plant (v : Int) key val s10 = some q7) := by
    unfold m_x1_rehearse m_x1_rehearse_J29
    refine pc_bn (fun s10 e10 => pc_rdI (fun _ => pc_bn (fun r13 e13 => pc_rg (pc_if (fun c => pc_bn (fun q7 e7 => pc_bo (pc_some ?_))) (fun c => pc_bn (fun q7 e7 => pc_bo (pc_some ?_)))))))
    · have F10 : F_x1_begin s s10 := fr_x1_begin e10
      rw [tv, F10.2.1 60 (by decide)] at e13
      exact ⟨s10, r13, 1, e10, e13, Or.inl ⟨c, rfl⟩, e7⟩
    · have F10 : F_x1_begin s s10 := fr_x1_begin e10
      rw [tv, F10.2.1 60 (by decide)] at e13
      exact ⟨s10, r13, 0, e10, e13, Or.inr ⟨c, rfl⟩, e7⟩
  unfold m_x1_wouldWrite m_x1_wouldWrite_J19
  refine pc_bn (fun q7 e7 => ?_)
  obtain ⟨s10, r13, val, e10, e13, hval, ep⟩ := RH q7 e7
  have F10 : F_x1_begin s s10 := fr_x1_begin e10
  have R7 : Rg q7.2 := (wp_det (ts_rehearse hT (p0 := (v : Int)) ⟨by omega, by omega⟩ (by rw [tv]; exact h60) hkey) e7).1
  -- both know the key's value
  have VAL : pc (m_x12_valueFrom (gA t 49 v) key t) (fun o => r13 = o) := by
    obtain ⟨π, σ, lo, hi, H, O, _, _, hK, _⟩ := BT_T hJ B h47 ht
    have n1 := n1_of G.1.1.1.1
    have lvr : 0 ≤ gA t 49 v → gA t 49 v < 48 → LV t (gA t 49 v).toNat := hK.2.2 v (by omega)
    have H10 : TRf π σ (gI s 1060) s10 54 (gA t 49) := TRf_rows H (fun k k1 k2 => F10.2.1 k (by simp; omega))
    have rr : rtr π (gA s 60 v) (gA t 49 v) := (H.2.2.2 v hv).1
    exact pc_mono (y_val (fun x hx l => H10.2.2.1 x hx l) hK O n1 rr lvr r13 e13) (fun o ho => ho.1)
  -- what the reference does
  have REF : ∀ Q : Int → Prop, (∀ (t26 : MS) (o : Int × MS), (∀ k, k ≠ 61 → k ≠ 54 → gA t26 k = gA t k) → (∀ k, k ≠ 70 → k ≠ 71 → gI t26 k = gI t k) → Rr t26 → (∀ x : Nat, x < 48 → gA t26 54 x = 0) → m_x12_tries 2 (v : Int) key val t26 = some o → (o.1 = 0 → Q (-1)) ∧ (o.1 ≠ 0 → ∀ r, m_x12_writtenMany o.2 = some r → Q r)) → pc (m_x12_laysWrites (v : Int) key t) (fun o => Q (gI o 70)) := fun Q K => by
    unfold m_x12_laysWrites m_x12_laysWrites_J34 m_x12_laysWrites_J56
    refine pc_stn (fun s21 e21 => pc_stn (fun s22 e22 => pc_bn (fun r24 e24 => pc_bn (fun s26 e26 => ?_))))
    have a22 : ∀ k, gA s22 k = gA t k := fun k => (q_Ia e22).trans (q_Ia e21)
    have i22 : ∀ k, k ≠ 70 → k ≠ 71 → gI s22 k = gI t k := fun k h1 h2 => (q_Ii e22 h2).trans (q_Ii e21 h1)
    have i70 : gI s22 70 = -1 := (q_Ii e22 (by decide)).trans (q_II e21)
    have R22 : Rr s22 := e22 ▸ Rr.uI (e21 ▸ Rr.uI hR (by show (-2147483648 : Int) ≤ -1 ∧ (-1 : Int) ≤ 2147483647; omega)) (by show (-2147483648 : Int) ≤ -1 ∧ (-1 : Int) ≤ 2147483647; omega)
    have V24 : r13 = r24 := by
      have g : pc (m_x12_valueOf (v : Int) key s22) (fun o => r13 = o) := by
        unfold m_x12_valueOf
        refine pc_rdI (fun _ => ?_)
        rw [tv, a22 49]
        obtain ⟨π, σ, lo, hi, H, O, _, _, hK, _⟩ := BT_T hJ B h47 ht
        have eq22 : gA s22 49 = gA t 49 := a22 49
        obtain ⟨m1, m2, m3, m4⟩ := eq49 eq22
        have K22 : KLV s22 := KLV_of (TM_eq G.1.1.1.1 eq22 (a22 39)) (fun _ _ => Int.le_refl 0)
        have n22 := n1_of (TM_eq G.1.1.1.1 eq22 (a22 39))
        have lvr : 0 ≤ gA t 49 v → gA t 49 v < 48 → LV s22 (gA t 49 v).toNat := fun a b => by
          have q := hK.2.2 v (by omega) a b
          unfold LV at q ⊢
          rw [m3, m4]; exact q
        have H10 : TRf π σ (gI s 1060) s10 54 (gA t 49) := TRf_rows H (fun k k1 k2 => F10.2.1 k (by simp; omega))
        have rr : rtr π (gA s 60 v) (gA t 49 v) := (H.2.2.2 v hv).1
        refine pc_bq (y_val (t := s22) (fun x hx l => ?_) K22 (OI_49 O eq22) n22 rr lvr r13 e13) (fun r3 h3 => pc_some h3.1)
        have l' : LV t x := by unfold LV at l ⊢; rw [← m3, ← m4]; exact l
        rw [m1, m2]
        exact H10.2.2.1 x hx l'
      exact g r24 e24
    obtain ⟨b1, b2, b3⟩ := m_aside s26 e26
    have R26 : Rr s26 := (wp_det (w_x12_putsAside R22) e26).1
    have i26 : gI s26 70 = -1 := (b2 70).trans i70
    have TRY1 : ∀ q11 : Int × MS, m_x12_tries 2 (v : Int) key val s26 = some q11 → pc (rg q11.1 (if q11.1 = 0 then bn (m_x12_takesBack q11.2) (fun s3 => some s3) else bn (m_x12_writtenMany q11.2) (fun r15 => stn (sI q11.2 70 r15) (fun s16 => bn (m_x12_writtenCost s16) (fun qr19 => stn (sI qr19.2 71 qr19.1) (fun s20 => bn (m_x12_takesBack s20) (fun s3 => some s3))))))) (fun o => Q (gI o 70)) := fun q11 e11 => by
      have KK := K s26 q11 (fun k k1 k2 => (b1 k k1 k2).trans (a22 k)) (fun k k1 k2 => (b2 k).trans (i22 k k1 k2)) R26 b3 e11
      have F11 : F_x12_tries s26 q11.2 := fr_x12_tries e11
      refine pc_rg (pc_if (fun c => pc_bn (fun s3 e3 => pc_some ?_)) (fun c => pc_bn (fun r15 e15 => pc_stn (fun s16 e16 => pc_bn (fun q19 e19 => pc_stn (fun s20 e20 => pc_bn (fun s3 e3 => pc_some ?_)))))))
      · have F3 : F_x12_takesBack q11.2 s3 := fr_x12_takesBack e3
        rw [F3.1 70 (by simp), F11.1 70 (by decide), i26]
        exact KK.1 c
      · have F3 : F_x12_takesBack s20 s3 := fr_x12_takesBack e3
        have F19 : F_x12_writtenCost s16 q19.2 := fr_x12_writtenCost e19
        rw [F3.1 70 (by simp), (q_Ii e20 (by decide) : gI s20 70 = gI q19.2 70), F19.1 70 (by decide), (q_II e16 : gI s16 70 = r15)]
        exact KK.2 c r15 e15
    rcases hval with ⟨h0, hv1⟩ | ⟨h0, hv1⟩
    · rw [hv1] at TRY1
      exact pc_rg (pc_if (fun _ => pc_bn (fun q11 e11 => TRY1 q11 e11)) (fun d => absurd (V24.symm.trans h0) d))
    · rw [hv1] at TRY1
      exact pc_rg (pc_if (fun d => absurd (V24.trans d) h0) (fun _ => pc_bn (fun q11 e11 => TRY1 q11 e11)))
  have PL : ∀ (t26 : MS) (o : Int × MS), (∀ k, k ≠ 61 → k ≠ 54 → gA t26 k = gA t k) → (∀ k, k ≠ 70 → k ≠ 71 → gI t26 k = gI t k) → Rr t26 → (∀ x : Nat, x < 48 → gA t26 54 x = 0) → m_x12_tries 2 (v : Int) key val t26 = some o → (q7.1 = 0 ∧ o.1 = 0) ∨ (q7.1 ≠ 0 ∧ o.1 ≠ 0 ∧ ∃ π σ, SIM π σ q7.2 o.2) := fun t26 o k1 k2 r26 z54 eo => by
    have G26 : GA t26 := GA_eq G ⟨k1 39 (by decide) (by decide), k1 42 (by decide) (by decide), k1 43 (by decide) (by decide), k1 44 (by decide) (by decide)⟩ (k1 49 (by decide) (by decide)) (k1 75 (by decide) (by decide)) (k2 76 (by decide) (by decide)) (k2 77 (by decide) (by decide))
    obtain ⟨J10, T10, _⟩ := y_begA N R Z hT e10 (t' := t26) (fun k hk => k1 k (by omega) (by omega)) z54
    exact y_plantT J10 T10 r26 G26 hv (by rw [k1 49 (by decide) (by decide)]; exact hn) hkey (by rcases hval with ⟨_, w⟩ | ⟨_, w⟩ <;> omega) q7 ep o eo
  refine pc_rg (pc_if (fun c => pc_bn (fun s4 e4 => pc_some ?_)) (fun c => pc_bq (s_wrote1 R7) (fun r11 h11 => pc_bn (fun s4 e4 => pc_some ?_))))
  · refine REF (fun z => -1 = z) (fun t26 o k1 k2 r26 z54 eo => ⟨fun _ => rfl, fun d => ?_⟩)
    rcases PL t26 o k1 k2 r26 z54 eo with ⟨_, a⟩ | ⟨a, _⟩
    · exact absurd a d
    · exact absurd c a
  · refine REF (fun z => r11 = z) (fun t26 o k1 k2 r26 z54 eo => ⟨fun d => ?_, fun d r er => ?_⟩)
    · rcases PL t26 o k1 k2 r26 z54 eo with ⟨a, _⟩ | ⟨_, a, _⟩
      · exact absurd a c
      · exact absurd d a
    · rcases PL t26 o k1 k2 r26 z54 eo with ⟨a, _⟩ | ⟨_, _, π, σ, HS⟩
      · exact absurd a c
      · have F : F_x12_tries t26 o.2 := fr_x12_tries eo
        have n39 : gA o.2 39 = gA t 39 := (F.2.1 39 (by decide)).trans (k1 39 (by decide) (by decide))
        have w := m_wroteN (t := o.2) (by rw [n39]; exact JI_N hJ) r er
        rw [h11, w]
        exact sim_wrote HS
/- SPREAD: how many KEYS would write so many BLOCKS -/
set_option maxHeartbeats 250000 in theorem y_spread {x t : MS} {ts : List MS} {p0 p1 : Int} (hC : CI x ts) (hR : Rr t) (hJ : JI t) (B : BT x ts t) (h47 : gI t 47 = gI x 12) (hZ : ZT x t) : pc (m_x11_spread p0 p1 x) (fun q => pc (m_x12_spread p0 p1 t) (fun o => q.1 = o.1)) := by
  have V := BT_V B hC h47
  unfold m_x11_spread m_x11_spread_J19
  refine pc_bn (fun r21 e21 => pc_rg (pc_if (fun c1 => pc_some ?_) (fun c1 => pc_rg (pc_if (fun c2 => ?_) (fun c2 => pc_some ?_)))))
  · unfold m_x12_spread m_x12_spread_J14
    exact pc_rg (pc_bn (fun r4 e4 => pc_rg (pc_if (fun _ => pc_some rfl) (fun d => absurd ((y_isVol V e21 e4).1.symm.trans c1) d))))
  · have v0 := isVol_y e21 c1
    obtain ⟨v, hv⟩ : ∃ v : Nat, p0 = (v : Int) := ⟨p0.toNat, by omega⟩
    rw [hv] at v0 e21 ⊢
    rw [Int.toNat_natCast] at v0
    have v8 : v < 8 := by omega
    have ht := CI_told hC v8 v0.2
    have n255 : gA t 49 v ≠ 255 := fun z => v0.2 ((V v v8).2 (Or.inr z))
    have G := JI_GA hJ (by rw [h47]; exact ht)
    have Z0' := (hZ ht).1
    have L : ∀ (n m : Nat) (f i : Int) (S T : MS), TE S → ZB x S → F_x11_spread x S → RS0 t T → gA T 9 = gA t 9 → gL T 78 = gL t 78 → 0 ≤ i → pc (m_x11_spread_L26 n (v : Int) p1 f i S) (fun q => pc (m_x12_spread_L21 m (v : Int) p1 f i T) (fun o => q.1 = o.1)) := by
      refine fr_ind (fun _ _ _ _ _ _ _ _ _ _ _ _ => pc_none) (fun n ih m f i S T hS hz hF hT' h9 h78 hi => ?_)
      cases m with
      | zero => exact fun q _ => pc_none
      | succ m =>
        show pc (m_x11_spread_b26 (m_x11_spread_L26 n) (v : Int) p1 f i S) _
        unfold m_x11_spread_b26 m_x11_spread_J50
        have REF : ∀ Q : Int × MS → Prop, (100 ≤ i → Q (f, T)) → (¬ 100 ≤ i → ∀ s14, m_x12_laysWrites (v : Int) i T = some s14 → (gI s14 70 = p1 → pc (m_x12_spread_L21 m (v : Int) p1 (f + 1) (i + 1) s14) Q) ∧ (gI s14 70 ≠ p1 → pc (m_x12_spread_L21 m (v : Int) p1 f (i + 1) s14) Q)) → pc (m_x12_spread_L21 (m + 1) (v : Int) p1 f i T) Q := fun Q k1 k2 => by
          show pc (m_x12_spread_b21 (m_x12_spread_L21 m) (v : Int) p1 f i T) Q
          unfold m_x12_spread_b21 m_x12_spread_J46
          exact pc_rg (pc_if (fun c => pc_some (k1 c)) (fun c => pc_bn (fun s14 e14 => pc_rg (pc_rg (pc_if (fun d => (k2 c s14 e14).1 d) (fun d => (k2 c s14 e14).2 d))))))
        refine pc_rg (pc_if (fun c => pc_some (REF _ (fun _ => rfl) (fun d => absurd c d))) (fun c => ?_))
        have GT := RS0_GA G hT'
        have JT : JI T := JI_eq hJ ⟨hT'.2.1 39 (by omega), hT'.2.1 42 (by omega), hT'.2.1 43 (by omega), hT'.2.1 44 (by omega)⟩ (hT'.2.1 49 (by omega)) (hT'.2.1 75 (by omega)) (hT'.2.2 76 (by omega)) (hT'.2.2 77 (by omega)) (hT'.2.2 47 (by omega)) h78
        have S12 : gI S 12 = gI x 12 := hz.2.1 12 (Or.inl rfl)
        have BS : BT S ts T := BT_c hJ h47 B hz ⟨fun k hk => hT'.2.2 k (by omega), fun k hk => hT'.2.1 k (by omega), by rw [hT'.2.1 39 (by omega)]⟩ h78 h9
        have h47' : gI T 47 = gI S 12 := by rw [hT'.2.2 47 (by omega), S12]; exact h47
        have ZS : ZP S T := ZP_k Z0' (hF.1 581 (by decide)) (hF.1 741 (by decide)) (fun k k1 k2 => hF.2.1 k (by simp; omega)) (fun k hk => hT'.2.1 k (by omega))
        have h60 : gA S 60 v ≠ -2 := by rw [(hz.1.2.2.1 v v8).1]; exact v0.2
        have Y := y_write1 hS (by rw [S12]; exact ht) hT'.1 JT BS h47' ZS v8 (by rw [hT'.2.1 49 (by omega)]; exact n255) h60 (key := i) (by omega)
        refine pc_bn (fun q15 e15 => ?_)
        have Y1 := Y q15 e15
        have g := z_write hS (p0 := (v : Int)) ⟨by omega, by omega⟩ (by rw [Int.toNat_natCast]; exact h60) (p1 := i) (by omega) q15 e15
        have hz2 := ZB_tr hz g.2
        have hF2 : F_x11_spread x q15.2 := ⟨fun k hk => ((fr_x1_wouldWrite e15).1 k hk).trans (hF.1 k hk), fun k hk => ((fr_x1_wouldWrite e15).2.1 k hk).trans (hF.2.1 k hk), fun k hk => ((fr_x1_wouldWrite e15).2.2.1 k hk).trans (hF.2.2.1 k hk), fun k hk => ((fr_x1_wouldWrite e15).2.2.2 k hk).trans (hF.2.2.2 k hk)⟩
        have nx : ∀ s14, m_x12_laysWrites (v : Int) i T = some s14 → RS0 t s14 ∧ gA s14 9 = gA t 9 ∧ gL s14 78 = gL t 78 := fun s14 e14 => by
          have F : F_x12_laysWrites T s14 := fr_x12_laysWrites e14
          exact ⟨rs0_write G hT' ⟨by omega, by omega⟩ (by rw [Int.toNat_natCast]; exact n255) (by omega) s14 e14, (F.2.1 9 (by decide)).trans h9, (F.2.2.1 78 (by simp)).trans h78⟩
        refine pc_rg (pc_rg (pc_if (fun c3 => fun q eq => REF _ (fun d => absurd d c) (fun _ s14 e14 => ⟨fun _ => ?_, fun d => absurd ((Y1 s14 e14).symm.trans c3) d⟩)) (fun c3 => fun q eq => REF _ (fun d => absurd d c) (fun _ s14 e14 => ⟨fun d => absurd ((Y1 s14 e14).trans d) c3, fun _ => ?_⟩))))
        · obtain ⟨n1', n2', n3'⟩ := nx s14 e14
          exact ih m (f + 1) (i + 1) q15.2 s14 g.1 hz2 hF2 n1' n2' n3' (by omega) q eq
        · obtain ⟨n1', n2', n3'⟩ := nx s14 e14
          exact ih m f (i + 1) q15.2 s14 g.1 hz2 hF2 n1' n2' n3' (by omega) q eq
    intro q eq
    unfold m_x12_spread m_x12_spread_J14
    refine pc_rg (pc_bn (fun r4 e4 => pc_rg (pc_if (fun d => absurd ((y_isVol V e21 e4).1.trans d) c1) (fun _ => pc_rg (pc_if (fun _ => ?_) (fun d => absurd c2 d))))))
    exact L FU FU 0 0 x t (CI_TE hC ht) (ZB_rf x) (Fr.rf x) (RS0_rf hR) rfl rfl (Int.le_refl 0) q eq
  · unfold m_x12_spread m_x12_spread_J14
    exact pc_rg (pc_bn (fun r4 e4 => pc_rg (pc_if (fun _ => pc_some rfl) (fun _ => pc_rg (pc_if (fun d => absurd d c2) (fun _ => pc_some rfl))))))
/-! ===== what a DROP would free, on both sides ===== -/
def uN (f : Nat → Int) : Int := sm 48 (fun b => if 0 < f b then 1 else 0)
set_option maxHeartbeats 250000 in theorem uN_c {f g : Nat → Int} (h : ∀ b, b < 48 → f b = g b) : uN f = uN g := sm_c (fun b hb => by
  show (if 0 < f b then (1 : Int) else 0) = if 0 < g b then 1 else 0
  rw [h b hb])
set_option maxHeartbeats 250000 in theorem uN_b (f : Nat → Int) : 0 ≤ uN f ∧ uN f ≤ 48 := by
  constructor
  · exact sm_nn (fun b _ => by show (0 : Int) ≤ if 0 < f b then 1 else 0; split <;> decide)
  · have := sm_bd (n := 48) (f := fun b => if 0 < f b then (1 : Int) else 0) (c := 1) (fun b _ => by show (if 0 < f b then (1 : Int) else 0) ≤ 1; split <;> decide)
    unfold uN
    omega
set_option maxHeartbeats 250000 in theorem uN_dec {f : Nat → Int} {b : Nat} (hb : b < 48) : uN (upZ f b (f b - 1)) = uN f - (if f b = 1 then 1 else 0) := by
  have e := sm_one (n := 48) (i := b) (f := fun q => if 0 < f q then (1 : Int) else 0) (g := fun q => if 0 < upZ f b (f b - 1) q then (1 : Int) else 0) hb (fun j _ hj => by
    show (if 0 < upZ f b (f b - 1) j then (1 : Int) else 0) = if 0 < f j then 1 else 0
    rw [upZ_n hj])
  refine e.trans ?_
  show sm 48 (fun q => if 0 < f q then (1 : Int) else 0) - (if 0 < f b then (1 : Int) else 0) + (if 0 < upZ f b (f b - 1) b then (1 : Int) else 0) = sm 48 (fun q => if 0 < f q then (1 : Int) else 0) - if f b = 1 then 1 else 0
  rw [upZ_s]
  by_cases a : 0 < f b
  · rw [if_pos a]
    by_cases c : f b = 1
    · rw [if_pos c, if_neg (by omega)]; omega
    · rw [if_neg c, if_pos (by omega)]; omega
  · rw [if_neg a, if_neg (by omega), if_neg (by omega)]; omega
set_option maxHeartbeats 250000 in theorem uN_cn {s : MS} {D : Nat → Int} {e : Int} (T : TS s D e) : uN (gA s 54) = cn (gI s 1060) (fun b => if 0 < gA s 54 b then 1 else 0) := by
  unfold uN cn
  refine sm_c (fun b hb => ?_)
  show (if 0 < gA s 54 b then (1 : Int) else 0) = if (b : Int) < gI s 1060 then (if 0 < gA s 54 b then 1 else 0) else 0
  by_cases z : (b : Int) < gI s 1060
  · rw [if_pos z]
  · have w := (T.1.2.1 b hb).2.1 (by omega)
    rw [if_neg z, if_neg (by omega)]
/- so many BLOCKS come free as are not in use any more -/
set_option maxHeartbeats 250000 in theorem s_relU {p : Int} {s : MS} : pc (m_x1_release p s) (fun q => q.1 = uN (gA s 52) - uN (gA q.2 52)) := by
  have L : ∀ (n : Nat) (x3 x4 : Int) (S : MS), x3 = uN (gA s 52) - uN (gA S 52) → pc (m_x1_release_L28 n x3 x4 S) (fun q => q.1 = uN (gA s 52) - uN (gA q.2 52)) := by
    refine fr_ind (fun _ _ _ _ => pc_none) (fun n ih x3 x4 S h => ?_)
    have L83 : ∀ (m : Nat) (x6 x7 x8 x9 : Int) (X : MS), x6 = uN (gA s 52) - uN (gA X 52) → pc (m_x1_release_L83 (m_x1_release_L28 n) m x6 x7 x8 x9 X) (fun q => q.1 = uN (gA s 52) - uN (gA q.2 52)) := by
      refine fr_ind (fun _ _ _ _ _ _ => pc_none) (fun m ih2 x6 x7 x8 x9 X h6 => ?_)
      show pc (m_x1_release_b83 (m_x1_release_L28 n) (m_x1_release_L83 (m_x1_release_L28 n) m) x6 x7 x8 x9 X) _
      unfold m_x1_release_b83 m_x1_release_J148
      refine pc_rg (pc_rg (pc_if (fun _ => ih x6 (x7 + 1) X h6) (fun _ => pc_rdI (fun _ => pc_bn (fun r21 _ => pc_rdI (fun _ => pc_rdI (fun hy => pc_inb (pc_stn (fun s25 e25 => ?_)))))))))
      have k25 := (q_AA e25 : gA s25 52 = _)
      have d := uN_dec (f := gA X 52) (b := (gA X 59 r21.toNat).toNat) (by omega)
      rw [← k25] at d
      have b25 := uN_b (gA s25 52)
      have bS := uN_b (gA s 52)
      refine pc_rdI (fun _ => ?_)
      have y26 : gA s25 52 (gA X 59 r21.toNat).toNat = gA X 52 (gA X 59 r21.toNat).toNat - 1 := by rw [k25, upZ_s]
      rw [y26]
      refine pc_rg (pc_if (fun c => pc_rg (pc_if (fun c2 => ?_) (fun c2 => pc_inb (pc_stn (fun s32 e32 => ih2 (x6 + 1) x7 x8 (x9 + 1) s32 ?_))))) (fun c => ih2 x6 x7 x8 (x9 + 1) s25 ?_))
      · rw [if_pos (by omega)] at d
        exfalso; omega
      · rw [if_pos (by omega)] at d
        rw [(q_Aa e32 (by decide) : gA s32 52 = gA s25 52)]
        omega
      · rw [if_neg (by omega)] at d
        omega
    show pc (m_x1_release_b28 (m_x1_release_L28 n) x3 x4 S) _
    unfold m_x1_release_b28 m_x1_release_J160 m_x1_release_J78
    exact pc_rg (pc_rg (pc_if (fun _ => pc_some h) (fun _ => pc_rg (pc_if (fun _ => pc_some h) (fun _ => pc_rdI (fun _ => pc_rdI (fun _ => pc_rg (pc_if (fun _ => L83 FU _ _ _ _ S h) (fun _ => pc_rdI (fun _ => pc_rdI (fun _ => L83 FU _ _ _ _ S h)))))))))))
  unfold m_x1_release m_x1_release_J25
  refine pc_rdI (fun hp => pc_inb (pc_stn (fun s52 e52 => ?_)))
  have k52 := (q_AA e52 : gA s52 52 = _)
  have d := uN_dec (f := gA s 52) (b := p.toNat) (by omega)
  rw [← k52] at d
  refine pc_rdI (fun _ => ?_)
  have y53 : gA s52 52 p.toNat = gA s 52 p.toNat - 1 := by rw [k52, upZ_s]
  rw [y53]
  refine pc_rg (pc_if (fun c => pc_inb (pc_stn (fun s57 e57 => L FU 1 0 s57 ?_))) (fun c => L FU 0 0 s52 ?_))
  · rw [if_pos (by omega)] at d
    rw [(q_Aa e57 (by decide) : gA s57 52 = gA s52 52)]
    omega
  · rw [if_neg (by omega)] at d
    omega
/-! the same steps on the counts themselves -/
def RLl (S S' : MS) : Prop := (∀ b, b < 48 → gA S 52 b = gA S' 54 b) ∧ ∀ k, k = 50 ∨ k = 56 ∨ k = 57 ∨ k = 59 → gA S k = gA S' k
set_option maxHeartbeats 250000 in theorem RLl_dec {S S' X X' : MS} {b : Nat} (h : RLl S S') (hb : b < 48) (e : sA S 52 (upZ (gA S 52) b (gA S 52 b - 1)) = X) (e' : sA S' 54 (upZ (gA S' 54) b (gA S' 54 b - 1)) = X') : RLl X X' := ⟨fun q hq => by
  rw [(q_AA e : gA X 52 = _), (q_AA e' : gA X' 54 = _)]
  by_cases z : q = b
  · rw [z, upZ_s, upZ_s, h.1 b hb]
  · rw [upZ_n z, upZ_n z]; exact h.1 q hq, fun k hk => by
  rw [(q_Aa e (by omega) : gA X k = gA S k), (q_Aa e' (by omega) : gA X' k = gA S' k)]; exact h.2 k hk⟩
set_option maxHeartbeats 250000 in theorem RLl_50 {S S' X X' : MS} {j : Nat} {v : Int} (h : RLl S S') (e : sA S 50 (upZ (gA S 50) j v) = X) (e' : sA S' 50 (upZ (gA S' 50) j v) = X') : RLl X X' := ⟨fun q hq => by
  rw [(q_Aa e (by decide) : gA X 52 = gA S 52), (q_Aa e' (by decide) : gA X' 54 = gA S' 54)]; exact h.1 q hq, fun k hk => by
  by_cases z : k = 50
  · rw [z, (q_AA e : gA X 50 = _), (q_AA e' : gA X' 50 = _), h.2 50 (Or.inl rfl)]
  · rw [(q_Aa e z : gA X k = gA S k), (q_Aa e' z : gA X' k = gA S' k)]; exact h.2 k hk⟩
set_option maxHeartbeats 250000 in theorem y_rel_L : ∀ (n m : Nat) (x3 x4 : Int) (S S' : MS), RLl S S' → pc (m_x1_release_L28 n x3 x4 S) (fun q => pc (m_x1_release_v2_L28 m x3 x4 S') (fun q' => RLl q.2 q'.2)) := by
  refine fr_ind (fun _ _ _ _ _ _ => pc_none) (fun n ih m x3 x4 S S' h => ?_)
  cases m with
  | zero => exact fun q _ => pc_none
  | succ m =>
    have L83 : ∀ (k k' : Nat) (x6 x7 x8 x9 : Int) (X X' : MS), RLl X X' → pc (m_x1_release_L83 (m_x1_release_L28 n) k x6 x7 x8 x9 X) (fun q => pc (m_x1_release_v2_L83 (m_x1_release_v2_L28 m) k' x6 x7 x8 x9 X') (fun q' => RLl q.2 q'.2)) := by
      refine fr_ind (fun _ _ _ _ _ _ _ _ => pc_none) (fun k ih2 k' x6 x7 x8 x9 X X' hX => ?_)
      cases k' with
      | zero => exact fun q _ => pc_none
      | succ k' =>
        have REF : ∀ Q : Int × MS → Prop, (x8 ≤ x9 → pc (m_x1_release_v2_L28 m x6 (x7 + 1) X') Q) → (¬ x8 ≤ x9 → ∀ y : Nat, y < 48 → (y : Int) = gA X 59 (gA X 50 x7.toNat * 6 + x9).toNat → ∀ X25, sA X' 54 (upZ (gA X' 54) y (gA X' 54 y - 1)) = X25 → (gA X25 54 y = 0 → 48 ≤ x6 → pc (m_x1_release_v2_L83 (m_x1_release_v2_L28 m) k' x6 x7 x8 (x9 + 1) X25) Q) ∧ (gA X25 54 y = 0 → ¬ 48 ≤ x6 → ∀ X32, sA X25 50 (upZ (gA X25 50) x6.toNat (y : Int)) = X32 → pc (m_x1_release_v2_L83 (m_x1_release_v2_L28 m) k' (x6 + 1) x7 x8 (x9 + 1) X32) Q) ∧ (gA X25 54 y ≠ 0 → pc (m_x1_release_v2_L83 (m_x1_release_v2_L28 m) k' x6 x7 x8 (x9 + 1) X25) Q)) → pc (m_x1_release_v2_L83 (m_x1_release_v2_L28 m) (k' + 1) x6 x7 x8 x9 X') Q := fun Q k1 k2 => by
          show pc (m_x1_release_v2_b83 (m_x1_release_v2_L28 m) (m_x1_release_v2_L83 (m_x1_release_v2_L28 m) k') x6 x7 x8 x9 X') Q
          unfold m_x1_release_v2_b83 m_x1_release_v2_J148 m_x8_slot
          refine pc_rg (pc_rg (pc_if (fun c => k1 c) (fun c => pc_rdI (fun _ => pc_bn (fun r21 e21 => pc_rdI (fun _ => pc_rdI (fun hy => pc_inb (pc_stn (fun s25 e25 => ?_)))))))))
          cases e21
          rw [← hX.2 59 (by omega), ← hX.2 50 (by omega)] at e25 hy ⊢
          obtain ⟨y, ey⟩ : ∃ y : Nat, gA X 59 (gA X 50 x7.toNat * 6 + x9).toNat = (y : Int) := ⟨(gA X 59 (gA X 50 x7.toNat * 6 + x9).toNat).toNat, by omega⟩
          rw [ey] at e25 hy ⊢
          rw [Int.toNat_natCast] at e25
          have K := k2 c y (by omega) ey.symm s25 e25
          refine pc_rdI (fun _ => ?_)
          rw [Int.toNat_natCast]
          exact pc_rg (pc_if (fun c3 => pc_rg (pc_if (fun c4 => K.1 c3 c4) (fun c4 => pc_inb (pc_stn (fun s32 e32 => K.2.1 c3 c4 s32 e32))))) (fun c3 => K.2.2 c3))
        show pc (m_x1_release_b83 (m_x1_release_L28 n) (m_x1_release_L83 (m_x1_release_L28 n) k) x6 x7 x8 x9 X) _
        unfold m_x1_release_b83 m_x1_release_J148 m_x8_slot
        refine pc_rg (pc_rg (pc_if (fun c => fun q eq => REF _ (fun _ => ih m x6 (x7 + 1) X X' hX q eq) (fun d => absurd c d)) (fun c => pc_rdI (fun _ => pc_bn (fun r21 e21 => pc_rdI (fun _ => pc_rdI (fun hy => pc_inb (pc_stn (fun s25 e25 => ?_)))))))))
        cases e21
        obtain ⟨y, ey⟩ : ∃ y : Nat, gA X 59 (gA X 50 x7.toNat * 6 + x9).toNat = (y : Int) := ⟨(gA X 59 (gA X 50 x7.toNat * 6 + x9).toNat).toNat, by omega⟩
        rw [ey] at e25 hy ⊢
        rw [Int.toNat_natCast] at e25
        have y48 : y < 48 := by omega
        have ye : ∀ y' : Nat, (y' : Int) = gA X 59 (gA X 50 x7.toNat * 6 + x9).toNat → y' = y := fun y' e => by omega
        have same : ∀ X25, sA X' 54 (upZ (gA X' 54) y (gA X' 54 y - 1)) = X25 → RLl s25 X25 := fun X25 e => RLl_dec hX y48 e25 e
        refine pc_rdI (fun _ => ?_)
        rw [Int.toNat_natCast]
        refine pc_rg (pc_if (fun c3 => pc_rg (pc_if (fun c4 => fun q eq => REF _ (fun d => absurd d c) (fun _ y' _ e' X25 f25 => ?_)) (fun c4 => pc_inb (pc_stn (fun s32 e32 => fun q eq => REF _ (fun d => absurd d c) (fun _ y' _ e' X25 f25 => ?_)))))) (fun c3 => fun q eq => REF _ (fun d => absurd d c) (fun _ y' _ e' X25 f25 => ?_)))
        · rw [ye y' e'] at f25 ⊢
          have R25 := same X25 f25
          exact ⟨fun _ _ => ih2 k' x6 x7 x8 (x9 + 1) s25 X25 R25 q eq, fun _ d => absurd c4 d, fun d => absurd ((R25.1 y y48).symm.trans c3) d⟩
        · rw [ye y' e'] at f25 ⊢
          have R25 := same X25 f25
          exact ⟨fun _ d => absurd d c4, fun _ _ X32 f32 => ih2 k' (x6 + 1) x7 x8 (x9 + 1) s32 X32 (RLl_50 R25 e32 f32) q eq, fun d => absurd ((R25.1 y y48).symm.trans c3) d⟩
        · rw [ye y' e'] at f25 ⊢
          have R25 := same X25 f25
          exact ⟨fun d _ => absurd ((R25.1 y y48).trans d) c3, fun d _ => absurd ((R25.1 y y48).trans d) c3, fun _ => ih2 k' x6 x7 x8 (x9 + 1) s25 X25 R25 q eq⟩
    have REF : ∀ Q : Int × MS → Prop, (x3 ≤ x4 ∨ 48 ≤ x4 → Q (x3, S')) → (¬ (x3 ≤ x4 ∨ 48 ≤ x4) → (gA S 56 (gA S 50 x4.toNat).toNat ≤ 0 → pc (m_x1_release_v2_L83 (m_x1_release_v2_L28 m) FU x3 x4 0 0 S') Q) ∧ (¬ gA S 56 (gA S 50 x4.toNat).toNat ≤ 0 → pc (m_x1_release_v2_L83 (m_x1_release_v2_L28 m) FU x3 x4 (gA S 57 (gA S 50 x4.toNat).toNat) 0 S') Q)) → pc (m_x1_release_v2_L28 (m + 1) x3 x4 S') Q := fun Q k1 k2 => by
      show pc (m_x1_release_v2_b28 (m_x1_release_v2_L28 m) x3 x4 S') Q
      unfold m_x1_release_v2_b28 m_x1_release_v2_J160 m_x1_release_v2_J78
      rw [← h.2 50 (by omega), ← h.2 56 (by omega), ← h.2 57 (by omega)]
      exact pc_rg (pc_rg (pc_if (fun c => pc_some (k1 (Or.inl c))) (fun c => pc_rg (pc_if (fun c2 => pc_some (k1 (Or.inr c2))) (fun c2 => pc_rdI (fun _ => pc_rdI (fun _ => pc_rg (pc_if (fun c3 => (k2 (by omega)).1 c3) (fun c3 => pc_rdI (fun _ => pc_rdI (fun _ => (k2 (by omega)).2 c3)))))))))))
    show pc (m_x1_release_b28 (m_x1_release_L28 n) x3 x4 S) _
    unfold m_x1_release_b28 m_x1_release_J160 m_x1_release_J78
    refine pc_rg (pc_rg (pc_if (fun c => pc_some (REF _ (fun _ => h) (fun d => absurd (Or.inl c) d))) (fun c => pc_rg (pc_if (fun c2 => pc_some (REF _ (fun _ => h) (fun d => absurd (Or.inr c2) d))) (fun c2 => pc_rdI (fun _ => pc_rdI (fun _ => pc_rg (pc_if (fun c3 => fun q eq => REF _ (fun d => absurd d (by omega)) (fun _ => ⟨fun _ => L83 FU FU _ _ _ _ S S' h q eq, fun d => absurd c3 d⟩)) (fun c3 => pc_rdI (fun _ => pc_rdI (fun _ => fun q eq => REF _ (fun d => absurd d (by omega)) (fun _ => ⟨fun d => absurd d c3, fun _ => L83 FU FU _ _ _ _ S S' h q eq⟩))))))))))))
set_option maxHeartbeats 250000 in theorem y_rel {p : Int} {S S' : MS} (h : RLl S S') : pc (m_x1_release p S) (fun q => pc (m_x1_release_v2 p S') (fun q' => RLl q.2 q'.2)) := by
  unfold m_x1_release m_x1_release_J25
  refine pc_rdI (fun hp => pc_inb (pc_stn (fun s52 e52 => pc_rdI (fun _ => ?_))))
  have REF : ∀ Q : Int × MS → Prop, (∀ X, sA S' 54 (upZ (gA S' 54) p.toNat (gA S' 54 p.toNat - 1)) = X → (gA X 54 p.toNat = 0 → ∀ X2, sA X 50 (upZ (gA X 50) (Int.toNat 0) p) = X2 → pc (m_x1_release_v2_L28 FU 1 0 X2) Q) ∧ (gA X 54 p.toNat ≠ 0 → pc (m_x1_release_v2_L28 FU 0 0 X) Q)) → pc (m_x1_release_v2 p S') Q := fun Q K => by
    unfold m_x1_release_v2 m_x1_release_v2_J25
    exact pc_rdI (fun _ => pc_inb (pc_stn (fun X eX => pc_rdI (fun _ => pc_rg (pc_if (fun c => pc_inb (pc_stn (fun X2 eX2 => (K X eX).1 c X2 eX2))) (fun c => (K X eX).2 c))))))
  have p48 : p.toNat < 48 := by omega
  refine pc_rg (pc_if (fun c => pc_inb (pc_stn (fun s57 e57 => fun q eq => REF _ (fun X eX => ?_)))) (fun c => fun q eq => REF _ (fun X eX => ?_)))
  · have R := RLl_dec h p48 e52 eX
    exact ⟨fun _ X2 eX2 => y_rel_L FU FU 1 0 s57 X2 (RLl_50 R e57 eX2) q eq, fun d => absurd ((R.1 p.toNat p48).symm.trans c) d⟩
  · have R := RLl_dec h p48 e52 eX
    exact ⟨fun d => absurd ((R.1 p.toNat p48).trans d) c, fun _ => y_rel_L FU FU 0 0 s52 X R q eq⟩
set_option maxHeartbeats 1000000 in
/- a VOLUME's own BLOCKS -/
theorem y_freed {s t : MS} {ts : List MS} {v : Nat} (hT : TE s) (hR : Rr t) (hJ : JI t) (B : BT s ts t) (h47 : gI t 47 = gI s 12) (ht : gI s 12 ≠ 0) (Z : ZP s t) (hv : v < 8) (hn : gA t 49 v ≠ 255) (h60 : gA s 60 v ≠ -2) : pc (m_x1_freedWith (gA s 60 v) s) (fun q => pc (m_x12_dropsMany (v : Int) t) (fun o => q.1 = o.1)) := by
  have tv : ((v : Nat) : Int).toNat = v := Int.toNat_natCast _
  have G := JI_GA hJ (by rw [h47]; exact ht)
  obtain ⟨N, R, _⟩ := B.2.2.2 ht
  obtain ⟨s6, e6, T6, F6, B6⟩ := ts_begin hT
  have h66 : gA s6 60 v ≠ -2 := by rw [F6.2.1 60 (by decide)]; exact h60
  obtain ⟨s10, e10, T10⟩ := ts_letGo T6 (p0 := (v : Int)) ⟨by omega, by omega⟩ (by rw [tv]; exact h66)
  -- the class
  have C : pc (m_x1_freedWith (gA s 60 v) s) (fun q => q.1 = uN (gA s 54) - uN (gA s10 54)) := by
    have e60 : gA s6 60 v = gA s 60 v := by rw [F6.2.1 60 (by decide)]
    have k54 : gA s6 54 = gA s 54 := F6.2.1 54 (by decide)
    unfold m_x1_freedWith
    refine pc_rg (pc_if (fun c => pc_some ?_) (fun c => pc_cpg (pc_stn (fun s4 e4 => pc_bn (fun q7 e7 => pc_some ?_)))))
    · have g : pc (m_x1_letGo (v : Int) s6) (fun o => gA o 54 = gA s6 54) := by
        unfold m_x1_letGo m_x1_letGo_J34
        refine pc_rdI (fun _ => ?_)
        rw [tv, e60]
        exact pc_rg (pc_if (fun _ => pc_inb (pc_stn (fun s4 e4 => pc_some (q_Aa e4 (by decide))))) (fun d => absurd c d))
      have w := g s10 e10
      show (0 : Int) = uN (gA s 54) - uN (gA s10 54)
      rw [w, k54]; omega
    · have RL0 : RLl s4 s6 := ⟨fun b hb => by rw [(q_AA e4 : gA s4 52 = _), k54]; exact cpy_all hb, fun k hk => by rw [(q_Aa e4 (by omega) : gA s4 k = gA s k), F6.2.1 k (by simp; omega)]⟩
      have u := s_relU q7 e7
      have w : uN (gA q7.2 52) = uN (gA s10 54) := by
        have g : pc (m_x1_letGo (v : Int) s6) (fun o => ∀ b, b < 48 → gA q7.2 52 b = gA o 54 b) := by
          unfold m_x1_letGo m_x1_letGo_J34
          refine pc_rdI (fun _ => ?_)
          rw [tv, e60]
          refine pc_rg (pc_if (fun d => absurd d c) (fun _ => pc_rdI (fun _ => ?_)))
          rw [tv, e60]
          exact pc_bq (y_rel RL0 q7 e7) (fun q11 h11 => pc_inb (pc_stn (fun s4 e4 => pc_some (fun b hb => by rw [(q_Aa e4 (by decide) : gA s4 54 = gA q11.2 54)]; exact h11.1 b hb))))
        exact uN_c (g s10 e10)
      have w0 : uN (gA s4 52) = uN (gA s 54) := uN_c (fun b hb => by rw [(q_AA e4 : gA s4 52 = _)]; exact cpy_all hb)
      show q7.1 = uN (gA s 54) - uN (gA s10 54)
      rw [u, w, w0]
  refine pc_mono C (fun q hq => ?_)
  -- the reference
  unfold m_x12_dropsMany
  refine pc_bn (fun s2 f2 => pc_bn (fun r4 f4 => pc_bn (fun s6r f6 => pc_bn (fun r8 f8 => pc_bn (fun s10r f10 => pc_some ?_)))))
  obtain ⟨b1, b2, b3⟩ := m_aside s2 f2
  have R2' : Rr s2 := (wp_det (w_x12_putsAside hR) f2).1
  have G2 : GA s2 := GA_eq G ⟨b1 39 (by decide) (by decide), b1 42 (by decide) (by decide), b1 43 (by decide) (by decide), b1 44 (by decide) (by decide)⟩ (b1 49 (by decide) (by decide)) (b1 75 (by decide) (by decide)) (b2 76) (b2 77)
  obtain ⟨J6, _, _⟩ := y_begA N R Z hT e6 (t' := s2) (fun k hk => b1 k (by omega) (by omega)) b3
  obtain ⟨⟨π, σ, lo, hi, HS, _⟩, _⟩ := J6
  have e49 : gA s2 49 = gA t 49 := b1 49 (by decide) (by decide)
  have rt := GA_rt G hv hn
  have W := wp_det (w_x12_drops R2' (p0 := (v : Int)) ⟨by omega, by omega⟩ G2.1.1.1 (by rw [tv, e49]; omega)) f6
  rw [tv] at W
  obtain ⟨R6r, RT6, k6, u6, v6⟩ := W
  have F6r : F_x12_drops s2 s6r := fr_x12_drops f6
  have HS3 : SIM π σ s10 s6r := y_dropT HS (KLV_of G2.1.1.1.1 (fun _ _ => Int.le_refl 0)) hv e10 f6 (fun w hw hnw => u6 w (by omega) hnw) T10.2.1 RT6.1
  have n2 : gA s2 39 = gA t 39 := b1 39 (by decide) (by decide)
  have n6 : gA s6r 39 = gA t 39 := (F6r.2.1 39 (by decide)).trans n2
  have U4 := m_usedN (t := s2) (by rw [n2]; exact JI_N hJ) r4 f4
  have U8 := m_usedN (t := s6r) (by rw [n6]; exact JI_N hJ) r8 f8
  have c1 := CC_used (CC_of HS.1 HS.2.1 G2.1.1.1.1)
  have c2 := CC_used (CC_of HS3.1 HS3.2.1 RT6.1)
  have a1 := uN_cn T6.2.1
  have a2 := uN_cn T10.2.1
  have k54 : gA s6 54 = gA s 54 := F6.2.1 54 (by decide)
  show q.1 = r4 - r8
  rw [hq, U4, U8, ← c1, ← c2, ← a1, ← a2, k54]
/- VICTIM -/
set_option maxHeartbeats 250000 in theorem y_victim {x t : MS} {ts : List MS} {p0 : Int} (hC : CI x ts) (hR : Rr t) (hJ : JI t) (B : BT x ts t) (h47 : gI t 47 = gI x 12) (hZ : ZT x t) : pc (m_x11_victim p0 x) (fun q => pc (m_x12_victim p0 t) (fun o => q.1 = o.1)) := by
  have V := BT_V B hC h47
  have L : p0 = 0 ∨ p0 = 1 → ∀ (n m : Nat) (a b i : Int) (S T : MS), Rg S → (∀ k, gI S k = gI x k) → (∀ k, k ≠ 50 → k ≠ 52 → gA S k = gA x k) → RS0 t T → gA T 9 = gA t 9 → gL T 78 = gL t 78 → (∀ k, 42 ≤ k → k ≤ 44 → gA T k = gA t k) → 0 ≤ i → pc (m_x11_victim_L16 n p0 a b i S) (fun q => pc (m_x12_victim_L19 m p0 a b i T) (fun o => q.1 = o.1)) := by
    intro hp
    refine fr_ind (fun _ _ _ _ _ _ _ _ _ _ _ _ _ _ => pc_none) (fun n ih m a b i S T hS hI hA hT h9 h78 h44 hi => ?_)
    cases m with
    | zero => exact fun q _ => pc_none
    | succ m =>
      have BS : BT S ts T := BT_n B ⟨fun k _ => hI k, fun k hk => hA k (by omega) (by omega)⟩ ⟨fun k hk => hT.2.2 k (by omega), fun k hk => hT.2.1 k (by omega), by rw [hT.2.1 39 (by omega)]⟩ (hI 983) (hA 2 (by decide) (by decide)) h78 h9
      have h47' : gI T 47 = gI S 12 := by rw [hT.2.2 47 (by omega), hI 12]; exact h47
      have VS : VJ S T := fun u hu => by rw [hA 60 (by decide) (by decide), hT.2.2 47 (by omega), hT.2.1 49 (by omega)]; exact V u hu
      have nxt : ∀ (r : Int) (S1 T1 : MS), Rg S1 → (∀ k, gI S1 k = gI x k) → (∀ k, k ≠ 50 → k ≠ 52 → gA S1 k = gA x k) → RS0 t T1 → gA T1 9 = gA t 9 → gL T1 78 = gL t 78 → (∀ k, 42 ≤ k → k ≤ 44 → gA T1 k = gA t k) → pc (m_x11_victim_J50 (m_x11_victim_L16 n) p0 a b i r S1) (fun q => pc (m_x12_victim_J46 (m_x12_victim_L19 m) p0 a b i r T1) (fun o => q.1 = o.1)) := fun r S1 T1 g0 g1 g2 g3 g4 g5 g6 => by
        unfold m_x11_victim_J50 m_x11_victim_J66
        refine pc_rg (pc_rg (pc_if (fun c => fun q eq => ?_) (fun c => fun q eq => ?_)))
        · unfold m_x12_victim_J46 m_x12_victim_J63
          exact pc_rg (pc_rg (pc_if (fun d => absurd d (by omega)) (fun _ => ih m a b (i + 1) S1 T1 g0 g1 g2 g3 g4 g5 g6 (by omega) q eq)))
        · unfold m_x12_victim_J46 m_x12_victim_J63
          exact pc_rg (pc_rg (pc_if (fun _ => ih m i r (i + 1) S1 T1 g0 g1 g2 g3 g4 g5 g6 (by omega) q eq) (fun d => absurd (by omega) d)))
      show pc (m_x11_victim_b16 (m_x11_victim_L16 n) p0 a b i S) _
      unfold m_x11_victim_b16
      refine pc_rg (pc_if (fun c8 => ?_) (fun c8 => pc_bn (fun r25 e25 => pc_rg (pc_if (fun c => ?_) (fun c => pc_rdI (fun _ => pc_bn (fun q31 e31 => ?_)))))))
      · have REF : ∀ Q : Int × MS → Prop, (p0 = 0 → Q (a, T)) → (p0 = 1 → Q (b, T)) → pc (m_x12_victim_L19 (m + 1) p0 a b i T) Q := fun Q k1 k2 => by
          show pc (m_x12_victim_b19 (m_x12_victim_L19 m) p0 a b i T) Q
          unfold m_x12_victim_b19 m_x12_victim_J78
          exact pc_rg (pc_if (fun _ => pc_rg (pc_if (fun z => pc_some (k1 z)) (fun z => pc_some (k2 (by omega))))) (fun d => absurd c8 d))
        have ONE : pc (m_x11_oneOf p0 a b S) (fun r => (p0 = 0 → r = a) ∧ (p0 = 1 → r = b)) := by
          unfold m_x11_oneOf m_x11_oneOf_J16
          exact pc_rg (pc_if (fun z => pc_some ⟨fun _ => rfl, fun w => absurd (z.symm.trans w) (by decide)⟩) (fun z => pc_rg (pc_if (fun z2 => pc_some ⟨fun w => absurd w z, fun _ => rfl⟩) (fun z2 => pc_some ⟨fun w => absurd w z, fun w => absurd w z2⟩))))
        exact pc_bq ONE (fun r23 h23 => pc_some (REF _ h23.1 h23.2))
      · intro q eq
        show pc (m_x12_victim_b19 (m_x12_victim_L19 m) p0 a b i T) _
        unfold m_x12_victim_b19
        exact pc_rg (pc_if (fun d => absurd d c8) (fun _ => pc_rg (pc_bn (fun r28 e28 => pc_rg (pc_if (fun _ => nxt (-1) S T hS hI hA hT h9 h78 h44 q eq) (fun d => absurd ((y_isVol VS e25 e28).1.symm.trans c) d))))))
      · have v0 := isVol_y e25 c
        obtain ⟨v, hv⟩ : ∃ v : Nat, i = (v : Int) := ⟨i.toNat, by omega⟩
        have tv : i.toNat = v := by omega
        rw [tv] at v0 e31
        have v8 : v < 8 := by omega
        have h60S := v0.2
        have h60 : gA x 60 v ≠ -2 := by rw [← hA 60 (by decide) (by decide)]; exact v0.2
        have ht := CI_told hC v8 h60
        have n255 : gA t 49 v ≠ 255 := fun z => h60 ((V v v8).2 (Or.inr z))
        have G := JI_GA hJ (by rw [h47]; exact ht)
        have a60 : ∀ k, 54 ≤ k → k ≤ 61 → gA S k = gA x k := fun k k1 k2 => hA k (by omega) (by omega)
        have CS : CI S ts := CI_keep hC hS a60 ⟨hI 1060, hI 581, hI 12, hI 145⟩
        have S12 : gI S 12 ≠ 0 := by rw [hI 12]; exact ht
        have JT : JI T := JI_eq hJ ⟨hT.2.1 39 (by omega), hT.2.1 42 (by omega), hT.2.1 43 (by omega), hT.2.1 44 (by omega)⟩ (hT.2.1 49 (by omega)) (hT.2.1 75 (by omega)) (hT.2.2 76 (by omega)) (hT.2.2 77 (by omega)) (hT.2.2 47 (by omega)) h78
        have ZS : ZP S T := ZP_k (hZ ht).1 (hI 581) (hI 741) (fun k k1 k2 => hA k (by omega) (by omega)) (fun k hk => by
          rcases hk with hk | hk
          · rw [hk]; exact hT.2.1 39 (by omega)
          · exact h44 k hk.1 hk.2)
        have Y := y_freed (CI_TE CS S12) hT.1 JT BS h47' S12 ZS v8 (by rw [hT.2.1 49 (by omega)]; exact n255) h60S q31 e31
        have F31 : F_x1_freedWith S q31.2 := fr_x1_freedWith e31
        have ro := TS_root hS CS.2.1 v8
        have W31 := wp_det (ts_freed hS CS.2.1 (p0 := gA S 60 v) (by
          have w1 := ro.1
          have w2 := ro.2
          by_cases z : gA S 60 v = -1
          · exact Or.inl z
          · exact Or.inr ⟨by omega, by omega, (w2 (by omega)).2⟩)) e31
        intro q eq
        show pc (m_x12_victim_b19 (m_x12_victim_L19 m) p0 a b i T) _
        unfold m_x12_victim_b19
        refine pc_rg (pc_if (fun d => absurd d c8) (fun _ => pc_rg (pc_bn (fun r28 e28 => pc_rg (pc_if (fun d => absurd ((y_isVol VS e25 e28).1.trans d) c) (fun _ => pc_bn (fun q33 e33 => ?_)))))))
        rw [hv] at e33
        have E := Y q33 e33
        have F33 : F_x12_dropsMany T q33.2 := fr_x12_dropsMany e33
        have g3 := rs0_drop G hT (p0 := (v : Int)) ⟨by omega, by omega⟩ (by rw [Int.toNat_natCast]; exact n255) q33 e33
        rw [← E]
        exact nxt q31.1 q31.2 q33.2 W31.1 (fun k => (F31.1 k (by simp)).trans (hI k)) (fun k k1 k2 => (F31.2.1 k (by simp; omega)).trans (hA k k1 k2)) g3 ((F33.2.1 9 (by decide)).trans h9) ((F33.2.2.1 78 (by simp)).trans h78) (fun k k1 k2 => (F33.2.1 k (by simp; omega)).trans (h44 k k1 k2)) q eq
  have D : ¬ (p0 = 0 ∨ p0 = 1) → ∀ (n : Nat) (a b i : Int) (S : MS), pc (m_x11_victim_L16 n p0 a b i S) (fun q => q.1 = -1) := by
    intro hp
    refine fr_ind (fun _ _ _ _ => pc_none) (fun n ih a b i S => ?_)
    show pc (m_x11_victim_b16 (m_x11_victim_L16 n) p0 a b i S) _
    unfold m_x11_victim_b16 m_x11_oneOf m_x11_oneOf_J16
    have J : ∀ (r : Int) (S1 : MS), pc (m_x11_victim_J50 (m_x11_victim_L16 n) p0 a b i r S1) (fun q => q.1 = -1) := fun r S1 => by
      unfold m_x11_victim_J50 m_x11_victim_J66
      exact pc_rg (pc_rg (pc_if (fun _ => ih _ _ _ _) (fun _ => ih _ _ _ _)))
    have ONE : pc (rg p0 (if p0 = 0 then some a else rg p0 (if p0 = 1 then some b else some (-1)))) (fun r : Int => r = -1) := pc_rg (pc_if (fun z => absurd (Or.inl z) hp) (fun _ => pc_rg (pc_if (fun z => absurd (Or.inr z) hp) (fun _ => pc_some rfl))))
    exact pc_rg (pc_if (fun _ => pc_bq ONE (fun r h => pc_some h)) (fun _ => pc_bn (fun r25 _ => pc_rg (pc_if (fun _ => J _ _) (fun _ => pc_rdI (fun _ => pc_bn (fun q31 _ => J _ _)))))))
  unfold m_x11_victim
  by_cases hp : p0 = 0 ∨ p0 = 1
  · intro q eq
    unfold m_x12_victim
    refine pc_rg (pc_bn (fun r36 e36 => pc_rg (pc_if (fun c => ?_) (fun _ => ?_))))
    · rcases m_isIn r36 e36 with ⟨a, _⟩ | ⟨_, b⟩
      · exact absurd c (by omega)
      · exact absurd (show 0 ≤ p0 ∧ p0 ≤ 1 by omega) b
    · exact L hp FU FU (-1) (-1) 0 x t hC.1 (fun _ => rfl) (fun _ _ _ => rfl) (RS0_rf hR) rfl rfl (fun _ _ _ => rfl) (Int.le_refl 0) q eq
  · refine pc_mono (D hp FU (-1) (-1) 0 x) (fun q hq => ?_)
    unfold m_x12_victim
    refine pc_rg (pc_bn (fun r36 e36 => pc_rg (pc_if (fun c => pc_some hq) (fun c => ?_))))
    rcases m_isIn r36 e36 with ⟨_, a⟩ | ⟨a, _⟩
    · exact absurd (show p0 = 0 ∨ p0 = 1 by omega) hp
    · exact absurd a c
/-! ===== how many bits are set ===== -/
set_option maxHeartbeats 250000 in theorem i8_nat {x : Int} (h : 0 ≤ x ∧ x ≤ 9223372036854775807) : ((i8 x).toBitVec.toNat : Int) = x := by
  have e' : (i8 x).toBitVec.toInt = x := i8_t ⟨by omega, h.2⟩
  have c := BitVec.toInt_eq_toNat_cond (i8 x).toBitVec
  have l := (i8 x).toBitVec.isLt
  rw [e'] at c
  split at c <;> omega
set_option maxHeartbeats 250000 in theorem andL_n {n c : Nat} (hn : n < 9223372036854775808) (hc : c < 9223372036854775808) : andL (n : Int) (c : Int) = ((n &&& c : Nat) : Int) := by
  have a := i8_nat (x := (n : Int)) ⟨by omega, by omega⟩
  have b := i8_nat (x := (c : Int)) ⟨by omega, by omega⟩
  have h1 : andL (n : Int) (c : Int) = ((i8 (n : Int)).toBitVec &&& (i8 (c : Int)).toBitVec).toInt := rfl
  have h2 : ((i8 (n : Int)).toBitVec &&& (i8 (c : Int)).toBitVec).toNat = n &&& c := by
    rw [BitVec.toNat_and, show (i8 (n : Int)).toBitVec.toNat = n by omega, show (i8 (c : Int)).toBitVec.toNat = c by omega]
  have lt : n &&& c < 2 ^ 63 := Nat.and_lt_two_pow n (n := 63) hc
  rw [h1, BitVec.toInt_eq_toNat_of_lt (by omega), h2]
set_option maxHeartbeats 250000 in theorem ushr_n {n k : Nat} (hn : n < 9223372036854775808) (hk : k < 64) : ushrLZ (n : Int) (k : Int) = ((n / 2 ^ k : Nat) : Int) := by
  have a := i8_nat (x := (n : Int)) ⟨by omega, by omega⟩
  have h1 : ushrLZ (n : Int) (k : Int) = ((i8 (n : Int)).toBitVec >>> (((i2 (k : Int)).toInt64.toUInt64 &&& Int64.toUInt64 63).toBitVec % 64#64)).toInt := rfl
  have h2 : ((i8 (n : Int)).toBitVec >>> (((i2 (k : Int)).toInt64.toUInt64 &&& Int64.toUInt64 63).toBitVec % 64#64)).toNat = n / 2 ^ k := by
    rw [BitVec.ushiftRight_eq', BitVec.toNat_ushiftRight, bs_sh k hk, show (i8 (n : Int)).toBitVec.toNat = n by omega, Nat.shiftRight_eq_div_pow]
  have le : n / 2 ^ k ≤ n := Nat.div_le_self n (2 ^ k)
  rw [h1, BitVec.toInt_eq_toNat_of_lt (by omega), h2]
set_option maxHeartbeats 250000 in theorem and_two {x y c d : Nat} (hx : x < 256) (hc : c < 256) : (x + 256 * y) &&& (c + 256 * d) = (x &&& c) + 256 * (y &&& d) := by
  have m := Nat.and_mod_two_pow (a := x + 256 * y) (b := c + 256 * d) (n := 8)
  have q := Nat.and_div_two_pow (a := x + 256 * y) (b := c + 256 * d) (n := 8)
  have p8 : (2 : Nat) ^ 8 = 256 := by decide +kernel
  rw [p8] at m q
  rw [show (x + 256 * y) % 256 = x by omega, show (c + 256 * d) % 256 = c by omega] at m
  rw [show (x + 256 * y) / 256 = y by omega, show (c + 256 * d) / 256 = d by omega] at q
  omega
/- byte by byte -/
def bmap (f : Nat → Nat) : Nat → Nat → Nat
  | 0, _ => 0
  | k + 1, n => f (n % 256) + 256 * bmap f k (n / 256)
def mkb (c : Nat) : Nat → Nat
  | 0 => 0
  | k + 1 => c + 256 * mkb c k
set_option maxHeartbeats 250000 in theorem bmap_add (f g : Nat → Nat) : ∀ k n, bmap f k n + bmap g k n = bmap (fun b => f b + g b) k n := by
  intro k
  induction k with
  | zero => intro n; rfl
  | succ k ih =>
    intro n
    have := ih (n / 256)
    show (f (n % 256) + 256 * bmap f k (n / 256)) + (g (n % 256) + 256 * bmap g k (n / 256)) = (f (n % 256) + g (n % 256)) + 256 * bmap (fun b => f b + g b) k (n / 256)
    omega
set_option maxHeartbeats 250000 in theorem bmap_id : ∀ k n, n < 256 ^ k → bmap (fun b => b) k n = n := by
  intro k
  induction k with
  | zero => intro n h; have h' : n < 1 := h; show 0 = n; omega
  | succ k ih =>
    intro n h
    have e : (256 : Nat) ^ (k + 1) = 256 ^ k * 256 := rfl
    rw [e] at h
    have := ih (n / 256) (by omega)
    show n % 256 + 256 * bmap (fun b => b) k (n / 256) = n
    omega
set_option maxHeartbeats 250000 in theorem bmap_and {f : Nat → Nat} (hf : ∀ b, b < 256 → f b < 256) {c : Nat} (hc : c < 256) : ∀ k n, bmap f k n &&& mkb c k = bmap (fun b => f b &&& c) k n := by
  intro k
  induction k with
  | zero => intro n; rfl
  | succ k ih =>
    intro n
    show (f (n % 256) + 256 * bmap f k (n / 256)) &&& (c + 256 * mkb c k) = (f (n % 256) &&& c) + 256 * bmap (fun b => f b &&& c) k (n / 256)
    rw [and_two (hf _ (by omega)) hc, ih]
set_option maxHeartbeats 250000 in theorem bmap_2 {f : Nat → Nat} (hf : ∀ b, b < 256 → f b < 256) (h5 : ∀ b, b < 256 → ∀ r, r < 2 → (b / 2 + 128 * r) &&& 85 = (b / 2) &&& 85) : ∀ k n, (bmap f k n / 2) &&& mkb 85 k = bmap (fun b => (f b / 2) &&& 85) k n := by
  intro k
  induction k with
  | zero => intro n; rfl
  | succ k ih =>
    intro n
    have hb := hf (n % 256) (by omega)
    show ((f (n % 256) + 256 * bmap f k (n / 256)) / 2) &&& (85 + 256 * mkb 85 k) = ((f (n % 256) / 2) &&& 85) + 256 * bmap (fun b => (f b / 2) &&& 85) k (n / 256)
    rw [show (f (n % 256) + 256 * bmap f k (n / 256)) / 2 = (f (n % 256) / 2 + 128 * (bmap f k (n / 256) % 2)) + 256 * (bmap f k (n / 256) / 2) by omega]
    rw [and_two (by omega) (by decide), ih, h5 _ hb _ (by omega)]
set_option maxHeartbeats 250000 in theorem bmap_4 {f : Nat → Nat} (hf : ∀ b, b < 256 → f b < 256) (h3 : ∀ b, b < 256 → ∀ r, r < 4 → (b / 4 + 64 * r) &&& 51 = (b / 4) &&& 51) : ∀ k n, (bmap f k n / 4) &&& mkb 51 k = bmap (fun b => (f b / 4) &&& 51) k n := by
  intro k
  induction k with
  | zero => intro n; rfl
  | succ k ih =>
    intro n
    have hb := hf (n % 256) (by omega)
    show ((f (n % 256) + 256 * bmap f k (n / 256)) / 4) &&& (51 + 256 * mkb 51 k) = ((f (n % 256) / 4) &&& 51) + 256 * bmap (fun b => (f b / 4) &&& 51) k (n / 256)
    rw [show (f (n % 256) + 256 * bmap f k (n / 256)) / 4 = (f (n % 256) / 4 + 64 * (bmap f k (n / 256) % 4)) + 256 * (bmap f k (n / 256) / 4) by omega]
    rw [and_two (by omega) (by decide), ih, h3 _ hb _ (by omega)]
set_option maxHeartbeats 250000 in theorem bmap_16 {f : Nat → Nat} (hf : ∀ b, b < 256 → f b < 69 ∧ f b % 16 < 5) (h1 : ∀ c, c < 69 → ∀ r, r < 5 → (c + c / 16 + 16 * r) &&& 15 = (c + c / 16) &&& 15) : ∀ k n, ((bmap f k n + bmap f k n / 16) &&& mkb 15 k = bmap (fun b => (f b + f b / 16) &&& 15) k n) ∧ bmap f k n % 16 < 5 := by
  intro k
  induction k with
  | zero => intro n; exact ⟨rfl, by decide⟩
  | succ k ih =>
    intro n
    have hb := hf (n % 256) (by omega)
    obtain ⟨i1, i2⟩ := ih (n / 256)
    constructor
    · show ((f (n % 256) + 256 * bmap f k (n / 256)) + (f (n % 256) + 256 * bmap f k (n / 256)) / 16) &&& (15 + 256 * mkb 15 k) = ((f (n % 256) + f (n % 256) / 16) &&& 15) + 256 * bmap (fun b => (f b + f b / 16) &&& 15) k (n / 256)
      rw [show (f (n % 256) + 256 * bmap f k (n / 256)) + (f (n % 256) + 256 * bmap f k (n / 256)) / 16 = (f (n % 256) + f (n % 256) / 16 + 16 * (bmap f k (n / 256) % 16)) + 256 * (bmap f k (n / 256) + bmap f k (n / 256) / 16) by omega]
      rw [and_two (by omega) (by decide), i1, h1 _ hb.1 _ i2]
    · show (f (n % 256) + 256 * bmap f k (n / 256)) % 16 < 5
      omega
def f1b (b : Nat) : Nat := b - ((b / 2) &&& 85)
def f2b (b : Nat) : Nat := (f1b b &&& 51) + ((f1b b / 4) &&& 51)
def f3b (b : Nat) : Nat := (f2b b + f2b b / 16) &&& 15
set_option maxHeartbeats 250000 in theorem bt_5 : ∀ b, b < 256 → ∀ r, r < 2 → (b / 2 + 128 * r) &&& 85 = (b / 2) &&& 85 := by decide +kernel
set_option maxHeartbeats 250000 in theorem bt_3 : ∀ b, b < 256 → ∀ r, r < 4 → (b / 4 + 64 * r) &&& 51 = (b / 4) &&& 51 := by decide +kernel
set_option maxHeartbeats 250000 in theorem bt_1 : ∀ c, c < 69 → ∀ r, r < 5 → (c + c / 16 + 16 * r) &&& 15 = (c + c / 16) &&& 15 := by decide +kernel
set_option maxHeartbeats 250000 in theorem bt_l : ∀ b, b < 256 → ((b / 2) &&& 85 ≤ b) ∧ f1b b < 256 ∧ (f2b b < 69 ∧ f2b b % 16 < 5) ∧ f3b b ≤ 8 := by decide +kernel
set_option maxHeartbeats 250000 in theorem bt_p : ∀ b, b < 256 → sm 8 (fun i => if Nat.testBit b i = true then (1 : Int) else 0) = (f3b b : Int) := by decide +kernel
set_option maxHeartbeats 250000 in theorem bmap_le {f : Nat → Nat} (hf : ∀ b, b < 256 → f b < 256) : ∀ k n, bmap f k n < 256 ^ k := by
  intro k
  induction k with
  | zero => intro n; show 0 < 1; decide
  | succ k ih =>
    intro n
    have hb := hf (n % 256) (by omega)
    have := ih (n / 256)
    have e : (256 : Nat) ^ (k + 1) = 256 ^ k * 256 := rfl
    rw [e]
    show f (n % 256) + 256 * bmap f k (n / 256) < 256 ^ k * 256
    omega
set_option maxHeartbeats 250000 in theorem bmap_c {f g : Nat → Nat} (h : ∀ b, b < 256 → f b = g b) : ∀ k n, bmap f k n = bmap g k n := by
  intro k
  induction k with
  | zero => intro n; rfl
  | succ k ih =>
    intro n
    show f (n % 256) + 256 * bmap f k (n / 256) = g (n % 256) + 256 * bmap g k (n / 256)
    rw [h _ (by omega), ih]
/- bits, byte by byte -/
set_option maxHeartbeats 250000 in theorem bits_b : ∀ k n, sm (8 * k) (fun x => if Nat.testBit n x = true then (1 : Int) else 0) = sm k (fun j => (f3b (n / 256 ^ j % 256) : Int)) := by
  intro k
  induction k with
  | zero => intro n; rfl
  | succ k ih =>
    intro n
    have s1 : sm (k + 1) (fun j => (f3b (n / 256 ^ j % 256) : Int)) = (f3b (n % 256) : Int) + sm k (fun j => (f3b (n / 256 / 256 ^ j % 256) : Int)) := by
      rw [show k + 1 = 1 + k by omega, sm_app]
      have e0 : sm 1 (fun j => (f3b (n / 256 ^ j % 256) : Int)) = 0 + (f3b (n / 256 ^ 0 % 256) : Int) := rfl
      rw [e0, show n / 256 ^ 0 = n by rw [Nat.pow_zero, Nat.div_one], Int.zero_add]
      refine congrArg (fun w : Int => (f3b (n % 256) : Int) + w) (sm_c (fun j _ => ?_))
      show (f3b (n / 256 ^ (1 + j) % 256) : Int) = (f3b (n / 256 / 256 ^ j % 256) : Int)
      rw [Nat.div_div_eq_div_mul, show (256 : Nat) ^ (1 + j) = 256 * 256 ^ j by rw [Nat.pow_add, Nat.pow_one]]
    rw [s1, ← ih (n / 256), show 8 * (k + 1) = 8 + 8 * k by omega, sm_app]
    have e1 : sm 8 (fun x => if Nat.testBit n x = true then (1 : Int) else 0) = (f3b (n % 256) : Int) := by
      rw [← bt_p _ (by omega)]
      refine sm_c (fun i hi => ?_)
      have t := Nat.testBit_mod_two_pow n 8 i
      have p8 : (2 : Nat) ^ 8 = 256 := by decide +kernel
      rw [p8] at t
      show (if Nat.testBit n i = true then (1 : Int) else 0) = if Nat.testBit (n % 256) i = true then 1 else 0
      rw [t, show decide (i < 8) = true from decide_eq_true hi, Bool.true_and]
    rw [e1]
    refine congrArg (fun w : Int => (f3b (n % 256) : Int) + w) (sm_c (fun j _ => ?_))
    have t := Nat.testBit_add n j 8
    have p8 : (2 : Nat) ^ 8 = 256 := by decide +kernel
    rw [p8] at t
    show (if Nat.testBit n (8 + j) = true then (1 : Int) else 0) = if Nat.testBit (n / 256) j = true then 1 else 0
    rw [Nat.add_comm 8 j, t]
set_option maxHeartbeats 250000 in theorem andZ_n {m : Nat} : andZ (m : Int) 127 = ((m % 128 : Nat) : Int) := by
  have h1 : andZ (m : Int) 127 = ((i2 (m : Int)).toBitVec &&& 127#32).toInt := rfl
  have h2 : (i2 (m : Int)).toBitVec = BitVec.ofInt 32 (m : Int) := rfl
  have h3 : (BitVec.ofInt 32 (m : Int)).toNat = m % 4294967296 := by
    rw [BitVec.toNat_ofInt]
    have p : (2 : Nat) ^ 32 = 4294967296 := by decide +kernel
    rw [p]
    omega
  have h4 : ((i2 (m : Int)).toBitVec &&& 127#32).toNat = m % 128 := by
    rw [BitVec.toNat_and, h2, h3, show (127#32).toNat = 2 ^ 7 - 1 from rfl, Nat.and_two_pow_sub_one_eq_mod]
    have p : (2 : Nat) ^ 7 = 128 := by decide +kernel
    rw [p]
    omega
  rw [h1, BitVec.toInt_eq_toNat_of_lt (by omega), h4]
set_option maxHeartbeats 2000000 in
/- Long.bitCount of a word of 48 bits -/
theorem bitc {n : Nat} {s : MS} (hn : n < 281474976710656) : pc (m_j13_bitCount_95d88 (n : Int) s) (fun r => r = sm 48 (fun x => if Nat.testBit n x = true then (1 : Int) else 0)) := by
  have P8 : (256 : Nat) ^ 8 = 18446744073709551616 := by decide +kernel
  have e5 : mkb 85 8 = 6148914691236517205 := by decide +kernel
  have e3 : mkb 51 8 = 3689348814741910323 := by decide +kernel
  have e1 : mkb 15 8 = 1085102592571150095 := by decide +kernel
  have id8 : bmap (fun b => b) 8 n = n := bmap_id 8 n (by rw [P8]; omega)
  have g1 : n / 2 &&& 6148914691236517205 = bmap (fun b => (b / 2) &&& 85) 8 n := by
    have q := bmap_2 (f := fun b => b) (fun b hb => hb) bt_5 8 n
    rw [id8, e5] at q
    exact q
  have s1 : bmap f1b 8 n + bmap (fun b => (b / 2) &&& 85) 8 n = n := by
    rw [bmap_add, bmap_c (g := fun b => b) (fun b hb => by
      have := (bt_l b hb).1
      show f1b b + ((b / 2) &&& 85) = b
      unfold f1b
      omega) 8 n, id8]
  obtain ⟨A, hA⟩ : ∃ A, A = bmap f1b 8 n := ⟨_, rfl⟩
  obtain ⟨G, hG⟩ : ∃ G, G = n / 2 &&& 6148914691236517205 := ⟨_, rfl⟩
  have sA : A + G = n := by rw [hA, hG, g1]; exact s1
  obtain ⟨A1, hA1⟩ : ∃ A1, A1 = A &&& 3689348814741910323 := ⟨_, rfl⟩
  obtain ⟨A2, hA2⟩ : ∃ A2, A2 = A / 4 &&& 3689348814741910323 := ⟨_, rfl⟩
  have lA1 : A1 ≤ A := by rw [hA1]; exact Nat.and_le_left
  have lA2 : A2 ≤ A / 4 := by rw [hA2]; exact Nat.and_le_left
  obtain ⟨B, hB⟩ : ∃ B, B = A1 + A2 := ⟨_, rfl⟩
  have B2 : B = bmap f2b 8 n := by
    have q1 := bmap_and (f := f1b) (fun b hb => (bt_l b hb).2.1) (c := 51) (by decide) 8 n
    have q2 := bmap_4 (f := f1b) (fun b hb => (bt_l b hb).2.1) bt_3 8 n
    rw [e3, ← hA] at q1 q2
    rw [hB, hA1, hA2, q1, q2, bmap_add]
    rfl
  obtain ⟨X, hX⟩ : ∃ X, X = (B + B / 16) &&& 1085102592571150095 := ⟨_, rfl⟩
  have lX : X ≤ B + B / 16 := by rw [hX]; exact Nat.and_le_left
  have X3 : X = bmap f3b 8 n := by
    have q := (bmap_16 (f := f2b) (fun b hb => (bt_l b hb).2.2.1) bt_1 8 n).1
    rw [e1, ← B2] at q
    rw [hX, q]
    rfl
  obtain ⟨Y, hY⟩ : ∃ Y, Y = X + X / 256 := ⟨_, rfl⟩
  obtain ⟨Z, hZ⟩ : ∃ Z, Z = Y + Y / 65536 := ⟨_, rfl⟩
  obtain ⟨W, hW⟩ : ∃ W, W = Z + Z / 4294967296 := ⟨_, rfl⟩
  have u1 : ushrLZ (n : Int) 1 = ((n / 2 : Nat) : Int) := ushr_n (k := 1) (by omega) (by decide)
  have a1 : andL ((n / 2 : Nat) : Int) 6148914691236517205 = (G : Int) := by
    rw [hG]
    exact andL_n (c := 6148914691236517205) (by omega) (by decide)
  have d1 : (n : Int) - (G : Int) = (A : Int) := by omega
  have c1 : andL (A : Int) 3689348814741910323 = (A1 : Int) := by
    rw [hA1]
    exact andL_n (c := 3689348814741910323) (by omega) (by decide)
  have u2 : ushrLZ (A : Int) 2 = ((A / 4 : Nat) : Int) := ushr_n (k := 2) (by omega) (by decide)
  have c2 : andL ((A / 4 : Nat) : Int) 3689348814741910323 = (A2 : Int) := by
    rw [hA2]
    exact andL_n (c := 3689348814741910323) (by omega) (by decide)
  have d2 : (A1 : Int) + (A2 : Int) = (B : Int) := by omega
  have u3 : ushrLZ (B : Int) 4 = ((B / 16 : Nat) : Int) := ushr_n (k := 4) (by omega) (by decide)
  have d3 : (B : Int) + ((B / 16 : Nat) : Int) = ((B + B / 16 : Nat) : Int) := by omega
  have c3 : andL ((B + B / 16 : Nat) : Int) 1085102592571150095 = (X : Int) := by
    rw [hX]
    exact andL_n (c := 1085102592571150095) (by omega) (by decide)
  have u4 : ushrLZ (X : Int) 8 = ((X / 256 : Nat) : Int) := ushr_n (k := 8) (by omega) (by decide)
  have d4 : (X : Int) + ((X / 256 : Nat) : Int) = (Y : Int) := by omega
  have u5 : ushrLZ (Y : Int) 16 = ((Y / 65536 : Nat) : Int) := ushr_n (k := 16) (by omega) (by decide)
  have d5 : (Y : Int) + ((Y / 65536 : Nat) : Int) = (Z : Int) := by omega
  have u6 : ushrLZ (Z : Int) 32 = ((Z / 4294967296 : Nat) : Int) := ushr_n (k := 32) (by omega) (by decide)
  have d6 : (Z : Int) + ((Z / 4294967296 : Nat) : Int) = (W : Int) := by omega
  unfold m_j13_bitCount_95d88
  rw [u1, a1, d1, c1, u2, c2, d2, u3, d3, c3, u4, d4, u5, d5, u6, d6, andZ_n]
  refine pc_some ?_
  -- the bytes' counts
  have b6 := bits_b 6 n
  have f0 : f3b 0 = 0 := by decide
  have XE : X = f3b (n % 256) + 256 * (f3b (n / 256 % 256) + 256 * (f3b (n / 256 / 256 % 256) + 256 * (f3b (n / 256 / 256 / 256 % 256) + 256 * (f3b (n / 256 / 256 / 256 / 256 % 256) + 256 * (f3b (n / 256 / 256 / 256 / 256 / 256 % 256) + 256 * (f3b (n / 256 / 256 / 256 / 256 / 256 / 256 % 256) + 256 * (f3b (n / 256 / 256 / 256 / 256 / 256 / 256 / 256 % 256) + 256 * 0))))))) := X3
  rw [show n / 256 / 256 / 256 / 256 / 256 / 256 % 256 = 0 by omega, show n / 256 / 256 / 256 / 256 / 256 / 256 / 256 % 256 = 0 by omega, f0] at XE
  have SE : sm 6 (fun j => (f3b (n / 256 ^ j % 256) : Int)) = (((((0 + (f3b (n / 256 ^ 0 % 256) : Int)) + (f3b (n / 256 ^ 1 % 256) : Int)) + (f3b (n / 256 ^ 2 % 256) : Int)) + (f3b (n / 256 ^ 3 % 256) : Int)) + (f3b (n / 256 ^ 4 % 256) : Int)) + (f3b (n / 256 ^ 5 % 256) : Int) := rfl
  have w0 : n / 256 ^ 0 = n := by rw [Nat.pow_zero, Nat.div_one]
  have w1 : n / 256 ^ 1 = n / 256 := by rw [Nat.pow_one]
  have w2 : n / 256 ^ 2 = n / 256 / 256 := by rw [Nat.div_div_eq_div_mul]
  have w3 : n / 256 ^ 3 = n / 256 / 256 / 256 := by rw [Nat.div_div_eq_div_mul, Nat.div_div_eq_div_mul]
  have w4 : n / 256 ^ 4 = n / 256 / 256 / 256 / 256 := by rw [Nat.div_div_eq_div_mul, Nat.div_div_eq_div_mul, Nat.div_div_eq_div_mul]
  have w5 : n / 256 ^ 5 = n / 256 / 256 / 256 / 256 / 256 := by rw [Nat.div_div_eq_div_mul, Nat.div_div_eq_div_mul, Nat.div_div_eq_div_mul, Nat.div_div_eq_div_mul]
  rw [w0, w1, w2, w3, w4, w5] at SE
  have p0 := (bt_l (n % 256) (by omega)).2.2.2
  have p1 := (bt_l (n / 256 % 256) (by omega)).2.2.2
  have p2 := (bt_l (n / 256 / 256 % 256) (by omega)).2.2.2
  have p3 := (bt_l (n / 256 / 256 / 256 % 256) (by omega)).2.2.2
  have p4 := (bt_l (n / 256 / 256 / 256 / 256 % 256) (by omega)).2.2.2
  have p5 := (bt_l (n / 256 / 256 / 256 / 256 / 256 % 256) (by omega)).2.2.2
  show ((W % 128 : Nat) : Int) = sm 48 (fun x => if Nat.testBit n x = true then (1 : Int) else 0)
  rw [show (48 : Nat) = 8 * 6 by decide, b6, SE]
  generalize f3b (n % 256) = q0 at *
  generalize f3b (n / 256 % 256) = q1 at *
  generalize f3b (n / 256 / 256 % 256) = q2 at *
  generalize f3b (n / 256 / 256 / 256 % 256) = q3 at *
  generalize f3b (n / 256 / 256 / 256 / 256 % 256) = q4 at *
  generalize f3b (n / 256 / 256 / 256 / 256 / 256 % 256) = q5 at *
  have Y1 : Y = (q0 + q1) + 256 * ((q1 + q2) + 256 * ((q2 + q3) + 256 * ((q3 + q4) + 256 * ((q4 + q5) + 256 * q5)))) := by
    clear SE b6
    omega
  have Z1 : Z = (q0 + q1 + q2 + q3) + 256 * ((q1 + q2 + q3 + q4) + 256 * ((q2 + q3 + q4 + q5) + 256 * ((q3 + q4 + q5) + 256 * ((q4 + q5) + 256 * q5)))) := by
    clear SE b6
    omega
  have W1 : W % 128 = q0 + q1 + q2 + q3 + q4 + q5 := by
    clear SE b6
    omega
  rw [W1]
  omega
/-! ===== a tree's leaves in their order ===== -/
def catL (g : Nat → List Nat) : Nat → List Nat
  | 0 => []
  | n + 1 => catL g n ++ g n
def cfL (g : Nat → List Nat) : Nat → Nat → List Nat
  | _, 0 => []
  | k, m + 1 => g k ++ cfL g (k + 1) m
set_option maxHeartbeats 250000 in theorem catL_cf (g : Nat → List Nat) : ∀ (m k : Nat), catL g k ++ cfL g k m = catL g (k + m) := by
  intro m
  induction m with
  | zero => intro k; exact List.append_nil _
  | succ m ih =>
    intro k
    show catL g k ++ (g k ++ cfL g (k + 1) m) = catL g (k + (m + 1))
    rw [← List.append_assoc, show k + (m + 1) = (k + 1) + m by omega, ← ih (k + 1)]
    rfl
set_option maxHeartbeats 250000 in theorem catL_0 (g : Nat → List Nat) (n : Nat) : catL g n = cfL g 0 n := by
  have e := catL_cf g n 0
  rw [Nat.zero_add] at e
  exact e.symm
def lfL (h : SH) : Nat → Nat → List Nat
  | 0, b => [b]
  | l + 1, b => catL (fun k => lfL h l (h.2.2 b k).toNat) (h.2.1 b).toNat
def esL (h : SH) (ky : Nat → Nat → Int) (b : Nat) : Nat → List (Int × Int)
  | 0 => []
  | n + 1 => esL h ky b n ++ [(ky b n, h.2.2 b n)]
def wrL (h : SH) (ky : Nat → Nat → Int) : List Nat → List (Int × Int)
  | [] => []
  | b :: P => esL h ky b (h.2.1 b).toNat ++ wrL h ky P
set_option maxHeartbeats 250000 in theorem wrL_app {h : SH} {ky : Nat → Nat → Int} (P Q : List Nat) : wrL h ky (P ++ Q) = wrL h ky P ++ wrL h ky Q := by
  induction P with
  | nil => rfl
  | cons b P ih =>
    show esL h ky b (h.2.1 b).toNat ++ wrL h ky (P ++ Q) = (esL h ky b (h.2.1 b).toNat ++ wrL h ky P) ++ wrL h ky Q
    rw [ih, List.append_assoc]
set_option maxHeartbeats 250000 in theorem wrL_1 {h : SH} {ky : Nat → Nat → Int} (b : Nat) : wrL h ky [b] = esL h ky b (h.2.1 b).toNat := List.append_nil _
def nthL : List (Int × Int) → Nat → Int × Int
  | [], _ => (0, 0)
  | x :: _, 0 => x
  | _ :: L, i + 1 => nthL L i
set_option maxHeartbeats 250000 in theorem nthL_l (L M : List (Int × Int)) : ∀ i, i < L.length → nthL (L ++ M) i = nthL L i := by
  induction L with
  | nil => intro i hi; exact absurd hi (Nat.not_lt_zero i)
  | cons x L ih =>
    intro i hi
    cases i with
    | zero => rfl
    | succ i => exact ih i (Nat.lt_of_succ_lt_succ hi)
set_option maxHeartbeats 250000 in theorem nthL_e (L : List (Int × Int)) (x : Int × Int) : nthL (L ++ [x]) L.length = x := by
  induction L with
  | nil => rfl
  | cons y L ih => exact ih
/- two rows hold a list -/
def ORe (a b : Nat → Int) (n : Int) (L : List (Int × Int)) : Prop := n = (L.length : Int) ∧ ∀ i, i < L.length → nthL L i = (a i, b i)
set_option maxHeartbeats 250000 in theorem ORe_add {a b : Nat → Int} {n k v : Int} {L : List (Int × Int)} (h : ORe a b n L) : ORe (upZ a n.toNat k) (upZ b n.toNat v) (n + 1) (L ++ [(k, v)]) := by
  have h1 := h.1
  have nl : n.toNat = L.length := by omega
  have len : (L ++ [(k, v)]).length = L.length + 1 := by rw [List.length_append]; rfl
  refine ⟨by rw [len]; omega, fun i hi => ?_⟩
  rw [len] at hi
  by_cases z : i = L.length
  · rw [z, nthL_e, nl, upZ_s, upZ_s]
  · rw [nthL_l L _ i (by omega), nl, upZ_n z, upZ_n z]
    exact h.2 i (by omega)
set_option maxHeartbeats 250000 in theorem ORe_0 (a b : Nat → Int) : ORe a b 0 [] := ⟨rfl, fun i hi => absurd hi (Nat.not_lt_zero i)⟩
set_option maxHeartbeats 250000 in theorem m_leafL {b : Nat} {t S : MS} {L : List (Int × Int)} (hn : 0 ≤ (hM t).2.1 b ∧ (hM t).2.1 b ≤ 6) (h49 : gA S 49 = gA t 49) (H : ORe (gA S 64) (gA S 65) (gI S 67) L) : pc (m_x12_laysLeaf (b : Int) S) (fun o => ORe (gA o 64) (gA o 65) (gI o 67) (L ++ esL (hM t) (kM t) b ((hM t).2.1 b).toNat)) := by
  have tb : ((b : Nat) : Int).toNat = b := Int.toNat_natCast _
  have L2 : ∀ (n k : Nat) (X : MS), (k : Int) ≤ (hM t).2.1 b → gA X 49 = gA t 49 → ORe (gA X 64) (gA X 65) (gI X 67) (L ++ esL (hM t) (kM t) b k) → pc (m_x12_laysLeaf_L2 n (b : Int) (k : Int) X) (fun o => ORe (gA o 64) (gA o 65) (gI o 67) (L ++ esL (hM t) (kM t) b ((hM t).2.1 b).toNat)) := by
    refine fr_ind (fun _ _ _ _ _ => pc_none) (fun n ih k X hk x49 hX => ?_)
    show pc (m_x12_laysLeaf_b2 (m_x12_laysLeaf_L2 n) (b : Int) (k : Int) X) _
    unfold m_x12_laysLeaf_b2
    obtain ⟨m1, m2, _, _⟩ := eq49 x49
    have tk : ((k : Nat) : Int).toNat = k := Int.toNat_natCast _
    refine pc_bq (m_ents (by omega)) (fun r5 h5 => ?_)
    rw [tb, m1] at h5
    refine pc_rg (pc_rg (pc_if (fun c => pc_some ?_) (fun c => pc_bq (m_key (by omega) ⟨by omega, by omega⟩) (fun r10 h10 => pc_inb (pc_stn (fun s12 e12 => pc_bq (m_val (by omega) ⟨by omega, by omega⟩) (fun r14 h14 => pc_inb (pc_stn (fun s16 e16 => pc_inb (pc_stn (fun s18 e18 => pc_stn (fun s19 e19 => ?_))))))))))))
    · rw [show ((hM t).2.1 b).toNat = k by omega]; exact hX
    · have e12' : gA s12 49 = gA t 49 := (q_Aa e12 (by decide)).trans x49
      obtain ⟨n1, _, _, _⟩ := eq49 e12'
      rw [tb, m2, tk] at h10
      rw [tb, n1, tk] at h14
      have i12 : gI s12 67 = gI X 67 := q_Ai e12
      have g64 : gA s19 64 = upZ (gA X 64) (gI X 67).toNat r10 := by
        rw [(q_Ia e19 : gA s19 64 = gA s18 64), (q_Aa e18 (by decide) : gA s18 64 = gA s16 64), (q_Aa e16 (by decide) : gA s16 64 = gA s12 64), (q_AA e12 : gA s12 64 = _)]
      have g65 : gA s19 65 = upZ (gA X 65) (gI X 67).toNat r14 := by
        rw [(q_Ia e19 : gA s19 65 = gA s18 65), (q_Aa e18 (by decide) : gA s18 65 = gA s16 65), (q_AA e16 : gA s16 65 = _), i12, (q_Aa e12 (by decide) : gA s12 65 = gA X 65)]
      have g67 : gI s19 67 = gI X 67 + 1 := by
        rw [(q_II e19 : gI s19 67 = _), (q_Ai e18 : gI s18 67 = gI s16 67), (q_Ai e16 : gI s16 67 = gI s12 67), i12]
      have A := ORe_add (k := r10) (v := r14) hX
      rw [← g64, ← g65, ← g67, List.append_assoc, h10, h14] at A
      rw [show (k : Int) + 1 = ((k + 1 : Nat) : Int) by omega]
      exact ih (k + 1) s19 (by omega) ((q_Ia e19 : gA s19 49 = gA s18 49).trans ((q_Aa e18 (by decide) : gA s18 49 = gA s16 49).trans ((q_Aa e16 (by decide) : gA s16 49 = gA s12 49).trans e12'))) A
  unfold m_x12_laysLeaf
  refine L2 FU 0 S (by omega) h49 ?_
  show ORe (gA S 64) (gA S 65) (gI S 67) (L ++ [])
  rw [List.append_nil]; exact H
/-! the reference: from a pile -/
def stkL (h : SH) (st : Nat → Int) : Nat → List Nat
  | 0 => []
  | w + 1 => lfL h (h.1 (st w).toNat).toNat (st w).toNat ++ stkL h st w
set_option maxHeartbeats 250000 in theorem stkL_up {h : SH} {st : Nat → Int} {g : Nat} {v : Int} : ∀ w, w ≤ g → stkL h (upZ st g v) w = stkL h st w := by
  intro w
  induction w with
  | zero => intro _; rfl
  | succ w ih =>
    intro hw
    show lfL h (h.1 (upZ st g v w).toNat).toNat (upZ st g v w).toNat ++ stkL h (upZ st g v) w = lfL h (h.1 (st w).toNat).toNat (st w).toNat ++ stkL h st w
    rw [upZ_n (by omega), ih (by omega)]
set_option maxHeartbeats 250000 in theorem m_L48L {t : MS} (hK : KLV t) : ∀ (n w : Nat) (S : MS) (P : List Nat), gA S 49 = gA t 49 → (∀ j, j < w → ∃ c : Nat, gA S 62 j = (c : Int) ∧ c < 48 ∧ LV t c) → ORe (gA S 64) (gA S 65) (gI S 67) (wrL (hM t) (kM t) P) → pc (m_x12_laysTree_L48 n (w : Int) S) (fun o => ORe (gA o 64) (gA o 65) (gI o 67) (wrL (hM t) (kM t) (P ++ stkL (hM t) (gA S 62) w))) := by
  refine fr_ind (fun _ _ _ _ _ _ => pc_none) (fun n ih w S P x49 hst hOR => ?_)
  show pc (m_x12_laysTree_b48 (m_x12_laysTree_L48 n) (w : Int) S) _
  unfold m_x12_laysTree_b48
  cases w with
  | zero =>
    refine pc_rg (pc_if (fun _ => pc_some ?_) (fun c => absurd (by omega) c))
    show ORe (gA S 64) (gA S 65) (gI S 67) (wrL (hM t) (kM t) (P ++ []))
    rw [List.append_nil]; exact hOR
  | succ w' =>
    refine pc_rg (pc_if (fun c => absurd c (by omega)) (fun _ => ?_))
    obtain ⟨b, eb, b48, lb⟩ := hst w' (by omega)
    have tb : ((b : Nat) : Int).toNat = b := Int.toNat_natCast _
    have Kb := hK.2.1 b b48 lb
    have sz := Kb.1.1.2.1
    have lv0 := Kb.1.1.1
    rw [show ((w' + 1 : Nat) : Int) + (-1) = (w' : Int) by omega]
    refine pc_rdI (fun _ => ?_)
    rw [Int.toNat_natCast, eb]
    have TOP : stkL (hM t) (gA S 62) (w' + 1) = lfL (hM t) ((hM t).1 b).toNat b ++ stkL (hM t) (gA S 62) w' := by
      show lfL (hM t) ((hM t).1 (gA S 62 w').toNat).toNat (gA S 62 w').toNat ++ stkL (hM t) (gA S 62) w' = _
      rw [eb, tb]
    have J81 : ∀ X : MS, gA X 49 = gA t 49 → gA X 62 = gA S 62 → ORe (gA X 64) (gA X 65) (gI X 67) (wrL (hM t) (kM t) P) → pc (m_x12_laysTree_J81 (m_x12_laysTree_L48 n) (w' : Int) (b : Int) X) (fun o => ORe (gA o 64) (gA o 65) (gI o 67) (wrL (hM t) (kM t) (P ++ stkL (hM t) (gA S 62) (w' + 1)))) := fun X y49 y62 hX => by
      unfold m_x12_laysTree_J81 m_x12_laysTree_J140
      refine pc_inb (pc_bo (pc_stn (fun s20 e20 => pc_bq (m_lev (by omega)) (fun r22 h22 => ?_))))
      have a49 : gA s20 49 = gA t 49 := (q_Aa e20 (by decide)).trans y49
      have a62 : gA s20 62 = gA S 62 := (q_Aa e20 (by decide)).trans y62
      have aOR : ORe (gA s20 64) (gA s20 65) (gI s20 67) (wrL (hM t) (kM t) P) := by
        rw [(q_Aa e20 (by decide) : gA s20 64 = gA X 64), (q_Aa e20 (by decide) : gA s20 65 = gA X 65), (q_Ai e20 : gI s20 67 = gI X 67)]; exact hX
      rw [tb, (eq49 a49).1] at h22
      refine pc_rg (pc_if (fun c2 => pc_bn (fun s28 e28 => ?_)) (fun c2 => pc_bq (m_ents (by omega)) (fun r26 h26 => ?_)))
      · have D := m_leafL sz a49 aOR s28 e28
        have F28 : F_x12_laysLeaf s20 s28 := fr_x12_laysLeaf e28
        have f62 : gA s28 62 = gA S 62 := (F28.2.1 62 (by decide)).trans a62
        have R := ih w' s28 (P ++ [b]) ((F28.2.1 49 (by decide)).trans a49) (fun j hj => by rw [f62]; exact hst j (by omega)) (by rw [wrL_app, wrL_1]; exact D)
        rw [f62, List.append_assoc] at R
        rw [TOP, show ((hM t).1 b).toNat = 0 by omega]
        exact R
      · rw [tb, (eq49 a49).1] at h26
        obtain ⟨l, hl⟩ : ∃ l : Nat, ((hM t).1 b).toNat = l + 1 := ⟨((hM t).1 b).toNat - 1, by omega⟩
        have lev : 0 < (hM t).1 b := by omega
        have L113 : ∀ (m W k : Nat) (Q : MS) (F : List Nat), (k : Int) ≤ (hM t).2.1 b → gA Q 49 = gA t 49 → (∀ j, j < W → ∃ c : Nat, gA Q 62 j = (c : Int) ∧ c < 48 ∧ LV t c) → ORe (gA Q 64) (gA Q 65) (gI Q 67) (wrL (hM t) (kM t) P) → catL (fun k => lfL (hM t) l ((hM t).2.2 b k).toNat) ((hM t).2.1 b).toNat = catL (fun k => lfL (hM t) l ((hM t).2.2 b k).toNat) k ++ F → stkL (hM t) (gA Q 62) W = F ++ stkL (hM t) (gA S 62) w' → pc (m_x12_laysTree_L113 (m_x12_laysTree_L48 n) m (W : Int) (b : Int) ((k : Int) - 1) Q) (fun o => ORe (gA o 64) (gA o 65) (gI o 67) (wrL (hM t) (kM t) (P ++ stkL (hM t) (gA S 62) (w' + 1)))) := by
          refine fr_ind (fun _ _ _ _ _ _ _ _ _ _ => pc_none) (fun m ih2 W k Q F hk q49 hQ qOR hF hS => ?_)
          show pc (m_x12_laysTree_b113 (m_x12_laysTree_L48 n) (m_x12_laysTree_L113 (m_x12_laysTree_L48 n) m) (W : Int) (b : Int) ((k : Int) - 1) Q) _
          unfold m_x12_laysTree_b113 m_x12_laysTree_J140
          cases k with
          | zero =>
            refine pc_rg (pc_if (fun _ => ?_) (fun c => absurd (by omega) c))
            have R := ih W Q P q49 hQ qOR
            have hF' : catL (fun k => lfL (hM t) l ((hM t).2.2 b k).toNat) ((hM t).2.1 b).toNat = F := hF
            rw [hS, ← hF'] at R
            rw [TOP, hl]
            exact R
          | succ k' =>
            rw [show ((k' + 1 : Nat) : Int) - 1 = (k' : Int) by omega]
            have tk : ((k' : Nat) : Int).toNat = k' := Int.toNat_natCast _
            refine pc_rg (pc_if (fun c => absurd c (by omega)) (fun _ => pc_bq (m_val (by omega) ⟨by omega, by omega⟩) (fun r12 h12 => pc_inb (pc_stn (fun s14 e14 => ?_)))))
            rw [tb, tk, (eq49 q49).1] at h12
            have kid := Kb.2 lev k' (by omega)
            have kidN := Kb.1.1.2.2 lev k' (by omega)
            obtain ⟨y, hy⟩ : ∃ y, y = ((hM t).2.2 b k').toNat := ⟨_, rfl⟩
            have y12 : r12 = (y : Int) := by omega
            have ly : ((hM t).1 y).toNat = l := by rw [hy]; omega
            have u62 : gA s14 62 = upZ (gA Q 62) W (y : Int) := by
              rw [(q_AA e14 : gA s14 62 = _), Int.toNat_natCast, y12]
            rw [show (W : Int) + 1 = ((W + 1 : Nat) : Int) by omega, show (k' : Int) + (-1) = (k' : Int) - 1 by omega]
            refine ih2 (W + 1) k' s14 (lfL (hM t) l y ++ F) (by omega) ((q_Aa e14 (by decide)).trans q49) (fun j hj => ?_) ?_ ?_ ?_
            · rw [u62]
              by_cases z : j = W
              · rw [z, upZ_s]
                exact ⟨y, rfl, by omega, by rw [hy]; exact kid.2⟩
              · rw [upZ_n z]; exact hQ j (by omega)
            · rw [(q_Aa e14 (by decide) : gA s14 64 = gA Q 64), (q_Aa e14 (by decide) : gA s14 65 = gA Q 65), (q_Ai e14 : gI s14 67 = gI Q 67)]; exact qOR
            · rw [hF, ← List.append_assoc, hy]
              rfl
            · rw [u62]
              show lfL (hM t) ((hM t).1 (upZ (gA Q 62) W (y : Int) W).toNat).toNat (upZ (gA Q 62) W (y : Int) W).toNat ++ stkL (hM t) (upZ (gA Q 62) W (y : Int)) W = _
              rw [upZ_s, Int.toNat_natCast, ly, stkL_up W (Nat.le_refl W), hS, List.append_assoc]
        rw [h26, show (hM t).2.1 b - 1 = ((((hM t).2.1 b).toNat : Nat) : Int) - 1 by omega]
        refine L113 FU w' ((hM t).2.1 b).toNat s20 [] (by omega) a49 (fun j hj => by rw [a62]; exact hst j (by omega)) aOR (List.append_nil _).symm ?_
        rw [a62]; rfl
    exact pc_rdI (fun _ => pc_rg (pc_if (fun _ => pc_stn (fun s35 e35 => J81 s35 ((q_Ia e35).trans x49) (q_Ia e35) (by rw [(q_Ia e35 : gA s35 64 = gA S 64), (q_Ia e35 : gA s35 65 = gA S 65), (q_Ii e35 (by decide) : gI s35 67 = gI S 67)]; exact hOR))) (fun _ => J81 S x49 rfl hOR)))
/- the leaves under a root -/
def LFr (t : MS) (r : Int) : List Nat := if r < 254 then lfL (hM t) ((hM t).1 r.toNat).toNat r.toNat else []
set_option maxHeartbeats 250000 in theorem m_treeL {t : MS} {r : Int} (hK : KLV t) (hr : r < 254 → (0 ≤ r ∧ r < 48) ∧ LV t r.toNat) : pc (m_x12_laysTree r t) (fun o => ORe (gA o 64) (gA o 65) (gI o 67) (wrL (hM t) (kM t) (LFr t r))) := by
  have L12 : ∀ (n : Nat) (x : Int) (S : MS), gA S 49 = gA t 49 → gI S 67 = 0 → pc (m_x12_laysTree_L12 n r x S) (fun o => ORe (gA o 64) (gA o 65) (gI o 67) (wrL (hM t) (kM t) (LFr t r))) := by
    refine fr_ind (fun _ _ _ _ => pc_none) (fun n ih x S x49 x67 => ?_)
    show pc (m_x12_laysTree_b12 (m_x12_laysTree_L12 n) r x S) _
    unfold m_x12_laysTree_b12
    refine pc_rg (pc_if (fun _ => pc_rg (pc_if (fun c => pc_inb (pc_stn (fun s44 e44 => ?_))) (fun c => pc_some ?_))) (fun _ => pc_inb (pc_bo (pc_stn (fun s47 e47 => ih (x + 1) s47 ((q_Aa e47 (by decide)).trans x49) ((q_Ai e47).trans x67))))))
    · obtain ⟨⟨r0, r48⟩, lr⟩ := hr c
      obtain ⟨b, hb⟩ : ∃ b : Nat, r = (b : Int) := ⟨r.toNat, by omega⟩
      have tb : ((b : Nat) : Int).toNat = b := Int.toNat_natCast _
      rw [hb, tb] at lr
      have u62 : gA s44 62 = upZ (gA S 62) 0 r := q_AA e44
      have R := m_L48L hK FU 1 s44 [] ((q_Aa e44 (by decide)).trans x49) (fun j hj => ⟨b, by rw [u62, show j = 0 by omega, upZ_s, hb], by omega, lr⟩) (by
        rw [(q_Ai e44 : gI s44 67 = gI S 67), x67]
        exact ORe_0 _ _)
      have E : ([] : List Nat) ++ stkL (hM t) (gA s44 62) 1 = LFr t r := by
        unfold LFr
        rw [if_pos c, u62]
        show lfL (hM t) ((hM t).1 (upZ (gA S 62) 0 r 0).toNat).toNat (upZ (gA S 62) 0 r 0).toNat ++ [] = _
        rw [upZ_s, List.append_nil]
      rw [E] at R
      exact R
    · unfold LFr
      rw [if_neg c, x67]
      exact ORe_0 _ _
  unfold m_x12_laysTree
  refine pc_stn (fun s48 e48 => pc_stn (fun s49 e49 => L12 FU 0 s49 ((q_Ia e49).trans (q_Ia e48)) ((q_Ii e49 (by decide)).trans (q_II e48))))
/-! ===== the class: by levels ===== -/
set_option maxHeartbeats 250000 in theorem WK_st {h : SH} {M st st' : Nat → Int} {w : Nat} {Pd : Nat → Int} (H : WK h M st w Pd) (e : ∀ j, j < w → st' j = st j) : WK h M st' w Pd := by
  have c : ∀ x : Int, ct st' w x = ct st w x := fun x => sm_c (fun j hj => by
    show (if st' j = x then (1 : Int) else 0) = if st j = x then 1 else 0
    rw [e j hj])
  exact ⟨H.1, fun j hj => by rw [e j hj]; exact H.2.1 j hj, H.2.2.1, fun x hx => by rw [c]; exact H.2.2.2 x hx⟩
/- the first one that waits is taken -/
set_option maxHeartbeats 250000 in theorem WK_front {h : SH} {M st : Nat → Int} {w : Nat} (H : WK h M st (w + 1) (fun _ => 0)) : M (st 0).toNat = 1 ∧ WK h (upZ M (st 0).toNat 0) (fun j => st (j + 1)) w (fun x => en h (st 0).toNat (x : Int)) := by
  obtain ⟨st2, hst2⟩ : ∃ f : Nat → Int, f = fun j => if j = w then st 0 else st (j + 1) := ⟨_, rfl⟩
  have e1 : st2 w = st 0 := by rw [hst2]; exact if_pos rfl
  have e2 : ∀ j, j < w → st2 j = st (j + 1) := fun j hj => by rw [hst2]; exact if_neg (by omega)
  have c : ∀ x : Int, ct st2 (w + 1) x = ct st (w + 1) x := fun x => by
    have a1 : ct st2 w x = sm w (fun j => if st (j + 1) = x then (1 : Int) else 0) := sm_c (fun j hj => by
      show (if st2 j = x then (1 : Int) else 0) = if st (j + 1) = x then 1 else 0
      rw [e2 j hj])
    have a2 : ct st (w + 1) x = sm 1 (fun j => if st j = x then (1 : Int) else 0) + sm w (fun j => if st (1 + j) = x then (1 : Int) else 0) := by
      unfold ct
      rw [show w + 1 = 1 + w by omega, sm_app]
    have a3 : sm w (fun j => if st (1 + j) = x then (1 : Int) else 0) = sm w (fun j => if st (j + 1) = x then (1 : Int) else 0) := sm_c (fun j _ => by
      show (if st (1 + j) = x then (1 : Int) else 0) = if st (j + 1) = x then 1 else 0
      rw [show 1 + j = j + 1 by omega])
    have a4 : sm 1 (fun j => if st j = x then (1 : Int) else 0) = 0 + (if st 0 = x then (1 : Int) else 0) := rfl
    rw [ct_s, a1, e1, a2, a3, a4]
    omega
  have H2 : WK h M st2 (w + 1) (fun _ => 0) := ⟨H.1, fun j hj => by
    by_cases z : j = w
    · rw [z, e1]; exact H.2.1 0 (by omega)
    · rw [e2 j (by omega)]; exact H.2.1 (j + 1) (by omega), H.2.2.1, fun x hx => by rw [c]; exact H.2.2.2 x hx⟩
  have P := WK_pop H2
  rw [e1] at P
  exact ⟨P.1, WK_st P.2 (fun j hj => (e2 j hj).symm)⟩
def plL (h : SH) (q : Nat → Nat) : Nat → List Nat
  | 0 => []
  | m + 1 => plL h q m ++ (if h.1 (q m) ≤ 0 then [q m] else [])
def lfsL (h : SH) (q : Nat → Nat) (a : Nat) : Nat → List Nat
  | 0 => []
  | m + 1 => lfsL h q a m ++ lfL h (h.1 (q (a + m))).toNat (q (a + m))
set_option maxHeartbeats 250000 in theorem lfsL_front (h : SH) (q : Nat → Nat) : ∀ (m a : Nat), lfsL h q a (m + 1) = lfL h (h.1 (q a)).toNat (q a) ++ lfsL h q (a + 1) m := by
  intro m
  induction m with
  | zero =>
    intro a
    show [] ++ lfL h (h.1 (q (a + 0))).toNat (q (a + 0)) = lfL h (h.1 (q a)).toNat (q a) ++ []
    rw [List.append_nil, List.nil_append, Nat.add_zero]
  | succ m ih =>
    intro a
    show lfsL h q a (m + 1) ++ lfL h (h.1 (q (a + (m + 1)))).toNat (q (a + (m + 1))) = lfL h (h.1 (q a)).toNat (q a) ++ (lfsL h q (a + 1) m ++ lfL h (h.1 (q (a + 1 + m))).toNat (q (a + 1 + m)))
    rw [ih a, List.append_assoc, show a + (m + 1) = a + 1 + m by omega]
set_option maxHeartbeats 250000 in theorem lfsL_c {h : SH} {q q' : Nat → Nat} {a : Nat} : ∀ m, (∀ j, a ≤ j → j < a + m → q' j = q j) → lfsL h q' a m = lfsL h q a m := by
  intro m
  induction m with
  | zero => intro _; rfl
  | succ m ih =>
    intro e
    show lfsL h q' a m ++ lfL h (h.1 (q' (a + m))).toNat (q' (a + m)) = lfsL h q a m ++ lfL h (h.1 (q (a + m))).toNat (q (a + m))
    rw [ih (fun j h1 h2 => e j h1 (by omega)), e (a + m) (by omega) (by omega)]
set_option maxHeartbeats 250000 in theorem plL_c {h : SH} {q q' : Nat → Nat} : ∀ m, (∀ j, j < m → q' j = q j) → plL h q' m = plL h q m := by
  intro m
  induction m with
  | zero => intro _; rfl
  | succ m ih =>
    intro e
    show plL h q' m ++ (if h.1 (q' m) ≤ 0 then [q' m] else []) = plL h q m ++ (if h.1 (q m) ≤ 0 then [q m] else [])
    rw [ih (fun j h1 => e j (by omega)), e m (by omega)]
/- a BLOCK under another -/
def ndP (h : SH) : Nat → Nat → Nat → Prop
  | 0, b, y => y = b
  | l + 1, b, y => y = b ∨ ∃ k : Nat, (k : Int) < h.2.1 b ∧ ndP h l (h.2.2 b k).toNat y
set_option maxHeartbeats 250000 in theorem nd_self (h : SH) (b : Nat) : ∀ l, ndP h l b b := by
  intro l
  cases l with
  | zero => rfl
  | succ l => exact Or.inl rfl
set_option maxHeartbeats 250000 in theorem nd_kid {t : MS} (hK : KLV t) : ∀ (l r b k : Nat), r < 48 → LV t r → (hM t).1 r = (l : Int) → ndP (hM t) l r b → 0 < (hM t).1 b → (k : Int) < (hM t).2.1 b → ndP (hM t) l r ((hM t).2.2 b k).toNat := by
  intro l
  induction l with
  | zero =>
    intro r b k hr lr hl hb h0 hk
    have e : b = r := hb
    rw [e, hl] at h0
    exact absurd h0 (by omega)
  | succ l ih =>
    intro r b k hr lr hl hb h0 hk
    rcases hb with e | ⟨i, hi, hb⟩
    · rw [e] at hk ⊢
      exact Or.inr ⟨k, hk, nd_self _ _ l⟩
    · have lev : 0 < (hM t).1 r := by omega
      have kid := (hK.2.1 r hr lr).2 lev i hi
      have kidN := (hK.2.1 r hr lr).1.1.2.2 lev i hi
      exact Or.inr ⟨i, hi, ih _ b k (by omega) kid.2 (by omega) hb h0 hk⟩
set_option maxHeartbeats 250000 in theorem nd_all {t : MS} (hK : KLV t) {Q : Nat → Prop} (hQ : ∀ b, b < 48 → LV t b → Q b → 0 < (hM t).1 b → ∀ k : Nat, (k : Int) < (hM t).2.1 b → Q ((hM t).2.2 b k).toNat) : ∀ (l r y : Nat), r < 48 → LV t r → (hM t).1 r = (l : Int) → Q r → ndP (hM t) l r y → Q y := by
  intro l
  induction l with
  | zero =>
    intro r y _ _ _ q h
    have e : y = r := h
    rw [e]; exact q
  | succ l ih =>
    intro r y hr lr hl q h
    rcases h with e | ⟨k, hk, h⟩
    · rw [e]; exact q
    · have lev : 0 < (hM t).1 r := by omega
      have kid := (hK.2.1 r hr lr).2 lev k hk
      have kidN := (hK.2.1 r hr lr).1.1.2.2 lev k hk
      exact ih _ y (by omega) kid.2 (by omega) (hQ r hr lr q lev k hk) h
/- the marks of a queue; that it holds a root, nothing but what lies under it, and the kids of what was gone through -/
def EXQ (π : Nat → Nat) (h : SH) (l r : Nat) (z : Int) (q : Nat → Nat) (x w k : Nat) : Prop := ((∃ n : Nat, n < 281474976710656 ∧ z = (n : Int)) ∧ ∀ y, y < 48 → (bW z y ↔ ∃ j, j < w ∧ π (q j) = y)) ∧ (∀ j, j < w → ndP h l r (q j)) ∧ ((∃ j, j < w ∧ q j = r) ∧ ∀ j, j < x → 0 < h.1 (q j) → ∀ i : Nat, (i : Int) < h.2.1 (q j) → ∃ j', j' < w ∧ q j' = (h.2.2 (q j) i).toNat) ∧ ∀ i : Nat, i < k → ∃ j', j' < w ∧ q j' = (h.2.2 (q x) i).toNat
set_option maxHeartbeats 250000 in theorem orL_n {n c : Nat} (hn : n < 281474976710656) (hc : c < 48) : ∃ m : Nat, m < 281474976710656 ∧ orL (n : Int) (shlLZ 1 (c : Int)) = (m : Int) := by
  have a := i8_nat (x := (n : Int)) ⟨by omega, by omega⟩
  have b : i8 (shlLZ 1 (c : Int)) = shlL (i8 1) (i2 (c : Int)) := Int64.ofInt_toInt _
  have h1 : orL (n : Int) (shlLZ 1 (c : Int)) = ((i8 (n : Int)).toBitVec ||| (i8 (shlLZ 1 (c : Int))).toBitVec).toInt := rfl
  have h2 : ((i8 (n : Int)).toBitVec ||| (i8 (shlLZ 1 (c : Int))).toBitVec).toNat = n ||| 2 ^ c := by
    rw [BitVec.toNat_or, b, bs_one c hc, show (i8 (n : Int)).toBitVec.toNat = n by omega]
  have lt : n ||| 2 ^ c < 2 ^ 48 := Nat.or_lt_two_pow hn (Nat.pow_lt_pow_right (by decide) hc)
  refine ⟨n ||| 2 ^ c, lt, ?_⟩
  rw [h1, BitVec.toInt_eq_toNat_of_lt (by omega), h2]
set_option maxHeartbeats 250000 in theorem EXQ_push {π : Nat → Nat} {t : MS} {l r : Nat} {z : Int} {q : Nat → Nat} {x w k y : Nat} (H : EXQ π (hM t) l r z q x w k) (hπ : π y < 48) (hx : x < w) (hy : y = ((hM t).2.2 (q x) k).toNat) (hn : ndP (hM t) l r y) : EXQ π (hM t) l r (orL z (shlLZ 1 (π y : Int))) (fun j => if j = w then y else q j) x (w + 1) (k + 1) := by
  obtain ⟨⟨⟨n, hn48, hz⟩, hb⟩, hnd, ⟨⟨j0, hj0, e0⟩, hcl⟩, hp⟩ := H
  have old : ∀ j, j < w → (fun j => if j = w then y else q j) j = q j := fun j hj => if_neg (by omega)
  have new : (fun j => if j = w then y else q j) w = y := if_pos rfl
  refine ⟨⟨?_, fun u hu => ?_⟩, fun j hj => ?_, ⟨⟨j0, by omega, by rw [old j0 hj0]; exact e0⟩, fun j hj h0 i hi => ?_⟩, fun i hi => ?_⟩
  · rw [hz]; exact orL_n hn48 hπ
  · rw [bW_or hπ hu, hb u hu]
    constructor
    · rintro (e | ⟨j, hj, e⟩)
      · exact ⟨w, by omega, by rw [new]; exact e.symm⟩
      · exact ⟨j, by omega, by rw [old j hj]; exact e⟩
    · rintro ⟨j, hj, e⟩
      by_cases c : j = w
      · rw [c, new] at e; exact Or.inl e.symm
      · rw [old j (by omega)] at e; exact Or.inr ⟨j, by omega, e⟩
  · by_cases c : j = w
    · rw [c, new]; exact hn
    · rw [old j (by omega)]; exact hnd j (by omega)
  · rw [old j (by omega)] at h0 hi ⊢
    obtain ⟨j', h1, h2⟩ := hcl j hj h0 i hi
    exact ⟨j', by omega, by rw [old j' h1]; exact h2⟩
  · rw [old x hx]
    by_cases c : i = k
    · rw [c]; exact ⟨w, by omega, by rw [new]; exact hy⟩
    · obtain ⟨j', h1, h2⟩ := hp i (by omega)
      exact ⟨j', by omega, by rw [old j' h1]; exact h2⟩
set_option maxHeartbeats 250000 in theorem EXQ_next {π : Nat → Nat} {h : SH} {l r : Nat} {z : Int} {q : Nat → Nat} {x w k : Nat} (H : EXQ π h l r z q x w k) (e : 0 < h.1 (q x) → h.2.1 (q x) ≤ (k : Int)) : EXQ π h l r z q (x + 1) w 0 := by
  obtain ⟨a, b, ⟨c, d⟩, p⟩ := H
  refine ⟨a, b, ⟨c, fun j hj h0 i hi => ?_⟩, fun i hi => absurd hi (by omega)⟩
  by_cases y : j = x
  · rw [y] at h0 hi ⊢
    have := e h0
    exact p i (by omega)
  · exact d j (by omega) h0 i hi
/- the queue: what was gone through, the rest of a level, the next level so far -/
def BQ (π : Nat → Nat) (s t S : MS) (q : Nat → Nat) (x a w : Nat) (i : Int) (M : Nat → Int) (LF : List Nat) : Prop :=
  (gI S 421 = (w : Int) ∧ ∀ k, k ≠ 22 → gA S k = gA s k) ∧ (∀ j, j < w → gA S 22 j = (π (q j) : Int) ∧ q j < 48 ∧ LV t (q j)) ∧ (x ≤ a ∧ a ≤ w) ∧ ((∀ j, x ≤ j → j < a → (hM t).1 (q j) = i) ∧ (∀ j, a ≤ j → j < w → (hM t).1 (q j) = i - 1)) ∧ pos M + (x : Int) ≤ 48 ∧ WK (hM t) M (fun j => (q (x + j) : Int)) (w - x) (fun _ => 0) ∧ LF = plL (hM t) q x ++ (lfsL (hM t) q a (w - a) ++ lfsL (hM t) q x (a - x))
set_option maxHeartbeats 250000 in theorem BQ_le {π : Nat → Nat} {s t S : MS} {q : Nat → Nat} {x a w : Nat} {i : Int} {M : Nat → Int} {LF : List Nat} (H : BQ π s t S q x a w i M LF) : w ≤ 48 := by
  obtain ⟨_, _, ha, _, hp, hW, _⟩ := H
  have := WK_le hW
  omega
/- a level is through -/
set_option maxHeartbeats 250000 in theorem BQ_switch {π : Nat → Nat} {s t S : MS} {q : Nat → Nat} {x w : Nat} {i : Int} {M : Nat → Int} {LF : List Nat} (H : BQ π s t S q x x w i M LF) : BQ π s t S q x w w (i - 1) M LF := by
  obtain ⟨h1, h2, ha, hl, hp, hW, hLF⟩ := H
  refine ⟨h1, h2, ⟨ha.2, Nat.le_refl w⟩, ⟨hl.2, fun j h3 h4 => absurd h3 (by omega)⟩, hp, hW, ?_⟩
  rw [hLF, show x - x = 0 by omega, show w - w = 0 by omega]
  show plL (hM t) q x ++ (lfsL (hM t) q x (w - x) ++ []) = plL (hM t) q x ++ ([] ++ lfsL (hM t) q x (w - x))
  rw [List.append_nil, List.nil_append]
set_option maxHeartbeats 1000000 in
theorem s_treeL {π : Nat → Nat} {s t : MS} (hB : ∀ y, y < 48 → LV t y → BR1 π (hN s) (hM t) (kN s) (kM t) y) (hπ : ∀ y, y < 48 → π y < 48) (hK : KLV t) {LF : List Nat} {l0 r0 : Nat} (hr0 : r0 < 48) (lr0 : LV t r0) (hl0 : (hM t).1 r0 = (l0 : Int)) : ∀ (n : Nat) (z : Int) (x : Nat) (S : MS) (q : Nat → Nat) (a w : Nat) (i : Int) (M : Nat → Int), BQ π s t S q x a w i M LF → EXQ π (hM t) l0 r0 z q x w 0 → x < a ∨ x = w → pc (m_x10_tree_L30 n z (x : Int) S) (fun o => ∃ (q : Nat → Nat) (w : Nat), ((gI o.2 421 = (w : Int) ∧ w ≤ 48 ∧ ∀ k, k ≠ 22 → gA o.2 k = gA s k) ∧ (∀ j, j < w → gA o.2 22 j = (π (q j) : Int) ∧ q j < 48 ∧ LV t (q j)) ∧ LF = plL (hM t) q w) ∧ EXQ π (hM t) l0 r0 o.1 q w w 0) := by
  refine fr_ind (fun _ _ _ _ _ _ _ _ _ _ _ => pc_none) (fun n ih z x S q a w i M H HE hxa => ?_)
  have w48 := BQ_le H
  show pc (m_x10_tree_b30 (m_x10_tree_L30 n) z (x : Int) S) _
  unfold m_x10_tree_b30 m_x10_tree_J161 m_x10_tree_J77
  obtain ⟨⟨h421, hA⟩, hq, ha, hl, hp, hW, hLF⟩ := H
  rw [h421]
  have fin : x = w → ∃ (q : Nat → Nat) (w : Nat), ((gI S 421 = (w : Int) ∧ w ≤ 48 ∧ ∀ k, k ≠ 22 → gA S k = gA s k) ∧ (∀ j, j < w → gA S 22 j = (π (q j) : Int) ∧ q j < 48 ∧ LV t (q j)) ∧ LF = plL (hM t) q w) ∧ EXQ π (hM t) l0 r0 z q w w 0 := fun e => by
    refine ⟨q, w, ⟨⟨h421, w48, hA⟩, hq, ?_⟩, by rw [e] at HE; exact HE⟩
    rw [hLF, e, show w - a = 0 by omega, show a - w = 0 by omega]
    show plL (hM t) q w ++ ([] ++ []) = plL (hM t) q w
    rw [List.nil_append, List.append_nil]
  refine pc_rg (pc_rg (pc_if (fun c => pc_some (fin (by omega))) (fun c => pc_rg (pc_if (fun c2 => absurd c2 (by omega)) (fun c2 => pc_rdI (fun _ => pc_rdI (fun _ => ?_)))))))
  have xa : x < a := by omega
  rw [Int.toNat_natCast]
  obtain ⟨e22, b48, lb⟩ := hq x (by omega)
  obtain ⟨b, hb⟩ : ∃ b, b = q x := ⟨_, rfl⟩
  rw [← hb] at e22 b48 lb
  have tp : ((π b : Nat) : Int).toNat = π b := Int.toNat_natCast _
  have Bb := hB b b48 lb
  have Kb := hK.2.1 b b48 lb
  have sz := Kb.1.1.2.1
  have lv := hl.1 x (Nat.le_refl x) xa
  rw [← hb] at lv
  have lv0 := Kb.1.1.1
  have f56 : gA S 56 (π b) = (hM t).1 b := by rw [hA 56 (by decide)]; exact Bb.1
  have f57 : gA S 57 (π b) = (hM t).2.1 b := by rw [hA 57 (by decide)]; exact Bb.2.1
  rw [e22, tp, f56, f57]
  -- b is gone through
  obtain ⟨wm, hwm⟩ : ∃ wm, w - x = wm + 1 := ⟨w - x - 1, by omega⟩
  rw [hwm] at hW
  obtain ⟨m1, W1⟩ := WK_front hW
  have e0 : ((fun j => ((q (x + j) : Nat) : Int)) 0).toNat = b := by
    show ((q (x + 0) : Nat) : Int).toNat = b
    rw [Nat.add_zero, ← hb]; exact Int.toNat_natCast _
  rw [e0] at m1 W1
  have pm := WK_pos hW b48 m1
  have W1' : WK (hM t) (upZ M b 0) (fun j => ((q (x + 1 + j) : Nat) : Int)) wm (fun y => en (hM t) b (y : Int)) := WK_st W1 (fun j _ => by
    show ((q (x + 1 + j) : Nat) : Int) = ((q (x + (j + 1)) : Nat) : Int)
    rw [show x + 1 + j = x + (j + 1) by omega])
  obtain ⟨am, ham⟩ : ∃ am, a - x = am + 1 := ⟨a - x - 1, by omega⟩
  have LFx : lfsL (hM t) q x (a - x) = lfL (hM t) ((hM t).1 b).toNat b ++ lfsL (hM t) q (x + 1) am := by
    rw [ham, lfsL_front, ← hb]
  -- behind b
  have NEXT : ∀ (z' : Int) (S' : MS) (q' : Nat → Nat) (w' : Nat), BQ π s t S' q' (x + 1) a w' i (upZ M b 0) LF → EXQ π (hM t) l0 r0 z' q' (x + 1) w' 0 → pc (m_x10_tree_L30 n z' (((x + 1 : Nat)) : Int) S') (fun o => ∃ (q : Nat → Nat) (w : Nat), ((gI o.2 421 = (w : Int) ∧ w ≤ 48 ∧ ∀ k, k ≠ 22 → gA o.2 k = gA s k) ∧ (∀ j, j < w → gA o.2 22 j = (π (q j) : Int) ∧ q j < 48 ∧ LV t (q j)) ∧ LF = plL (hM t) q w) ∧ EXQ π (hM t) l0 r0 o.1 q w w 0) := fun z' S' q' w' H' HE' => by
    have ha' := H'.2.2.1
    by_cases z1 : x + 1 < a
    · exact ih z' (x + 1) S' q' a w' i (upZ M b 0) H' HE' (Or.inl z1)
    · have ea : a = x + 1 := by omega
      rw [ea] at H'
      have H2 := BQ_switch H'
      by_cases z2 : x + 1 < w'
      · exact ih z' (x + 1) S' q' w' w' (i - 1) (upZ M b 0) H2 HE' (Or.inl z2)
      · exact ih z' (x + 1) S' q' w' w' (i - 1) (upZ M b 0) H2 HE' (Or.inr (by omega))
  -- its kids
  have L82 : ∀ (m : Nat) (z' : Int) (k : Nat) (S' : MS) (q' : Nat → Nat) (w' : Nat), 0 < i → (k : Int) ≤ (hM t).2.1 b → (gI S' 421 = (w' : Int) ∧ ∀ k, k ≠ 22 → gA S' k = gA s k) → (∀ j, j < w' → gA S' 22 j = (π (q' j) : Int) ∧ q' j < 48 ∧ LV t (q' j)) → (a ≤ w' ∧ x + 1 ≤ w') → (∀ j, j < x + 1 → q' j = q j) → (∀ j, x + 1 ≤ j → j < a → (hM t).1 (q' j) = i) → (∀ j, a ≤ j → j < w' → (hM t).1 (q' j) = i - 1) → WK (hM t) (upZ M b 0) (fun j => ((q' (x + 1 + j) : Nat) : Int)) (w' - (x + 1)) (fun y => enf (hM t) b (k : Int) (y : Int)) → LF = plL (hM t) q' (x + 1) ++ (lfsL (hM t) q' a (w' - a) ++ (cfL (fun k => lfL (hM t) (i - 1).toNat ((hM t).2.2 b k).toNat) k (((hM t).2.1 b).toNat - k) ++ lfsL (hM t) q' (x + 1) am)) → EXQ π (hM t) l0 r0 z' q' x w' k → pc (m_x10_tree_L82 (m_x10_tree_L30 n) m z' (x : Int) ((hM t).2.1 b) (k : Int) S') (fun o => ∃ (q : Nat → Nat) (w : Nat), ((gI o.2 421 = (w : Int) ∧ w ≤ 48 ∧ ∀ k, k ≠ 22 → gA o.2 k = gA s k) ∧ (∀ j, j < w → gA o.2 22 j = (π (q j) : Int) ∧ q j < 48 ∧ LV t (q j)) ∧ LF = plL (hM t) q w) ∧ EXQ π (hM t) l0 r0 o.1 q w w 0) := by
    refine fr_ind (fun _ _ _ _ _ _ _ _ _ _ _ _ _ _ _ _ => pc_none) (fun m ih2 z' k S' q' w' hi hk hS hq' hw' hx' hl1 hl2 hW' hLF' hE' => ?_)
    show pc (m_x10_tree_b82 (m_x10_tree_L30 n) (m_x10_tree_L82 (m_x10_tree_L30 n) m) z' (x : Int) ((hM t).2.1 b) (k : Int) S') _
    unfold m_x10_tree_b82 m_x10_tree_J155 m_x8_slot
    have wl := WK_le hW'
    rw [hS.1]
    refine pc_rg (pc_rg (pc_if (fun c => ?_) (fun c => pc_rg (pc_if (fun c2 => ?_) (fun c2 => pc_rdI (fun _ => pc_bn (fun r21 e21 => pc_rdI (fun _ => pc_inb (pc_stn (fun s24 e24 => pc_rdI (fun _ => pc_stn (fun s26 e26 => ?_))))))))))))
    · rw [show (x : Int) + 1 = ((x + 1 : Nat) : Int) by omega]
      refine NEXT z' S' q' w' ⟨hS, hq', ⟨by omega, hw'.1⟩, ⟨hl1, hl2⟩, by omega, WK_P hW' (fun y _ => ?_), ?_⟩ (EXQ_next hE' (fun _ => by rw [hx' x (by omega), ← hb]; omega))
      · show (0 : Int) = enf (hM t) b (k : Int) (y : Int)
        rw [enf_end (by omega)]
      · rw [show ((hM t).2.1 b).toNat - k = 0 by omega] at hLF'
        rw [show a - (x + 1) = am by omega]
        exact hLF'
    · exfalso
      -- one more would wait
      have kid := Kb.2 (by omega) k (by omega)
      have es := fun y : Nat => enf_step (h := hM t) (p := b) (k := k) (x := (y : Int)) (by omega) (by omega) (by omega)
      have PW := WK_push (y := (hM t).2.2 b k) hW' kid.1 (Pd' := fun y => enf (hM t) b ((k : Int) + 1) (y : Int)) (fun y _ => es y) (fun y _ => enf_nn _ _ _ _)
      have wl2 := WK_le PW
      omega
    · cases e21
      have kid := Kb.2 (by omega) k (by omega)
      have kidN := Kb.1.1.2.2 (by omega) k (by omega)
      have es := fun y : Nat => enf_step (h := hM t) (p := b) (k := k) (x := (y : Int)) (by omega) (by omega) (by omega)
      have PW := WK_push (y := (hM t).2.2 b k) hW' kid.1 (Pd' := fun y => enf (hM t) b ((k : Int) + 1) (y : Int)) (fun y _ => es y) (fun y _ => enf_nn _ _ _ _)
      obtain ⟨y, hy⟩ : ∃ y, y = ((hM t).2.2 b k).toNat := ⟨_, rfl⟩
      have yv : (hM t).2.2 b k = (y : Int) := by omega
      have x22 : gA S' 22 x = (π b : Int) := by
        have g := (hq' x (by omega)).1
        rw [hx' x (by omega), ← hb] at g
        exact g
      have v59 : gA S' 59 (6 * π b + k) = (π y : Int) := by
        have g := (Bb.2.2 k (by omega)).2.1 (by omega)
        have g' : gA s 59 (6 * π b + k) = (π ((hM t).2.2 b k).toNat : Int) := g
        rw [hS.2 59 (by decide), g', hy]
      rw [Int.toNat_natCast, x22, show ((π b : Int) * 6 + (k : Int)).toNat = 6 * π b + k by omega, v59, Int.toNat_natCast] at e24
      rw [show (k : Int) + 1 = ((k + 1 : Nat) : Int) by omega]
      have u22 : gA s26 22 = upZ (gA S' 22) w' (π y : Int) := (q_Ia e26 : gA s26 22 = gA s24 22).trans (q_AA e24)
      have i421 : gI s26 421 = ((w' + 1 : Nat) : Int) := by
        rw [(q_II e26 : gI s26 421 = _), (q_Ai e24 : gI s24 421 = gI S' 421), hS.1]
        omega
      have qn : ∀ j, j ≠ w' → (fun j => if j = w' then y else q' j) j = q' j := fun j hj => if_neg hj
      have qe : (fun j => if j = w' then y else q' j) w' = y := if_pos rfl
      have PW' : WK (hM t) (upZ M b 0) (fun j => (((fun j => if j = w' then y else q' j) (x + 1 + j) : Nat) : Int)) (w' + 1 - (x + 1)) (fun y => enf (hM t) b (((k + 1 : Nat) : Int)) (y : Int)) := by
        rw [show w' + 1 - (x + 1) = w' - (x + 1) + 1 by omega, show ((k + 1 : Nat) : Int) = (k : Int) + 1 by omega]
        refine WK_st PW (fun j hj => ?_)
        show (((if x + 1 + j = w' then y else q' (x + 1 + j)) : Nat) : Int) = upZ (fun j => ((q' (x + 1 + j) : Nat) : Int)) (w' - (x + 1)) ((hM t).2.2 b k) j
        by_cases z : j = w' - (x + 1)
        · rw [z, upZ_s, if_pos (by omega), yv]
        · rw [upZ_n z, if_neg (by omega)]
      have qx : q' x = b := by rw [hx' x (by omega), hb]
      have y25 : gA s24 22 (gI s24 421).toNat = (π y : Int) := by
        rw [(q_AA e24 : gA s24 22 = _), (q_Ai e24 : gI s24 421 = gI S' 421), hS.1, upZ_s]
      have HEy := EXQ_push hE' (hπ y (by omega)) (by omega) (by rw [qx]; exact hy) (by
        have g := nd_kid hK l0 r0 (q' x) k hr0 lr0 hl0 (hE'.2.1 x (by omega)) (by rw [qx]; omega) (by rw [qx]; omega)
        rw [qx, ← hy] at g
        exact g)
      rw [← y25] at HEy
      refine ih2 _ (k + 1) s26 (fun j => if j = w' then y else q' j) (w' + 1) hi (by omega) ⟨i421, fun k2 hk2 => (q_Ia e26).trans ((q_Aa e24 hk2).trans (hS.2 k2 hk2))⟩ (fun j hj => ?_) (by omega) (fun j hj => by rw [qn j (by omega)]; exact hx' j hj) (fun j j1 j2 => by rw [qn j (by omega)]; exact hl1 j j1 j2) (fun j j1 j2 => ?_) PW' ?_ HEy
      · rw [u22]
        by_cases z : j = w'
        · rw [z, upZ_s, qe]
          exact ⟨rfl, by omega, by rw [hy]; exact kid.2⟩
        · rw [upZ_n z, qn j z]
          exact hq' j (by omega)
      · by_cases z : j = w'
        · rw [z, qe, hy]; omega
        · rw [qn j z]; exact hl2 j j1 (by omega)
      · have A1 : plL (hM t) (fun j => if j = w' then y else q' j) (x + 1) = plL (hM t) q' (x + 1) := plL_c (x + 1) (fun j hj => qn j (by omega))
        have A2 : lfsL (hM t) (fun j => if j = w' then y else q' j) (x + 1) am = lfsL (hM t) q' (x + 1) am := lfsL_c am (fun j j1 j2 => qn j (by omega))
        have A3 : lfsL (hM t) (fun j => if j = w' then y else q' j) a (w' + 1 - a) = lfsL (hM t) q' a (w' - a) ++ lfL (hM t) (i - 1).toNat ((hM t).2.2 b k).toNat := by
          rw [show w' + 1 - a = (w' - a) + 1 by omega]
          show lfsL (hM t) (fun j => if j = w' then y else q' j) a (w' - a) ++ lfL (hM t) ((hM t).1 ((fun j => if j = w' then y else q' j) (a + (w' - a)))).toNat ((fun j => if j = w' then y else q' j) (a + (w' - a))) = _
          rw [lfsL_c (w' - a) (fun j j1 j2 => qn j (by omega)), show a + (w' - a) = w' by omega, qe, ← hy]
          have ly : (hM t).1 y = i - 1 := by rw [hy]; omega
          rw [ly]
        have A4 : cfL (fun k => lfL (hM t) (i - 1).toNat ((hM t).2.2 b k).toNat) k (((hM t).2.1 b).toNat - k) = lfL (hM t) (i - 1).toNat ((hM t).2.2 b k).toNat ++ cfL (fun k => lfL (hM t) (i - 1).toNat ((hM t).2.2 b k).toNat) (k + 1) (((hM t).2.1 b).toNat - (k + 1)) := by
          rw [show ((hM t).2.1 b).toNat - k = (((hM t).2.1 b).toNat - (k + 1)) + 1 by omega]
          rfl
        rw [A1, A2, A3, hLF', A4]
        simp only [List.append_assoc]
  refine pc_rg (pc_if (fun c3 => ?_) (fun c3 => pc_rdI (fun _ => ?_)))
  · -- a leaf
    have wa : w = a := by
      by_cases y : a < w
      · have l1 := hl.2 a (Nat.le_refl a) y
        have l2 := (hK.2.1 (q a) (hq a y).2.1 (hq a y).2.2).1.1.1
        omega
      · omega
    have STEP : ∀ m : Nat, pc (m_x10_tree_L82 (m_x10_tree_L30 n) m z (x : Int) 0 0 S) (fun o => ∃ (q : Nat → Nat) (w : Nat), ((gI o.2 421 = (w : Int) ∧ w ≤ 48 ∧ ∀ k, k ≠ 22 → gA o.2 k = gA s k) ∧ (∀ j, j < w → gA o.2 22 j = (π (q j) : Int) ∧ q j < 48 ∧ LV t (q j)) ∧ LF = plL (hM t) q w) ∧ EXQ π (hM t) l0 r0 o.1 q w w 0) := fun m => by
      cases m with
      | zero => exact pc_none
      | succ m =>
        show pc (m_x10_tree_b82 (m_x10_tree_L30 n) (m_x10_tree_L82 (m_x10_tree_L30 n) m) z (x : Int) 0 0 S) _
        unfold m_x10_tree_b82 m_x10_tree_J155
        refine pc_rg (pc_rg (pc_if (fun _ => ?_) (fun c => absurd (Int.le_refl 0) c)))
        rw [show (x : Int) + 1 = ((x + 1 : Nat) : Int) by omega]
        refine NEXT z S q w ⟨⟨h421, hA⟩, hq, ⟨by omega, ha.2⟩, ⟨fun j j1 j2 => hl.1 j (by omega) j2, hl.2⟩, by omega, ?_, ?_⟩ (EXQ_next HE (fun u => by rw [← hb] at u; omega))
        · rw [show w - (x + 1) = wm by omega]
          refine WK_P W1' (fun y _ => ?_)
          show (0 : Int) = en (hM t) b (y : Int)
          rw [en_leaf (by omega)]
        · rw [hLF, LFx, wa, show a - a = 0 by omega, show a - (x + 1) = am by omega]
          have l0 : ((hM t).1 b).toNat = 0 := by omega
          rw [l0]
          show plL (hM t) q x ++ ([] ++ ([b] ++ lfsL (hM t) q (x + 1) am)) = (plL (hM t) q x ++ (if (hM t).1 (q x) ≤ 0 then [q x] else [])) ++ ([] ++ lfsL (hM t) q (x + 1) am)
          rw [← hb, if_pos c3, List.nil_append, List.nil_append, List.append_assoc]
    exact STEP FU
  · rw [Int.toNat_natCast]
    try rw [e22, tp, f57]
    have i0 : 0 < i := by omega
    refine L82 FU z 0 S q w i0 (by omega) ⟨h421, hA⟩ hq ⟨ha.2, by omega⟩ (fun _ _ => rfl) (fun j j1 j2 => hl.1 j (by omega) j2) hl.2 ?_ ?_ HE
    · rw [show w - (x + 1) = wm by omega]
      exact W1'
    · rw [hLF, LFx]
      have e1 : ((hM t).1 b).toNat = (i - 1).toNat + 1 := by omega
      have e2 : lfL (hM t) ((hM t).1 b).toNat b = cfL (fun k => lfL (hM t) (i - 1).toNat ((hM t).2.2 b k).toNat) 0 (((hM t).2.1 b).toNat - 0) := by
        rw [e1]
        exact catL_0 _ _
      have e3 : plL (hM t) q (x + 1) = plL (hM t) q x := by
        show plL (hM t) q x ++ (if (hM t).1 (q x) ≤ 0 then [q x] else []) = plL (hM t) q x
        rw [← hb, if_neg c3, List.append_nil]
      rw [e2, e3]
set_option maxHeartbeats 250000 in theorem shl_n {c : Nat} (hc : c < 48) : ∃ m : Nat, m < 281474976710656 ∧ shlLZ 1 (c : Int) = (m : Int) := by
  have h1 : shlLZ 1 (c : Int) = (shlL (i8 1) (i2 (c : Int))).toBitVec.toInt := rfl
  have h2 := bs_one c hc
  have lt : (2 : Nat) ^ c < 2 ^ 48 := Nat.pow_lt_pow_right (by decide) hc
  refine ⟨2 ^ c, lt, ?_⟩
  rw [h1, BitVec.toInt_eq_toNat_of_lt (by omega), h2]
set_option maxHeartbeats 250000 in theorem bW_shl {c x : Nat} (hc : c < 48) (hx : x < 48) : bW (shlLZ 1 (c : Int)) x ↔ x = c := by
  have e : orL 0 (shlLZ 1 (c : Int)) = shlLZ 1 (c : Int) := by
    have b : i8 (shlLZ 1 (c : Int)) = shlL (i8 1) (i2 (c : Int)) := Int64.ofInt_toInt _
    have h1 : orL 0 (shlLZ 1 (c : Int)) = ((0#64 : BitVec 64) ||| (i8 (shlLZ 1 (c : Int))).toBitVec).toInt := rfl
    rw [h1, b, BitVec.zero_or]
    rfl
  have w := bW_or (w := 0) hc hx
  rw [e] at w
  rw [w]
  exact ⟨fun h => h.resolve_right (bW_0 hx), Or.inl⟩
/- the class's walk: its queue, its marks -/
set_option maxHeartbeats 250000 in theorem s_treeR {π σ : Nat → Nat} {N : Int} {s t : MS} {r1 r2 : Int} (hB : ∀ y, y < 48 → LV t y → BR1 π (hN s) (hM t) (kN s) (kM t) y) (hp : PNM π σ N) (hK : KLV t) (hr : rtr π r1 r2) (hl : 0 ≤ r2 → r2 < 48 → LV t r2.toNat ∧ ∃ mu, MV (hM t) mu r2 (fun _ => 0)) : pc (m_x10_tree r1 s) (fun o => (∃ (q : Nat → Nat) (w : Nat), (gI o.2 421 = (w : Int) ∧ w ≤ 48 ∧ ∀ k, k ≠ 22 → gA o.2 k = gA s k) ∧ (∀ j, j < w → gA o.2 22 j = (π (q j) : Int) ∧ q j < 48 ∧ LV t (q j)) ∧ LFr t r2 = plL (hM t) q w) ∧ (∃ n : Nat, n < 281474976710656 ∧ o.1 = (n : Int)) ∧ ∀ y, y < 48 → (bW o.1 (π y) ↔ (r2 < 254 ∧ ndP (hM t) ((hM t).1 r2.toNat).toNat r2.toNat y))) := by
  unfold m_x10_tree
  refine pc_stn (fun s42 e42 => pc_rg (pc_if (fun c => pc_inb (pc_stn (fun s46 e46 => pc_stn (fun s47 e47 => ?_)))) (fun c => pc_some ?_)))
  · rcases hr with ⟨a, b⟩ | ⟨a, b⟩ | ⟨a, b, c1⟩
    · exfalso; omega
    · exfalso; omega
    · obtain ⟨y, hy⟩ : ∃ y : Nat, r2 = (y : Int) := ⟨r2.toNat, by omega⟩
      have ty : ((y : Nat) : Int).toNat = y := Int.toNat_natCast _
      obtain ⟨ly, mu, hmu⟩ := hl a b
      rw [hy, ty] at c1 ly
      rw [hy] at hmu
      have y48 : y < 48 := by omega
      have u22 : gA s47 22 = upZ (gA s42 22) 0 r1 := (q_Ia e47 : gA s47 22 = gA s46 22).trans (q_AA e46)
      have W := WK_0 (st := fun _ => (y : Int)) hmu ⟨by omega, by omega⟩
      have pb := pos_b mu
      have l0 := (hK.2.1 y y48 ly).1.1.1
      have p48 := (hp y y48).1.1
      have e1 : (hM t).1 y = (((hM t).1 y).toNat : Int) := by omega
      have E0 : EXQ π (hM t) ((hM t).1 y).toNat y (shlLZ 1 r1) (fun _ => y) 0 1 0 := by
        refine ⟨⟨by rw [c1]; exact shl_n p48, fun u hu => ?_⟩, fun j _ => nd_self _ _ _, ⟨⟨0, by omega, rfl⟩, fun j hj => absurd hj (by omega)⟩, fun i hi => absurd hi (by omega)⟩
        rw [c1, bW_shl p48 hu]
        exact ⟨fun e => ⟨0, by omega, e.symm⟩, fun ⟨_, _, e⟩ => e.symm⟩
      refine pc_mono (s_treeL hB (fun u hu => (hp u hu).1.1) hK (LF := LFr t r2) y48 ly e1 FU _ 0 s47 (fun _ => y) 1 1 ((hM t).1 y) mu ⟨⟨(q_II e47 : gI s47 421 = 1), fun k hk => (q_Ia e47).trans ((q_Aa e46 hk).trans (q_Ia e42))⟩, fun j hj => ?_, by omega, ⟨fun j _ _ => rfl, fun j j1 j2 => absurd j1 (by omega)⟩, by omega, WK_st W (fun j hj => ?_), ?_⟩ E0 (Or.inl (by omega))) (fun o ho => ?_)
      · rw [u22, show j = 0 by omega, upZ_s, c1]
        exact ⟨rfl, y48, ly⟩
      · rw [show j = 0 by omega, upZ_s]
      · unfold LFr
        rw [if_pos (by omega), hy, ty]
        show lfL (hM t) ((hM t).1 y).toNat y = [] ++ ([] ++ ([] ++ lfL (hM t) ((hM t).1 y).toNat y))
        rw [List.nil_append, List.nil_append, List.nil_append]
      · obtain ⟨q, w, ⟨h1, h2, h3⟩, ⟨⟨n, hn, hz⟩, hb⟩, hnd, ⟨hroot, hcl⟩, _⟩ := ho
        refine ⟨⟨q, w, h1, h2, h3⟩, ⟨n, hn, hz⟩, fun u hu => ?_⟩
        rw [hy, ty, hb _ (hp u hu).1.1]
        constructor
        · rintro ⟨j, hj, e⟩
          have eu : q j = u := by
            have g := congrArg σ e
            rw [(hp (q j) (h2 j hj).2.1).2.1.1, (hp u hu).2.1.1] at g
            exact g
          refine ⟨by omega, ?_⟩
          rw [← eu]; exact hnd j hj
        · rintro ⟨_, h⟩
          obtain ⟨j, hj, e⟩ := nd_all hK (Q := fun b => ∃ j, j < w ∧ q j = b) (fun b _ _ hQ h0 k hk => by
            obtain ⟨j, hj, e⟩ := hQ
            rw [← e] at h0 hk ⊢
            exact hcl j hj h0 k hk) ((hM t).1 y).toNat y u y48 ly e1 hroot h
          exact ⟨j, hj, by rw [e]⟩
  · have big : ¬ r2 < 254 := by
      rcases hr with ⟨a, b⟩ | ⟨a, b⟩ | ⟨a, b, c1⟩
      · omega
      · omega
      · exfalso; omega
    refine ⟨⟨fun _ => 0, 0, ⟨q_II e42, by decide, fun k _ => q_Ia e42⟩, fun j hj => absurd hj (by omega), ?_⟩, ⟨0, by decide, rfl⟩, fun u hu => ⟨fun h => absurd h (bW_0 (hp u hu).1.1), fun h => absurd h.1 big⟩⟩
    unfold LFr
    rw [if_neg big]
    rfl
/- the class's rows of a tree's entries -/
set_option maxHeartbeats 250000 in theorem s_gatherL {π σ : Nat → Nat} {N : Int} {s t : MS} {r1 r2 : Int} (hB : ∀ y, y < 48 → LV t y → BR1 π (hN s) (hM t) (kN s) (kM t) y) (hp : PNM π σ N) (hK : KLV t) (hr : rtr π r1 r2) (hl : 0 ≤ r2 → r2 < 48 → LV t r2.toNat ∧ ∃ mu, MV (hM t) mu r2 (fun _ => 0)) : pc (m_x10_gather r1 s) (fun q => ORe (gA q.2 23) (gA q.2 24) q.1 (wrL (hM t) (kM t) (LFr t r2)) ∧ q.1 ≤ 288) := by
  unfold m_x10_gather
  refine pc_bq (s_treeR hB hp hK hr hl) (fun o ho => ?_)
  obtain ⟨⟨q, w, ⟨h421, w48, hA⟩, hq, hLF⟩, _⟩ := ho
  rw [hLF]
  have L12 : ∀ (n x : Nat) (c : Int) (S : MS), x ≤ w → gI S 421 = (w : Int) → (∀ k, k ≠ 23 → k ≠ 24 → gA S k = gA o.2 k) → (c ≤ 6 * (x : Int)) → ORe (gA S 23) (gA S 24) c (wrL (hM t) (kM t) (plL (hM t) q x)) → pc (m_x10_gather_L12 n c (x : Int) S) (fun q' => ORe (gA q'.2 23) (gA q'.2 24) q'.1 (wrL (hM t) (kM t) (plL (hM t) q w)) ∧ q'.1 ≤ 288) := by
    refine fr_ind (fun _ _ _ _ _ _ _ _ => pc_none) (fun n ih x c S hx h421' hA' hc hOR => ?_)
    show pc (m_x10_gather_b12 (m_x10_gather_L12 n) c (x : Int) S) _
    unfold m_x10_gather_b12 m_x10_gather_J52
    rw [h421']
    refine pc_rg (pc_rg (pc_if (fun c1 => pc_some ?_) (fun c1 => pc_rdI (fun _ => pc_rdI (fun _ => ?_)))))
    · rw [show w = x by omega]
      exact ⟨hOR, show c ≤ 288 by omega⟩
    obtain ⟨e22, b48, lb⟩ := hq x (by omega)
    obtain ⟨b, hb⟩ : ∃ b, b = q x := ⟨_, rfl⟩
    rw [← hb] at e22 b48 lb
    have tp : ((π b : Nat) : Int).toNat = π b := Int.toNat_natCast _
    have Bb := hB b b48 lb
    have Kb := hK.2.1 b b48 lb
    have sz := Kb.1.1.2.1
    have lv0 := Kb.1.1.1
    have k22 : gA S 22 x = (π b : Int) := by rw [hA' 22 (by decide) (by decide)]; exact e22
    have f56 : gA S 56 (π b) = (hM t).1 b := by rw [hA' 56 (by decide) (by decide), hA 56 (by decide)]; exact Bb.1
    have f57 : gA S 57 (π b) = (hM t).2.1 b := by rw [hA' 57 (by decide) (by decide), hA 57 (by decide)]; exact Bb.2.1
    rw [Int.toNat_natCast, k22, tp, f56, f57]
    have L57 : ∀ (m k : Nat) (z : Int) (c' : Int) (X : MS), (z = 0 ∧ k = 0 ∧ ¬ (hM t).1 b ≤ 0) ∨ (z = (hM t).2.1 b ∧ (k : Int) ≤ z ∧ (hM t).1 b ≤ 0) → gI X 421 = (w : Int) → (∀ k, k ≠ 23 → k ≠ 24 → gA X k = gA o.2 k) → c' ≤ 6 * (x : Int) + (k : Int) → ORe (gA X 23) (gA X 24) c' (wrL (hM t) (kM t) (plL (hM t) q x) ++ esL (hM t) (kM t) b k) → pc (m_x10_gather_L57 (m_x10_gather_L12 n) m c' (x : Int) z (k : Int) X) (fun q' => ORe (gA q'.2 23) (gA q'.2 24) q'.1 (wrL (hM t) (kM t) (plL (hM t) q w)) ∧ q'.1 ≤ 288) := by
      refine fr_ind (fun _ _ _ _ _ _ _ _ _ => pc_none) (fun m ih2 k z c' X hz x421 xA hc' xOR => ?_)
      show pc (m_x10_gather_b57 (m_x10_gather_L12 n) (m_x10_gather_L57 (m_x10_gather_L12 n) m) c' (x : Int) z (k : Int) X) _
      unfold m_x10_gather_b57 m_x10_gather_J128 m_x8_slot
      refine pc_rg (pc_rg (pc_if (fun c2 => ?_) (fun c2 => pc_rg (pc_if (fun c3 => absurd c3 (by omega)) (fun c3 => pc_rdI (fun _ => pc_bn (fun r19 e19 => pc_rdI (fun _ => pc_inb (pc_stn (fun s22 e22' => pc_rdI (fun _ => pc_bn (fun r25 e25 => pc_rdI (fun _ => pc_inb (pc_stn (fun s28 e28 => ?_)))))))))))))))
      · rw [show (x : Int) + 1 = ((x + 1 : Nat) : Int) by omega]
        refine ih (x + 1) c' X (by omega) x421 xA (by omega) ?_
        show ORe (gA X 23) (gA X 24) c' (wrL (hM t) (kM t) (plL (hM t) q x ++ (if (hM t).1 (q x) ≤ 0 then [q x] else [])))
        rw [← hb]
        rcases hz with ⟨z1, z2, z3⟩ | ⟨z1, z2, z3⟩
        · rw [if_neg z3, List.append_nil]
          rw [z2] at xOR
          have g : ORe (gA X 23) (gA X 24) c' (wrL (hM t) (kM t) (plL (hM t) q x) ++ []) := xOR
          rw [List.append_nil] at g
          exact g
        · rw [if_pos z3, wrL_app, wrL_1, show ((hM t).2.1 b).toNat = k by omega]
          exact xOR
      · rcases hz with ⟨z1, z2, z3⟩ | ⟨z1, z2, z3⟩
        · exfalso; omega
        cases e19
        cases e25
        have x22 : gA X 22 x = (π b : Int) := by rw [xA 22 (by decide) (by decide)]; exact e22
        have s22' : gA s22 22 x = (π b : Int) := by rw [(q_Aa e22' (by decide) : gA s22 22 = gA X 22)]; exact x22
        have ix : ((π b : Int) * 6 + (k : Int)).toNat = 6 * π b + k := by omega
        have v58 : gA X 58 (6 * π b + k) = kM t b k := by
          rw [xA 58 (by decide) (by decide), hA 58 (by decide)]
          exact (Bb.2.2 k (by omega)).1
        have v59 : gA s22 59 (6 * π b + k) = (hM t).2.2 b k := by
          rw [(q_Aa e22' (by decide) : gA s22 59 = gA X 59), xA 59 (by decide) (by decide), hA 59 (by decide)]
          exact (Bb.2.2 k (by omega)).2.2 z3
        rw [Int.toNat_natCast, x22, ix, v58] at e22'
        rw [Int.toNat_natCast, s22', ix, v59] at e28
        have u23 : gA s28 23 = upZ (gA X 23) c'.toNat (kM t b k) := (q_Aa e28 (by decide) : gA s28 23 = gA s22 23).trans (q_AA e22')
        have u24 : gA s28 24 = upZ (gA X 24) c'.toNat ((hM t).2.2 b k) := by
          rw [(q_AA e28 : gA s28 24 = _), (q_Aa e22' (by decide) : gA s22 24 = gA X 24)]
        have A := ORe_add (k := kM t b k) (v := (hM t).2.2 b k) xOR
        rw [← u23, ← u24, List.append_assoc] at A
        rw [show (k : Int) + 1 = ((k + 1 : Nat) : Int) by omega]
        exact ih2 (k + 1) z (c' + 1) s28 (Or.inr ⟨z1, by omega, z3⟩) (((q_Ai e28 : gI s28 421 = gI s22 421).trans (q_Ai e22')).trans x421) (fun k2 h1 h2 => ((q_Aa e28 h2).trans (q_Aa e22' h1)).trans (xA k2 h1 h2)) (by omega) A
    have st0 : ORe (gA S 23) (gA S 24) c (wrL (hM t) (kM t) (plL (hM t) q x) ++ esL (hM t) (kM t) b 0) := by
      show ORe (gA S 23) (gA S 24) c (wrL (hM t) (kM t) (plL (hM t) q x) ++ [])
      rw [List.append_nil]; exact hOR
    refine pc_rg (pc_if (fun c2 => pc_rdI (fun _ => ?_)) (fun c2 => L57 FU 0 0 c S (Or.inl ⟨rfl, rfl, by omega⟩) h421' hA' (by omega) st0))
    refine pc_rdI (fun _ => ?_)
    try rw [Int.toNat_natCast, k22, tp, f57]
    exact L57 FU 0 ((hM t).2.1 b) c S (Or.inr ⟨rfl, by omega, by omega⟩) h421' hA' (by omega) st0
  exact L12 FU 0 0 o.2 (Nat.zero_le w) h421 (fun _ _ _ => rfl) (by decide) (ORe_0 _ _)
/-! ===== the class's other walk, by levels ===== -/
/- the queue: what was gone through, the rest of a level, the next level so far -/
def BQ2 (π : Nat → Nat) (s t S : MS) (q : Nat → Nat) (x a w : Nat) (i : Int) (M : Nat → Int) (LF : List Nat) : Prop :=
  (gI S 501 = (w : Int) ∧ ∀ k, k ≠ 26 → gA S k = gA s k) ∧ (∀ j, j < w → gA S 26 j = (π (q j) : Int) ∧ q j < 48 ∧ LV t (q j)) ∧ (x ≤ a ∧ a ≤ w) ∧ ((∀ j, x ≤ j → j < a → (hM t).1 (q j) = i) ∧ (∀ j, a ≤ j → j < w → (hM t).1 (q j) = i - 1)) ∧ pos M + (x : Int) ≤ 48 ∧ WK (hM t) M (fun j => (q (x + j) : Int)) (w - x) (fun _ => 0) ∧ LF = plL (hM t) q x ++ (lfsL (hM t) q a (w - a) ++ lfsL (hM t) q x (a - x))
set_option maxHeartbeats 250000 in theorem BQ_le2 {π : Nat → Nat} {s t S : MS} {q : Nat → Nat} {x a w : Nat} {i : Int} {M : Nat → Int} {LF : List Nat} (H : BQ2 π s t S q x a w i M LF) : w ≤ 48 := by
  obtain ⟨_, _, ha, _, hp, hW, _⟩ := H
  have := WK_le hW
  omega
/- a level is through -/
set_option maxHeartbeats 250000 in theorem BQ_switch2 {π : Nat → Nat} {s t S : MS} {q : Nat → Nat} {x w : Nat} {i : Int} {M : Nat → Int} {LF : List Nat} (H : BQ2 π s t S q x x w i M LF) : BQ2 π s t S q x w w (i - 1) M LF := by
  obtain ⟨h1, h2, ha, hl, hp, hW, hLF⟩ := H
  refine ⟨h1, h2, ⟨ha.2, Nat.le_refl w⟩, ⟨hl.2, fun j h3 h4 => absurd h3 (by omega)⟩, hp, hW, ?_⟩
  rw [hLF, show x - x = 0 by omega, show w - w = 0 by omega]
  show plL (hM t) q x ++ (lfsL (hM t) q x (w - x) ++ []) = plL (hM t) q x ++ ([] ++ lfsL (hM t) q x (w - x))
  rw [List.append_nil, List.nil_append]
set_option maxHeartbeats 1000000 in
theorem s_treeL2 {π : Nat → Nat} {s t : MS} (hB : ∀ y, y < 48 → LV t y → BR1 π (hN s) (hM t) (kN s) (kM t) y) (hπ : ∀ y, y < 48 → π y < 48) (hK : KLV t) {LF : List Nat} {l0 r0 : Nat} (hr0 : r0 < 48) (lr0 : LV t r0) (hl0 : (hM t).1 r0 = (l0 : Int)) : ∀ (n : Nat) (z : Int) (x : Nat) (S : MS) (q : Nat → Nat) (a w : Nat) (i : Int) (M : Nat → Int), BQ2 π s t S q x a w i M LF → EXQ π (hM t) l0 r0 z q x w 0 → x < a ∨ x = w → pc (m_x10_tree_v2_L30 n z (x : Int) S) (fun o => ∃ (q : Nat → Nat) (w : Nat), ((gI o.2 501 = (w : Int) ∧ w ≤ 48 ∧ ∀ k, k ≠ 26 → gA o.2 k = gA s k) ∧ (∀ j, j < w → gA o.2 26 j = (π (q j) : Int) ∧ q j < 48 ∧ LV t (q j)) ∧ LF = plL (hM t) q w) ∧ EXQ π (hM t) l0 r0 o.1 q w w 0) := by
  refine fr_ind (fun _ _ _ _ _ _ _ _ _ _ _ => pc_none) (fun n ih z x S q a w i M H HE hxa => ?_)
  have w48 := BQ_le2 H
  show pc (m_x10_tree_v2_b30 (m_x10_tree_v2_L30 n) z (x : Int) S) _
  unfold m_x10_tree_v2_b30 m_x10_tree_v2_J161 m_x10_tree_v2_J77
  obtain ⟨⟨h421, hA⟩, hq, ha, hl, hp, hW, hLF⟩ := H
  rw [h421]
  have fin : x = w → ∃ (q : Nat → Nat) (w : Nat), ((gI S 501 = (w : Int) ∧ w ≤ 48 ∧ ∀ k, k ≠ 26 → gA S k = gA s k) ∧ (∀ j, j < w → gA S 26 j = (π (q j) : Int) ∧ q j < 48 ∧ LV t (q j)) ∧ LF = plL (hM t) q w) ∧ EXQ π (hM t) l0 r0 z q w w 0 := fun e => by
    refine ⟨q, w, ⟨⟨h421, w48, hA⟩, hq, ?_⟩, by rw [e] at HE; exact HE⟩
    rw [hLF, e, show w - a = 0 by omega, show a - w = 0 by omega]
    show plL (hM t) q w ++ ([] ++ []) = plL (hM t) q w
    rw [List.nil_append, List.append_nil]
  refine pc_rg (pc_rg (pc_if (fun c => pc_some (fin (by omega))) (fun c => pc_rg (pc_if (fun c2 => absurd c2 (by omega)) (fun c2 => pc_rdI (fun _ => pc_rdI (fun _ => ?_)))))))
  have xa : x < a := by omega
  rw [Int.toNat_natCast]
  obtain ⟨e22, b48, lb⟩ := hq x (by omega)
  obtain ⟨b, hb⟩ : ∃ b, b = q x := ⟨_, rfl⟩
  rw [← hb] at e22 b48 lb
  have tp : ((π b : Nat) : Int).toNat = π b := Int.toNat_natCast _
  have Bb := hB b b48 lb
  have Kb := hK.2.1 b b48 lb
  have sz := Kb.1.1.2.1
  have lv := hl.1 x (Nat.le_refl x) xa
  rw [← hb] at lv
  have lv0 := Kb.1.1.1
  have f56 : gA S 56 (π b) = (hM t).1 b := by rw [hA 56 (by decide)]; exact Bb.1
  have f57 : gA S 57 (π b) = (hM t).2.1 b := by rw [hA 57 (by decide)]; exact Bb.2.1
  rw [e22, tp, f56, f57]
  -- b is gone through
  obtain ⟨wm, hwm⟩ : ∃ wm, w - x = wm + 1 := ⟨w - x - 1, by omega⟩
  rw [hwm] at hW
  obtain ⟨m1, W1⟩ := WK_front hW
  have e0 : ((fun j => ((q (x + j) : Nat) : Int)) 0).toNat = b := by
    show ((q (x + 0) : Nat) : Int).toNat = b
    rw [Nat.add_zero, ← hb]; exact Int.toNat_natCast _
  rw [e0] at m1 W1
  have pm := WK_pos hW b48 m1
  have W1' : WK (hM t) (upZ M b 0) (fun j => ((q (x + 1 + j) : Nat) : Int)) wm (fun y => en (hM t) b (y : Int)) := WK_st W1 (fun j _ => by
    show ((q (x + 1 + j) : Nat) : Int) = ((q (x + (j + 1)) : Nat) : Int)
    rw [show x + 1 + j = x + (j + 1) by omega])
  obtain ⟨am, ham⟩ : ∃ am, a - x = am + 1 := ⟨a - x - 1, by omega⟩
  have LFx : lfsL (hM t) q x (a - x) = lfL (hM t) ((hM t).1 b).toNat b ++ lfsL (hM t) q (x + 1) am := by
    rw [ham, lfsL_front, ← hb]
  -- behind b
  have NEXT : ∀ (z' : Int) (S' : MS) (q' : Nat → Nat) (w' : Nat), BQ2 π s t S' q' (x + 1) a w' i (upZ M b 0) LF → EXQ π (hM t) l0 r0 z' q' (x + 1) w' 0 → pc (m_x10_tree_v2_L30 n z' (((x + 1 : Nat)) : Int) S') (fun o => ∃ (q : Nat → Nat) (w : Nat), ((gI o.2 501 = (w : Int) ∧ w ≤ 48 ∧ ∀ k, k ≠ 26 → gA o.2 k = gA s k) ∧ (∀ j, j < w → gA o.2 26 j = (π (q j) : Int) ∧ q j < 48 ∧ LV t (q j)) ∧ LF = plL (hM t) q w) ∧ EXQ π (hM t) l0 r0 o.1 q w w 0) := fun z' S' q' w' H' HE' => by
    have ha' := H'.2.2.1
    by_cases z1 : x + 1 < a
    · exact ih z' (x + 1) S' q' a w' i (upZ M b 0) H' HE' (Or.inl z1)
    · have ea : a = x + 1 := by omega
      rw [ea] at H'
      have H2 := BQ_switch2 H'
      by_cases z2 : x + 1 < w'
      · exact ih z' (x + 1) S' q' w' w' (i - 1) (upZ M b 0) H2 HE' (Or.inl z2)
      · exact ih z' (x + 1) S' q' w' w' (i - 1) (upZ M b 0) H2 HE' (Or.inr (by omega))
  -- its kids
  have L82 : ∀ (m : Nat) (z' : Int) (k : Nat) (S' : MS) (q' : Nat → Nat) (w' : Nat), 0 < i → (k : Int) ≤ (hM t).2.1 b → (gI S' 501 = (w' : Int) ∧ ∀ k, k ≠ 26 → gA S' k = gA s k) → (∀ j, j < w' → gA S' 26 j = (π (q' j) : Int) ∧ q' j < 48 ∧ LV t (q' j)) → (a ≤ w' ∧ x + 1 ≤ w') → (∀ j, j < x + 1 → q' j = q j) → (∀ j, x + 1 ≤ j → j < a → (hM t).1 (q' j) = i) → (∀ j, a ≤ j → j < w' → (hM t).1 (q' j) = i - 1) → WK (hM t) (upZ M b 0) (fun j => ((q' (x + 1 + j) : Nat) : Int)) (w' - (x + 1)) (fun y => enf (hM t) b (k : Int) (y : Int)) → LF = plL (hM t) q' (x + 1) ++ (lfsL (hM t) q' a (w' - a) ++ (cfL (fun k => lfL (hM t) (i - 1).toNat ((hM t).2.2 b k).toNat) k (((hM t).2.1 b).toNat - k) ++ lfsL (hM t) q' (x + 1) am)) → EXQ π (hM t) l0 r0 z' q' x w' k → pc (m_x10_tree_v2_L82 (m_x10_tree_v2_L30 n) m z' (x : Int) ((hM t).2.1 b) (k : Int) S') (fun o => ∃ (q : Nat → Nat) (w : Nat), ((gI o.2 501 = (w : Int) ∧ w ≤ 48 ∧ ∀ k, k ≠ 26 → gA o.2 k = gA s k) ∧ (∀ j, j < w → gA o.2 26 j = (π (q j) : Int) ∧ q j < 48 ∧ LV t (q j)) ∧ LF = plL (hM t) q w) ∧ EXQ π (hM t) l0 r0 o.1 q w w 0) := by
    refine fr_ind (fun _ _ _ _ _ _ _ _ _ _ _ _ _ _ _ _ => pc_none) (fun m ih2 z' k S' q' w' hi hk hS hq' hw' hx' hl1 hl2 hW' hLF' hE' => ?_)
    show pc (m_x10_tree_v2_b82 (m_x10_tree_v2_L30 n) (m_x10_tree_v2_L82 (m_x10_tree_v2_L30 n) m) z' (x : Int) ((hM t).2.1 b) (k : Int) S') _
    unfold m_x10_tree_v2_b82 m_x10_tree_v2_J155 m_x8_slot
    have wl := WK_le hW'
    rw [hS.1]
    refine pc_rg (pc_rg (pc_if (fun c => ?_) (fun c => pc_rg (pc_if (fun c2 => ?_) (fun c2 => pc_rdI (fun _ => pc_bn (fun r21 e21 => pc_rdI (fun _ => pc_inb (pc_stn (fun s24 e24 => pc_rdI (fun _ => pc_stn (fun s26 e26 => ?_))))))))))))
    · rw [show (x : Int) + 1 = ((x + 1 : Nat) : Int) by omega]
      refine NEXT z' S' q' w' ⟨hS, hq', ⟨by omega, hw'.1⟩, ⟨hl1, hl2⟩, by omega, WK_P hW' (fun y _ => ?_), ?_⟩ (EXQ_next hE' (fun _ => by rw [hx' x (by omega), ← hb]; omega))
      · show (0 : Int) = enf (hM t) b (k : Int) (y : Int)
        rw [enf_end (by omega)]
      · rw [show ((hM t).2.1 b).toNat - k = 0 by omega] at hLF'
        rw [show a - (x + 1) = am by omega]
        exact hLF'
    · exfalso
      -- one more would wait
      have kid := Kb.2 (by omega) k (by omega)
      have es := fun y : Nat => enf_step (h := hM t) (p := b) (k := k) (x := (y : Int)) (by omega) (by omega) (by omega)
      have PW := WK_push (y := (hM t).2.2 b k) hW' kid.1 (Pd' := fun y => enf (hM t) b ((k : Int) + 1) (y : Int)) (fun y _ => es y) (fun y _ => enf_nn _ _ _ _)
      have wl2 := WK_le PW
      omega
    · cases e21
      have kid := Kb.2 (by omega) k (by omega)
      have kidN := Kb.1.1.2.2 (by omega) k (by omega)
      have es := fun y : Nat => enf_step (h := hM t) (p := b) (k := k) (x := (y : Int)) (by omega) (by omega) (by omega)
      have PW := WK_push (y := (hM t).2.2 b k) hW' kid.1 (Pd' := fun y => enf (hM t) b ((k : Int) + 1) (y : Int)) (fun y _ => es y) (fun y _ => enf_nn _ _ _ _)
      obtain ⟨y, hy⟩ : ∃ y, y = ((hM t).2.2 b k).toNat := ⟨_, rfl⟩
      have yv : (hM t).2.2 b k = (y : Int) := by omega
      have x22 : gA S' 26 x = (π b : Int) := by
        have g := (hq' x (by omega)).1
        rw [hx' x (by omega), ← hb] at g
        exact g
      have v59 : gA S' 59 (6 * π b + k) = (π y : Int) := by
        have g := (Bb.2.2 k (by omega)).2.1 (by omega)
        have g' : gA s 59 (6 * π b + k) = (π ((hM t).2.2 b k).toNat : Int) := g
        rw [hS.2 59 (by decide), g', hy]
      rw [Int.toNat_natCast, x22, show ((π b : Int) * 6 + (k : Int)).toNat = 6 * π b + k by omega, v59, Int.toNat_natCast] at e24
      rw [show (k : Int) + 1 = ((k + 1 : Nat) : Int) by omega]
      have u22 : gA s26 26 = upZ (gA S' 26) w' (π y : Int) := (q_Ia e26 : gA s26 26 = gA s24 26).trans (q_AA e24)
      have i421 : gI s26 501 = ((w' + 1 : Nat) : Int) := by
        rw [(q_II e26 : gI s26 501 = _), (q_Ai e24 : gI s24 501 = gI S' 501), hS.1]
        omega
      have qn : ∀ j, j ≠ w' → (fun j => if j = w' then y else q' j) j = q' j := fun j hj => if_neg hj
      have qe : (fun j => if j = w' then y else q' j) w' = y := if_pos rfl
      have PW' : WK (hM t) (upZ M b 0) (fun j => (((fun j => if j = w' then y else q' j) (x + 1 + j) : Nat) : Int)) (w' + 1 - (x + 1)) (fun y => enf (hM t) b (((k + 1 : Nat) : Int)) (y : Int)) := by
        rw [show w' + 1 - (x + 1) = w' - (x + 1) + 1 by omega, show ((k + 1 : Nat) : Int) = (k : Int) + 1 by omega]
        refine WK_st PW (fun j hj => ?_)
        show (((if x + 1 + j = w' then y else q' (x + 1 + j)) : Nat) : Int) = upZ (fun j => ((q' (x + 1 + j) : Nat) : Int)) (w' - (x + 1)) ((hM t).2.2 b k) j
        by_cases z : j = w' - (x + 1)
        · rw [z, upZ_s, if_pos (by omega), yv]
        · rw [upZ_n z, if_neg (by omega)]
      have qx : q' x = b := by rw [hx' x (by omega), hb]
      have y25 : gA s24 26 (gI s24 501).toNat = (π y : Int) := by
        rw [(q_AA e24 : gA s24 26 = _), (q_Ai e24 : gI s24 501 = gI S' 501), hS.1, upZ_s]
      have HEy := EXQ_push hE' (hπ y (by omega)) (by omega) (by rw [qx]; exact hy) (by
        have g := nd_kid hK l0 r0 (q' x) k hr0 lr0 hl0 (hE'.2.1 x (by omega)) (by rw [qx]; omega) (by rw [qx]; omega)
        rw [qx, ← hy] at g
        exact g)
      rw [← y25] at HEy
      refine ih2 _ (k + 1) s26 (fun j => if j = w' then y else q' j) (w' + 1) hi (by omega) ⟨i421, fun k2 hk2 => (q_Ia e26).trans ((q_Aa e24 hk2).trans (hS.2 k2 hk2))⟩ (fun j hj => ?_) (by omega) (fun j hj => by rw [qn j (by omega)]; exact hx' j hj) (fun j j1 j2 => by rw [qn j (by omega)]; exact hl1 j j1 j2) (fun j j1 j2 => ?_) PW' ?_ HEy
      · rw [u22]
        by_cases z : j = w'
        · rw [z, upZ_s, qe]
          exact ⟨rfl, by omega, by rw [hy]; exact kid.2⟩
        · rw [upZ_n z, qn j z]
          exact hq' j (by omega)
      · by_cases z : j = w'
        · rw [z, qe, hy]; omega
        · rw [qn j z]; exact hl2 j j1 (by omega)
      · have A1 : plL (hM t) (fun j => if j = w' then y else q' j) (x + 1) = plL (hM t) q' (x + 1) := plL_c (x + 1) (fun j hj => qn j (by omega))
        have A2 : lfsL (hM t) (fun j => if j = w' then y else q' j) (x + 1) am = lfsL (hM t) q' (x + 1) am := lfsL_c am (fun j j1 j2 => qn j (by omega))
        have A3 : lfsL (hM t) (fun j => if j = w' then y else q' j) a (w' + 1 - a) = lfsL (hM t) q' a (w' - a) ++ lfL (hM t) (i - 1).toNat ((hM t).2.2 b k).toNat := by
          rw [show w' + 1 - a = (w' - a) + 1 by omega]
          show lfsL (hM t) (fun j => if j = w' then y else q' j) a (w' - a) ++ lfL (hM t) ((hM t).1 ((fun j => if j = w' then y else q' j) (a + (w' - a)))).toNat ((fun j => if j = w' then y else q' j) (a + (w' - a))) = _
          rw [lfsL_c (w' - a) (fun j j1 j2 => qn j (by omega)), show a + (w' - a) = w' by omega, qe, ← hy]
          have ly : (hM t).1 y = i - 1 := by rw [hy]; omega
          rw [ly]
        have A4 : cfL (fun k => lfL (hM t) (i - 1).toNat ((hM t).2.2 b k).toNat) k (((hM t).2.1 b).toNat - k) = lfL (hM t) (i - 1).toNat ((hM t).2.2 b k).toNat ++ cfL (fun k => lfL (hM t) (i - 1).toNat ((hM t).2.2 b k).toNat) (k + 1) (((hM t).2.1 b).toNat - (k + 1)) := by
          rw [show ((hM t).2.1 b).toNat - k = (((hM t).2.1 b).toNat - (k + 1)) + 1 by omega]
          rfl
        rw [A1, A2, A3, hLF', A4]
        simp only [List.append_assoc]
  refine pc_rg (pc_if (fun c3 => ?_) (fun c3 => pc_rdI (fun _ => ?_)))
  · -- a leaf
    have wa : w = a := by
      by_cases y : a < w
      · have l1 := hl.2 a (Nat.le_refl a) y
        have l2 := (hK.2.1 (q a) (hq a y).2.1 (hq a y).2.2).1.1.1
        omega
      · omega
    have STEP : ∀ m : Nat, pc (m_x10_tree_v2_L82 (m_x10_tree_v2_L30 n) m z (x : Int) 0 0 S) (fun o => ∃ (q : Nat → Nat) (w : Nat), ((gI o.2 501 = (w : Int) ∧ w ≤ 48 ∧ ∀ k, k ≠ 26 → gA o.2 k = gA s k) ∧ (∀ j, j < w → gA o.2 26 j = (π (q j) : Int) ∧ q j < 48 ∧ LV t (q j)) ∧ LF = plL (hM t) q w) ∧ EXQ π (hM t) l0 r0 o.1 q w w 0) := fun m => by
      cases m with
      | zero => exact pc_none
      | succ m =>
        show pc (m_x10_tree_v2_b82 (m_x10_tree_v2_L30 n) (m_x10_tree_v2_L82 (m_x10_tree_v2_L30 n) m) z (x : Int) 0 0 S) _
        unfold m_x10_tree_v2_b82 m_x10_tree_v2_J155
        refine pc_rg (pc_rg (pc_if (fun _ => ?_) (fun c => absurd (Int.le_refl 0) c)))
        rw [show (x : Int) + 1 = ((x + 1 : Nat) : Int) by omega]
        refine NEXT z S q w ⟨⟨h421, hA⟩, hq, ⟨by omega, ha.2⟩, ⟨fun j j1 j2 => hl.1 j (by omega) j2, hl.2⟩, by omega, ?_, ?_⟩ (EXQ_next HE (fun u => by rw [← hb] at u; omega))
        · rw [show w - (x + 1) = wm by omega]
          refine WK_P W1' (fun y _ => ?_)
          show (0 : Int) = en (hM t) b (y : Int)
          rw [en_leaf (by omega)]
        · rw [hLF, LFx, wa, show a - a = 0 by omega, show a - (x + 1) = am by omega]
          have l0 : ((hM t).1 b).toNat = 0 := by omega
          rw [l0]
          show plL (hM t) q x ++ ([] ++ ([b] ++ lfsL (hM t) q (x + 1) am)) = (plL (hM t) q x ++ (if (hM t).1 (q x) ≤ 0 then [q x] else [])) ++ ([] ++ lfsL (hM t) q (x + 1) am)
          rw [← hb, if_pos c3, List.nil_append, List.nil_append, List.append_assoc]
    exact STEP FU
  · rw [Int.toNat_natCast]
    try rw [e22, tp, f57]
    have i0 : 0 < i := by omega
    refine L82 FU z 0 S q w i0 (by omega) ⟨h421, hA⟩ hq ⟨ha.2, by omega⟩ (fun _ _ => rfl) (fun j j1 j2 => hl.1 j (by omega) j2) hl.2 ?_ ?_ HE
    · rw [show w - (x + 1) = wm by omega]
      exact W1'
    · rw [hLF, LFx]
      have e1 : ((hM t).1 b).toNat = (i - 1).toNat + 1 := by omega
      have e2 : lfL (hM t) ((hM t).1 b).toNat b = cfL (fun k => lfL (hM t) (i - 1).toNat ((hM t).2.2 b k).toNat) 0 (((hM t).2.1 b).toNat - 0) := by
        rw [e1]
        exact catL_0 _ _
      have e3 : plL (hM t) q (x + 1) = plL (hM t) q x := by
        show plL (hM t) q x ++ (if (hM t).1 (q x) ≤ 0 then [q x] else []) = plL (hM t) q x
        rw [← hb, if_neg c3, List.append_nil]
      rw [e2, e3]
/- the class's walk: its queue, its marks -/
set_option maxHeartbeats 250000 in theorem s_treeR2 {π σ : Nat → Nat} {N : Int} {s t : MS} {r1 r2 : Int} (hB : ∀ y, y < 48 → LV t y → BR1 π (hN s) (hM t) (kN s) (kM t) y) (hp : PNM π σ N) (hK : KLV t) (hr : rtr π r1 r2) (hl : 0 ≤ r2 → r2 < 48 → LV t r2.toNat ∧ ∃ mu, MV (hM t) mu r2 (fun _ => 0)) : pc (m_x10_tree_v2 r1 s) (fun o => (∃ (q : Nat → Nat) (w : Nat), (gI o.2 501 = (w : Int) ∧ w ≤ 48 ∧ ∀ k, k ≠ 26 → gA o.2 k = gA s k) ∧ (∀ j, j < w → gA o.2 26 j = (π (q j) : Int) ∧ q j < 48 ∧ LV t (q j)) ∧ LFr t r2 = plL (hM t) q w) ∧ (∃ n : Nat, n < 281474976710656 ∧ o.1 = (n : Int)) ∧ ∀ y, y < 48 → (bW o.1 (π y) ↔ (r2 < 254 ∧ ndP (hM t) ((hM t).1 r2.toNat).toNat r2.toNat y))) := by
  unfold m_x10_tree_v2
  refine pc_stn (fun s42 e42 => pc_rg (pc_if (fun c => pc_inb (pc_stn (fun s46 e46 => pc_stn (fun s47 e47 => ?_)))) (fun c => pc_some ?_)))
  · rcases hr with ⟨a, b⟩ | ⟨a, b⟩ | ⟨a, b, c1⟩
    · exfalso; omega
    · exfalso; omega
    · obtain ⟨y, hy⟩ : ∃ y : Nat, r2 = (y : Int) := ⟨r2.toNat, by omega⟩
      have ty : ((y : Nat) : Int).toNat = y := Int.toNat_natCast _
      obtain ⟨ly, mu, hmu⟩ := hl a b
      rw [hy, ty] at c1 ly
      rw [hy] at hmu
      have y48 : y < 48 := by omega
      have u22 : gA s47 26 = upZ (gA s42 26) 0 r1 := (q_Ia e47 : gA s47 26 = gA s46 26).trans (q_AA e46)
      have W := WK_0 (st := fun _ => (y : Int)) hmu ⟨by omega, by omega⟩
      have pb := pos_b mu
      have l0 := (hK.2.1 y y48 ly).1.1.1
      have p48 := (hp y y48).1.1
      have e1 : (hM t).1 y = (((hM t).1 y).toNat : Int) := by omega
      have E0 : EXQ π (hM t) ((hM t).1 y).toNat y (shlLZ 1 r1) (fun _ => y) 0 1 0 := by
        refine ⟨⟨by rw [c1]; exact shl_n p48, fun u hu => ?_⟩, fun j _ => nd_self _ _ _, ⟨⟨0, by omega, rfl⟩, fun j hj => absurd hj (by omega)⟩, fun i hi => absurd hi (by omega)⟩
        rw [c1, bW_shl p48 hu]
        exact ⟨fun e => ⟨0, by omega, e.symm⟩, fun ⟨_, _, e⟩ => e.symm⟩
      refine pc_mono (s_treeL2 hB (fun u hu => (hp u hu).1.1) hK (LF := LFr t r2) y48 ly e1 FU _ 0 s47 (fun _ => y) 1 1 ((hM t).1 y) mu ⟨⟨(q_II e47 : gI s47 501 = 1), fun k hk => (q_Ia e47).trans ((q_Aa e46 hk).trans (q_Ia e42))⟩, fun j hj => ?_, by omega, ⟨fun j _ _ => rfl, fun j j1 j2 => absurd j1 (by omega)⟩, by omega, WK_st W (fun j hj => ?_), ?_⟩ E0 (Or.inl (by omega))) (fun o ho => ?_)
      · rw [u22, show j = 0 by omega, upZ_s, c1]
        exact ⟨rfl, y48, ly⟩
      · rw [show j = 0 by omega, upZ_s]
      · unfold LFr
        rw [if_pos (by omega), hy, ty]
        show lfL (hM t) ((hM t).1 y).toNat y = [] ++ ([] ++ ([] ++ lfL (hM t) ((hM t).1 y).toNat y))
        rw [List.nil_append, List.nil_append, List.nil_append]
      · obtain ⟨q, w, ⟨h1, h2, h3⟩, ⟨⟨n, hn, hz⟩, hb⟩, hnd, ⟨hroot, hcl⟩, _⟩ := ho
        refine ⟨⟨q, w, h1, h2, h3⟩, ⟨n, hn, hz⟩, fun u hu => ?_⟩
        rw [hy, ty, hb _ (hp u hu).1.1]
        constructor
        · rintro ⟨j, hj, e⟩
          have eu : q j = u := by
            have g := congrArg σ e
            rw [(hp (q j) (h2 j hj).2.1).2.1.1, (hp u hu).2.1.1] at g
            exact g
          refine ⟨by omega, ?_⟩
          rw [← eu]; exact hnd j hj
        · rintro ⟨_, h⟩
          obtain ⟨j, hj, e⟩ := nd_all hK (Q := fun b => ∃ j, j < w ∧ q j = b) (fun b _ _ hQ h0 k hk => by
            obtain ⟨j, hj, e⟩ := hQ
            rw [← e] at h0 hk ⊢
            exact hcl j hj h0 k hk) ((hM t).1 y).toNat y u y48 ly e1 hroot h
          exact ⟨j, hj, by rw [e]⟩
  · have big : ¬ r2 < 254 := by
      rcases hr with ⟨a, b⟩ | ⟨a, b⟩ | ⟨a, b, c1⟩
      · omega
      · omega
      · exfalso; omega
    refine ⟨⟨fun _ => 0, 0, ⟨q_II e42, by decide, fun k _ => q_Ia e42⟩, fun j hj => absurd hj (by omega), ?_⟩, ⟨0, by decide, rfl⟩, fun u hu => ⟨fun h => absurd h (bW_0 (hp u hu).1.1), fun h => absurd h.1 big⟩⟩
    unfold LFr
    rw [if_neg big]
    rfl
/- the class's rows of a tree's entries -/
set_option maxHeartbeats 250000 in theorem s_gatherL2 {π σ : Nat → Nat} {N : Int} {s t : MS} {r1 r2 : Int} (hB : ∀ y, y < 48 → LV t y → BR1 π (hN s) (hM t) (kN s) (kM t) y) (hp : PNM π σ N) (hK : KLV t) (hr : rtr π r1 r2) (hl : 0 ≤ r2 → r2 < 48 → LV t r2.toNat ∧ ∃ mu, MV (hM t) mu r2 (fun _ => 0)) : pc (m_x10_gather_v2 r1 s) (fun q => ORe (gA q.2 27) (gA q.2 28) q.1 (wrL (hM t) (kM t) (LFr t r2)) ∧ q.1 ≤ 288) := by
  unfold m_x10_gather_v2
  refine pc_bq (s_treeR2 hB hp hK hr hl) (fun o ho => ?_)
  obtain ⟨⟨q, w, ⟨h421, w48, hA⟩, hq, hLF⟩, _⟩ := ho
  rw [hLF]
  have L12 : ∀ (n x : Nat) (c : Int) (S : MS), x ≤ w → gI S 501 = (w : Int) → (∀ k, k ≠ 27 → k ≠ 28 → gA S k = gA o.2 k) → (c ≤ 6 * (x : Int)) → ORe (gA S 27) (gA S 28) c (wrL (hM t) (kM t) (plL (hM t) q x)) → pc (m_x10_gather_v2_L12 n c (x : Int) S) (fun q' => ORe (gA q'.2 27) (gA q'.2 28) q'.1 (wrL (hM t) (kM t) (plL (hM t) q w)) ∧ q'.1 ≤ 288) := by
    refine fr_ind (fun _ _ _ _ _ _ _ _ => pc_none) (fun n ih x c S hx h421' hA' hc hOR => ?_)
    show pc (m_x10_gather_v2_b12 (m_x10_gather_v2_L12 n) c (x : Int) S) _
    unfold m_x10_gather_v2_b12 m_x10_gather_v2_J52
    rw [h421']
    refine pc_rg (pc_rg (pc_if (fun c1 => pc_some ?_) (fun c1 => pc_rdI (fun _ => pc_rdI (fun _ => ?_)))))
    · rw [show w = x by omega]
      exact ⟨hOR, show c ≤ 288 by omega⟩
    obtain ⟨e22, b48, lb⟩ := hq x (by omega)
    obtain ⟨b, hb⟩ : ∃ b, b = q x := ⟨_, rfl⟩
    rw [← hb] at e22 b48 lb
    have tp : ((π b : Nat) : Int).toNat = π b := Int.toNat_natCast _
    have Bb := hB b b48 lb
    have Kb := hK.2.1 b b48 lb
    have sz := Kb.1.1.2.1
    have lv0 := Kb.1.1.1
    have k22 : gA S 26 x = (π b : Int) := by rw [hA' 26 (by decide) (by decide)]; exact e22
    have f56 : gA S 56 (π b) = (hM t).1 b := by rw [hA' 56 (by decide) (by decide), hA 56 (by decide)]; exact Bb.1
    have f57 : gA S 57 (π b) = (hM t).2.1 b := by rw [hA' 57 (by decide) (by decide), hA 57 (by decide)]; exact Bb.2.1
    rw [Int.toNat_natCast, k22, tp, f56, f57]
    have L57 : ∀ (m k : Nat) (z : Int) (c' : Int) (X : MS), (z = 0 ∧ k = 0 ∧ ¬ (hM t).1 b ≤ 0) ∨ (z = (hM t).2.1 b ∧ (k : Int) ≤ z ∧ (hM t).1 b ≤ 0) → gI X 501 = (w : Int) → (∀ k, k ≠ 27 → k ≠ 28 → gA X k = gA o.2 k) → c' ≤ 6 * (x : Int) + (k : Int) → ORe (gA X 27) (gA X 28) c' (wrL (hM t) (kM t) (plL (hM t) q x) ++ esL (hM t) (kM t) b k) → pc (m_x10_gather_v2_L57 (m_x10_gather_v2_L12 n) m c' (x : Int) z (k : Int) X) (fun q' => ORe (gA q'.2 27) (gA q'.2 28) q'.1 (wrL (hM t) (kM t) (plL (hM t) q w)) ∧ q'.1 ≤ 288) := by
      refine fr_ind (fun _ _ _ _ _ _ _ _ _ => pc_none) (fun m ih2 k z c' X hz x421 xA hc' xOR => ?_)
      show pc (m_x10_gather_v2_b57 (m_x10_gather_v2_L12 n) (m_x10_gather_v2_L57 (m_x10_gather_v2_L12 n) m) c' (x : Int) z (k : Int) X) _
      unfold m_x10_gather_v2_b57 m_x10_gather_v2_J128 m_x8_slot
      refine pc_rg (pc_rg (pc_if (fun c2 => ?_) (fun c2 => pc_rg (pc_if (fun c3 => absurd c3 (by omega)) (fun c3 => pc_rdI (fun _ => pc_bn (fun r19 e19 => pc_rdI (fun _ => pc_inb (pc_stn (fun s22 e22' => pc_rdI (fun _ => pc_bn (fun r25 e25 => pc_rdI (fun _ => pc_inb (pc_stn (fun s28 e28 => ?_)))))))))))))))
      · rw [show (x : Int) + 1 = ((x + 1 : Nat) : Int) by omega]
        refine ih (x + 1) c' X (by omega) x421 xA (by omega) ?_
        show ORe (gA X 27) (gA X 28) c' (wrL (hM t) (kM t) (plL (hM t) q x ++ (if (hM t).1 (q x) ≤ 0 then [q x] else [])))
        rw [← hb]
        rcases hz with ⟨z1, z2, z3⟩ | ⟨z1, z2, z3⟩
        · rw [if_neg z3, List.append_nil]
          rw [z2] at xOR
          have g : ORe (gA X 27) (gA X 28) c' (wrL (hM t) (kM t) (plL (hM t) q x) ++ []) := xOR
          rw [List.append_nil] at g
          exact g
        · rw [if_pos z3, wrL_app, wrL_1, show ((hM t).2.1 b).toNat = k by omega]
          exact xOR
      · rcases hz with ⟨z1, z2, z3⟩ | ⟨z1, z2, z3⟩
        · exfalso; omega
        cases e19
        cases e25
        have x22 : gA X 26 x = (π b : Int) := by rw [xA 26 (by decide) (by decide)]; exact e22
        have s22' : gA s22 26 x = (π b : Int) := by rw [(q_Aa e22' (by decide) : gA s22 26 = gA X 26)]; exact x22
        have ix : ((π b : Int) * 6 + (k : Int)).toNat = 6 * π b + k := by omega
        have v58 : gA X 58 (6 * π b + k) = kM t b k := by
          rw [xA 58 (by decide) (by decide), hA 58 (by decide)]
          exact (Bb.2.2 k (by omega)).1
        have v59 : gA s22 59 (6 * π b + k) = (hM t).2.2 b k := by
          rw [(q_Aa e22' (by decide) : gA s22 59 = gA X 59), xA 59 (by decide) (by decide), hA 59 (by decide)]
          exact (Bb.2.2 k (by omega)).2.2 z3
        rw [Int.toNat_natCast, x22, ix, v58] at e22'
        rw [Int.toNat_natCast, s22', ix, v59] at e28
        have u23 : gA s28 27 = upZ (gA X 27) c'.toNat (kM t b k) := (q_Aa e28 (by decide) : gA s28 27 = gA s22 27).trans (q_AA e22')
        have u24 : gA s28 28 = upZ (gA X 28) c'.toNat ((hM t).2.2 b k) := by
          rw [(q_AA e28 : gA s28 28 = _), (q_Aa e22' (by decide) : gA s22 28 = gA X 28)]
        have A := ORe_add (k := kM t b k) (v := (hM t).2.2 b k) xOR
        rw [← u23, ← u24, List.append_assoc] at A
        rw [show (k : Int) + 1 = ((k + 1 : Nat) : Int) by omega]
        exact ih2 (k + 1) z (c' + 1) s28 (Or.inr ⟨z1, by omega, z3⟩) (((q_Ai e28 : gI s28 501 = gI s22 501).trans (q_Ai e22')).trans x421) (fun k2 h1 h2 => ((q_Aa e28 h2).trans (q_Aa e22' h1)).trans (xA k2 h1 h2)) (by omega) A
    have st0 : ORe (gA S 27) (gA S 28) c (wrL (hM t) (kM t) (plL (hM t) q x) ++ esL (hM t) (kM t) b 0) := by
      show ORe (gA S 27) (gA S 28) c (wrL (hM t) (kM t) (plL (hM t) q x) ++ [])
      rw [List.append_nil]; exact hOR
    refine pc_rg (pc_if (fun c2 => pc_rdI (fun _ => ?_)) (fun c2 => L57 FU 0 0 c S (Or.inl ⟨rfl, rfl, by omega⟩) h421' hA' (by omega) st0))
    refine pc_rdI (fun _ => ?_)
    try rw [Int.toNat_natCast, k22, tp, f57]
    exact L57 FU 0 ((hM t).2.1 b) c S (Or.inr ⟨rfl, by omega, by omega⟩) h421' hA' (by omega) st0
  exact L12 FU 0 0 o.2 (Nat.zero_le w) h421 (fun _ _ _ => rfl) (by decide) (ORe_0 _ _)
/-! ===== a VOLUME's entries: key, total ===== -/
set_option maxHeartbeats 250000 in theorem ORe_two {a b a' b' : Nat → Int} {n n' : Int} {L : List (Int × Int)} (h : ORe a b n L) (h' : ORe a' b' n' L) : n = n' ∧ ∀ i : Nat, (i : Int) < n → a i = a' i ∧ b i = b' i := by
  refine ⟨h.1.trans h'.1.symm, fun i hi => ?_⟩
  have l := h.1
  have e := (h.2 i (by omega)).symm.trans (h'.2 i (by omega))
  exact ⟨(Prod.mk.inj e).1, (Prod.mk.inj e).2⟩
set_option maxHeartbeats 250000 in theorem y_gath {s t : MS} {ts : List MS} {v : Nat} (hJ : JI t) (B : BT s ts t) (h47 : gI t 47 = gI s 12) (z : gI s 12 ≠ 0) (hv : v < 8) (hn : gA t 49 v ≠ 255) : pc (m_x10_gather (gA s 60 v) s) (fun q => pc (m_x12_laysTree (gA t 49 v) t) (fun o => q.1 = gI o 67 ∧ ∀ i : Nat, (i : Int) < q.1 → gA q.2 23 i = gA o 64 i ∧ gA q.2 24 i = gA o 65 i)) := by
  obtain ⟨π, σ, lo, hi, H, O, N, G, hK, _⟩ := BT_T hJ B h47 z
  have r := GA_rt G hv hn
  have lv : 0 ≤ gA t 49 v → gA t 49 v < 48 → LV t (gA t 49 v).toNat ∧ ∃ mu, MV (hM t) mu (gA t 49 v) (fun _ => 0) := fun a b => by
    obtain ⟨mu, h1, _⟩ := RT_tree (u := v) G.1.1.1 (by omega) a (by omega)
    exact ⟨hK.2.2 v (by omega) a b, mu, h1⟩
  have rr : rtr π (gA s 60 v) (gA t 49 v) := (H.2.2.2 v hv).1
  refine pc_mono (s_gatherL (fun y hy l => H.2.2.1 y hy l) H.1 hK rr lv) (fun q hq => pc_mono (m_treeL hK (fun c => ?_)) (fun o ho => ORe_two hq.1 ho))
  have b48 : gA t 49 v < 48 := by
    rcases rr with ⟨a, _⟩ | ⟨a, _⟩ | ⟨_, a, _⟩ <;> omega
  have a0 : 0 ≤ gA t 49 v := by omega
  exact ⟨⟨a0, b48⟩, (lv a0 b48).1⟩
/- KEY -/
set_option maxHeartbeats 250000 in theorem y_key {x t : MS} {ts : List MS} {p0 p1 : Int} (hC : CI x ts) (hJ : JI t) (B : BT x ts t) (h47 : gI t 47 = gI x 12) : pc (m_x11_key p0 p1 x) (fun q => pc (m_x12_key p0 p1 t) (fun o => q.1 = o.1)) := by
  have V := BT_V B hC h47
  unfold m_x11_key m_x11_key_J38
  refine pc_bn (fun r3 e3 => pc_rg (pc_if (fun c => pc_some ?_) (fun c => ?_)))
  · unfold m_x12_key m_x12_key_J47
    exact pc_rg (pc_bn (fun r4 e4 => pc_rg (pc_if (fun _ => pc_some rfl) (fun d => absurd ((y_isVol V e3 e4).1.symm.trans c) d))))
  have v0 := isVol_y e3 c
  obtain ⟨v, hv⟩ : ∃ v : Nat, p0 = (v : Int) := ⟨p0.toNat, by omega⟩
  have tv : p0.toNat = v := by omega
  rw [tv] at v0
  have v8 : v < 8 := by omega
  have ht := CI_told hC v8 v0.2
  have n255 : gA t 49 v ≠ 255 := fun z => v0.2 ((V v v8).2 (Or.inr z))
  -- the reference
  have REF : ∀ Q : Int × MS → Prop, (∀ o : MS, m_x12_laysTree (gA t 49 v) t = some o → (¬ (0 ≤ p1 ∧ p1 < gI o 67) → Q (-1, o)) ∧ (0 ≤ p1 ∧ p1 < gI o 67 → Q (gA o 64 p1.toNat, o))) → pc (m_x12_key p0 p1 t) Q := fun Q K => by
    unfold m_x12_key m_x12_key_J47
    refine pc_rg (pc_bn (fun r4 e4 => pc_rg (pc_if (fun d => absurd ((y_isVol V e3 e4).1.trans d) c) (fun _ => pc_rdI (fun _ => ?_)))))
    rw [tv]
    refine pc_bn (fun s10 e10 => pc_rg (pc_rg (pc_bn (fun r14 e14 => pc_rg (pc_if (fun c2 => pc_some ((K s10 e10).1 ?_)) (fun c2 => pc_rdI (fun _ => pc_some ((K s10 e10).2 ?_))))))))
    · rcases m_isIn r14 e14 with ⟨a, _⟩ | ⟨_, b⟩
      · exact absurd c2 (by omega)
      · exact fun w => b ⟨w.1, by omega⟩
    · rcases m_isIn r14 e14 with ⟨_, a⟩ | ⟨a, _⟩
      · exact ⟨a.1, by omega⟩
      · exact absurd a c2
  have Y := y_gath hJ B h47 ht v8 n255
  refine pc_rg (pc_if (fun c1 => pc_some (REF _ (fun o _ => ⟨fun _ => rfl, fun w => absurd c1 (by omega)⟩))) (fun c1 => pc_rdI (fun _ => ?_)))
  rw [tv]
  refine pc_bq Y (fun q11 h11 => pc_rg (pc_rg (pc_if (fun c2 => pc_rdI (fun _ => pc_some (REF _ (fun o eo => ⟨fun w => ?_, fun w => ?_⟩)))) (fun c2 => pc_some (REF _ (fun o eo => ⟨fun _ => rfl, fun w => ?_⟩))))))
  · have g := h11 o eo
    exact absurd ⟨by omega, by omega⟩ w
  · have g := h11 o eo
    exact (g.2 p1.toNat (by omega)).1
  · have g := h11 o eo
    exfalso; omega
/- TOTAL -/
set_option maxHeartbeats 250000 in theorem y_total {x t : MS} {ts : List MS} {p0 p1 p2 : Int} (hC : CI x ts) (hJ : JI t) (B : BT x ts t) (h47 : gI t 47 = gI x 12) : pc (m_x11_total p0 p1 p2 x) (fun q => pc (m_x12_total p0 p1 p2 t) (fun o => q.1 = o.1)) := by
  have V := BT_V B hC h47
  unfold m_x11_total
  refine pc_bn (fun r3 e3 => pc_rg (pc_if (fun c => pc_some ?_) (fun c => pc_rdI (fun _ => ?_))))
  · unfold m_x12_total
    exact pc_rg (pc_bn (fun r4 e4 => pc_rg (pc_if (fun _ => pc_some rfl) (fun d => absurd ((y_isVol V e3 e4).1.symm.trans c) d))))
  have v0 := isVol_y e3 c
  obtain ⟨v, hv⟩ : ∃ v : Nat, p0 = (v : Int) := ⟨p0.toNat, by omega⟩
  have tv : p0.toNat = v := by omega
  rw [tv] at v0 ⊢
  have v8 : v < 8 := by omega
  have ht := CI_told hC v8 v0.2
  have n255 : gA t 49 v ≠ 255 := fun z => v0.2 ((V v v8).2 (Or.inr z))
  refine pc_bq (y_gath hJ B h47 ht v8 n255) (fun q32 h32 => ?_)
  have LL : ∀ (o : MS), (q32.1 = gI o 67 ∧ ∀ i : Nat, (i : Int) < q32.1 → gA q32.2 23 i = gA o 64 i ∧ gA q32.2 24 i = gA o 65 i) → ∀ (n m : Nat) (a i : Int), 0 ≤ i → pc (m_x11_total_L44 n p1 p2 q32.1 a i q32.2) (fun q => pc (m_x12_total_L27 m p1 p2 a i o) (fun u => q.1 = u.1)) := fun o ho => by
    refine fr_ind (fun _ _ _ _ => pc_none) (fun n ih m a i hi => ?_)
    cases m with
    | zero => exact fun q _ => pc_none
    | succ m =>
      have REF : ∀ Q : Int × MS → Prop, (gI o 67 ≤ i → Q (a, o)) → (¬ gI o 67 ≤ i → ((p1 ≤ gA o 64 i.toNat ∧ gA o 64 i.toNat ≤ p2) → pc (m_x12_total_L27 m p1 p2 (a + gA o 65 i.toNat) (i + 1) o) Q) ∧ (¬ (p1 ≤ gA o 64 i.toNat ∧ gA o 64 i.toNat ≤ p2) → pc (m_x12_total_L27 m p1 p2 a (i + 1) o) Q)) → pc (m_x12_total_L27 (m + 1) p1 p2 a i o) Q := fun Q k1 k2 => by
        show pc (m_x12_total_b27 (m_x12_total_L27 m) p1 p2 a i o) Q
        unfold m_x12_total_b27 m_x12_total_J66
        refine pc_rg (pc_rg (pc_if (fun d => pc_some (k1 d)) (fun d => pc_rdI (fun _ => pc_rg (pc_rg (pc_rg (pc_bn (fun r19 e19 => pc_rg (pc_if (fun c2 => ?_) (fun c2 => pc_rdI (fun _ => ?_)))))))))))
        · rcases m_isIn r19 e19 with ⟨u, _⟩ | ⟨_, b⟩
          · exact absurd c2 (by omega)
          · exact (k2 d).2 b
        · rcases m_isIn r19 e19 with ⟨_, u⟩ | ⟨u, _⟩
          · exact (k2 d).1 u
          · exact absurd u c2
      show pc (m_x11_total_b44 (m_x11_total_L44 n) p1 p2 q32.1 a i q32.2) _
      unfold m_x11_total_b44 m_x11_total_J94
      refine pc_rg (pc_rg (pc_if (fun d => pc_some (REF _ (fun _ => rfl) (fun w => absurd (by have := ho.1; omega) w))) (fun d => pc_rdI (fun _ => pc_rg (pc_rg (pc_if (fun c1 => fun q eq => REF _ (fun w => absurd w (by have := ho.1; omega)) (fun _ => ⟨fun w => ?_, fun _ => ih m a (i + 1) (by omega) q eq⟩)) (fun c1 => pc_rdI (fun _ => pc_rg (pc_rg (pc_if (fun c2 => fun q eq => REF _ (fun w => absurd w (by have := ho.1; omega)) (fun _ => ⟨fun w => ?_, fun _ => ih m a (i + 1) (by omega) q eq⟩)) (fun c2 => pc_rdI (fun _ => fun q eq => REF _ (fun w => absurd w (by have := ho.1; omega)) (fun _ => ⟨fun _ => ?_, fun w => ?_⟩)))))))))))))
      · have g := (ho.2 i.toNat (by omega)).1
        exfalso; omega
      · have g := (ho.2 i.toNat (by omega)).1
        exfalso; omega
      · have g := (ho.2 i.toNat (by omega)).2
        rw [← g]
        exact ih m _ (i + 1) (by omega) q eq
      · have g := (ho.2 i.toNat (by omega)).1
        exact absurd ⟨by omega, by omega⟩ w
  intro q eq
  unfold m_x12_total
  refine pc_rg (pc_bn (fun r4 e4 => pc_rg (pc_if (fun d => absurd ((y_isVol V e3 e4).1.trans d) c) (fun _ => pc_rdI (fun _ => ?_)))))
  rw [tv]
  exact pc_bn (fun s30 e30 => LL s30 (h32 s30 e30) FU FU 0 0 (Int.le_refl 0) q eq)
