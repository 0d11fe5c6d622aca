/-! ===== tests on both sides ===== -/
def rTs (n : Nat) (q : Int × MS) : Option MS := rg q.1 (if q.1 = 0 then m_x12_qTest_J105 (m_x12_qTest_L2 n) q.2 else m_x12_qTest_J106 (m_x12_qTest_L2 n) 1 q.2)
def aftT (n : Nat) (s31 : MS) : Option MS := rg (gI s31 5) (if (gI s31 5) = 0 then bn (m_x12_qGoesOnTest s31) (fun q => rTs n q) else m_x12_qTest_J105 (m_x12_qTest_L2 n) s31)
def QTA (P : MS → Prop) : MS → Prop := fun s31 => ∀ n, pc (aftT n s31) P
def QTB (P : MS → Prop) : Int × MS → Prop := fun q => ∀ n, pc (rTs n q) P
def PTA (P : MS → Prop) (t : MS) : Prop := ∀ m, pc (m_x12_qTest_L2 m 1 t) P
def PTB (P : MS → Prop) (t : MS) : Prop := ∀ m, pc (m_x12_qGoesOnTest_L0 m t) (QTB P)
def PTE (P : MS → Prop) (t : MS) : Prop := (∀ k, pc (m_x12_qDropsNots_L0 k t) (QTA P)) ∧ (∀ m k, pc (m_x12_qDropsNots_L0 k t) (fun s55 => pc (m_x12_qGoesOnTest_L0 m s55) (QTB P)))
theorem fk_nots : ∀ (n : Nat) (t : MS), pc (m_x12_qDropsNots_L0 n t) (fun o => FKp 5 6 t o) := by
  refine fr_ind (fun _ => pc_none) (fun n ih t => ?_)
  show pc (m_x12_qDropsNots_b0 (m_x12_qDropsNots_L0 n) t) _
  unfold m_x12_qDropsNots_b0 m_x12_qDropsNots_J33
  refine pc_rg (pc_if (fun _ => pc_bn (fun r6 _ => pc_rg (pc_if (fun _ => pc_some (FKp.rf t)) (fun _ => pc_stn (fun s9 e9 => pc_bn (fun s11 e11 => ?_)))))) (fun _ => pc_some (FKp.rf t)))
  have f : FKp 5 6 t s11 := (FKp.i e9 (by decide) (by decide)).tr (FKp.of (fr_x12_qDrops e11) (by decide) (by decide))
  exact pc_mono (ih s11) (fun o ho => f.tr ho)
section TA1
variable {P : MS → Prop} {t : MS}
theorem L2_bad (n : Nat) (x : Int) (hP : ∀ o, FKp 5 6 t o → P o) : pc (m_x12_qTest_L2 n x t) P := pc_mono (fk_x12_qTest_L2 n x t (FKp.rf t)) hP
theorem QTA_PTB (h0 : gI t 5 = 0) (h : PTB P t) : QTA P t := fun n => by
  unfold aftT
  refine pc_rg (pc_if (fun _ => ?_) (fun c => absurd h0 c))
  show pc (bn (m_x12_qGoesOnTest_L0 FU t) (fun q => rTs n q)) P
  exact pc_bq (h FU) (fun q hq => hq n)
theorem QTA_bad (h0 : gI t 5 ≠ 0) (hP : ∀ o, FKp 5 6 t o → P o) : QTA P t := fun n => by
  unfold aftT
  exact pc_rg (pc_if (fun c => absurd c h0) (fun _ => L2_bad n 0 hP))
theorem QTB_bad {r : Int} (hP : ∀ o, FKp 5 6 t o → P o) : QTB P (r, t) := fun n => by
  unfold rTs
  exact pc_rg (pc_if (fun _ => L2_bad n 0 hP) (fun _ => L2_bad n 1 hP))
theorem PTA_bad (hP : ∀ o, FKp 5 6 t o → P o) : PTA P t := fun m => L2_bad m 1 hP
theorem PTB_bad (hP : ∀ o, FKp 5 6 t o → P o) : PTB P t := fun m => pc_mono (fk_x12_qGoesOnTest_L0 m t (FKp.rf t)) (fun o ho => by
  obtain ⟨r, o⟩ := o
  exact QTB_bad (fun u hu => hP u (FKp.tr ho hu)))
theorem PTE_bad (h0 : gI t 5 ≠ 0) (hP : ∀ o, FKp 5 6 t o → P o) : PTE P t := ⟨fun k => pc_mono (fk_nots k t) (fun o ho => QTA_bad (FKp_ne ho h0) (fun u hu => hP u (ho.tr hu))), fun m k => pc_mono (fk_nots k t) (fun o ho => PTB_bad (fun u hu => hP u (ho.tr hu)) m)⟩
theorem QTB_go (h : PTA P t) : QTB P (1, t) := fun n => by
  unfold rTs
  exact pc_rg (pc_if (fun c => absurd c (show ¬ (1 : Int) = 0 by decide)) (fun _ => h n))
end TA1
theorem SKr_c {f g : Nat → Int} {b : Int} (hb : 0 ≤ b) : ∀ {K : List Int} {h : Int}, SKr f b h K → (∀ j : Nat, (j : Int) < h → g j = f j) → SKr g b h K := by
  intro K
  induction K with
  | nil => intro h H _; exact H
  | cons k K ih =>
    intro h H e
    have h1 := H.1
    exact ⟨h1, by rw [e _ (by omega)]; exact H.2.1, ih H.2.2 (fun j hj => e j (by omega))⟩
theorem SKr_mem {f : Nat → Int} {v : Int} : ∀ {L : List Int} {h : Int}, SKr f 0 h L → (v ∈ L ↔ ∃ j : Nat, (j : Int) < h ∧ f j = v) := by
  intro L
  induction L with
  | nil =>
    intro h H
    have e : h = 0 := H
    exact ⟨fun q => absurd q (List.not_mem_nil), fun ⟨j, a, _⟩ => by omega⟩
  | cons k L ih =>
    intro h H
    have h1 : 0 < h := H.1
    have h2 : f (h - 1).toNat = k := H.2.1
    have q := ih H.2.2
    constructor
    · intro hv
      rcases List.mem_cons.mp hv with z | z
      · exact ⟨(h - 1).toNat, by omega, by rw [h2, z]⟩
      · obtain ⟨j, a, b⟩ := q.1 z
        exact ⟨j, by omega, b⟩
    · rintro ⟨j, a, b⟩
      by_cases z : j = (h - 1).toNat
      · rw [z, h2] at b
        exact List.mem_cons.mpr (Or.inl b.symm)
      · exact List.mem_cons.mpr (Or.inr (q.2 ⟨j, by omega, b⟩))
section TB1
variable {P : MS → Prop} {k0 : Int} {f0 : Nat → Int} {s s' : MS} {K E : List Int}
theorem y_square {t : MS} (h : REL k0 0 f0 s t K E) : pc (m_x12_qHasSquare t) (fun r => (r = 1 ∧ (25 : Int) ∈ E ++ K) ∨ (r = 0 ∧ ¬ (25 : Int) ∈ E ++ K)) := by
  have hs := h.2.2.1.2
  rw [h.2.2.2.2.2.1] at hs
  have mem := SKr_mem (v := 25) hs
  have LP : ∀ (n : Nat) (x : Int), 0 ≤ x → (∀ j : Nat, (j : Int) < x → gA t 103 j ≠ 25) → pc (m_x12_qHasSquare_L2 t n x) (fun r => (r = 1 ∧ (25 : Int) ∈ E ++ K) ∨ (r = 0 ∧ ¬ (25 : Int) ∈ E ++ K)) := by
    refine fr_ind (fun _ _ _ => pc_none) (fun n ih x hx hn => ?_)
    show pc (m_x12_qHasSquare_b2 t (m_x12_qHasSquare_L2 t n) x) _
    unfold m_x12_qHasSquare_b2
    refine pc_rg (pc_rg (pc_if (fun c => pc_some (Or.inr ⟨rfl, fun q => ?_⟩)) (fun c => pc_rdI (fun _ => pc_rg (pc_if (fun c2 => pc_some (Or.inl ⟨rfl, mem.2 ⟨x.toNat, by omega, c2⟩⟩)) (fun c2 => ih (x + 1) (by omega) (fun j hj => ?_)))))))
    · obtain ⟨j, a, b⟩ := mem.1 q
      exact hn j (by omega) b
    · by_cases z : j = x.toNat
      · rw [z]; exact c2
      · exact hn j (by omega)
  unfold m_x12_qHasSquare
  exact LP FU 0 (by omega) (fun j hj => by omega)
theorem y_isOnT {t : MS} {p0 : Int} (h : REL k0 0 f0 s t K E) (hp : p0 ≠ 0) : pc (m_x12_qIsOn p0 t) (fun r => (r = 1 ∧ hdk (E ++ K) = p0) ∨ (r = 0 ∧ hdk (E ++ K) ≠ p0)) := by
  have b3 := h.2.2.1.2
  rw [h.2.2.2.2.2.1] at b3
  unfold m_x12_qIsOn m_x12_qIsOn_J26 m_x12_qIsOn_J27
  cases hL : E ++ K with
  | nil =>
    rw [hL] at b3
    have e : gI t 104 = 0 := b3
    exact pc_rg (pc_if (fun c => pc_bo (pc_some (Or.inr ⟨rfl, fun q => hp q.symm⟩))) (fun c => by omega))
  | cons k L =>
    rw [hL] at b3
    have h1 : 0 < gI t 104 := b3.1
    have h2 : gA t 103 (gI t 104 - 1).toNat = k := b3.2.1
    refine pc_rg (pc_if (fun c => by omega) (fun c => pc_rdI (fun _ => pc_rg (pc_rg (pc_if (fun c2 => pc_bo (pc_some (Or.inl ⟨rfl, by show k = p0; omega⟩))) (fun c2 => pc_bo (pc_some (Or.inr ⟨rfl, by show k ≠ p0; omega⟩))))))))
/-- the test has ended -/
theorem QTB_end {t : MS} (h : REL k0 0 f0 s t [] E) (hP : ∀ o, REL k0 0 f0 s o [] [] → P o) : QTB P (0, t) := fun n => by
  have LP : ∀ (n : Nat) (E : List Int) (t : MS), REL k0 0 f0 s t [] E → pc (m_x12_qTest_L110 n t) P := by
    refine fr_ind (fun _ _ _ => pc_none) (fun n ih E t h => ?_)
    show pc (m_x12_qTest_b110 (m_x12_qTest_L110 n) t) P
    unfold m_x12_qTest_b110 m_x12_qTest_J131
    have b3 := h.2.2.1.2
    rw [h.2.2.2.2.2.1] at b3
    refine pc_rg (pc_if (fun _ => pc_rg ?_) (fun c => absurd h.1.2.1.2 c))
    cases E with
    | nil => exact pc_if (fun _ => pc_some (hP t h)) (fun c => by have e : gI t 104 = 0 := b3; omega)
    | cons e E =>
      have h1 : 0 < gI t 104 := b3.1
      exact pc_if (fun c => by omega) (fun _ => pc_bq (y_drop h) (fun s8 h8 => ih E s8 h8.1))
  unfold rTs
  refine pc_rg (pc_if (fun _ => ?_) (fun c => absurd rfl c))
  show pc (m_x12_qTest_L2 n 0 t) P
  cases n with
  | zero => exact pc_none
  | succ n =>
    show pc (m_x12_qTest_b2 (m_x12_qTest_L2 n) 0 t) P
    unfold m_x12_qTest_b2
    exact pc_rg (pc_if (fun _ => LP FU E t h) (fun c => absurd rfl c))
theorem PTE_top {t : MS} (h : REL k0 0 f0 s t K []) (hK : hdk K ≠ 12) (hB : PTB P t) : PTE P t := by
  have hb : gI t 5 = 0 := h.1.2.1.2
  have key : ∀ (Q : MS → Prop), Q t → ∀ k, pc (m_x12_qDropsNots_L0 k t) Q := fun Q hQ k => by
    cases k with
    | zero => exact pc_none
    | succ k =>
      show pc (m_x12_qDropsNots_b0 (m_x12_qDropsNots_L0 k) t) Q
      unfold m_x12_qDropsNots_b0 m_x12_qDropsNots_J33
      refine pc_rg (pc_if (fun _ => pc_bq (y_isOnT h (by decide)) (fun r6 h6 => pc_rg (pc_if (fun _ => pc_some hQ) (fun c2 => ?_)))) (fun _ => pc_some hQ))
      rcases h6 with q | q
      · exact absurd q.2 hK
      · exact absurd q.1 c2
  exact ⟨key _ (QTA_PTB hb hB), fun m => key _ (hB m)⟩
theorem PTE_not {t u s1 : MS} (h : REL k0 0 f0 s t (12 :: K) []) (hb : gI s 941 + 1 ≤ gI s 108) (e : m_x0_add (-12) s = some s1) (eu : sI s1 106 (gI s1 106 - 1) = u) (hP : ∀ o, REL k0 0 f0 u o K [] → PTE P o) : PTE P t := by
  have hb0 : gI t 5 = 0 := h.1.2.1.2
  obtain ⟨h1, _, _⟩ := REL_add h (c := -12) (cr_op (by omega)) hb e
  have h1 : REL k0 0 f0 s1 t K [12] := h1
  have key : ∀ (Q : MS → Prop), (∀ o, REL k0 0 f0 u o K [] → ∀ k, pc (m_x12_qDropsNots_L0 k o) Q) → ∀ k, pc (m_x12_qDropsNots_L0 k t) Q := fun Q hQ k => by
    cases k with
    | zero => exact pc_none
    | succ k =>
      show pc (m_x12_qDropsNots_b0 (m_x12_qDropsNots_L0 k) t) Q
      unfold m_x12_qDropsNots_b0
      refine pc_rg (pc_if (fun _ => pc_bq (y_isOnT h (by decide)) (fun r6 h6 => pc_rg (pc_if (fun c => ?_) (fun c => pc_stn (fun s9 e9 => ?_))))) (fun c => absurd hb0 c))
      · rcases h6 with q | q
        · omega
        · exact absurd rfl q.2
      · exact pc_bq (y_drop (REL_close h1 eu e9)) (fun s11 h11 => hQ s11 h11.1 k)
  exact ⟨key _ (fun o ho => (hP o ho).1), fun m => key _ (fun o ho => (hP o ho).2 m)⟩
/-- what comes behind a fact, when nothing closes -/
theorem PTB_J76 {t : MS} (h : REL k0 0 f0 s t K E) (hc : gI s 111 = 93 → ¬ (25 : Int) ∈ E ++ K) (hQ : ∀ S, REL k0 0 f0 s S K E → pc (m_x12_qGoesOnTest_J76 S) (QTB P)) : PTB P t := fun m => by
  cases m with
  | zero => exact pc_none
  | succ m =>
    show pc (m_x12_qGoesOnTest_b0 (m_x12_qGoesOnTest_L0 m) t) _
    unfold m_x12_qGoesOnTest_b0
    refine pc_rg (pc_if (fun _ => pc_bq (r_look h) (fun q62 h62 => ?_)) (fun c => absurd h.1.2.1.2 c))
    obtain ⟨hS, h2, h1⟩ := h62
    refine pc_rg (pc_if (fun c => pc_bq (y_square hS) (fun r66 h66 => pc_rg (pc_if (fun _ => hQ _ hS) (fun c2 => ?_)))) (fun _ => hQ _ hS))
    rcases h66 with q | q
    · exact absurd q.2 (hc (by omega))
    · exact absurd q.1 c2
theorem rw_q {t : MS} (h : REL k0 0 f0 s t K E) (i : Nat) (hi : i < 22) : ∀ j, j < wl (wqJ i) → gA t (79 + i) j = wc (wqJ i) j := h.1.2.2.2.2.2.2 i hi
theorem PTB_and {t : MS} (h : REL k0 0 f0 s t K E) (hE : ∀ e, e ∈ E → e = 10) (hK : hdk K ≠ 10) (hk : gI s 107 = 1) (hw : gI s 110 = 22) (e : m_x6_advance s = some s') (hP : ∀ o, REL k0 0 f0 s' o (10 :: K) [] → PTA P o) : PTB P t := by
  have hT := h.1.2.2.1.1
  have L87 : ∀ (n : Nat) (E : List Int) (t : MS), REL k0 0 f0 s' t K E → (∀ e, e ∈ E → e = 10) → pc (m_x12_qGoesOnTest_L87 n t) (QTB P) := by
    refine fr_ind (fun _ _ _ _ => pc_none) (fun n ih E t h hE => ?_)
    show pc (m_x12_qGoesOnTest_b87 (m_x12_qGoesOnTest_L87 n) t) _
    unfold m_x12_qGoesOnTest_b87
    refine pc_bq (y_isOnT h (by decide)) (fun r19 h19 => pc_rg (pc_if (fun c => pc_inb (pc_stn (fun s23 e23 => pc_stn (fun s24 e24 => pc_some (QTB_go (hP s24 ?_)))))) (fun c => ?_)))
    · have eE : E = [] := by
        cases E with
        | nil => rfl
        | cons e E =>
          have q := hE e (List.mem_cons_self)
          have : hdk (e :: E ++ K) = e := rfl
          omega
      subst eE
      exact REL_push h (fun i hi => (q_Ii e24 hi).trans (q_Ai e23)) (fun k hk => (q_Ia e24).trans (q_Aa e23 hk)) (by rw [(q_II e24 : gI s24 104 = _), (q_Ai e23 : gI s23 104 = gI t 104)]) ((q_Ia e24).trans (q_AA e23))
    · cases E with
      | nil =>
        rcases h19 with q | q
        · exact absurd q.2 hK
        · exact absurd q.1 c
      | cons e E => exact pc_bq (y_drop h) (fun s26 h26 => ih E s26 h26.1 (fun y hy => hE y (List.mem_cons_of_mem _ hy)))
  refine PTB_J76 h (fun q => ?_) (fun S hS => ?_)
  · exfalso
    rcases hT.2.2 with g | ⟨g1, g2, g3, g4, g⟩
    · omega
    · rcases g with ⟨a, _⟩ | ⟨_, _, g⟩ | ⟨_, _, _, g⟩
      · omega
      · rcases g with ⟨_, g⟩ | ⟨_, g⟩ <;> omega
      · omega
  · unfold m_x12_qGoesOnTest_J76
    refine pc_bn (fun q30 e30 => ?_)
    have F30 : F_x12_takes S q30.2 := fr_x12_takes e30
    rcases y_takes (w := 22) hS.1 (by decide) rfl (rw_q hS 7 (by decide)) q30 e30 with ⟨g1, _, _, g4⟩ | ⟨_, g2, _⟩
    · obtain ⟨r1, _⟩ := REL_adv hS g4 (fun i hi => F30.1 i (by simp; omega)) (fun k => F30.2.1 k (by simp)) e
      exact pc_rg (pc_if (fun c => by omega) (fun _ => L87 FU E _ r1 hE))
    · exact absurd ⟨hk, hw⟩ g2
theorem PTB_or {t : MS} (h : REL k0 0 f0 s t K E) (hE : ∀ e, e ∈ E → e = 10 ∨ e = 11) (hK : hdk K ≠ 10 ∧ hdk K ≠ 11) (hk : gI s 107 = 1) (hw : gI s 110 = 21) (e : m_x6_advance s = some s') (hP : ∀ o, REL k0 0 f0 s' o (11 :: K) [] → PTA P o) : PTB P t := by
  have hT := h.1.2.2.1.1
  have L137 : ∀ (n : Nat) (E : List Int) (t : MS), REL k0 0 f0 s' t K E → (∀ e, e ∈ E → e = 10 ∨ e = 11) → pc (m_x12_qGoesOnTest_L137 n t) (QTB P) := by
    refine fr_ind (fun _ _ _ _ => pc_none) (fun n ih E t h hE => ?_)
    show pc (m_x12_qGoesOnTest_b137 (m_x12_qGoesOnTest_L137 n) t) _
    unfold m_x12_qGoesOnTest_b137 m_x12_qGoesOnTest_J155
    have drop : (hdk (E ++ K) = 10 ∨ hdk (E ++ K) = 11) → pc (bn (m_x12_qDrops t) (fun s5 => m_x12_qGoesOnTest_L137 n s5)) (QTB P) := fun hd => by
      cases E with
      | nil =>
        have hd' : hdk K = 10 ∨ hdk K = 11 := hd
        omega
      | cons e E => exact pc_bq (y_drop h) (fun s5 h5 => ih E s5 h5.1 (fun y hy => hE y (List.mem_cons_of_mem _ hy)))
    refine pc_bq (y_isOnT h (by decide)) (fun r7 h7 => pc_rg (pc_if (fun c => pc_bq (y_isOnT h (by decide)) (fun r11 h11 => pc_rg (pc_if (fun c2 => pc_inb (pc_stn (fun s15 e15 => pc_stn (fun s16 e16 => pc_some (QTB_go (hP s16 ?_)))))) (fun c2 => drop ?_)))) (fun c => drop ?_)))
    · have eE : E = [] := by
        cases E with
        | nil => rfl
        | cons e E =>
          have q := hE e (List.mem_cons_self)
          have : hdk (e :: E ++ K) = e := rfl
          omega
      subst eE
      exact REL_push h (fun i hi => (q_Ii e16 hi).trans (q_Ai e15)) (fun k hk => (q_Ia e16).trans (q_Aa e15 hk)) (by rw [(q_II e16 : gI s16 104 = _), (q_Ai e15 : gI s15 104 = gI t 104)]) ((q_Ia e16).trans (q_AA e15))
    · rcases h11 with q | q
      · exact Or.inr q.2
      · exact absurd q.1 c2
    · rcases h7 with q | q
      · exact Or.inl q.2
      · exact absurd q.1 c
  refine PTB_J76 h (fun q => ?_) (fun S hS => ?_)
  · exfalso
    rcases hT.2.2 with g | ⟨g1, g2, g3, g4, g⟩
    · omega
    · rcases g with ⟨a, _⟩ | ⟨_, _, g⟩ | ⟨_, _, _, g⟩
      · omega
      · rcases g with ⟨_, g⟩ | ⟨_, g⟩ <;> omega
      · omega
  · unfold m_x12_qGoesOnTest_J76
    refine pc_bn (fun q30 e30 => ?_)
    have F30 : F_x12_takes S q30.2 := fr_x12_takes e30
    rcases y_takes (w := 22) hS.1 (by decide) rfl (rw_q hS 7 (by decide)) q30 e30 with ⟨_, _, g3, _⟩ | ⟨g1, _, g3, _⟩
    · omega
    · have hS2 : REL k0 0 f0 s q30.2 K E := REL_2 hS g3 (fun i hi => F30.1 i (by simp; omega)) (fun k => F30.2.1 k (by simp))
      refine pc_rg (pc_if (fun _ => pc_bn (fun q35 e35 => ?_)) (fun c => absurd g1 c))
      have F35 : F_x12_takes q30.2 q35.2 := fr_x12_takes e35
      rcases y_takes (w := 21) hS2.1 (by decide) rfl (rw_q hS2 8 (by decide)) q35 e35 with ⟨g5, _, _, g8⟩ | ⟨_, g6, _⟩
      · obtain ⟨r1, _⟩ := REL_adv hS2 g8 (fun i hi => F35.1 i (by simp; omega)) (fun k => F35.2.1 k (by simp)) e
        exact pc_rg (pc_if (fun c => by omega) (fun _ => L137 FU E _ r1 hE))
      · exact absurd ⟨hk, hw⟩ g6
/-- neither and nor or -/
theorem PTB_else {t : MS} (h : REL k0 0 f0 s t K E) (hn : ¬ (gI s 107 = 1 ∧ (gI s 110 = 21 ∨ gI s 110 = 22))) (hc : gI s 111 = 93 → ¬ (25 : Int) ∈ E ++ K) (hQ : ∀ S, REL k0 0 f0 s S K E → gI S 2 = gI s 108 → (¬ (25 : Int) ∈ E ++ K → QTB P (0, S)) ∧ ((25 : Int) ∈ E ++ K → pc (m_x12_fail 1 (gI s 108) S) (fun o => QTB P (0, o)))) : PTB P t := by
  refine PTB_J76 h hc (fun S hS => ?_)
  unfold m_x12_qGoesOnTest_J76 m_x12_qGoesOnTest_J208
  refine pc_bn (fun q30 e30 => ?_)
  have F30 : F_x12_takes S q30.2 := fr_x12_takes e30
  rcases y_takes (w := 22) hS.1 (by decide) rfl (rw_q hS 7 (by decide)) q30 e30 with ⟨_, g2, g3, _⟩ | ⟨g1, _, g3, _⟩
  · exact absurd ⟨g2, Or.inr g3⟩ hn
  · have hS2 : REL k0 0 f0 s q30.2 K E := REL_2 hS g3 (fun i hi => F30.1 i (by simp; omega)) (fun k => F30.2.1 k (by simp))
    refine pc_rg (pc_if (fun _ => pc_bn (fun q35 e35 => ?_)) (fun c => absurd g1 c))
    have F35 : F_x12_takes q30.2 q35.2 := fr_x12_takes e35
    rcases y_takes (w := 21) hS2.1 (by decide) rfl (rw_q hS2 8 (by decide)) q35 e35 with ⟨_, g2, g3, _⟩ | ⟨g5, _, g7, g8⟩
    · exact absurd ⟨g2, Or.inl g3⟩ hn
    · have hS3 : REL k0 0 f0 s q35.2 K E := REL_2 hS2 g7 (fun i hi => F35.1 i (by simp; omega)) (fun k => F35.2.1 k (by simp))
      have q := hQ q35.2 hS3 g8
      refine pc_rg (pc_if (fun _ => pc_rg (pc_if (fun _ => pc_bq (y_square hS3) (fun r41 h41 => pc_rg (pc_if (fun c => pc_some (q.1 ?_)) (fun c => ?_)))) (fun c => absurd hS3.1.2.1.2 c))) (fun c => absurd g5 c))
      · rcases h41 with g | g
        · omega
        · exact g.2
      · rw [g8]
        refine pc_bq (q.2 ?_) (fun s45 h45 => pc_some h45)
        rcases h41 with g | g
        · exact g.2
        · exact absurd g.1 c
theorem E_25 (hE : ∀ e, e ∈ E → e = 10 ∨ e = 11) : ¬ (25 : Int) ∈ E := fun q => by
  have := hE 25 q
  omega
theorem PTB_end {t : MS} (h : REL k0 0 f0 s t [] E) (hE : ∀ e, e ∈ E → e = 10 ∨ e = 11) (hn : ¬ (gI s 107 = 1 ∧ (gI s 110 = 21 ∨ gI s 110 = 22))) (hP : ∀ o, REL k0 0 f0 s o [] [] → P o) : PTB P t := by
  have n25 : ¬ (25 : Int) ∈ E ++ [] := by
    rw [List.append_nil]; exact E_25 hE
  exact PTB_else h hn (fun _ => n25) (fun S hS _ => ⟨fun _ => QTB_end hS hP, fun q => absurd q n25⟩)
theorem PTB_open {t : MS} (h : REL k0 0 f0 s t (25 :: K) E) (hn : ¬ (gI s 107 = 1 ∧ (gI s 110 = 21 ∨ gI s 110 = 22))) (h93 : ¬ (gI s 107 = 3 ∧ gI s 111 = 93)) (hs : gI s' 100 = 1 ∧ gI s' 101 = gI s 108) (hF : ∀ o, BR s' o → P o) : PTB P t := by
  have y25 : (25 : Int) ∈ E ++ 25 :: K := List.mem_append.mpr (Or.inr (List.mem_cons_self))
  refine PTB_else h hn (fun q => absurd ⟨TK_3 h.1.2.2.1.1 (by omega), q⟩ h93) (fun S hS _ => ⟨fun q => absurd y25 q, fun _ => pc_mono (m_fail hS.1.2.1.2) (fun o ho => QTB_bad (BR_P (BR_mk (by decide) hs ho) hF))⟩)
/-- a square closes -/
theorem PTB_close {t u : MS} (h : REL k0 0 f0 s t (25 :: K) E) (hE : ∀ e, e ∈ E → e = 10 ∨ e = 11) (hk : gI s 107 = 3) (h93 : gI s 111 = 93) (e : m_x6_advance s = some s') (eu : sI s' 106 (gI s' 106 - 1) = u) (hP : ∀ o, REL k0 0 f0 u o K [] → PTE P o) : PTB P t := fun m => by
  cases m with
  | zero => exact pc_none
  | succ m =>
    show pc (m_x12_qGoesOnTest_b0 (m_x12_qGoesOnTest_L0 m) t) _
    unfold m_x12_qGoesOnTest_b0
    have y25 : (25 : Int) ∈ E ++ 25 :: K := List.mem_append.mpr (Or.inr (List.mem_cons_self))
    have L33 : ∀ (n : Nat) (E : List Int) (t : MS), REL k0 0 f0 s' t (25 :: K) E → (∀ e, e ∈ E → e = 10 ∨ e = 11) → pc (m_x12_qGoesOnTest_L33 (m_x12_qGoesOnTest_L0 m) n t) (QTB P) := by
      refine fr_ind (fun _ _ _ _ => pc_none) (fun n ih E t h hE => ?_)
      show pc (m_x12_qGoesOnTest_b33 (m_x12_qGoesOnTest_L0 m) (m_x12_qGoesOnTest_L33 (m_x12_qGoesOnTest_L0 m) n) t) _
      unfold m_x12_qGoesOnTest_b33
      refine pc_bq (y_isOnT h (by decide)) (fun r49 h49 => pc_rg (pc_if (fun c => ?_) (fun c => pc_stn (fun s52 e52 => pc_stn (fun s53 e53 => ?_)))))
      · cases E with
        | nil =>
          rcases h49 with q | q
          · omega
          · exact absurd rfl q.2
        | cons e E => exact pc_bq (y_drop h) (fun s57 h57 => ih E s57 h57.1 (fun y hy => hE y (List.mem_cons_of_mem _ hy)))
      · have eE : E = [] := by
          cases E with
          | nil => rfl
          | cons e E =>
            have q := hE e (List.mem_cons_self)
            have z : hdk (e :: E ++ 25 :: K) = e := rfl
            rcases h49 with g | g
            · omega
            · exact absurd g.1 c
        subst eE
        obtain ⟨hO, _⟩ := REL_pop (o := s53) h eu (fun i a c => (q_Ii e53 c).trans (q_Ii e52 a)) (fun k => (q_Ia e53).trans (q_Ia e52)) ((q_Ii e53 (by decide)).trans (q_II e52)) (by rw [(q_II e53 : gI s53 105 = _), (q_Ii e52 (by decide) : gI s52 105 = gI t 105)])
        exact pc_bq ((hP s53 hO).2 m FU) (fun s55 h55 => h55)
    refine pc_rg (pc_if (fun _ => pc_bq (r_look h) (fun q62 h62 => ?_)) (fun c => absurd h.1.2.1.2 c))
    obtain ⟨hS, h2, h1⟩ := h62
    refine pc_rg (pc_if (fun c => pc_bq (y_square hS) (fun r66 h66 => pc_rg (pc_if (fun c2 => ?_) (fun c2 => pc_stn (fun s69 e69 => ?_))))) (fun c => by omega))
    · rcases h66 with q | q
      · omega
      · exact absurd y25 q.2
    · obtain ⟨hR, _⟩ := REL_adv hS (NX_sg hS.1 h2 hk e69) (fun i a => q_Ii e69 (by omega)) (fun k => q_Ia e69) e
      exact L33 FU E s69 hR hE
end TB1
