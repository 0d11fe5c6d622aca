/-! ===== the reference in a sum: ahead of a part, behind one ===== -/
def rSm (n : Nat) (x13 : Int) (q : Int × MS) : Option MS := rg q.1 (if q.1 = 0 then m_x12_qSums_J48 (m_x12_qSums_L15 n) x13 q.2 else m_x12_qSums_J49 (m_x12_qSums_L15 n) x13 1 q.2)
def aftP (n : Nat) (x13 : Int) (s26 : MS) : Option MS := rg (gI s26 5) (if (gI s26 5) = 0 then bn (m_x12_qGoesOn s26) (fun q => rSm n x13 q) else m_x12_qSums_J48 (m_x12_qSums_L15 n) x13 s26)
def QA (P : MS → Prop) (x13 : Int) : MS → Prop := fun s26 => ∀ n, pc (aftP n x13 s26) P
def QB (P : MS → Prop) (x13 : Int) : Int × MS → Prop := fun q => ∀ n, pc (rSm n x13 q) P
def PA (P : MS → Prop) (x13 : Int) (t : MS) : Prop := ∀ m, pc (m_x12_qPartTold_L2 m 1 t) (QA P x13)
def PB (P : MS → Prop) (x13 : Int) (t : MS) : Prop := ∀ m, pc (m_x12_qGoesOn_L0 m t) (QB P x13)
def PE (P : MS → Prop) (x13 : Int) (t : MS) : Prop := (∀ k, pc (m_x12_qEndsPart_L0 k t) (QA P x13)) ∧ (∀ m k, pc (m_x12_qEndsPart_L0 k t) (fun s106 => pc (m_x12_qGoesOn_L0 m s106) (QB P x13)))
section RB1
variable {P : MS → Prop} {x13 : Int} {t : MS}
theorem QA_PB (h0 : gI t 5 = 0) (h : PB P x13 t) : QA P x13 t := fun n => by
  unfold aftP
  refine pc_rg (pc_if (fun _ => ?_) (fun c => absurd h0 c))
  show pc (bn (m_x12_qGoesOn_L0 FU t) (fun q => rSm n x13 q)) P
  exact pc_bq (h FU) (fun q hq => hq n)
theorem L15_bad (n : Nat) (x : Int) (hP : ∀ o, FKp 5 6 t o → P o) : pc (m_x12_qSums_L15 n x13 x t) P := pc_mono (fk_x12_qSums_L15 n x13 x t (FKp.rf t)) hP
theorem QA_bad (h0 : gI t 5 ≠ 0) (hP : ∀ o, FKp 5 6 t o → P o) : QA P x13 t := fun n => by
  unfold aftP
  exact pc_rg (pc_if (fun c => absurd c h0) (fun _ => L15_bad n 0 hP))
theorem QB_bad {r : Int} (hP : ∀ o, FKp 5 6 t o → P o) : QB P x13 (r, t) := fun n => by
  unfold rSm
  exact pc_rg (pc_if (fun _ => L15_bad n 0 hP) (fun _ => L15_bad n 1 hP))
theorem FKp_ne {s o : MS} (h : FKp 5 6 s o) (h0 : gI s 5 ≠ 0) : gI o 5 ≠ 0 := by rw [(h h0).1]; exact h0
theorem PA_bad (h0 : gI t 5 ≠ 0) (hP : ∀ o, FKp 5 6 t o → P o) : PA P x13 t := fun m => pc_mono (fk_x12_qPartTold_L2 m 1 t (FKp.rf t)) (fun o ho => QA_bad (FKp_ne ho h0) (fun u hu => hP u (ho.tr hu)))
theorem PB_bad (hP : ∀ o, FKp 5 6 t o → P o) : PB P x13 t := fun m => pc_mono (fk_x12_qGoesOn_L0 m t (FKp.rf t)) (fun o ho => by
  obtain ⟨r, o⟩ := o
  exact QB_bad (fun u hu => hP u (FKp.tr ho hu)))
theorem PE_bad (h0 : gI t 5 ≠ 0) (hP : ∀ o, FKp 5 6 t o → P o) : PE P x13 t := ⟨fun k => pc_mono (fk_x12_qEndsPart_L0 k t (FKp.rf t)) (fun o ho => QA_bad (FKp_ne ho h0) (fun u hu => hP u (ho.tr hu))), fun m k => pc_mono (fk_x12_qEndsPart_L0 k t (FKp.rf t)) (fun o ho => PB_bad (fun u hu => hP u (ho.tr hu)) m)⟩
theorem QB_go (h0 : gI t 5 = 0) (h : PA P x13 t) : QB P x13 (1, t) := fun n => by
  unfold rSm
  refine pc_rg (pc_if (fun c => absurd c (show ¬ (1 : Int) = 0 by decide)) (fun _ => ?_))
  show pc (m_x12_qSums_L15 n x13 1 t) P
  cases n with
  | zero => exact pc_none
  | succ n =>
    show pc (m_x12_qSums_b15 (m_x12_qSums_L15 n) x13 1 t) P
    unfold m_x12_qSums_b15
    refine pc_rg (pc_if (fun c => absurd c (by decide)) (fun _ => pc_rg (pc_if (fun _ => ?_) (fun c => absurd h0 c))))
    exact pc_bq (h FU) (fun s26 hq => hq n)
end RB1
theorem BR_P {P : MS → Prop} {s t : MS} (h : BR s t) (hP : ∀ o, BR s o → P o) : ∀ o, FKp 5 6 t o → P o := fun o ho => hP o (BR_go h (FKp.rf s) ho)
/-- the sum has ended -/
def FIN (k0 b0 : Int) (f0 : Nat → Int) (s : MS) (x13 : Int) (o : MS) : Prop := SY s o ∧ OPN s o ∧ (gI o 106 = x13 ∧ gI o 104 = b0 ∧ ∀ j : Nat, (j : Int) < b0 → gA o 103 j = f0 j) ∧ CO k0 s o [] ∧ gI s 941 ≤ gI s 108
section RB2
variable {P : MS → Prop} {x13 : Int} {k0 b0 : Int} {f0 : Nat → Int} {s s' s'' : MS} {K E : List Int}
theorem y_L53 (hP : ∀ o, FIN k0 b0 f0 s x13 o → P o) : ∀ (n : Nat) (E : List Int) (t : MS), REL k0 b0 f0 s t [] E → pc (m_x12_qSums_L53 n x13 t) P := by
  refine fr_ind (fun _ _ _ => pc_none) (fun n ih E t h => ?_)
  show pc (m_x12_qSums_b53 (m_x12_qSums_L53 n) x13 t) _
  unfold m_x12_qSums_b53 m_x12_qSums_J78
  obtain ⟨⟨b1, b2⟩, b3⟩ := h.2.2.1
  refine pc_rg (pc_if (fun _ => ?_) (fun c => absurd h.1.2.1.2 c))
  cases E with
  | nil =>
    have e4 : gI t 104 = gI t 106 := b3
    refine pc_rg (pc_rg (pc_if (fun c => pc_stn (fun s3 e3 => pc_some (hP s3 ?_))) (fun c => by omega)))
    obtain ⟨h1, h2, _, h4, h5, h6⟩ := h
    have kI : ∀ i, i ≠ 106 → gI s3 i = gI t i := fun i hi => q_Ii e3 hi
    have kA : ∀ k, gA s3 k = gA t k := fun k => q_Ia e3
    refine ⟨SY_f h1 (kI 2 (by decide)) (kI 3 (by decide)) (kI 4 (by decide)) (kI 5 (by decide)) (fun k _ => kA k), OPN_e h2 rfl rfl (kI 105 (by decide)) (kI 48 (by decide)), ⟨q_II e3, ?_, fun j hj => by rw [kA]; exact h6.2 j hj⟩, ?_, h5⟩
    · rw [kI 104 (by decide), e4]; exact h6.1
    · unfold CO at h4 ⊢
      rw [kI 102 (by decide), kA]; exact h4
  | cons e E =>
    have h1 : gI t 106 < gI t 104 := b3.1
    exact pc_rg (pc_rg (pc_if (fun c => by omega) (fun c => pc_bq (y_drop h) (fun s12 h12 => ih E s12 h12.1))))
theorem QB_end {t : MS} (h : REL k0 b0 f0 s t [] E) (hP : ∀ o, FIN k0 b0 f0 s x13 o → P o) : QB P x13 (0, t) := fun n => by
  unfold rSm
  refine pc_rg (pc_if (fun _ => ?_) (fun c => absurd rfl c))
  show pc (m_x12_qSums_L15 n x13 0 t) P
  cases n with
  | zero => exact pc_none
  | succ n =>
    show pc (m_x12_qSums_b15 (m_x12_qSums_L15 n) x13 0 t) P
    unfold m_x12_qSums_b15
    exact pc_rg (pc_if (fun _ => y_L53 hP FU E t h) (fun c => absurd rfl c))
/-- looks, words, signs, with all that waits -/
theorem r_look {t : MS} (h : REL k0 b0 f0 s t K E) : pc (m_x12_look t) (fun q => REL k0 b0 f0 s q.2 K E ∧ gI q.2 2 = gI s 108 ∧ q.1 = gI s 111) := fun q e => by
  obtain ⟨a, b, c⟩ := y_look h.1 q e
  have F : F_x12_look t q.2 := fr_x12_look e
  exact ⟨REL_2 h a (fun i h2 => F.1 i (by simp; omega)) (fun k => F.2.1 k (by simp)), b, c⟩
theorem r_here {wid wn w : Nat} {t : MS} (h : REL k0 b0 f0 s t K E) (hw : w < 33) (hn : wn = wl w) (hr : ∀ j, j < wn → gA t wid j = wc w j) : pc (m_x12_isHere wid wn t) (fun q => REL k0 b0 f0 s q.2 K E ∧ gI q.2 2 = gI s 108 ∧ ((q.1 = 1 ∧ gI s 107 = 1 ∧ gI s 110 = (w : Int)) ∨ (q.1 = 0 ∧ ¬ (gI s 107 = 1 ∧ gI s 110 = (w : Int))))) := fun q e => by
  obtain ⟨a, b, c⟩ := y_here h.1 hw hn hr q e
  have F : F_x12_isHere t q.2 := fr_x12_isHere e
  exact ⟨REL_2 h a (fun i h2 => F.1 i (by simp; omega)) (fun k => F.2.1 k (by simp)), b, c⟩
theorem r_sign {p0 : Int} {t : MS} (h : REL k0 b0 f0 s t K E) (hp : 0 ≤ p0 ∧ ¬ isL p0 ∧ ¬ isD p0) : pc (m_x12_takesSign p0 t) (fun q => (q.1 = 1 ∧ gI s 107 = 3 ∧ gI s 111 = p0 ∧ NX s q.2 ∧ ∀ s', m_x6_advance s = some s' → REL k0 b0 f0 s' q.2 K E ∧ gI s 109 ≤ gI s' 108) ∨ (q.1 = 0 ∧ ¬ (gI s 107 = 3 ∧ gI s 111 = p0) ∧ REL k0 b0 f0 s q.2 K E ∧ gI q.2 2 = gI s 108)) := fun q e => by
  have F : F_x12_takesSign t q.2 := fr_x12_takesSign e
  have kI : ∀ i, 48 ≤ i → gI q.2 i = gI t i := fun i h2 => F.1 i (by simp; omega)
  have kA : ∀ k, gA q.2 k = gA t k := fun k => F.2.1 k (by simp)
  rcases y_sign h.1 hp q e with ⟨a, b, c, d⟩ | ⟨a, b, c, d⟩
  · exact Or.inl ⟨a, b, c, d, fun s' e' => REL_adv h d kI kA e'⟩
  · exact Or.inr ⟨a, b, REL_2 h c kI kA, d⟩
theorem NX_sg {S o : MS} (hS : SY s S) (h2 : gI S 2 = gI s 108) (hk : gI s 107 = 3) (e : sI S 2 (gI S 2 + 1) = o) : NX s o := by
  have hT := hS.2.2.1.1
  have k1' := hT.1
  have k2 : gI o 2 = gI S 2 + 1 := q_II e
  rcases hT.2.2 with g | ⟨g1, g2, g3, g4, g⟩
  · omega
  · rcases g with ⟨_, _, _, g⟩ | ⟨_, _, g⟩ | ⟨a1, a2, a3, a4⟩
    · rcases g with ⟨_, g⟩ | ⟨_, g⟩ <;> omega
    · rcases g with ⟨_, g⟩ | ⟨_, g⟩ <;> omega
    · refine ⟨⟨(q_Ii e (by decide)).trans hS.1.1, fun j hj => by rw [(q_Ia e : gA o 0 = gA S 0)]; exact hS.1.2 j hj⟩, ⟨hS.2.1.1, (q_Ii e (by decide)).trans hS.2.1.2⟩, hS.2.2.1, by omega, ⟨?_, ?_⟩, RWD_e hS.2.2.2.2.2 (fun k _ => q_Ia e)⟩
      · rw [(q_Ii e (by decide) : gI o 4 = gI S 4)]
        have := hS.2.2.2.2.1.1
        omega
      · rw [(q_Ii e (by decide) : gI o 4 = gI S 4)]
        have := hS.2.2.2.2.1.1
        refine ⟨fun q => by omega, fun q => ?_⟩
        have q2 := q.2
        rw [show (gI o 2 - 1).toNat = (gI s 108).toNat by omega] at q2
        rcases q2 with q2 | q2
        · exact absurd q2 a1
        · exact absurd q2 a2
theorem TK_3 (h : TK s) (hc : 0 ≤ gI s 111 ∧ ¬ isL (gI s 111) ∧ ¬ isD (gI s 111)) : gI s 107 = 3 := by
  rcases h.2.2 with g | ⟨g1, g2, g3, g4, g⟩
  · omega
  · rcases g with ⟨a, _⟩ | ⟨a, _⟩ | ⟨_, _, _, a⟩
    · omega
    · omega
    · exact a
theorem TK_3' (h : TK s) (hk : gI s 107 = 3) : (0 ≤ gI s 108 ∧ gI s 108 < gI s 61 ∧ gI s 61 ≤ 1600) ∧ gI s 109 = gI s 108 + 1 ∧ gI s 111 = gA s 4 (gI s 108).toNat ∧ ¬ isL (gI s 111) ∧ ¬ isD (gI s 111) := by
  have k1 := h.1
  rcases h.2.2 with g | ⟨g1, g2, g3, g4, g⟩
  · omega
  · rcases g with ⟨_, _, _, g⟩ | ⟨_, _, g⟩ | ⟨a1, a2, a3, a4⟩
    · rcases g with ⟨_, g⟩ | ⟨_, g⟩ <;> omega
    · rcases g with ⟨_, g⟩ | ⟨_, g⟩ <;> omega
    · exact ⟨by omega, a3, g2, by rw [g2]; exact a1, by rw [g2]; exact a2⟩
/-! ===== behind a part ===== -/
theorem PE_top {t : MS} (h : REL k0 b0 f0 s t K []) (hK : hdk K < 60) (hB : PB P x13 t) : PE P x13 t := by
  obtain ⟨⟨b1, b2⟩, b3⟩ := h.2.2.1
  have hb : gI t 5 = 0 := h.1.2.1.2
  have key : ∀ (Q : MS → Prop), Q t → ∀ k, pc (m_x12_qEndsPart_L0 k t) Q := fun Q hQ k => by
    cases k with
    | zero => exact pc_none
    | succ k =>
      show pc (m_x12_qEndsPart_b0 (m_x12_qEndsPart_L0 k) t) Q
      unfold m_x12_qEndsPart_b0 m_x12_qEndsPart_J51
      refine pc_rg (pc_if (fun _ => pc_rg (pc_rg (pc_if (fun _ => pc_some hQ) (fun c => pc_rdI (fun _ => pc_rg (pc_if (fun _ => pc_some hQ) (fun c2 => ?_))))))) (fun _ => pc_some hQ))
      exfalso
      cases K with
      | nil =>
        have e4 : gI t 104 = gI t 106 := b3
        omega
      | cons k2 K =>
        have e4 : gA t 103 (gI t 104 - 1).toNat = k2 := b3.2.1
        have e5 : hdk (k2 :: K) = k2 := rfl
        omega
  exact ⟨key _ (QA_PB hb hB), fun m => key _ (hB m)⟩
/-- open signs one less on both sides -/
theorem REL_close {t o : MS} {u : MS} (h : REL k0 b0 f0 s t K E) (e1 : sI s 106 (gI s 106 - 1) = u) (e2 : sI t 105 (gI t 105 - 1) = o) : REL k0 b0 f0 u o K E := by
  obtain ⟨h1, ⟨⟨o1, o2⟩, o3⟩, h3, h4, h5, h6⟩ := h
  have kI : ∀ i, i ≠ 106 → gI u i = gI s i := fun i hi => q_Ii e1 hi
  have kA : ∀ k, gA u k = gA s k := fun k => q_Ia e1
  have rI : ∀ i, i ≠ 105 → gI o i = gI t i := fun i hi => q_Ii e2 hi
  have rA : ∀ k, gA o k = gA t k := fun k => q_Ia e2
  have a1 : gI u 106 = gI s 106 - 1 := q_II e1
  have a2 : gI o 105 = gI t 105 - 1 := q_II e2
  refine ⟨SY_f (SY_c h1 (fun i hi => kI i (by omega)) (kA 4) (kA 6)) (rI 2 (by decide)) (rI 3 (by decide)) (rI 4 (by decide)) (rI 5 (by decide)) (fun k _ => rA k), ⟨⟨by omega, by omega⟩, by rw [rI 48 (by decide), kI 105 (by decide)]; exact o3⟩, by rw [rI 106 (by decide), rI 104 (by decide), rA]; exact h3, ?_, by rw [kI 941 (by decide), kI 108 (by decide)]; exact h5, BS_e h6 (rI 106 (by decide)) (rA 103)⟩
  unfold CO at h4 ⊢
  rw [kI 941 (by decide), kA, rI 102 (by decide), rA]; exact h4
theorem PE_of {t u s1 : MS} {c d : Int} (h : REL k0 b0 f0 s t (d :: K) []) (hd : 60 ≤ d) (hc : cr c d) (hb : gI s 941 + 1 ≤ gI s 108) (e : m_x0_add c s = some s1) (eu : sI s1 106 (gI s1 106 - 1) = u) (hP : ∀ o, REL k0 b0 f0 u o K [] → PE P x13 o) : PE P x13 t := by
  have hb0 : gI t 5 = 0 := h.1.2.1.2
  obtain ⟨h1, _, _⟩ := REL_add h hc hb e
  have h1 : REL k0 b0 f0 s1 t K [d] := h1
  have st := h.2.2.1.2
  have s1' : gI t 106 < gI t 104 := st.1
  have s2' : gA t 103 (gI t 104 - 1).toNat = d := st.2.1
  have key : ∀ (Q : MS → Prop), (∀ o, REL k0 b0 f0 u o K [] → ∀ k, pc (m_x12_qEndsPart_L0 k o) Q) → ∀ k, pc (m_x12_qEndsPart_L0 k t) Q := fun Q hQ k => by
    cases k with
    | zero => exact pc_none
    | succ k =>
      show pc (m_x12_qEndsPart_b0 (m_x12_qEndsPart_L0 k) t) Q
      unfold m_x12_qEndsPart_b0
      refine pc_rg (pc_if (fun _ => pc_rg (pc_rg (pc_if (fun c => by omega) (fun c => pc_rdI (fun _ => pc_rg (pc_if (fun c2 => by omega) (fun c2 => pc_stn (fun s11 e11 => ?_)))))))) (fun c => absurd hb0 c))
      exact pc_bq (y_drop (REL_close h1 eu e11)) (fun s13 h13 => hQ s13 h13.1 k)
  exact ⟨key _ (fun o ho => (hP o ho).1), fun m => key _ (fun o ho => (hP o ho).2 m)⟩
/-! ===== behind a part: signs ===== -/
/-- a sign that goes on -/
def OPS (s : MS) : Prop := gI s 107 = 3 ∧ (gI s 111 = 42 ∨ gI s 111 = 47 ∨ gI s 111 = 43 ∨ gI s 111 = 45)
theorem PB_mul {t : MS} {x : Int} (h : REL k0 b0 f0 s t K E) (hE : ∀ e, e ∈ E → e = 3 ∨ e = 4) (hK : ¬ (hdk K = 3 ∨ hdk K = 4)) (hk : gI s 107 = 3) (hx : (gI s 111 = 42 ∧ x = 3) ∨ (gI s 111 = 47 ∧ x = 4)) (e : m_x6_advance s = some s') (hP : ∀ o, REL k0 b0 f0 s' o (x :: K) [] → PA P x13 o) : PB P x13 t := fun m => by
  cases m with
  | zero => exact pc_none
  | succ m =>
    show pc (m_x12_qGoesOn_b0 (m_x12_qGoesOn_L0 m) t) _
    unfold m_x12_qGoesOn_b0
    have hb0 : gI t 5 = 0 := h.1.2.1.2
    have J140 : ∀ S : MS, NX s S → REL k0 b0 f0 s' S K E → pc (m_x12_qGoesOn_J140 S) (QB P x13) := fun S hN hR => by
      unfold m_x12_qGoesOn_J140 m_x12_qGoesOn_J161
      have t3 := TK_3' hN.2.2.1.1 hk
      have y : gA S 0 (gI S 2 - 1).toNat = gI s 111 := by
        rw [t3.2.2.1, hN.2.2.2.1, show (gI s 109 - 1).toNat = (gI s 108).toNat by omega]
        exact hN.1.2 _ (by omega)
      refine pc_rdI (fun _ => ?_)
      rw [y]
      have fin : ∀ q : Int × MS, q.1 = 1 ∧ REL k0 b0 f0 s' q.2 (x :: K) [] → QB P x13 q := fun q hq => by
        obtain ⟨r, o⟩ := q
        obtain ⟨a, b⟩ := hq
        dsimp only at a b
        rw [a]
        exact QB_go b.1.2.1.2 (hP o b)
      refine pc_rg (pc_if (fun c => ?_) (fun c => ?_))
      · have ex : x = 3 := by omega
        subst ex
        exact pc_mono (y_L162 hK FU E S hR hE) fin
      · have ex : x = 4 := by omega
        subst ex
        exact pc_mono (y_L162 hK FU E S hR hE) fin
    refine pc_rg (pc_if (fun _ => pc_bq (r_look h) (fun q127 h127 => ?_)) (fun c => absurd hb0 c))
    obtain ⟨hS, h2, h1⟩ := h127
    refine pc_rg (pc_if (fun c => by omega) (fun c => ?_))
    unfold m_x12_qGoesOn_J122
    refine pc_bq (r_sign hS (by omega)) (fun q69 h69 => pc_rg (pc_if (fun c2 => ?_) (fun c2 => ?_)))
    · rcases h69 with g | ⟨_, g2, g3, g4⟩
      · omega
      · refine pc_bq (r_sign g3 (by omega)) (fun q74 h74 => pc_rg (pc_if (fun c3 => ?_) (fun c3 => ?_)))
        · exfalso
          rcases h74 with g | ⟨_, g5, _⟩
          · omega
          · rcases hx with hx | hx
            · exact g2 ⟨hk, hx.1⟩
            · exact g5 ⟨hk, hx.1⟩
        · rcases h74 with ⟨_, _, _, g4, g5⟩ | g
          · exact J140 _ g4 (g5 s' e).1
          · exact absurd g.1 c3
    · rcases h69 with ⟨_, _, _, g4, g5⟩ | g
      · exact J140 _ g4 (g5 s' e).1
      · exact absurd g.1 c2
theorem PB_add {t : MS} {x : Int} (h : REL k0 b0 f0 s t K E) (hE : ∀ e, e ∈ E → 1 ≤ e ∧ e ≤ 4) (hK : ¬ (1 ≤ hdk K ∧ hdk K ≤ 4)) (hk : gI s 107 = 3) (hx : (gI s 111 = 43 ∧ x = 1) ∨ (gI s 111 = 45 ∧ x = 2)) (e : m_x6_advance s = some s') (hP : ∀ o, REL k0 b0 f0 s' o (x :: K) [] → PA P x13 o) : PB P x13 t := fun m => by
  cases m with
  | zero => exact pc_none
  | succ m =>
    show pc (m_x12_qGoesOn_b0 (m_x12_qGoesOn_L0 m) t) _
    unfold m_x12_qGoesOn_b0
    have hb0 : gI t 5 = 0 := h.1.2.1.2
    have J225 : ∀ S : MS, NX s S → REL k0 b0 f0 s' S K E → pc (m_x12_qGoesOn_J225 S) (QB P x13) := fun S hN hR => by
      unfold m_x12_qGoesOn_J225 m_x12_qGoesOn_J246
      have t3 := TK_3' hN.2.2.1.1 hk
      have y : gA S 0 (gI S 2 - 1).toNat = gI s 111 := by
        rw [t3.2.2.1, hN.2.2.2.1, show (gI s 109 - 1).toNat = (gI s 108).toNat by omega]
        exact hN.1.2 _ (by omega)
      refine pc_rdI (fun _ => ?_)
      rw [y]
      have fin : ∀ q : Int × MS, q.1 = 1 ∧ REL k0 b0 f0 s' q.2 (x :: K) [] → QB P x13 q := fun q hq => by
        obtain ⟨r, o⟩ := q
        obtain ⟨a, b⟩ := hq
        dsimp only at a b
        rw [a]
        exact QB_go b.1.2.1.2 (hP o b)
      refine pc_rg (pc_if (fun c => ?_) (fun c => ?_))
      · have ex : x = 1 := by omega
        subst ex
        exact pc_mono (y_L247 hK FU E S hR hE) fin
      · have ex : x = 2 := by omega
        subst ex
        exact pc_mono (y_L247 hK FU E S hR hE) fin
    refine pc_rg (pc_if (fun _ => pc_bq (r_look h) (fun q127 h127 => ?_)) (fun c => absurd hb0 c))
    obtain ⟨hS, h2, h1⟩ := h127
    refine pc_rg (pc_if (fun c => by omega) (fun c => ?_))
    unfold m_x12_qGoesOn_J122
    refine pc_bq (r_sign hS (by omega)) (fun q69 h69 => pc_rg (pc_if (fun c2 => ?_) (fun c2 => by omega)))
    rcases h69 with g | ⟨_, g2, g3, g4⟩
    · omega
    · refine pc_bq (r_sign g3 (by omega)) (fun q74 h74 => pc_rg (pc_if (fun c3 => ?_) (fun c3 => by omega)))
      rcases h74 with g | ⟨_, _, g5, _⟩
      · omega
      · refine pc_bq (r_sign g5 (by omega)) (fun q79 h79 => pc_rg (pc_if (fun c4 => ?_) (fun c4 => ?_)))
        · rcases h79 with g | ⟨_, g6, g7, _⟩
          · omega
          · refine pc_bq (r_sign g7 (by omega)) (fun q84 h84 => pc_rg (pc_if (fun c5 => ?_) (fun c5 => ?_)))
            · exfalso
              rcases h84 with g | ⟨_, g8, _⟩
              · omega
              · rcases hx with hx | hx
                · exact g6 ⟨hk, hx.1⟩
                · exact g8 ⟨hk, hx.1⟩
            · rcases h84 with ⟨_, _, _, g8, g9⟩ | g
              · exact J225 _ g8 (g9 s' e).1
              · exact absurd g.1 c5
        · rcases h79 with ⟨_, _, _, g8, g9⟩ | g
          · exact J225 _ g8 (g9 s' e).1
          · exact absurd g.1 c4
/-- what comes when no sign goes on -/
def tl122 (S : MS) : Option (Int × MS) := bn (m_x12_qBracket S) (fun r88 => rg r88 (if r88 = 21 then m_x12_qGoesOn_J326 S else bn (m_x12_qBracket S) (fun r92 => rg r92 (if r92 = 22 then m_x12_qGoesOn_J326 S else bn (m_x12_qBracket S) (fun r96 => rg r96 (if r96 = (-1) then m_x12_qGoesOn_J386 S else rg (gI S 5) (if (gI S 5) = 0 then bn (m_x12_fail 1 (gI S 2) S) (fun s102 => m_x12_qGoesOn_J386 s102) else m_x12_qGoesOn_J386 S)))))))
theorem y_J122 {t : MS} {Q : Int × MS → Prop} (h : REL k0 b0 f0 s t K E) (hn : ¬ OPS s) (hQ : ∀ S, REL k0 b0 f0 s S K E → gI S 2 = gI s 108 → pc (tl122 S) Q) : pc (m_x12_qGoesOn_J122 t) Q := by
  unfold m_x12_qGoesOn_J122
  refine pc_bq (r_sign h (by omega)) (fun q69 h69 => pc_rg (pc_if (fun c2 => ?_) (fun c2 => ?_)))
  · rcases h69 with g | ⟨_, _, g3, _⟩
    · omega
    · refine pc_bq (r_sign g3 (by omega)) (fun q74 h74 => pc_rg (pc_if (fun c3 => ?_) (fun c3 => ?_)))
      · rcases h74 with g | ⟨_, _, g5, _⟩
        · omega
        · refine pc_bq (r_sign g5 (by omega)) (fun q79 h79 => pc_rg (pc_if (fun c4 => ?_) (fun c4 => ?_)))
          · rcases h79 with g | ⟨_, _, g7, _⟩
            · omega
            · refine pc_bq (r_sign g7 (by omega)) (fun q84 h84 => pc_rg (pc_if (fun c5 => ?_) (fun c5 => ?_)))
              · rcases h84 with g | ⟨_, _, g9, g10⟩
                · omega
                · exact hQ q84.2 g9 g10
              · rcases h84 with ⟨_, a, b, _⟩ | g
                · exact absurd ⟨a, by omega⟩ hn
                · exact absurd g.1 c5
          · rcases h79 with ⟨_, a, b, _⟩ | g
            · exact absurd ⟨a, by omega⟩ hn
            · exact absurd g.1 c4
      · rcases h74 with ⟨_, a, b, _⟩ | g
        · exact absurd ⟨a, by omega⟩ hn
        · exact absurd g.1 c3
  · rcases h69 with ⟨_, a, b, _⟩ | g
    · exact absurd ⟨a, by omega⟩ hn
    · exact absurd g.1 c2
/-- behind a part, when no sign goes on, and none closes -/
theorem PB_tail {t : MS} (h : REL k0 b0 f0 s t K E) (hn : ¬ OPS s) (hc : gI s 111 = 41 → ¬ (brj (E ++ K) = 20 ∨ brj (E ++ K) = 23 ∨ brj (E ++ K) = 24)) (hQ : ∀ S, REL k0 b0 f0 s S K E → gI S 2 = gI s 108 → pc (tl122 S) (QB P x13)) : PB P x13 t := fun m => by
  cases m with
  | zero => exact pc_none
  | succ m =>
    show pc (m_x12_qGoesOn_b0 (m_x12_qGoesOn_L0 m) t) _
    unfold m_x12_qGoesOn_b0
    have hb0 : gI t 5 = 0 := h.1.2.1.2
    refine pc_rg (pc_if (fun _ => pc_bq (r_look h) (fun q127 h127 => ?_)) (fun c => absurd hb0 c))
    obtain ⟨hS, h2, h1⟩ := h127
    have br := y_bracket hS.2.2.1.1.1 hS.2.2.1.2
    refine pc_rg (pc_if (fun c => ?_) (fun c => y_J122 hS hn hQ))
    have hc := hc (by omega)
    exact pc_bq br (fun r131 h131 => pc_rg (pc_if (fun c2 => by omega) (fun c2 => pc_bq br (fun r135 h135 => pc_rg (pc_if (fun c3 => by omega) (fun c3 => pc_bq br (fun r139 h139 => pc_rg (pc_if (fun c4 => by omega) (fun c4 => y_J122 hS hn hQ)))))))))
theorem y_tail {S : MS} {Q : Int × MS → Prop} (h : REL k0 b0 f0 s S K E) (h1 : brj (E ++ K) = 21 ∨ brj (E ++ K) = 22 → pc (m_x12_qGoesOn_J326 S) Q) (h2 : brj (E ++ K) = -1 → Q (0, S)) (h3 : brj (E ++ K) ≠ 21 → brj (E ++ K) ≠ 22 → brj (E ++ K) ≠ -1 → pc (bn (m_x12_fail 1 (gI S 2) S) (fun s102 => m_x12_qGoesOn_J386 s102)) Q) : pc (tl122 S) Q := by
  have br := y_bracket h.2.2.1.1.1 h.2.2.1.2
  have hb0 : gI S 5 = 0 := h.1.2.1.2
  unfold tl122
  refine pc_bq br (fun r88 h88 => pc_rg (pc_if (fun c => h1 (by omega)) (fun c => pc_bq br (fun r92 h92 => pc_rg (pc_if (fun c2 => h1 (by omega)) (fun c2 => pc_bq br (fun r96 h96 => pc_rg (pc_if (fun c3 => ?_) (fun c3 => pc_rg (pc_if (fun _ => h3 (by omega) (by omega) (by omega)) (fun c4 => absurd hb0 c4)))))))))))
  unfold m_x12_qGoesOn_J386
  exact pc_some (h2 (by omega))
theorem brk_E {E K : List Int} (hE : ∀ e, e ∈ E → 1 ≤ e ∧ e ≤ 4) : brj (E ++ K) = brj K := by
  induction E with
  | nil => rfl
  | cons e E ih =>
    have q := hE e (List.mem_cons_self)
    show (if 20 ≤ e ∧ e ≤ 24 then e else brj (E ++ K)) = brj K
    rw [if_neg (by omega)]
    exact ih (fun y hy => hE y (List.mem_cons_of_mem _ hy))
/-- the sum ends -/
theorem PB_end {t : MS} (h : REL k0 b0 f0 s t [] E) (hE : ∀ e, e ∈ E → 1 ≤ e ∧ e ≤ 4) (hn : ¬ OPS s) (hP : ∀ o, FIN k0 b0 f0 s x13 o → P o) : PB P x13 t := by
  have e1 : brj (E ++ []) = -1 := brk_E hE
  refine PB_tail h hn (fun _ => by omega) (fun S hS h2 => y_tail hS (fun q => by omega) (fun _ => QB_end hS hP) (fun _ _ q => absurd e1 q))
/-- a sign that closes is wanting -/
theorem PB_open {t : MS} {b : Int} (h : REL k0 b0 f0 s t (b :: K) E) (hb : b = 20 ∨ b = 23 ∨ b = 24) (hE : ∀ e, e ∈ E → 1 ≤ e ∧ e ≤ 4) (hn : ¬ OPS s) (h41 : ¬ (gI s 107 = 3 ∧ gI s 111 = 41)) (hs : gI s' 100 = 1 ∧ gI s' 101 = gI s 108) (hP : ∀ o, BR s' o → P o) : PB P x13 t := by
  have e1 : brj (E ++ b :: K) = b := by
    rw [brk_E hE]
    show (if 20 ≤ b ∧ b ≤ 24 then b else brj K) = b
    exact if_pos (by omega)
  refine PB_tail h hn (fun q => ?_) (fun S hS h2 => y_tail hS (fun q => by omega) (fun q => by omega) (fun _ _ _ => ?_))
  · exfalso
    exact h41 ⟨TK_3 h.1.2.2.1.1 (by omega), q⟩
  · refine pc_bq (m_fail hS.1.2.1.2) (fun s102 h102 => ?_)
    unfold m_x12_qGoesOn_J386
    rw [h2] at h102
    exact pc_some (QB_bad (BR_P (BR_mk (by decide) hs h102) hP))
end RB2
