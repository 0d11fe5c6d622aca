/-! ===== products and sums ===== -/
def MUL (s : MS) : Prop := gI s 107 = 3 ∧ (gI s 111 = 42 ∨ gI s 111 = 47)
def ADD (s : MS) : Prop := gI s 107 = 3 ∧ (gI s 111 = 43 ∨ gI s 111 = 45)
section RH
variable {rgs : (MS → Option MS) × (MS → Option MS)}
theorem s_prodL {lr : Int → MS → Option MS} {x2 : Int} {s : MS} : pc (m_x6_readProduct_b6 rgs lr x2 s) (fun s' => (¬ MUL s ∧ s' = s) ∨ (1600 ≤ x2 ∧ s' = s) ∨ ((MUL s ∧ x2 < 1600) ∧ ∃ c s8 s10 s13, ((gI s 111 = 42 ∧ c = -3) ∨ (gI s 111 = 47 ∧ c = -4)) ∧ m_x6_advance s = some s8 ∧ m_x6_readPart rgs s8 = some s10 ∧ m_x0_add c s10 = some s13 ∧ lr (x2 + 1) s13 = some s')) := by
  unfold m_x6_readProduct_b6 m_x6_readProduct_J70 m_x6_readProduct_J31 m_x6_readProduct_J47
  have J : MUL s → x2 < 1600 → pc (bn (m_x6_isSign 42 s) (fun r17 => rg r17 (if r17 = 0 then bn (m_x6_advance s) (fun s8 => bn (m_x6_readPart rgs s8) (fun s10 => eqg (gI s10 9999) 2 (bn (m_x0_add (-4) s10) (fun s13 => lr (x2 + 1) s13)))) else bn (m_x6_advance s) (fun s8 => bn (m_x6_readPart rgs s8) (fun s10 => eqg (gI s10 9999) 2 (bn (m_x0_add (-3) s10) (fun s13 => lr (x2 + 1) s13))))))) (fun s' => (¬ MUL s ∧ s' = s) ∨ (1600 ≤ x2 ∧ s' = s) ∨ ((MUL s ∧ x2 < 1600) ∧ ∃ c s8 s10 s13, ((gI s 111 = 42 ∧ c = -3) ∨ (gI s 111 = 47 ∧ c = -4)) ∧ m_x6_advance s = some s8 ∧ m_x6_readPart rgs s8 = some s10 ∧ m_x0_add c s10 = some s13 ∧ lr (x2 + 1) s13 = some s')) := fun hm hx => by
    have hm' := hm
    unfold MUL at hm'
    refine pc_bq s_isSign (fun r17 h17 => pc_rg (pc_if (fun c => pc_bn (fun s8 e8 => pc_bn (fun s10 e10 => pc_eqg (pc_bn (fun s13 e13 => fun o eo => Or.inr (Or.inr ⟨⟨hm, hx⟩, -4, s8, s10, s13, by omega, e8, e10, e13, eo⟩)))))) (fun c => pc_bn (fun s8 e8 => pc_bn (fun s10 e10 => pc_eqg (pc_bn (fun s13 e13 => fun o eo => Or.inr (Or.inr ⟨⟨hm, hx⟩, -3, s8, s10, s13, by omega, e8, e10, e13, eo⟩))))))))
  refine pc_rg (pc_if (fun c => pc_some (Or.inr (Or.inl ⟨c, rfl⟩))) (fun c => pc_bq s_isSign (fun r23 h23 => pc_rg (pc_if (fun c2 => pc_bq s_isSign (fun r27 h27 => pc_rg (pc_if (fun c3 => pc_some (Or.inl ⟨fun hm => ?_, rfl⟩)) (fun c3 => J ?_ (by omega))))) (fun c2 => J ?_ (by omega))))))
  · unfold MUL at hm
    omega
  · unfold MUL
    omega
  · unfold MUL
    omega
theorem s_sumL {lr : Int → MS → Option MS} {x2 : Int} {s : MS} : pc (m_x6_readSum_b6 rgs lr x2 s) (fun s' => (¬ ADD s ∧ s' = s) ∨ (1600 ≤ x2 ∧ s' = s) ∨ ((ADD s ∧ x2 < 1600) ∧ ∃ c s8 s10 s13, ((gI s 111 = 43 ∧ c = -1) ∨ (gI s 111 = 45 ∧ c = -2)) ∧ m_x6_advance s = some s8 ∧ m_x6_readProduct rgs s8 = some s10 ∧ m_x0_add c s10 = some s13 ∧ lr (x2 + 1) s13 = some s')) := by
  unfold m_x6_readSum_b6 m_x6_readSum_J69 m_x6_readSum_J31 m_x6_readSum_J46
  have J : ADD s → x2 < 1600 → pc (bn (m_x6_isSign 43 s) (fun r17 => rg r17 (if r17 = 0 then bn (m_x6_advance s) (fun s8 => bn (m_x6_readProduct rgs s8) (fun s10 => eqg (gI s10 9999) 2 (bn (m_x0_add (-2) s10) (fun s13 => lr (x2 + 1) s13)))) else bn (m_x6_advance s) (fun s8 => bn (m_x6_readProduct rgs s8) (fun s10 => eqg (gI s10 9999) 2 (bn (m_x0_add (-1) s10) (fun s13 => lr (x2 + 1) s13))))))) (fun s' => (¬ ADD s ∧ s' = s) ∨ (1600 ≤ x2 ∧ s' = s) ∨ ((ADD s ∧ x2 < 1600) ∧ ∃ c s8 s10 s13, ((gI s 111 = 43 ∧ c = -1) ∨ (gI s 111 = 45 ∧ c = -2)) ∧ m_x6_advance s = some s8 ∧ m_x6_readProduct rgs s8 = some s10 ∧ m_x0_add c s10 = some s13 ∧ lr (x2 + 1) s13 = some s')) := fun hm hx => by
    have hm' := hm
    unfold ADD at hm'
    refine pc_bq s_isSign (fun r17 h17 => pc_rg (pc_if (fun c => pc_bn (fun s8 e8 => pc_bn (fun s10 e10 => pc_eqg (pc_bn (fun s13 e13 => fun o eo => Or.inr (Or.inr ⟨⟨hm, hx⟩, -2, s8, s10, s13, by omega, e8, e10, e13, eo⟩)))))) (fun c => pc_bn (fun s8 e8 => pc_bn (fun s10 e10 => pc_eqg (pc_bn (fun s13 e13 => fun o eo => Or.inr (Or.inr ⟨⟨hm, hx⟩, -1, s8, s10, s13, by omega, e8, e10, e13, eo⟩))))))))
  refine pc_rg (pc_if (fun c => pc_some (Or.inr (Or.inl ⟨c, rfl⟩))) (fun c => pc_bq s_isSign (fun r23 h23 => pc_rg (pc_if (fun c2 => pc_bq s_isSign (fun r27 h27 => pc_rg (pc_if (fun c3 => pc_some (Or.inl ⟨fun hm => ?_, rfl⟩)) (fun c3 => J ?_ (by omega))))) (fun c2 => J ?_ (by omega))))))
  · unfold ADD at hm
    omega
  · unfold ADD
    omega
  · unfold ADD
    omega
theorem fk_PL (f1 : FKr rgs.1) (f2 : FKr rgs.2) : ∀ (n : Nat) (x2 : Int) (s : MS), pc (m_x6_readProduct_L6 rgs n x2 s) (fun o => FKp 100 101 s o) := by
  refine fr_ind (fun _ _ => pc_none) (fun n ih x2 s => ?_)
  show pc (m_x6_readProduct_b6 rgs (m_x6_readProduct_L6 rgs n) x2 s) _
  refine pc_mono s_prodL (fun o h => ?_)
  rcases h with ⟨_, e⟩ | ⟨_, e⟩ | ⟨_, c, s8, s10, s13, _, e8, e10, e13, eo⟩
  · rw [e]; exact FKp.rf s
  · rw [e]; exact FKp.rf s
  · exact (((FKp.of (fr_x6_advance e8) (by decide) (by decide)).tr (fk_x6_readPart f1 f2 s10 e10)).tr (FKp.of (fr_x0_add e13) (by decide) (by decide))).tr (ih _ s13 o eo)
theorem fk_SL (f1 : FKr rgs.1) (f2 : FKr rgs.2) : ∀ (n : Nat) (x2 : Int) (s : MS), pc (m_x6_readSum_L6 rgs n x2 s) (fun o => FKp 100 101 s o) := by
  refine fr_ind (fun _ _ => pc_none) (fun n ih x2 s => ?_)
  show pc (m_x6_readSum_b6 rgs (m_x6_readSum_L6 rgs n) x2 s) _
  refine pc_mono s_sumL (fun o h => ?_)
  rcases h with ⟨_, e⟩ | ⟨_, e⟩ | ⟨_, c, s8, s10, s13, _, e8, e10, e13, eo⟩
  · rw [e]; exact FKp.rf s
  · rw [e]; exact FKp.rf s
  · exact (((FKp.of (fr_x6_advance e8) (by decide) (by decide)).tr (fk_x6_readProduct f1 f2 s10 e10)).tr (FKp.of (fr_x0_add e13) (by decide) (by decide))).tr (ih _ s13 o eo)
theorem cr_op {c x : Int} (h : -12 ≤ c ∧ c ≤ -1 ∧ x = -c) : cr c x := Or.inr (Or.inl h)
/-- a product's loop -/
theorem SPL (hp : SPart (m_x6_readPart rgs)) (f1 : FKr rgs.1) (f2 : FKr rgs.2) : ∀ (n : Nat) (x2 : Int) (s s' : MS), m_x6_readProduct_L6 rgs n x2 s = some s' → ∀ (t : MS) (K E : List Int) (k0 b0 : Int) (f0 : Nat → Int) (P : MS → Prop) (x13 : Int), REL k0 b0 f0 s t K E → (∀ e, e ∈ E → e = 3 ∨ e = 4) → ¬ (hdk K = 3 ∨ hdk K = 4) → (0 ≤ x2 ∧ x2 ≤ gI s 108) → (gI s' 100 = 0 → gI s 108 ≤ gI s' 108 → gI s' 941 - gI s 941 ≤ gI s' 108 - gI s 108 → ¬ MUL s' → ∀ (o : MS) (E' : List Int), REL k0 b0 f0 s' o K E' → (∀ e, e ∈ E' → e = 3 ∨ e = 4) → PB P x13 o) → (∀ o, BR s' o → P o) → PB P x13 t := by
  refine fr_ind (fun x2 s s' e => by cases e) (fun n ih x2 s s' e t K E k0 b0 f0 P x13 hR hE hK hx hC hF => ?_)
  have hT := hR.1.2.2.1.1
  have k1 := hT.1
  have h5 := hR.2.2.2.2.1
  have e : m_x6_readProduct_b6 rgs (m_x6_readProduct_L6 rgs n) x2 s = some s' := e
  rcases s_prodL s' e with ⟨nm, es⟩ | ⟨hb, es⟩ | ⟨⟨hm, _⟩, c, s8, s10, s13, hc, e8, e10, e13, eo⟩
  · rw [es] at hC
    exact hC hR.1.2.1.1 (by omega) (by omega) nm t E hR hE
  · rw [es] at hC
    refine hC hR.1.2.1.1 (by omega) (by omega) (fun hm => ?_) t E hR hE
    have := (TK_3' hT hm.1).1
    omega
  · have t3 := TK_3' hT hm.1
    have F8 : F_x6_advance s s8 := fr_x6_advance e8
    have z941 : gI s8 941 = gI s 941 := F8.1 941 (by decide)
    have p8 := advs hT e8 hR.1.2.1.1 hR.1.2.2.1.2.1 hR.1.2.2.1.2.2
    have kf : FKp 100 101 s10 s' := (FKp.of (fr_x0_add e13) (by decide) (by decide)).tr (fk_PL f1 f2 n _ s13 s' eo)
    have run : ∀ x : Int, ((gI s 111 = 42 ∧ x = 3) ∨ (gI s 111 = 47 ∧ x = 4)) → cr c x → PB P x13 t := fun x hx3 hcx => by
      refine PB_mul hR hE hK hm.1 hx3 e8 (fun o hRo => ?_)
      refine hp s8 s10 o (x :: K) k0 b0 f0 P x13 e10 hRo (fun z10 l10 gr o2 hR2 => ?_) (fun o hb => hF o (BR_b kf hb))
      refine PE_top hR2 (by show x < 60; omega) ?_
      obtain ⟨hR3, w1, w2⟩ := REL_add hR2 hcx (by omega) e13
      have w8 := w2 108 (by decide)
      refine ih (x2 + 1) s13 s' eo o2 K [x] k0 b0 f0 P x13 hR3 (fun e he => ?_) hK (by omega) (fun a b d f => hC a (by omega) (by omega) f) hF
      rw [List.mem_singleton.mp he]; omega
    rcases hc with ⟨q1, q2⟩ | ⟨q1, q2⟩
    · exact run 3 (Or.inl ⟨q1, rfl⟩) (cr_op (by omega))
    · exact run 4 (Or.inr ⟨q1, rfl⟩) (cr_op (by omega))
def SProd (g : MS → Option MS) : Prop := ∀ (s s' t : MS) (K : List Int) (k0 b0 : Int) (f0 : Nat → Int) (P : MS → Prop) (x13 : Int), g s = some s' → REL k0 b0 f0 s t K [] → (¬ (hdk K = 3 ∨ hdk K = 4) ∧ hdk K < 60) → (gI s' 100 = 0 → gI s 108 < gI s' 108 → gI s' 941 - gI s 941 ≤ gI s' 108 - gI s 108 → ¬ MUL s' → ∀ (o : MS) (E : List Int), REL k0 b0 f0 s' o K E → (∀ e, e ∈ E → e = 3 ∨ e = 4) → PB P x13 o) → (∀ o, BR s' o → P o) → PA P x13 t
theorem SProd_of (hp : SPart (m_x6_readPart rgs)) (f1 : FKr rgs.1) (f2 : FKr rgs.2) : SProd (m_x6_readProduct rgs) := by
  intro s s' t K k0 b0 f0 P x13 e hR hK hC hF
  have g : pc (m_x6_readProduct rgs s) (fun o => ∃ u, m_x6_readPart rgs s = some u ∧ m_x6_readProduct_L6 rgs FU 0 u = some o) := by
    unfold m_x6_readProduct
    exact pc_bn (fun u eu => fun o eo => ⟨u, eu, eo⟩)
  obtain ⟨u, eu, eo⟩ := g s' e
  refine hp s u t K k0 b0 f0 P x13 eu hR (fun z l gr o hRo => ?_) (fun o hb => hF o (BR_b (fk_PL f1 f2 FU 0 u s' eo) hb))
  have k1 := hRo.1.2.2.1.1.1
  refine PE_top hRo hK.2 (SPL hp f1 f2 FU 0 u s' eo o K [] k0 b0 f0 P x13 hRo (fun e he => absurd he (List.not_mem_nil)) hK.1 (by omega) (fun a b c d => hC a (by omega) (by omega) d) hF)
theorem MUL_e {s o : MS} (h : ∀ i, i ≠ 941 → gI o i = gI s i) (hn : ¬ MUL s) : ¬ MUL o := fun q => hn (by
  unfold MUL at q ⊢
  rw [h 107 (by decide), h 111 (by decide)] at q
  exact q)
theorem SSL (hp : SProd (m_x6_readProduct rgs)) (f1 : FKr rgs.1) (f2 : FKr rgs.2) : ∀ (n : Nat) (x2 : Int) (s s' : MS), m_x6_readSum_L6 rgs n x2 s = some s' → ∀ (t : MS) (K E : List Int) (k0 b0 : Int) (f0 : Nat → Int) (P : MS → Prop) (x13 : Int), REL k0 b0 f0 s t K E → (∀ e, e ∈ E → 1 ≤ e ∧ e ≤ 4) → (¬ (1 ≤ hdk K ∧ hdk K ≤ 4) ∧ hdk K < 60) → ¬ MUL s → (0 ≤ x2 ∧ x2 ≤ gI s 108) → (gI s' 100 = 0 → gI s 108 ≤ gI s' 108 → gI s' 941 - gI s 941 ≤ gI s' 108 - gI s 108 → ¬ OPS s' → ∀ (o : MS) (E' : List Int), REL k0 b0 f0 s' o K E' → (∀ e, e ∈ E' → 1 ≤ e ∧ e ≤ 4) → PB P x13 o) → (∀ o, BR s' o → P o) → PB P x13 t := by
  refine fr_ind (fun x2 s s' e => by cases e) (fun n ih x2 s s' e t K E k0 b0 f0 P x13 hR hE hK hM hx hC hF => ?_)
  have hT := hR.1.2.2.1.1
  have k1 := hT.1
  have h5 := hR.2.2.2.2.1
  have e : m_x6_readSum_b6 rgs (m_x6_readSum_L6 rgs n) x2 s = some s' := e
  have ops : ¬ ADD s → ¬ OPS s := fun na q => by
    unfold OPS at q
    unfold ADD at na
    unfold MUL at hM
    omega
  rcases s_sumL s' e with ⟨nm, es⟩ | ⟨hb, es⟩ | ⟨⟨hm, _⟩, c, s8, s10, s13, hc, e8, e10, e13, eo⟩
  · rw [es] at hC
    exact hC hR.1.2.1.1 (by omega) (by omega) (ops nm) t E hR hE
  · rw [es] at hC
    refine hC hR.1.2.1.1 (by omega) (by omega) (ops (fun hm => ?_)) t E hR hE
    have := (TK_3' hT hm.1).1
    omega
  · have t3 := TK_3' hT hm.1
    have F8 : F_x6_advance s s8 := fr_x6_advance e8
    have z941 : gI s8 941 = gI s 941 := F8.1 941 (by decide)
    have p8 := advs hT e8 hR.1.2.1.1 hR.1.2.2.1.2.1 hR.1.2.2.1.2.2
    have kf : FKp 100 101 s10 s' := (FKp.of (fr_x0_add e13) (by decide) (by decide)).tr (fk_SL f1 f2 n _ s13 s' eo)
    have run : ∀ x : Int, ((gI s 111 = 43 ∧ x = 1) ∨ (gI s 111 = 45 ∧ x = 2)) → cr c x → PB P x13 t := fun x hx3 hcx => by
      refine PB_add hR hE hK.1 hm.1 hx3 e8 (fun o hRo => ?_)
      refine hp s8 s10 o (x :: K) k0 b0 f0 P x13 e10 hRo (by show ¬ (x = 3 ∨ x = 4) ∧ x < 60; omega) (fun z10 l10 gr nm10 o2 E2 hR2 hE2 => ?_) (fun o hb => hF o (BR_b kf hb))
      obtain ⟨hR3, w1, w2⟩ := REL_add hR2 hcx (by omega) e13
      have w8 := w2 108 (by decide)
      refine ih (x2 + 1) s13 s' eo o2 K (E2 ++ [x]) k0 b0 f0 P x13 hR3 (fun e he => ?_) hK (MUL_e w2 nm10) (by omega) (fun a b d f => hC a (by omega) (by omega) f) hF
      rcases List.mem_append.mp he with q | q
      · have := hE2 e q
        omega
      · rw [List.mem_singleton.mp q]; omega
    rcases hc with ⟨q1, q2⟩ | ⟨q1, q2⟩
    · exact run 1 (Or.inl ⟨q1, rfl⟩) (cr_op (by omega))
    · exact run 2 (Or.inr ⟨q1, rfl⟩) (cr_op (by omega))
theorem SSum_of (hp : SProd (m_x6_readProduct rgs)) (f1 : FKr rgs.1) (f2 : FKr rgs.2) : SSum (m_x6_readSum rgs) := by
  intro s s' t K k0 b0 f0 P x13 e hR hK hC hF
  have g : pc (m_x6_readSum rgs s) (fun o => ∃ u, m_x6_readProduct rgs s = some u ∧ m_x6_readSum_L6 rgs FU 0 u = some o) := by
    unfold m_x6_readSum
    exact pc_bn (fun u eu => fun o eo => ⟨u, eu, eo⟩)
  obtain ⟨u, eu, eo⟩ := g s' e
  refine hp s u t K k0 b0 f0 P x13 eu hR ⟨by omega, hK.2⟩ (fun z l gr nm o E hRo hE => ?_) (fun o hb => hF o (BR_b (fk_SL f1 f2 FU 0 u s' eo) hb))
  have k1 := hRo.1.2.2.1.1.1
  refine SSL hp f1 f2 FU 0 u s' eo o K E k0 b0 f0 P x13 hRo (fun e he => by have := hE e he; omega) hK nm (by omega) (fun a b c d => hC a (by omega) (by omega) d) hF
end RH
theorem S_RG1 : ∀ n : Nat, SSum (RG1 n).1 ∧ SPart (RG1 n).2 := by
  refine fr_ind ⟨fun s s' _ _ _ _ _ _ _ e => (by cases e), fun s s' _ _ _ _ _ _ _ e => (by cases e)⟩ (fun n ih => ?_)
  have f := fk_RG1 n
  have p := SPart_of ih.1 ih.2 f.1 f.2
  exact ⟨SSum_of (SProd_of p f.1 f.2) f.1 f.2, p⟩
theorem S_sumC : SSum m_x6_readSumC := (S_RG1 8).1
theorem L15_go {P : MS → Prop} {x13 : Int} {t : MS} (h0 : gI t 5 = 0) (h : PA P x13 t) (n : Nat) : pc (m_x12_qSums_L15 n x13 1 t) P := by
  cases n with
  | zero => exact pc_none
  | succ n =>
    show pc (m_x12_qSums_b15 (m_x12_qSums_L15 n) x13 1 t) P
    unfold m_x12_qSums_b15
    refine pc_rg (pc_if (fun c => absurd c (by decide)) (fun _ => pc_rg (pc_if (fun _ => ?_) (fun c => absurd h0 c))))
    exact pc_bq (h FU) (fun s26 hq => hq n)
/-- a sum, on both sides -/
theorem y_sum {k0 : Int} {s s' t : MS} (hS : SY s t) (hO : OPN s t) (h104 : 0 ≤ gI t 104) (htop : 0 < gI t 104 → ¬ (1 ≤ gA t 103 (gI t 104 - 1).toNat ∧ gA t 103 (gI t 104 - 1).toNat ≤ 4)) (hC : CO k0 s t []) (hb : gI s 941 ≤ gI s 108) (e : m_x6_readSumC s = some s') : pc (m_x12_qSums t) (fun o => ((gI s' 100 = 0 ∧ gI s 108 < gI s' 108 ∧ ¬ OPS s' ∧ gI s' 941 - gI s 941 ≤ gI s' 108 - gI s 108) ∧ FIN k0 (gI t 104) (gA t 103) s' (gI t 106) o) ∨ BR s' o) := by
  unfold m_x12_qSums
  refine pc_stn (fun s34 e34 => ?_)
  have kI : ∀ i, i ≠ 106 → gI s34 i = gI t i := fun i hi => q_Ii e34 hi
  have kA : ∀ k, gA s34 k = gA t k := fun k => q_Ia e34
  have k6 : gI s34 106 = gI t 104 := q_II e34
  have R : REL k0 (gI t 104) (gA t 103) s s34 [] [] := by
    refine ⟨SY_f hS (kI 2 (by decide)) (kI 3 (by decide)) (kI 4 (by decide)) (kI 5 (by decide)) (fun k _ => kA k), OPN_e hO rfl rfl (kI 105 (by decide)) (kI 48 (by decide)), ?_, ?_, hb, k6, fun j _ => by rw [kA]⟩
    · rw [k6, kA, kI 104 (by decide)]
      exact ⟨⟨h104, htop⟩, rfl⟩
    · unfold CO at hC ⊢
      rw [kI 102 (by decide), kA]; exact hC
  refine L15_go R.1.2.1.2 (S_sumC s s' s34 [] k0 (gI t 104) (gA t 103) _ (gI t 106) e R (by show ¬ (1 ≤ (0 : Int) ∧ (0 : Int) ≤ 4) ∧ (0 : Int) < 60; omega) (fun z l gr no o E hRo hE => PB_end hRo hE no (fun o2 hF => Or.inl ⟨⟨z, l, no, gr⟩, hF⟩)) (fun o hb => Or.inr hb)) FU
