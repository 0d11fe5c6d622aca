/-! ===== an act is tried on both sides ===== -/
theorem pc_cpg {α : Type} {sp dp n : Int} {n0 n1 : Nat} {k : Option α} {P : α → Prop} (h : pc k P) : pc (cpg sp dp n n0 n1 k) P := by
  unfold cpg
  split
  · exact h
  · exact pc_none
theorem s_v3 {s : MS} : pc (m_x8_become_v3 s) (fun o => gL o 1422 = gL s 1062) := by
  unfold m_x8_become_v3
  exact pc_stn (fun s1 e1 => pc_stn (fun s2 e2 => pc_stn (fun s3 e3 => pc_cpg (pc_stn (fun s5 e5 => pc_cpg (pc_stn (fun s7 e7 => pc_cpg (pc_stn (fun s9 e9 => pc_cpg (pc_stn (fun s11 e11 => pc_cpg (pc_stn (fun s13 e13 => pc_cpg (pc_stn (fun s15 e15 => pc_cpg (pc_stn (fun s17 e17 => pc_cpg (pc_stn (fun s19 e19 => pc_some ((q_Al e19).trans ((q_Al e17).trans ((q_Al e15).trans ((q_Al e13).trans ((q_Al e11).trans ((q_Al e9).trans ((q_Al e7).trans ((q_Al e5).trans ((q_LL e3 : gL s3 1422 = _).trans ((q_Il e2).trans (q_Il e1))))))))))))))))))))))))))))))
theorem s_v4 {s : MS} : pc (m_x8_become_v4 s) (fun o => gL o 1062 = gL s 1422) := by
  unfold m_x8_become_v4
  exact pc_stn (fun s1 e1 => pc_stn (fun s2 e2 => pc_stn (fun s3 e3 => pc_cpg (pc_stn (fun s5 e5 => pc_cpg (pc_stn (fun s7 e7 => pc_cpg (pc_stn (fun s9 e9 => pc_cpg (pc_stn (fun s11 e11 => pc_cpg (pc_stn (fun s13 e13 => pc_cpg (pc_stn (fun s15 e15 => pc_cpg (pc_stn (fun s17 e17 => pc_cpg (pc_stn (fun s19 e19 => pc_some ((q_Al e19).trans ((q_Al e17).trans ((q_Al e15).trans ((q_Al e13).trans ((q_Al e11).trans ((q_Al e9).trans ((q_Al e7).trans ((q_Al e5).trans ((q_LL e3 : gL s3 1062 = _).trans ((q_Il e2).trans (q_Il e1))))))))))))))))))))))))))))))
theorem pc_bo2 {α : Type} {v : Int} {k : Option α} {P : α → Prop} (h : v = 0 ∨ v = 1 → pc k P) : pc (bo v k) P := by
  unfold bo
  split
  · rename_i q; exact h q
  · exact pc_none
/-- what was put by for a try that fails -/
def SVm (t X : MS) : Prop := (∀ k, k ≠ 59 → k ≠ 60 → gA X k = gA t k) ∧ (∀ i, i < 785 → gA X 59 i = gA t 49 i) ∧ (∀ i, i < 48 → gA X 60 i = gA t 54 i) ∧ (∀ i, i ≠ 55 → gI X i = gI t i) ∧ gI X 55 = 0 ∧ (Rr t → Rr X)
def BKm (Y o : MS) : Prop := (∀ k, k ≠ 49 → k ≠ 54 → gA o k = gA Y k) ∧ (∀ i, i < 785 → gA o 49 i = gA Y 59 i) ∧ (∀ i, 785 ≤ i → gA o 49 i = gA Y 49 i) ∧ (∀ i, i < 48 → gA o 54 i = gA Y 60 i) ∧ (∀ i, i ≠ 55 → gI o i = gI Y i) ∧ gI o 55 = 0
theorem m_back {Y : MS} : pc (m_x12_tries_L133 FU 0 Y) (fun o => o.1 = 0 ∧ BKm Y o.2) := by
  have L164 : ∀ (n : Nat) (x : Int) (S : MS), (0 ≤ x ∧ x ≤ 48) → (∀ k, k ≠ 49 → k ≠ 54 → gA S k = gA Y k) → (∀ i, i < 785 → gA S 49 i = gA Y 59 i) → (∀ i, 785 ≤ i → gA S 49 i = gA Y 49 i) → (∀ i : Nat, (i : Int) < x → gA S 54 i = gA Y 60 i) → (∀ i, gI S i = gI Y i) → pc (m_x12_tries_L164 n x S) (fun o => o.1 = 0 ∧ BKm Y o.2) := by
    refine fr_ind (fun _ _ _ _ _ _ _ _ => pc_none) (fun n ih x S hx h1 h2 h3 h4 h5 => ?_)
    show pc (m_x12_tries_b164 (m_x12_tries_L164 n) x S) _
    unfold m_x12_tries_b164
    refine pc_rg (pc_if (fun c => pc_stn (fun s5 e5 => pc_some ⟨rfl, fun k k1 k2 => (q_Ia e5).trans (h1 k k1 k2), fun i hi => by rw [(q_Ia e5 : gA s5 49 = gA S 49)]; exact h2 i hi, fun i hi => by rw [(q_Ia e5 : gA s5 49 = gA S 49)]; exact h3 i hi, fun i hi => by rw [(q_Ia e5 : gA s5 54 = gA S 54)]; exact h4 i (by omega), fun i hi => (q_Ii e5 hi).trans (h5 i), q_II e5⟩)) (fun c => pc_rdI (fun _ => pc_inb (pc_bo (pc_stn (fun s9 e9 => ih (x + 1) s9 (by omega) (fun k k1 k2 => (q_Aa e9 k2).trans (h1 k k1 k2)) (fun i hi => by rw [(q_Aa e9 (by decide) : gA s9 49 = gA S 49)]; exact h2 i hi) (fun i hi => by rw [(q_Aa e9 (by decide) : gA s9 49 = gA S 49)]; exact h3 i hi) (fun i hi => ?_) (fun i => (q_Ai e9).trans (h5 i))))))))
    rw [(q_AA e9 : gA s9 54 = _)]
    by_cases z : i = x.toNat
    · rw [z, upZ_s, h1 60 (by decide) (by decide)]
    · rw [upZ_n z]; exact h4 i (by omega)
  have L133 : ∀ (n : Nat) (x : Int) (S : MS), (0 ≤ x ∧ x ≤ 785) → (∀ k, k ≠ 49 → gA S k = gA Y k) → (∀ i : Nat, (i : Int) < x → gA S 49 i = gA Y 59 i) → (∀ i, 785 ≤ i → gA S 49 i = gA Y 49 i) → (∀ i, gI S i = gI Y i) → pc (m_x12_tries_L133 n x S) (fun o => o.1 = 0 ∧ BKm Y o.2) := by
    refine fr_ind (fun _ _ _ _ _ _ _ => pc_none) (fun n ih x S hx h1 h2 h3 h5 => ?_)
    show pc (m_x12_tries_b133 (m_x12_tries_L133 n) x S) _
    unfold m_x12_tries_b133
    refine pc_rg (pc_if (fun c => L164 FU 0 S (by omega) (fun k k1 _ => h1 k k1) (fun i hi => h2 i (by omega)) h3 (fun i hi => absurd hi (by omega)) h5) (fun c => pc_rdI (fun _ => pc_inb (pc_stn (fun s16 e16 => ih (x + 1) s16 (by omega) (fun k hk => (q_Aa e16 hk).trans (h1 k hk)) (fun i hi => ?_) (fun i hi => by rw [(q_AA e16 : gA s16 49 = _), upZ_n (by omega)]; exact h3 i hi) (fun i => (q_Ai e16).trans (h5 i)))))))
    rw [(q_AA e16 : gA s16 49 = _)]
    by_cases z : i = x.toNat
    · rw [z, upZ_s, h1 59 (by decide)]
    · rw [upZ_n z]; exact h2 i (by omega)
  exact L133 FU 0 Y (by omega) (fun _ _ => rfl) (fun i hi => absurd hi (by omega)) (fun _ _ => rfl) (fun _ => rfl)
theorem m_tries2 {v : Nat} {key val : Int} {t : MS} : pc (m_x12_tries 2 (v : Int) key val t) (fun o => ∃ X Y, SVm t X ∧ m_x12_puts (v : Int) key val X = some Y ∧ ((gI Y 55 = 0 ∧ o = (1, Y)) ∨ (gI Y 55 ≠ 0 ∧ o.1 = 0 ∧ BKm Y o.2))) := by
  have L34 : ∀ (n : Nat) (x : Int) (S : MS), (0 ≤ x ∧ x ≤ 48) → (∀ k, k ≠ 59 → k ≠ 60 → gA S k = gA t k) → (∀ i, i < 785 → gA S 59 i = gA t 49 i) → (∀ i : Nat, (i : Int) < x → gA S 60 i = gA t 54 i) → (∀ i, gI S i = gI t i) → (Rr t → Rr S) → pc (m_x12_tries_L34 n 2 (v : Int) key val x S) (fun o => ∃ X Y, SVm t X ∧ m_x12_puts (v : Int) key val X = some Y ∧ ((gI Y 55 = 0 ∧ o = (1, Y)) ∨ (gI Y 55 ≠ 0 ∧ o.1 = 0 ∧ BKm Y o.2))) := by
    refine fr_ind (fun _ _ _ _ _ _ _ _ => pc_none) (fun n ih x S hx h1 h2 h3 h5 h6 => ?_)
    show pc (m_x12_tries_b34 (m_x12_tries_L34 n) 2 (v : Int) key val x S) _
    unfold m_x12_tries_b34 m_x12_tries_J81 m_x12_tries_J82 m_x12_tries_J121
    refine pc_rg (pc_if (fun c => pc_rg (pc_if (fun c2 => absurd c2 (by decide)) (fun _ => pc_bo (pc_stn (fun X eX => pc_rg (pc_if (fun _ => pc_rg (pc_if (fun _ => pc_bn (fun Y eY => ?_)) (fun c4 => absurd rfl c4))) (fun c3 => absurd (q_II eX) c3))))))) (fun c => pc_rdI (fun _ => pc_inb (pc_bo2 (fun b01 => pc_stn (fun s63 e63 => ih (x + 1) s63 (by omega) (fun k k1 k2 => (q_Aa e63 k2).trans (h1 k k1 k2)) (fun i hi => by rw [(q_Aa e63 (by decide) : gA s63 59 = gA S 59)]; exact h2 i hi) (fun i hi => ?_) (fun i => (q_Ai e63).trans (h5 i)) (fun hr => e63 ▸ Rr.uAu (h6 hr) (by show (0 : Int) ≤ gA S 54 x.toNat ∧ gA S 54 x.toNat ≤ 1; omega))))))))
    · have SX : SVm t X := ⟨fun k k1 k2 => (q_Ia eX).trans (h1 k k1 k2), fun i hi => by rw [(q_Ia eX : gA X 59 = gA S 59)]; exact h2 i hi, fun i hi => by rw [(q_Ia eX : gA X 60 = gA S 60)]; exact h3 i (by omega), fun i hi => (q_Ii eX hi).trans (h5 i), q_II eX, fun hr => eX ▸ Rr.uI (h6 hr) (by show (0 : Int) ≤ 0 ∧ (0 : Int) ≤ 1; omega)⟩
      exact pc_rg (pc_if (fun c5 => pc_some ⟨X, Y, SX, eY, Or.inl ⟨c5, rfl⟩⟩) (fun c5 => pc_mono m_back (fun o ho => ⟨X, Y, SX, eY, Or.inr ⟨c5, ho.1, ho.2⟩⟩)))
    · rw [(q_AA e63 : gA s63 60 = _)]
      by_cases z : i = x.toNat
      · rw [z, upZ_s, h1 54 (by decide) (by decide)]
      · rw [upZ_n z]; exact h3 i (by omega)
  have L3 : ∀ (n : Nat) (x : Int) (S : MS), (0 ≤ x ∧ x ≤ 785) → (∀ k, k ≠ 59 → gA S k = gA t k) → (∀ i : Nat, (i : Int) < x → gA S 59 i = gA t 49 i) → (∀ i, gI S i = gI t i) → (Rr t → Rr S) → pc (m_x12_tries_L3 n 2 (v : Int) key val x S) (fun o => ∃ X Y, SVm t X ∧ m_x12_puts (v : Int) key val X = some Y ∧ ((gI Y 55 = 0 ∧ o = (1, Y)) ∨ (gI Y 55 ≠ 0 ∧ o.1 = 0 ∧ BKm Y o.2))) := by
    refine fr_ind (fun _ _ _ _ _ _ _ => pc_none) (fun n ih x S hx h1 h2 h5 h6 => ?_)
    show pc (m_x12_tries_b3 (m_x12_tries_L3 n) 2 (v : Int) key val x S) _
    unfold m_x12_tries_b3
    refine pc_rg (pc_if (fun c => L34 FU 0 S (by omega) (fun k k1 _ => h1 k k1) (fun i hi => h2 i (by omega)) (fun i hi => absurd hi (by omega)) h5 h6) (fun c => pc_rdI (fun _ => pc_inb (pc_stn (fun s74 e74 => ih (x + 1) s74 (by omega) (fun k hk => (q_Aa e74 hk).trans (h1 k hk)) (fun i hi => ?_) (fun i => (q_Ai e74).trans (h5 i)) (fun hr => e74 ▸ Rr.uAu (h6 hr) (by show R2 (gA S 49 x.toNat); exact R49 (h6 hr) (by omega))))))))
    rw [(q_AA e74 : gA s74 59 = _)]
    by_cases z : i = x.toNat
    · rw [z, upZ_s, h1 49 (by decide)]
    · rw [upZ_n z]; exact h2 i (by omega)
  unfold m_x12_tries
  exact L3 FU 0 t (by omega) (fun _ _ => rfl) (fun i hi => absurd hi (by omega)) (fun _ => rfl) id
/-- alike below 785 -/
theorem OI_785 {t o : MS} {lo hi : Nat → Int} (H : OI t lo hi) (e : ∀ i, i < 785 → gA o 49 i = gA t 49 i) : OI o lo hi := by
  refine OI_same H (fun x hx hl => ⟨?_, Or.inl ⟨e (19 + 16 * x) (by omega), e (20 + 16 * x) (by omega), fun k => ?_⟩⟩)
  · have c1 : cM o x = cM t x := e (17 + 16 * x) (by omega)
    have c2 : vM o x = vM t x := e (18 + 16 * x) (by omega)
    unfold LV at hl ⊢
    rw [← c1, ← c2]; exact hl
  · show (if k < 6 then gA o 49 (27 + 16 * x + k) else 0) = (if k < 6 then gA t 49 (27 + 16 * x + k) else 0) ∧ (if k < 6 then gA o 49 (21 + 16 * x + k) else 0) = if k < 6 then gA t 49 (21 + 16 * x + k) else 0
    by_cases z : k < 6
    · rw [if_pos z, if_pos z, if_pos z, if_pos z, e _ (by omega), e _ (by omega)]
      exact ⟨rfl, rfl⟩
    · rw [if_neg z, if_neg z, if_neg z, if_neg z]
      exact ⟨rfl, rfl⟩
theorem BC_v3 {s o : MS} (hR : Rg s) (e : m_x8_become_v3 s = some o) : Rg o ∧ BC s o 54 72 1060 1420 := by
  obtain ⟨r, h1, h2, h3, h4, h5⟩ := wp_det (w_x8_become_v3 hR) e
  exact ⟨r, h1, h2, h3, h4, h5⟩
theorem BC_v4 {s o : MS} (hR : Rg s) (hp : gI s 1421 ≤ 999999) (e : m_x8_become_v4 s = some o) : Rg o ∧ BC s o 72 54 1420 1060 := by
  obtain ⟨r, h1, h2, h3, h4, h5⟩ := wp_det (w_x8_become_v4 hR hp) e
  exact ⟨r, h1, h2, h3, h4, h5⟩
/-- a try that failed: both sides are as before -/
theorem sim_back {π σ : Nat → Nat} {s s5 q8 s12 t X Y o : MS} (h : SIM π σ s t) (hK : KLV t) (b3 : BC s s5 54 72 1060 1420) (l3 : gL s5 1422 = gL s 1062) (kA : ∀ k, 72 ≤ k → k ≤ 79 → gA q8 k = gA s5 k) (kI : ∀ k, k = 1420 ∨ k = 1421 → gI q8 k = gI s5 k) (kL : gL q8 1422 = gL s5 1422) (b4 : BC q8 s12 72 54 1420 1060) (l4 : gL s12 1062 = gL q8 1422) (SX : SVm t X) (Y59 : gA Y 59 = gA X 59) (Y60 : gA Y 60 = gA X 60) (Y39 : gA Y 39 = gA X 39) (B : BKm Y o) : SIM π σ s12 o ∧ ∀ i, i < 785 → gA o 49 i = gA t 49 i := by
  have e49 : ∀ i, i < 785 → gA o 49 i = gA t 49 i := fun i hi => by rw [B.2.1 i hi, Y59, SX.2.1 i hi]
  have zz : ∀ x, x < 48 → 0 < cR (gA t 49) x ∨ 0 < vR (gA t 49) x → (hR (gA t 49)).2.1 x ≤ 6 := fun x hx l => (hK.2.1 x hx l).1.1.2.1.2
  have T1 : TRf π σ (gI s 1060) s5 72 (gA t 49) := TRf_c h.1 b3 zz
  have T2 : TRf π σ (gI s 1060) q8 72 (gA t 49) := by
    obtain ⟨p, c, l, r⟩ := T1
    have e1 : hB q8 72 = hB s5 72 := by
      unfold hB
      rw [kA (72 + 2) (by decide) (by decide), kA (72 + 3) (by decide) (by decide), kA (72 + 5) (by decide) (by decide)]
    have e2 : kB q8 72 = kB s5 72 := by
      unfold kB
      rw [kA (72 + 4) (by decide) (by decide)]
    refine ⟨p, fun x hx => ?_, fun x hx q => ?_, fun v hv => ?_⟩
    · rw [kA 72 (by decide) (by decide), kA (72 + 1) (by decide) (by decide)]; exact c x hx
    · rw [e1, e2]; exact l x hx q
    · rw [kA (72 + 6) (by decide) (by decide), kA (72 + 7) (by decide) (by decide)]; exact r v hv
  have T3 : TRf π σ (gI s 1060) s12 54 (gA t 49) := TRf_c T2 b4 zz
  have n12 : gI s12 1060 = gI s 1060 := by rw [b4.2.2.2.1, kI 1420 (Or.inl rfl), b3.2.2.2.1]
  refine ⟨⟨by rw [n12]; exact TRf_r T3 e49, ?_, fun x hx q => ?_⟩, e49⟩
  · rw [n12, B.1 39 (by decide) (by decide), Y39, SX.1 39 (by decide) (by decide)]; exact h.2.1
  · have q' : 0 < cM t x := by
      have e : cM o x = cM t x := e49 (17 + 16 * x) (by omega)
      rw [← e]; exact q
    rw [l4, kL, l3, B.2.2.2.1 (x) hx, Y60, SX.2.2.1 x hx]
    exact h.2.2 x hx q'
def TRY (q o : Int × MS) : Prop := q.1 = o.1 ∧ gI o.2 55 = 0 ∧ ∃ π σ lo hi, SIM π σ q.2 o.2 ∧ ZP q.2 o.2 ∧ OI o.2 lo hi
theorem y_tryPlant {π σ : Nat → Nat} {s t : MS} {lo hj : Nat → Int} {v : Nat} {key val : Int} (h : SIM π σ s t) (hZ : ZP s t) (hR : Rg s) (hRt : Rr t) (S0 : TS s Z0 (-1)) (H : RT t) (hC0 : CE t 0) (hC1 : CE t 1) (hN0 : 0 ≤ gA t 39 5) (hE : 3 ≤ gA t 39 6 ∧ gA t 39 6 ≤ 6) (h581 : 3 ≤ gI s 581) (hsp : gI s 1061 ≤ 999999) (hv : v < 8) (hrt : (0 ≤ gA t 49 v ∧ gA t 49 v < 254) ∨ gA t 49 v = 254) (hO : OI t lo hj) (hkey : 0 ≤ key ∧ key ≤ 999) (hval : 0 ≤ val ∧ val ≤ 999) : pc (m_x1_tryPlant (v : Int) key val s) (fun q => pc (m_x12_tries 2 (v : Int) key val t) (fun o => TRY q o)) := by
  have hK : KLV t := KLV_of H.1 (fun _ _ => Int.le_refl 0)
  unfold m_x1_tryPlant m_x1_tryPlant_J36
  refine pc_bn (fun s5 e5 => pc_bn (fun q8 e8 => ?_))
  obtain ⟨R5, b3⟩ := BC_v3 hR e5
  have l3 := s_v3 s5 e5
  have F5 : F_x8_become_v3 s s5 := fr_x8_become_v3 e5
  have F8 : F_x1_plant s5 q8.2 := fr_x1_plant e8
  have T5 : TS s5 Z0 (-1) := TS_eq S0 (F5.2.1 54 (by decide)) (F5.2.1 55 (by decide)) (F5.2.1 56 (by decide)) (F5.2.1 57 (by decide)) (F5.2.1 58 (by decide)) (F5.2.1 59 (by decide)) (F5.2.1 60 (by decide)) (F5.2.1 61 (by decide)) (F5.1 1060 (by decide)) (F5.1 581 (by decide))
  have JO : ∀ X, SVm t X → pc (m_x12_puts (v : Int) key val X) (fun Y => CON q8 Y) := fun X SX => by
    have x49 : gA X 49 = gA t 49 := SX.1 49 (by decide) (by decide)
    have x39 : gA X 39 = gA t 39 := SX.1 39 (by decide) (by decide)
    have HX : SIM π σ s5 X := SIM_k h (fun k k1 k2 => F5.2.1 k (by simp; omega)) (F5.1 1060 (by decide)) (F5.2.2.1 1062 (by decide)) x49 (by rw [x39]) (SX.1 54 (by decide) (by decide))
    have ZX : ZP s5 X := ZP_k hZ (F5.1 581 (by decide)) (F5.1 741 (by decide)) (fun k k1 k2 => F5.2.1 k (by simp; omega)) (fun k hk => SX.1 k (by omega) (by omega))
    exact y_plant HX ZX R5 (SX.2.2.2.2.2 hRt) T5 (RT_x H (fun k _ => by rw [x49]) (by rw [x39]) (by rw [x39])) (CE_eq hC0 (SX.1 42 (by decide) (by decide)) (SX.1 43 (by decide) (by decide)) (SX.1 44 (by decide) (by decide))) (CE_eq hC1 (SX.1 42 (by decide) (by decide)) (SX.1 43 (by decide) (by decide)) (SX.1 44 (by decide) (by decide))) (by rw [x39]; exact hN0) (by rw [x39]; exact hE) (by rw [F5.1 581 (by decide)]; exact h581) SX.2.2.2.2.1 hv (by rw [x49]; exact hrt) (OI_49 hO x49) hkey hval q8 e8
  refine pc_rg (pc_if (fun c => pc_bn (fun s12 e12 => pc_bo (pc_some ?_))) (fun c => pc_bo (pc_some ?_)))
  · refine pc_mono m_tries2 (fun o ho => ?_)
    obtain ⟨X, Y, SX, eY, hY⟩ := ho
    rcases JO X SX Y eY with ⟨_, y55⟩ | ⟨z, _⟩
    · rcases hY with ⟨z, _⟩ | ⟨_, o1, B⟩
      · omega
      have FY : F_x12_puts X Y := fr_x12_puts eY
      have R8 : Rg q8.2 := (wp_det (ts_plant R5 T5 (by rw [F5.1 581 (by decide)]; exact h581) (p0 := (v : Int)) ⟨by omega, by omega⟩ (by
        rw [Int.toNat_natCast, F5.2.1 60 (by decide)]
        have q := rtr_e (h.1.2.2.2 v hv).1
        intro w
        have := q.1.1 w
        omega) hkey hval) e8).1
      have i1421 : gI q8.2 1421 = gI s 1061 := by rw [F8.1 1421 (by decide)]; exact b3.2.2.2.2
      obtain ⟨R12, b4⟩ := BC_v4 R8 (by rw [i1421]; exact hsp) e12
      have F12 : F_x8_become_v4 q8.2 s12 := fr_x8_become_v4 e12
      have K := sim_back h hK b3 l3 (fun k k1 k2 => F8.2.1 k (by simp; omega)) (fun k hk => F8.1 k (by simp; omega)) (F8.2.2.1 1422 (by decide)) b4 (s_v4 s12 e12) SX (FY.2.1 59 (by decide)) (FY.2.1 60 (by decide)) (FY.2.1 39 (by decide)) B
      refine ⟨c.trans o1.symm, B.2.2.2.2.2, π, σ, lo, hj, K.1, ZP_k hZ ?_ ?_ (fun k k1 k2 => ?_) (fun k hk => ?_), OI_785 hO K.2⟩
      · rw [F12.1 581 (by decide), F8.1 581 (by decide), F5.1 581 (by decide)]
      · rw [F12.1 741 (by decide), F8.1 741 (by decide), F5.1 741 (by decide)]
      · rw [F12.2.1 k (by simp; omega), F8.2.1 k (by simp; omega), F5.2.1 k (by simp; omega)]
      · rw [B.1 k (by omega) (by omega), FY.2.1 k (by simp; omega), SX.1 k (by omega) (by omega)]
    · omega
  · refine pc_mono m_tries2 (fun o ho => ?_)
    obtain ⟨X, Y, SX, eY, hY⟩ := ho
    rcases JO X SX Y eY with ⟨z, _⟩ | ⟨z, y55, π', σ', lo', hi', G1, G2, G3⟩
    · exact absurd z c
    · rcases hY with ⟨_, rfl⟩ | ⟨w, _⟩
      · exact ⟨z, y55, π', σ', lo', hi', G1, G2, G3⟩
      · exact absurd y55 w
