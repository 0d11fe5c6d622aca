/-! ===== what is TAKEN gets a name on both sides ===== -/
def LV (t : MS) (x : Nat) : Prop := 0 < cM t x ∨ 0 < vM t x
/-- who is named by one that stands stands, too -/
def KLV (t : MS) : Prop := (∀ b, b < 48 → 0 ≤ cM t b ∧ 0 ≤ vM t b) ∧ (∀ x, x < 48 → LV t x → (Nd (hM t) (gA t 39 5) x ∧ (hM t).1 x ≤ 48) ∧ (0 < (hM t).1 x → ∀ k : Nat, (k : Int) < (hM t).2.1 x → (0 ≤ (hM t).2.2 x k ∧ (hM t).2.2 x k < 48) ∧ LV t ((hM t).2.2 x k).toNat)) ∧ (∀ v, v < 16 → 0 ≤ gA t 49 v → gA t 49 v < 48 → LV t (gA t 49 v).toNat)
theorem KLV_of {t : MS} {D : Nat → Int} (T : TM t D (-1)) (hD : ∀ x, x < 48 → 0 ≤ D x) : KLV t := by
  have S := TG_ss T
  have z : ∀ x : Nat, x < 48 → (0 : Int) ≤ 0 := fun _ _ => Int.le_refl 0
  have hN := T.1.1
  refine ⟨fun b hb => ⟨(T.1.2.1 b hb).1, (T.1.2.2.1 b hb).1⟩, fun x hx hl => ?_, fun v hv h0 h1 => ?_⟩
  · rcases hl with hc | hc
    · refine ⟨⟨TG_nd T hx hc, Int.le_trans (TG_lev T hD hx hc).2 (by decide)⟩, fun hl k hk => ?_⟩
      have q := TG_kid T hD hx hc hl hk
      exact ⟨⟨q.1.1, by omega⟩, Or.inl q.2.2⟩
    · refine ⟨⟨TG_nd S hx hc, Int.le_trans (TG_lev S z hx hc).2 (by decide)⟩, fun hl k hk => ?_⟩
      have q := TG_kid S z hx hc hl hk
      exact ⟨⟨q.1.1, by omega⟩, Or.inr q.2.2⟩
  · by_cases w : v < 8
    · have e := rM_v (t := t) w
      have q := TG_root_live T hD w (by rw [e]; exact h0) (by rw [e]; omega)
      rw [e] at q
      exact Or.inl q.2
    · have e := rsM_v (t := t) (v := v - 8) (by omega)
      rw [show 8 + (v - 8) = v by omega] at e
      have q := TG_root_live S z (v := v - 8) (by omega) (by rw [e]; exact h0) (by rw [e]; omega)
      rw [e] at q
      exact Or.inr q.2
theorem sim_c {π σ : Nat → Nat} {s t : MS} (h : SIM π σ s t) {x : Nat} (hx : x < 48) : gA s 54 (π x) = cM t x ∧ gA s 55 (π x) = vM t x := h.1.2.1 x hx
theorem sim_b {π σ : Nat → Nat} {s t : MS} (h : SIM π σ s t) {x : Nat} (hx : x < 48) (hl : LV t x) : BR1 π (hN s) (hM t) (kN s) (kM t) x := h.1.2.2.1 x hx hl
/-- one that stands is none that lies idle -/
theorem sim_ne {π σ : Nat → Nat} {s t : MS} (h : SIM π σ s t) {x c : Nat} (hx : x < 48) (hl : LV t x) (hc : gA s 54 c = 0 ∧ gA s 55 c = 0) : π x ≠ c := fun e => by
  have a := sim_c h hx
  rw [e] at a
  unfold LV at hl
  omega
theorem y_take {π σ : Nat → Nat} {s t : MS} {p0 p1 p2 : Int} {q o : Int × MS} (h : SIM π σ s t) (hK : KLV t) (hN8 : gI s 1060 ≤ 48) (h0 : gI t 55 = 0) (e1 : m_x1_take p0 p1 s = some q) (e2 : m_x12_taken p0 p2 t = some o)
    (w1 : q.1 = -1 ∨ ((0 ≤ q.1 ∧ q.1 < gI s 1060) ∧ (gA s 54 q.1.toNat = 0 ∧ gA s 55 q.1.toNat = 0) ∧ (gA q.2 54 = upZ (gA s 54) q.1.toNat 1 ∧ gA q.2 56 = upZ (gA s 56) q.1.toNat p0 ∧ gA q.2 57 = upZ (gA s 57) q.1.toNat 0)))
    (w2 : gI o.2 55 = 1 ∨ (gI o.2 55 = gI t 55 ∧ (0 ≤ o.1 ∧ o.1 < gA t 39 5) ∧ (cM t o.1.toNat ≤ 0 ∧ vM t o.1.toNat ≤ 0) ∧ TkE t o.2 o.1.toNat p0)) :
    (q.1 = -1 ∧ gI o.2 55 = 1) ∨ (gI o.2 55 = 0 ∧ 0 ≤ q.1 ∧ 0 ≤ o.1 ∧ o.1 < gA t 39 5 ∧ ¬ LV t o.1.toNat ∧ TkE t o.2 o.1.toNat p0 ∧ ∃ π' σ', SIM π' σ' q.2 o.2 ∧ q.1 = (π' o.1.toNat : Int) ∧ ∀ x, x < 48 → LV t x → π' x = π x) := by
  have F1 : F_x1_take s q.2 := fr_x1_take e1
  have F2 : F_x12_taken t o.2 := fr_x12_taken e2
  have g1 := s_take q e1
  have g2 := m_taken h0 o e2
  have hP := h.1.1
  have hb := h.2.1
  rcases g1 with ⟨a1, a2⟩ | ⟨a1, a2⟩
  · refine Or.inl ⟨a1, ?_⟩
    rcases w2 with w | ⟨_, ⟨r0, r1⟩, ⟨c0, v0⟩, _⟩
    · exact w
    · exfalso
      have hr : o.1.toNat < 48 := by omega
      have n := hK.1 o.1.toNat hr
      have c := sim_c h hr
      have lt := (hP o.1.toNat hr).2.2.2 (by omega)
      exact a2 (π o.1.toNat) lt ⟨by omega, by omega⟩
  · rcases w1 with w | ⟨⟨q0, q1⟩, ⟨f1, f2⟩, ⟨u54, u56, u57⟩⟩
    · exact absurd w a1
    have hc : q.1.toNat < 48 := by omega
    have qc : q.1 = (q.1.toNat : Int) := by omega
    rcases w2 with w | ⟨b55, ⟨r0, r1⟩, ⟨c0, v0⟩, TK⟩
    · exfalso
      rcases g2 with ⟨_, z⟩ | ⟨z, _⟩
      · have hs := (hP q.1.toNat hc)
        have l := z (σ q.1.toNat) (by rw [← hb]; exact (PB_s hP hc).2 (by omega))
        have c := sim_c h hs.1.2
        rw [hs.2.1.2] at c
        omega
      · omega
    have f55 : gI o.2 55 = 0 := b55.trans h0
    have T54 : gA o.2 54 = upZ (gA t 54) o.1.toNat 1 := by
      rcases g2 with ⟨z, _⟩ | ⟨_, z⟩
      · omega
      · exact z
    have hr : o.1.toNat < 48 := by omega
    have nr := hK.1 o.1.toNat hr
    have cr0 := sim_c h hr
    have hpr := hP o.1.toNat hr
    obtain ⟨c, hcc⟩ : ∃ c, c = q.1.toNat := ⟨_, rfl⟩
    obtain ⟨r, hrr⟩ : ∃ r, r = o.1.toNat := ⟨_, rfl⟩
    rw [← hcc] at hc qc f1 f2 u54 u56 u57
    rw [← hrr] at c0 v0 TK T54 hr nr cr0 hpr ⊢
    have nl : ¬ LV t r := by unfold LV; omega
    have cz : cM t r = 0 := by omega
    have vz : vM t r = 0 := by omega
    refine Or.inr ⟨f55, q0, r0, r1, nl, TK, fun x => tw c (π r) (π x), fun x => σ (tw c (π r) x), ?_⟩
    have keep : ∀ x, x < 48 → LV t x → tw c (π r) (π x) = π x := fun x hx hl => tw_n (sim_ne h hx hl ⟨f1, f2⟩) (sim_ne h hx hl ⟨by omega, by omega⟩)
    have cO : cM o.2 = upZ (cM t) r 1 := TkE_c TK
    have vO : vM o.2 = vM t := TkE_v TK vz
    have sv55 : gA q.2 55 = gA s 55 := F1.2.1 55 (by decide)
    have same : ∀ x, x ≠ r → (hM o.2).1 x = (hM t).1 x ∧ (hM o.2).2.1 x = (hM t).2.1 x ∧ ∀ k, (hM o.2).2.2 x k = (hM t).2.2 x k ∧ kM o.2 x k = kM t x k := fun x hx => by
      refine ⟨TK.1 (19 + 16 * x) (by omega), TK.1 (20 + 16 * x) (by omega), fun k => ?_⟩
      show (if k < 6 then gA o.2 49 (27 + 16 * x + k) else 0) = (if k < 6 then gA t 49 (27 + 16 * x + k) else 0) ∧ (if k < 6 then gA o.2 49 (21 + 16 * x + k) else 0) = if k < 6 then gA t 49 (21 + 16 * x + k) else 0
      by_cases z : k < 6
      · rw [if_pos z, if_pos z, if_pos z, if_pos z, TK.1 (27 + 16 * x + k) (by omega), TK.1 (21 + 16 * x + k) (by omega)]
        exact ⟨rfl, rfl⟩
      · rw [if_neg z, if_neg z, if_neg z, if_neg z]
        exact ⟨rfl, rfl⟩
    refine ⟨⟨⟨PB_tw ?_ hc hpr.1.1 ?_, fun x hx => ?_, fun x hx hl => ?_, fun v hv => ?_⟩, ?_, fun x hx hl => ?_⟩, ?_, keep⟩
    · rw [F1.1 1060 (by decide)]; exact hP
    · rw [F1.1 1060 (by decide)]
      have := hpr.2.2
      exact ⟨fun _ => this.2 (by omega), fun _ => by omega⟩
    · rw [u54, sv55]
      show upZ (gA s 54) c 1 (tw c (π r) (π x)) = cM o.2 x ∧ gA s 55 (tw c (π r) (π x)) = vM o.2 x
      rw [cO, vO]
      by_cases zr : x = r
      · rw [zr, tw_b, upZ_s, upZ_s]
        exact ⟨rfl, by omega⟩
      · rw [upZ_n zr]
        have cx := sim_c h hx
        by_cases zc : π x = c
        · rw [zc, tw_a]
          have ne : π r ≠ c := fun e => zr (PB_i hP hx hr (zc.trans e.symm))
          rw [upZ_n ne]
          rw [zc] at cx
          omega
        · have ne : π x ≠ π r := fun e => zr (PB_i hP hx hr e)
          rw [tw_n zc ne, upZ_n zc]
          exact cx
    · show BR1 (fun x => tw c (π r) (π x)) (hN q.2) (hM o.2) (kN q.2) (kM o.2) x
      have hl' : 0 < cM o.2 x ∨ 0 < vM o.2 x := hl
      by_cases zr : x = r
      · rw [zr]
        have b56 : gA q.2 56 c = p0 := by rw [u56, upZ_s]
        have b57 : gA q.2 57 c = 0 := by rw [u57, upZ_s]
        refine ⟨?_, ?_, fun k hk => ?_⟩
        · show gA q.2 56 (tw c (π r) (π r)) = _
          rw [tw_b, b56]; exact TK.2.2.1.symm
        · show gA q.2 57 (tw c (π r) (π r)) = _
          rw [tw_b, b57]; exact TK.2.2.2.symm
        · have := TK.2.2.2
          omega
      · have lx : LV t x := by
          rw [cO, vO, upZ_n zr] at hl'
          exact hl'
        have kx := keep x hx lx
        have B := sim_b h hx lx
        have S := same x zr
        have ne := sim_ne h hx lx ⟨f1, f2⟩
        unfold BR1
        rw [S.1, S.2.1]
        show gA q.2 56 (tw c (π r) (π x)) = _ ∧ gA q.2 57 (tw c (π r) (π x)) = _ ∧ ∀ k : Nat, _ → gA q.2 58 (6 * tw c (π r) (π x) + k) = _ ∧ (_ → gA q.2 59 (6 * tw c (π r) (π x) + k) = _) ∧ (_ → gA q.2 59 (6 * tw c (π r) (π x) + k) = _)
        rw [kx, u56, u57, upZ_n ne, upZ_n ne, F1.2.1 58 (by decide), F1.2.1 59 (by decide)]
        refine ⟨B.1, B.2.1, fun k hk => ?_⟩
        rw [(S.2.2 k).1, (S.2.2 k).2]
        have B2 := B.2.2 k hk
        refine ⟨B2.1, fun z => ?_, B2.2.2⟩
        have kid := (hK.2.1 x hx lx).2 z k hk
        show gA s 59 (6 * π x + k) = (tw c (π r) (π ((hM t).2.2 x k).toNat) : Int)
        rw [keep _ (by omega) kid.2]
        exact B2.2.1 z
    · show rtr (fun x => tw c (π r) (π x)) (gA q.2 60 v) (gA o.2 49 v) ∧ rtr (fun x => tw c (π r) (π x)) (gA q.2 61 v) (gA o.2 49 (8 + v))
      rw [F1.2.1 60 (by decide), F1.2.1 61 (by decide), TkE_u TK (show v < 17 by omega), TkE_u TK (show 8 + v < 17 by omega)]
      have R := h.1.2.2.2 v hv
      have G : ∀ {a : Int} {u : Nat}, u < 16 → rtr π a (gA t 49 u) → rtr (fun x => tw c (π r) (π x)) a (gA t 49 u) := fun {a u} hu g => by
        rcases g with g | g | ⟨g1, g2, g3⟩
        · exact Or.inl g
        · exact Or.inr (Or.inl g)
        · refine Or.inr (Or.inr ⟨g1, g2, ?_⟩)
          show a = (tw c (π r) (π (gA t 49 u).toNat) : Int)
          rw [keep _ (by omega) (hK.2.2 u hu g1 g2)]
          exact g3
      exact ⟨G (by omega) R.1, G (by omega) R.2⟩
    · rw [F1.1 1060 (by decide), F2.2.1 39 (by decide)]; exact hb
    · show bW (gL q.2 1062) (tw c (π r) (π x)) ↔ gA o.2 54 x ≠ 0
      have hl' : 0 < cM o.2 x := hl
      rw [a2, T54, qc, bW_or hc (tw_lt hc hpr.1.1 (hP x hx).1.1)]
      by_cases zr : x = r
      · rw [zr, tw_b, upZ_s]
        exact ⟨fun _ => by decide, fun _ => Or.inl rfl⟩
      · rw [cO, upZ_n zr] at hl'
        have lx : LV t x := Or.inl hl'
        rw [keep x hx lx, upZ_n zr]
        have ne := sim_ne h hx lx ⟨f1, f2⟩
        exact ⟨fun w => (h.2.2 x hx hl').1 (w.resolve_left ne), fun w => Or.inr ((h.2.2 x hx hl').2 w)⟩
    · show q.1 = ((tw c (π r) (π r) : Nat) : Int)
      rw [tw_b]; omega
/-- one row is another's -/
def ROW (t : MS) (y : Nat) (o : MS) (x : Nat) : Prop := (hM o).1 x = (hM t).1 y ∧ (hM o).2.1 x = (hM t).2.1 y ∧ ∀ k, (hM o).2.2 x k = (hM t).2.2 y k ∧ kM o x k = kM t y k
theorem ROW_rf (t : MS) (x : Nat) : ROW t x t x := ⟨rfl, rfl, fun _ => ⟨rfl, rfl⟩⟩
theorem ROW_t {t u o : MS} {x y z : Nat} (h : ROW t x u y) (g : ROW u y o z) : ROW t x o z := ⟨g.1.trans h.1, g.2.1.trans h.2.1, fun k => ⟨(g.2.2 k).1.trans (h.2.2 k).1, (g.2.2 k).2.trans (h.2.2 k).2⟩⟩
theorem ROW_bx {t o : MS} {b x : Nat} (h : BX t o b) (hx : x ≠ b) : ROW t x o x := ⟨by rw [BX_l h], BX_z h hx, fun _ => BX_e h hx⟩
theorem ROW_tk {t o : MS} {r x : Nat} {l : Int} (TK : TkE t o r l) (hx : x ≠ r) : ROW t x o x := by
  refine ⟨TK.1 (19 + 16 * x) (by omega), TK.1 (20 + 16 * x) (by omega), fun k => ?_⟩
  show (if k < 6 then gA o 49 (27 + 16 * x + k) else 0) = (if k < 6 then gA t 49 (27 + 16 * x + k) else 0) ∧ (if k < 6 then gA o 49 (21 + 16 * x + k) else 0) = if k < 6 then gA t 49 (21 + 16 * x + k) else 0
  by_cases z : k < 6
  · rw [if_pos z, if_pos z, if_pos z, if_pos z, TK.1 (27 + 16 * x + k) (by omega), TK.1 (21 + 16 * x + k) (by omega)]
    exact ⟨rfl, rfl⟩
  · rw [if_neg z, if_neg z, if_neg z, if_neg z]
    exact ⟨rfl, rfl⟩
/-- what an OWNED block holds: what was there, a copy or itself -/
def CPY (t o : MS) (b r : Nat) : Prop := ROW t b o r ∧ (∀ x, x ≠ r → ROW t x o x) ∧ (∀ x, x < 48 → LV o x → x = r ∨ LV t x) ∧ (r = b ∨ ¬ LV t r)
