/-! ===== a formula of splits is worth the same on both sides ===== -/
theorem pc_rdL2 {α : Type} {f : Nat → Int} {n : Nat} {i : Int} {k : Int → Option α} {P : α → Prop} (h : 0 ≤ i ∧ i < (n : Int) → pc (k (f i.toNat)) P) : pc (rdL f n i k) P := by
  unfold rdL
  split
  · rename_i q; exact h q
  · exact pc_none
abbrev M1 (v : Int) : Prop := -1000000 ≤ v ∧ v ≤ 1000000
/-- the piles alike, by kinds -/
def EV (f g : Nat → Int) : List Bool → Prop
  | [] => True
  | x :: L => f L.length = g L.length ∧ M1 (g L.length) ∧ (x = true → g L.length = 0 ∨ g L.length = 1) ∧ EV f g L
theorem EV_c {f g f' g' : Nat → Int} : ∀ {L : List Bool}, EV f g L → (∀ j, j < L.length → f' j = f j ∧ g' j = g j) → EV f' g' L := by
  intro L
  induction L with
  | nil => intro _ _; exact True.intro
  | cons x L ih =>
    intro h e
    obtain ⟨a, b, c, d⟩ := h
    have q := e L.length (Nat.lt_succ_self _)
    exact ⟨by rw [q.1, q.2]; exact a, by rw [q.2]; exact b, by rw [q.2]; exact c, ih d (fun j hj => e j (Nat.lt_succ_of_lt hj))⟩
theorem EV_p {f g : Nat → Int} {L : List Bool} {x : Bool} {v : Int} (h : EV f g L) (hv : M1 v) (hx : x = true → v = 0 ∨ v = 1) : EV (upZ f L.length v) (upZ g L.length v) (x :: L) := ⟨by rw [upZ_s, upZ_s], by rw [upZ_s]; exact hv, by rw [upZ_s]; exact hx, EV_c h (fun j hj => ⟨upZ_n (by omega), upZ_n (by omega)⟩)⟩
theorem s_push {v : Int} {s : MS} (h : gI s 1601 < 64) : pc (m_x3_push v s) (fun o => gI o 1601 = gI s 1601 + 1 ∧ gA o 81 = upZ (gA s 81) (gI s 1601).toNat v ∧ (∀ k, k ≠ 81 → gA o k = gA s k) ∧ ∀ i, i ≠ 1601 → gI o i = gI s i) := by
  unfold m_x3_push m_x3_push_J29
  exact pc_rg (pc_if (fun c => absurd h (by omega)) (fun _ => pc_inb (pc_stn (fun s5 e5 => pc_stn (fun s6 e6 => pc_some ⟨by rw [(q_II e6 : gI s6 1601 = _), (q_Ai e5 : gI s5 1601 = gI s 1601)], (q_Ia e6).trans (q_AA e5), fun k hk => (q_Ia e6).trans (q_Aa e5 hk), fun i hi => (q_Ii e6 hi).trans (q_Ai e5)⟩)))))
theorem s_pop {s : MS} (h : 0 < gI s 1601) : pc (m_x3_pop s) (fun q => q.1 = gA s 81 (gI s 1601 - 1).toNat ∧ gI q.2 1601 = gI s 1601 - 1 ∧ (∀ k, gA q.2 k = gA s k) ∧ ∀ i, i ≠ 1601 → gI q.2 i = gI s i) := by
  unfold m_x3_pop
  exact pc_rg (pc_if (fun _ => pc_stn (fun s3 e3 => pc_rdI (fun _ => pc_some ⟨by show gA s3 81 (gI s3 1601).toNat = _; rw [(q_II e3 : gI s3 1601 = _), (q_Ia e3 : gA s3 81 = gA s 81)], q_II e3, fun k => q_Ia e3, fun i hi => q_Ii e3 hi⟩))) (fun c => absurd h c))
theorem m_puts {v : Int} {t : MS} : pc (m_x12_qPuts v t) (fun o => 0 ≤ gI t 108 ∧ gI o 108 = gI t 108 + 1 ∧ gB o 107 = upZ (gB t 107) (gI t 108).toNat v ∧ (∀ k, gA o k = gA t k) ∧ ∀ i, i ≠ 108 → gI o i = gI t i) := by
  unfold m_x12_qPuts
  exact pc_inb2 (fun g => pc_stn (fun s2 e2 => pc_stn (fun s3 e3 => pc_some ⟨g.1, by rw [(q_II e3 : gI s3 108 = _), (q_Bi e2 : gI s2 108 = gI t 108)], (q_Ib e3).trans (q_BB e2), fun k => (q_Ia e3).trans (q_Ba e2), fun i hi => (q_Ii e3 hi).trans (q_Bi e2)⟩)))
/-! numbers are cut at a million -/
def clZ (z : Int) : Int := if z ≤ 1000000 then (if -1000000 ≤ z then z else -1000000) else 1000000
theorem clZ_1 {z : Int} (c : z ≤ 1000000) (d : -1000000 ≤ z) : clZ z = z := (if_pos c).trans (if_pos d)
theorem clZ_2 {z : Int} (c : z ≤ 1000000) (d : ¬ -1000000 ≤ z) : clZ z = -1000000 := (if_pos c).trans (if_neg d)
theorem clZ_3 {z : Int} (c : ¬ z ≤ 1000000) : clZ z = 1000000 := if_neg c
theorem clZ_M (z : Int) : M1 (clZ z) := by
  by_cases c : z ≤ 1000000
  · by_cases d : -1000000 ≤ z
    · rw [clZ_1 c d]; omega
    · rw [clZ_2 c d]; omega
  · rw [clZ_3 c]; omega
theorem s_clip {z : Int} {s : MS} : pc (m_x3_joined_J199 s z) (fun r => r = clZ z) := by
  unfold m_x3_joined_J199 m_x3_joined_J225
  exact pc_rgL (pc_if (fun c => pc_rgL (pc_if (fun d => pc_some (clZ_1 c d).symm) (fun d => pc_some (clZ_2 c d).symm))) (fun c => pc_some (clZ_3 c).symm))
theorem m_clip {z : Int} {t : MS} : pc (m_x12_qClip z t) (fun r => r = clZ z) := by
  unfold m_x12_qClip m_x12_qClip_J29
  exact pc_rgL (pc_if (fun c => pc_rgL (pc_if (fun d => pc_some (clZ_1 c d).symm) (fun d => pc_some (clZ_2 c d).symm))) (fun c => pc_some (clZ_3 c).symm))
/-! division downwards -/
def fdZ (a b : Int) : Int := if b = 0 then 0 else if Int.tmod a b = 0 then Int.tdiv a b else if (0 ≤ a ↔ 0 ≤ b) then Int.tdiv a b else Int.tdiv a b - 1
theorem fdZ_0 {a b : Int} (h : b = 0) : fdZ a b = 0 := if_pos h
theorem fdZ_r {a b : Int} (h : b ≠ 0) (r : Int.tmod a b = 0) : fdZ a b = Int.tdiv a b := (if_neg h).trans (if_pos r)
theorem fdZ_s {a b : Int} (h : b ≠ 0) (r : Int.tmod a b ≠ 0) (g : 0 ≤ a ↔ 0 ≤ b) : fdZ a b = Int.tdiv a b := (if_neg h).trans ((if_neg r).trans (if_pos g))
theorem fdZ_n {a b : Int} (h : b ≠ 0) (r : Int.tmod a b ≠ 0) (g : ¬ (0 ≤ a ↔ 0 ≤ b)) : fdZ a b = Int.tdiv a b - 1 := (if_neg h).trans ((if_neg r).trans (if_neg g))
theorem tm_lt (x : Int) {b : Int} (hb : b ≠ 0) : (Int.tmod x b).natAbs < b.natAbs := by
  rw [Int.natAbs_tmod]
  exact Nat.mod_lt _ (by omega)
theorem tm_p {x b : Int} (h : 0 ≤ x) : 0 ≤ Int.tmod x b := Int.tmod_nonneg b h
theorem tm_n {x b : Int} (h : x ≤ 0) : Int.tmod x b ≤ 0 := by
  have q := Int.tmod_nonneg b (show 0 ≤ -x by omega)
  rw [Int.neg_tmod] at q
  omega
theorem tm_u {x b k m : Int} (hb : b ≠ 0) (e : x = b * k + m) (h1 : m.natAbs < b.natAbs) (h2 : (0 ≤ x ∧ 0 ≤ m) ∨ (x ≤ 0 ∧ m ≤ 0)) : Int.tmod x b = m := by
  have hx := Int.tmod_add_mul_tdiv x b
  have h3 := tm_lt x hb
  have e2 : b * (k - Int.tdiv x b) = Int.tmod x b - m := by
    rw [Int.mul_sub]; omega
  have h4 : (Int.tmod x b - m).natAbs < b.natAbs := by
    rcases h2 with q | q
    · have := tm_p (b := b) q.1
      omega
    · have := tm_n (b := b) q.1
      omega
  rw [← e2, Int.natAbs_mul] at h4
  have h5 : (k - Int.tdiv x b).natAbs = 0 := by
    rcases Nat.eq_zero_or_pos (k - Int.tdiv x b).natAbs with z | z
    · exact z
    · exfalso
      have := Nat.mul_le_mul_left b.natAbs z
      omega
  rw [show k - Int.tdiv x b = 0 by omega, Int.mul_zero] at e2
  omega
theorem fd_c {a b : Int} (hb : b ≠ 0) : Int.tdiv (a - Int.tmod (Int.tmod a b + b) b) b = fdZ a b := by
  have ea := Int.tmod_add_mul_tdiv a b
  have hr := tm_lt a hb
  have sp := fun h => tm_p (x := a) (b := b) h
  have sn := fun h => tm_n (x := a) (b := b) h
  by_cases r0 : Int.tmod a b = 0
  · rw [fdZ_r hb r0, tm_u (x := Int.tmod a b + b) (k := 1) (m := 0) hb (by rw [Int.mul_one]; omega) (by omega) (by omega), show a - 0 = b * Int.tdiv a b by omega]
    exact Int.mul_tdiv_cancel_left _ hb
  · by_cases g : 0 ≤ a ↔ 0 ≤ b
    · rw [fdZ_s hb r0 g, tm_u (x := Int.tmod a b + b) (k := 1) (m := Int.tmod a b) hb (by rw [Int.mul_one]; omega) hr (by
        by_cases z : 0 ≤ a
        · have := sp z; have := g.1 z; omega
        · have := sn (by omega); have : ¬ 0 ≤ b := fun w => z (g.2 w); omega), show a - Int.tmod a b = b * Int.tdiv a b by omega]
      exact Int.mul_tdiv_cancel_left _ hb
    · rw [fdZ_n hb r0 g, tm_u (x := Int.tmod a b + b) (k := 0) (m := Int.tmod a b + b) hb (by rw [Int.mul_zero]; omega) (by
        by_cases z : 0 ≤ a
        · have := sp z; have : ¬ 0 ≤ b := fun w => g ⟨fun _ => w, fun _ => z⟩; omega
        · have := sn (by omega)
          have : 0 ≤ b := Int.not_lt.mp (fun w => g ⟨fun q => absurd q z, fun q => absurd q (by omega)⟩)
          omega) (by omega), show a - (Int.tmod a b + b) = b * (Int.tdiv a b - 1) by rw [Int.mul_sub, Int.mul_one]; omega]
      exact Int.mul_tdiv_cancel_left _ hb
theorem fd_M {a b : Int} (h : M1 a) : M1 (fdZ a b) := by
  have q := fl_d a b (B := 1000000) (by omega)
  by_cases hb : b = 0
  · rw [fdZ_0 hb]; omega
  · by_cases r0 : Int.tmod a b = 0
    · rw [fdZ_r hb r0]; omega
    · by_cases g : 0 ≤ a ↔ 0 ≤ b
      · rw [fdZ_s hb r0 g]; omega
      · rw [fdZ_n hb r0 g]
        have b2 : 2 ≤ b.natAbs := by
          rcases Nat.lt_or_ge b.natAbs 2 with w | w
          · exfalso
            have := tm_lt a hb
            omega
          · exact w
        have n1 : (Int.tdiv a b).natAbs = a.natAbs / b.natAbs := Int.natAbs_tdiv a b
        have n2 : a.natAbs / b.natAbs ≤ a.natAbs / 2 := Nat.div_le_div_left b2 (by decide)
        omega
theorem m_floor {a b : Int} {t : MS} : pc (m_x12_qFloor a b t) (fun r => r = fdZ a b) := by
  unfold m_x12_qFloor m_x12_qFloor_J32 m_x12_qFloor_J43 m_x12_qFloor_J53 m_x12_qFloor_J55
  refine pc_rgL (pc_if (fun h => pc_some (fdZ_0 h).symm) (fun h => pc_dvL (pc_dvL (pc_rgL (pc_if (fun r0 => pc_some (fdZ_r h r0).symm) (fun r0 => pc_rgL (pc_if (fun ha => pc_rgL (pc_if (fun hb => pc_rg (pc_rg (pc_if (fun _ => pc_some ?_) (fun z => absurd rfl z)))) (fun hb => pc_rg (pc_rg (pc_if (fun z => absurd z (by decide)) (fun _ => pc_some ?_)))))) (fun ha => pc_rgL (pc_if (fun hb => pc_rg (pc_rg (pc_if (fun z => absurd z (by decide)) (fun _ => pc_some ?_)))) (fun hb => pc_rg (pc_rg (pc_if (fun _ => pc_some ?_) (fun z => absurd rfl z)))))))))))))
  · exact (fdZ_s h r0 ⟨fun _ => hb, fun _ => ha⟩).symm
  · exact (fdZ_n h r0 (fun g => hb (g.1 ha))).symm
  · exact (fdZ_n h r0 (fun g => ha (g.2 hb))).symm
  · exact (fdZ_s h r0 ⟨fun w => absurd w ha, fun w => absurd w hb⟩).symm
/-! what a step makes of two -/
def jv (c a b : Int) : Int := if c = -1 then clZ (a + b) else if c = -2 then clZ (a - b) else if c = -3 then clZ (a * b) else if c = -4 then fdZ a b else if c = -5 then (if b ≤ a then b else a) else if c = -6 then (if a ≤ b then b else a) else if c = -7 then (if b ≤ a then 0 else 1) else if c = -8 then (if a ≤ b then 0 else 1) else if c = -9 then (if a = b then 1 else 0) else if c = -10 then a * b else (if a + b ≤ 0 then 0 else 1)
theorem jv_1 (a b : Int) : jv (-1) a b = clZ (a + b) := rfl
theorem jv_2 (a b : Int) : jv (-2) a b = clZ (a - b) := rfl
theorem jv_3 (a b : Int) : jv (-3) a b = clZ (a * b) := rfl
theorem jv_4 (a b : Int) : jv (-4) a b = fdZ a b := rfl
theorem jv_5 (a b : Int) : jv (-5) a b = if b ≤ a then b else a := rfl
theorem jv_6 (a b : Int) : jv (-6) a b = if a ≤ b then b else a := rfl
theorem jv_7 (a b : Int) : jv (-7) a b = if b ≤ a then 0 else 1 := rfl
theorem jv_8 (a b : Int) : jv (-8) a b = if a ≤ b then 0 else 1 := rfl
theorem jv_9 (a b : Int) : jv (-9) a b = if a = b then 1 else 0 := rfl
theorem jv_10 (a b : Int) : jv (-10) a b = a * b := rfl
theorem jv_11 (a b : Int) : jv (-11) a b = if a + b ≤ 0 then 0 else 1 := rfl
theorem or01 {a b : Int} (ha : a = 0 ∨ a = 1) (hb : b = 0 ∨ b = 1) : orZ a b = if a + b ≤ 0 then 0 else 1 := by
  rcases ha with rfl | rfl <;> rcases hb with rfl | rfl <;> decide +kernel
theorem and01 {a b : Int} (ha : a = 0 ∨ a = 1) (hb : b = 0 ∨ b = 1) : andZ a b = a * b := by
  rcases ha with rfl | rfl <;> rcases hb with rfl | rfl <;> decide +kernel
theorem jv_M {c a b : Int} (hc : -11 ≤ c ∧ c ≤ -1) (ha : M1 a) (hb : M1 b) (h01 : c ≤ -10 → (a = 0 ∨ a = 1) ∧ (b = 0 ∨ b = 1)) : M1 (jv c a b) ∧ (c ≤ -7 → jv c a b = 0 ∨ jv c a b = 1) := by
  have hh : c = -1 ∨ c = -2 ∨ c = -3 ∨ c = -4 ∨ c = -5 ∨ c = -6 ∨ c = -7 ∨ c = -8 ∨ c = -9 ∨ c = -10 ∨ c = -11 := by omega
  rcases hh with h | h | h | h | h | h | h | h | h | h | h <;> subst h
  · rw [jv_1]; exact ⟨clZ_M _, fun w => absurd w (by decide)⟩
  · rw [jv_2]; exact ⟨clZ_M _, fun w => absurd w (by decide)⟩
  · rw [jv_3]; exact ⟨clZ_M _, fun w => absurd w (by decide)⟩
  · rw [jv_4]; exact ⟨fd_M ha, fun w => absurd w (by decide)⟩
  · rw [jv_5]; exact ⟨by split <;> assumption, fun w => absurd w (by decide)⟩
  · rw [jv_6]; exact ⟨by split <;> assumption, fun w => absurd w (by decide)⟩
  · rw [jv_7]; exact ⟨by split <;> omega, fun _ => by split <;> omega⟩
  · rw [jv_8]; exact ⟨by split <;> omega, fun _ => by split <;> omega⟩
  · rw [jv_9]; exact ⟨by split <;> omega, fun _ => by split <;> omega⟩
  · rw [jv_10]
    have o := h01 (by decide)
    have p := fl_01 o.1 o.2
    exact ⟨by rcases p with p | p <;> rw [p] <;> omega, fun _ => p⟩
  · rw [jv_11]; exact ⟨by split <;> omega, fun _ => by split <;> omega⟩
theorem s_jn {c a b : Int} {s : MS} (hc : -11 ≤ c ∧ c ≤ -1) (ha : M1 a) (hb : M1 b) (h01 : c ≤ -10 → (a = 0 ∨ a = 1) ∧ (b = 0 ∨ b = 1)) : pc (m_x3_joined c a b s) (fun r => r = jv c a b) := by
  have C : ∀ z v : Int, M1 z → z = v → pc (m_x3_joined_J199 s z) (fun r => r = v) := fun z v h e => pc_mono s_clip (fun r hr => hr.trans ((clZ_1 h.2 h.1).trans e))
  have D : ∀ z v : Int, clZ z = v → pc (m_x3_joined_J199 s z) (fun r => r = v) := fun z v e => pc_mono s_clip (fun r hr => hr.trans e)
  have JM := jv_M hc ha hb h01
  unfold m_x3_joined m_x3_joined_J179 m_x3_joined_J165 m_x3_joined_J151 m_x3_joined_J137 m_x3_joined_J121 m_x3_joined_J105
  refine pc_rg (pc_if (fun h => ?_) (fun n11 => pc_if (fun h => ?_) (fun n10 => pc_if (fun h => ?_) (fun n9 => pc_if (fun h => ?_) (fun n8 => pc_if (fun h => ?_) (fun n7 => pc_if (fun h => ?_) (fun n6 => pc_if (fun h => ?_) (fun n5 => pc_if (fun h => ?_) (fun n4 => pc_if (fun h => ?_) (fun n3 => pc_if (fun h => ?_) (fun n2 => pc_if (fun h => ?_) (fun n1 => ?_))))))))))))
  · subst h
    have o := h01 (by decide)
    exact pc_rg (C _ _ (by rw [or01 o.1 o.2, ← jv_11]; exact JM.1) (or01 o.1 o.2))
  · subst h
    have o := h01 (by decide)
    exact pc_rg (C _ _ (by rw [and01 o.1 o.2, ← jv_10]; exact JM.1) (and01 o.1 o.2))
  · subst h
    exact pc_rg (pc_rg (pc_if (fun e => C _ _ (by omega) (by rw [jv_9, if_pos e])) (fun e => C _ _ (by omega) (by rw [jv_9, if_neg e]))))
  · subst h
    exact pc_rg (pc_rg (pc_if (fun e => C _ _ (by omega) (by rw [jv_8, if_pos e])) (fun e => C _ _ (by omega) (by rw [jv_8, if_neg e]))))
  · subst h
    exact pc_rg (pc_rg (pc_if (fun e => C _ _ (by omega) (by rw [jv_7, if_pos e])) (fun e => C _ _ (by omega) (by rw [jv_7, if_neg e]))))
  · subst h
    exact pc_rg (pc_rg (pc_if (fun e => pc_rg (C _ _ hb (by rw [jv_6, if_pos e]))) (fun e => pc_rg (C _ _ ha (by rw [jv_6, if_neg e])))))
  · subst h
    exact pc_rg (pc_rg (pc_if (fun e => pc_rg (C _ _ hb (by rw [jv_5, if_pos e]))) (fun e => pc_rg (C _ _ ha (by rw [jv_5, if_neg e])))))
  · subst h
    exact pc_rg (pc_if (fun e => C _ _ (by omega) (by rw [jv_4, fdZ_0 e])) (fun e => pc_dv (pc_dv (pc_dv (pc_rg (C _ _ (by rw [fd_c e]; exact fd_M ha) ((fd_c e).trans (jv_4 a b).symm)))))))
  · subst h
    exact pc_rg (pc_rg (D _ _ (jv_3 a b).symm))
  · subst h
    exact pc_rg (D _ _ (jv_2 a b).symm)
  · subst h
    exact pc_rg (D _ _ (jv_1 a b).symm)
  · exact absurd hc (by omega)
theorem m_jn {c : Int} {t : MS} (hc : -11 ≤ c ∧ c ≤ -1) : pc (m_x12_qJoins (-c) t) (fun o => 2 ≤ gI t 108 ∧ gI o 108 = gI t 108 - 1 ∧ gB o 107 = upZ (gB t 107) (gI t 108 - 2).toNat (jv c (gB t 107 (gI t 108 - 2).toNat) (gB t 107 (gI t 108 - 1).toNat)) ∧ (∀ k, gA o k = gA t k) ∧ ∀ i, i ≠ 108 → gI o i = gI t i) := by
  unfold m_x12_qJoins m_x12_qJoins_J270 m_x12_qJoins_J238 m_x12_qJoins_J219 m_x12_qJoins_J200 m_x12_qJoins_J181 m_x12_qJoins_J161 m_x12_qJoins_J273
  refine pc_rdL2 (fun g1 => pc_rdL2 (fun g2 => pc_stn (fun s28 e28 => ?_)))
  have i28 : gI s28 108 = gI t 108 - 2 := q_II e28
  have b28 : gB s28 107 = gB t 107 := q_Ib e28
  have P : ∀ v : Int, v = jv c (gB t 107 (gI t 108 - 2).toNat) (gB t 107 (gI t 108 - 1).toNat) → pc (bn (m_x12_qPuts v s28) (fun s => some s)) (fun o => 2 ≤ gI t 108 ∧ gI o 108 = gI t 108 - 1 ∧ gB o 107 = upZ (gB t 107) (gI t 108 - 2).toNat (jv c (gB t 107 (gI t 108 - 2).toNat) (gB t 107 (gI t 108 - 1).toNat)) ∧ (∀ k, gA o k = gA t k) ∧ ∀ i, i ≠ 108 → gI o i = gI t i) := fun v hv => pc_bq m_puts (fun o ho => pc_some ⟨by omega, by rw [ho.2.1, i28]; omega, by rw [ho.2.2.1, i28, b28, hv], fun k => (ho.2.2.2.1 k).trans (q_Ia e28), fun i hi => (ho.2.2.2.2 i hi).trans (q_Ii e28 hi)⟩)
  refine pc_rg (pc_if (fun h => ?_) (fun n1 => pc_if (fun h => ?_) (fun n2 => pc_if (fun h => ?_) (fun n3 => pc_if (fun h => ?_) (fun n4 => pc_if (fun h => ?_) (fun n5 => pc_if (fun h => ?_) (fun n6 => pc_if (fun h => ?_) (fun n7 => pc_if (fun h => ?_) (fun n8 => pc_if (fun h => ?_) (fun n9 => pc_if (fun h => ?_) (fun n10 => ?_)))))))))))
  · obtain rfl : c = -1 := by omega
    exact pc_bq m_clip (fun r hr => P r (hr.trans (jv_1 _ _).symm))
  · obtain rfl : c = -2 := by omega
    exact pc_bq m_clip (fun r hr => P r (hr.trans (jv_2 _ _).symm))
  · obtain rfl : c = -3 := by omega
    exact pc_bq m_clip (fun r hr => P r (hr.trans (jv_3 _ _).symm))
  · obtain rfl : c = -4 := by omega
    exact pc_bq m_floor (fun r hr => P r (hr.trans (jv_4 _ _).symm))
  · obtain rfl : c = -5 := by omega
    exact pc_rgL (pc_rgL (pc_if (fun e => P _ (by rw [jv_5, if_pos e])) (fun e => P _ (by rw [jv_5, if_neg e]))))
  · obtain rfl : c = -6 := by omega
    exact pc_rgL (pc_rgL (pc_if (fun e => P _ (by rw [jv_6, if_pos e])) (fun e => P _ (by rw [jv_6, if_neg e]))))
  · obtain rfl : c = -7 := by omega
    exact pc_rgL (pc_rgL (pc_if (fun e => P _ (by rw [jv_7, if_pos e])) (fun e => P _ (by rw [jv_7, if_neg e]))))
  · obtain rfl : c = -8 := by omega
    exact pc_rgL (pc_rgL (pc_if (fun e => P _ (by rw [jv_8, if_pos e])) (fun e => P _ (by rw [jv_8, if_neg e]))))
  · obtain rfl : c = -9 := by omega
    exact pc_rgL (pc_rgL (pc_if (fun e => P _ (by rw [jv_9, if_pos e])) (fun e => P _ (by rw [jv_9, if_neg e]))))
  · obtain rfl : c = -10 := by omega
    exact P _ (jv_10 _ _).symm
  · obtain rfl : c = -11 := by omega
    exact pc_rgL (pc_if (fun e => P _ (by rw [jv_11, if_pos e])) (fun e => P _ (by rw [jv_11, if_neg e])))
/-- one step on two piles that are alike -/
def SPv (s S : MS) : Prop := gA S 38 = gA s 38 ∧ gI S 741 = gI s 741 ∧ gI S 1604 = gI s 1604 ∧ gI S 1605 = gI s 1605
def TP (t T : MS) : Prop := gA T 42 = gA t 42 ∧ gA T 43 = gA t 43 ∧ gA T 44 = gA t 44 ∧ gI T 52 = gI t 52 ∧ gI T 53 = gI t 53
def LPv (S T : MS) (L : List Bool) : Prop := gI S 1601 = (L.length : Int) ∧ gI T 108 = (L.length : Int) ∧ EV (gA S 81) (gB T 107) L
theorem LP_p {S T S' T' : MS} {L : List Bool} {x : Bool} {v : Int} (H : LPv S T L) (hv : M1 v) (hx : x = true → v = 0 ∨ v = 1) (a1 : gI S' 1601 = gI S 1601 + 1) (a2 : gA S' 81 = upZ (gA S 81) (gI S 1601).toNat v) (b1 : gI T' 108 = gI T 108 + 1) (b2 : gB T' 107 = upZ (gB T 107) (gI T 108).toNat v) : LPv S' T' (x :: L) := by
  obtain ⟨h1, h2, h3⟩ := H
  refine ⟨?_, ?_, ?_⟩
  · show gI S' 1601 = ((L.length + 1 : Nat) : Int); omega
  · show gI T' 108 = ((L.length + 1 : Nat) : Int); omega
  · rw [a2, b2, h1, h2, Int.toNat_natCast]
    exact EV_p h3 hv hx
theorem LP_0 {S T : MS} {L R : List Bool} {x : Bool} (H : LPv S T L) (e : L = x :: R) : gA S 81 R.length = gB T 107 R.length ∧ M1 (gB T 107 R.length) ∧ (x = true → gB T 107 R.length = 0 ∨ gB T 107 R.length = 1) ∧ gI S 1601 = (R.length : Int) + 1 ∧ gI T 108 = (R.length : Int) + 1 ∧ EV (gA S 81) (gB T 107) R := by
  subst e
  obtain ⟨h1, h2, h3⟩ := H
  have h1' : gI S 1601 = ((R.length + 1 : Nat) : Int) := h1
  have h2' : gI T 108 = ((R.length + 1 : Nat) : Int) := h2
  exact ⟨h3.1, h3.2.1, h3.2.2.1, by omega, by omega, h3.2.2.2⟩
theorem EV_up {f g : Nat → Int} {L : List Bool} {v w : Int} (h : EV f g L) {n : Nat} (hn : L.length ≤ n) : EV (upZ f n v) (upZ g n w) L := EV_c h (fun j hj => ⟨upZ_n (by omega), upZ_n (by omega)⟩)
/-! what one step does, each side by itself -/
def PU (T T' : MS) (v : Int) : Prop := gI T' 108 = gI T 108 + 1 ∧ gB T' 107 = upZ (gB T 107) (gI T 108).toNat v
def PS (S S' : MS) (v : Int) : Prop := gI S' 1601 = gI S 1601 + 1 ∧ gA S' 81 = upZ (gA S 81) (gI S 1601).toNat v
def RM (T T' : MS) (c : Int) : Prop := (0 ≤ c ∧ PU T T' c) ∨ (c = -113 ∧ PU T T' (gI T 52)) ∨ (c = -114 ∧ PU T T' (gI T 53)) ∨ (c = -12 ∧ gI T' 108 = gI T 108 ∧ gB T' 107 = upZ (gB T 107) (gI T 108 - 1).toNat (1 - gB T 107 (gI T 108 - 1).toNat)) ∨ ((-11 ≤ c ∧ c ≤ -1) ∧ gI T' 108 = gI T 108 - 1 ∧ gB T' 107 = upZ (gB T 107) (gI T 108 - 2).toNat (jv c (gB T 107 (gI T 108 - 2).toNat) (gB T 107 (gI T 108 - 1).toNat)))
def RC (S S' : MS) (c : Int) : Prop := (0 ≤ c ∧ PS S S' c) ∨ (c = -113 ∧ PS S S' (gI S 1604)) ∨ (c = -114 ∧ PS S S' (gI S 1605)) ∨ (c = -12 ∧ gI S' 1601 = gI S 1601 ∧ gA S' 81 = upZ (gA S 81) (gI S 1601 - 1).toNat (1 - gA S 81 (gI S 1601 - 1).toNat)) ∨ ((-11 ≤ c ∧ c ≤ -1) ∧ gI S' 1601 = gI S 1601 - 1 ∧ gA S' 81 = upZ (gA S 81) (gI S 1601 - 2).toNat (jv c (gA S 81 (gI S 1601 - 2).toNat) (gA S 81 (gI S 1601 - 1).toNat)))
theorem m_part0 {T : MS} : pc (m_x12_qPartOf 0 0 T) (fun r => r = gI T 52) := by
  unfold m_x12_qPartOf
  exact pc_rg (pc_if (fun _ => pc_rg (pc_some rfl)) (fun n => absurd rfl n))
theorem m_part3 {T : MS} : pc (m_x12_qPartOf 3 0 T) (fun r => r = gI T 53) := by
  unfold m_x12_qPartOf
  exact pc_rg (pc_if (fun e => absurd e (by decide)) (fun _ => pc_if (fun e => absurd e (by decide)) (fun _ => pc_if (fun e => absurd e (by decide)) (fun _ => pc_if (fun _ => pc_rg (pc_some rfl)) (fun n => absurd rfl n)))))
theorem m_stp {c w x z : Int} {T : MS} {m : Nat} {Q : Int × MS → Prop} (hz : gA T 43 (3 + w).toNat = z) (hx : 0 ≤ x ∧ x < z) (hc : cr c (gA T 44 (1600 + x).toNat)) (hn : ¬ (c = -13 ∨ c = -14) ∧ (c ≤ -100 → c = -113 ∨ c = -114)) (G : ∀ T', TP T T' → RM T T' c → pc (m_x12_codesTell_L19 m w (x + 1) T') Q) : pc (m_x12_codesTell_L19 (m + 1) w x T) Q := by
  show pc (m_x12_codesTell_b19 (m_x12_codesTell_L19 m) w x T) Q
  unfold m_x12_codesTell_b19 m_x12_codesTell_J136
  unfold cr at hc
  have TPo : ∀ o : MS, (∀ k, gA o k = gA T k) → (∀ i, i ≠ 108 → gI o i = gI T i) → TP T o := fun o h1 h2 => ⟨h1 42, h1 43, h1 44, h2 52 (by decide), h2 53 (by decide)⟩
  refine pc_rdI (fun _ => pc_rg (pc_rg (pc_if (fun e => absurd e (by omega)) (fun _ => pc_rdI (fun _ => pc_rg (pc_if (fun e1 => pc_rg (pc_if (fun e2 => pc_rg (pc_if (fun e3 => ?_) (fun e3 => pc_rg (pc_if (fun e4 => ?_) (fun e4 => ?_))))) (fun e2 => ?_))) (fun e1 => ?_)))))))
  · have c1 : c = 1 := by omega
    exact pc_bq m_puts (fun o ho => G o (TPo o ho.2.2.2.1 ho.2.2.2.2) (Or.inl ⟨by omega, ho.2.1, by rw [ho.2.2.1, c1]⟩))
  · exact pc_rdL2 (fun g => pc_inb (pc_stn (fun s25 e25 => G s25 ⟨q_Ba e25, q_Ba e25, q_Ba e25, q_Bi e25, q_Bi e25⟩ (Or.inr (Or.inr (Or.inr (Or.inl ⟨by omega, q_Bi e25, q_BB e25⟩)))))))
  · rw [show gA T 44 (1600 + x).toNat = -c by omega]
    exact pc_bq (m_jn (by omega)) (fun o ho => G o (TPo o ho.2.2.2.1 ho.2.2.2.2) (Or.inr (Or.inr (Or.inr (Or.inr ⟨by omega, ho.2.1, ho.2.2.1⟩)))))
  · rcases (show c = -113 ∨ c = -114 by omega) with h | h
    · rw [show gA T 44 (1600 + x).toNat - 40 = 0 by omega]
      exact pc_bq m_part0 (fun r hr => pc_bq m_puts (fun o ho => G o (TPo o ho.2.2.2.1 ho.2.2.2.2) (Or.inr (Or.inl ⟨h, ho.2.1, by rw [ho.2.2.1, hr]⟩))))
    · rw [show gA T 44 (1600 + x).toNat - 40 = 3 by omega]
      exact pc_bq m_part3 (fun r hr => pc_bq m_puts (fun o ho => G o (TPo o ho.2.2.2.1 ho.2.2.2.2) (Or.inr (Or.inr (Or.inl ⟨h, ho.2.1, by rw [ho.2.2.1, hr]⟩)))))
  · rw [show gA T 44 (1600 + x).toNat - 1000 = c by omega]
    exact pc_rg (pc_bq m_puts (fun o ho => G o (TPo o ho.2.2.2.1 ho.2.2.2.2) (Or.inl ⟨by omega, ho.2.1, ho.2.2.1⟩)))
theorem s_fact13 {S : MS} : pc (m_x3_fact 13 S) (fun r => r = gI S 1604) := by
  unfold m_x3_fact
  exact pc_rg (pc_if (fun e => absurd e (by decide)) (fun _ => pc_if (fun e => absurd e (by decide)) (fun _ => pc_if (fun _ => pc_some rfl) (fun n => absurd rfl n))))
theorem s_fact14 {S : MS} : pc (m_x3_fact 14 S) (fun r => r = gI S 1605) := by
  unfold m_x3_fact
  exact pc_rg (pc_if (fun e => absurd e (by decide)) (fun _ => pc_if (fun e => absurd e (by decide)) (fun _ => pc_if (fun e => absurd e (by decide)) (fun _ => pc_if (fun _ => pc_some rfl) (fun n => absurd rfl n)))))
theorem s_not {v : Int} {S : MS} : pc (m_x3_changed (-12) v S) (fun r => r = 1 - v) := by
  unfold m_x3_changed
  exact pc_rg (pc_if (fun _ => pc_some rfl) (fun n => absurd rfl n))
theorem s_stp {c x z : Int} {S : MS} {n : Nat} {Q : Int × MS → Prop} (hcx : c = gA S 38 x.toNat) (hx : 0 ≤ x ∧ x < z) (h741 : z ≤ gI S 741) (hn : ¬ (c = -13 ∨ c = -14) ∧ (c ≤ -100 → c = -113 ∨ c = -114)) (hl : -114 ≤ c ∧ ¬ (-99 ≤ c ∧ c ≤ -15)) (hb : 0 ≤ gI S 1601 ∧ gI S 1601 ≤ 64) (hp : (0 ≤ c ∨ c ≤ -100) → gI S 1601 < 64) (hu : c = -12 → 1 ≤ gI S 1601)
    (hj : -11 ≤ c ∧ c ≤ -1 → 2 ≤ gI S 1601 ∧ (M1 (gA S 81 (gI S 1601 - 2).toNat) ∧ M1 (gA S 81 (gI S 1601 - 1).toNat)) ∧ (c ≤ -10 → (gA S 81 (gI S 1601 - 2).toNat = 0 ∨ gA S 81 (gI S 1601 - 2).toNat = 1) ∧ (gA S 81 (gI S 1601 - 1).toNat = 0 ∨ gA S 81 (gI S 1601 - 1).toNat = 1)))
    (G : ∀ S', SPv S S' → RC S S' c → pc (m_x3_value_L8 n z (x + 1) S') Q) : pc (m_x3_value_L8 (n + 1) z x S) Q := by
  subst hcx
  show pc (m_x3_value_b8 (m_x3_value_L8 n) z x S) Q
  unfold m_x3_value_b8 m_x3_value_J119
  have SPo : ∀ o : MS, (∀ k, k ≠ 81 → gA o k = gA S k) → (∀ i, i ≠ 1601 → gI o i = gI S i) → SPv S o := fun o h1 h2 => ⟨h1 38 (by decide), h2 741 (by decide), h2 1604 (by decide), h2 1605 (by decide)⟩
  refine pc_rg (pc_if (fun e => absurd e (by omega)) (fun _ => pc_rg (pc_rg (pc_if (fun e => absurd e (by omega)) (fun _ => pc_rg (pc_rg (pc_if (fun e => absurd e (by omega)) (fun _ => pc_rdI (fun _ => pc_rg (pc_if (fun e1 => pc_rg (pc_if (fun e2 => pc_rg (pc_if (fun e3 => ?_) (fun e3 => ?_))) (fun e2 => ?_))) (fun e1 => ?_)))))))))))
  · obtain ⟨j2, ⟨ja, jb⟩, j01⟩ := hj (by omega)
    refine pc_bq (s_pop (by omega)) (fun q28 h28 => pc_bq (s_pop (by rw [h28.2.1]; omega)) (fun q31 h31 => ?_))
    have e28 : q28.1 = gA S 81 (gI S 1601 - 1).toNat := h28.1
    have e31 : q31.1 = gA S 81 (gI S 1601 - 2).toNat := by rw [h31.1, h28.2.2.1 81, h28.2.1, show gI S 1601 - 1 - 1 = gI S 1601 - 2 by omega]
    have k31 : gI q31.2 1601 = gI S 1601 - 2 := by rw [h31.2.1, h28.2.1]; omega
    have a31 : ∀ k, gA q31.2 k = gA S k := fun k => (h31.2.2.1 k).trans (h28.2.2.1 k)
    rw [e28, e31]
    refine pc_bq (s_jn ⟨by omega, by omega⟩ ja jb j01) (fun r33 h33 => pc_bq (s_push (by rw [k31]; omega)) (fun s35 h35 => G s35 (SPo s35 (fun k hk => (h35.2.2.1 k hk).trans (a31 k)) (fun i hi => (h35.2.2.2 i hi).trans ((h31.2.2.2 i hi).trans (h28.2.2.2 i hi)))) (Or.inr (Or.inr (Or.inr (Or.inr ⟨by omega, by rw [h35.1, k31]; omega, by rw [h35.2.1, k31, a31 81, h33]⟩))))))
  · have c12 : gA S 38 x.toNat = -12 := by omega
    have h1 := hu c12
    refine pc_bq (s_pop (by omega)) (fun q38 h38 => ?_)
    rw [c12]
    refine pc_bq s_not (fun r40 h40 => pc_bq (s_push (by rw [h38.2.1]; omega)) (fun s42 h42 => G s42 (SPo s42 (fun k hk => (h42.2.2.1 k hk).trans (h38.2.2.1 k)) (fun i hi => (h42.2.2.2 i hi).trans (h38.2.2.2 i hi))) (Or.inr (Or.inr (Or.inr (Or.inl ⟨c12, by rw [h42.1, h38.2.1]; omega, by rw [h42.2.1, h38.2.1, h38.2.2.1 81, h40, h38.1]⟩))))))
  · have p1 := hp (by omega)
    rcases (show gA S 38 x.toNat = -113 ∨ gA S 38 x.toNat = -114 by omega) with h | h
    · rw [show -100 - gA S 38 x.toNat = 13 by omega]
      exact pc_bq s_fact13 (fun r hr => pc_bq (s_push p1) (fun o ho => G o (SPo o ho.2.2.1 ho.2.2.2) (Or.inr (Or.inl ⟨h, ho.1, by rw [ho.2.1, hr]⟩))))
    · rw [show -100 - gA S 38 x.toNat = 14 by omega]
      exact pc_bq s_fact14 (fun r hr => pc_bq (s_push p1) (fun o ho => G o (SPo o ho.2.2.1 ho.2.2.2) (Or.inr (Or.inr (Or.inl ⟨h, ho.1, by rw [ho.2.1, hr]⟩)))))
  · have p1 := hp (by omega)
    exact pc_bq (s_push p1) (fun o ho => G o (SPo o ho.2.2.1 ho.2.2.2) (Or.inl ⟨by omega, ho.1, ho.2.1⟩))
/-! the kinds that a step wants -/
theorem tyS_u {L L' : List Bool} (h : tyS (-12) L = some L') : ∃ R, L = true :: R ∧ L' = true :: R := by
  cases L with
  | nil =>
    have e : tyS (-12) [] = none := (if_neg (by decide)).trans ((if_neg (by decide)).trans (if_pos (by decide)))
    rw [e] at h
    cases h
  | cons x R =>
    have e : tyS (-12) (x :: R) = if (-12 : Int) = -12 then (if x = true then some (true :: R) else none) else some (false :: R) := (if_neg (by decide)).trans ((if_neg (by decide)).trans (if_pos (by decide)))
    rw [e, if_pos rfl] at h
    by_cases hx : x = true
    · rw [if_pos hx] at h
      cases h
      exact ⟨R, by rw [hx], rfl⟩
    · rw [if_neg hx] at h
      cases h
theorem tyS_j {c : Int} (hc : -11 ≤ c ∧ c ≤ -1) {L L' : List Bool} (h : tyS c L = some L') : ∃ x y R z, L = x :: y :: R ∧ L' = z :: R ∧ (z = true → c ≤ -7) ∧ (c ≤ -10 → x = true ∧ y = true) := by
  cases L with
  | nil =>
    have e : tyS c [] = none := (if_neg (by omega)).trans ((if_neg (by omega)).trans (if_neg (by omega)))
    rw [e] at h
    cases h
  | cons x L1 =>
    cases L1 with
    | nil =>
      have e : tyS c [x] = none := (if_neg (by omega)).trans ((if_neg (by omega)).trans (if_neg (by omega)))
      rw [e] at h
      cases h
    | cons y R =>
      have e : tyS c (x :: y :: R) = if c ≤ -10 then (if x = true ∧ y = true then some (true :: R) else none) else some (decide (c ≤ -7) :: R) := (if_neg (by omega)).trans ((if_neg (by omega)).trans (if_neg (by omega)))
      rw [e] at h
      by_cases k : c ≤ -10
      · rw [if_pos k] at h
        by_cases g : x = true ∧ y = true
        · rw [if_pos g] at h
          cases h
          exact ⟨x, y, R, true, rfl, rfl, fun _ => by omega, fun _ => g⟩
        · rw [if_neg g] at h
          cases h
      · rw [if_neg k] at h
        cases h
        exact ⟨x, y, R, decide (c ≤ -7), rfl, rfl, fun w => of_decide_eq_true w, fun w => absurd w k⟩
/-- alike piles stay alike -/
theorem LP_step {S T S' T' : MS} {c : Int} {L L' : List Bool} (H : LPv S T L) (hy : tyS c L = some L') (a : RC S S' c) (b : RM T T' c) (hf : gI S 1604 = gI T 52 ∧ gI S 1605 = gI T 53) (hM : M1 (gI T 52) ∧ M1 (gI T 53)) (hc : c ≤ 1000000) : LPv S' T' L' := by
  rcases a with ⟨a0, a1⟩ | ⟨a0, a1⟩ | ⟨a0, a1⟩ | ⟨a0, a1⟩ | ⟨a0, a1⟩
  · have e : tyS c L = some (decide (c ≤ 1) :: L) := if_pos a0
    rw [e] at hy
    cases hy
    rcases b with ⟨_, b1⟩ | ⟨b0, _⟩ | ⟨b0, _⟩ | ⟨b0, _⟩ | ⟨b0, _⟩
    · exact LP_p H (v := c) (by omega) (fun w => by have := of_decide_eq_true w; omega) a1.1 a1.2 b1.1 b1.2
    all_goals omega
  · have e : tyS c L = some (false :: L) := (if_neg (by omega)).trans (if_pos (by omega))
    rw [e] at hy
    cases hy
    rcases b with ⟨b0, _⟩ | ⟨_, b1⟩ | ⟨b0, _⟩ | ⟨b0, _⟩ | ⟨b0, _⟩
    · omega
    · exact LP_p H (v := gI T 52) hM.1 (fun w => absurd w (by decide)) a1.1 (by rw [← hf.1]; exact a1.2) b1.1 b1.2
    all_goals omega
  · have e : tyS c L = some (false :: L) := (if_neg (by omega)).trans (if_pos (by omega))
    rw [e] at hy
    cases hy
    rcases b with ⟨b0, _⟩ | ⟨b0, _⟩ | ⟨_, b1⟩ | ⟨b0, _⟩ | ⟨b0, _⟩
    · omega
    · omega
    · exact LP_p H (v := gI T 53) hM.2 (fun w => absurd w (by decide)) a1.1 (by rw [← hf.2]; exact a1.2) b1.1 b1.2
    all_goals omega
  · subst a0
    obtain ⟨R, hL, rfl⟩ := tyS_u hy
    obtain ⟨p1, p2, p3, p4, p5, p6⟩ := LP_0 H hL
    rcases b with ⟨b0, _⟩ | ⟨b0, _⟩ | ⟨b0, _⟩ | ⟨_, b1, b2⟩ | ⟨b0, _⟩
    · omega
    · omega
    · omega
    · have i1 : (gI S 1601 - 1).toNat = R.length := by omega
      have i2' : (gI T 108 - 1).toNat = R.length := by omega
      have a2 := a1.2
      rw [i1] at a2
      rw [i2'] at b2
      refine ⟨?_, ?_, ?_⟩
      · show gI S' 1601 = ((R.length + 1 : Nat) : Int); rw [a1.1]; omega
      · show gI T' 108 = ((R.length + 1 : Nat) : Int); rw [b1]; omega
      · rw [a2, b2, p1]
        have q := p3 rfl
        exact EV_p p6 (by omega) (fun _ => by omega)
    · omega
  · obtain ⟨x, y, R, z, hL, rfl, hz, hxy⟩ := tyS_j a0 hy
    obtain ⟨p1, p2, p3, p4, p5, p6⟩ := LP_0 H hL
    obtain ⟨r1, r2, r3, r4⟩ := p6
    rcases b with ⟨b0, _⟩ | ⟨b0, _⟩ | ⟨b0, _⟩ | ⟨b0, _⟩ | ⟨_, b1, b2⟩
    · omega
    · omega
    · omega
    · omega
    · have ly : (y :: R).length = R.length + 1 := rfl
      rw [ly] at p1 p2 p3 p4 p5
      have i1 : (gI S 1601 - 1).toNat = R.length + 1 := by omega
      have i2' : (gI S 1601 - 2).toNat = R.length := by omega
      have j1 : (gI T 108 - 1).toNat = R.length + 1 := by omega
      have j2 : (gI T 108 - 2).toNat = R.length := by omega
      have a2 := a1.2
      rw [i1, i2', p1, r1] at a2
      rw [j1, j2] at b2
      have JM := jv_M a0 r2 p2 (fun w => ⟨r3 (hxy w).2, p3 (hxy w).1⟩)
      refine ⟨?_, ?_, ?_⟩
      · show gI S' 1601 = ((R.length + 1 : Nat) : Int); rw [a1.1]; omega
      · show gI T' 108 = ((R.length + 1 : Nat) : Int); rw [b1]; omega
      · rw [a2, b2]
        exact EV_p r4 JM.1 (fun w => JM.2 (hz w))
theorem SP_t {s S S' : MS} (h : SPv s S) (g : SPv S S') : SPv s S' := ⟨g.1.trans h.1, g.2.1.trans h.2.1, g.2.2.1.trans h.2.2.1, g.2.2.2.trans h.2.2.2⟩
theorem TP_t {t T T' : MS} (h : TP t T) (g : TP T T') : TP t T' := ⟨g.1.trans h.1, g.2.1.trans h.2.1, g.2.2.1.trans h.2.2.1, g.2.2.2.1.trans h.2.2.2.1, g.2.2.2.2.trans h.2.2.2.2⟩
theorem y_eval {s t : MS} {a z w : Int} (ha : 0 ≤ a ∧ a ≤ z) (h741 : z ≤ gI s 741) (hw : gA t 42 (3 + w).toNat = a) (hz : gA t 43 (3 + w).toNat = z) (h44 : ∀ j : Nat, a ≤ (j : Int) → (j : Int) < z → gA t 44 (1600 + j) ≤ 10999)
    (hc : ∀ j : Nat, (j : Int) < z → cr (gA s 38 j) (gA t 44 (1600 + j))) (hF : FOK (gA s 38) a z 64) (hf : gI s 1604 = gI t 52 ∧ gI s 1605 = gI t 53) (hM : M1 (gI t 52) ∧ M1 (gI t 53)) : pc (m_x3_value a z s) (fun q => pc (m_x12_codesTell w t) (fun o => q.1 = o.1 ∧ (q.1 = 0 ∨ q.1 = 1))) := by
  obtain ⟨hF1, hE, hT⟩ := hF
  have L : ∀ (n : Nat) (x : Int) (S T : MS) (m : Nat) (L : List Bool), (a ≤ x ∧ x ≤ z) → SPv s S → TP t T → tyr (gA s 38) a.toNat (x - a).toNat [] = some L → LPv S T L → pc (m_x3_value_L8 n z x S) (fun q => pc (m_x12_codesTell_L19 m w x T) (fun o => q.1 = o.1 ∧ (q.1 = 0 ∨ q.1 = 1))) := by
    refine fr_ind (fun _ _ _ _ _ _ _ _ _ _ => pc_none) (fun n ih x S T m L hx hS hT' hL hP => ?_)
    cases m with
    | zero => exact fun q _ => pc_none
    | succ m =>
      have hzT : gA T 43 (3 + w).toNat = z := by rw [hT'.2.1]; exact hz
      by_cases xz : x = z
      · show pc (m_x3_value_b8 (m_x3_value_L8 n) z x S) _
        rw [xz] at hL
        have hLb := hE.symm.trans hL
        cases hLb
        obtain ⟨p1, p2, p3, p4, p5, p6⟩ := LP_0 hP rfl
        have p1 : gA S 81 0 = gB T 107 0 := p1
        have p3 : gB T 107 0 = 0 ∨ gB T 107 0 = 1 := p3 rfl
        have p4 : gI S 1601 = 1 := p4
        unfold m_x3_value_b8 m_x3_value_J125
        refine pc_rg (pc_if (fun e => absurd e (by omega)) (fun _ => pc_rg (pc_rg (pc_if (fun _ => ?_) (fun e => absurd (by omega) e)))))
        refine pc_bq (s_pop (by omega)) (fun q4 h4 => pc_some ?_)
        show pc (m_x12_codesTell_b19 (m_x12_codesTell_L19 m) w x T) _
        unfold m_x12_codesTell_b19
        refine pc_rdI (fun _ => pc_rg (pc_rg (pc_if (fun _ => pc_rdL (pc_some ?_)) (fun e => absurd (by omega) e))))
        show q4.1 = gB T 107 (Int.toNat 0) ∧ (q4.1 = 0 ∨ q4.1 = 1)
        rw [h4.1, p4]
        show gA S 81 0 = gB T 107 0 ∧ (gA S 81 0 = 0 ∨ gA S 81 0 = 1)
        rw [p1]
        exact ⟨rfl, p3⟩
      · have xn : (x.toNat : Int) = x := by omega
        have cc := hc x.toNat (by omega)
        have ff := hF1 x.toNat (by omega) (by omega)
        have c9 := h44 x.toNat (by omega) (by omega)
        have idx : (1600 + x).toNat = 1600 + x.toNat := by omega
        obtain ⟨L', hL', hlen⟩ := hT ((x - a).toNat + 1) (by omega)
        have hstep : tyS (gA s 38 x.toNat) L = some L' := by
          have q : (tyr (gA s 38) a.toNat (x - a).toNat []).bind (tyS (gA s 38 (a.toNat + (x - a).toNat))) = some L' := hL'
          rw [hL, show a.toNat + (x - a).toNat = x.toNat by omega] at q
          exact q
        have hlenL : (L.length : Int) ≤ 64 := by
          obtain ⟨R, r1, r2⟩ := hT (x - a).toNat (by omega)
          rw [hL] at r1
          cases r1
          exact r2
        have crb : -118 ≤ gA s 38 x.toNat ∧ gA s 38 x.toNat ≤ 9999 := by
          unfold cr at cc; omega
        have P0 := hP
        obtain ⟨q1, q2, q3⟩ := P0
        refine s_stp (c := gA s 38 x.toNat) (by rw [hS.1]) ⟨by omega, by omega⟩ (by rw [hS.2.1]; exact h741) ff ⟨by unfold cr at cc; omega, by unfold cr at cc; omega⟩ (by omega) (fun w1 => ?_) (fun w1 => ?_) (fun w1 => ?_) (fun S' hS' hRC => ?_)
        · have : L'.length = L.length + 1 := by
            by_cases k : 0 ≤ gA s 38 x.toNat
            · have e : tyS (gA s 38 x.toNat) L = some (decide (gA s 38 x.toNat ≤ 1) :: L) := if_pos k
              rw [e] at hstep
              cases hstep
              rfl
            · have e : tyS (gA s 38 x.toNat) L = some (false :: L) := (if_neg k).trans (if_pos (by omega))
              rw [e] at hstep
              cases hstep
              rfl
          omega
        · rw [w1] at hstep
          obtain ⟨R, hR, _⟩ := tyS_u hstep
          have p := LP_0 hP hR
          omega
        · obtain ⟨x1, y1, R, z1, hR, _, _, hxy⟩ := tyS_j w1 hstep
          obtain ⟨p1, p2, p3, p4, p5, p6⟩ := LP_0 hP hR
          obtain ⟨r1, r2, r3, r4⟩ := p6
          have ly : (y1 :: R).length = R.length + 1 := rfl
          rw [ly] at p1 p2 p3 p4 p5
          have i1 : (gI S 1601 - 1).toNat = R.length + 1 := by omega
          have i2' : (gI S 1601 - 2).toNat = R.length := by omega
          rw [i1, i2', p1, r1]
          exact ⟨by omega, ⟨r2, p2⟩, fun v => ⟨r3 (hxy v).2, p3 (hxy v).1⟩⟩
        · refine fun q eq => m_stp (c := gA s 38 x.toNat) hzT ⟨by omega, by omega⟩ (by rw [idx, hT'.2.2.1]; exact cc) ff (fun T' hTT hRM => ?_)
          exact ih (x + 1) S' T' m L' (by omega) (SP_t hS hS') (TP_t hT' hTT) (by rw [show (x + 1 - a).toNat = (x - a).toNat + 1 by omega]; exact hL') (LP_step hP hstep hRC hRM ⟨by rw [hS.2.2.1, hT'.2.2.2.1]; exact hf.1, by rw [hS.2.2.2, hT'.2.2.2.2]; exact hf.2⟩ ⟨by rw [hT'.2.2.2.1]; exact hM.1, by rw [hT'.2.2.2.2]; exact hM.2⟩ (by omega)) q eq
  unfold m_x3_value m_x12_codesTell
  refine pc_stn (fun s49 e49 => fun q eq => pc_stn (fun s35 e35 => pc_stn (fun s36 e36 => pc_rdI (fun _ => ?_))))
  have i42 : gA s36 42 (3 + w).toNat = a := by rw [(q_Ia e36 : gA s36 42 = gA s35 42), (q_Ia e35 : gA s35 42 = gA t 42)]; exact hw
  rw [i42]
  exact L FU a s49 s36 FU [] ⟨Int.le_refl _, ha.2⟩ ⟨q_Ia e49, q_Ii e49 (by decide), q_Ii e49 (by decide), q_Ii e49 (by decide)⟩ ⟨(q_Ia e36).trans (q_Ia e35), (q_Ia e36).trans (q_Ia e35), (q_Ia e36).trans (q_Ia e35), (q_Ii e36 (by decide)).trans (q_Ii e35 (by decide)), (q_Ii e36 (by decide)).trans (q_Ii e35 (by decide))⟩ (by rw [show (a - a).toNat = 0 by omega]; rfl) ⟨q_II e49, q_II e36, True.intro⟩ q eq
