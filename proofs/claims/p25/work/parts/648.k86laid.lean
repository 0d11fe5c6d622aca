/-! ===== an image's bytes, as the reference reads them ===== -/
def br (g : Nat → Int) (e p : Nat) : Int := if p < e then g p else -1
theorem br_in {g : Nat → Int} {e p : Nat} (h : p < e) : br g e p = g p := if_pos h
def tw2 (g : Nat → Int) (e p : Nat) : Int := if p + 2 ≤ e then 256 * g p + g (p + 1) else -1
theorem tw2_in {g : Nat → Int} {e p : Nat} (h : p + 2 ≤ e) : tw2 g e p = 256 * g p + g (p + 1) := if_pos h
/-- the tape, as the reference reads it -/
def TPr (T : MS) (g : Nat → Int) (e : Nat) : Prop := ∀ j, j ≤ e → gA T 0 j = g j
theorem TPr_k {T o : MS} {g : Nat → Int} {e : Nat} (h : TPr T g e) (a : gA o 0 = gA T 0) : TPr o g e := fun j hj => by rw [a]; exact h j hj
theorem m_byte {T : MS} {g : Nat → Int} {e p : Nat} (hT : TPr T g e) (hp : gI T 114 = (p : Int)) : pc (m_x12_byteRead (e : Int) T) (fun o => o.1 = br g e p ∧ gI o.2 114 = (p : Int) + 1 ∧ (∀ k, gA o.2 k = gA T k) ∧ ∀ i, i ≠ 114 → gI o.2 i = gI T i) := by
  unfold m_x12_byteRead m_x12_byteRead_J33
  refine pc_stn (fun s3 e3 => ?_)
  have i3 : gI s3 114 = (p : Int) + 1 := by rw [(q_II e3 : gI s3 114 = _), hp]
  have kA : ∀ k, gA s3 k = gA T k := fun k => q_Ia e3
  have kI : ∀ i, i ≠ 114 → gI s3 i = gI T i := fun i hi => q_Ii e3 hi
  rw [i3]
  refine pc_rg (pc_rg (pc_if (fun c => pc_some ⟨?_, i3, kA, kI⟩) (fun c => pc_rdI (fun _ => pc_some ⟨?_, i3, kA, kI⟩))))
  · show (-1 : Int) = br g e p
    unfold br
    rw [if_neg (by omega)]
  · show gA s3 0 ((p : Int) + 1 - 1).toNat = br g e p
    unfold br
    rw [if_pos (by omega), kA, show ((p : Int) + 1 - 1).toNat = p by omega, hT p (by omega)]
theorem m_two {T : MS} {g : Nat → Int} {e p : Nat} (BY : ∀ j, j ≤ e → 0 ≤ g j ∧ g j ≤ 255) (hT : TPr T g e) (hp : gI T 114 = (p : Int)) : pc (m_x12_twoRead (e : Int) T) (fun o => o.1 = tw2 g e p ∧ gI o.2 114 = (p : Int) + 2 ∧ (∀ k, gA o.2 k = gA T k) ∧ ∀ i, i ≠ 114 → gI o.2 i = gI T i) := by
  unfold m_x12_twoRead m_x12_twoRead_J22 m_x12_twoRead_J33
  refine pc_bq (m_byte (e := e) hT hp) (fun q6 h6 => ?_)
  obtain ⟨a1, a2, a3, a4⟩ := h6
  refine pc_bq (m_byte (e := e) (p := p + 1) (TPr_k hT (a3 0)) (by rw [a2]; omega)) (fun q9 h9 => ?_)
  obtain ⟨b1, b2, b3, b4⟩ := h9
  have kA : ∀ k, gA q9.2 k = gA T k := fun k => (b3 k).trans (a3 k)
  have kI : ∀ i, i ≠ 114 → gI q9.2 i = gI T i := fun i hi => (b4 i hi).trans (a4 i hi)
  have i9 : gI q9.2 114 = (p : Int) + 2 := by rw [b2]; omega
  unfold br at a1 b1
  refine pc_rg (pc_if (fun c => pc_some ⟨?_, i9, kA, kI⟩) (fun c => pc_rg (pc_if (fun c2 => pc_some ⟨?_, i9, kA, kI⟩) (fun c2 => pc_some ⟨?_, i9, kA, kI⟩))))
  · show (-1 : Int) = tw2 g e p
    unfold tw2
    by_cases z : p < e
    · rw [if_pos z] at a1
      have := (BY p (by omega)).1
      omega
    · rw [if_neg (by omega)]
  · show (-1 : Int) = tw2 g e p
    unfold tw2
    by_cases z : p + 1 < e
    · rw [if_pos z] at b1
      have := (BY (p + 1) (by omega)).1
      omega
    · rw [if_neg (by omega)]
  · show 256 * q6.1 + q9.1 = tw2 g e p
    by_cases z : p + 1 < e
    · rw [if_pos z] at b1
      rw [if_pos (by omega)] at a1
      rw [tw2_in (by omega), a1, b1]
    · rw [if_neg z] at b1
      exact absurd b1 c2
/-- the least that a key may be -/
def lwk (g : Nat → Int) (p : Nat) (l : Int) (j : Nat) : Int := if j = 0 ∨ (j = 1 ∧ 0 < l) then 0 else ke g p (j - 1) + 1
def LOWk (g : Nat → Int) (p : Nat) (l : Int) (n : Int) : Prop := ∀ j : Nat, (j : Int) < n → lwk g p l j ≤ ke g p j ∧ ke g p j ≤ 999
/-- what the reference asks of a block while it reads -/
def ROK (g : Nat → Int) (p : Nat) (E : Int) : Prop := thr g p → (1 ≤ g (p + 3) ∧ g (p + 3) ≤ E) ∧ LOWk g p (g (p + 2)) (g (p + 3))
/-- block b as it lies in the reference's row -/
def RRB (f g : Nat → Int) (p b : Nat) : Prop := (f (17 + 16 * b) = g p ∧ f (18 + 16 * b) = g (p + 1)) ∧ (thr g p → f (19 + 16 * b) = g (p + 2) ∧ f (20 + 16 * b) = g (p + 3) ∧ ∀ k : Nat, k < 6 → (k : Int) < g (p + 3) → f (21 + 16 * b + k) = ke g p k ∧ f (27 + 16 * b + k) = ve g p k) ∧ (¬ thr g p → ∀ i, 2 ≤ i → i < 16 → f (17 + 16 * b + i) = 0)
theorem RRB_x {f f' g : Nat → Int} {p b : Nat} (h : RRB f g p b) (e : ∀ j, 17 + 16 * b ≤ j → j < 33 + 16 * b → f' j = f j) : RRB f' g p b := by
  obtain ⟨⟨a1, a2⟩, a3, a4⟩ := h
  refine ⟨⟨by rw [e _ (by omega) (by omega)]; exact a1, by rw [e _ (by omega) (by omega)]; exact a2⟩, fun ht => ?_, fun hn i i1 i2 => by rw [e _ (by omega) (by omega)]; exact a4 hn i i1 i2⟩
  obtain ⟨b1, b2, b3⟩ := a3 ht
  refine ⟨by rw [e _ (by omega) (by omega)]; exact b1, by rw [e _ (by omega) (by omega)]; exact b2, fun k k6 hk => ?_⟩
  rw [e _ (by omega) (by omega), e _ (by omega) (by omega)]
  exact b3 k k6 hk
def PLb (g : Nat → Int) (e p b : Nat) (E : Int) (T : MS) (q : Int × MS) : Prop := (q.1 = 0 ∨ q.1 = 1) ∧ (q.1 = 1 → gI q.2 114 ≤ (e : Int) → nxp g p ≤ e ∧ gI q.2 114 = (nxp g p : Int) ∧ ROK g p E ∧ RRB (gA q.2 113) g p b) ∧ (nxp g p ≤ e → ROK g p E → q.1 = 1 ∧ gI q.2 114 = (nxp g p : Int)) ∧ ((p : Int) < gI q.2 114) ∧ (∀ j, (j < 17 + 16 * b ∨ 33 + 16 * b ≤ j) → gA q.2 113 j = gA T 113 j) ∧ (∀ k, k ≠ 113 → gA q.2 k = gA T k) ∧ ∀ i, i ≠ 114 → gI q.2 i = gI T i
set_option maxHeartbeats 2000000 in
/-- the entries of a block -/
theorem m_entsL {g : Nat → Int} {e p b : Nat} {E : Int} {T0 : MS} (hb : b < 48) (BY : ∀ j, j ≤ e → 0 ≤ g j ∧ g j ≤ 255) (p3 : p + 3 < e) (ht : thr g p) (hn : 1 ≤ g (p + 3) ∧ g (p + 3) ≤ E) (hE : E ≤ 6) : ∀ (m k : Nat) (T : MS), (k : Int) ≤ g (p + 3) → TPr T g e → gI T 114 = ((p + 4 + 4 * k : Nat) : Int) → (gA T 113 (17 + 16 * b) = g p ∧ gA T 113 (18 + 16 * b) = g (p + 1) ∧ gA T 113 (19 + 16 * b) = g (p + 2) ∧ gA T 113 (20 + 16 * b) = g (p + 3)) → (∀ j, j < k → gA T 113 (21 + 16 * b + j) = tw2 g e (p + 4 + 4 * j) ∧ gA T 113 (27 + 16 * b + j) = tw2 g e (p + 6 + 4 * j)) → (p + 4 + 4 * k ≤ e → LOWk g p (g (p + 2)) (k : Int)) → (∀ j, (j < 17 + 16 * b ∨ 33 + 16 * b ≤ j) → gA T 113 j = gA T0 113 j) → (∀ k, k ≠ 113 → gA T k = gA T0 k) → (∀ i, i ≠ 114 → gI T i = gI T0 i) → pc (m_x12_isLaidBlock_L130 m (e : Int) (17 + 16 * (b : Int)) (k : Int) T) (PLb g e p b E T0) := by
  have nx := nxp_1 ht
  refine fr_ind (fun _ _ _ _ _ _ _ _ _ _ _ => pc_none) (fun m ih k T hk hT hp h4 h1 hL kO kA kI => ?_)
  show pc (m_x12_isLaidBlock_b130 (m_x12_isLaidBlock_L130 m) (e : Int) (17 + 16 * (b : Int)) (k : Int) T) _
  unfold m_x12_isLaidBlock_b130 m_x12_isLaidBlock_J262 m_x12_isLaidBlock_J198 m_x12_isLaidBlock_J202 m_x12_isLaidBlock_J215
  refine pc_rdI (fun _ => ?_)
  rw [show (17 + 16 * (b : Int) + 3).toNat = 20 + 16 * b by omega, h4.2.2.2]
  refine pc_rg (pc_rg (pc_if (fun c => ?_) (fun c => ?_)))
  · have kn : (k : Int) = g (p + 3) := by omega
    have np : nxp g p = p + 4 + 4 * k := by rw [nx]; omega
    rw [hp]
    refine pc_rg (pc_rg (pc_if (fun c2 => pc_bo (pc_some ?_)) (fun c2 => pc_bo (pc_some ?_))))
    · exact ⟨Or.inl rfl, fun w => absurd w (show ¬ ((0 : Int) = 1) by decide), fun w => absurd w (by omega), by show (p : Int) < gI T 114; rw [hp]; omega, kO, kA, kI⟩
    · have in1 : p + 4 + 4 * k ≤ e := by omega
      have L := hL in1
      rw [kn] at L
      refine ⟨Or.inr rfl, fun _ _ => ⟨by omega, by show gI T 114 = _; rw [hp, np], fun _ => ⟨hn, L⟩, ⟨h4.1, h4.2.1⟩, fun _ => ⟨h4.2.2.1, h4.2.2.2, fun j _ hj => ?_⟩, fun w => absurd ht w⟩, fun _ _ => ⟨rfl, by show gI T 114 = _; rw [hp, np]⟩, by show (p : Int) < gI T 114; rw [hp]; omega, kO, kA, kI⟩
      have y := h1 j (by omega)
      rw [tw2_in (by omega), tw2_in (by omega)] at y
      exact ⟨y.1.trans (by unfold ke; rw [show p + 4 + 4 * j + 1 = p + 5 + 4 * j by omega]), y.2.trans (by unfold ve; rw [show p + 6 + 4 * j + 1 = p + 7 + 4 * j by omega])⟩
  · have k6 : k < 6 := by omega
    refine pc_bq (m_two (e := e) (p := p + 4 + 4 * k) BY hT hp) (fun q38 h38 => pc_inb (pc_stn (fun s40 e40 => ?_)))
    obtain ⟨a1, a2, a3, a4⟩ := h38
    rw [show (17 + 16 * (b : Int) + 4 + (k : Int)).toNat = 21 + 16 * b + k by omega] at e40
    refine pc_bq (m_two (e := e) (p := p + 6 + 4 * k) BY (TPr_k hT (by rw [(q_Aa e40 (by decide) : gA s40 0 = _), a3])) (by rw [(q_Ai e40 : gI s40 114 = _), a2]; omega)) (fun q43 h43 => pc_inb (pc_stn (fun s45 e45 => ?_)))
    obtain ⟨b1, b2, b3, b4⟩ := h43
    rw [show (17 + 16 * (b : Int) + 10 + (k : Int)).toNat = 27 + 16 * b + k by omega] at e45
    have k113 : gA s45 113 = upZ (upZ (gA T 113) (21 + 16 * b + k) q38.1) (27 + 16 * b + k) q43.1 := by
      rw [(q_AA e45 : gA s45 113 = _), b3, (q_AA e40 : gA s40 113 = _), a3]
    have kA2 : ∀ j, j ≠ 113 → gA s45 j = gA T j := fun j hj => by rw [(q_Aa e45 hj : gA s45 j = _), b3, (q_Aa e40 hj : gA s40 j = _), a3]
    have kI2 : ∀ i, i ≠ 114 → gI s45 i = gI T i := fun i hi => by rw [(q_Ai e45 : gI s45 i = _), b4 i hi, (q_Ai e40 : gI s40 i = _), a4 i hi]
    have i45 : gI s45 114 = ((p + 4 + 4 * (k + 1) : Nat) : Int) := by rw [(q_Ai e45 : gI s45 114 = _), b2]; omega
    have o113 : ∀ j, j ≠ 21 + 16 * b + k → j ≠ 27 + 16 * b + k → gA s45 113 j = gA T 113 j := fun j j1 j2 => by rw [k113, upZ_n j2, upZ_n j1]
    have kk : gA s45 113 (21 + 16 * b + k) = tw2 g e (p + 4 + 4 * k) := by rw [k113, upZ_n (by omega), upZ_s, a1]
    have kv : gA s45 113 (27 + 16 * b + k) = tw2 g e (p + 6 + 4 * k) := by rw [k113, upZ_s, b1]
    have n1 : ∀ j, j < k + 1 → gA s45 113 (21 + 16 * b + j) = tw2 g e (p + 4 + 4 * j) ∧ gA s45 113 (27 + 16 * b + j) = tw2 g e (p + 6 + 4 * j) := fun j hj => by
      by_cases z : j = k
      · rw [z]; exact ⟨kk, kv⟩
      · rw [o113 _ (by omega) (by omega), o113 _ (by omega) (by omega)]; exact h1 j (by omega)
    have kO2 : ∀ j, (j < 17 + 16 * b ∨ 33 + 16 * b ≤ j) → gA s45 113 j = gA T0 113 j := fun j hj => (o113 j (by omega) (by omega)).trans (kO j hj)
    -- with the least that the key may be
    have GO : ∀ lo : Int, (p + 4 + 4 * (k + 1) ≤ e → lo = lwk g p (g (p + 2)) k) → pc (rdI (gA s45 113) 785 (17 + 16 * (b : Int) + 4 + (k : Int)) (fun y13 => rg y13 (rg lo (bn (m_x12_isIn y13 lo 999 s45) (fun r17 => rg r17 (if r17 = 0 then some (0, s45) else m_x12_isLaidBlock_L130 m (e : Int) (17 + 16 * (b : Int)) ((k : Int) + 1) s45)))))) (PLb g e p b E T0) := fun lo hlo => by
      refine pc_rdI (fun _ => ?_)
      rw [show (17 + 16 * (b : Int) + 4 + (k : Int)).toNat = 21 + 16 * b + k by omega, kk]
      have kin : p + 4 + 4 * (k + 1) ≤ e → tw2 g e (p + 4 + 4 * k) = ke g p k := fun w => by
        rw [tw2_in (by omega)]; unfold ke; rw [show p + 4 + 4 * k + 1 = p + 5 + 4 * k by omega]
      refine pc_rg (pc_rg (pc_bq m_isIn (fun r17 h17 => pc_rg (pc_if (fun c2 => pc_some ?_) (fun c2 => ?_)))))
      · refine ⟨Or.inl rfl, fun w => absurd w (show ¬ ((0 : Int) = 1) by decide), fun w w2 => ?_, by show (p : Int) < gI s45 114; rw [i45]; omega, kO2, fun j hj => (kA2 j hj).trans (kA j hj), fun i hi => (kI2 i hi).trans (kI i hi)⟩
        exfalso
        have l := (w2 ht).2 k (by omega)
        have w' : p + 4 + 4 * (k + 1) ≤ e := by omega
        rw [hlo w', kin w'] at h17
        rcases h17 with ⟨a, _⟩ | ⟨_, a⟩
        · exact absurd (a.symm.trans c2) (by decide)
        · exact a l
      · have l : lo ≤ tw2 g e (p + 4 + 4 * k) ∧ tw2 g e (p + 4 + 4 * k) ≤ 999 := by
          rcases h17 with ⟨_, a⟩ | ⟨a, _⟩
          · exact a
          · exact absurd a c2
        rw [show ((k : Int) + 1) = ((k + 1 : Nat) : Int) by omega]
        refine ih (k + 1) s45 (by omega) (TPr_k hT (kA2 0 (by decide))) i45 ⟨by rw [o113 _ (by omega) (by omega)]; exact h4.1, by rw [o113 _ (by omega) (by omega)]; exact h4.2.1, by rw [o113 _ (by omega) (by omega)]; exact h4.2.2.1, by rw [o113 _ (by omega) (by omega)]; exact h4.2.2.2⟩ n1 (fun w j hj => ?_) kO2 (fun j hj => (kA2 j hj).trans (kA j hj)) (fun i hi => (kI2 i hi).trans (kI i hi))
        by_cases z : j = k
        · rw [z, ← hlo w, ← kin w]; exact l
        · exact hL (by omega) j (by omega)
    -- the key ahead
    have PREV : 1 ≤ k → p + 4 + 4 * (k + 1) ≤ e → gA s45 113 (20 + 16 * b + k) = ke g p (k - 1) := fun h w => by
      have y := (n1 (k - 1) (by omega)).1
      rw [show 21 + 16 * b + (k - 1) = 20 + 16 * b + k by omega, tw2_in (by omega)] at y
      rw [y]; unfold ke; rw [show p + 4 + 4 * (k - 1) + 1 = p + 5 + 4 * (k - 1) by omega]
    have GOP : (1 ≤ k ∧ ¬ (k = 1 ∧ 0 < g (p + 2))) → pc (rdI (gA s45 113) 785 (17 + 16 * (b : Int) + 3 + (k : Int)) (fun y24 => rdI (gA s45 113) 785 (17 + 16 * (b : Int) + 4 + (k : Int)) (fun y13 => rg y13 (rg (y24 + 1) (bn (m_x12_isIn y13 (y24 + 1) 999 s45) (fun r17 => rg r17 (if r17 = 0 then some (0, s45) else m_x12_isLaidBlock_L130 m (e : Int) (17 + 16 * (b : Int)) ((k : Int) + 1) s45))))))) (PLb g e p b E T0) := fun h => by
      refine pc_rdI (fun _ => GO _ (fun w => ?_))
      rw [show (17 + 16 * (b : Int) + 3 + (k : Int)).toNat = 20 + 16 * b + k by omega, PREV h.1 w]
      unfold lwk
      rw [if_neg (by omega)]
    have GO0 : (k = 0 ∨ (k = 1 ∧ 0 < g (p + 2))) → p + 4 + 4 * (k + 1) ≤ e → (0 : Int) = lwk g p (g (p + 2)) k := fun h _ => by
      unfold lwk
      rw [if_pos h]
    refine pc_rg (pc_if (fun c2 => GO 0 (GO0 (Or.inl (by omega)))) (fun c2 => pc_rg (pc_if (fun c3 => pc_rdI (fun _ => ?_)) (fun c3 => GOP ⟨by omega, by omega⟩))))
    rw [show (17 + 16 * (b : Int) + 2).toNat = 19 + 16 * b by omega, o113 _ (by omega) (by omega), h4.2.2.1]
    exact pc_rg (pc_if (fun c4 => GOP ⟨by omega, by omega⟩) (fun c4 => GO 0 (GO0 (Or.inr ⟨by omega, by omega⟩))))
