/-! ===== a root gets one above it; a key goes into its leaf ===== -/
set_option maxHeartbeats 1000000 in
theorem ts_raise0 {p0 : Int} {s : MS} {D : Nat → Int} (hR : Rg s) (H : TS s D (-1)) (hD : ∀ x, x < 48 → 0 ≤ D x) (hE : 3 ≤ gI s 581) (hp : 0 ≤ p0 ∧ p0 < 8) (hr : 0 ≤ gA s 60 p0.toNat ∧ gA s 60 p0.toNat < 48) (hc : 0 < gA s 54 (gA s 60 p0.toNat).toNat) : wp (m_x1_raiseRoot p0 s) (fun q => Rg q.2 ∧ (q.1 = -1 ∨ (TS q.2 D (-1) ∧ Cur q.2 q.1 (gA s 56 (gA s 60 p0.toNat).toNat + 1) ∧ gA q.2 57 q.1.toNat = 1 ∧ gA q.2 60 = upZ (gA s 60) p0.toNat q.1 ∧ (∀ x, x < 48 → 0 < gA s 54 x → gA q.2 54 x = gA s 54 x ∧ gA q.2 56 x = gA s 56 x ∧ gA q.2 57 x = gA s 57 x)))) := by
  have hN48 : gI s 1060 ≤ 48 := H.1.1
  have hE6 : gI s 581 ≤ 6 := (hR.1 581).2
  unfold m_x1_raiseRoot
  refine wp_rdIn (by omega) (fun y3 e3 => ?_)
  rw [e3] at hr hc ⊢
  have hb48 : y3.toNat < 48 := by omega
  have n1 : 1 ≤ gA s 57 y3.toNat := H.2.2.1.1 y3.toNat hb48 hc (by omega)
  have lv : 0 ≤ gA s 56 y3.toNat ∧ gA s 56 y3.toNat ≤ 47 := TG_lev H hD hb48 hc
  have bN : ((y3.toNat : Nat) : Int) < gI s 1060 := TG_lt H hb48 hc
  refine wp_rdIn (by omega) (fun y4 e4 => ?_)
  refine wp_bn (ts_take hR H hD (by omega) (by omega) (by omega)) (fun q7 e7 h7 => ?_)
  obtain ⟨r, o⟩ := q7
  dsimp only at h7 ⊢
  obtain ⟨hRo, Fo, h7⟩ := h7
  have hr2 : R2 r := by rcases h7 with h7 | ⟨h7, _⟩ <;> omega
  unfold m_x1_raiseRoot_J69
  refine wp_rg hr2 (wp_if (fun c1 => wp_some ⟨hRo, Or.inl c1⟩) (fun c1 => ?_))
  rcases h7 with h7 | ⟨⟨r0, r1⟩, ⟨f1, f2⟩, ⟨u54, u56, u57⟩, T1⟩
  · exact absurd h7 c1
  have hq48 : r.toNat < 48 := by omega
  have nqb : y3.toNat ≠ r.toNat := fun q => by rw [q] at hc; omega
  have o55 : gA o 55 = gA s 55 := Fo.2.1 55 (by decide)
  have o58 : gA o 58 = gA s 58 := Fo.2.1 58 (by decide)
  have o60 : gA o 60 = gA s 60 := Fo.2.1 60 (by decide)
  have on : gI o 1060 = gI s 1060 := Fo.1 1060 (by decide)
  have oe : gI o 581 = gI s 581 := Fo.1 581 (by decide)
  refine wp_bn w_slot (fun r11 _ h11 => ?_)
  refine wp_rdIn (by omega) (fun y12 e12 => ?_)
  have ky := (H.2.2.2.2 y3.toNat hb48 (Or.inl hc)).2 0 (by show ((0 : Nat) : Int) < gA s 57 y3.toNat; omega)
  have ky' : 0 ≤ gA s 58 (6 * y3.toNat + 0) ∧ gA s 58 (6 * y3.toNat + 0) ≤ 999 := ky
  rw [o58] at e12
  rw [show 6 * y3.toNat + 0 = r11.toNat by omega, e12] at ky'
  have q54 : gA o 54 r.toNat = 1 := by rw [u54, upZ_s]
  have q55 : gA o 55 r.toNat = 0 := by rw [o55]; exact f2
  have q56 : gA o 56 r.toNat = y4 + 1 := by rw [u56, upZ_s]
  have q57 : gA o 57 r.toNat = 0 := by rw [u57, upZ_s]
  have b56 : gA o 56 y3.toNat = y4 := by rw [u56, upZ_n nqb]; exact e4
  refine wp_bn (ts_insert (p0 := r) (p1 := 0) (p2 := y12) (p3 := y3) hRo T1 (by omega) (by omega) (by omega) (by rw [q57, oe]; omega) (by rw [q57]; omega) ky' (fun _ => ⟨by rw [on]; omega, by rw [q56, b56]; omega⟩) (by omega) (Or.inr rfl)) (fun s14 e14 h14 => ?_)
  obtain ⟨hR14, F14, n57, noth, T2⟩ := h14
  refine wp_inb (by omega) (wp_stn (fun s16 e16 => ?_))
  have hR16 : Rg s16 := e16 ▸ Rg.uAu hR14 (by show (-2 : Int) ≤ r ∧ r ≤ 253; omega)
  have g60 : gA s16 60 = upZ (gA s14 60) p0.toNat r := q_AA e16
  have p60 : gA s14 60 = gA s 60 := (F14.2.1 60 (by decide)).trans o60
  have k54 : gA s16 54 = gA o 54 := (q_Aa e16 (by decide)).trans (F14.2.1 54 (by decide))
  have k55 : gA s16 55 = gA o 55 := (q_Aa e16 (by decide)).trans (F14.2.1 55 (by decide))
  have k56 : gA s16 56 = gA o 56 := (q_Aa e16 (by decide)).trans (F14.2.1 56 (by decide))
  have k57 : gA s16 57 = upZ (gA o 57) r.toNat (gA o 57 r.toNat + 1) := (q_Aa e16 (by decide)).trans n57
  have ke : gI s16 581 = gI s 581 := (q_Ai e16).trans ((F14.1 581 (by decide)).trans oe)
  have T3 := TG_root (v := p0.toNat) (q := r) T2 (by omega) (Or.inl ⟨r0, by show r < gI s14 1060; rw [F14.1 1060 (by decide), on]; exact r1⟩)
  have T4 : TS s16 D (-1) := by
    refine TS_mk (TG_D T3 (fun x hx => ?_)) (hN_eq (q_Aa e16 (by decide)) (q_Aa e16 (by decide)) (q_Aa e16 (by decide))) (kN_eq (q_Aa e16 (by decide))) (q_Ai e16) (q_Ai e16) (q_Aa e16 (by decide)) (q_Aa e16 (by decide)) g60 (q_Aa e16 (by decide))
    show D x = D x + (if x = r.toNat then 1 else 0) - (if 0 < gA o 56 r.toNat ∧ y3 = (x : Int) then 1 else 0) + (if gA s14 60 p0.toNat = (x : Int) then 1 else 0) - (if r = (x : Int) then 1 else 0)
    rw [p60, e3]
    have hl : 0 < gA o 56 r.toNat := by omega
    by_cases z : x = r.toNat
    · by_cases z2 : y3 = (x : Int)
      · exfalso; omega
      · rw [if_pos z, if_neg (fun w => z2 w.2), if_neg z2, if_pos (show r = (x : Int) by omega)]; omega
    · by_cases z2 : y3 = (x : Int)
      · rw [if_neg z, if_pos ⟨hl, z2⟩, if_pos z2, if_neg (show ¬ r = (x : Int) by omega)]; omega
      · rw [if_neg z, if_neg (fun w => z2 w.2), if_neg z2, if_neg (show ¬ r = (x : Int) by omega)]; omega
  refine wp_some ⟨hR16, Or.inr ⟨T4, ⟨⟨r0, by omega⟩, ?_, ?_, ?_, ?_⟩, ?_, ?_, fun x hx hcx => ?_⟩⟩
  · show gA s16 54 r.toNat = 1
    rw [k54]; exact q54
  · show gA s16 55 r.toNat = 0
    rw [k55]; exact q55
  · show gA s16 56 r.toNat = gA s 56 y3.toNat + 1
    rw [k56, q56, e4]
  · show gA s16 57 r.toNat < gI s16 581
    rw [k57, upZ_s, ke, q57]; omega
  · show gA s16 57 r.toNat = 1
    rw [k57, upZ_s, q57]; rfl
  · show gA s16 60 = upZ (gA s 60) p0.toNat r
    rw [g60, p60]
  · have hxq : x ≠ r.toNat := fun z => by rw [z] at hcx; omega
    show gA s16 54 x = gA s 54 x ∧ gA s16 56 x = gA s 56 x ∧ gA s16 57 x = gA s 57 x
    rw [k54, k56, k57, u54, u56, u57, upZ_n hxq, upZ_n hxq, upZ_n hxq, upZ_n hxq]
    exact ⟨rfl, rfl, rfl⟩
theorem ts_raise {p0 : Int} {s : MS} {D : Nat → Int} (hR : Rg s) (H : TS s D (-1)) (hD : ∀ x, x < 48 → 0 ≤ D x) (hE : 3 ≤ gI s 581) (hp : 0 ≤ p0 ∧ p0 < 8) (hr : 0 ≤ gA s 60 p0.toNat ∧ gA s 60 p0.toNat < 48) (hc : 0 < gA s 54 (gA s 60 p0.toNat).toNat) : wp (m_x1_raiseRoot p0 s) (fun q => Rg q.2 ∧ F_x1_raiseRoot s q.2 ∧ (q.1 = -1 ∨ (TS q.2 D (-1) ∧ Cur q.2 q.1 (gA s 56 (gA s 60 p0.toNat).toNat + 1) ∧ gA q.2 57 q.1.toNat = 1 ∧ gA q.2 60 = upZ (gA s 60) p0.toNat q.1 ∧ (∀ x, x < 48 → 0 < gA s 54 x → gA q.2 54 x = gA s 54 x ∧ gA q.2 56 x = gA s 56 x ∧ gA q.2 57 x = gA s 57 x)))) := wp_eq (ts_raise0 hR H hD hE hp hr hc) (fun q eq hq => ⟨hq.1, fr_x1_raiseRoot eq, hq.2⟩)
set_option maxHeartbeats 1000000 in
theorem ts_low {p0 p1 p2 : Int} {s : MS} {D : Nat → Int} {e : Int} (hR : Rg s) (H : TS s D e) (hC : Cur s p0 0) (he : e = -1 ∨ e = p0) (h1 : 0 ≤ p1 ∧ p1 ≤ 999) (h2 : 0 ≤ p2 ∧ p2 ≤ 999) : wp (m_x1_plantLow p0 p1 p2 s) (fun o => Rg o ∧ TS o D (-1)) := by
  obtain ⟨hb, b54, b55, b56, b57⟩ := hC
  have hb48 : p0.toNat < 48 := by omega
  have hE6 : gI s 581 ≤ 6 := (hR.1 581).2
  have nd := TG_nd H hb48 (by omega)
  have n6 : 0 ≤ gA s 57 p0.toNat ∧ gA s 57 p0.toNat ≤ 6 := nd.2.1
  have L35 : ∀ (n : Nat) (a i : Int), (0 ≤ a ∧ a ≤ i) → (i ≤ gA s 57 p0.toNat) → gA s 57 p0.toNat - i < (n : Int) → wp (m_x1_plantLow_L35 n p0 p1 p2 a i s) (fun o => Rg o ∧ TS o D (-1)) := by
    refine fr_ind (fun a i ha hi hm => by exfalso; omega) (fun n ih a i ha hi hm => ?_)
    show wp (m_x1_plantLow_b35 (m_x1_plantLow_L35 n) p0 p1 p2 a i s) _
    unfold m_x1_plantLow_b35
    refine wp_rdIn (by omega) (fun y14 e14 => ?_)
    refine wp_rg (by omega) (wp_rg (by omega) (wp_if (fun c1 => ?_) (fun c1 => ?_)))
    · refine wp_bn (ts_insert (p0 := p0) (p1 := a) (p2 := p1) (p3 := p2) hR H hb (by omega) (by omega) (by omega) (by omega) h1 (fun w => by omega) (by omega) he) (fun s19 e19 h19 => ?_)
      obtain ⟨hR19, F19, n57, noth, T2⟩ := h19
      refine wp_some ⟨hR19, TG_D T2 (fun x hx => ?_)⟩
      show D x = D x - (if 0 < gA s 56 p0.toNat ∧ p2 = (x : Int) then 1 else 0)
      rw [if_neg (fun w => by omega)]; omega
    · refine wp_bn w_slot (fun r21 _ h21 => ?_)
      refine wp_rdIn (by omega) (fun y22 e22 => ?_)
      have r22 := hR.2.1 58 r21.toNat (by show _ < 288; omega)
      rw [e22] at r22
      have r22' : (-257 : Int) ≤ y22 ∧ y22 ≤ 65535 := r22
      unfold m_x1_plantLow_J78
      refine wp_rg (by omega) (wp_rg (by omega) (wp_if (fun c2 => ?_) (fun c2 => ?_)))
      · exact ih (a + 0) (i + 1) (by omega) (by omega) (by omega)
      · exact ih (a + 1) (i + 1) (by omega) (by omega) (by omega)
  unfold m_x1_plantLow
  refine wp_bn (w_x8_find hR hb n6.2 (by omega)) (fun r27 e27 h27 => ?_)
  refine wp_rg (by omega) (wp_if (fun c1 => ?_) (fun c1 => ?_))
  · exact L35 FU 0 0 (by omega) (by omega) (by have := FU_big; omega)
  · refine wp_bn (ts_set (p0 := p0) (p1 := r27) (p2 := p2) hR H hb (by omega) (by omega) (by omega) (fun w => by omega) (by omega)) (fun s31 e31 h31 => ?_)
    obtain ⟨hR31, F31, u59, T2⟩ := h31
    refine wp_some ⟨hR31, TG_ne (e := e) (TG_D T2 (fun x hx => ?_)) (fun p hp hpe => ?_)⟩
    · show D x = D x + (if 0 < gA s 56 p0.toNat ∧ gA s 59 (6 * p0.toNat + r27.toNat) = (x : Int) then 1 else 0) - (if 0 < gA s 56 p0.toNat ∧ p2 = (x : Int) then 1 else 0)
      rw [if_neg (fun w => by omega), if_neg (fun w => by omega)]; omega
    · show 1 ≤ gA s31 57 p
      have : p = p0.toNat := by omega
      rw [F31.2.1 57 (by decide), this]; omega
/-! ===== to put ===== -/
def Z0 : Nat → Int := fun _ => 0
/-- no other root is another, this one is there -/
def RV (s S : MS) (v : Nat) : Prop := (∀ w, w ≠ v → gA S 60 w = gA s 60 w) ∧ gA S 60 v ≠ -2
theorem RV_eq {s S o : MS} {v : Nat} (h : RV s S v) (e : gA o 60 = gA S 60) : RV s o v := by
  unfold RV at h ⊢
  rw [e]; exact h
theorem RV_up {s S o : MS} {v : Nat} {q : Int} (h : ∀ w, w ≠ v → gA S 60 w = gA s 60 w) (e : gA o 60 = upZ (gA S 60) v q) (hq : q ≠ -2) : RV s o v := ⟨fun w hw => by rw [e, upZ_n hw]; exact h w hw, by rw [e, upZ_s]; exact hq⟩
set_option maxHeartbeats 2000000 in
theorem ts_plant0 {p0 p1 p2 : Int} {s : MS} (hR : Rg s) (H : TS s Z0 (-1)) (hE : 3 ≤ gI s 581) (hp : 0 ≤ p0 ∧ p0 < 8) (hv : gA s 60 p0.toNat ≠ -2) (h1 : 0 ≤ p1 ∧ p1 ≤ 999) (h2 : 0 ≤ p2 ∧ p2 ≤ 999) : wp (m_x1_plant p0 p1 p2 s) (fun q => Rg q.2 ∧ (q.1 = 0 ∨ (q.1 = 1 ∧ TS q.2 Z0 (-1) ∧ RV s q.2 p0.toNat))) := by
  have hN48 : gI s 1060 ≤ 48 := H.1.1
  have zD : ∀ x, x < 48 → 0 ≤ Z0 x := fun x _ => Int.le_refl 0
  have zD' : ∀ x, x < 48 → 0 ≤ Z0 x ∧ Z0 x ≤ 10 := fun x _ => ⟨Int.le_refl 0, by show (0 : Int) ≤ 10; omega⟩
  have J219 : ∀ (b : Int) (S : MS) (e : Int), Rg S → (b = -1 ∨ (TS S Z0 e ∧ Cur S b 0 ∧ (e = -1 ∨ e = b) ∧ RV s S p0.toNat)) → wp (m_x1_plant_J219 p1 p2 b S) (fun q => Rg q.2 ∧ (q.1 = 0 ∨ (q.1 = 1 ∧ TS q.2 Z0 (-1) ∧ RV s q.2 p0.toNat))) := by
    intro b S e hRS hb
    unfold m_x1_plant_J219
    have hb2 : R2 b := by rcases hb with hb | ⟨_, ⟨hb, _⟩, _⟩ <;> omega
    refine wp_rg hb2 (wp_if (fun c1 => wp_some ⟨hRS, Or.inl rfl⟩) (fun c1 => ?_))
    rcases hb with hb | ⟨T, hC, he, hV⟩
    · exact absurd hb c1
    · refine wp_bn (ts_low hRS T hC he h1 h2) (fun s8 e8 h8 => ?_)
      have F8 : F_x1_plantLow S s8 := fr_x1_plantLow e8
      exact wp_some ⟨h8.1, Or.inr ⟨rfl, h8.2, RV_eq hV (F8.2.1 60 (by decide))⟩⟩
  have L117 : ∀ (n : Nat) (b i : Int) (S : MS), Rg S → (gI S 581 = gI s 581) → (0 ≤ i ∧ i ≤ 48) → (b = -1 ∨ ∃ e, TS S Z0 e ∧ Cur S b i ∧ (e = -1 ∨ (e = b ∧ i = 0)) ∧ RV s S p0.toNat) → i < (n : Int) → wp (m_x1_plant_L117 n p1 p2 b i S) (fun q => Rg q.2 ∧ (q.1 = 0 ∨ (q.1 = 1 ∧ TS q.2 Z0 (-1) ∧ RV s q.2 p0.toNat))) := by
    refine fr_ind (fun b i S hRS hES hi hb hm => by exfalso; omega) (fun n ih b i S hRS hES hi hb hm => ?_)
    show wp (m_x1_plant_b117 (m_x1_plant_L117 n) p1 p2 b i S) _
    unfold m_x1_plant_b117
    refine wp_rg (by omega) (wp_if (fun c1 => ?_) (fun c1 => ?_))
    · rcases hb with hb | ⟨e, T, hC, he, hV⟩
      · exact J219 b S (-1) hRS (Or.inl hb)
      · exact J219 b S e hRS (Or.inr ⟨T, by rw [show (0 : Int) = i by omega]; exact hC, by omega, hV⟩)
    · have hb2 : R2 b := by rcases hb with hb | ⟨_, _, ⟨hb, _⟩, _⟩ <;> omega
      refine wp_rg hb2 (wp_if (fun c2 => J219 b S (-1) hRS (Or.inl c2)) (fun c2 => ?_))
      rcases hb with hb | ⟨e, T, hC, he, hV⟩
      · exact absurd hb c2
      have hem : e = -1 := by omega
      subst hem
      have hC' := hC
      obtain ⟨hb, b54, b55, b56, b57⟩ := hC
      have hb48 : b.toNat < 48 := by omega
      have hE6 : gI S 581 ≤ 6 := (hRS.1 581).2
      have hN8 : gI S 1060 ≤ 48 := T.1.1
      have n1 : 1 ≤ gA S 57 b.toNat := T.2.2.1.1 b.toNat hb48 (by omega) (by omega)
      refine wp_bn (w_x8_entryFor hRS hb (by omega) (by omega)) (fun r24 e24 h24 => ?_)
      have k24 : 0 ≤ r24 ∧ r24 < gA S 57 b.toNat := by omega
      refine wp_bn w_slot (fun r26 _ h26 => ?_)
      refine wp_rdIn (by omega) (fun y27 e27 => ?_)
      rw [show r26.toNat = 6 * b.toNat + r24.toNat by omega] at e27
      have kid := TG_kid (p := b.toNat) (k := r24.toNat) T zD hb48 (by omega) (by show 0 < gA S 56 b.toNat; omega) (by show ((r24.toNat : Nat) : Int) < gA S 57 b.toNat; omega)
      have v27 : (hN S).2.2 b.toNat r24.toNat = y27 := e27
      rw [v27] at kid
      obtain ⟨⟨k0, k1⟩, k2, k3⟩ := kid
      have k2' : gA S 56 y27.toNat = gA S 56 b.toNat - 1 := k2
      refine wp_bn (ts_owned hRS T zD' (by omega) (by omega) k3) (fun q30 e30 h30 => ?_)
      obtain ⟨r, o⟩ := q30
      dsimp only at h30 ⊢
      obtain ⟨hRo, Fo, h30⟩ := h30
      have hr2 : R2 r := by
        rcases h30 with h30 | ⟨w0, ⟨w1, _⟩, _⟩ <;> omega
      refine wp_rg hr2 (wp_if (fun c3 => wp_some ⟨hRo, Or.inl rfl⟩) (fun c3 => ?_))
      rcases h30 with h30 | ⟨r0, ⟨rq, rN⟩, ⟨o54, o55⟩, ⟨o56, o57⟩, oc, oh, oq, T1⟩
      · exact absurd h30 c3
      have nb : b.toNat ≠ y27.toNat := fun z => by rw [← z] at k2'; omega
      have nq : b.toNat ≠ r.toNat := fun z => by
        rcases oq with oq | oq
        · exact nb (by omega)
        · rw [← z] at oq; omega
      have ob := oh b.toNat hb48 nq
      have c54 : gA o 54 b.toNat = 1 := by rw [oc b.toNat hb48 (by omega) (by omega) nb]; exact b54
      have c55 : gA o 55 b.toNat = 0 := by rw [Fo.2.1 55 (by decide)]; exact b55
      have c56 : gA o 56 b.toNat = i := by rw [ob.1]; exact b56
      have c57 : gA o 57 b.toNat = gA S 57 b.toNat := ob.2.1
      have c59 : gA o 59 (6 * b.toNat + r24.toNat) = y27 := by rw [(ob.2.2 r24.toNat (by omega)).2]; exact e27
      have oe : gI o 581 = gI S 581 := Fo.1 581 (by decide)
      have on : gI o 1060 = gI S 1060 := Fo.1 1060 (by decide)
      refine wp_bn (ts_set (p0 := b) (p1 := r24) (p2 := r) hRo T1 hb (by omega) (by omega) (by omega) (fun _ => ⟨by rw [on]; omega, by omega⟩) (by omega)) (fun s34 e34 h34 => ?_)
      obtain ⟨hR34, F34, u59, T2⟩ := h34
      have T3 : TS s34 Z0 (-1) := by
        refine TG_D T2 (fun x hx => ?_)
        show (0 : Int) = 0 + (if x = r.toNat then 1 else 0) - (if x = y27.toNat then 1 else 0) + (if 0 < gA o 56 b.toNat ∧ gA o 59 (6 * b.toNat + r24.toNat) = (x : Int) then 1 else 0) - (if 0 < gA o 56 b.toNat ∧ r = (x : Int) then 1 else 0)
        rw [c59]
        have hl : 0 < gA o 56 b.toNat := by omega
        have e1 : (if 0 < gA o 56 b.toNat ∧ y27 = (x : Int) then (1 : Int) else 0) = if x = y27.toNat then 1 else 0 := by
          by_cases z : x = y27.toNat
          · rw [if_pos z, if_pos ⟨hl, by omega⟩]
          · rw [if_neg z, if_neg (fun w => z (by omega))]
        have e2 : (if 0 < gA o 56 b.toNat ∧ r = (x : Int) then (1 : Int) else 0) = if x = r.toNat then 1 else 0 := by
          by_cases z : x = r.toNat
          · rw [if_pos z, if_pos ⟨hl, by omega⟩]
          · rw [if_neg z, if_neg (fun w => z (by omega))]
        rw [e1, e2]; omega
      refine wp_bn (w_x1_splits hR34 (by omega)) (fun q37 e37 h37 => ?_)
      obtain ⟨t, s37⟩ := q37
      dsimp only at h37 ⊢
      obtain ⟨hR37, h37⟩ := h37
      have F37 : F_x1_splits s34 s37 := fr_x1_splits e37
      have T4 : TS s37 Z0 (-1) := TS_eq T3 (F37.2.1 54 (by decide)) (F37.2.1 55 (by decide)) (F37.2.1 56 (by decide)) (F37.2.1 57 (by decide)) (F37.2.1 58 (by decide)) (F37.2.1 59 (by decide)) (F37.2.1 60 (by decide)) (F37.2.1 61 (by decide)) (F37.1 1060 (by decide)) (F37.1 581 (by decide))
      have g54 : gA s37 54 = gA o 54 := (F37.2.1 54 (by decide)).trans (F34.2.1 54 (by decide))
      have g55 : gA s37 55 = gA o 55 := (F37.2.1 55 (by decide)).trans (F34.2.1 55 (by decide))
      have g56 : gA s37 56 = gA o 56 := (F37.2.1 56 (by decide)).trans (F34.2.1 56 (by decide))
      have g57 : gA s37 57 = gA o 57 := (F37.2.1 57 (by decide)).trans (F34.2.1 57 (by decide))
      have g60 : gA s37 60 = gA S 60 := (F37.2.1 60 (by decide)).trans ((F34.2.1 60 (by decide)).trans (Fo.2.1 60 (by decide)))
      have ge : gI s37 581 = gI S 581 := (F37.1 581 (by decide)).trans ((F34.1 581 (by decide)).trans oe)
      rw [F34.2.1 57 (by decide), F34.1 581 (by decide), oe] at h37
      have ry : gA o 56 r.toNat = i - 1 := by omega
      unfold m_x1_plant_J211
      refine wp_rg (by omega) (wp_if (fun c5 => ?_) (fun c5 => ?_))
      · refine ih r (i + (-1)) s37 hR37 (by omega) (by omega) (Or.inr ⟨-1, T4, ⟨⟨r0, by omega⟩, by rw [g54]; exact o54, by rw [g55]; exact o55, by rw [g56, ry]; omega, by rw [g57, ge]; omega⟩, Or.inl rfl, RV_eq hV g60⟩) (by omega)
      · refine wp_bn (ts_split (i := i - 1) hR37 T4 zD (by omega) ⟨hb, by rw [g54]; exact c54, by rw [g55]; exact c55, by rw [g56, c56]; omega, by rw [g57, c57, ge]; exact b57⟩ (by rw [g57, c57]; exact k24) ⟨⟨r0, by omega⟩, by rw [g54]; exact o54, by rw [g55]; exact o55, by rw [g56]; exact ry, by rw [g57]; omega⟩ (by omega)) (fun q42 e42 h42 => ?_)
        obtain ⟨r42, s42⟩ := q42
        dsimp only at h42 ⊢
        obtain ⟨hR42, F42, h42⟩ := h42
        refine ih r42 (i + (-1)) s42 hR42 ?_ (by omega) ?_ (by omega)
        · rw [F42.1 581 (by decide), ge]; exact hES
        · rcases h42 with h42 | ⟨T5, C5⟩
          · exact Or.inl h42
          · exact Or.inr ⟨-1, T5, by rw [show i + (-1) = i - 1 by omega]; exact C5, Or.inl rfl, RV_eq hV ((F42.2.1 60 (by decide)).trans g60)⟩
  have J95 : ∀ (b : Int) (S : MS), Rg S → (gI S 581 = gI s 581) → (b = -1 ∨ ∃ e i, TS S Z0 e ∧ Cur S b i ∧ (0 ≤ i ∧ i ≤ 48) ∧ (e = -1 ∨ (e = b ∧ i = 0)) ∧ RV s S p0.toNat) → wp (m_x1_plant_J95 p1 p2 b S) (fun q => Rg q.2 ∧ (q.1 = 0 ∨ (q.1 = 1 ∧ TS q.2 Z0 (-1) ∧ RV s q.2 p0.toNat))) := by
    intro b S hRS hES hb
    unfold m_x1_plant_J95 m_x1_plant_J115
    have hb2 : R2 b := by rcases hb with hb | ⟨_, _, _, ⟨hb, _⟩, _⟩ <;> omega
    refine wp_rg hb2 (wp_if (fun c1 => L117 FU b 0 S hRS hES (by omega) (Or.inl c1) (by have := FU_big; omega)) (fun c1 => ?_))
    rcases hb with hb | ⟨e, i, T, hC, hi, he, hV⟩
    · exact absurd hb c1
    have hC' := hC
    obtain ⟨hb, b54, b55, b56, b57⟩ := hC
    refine wp_rdIn (by omega) (fun y54 e54 => ?_)
    rw [b56] at e54
    rw [← e54]
    exact L117 FU b i S hRS hES hi (Or.inr ⟨e, T, hC', he, hV⟩) (by have := FU_big; omega)
  have J36 : ∀ (b : Int) (o : MS) (e : Int), Rg o → (gI o 581 = gI s 581 ∧ gI o 1060 = gI s 1060 ∧ gA o 60 = gA s 60) → (b = -1 ∨ ((0 ≤ b ∧ b < gI s 1060) ∧ (gA o 54 b.toNat = 1 ∧ gA o 55 b.toNat = 0) ∧ (0 ≤ gA o 56 b.toNat ∧ gA o 56 b.toNat ≤ 47) ∧ TS o (fun x => (if x = b.toNat then 1 else 0) - (if gA s 60 p0.toNat = (x : Int) then 1 else 0)) e ∧ (e = -1 ∨ (e = b ∧ gA o 56 b.toNat = 0 ∧ gA o 57 b.toNat = 0)))) → wp (m_x1_plant_J36 p0 p1 p2 b o) (fun q => Rg q.2 ∧ (q.1 = 0 ∨ (q.1 = 1 ∧ TS q.2 Z0 (-1) ∧ RV s q.2 p0.toNat))) := by
    intro b o e hRo hk hb
    obtain ⟨hEo, hNo, h60⟩ := hk
    unfold m_x1_plant_J36
    have hb2 : R2 b := by rcases hb with hb | ⟨hb, _⟩ <;> omega
    refine wp_rg hb2 (wp_if (fun c1 => wp_some ⟨hRo, Or.inl rfl⟩) (fun c1 => ?_))
    rcases hb with hb | ⟨hb, ⟨b54, b55⟩, b56, T, he⟩
    · exact absurd hb c1
    have hb48 : b.toNat < 48 := by omega
    refine wp_inb (by omega) (wp_stn (fun s67 e67 => ?_))
    have hR67 : Rg s67 := e67 ▸ Rg.uAu hRo (by show (-2 : Int) ≤ b ∧ b ≤ 253; omega)
    have g60 : gA s67 60 = upZ (gA o 60) p0.toNat b := q_AA e67
    have T1 := TG_root (v := p0.toNat) (q := b) T (by omega) (Or.inl ⟨hb.1, by show b < gI o 1060; rw [hNo]; exact hb.2⟩)
    have T2 : TS s67 Z0 e := by
      refine TS_mk (TG_D T1 (fun x hx => ?_)) (hN_eq (q_Aa e67 (by decide)) (q_Aa e67 (by decide)) (q_Aa e67 (by decide))) (kN_eq (q_Aa e67 (by decide))) (q_Ai e67) (q_Ai e67) (q_Aa e67 (by decide)) (q_Aa e67 (by decide)) g60 (q_Aa e67 (by decide))
      show (0 : Int) = (if x = b.toNat then 1 else 0) - (if gA s 60 p0.toNat = (x : Int) then 1 else 0) + (if gA o 60 p0.toNat = (x : Int) then 1 else 0) - (if b = (x : Int) then 1 else 0)
      rw [h60]
      by_cases z : x = b.toNat
      · rw [if_pos z, if_pos (show b = (x : Int) by omega)]; omega
      · rw [if_neg z, if_neg (show ¬ b = (x : Int) by omega)]; omega
    refine wp_bn (w_x1_splits hR67 (by omega)) (fun q70 e70 h70 => ?_)
    obtain ⟨t, s70⟩ := q70
    dsimp only at h70 ⊢
    obtain ⟨hR70, h70⟩ := h70
    have F70 : F_x1_splits s67 s70 := fr_x1_splits e70
    have T3 : TS s70 Z0 e := TS_eq T2 (F70.2.1 54 (by decide)) (F70.2.1 55 (by decide)) (F70.2.1 56 (by decide)) (F70.2.1 57 (by decide)) (F70.2.1 58 (by decide)) (F70.2.1 59 (by decide)) (F70.2.1 60 (by decide)) (F70.2.1 61 (by decide)) (F70.1 1060 (by decide)) (F70.1 581 (by decide))
    have g54 : gA s70 54 = gA o 54 := (F70.2.1 54 (by decide)).trans (q_Aa e67 (by decide))
    have g55 : gA s70 55 = gA o 55 := (F70.2.1 55 (by decide)).trans (q_Aa e67 (by decide))
    have g56 : gA s70 56 = gA o 56 := (F70.2.1 56 (by decide)).trans (q_Aa e67 (by decide))
    have g57 : gA s70 57 = gA o 57 := (F70.2.1 57 (by decide)).trans (q_Aa e67 (by decide))
    have k60 : gA s70 60 = upZ (gA o 60) p0.toNat b := (F70.2.1 60 (by decide)).trans g60
    have ge : gI s70 581 = gI s 581 := (F70.1 581 (by decide)).trans ((q_Ai e67).trans hEo)
    rw [show gA s67 57 = gA o 57 from q_Aa e67 (by decide), show gI s67 581 = gI o 581 from q_Ai e67, hEo] at h70
    refine wp_rg (by omega) (wp_if (fun c5 => ?_) (fun c5 => ?_))
    · exact J95 b s70 hR70 ge (Or.inr ⟨e, gA o 56 b.toNat, T3, ⟨⟨hb.1, by omega⟩, by rw [g54]; exact b54, by rw [g55]; exact b55, by rw [g56], by rw [g57, ge]; omega⟩, by omega, by omega, RV_up (S := o) (fun w _ => by rw [h60]) k60 (by omega)⟩)
    · have T4 : TS s70 Z0 (-1) := TG_ne T3 (fun p hp hpe => by
        show 1 ≤ gA s70 57 p
        rw [g57]
        have : p = b.toNat := by omega
        rw [this]; omega)
      have r60 : gA s70 60 p0.toNat = b := by rw [k60, upZ_s]
      refine wp_bn (ts_raise hR70 T4 zD (by omega) hp (by rw [r60]; omega) (by rw [r60, g54]; omega)) (fun q75 e75 h75 => ?_)
      obtain ⟨r, s75⟩ := q75
      dsimp only at h75 ⊢
      obtain ⟨hR75, F75, h75⟩ := h75
      rw [r60] at h75
      have he75 : gI s75 581 = gI s 581 := (F75.1 581 (by decide)).trans ge
      have hr2 : R2 r := by rcases h75 with h75 | ⟨_, ⟨h75, _⟩, _⟩ <;> omega
      unfold m_x1_plant_J93
      refine wp_rg hr2 (wp_if (fun c6 => J95 (-1) s75 hR75 he75 (Or.inl rfl)) (fun c6 => ?_))
      rcases h75 with h75 | ⟨T5, C5, z5, u60, st5⟩
      · exact absurd h75 c6
      have sb := st5 b.toNat hb48 (by rw [g54]; omega)
      refine wp_bn (ts_split (p0 := r) (p1 := 0) (p2 := b) (p3 := p1) (i := gA s70 56 b.toNat) hR75 T5 zD (by omega) C5 (by rw [z5]; omega) ⟨⟨hb.1, by omega⟩, by rw [sb.1, g54]; exact b54, by rw [F75.2.1 55 (by decide), g55]; exact b55, sb.2.1, by rw [sb.2.2, g57]; omega⟩ (by omega)) (fun q80 e80 h80 => ?_)
      obtain ⟨r80, s80⟩ := q80
      dsimp only at h80 ⊢
      obtain ⟨hR80, F80, h80⟩ := h80
      refine J95 r80 s80 hR80 ((F80.1 581 (by decide)).trans he75) ?_
      rcases h80 with h80 | ⟨T6, C6⟩
      · exact Or.inl h80
      · exact Or.inr ⟨-1, gA s70 56 b.toNat, T6, C6, by rw [g56]; omega, Or.inl rfl, RV_eq (RV_up (o := s75) (S := s70) (fun w hw => by rw [k60, upZ_n hw, h60]) u60 (by have := C5.1; omega)) (F80.2.1 60 (by decide))⟩
  have ro := H.2.2.2.1.1 p0.toNat (by omega)
  have r60 := hR.2.1 60 p0.toNat (by show _ < 8; omega)
  have r60' : (-2 : Int) ≤ gA s 60 p0.toNat ∧ gA s 60 p0.toNat ≤ 253 := r60
  unfold m_x1_plant
  refine wp_rdIn (by omega) (fun y81 e81 => ?_)
  refine wp_rg (by omega) (wp_if (fun c1 => ?_) (fun c1 => ?_))
  · refine wp_bn (ts_take hR H zD (by omega) (by omega) (by omega)) (fun q90 e90 h90 => ?_)
    obtain ⟨r, o⟩ := q90
    dsimp only at h90 ⊢
    obtain ⟨hRo, Fo, h90⟩ := h90
    refine J36 r o r hRo ⟨Fo.1 581 (by decide), Fo.1 1060 (by decide), Fo.2.1 60 (by decide)⟩ ?_
    rcases h90 with h90 | ⟨⟨r0, r1⟩, ⟨f1, f2⟩, ⟨u54, u56, u57⟩, T1⟩
    · exact Or.inl h90
    · refine Or.inr ⟨⟨r0, r1⟩, ⟨by rw [u54, upZ_s], by rw [Fo.2.1 55 (by decide)]; exact f2⟩, by rw [u56, upZ_s]; omega, TG_D T1 (fun x hx => ?_), Or.inr ⟨rfl, by rw [u56, upZ_s], by rw [u57, upZ_s]⟩⟩
      show (if x = r.toNat then (1 : Int) else 0) - (if gA s 60 p0.toNat = (x : Int) then 1 else 0) = 0 + (if x = r.toNat then 1 else 0)
      rw [if_neg (show ¬ gA s 60 p0.toNat = (x : Int) by omega)]; omega
  · refine wp_rdIn (by omega) (fun y84 e84 => ?_)
    have hr254 : 0 ≤ y84 ∧ y84 < 254 := by omega
    have rl := TG_root_live (v := p0.toNat) H zD (by omega) (by omega) (by omega)
    rw [e84] at rl
    have lv : 0 ≤ gA s 56 y84.toNat ∧ gA s 56 y84.toNat ≤ 47 := TG_lev H zD (by omega) rl.2
    refine wp_bn (ts_owned hR H zD' (by omega) (by omega) rl.2) (fun q87 e87 h87 => ?_)
    obtain ⟨r, o⟩ := q87
    dsimp only at h87 ⊢
    obtain ⟨hRo, Fo, h87⟩ := h87
    refine J36 r o (-1) hRo ⟨Fo.1 581 (by decide), Fo.1 1060 (by decide), Fo.2.1 60 (by decide)⟩ ?_
    rcases h87 with h87 | ⟨r0, ⟨rq, rN⟩, ⟨o54, o55⟩, ⟨o56, o57⟩, oc, oh, oq, T1⟩
    · exact Or.inl h87
    · refine Or.inr ⟨⟨r0, by omega⟩, ⟨o54, o55⟩, by rw [o56]; exact lv, TG_D T1 (fun x hx => ?_), Or.inl rfl⟩
      show (if x = r.toNat then (1 : Int) else 0) - (if gA s 60 p0.toNat = (x : Int) then 1 else 0) = 0 + (if x = r.toNat then 1 else 0) - (if x = y84.toNat then 1 else 0)
      rw [e84]
      by_cases z : x = y84.toNat
      · rw [if_pos z, if_pos (show y84 = (x : Int) by omega)]; omega
      · rw [if_neg z, if_neg (show ¬ y84 = (x : Int) by omega)]; omega
theorem ts_plant {p0 p1 p2 : Int} {s : MS} (hR : Rg s) (H : TS s Z0 (-1)) (hE : 3 ≤ gI s 581) (hp : 0 ≤ p0 ∧ p0 < 8) (hv : gA s 60 p0.toNat ≠ -2) (h1 : 0 ≤ p1 ∧ p1 ≤ 999) (h2 : 0 ≤ p2 ∧ p2 ≤ 999) : wp (m_x1_plant p0 p1 p2 s) (fun q => Rg q.2 ∧ F_x1_plant s q.2 ∧ (q.1 = 0 ∨ (q.1 = 1 ∧ TS q.2 Z0 (-1) ∧ RV s q.2 p0.toNat))) := wp_eq (ts_plant0 hR H hE hp hv h1 h2) (fun q eq hq => ⟨hq.1, fr_x1_plant eq, hq.2⟩)
/-! ===== to remove ===== -/
theorem w_del_neg {p0 p1 : Int} {s : MS} (h : p1 = -1) : wp (m_x8_delete p0 p1 s) (fun o => o = s) := by
  unfold m_x8_delete m_x8_delete_J14
  exact wp_rg (by omega) (wp_if (fun _ => wp_some rfl) (fun c => by omega))
set_option maxHeartbeats 1000000 in
theorem ts_lower {p0 : Int} {s : MS} (hR : Rg s) (H : TS s Z0 (-1)) {s0 : MS} (hp : 0 ≤ p0 ∧ p0 < 8) (hv : RV s0 s p0.toNat) : wp (m_x1_lowerRoot p0 s) (fun o => Rg o ∧ TS o Z0 (-1) ∧ RV s0 o p0.toNat) := by
  have zD : ∀ x, x < 48 → 0 ≤ Z0 x := fun x _ => Int.le_refl 0
  have L2 : ∀ (n : Nat) (i : Int) (S : MS), Rg S → TS S Z0 (-1) → RV s0 S p0.toNat → (0 ≤ i ∧ i ≤ 48) → 48 - i < (n : Int) → wp (m_x1_lowerRoot_L2 n p0 i S) (fun o => Rg o ∧ TS o Z0 (-1) ∧ RV s0 o p0.toNat) := by
    refine fr_ind (fun i S hRS T hV hi hm => by exfalso; omega) (fun n ih i S hRS T hV hi hm => ?_)
    have hv := hV.2
    show wp (m_x1_lowerRoot_b2 (m_x1_lowerRoot_L2 n) p0 i S) _
    unfold m_x1_lowerRoot_b2 m_x1_lowerRoot_J48
    refine wp_rg (by omega) (wp_if (fun c1 => wp_some ⟨hRS, T, hV⟩) (fun c1 => ?_))
    refine wp_rdIn (by omega) (fun y7 e7 => ?_)
    have r60 := hRS.2.1 60 p0.toNat (by show _ < 8; omega)
    have r60' : (-2 : Int) ≤ gA S 60 p0.toNat ∧ gA S 60 p0.toNat ≤ 253 := r60
    have hN48 : gI S 1060 ≤ 48 := T.1.1
    refine wp_rg (by omega) (wp_if (fun c2 => wp_some ⟨hRS, T, hV⟩) (fun c2 => ?_))
    have rl := TG_root_live (v := p0.toNat) T zD (by omega) (by omega) (by omega)
    rw [e7] at rl r60' hv
    have hb48 : y7.toNat < 48 := by omega
    have lv : 0 ≤ gA S 56 y7.toNat ∧ gA S 56 y7.toNat ≤ 47 := TG_lev T zD hb48 rl.2
    have nd := TG_nd T hb48 rl.2
    have n6 : 0 ≤ gA S 57 y7.toNat ∧ gA S 57 y7.toNat ≤ 6 := nd.2.1
    refine wp_rdIn (by omega) (fun y10 e10 => ?_)
    refine wp_rg (by omega) (wp_if (fun c3 => wp_some ⟨hRS, T, hV⟩) (fun c3 => ?_))
    refine wp_rdIn (by omega) (fun y13 e13 => ?_)
    refine wp_rg (by omega) (wp_if (fun c4 => ?_) (fun c4 => wp_some ⟨hRS, T, hV⟩))
    refine wp_bn w_slot (fun r17 _ h17 => ?_)
    refine wp_rdIn (by omega) (fun y18 e18 => ?_)
    have kid := TG_kid (p := y7.toNat) (k := 0) T zD hb48 rl.2 (by show 0 < gA S 56 y7.toNat; omega) (by show ((0 : Nat) : Int) < gA S 57 y7.toNat; omega)
    have v18 : (hN S).2.2 y7.toNat 0 = y18 := by
      show gA S 59 (6 * y7.toNat + 0) = y18
      rw [show 6 * y7.toNat + 0 = r17.toNat by omega]; exact e18
    rw [v18] at kid
    obtain ⟨⟨k0, k1⟩, k2, k3⟩ := kid
    have k2' : gA S 56 y18.toNat = gA S 56 y7.toNat - 1 := k2
    have hy48 : y18.toNat < 48 := by omega
    have ne : y7.toNat ≠ y18.toNat := fun z => by rw [z] at k2'; omega
    have cb : gA S 54 y18.toNat ≤ Z0 y18.toNat + 296 := TG_cb T hy48
    have cb' : gA S 54 y18.toNat ≤ 0 + 296 := cb
    refine wp_rdIn (by omega) (fun y19 e19 => ?_)
    have TI := TG_inc T hy48 k3
    rw [e19] at TI cb' k3
    refine wp_inb (by omega) (wp_stn (fun s21 e21 => ?_))
    have hR21 : Rg s21 := e21 ▸ Rg.uAu hRS (by show (-1 : Int) ≤ y19 + 1 ∧ y19 + 1 ≤ 100000; omega)
    have g54 : gA s21 54 = upZ (gA S 54) y18.toNat (y19 + 1) := q_AA e21
    refine wp_inb (by omega) (wp_stn (fun s23 e23 => ?_))
    have hR23 : Rg s23 := e23 ▸ Rg.uAu hR21 (by show (-2 : Int) ≤ y18 ∧ y18 ≤ 253; omega)
    have g60 : gA s23 60 = upZ (gA S 60) p0.toNat y18 := (q_AA e23).trans (by rw [show gA s21 60 = gA S 60 from q_Aa e21 (by decide)])
    have k54 : gA s23 54 = upZ (gA S 54) y18.toNat (y19 + 1) := (q_Aa e23 (by decide)).trans g54
    have TR := TG_root (v := p0.toNat) (q := y18) TI (by omega) (Or.inl ⟨k0, k1⟩)
    have kk : ∀ k, k ≠ 54 → k ≠ 60 → gA s23 k = gA S k := fun k h1 h2 => (q_Aa e23 h2).trans (q_Aa e21 h1)
    have kI : ∀ k, gI s23 k = gI S k := fun k => (q_Ai e23).trans (q_Ai e21)
    have T2 : TS s23 (fun x => if x = y7.toNat then 1 else 0) (-1) := by
      refine TS_mk (TG_D TR (fun x hx => ?_)) (hN_eq (kk 56 (by decide) (by decide)) (kk 57 (by decide) (by decide)) (kk 59 (by decide) (by decide))) (kN_eq (kk 58 (by decide) (by decide))) (kI _) (kI _) k54 (kk 55 (by decide) (by decide)) g60 (kk 61 (by decide) (by decide))
      show (if x = y7.toNat then (1 : Int) else 0) = 0 + (if x = y18.toNat then 1 else 0) + (if gA S 60 p0.toNat = (x : Int) then 1 else 0) - (if y18 = (x : Int) then 1 else 0)
      rw [e7]
      have a1 : (if y7 = (x : Int) then (1 : Int) else 0) = if x = y7.toNat then 1 else 0 := by
        by_cases z : x = y7.toNat
        · rw [if_pos z, if_pos (by omega)]
        · rw [if_neg z, if_neg (by omega)]
      have a2 : (if y18 = (x : Int) then (1 : Int) else 0) = if x = y18.toNat then 1 else 0 := by
        by_cases z : x = y18.toNat
        · rw [if_pos z, if_pos (by omega)]
        · rw [if_neg z, if_neg (by omega)]
      rw [a1, a2]; omega
    refine wp_bn (w_x1_release_v2 hR23 T2.1.2.1 (by rw [kI]; omega) (by rw [k54, upZ_n ne]; exact rl.2) (fun x hx => by rw [T2.2.1.1 x hx]; show (0 : Int) ≤ if x = y7.toNat then 1 else 0; split <;> omega)) (fun q26 e26 h26 => ?_)
    obtain ⟨m, o⟩ := q26
    dsimp only at h26 ⊢
    obtain ⟨hRo, hRel, _, _⟩ := h26
    have Fo : F_x1_release_v2 s23 o := fr_x1_release_v2 e26
    have T3 : TS o Z0 (-1) := by
      refine TS_mk (TG_D (TG_rel T2 hRel) (fun x hx => ?_)) (hN_eq (Fo.2.1 56 (by decide)) (Fo.2.1 57 (by decide)) (Fo.2.1 59 (by decide))) (kN_eq (Fo.2.1 58 (by decide))) (Fo.1 1060 (by decide)) (Fo.1 581 (by decide)) rfl (Fo.2.1 55 (by decide)) (Fo.2.1 60 (by decide)) (Fo.2.1 61 (by decide))
      show (0 : Int) = (if x = y7.toNat then 1 else 0) - (if (x : Int) = y7 then 1 else 0)
      by_cases z : x = y7.toNat
      · rw [if_pos z, if_pos (by omega)]; rfl
      · rw [if_neg z, if_neg (by omega)]; rfl
    exact ih (i + 1) o hRo T3 (RV_eq (RV_up hV.1 g60 (by omega)) (Fo.2.1 60 (by decide))) (by omega) (by omega)
  exact L2 FU 0 s hR H hv (by omega) (by have := FU_big; omega)
/-- the blocks on the way down, each changeable; which entry led on -/
def PathP (s : MS) (v : Nat) (d : Int) (P : Nat → Nat) (i : Nat) : Prop := gA s 60 v = (P 0 : Int) ∧ (∀ j, j ≤ i → P j < 48 ∧ gA s 54 (P j) = 1 ∧ gA s 55 (P j) = 0 ∧ gA s 56 (P j) = d - (j : Int)) ∧ (∀ j, j < i → (0 ≤ gA s 51 j ∧ gA s 51 j < gA s 57 (P j)) ∧ gA s 59 (6 * P j + (gA s 51 j).toNat) = (P (j + 1) : Int))
set_option maxHeartbeats 2000000 in
theorem ts_prune {p0 p1 : Int} {s s0 : MS} {d : Nat} {P : Nat → Nat} (hR : Rg s) (H : TS s Z0 (-1)) (hp : 0 ≤ p0 ∧ p0 < 8) (hd : d ≤ 47) (hP : PathP s p0.toNat (d : Int) P d) (h1 : R2 p1) (hV0 : RV s0 s p0.toNat) : wp (m_x1_prune p0 p1 (d : Int) s) (fun o => Rg o ∧ TS o Z0 (-1) ∧ RV s0 o p0.toNat) := by
  have inj : ∀ (S : MS) (i : Nat), PathP S p0.toNat (d : Int) P i → ∀ j k, j ≤ i → k ≤ i → j ≠ k → P j ≠ P k := fun S i h j k hj hk hn z => by
    have a1 := (h.2.1 j hj).2.2.2
    have a2 := (h.2.1 k hk).2.2.2
    rw [z] at a1; omega
  have L98 : ∀ (n : Nat) (i : Int) (S : MS), Rg S → ((-1) ≤ i ∧ i ≤ (d : Int)) → RV s0 S p0.toNat → ((i = -1 ∧ TS S Z0 (-1)) ∨ (0 ≤ i ∧ TS S Z0 (P i.toNat : Int) ∧ PathP S p0.toNat (d : Int) P i.toNat ∧ ∀ j : Nat, j ≤ i.toNat → gA S 50 j = (P j : Int))) → i + 1 < (n : Int) → wp (m_x1_prune_L98 n p0 i S) (fun o => Rg o ∧ TS o Z0 (-1) ∧ RV s0 o p0.toNat) := by
    refine fr_ind (fun i S hRS hi hV hc hm => by exfalso; omega) (fun n ih i S hRS hi hV hc hm => ?_)
    show wp (m_x1_prune_b98 (m_x1_prune_L98 n) p0 i S) _
    unfold m_x1_prune_b98 m_x1_prune_J186 m_x1_prune_J180
    refine wp_rg (by omega) (wp_if (fun c1 => ?_) (fun c1 => ?_))
    · rcases hc with ⟨_, T⟩ | ⟨h0, _⟩
      · exact wp_some ⟨hRS, T, hV⟩
      · omega
    · rcases hc with ⟨h0, _⟩ | ⟨h0, T, hP, h50⟩
      · omega
      have hPi := hP.2.1 i.toNat (Nat.le_refl _)
      have e50 := h50 i.toNat (Nat.le_refl _)
      have nd := TG_nd T hPi.1 (by omega)
      have n6 : 0 ≤ gA S 57 (P i.toNat) ∧ gA S 57 (P i.toNat) ≤ 6 := nd.2.1
      refine wp_rdIn (by omega) (fun y10 e10 => ?_)
      rw [e50] at e10
      refine wp_rdIn (by omega) (fun y11 e11 => ?_)
      rw [show y10.toNat = P i.toNat by omega] at e11
      refine wp_rg (by omega) (wp_if (fun c2 => ?_) (fun c2 => ?_))
      · refine wp_rdIn (by omega) (fun y14 e14 => ?_)
        rw [e50] at e14
        have y14e : y14.toNat = P i.toNat := by omega
        refine wp_inb (by omega) (wp_stn (fun s16 e16 => ?_))
        rw [y14e] at e16
        have hR16 : Rg s16 := e16 ▸ Rg.uAu hRS (by show (-1 : Int) ≤ 0 ∧ (0 : Int) ≤ 100000; omega)
        have g54 : gA s16 54 = upZ (gA S 54) (P i.toNat) 0 := q_AA e16
        have kk : ∀ k, k ≠ 54 → gA s16 k = gA S k := fun k h => q_Aa e16 h
        have kI : ∀ k, gI s16 k = gI S k := fun k => q_Ai e16
        have TK := TG_kill T hPi.1 hPi.2.1 (by show gA S 57 (P i.toNat) = 0; omega) (-1) (fun p hp => Or.inr (by omega))
        have T16 : TS s16 (fun x => 0 - (if x = P i.toNat then 1 else 0)) (-1) := TS_mk TK (hN_eq (kk 56 (by decide)) (kk 57 (by decide)) (kk 59 (by decide))) (kN_eq (kk 58 (by decide))) (kI _) (kI _) g54 (kk 55 (by decide)) (kk 60 (by decide)) (kk 61 (by decide))
        refine wp_rg (by omega) (wp_if (fun c3 => ?_) (fun c3 => ?_))
        · refine wp_inb (by omega) (wp_stn (fun s20 e20 => ?_))
          have hR20 : Rg s20 := e20 ▸ Rg.uAu hR16 (by show (-2 : Int) ≤ -1 ∧ (-1 : Int) ≤ 253; omega)
          have g60 : gA s20 60 = upZ (gA s16 60) p0.toNat (-1) := q_AA e20
          have TR := TG_root (v := p0.toNat) (q := -1) T16 (by omega) (Or.inr (Or.inl (by omega)))
          refine ih (i + (-1)) s20 hR20 (by omega) (RV_up (S := s16) (fun w hw => by rw [kk 60 (by decide)]; exact hV.1 w hw) g60 (by omega)) (Or.inl ⟨by omega, ?_⟩) (by omega)
          refine TS_mk (TG_D TR (fun x hx => ?_)) (hN_eq (q_Aa e20 (by decide)) (q_Aa e20 (by decide)) (q_Aa e20 (by decide))) (kN_eq (q_Aa e20 (by decide))) (q_Ai e20) (q_Ai e20) (q_Aa e20 (by decide)) (q_Aa e20 (by decide)) g60 (q_Aa e20 (by decide))
          show (0 : Int) = 0 - (if x = P i.toNat then 1 else 0) + (if gA s16 60 p0.toNat = (x : Int) then 1 else 0) - (if (-1 : Int) = (x : Int) then 1 else 0)
          rw [kk 60 (by decide), hP.1, show P 0 = P i.toNat by rw [show i.toNat = 0 by omega], if_neg (show ¬ (-1 : Int) = (x : Int) by omega)]
          by_cases z : x = P i.toNat
          · rw [if_pos z, if_pos (by omega)]; rfl
          · rw [if_neg z, if_neg (by omega)]; rfl
        · obtain ⟨k, hk⟩ : ∃ k, i.toNat = k + 1 := ⟨i.toNat - 1, by omega⟩
          have ik : (i - 1).toNat = k := by omega
          have hPk := hP.2.1 k (by omega)
          have hLk := hP.2.2 k (by omega)
          have ek := h50 k (by omega)
          have nk : P k ≠ P i.toNat := inj S i.toNat hP k i.toNat (by omega) (Nat.le_refl _) (by omega)
          have ndk := TG_nd T hPk.1 (by omega)
          have n6k : 0 ≤ gA S 57 (P k) ∧ gA S 57 (P k) ≤ 6 := ndk.2.1
          refine wp_rdIn (by omega) (fun y21 e21 => ?_)
          rw [ik, kk 50 (by decide), ek] at e21
          refine wp_rdIn (by omega) (fun y22 e22 => ?_)
          rw [ik, kk 51 (by decide)] at e22
          have y21e : y21.toNat = P k := by omega
          rw [e22] at hLk
          refine wp_bn (ts_delete (p0 := y21) (p1 := y22) hR16 T16 (by omega) (by rw [y21e, g54, upZ_n nk]; omega) (by rw [y21e, kk 55 (by decide)]; omega) (by rw [y21e, kk 57 (by decide)]; exact hLk.1)) (fun s24 e24 h24 => ?_)
          obtain ⟨hR24, F24, n57, noth, TD⟩ := h24
          rw [y21e] at n57 noth TD
          refine ih (i + (-1)) s24 hR24 (by omega) (RV_eq hV ((F24.2.1 60 (by decide)).trans (kk 60 (by decide)))) (Or.inr ⟨by omega, ?_, ⟨?_, fun j hj => ?_, fun j hj => ?_⟩, fun j hj => ?_⟩) (by omega)
          · rw [show (i + (-1)).toNat = k by omega, e21]
            refine TG_D TD (fun x hx => ?_)
            show (0 : Int) = 0 - (if x = P i.toNat then 1 else 0) + (if 0 < gA s16 56 (P k) ∧ gA s16 59 (6 * P k + y22.toNat) = (x : Int) then 1 else 0)
            rw [kk 56 (by decide), kk 59 (by decide), hLk.2, ← hk]
            by_cases z : x = P i.toNat
            · rw [if_pos z, if_pos ⟨by omega, by omega⟩]; rfl
            · rw [if_neg z, if_neg (fun w => z (by omega))]; rfl
          · rw [F24.2.1 60 (by decide), kk 60 (by decide)]; exact hP.1
          · have hPj := hP.2.1 j (by omega)
            have nj : P j ≠ P i.toNat := inj S i.toNat hP j i.toNat (by omega) (Nat.le_refl _) (by omega)
            rw [F24.2.1 54 (by decide), F24.2.1 55 (by decide), F24.2.1 56 (by decide), g54, upZ_n nj, kk 55 (by decide), kk 56 (by decide)]
            exact hPj
          · have hLj := hP.2.2 j (by omega)
            have nj : P j ≠ P k := inj S i.toNat hP j k (by omega) (by omega) (by omega)
            have hPj := hP.2.1 j (by omega)
            have ndj := (TG_nd T hPj.1 (by omega)).2.1
            have ndj' : 0 ≤ gA S 57 (P j) ∧ gA S 57 (P j) ≤ 6 := ndj
            rw [F24.2.1 51 (by decide), kk 51 (by decide), n57, upZ_n nj, kk 57 (by decide)]
            refine ⟨hLj.1, ?_⟩
            rw [(noth (P j) hPj.1 nj _ (by omega)).2, kk 59 (by decide)]
            exact hLj.2
          · rw [F24.2.1 50 (by decide), kk 50 (by decide)]; exact h50 j (by omega)
      · refine wp_some ⟨hRS, TG_ne T (fun p hp hpe => ?_), hV⟩
        show 1 ≤ gA S 57 p
        rw [show p = P i.toNat by omega]; omega
  have L18 : ∀ (n : Nat) (i : Int) (S : MS), Rg S → (0 ≤ i ∧ i ≤ (d : Int)) → (∀ k, k ≠ 50 → gA S k = gA s k) → (∀ k, gI S k = gI s k) → (∀ j : Nat, j ≤ i.toNat → gA S 50 j = (P j : Int)) → (d : Int) - i < (n : Int) → wp (m_x1_prune_L18 n p0 p1 (d : Int) i S) (fun o => Rg o ∧ TS o Z0 (-1) ∧ RV s0 o p0.toNat) := by
    refine fr_ind (fun i S hRS hi hA hI h50 hm => by exfalso; omega) (fun n ih i S hRS hi hA hI h50 hm => ?_)
    show wp (m_x1_prune_b18 (m_x1_prune_L18 n) p0 p1 (d : Int) i S) _
    unfold m_x1_prune_b18
    have T : TS S Z0 (-1) := TS_eq H (hA 54 (by decide)) (hA 55 (by decide)) (hA 56 (by decide)) (hA 57 (by decide)) (hA 58 (by decide)) (hA 59 (by decide)) (hA 60 (by decide)) (hA 61 (by decide)) (hI _) (hI _)
    have hPS : PathP S p0.toNat (d : Int) P d := by
      unfold PathP at hP ⊢
      rw [hA 60 (by decide), hA 54 (by decide), hA 55 (by decide), hA 56 (by decide), hA 51 (by decide), hA 57 (by decide), hA 59 (by decide)]
      exact hP
    refine wp_rg (by omega) (wp_rg (by omega) (wp_if (fun c1 => ?_) (fun c1 => ?_)))
    · have hPd := hPS.2.1 d (Nat.le_refl _)
      have e50 := h50 d (by omega)
      have nd := TG_nd T hPd.1 (by omega)
      have n6 : 0 ≤ gA S 57 (P d) ∧ gA S 57 (P d) ≤ 6 := nd.2.1
      refine wp_rdIn (by omega) (fun y33 e33 => ?_)
      refine wp_rdIn (by omega) (fun y34 e34 => ?_)
      rw [show ((d : Int)).toNat = d by omega, e50] at e33 e34
      have y34e : y34.toNat = P d := by omega
      have y33e : y33.toNat = P d := by omega
      refine wp_bn (w_x8_find hRS (by omega) (by rw [y34e]; exact n6.2) h1) (fun r36 e36 h36 => ?_)
      rw [y34e] at h36
      rcases h36 with h36 | h36
      · refine wp_bn (w_del_neg h36) (fun s38 e38 h38 => ?_)
        subst h38
        exact L98 FU (d : Int) s38 hRS (by omega) (RV_eq hV0 (hA 60 (by decide))) (Or.inr ⟨by omega, TG_e T _, by rw [show ((d : Int)).toNat = d by omega]; exact hPS, fun j hj => h50 j (by omega)⟩) (by have := FU_big; omega)
      · refine wp_bn (ts_delete (p0 := y33) (p1 := r36) hRS T (by omega) (by rw [y33e]; omega) (by rw [y33e]; omega) (by rw [y33e]; exact h36)) (fun s38 e38 h38 => ?_)
        obtain ⟨hR38, F38, n57, noth, TD⟩ := h38
        rw [y33e] at n57 noth TD
        refine L98 FU (d : Int) s38 hR38 (by omega) (RV_eq hV0 ((F38.2.1 60 (by decide)).trans (hA 60 (by decide)))) (Or.inr ⟨by omega, ?_, ?_, fun j hj => by rw [F38.2.1 50 (by decide)]; exact h50 j (by omega)⟩) (by have := FU_big; omega)
        · rw [show ((d : Int)).toNat = d by omega, e33]
          refine TG_D TD (fun x hx => ?_)
          show (0 : Int) = 0 + (if 0 < gA S 56 (P d) ∧ gA S 59 (6 * P d + r36.toNat) = (x : Int) then 1 else 0)
          rw [if_neg (fun w => by omega)]; rfl
        · rw [show ((d : Int)).toNat = d by omega]
          refine ⟨by rw [F38.2.1 60 (by decide)]; exact hPS.1, fun j hj => ?_, fun j hj => ?_⟩
          · rw [F38.2.1 54 (by decide), F38.2.1 55 (by decide), F38.2.1 56 (by decide)]; exact hPS.2.1 j hj
          · have hLj := hPS.2.2 j hj
            have nj : P j ≠ P d := inj S d hPS j d (by omega) (Nat.le_refl _) (by omega)
            have hPj := hPS.2.1 j (by omega)
            have ndj' : 0 ≤ gA S 57 (P j) ∧ gA S 57 (P j) ≤ 6 := (TG_nd T hPj.1 (by omega)).2.1
            rw [F38.2.1 51 (by decide), n57, upZ_n nj]
            refine ⟨hLj.1, ?_⟩
            rw [(noth (P j) hPj.1 nj _ (by omega)).2]
            exact hLj.2
    · have hPi := hPS.2.1 i.toNat (by omega)
      have hLi := hPS.2.2 i.toNat (by omega)
      have e50 := h50 i.toNat (Nat.le_refl _)
      have n6 : 0 ≤ gA S 57 (P i.toNat) ∧ gA S 57 (P i.toNat) ≤ 6 := (TG_nd T hPi.1 (by omega)).2.1
      refine wp_rdIn (by omega) (fun y39 e39 => ?_)
      rw [e50] at e39
      refine wp_rdIn (by omega) (fun y40 e40 => ?_)
      rw [e40] at hLi
      refine wp_bn w_slot (fun r42 _ h42 => ?_)
      refine wp_rdIn (by omega) (fun y43 e43 => ?_)
      rw [show r42.toNat = 6 * P i.toNat + y40.toNat by omega, hLi.2] at e43
      have hPn := hPS.2.1 (i.toNat + 1) (by omega)
      refine wp_inb (by omega) (wp_stn (fun s45 e45 => ?_))
      have hR45 : Rg s45 := e45 ▸ Rg.uAu hRS (by show (0 : Int) ≤ y43 ∧ y43 ≤ 47; omega)
      refine ih (i + 1) s45 hR45 (by omega) (fun k hk => (q_Aa e45 hk).trans (hA k hk)) (fun k => (q_Ai e45).trans (hI k)) (fun j hj => ?_) (by omega)
      rw [q_AA e45]
      by_cases z : j = (i + 1).toNat
      · rw [z, upZ_s, ← e43, show (i + 1).toNat = i.toNat + 1 by omega]
      · rw [upZ_n z]; exact h50 j (by omega)
  unfold m_x1_prune
  have hP0 := hP.2.1 0 (by omega)
  refine wp_rdIn (by omega) (fun y46 e46 => ?_)
  rw [hP.1] at e46
  refine wp_inb (by omega) (wp_stn (fun s48 e48 => ?_))
  have hR48 : Rg s48 := e48 ▸ Rg.uAu hR (by show (0 : Int) ≤ y46 ∧ y46 ≤ 47; omega)
  refine L18 FU 0 s48 hR48 (by omega) (fun k hk => q_Aa e48 hk) (fun k => q_Ai e48) (fun j hj => ?_) (by have := FU_big; omega)
  rw [q_AA e48, show j = Int.toNat 0 by omega, upZ_s, ← e46]
  rfl
set_option maxHeartbeats 2000000 in
theorem ts_uproot0 {p0 p1 : Int} {s : MS} (hR : Rg s) (H : TS s Z0 (-1)) (hE : 3 ≤ gI s 581) (hp : 0 ≤ p0 ∧ p0 < 8) (hv : 0 ≤ gA s 60 p0.toNat) (h1 : R2 p1) : wp (m_x1_uproot p0 p1 s) (fun q => Rg q.2 ∧ (q.1 = 0 ∨ (q.1 = 1 ∧ TS q.2 Z0 (-1) ∧ RV s q.2 p0.toNat))) := by
  have hN48 : gI s 1060 ≤ 48 := H.1.1
  have zD : ∀ x, x < 48 → 0 ≤ Z0 x := fun x _ => Int.le_refl 0
  have zD' : ∀ x, x < 48 → 0 ≤ Z0 x ∧ Z0 x ≤ 10 := fun x _ => ⟨Int.le_refl 0, by show (0 : Int) ≤ 10; omega⟩
  have r60 := hR.2.1 60 p0.toNat (by show _ < 8; omega)
  have r60' : (-2 : Int) ≤ gA s 60 p0.toNat ∧ gA s 60 p0.toNat ≤ 253 := r60
  have rl := TG_root_live (v := p0.toNat) H zD (by omega) (by omega) (by omega)
  have L55 : ∀ (n : Nat) (b i : Int) (S : MS) (d : Nat) (P : Nat → Nat), Rg S → d ≤ 47 → (gI S 581 = gI s 581 ∧ RV s S p0.toNat) → (0 ≤ i ∧ i ≤ (d : Int)) → TS S Z0 (-1) → PathP S p0.toNat (d : Int) P i.toNat → b = (P i.toNat : Int) → (d : Int) - i < (n : Int) → wp (m_x1_uproot_L55 n p0 p1 (d : Int) b i S) (fun q => Rg q.2 ∧ (q.1 = 0 ∨ (q.1 = 1 ∧ TS q.2 Z0 (-1) ∧ RV s q.2 p0.toNat))) := by
    refine fr_ind (fun b i S d P hRS hd hES hi T hP hb hm => by exfalso; omega) (fun n ih b i S d P hRS hd hES hi T hP hb hm => ?_)
    show wp (m_x1_uproot_b55 (m_x1_uproot_L55 n) p0 p1 (d : Int) b i S) _
    unfold m_x1_uproot_b55
    refine wp_rg (by omega) (wp_rg (by omega) (wp_if (fun c1 => ?_) (fun c1 => ?_)))
    · have hid : i.toNat = d := by omega
      rw [hid] at hP
      refine wp_bn (ts_prune (s0 := s) hRS T hp hd hP h1 hES.2) (fun s11 e11 h11 => ?_)
      refine wp_bn (ts_lower h11.1 h11.2.1 hp h11.2.2) (fun s13 e13 h13 => ?_)
      exact wp_some ⟨h13.1, Or.inr ⟨rfl, h13.2⟩⟩
    · have hPi := hP.2.1 i.toNat (Nat.le_refl _)
      have hbe : b.toNat = P i.toNat := by omega
      have hN8 : gI S 1060 ≤ 48 := T.1.1
      have n6 : 0 ≤ gA S 57 (P i.toNat) ∧ gA S 57 (P i.toNat) ≤ 6 := (TG_nd T hPi.1 (by omega)).2.1
      have n1 : 1 ≤ gA S 57 (P i.toNat) := T.2.2.1.1 _ hPi.1 (by omega) (by omega)
      refine wp_bn (w_x8_entryFor hRS (by omega) (by rw [hbe]; omega) h1) (fun r15 e15 h15 => ?_)
      rw [hbe] at h15
      have k15 : 0 ≤ r15 ∧ r15 < gA S 57 (P i.toNat) := by omega
      refine wp_bn w_slot (fun r17 _ h17 => ?_)
      refine wp_rdIn (by omega) (fun y18 e18 => ?_)
      rw [show r17.toNat = 6 * P i.toNat + r15.toNat by omega] at e18
      have kid := TG_kid (p := P i.toNat) (k := r15.toNat) T zD hPi.1 (by omega) (by show 0 < gA S 56 (P i.toNat); omega) (by show ((r15.toNat : Nat) : Int) < gA S 57 (P i.toNat); omega)
      have v18 : (hN S).2.2 (P i.toNat) r15.toNat = y18 := e18
      rw [v18] at kid
      obtain ⟨⟨k0, k1⟩, k2, k3⟩ := kid
      have k2' : gA S 56 y18.toNat = gA S 56 (P i.toNat) - 1 := k2
      refine wp_bn (ts_owned hRS T zD' (by omega) (by omega) k3) (fun q21 e21 h21 => ?_)
      obtain ⟨r, o⟩ := q21
      dsimp only at h21 ⊢
      obtain ⟨hRo, Fo, h21⟩ := h21
      have hr2 : R2 r := by
        rcases h21 with h21 | ⟨w0, ⟨w1, _⟩, _⟩ <;> omega
      refine wp_rg hr2 (wp_if (fun c3 => wp_some ⟨hRo, Or.inl rfl⟩) (fun c3 => ?_))
      rcases h21 with h21 | ⟨r0, ⟨rq, rN⟩, ⟨o54, o55⟩, ⟨o56, o57⟩, oc, oh, oq, T1⟩
      · exact absurd h21 c3
      have nP : ∀ j, j ≤ i.toNat → P j ≠ y18.toNat := fun j hj z => by
        have := (hP.2.1 j hj).2.2.2
        rw [z] at this; omega
      have nQ : ∀ j, j ≤ i.toNat → P j ≠ r.toNat := fun j hj z => by
        rcases oq with oq | oq
        · exact nP j hj (by omega)
        · have := (hP.2.1 j hj).2.1
          rw [z] at this; omega
      have kP : ∀ j, j ≤ i.toNat → P j < 48 ∧ gA o 54 (P j) = 1 ∧ gA o 55 (P j) = 0 ∧ gA o 56 (P j) = (d : Int) - (j : Int) := fun j hj => by
        have w := hP.2.1 j hj
        have ob := oh (P j) w.1 (nQ j hj)
        rw [oc (P j) w.1 (by omega) (by omega) (nP j hj), Fo.2.1 55 (by decide), ob.1]
        exact w
      have ob := oh (P i.toNat) hPi.1 (nQ _ (Nat.le_refl _))
      have c59 : gA o 59 (6 * P i.toNat + r15.toNat) = y18 := by rw [(ob.2.2 r15.toNat (by omega)).2]; exact e18
      have kPi := kP i.toNat (Nat.le_refl _)
      have on : gI o 1060 = gI S 1060 := Fo.1 1060 (by decide)
      refine wp_bn (ts_set (p0 := b) (p1 := r15) (p2 := r) hRo T1 (by omega) (by rw [hbe]; omega) (by rw [hbe]; omega) (by rw [hbe, ob.2.1]; exact k15) (fun _ => ⟨by rw [on]; omega, by rw [hbe]; omega⟩) (by omega)) (fun s25 e25 h25 => ?_)
      obtain ⟨hR25, F25, u59, T2⟩ := h25
      rw [hbe] at u59 T2
      have T3 : TS s25 Z0 (-1) := by
        refine TG_D T2 (fun x hx => ?_)
        show (0 : Int) = 0 + (if x = r.toNat then 1 else 0) - (if x = y18.toNat then 1 else 0) + (if 0 < gA o 56 (P i.toNat) ∧ gA o 59 (6 * P i.toNat + r15.toNat) = (x : Int) then 1 else 0) - (if 0 < gA o 56 (P i.toNat) ∧ r = (x : Int) then 1 else 0)
        rw [c59]
        have hl : 0 < gA o 56 (P i.toNat) := by omega
        have e1 : (if 0 < gA o 56 (P i.toNat) ∧ y18 = (x : Int) then (1 : Int) else 0) = if x = y18.toNat then 1 else 0 := by
          by_cases z : x = y18.toNat
          · rw [if_pos z, if_pos ⟨hl, by omega⟩]
          · rw [if_neg z, if_neg (fun w => z (by omega))]
        have e2 : (if 0 < gA o 56 (P i.toNat) ∧ r = (x : Int) then (1 : Int) else 0) = if x = r.toNat then 1 else 0 := by
          by_cases z : x = r.toNat
          · rw [if_pos z, if_pos ⟨hl, by omega⟩]
          · rw [if_neg z, if_neg (fun w => z (by omega))]
        rw [e1, e2]; omega
      refine wp_inb (by omega) (wp_stn (fun s27 e27 => ?_))
      have hR27 : Rg s27 := e27 ▸ Rg.uAu hR25 (by show (0 : Int) ≤ r15 ∧ r15 ≤ 5; omega)
      have g51 : gA s27 51 = upZ (gA s25 51) i.toNat r15 := q_AA e27
      have kk : ∀ k, k ≠ 51 → gA s27 k = gA s25 k := fun k h => q_Aa e27 h
      have kI : ∀ k, gI s27 k = gI s25 k := fun k => q_Ai e27
      refine ih r (i + 1) s27 d (fun j => if j = i.toNat + 1 then r.toNat else P j) hR27 hd ?_ (by omega) ?_ ⟨?_, fun j hj => ?_, fun j hj => ?_⟩ ?_ (by omega)
      · exact ⟨by rw [kI, F25.1 581 (by decide), Fo.1 581 (by decide)]; exact hES.1, RV_eq hES.2 ((kk 60 (by decide)).trans ((F25.2.1 60 (by decide)).trans (Fo.2.1 60 (by decide))))⟩
      · exact TS_eq T3 (kk 54 (by decide)) (kk 55 (by decide)) (kk 56 (by decide)) (kk 57 (by decide)) (kk 58 (by decide)) (kk 59 (by decide)) (kk 60 (by decide)) (kk 61 (by decide)) (kI _) (kI _)
      · show gA s27 60 p0.toNat = ((if 0 = i.toNat + 1 then r.toNat else P 0 : Nat) : Int)
        rw [if_neg (by omega), kk 60 (by decide), F25.2.1 60 (by decide), Fo.2.1 60 (by decide)]
        exact hP.1
      · rw [kk 54 (by decide), kk 55 (by decide), kk 56 (by decide), F25.2.1 54 (by decide), F25.2.1 55 (by decide), F25.2.1 56 (by decide)]
        by_cases z : j = i.toNat + 1
        · try dsimp only
          rw [if_pos z]
          exact ⟨rq, o54, o55, by rw [o56]; omega⟩
        · try dsimp only
          rw [if_neg z]
          exact kP j (by omega)
      · try dsimp only
        rw [if_neg (show ¬ j = i.toNat + 1 by omega), g51, kk 57 (by decide), kk 59 (by decide), F25.2.1 57 (by decide), F25.2.1 51 (by decide)]
        by_cases z : j = i.toNat
        · rw [z, upZ_s, if_pos rfl, u59, upZ_s, ob.2.1]
          exact ⟨k15, by omega⟩
        · have w := hP.2.2 j (by omega)
          have w1 := hP.2.1 j (by omega)
          have oj := oh (P j) w1.1 (nQ j (by omega))
          have n6j : 0 ≤ gA S 57 (P j) ∧ gA S 57 (P j) ≤ 6 := (TG_nd T w1.1 (by omega)).2.1
          have nji : P j ≠ P i.toNat := fun q => by
            have a1 := w1.2.2.2
            have a2 := hPi.2.2.2
            rw [q] at a1; omega
          rw [upZ_n z, if_neg (show ¬ j + 1 = i.toNat + 1 by omega), Fo.2.1 51 (by decide), oj.2.1]
          refine ⟨w.1, ?_⟩
          rw [u59, upZ_n (by omega), (oj.2.2 _ (by omega)).2]
          exact w.2
      · try dsimp only
        rw [if_pos (show (i + 1).toNat = i.toNat + 1 by omega)]; omega
  unfold m_x1_uproot
  refine wp_rdIn (by omega) (fun y28 e28 => ?_)
  have e28' := e28
  rw [e28] at rl hv
  have hb48 : y28.toNat < 48 := by omega
  have lv : 0 ≤ gA s 56 y28.toNat ∧ gA s 56 y28.toNat ≤ 47 := TG_lev H zD hb48 rl.2
  refine wp_rdIn (by omega) (fun y29 e29 => ?_)
  refine wp_rdIn (by omega) (fun y30 e30 => ?_)
  have y30e : y30 = y28 := by rw [← e30, ← e28']
  rw [y30e]
  refine wp_bn (ts_owned hR H zD' (by omega) (by omega) rl.2) (fun q33 e33 h33 => ?_)
  obtain ⟨r, o⟩ := q33
  dsimp only at h33 ⊢
  obtain ⟨hRo, Fo, h33⟩ := h33
  have hr2 : R2 r := by
    rcases h33 with h33 | ⟨w0, ⟨w1, _⟩, _⟩ <;> omega
  refine wp_rg hr2 (wp_if (fun c3 => wp_some ⟨hRo, Or.inl rfl⟩) (fun c3 => ?_))
  rcases h33 with h33 | ⟨r0, ⟨rq, rN⟩, ⟨o54, o55⟩, ⟨o56, o57⟩, oc, oh, oq, T1⟩
  · exact absurd h33 c3
  refine wp_inb (by omega) (wp_stn (fun s37 e37 => ?_))
  have hR37 : Rg s37 := e37 ▸ Rg.uAu hRo (by show (-2 : Int) ≤ r ∧ r ≤ 253; omega)
  have g60 : gA s37 60 = upZ (gA o 60) p0.toNat r := q_AA e37
  have kk : ∀ k, k ≠ 60 → gA s37 k = gA o k := fun k h => q_Aa e37 h
  have kI : ∀ k, gI s37 k = gI o k := fun k => q_Ai e37
  have TR := TG_root (v := p0.toNat) (q := r) T1 (by omega) (Or.inl ⟨r0, by show r < gI o 1060; rw [Fo.1 1060 (by decide)]; omega⟩)
  have T2 : TS s37 Z0 (-1) := by
    refine TS_mk (TG_D TR (fun x hx => ?_)) (hN_eq (kk 56 (by decide)) (kk 57 (by decide)) (kk 59 (by decide))) (kN_eq (kk 58 (by decide))) (kI _) (kI _) (kk 54 (by decide)) (kk 55 (by decide)) g60 (kk 61 (by decide))
    show (0 : Int) = 0 + (if x = r.toNat then 1 else 0) - (if x = y28.toNat then 1 else 0) + (if gA o 60 p0.toNat = (x : Int) then 1 else 0) - (if r = (x : Int) then 1 else 0)
    rw [Fo.2.1 60 (by decide), e28']
    have e1 : (if y28 = (x : Int) then (1 : Int) else 0) = if x = y28.toNat then 1 else 0 := by
      by_cases z : x = y28.toNat
      · rw [if_pos z, if_pos (by omega)]
      · rw [if_neg z, if_neg (by omega)]
    have e2 : (if r = (x : Int) then (1 : Int) else 0) = if x = r.toNat then 1 else 0 := by
      by_cases z : x = r.toNat
      · rw [if_pos z, if_pos (by omega)]
      · rw [if_neg z, if_neg (by omega)]
    rw [e1, e2]; omega
  have hy29 : y29 = ((y29.toNat : Nat) : Int) := by omega
  rw [hy29]
  refine L55 FU r 0 s37 y29.toNat (fun _ => r.toNat) hR37 (by omega) ⟨by rw [kI, Fo.1 581 (by decide)], RV_up (S := o) (fun w _ => by rw [Fo.2.1 60 (by decide)]) g60 (by omega)⟩ (by omega) T2 ⟨?_, fun j hj => ?_, fun j hj => absurd hj (by omega)⟩ (by show r = ((r.toNat : Nat) : Int); omega) (by have := FU_big; omega)
  · rw [g60, upZ_s]; show r = ((r.toNat : Nat) : Int); omega
  · show r.toNat < 48 ∧ gA s37 54 r.toNat = 1 ∧ gA s37 55 r.toNat = 0 ∧ gA s37 56 r.toNat = ((y29.toNat : Nat) : Int) - (j : Int)
    rw [kk 54 (by decide), kk 55 (by decide), kk 56 (by decide)]
    exact ⟨rq, o54, o55, by rw [o56]; omega⟩
theorem ts_uproot {p0 p1 : Int} {s : MS} (hR : Rg s) (H : TS s Z0 (-1)) (hE : 3 ≤ gI s 581) (hp : 0 ≤ p0 ∧ p0 < 8) (hv : 0 ≤ gA s 60 p0.toNat) (h1 : R2 p1) : wp (m_x1_uproot p0 p1 s) (fun q => Rg q.2 ∧ F_x1_uproot s q.2 ∧ (q.1 = 0 ∨ (q.1 = 1 ∧ TS q.2 Z0 (-1) ∧ RV s q.2 p0.toNat))) := wp_eq (ts_uproot0 hR H hE hp hv h1) (fun q eq hq => ⟨hq.1, fr_x1_uproot eq, hq.2⟩)
set_option maxHeartbeats 1000000 in
theorem w_x8_become {s : MS} (hRs : Rg s) : wp (m_x8_become s) (fun o => (Rg o) ∧ (∀ j : Nat, j < 48 → gA o 54 j = gA s 63 j ∧ gA o 55 j = gA s 64 j ∧ gA o 56 j = gA s 65 j ∧ gA o 57 j = gA s 66 j) ∧ (∀ j : Nat, j < 288 → gA o 58 j = gA s 67 j ∧ gA o 59 j = gA s 68 j) ∧ (∀ j : Nat, j < 8 → gA o 60 j = gA s 69 j ∧ gA o 61 j = gA s 70 j) ∧ (gI o 1060 = gI s 1240 ∧ gI o 1061 = gI s 1241)) := by
  unfold m_x8_become
  refine wp_stn (fun s1 es1 => ?_)
  have hRs1 : Rg s1 := es1 ▸ Rg.uI hRs (by show (0 : Int) ≤ (gI s 1240) ∧ (gI s 1240) ≤ 48; have : (0 : Int) ≤ gI s 1240 ∧ gI s 1240 ≤ 48 := hRs.1 1240; omega)
  refine wp_stn (fun s2 es2 => ?_)
  have hRs2 : Rg s2 := es2 ▸ Rg.uI hRs1 (by show (-70000 : Int) ≤ (gI s1 1241) ∧ (gI s1 1241) ≤ 999999; have : gI s1 1241 = gI s 1241 := q_Ii es1 (by decide); have : (-70000 : Int) ≤ gI s 1241 ∧ gI s 1241 ≤ 999999 := hRs.1 1241; omega)
  refine wp_stn (fun s3 es3 => ?_)
  have hRs3 : Rg s3 := es3 ▸ Rg.uL hRs2 (hRs2.2.2.1 1242)
  refine wp_cpg (⟨⟨by decide, by decide, by decide⟩, by decide, by decide⟩) ?_
  refine wp_stn (fun s5 es5 => ?_)
  have hRs5 : Rg s5 := es5 ▸ Rg.cpy hRs3 (by decide) (by decide) (by decide)
  refine wp_cpg (⟨⟨by decide, by decide, by decide⟩, by decide, by decide⟩) ?_
  refine wp_stn (fun s7 es7 => ?_)
  have hRs7 : Rg s7 := es7 ▸ Rg.cpy hRs5 (by decide) (by decide) (by decide)
  refine wp_cpg (⟨⟨by decide, by decide, by decide⟩, by decide, by decide⟩) ?_
  refine wp_stn (fun s9 es9 => ?_)
  have hRs9 : Rg s9 := es9 ▸ Rg.cpy hRs7 (by decide) (by decide) (by decide)
  refine wp_cpg (⟨⟨by decide, by decide, by decide⟩, by decide, by decide⟩) ?_
  refine wp_stn (fun s11 es11 => ?_)
  have hRs11 : Rg s11 := es11 ▸ Rg.cpy hRs9 (by decide) (by decide) (by decide)
  refine wp_cpg (⟨⟨by decide, by decide, by decide⟩, by decide, by decide⟩) ?_
  refine wp_stn (fun s13 es13 => ?_)
  have hRs13 : Rg s13 := es13 ▸ Rg.cpy hRs11 (by decide) (by decide) (by decide)
  refine wp_cpg (⟨⟨by decide, by decide, by decide⟩, by decide, by decide⟩) ?_
  refine wp_stn (fun s15 es15 => ?_)
  have hRs15 : Rg s15 := es15 ▸ Rg.cpy hRs13 (by decide) (by decide) (by decide)
  refine wp_cpg (⟨⟨by decide, by decide, by decide⟩, by decide, by decide⟩) ?_
  refine wp_stn (fun s17 es17 => ?_)
  have hRs17 : Rg s17 := es17 ▸ Rg.cpy hRs15 (by decide) (by decide) (by decide)
  refine wp_cpg (⟨⟨by decide, by decide, by decide⟩, by decide, by decide⟩) ?_
  refine wp_stn (fun s19 es19 => ?_)
  have hRs19 : Rg s19 := es19 ▸ Rg.cpy hRs17 (by decide) (by decide) (by decide)
  exact wp_some ⟨hRs19, fun j hj => ⟨by rw [((q_Aa es19 (by decide) : gA s19 54 = gA s17 54).trans ((q_Aa es17 (by decide) : gA s17 54 = gA s15 54).trans ((q_Aa es15 (by decide) : gA s15 54 = gA s13 54).trans ((q_Aa es13 (by decide) : gA s13 54 = gA s11 54).trans ((q_Aa es11 (by decide) : gA s11 54 = gA s9 54).trans ((q_Aa es9 (by decide) : gA s9 54 = gA s7 54).trans (q_Aa es7 (by decide) : gA s7 54 = gA s5 54))))))), q_AA es5, ((q_La es3 : gA s3 63 = gA s2 63).trans ((q_Ia es2 : gA s2 63 = gA s1 63).trans (q_Ia es1 : gA s1 63 = gA s 63)))]; exact cpy_all hj, by rw [((q_Aa es19 (by decide) : gA s19 55 = gA s17 55).trans ((q_Aa es17 (by decide) : gA s17 55 = gA s15 55).trans ((q_Aa es15 (by decide) : gA s15 55 = gA s13 55).trans ((q_Aa es13 (by decide) : gA s13 55 = gA s11 55).trans ((q_Aa es11 (by decide) : gA s11 55 = gA s9 55).trans (q_Aa es9 (by decide) : gA s9 55 = gA s7 55)))))), q_AA es7, ((q_Aa es5 (by decide) : gA s5 64 = gA s3 64).trans ((q_La es3 : gA s3 64 = gA s2 64).trans ((q_Ia es2 : gA s2 64 = gA s1 64).trans (q_Ia es1 : gA s1 64 = gA s 64))))]; exact cpy_all hj, by rw [((q_Aa es19 (by decide) : gA s19 56 = gA s17 56).trans ((q_Aa es17 (by decide) : gA s17 56 = gA s15 56).trans ((q_Aa es15 (by decide) : gA s15 56 = gA s13 56).trans ((q_Aa es13 (by decide) : gA s13 56 = gA s11 56).trans (q_Aa es11 (by decide) : gA s11 56 = gA s9 56))))), q_AA es9, ((q_Aa es7 (by decide) : gA s7 65 = gA s5 65).trans ((q_Aa es5 (by decide) : gA s5 65 = gA s3 65).trans ((q_La es3 : gA s3 65 = gA s2 65).trans ((q_Ia es2 : gA s2 65 = gA s1 65).trans (q_Ia es1 : gA s1 65 = gA s 65)))))]; exact cpy_all hj, by rw [((q_Aa es19 (by decide) : gA s19 57 = gA s17 57).trans ((q_Aa es17 (by decide) : gA s17 57 = gA s15 57).trans ((q_Aa es15 (by decide) : gA s15 57 = gA s13 57).trans (q_Aa es13 (by decide) : gA s13 57 = gA s11 57)))), q_AA es11, ((q_Aa es9 (by decide) : gA s9 66 = gA s7 66).trans ((q_Aa es7 (by decide) : gA s7 66 = gA s5 66).trans ((q_Aa es5 (by decide) : gA s5 66 = gA s3 66).trans ((q_La es3 : gA s3 66 = gA s2 66).trans ((q_Ia es2 : gA s2 66 = gA s1 66).trans (q_Ia es1 : gA s1 66 = gA s 66))))))]; exact cpy_all hj⟩, fun j hj => ⟨by rw [((q_Aa es19 (by decide) : gA s19 58 = gA s17 58).trans ((q_Aa es17 (by decide) : gA s17 58 = gA s15 58).trans (q_Aa es15 (by decide) : gA s15 58 = gA s13 58))), q_AA es13, ((q_Aa es11 (by decide) : gA s11 67 = gA s9 67).trans ((q_Aa es9 (by decide) : gA s9 67 = gA s7 67).trans ((q_Aa es7 (by decide) : gA s7 67 = gA s5 67).trans ((q_Aa es5 (by decide) : gA s5 67 = gA s3 67).trans ((q_La es3 : gA s3 67 = gA s2 67).trans ((q_Ia es2 : gA s2 67 = gA s1 67).trans (q_Ia es1 : gA s1 67 = gA s 67)))))))]; exact cpy_all hj, by rw [((q_Aa es19 (by decide) : gA s19 59 = gA s17 59).trans (q_Aa es17 (by decide) : gA s17 59 = gA s15 59)), q_AA es15, ((q_Aa es13 (by decide) : gA s13 68 = gA s11 68).trans ((q_Aa es11 (by decide) : gA s11 68 = gA s9 68).trans ((q_Aa es9 (by decide) : gA s9 68 = gA s7 68).trans ((q_Aa es7 (by decide) : gA s7 68 = gA s5 68).trans ((q_Aa es5 (by decide) : gA s5 68 = gA s3 68).trans ((q_La es3 : gA s3 68 = gA s2 68).trans ((q_Ia es2 : gA s2 68 = gA s1 68).trans (q_Ia es1 : gA s1 68 = gA s 68))))))))]; exact cpy_all hj⟩, fun j hj => ⟨by rw [(q_Aa es19 (by decide) : gA s19 60 = gA s17 60), q_AA es17, ((q_Aa es15 (by decide) : gA s15 69 = gA s13 69).trans ((q_Aa es13 (by decide) : gA s13 69 = gA s11 69).trans ((q_Aa es11 (by decide) : gA s11 69 = gA s9 69).trans ((q_Aa es9 (by decide) : gA s9 69 = gA s7 69).trans ((q_Aa es7 (by decide) : gA s7 69 = gA s5 69).trans ((q_Aa es5 (by decide) : gA s5 69 = gA s3 69).trans ((q_La es3 : gA s3 69 = gA s2 69).trans ((q_Ia es2 : gA s2 69 = gA s1 69).trans (q_Ia es1 : gA s1 69 = gA s 69)))))))))]; exact cpy_all hj, by rw [q_AA es19, ((q_Aa es17 (by decide) : gA s17 70 = gA s15 70).trans ((q_Aa es15 (by decide) : gA s15 70 = gA s13 70).trans ((q_Aa es13 (by decide) : gA s13 70 = gA s11 70).trans ((q_Aa es11 (by decide) : gA s11 70 = gA s9 70).trans ((q_Aa es9 (by decide) : gA s9 70 = gA s7 70).trans ((q_Aa es7 (by decide) : gA s7 70 = gA s5 70).trans ((q_Aa es5 (by decide) : gA s5 70 = gA s3 70).trans ((q_La es3 : gA s3 70 = gA s2 70).trans ((q_Ia es2 : gA s2 70 = gA s1 70).trans (q_Ia es1 : gA s1 70 = gA s 70))))))))))]; exact cpy_all hj⟩, by show gI s19 1060 = gI s 1240 ∧ gI s19 1061 = gI s 1241; have : (-70000 : Int) ≤ gI s 1241 ∧ gI s 1241 ≤ 999999 := hRs.1 1241; have : gI s19 1061 = gI s17 1061 := q_Ai es19; have : gI s17 1061 = gI s15 1061 := q_Ai es17; have : gI s15 1061 = gI s13 1061 := q_Ai es15; have : gI s13 1061 = gI s11 1061 := q_Ai es13; have : gI s11 1061 = gI s9 1061 := q_Ai es11; have : gI s9 1061 = gI s7 1061 := q_Ai es9; have : gI s7 1061 = gI s5 1061 := q_Ai es7; have : gI s5 1061 = gI s3 1061 := q_Ai es5; have : gI s3 1061 = gI s2 1061 := q_Li es3; have : gI s2 1061 = gI s1 1241 := q_II es2; have : gI s1 1241 = gI s 1241 := q_Ii es1 (by decide); have : (0 : Int) ≤ gI s 1240 ∧ gI s 1240 ≤ 48 := hRs.1 1240; have : gI s19 1060 = gI s17 1060 := q_Ai es19; have : gI s17 1060 = gI s15 1060 := q_Ai es17; have : gI s15 1060 = gI s13 1060 := q_Ai es15; have : gI s13 1060 = gI s11 1060 := q_Ai es13; have : gI s11 1060 = gI s9 1060 := q_Ai es11; have : gI s9 1060 = gI s7 1060 := q_Ai es9; have : gI s7 1060 = gI s5 1060 := q_Ai es7; have : gI s5 1060 = gI s3 1060 := q_Ai es5; have : gI s3 1060 = gI s2 1060 := q_Li es3; have : gI s2 1060 = gI s1 1060 := q_Ii es2 (by decide); have : gI s1 1060 = gI s 1240 := q_II es1; omega⟩
set_option maxHeartbeats 1000000 in
theorem w_x8_becomeP {s : MS} (hRs : Rg s) : wp (m_x8_becomeP s) (fun o => (Rg o) ∧ (∀ j : Nat, j < 48 → gA o 54 j = gA s 63 j ∧ gA o 55 j = gA s 64 j ∧ gA o 56 j = gA s 65 j ∧ gA o 57 j = gA s 66 j) ∧ (∀ j : Nat, j < 288 → gA o 58 j = gA s 67 j ∧ gA o 59 j = gA s 68 j) ∧ (∀ j : Nat, j < 8 → gA o 60 j = gA s 69 j ∧ gA o 61 j = gA s 70 j) ∧ (gI o 1060 = gI s 1240 ∧ gI o 1061 = gI s 1241)) := by
  unfold m_x8_becomeP
  refine wp_stn (fun s1 es1 => ?_)
  have hRs1 : Rg s1 := es1 ▸ Rg.uI hRs (by show (0 : Int) ≤ (gI s 1240) ∧ (gI s 1240) ≤ 48; have : (0 : Int) ≤ gI s 1240 ∧ gI s 1240 ≤ 48 := hRs.1 1240; omega)
  refine wp_stn (fun s2 es2 => ?_)
  have hRs2 : Rg s2 := es2 ▸ Rg.uI hRs1 (by show (-70000 : Int) ≤ (gI s1 1241) ∧ (gI s1 1241) ≤ 999999; have : gI s1 1241 = gI s 1241 := q_Ii es1 (by decide); have : (-70000 : Int) ≤ gI s 1241 ∧ gI s 1241 ≤ 999999 := hRs.1 1241; omega)
  refine wp_stn (fun s3 es3 => ?_)
  have hRs3 : Rg s3 := es3 ▸ Rg.uL hRs2 (hRs2.2.2.1 1242)
  refine wp_cpg (⟨⟨by decide, by decide, by decide⟩, by decide, by decide⟩) ?_
  refine wp_stn (fun s5 es5 => ?_)
  have hRs5 : Rg s5 := es5 ▸ Rg.cpy hRs3 (by decide) (by decide) (by decide)
  refine wp_cpg (⟨⟨by decide, by decide, by decide⟩, by decide, by decide⟩) ?_
  refine wp_stn (fun s7 es7 => ?_)
  have hRs7 : Rg s7 := es7 ▸ Rg.cpy hRs5 (by decide) (by decide) (by decide)
  refine wp_cpg (⟨⟨by decide, by decide, by decide⟩, by decide, by decide⟩) ?_
  refine wp_stn (fun s9 es9 => ?_)
  have hRs9 : Rg s9 := es9 ▸ Rg.cpy hRs7 (by decide) (by decide) (by decide)
  refine wp_cpg (⟨⟨by decide, by decide, by decide⟩, by decide, by decide⟩) ?_
  refine wp_stn (fun s11 es11 => ?_)
  have hRs11 : Rg s11 := es11 ▸ Rg.cpy hRs9 (by decide) (by decide) (by decide)
  refine wp_cpg (⟨⟨by decide, by decide, by decide⟩, by decide, by decide⟩) ?_
  refine wp_stn (fun s13 es13 => ?_)
  have hRs13 : Rg s13 := es13 ▸ Rg.cpy hRs11 (by decide) (by decide) (by decide)
  refine wp_cpg (⟨⟨by decide, by decide, by decide⟩, by decide, by decide⟩) ?_
  refine wp_stn (fun s15 es15 => ?_)
  have hRs15 : Rg s15 := es15 ▸ Rg.cpy hRs13 (by decide) (by decide) (by decide)
  refine wp_cpg (⟨⟨by decide, by decide, by decide⟩, by decide, by decide⟩) ?_
  refine wp_stn (fun s17 es17 => ?_)
  have hRs17 : Rg s17 := es17 ▸ Rg.cpy hRs15 (by decide) (by decide) (by decide)
  refine wp_cpg (⟨⟨by decide, by decide, by decide⟩, by decide, by decide⟩) ?_
  refine wp_stn (fun s19 es19 => ?_)
  have hRs19 : Rg s19 := es19 ▸ Rg.cpy hRs17 (by decide) (by decide) (by decide)
  exact wp_some ⟨hRs19, fun j hj => ⟨by rw [((q_Aa es19 (by decide) : gA s19 54 = gA s17 54).trans ((q_Aa es17 (by decide) : gA s17 54 = gA s15 54).trans ((q_Aa es15 (by decide) : gA s15 54 = gA s13 54).trans ((q_Aa es13 (by decide) : gA s13 54 = gA s11 54).trans ((q_Aa es11 (by decide) : gA s11 54 = gA s9 54).trans ((q_Aa es9 (by decide) : gA s9 54 = gA s7 54).trans (q_Aa es7 (by decide) : gA s7 54 = gA s5 54))))))), q_AA es5, ((q_La es3 : gA s3 63 = gA s2 63).trans ((q_Ia es2 : gA s2 63 = gA s1 63).trans (q_Ia es1 : gA s1 63 = gA s 63)))]; exact cpy_all hj, by rw [((q_Aa es19 (by decide) : gA s19 55 = gA s17 55).trans ((q_Aa es17 (by decide) : gA s17 55 = gA s15 55).trans ((q_Aa es15 (by decide) : gA s15 55 = gA s13 55).trans ((q_Aa es13 (by decide) : gA s13 55 = gA s11 55).trans ((q_Aa es11 (by decide) : gA s11 55 = gA s9 55).trans (q_Aa es9 (by decide) : gA s9 55 = gA s7 55)))))), q_AA es7, ((q_Aa es5 (by decide) : gA s5 64 = gA s3 64).trans ((q_La es3 : gA s3 64 = gA s2 64).trans ((q_Ia es2 : gA s2 64 = gA s1 64).trans (q_Ia es1 : gA s1 64 = gA s 64))))]; exact cpy_all hj, by rw [((q_Aa es19 (by decide) : gA s19 56 = gA s17 56).trans ((q_Aa es17 (by decide) : gA s17 56 = gA s15 56).trans ((q_Aa es15 (by decide) : gA s15 56 = gA s13 56).trans ((q_Aa es13 (by decide) : gA s13 56 = gA s11 56).trans (q_Aa es11 (by decide) : gA s11 56 = gA s9 56))))), q_AA es9, ((q_Aa es7 (by decide) : gA s7 65 = gA s5 65).trans ((q_Aa es5 (by decide) : gA s5 65 = gA s3 65).trans ((q_La es3 : gA s3 65 = gA s2 65).trans ((q_Ia es2 : gA s2 65 = gA s1 65).trans (q_Ia es1 : gA s1 65 = gA s 65)))))]; exact cpy_all hj, by rw [((q_Aa es19 (by decide) : gA s19 57 = gA s17 57).trans ((q_Aa es17 (by decide) : gA s17 57 = gA s15 57).trans ((q_Aa es15 (by decide) : gA s15 57 = gA s13 57).trans (q_Aa es13 (by decide) : gA s13 57 = gA s11 57)))), q_AA es11, ((q_Aa es9 (by decide) : gA s9 66 = gA s7 66).trans ((q_Aa es7 (by decide) : gA s7 66 = gA s5 66).trans ((q_Aa es5 (by decide) : gA s5 66 = gA s3 66).trans ((q_La es3 : gA s3 66 = gA s2 66).trans ((q_Ia es2 : gA s2 66 = gA s1 66).trans (q_Ia es1 : gA s1 66 = gA s 66))))))]; exact cpy_all hj⟩, fun j hj => ⟨by rw [((q_Aa es19 (by decide) : gA s19 58 = gA s17 58).trans ((q_Aa es17 (by decide) : gA s17 58 = gA s15 58).trans (q_Aa es15 (by decide) : gA s15 58 = gA s13 58))), q_AA es13, ((q_Aa es11 (by decide) : gA s11 67 = gA s9 67).trans ((q_Aa es9 (by decide) : gA s9 67 = gA s7 67).trans ((q_Aa es7 (by decide) : gA s7 67 = gA s5 67).trans ((q_Aa es5 (by decide) : gA s5 67 = gA s3 67).trans ((q_La es3 : gA s3 67 = gA s2 67).trans ((q_Ia es2 : gA s2 67 = gA s1 67).trans (q_Ia es1 : gA s1 67 = gA s 67)))))))]; exact cpy_all hj, by rw [((q_Aa es19 (by decide) : gA s19 59 = gA s17 59).trans (q_Aa es17 (by decide) : gA s17 59 = gA s15 59)), q_AA es15, ((q_Aa es13 (by decide) : gA s13 68 = gA s11 68).trans ((q_Aa es11 (by decide) : gA s11 68 = gA s9 68).trans ((q_Aa es9 (by decide) : gA s9 68 = gA s7 68).trans ((q_Aa es7 (by decide) : gA s7 68 = gA s5 68).trans ((q_Aa es5 (by decide) : gA s5 68 = gA s3 68).trans ((q_La es3 : gA s3 68 = gA s2 68).trans ((q_Ia es2 : gA s2 68 = gA s1 68).trans (q_Ia es1 : gA s1 68 = gA s 68))))))))]; exact cpy_all hj⟩, fun j hj => ⟨by rw [(q_Aa es19 (by decide) : gA s19 60 = gA s17 60), q_AA es17, ((q_Aa es15 (by decide) : gA s15 69 = gA s13 69).trans ((q_Aa es13 (by decide) : gA s13 69 = gA s11 69).trans ((q_Aa es11 (by decide) : gA s11 69 = gA s9 69).trans ((q_Aa es9 (by decide) : gA s9 69 = gA s7 69).trans ((q_Aa es7 (by decide) : gA s7 69 = gA s5 69).trans ((q_Aa es5 (by decide) : gA s5 69 = gA s3 69).trans ((q_La es3 : gA s3 69 = gA s2 69).trans ((q_Ia es2 : gA s2 69 = gA s1 69).trans (q_Ia es1 : gA s1 69 = gA s 69)))))))))]; exact cpy_all hj, by rw [q_AA es19, ((q_Aa es17 (by decide) : gA s17 70 = gA s15 70).trans ((q_Aa es15 (by decide) : gA s15 70 = gA s13 70).trans ((q_Aa es13 (by decide) : gA s13 70 = gA s11 70).trans ((q_Aa es11 (by decide) : gA s11 70 = gA s9 70).trans ((q_Aa es9 (by decide) : gA s9 70 = gA s7 70).trans ((q_Aa es7 (by decide) : gA s7 70 = gA s5 70).trans ((q_Aa es5 (by decide) : gA s5 70 = gA s3 70).trans ((q_La es3 : gA s3 70 = gA s2 70).trans ((q_Ia es2 : gA s2 70 = gA s1 70).trans (q_Ia es1 : gA s1 70 = gA s 70))))))))))]; exact cpy_all hj⟩, by show gI s19 1060 = gI s 1240 ∧ gI s19 1061 = gI s 1241; have : (-70000 : Int) ≤ gI s 1241 ∧ gI s 1241 ≤ 999999 := hRs.1 1241; have : gI s19 1061 = gI s17 1061 := q_Ai es19; have : gI s17 1061 = gI s15 1061 := q_Ai es17; have : gI s15 1061 = gI s13 1061 := q_Ai es15; have : gI s13 1061 = gI s11 1061 := q_Ai es13; have : gI s11 1061 = gI s9 1061 := q_Ai es11; have : gI s9 1061 = gI s7 1061 := q_Ai es9; have : gI s7 1061 = gI s5 1061 := q_Ai es7; have : gI s5 1061 = gI s3 1061 := q_Ai es5; have : gI s3 1061 = gI s2 1061 := q_Li es3; have : gI s2 1061 = gI s1 1241 := q_II es2; have : gI s1 1241 = gI s 1241 := q_Ii es1 (by decide); have : (0 : Int) ≤ gI s 1240 ∧ gI s 1240 ≤ 48 := hRs.1 1240; have : gI s19 1060 = gI s17 1060 := q_Ai es19; have : gI s17 1060 = gI s15 1060 := q_Ai es17; have : gI s15 1060 = gI s13 1060 := q_Ai es15; have : gI s13 1060 = gI s11 1060 := q_Ai es13; have : gI s11 1060 = gI s9 1060 := q_Ai es11; have : gI s9 1060 = gI s7 1060 := q_Ai es9; have : gI s7 1060 = gI s5 1060 := q_Ai es7; have : gI s5 1060 = gI s3 1060 := q_Ai es5; have : gI s3 1060 = gI s2 1060 := q_Li es3; have : gI s2 1060 = gI s1 1060 := q_Ii es2 (by decide); have : gI s1 1060 = gI s 1240 := q_II es1; omega⟩
set_option maxHeartbeats 1000000 in
theorem w_x8_become_v2 {s : MS} (hRs : Rg s) : wp (m_x8_become_v2 s) (fun o => (Rg o) ∧ (∀ j : Nat, j < 48 → gA o 63 j = gA s 54 j ∧ gA o 64 j = gA s 55 j ∧ gA o 65 j = gA s 56 j ∧ gA o 66 j = gA s 57 j) ∧ (∀ j : Nat, j < 288 → gA o 67 j = gA s 58 j ∧ gA o 68 j = gA s 59 j) ∧ (∀ j : Nat, j < 8 → gA o 69 j = gA s 60 j ∧ gA o 70 j = gA s 61 j) ∧ (gI o 1240 = gI s 1060 ∧ gI o 1241 = gI s 1061)) := by
  unfold m_x8_become_v2
  refine wp_stn (fun s1 es1 => ?_)
  have hRs1 : Rg s1 := es1 ▸ Rg.uI hRs (by show (0 : Int) ≤ (gI s 1060) ∧ (gI s 1060) ≤ 48; have : (0 : Int) ≤ gI s 1060 ∧ gI s 1060 ≤ 48 := hRs.1 1060; omega)
  refine wp_stn (fun s2 es2 => ?_)
  have hRs2 : Rg s2 := es2 ▸ Rg.uI hRs1 (by show (-70000 : Int) ≤ (gI s1 1061) ∧ (gI s1 1061) ≤ 999999; have : gI s1 1061 = gI s 1061 := q_Ii es1 (by decide); have : (-70000 : Int) ≤ gI s 1061 ∧ gI s 1061 ≤ 999999 := hRs.1 1061; omega)
  refine wp_stn (fun s3 es3 => ?_)
  have hRs3 : Rg s3 := es3 ▸ Rg.uL hRs2 (hRs2.2.2.1 1062)
  refine wp_cpg (⟨⟨by decide, by decide, by decide⟩, by decide, by decide⟩) ?_
  refine wp_stn (fun s5 es5 => ?_)
  have hRs5 : Rg s5 := es5 ▸ Rg.cpy hRs3 (by decide) (by decide) (by decide)
  refine wp_cpg (⟨⟨by decide, by decide, by decide⟩, by decide, by decide⟩) ?_
  refine wp_stn (fun s7 es7 => ?_)
  have hRs7 : Rg s7 := es7 ▸ Rg.cpy hRs5 (by decide) (by decide) (by decide)
  refine wp_cpg (⟨⟨by decide, by decide, by decide⟩, by decide, by decide⟩) ?_
  refine wp_stn (fun s9 es9 => ?_)
  have hRs9 : Rg s9 := es9 ▸ Rg.cpy hRs7 (by decide) (by decide) (by decide)
  refine wp_cpg (⟨⟨by decide, by decide, by decide⟩, by decide, by decide⟩) ?_
  refine wp_stn (fun s11 es11 => ?_)
  have hRs11 : Rg s11 := es11 ▸ Rg.cpy hRs9 (by decide) (by decide) (by decide)
  refine wp_cpg (⟨⟨by decide, by decide, by decide⟩, by decide, by decide⟩) ?_
  refine wp_stn (fun s13 es13 => ?_)
  have hRs13 : Rg s13 := es13 ▸ Rg.cpy hRs11 (by decide) (by decide) (by decide)
  refine wp_cpg (⟨⟨by decide, by decide, by decide⟩, by decide, by decide⟩) ?_
  refine wp_stn (fun s15 es15 => ?_)
  have hRs15 : Rg s15 := es15 ▸ Rg.cpy hRs13 (by decide) (by decide) (by decide)
  refine wp_cpg (⟨⟨by decide, by decide, by decide⟩, by decide, by decide⟩) ?_
  refine wp_stn (fun s17 es17 => ?_)
  have hRs17 : Rg s17 := es17 ▸ Rg.cpy hRs15 (by decide) (by decide) (by decide)
  refine wp_cpg (⟨⟨by decide, by decide, by decide⟩, by decide, by decide⟩) ?_
  refine wp_stn (fun s19 es19 => ?_)
  have hRs19 : Rg s19 := es19 ▸ Rg.cpy hRs17 (by decide) (by decide) (by decide)
  exact wp_some ⟨hRs19, fun j hj => ⟨by rw [((q_Aa es19 (by decide) : gA s19 63 = gA s17 63).trans ((q_Aa es17 (by decide) : gA s17 63 = gA s15 63).trans ((q_Aa es15 (by decide) : gA s15 63 = gA s13 63).trans ((q_Aa es13 (by decide) : gA s13 63 = gA s11 63).trans ((q_Aa es11 (by decide) : gA s11 63 = gA s9 63).trans ((q_Aa es9 (by decide) : gA s9 63 = gA s7 63).trans (q_Aa es7 (by decide) : gA s7 63 = gA s5 63))))))), q_AA es5, ((q_La es3 : gA s3 54 = gA s2 54).trans ((q_Ia es2 : gA s2 54 = gA s1 54).trans (q_Ia es1 : gA s1 54 = gA s 54)))]; exact cpy_all hj, by rw [((q_Aa es19 (by decide) : gA s19 64 = gA s17 64).trans ((q_Aa es17 (by decide) : gA s17 64 = gA s15 64).trans ((q_Aa es15 (by decide) : gA s15 64 = gA s13 64).trans ((q_Aa es13 (by decide) : gA s13 64 = gA s11 64).trans ((q_Aa es11 (by decide) : gA s11 64 = gA s9 64).trans (q_Aa es9 (by decide) : gA s9 64 = gA s7 64)))))), q_AA es7, ((q_Aa es5 (by decide) : gA s5 55 = gA s3 55).trans ((q_La es3 : gA s3 55 = gA s2 55).trans ((q_Ia es2 : gA s2 55 = gA s1 55).trans (q_Ia es1 : gA s1 55 = gA s 55))))]; exact cpy_all hj, by rw [((q_Aa es19 (by decide) : gA s19 65 = gA s17 65).trans ((q_Aa es17 (by decide) : gA s17 65 = gA s15 65).trans ((q_Aa es15 (by decide) : gA s15 65 = gA s13 65).trans ((q_Aa es13 (by decide) : gA s13 65 = gA s11 65).trans (q_Aa es11 (by decide) : gA s11 65 = gA s9 65))))), q_AA es9, ((q_Aa es7 (by decide) : gA s7 56 = gA s5 56).trans ((q_Aa es5 (by decide) : gA s5 56 = gA s3 56).trans ((q_La es3 : gA s3 56 = gA s2 56).trans ((q_Ia es2 : gA s2 56 = gA s1 56).trans (q_Ia es1 : gA s1 56 = gA s 56)))))]; exact cpy_all hj, by rw [((q_Aa es19 (by decide) : gA s19 66 = gA s17 66).trans ((q_Aa es17 (by decide) : gA s17 66 = gA s15 66).trans ((q_Aa es15 (by decide) : gA s15 66 = gA s13 66).trans (q_Aa es13 (by decide) : gA s13 66 = gA s11 66)))), q_AA es11, ((q_Aa es9 (by decide) : gA s9 57 = gA s7 57).trans ((q_Aa es7 (by decide) : gA s7 57 = gA s5 57).trans ((q_Aa es5 (by decide) : gA s5 57 = gA s3 57).trans ((q_La es3 : gA s3 57 = gA s2 57).trans ((q_Ia es2 : gA s2 57 = gA s1 57).trans (q_Ia es1 : gA s1 57 = gA s 57))))))]; exact cpy_all hj⟩, fun j hj => ⟨by rw [((q_Aa es19 (by decide) : gA s19 67 = gA s17 67).trans ((q_Aa es17 (by decide) : gA s17 67 = gA s15 67).trans (q_Aa es15 (by decide) : gA s15 67 = gA s13 67))), q_AA es13, ((q_Aa es11 (by decide) : gA s11 58 = gA s9 58).trans ((q_Aa es9 (by decide) : gA s9 58 = gA s7 58).trans ((q_Aa es7 (by decide) : gA s7 58 = gA s5 58).trans ((q_Aa es5 (by decide) : gA s5 58 = gA s3 58).trans ((q_La es3 : gA s3 58 = gA s2 58).trans ((q_Ia es2 : gA s2 58 = gA s1 58).trans (q_Ia es1 : gA s1 58 = gA s 58)))))))]; exact cpy_all hj, by rw [((q_Aa es19 (by decide) : gA s19 68 = gA s17 68).trans (q_Aa es17 (by decide) : gA s17 68 = gA s15 68)), q_AA es15, ((q_Aa es13 (by decide) : gA s13 59 = gA s11 59).trans ((q_Aa es11 (by decide) : gA s11 59 = gA s9 59).trans ((q_Aa es9 (by decide) : gA s9 59 = gA s7 59).trans ((q_Aa es7 (by decide) : gA s7 59 = gA s5 59).trans ((q_Aa es5 (by decide) : gA s5 59 = gA s3 59).trans ((q_La es3 : gA s3 59 = gA s2 59).trans ((q_Ia es2 : gA s2 59 = gA s1 59).trans (q_Ia es1 : gA s1 59 = gA s 59))))))))]; exact cpy_all hj⟩, fun j hj => ⟨by rw [(q_Aa es19 (by decide) : gA s19 69 = gA s17 69), q_AA es17, ((q_Aa es15 (by decide) : gA s15 60 = gA s13 60).trans ((q_Aa es13 (by decide) : gA s13 60 = gA s11 60).trans ((q_Aa es11 (by decide) : gA s11 60 = gA s9 60).trans ((q_Aa es9 (by decide) : gA s9 60 = gA s7 60).trans ((q_Aa es7 (by decide) : gA s7 60 = gA s5 60).trans ((q_Aa es5 (by decide) : gA s5 60 = gA s3 60).trans ((q_La es3 : gA s3 60 = gA s2 60).trans ((q_Ia es2 : gA s2 60 = gA s1 60).trans (q_Ia es1 : gA s1 60 = gA s 60)))))))))]; exact cpy_all hj, by rw [q_AA es19, ((q_Aa es17 (by decide) : gA s17 61 = gA s15 61).trans ((q_Aa es15 (by decide) : gA s15 61 = gA s13 61).trans ((q_Aa es13 (by decide) : gA s13 61 = gA s11 61).trans ((q_Aa es11 (by decide) : gA s11 61 = gA s9 61).trans ((q_Aa es9 (by decide) : gA s9 61 = gA s7 61).trans ((q_Aa es7 (by decide) : gA s7 61 = gA s5 61).trans ((q_Aa es5 (by decide) : gA s5 61 = gA s3 61).trans ((q_La es3 : gA s3 61 = gA s2 61).trans ((q_Ia es2 : gA s2 61 = gA s1 61).trans (q_Ia es1 : gA s1 61 = gA s 61))))))))))]; exact cpy_all hj⟩, by show gI s19 1240 = gI s 1060 ∧ gI s19 1241 = gI s 1061; have : (-70000 : Int) ≤ gI s 1061 ∧ gI s 1061 ≤ 999999 := hRs.1 1061; have : gI s19 1241 = gI s17 1241 := q_Ai es19; have : gI s17 1241 = gI s15 1241 := q_Ai es17; have : gI s15 1241 = gI s13 1241 := q_Ai es15; have : gI s13 1241 = gI s11 1241 := q_Ai es13; have : gI s11 1241 = gI s9 1241 := q_Ai es11; have : gI s9 1241 = gI s7 1241 := q_Ai es9; have : gI s7 1241 = gI s5 1241 := q_Ai es7; have : gI s5 1241 = gI s3 1241 := q_Ai es5; have : gI s3 1241 = gI s2 1241 := q_Li es3; have : gI s2 1241 = gI s1 1061 := q_II es2; have : gI s1 1061 = gI s 1061 := q_Ii es1 (by decide); have : (0 : Int) ≤ gI s 1060 ∧ gI s 1060 ≤ 48 := hRs.1 1060; have : gI s19 1240 = gI s17 1240 := q_Ai es19; have : gI s17 1240 = gI s15 1240 := q_Ai es17; have : gI s15 1240 = gI s13 1240 := q_Ai es15; have : gI s13 1240 = gI s11 1240 := q_Ai es13; have : gI s11 1240 = gI s9 1240 := q_Ai es11; have : gI s9 1240 = gI s7 1240 := q_Ai es9; have : gI s7 1240 = gI s5 1240 := q_Ai es7; have : gI s5 1240 = gI s3 1240 := q_Ai es5; have : gI s3 1240 = gI s2 1240 := q_Li es3; have : gI s2 1240 = gI s1 1240 := q_Ii es2 (by decide); have : gI s1 1240 = gI s 1060 := q_II es1; omega⟩
set_option maxHeartbeats 1000000 in
theorem w_x8_become_v3 {s : MS} (hRs : Rg s) : wp (m_x8_become_v3 s) (fun o => (Rg o) ∧ (∀ j : Nat, j < 48 → gA o 72 j = gA s 54 j ∧ gA o 73 j = gA s 55 j ∧ gA o 74 j = gA s 56 j ∧ gA o 75 j = gA s 57 j) ∧ (∀ j : Nat, j < 288 → gA o 76 j = gA s 58 j ∧ gA o 77 j = gA s 59 j) ∧ (∀ j : Nat, j < 8 → gA o 78 j = gA s 60 j ∧ gA o 79 j = gA s 61 j) ∧ (gI o 1420 = gI s 1060 ∧ gI o 1421 = gI s 1061)) := by
  unfold m_x8_become_v3
  refine wp_stn (fun s1 es1 => ?_)
  have hRs1 : Rg s1 := es1 ▸ Rg.uI hRs (by show (0 : Int) ≤ (gI s 1060) ∧ (gI s 1060) ≤ 48; have : (0 : Int) ≤ gI s 1060 ∧ gI s 1060 ≤ 48 := hRs.1 1060; omega)
  refine wp_stn (fun s2 es2 => ?_)
  have hRs2 : Rg s2 := es2 ▸ Rg.uI hRs1 (by show (-70000 : Int) ≤ (gI s1 1061) ∧ (gI s1 1061) ≤ 16777215; have : gI s1 1061 = gI s 1061 := q_Ii es1 (by decide); have : (-70000 : Int) ≤ gI s 1061 ∧ gI s 1061 ≤ 999999 := hRs.1 1061; omega)
  refine wp_stn (fun s3 es3 => ?_)
  have hRs3 : Rg s3 := es3 ▸ Rg.uL hRs2 (hRs2.2.2.1 1062)
  refine wp_cpg (⟨⟨by decide, by decide, by decide⟩, by decide, by decide⟩) ?_
  refine wp_stn (fun s5 es5 => ?_)
  have hRs5 : Rg s5 := es5 ▸ Rg.cpy hRs3 (by decide) (by decide) (by decide)
  refine wp_cpg (⟨⟨by decide, by decide, by decide⟩, by decide, by decide⟩) ?_
  refine wp_stn (fun s7 es7 => ?_)
  have hRs7 : Rg s7 := es7 ▸ Rg.cpy hRs5 (by decide) (by decide) (by decide)
  refine wp_cpg (⟨⟨by decide, by decide, by decide⟩, by decide, by decide⟩) ?_
  refine wp_stn (fun s9 es9 => ?_)
  have hRs9 : Rg s9 := es9 ▸ Rg.cpy hRs7 (by decide) (by decide) (by decide)
  refine wp_cpg (⟨⟨by decide, by decide, by decide⟩, by decide, by decide⟩) ?_
  refine wp_stn (fun s11 es11 => ?_)
  have hRs11 : Rg s11 := es11 ▸ Rg.cpy hRs9 (by decide) (by decide) (by decide)
  refine wp_cpg (⟨⟨by decide, by decide, by decide⟩, by decide, by decide⟩) ?_
  refine wp_stn (fun s13 es13 => ?_)
  have hRs13 : Rg s13 := es13 ▸ Rg.cpy hRs11 (by decide) (by decide) (by decide)
  refine wp_cpg (⟨⟨by decide, by decide, by decide⟩, by decide, by decide⟩) ?_
  refine wp_stn (fun s15 es15 => ?_)
  have hRs15 : Rg s15 := es15 ▸ Rg.cpy hRs13 (by decide) (by decide) (by decide)
  refine wp_cpg (⟨⟨by decide, by decide, by decide⟩, by decide, by decide⟩) ?_
  refine wp_stn (fun s17 es17 => ?_)
  have hRs17 : Rg s17 := es17 ▸ Rg.cpy hRs15 (by decide) (by decide) (by decide)
  refine wp_cpg (⟨⟨by decide, by decide, by decide⟩, by decide, by decide⟩) ?_
  refine wp_stn (fun s19 es19 => ?_)
  have hRs19 : Rg s19 := es19 ▸ Rg.cpy hRs17 (by decide) (by decide) (by decide)
  exact wp_some ⟨hRs19, fun j hj => ⟨by rw [((q_Aa es19 (by decide) : gA s19 72 = gA s17 72).trans ((q_Aa es17 (by decide) : gA s17 72 = gA s15 72).trans ((q_Aa es15 (by decide) : gA s15 72 = gA s13 72).trans ((q_Aa es13 (by decide) : gA s13 72 = gA s11 72).trans ((q_Aa es11 (by decide) : gA s11 72 = gA s9 72).trans ((q_Aa es9 (by decide) : gA s9 72 = gA s7 72).trans (q_Aa es7 (by decide) : gA s7 72 = gA s5 72))))))), q_AA es5, ((q_La es3 : gA s3 54 = gA s2 54).trans ((q_Ia es2 : gA s2 54 = gA s1 54).trans (q_Ia es1 : gA s1 54 = gA s 54)))]; exact cpy_all hj, by rw [((q_Aa es19 (by decide) : gA s19 73 = gA s17 73).trans ((q_Aa es17 (by decide) : gA s17 73 = gA s15 73).trans ((q_Aa es15 (by decide) : gA s15 73 = gA s13 73).trans ((q_Aa es13 (by decide) : gA s13 73 = gA s11 73).trans ((q_Aa es11 (by decide) : gA s11 73 = gA s9 73).trans (q_Aa es9 (by decide) : gA s9 73 = gA s7 73)))))), q_AA es7, ((q_Aa es5 (by decide) : gA s5 55 = gA s3 55).trans ((q_La es3 : gA s3 55 = gA s2 55).trans ((q_Ia es2 : gA s2 55 = gA s1 55).trans (q_Ia es1 : gA s1 55 = gA s 55))))]; exact cpy_all hj, by rw [((q_Aa es19 (by decide) : gA s19 74 = gA s17 74).trans ((q_Aa es17 (by decide) : gA s17 74 = gA s15 74).trans ((q_Aa es15 (by decide) : gA s15 74 = gA s13 74).trans ((q_Aa es13 (by decide) : gA s13 74 = gA s11 74).trans (q_Aa es11 (by decide) : gA s11 74 = gA s9 74))))), q_AA es9, ((q_Aa es7 (by decide) : gA s7 56 = gA s5 56).trans ((q_Aa es5 (by decide) : gA s5 56 = gA s3 56).trans ((q_La es3 : gA s3 56 = gA s2 56).trans ((q_Ia es2 : gA s2 56 = gA s1 56).trans (q_Ia es1 : gA s1 56 = gA s 56)))))]; exact cpy_all hj, by rw [((q_Aa es19 (by decide) : gA s19 75 = gA s17 75).trans ((q_Aa es17 (by decide) : gA s17 75 = gA s15 75).trans ((q_Aa es15 (by decide) : gA s15 75 = gA s13 75).trans (q_Aa es13 (by decide) : gA s13 75 = gA s11 75)))), q_AA es11, ((q_Aa es9 (by decide) : gA s9 57 = gA s7 57).trans ((q_Aa es7 (by decide) : gA s7 57 = gA s5 57).trans ((q_Aa es5 (by decide) : gA s5 57 = gA s3 57).trans ((q_La es3 : gA s3 57 = gA s2 57).trans ((q_Ia es2 : gA s2 57 = gA s1 57).trans (q_Ia es1 : gA s1 57 = gA s 57))))))]; exact cpy_all hj⟩, fun j hj => ⟨by rw [((q_Aa es19 (by decide) : gA s19 76 = gA s17 76).trans ((q_Aa es17 (by decide) : gA s17 76 = gA s15 76).trans (q_Aa es15 (by decide) : gA s15 76 = gA s13 76))), q_AA es13, ((q_Aa es11 (by decide) : gA s11 58 = gA s9 58).trans ((q_Aa es9 (by decide) : gA s9 58 = gA s7 58).trans ((q_Aa es7 (by decide) : gA s7 58 = gA s5 58).trans ((q_Aa es5 (by decide) : gA s5 58 = gA s3 58).trans ((q_La es3 : gA s3 58 = gA s2 58).trans ((q_Ia es2 : gA s2 58 = gA s1 58).trans (q_Ia es1 : gA s1 58 = gA s 58)))))))]; exact cpy_all hj, by rw [((q_Aa es19 (by decide) : gA s19 77 = gA s17 77).trans (q_Aa es17 (by decide) : gA s17 77 = gA s15 77)), q_AA es15, ((q_Aa es13 (by decide) : gA s13 59 = gA s11 59).trans ((q_Aa es11 (by decide) : gA s11 59 = gA s9 59).trans ((q_Aa es9 (by decide) : gA s9 59 = gA s7 59).trans ((q_Aa es7 (by decide) : gA s7 59 = gA s5 59).trans ((q_Aa es5 (by decide) : gA s5 59 = gA s3 59).trans ((q_La es3 : gA s3 59 = gA s2 59).trans ((q_Ia es2 : gA s2 59 = gA s1 59).trans (q_Ia es1 : gA s1 59 = gA s 59))))))))]; exact cpy_all hj⟩, fun j hj => ⟨by rw [(q_Aa es19 (by decide) : gA s19 78 = gA s17 78), q_AA es17, ((q_Aa es15 (by decide) : gA s15 60 = gA s13 60).trans ((q_Aa es13 (by decide) : gA s13 60 = gA s11 60).trans ((q_Aa es11 (by decide) : gA s11 60 = gA s9 60).trans ((q_Aa es9 (by decide) : gA s9 60 = gA s7 60).trans ((q_Aa es7 (by decide) : gA s7 60 = gA s5 60).trans ((q_Aa es5 (by decide) : gA s5 60 = gA s3 60).trans ((q_La es3 : gA s3 60 = gA s2 60).trans ((q_Ia es2 : gA s2 60 = gA s1 60).trans (q_Ia es1 : gA s1 60 = gA s 60)))))))))]; exact cpy_all hj, by rw [q_AA es19, ((q_Aa es17 (by decide) : gA s17 61 = gA s15 61).trans ((q_Aa es15 (by decide) : gA s15 61 = gA s13 61).trans ((q_Aa es13 (by decide) : gA s13 61 = gA s11 61).trans ((q_Aa es11 (by decide) : gA s11 61 = gA s9 61).trans ((q_Aa es9 (by decide) : gA s9 61 = gA s7 61).trans ((q_Aa es7 (by decide) : gA s7 61 = gA s5 61).trans ((q_Aa es5 (by decide) : gA s5 61 = gA s3 61).trans ((q_La es3 : gA s3 61 = gA s2 61).trans ((q_Ia es2 : gA s2 61 = gA s1 61).trans (q_Ia es1 : gA s1 61 = gA s 61))))))))))]; exact cpy_all hj⟩, by show gI s19 1420 = gI s 1060 ∧ gI s19 1421 = gI s 1061; have : (-70000 : Int) ≤ gI s 1061 ∧ gI s 1061 ≤ 999999 := hRs.1 1061; have : gI s19 1421 = gI s17 1421 := q_Ai es19; have : gI s17 1421 = gI s15 1421 := q_Ai es17; have : gI s15 1421 = gI s13 1421 := q_Ai es15; have : gI s13 1421 = gI s11 1421 := q_Ai es13; have : gI s11 1421 = gI s9 1421 := q_Ai es11; have : gI s9 1421 = gI s7 1421 := q_Ai es9; have : gI s7 1421 = gI s5 1421 := q_Ai es7; have : gI s5 1421 = gI s3 1421 := q_Ai es5; have : gI s3 1421 = gI s2 1421 := q_Li es3; have : gI s2 1421 = gI s1 1061 := q_II es2; have : gI s1 1061 = gI s 1061 := q_Ii es1 (by decide); have : (0 : Int) ≤ gI s 1060 ∧ gI s 1060 ≤ 48 := hRs.1 1060; have : gI s19 1420 = gI s17 1420 := q_Ai es19; have : gI s17 1420 = gI s15 1420 := q_Ai es17; have : gI s15 1420 = gI s13 1420 := q_Ai es15; have : gI s13 1420 = gI s11 1420 := q_Ai es13; have : gI s11 1420 = gI s9 1420 := q_Ai es11; have : gI s9 1420 = gI s7 1420 := q_Ai es9; have : gI s7 1420 = gI s5 1420 := q_Ai es7; have : gI s5 1420 = gI s3 1420 := q_Ai es5; have : gI s3 1420 = gI s2 1420 := q_Li es3; have : gI s2 1420 = gI s1 1420 := q_Ii es2 (by decide); have : gI s1 1420 = gI s 1060 := q_II es1; omega⟩
set_option maxHeartbeats 1000000 in
theorem w_x8_become_v4 {s : MS} (hRs : Rg s) (hp0 : gI s 1421 ≤ 999999) : wp (m_x8_become_v4 s) (fun o => (Rg o) ∧ (∀ j : Nat, j < 48 → gA o 54 j = gA s 72 j ∧ gA o 55 j = gA s 73 j ∧ gA o 56 j = gA s 74 j ∧ gA o 57 j = gA s 75 j) ∧ (∀ j : Nat, j < 288 → gA o 58 j = gA s 76 j ∧ gA o 59 j = gA s 77 j) ∧ (∀ j : Nat, j < 8 → gA o 60 j = gA s 78 j ∧ gA o 61 j = gA s 79 j) ∧ (gI o 1060 = gI s 1420 ∧ gI o 1061 = gI s 1421)) := by
  unfold m_x8_become_v4
  refine wp_stn (fun s1 es1 => ?_)
  have hRs1 : Rg s1 := es1 ▸ Rg.uI hRs (by show (0 : Int) ≤ (gI s 1420) ∧ (gI s 1420) ≤ 48; have : (-70000 : Int) ≤ gI s 1421 ∧ gI s 1421 ≤ 16777215 := hRs.1 1421; have : (0 : Int) ≤ gI s 1420 ∧ gI s 1420 ≤ 48 := hRs.1 1420; omega)
  refine wp_stn (fun s2 es2 => ?_)
  have hRs2 : Rg s2 := es2 ▸ Rg.uI hRs1 (by show (-70000 : Int) ≤ (gI s1 1421) ∧ (gI s1 1421) ≤ 999999; have : (-70000 : Int) ≤ gI s 1421 ∧ gI s 1421 ≤ 16777215 := hRs.1 1421; have : gI s1 1421 = gI s 1421 := q_Ii es1 (by decide); omega)
  refine wp_stn (fun s3 es3 => ?_)
  have hRs3 : Rg s3 := es3 ▸ Rg.uL hRs2 (hRs2.2.2.1 1422)
  refine wp_cpg (⟨⟨by decide, by decide, by decide⟩, by decide, by decide⟩) ?_
  refine wp_stn (fun s5 es5 => ?_)
  have hRs5 : Rg s5 := es5 ▸ Rg.cpy hRs3 (by decide) (by decide) (by decide)
  refine wp_cpg (⟨⟨by decide, by decide, by decide⟩, by decide, by decide⟩) ?_
  refine wp_stn (fun s7 es7 => ?_)
  have hRs7 : Rg s7 := es7 ▸ Rg.cpy hRs5 (by decide) (by decide) (by decide)
  refine wp_cpg (⟨⟨by decide, by decide, by decide⟩, by decide, by decide⟩) ?_
  refine wp_stn (fun s9 es9 => ?_)
  have hRs9 : Rg s9 := es9 ▸ Rg.cpy hRs7 (by decide) (by decide) (by decide)
  refine wp_cpg (⟨⟨by decide, by decide, by decide⟩, by decide, by decide⟩) ?_
  refine wp_stn (fun s11 es11 => ?_)
  have hRs11 : Rg s11 := es11 ▸ Rg.cpy hRs9 (by decide) (by decide) (by decide)
  refine wp_cpg (⟨⟨by decide, by decide, by decide⟩, by decide, by decide⟩) ?_
  refine wp_stn (fun s13 es13 => ?_)
  have hRs13 : Rg s13 := es13 ▸ Rg.cpy hRs11 (by decide) (by decide) (by decide)
  refine wp_cpg (⟨⟨by decide, by decide, by decide⟩, by decide, by decide⟩) ?_
  refine wp_stn (fun s15 es15 => ?_)
  have hRs15 : Rg s15 := es15 ▸ Rg.cpy hRs13 (by decide) (by decide) (by decide)
  refine wp_cpg (⟨⟨by decide, by decide, by decide⟩, by decide, by decide⟩) ?_
  refine wp_stn (fun s17 es17 => ?_)
  have hRs17 : Rg s17 := es17 ▸ Rg.cpy hRs15 (by decide) (by decide) (by decide)
  refine wp_cpg (⟨⟨by decide, by decide, by decide⟩, by decide, by decide⟩) ?_
  refine wp_stn (fun s19 es19 => ?_)
  have hRs19 : Rg s19 := es19 ▸ Rg.cpy hRs17 (by decide) (by decide) (by decide)
  exact wp_some ⟨hRs19, fun j hj => ⟨by rw [((q_Aa es19 (by decide) : gA s19 54 = gA s17 54).trans ((q_Aa es17 (by decide) : gA s17 54 = gA s15 54).trans ((q_Aa es15 (by decide) : gA s15 54 = gA s13 54).trans ((q_Aa es13 (by decide) : gA s13 54 = gA s11 54).trans ((q_Aa es11 (by decide) : gA s11 54 = gA s9 54).trans ((q_Aa es9 (by decide) : gA s9 54 = gA s7 54).trans (q_Aa es7 (by decide) : gA s7 54 = gA s5 54))))))), q_AA es5, ((q_La es3 : gA s3 72 = gA s2 72).trans ((q_Ia es2 : gA s2 72 = gA s1 72).trans (q_Ia es1 : gA s1 72 = gA s 72)))]; exact cpy_all hj, by rw [((q_Aa es19 (by decide) : gA s19 55 = gA s17 55).trans ((q_Aa es17 (by decide) : gA s17 55 = gA s15 55).trans ((q_Aa es15 (by decide) : gA s15 55 = gA s13 55).trans ((q_Aa es13 (by decide) : gA s13 55 = gA s11 55).trans ((q_Aa es11 (by decide) : gA s11 55 = gA s9 55).trans (q_Aa es9 (by decide) : gA s9 55 = gA s7 55)))))), q_AA es7, ((q_Aa es5 (by decide) : gA s5 73 = gA s3 73).trans ((q_La es3 : gA s3 73 = gA s2 73).trans ((q_Ia es2 : gA s2 73 = gA s1 73).trans (q_Ia es1 : gA s1 73 = gA s 73))))]; exact cpy_all hj, by rw [((q_Aa es19 (by decide) : gA s19 56 = gA s17 56).trans ((q_Aa es17 (by decide) : gA s17 56 = gA s15 56).trans ((q_Aa es15 (by decide) : gA s15 56 = gA s13 56).trans ((q_Aa es13 (by decide) : gA s13 56 = gA s11 56).trans (q_Aa es11 (by decide) : gA s11 56 = gA s9 56))))), q_AA es9, ((q_Aa es7 (by decide) : gA s7 74 = gA s5 74).trans ((q_Aa es5 (by decide) : gA s5 74 = gA s3 74).trans ((q_La es3 : gA s3 74 = gA s2 74).trans ((q_Ia es2 : gA s2 74 = gA s1 74).trans (q_Ia es1 : gA s1 74 = gA s 74)))))]; exact cpy_all hj, by rw [((q_Aa es19 (by decide) : gA s19 57 = gA s17 57).trans ((q_Aa es17 (by decide) : gA s17 57 = gA s15 57).trans ((q_Aa es15 (by decide) : gA s15 57 = gA s13 57).trans (q_Aa es13 (by decide) : gA s13 57 = gA s11 57)))), q_AA es11, ((q_Aa es9 (by decide) : gA s9 75 = gA s7 75).trans ((q_Aa es7 (by decide) : gA s7 75 = gA s5 75).trans ((q_Aa es5 (by decide) : gA s5 75 = gA s3 75).trans ((q_La es3 : gA s3 75 = gA s2 75).trans ((q_Ia es2 : gA s2 75 = gA s1 75).trans (q_Ia es1 : gA s1 75 = gA s 75))))))]; exact cpy_all hj⟩, fun j hj => ⟨by rw [((q_Aa es19 (by decide) : gA s19 58 = gA s17 58).trans ((q_Aa es17 (by decide) : gA s17 58 = gA s15 58).trans (q_Aa es15 (by decide) : gA s15 58 = gA s13 58))), q_AA es13, ((q_Aa es11 (by decide) : gA s11 76 = gA s9 76).trans ((q_Aa es9 (by decide) : gA s9 76 = gA s7 76).trans ((q_Aa es7 (by decide) : gA s7 76 = gA s5 76).trans ((q_Aa es5 (by decide) : gA s5 76 = gA s3 76).trans ((q_La es3 : gA s3 76 = gA s2 76).trans ((q_Ia es2 : gA s2 76 = gA s1 76).trans (q_Ia es1 : gA s1 76 = gA s 76)))))))]; exact cpy_all hj, by rw [((q_Aa es19 (by decide) : gA s19 59 = gA s17 59).trans (q_Aa es17 (by decide) : gA s17 59 = gA s15 59)), q_AA es15, ((q_Aa es13 (by decide) : gA s13 77 = gA s11 77).trans ((q_Aa es11 (by decide) : gA s11 77 = gA s9 77).trans ((q_Aa es9 (by decide) : gA s9 77 = gA s7 77).trans ((q_Aa es7 (by decide) : gA s7 77 = gA s5 77).trans ((q_Aa es5 (by decide) : gA s5 77 = gA s3 77).trans ((q_La es3 : gA s3 77 = gA s2 77).trans ((q_Ia es2 : gA s2 77 = gA s1 77).trans (q_Ia es1 : gA s1 77 = gA s 77))))))))]; exact cpy_all hj⟩, fun j hj => ⟨by rw [(q_Aa es19 (by decide) : gA s19 60 = gA s17 60), q_AA es17, ((q_Aa es15 (by decide) : gA s15 78 = gA s13 78).trans ((q_Aa es13 (by decide) : gA s13 78 = gA s11 78).trans ((q_Aa es11 (by decide) : gA s11 78 = gA s9 78).trans ((q_Aa es9 (by decide) : gA s9 78 = gA s7 78).trans ((q_Aa es7 (by decide) : gA s7 78 = gA s5 78).trans ((q_Aa es5 (by decide) : gA s5 78 = gA s3 78).trans ((q_La es3 : gA s3 78 = gA s2 78).trans ((q_Ia es2 : gA s2 78 = gA s1 78).trans (q_Ia es1 : gA s1 78 = gA s 78)))))))))]; exact cpy_all hj, by rw [q_AA es19, ((q_Aa es17 (by decide) : gA s17 79 = gA s15 79).trans ((q_Aa es15 (by decide) : gA s15 79 = gA s13 79).trans ((q_Aa es13 (by decide) : gA s13 79 = gA s11 79).trans ((q_Aa es11 (by decide) : gA s11 79 = gA s9 79).trans ((q_Aa es9 (by decide) : gA s9 79 = gA s7 79).trans ((q_Aa es7 (by decide) : gA s7 79 = gA s5 79).trans ((q_Aa es5 (by decide) : gA s5 79 = gA s3 79).trans ((q_La es3 : gA s3 79 = gA s2 79).trans ((q_Ia es2 : gA s2 79 = gA s1 79).trans (q_Ia es1 : gA s1 79 = gA s 79))))))))))]; exact cpy_all hj⟩, by show gI s19 1060 = gI s 1420 ∧ gI s19 1061 = gI s 1421; have : (-70000 : Int) ≤ gI s 1421 ∧ gI s 1421 ≤ 16777215 := hRs.1 1421; have : gI s19 1061 = gI s17 1061 := q_Ai es19; have : gI s17 1061 = gI s15 1061 := q_Ai es17; have : gI s15 1061 = gI s13 1061 := q_Ai es15; have : gI s13 1061 = gI s11 1061 := q_Ai es13; have : gI s11 1061 = gI s9 1061 := q_Ai es11; have : gI s9 1061 = gI s7 1061 := q_Ai es9; have : gI s7 1061 = gI s5 1061 := q_Ai es7; have : gI s5 1061 = gI s3 1061 := q_Ai es5; have : gI s3 1061 = gI s2 1061 := q_Li es3; have : gI s2 1061 = gI s1 1421 := q_II es2; have : gI s1 1421 = gI s 1421 := q_Ii es1 (by decide); have : (0 : Int) ≤ gI s 1420 ∧ gI s 1420 ≤ 48 := hRs.1 1420; have : gI s19 1060 = gI s17 1060 := q_Ai es19; have : gI s17 1060 = gI s15 1060 := q_Ai es17; have : gI s15 1060 = gI s13 1060 := q_Ai es15; have : gI s13 1060 = gI s11 1060 := q_Ai es13; have : gI s11 1060 = gI s9 1060 := q_Ai es11; have : gI s9 1060 = gI s7 1060 := q_Ai es9; have : gI s7 1060 = gI s5 1060 := q_Ai es7; have : gI s5 1060 = gI s3 1060 := q_Ai es5; have : gI s3 1060 = gI s2 1060 := q_Li es3; have : gI s2 1060 = gI s1 1060 := q_Ii es2 (by decide); have : gI s1 1060 = gI s 1420 := q_II es1; omega⟩
set_option maxHeartbeats 1000000 in
theorem w_x8_save {s : MS} (hRs : Rg s) : wp (m_x8_save s) (fun o => (Rg o) ∧ (∀ j : Nat, j < 48 → gA o 55 j = gA s 54 j) ∧ (∀ j : Nat, j < 8 → gA o 61 j = gA s 60 j)) := by
  unfold m_x8_save
  refine wp_cpg (⟨⟨by decide, by decide, by decide⟩, by decide, by decide⟩) ?_
  refine wp_stn (fun s2 es2 => ?_)
  have hRs2 : Rg s2 := es2 ▸ Rg.cpy hRs (by decide) (by decide) (by decide)
  refine wp_cpg (⟨⟨by decide, by decide, by decide⟩, by decide, by decide⟩) ?_
  refine wp_stn (fun s4 es4 => ?_)
  have hRs4 : Rg s4 := es4 ▸ Rg.cpy hRs2 (by decide) (by decide) (by decide)
  exact wp_some ⟨hRs4, fun j hj => by rw [(q_Aa es4 (by decide) : gA s4 55 = gA s2 55), q_AA es2]; exact cpy_all hj, fun j hj => by rw [q_AA es4, (q_Aa es2 (by decide) : gA s2 60 = gA s 60)]; exact cpy_all hj⟩
set_option maxHeartbeats 1000000 in
theorem w_x8_fallBack {s : MS} (hRs : Rg s) : wp (m_x8_fallBack s) (fun o => (Rg o) ∧ (∀ j : Nat, j < 48 → gA o 54 j = gA s 55 j) ∧ (∀ j : Nat, j < 8 → gA o 60 j = gA s 61 j)) := by
  unfold m_x8_fallBack
  refine wp_cpg (⟨⟨by decide, by decide, by decide⟩, by decide, by decide⟩) ?_
  refine wp_stn (fun s2 es2 => ?_)
  have hRs2 : Rg s2 := es2 ▸ Rg.cpy hRs (by decide) (by decide) (by decide)
  refine wp_cpg (⟨⟨by decide, by decide, by decide⟩, by decide, by decide⟩) ?_
  refine wp_stn (fun s4 es4 => ?_)
  have hRs4 : Rg s4 := es4 ▸ Rg.cpy hRs2 (by decide) (by decide) (by decide)
  exact wp_some ⟨hRs4, fun j hj => by rw [(q_Aa es4 (by decide) : gA s4 54 = gA s2 54), q_AA es2]; exact cpy_all hj, fun j hj => by rw [q_AA es4, (q_Aa es2 (by decide) : gA s2 61 = gA s 61)]; exact cpy_all hj⟩
/-! ===== what an act does to the trees, or leaves ===== -/
theorem zZ : ∀ x, x < 48 → 0 ≤ Z0 x := fun x _ => Int.le_refl 0
theorem TS_CL {s : MS} (H : TS s Z0 (-1)) : CL s (gA s 54) := CL_of (r := gA s 60) H.1.1 H.1.2.1 (fun p hp hc => H.2.2.1.1 p hp hc (by omega)) (fun x hx => by rw [H.2.1.1 x hx]; exact zZ x hx)
theorem TS_CLs {s : MS} (H : TS s Z0 (-1)) : CL s (gA s 55) := CL_of (r := gA s 61) H.1.1 H.1.2.2.1 H.2.2.1.2 (fun x hx => by rw [H.2.1.2 x hx]; exact Int.le_refl 0)
theorem TS_US {s : MS} {D : Nat → Int} {e : Int} (H : TS s D e) : US (hN s) (kN s) := H.1.2.2.2
theorem TS_root {s : MS} (hR : Rg s) (H : TS s Z0 (-1)) {v : Nat} (hv : v < 8) : ((-2) ≤ gA s 60 v ∧ gA s 60 v < 48) ∧ (0 ≤ gA s 60 v → gA s 60 v < 48 ∧ 0 < gA s 54 (gA s 60 v).toNat) := by
  have r60 := hR.2.1 60 v hv
  have r60' : (-2 : Int) ≤ gA s 60 v ∧ gA s 60 v ≤ 253 := r60
  have hN48 : gI s 1060 ≤ 48 := H.1.1
  have key : 0 ≤ gA s 60 v → gA s 60 v < 48 ∧ 0 < gA s 54 (gA s 60 v).toNat := fun h0 => by
    have := TG_root_live (v := v) H zZ hv h0 (by omega)
    exact ⟨by omega, this.2⟩
  exact ⟨⟨r60'.1, by by_cases h0 : 0 ≤ gA s 60 v; exact (key h0).1; omega⟩, key⟩
theorem TS_sroot {s : MS} (hR : Rg s) (H : TS s Z0 (-1)) {v : Nat} (hv : v < 8) : ((-2) ≤ gA s 61 v ∧ gA s 61 v < 48) ∧ (0 ≤ gA s 61 v → gA s 61 v < 48 ∧ 0 < gA s 55 (gA s 61 v).toNat) := by
  have r61 := hR.2.1 61 v hv
  have r61' : (-2 : Int) ≤ gA s 61 v ∧ gA s 61 v ≤ 253 := r61
  have hN48 : gI s 1060 ≤ 48 := H.1.1
  have ro := H.2.2.2.1.2 v hv
  have key : 0 ≤ gA s 61 v → gA s 61 v < 48 ∧ 0 < gA s 55 (gA s 61 v).toNat := fun h0 => by
    have hb : gA s 61 v < 48 := by omega
    refine ⟨hb, root_live (h := hN s) (N := gI s 1060) hv h0 ?_⟩
    rw [H.2.1.2 _ (by omega)]; exact Int.le_refl 0
  exact ⟨⟨r61'.1, by by_cases h0 : 0 ≤ gA s 61 v; exact (key h0).1; omega⟩, key⟩
/-- which volumes are there is as it was -/
def RK (s o : MS) : Prop := ∀ w, w < 8 → (gA o 60 w = -2 ↔ gA s 60 w = -2)
theorem RK_of {s o : MS} {v : Nat} (h : RV s o v) (hv : gA s 60 v ≠ -2) : RK s o := fun w hw => by
  by_cases e : w = v
  · rw [e]; exact ⟨fun q => absurd q h.2, fun q => absurd q hv⟩
  · rw [h.1 w e]
theorem RK_pt {s o : MS} (h : ∀ w, w < 8 → gA o 60 w = gA s 60 w) : RK s o := fun w hw => by rw [h w hw]
theorem RK_tr {s o t : MS} (h : RK s o) (g : RK o t) : RK s t := fun w hw => (g w hw).trans (h w hw)
/-- one state's rows are those of another -/
def BC (s o : MS) (a b i j : Nat) : Prop := (∀ k, k < 48 → gA o b k = gA s a k ∧ gA o (b + 1) k = gA s (a + 1) k ∧ gA o (b + 2) k = gA s (a + 2) k ∧ gA o (b + 3) k = gA s (a + 3) k) ∧ (∀ k, k < 288 → gA o (b + 4) k = gA s (a + 4) k ∧ gA o (b + 5) k = gA s (a + 5) k) ∧ (∀ k, k < 8 → gA o (b + 6) k = gA s (a + 6) k ∧ gA o (b + 7) k = gA s (a + 7) k) ∧ gI o j = gI s i ∧ gI o (j + 1) = gI s (i + 1)
theorem BC_tr {s o t : MS} {a b c i j l : Nat} (h : BC s o a b i j) (g : BC o t b c j l) : BC s t a c i l := by
  refine ⟨fun k hk => ?_, fun k hk => ?_, fun k hk => ?_, g.2.2.2.1.trans h.2.2.2.1, g.2.2.2.2.trans h.2.2.2.2⟩
  · have h1 := h.1 k hk
    have g1 := g.1 k hk
    exact ⟨g1.1.trans h1.1, g1.2.1.trans h1.2.1, g1.2.2.1.trans h1.2.2.1, g1.2.2.2.trans h1.2.2.2⟩
  · have h1 := h.2.1 k hk
    have g1 := g.2.1 k hk
    exact ⟨g1.1.trans h1.1, g1.2.trans h1.2⟩
  · have h1 := h.2.2.1 k hk
    have g1 := g.2.2.1 k hk
    exact ⟨g1.1.trans h1.1, g1.2.trans h1.2⟩
/-- a state that nobody wrote -/
theorem BC_fr {s o t : MS} {a b i j : Nat} (h : BC s o a b i j) (hA : ∀ k, b ≤ k → k ≤ b + 7 → gA t k = gA o k) (hI : gI t j = gI o j ∧ gI t (j + 1) = gI o (j + 1)) : BC s t a b i j := by
  unfold BC
  rw [hA b (by omega) (by omega), hA (b + 1) (by omega) (by omega), hA (b + 2) (by omega) (by omega), hA (b + 3) (by omega) (by omega), hA (b + 4) (by omega) (by omega), hA (b + 5) (by omega) (by omega), hA (b + 6) (by omega) (by omega), hA (b + 7) (by omega) (by omega), hI.1, hI.2]
  exact h
theorem TS_bc {s o : MS} (H : TS s Z0 (-1)) (h : BC s o 54 54 1060 1060) (he : gI o 581 = gI s 581) : TS o Z0 (-1) := by
  have T := TG_ext (h' := hN o) (ky' := kN o) (c' := gA o 54) (sv' := gA o 55) (r' := gA o 60) (rs' := gA o 61) H (fun p hp => (h.1 p hp).2.2.1) (fun p hp => (h.1 p hp).2.2.2) (fun p hp k hk => ⟨(h.2.1 (6 * p + k) (by omega)).2, (h.2.1 (6 * p + k) (by omega)).1⟩) (fun p hp => (h.1 p hp).1) (fun p hp => (h.1 p hp).2.1) (fun v hv => (h.2.2.1 v hv).1) (fun v hv => (h.2.2.1 v hv).2)
  exact TS_mk T rfl rfl h.2.2.2.1 he rfl rfl rfl rfl
theorem b_v3 {s : MS} (hR : Rg s) : wp (m_x8_become_v3 s) (fun o => Rg o ∧ F_x8_become_v3 s o ∧ BC s o 54 72 1060 1420) := wp_eq (w_x8_become_v3 hR) (fun o e h => ⟨h.1, fr_x8_become_v3 e, ⟨h.2.1, h.2.2.1, h.2.2.2.1, h.2.2.2.2.1, h.2.2.2.2.2⟩⟩)
theorem b_v2 {s : MS} (hR : Rg s) : wp (m_x8_become_v2 s) (fun o => Rg o ∧ F_x8_become_v2 s o ∧ BC s o 54 63 1060 1240) := wp_eq (w_x8_become_v2 hR) (fun o e h => ⟨h.1, fr_x8_become_v2 e, ⟨h.2.1, h.2.2.1, h.2.2.2.1, h.2.2.2.2.1, h.2.2.2.2.2⟩⟩)
theorem b_v4 {s : MS} (hR : Rg s) (h1 : gI s 1421 ≤ 999999) : wp (m_x8_become_v4 s) (fun o => Rg o ∧ F_x8_become_v4 s o ∧ BC s o 72 54 1420 1060) := wp_eq (w_x8_become_v4 hR h1) (fun o e h => ⟨h.1, fr_x8_become_v4 e, ⟨h.2.1, h.2.2.1, h.2.2.2.1, h.2.2.2.2.1, h.2.2.2.2.2⟩⟩)
theorem b_v1 {s : MS} (hR : Rg s) : wp (m_x8_become s) (fun o => Rg o ∧ F_x8_become s o ∧ BC s o 63 54 1240 1060) := wp_eq (w_x8_become hR) (fun o e h => ⟨h.1, fr_x8_become e, ⟨h.2.1, h.2.2.1, h.2.2.2.1, h.2.2.2.2.1, h.2.2.2.2.2⟩⟩)
theorem b_P {s : MS} (hR : Rg s) : wp (m_x8_becomeP s) (fun o => Rg o ∧ F_x8_becomeP s o ∧ BC s o 63 54 1240 1060) := wp_eq (w_x8_becomeP hR) (fun o e h => ⟨h.1, fr_x8_becomeP e, ⟨h.2.1, h.2.2.1, h.2.2.2.1, h.2.2.2.2.1, h.2.2.2.2.2⟩⟩)
/-- the trees hold and can be put to -/
def TE (s : MS) : Prop := Rg s ∧ TS s Z0 (-1) ∧ 3 ≤ gI s 581
set_option maxHeartbeats 1000000 in
theorem ts_tryPlant {p0 p1 p2 : Int} {s : MS} (h : TE s) (hp : 0 ≤ p0 ∧ p0 < 8) (hv : gA s 60 p0.toNat ≠ -2) (h1 : 0 ≤ p1 ∧ p1 ≤ 999) (h2 : 0 ≤ p2 ∧ p2 ≤ 999) : wp (m_x1_tryPlant p0 p1 p2 s) (fun q => TE q.2 ∧ F_x1_tryPlant s q.2 ∧ (q.1 = 0 ∨ q.1 = 1) ∧ RK s q.2) := by
  obtain ⟨hR, H, hE⟩ := h
  have key : wp (m_x1_tryPlant p0 p1 p2 s) (fun q => Rg q.2 ∧ TS q.2 Z0 (-1) ∧ (q.1 = 0 ∨ q.1 = 1) ∧ RK s q.2) := by
    unfold m_x1_tryPlant m_x1_tryPlant_J36
    refine wp_bn (b_v3 hR) (fun s5 e5 h5 => ?_)
    obtain ⟨hR5, F5, B5⟩ := h5
    have T5 : TS s5 Z0 (-1) := TS_eq H (F5.2.1 54 (by decide)) (F5.2.1 55 (by decide)) (F5.2.1 56 (by decide)) (F5.2.1 57 (by decide)) (F5.2.1 58 (by decide)) (F5.2.1 59 (by decide)) (F5.2.1 60 (by decide)) (F5.2.1 61 (by decide)) (F5.1 1060 (by decide)) (F5.1 581 (by decide))
    have k60 : gA s5 60 = gA s 60 := F5.2.1 60 (by decide)
    refine wp_bn (ts_plant hR5 T5 (by rw [F5.1 581 (by decide)]; exact hE) hp (by rw [k60]; exact hv) h1 h2) (fun q8 e8 h8 => ?_)
    obtain ⟨r, o⟩ := q8
    dsimp only at h8 ⊢
    obtain ⟨hRo, Fo, h8⟩ := h8
    refine wp_rg (by omega) (wp_if (fun c1 => ?_) (fun c1 => ?_))
    · have B1 : BC s o 54 72 1060 1420 := BC_fr B5 (fun k h1 h2 => Fo.2.1 k (by simp; omega)) ⟨Fo.1 1420 (by decide), Fo.1 1421 (by decide)⟩
      have sp : gI s 1061 ≤ 999999 := (hR.1 1061).2
      refine wp_bn (b_v4 hRo (by have b9 : gI o 1421 = gI s 1061 := B1.2.2.2.2; omega)) (fun s12 e12 h12 => ?_)
      obtain ⟨hR12, F12, B12⟩ := h12
      have B2 := BC_tr B1 B12
      refine wp_bo (by omega) (wp_some ⟨hR12, TS_bc H B2 ?_, Or.inl c1, RK_pt (fun w hw => (B2.2.2.1 w hw).1)⟩)
      rw [F12.1 581 (by decide), Fo.1 581 (by decide), F5.1 581 (by decide)]
    · rcases h8 with h8 | ⟨h8, T8, V8⟩
      · exact absurd h8 c1
      · refine wp_bo (by omega) (wp_some ⟨hRo, T8, Or.inr h8, ?_⟩)
        have := RK_of V8 (by rw [k60]; exact hv)
        intro w hw
        rw [this w hw, k60]
  refine wp_eq key (fun q eq hq => ?_)
  have F : F_x1_tryPlant s q.2 := fr_x1_tryPlant eq
  exact ⟨⟨hq.1, hq.2.1, by rw [F.1 581 (by decide)]; exact hE⟩, F, hq.2.2.1, hq.2.2.2⟩
set_option maxHeartbeats 1000000 in
theorem ts_tryUproot {p0 p1 : Int} {s : MS} (h : TE s) (hp : 0 ≤ p0 ∧ p0 < 8) (hv : gA s 60 p0.toNat ≠ -2) (h1 : R2 p1) : wp (m_x1_tryUproot p0 p1 s) (fun q => TE q.2 ∧ F_x1_tryUproot s q.2 ∧ (q.1 = 0 ∨ q.1 = 1) ∧ RK s q.2) := by
  obtain ⟨hR, H, hE⟩ := h
  have key : wp (m_x1_tryUproot p0 p1 s) (fun q => Rg q.2 ∧ TS q.2 Z0 (-1) ∧ (q.1 = 0 ∨ q.1 = 1) ∧ RK s q.2) := by
    unfold m_x1_tryUproot m_x1_tryUproot_J56
    have rt := TS_root hR H (v := p0.toNat) (by omega)
    refine wp_rdIn (by omega) (fun y4 e4 => ?_)
    rw [e4] at rt
    refine wp_bn (w_x8_valueAt hR (TS_CL H) rt.2 (by omega) h1) (fun r6 e6 h6 => ?_)
    refine wp_rg (by omega) (wp_if (fun c0 => wp_some ⟨hR, H, Or.inl rfl, RK_pt (fun w hw => rfl)⟩) (fun c0 => ?_))
    have hy4 : 0 ≤ y4 := by
      by_cases q : y4 < 0
      · exact absurd (h6.2 q) c0
      · omega
    refine wp_bn (b_v3 hR) (fun s5 e5 h5 => ?_)
    obtain ⟨hR5, F5, B5⟩ := h5
    have T5 : TS s5 Z0 (-1) := TS_eq H (F5.2.1 54 (by decide)) (F5.2.1 55 (by decide)) (F5.2.1 56 (by decide)) (F5.2.1 57 (by decide)) (F5.2.1 58 (by decide)) (F5.2.1 59 (by decide)) (F5.2.1 60 (by decide)) (F5.2.1 61 (by decide)) (F5.1 1060 (by decide)) (F5.1 581 (by decide))
    have k60 : gA s5 60 = gA s 60 := F5.2.1 60 (by decide)
    refine wp_bn (ts_uproot hR5 T5 (by rw [F5.1 581 (by decide)]; exact hE) hp (by rw [k60, e4]; exact hy4) h1) (fun q8 e8 h8 => ?_)
    obtain ⟨r, o⟩ := q8
    dsimp only at h8 ⊢
    obtain ⟨hRo, Fo, h8⟩ := h8
    refine wp_rg (by omega) (wp_if (fun c1 => ?_) (fun c1 => ?_))
    · have B1 : BC s o 54 72 1060 1420 := BC_fr B5 (fun k h1 h2 => Fo.2.1 k (by simp; omega)) ⟨Fo.1 1420 (by decide), Fo.1 1421 (by decide)⟩
      have sp : gI s 1061 ≤ 999999 := (hR.1 1061).2
      refine wp_bn (b_v4 hRo (by have b9 : gI o 1421 = gI s 1061 := B1.2.2.2.2; omega)) (fun s12 e12 h12 => ?_)
      obtain ⟨hR12, F12, B12⟩ := h12
      have B2 := BC_tr B1 B12
      refine wp_bo (by omega) (wp_some ⟨hR12, TS_bc H B2 ?_, Or.inl c1, RK_pt (fun w hw => (B2.2.2.1 w hw).1)⟩)
      rw [F12.1 581 (by decide), Fo.1 581 (by decide), F5.1 581 (by decide)]
    · rcases h8 with h8 | ⟨h8, T8, V8⟩
      · exact absurd h8 c1
      · refine wp_bo (by omega) (wp_some ⟨hRo, T8, Or.inr h8, ?_⟩)
        have := RK_of V8 (by rw [k60]; exact hv)
        intro w hw
        rw [this w hw, k60]
  refine wp_eq key (fun q eq hq => ?_)
  have F : F_x1_tryUproot s q.2 := fr_x1_tryUproot eq
  exact ⟨⟨hq.1, hq.2.1, by rw [F.1 581 (by decide)]; exact hE⟩, F, hq.2.2.1, hq.2.2.2⟩
theorem ts_share {p0 p1 : Int} {s : MS} (h : TE s) (hp : 0 ≤ p0 ∧ p0 < 8) (hq : 0 ≤ p1 ∧ p1 < 8) (hv : gA s 60 p0.toNat ≠ -2) (hf : gA s 60 p1.toNat = -2) : wp (m_x1_share p0 p1 s) (fun o => TE o ∧ ∀ w, w < 8 → gA o 60 w = if w = p1.toNat then gA s 60 p0.toNat else gA s 60 w) := by
  obtain ⟨hR, H, hE⟩ := h
  have rt := TS_root hR H (v := p0.toNat) (by omega)
  unfold m_x1_share m_x1_share_J52
  refine wp_rdIn (by omega) (fun y2 e2 => ?_)
  rw [e2] at rt hv
  refine wp_inb (by omega) (wp_stn (fun s4 e4 => ?_))
  have hR4 : Rg s4 := e4 ▸ Rg.uAu hR (by show (-2 : Int) ≤ y2 ∧ y2 ≤ 253; omega)
  have g60 : gA s4 60 = upZ (gA s 60) p1.toNat y2 := q_AA e4
  have kk : ∀ k, k ≠ 60 → gA s4 k = gA s k := fun k h => q_Aa e4 h
  have kI : ∀ k, gI s4 k = gI s k := fun k => q_Ai e4
  have ne : p0.toNat ≠ p1.toNat := fun q => by rw [q, hf] at e2; omega
  have g0 : gA s4 60 p0.toNat = y2 := by rw [g60, upZ_n ne]; exact e2
  have post : ∀ w, w < 8 → gA s4 60 w = if w = p1.toNat then gA s 60 p0.toNat else gA s 60 w := fun w hw => by
    rw [g60, e2]
    by_cases q : w = p1.toNat
    · rw [q, upZ_s, if_pos rfl]
    · rw [upZ_n q, if_neg q]
  have ro := H.2.2.2.1.1 p0.toNat (by omega)
  rw [e2] at ro
  have TR := TG_root (v := p1.toNat) (q := y2) H (by omega) ro
  refine wp_rdIn (by omega) (fun y5 e5 => ?_)
  rw [g0] at e5
  refine wp_rg (by omega) (wp_if (fun c1 => ?_) (fun c1 => ?_))
  · refine wp_some ⟨⟨hR4, ?_, by rw [kI]; exact hE⟩, post⟩
    refine TS_mk (TG_D TR (fun x hx => ?_)) (hN_eq (kk 56 (by decide)) (kk 57 (by decide)) (kk 59 (by decide))) (kN_eq (kk 58 (by decide))) (kI _) (kI _) (kk 54 (by decide)) (kk 55 (by decide)) g60 (kk 61 (by decide))
    show (0 : Int) = 0 + (if gA s 60 p1.toNat = (x : Int) then 1 else 0) - (if y2 = (x : Int) then 1 else 0)
    rw [hf, if_neg (by omega), if_neg (by omega)]; rfl
  · have rl := rt.2 (by omega)
    refine wp_rdIn (by omega) (fun y8 e8 => ?_)
    rw [g0] at e8
    have y8e : y8 = y2 := e8.symm
    subst y8e
    refine wp_rdIn (by omega) (fun y9 e9 => ?_)
    rw [kk 54 (by decide)] at e9
    have cb : gA s 54 y8.toNat ≤ Z0 y8.toNat + 296 := TG_cb H (by omega)
    have cb' : gA s 54 y8.toNat ≤ 0 + 296 := cb
    have TI := TG_inc TR (show y8.toNat < 48 by omega) rl.2
    have rl2 := rl.2
    rw [e9] at TI cb' rl2
    refine wp_inb (by omega) (wp_stn (fun s11 e11 => ?_))
    have hR11 : Rg s11 := e11 ▸ Rg.uAu hR4 (by show (-1 : Int) ≤ y9 + 1 ∧ y9 + 1 ≤ 100000; omega)
    have g54 : gA s11 54 = upZ (gA s 54) y8.toNat (y9 + 1) := (q_AA e11).trans (by rw [kk 54 (by decide)])
    have k2 : ∀ k, k ≠ 54 → gA s11 k = gA s4 k := fun k h => q_Aa e11 h
    have k3 : ∀ k, gI s11 k = gI s k := fun k => (q_Ai e11).trans (kI k)
    refine wp_some ⟨⟨hR11, ?_, by rw [k3]; exact hE⟩, fun w hw => by rw [k2 60 (by decide)]; exact post w hw⟩
    refine TS_mk (TG_D TI (fun x hx => ?_)) (hN_eq ((k2 56 (by decide)).trans (kk 56 (by decide))) ((k2 57 (by decide)).trans (kk 57 (by decide))) ((k2 59 (by decide)).trans (kk 59 (by decide)))) (kN_eq ((k2 58 (by decide)).trans (kk 58 (by decide)))) (k3 _) (k3 _) g54 ((k2 55 (by decide)).trans (kk 55 (by decide))) ((k2 60 (by decide)).trans g60) ((k2 61 (by decide)).trans (kk 61 (by decide)))
    show (0 : Int) = 0 + (if gA s 60 p1.toNat = (x : Int) then 1 else 0) - (if y8 = (x : Int) then 1 else 0) + (if x = y8.toNat then 1 else 0)
    rw [hf, if_neg (by omega)]
    by_cases z : x = y8.toNat
    · rw [if_pos z, if_pos (by omega)]; rfl
    · rw [if_neg z, if_neg (by omega)]; rfl
theorem ts_letGo {p0 : Int} {s : MS} (h : TE s) (hp : 0 ≤ p0 ∧ p0 < 8) (hv : gA s 60 p0.toNat ≠ -2) : wp (m_x1_letGo p0 s) (fun o => TE o) := by
  obtain ⟨hR, H, hE⟩ := h
  have rt := TS_root hR H (v := p0.toNat) (by omega)
  have J34 : ∀ (S : MS) (D : Nat → Int), Rg S → TS S D (-1) → gI S 581 = gI s 581 → (∀ x, x < 48 → D x + (if gA S 60 p0.toNat = (x : Int) then 1 else 0) = 0) → wp (m_x1_letGo_J34 p0 S) (fun o => TE o) := by
    intro S D hRS T hES hDD
    unfold m_x1_letGo_J34
    refine wp_inb (by omega) (wp_stn (fun s4 e4 => ?_))
    have hR4 : Rg s4 := e4 ▸ Rg.uAu hRS (by show (-2 : Int) ≤ -2 ∧ (-2 : Int) ≤ 253; omega)
    have g60 : gA s4 60 = upZ (gA S 60) p0.toNat (-2) := q_AA e4
    have kk : ∀ k, k ≠ 60 → gA s4 k = gA S k := fun k h => q_Aa e4 h
    have kI : ∀ k, gI s4 k = gI S k := fun k => q_Ai e4
    have TR := TG_root (v := p0.toNat) (q := -2) T (by omega) (Or.inr (Or.inl (by omega)))
    refine wp_some ⟨hR4, ?_, by rw [kI, hES]; exact hE⟩
    refine TS_mk (TG_D TR (fun x hx => ?_)) (hN_eq (kk 56 (by decide)) (kk 57 (by decide)) (kk 59 (by decide))) (kN_eq (kk 58 (by decide))) (kI _) (kI _) (kk 54 (by decide)) (kk 55 (by decide)) g60 (kk 61 (by decide))
    show (0 : Int) = D x + (if gA S 60 p0.toNat = (x : Int) then 1 else 0) - (if (-2 : Int) = (x : Int) then 1 else 0)
    rw [hDD x hx, if_neg (by omega)]; rfl
  unfold m_x1_letGo
  refine wp_rdIn (by omega) (fun y5 e5 => ?_)
  have hv' := hv
  rw [e5] at rt hv'
  refine wp_rg (by omega) (wp_if (fun c1 => J34 s Z0 hR H rfl (fun x hx => ?_)) (fun c1 => ?_))
  · rw [e5, if_neg (by omega)]; rfl
  · refine wp_rdIn (by omega) (fun y8 e8 => ?_)
    have y8e : y8 = y5 := by rw [← e8, ← e5]
    rw [y8e]
    have rl := rt.2 (by omega)
    have rN := TG_lt H (show y5.toNat < 48 by omega) rl.2
    refine wp_bn (w_x1_release_v2 hR H.1.2.1 (by omega) rl.2 (fun x hx => by rw [H.2.1.1 x hx]; exact zZ x hx)) (fun q11 e11 h11 => ?_)
    obtain ⟨n, o⟩ := q11
    dsimp only at h11 ⊢
    obtain ⟨hRo, hRel, _, _⟩ := h11
    have Fo : F_x1_release_v2 s o := fr_x1_release_v2 e11
    refine J34 o (fun x => 0 - (if (x : Int) = y5 then 1 else 0)) hRo (TS_mk (TG_rel H hRel) (hN_eq (Fo.2.1 56 (by decide)) (Fo.2.1 57 (by decide)) (Fo.2.1 59 (by decide))) (kN_eq (Fo.2.1 58 (by decide))) (Fo.1 1060 (by decide)) (Fo.1 581 (by decide)) rfl (Fo.2.1 55 (by decide)) (Fo.2.1 60 (by decide)) (Fo.2.1 61 (by decide))) (Fo.1 581 (by decide)) (fun x hx => ?_)
    rw [Fo.2.1 60 (by decide), e5]
    by_cases z : y5 = (x : Int)
    · rw [if_pos z, if_pos z.symm]; rfl
    · rw [if_neg z, if_neg (fun w => z w.symm)]; rfl
theorem ts_freed {p0 : Int} {s : MS} (hR : Rg s) (H : TS s Z0 (-1)) (hp : p0 = -1 ∨ (0 ≤ p0 ∧ p0 < 48 ∧ 0 < gA s 54 p0.toNat)) : wp (m_x1_freedWith p0 s) (fun q => Rg q.2 ∧ F_x1_freedWith s q.2 ∧ 0 ≤ q.1 ∧ q.1 ≤ 48) := by
  have key : wp (m_x1_freedWith p0 s) (fun q => Rg q.2 ∧ 0 ≤ q.1 ∧ q.1 ≤ 48) := by
    unfold m_x1_freedWith
    refine wp_rg (by omega) (wp_if (fun c1 => wp_some ⟨hR, by show (0 : Int) ≤ 0 ∧ (0 : Int) ≤ 48; omega⟩) (fun c1 => ?_))
    refine wp_cpg ⟨⟨by decide, by decide, by decide⟩, by decide, by decide⟩ (wp_stn (fun s4 e4 => ?_))
    have hR4 : Rg s4 := e4 ▸ Rg.cpy hR (by decide) (by decide) (by decide)
    have kk : ∀ k, k ≠ 52 → gA s4 k = gA s k := fun k h => q_Aa e4 h
    have kI : ∀ k, gI s4 k = gI s k := fun k => q_Ai e4
    have c52 : ∀ j, j < 48 → gA s4 52 j = gA s 54 j := fun j hj => by rw [q_AA e4]; exact cpy_all hj
    have hN' : hN s4 = hN s := hN_eq (kk 56 (by decide)) (kk 57 (by decide)) (kk 59 (by decide))
    have hN48 : gI s 1060 ≤ 48 := H.1.1
    have hp' : 0 ≤ p0 ∧ p0 < 48 ∧ 0 < gA s 54 p0.toNat := by rcases hp with hp | hp; exact absurd hp c1; exact hp
    have rN := TG_lt H (show p0.toNat < 48 by omega) hp'.2.2
    refine wp_bn (w_x1_release hR4 (by rw [hN', kI]; exact WN_ext H.1.1 H.1.2.1 (fun _ _ => rfl) (fun _ _ => rfl) (fun _ _ _ _ => rfl) c52) (by rw [kI]; omega) (by rw [c52 _ (by omega)]; exact hp'.2.2) (fun x hx => by
      rw [hN', df_ext H.1.2.1 (fun _ _ => rfl) (fun _ _ => rfl) (fun _ _ _ _ => rfl) c52 (fun v hv => by rw [kk 60 (by decide)]) hx, H.2.1.1 x hx]; exact zZ x hx)) (fun q7 e7 h7 => ?_)
    exact wp_some ⟨h7.1, h7.2.2.1⟩
  exact wp_eq key (fun q eq hq => ⟨hq.1, fr_x1_freedWith eq, hq.2⟩)
/-- what was ahead lies aside -/
theorem ts_begin {s : MS} (h : TE s) : wp (m_x1_begin s) (fun o => TE o ∧ F_x1_begin s o ∧ BC s o 54 63 1060 1240) := by
  obtain ⟨hR, H, hE⟩ := h
  have key : wp (m_x1_begin s) (fun o => Rg o ∧ BC s o 54 63 1060 1240) := by
    unfold m_x1_begin
    refine wp_bn (b_v2 hR) (fun s2 e2 h2 => ?_)
    refine wp_stn (fun s3 e3 => wp_some ⟨e3 ▸ Rg.uL h2.1 (by show R8 0; decide), BC_fr h2.2.2 (fun k _ _ => q_La e3) ⟨q_Li e3, q_Li e3⟩⟩)
  refine wp_eq key (fun o eo ho => ?_)
  have F : F_x1_begin s o := fr_x1_begin eo
  exact ⟨⟨ho.1, TS_eq H (F.2.1 54 (by decide)) (F.2.1 55 (by decide)) (F.2.1 56 (by decide)) (F.2.1 57 (by decide)) (F.2.1 58 (by decide)) (F.2.1 59 (by decide)) (F.2.1 60 (by decide)) (F.2.1 61 (by decide)) (F.1 1060 (by decide)) (F.1 581 (by decide)), by rw [F.1 581 (by decide)]; exact hE⟩, F, ho.2⟩
theorem ts_rehearse {p0 p1 : Int} {s : MS} (h : TE s) (hp : 0 ≤ p0 ∧ p0 < 8) (hv : gA s 60 p0.toNat ≠ -2) (h1 : 0 ≤ p1 ∧ p1 ≤ 999) : wp (m_x1_rehearse p0 p1 s) (fun q => Rg q.2 ∧ F_x1_rehearse s q.2 ∧ (q.1 = 0 ∨ q.1 = 1) ∧ BC s q.2 54 63 1060 1240) := by
  have key : wp (m_x1_rehearse p0 p1 s) (fun q => Rg q.2 ∧ (q.1 = 0 ∨ q.1 = 1) ∧ BC s q.2 54 63 1060 1240) := by
    unfold m_x1_rehearse m_x1_rehearse_J29
    refine wp_bn (ts_begin h) (fun s10 e10 h10 => ?_)
    obtain ⟨⟨hR, H, hE⟩, F, B⟩ := h10
    have k60 : gA s10 60 = gA s 60 := F.2.1 60 (by decide)
    have rt := TS_root hR H (v := p0.toNat) (by omega)
    refine wp_rdIn (by omega) (fun y11 e11 => ?_)
    rw [e11] at rt
    refine wp_bn (w_x8_valueAt hR (TS_CL H) rt.2 (by omega) (by omega)) (fun r13 e13 h13 => ?_)
    have go : ∀ z : Int, (0 ≤ z ∧ z ≤ 999) → wp (bn (m_x1_plant p0 p1 z s10) (fun qr7 => bo qr7.1 (some (qr7.1, qr7.2)))) (fun q => Rg q.2 ∧ (q.1 = 0 ∨ q.1 = 1) ∧ BC s q.2 54 63 1060 1240) := fun z hz => by
      refine wp_bn (ts_plant hR H hE hp (by rw [k60]; exact hv) h1 hz) (fun q7 e7 h7 => ?_)
      obtain ⟨r, o⟩ := q7
      dsimp only at h7 ⊢
      obtain ⟨hRo, Fo, h7⟩ := h7
      have hr : r = 0 ∨ r = 1 := by
        rcases h7 with h7 | ⟨h7, _⟩
        · exact Or.inl h7
        · exact Or.inr h7
      exact wp_bo hr (wp_some ⟨hRo, hr, BC_fr B (fun k h1 h2 => Fo.2.1 k (by simp; omega)) ⟨Fo.1 1240 (by decide), Fo.1 1241 (by decide)⟩⟩)
    exact wp_rg (by omega) (wp_if (fun _ => go 1 (by omega)) (fun _ => go 0 (by omega)))
  exact wp_eq key (fun q eq hq => ⟨hq.1, fr_x1_rehearse eq, hq.2⟩)
theorem ts_wouldWrite {p0 p1 : Int} {s : MS} (h : TE s) (hp : 0 ≤ p0 ∧ p0 < 8) (hv : gA s 60 p0.toNat ≠ -2) (h1 : 0 ≤ p1 ∧ p1 ≤ 999) : wp (m_x1_wouldWrite p0 p1 s) (fun q => TE q.2 ∧ F_x1_wouldWrite s q.2 ∧ ((-1) ≤ q.1 ∧ q.1 ≤ 48) ∧ BC s q.2 54 54 1060 1060) := by
  obtain ⟨hR, H, hE⟩ := h
  have key : wp (m_x1_wouldWrite p0 p1 s) (fun q => Rg q.2 ∧ ((-1) ≤ q.1 ∧ q.1 ≤ 48) ∧ BC s q.2 54 54 1060 1060) := by
    unfold m_x1_wouldWrite m_x1_wouldWrite_J19
    refine wp_bn (ts_rehearse ⟨hR, H, hE⟩ hp hv h1) (fun q7 e7 h7 => ?_)
    obtain ⟨r, o⟩ := q7
    dsimp only at h7 ⊢
    obtain ⟨hRo, Fo, hr, B⟩ := h7
    have J : ∀ z : Int, ((-1) ≤ z ∧ z ≤ 48) → wp (bn (m_x8_become o) (fun s4 => some (z, s4))) (fun q => Rg q.2 ∧ ((-1) ≤ q.1 ∧ q.1 ≤ 48) ∧ BC s q.2 54 54 1060 1060) := fun z hz => by
      refine wp_bn (b_v1 hRo) (fun s4 e4 h4 => wp_some ⟨h4.1, hz, BC_tr B h4.2.2⟩)
    refine wp_rg (by omega) (wp_if (fun _ => J (-1) (by omega)) (fun _ => ?_))
    exact wp_bn (w_x1_wrote hRo) (fun r11 e11 h11 => J r11 (by omega))
  refine wp_eq key (fun q eq hq => ?_)
  have F : F_x1_wouldWrite s q.2 := fr_x1_wouldWrite eq
  exact ⟨⟨hq.1, TS_bc H hq.2.2 (F.1 581 (by decide)), by rw [F.1 581 (by decide)]; exact hE⟩, F, hq.2⟩
theorem ts_wouldCost {p0 p1 : Int} {s : MS} (h : TE s) (hp : 0 ≤ p0 ∧ p0 < 8) (hv : gA s 60 p0.toNat ≠ -2) (h1 : 0 ≤ p1 ∧ p1 ≤ 999) : wp (m_x1_wouldCost p0 p1 s) (fun q => TE q.2 ∧ F_x1_wouldCost s q.2 ∧ BC s q.2 54 54 1060 1060) := by
  obtain ⟨hR, H, hE⟩ := h
  have key : wp (m_x1_wouldCost p0 p1 s) (fun q => Rg q.2 ∧ BC s q.2 54 54 1060 1060) := by
    unfold m_x1_wouldCost m_x1_wouldCost_J19
    refine wp_bn (ts_rehearse ⟨hR, H, hE⟩ hp hv h1) (fun q7 e7 h7 => ?_)
    obtain ⟨r, o⟩ := q7
    dsimp only at h7 ⊢
    obtain ⟨hRo, Fo, hr, B⟩ := h7
    have J : ∀ (z : Int) (S : MS), Rg S → BC s S 54 63 1060 1240 → wp (bn (m_x8_become S) (fun s4 => some (z, s4))) (fun q => Rg q.2 ∧ BC s q.2 54 54 1060 1060) := fun z S hRS B => by
      refine wp_bn (b_v1 hRS) (fun s4 e4 h4 => wp_some ⟨h4.1, BC_tr B h4.2.2⟩)
    refine wp_rg (by omega) (wp_if (fun _ => J (-1) o hRo B) (fun _ => ?_))
    refine wp_bn (w_x1_price hRo) (fun q12 e12 h12 => ?_)
    obtain ⟨z, S⟩ := q12
    dsimp only at h12 ⊢
    have F12 : F_x1_price o S := fr_x1_price e12
    exact J z S h12.1 (BC_fr B (fun k h1 h2 => F12.2.1 k (by simp; omega)) ⟨F12.1 1240 (by decide), F12.1 1241 (by decide)⟩)
  refine wp_eq key (fun q eq hq => ?_)
  have F : F_x1_wouldCost s q.2 := fr_x1_wouldCost eq
  exact ⟨⟨hq.1, TS_bc H hq.2 (F.1 581 (by decide)), by rw [F.1 581 (by decide)]; exact hE⟩, F, hq.2⟩
theorem ts_save {s : MS} (h : TE s) : wp (m_x8_save s) (fun o => TE o ∧ F_x8_save s o) := by
  obtain ⟨hR, H, hE⟩ := h
  refine wp_eq (w_x8_save hR) (fun o eo ho => ?_)
  have F : F_x8_save s o := fr_x8_save eo
  have T := TG_save H (fun x hx => rfl) ho.2.1 ho.2.2
  exact ⟨⟨ho.1, TS_mk T (hN_eq (F.2.1 56 (by decide)) (F.2.1 57 (by decide)) (F.2.1 59 (by decide))) (kN_eq (F.2.1 58 (by decide))) (F.1 1060 (by decide)) (F.1 581 (by decide)) (F.2.1 54 (by decide)) rfl (F.2.1 60 (by decide)) rfl, by rw [F.1 581 (by decide)]; exact hE⟩, F⟩
theorem ts_fallBack {s : MS} (h : TE s) : wp (m_x8_fallBack s) (fun o => TE o ∧ F_x8_fallBack s o) := by
  obtain ⟨hR, H, hE⟩ := h
  refine wp_eq (w_x8_fallBack hR) (fun o eo ho => ?_)
  have F : F_x8_fallBack s o := fr_x8_fallBack eo
  have T := TG_back H ho.2.1 ho.2.2
  exact ⟨⟨ho.1, TS_mk T (hN_eq (F.2.1 56 (by decide)) (F.2.1 57 (by decide)) (F.2.1 59 (by decide))) (kN_eq (F.2.1 58 (by decide))) (F.1 1060 (by decide)) (F.1 581 (by decide)) rfl (F.2.1 55 (by decide)) rfl (F.2.1 61 (by decide)), by rw [F.1 581 (by decide)]; exact hE⟩, F⟩
