/-! ===== a root gets one above it; a key goes into its leaf ===== -/
set_option maxHeartbeats 1000000 in
theorem ts_raise0 {p0 : Int} {s : MS} {D : Nat → Int} (hR : Rg s) (H : TS s D (-1)) (hD : ∀ x, x < 48 → 0 ≤ D x) (hE : 3 ≤ gI s 581) (hp : 0 ≤ p0 ∧ p0 < 8) (hr : 0 ≤ gA s 60 p0.toNat ∧ gA s 60 p0.toNat < 48) (hc : 0 < gA s 54 (gA s 60 p0.toNat).toNat) : wp (m_x1_raiseRoot p0 s) (fun q => Rg q.2 ∧ (q.1 = -1 ∨ (TS q.2 D (-1) ∧ Cur q.2 q.1 (gA s 56 (gA s 60 p0.toNat).toNat + 1) ∧ gA q.2 57 q.1.toNat = 1 ∧ gA q.2 60 = upZ (gA s 60) p0.toNat q.1 ∧ (∀ x, x < 48 → 0 < gA s 54 x → gA q.2 54 x = gA s 54 x ∧ gA q.2 56 x = gA s 56 x ∧ gA q.2 57 x = gA s 57 x)))) := by
  have hN48 : gI s 1060 ≤ 48 := H.1.1
  have hE6 : gI s 581 ≤ 6 := (hR.1 581).2
  unfold m_x1_raiseRoot
  refine wp_rdIn (by omega) (fun y3 e3 => ?_)
  rw [e3] at hr hc ⊢
  have hb48 : y3.toNat < 48 := by omega
  have n1 : 1 ≤ gA s 57 y3.toNat := H.2.2.1.1 y3.toNat hb48 hc (by omega)
  have lv : 0 ≤ gA s 56 y3.toNat ∧ gA s 56 y3.toNat ≤ 47 := TG_lev H hD hb48 hc
  have bN : ((y3.toNat : Nat) : Int) < gI s 1060 := TG_lt H hb48 hc
  refine wp_rdIn (by omega) (fun y4 e4 => ?_)
  refine wp_bn (ts_take hR H hD (by omega) (by omega) (by omega)) (fun q7 e7 h7 => ?_)
  obtain ⟨r, o⟩ := q7
  dsimp only at h7 ⊢
  obtain ⟨hRo, Fo, h7⟩ := h7
  have hr2 : R2 r := by rcases h7 with h7 | ⟨h7, _⟩ <;> omega
  unfold m_x1_raiseRoot_J69
  refine wp_rg hr2 (wp_if (fun c1 => wp_some ⟨hRo, Or.inl c1⟩) (fun c1 => ?_))
  rcases h7 with h7 | ⟨⟨r0, r1⟩, ⟨f1, f2⟩, ⟨u54, u56, u57⟩, T1⟩
  · exact absurd h7 c1
  have hq48 : r.toNat < 48 := by omega
  have nqb : y3.toNat ≠ r.toNat := fun q => by rw [q] at hc; omega
  have o55 : gA o 55 = gA s 55 := Fo.2.1 55 (by decide)
  have o58 : gA o 58 = gA s 58 := Fo.2.1 58 (by decide)
  have o60 : gA o 60 = gA s 60 := Fo.2.1 60 (by decide)
  have on : gI o 1060 = gI s 1060 := Fo.1 1060 (by decide)
  have oe : gI o 581 = gI s 581 := Fo.1 581 (by decide)
  refine wp_bn w_slot (fun r11 _ h11 => ?_)
  refine wp_rdIn (by omega) (fun y12 e12 => ?_)
  have ky := (H.2.2.2.2 y3.toNat hb48 (Or.inl hc)).2 0 (by show ((0 : Nat) : Int) < gA s 57 y3.toNat; omega)
  have ky' : 0 ≤ gA s 58 (6 * y3.toNat + 0) ∧ gA s 58 (6 * y3.toNat + 0) ≤ 999 := ky
  rw [o58] at e12
  rw [show 6 * y3.toNat + 0 = r11.toNat by omega, e12] at ky'
  have q54 : gA o 54 r.toNat = 1 := by rw [u54, upZ_s]
  have q55 : gA o 55 r.toNat = 0 := by rw [o55]; exact f2
  have q56 : gA o 56 r.toNat = y4 + 1 := by rw [u56, upZ_s]
  have q57 : gA o 57 r.toNat = 0 := by rw [u57, upZ_s]
  have b56 : gA o 56 y3.toNat = y4 := by rw [u56, upZ_n nqb]; exact e4
  refine wp_bn (ts_insert (p0 := r) (p1 := 0) (p2 := y12) (p3 := y3) hRo T1 (by omega) (by omega) (by omega) (by rw [q57, oe]; omega) (by rw [q57]; omega) ky' (fun _ => ⟨by rw [on]; omega, by rw [q56, b56]; omega⟩) (by omega) (Or.inr rfl)) (fun s14 e14 h14 => ?_)
  obtain ⟨hR14, F14, n57, noth, T2⟩ := h14
  refine wp_inb (by omega) (wp_stn (fun s16 e16 => ?_))
  have hR16 : Rg s16 := e16 ▸ Rg.uAu hR14 (by show (-2 : Int) ≤ r ∧ r ≤ 253; omega)
  have g60 : gA s16 60 = upZ (gA s14 60) p0.toNat r := q_AA e16
  have p60 : gA s14 60 = gA s 60 := (F14.2.1 60 (by decide)).trans o60
  have k54 : gA s16 54 = gA o 54 := (q_Aa e16 (by decide)).trans (F14.2.1 54 (by decide))
  have k55 : gA s16 55 = gA o 55 := (q_Aa e16 (by decide)).trans (F14.2.1 55 (by decide))
  have k56 : gA s16 56 = gA o 56 := (q_Aa e16 (by decide)).trans (F14.2.1 56 (by decide))
  have k57 : gA s16 57 = upZ (gA o 57) r.toNat (gA o 57 r.toNat + 1) := (q_Aa e16 (by decide)).trans n57
  have ke : gI s16 581 = gI s 581 := (q_Ai e16).trans ((F14.1 581 (by decide)).trans oe)
  have T3 := TG_root (v := p0.toNat) (q := r) T2 (by omega) (Or.inl ⟨r0, by show r < gI s14 1060; rw [F14.1 1060 (by decide), on]; exact r1⟩)
  have T4 : TS s16 D (-1) := by
    refine TS_mk (TG_D T3 (fun x hx => ?_)) (hN_eq (q_Aa e16 (by decide)) (q_Aa e16 (by decide)) (q_Aa e16 (by decide))) (kN_eq (q_Aa e16 (by decide))) (q_Ai e16) (q_Ai e16) (q_Aa e16 (by decide)) (q_Aa e16 (by decide)) g60 (q_Aa e16 (by decide))
    show D x = D x + (if x = r.toNat then 1 else 0) - (if 0 < gA o 56 r.toNat ∧ y3 = (x : Int) then 1 else 0) + (if gA s14 60 p0.toNat = (x : Int) then 1 else 0) - (if r = (x : Int) then 1 else 0)
    rw [p60, e3]
    have hl : 0 < gA o 56 r.toNat := by omega
    by_cases z : x = r.toNat
    · by_cases z2 : y3 = (x : Int)
      · exfalso; omega
      · rw [if_pos z, if_neg (fun w => z2 w.2), if_neg z2, if_pos (show r = (x : Int) by omega)]; omega
    · by_cases z2 : y3 = (x : Int)
      · rw [if_neg z, if_pos ⟨hl, z2⟩, if_pos z2, if_neg (show ¬ r = (x : Int) by omega)]; omega
      · rw [if_neg z, if_neg (fun w => z2 w.2), if_neg z2, if_neg (show ¬ r = (x : Int) by omega)]; omega
  refine wp_some ⟨hR16, Or.inr ⟨T4, ⟨⟨r0, by omega⟩, ?_, ?_, ?_, ?_⟩, ?_, ?_, fun x hx hcx => ?_⟩⟩
  · show gA s16 54 r.toNat = 1
    rw [k54]; exact q54
  · show gA s16 55 r.toNat = 0
    rw [k55]; exact q55
  · show gA s16 56 r.toNat = gA s 56 y3.toNat + 1
    rw [k56, q56, e4]
  · show gA s16 57 r.toNat < gI s16 581
    rw [k57, upZ_s, ke, q57]; omega
  · show gA s16 57 r.toNat = 1
    rw [k57, upZ_s, q57]; rfl
  · show gA s16 60 = upZ (gA s 60) p0.toNat r
    rw [g60, p60]
  · have hxq : x ≠ r.toNat := fun z => by rw [z] at hcx; omega
    show gA s16 54 x = gA s 54 x ∧ gA s16 56 x = gA s 56 x ∧ gA s16 57 x = gA s 57 x
    rw [k54, k56, k57, u54, u56, u57, upZ_n hxq, upZ_n hxq, upZ_n hxq, upZ_n hxq]
    exact ⟨rfl, rfl, rfl⟩
theorem ts_raise {p0 : Int} {s : MS} {D : Nat → Int} (hR : Rg s) (H : TS s D (-1)) (hD : ∀ x, x < 48 → 0 ≤ D x) (hE : 3 ≤ gI s 581) (hp : 0 ≤ p0 ∧ p0 < 8) (hr : 0 ≤ gA s 60 p0.toNat ∧ gA s 60 p0.toNat < 48) (hc : 0 < gA s 54 (gA s 60 p0.toNat).toNat) : wp (m_x1_raiseRoot p0 s) (fun q => Rg q.2 ∧ F_x1_raiseRoot s q.2 ∧ (q.1 = -1 ∨ (TS q.2 D (-1) ∧ Cur q.2 q.1 (gA s 56 (gA s 60 p0.toNat).toNat + 1) ∧ gA q.2 57 q.1.toNat = 1 ∧ gA q.2 60 = upZ (gA s 60) p0.toNat q.1 ∧ (∀ x, x < 48 → 0 < gA s 54 x → gA q.2 54 x = gA s 54 x ∧ gA q.2 56 x = gA s 56 x ∧ gA q.2 57 x = gA s 57 x)))) := wp_eq (ts_raise0 hR H hD hE hp hr hc) (fun q eq hq => ⟨hq.1, fr_x1_raiseRoot eq, hq.2⟩)
set_option maxHeartbeats 1000000 in
theorem ts_low {p0 p1 p2 : Int} {s : MS} {D : Nat → Int} {e : Int} (hR : Rg s) (H : TS s D e) (hC : Cur s p0 0) (he : e = -1 ∨ e = p0) (h1 : 0 ≤ p1 ∧ p1 ≤ 999) (h2 : 0 ≤ p2 ∧ p2 ≤ 999) : wp (m_x1_plantLow p0 p1 p2 s) (fun o => Rg o ∧ TS o D (-1)) := by
  obtain ⟨hb, b54, b55, b56, b57⟩ := hC
  have hb48 : p0.toNat < 48 := by omega
  have hE6 : gI s 581 ≤ 6 := (hR.1 581).2
  have nd := TG_nd H hb48 (by omega)
  have n6 : 0 ≤ gA s 57 p0.toNat ∧ gA s 57 p0.toNat ≤ 6 := nd.2.1
  have L35 : ∀ (n : Nat) (a i : Int), (0 ≤ a ∧ a ≤ i) → (i ≤ gA s 57 p0.toNat) → gA s 57 p0.toNat - i < (n : Int) → wp (m_x1_plantLow_L35 n p0 p1 p2 a i s) (fun o => Rg o ∧ TS o D (-1)) := by
    refine fr_ind (fun a i ha hi hm => by exfalso; omega) (fun n ih a i ha hi hm => ?_)
    show wp (m_x1_plantLow_b35 (m_x1_plantLow_L35 n) p0 p1 p2 a i s) _
    unfold m_x1_plantLow_b35
    refine wp_rdIn (by omega) (fun y14 e14 => ?_)
    refine wp_rg (by omega) (wp_rg (by omega) (wp_if (fun c1 => ?_) (fun c1 => ?_)))
    · refine wp_bn (ts_insert (p0 := p0) (p1 := a) (p2 := p1) (p3 := p2) hR H hb (by omega) (by omega) (by omega) (by omega) h1 (fun w => by omega) (by omega) he) (fun s19 e19 h19 => ?_)
      obtain ⟨hR19, F19, n57, noth, T2⟩ := h19
      refine wp_some ⟨hR19, TG_D T2 (fun x hx => ?_)⟩
      show D x = D x - (if 0 < gA s 56 p0.toNat ∧ p2 = (x : Int) then 1 else 0)
      rw [if_neg (fun w => by omega)]; omega
    · refine wp_bn w_slot (fun r21 _ h21 => ?_)
      refine wp_rdIn (by omega) (fun y22 e22 => ?_)
      have r22 := hR.2.1 58 r21.toNat (by show _ < 288; omega)
      rw [e22] at r22
      have r22' : (-257 : Int) ≤ y22 ∧ y22 ≤ 65535 := r22
      unfold m_x1_plantLow_J78
      refine wp_rg (by omega) (wp_rg (by omega) (wp_if (fun c2 => ?_) (fun c2 => ?_)))
      · exact ih (a + 0) (i + 1) (by omega) (by omega) (by omega)
      · exact ih (a + 1) (i + 1) (by omega) (by omega) (by omega)
  unfold m_x1_plantLow
  refine wp_bn (w_x8_find hR hb n6.2 (by omega)) (fun r27 e27 h27 => ?_)
  refine wp_rg (by omega) (wp_if (fun c1 => ?_) (fun c1 => ?_))
  · exact L35 FU 0 0 (by omega) (by omega) (by have := FU_big; omega)
  · refine wp_bn (ts_set (p0 := p0) (p1 := r27) (p2 := p2) hR H hb (by omega) (by omega) (by omega) (fun w => by omega) (by omega)) (fun s31 e31 h31 => ?_)
    obtain ⟨hR31, F31, u59, T2⟩ := h31
    refine wp_some ⟨hR31, TG_ne (e := e) (TG_D T2 (fun x hx => ?_)) (fun p hp hpe => ?_)⟩
    · show D x = D x + (if 0 < gA s 56 p0.toNat ∧ gA s 59 (6 * p0.toNat + r27.toNat) = (x : Int) then 1 else 0) - (if 0 < gA s 56 p0.toNat ∧ p2 = (x : Int) then 1 else 0)
      rw [if_neg (fun w => by omega), if_neg (fun w => by omega)]; omega
    · show 1 ≤ gA s31 57 p
      have : p = p0.toNat := by omega
      rw [F31.2.1 57 (by decide), this]; omega
/-! ===== to put ===== -/
def Z0 : Nat → Int := fun _ => 0
/-- no other root is another, this one is there -/
def RV (s S : MS) (v : Nat) : Prop := (∀ w, w ≠ v → gA S 60 w = gA s 60 w) ∧ gA S 60 v ≠ -2
theorem RV_eq {s S o : MS} {v : Nat} (h : RV s S v) (e : gA o 60 = gA S 60) : RV s o v := by
  unfold RV at h ⊢
  rw [e]; exact h
theorem RV_up {s S o : MS} {v : Nat} {q : Int} (h : ∀ w, w ≠ v → gA S 60 w = gA s 60 w) (e : gA o 60 = upZ (gA S 60) v q) (hq : q ≠ -2) : RV s o v := ⟨fun w hw => by rw [e, upZ_n hw]; exact h w hw, by rw [e, upZ_s]; exact hq⟩
set_option maxHeartbeats 2000000 in
theorem ts_plant0 {p0 p1 p2 : Int} {s : MS} (hR : Rg s) (H : TS s Z0 (-1)) (hE : 3 ≤ gI s 581) (hp : 0 ≤ p0 ∧ p0 < 8) (hv : gA s 60 p0.toNat ≠ -2) (h1 : 0 ≤ p1 ∧ p1 ≤ 999) (h2 : 0 ≤ p2 ∧ p2 ≤ 999) : wp (m_x1_plant p0 p1 p2 s) (fun q => Rg q.2 ∧ (q.1 = 0 ∨ (q.1 = 1 ∧ TS q.2 Z0 (-1) ∧ RV s q.2 p0.toNat))) := by
  have hN48 : gI s 1060 ≤ 48 := H.1.1
  have zD : ∀ x, x < 48 → 0 ≤ Z0 x := fun x _ => Int.le_refl 0
  have zD' : ∀ x, x < 48 → 0 ≤ Z0 x ∧ Z0 x ≤ 10 := fun x _ => ⟨Int.le_refl 0, by show (0 : Int) ≤ 10; omega⟩
  have J219 : ∀ (b : Int) (S : MS) (e : Int), Rg S → (b = -1 ∨ (TS S Z0 e ∧ Cur S b 0 ∧ (e = -1 ∨ e = b) ∧ RV s S p0.toNat)) → wp (m_x1_plant_J219 p1 p2 b S) (fun q => Rg q.2 ∧ (q.1 = 0 ∨ (q.1 = 1 ∧ TS q.2 Z0 (-1) ∧ RV s q.2 p0.toNat))) := by
    intro b S e hRS hb
    unfold m_x1_plant_J219
    have hb2 : R2 b := by rcases hb with hb | ⟨_, ⟨hb, _⟩, _⟩ <;> omega
    refine wp_rg hb2 (wp_if (fun c1 => wp_some ⟨hRS, Or.inl rfl⟩) (fun c1 => ?_))
    rcases hb with hb | ⟨T, hC, he, hV⟩
    · exact absurd hb c1
    · refine wp_bn (ts_low hRS T hC he h1 h2) (fun s8 e8 h8 => ?_)
      have F8 : F_x1_plantLow S s8 := fr_x1_plantLow e8
      exact wp_some ⟨h8.1, Or.inr ⟨rfl, h8.2, RV_eq hV (F8.2.1 60 (by decide))⟩⟩
  have L117 : ∀ (n : Nat) (b i : Int) (S : MS), Rg S → (gI S 581 = gI s 581) → (0 ≤ i ∧ i ≤ 48) → (b = -1 ∨ ∃ e, TS S Z0 e ∧ Cur S b i ∧ (e = -1 ∨ (e = b ∧ i = 0)) ∧ RV s S p0.toNat) → i < (n : Int) → wp (m_x1_plant_L117 n p1 p2 b i S) (fun q => Rg q.2 ∧ (q.1 = 0 ∨ (q.1 = 1 ∧ TS q.2 Z0 (-1) ∧ RV s q.2 p0.toNat))) := by
    refine fr_ind (fun b i S hRS hES hi hb hm => by exfalso; omega) (fun n ih b i S hRS hES hi hb hm => ?_)
    show wp (m_x1_plant_b117 (m_x1_plant_L117 n) p1 p2 b i S) _
    unfold m_x1_plant_b117
    refine wp_rg (by omega) (wp_if (fun c1 => ?_) (fun c1 => ?_))
    · rcases hb with hb | ⟨e, T, hC, he, hV⟩
      · exact J219 b S (-1) hRS (Or.inl hb)
      · exact J219 b S e hRS (Or.inr ⟨T, by rw [show (0 : Int) = i by omega]; exact hC, by omega, hV⟩)
    · have hb2 : R2 b := by rcases hb with hb | ⟨_, _, ⟨hb, _⟩, _⟩ <;> omega
      refine wp_rg hb2 (wp_if (fun c2 => J219 b S (-1) hRS (Or.inl c2)) (fun c2 => ?_))
      rcases hb with hb | ⟨e, T, hC, he, hV⟩
      · exact absurd hb c2
      have hem : e = -1 := by omega
      subst hem
      have hC' := hC
      obtain ⟨hb, b54, b55, b56, b57⟩ := hC
      have hb48 : b.toNat < 48 := by omega
      have hE6 : gI S 581 ≤ 6 := (hRS.1 581).2
      have hN8 : gI S 1060 ≤ 48 := T.1.1
      have n1 : 1 ≤ gA S 57 b.toNat := T.2.2.1.1 b.toNat hb48 (by omega) (by omega)
      refine wp_bn (w_x8_entryFor hRS hb (by omega) (by omega)) (fun r24 e24 h24 => ?_)
      have k24 : 0 ≤ r24 ∧ r24 < gA S 57 b.toNat := by omega
      refine wp_bn w_slot (fun r26 _ h26 => ?_)
      refine wp_rdIn (by omega) (fun y27 e27 => ?_)
      rw [show r26.toNat = 6 * b.toNat + r24.toNat by omega] at e27
      have kid := TG_kid (p := b.toNat) (k := r24.toNat) T zD hb48 (by omega) (by show 0 < gA S 56 b.toNat; omega) (by show ((r24.toNat : Nat) : Int) < gA S 57 b.toNat; omega)
      have v27 : (hN S).2.2 b.toNat r24.toNat = y27 := e27
      rw [v27] at kid
      obtain ⟨⟨k0, k1⟩, k2, k3⟩ := kid
      have k2' : gA S 56 y27.toNat = gA S 56 b.toNat - 1 := k2
      refine wp_bn (ts_owned hRS T zD' (by omega) (by omega) k3) (fun q30 e30 h30 => ?_)
      obtain ⟨r, o⟩ := q30
      dsimp only at h30 ⊢
      obtain ⟨hRo, Fo, h30⟩ := h30
      have hr2 : R2 r := by
        rcases h30 with h30 | ⟨w0, ⟨w1, _⟩, _⟩ <;> omega
      refine wp_rg hr2 (wp_if (fun c3 => wp_some ⟨hRo, Or.inl rfl⟩) (fun c3 => ?_))
      rcases h30 with h30 | ⟨r0, ⟨rq, rN⟩, ⟨o54, o55⟩, ⟨o56, o57⟩, oc, oh, oq, T1⟩
      · exact absurd h30 c3
      have nb : b.toNat ≠ y27.toNat := fun z => by rw [← z] at k2'; omega
      have nq : b.toNat ≠ r.toNat := fun z => by
        rcases oq with oq | oq
        · exact nb (by omega)
        · rw [← z] at oq; omega
      have ob := oh b.toNat hb48 nq
      have c54 : gA o 54 b.toNat = 1 := by rw [oc b.toNat hb48 (by omega) (by omega) nb]; exact b54
      have c55 : gA o 55 b.toNat = 0 := by rw [Fo.2.1 55 (by decide)]; exact b55
      have c56 : gA o 56 b.toNat = i := by rw [ob.1]; exact b56
      have c57 : gA o 57 b.toNat = gA S 57 b.toNat := ob.2.1
      have c59 : gA o 59 (6 * b.toNat + r24.toNat) = y27 := by rw [(ob.2.2 r24.toNat (by omega)).2]; exact e27
      have oe : gI o 581 = gI S 581 := Fo.1 581 (by decide)
      have on : gI o 1060 = gI S 1060 := Fo.1 1060 (by decide)
      refine wp_bn (ts_set (p0 := b) (p1 := r24) (p2 := r) hRo T1 hb (by omega) (by omega) (by omega) (fun _ => ⟨by rw [on]; omega, by omega⟩) (by omega)) (fun s34 e34 h34 => ?_)
      obtain ⟨hR34, F34, u59, T2⟩ := h34
      have T3 : TS s34 Z0 (-1) := by
        refine TG_D T2 (fun x hx => ?_)
        show (0 : Int) = 0 + (if x = r.toNat then 1 else 0) - (if x = y27.toNat then 1 else 0) + (if 0 < gA o 56 b.toNat ∧ gA o 59 (6 * b.toNat + r24.toNat) = (x : Int) then 1 else 0) - (if 0 < gA o 56 b.toNat ∧ r = (x : Int) then 1 else 0)
        rw [c59]
        have hl : 0 < gA o 56 b.toNat := by omega
        have e1 : (if 0 < gA o 56 b.toNat ∧ y27 = (x : Int) then (1 : Int) else 0) = if x = y27.toNat then 1 else 0 := by
          by_cases z : x = y27.toNat
          · rw [if_pos z, if_pos ⟨hl, by omega⟩]
          · rw [if_neg z, if_neg (fun w => z (by omega))]
        have e2 : (if 0 < gA o 56 b.toNat ∧ r = (x : Int) then (1 : Int) else 0) = if x = r.toNat then 1 else 0 := by
          by_cases z : x = r.toNat
          · rw [if_pos z, if_pos ⟨hl, by omega⟩]
          · rw [if_neg z, if_neg (fun w => z (by omega))]
        rw [e1, e2]; omega
      refine wp_bn (w_x1_splits hR34 (by omega)) (fun q37 e37 h37 => ?_)
      obtain ⟨t, s37⟩ := q37
      dsimp only at h37 ⊢
      obtain ⟨hR37, h37⟩ := h37
      have F37 : F_x1_splits s34 s37 := fr_x1_splits e37
      have T4 : TS s37 Z0 (-1) := TS_eq T3 (F37.2.1 54 (by decide)) (F37.2.1 55 (by decide)) (F37.2.1 56 (by decide)) (F37.2.1 57 (by decide)) (F37.2.1 58 (by decide)) (F37.2.1 59 (by decide)) (F37.2.1 60 (by decide)) (F37.2.1 61 (by decide)) (F37.1 1060 (by decide)) (F37.1 581 (by decide))
      have g54 : gA s37 54 = gA o 54 := (F37.2.1 54 (by decide)).trans (F34.2.1 54 (by decide))
      have g55 : gA s37 55 = gA o 55 := (F37.2.1 55 (by decide)).trans (F34.2.1 55 (by decide))
      have g56 : gA s37 56 = gA o 56 := (F37.2.1 56 (by decide)).trans (F34.2.1 56 (by decide))
      have g57 : gA s37 57 = gA o 57 := (F37.2.1 57 (by decide)).trans (F34.2.1 57 (by decide))
      have g60 : gA s37 60 = gA S 60 := (F37.2.1 60 (by decide)).trans ((F34.2.1 60 (by decide)).trans (Fo.2.1 60 (by decide)))
      have ge : gI s37 581 = gI S 581 := (F37.1 581 (by decide)).trans ((F34.1 581 (by decide)).trans oe)
      rw [F34.2.1 57 (by decide), F34.1 581 (by decide), oe] at h37
      have ry : gA o 56 r.toNat = i - 1 := by omega
      unfold m_x1_plant_J211
      refine wp_rg (by omega) (wp_if (fun c5 => ?_) (fun c5 => ?_))
      · refine ih r (i + (-1)) s37 hR37 (by omega) (by omega) (Or.inr ⟨-1, T4, ⟨⟨r0, by omega⟩, by rw [g54]; exact o54, by rw [g55]; exact o55, by rw [g56, ry]; omega, by rw [g57, ge]; omega⟩, Or.inl rfl, RV_eq hV g60⟩) (by omega)
      · refine wp_bn (ts_split (i := i - 1) hR37 T4 zD (by omega) ⟨hb, by rw [g54]; exact c54, by rw [g55]; exact c55, by rw [g56, c56]; omega, by rw [g57, c57, ge]; exact b57⟩ (by rw [g57, c57]; exact k24) ⟨⟨r0, by omega⟩, by rw [g54]; exact o54, by rw [g55]; exact o55, by rw [g56]; exact ry, by rw [g57]; omega⟩ (by omega)) (fun q42 e42 h42 => ?_)
        obtain ⟨r42, s42⟩ := q42
        dsimp only at h42 ⊢
        obtain ⟨hR42, F42, h42⟩ := h42
        refine ih r42 (i + (-1)) s42 hR42 ?_ (by omega) ?_ (by omega)
        · rw [F42.1 581 (by decide), ge]; exact hES
        · rcases h42 with h42 | ⟨T5, C5⟩
          · exact Or.inl h42
          · exact Or.inr ⟨-1, T5, by rw [show i + (-1) = i - 1 by omega]; exact C5, Or.inl rfl, RV_eq hV ((F42.2.1 60 (by decide)).trans g60)⟩
  have J95 : ∀ (b : Int) (S : MS), Rg S → (gI S 581 = gI s 581) → (b = -1 ∨ ∃ e i, TS S Z0 e ∧ Cur S b i ∧ (0 ≤ i ∧ i ≤ 48) ∧ (e = -1 ∨ (e = b ∧ i = 0)) ∧ RV s S p0.toNat) → wp (m_x1_plant_J95 p1 p2 b S) (fun q => Rg q.2 ∧ (q.1 = 0 ∨ (q.1 = 1 ∧ TS q.2 Z0 (-1) ∧ RV s q.2 p0.toNat))) := by
    intro b S hRS hES hb
    unfold m_x1_plant_J95 m_x1_plant_J115
    have hb2 : R2 b := by rcases hb with hb | ⟨_, _, _, ⟨hb, _⟩, _⟩ <;> omega
    refine wp_rg hb2 (wp_if (fun c1 => L117 FU b 0 S hRS hES (by omega) (Or.inl c1) (by have := FU_big; omega)) (fun c1 => ?_))
    rcases hb with hb | ⟨e, i, T, hC, hi, he, hV⟩
    · exact absurd hb c1
    have hC' := hC
    obtain ⟨hb, b54, b55, b56, b57⟩ := hC
    refine wp_rdIn (by omega) (fun y54 e54 => ?_)
    rw [b56] at e54
    rw [← e54]
    exact L117 FU b i S hRS hES hi (Or.inr ⟨e, T, hC', he, hV⟩) (by have := FU_big; omega)
  have J36 : ∀ (b : Int) (o : MS) (e : Int), Rg o → (gI o 581 = gI s 581 ∧ gI o 1060 = gI s 1060 ∧ gA o 60 = gA s 60) → (b = -1 ∨ ((0 ≤ b ∧ b < gI s 1060) ∧ (gA o 54 b.toNat = 1 ∧ gA o 55 b.toNat = 0) ∧ (0 ≤ gA o 56 b.toNat ∧ gA o 56 b.toNat ≤ 47) ∧ TS o (fun x => (if x = b.toNat then 1 else 0) - (if gA s 60 p0.toNat = (x : Int) then 1 else 0)) e ∧ (e = -1 ∨ (e = b ∧ gA o 56 b.toNat = 0 ∧ gA o 57 b.toNat = 0)))) → wp (m_x1_plant_J36 p0 p1 p2 b o) (fun q => Rg q.2 ∧ (q.1 = 0 ∨ (q.1 = 1 ∧ TS q.2 Z0 (-1) ∧ RV s q.2 p0.toNat))) := by
    intro b o e hRo hk hb
    obtain ⟨hEo, hNo, h60⟩ := hk
    unfold m_x1_plant_J36
    have hb2 : R2 b := by rcases hb with hb | ⟨hb, _⟩ <;> omega
    refine wp_rg hb2 (wp_if (fun c1 => wp_some ⟨hRo, Or.inl rfl⟩) (fun c1 => ?_))
    rcases hb with hb | ⟨hb, ⟨b54, b55⟩, b56, T, he⟩
    · exact absurd hb c1
    have hb48 : b.toNat < 48 := by omega
    refine wp_inb (by omega) (wp_stn (fun s67 e67 => ?_))
    have hR67 : Rg s67 := e67 ▸ Rg.uAu hRo (by show (-2 : Int) ≤ b ∧ b ≤ 253; omega)
    have g60 : gA s67 60 = upZ (gA o 60) p0.toNat b := q_AA e67
    have T1 := TG_root (v := p0.toNat) (q := b) T (by omega) (Or.inl ⟨hb.1, by show b < gI o 1060; rw [hNo]; exact hb.2⟩)
    have T2 : TS s67 Z0 e := by
      refine TS_mk (TG_D T1 (fun x hx => ?_)) (hN_eq (q_Aa e67 (by decide)) (q_Aa e67 (by decide)) (q_Aa e67 (by decide))) (kN_eq (q_Aa e67 (by decide))) (q_Ai e67) (q_Ai e67) (q_Aa e67 (by decide)) (q_Aa e67 (by decide)) g60 (q_Aa e67 (by decide))
      show (0 : Int) = (if x = b.toNat then 1 else 0) - (if gA s 60 p0.toNat = (x : Int) then 1 else 0) + (if gA o 60 p0.toNat = (x : Int) then 1 else 0) - (if b = (x : Int) then 1 else 0)
      rw [h60]
      by_cases z : x = b.toNat
      · rw [if_pos z, if_pos (show b = (x : Int) by omega)]; omega
      · rw [if_neg z, if_neg (show ¬ b = (x : Int) by omega)]; omega
    refine wp_bn (w_x1_splits hR67 (by omega)) (fun q70 e70 h70 => ?_)
    obtain ⟨t, s70⟩ := q70
    dsimp only at h70 ⊢
    obtain ⟨hR70, h70⟩ := h70
    have F70 : F_x1_splits s67 s70 := fr_x1_splits e70
    have T3 : TS s70 Z0 e := TS_eq T2 (F70.2.1 54 (by decide)) (F70.2.1 55 (by decide)) (F70.2.1 56 (by decide)) (F70.2.1 57 (by decide)) (F70.2.1 58 (by decide)) (F70.2.1 59 (by decide)) (F70.2.1 60 (by decide)) (F70.2.1 61 (by decide)) (F70.1 1060 (by decide)) (F70.1 581 (by decide))
    have g54 : gA s70 54 = gA o 54 := (F70.2.1 54 (by decide)).trans (q_Aa e67 (by decide))
    have g55 : gA s70 55 = gA o 55 := (F70.2.1 55 (by decide)).trans (q_Aa e67 (by decide))
    have g56 : gA s70 56 = gA o 56 := (F70.2.1 56 (by decide)).trans (q_Aa e67 (by decide))
    have g57 : gA s70 57 = gA o 57 := (F70.2.1 57 (by decide)).trans (q_Aa e67 (by decide))
    have k60 : gA s70 60 = upZ (gA o 60) p0.toNat b := (F70.2.1 60 (by decide)).trans g60
    have ge : gI s70 581 = gI s 581 := (F70.1 581 (by decide)).trans ((q_Ai e67).trans hEo)
    rw [show gA s67 57 = gA o 57 from q_Aa e67 (by decide), show gI s67 581 = gI o 581 from q_Ai e67, hEo] at h70
    refine wp_rg (by omega) (wp_if (fun c5 => ?_) (fun c5 => ?_))
    · exact J95 b s70 hR70 ge (Or.inr ⟨e, gA o 56 b.toNat, T3, ⟨⟨hb.1, by omega⟩, by rw [g54]; exact b54, by rw [g55]; exact b55, by rw [g56], by rw [g57, ge]; omega⟩, by omega, by omega, RV_up (S := o) (fun w _ => by rw [h60]) k60 (by omega)⟩)
    · have T4 : TS s70 Z0 (-1) := TG_ne T3 (fun p hp hpe => by
        show 1 ≤ gA s70 57 p
        rw [g57]
        have : p = b.toNat := by omega
        rw [this]; omega)
      have r60 : gA s70 60 p0.toNat = b := by rw [k60, upZ_s]
      refine wp_bn (ts_raise hR70 T4 zD (by omega) hp (by rw [r60]; omega) (by rw [r60, g54]; omega)) (fun q75 e75 h75 => ?_)
      obtain ⟨r, s75⟩ := q75
      dsimp only at h75 ⊢
      obtain ⟨hR75, F75, h75⟩ := h75
      rw [r60] at h75
      have he75 : gI s75 581 = gI s 581 := (F75.1 581 (by decide)).trans ge
      have hr2 : R2 r := by rcases h75 with h75 | ⟨_, ⟨h75, _⟩, _⟩ <;> omega
      unfold m_x1_plant_J93
      refine wp_rg hr2 (wp_if (fun c6 => J95 (-1) s75 hR75 he75 (Or.inl rfl)) (fun c6 => ?_))
      rcases h75 with h75 | ⟨T5, C5, z5, u60, st5⟩
      · exact absurd h75 c6
      have sb := st5 b.toNat hb48 (by rw [g54]; omega)
      refine wp_bn (ts_split (p0 := r) (p1 := 0) (p2 := b) (p3 := p1) (i := gA s70 56 b.toNat) hR75 T5 zD (by omega) C5 (by rw [z5]; omega) ⟨⟨hb.1, by omega⟩, by rw [sb.1, g54]; exact b54, by rw [F75.2.1 55 (by decide), g55]; exact b55, sb.2.1, by rw [sb.2.2, g57]; omega⟩ (by omega)) (fun q80 e80 h80 => ?_)
      obtain ⟨r80, s80⟩ := q80
      dsimp only at h80 ⊢
      obtain ⟨hR80, F80, h80⟩ := h80
      refine J95 r80 s80 hR80 ((F80.1 581 (by decide)).trans he75) ?_
      rcases h80 with h80 | ⟨T6, C6⟩
      · exact Or.inl h80
      · exact Or.inr ⟨-1, gA s70 56 b.toNat, T6, C6, by rw [g56]; omega, Or.inl rfl, RV_eq (RV_up (o := s75) (S := s70) (fun w hw => by rw [k60, upZ_n hw, h60]) u60 (by have := C5.1; omega)) (F80.2.1 60 (by decide))⟩
  have ro := H.2.2.2.1.1 p0.toNat (by omega)
  have r60 := hR.2.1 60 p0.toNat (by show _ < 8; omega)
  have r60' : (-2 : Int) ≤ gA s 60 p0.toNat ∧ gA s 60 p0.toNat ≤ 253 := r60
  unfold m_x1_plant
  refine wp_rdIn (by omega) (fun y81 e81 => ?_)
  refine wp_rg (by omega) (wp_if (fun c1 => ?_) (fun c1 => ?_))
  · refine wp_bn (ts_take hR H zD (by omega) (by omega) (by omega)) (fun q90 e90 h90 => ?_)
    obtain ⟨r, o⟩ := q90
    dsimp only at h90 ⊢
    obtain ⟨hRo, Fo, h90⟩ := h90
    refine J36 r o r hRo ⟨Fo.1 581 (by decide), Fo.1 1060 (by decide), Fo.2.1 60 (by decide)⟩ ?_
    rcases h90 with h90 | ⟨⟨r0, r1⟩, ⟨f1, f2⟩, ⟨u54, u56, u57⟩, T1⟩
    · exact Or.inl h90
    · refine Or.inr ⟨⟨r0, r1⟩, ⟨by rw [u54, upZ_s], by rw [Fo.2.1 55 (by decide)]; exact f2⟩, by rw [u56, upZ_s]; omega, TG_D T1 (fun x hx => ?_), Or.inr ⟨rfl, by rw [u56, upZ_s], by rw [u57, upZ_s]⟩⟩
      show (if x = r.toNat then (1 : Int) else 0) - (if gA s 60 p0.toNat = (x : Int) then 1 else 0) = 0 + (if x = r.toNat then 1 else 0)
      rw [if_neg (show ¬ gA s 60 p0.toNat = (x : Int) by omega)]; omega
  · refine wp_rdIn (by omega) (fun y84 e84 => ?_)
    have hr254 : 0 ≤ y84 ∧ y84 < 254 := by omega
    have rl := TG_root_live (v := p0.toNat) H zD (by omega) (by omega) (by omega)
    rw [e84] at rl
    have lv : 0 ≤ gA s 56 y84.toNat ∧ gA s 56 y84.toNat ≤ 47 := TG_lev H zD (by omega) rl.2
    refine wp_bn (ts_owned hR H zD' (by omega) (by omega) rl.2) (fun q87 e87 h87 => ?_)
    obtain ⟨r, o⟩ := q87
    dsimp only at h87 ⊢
    obtain ⟨hRo, Fo, h87⟩ := h87
    refine J36 r o (-1) hRo ⟨Fo.1 581 (by decide), Fo.1 1060 (by decide), Fo.2.1 60 (by decide)⟩ ?_
    rcases h87 with h87 | ⟨r0, ⟨rq, rN⟩, ⟨o54, o55⟩, ⟨o56, o57⟩, oc, oh, oq, T1⟩
    · exact Or.inl h87
    · refine Or.inr ⟨⟨r0, by omega⟩, ⟨o54, o55⟩, by rw [o56]; exact lv, TG_D T1 (fun x hx => ?_), Or.inl rfl⟩
      show (if x = r.toNat then (1 : Int) else 0) - (if gA s 60 p0.toNat = (x : Int) then 1 else 0) = 0 + (if x = r.toNat then 1 else 0) - (if x = y84.toNat then 1 else 0)
      rw [e84]
      by_cases z : x = y84.toNat
      · rw [if_pos z, if_pos (show y84 = (x : Int) by omega)]; omega
      · rw [if_neg z, if_neg (show ¬ y84 = (x : Int) by omega)]; omega
theorem ts_plant {p0 p1 p2 : Int} {s : MS} (hR : Rg s) (H : TS s Z0 (-1)) (hE : 3 ≤ gI s 581) (hp : 0 ≤ p0 ∧ p0 < 8) (hv : gA s 60 p0.toNat ≠ -2) (h1 : 0 ≤ p1 ∧ p1 ≤ 999) (h2 : 0 ≤ p2 ∧ p2 ≤ 999) : wp (m_x1_plant p0 p1 p2 s) (fun q => Rg q.2 ∧ F_x1_plant s q.2 ∧ (q.1 = 0 ∨ (q.1 = 1 ∧ TS q.2 Z0 (-1) ∧ RV s q.2 p0.toNat))) := wp_eq (ts_plant0 hR H hE hp hv h1 h2) (fun q eq hq => ⟨hq.1, fr_x1_plant eq, hq.2⟩)
