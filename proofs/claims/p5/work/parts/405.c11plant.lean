/-! ===== entries of the class's blocks ===== -/
theorem ts_set {p0 p1 p2 : Int} {s : MS} {D : Nat → Int} {e : Int} (hR : Rg s) (H : TS s D e) (hb : 0 ≤ p0 ∧ p0 < 48) (hc : 0 < gA s 54 p0.toNat) (hsv : gA s 55 p0.toNat ≤ 0) (hk : 0 ≤ p1 ∧ p1 < gA s 57 p0.toNat) (hv : 0 < gA s 56 p0.toNat → (0 ≤ p2 ∧ p2 < gI s 1060) ∧ gA s 56 p2.toNat = gA s 56 p0.toNat - 1) (hv2 : (-257) ≤ p2 ∧ p2 ≤ 65535) : wp (m_x8_set p0 p1 p2 s) (fun o => Rg o ∧ F_x8_set s o ∧ gA o 59 = upZ (gA s 59) (6 * p0.toNat + p1.toNat) p2 ∧ TS o (fun x => D x + (if 0 < gA s 56 p0.toNat ∧ gA s 59 (6 * p0.toNat + p1.toNat) = (x : Int) then 1 else 0) - (if 0 < gA s 56 p0.toNat ∧ p2 = (x : Int) then 1 else 0)) e) := by
  have hb48 : p0.toNat < 48 := by omega
  have nd := TG_nd H hb48 hc
  have n6 : 0 ≤ gA s 57 p0.toNat ∧ gA s 57 p0.toNat ≤ 6 := nd.2.1
  refine wp_eq (w_x8_set hR hb (by omega) hv2) (fun o eo ho => ?_)
  obtain ⟨hRo, u59⟩ := ho
  have F : F_x8_set s o := fr_x8_set eo
  refine ⟨hRo, F, u59, ?_⟩
  have u56 : gA o 56 = gA s 56 := F.2.1 56 (by decide)
  have u57 : gA o 57 = gA s 57 := F.2.1 57 (by decide)
  have u58 : gA o 58 = gA s 58 := F.2.1 58 (by decide)
  have hS : SBk (hN s) (hN o) (kN s) (kN o) p0.toNat := SBk_c (fun q hq hn => by rw [u56]) (fun q hq hn => by rw [u57]) (fun q hq hn k hk => by rw [u58]) (fun q hq hn k hk => by rw [u59, upZ_n (by omega)])
  have T := TG_set (h' := hN o) (ky' := kN o) (k := p1.toNat) (v := p2) H hb48 hsv hc hS (by show gA o 56 p0.toNat = _; rw [u56]; rfl) (by show gA o 57 p0.toNat = _; rw [u57]; rfl) (by show ((p1.toNat : Nat) : Int) < gA s 57 p0.toNat; omega) (fun j hj hn => by show gA o 59 (6 * p0.toNat + j) = gA s 59 (6 * p0.toNat + j); rw [u59, upZ_n (by omega)]) (by show gA o 59 (6 * p0.toNat + p1.toNat) = p2; rw [u59, upZ_s]) (fun j hj => by show gA o 58 (6 * p0.toNat + j) = gA s 58 (6 * p0.toNat + j); rw [u58]) hv
  exact TS_mk T rfl rfl (F.1 1060 (by decide)) (F.1 581 (by decide)) (F.2.1 54 (by decide)) (F.2.1 55 (by decide)) (F.2.1 60 (by decide)) (F.2.1 61 (by decide))
theorem ts_insert {p0 p1 p2 p3 : Int} {s : MS} {D : Nat → Int} {e : Int} (hR : Rg s) (H : TS s D e) (hb : 0 ≤ p0 ∧ p0 < 48) (hc : 0 < gA s 54 p0.toNat) (hsv : gA s 55 p0.toNat ≤ 0) (hz : gA s 57 p0.toNat ≤ 5 ∧ gA s 57 p0.toNat + 1 ≤ gI s 581) (hk : 0 ≤ p1 ∧ p1 ≤ gA s 57 p0.toNat) (hke : 0 ≤ p2 ∧ p2 ≤ 999) (hv : 0 < gA s 56 p0.toNat → (0 ≤ p3 ∧ p3 < gI s 1060) ∧ gA s 56 p3.toNat = gA s 56 p0.toNat - 1) (hv2 : (-257) ≤ p3 ∧ p3 ≤ 65535) (he : e = -1 ∨ e = p0) : wp (m_x8_insert p0 p1 p2 p3 s) (fun o => Rg o ∧ F_x8_insert s o ∧ gA o 57 = upZ (gA s 57) p0.toNat (gA s 57 p0.toNat + 1) ∧ (∀ q, q < 48 → q ≠ p0.toNat → ∀ k, k < 6 → gA o 58 (6 * q + k) = gA s 58 (6 * q + k) ∧ gA o 59 (6 * q + k) = gA s 59 (6 * q + k)) ∧ TS o (fun x => D x - (if 0 < gA s 56 p0.toNat ∧ p3 = (x : Int) then 1 else 0)) (-1)) := by
  have hb48 : p0.toNat < 48 := by omega
  have nd := TG_nd H hb48 hc
  have n6 : 0 ≤ gA s 57 p0.toNat ∧ gA s 57 p0.toNat ≤ 6 := nd.2.1
  refine wp_eq (w_x8_insert hR hb (by omega) (by omega) hv2) (fun o eo ho => ?_)
  obtain ⟨hRo, u57, i58, i59⟩ := ho
  have F : F_x8_insert s o := fr_x8_insert eo
  have oth : ∀ q, q < 48 → q ≠ p0.toNat → ∀ k, k < 6 → gA o 58 (6 * q + k) = gA s 58 (6 * q + k) ∧ gA o 59 (6 * q + k) = gA s 59 (6 * q + k) := fun q hq hn k hk => ⟨i58.1 _ (by omega), i59.1 _ (by omega)⟩
  refine ⟨hRo, F, u57, oth, ?_⟩
  have u56 : gA o 56 = gA s 56 := F.2.1 56 (by decide)
  have hS : SBk (hN s) (hN o) (kN s) (kN o) p0.toNat := SBk_c (fun q hq hn => by rw [u56]) (fun q hq hn => by rw [u57, upZ_n hn]) (fun q hq hn k hk => (oth q hq hn k hk).1) (fun q hq hn k hk => (oth q hq hn k hk).2)
  have T := TG_ins (h' := hN o) (ky' := kN o) (k := p1.toNat) (v := p3) (ke := p2) H hb48 hsv hc hS (by show gA o 56 p0.toNat = _; rw [u56]; rfl) hz.1 hz.2 (by show gA o 57 p0.toNat = gA s 57 p0.toNat + 1; rw [u57, upZ_s]) (by show ((p1.toNat : Nat) : Int) ≤ gA s 57 p0.toNat; omega) (fun j hj => ⟨i59.1 _ (by omega), i58.1 _ (by omega)⟩) ⟨i59.2.1, i58.2.1⟩ (fun j hj hn => by
    have hn' : (j : Int) < gA s 57 p0.toNat := hn
    exact ⟨i59.2.2 j hj (by omega), i58.2.2 j hj (by omega)⟩) hv hke (he.imp id (fun w => by omega))
  exact TS_mk T rfl rfl (F.1 1060 (by decide)) (F.1 581 (by decide)) (F.2.1 54 (by decide)) (F.2.1 55 (by decide)) (F.2.1 60 (by decide)) (F.2.1 61 (by decide))
theorem ts_delete {p0 p1 : Int} {s : MS} {D : Nat → Int} (hR : Rg s) (H : TS s D (-1)) (hb : 0 ≤ p0 ∧ p0 < 48) (hc : 0 < gA s 54 p0.toNat) (hsv : gA s 55 p0.toNat ≤ 0) (hk : 0 ≤ p1 ∧ p1 < gA s 57 p0.toNat) : wp (m_x8_delete p0 p1 s) (fun o => Rg o ∧ F_x8_delete s o ∧ gA o 57 = upZ (gA s 57) p0.toNat (gA s 57 p0.toNat - 1) ∧ (∀ q, q < 48 → q ≠ p0.toNat → ∀ k, k < 6 → gA o 58 (6 * q + k) = gA s 58 (6 * q + k) ∧ gA o 59 (6 * q + k) = gA s 59 (6 * q + k)) ∧ TS o (fun x => D x + (if 0 < gA s 56 p0.toNat ∧ gA s 59 (6 * p0.toNat + p1.toNat) = (x : Int) then 1 else 0)) p0) := by
  have hb48 : p0.toNat < 48 := by omega
  have nd := TG_nd H hb48 hc
  have n6 : 0 ≤ gA s 57 p0.toNat ∧ gA s 57 p0.toNat ≤ 6 := nd.2.1
  refine wp_eq (w_x8_delete hR hb (by omega)) (fun o eo ho => ?_)
  obtain ⟨hRo, u57, i58, i59⟩ := ho
  have F : F_x8_delete s o := fr_x8_delete eo
  have oth : ∀ q, q < 48 → q ≠ p0.toNat → ∀ k, k < 6 → gA o 58 (6 * q + k) = gA s 58 (6 * q + k) ∧ gA o 59 (6 * q + k) = gA s 59 (6 * q + k) := fun q hq hn k hk => ⟨i58.1 _ (by omega), i59.1 _ (by omega)⟩
  refine ⟨hRo, F, u57, oth, ?_⟩
  have u56 : gA o 56 = gA s 56 := F.2.1 56 (by decide)
  have hS : SBk (hN s) (hN o) (kN s) (kN o) p0.toNat := SBk_c (fun q hq hn => by rw [u56]) (fun q hq hn => by rw [u57, upZ_n hn]) (fun q hq hn k hk => (oth q hq hn k hk).1) (fun q hq hn k hk => (oth q hq hn k hk).2)
  have T := TG_del (h' := hN o) (ky' := kN o) (k := p1.toNat) H hb48 hsv hc hS (by show gA o 56 p0.toNat = _; rw [u56]; rfl) (by show gA o 57 p0.toNat = gA s 57 p0.toNat - 1; rw [u57, upZ_s]) (by show ((p1.toNat : Nat) : Int) < gA s 57 p0.toNat; omega) (fun j hj => ⟨i59.1 _ (by omega), i58.1 _ (by omega)⟩) (fun j hj hn => by
    have hn' : (j : Int) < gA s 57 p0.toNat - 1 := hn
    exact ⟨i59.2 j hj (by omega), i58.2 j hj (by omega)⟩)
  rw [show ((p0.toNat : Nat) : Int) = p0 by omega] at T
  exact TS_mk T rfl rfl (F.1 1060 (by decide)) (F.1 581 (by decide)) (F.2.1 54 (by decide)) (F.2.1 55 (by decide)) (F.2.1 60 (by decide)) (F.2.1 61 (by decide))
/-- a block that may be changed, with room -/
def Cur (s : MS) (b : Int) (i : Int) : Prop := (0 ≤ b ∧ b < 48) ∧ gA s 54 b.toNat = 1 ∧ gA s 55 b.toNat = 0 ∧ gA s 56 b.toNat = i ∧ gA s 57 b.toNat < gI s 581
theorem two_b {z E : Int} (h0 : 2 ≤ z) (h6 : z ≤ 6) (hE : z ≤ E) : (1 ≤ Int.tdiv z 2 ∧ Int.tdiv z 2 < E) ∧ 1 ≤ z - Int.tdiv z 2 ∧ z - Int.tdiv z 2 < E ∧ z - Int.tdiv z 2 ≤ z := by
  rw [Int.tdiv_eq_ediv_of_nonneg (by omega)]
  omega
set_option maxHeartbeats 1000000 in
theorem ts_split0 {p0 p1 p2 p3 : Int} {s : MS} {D : Nat → Int} {i : Int} (hR : Rg s) (H : TS s D (-1)) (hD : ∀ x, x < 48 → 0 ≤ D x) (hE : 3 ≤ gI s 581) (hA : Cur s p0 (i + 1)) (hk : 0 ≤ p1 ∧ p1 < gA s 57 p0.toNat) (hB : (0 ≤ p2 ∧ p2 < 48) ∧ gA s 54 p2.toNat = 1 ∧ gA s 55 p2.toNat = 0 ∧ gA s 56 p2.toNat = i ∧ 2 ≤ gA s 57 p2.toNat) (h3 : R2 p3) : wp (m_x1_split p0 p1 p2 p3 s) (fun q => Rg q.2 ∧ (q.1 = -1 ∨ (TS q.2 D (-1) ∧ Cur q.2 q.1 i))) := by
  obtain ⟨ha, a54, a55, a56, a57⟩ := hA
  obtain ⟨hb, b54, b55, b56, b57⟩ := hB
  have hN48 : gI s 1060 ≤ 48 := H.1.1
  have hE6 : gI s 581 ≤ 6 := (hR.1 581).2
  have ha48 : p0.toNat < 48 := by omega
  have hb48 : p2.toNat < 48 := by omega
  have nd := TG_nd H hb48 (by omega)
  have n6 : 0 ≤ gA s 57 p2.toNat ∧ gA s 57 p2.toNat ≤ 6 := nd.2.1
  have nE : gA s 57 p2.toNat ≤ gI s 581 := (H.2.2.2.2 p2.toNat hb48 (Or.inl (by omega))).1
  have lv : 0 ≤ gA s 56 p2.toNat ∧ gA s 56 p2.toNat ≤ 47 := TG_lev H hD hb48 (by omega)
  have tb := two_b b57 n6.2 nE
  have hab : p0.toNat ≠ p2.toNat := fun q => by rw [q] at a56; omega
  unfold m_x1_split
  refine wp_rdIn (by omega) (fun y3 e3 => ?_)
  refine wp_bn (ts_take hR H hD (by omega) (by omega) (by omega)) (fun q6 e6 h6 => ?_)
  obtain ⟨r, o⟩ := q6
  dsimp only at h6 ⊢
  obtain ⟨hRo, Fo, h6⟩ := h6
  have hr2 : R2 r := by rcases h6 with h6 | ⟨h6, _⟩ <;> omega
  refine wp_rg hr2 (wp_if (fun c1 => wp_some ⟨hRo, Or.inl rfl⟩) (fun c1 => ?_))
  rcases h6 with h6 | ⟨⟨r0, r1⟩, ⟨f1, f2⟩, ⟨u54, u56, u57⟩, T1⟩
  · exact absurd h6 c1
  have hq48 : r.toNat < 48 := by omega
  have nqa : p0.toNat ≠ r.toNat := fun q => by rw [q] at a54; omega
  have nqb : p2.toNat ≠ r.toNat := fun q => by rw [q] at b54; omega
  have o55 : gA o 55 = gA s 55 := Fo.2.1 55 (by decide)
  have o58 : gA o 58 = gA s 58 := Fo.2.1 58 (by decide)
  have o59 : gA o 59 = gA s 59 := Fo.2.1 59 (by decide)
  have on : gI o 1060 = gI s 1060 := Fo.1 1060 (by decide)
  have oe : gI o 581 = gI s 581 := Fo.1 581 (by decide)
  have o57b : gA o 57 p2.toNat = gA s 57 p2.toNat := by rw [u57, upZ_n nqb]
  refine wp_rdIn (by omega) (fun y9 e9 => ?_)
  refine wp_rdIn (by omega) (fun y10 e10 => ?_)
  rw [o57b] at e9 e10
  have e10' : y10 = y9 := by rw [← e10, ← e9]
  rw [e10']
  rw [e9] at tb b57 n6 nE
  refine wp_dv (by omega) ?_
  obtain ⟨⟨t1, t2⟩, t3, t4, t5⟩ := tb
  generalize hst : y9 - Int.tdiv y9 2 = st at t3 t4 t5 ⊢
  have o57b' : gA o 57 p2.toNat = y9 := by rw [o57b]; exact e9
  refine wp_bn (w_x1_layEntries hRo hb (by omega) (by omega)) (fun s13 e13 h13 => ?_)
  obtain ⟨hR13, v57, v58, v59⟩ := h13
  have F13 : F_x1_layEntries o s13 := fr_x1_layEntries e13
  rw [o57b'] at v57 v58 v59
  have w54 : gA s13 54 = gA o 54 := F13.2.1 54 (by decide)
  have w55 : gA s13 55 = gA o 55 := F13.2.1 55 (by decide)
  have w56 : gA s13 56 = gA o 56 := F13.2.1 56 (by decide)
  have w60 : gA s13 60 = gA o 60 := F13.2.1 60 (by decide)
  have w61 : gA s13 61 = gA o 61 := F13.2.1 61 (by decide)
  have wn : gI s13 1060 = gI o 1060 := F13.1 1060 (by decide)
  have we : gI s13 581 = gI o 581 := F13.1 581 (by decide)
  have x57q : gA s13 57 r.toNat = y9 - st := by rw [v57, upZ_s]
  have x57b : gA s13 57 p2.toNat = y9 := by rw [v57, upZ_n nqb]; exact o57b'
  have x59 : ∀ k : Nat, (k : Int) < y9 - st → gA s13 59 (6 * r.toNat + k) = gA s 59 (6 * p2.toNat + (st.toNat + k)) := fun k hk => by rw [v59, cpy_i (by omega), o59, Nat.add_assoc]
  have x58 : ∀ k : Nat, (k : Int) < y9 - st → gA s13 58 (6 * r.toNat + k) = gA s 58 (6 * p2.toNat + (st.toNat + k)) := fun k hk => by rw [v58, cpy_i (by omega), o58, Nat.add_assoc]
  have hS : SBk (hN o) (hN s13) (kN o) (kN s13) r.toNat := SBk_c (fun q hq hn => by rw [w56]) (fun q hq hn => by rw [v57, upZ_n hn]) (fun q hq hn k hk => by rw [v58, cpy_o hn hk (by omega)]) (fun q hq hn k hk => by rw [v59, cpy_o hn hk (by omega)])
  have T1' : TG (hN o) (kN o) (gI o 1060) (gI o 581) (gA o 54) (gA o 55) (gA o 60) (gA o 61) (fun x => D x + (if x = r.toNat then 1 else 0)) ((r.toNat : Nat) : Int) := by
    rw [show ((r.toNat : Nat) : Int) = r by omega]; exact T1
  have T2 := TG_fill (h' := hN s13) (ky' := kN s13) (b := p2.toNat) T1' hb48 (by rw [u54, upZ_n nqb]; omega) hq48 (by rw [o55, f2]; omega) (by rw [u54, upZ_s]; omega) hS (by show gA s13 56 r.toNat = gA o 56 r.toNat; rw [w56]) (by show gA o 56 r.toNat = gA o 56 p2.toNat; rw [u56, upZ_s, upZ_n nqb, e3]) (by show gA o 57 r.toNat = 0; rw [u57, upZ_s]) (by show 1 ≤ gA s13 57 r.toNat ∧ gA s13 57 r.toNat ≤ gA o 57 p2.toNat; rw [x57q, o57b']; omega) (fun j hj => by
    have hj' : (j : Int) < gA s13 57 r.toNat := hj
    rw [x57q] at hj'
    refine ⟨st.toNat + j, ?_, ?_, ?_⟩
    · show ((st.toNat + j : Nat) : Int) < gA o 57 p2.toNat
      rw [o57b']; omega
    · show gA s13 59 (6 * r.toNat + j) = gA o 59 (6 * p2.toNat + (st.toNat + j))
      rw [x59 j hj', o59]
    · show gA s13 58 (6 * r.toNat + j) = gA o 58 (6 * p2.toNat + (st.toNat + j))
      rw [x58 j hj', o58])
  have T2s : TS s13 (fun x => D x + (if x = r.toNat then 1 else 0) - en (hN s13) r.toNat (x : Int)) (-1) := TS_mk T2 rfl rfl wn we w54 w55 w60 w61
  refine wp_inb (by omega) (wp_stn (fun s15 e15 => ?_))
  have hR15 : Rg s15 := e15 ▸ Rg.uAu hR13 (by show (-1 : Int) ≤ st ∧ st ≤ 255; omega)
  have z57 : gA s15 57 = upZ (gA s13 57) p2.toNat st := q_AA e15
  have z56 : gA s15 56 = gA s13 56 := q_Aa e15 (by decide)
  have z58 : gA s15 58 = gA s13 58 := q_Aa e15 (by decide)
  have z59 : gA s15 59 = gA s13 59 := q_Aa e15 (by decide)
  have z54 : gA s15 54 = gA s13 54 := q_Aa e15 (by decide)
  have z55 : gA s15 55 = gA s13 55 := q_Aa e15 (by decide)
  have hS2 : SBk (hN s13) (hN s15) (kN s13) (kN s15) p2.toNat := SBk_c (fun q hq hn => by rw [z56]) (fun q hq hn => by rw [z57, upZ_n hn]) (fun q hq hn k hk => by rw [z58]) (fun q hq hn k hk => by rw [z59])
  have T3 := TG_cut (h' := hN s15) (ky' := kN s15) (b := p2.toNat) T2s hb48 (by rw [w55, o55, b55]; omega) (by rw [w54, u54, upZ_n nqb, b54]; omega) hS2 (by show gA s15 56 p2.toNat = gA s13 56 p2.toNat; rw [z56]) (by show 1 ≤ gA s15 57 p2.toNat ∧ gA s15 57 p2.toNat ≤ gA s13 57 p2.toNat; rw [z57, upZ_s, x57b]; omega) (fun j hj => ⟨by show gA s15 59 _ = gA s13 59 _; rw [z59], by show gA s15 58 _ = gA s13 58 _; rw [z58]⟩)
  have ent : ∀ x : Nat, en (hN s13) p2.toNat (x : Int) - en (hN s15) p2.toNat (x : Int) = en (hN s13) r.toNat (x : Int) := fun x => by
    have e1 := en_two (h := hN s13) (h' := hN s15) (b := p2.toNat) (q := r.toNat) (a := st) (x := (x : Int)) (by show gA s15 56 p2.toNat = gA s13 56 p2.toNat; rw [z56]) (by show gA s15 56 r.toNat = gA s13 56 p2.toNat; rw [z56, w56, u56, upZ_s, upZ_n nqb, e3]) (by show 0 ≤ st ∧ st ≤ gA s13 57 p2.toNat ∧ gA s13 57 p2.toNat ≤ 6; rw [x57b]; omega) (by show gA s15 57 p2.toNat = st; rw [z57, upZ_s]) (by show gA s15 57 r.toNat = gA s13 57 p2.toNat - st; rw [z57, upZ_n (fun w => nqb w.symm), x57q, x57b]) (fun j hj => by show gA s15 59 _ = gA s13 59 _; rw [z59]) (fun j hj => by
      have hj' : (j : Int) < gA s13 57 p2.toNat - st := hj
      rw [x57b] at hj'
      show gA s15 59 (6 * r.toNat + j) = gA s13 59 (6 * p2.toNat + (st.toNat + j))
      rw [z59, x59 j hj', v59, cpy_o nqb (by omega) (by omega), o59])
    have e2 : en (hN s15) r.toNat (x : Int) = en (hN s13) r.toNat (x : Int) := SBk_en hS2 hq48 (fun w => nqb w.symm)
    omega
  have T4 : TS s15 (fun x => D x + (if x = r.toNat then 1 else 0)) (-1) := by
    refine TS_mk (TG_D T3 (fun x hx => ?_)) rfl rfl (q_Ai e15) (q_Ai e15) z54 z55 (q_Aa e15 (by decide)) (q_Aa e15 (by decide))
    have := ent x
    show D x + (if x = r.toNat then 1 else 0) = D x + (if x = r.toNat then 1 else 0) - en (hN s13) r.toNat (x : Int) + en (hN s13) p2.toNat (x : Int) - en (hN s15) p2.toNat (x : Int)
    omega
  refine wp_bn (w_x8_mark hR15 (by omega)) (fun s17 e17 h17 => ?_)
  have hR17 : Rg s17 := h17
  have F17 : F_x8_mark s15 s17 := fr_x8_mark e17
  have m54 : gA s17 54 = gA s15 54 := F17.2.1 54 (by decide)
  have m55 : gA s17 55 = gA s15 55 := F17.2.1 55 (by decide)
  have m56 : gA s17 56 = gA s15 56 := F17.2.1 56 (by decide)
  have m57 : gA s17 57 = gA s15 57 := F17.2.1 57 (by decide)
  have m58 : gA s17 58 = gA s15 58 := F17.2.1 58 (by decide)
  have m59 : gA s17 59 = gA s15 59 := F17.2.1 59 (by decide)
  have mn : gI s17 1060 = gI s15 1060 := F17.1 1060 (by decide)
  have me : gI s17 581 = gI s15 581 := F17.1 581 (by decide)
  have T5 : TS s17 (fun x => D x + (if x = r.toNat then 1 else 0)) (-1) := TS_eq T4 m54 m55 m56 m57 m58 m59 (F17.2.1 60 (by decide)) (F17.2.1 61 (by decide)) mn me
  refine wp_bn w_slot (fun r19 _ h19 => ?_)
  refine wp_rdIn (by omega) (fun y20 e20 => ?_)
  have q54 : gA s17 54 r.toNat = 1 := by rw [m54, z54, w54, u54, upZ_s]
  have q55 : gA s17 55 r.toNat = 0 := by rw [m55, z55, w55, o55]; exact f2
  have q57 : gA s17 57 r.toNat = y9 - st := by rw [m57, z57, upZ_n (fun w => nqb w.symm), x57q]
  have q56 : gA s17 56 r.toNat = i := by rw [m56, z56, w56, u56, upZ_s, ← e3]; exact b56
  have ky20 := (T5.2.2.2.2 r.toNat hq48 (Or.inl (by show 0 < gA s17 54 r.toNat; omega))).2 0 (by show ((0 : Nat) : Int) < gA s17 57 r.toNat; omega)
  have ky20' : 0 ≤ gA s17 58 (6 * r.toNat + 0) ∧ gA s17 58 (6 * r.toNat + 0) ≤ 999 := ky20
  rw [show 6 * r.toNat + 0 = r19.toNat by omega, e20] at ky20'
  have sE : gI s17 581 = gI s 581 := by rw [me, q_Ai e15, we, oe]
  have sN : gI s17 1060 = gI s 1060 := by rw [mn, q_Ai e15, wn, on]
  have aa54 : gA s17 54 p0.toNat = 1 := by rw [m54, z54, w54, u54, upZ_n nqa]; exact a54
  have aa55 : gA s17 55 p0.toNat = 0 := by rw [m55, z55, w55, o55]; exact a55
  have aa56 : gA s17 56 p0.toNat = i + 1 := by rw [m56, z56, w56, u56, upZ_n nqa]; exact a56
  have aa57 : gA s17 57 p0.toNat = gA s 57 p0.toNat := by rw [m57, z57, upZ_n hab, v57, upZ_n nqa, u57, upZ_n nqa]
  refine wp_bn (ts_insert (p0 := p0) (p1 := p1 + 1) (p2 := y20) (p3 := r) hR17 T5 ha (by omega) (by omega) (by rw [aa57, sE]; omega) (by rw [aa57]; omega) ky20' (fun _ => ⟨by rw [sN]; omega, by rw [q56, aa56]; omega⟩) (by omega) (Or.inl rfl)) (fun s22 e22 h22 => ?_)
  obtain ⟨hR22, F22, n57, noth, T6⟩ := h22
  have T7 : TS s22 D (-1) := by
    refine TG_D T6 (fun x hx => ?_)
    show D x = D x + (if x = r.toNat then 1 else 0) - (if 0 < gA s17 56 p0.toNat ∧ r = (x : Int) then 1 else 0)
    by_cases z : x = r.toNat
    · rw [if_pos z, if_pos ⟨by omega, by omega⟩]; omega
    · rw [if_neg z, if_neg (fun w => z (by omega))]; omega
  have f54 : gA s22 54 = gA s17 54 := F22.2.1 54 (by decide)
  have f55 : gA s22 55 = gA s17 55 := F22.2.1 55 (by decide)
  have f56 : gA s22 56 = gA s17 56 := F22.2.1 56 (by decide)
  have fe : gI s22 581 = gI s17 581 := F22.1 581 (by decide)
  refine wp_rg (by omega) (wp_rg h3 (wp_if (fun c5 => ?_) (fun c5 => ?_)))
  · refine wp_some ⟨hR22, Or.inr ⟨T7, hb, ?_, ?_, ?_, ?_⟩⟩
    · show gA s22 54 p2.toNat = 1
      rw [f54, m54, z54, w54, u54, upZ_n nqb]; exact b54
    · show gA s22 55 p2.toNat = 0
      rw [f55, m55, z55, w55, o55]; exact b55
    · show gA s22 56 p2.toNat = i
      rw [f56, m56, z56, w56, u56, upZ_n nqb]; exact b56
    · show gA s22 57 p2.toNat < gI s22 581
      rw [n57, upZ_n (fun w => hab w.symm), fe, sE, m57, z57, upZ_s]; exact t4
  · refine wp_some ⟨hR22, Or.inr ⟨T7, ⟨r0, by omega⟩, ?_, ?_, ?_, ?_⟩⟩
    · show gA s22 54 r.toNat = 1
      rw [f54]; exact q54
    · show gA s22 55 r.toNat = 0
      rw [f55]; exact q55
    · show gA s22 56 r.toNat = i
      rw [f56]; exact q56
    · show gA s22 57 r.toNat < gI s22 581
      rw [n57, upZ_n (fun w => nqa w.symm), fe, sE, q57]; omega
theorem ts_split {p0 p1 p2 p3 : Int} {s : MS} {D : Nat → Int} {i : Int} (hR : Rg s) (H : TS s D (-1)) (hD : ∀ x, x < 48 → 0 ≤ D x) (hE : 3 ≤ gI s 581) (hA : Cur s p0 (i + 1)) (hk : 0 ≤ p1 ∧ p1 < gA s 57 p0.toNat) (hB : (0 ≤ p2 ∧ p2 < 48) ∧ gA s 54 p2.toNat = 1 ∧ gA s 55 p2.toNat = 0 ∧ gA s 56 p2.toNat = i ∧ 2 ≤ gA s 57 p2.toNat) (h3 : R2 p3) : wp (m_x1_split p0 p1 p2 p3 s) (fun q => Rg q.2 ∧ F_x1_split s q.2 ∧ (q.1 = -1 ∨ (TS q.2 D (-1) ∧ Cur q.2 q.1 i))) := wp_eq (ts_split0 hR H hD hE hA hk hB h3) (fun q eq hq => ⟨hq.1, fr_x1_split eq, hq.2⟩)
