/-! ===== the class's trees ===== -/
theorem en_le (h : SH) (p : Nat) (x : Int) : en h p x ≤ 6 := by
  unfold en enf
  split
  · have := sm_bd (n := 6) (c := 1) (f := fun k : Nat => if (0 : Int) ≤ (k : Int) ∧ (k : Int) < h.2.1 p ∧ h.2.2 p k = x then (1 : Int) else 0) (fun k _ => by split <;> omega)
    omega
  · omega
theorem rf_le (h : SH) (c r : Nat → Int) (x : Int) : rf h c r x ≤ 296 := by
  have h1 := sm_bd (n := 8) (c := 1) (f := fun v : Nat => if r v = x then (1 : Int) else 0) (fun k _ => by split <;> omega)
  have h2 := sm_bd (n := 48) (c := 6) (f := fun p : Nat => if 0 < c p then en h p x else 0) (fun p _ => by
    split
    · exact en_le h p x
    · omega)
  unfold rf rr
  omega
theorem TG_cb {h : SH} {ky : Nat → Nat → Int} {N E : Int} {c sv r rs D : Nat → Int} {e : Int} {x : Nat} (H : TG h ky N E c sv r rs D e) (hx : x < 48) : c x ≤ D x + 296 := by
  have h1 := H.2.1.1 x hx
  have h2 := rf_le h c r (x : Int)
  unfold df at h1
  omega
def kN (s : MS) : Nat → Nat → Int := fun p k => gA s 58 (6 * p + k)
def TS (s : MS) (D : Nat → Int) (e : Int) : Prop := TG (hN s) (kN s) (gI s 1060) (gI s 581) (gA s 54) (gA s 55) (gA s 60) (gA s 61) D e
theorem TS_mk {o : MS} {h : SH} {ky : Nat → Nat → Int} {N E : Int} {c sv r rs D : Nat → Int} {e : Int} (T : TG h ky N E c sv r rs D e) (a1 : hN o = h) (a2 : kN o = ky) (a3 : gI o 1060 = N) (a4 : gI o 581 = E) (a5 : gA o 54 = c) (a6 : gA o 55 = sv) (a7 : gA o 60 = r) (a8 : gA o 61 = rs) : TS o D e := by
  subst a1 a2 a3 a4 a5 a6 a7 a8
  exact T
theorem kN_eq {s o : MS} (h1 : gA o 58 = gA s 58) : kN o = kN s := by
  unfold kN
  rw [h1]
theorem TS_eq {s o : MS} {D : Nat → Int} {e : Int} (H : TS s D e) (h54 : gA o 54 = gA s 54) (h55 : gA o 55 = gA s 55) (h56 : gA o 56 = gA s 56) (h57 : gA o 57 = gA s 57) (h58 : gA o 58 = gA s 58) (h59 : gA o 59 = gA s 59) (h60 : gA o 60 = gA s 60) (h61 : gA o 61 = gA s 61) (hn : gI o 1060 = gI s 1060) (he : gI o 581 = gI s 581) : TS o D e := TS_mk H (hN_eq h56 h57 h59) (kN_eq h58) hn he h54 h55 h60 h61
theorem SBk_c {s o : MS} {b : Nat} (h56 : ∀ q, q < 48 → q ≠ b → gA o 56 q = gA s 56 q) (h57 : ∀ q, q < 48 → q ≠ b → gA o 57 q = gA s 57 q) (h58 : ∀ q, q < 48 → q ≠ b → ∀ k, k < 6 → gA o 58 (6 * q + k) = gA s 58 (6 * q + k)) (h59 : ∀ q, q < 48 → q ≠ b → ∀ k, k < 6 → gA o 59 (6 * q + k) = gA s 59 (6 * q + k)) : SBk (hN s) (hN o) (kN s) (kN o) b := fun q hq hn => ⟨h56 q hq hn, h57 q hq hn, fun k hk => ⟨h59 q hq hn k hk, h58 q hq hn k hk⟩⟩
theorem ts_take {p0 p1 : Int} {s : MS} {D : Nat → Int} (hR : Rg s) (H : TS s D (-1)) (hD : ∀ x, x < 48 → 0 ≤ D x) (hE : 0 ≤ gI s 581) (h0 : 0 ≤ p0 ∧ p0 ≤ 1000) (h1 : (-1000000) ≤ p1 ∧ p1 ≤ 1000000) : wp (m_x1_take p0 p1 s) (fun q => Rg q.2 ∧ F_x1_take s q.2 ∧ (q.1 = -1 ∨ ((0 ≤ q.1 ∧ q.1 < gI s 1060) ∧ (gA s 54 q.1.toNat = 0 ∧ gA s 55 q.1.toNat = 0) ∧ (gA q.2 54 = upZ (gA s 54) q.1.toNat 1 ∧ gA q.2 56 = upZ (gA s 56) q.1.toNat p0 ∧ gA q.2 57 = upZ (gA s 57) q.1.toNat 0) ∧ TS q.2 (fun x => D x + (if x = q.1.toNat then 1 else 0)) q.1))) := by
  refine wp_eq (w_x1_take hR h0 h1) (fun q eq hq => ?_)
  obtain ⟨r, o⟩ := q
  have F : F_x1_take s o := fr_x1_take eq
  dsimp only at hq ⊢
  obtain ⟨hRo, a1, a2⟩ := hq
  refine ⟨hRo, F, ?_⟩
  rcases a1 with a1 | ⟨b0, b1, b2, b3⟩
  · exact Or.inl a1
  · obtain ⟨c1, c2, c3⟩ := a2 (by omega)
    have hN48 : gI s 1060 ≤ 48 := H.1.1
    refine Or.inr ⟨⟨b0, b1⟩, ⟨b2, b3⟩, ⟨c1, c2, c3⟩, ?_⟩
    have k55 : gA o 55 = gA s 55 := F.2.1 55 (by decide)
    have k58 : gA o 58 = gA s 58 := F.2.1 58 (by decide)
    have k59 : gA o 59 = gA s 59 := F.2.1 59 (by decide)
    have k60 : gA o 60 = gA s 60 := F.2.1 60 (by decide)
    have k61 : gA o 61 = gA s 61 := F.2.1 61 (by decide)
    have kn : gI o 1060 = gI s 1060 := F.1 1060 (by decide)
    have ke : gI o 581 = gI s 581 := F.1 581 (by decide)
    have hS : SBk (hN s) (hN o) (kN s) (kN o) r.toNat := SBk_c (fun q hq hn => by rw [c2, upZ_n hn]) (fun q hq hn => by rw [c3, upZ_n hn]) (fun q hq hn k hk => by rw [k58]) (fun q hq hn k hk => by rw [k59])
    have T := TG_take (h' := hN o) (ky' := kN o) H (hD r.toNat (by omega)) hE (by omega) b2 b3 hS (by show 0 ≤ gA o 56 r.toNat; rw [c2, upZ_s]; exact h0.1) (by show gA o 57 r.toNat = 0; rw [c3, upZ_s])
    rw [show ((r.toNat : Nat) : Int) = r by omega] at T
    exact TS_mk T rfl rfl kn ke c1 k55 k60 k61
/-- the block itself, or its copy -/
def OwnP (s o : MS) (b q : Nat) (D : Nat → Int) : Prop := (q < 48 ∧ (q : Int) < gI s 1060) ∧ (gA o 54 q = 1 ∧ gA o 55 q = 0) ∧ (gA o 56 q = gA s 56 b ∧ gA o 57 q = gA s 57 b) ∧ (∀ x, x < 48 → 0 < gA s 54 x → gA s 56 b ≤ gA s 56 x → x ≠ b → gA o 54 x = gA s 54 x) ∧ (∀ x, x < 48 → x ≠ q → gA o 56 x = gA s 56 x ∧ gA o 57 x = gA s 57 x ∧ ∀ k, k < 6 → gA o 58 (6 * x + k) = gA s 58 (6 * x + k) ∧ gA o 59 (6 * x + k) = gA s 59 (6 * x + k)) ∧ (q = b ∨ gA s 54 q = 0) ∧ TS o (fun x => D x + (if x = q then 1 else 0) - (if x = b then 1 else 0)) (-1)
set_option maxHeartbeats 1000000 in
theorem ts_owned0 {p0 : Int} {s : MS} {D : Nat → Int} (hR : Rg s) (H : TS s D (-1)) (hD : ∀ x, x < 48 → 0 ≤ D x ∧ D x ≤ 10) (hE : 0 ≤ gI s 581) (hp : 0 ≤ p0 ∧ p0 < 48) (hc : 0 < gA s 54 p0.toNat) : wp (m_x1_owned p0 s) (fun q => Rg q.2 ∧ (q.1 = -1 ∨ (0 ≤ q.1 ∧ OwnP s q.2 p0.toNat q.1.toNat D))) := by
  have hN48 : gI s 1060 ≤ 48 := H.1.1
  have hb48 : p0.toNat < 48 := by omega
  have hbN : ((p0.toNat : Nat) : Int) < gI s 1060 := TG_lt H hb48 hc
  have nd := TG_nd H hb48 hc
  have n6 : 0 ≤ gA s 57 p0.toNat ∧ gA s 57 p0.toNat ≤ 6 := nd.2.1
  have n1 : 1 ≤ gA s 57 p0.toNat := H.2.2.1.1 p0.toNat hb48 hc (by omega)
  have lv : 0 ≤ gA s 56 p0.toNat ∧ gA s 56 p0.toNat ≤ 47 := TG_lev H (fun x hx => (hD x hx).1) hb48 hc
  have J26 : wp (m_x1_owned_J26 p0 s) (fun q => Rg q.2 ∧ (q.1 = -1 ∨ (0 ≤ q.1 ∧ OwnP s q.2 p0.toNat q.1.toNat D))) := by
    unfold m_x1_owned_J26
    refine wp_rdIn (by omega) (fun y23 e23 => ?_)
    refine wp_bn (ts_take hR H (fun x hx => (hD x hx).1) hE (by omega) (by omega)) (fun q26 e26 h26 => ?_)
    obtain ⟨r, o⟩ := q26
    dsimp only at h26 ⊢
    obtain ⟨hRo, Fo, h26⟩ := h26
    have hr2 : R2 r := by rcases h26 with h26 | ⟨h26, _⟩ <;> omega
    refine wp_rg hr2 (wp_if (fun c1 => wp_some ⟨hRo, Or.inl rfl⟩) (fun c1 => ?_))
    rcases h26 with h26 | ⟨⟨r0, r1⟩, ⟨f1, f2⟩, ⟨u54, u56, u57⟩, T1⟩
    · exact absurd h26 c1
    · have hq48 : r.toNat < 48 := by omega
      have hne : p0.toNat ≠ r.toNat := fun q => by rw [q] at hc; omega
      have o57b : gA o 57 p0.toNat = gA s 57 p0.toNat := by rw [u57, upZ_n hne]
      have o56b : gA o 56 p0.toNat = gA s 56 p0.toNat := by rw [u56, upZ_n hne]
      have o56q : gA o 56 r.toNat = gA s 56 p0.toNat := by rw [u56, upZ_s, e23]
      have o57q : gA o 57 r.toNat = 0 := by rw [u57, upZ_s]
      have o54b : gA o 54 p0.toNat = gA s 54 p0.toNat := by rw [u54, upZ_n hne]
      have o54q : gA o 54 r.toNat = 1 := by rw [u54, upZ_s]
      have o55 : gA o 55 = gA s 55 := Fo.2.1 55 (by decide)
      have o58 : gA o 58 = gA s 58 := Fo.2.1 58 (by decide)
      have o59 : gA o 59 = gA s 59 := Fo.2.1 59 (by decide)
      have on : gI o 1060 = gI s 1060 := Fo.1 1060 (by decide)
      have oe : gI o 581 = gI s 581 := Fo.1 581 (by decide)
      refine wp_bn (w_x1_layEntries hRo hp (by omega) (by omega)) (fun s30 e30 h30 => ?_)
      obtain ⟨hR30, v57, v58, v59⟩ := h30
      have F30 : F_x1_layEntries o s30 := fr_x1_layEntries e30
      rw [o57b] at v57 v58 v59
      rw [Int.sub_zero] at v57 v58 v59
      rw [show 6 * p0.toNat + Int.toNat 0 = 6 * p0.toNat by omega] at v58 v59
      have w54 : gA s30 54 = gA o 54 := F30.2.1 54 (by decide)
      have w55 : gA s30 55 = gA o 55 := F30.2.1 55 (by decide)
      have w56 : gA s30 56 = gA o 56 := F30.2.1 56 (by decide)
      have w60 : gA s30 60 = gA o 60 := F30.2.1 60 (by decide)
      have w61 : gA s30 61 = gA o 61 := F30.2.1 61 (by decide)
      have wn : gI s30 1060 = gI o 1060 := F30.1 1060 (by decide)
      have we : gI s30 581 = gI o 581 := F30.1 581 (by decide)
      have x57q : gA s30 57 r.toNat = gA s 57 p0.toNat := by rw [v57, upZ_s]
      have x56q : gA s30 56 r.toNat = gA s 56 p0.toNat := by rw [w56, o56q]
      have x59 : ∀ k : Nat, (k : Int) < gA s 57 p0.toNat → gA s30 59 (6 * r.toNat + k) = gA s 59 (6 * p0.toNat + k) := fun k hk => by rw [v59, cpy_i (by omega), o59]
      have x58 : ∀ k : Nat, (k : Int) < gA s 57 p0.toNat → gA s30 58 (6 * r.toNat + k) = gA s 58 (6 * p0.toNat + k) := fun k hk => by rw [v58, cpy_i (by omega), o58]
      have hS : SBk (hN o) (hN s30) (kN o) (kN s30) r.toNat := SBk_c (fun q hq hn => by rw [w56]) (fun q hq hn => by rw [v57, upZ_n hn]) (fun q hq hn k hk => by rw [v58, cpy_o hn hk (by omega)]) (fun q hq hn k hk => by rw [v59, cpy_o hn hk (by omega)])
      have T1' : TG (hN o) (kN o) (gI o 1060) (gI o 581) (gA o 54) (gA o 55) (gA o 60) (gA o 61) (fun x => D x + (if x = r.toNat then 1 else 0)) ((r.toNat : Nat) : Int) := by
        rw [show ((r.toNat : Nat) : Int) = r by omega]; exact T1
      have T2 := TG_fill (h' := hN s30) (ky' := kN s30) (b := p0.toNat) T1' hb48 (by rw [o54b]; exact hc) hq48 (by rw [o55, f2]; omega) (by rw [o54q]; omega) hS (by show gA s30 56 r.toNat = gA o 56 r.toNat; rw [w56]) (by show gA o 56 r.toNat = gA o 56 p0.toNat; rw [o56q, o56b]) o57q (by show 1 ≤ gA s30 57 r.toNat ∧ gA s30 57 r.toNat ≤ gA o 57 p0.toNat; rw [x57q, o57b]; omega) (fun j hj => ⟨j, by
          have hj' : (j : Int) < gA s30 57 r.toNat := hj
          show (j : Int) < gA o 57 p0.toNat
          rw [o57b]; omega, by
          have hj' : (j : Int) < gA s30 57 r.toNat := hj
          show gA s30 59 (6 * r.toNat + j) = gA o 59 (6 * p0.toNat + j)
          rw [x59 j (by omega), o59], by
          have hj' : (j : Int) < gA s30 57 r.toNat := hj
          show gA s30 58 (6 * r.toNat + j) = gA o 58 (6 * p0.toNat + j)
          rw [x58 j (by omega), o58]⟩)
      have T2s : TS s30 (fun x => D x + (if x = r.toNat then 1 else 0) - en (hN s30) r.toNat (x : Int)) (-1) := TS_mk T2 rfl rfl wn we w54 w55 w60 w61
      have J117 : ∀ S : MS, Rg S → (gA S 55 = gA s30 55 ∧ gA S 56 = gA s30 56 ∧ gA S 57 = gA s30 57 ∧ gA S 58 = gA s30 58 ∧ gA S 59 = gA s30 59 ∧ gA S 60 = gA s30 60 ∧ gA S 61 = gA s30 61) → (∀ x, x < 48 → gA o 54 x ≤ gA S 54 x ∧ (gA s 56 p0.toNat ≤ gA o 56 x → gA S 54 x = gA o 54 x)) → gI S 1060 = gI s 1060 → TS S (fun x => D x + (if x = r.toNat then 1 else 0)) (-1) → wp (m_x1_owned_J117 p0 r S) (fun q => Rg q.2 ∧ (q.1 = -1 ∨ (0 ≤ q.1 ∧ OwnP s q.2 p0.toNat q.1.toNat D))) := by
        intro S hRS hA hC hn T
        obtain ⟨a55, a56, a57, a58, a59, a60, a61⟩ := hA
        unfold m_x1_owned_J117
        have cb := hC p0.toNat hb48
        refine wp_bn (w_x1_release_v2 hRS T.1.2.1 (by omega) (by omega) (fun x hx => by rw [T.2.1.1 x hx]; have := (hD x hx).1; show 0 ≤ D x + (if x = r.toNat then 1 else 0); split <;> omega)) (fun q6 e6 h6 => ?_)
        obtain ⟨n, o2⟩ := q6
        dsimp only at h6 ⊢
        obtain ⟨hR2, hRel, _, hlv⟩ := h6
        have F6 : F_x1_release_v2 S o2 := fr_x1_release_v2 e6
        have g56 : gA o2 56 = gA S 56 := F6.2.1 56 (by decide)
        have g57 : gA o2 57 = gA S 57 := F6.2.1 57 (by decide)
        have g58 : gA o2 58 = gA S 58 := F6.2.1 58 (by decide)
        have g59 : gA o2 59 = gA S 59 := F6.2.1 59 (by decide)
        have T3 := TG_rel T hRel
        have T4 : TS o2 (fun x => D x + (if x = r.toNat then 1 else 0) - (if x = p0.toNat then 1 else 0)) (-1) := by
          refine TS_mk (TG_D T3 (fun x hx => ?_)) (hN_eq g56 g57 g59) (kN_eq g58) (F6.1 1060 (by decide)) (F6.1 581 (by decide)) rfl (F6.2.1 55 (by decide)) (F6.2.1 60 (by decide)) (F6.2.1 61 (by decide))
          show D x + (if x = r.toNat then 1 else 0) - (if x = p0.toNat then 1 else 0) = D x + (if x = r.toNat then 1 else 0) - (if (x : Int) = p0 then 1 else 0)
          by_cases z : x = p0.toNat
          · rw [if_pos z, if_pos (show (x : Int) = p0 by omega)]
          · rw [if_neg z, if_neg (show ¬ (x : Int) = p0 by omega)]
        have lb : gA S 56 p0.toNat = gA s 56 p0.toNat := by rw [a56, w56, o56b]
        refine wp_some ⟨hR2, Or.inr ⟨r0, ⟨⟨hq48, by omega⟩, ⟨?_, ?_⟩, ⟨?_, ?_⟩, fun x hx hcx hlx hxb => ?_, fun x hx hxq => ⟨?_, ?_, fun k hk => ⟨?_, ?_⟩⟩, Or.inr f1, T4⟩⟩⟩
        · rw [hlv r.toNat hq48 (by rw [lb, a56, x56q]; exact Int.le_refl _) (fun z => hne z.symm), (hC r.toNat hq48).2 (by rw [o56q]; exact Int.le_refl _)]
          exact o54q
        · rw [show gA o2 55 = gA S 55 from F6.2.1 55 (by decide), a55, w55, o55]; exact f2
        · rw [g56, a56]; exact x56q
        · rw [g57, a57]; exact x57q
        · have hxq : x ≠ r.toNat := fun z => by rw [z] at hcx; omega
          have h1 : gA o 56 x = gA s 56 x := by rw [u56, upZ_n hxq]
          rw [hlv x hx (by rw [lb, a56, w56, h1]; exact hlx) hxb, (hC x hx).2 (by rw [h1]; exact hlx), u54, upZ_n hxq]
        · rw [g56, a56, w56, u56, upZ_n hxq]
        · rw [g57, a57, v57, upZ_n hxq, u57, upZ_n hxq]
        · rw [g58, a58, v58, cpy_o hxq hk (by omega), o58]
        · rw [g59, a59, v59, cpy_o hxq hk (by omega), o59]
      refine wp_rdIn (by omega) (fun y31 e31 => ?_)
      rw [x56q] at e31
      refine wp_rg (by omega) (wp_if (fun c2 => ?_) (fun c2 => ?_))
      · refine J117 s30 hR30 ⟨rfl, rfl, rfl, rfl, rfl, rfl, rfl⟩ (fun x hx => ⟨by rw [w54]; exact Int.le_refl _, fun _ => by rw [w54]⟩) (wn.trans on) ?_
        refine TG_D T2s (fun x hx => ?_)
        show D x + (if x = r.toNat then 1 else 0) = D x + (if x = r.toNat then 1 else 0) - en (hN s30) r.toNat (x : Int)
        rw [en_leaf (by show gA s30 56 r.toNat ≤ 0; rw [x56q]; omega)]; omega
      · have L69 : ∀ (n : Nat) (k : Int) (S : MS), Rg S → (gA S 55 = gA s30 55 ∧ gA S 56 = gA s30 56 ∧ gA S 57 = gA s30 57 ∧ gA S 58 = gA s30 58 ∧ gA S 59 = gA s30 59 ∧ gA S 60 = gA s30 60 ∧ gA S 61 = gA s30 61) → (∀ x, x < 48 → gA o 54 x ≤ gA S 54 x ∧ (gA s 56 p0.toNat ≤ gA o 56 x → gA S 54 x = gA o 54 x)) → (gI S 1060 = gI s 1060 ∧ gI S 581 = gI s30 581) → (0 ≤ k ∧ k ≤ gA s 57 p0.toNat) → TS S (fun x => D x + (if x = r.toNat then 1 else 0) - enf (hN s30) r.toNat k (x : Int)) (-1) → gA s 57 p0.toNat - k < (n : Int) → wp (m_x1_owned_L69 n p0 r k S) (fun q => Rg q.2 ∧ (q.1 = -1 ∨ (0 ≤ q.1 ∧ OwnP s q.2 p0.toNat q.1.toNat D))) := by
          refine fr_ind (fun k S hRS hA hC hn hk T hm => by exfalso; omega) (fun n ih k S hRS hA hC hn hk T hm => ?_)
          show wp (m_x1_owned_b69 (m_x1_owned_L69 n) p0 r k S) _
          unfold m_x1_owned_b69
          have hA' := hA
          obtain ⟨a55, a56, a57, a58, a59, a60, a61⟩ := hA
          refine wp_rdIn (by omega) (fun y11 e11 => ?_)
          rw [a57, x57q] at e11
          refine wp_rg (by omega) (wp_rg (by omega) (wp_if (fun c3 => ?_) (fun c3 => ?_)))
          · refine J117 S hRS hA' hC hn.1 (TG_D T (fun x hx => ?_))
            show D x + (if x = r.toNat then 1 else 0) = D x + (if x = r.toNat then 1 else 0) - enf (hN s30) r.toNat k (x : Int)
            rw [enf_end (by show gA s30 57 r.toNat ≤ k; rw [x57q]; omega)]; omega
          · refine wp_bn w_slot (fun r16 _ h16 => ?_)
            refine wp_rdIn (by omega) (fun y17 e17 => ?_)
            rw [a59, show r16.toNat = 6 * r.toNat + k.toNat by omega] at e17
            have v17 : (hN o).2.2 p0.toNat k.toNat = y17 := by
              show gA o 59 (6 * p0.toNat + k.toNat) = y17
              rw [o59, ← x59 k.toNat (by omega)]; exact e17
            have kid := TG_kid (p := p0.toNat) (k := k.toNat) T1' (fun x hx => by have := (hD x hx).1; show 0 ≤ D x + (if x = r.toNat then 1 else 0); split <;> omega) hb48 (by rw [o54b]; exact hc) (by show 0 < gA o 56 p0.toNat; rw [o56b]; omega) (by show ((k.toNat : Nat) : Int) < gA o 57 p0.toNat; rw [o57b]; omega)
            rw [v17] at kid
            obtain ⟨⟨k0, k1⟩, k2, k3⟩ := kid
            have k2' : gA o 56 y17.toNat = gA o 56 p0.toNat - 1 := k2
            rw [o56b] at k2'
            have hy48 : y17.toNat < 48 := by omega
            have hcy := hC y17.toNat hy48
            refine wp_rdIn (by omega) (fun y18 e18 => ?_)
            have cb : gA S 54 y17.toNat ≤ (D y17.toNat + (if y17.toNat = r.toNat then 1 else 0) - enf (hN s30) r.toNat k ((y17.toNat : Nat) : Int)) + 296 := TG_cb T hy48
            have i1 : (if y17.toNat = r.toNat then (1 : Int) else 0) ≤ 1 := by split <;> omega
            have i3 := enf_nn (hN s30) r.toNat k ((y17.toNat : Nat) : Int)
            have d10 := hD y17.toNat hy48
            have TI := TG_inc T hy48 (show 0 < gA S 54 y17.toNat by omega)
            rw [e18] at cb hcy TI
            refine wp_inb (by omega) (wp_stn (fun s20 e20 => ?_))
            have hR20 : Rg s20 := e20 ▸ Rg.uAu hRS (by show (-1 : Int) ≤ y18 + 1 ∧ y18 + 1 ≤ 100000; omega)
            have g20 : gA s20 54 = upZ (gA S 54) y17.toNat (y18 + 1) := q_AA e20
            refine ih (k + 1) s20 hR20 ⟨(q_Aa e20 (by decide)).trans a55, (q_Aa e20 (by decide)).trans a56, (q_Aa e20 (by decide)).trans a57, (q_Aa e20 (by decide)).trans a58, (q_Aa e20 (by decide)).trans a59, (q_Aa e20 (by decide)).trans a60, (q_Aa e20 (by decide)).trans a61⟩ (fun x hx => ?_) ⟨(q_Ai e20).trans hn.1, (q_Ai e20).trans hn.2⟩ (by omega) ?_ (by omega)
            · rw [g20]
              by_cases z : x = y17.toNat
              · rw [z, upZ_s]
                exact ⟨by omega, fun w => by omega⟩
              · rw [upZ_n z]; exact hC x hx
            · refine TS_mk (TG_D TI (fun x hx => ?_)) (hN_eq (q_Aa e20 (by decide)) (q_Aa e20 (by decide)) (q_Aa e20 (by decide))) (kN_eq (q_Aa e20 (by decide))) (q_Ai e20) (q_Ai e20) g20 (q_Aa e20 (by decide)) (q_Aa e20 (by decide)) (q_Aa e20 (by decide))
              show D x + (if x = r.toNat then 1 else 0) - enf (hN s30) r.toNat (k + 1) (x : Int) = D x + (if x = r.toNat then 1 else 0) - enf (hN s30) r.toNat k (x : Int) + (if x = y17.toNat then 1 else 0)
              have st := enf_step (h := hN s30) (p := r.toNat) (k := k.toNat) (x := (x : Int)) (by show 0 < gA s30 56 r.toNat; rw [x56q]; omega) (by show ((k.toNat : Nat) : Int) < gA s30 57 r.toNat; rw [x57q]; omega) (by omega)
              rw [show ((k.toNat : Nat) : Int) = k by omega, show (hN s30).2.2 r.toNat k.toNat = y17 from e17] at st
              rw [st]
              by_cases z : x = y17.toNat
              · rw [if_pos (show y17 = (x : Int) by omega), if_pos z]; omega
              · rw [if_neg (show ¬ y17 = (x : Int) by omega), if_neg z]; omega
        exact L69 FU 0 s30 hR30 ⟨rfl, rfl, rfl, rfl, rfl, rfl, rfl⟩ (fun x hx => ⟨by rw [w54]; exact Int.le_refl _, fun _ => by rw [w54]⟩) ⟨wn.trans on, rfl⟩ (by omega) T2s (by have := FU_big; omega)
  unfold m_x1_owned
  refine wp_bn (w_x8_isFresh hR (by omega)) (fun r35 e35 h35 => ?_)
  refine wp_rg (by omega) (wp_if (fun c1 => J26) (fun c1 => ?_))
  refine wp_rdIn (by omega) (fun y38 e38 => ?_)
  have r38 := hR.2.1 54 p0.toNat (by show _ < 48; omega)
  rw [e38] at r38
  have r38' : (-1 : Int) ≤ y38 ∧ y38 ≤ 100000 := r38
  refine wp_rg (by omega) (wp_if (fun c2 => ?_) (fun c2 => J26))
  refine wp_some ⟨hR, Or.inr ⟨hp.1, ⟨⟨hb48, hbN⟩, ⟨by rw [e38]; exact c2, by show gA s 55 p0.toNat = 0; omega⟩, ⟨rfl, rfl⟩, fun x hx _ _ _ => rfl, fun x hx _ => ⟨rfl, rfl, fun k hk => ⟨rfl, rfl⟩⟩, Or.inl rfl, TG_D H (fun x hx => ?_)⟩⟩⟩
  show D x + (if x = p0.toNat then 1 else 0) - (if x = p0.toNat then 1 else 0) = D x
  omega
theorem ts_owned {p0 : Int} {s : MS} {D : Nat → Int} (hR : Rg s) (H : TS s D (-1)) (hD : ∀ x, x < 48 → 0 ≤ D x ∧ D x ≤ 10) (hE : 0 ≤ gI s 581) (hp : 0 ≤ p0 ∧ p0 < 48) (hc : 0 < gA s 54 p0.toNat) : wp (m_x1_owned p0 s) (fun q => Rg q.2 ∧ F_x1_owned s q.2 ∧ (q.1 = -1 ∨ (0 ≤ q.1 ∧ OwnP s q.2 p0.toNat q.1.toNat D))) := wp_eq (ts_owned0 hR H hD hE hp hc) (fun q eq hq => ⟨hq.1, fr_x1_owned eq, hq.2⟩)
