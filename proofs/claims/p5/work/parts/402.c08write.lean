/-! ===== rows that shift ===== -/
theorem R8_or (x y : Int) : R8 (orL x y) := ⟨Int64.le_toInt _, Int.le_of_lt_add_one (Int64.toInt_lt _)⟩
def ShI (f g : Nat → Int) (i t : Int) : Prop := ∀ j : Nat, ((j : Int) ≤ i ∨ t < (j : Int) → g j = f j) ∧ (i < (j : Int) ∧ (j : Int) ≤ t → g j = f (j - 1))
theorem ShI_0 (f : Nat → Int) (t : Int) : ShI f f t t := fun j => ⟨fun _ => rfl, fun h => by omega⟩
theorem ShI_step {f g g' : Nat → Int} {i t y : Int} (H : ShI f g i t) (h0 : 0 < i ∧ i ≤ t) (ey : g (i - 1).toNat = y) (e : g' = upZ g i.toNat y) : ShI f g' (i + -1) t := by
  intro j
  rw [e]
  refine ⟨fun h => ?_, fun h => ?_⟩
  · rw [upZ_n (show j ≠ i.toNat by omega)]; exact (H j).1 (by omega)
  · by_cases ej : j = i.toNat
    · rw [ej, upZ_s, ← ey, (H (i - 1).toNat).1 (by omega), show (i - 1).toNat = i.toNat - 1 by omega]
    · rw [upZ_n ej]; exact (H j).2 (by omega)
def InsR (f g : Nat → Int) (a z k : Nat) (v : Int) : Prop := (∀ j, j < a + k ∨ a + z < j → g j = f j) ∧ g (a + k) = v ∧ (∀ j, k ≤ j → j < z → g (a + (j + 1)) = f (a + j))
theorem Ins_fin {f g g' : Nat → Int} {i t : Int} {a z k : Nat} {v : Int} (H : ShI f g i t) (hi : i = ((a + k : Nat) : Int)) (ht : t = ((a + z : Nat) : Int)) (hk : k ≤ z) (e : g' = upZ g i.toNat v) : InsR f g' a z k v := by
  rw [e]
  refine ⟨fun j h => ?_, ?_, fun j h1 h2 => ?_⟩
  · rw [upZ_n (show j ≠ i.toNat by omega)]; exact (H j).1 (by omega)
  · rw [show a + k = i.toNat by omega, upZ_s]
  · rw [upZ_n (show a + (j + 1) ≠ i.toNat by omega), (H (a + (j + 1))).2 (by omega), show a + (j + 1) - 1 = a + j by omega]
def ShD (f g : Nat → Int) (a i : Int) : Prop := ∀ j : Nat, ((j : Int) < a ∨ i ≤ (j : Int) → g j = f j) ∧ (a ≤ (j : Int) ∧ (j : Int) < i → g j = f (j + 1))
theorem ShD_0 (f : Nat → Int) (a : Int) : ShD f f a a := fun j => ⟨fun _ => rfl, fun h => by omega⟩
theorem ShD_step {f g g' : Nat → Int} {a i y : Int} (H : ShD f g a i) (h0 : 0 ≤ a ∧ a ≤ i) (ey : g (i + 1).toNat = y) (e : g' = upZ g i.toNat y) : ShD f g' a (i + 1) := by
  intro j
  rw [e]
  refine ⟨fun h => ?_, fun h => ?_⟩
  · rw [upZ_n (show j ≠ i.toNat by omega)]; exact (H j).1 (by omega)
  · by_cases ej : j = i.toNat
    · rw [ej, upZ_s, ← ey, (H (i + 1).toNat).1 (by omega), show (i + 1).toNat = i.toNat + 1 by omega]
    · rw [upZ_n ej]; exact (H j).2 (by omega)
def DelR (f g : Nat → Int) (a z k : Nat) : Prop := (∀ j, j < a + k ∨ a + z ≤ j + 1 → g j = f j) ∧ (∀ j, k ≤ j → j + 1 < z → g (a + j) = f (a + (j + 1)))
theorem Del_fin {f g : Nat → Int} {i t : Int} {a z k : Nat} (H : ShD f g i t) (hi : i = ((a + k : Nat) : Int)) (ht : t = ((a + z : Nat) : Int) - 1) (hk : k < z) : DelR f g a z k := by
  refine ⟨fun j h => (H j).1 (by omega), fun j h1 h2 => ?_⟩
  rw [(H (a + j)).2 (by omega), Nat.add_assoc]
set_option maxHeartbeats 1000000 in
theorem w_x8_mark {p0 : Int} {s : MS} (hRs : Rg s) (hp0 : R2 p0) : wp (m_x8_mark p0 s) (fun o => (Rg o)) := by
  unfold m_x8_mark
  refine wp_stn (fun s1 es1 => ?_)
  have hRs1 : Rg s1 := es1 ▸ Rg.uL hRs (R8_or _ _)
  exact wp_some (hRs1)
set_option maxHeartbeats 1000000 in
theorem w_x8_insert {p0 : Int} {p1 : Int} {p2 : Int} {p3 : Int} {s : MS} (hRs : Rg s) (hp0 : 0 ≤ p0 ∧ p0 < 48) (hp1 : 0 ≤ p1 ∧ p1 ≤ gA s 57 p0.toNat ∧ gA s 57 p0.toNat ≤ 5) (hp2 : (-257) ≤ p2 ∧ p2 ≤ 65535) (hp3 : (-257) ≤ p3 ∧ p3 ≤ 65535) : wp (m_x8_insert p0 p1 p2 p3 s) (fun o => (Rg o) ∧ (gA o 57 = upZ (gA s 57) p0.toNat (gA s 57 p0.toNat + 1)) ∧ (InsR (gA s 58) (gA o 58) (6 * p0.toNat) (gA s 57 p0.toNat).toNat p1.toNat p2) ∧ (InsR (gA s 59) (gA o 59) (6 * p0.toNat) (gA s 57 p0.toNat).toNat p1.toNat p3)) := by
  unfold m_x8_insert
  refine wp_rg (by omega) ?_
  refine wp_if (fun c1 => ?_) (fun c1 => ?_)
  · skip
    unfold m_x8_insert_J25
    exact wp_some ⟨hRs, by exfalso; omega, by exfalso; omega, by exfalso; omega⟩
  · skip
    refine wp_rdIn (by omega) (fun y28 ey28 => ?_)
    have by28 : (-1 : Int) ≤ y28 ∧ y28 ≤ 255 := ey28 ▸ hRs.2.1 57 _ (by show _ < 48; omega)
    refine wp_rg (by omega) ?_
    refine wp_rg (by omega) ?_
    refine wp_if (fun c2 => ?_) (fun c2 => ?_)
    · skip
      unfold m_x8_insert_J25
      exact wp_some ⟨hRs, by exfalso; omega, by exfalso; omega, by exfalso; omega⟩
    · skip
      refine wp_rdIn (by omega) (fun y32 ey32 => ?_)
      have by32 : (-1 : Int) ≤ y32 ∧ y32 ≤ 255 := ey32 ▸ hRs.2.1 57 _ (by show _ < 48; omega)
      refine wp_rg (by omega) ?_
      refine wp_if (fun c3 => ?_) (fun c3 => ?_)
      · skip
        refine wp_bn (w_x8_slot hRs) (fun r36 er36 hr36 => ?_)
        have hr36_0 := hr36
        have hr36_0 : r36 = p0 * 6 + p1 := hr36_0
        refine wp_rdIn (by omega) (fun y37 ey37 => ?_)
        have by37 : (-1 : Int) ≤ y37 ∧ y37 ≤ 255 := ey37 ▸ hRs.2.1 57 _ (by show _ < 48; omega)
        refine wp_bn (w_x8_slot hRs) (fun r39 er39 hr39 => ?_)
        have hr39_0 := hr39
        have hr39_0 : r39 = p0 * 6 + y37 := hr39_0
        have L47 : ∀ (n : Nat) (x1 : Int) (x2 : Int) (x3 : Int) (x4 : Int) (x5 : Int) (s6 : MS), Rg s6 → (x1 = p0 ∧ x2 = p2 ∧ x3 = p3 ∧ x4 = p0 * 6 + p1) → (x4 ≤ x5 ∧ x5 ≤ p0 * 6 + gA s 57 p0.toNat) → (gA s6 57 = gA s 57) → (ShI (gA s 58) (gA s6 58) x5 (p0 * 6 + gA s 57 p0.toNat)) → (ShI (gA s 59) (gA s6 59) x5 (p0 * 6 + gA s 57 p0.toNat)) → (x5 - x4) < (n : Int) → wp (m_x8_insert_L47 n x1 x2 x3 x4 x5 s6) (fun o => (Rg o) ∧ (gA o 57 = upZ (gA s 57) p0.toNat (gA s 57 p0.toNat + 1)) ∧ (InsR (gA s 58) (gA o 58) (6 * p0.toNat) (gA s 57 p0.toNat).toNat p1.toNat p2) ∧ (InsR (gA s 59) (gA o 59) (6 * p0.toNat) (gA s 57 p0.toNat).toNat p1.toNat p3)) := by
          refine fr_ind (fun x1 x2 x3 x4 x5 s6 hRs6 hv47_0 hv47_1 hv47_2 hv47_3 hv47_4 hm47 => ?_) (fun n47 ih47 x1 x2 x3 x4 x5 s6 hRs6 hv47_0 hv47_1 hv47_2 hv47_3 hv47_4 hm47 => ?_)
          · exfalso; omega
          · show wp (m_x8_insert_b47 (m_x8_insert_L47 n47) x1 x2 x3 x4 x5 s6) _
            unfold m_x8_insert_b47
            refine wp_rg (by omega) ?_
            refine wp_rg (by omega) ?_
            refine wp_if (fun c4 => ?_) (fun c4 => ?_)
            · skip
              refine wp_inb (by omega) ?_
              refine wp_stn (fun s11 es11 => ?_)
              have hRs11 : Rg s11 := es11 ▸ Rg.uAu hRs6 (by show (-257 : Int) ≤ x2 ∧ x2 ≤ 65535; omega)
              refine wp_inb (by omega) ?_
              refine wp_stn (fun s13 es13 => ?_)
              have hRs13 : Rg s13 := es13 ▸ Rg.uAu hRs11 (by show (-257 : Int) ≤ x3 ∧ x3 ≤ 65535; omega)
              refine wp_rdIn (by omega) (fun y14 ey14 => ?_)
              have by14 : (-1 : Int) ≤ y14 ∧ y14 ≤ 255 := ey14 ▸ hRs13.2.1 57 _ (by show _ < 48; omega)
              refine wp_inb (by omega) ?_
              refine wp_stn (fun s16 es16 => ?_)
              have hRs16 : Rg s16 := es16 ▸ Rg.uAu hRs13 (by show (-1 : Int) ≤ (y14 + 1) ∧ (y14 + 1) ≤ 255; have := congrFun hv47_2 x1.toNat; have : gA s13 57 x1.toNat = gA s6 57 x1.toNat := congrFun ((q_Aa es13 (by decide) : gA s13 57 = gA s11 57).trans (q_Aa es11 (by decide) : gA s11 57 = gA s6 57)) _; have : gA s 57 x1.toNat = gA s 57 p0.toNat := (by rw [hv47_0.1]); omega)
              refine wp_bn (w_x8_mark hRs16 (by show R2 x1; omega)) (fun s18 es18 hs18 => ?_)
              have Fs18 := fr_x8_mark es18
              have hRs18 := hs18
              exact wp_some ⟨hRs18, by first | (exfalso; omega) | rw [(Fs18.2.1 57 (by decide)), q_AA es16, ← ey14, ((q_Aa es13 (by decide) : gA s13 57 = gA s11 57).trans (q_Aa es11 (by decide) : gA s11 57 = gA s6 57)), hv47_2, hv47_0.1], Ins_fin (i := x5) hv47_3 (by omega) (by omega) (by omega) (by rw [((Fs18.2.1 58 (by decide)).trans ((q_Aa es16 (by decide) : gA s16 58 = gA s13 58).trans (q_Aa es13 (by decide) : gA s13 58 = gA s11 58))), q_AA es11, hv47_0.2.1, show x4 = x5 by omega]), Ins_fin (i := x5) hv47_4 (by omega) (by omega) (by omega) (by rw [((Fs18.2.1 59 (by decide)).trans (q_Aa es16 (by decide) : gA s16 59 = gA s13 59)), q_AA es13, (q_Aa es11 (by decide) : gA s11 59 = gA s6 59), hv47_0.2.2.1, show x4 = x5 by omega])⟩
            · skip
              refine wp_rdIn (by omega) (fun y19 ey19 => ?_)
              have by19 : (-257 : Int) ≤ y19 ∧ y19 ≤ 65535 := ey19 ▸ hRs6.2.1 58 _ (by show _ < 288; omega)
              refine wp_inb (by omega) ?_
              refine wp_stn (fun s21 es21 => ?_)
              have hRs21 : Rg s21 := es21 ▸ Rg.uAu hRs6 (by show (-257 : Int) ≤ y19 ∧ y19 ≤ 65535; omega)
              refine wp_rdIn (by omega) (fun y22 ey22 => ?_)
              have by22 : (-257 : Int) ≤ y22 ∧ y22 ≤ 65535 := ey22 ▸ hRs21.2.1 59 _ (by show _ < 288; omega)
              refine wp_inb (by omega) ?_
              refine wp_stn (fun s24 es24 => ?_)
              have hRs24 : Rg s24 := es24 ▸ Rg.uAu hRs21 (by show (-257 : Int) ≤ y22 ∧ y22 ≤ 65535; omega)
              exact ih47 x1 x2 x3 x4 (x5 + (-1)) s24 hRs24 (by show x1 = p0 ∧ x2 = p2 ∧ x3 = p3 ∧ x4 = p0 * 6 + p1; omega) (by show x4 ≤ (x5 + (-1)) ∧ (x5 + (-1)) ≤ p0 * 6 + gA s 57 p0.toNat; omega) ((((q_Aa es24 (by decide) : gA s24 57 = gA s21 57).trans (q_Aa es21 (by decide) : gA s21 57 = gA s6 57))).trans hv47_2) (ShI_step hv47_3 (by omega) ey19 (((q_Aa es24 (by decide) : gA s24 58 = gA s21 58)).trans (q_AA es21))) (ShI_step (y := y22) hv47_4 (by omega) (by rw [← (q_Aa es21 (by decide) : gA s21 59 = gA s6 59)]; exact ey22) ((q_AA es24).trans (by rw [(q_Aa es21 (by decide) : gA s21 59 = gA s6 59)]))) (by omega)
        exact L47 FU p0 p2 p3 r36 r39 s hRs (by show p0 = p0 ∧ p2 = p2 ∧ p3 = p3 ∧ r36 = p0 * 6 + p1; omega) (by show r36 ≤ r39 ∧ r39 ≤ p0 * 6 + gA s 57 p0.toNat; omega) (rfl) (by rw [show r39 = p0 * 6 + gA s 57 p0.toNat by omega]; exact ShI_0 _ _) (by rw [show r39 = p0 * 6 + gA s 57 p0.toNat by omega]; exact ShI_0 _ _) (by have := FU_big; have := FU_big2; omega)
      · skip
        unfold m_x8_insert_J25
        exact wp_some ⟨hRs, by exfalso; omega, by exfalso; omega, by exfalso; omega⟩
set_option maxHeartbeats 1000000 in
theorem w_x8_delete {p0 : Int} {p1 : Int} {s : MS} (hRs : Rg s) (hp0 : 0 ≤ p0 ∧ p0 < 48) (hp1 : 0 ≤ p1 ∧ p1 < gA s 57 p0.toNat ∧ gA s 57 p0.toNat ≤ 6) : wp (m_x8_delete p0 p1 s) (fun o => (Rg o) ∧ (gA o 57 = upZ (gA s 57) p0.toNat (gA s 57 p0.toNat - 1)) ∧ (DelR (gA s 58) (gA o 58) (6 * p0.toNat) (gA s 57 p0.toNat).toNat p1.toNat) ∧ (DelR (gA s 59) (gA o 59) (6 * p0.toNat) (gA s 57 p0.toNat).toNat p1.toNat)) := by
  unfold m_x8_delete
  refine wp_rg (by omega) ?_
  refine wp_if (fun c1 => ?_) (fun c1 => ?_)
  · skip
    unfold m_x8_delete_J14
    exact wp_some ⟨hRs, by exfalso; omega, by exfalso; omega, by exfalso; omega⟩
  · skip
    refine wp_rdIn (by omega) (fun y19 ey19 => ?_)
    have by19 : (-1 : Int) ≤ y19 ∧ y19 ≤ 255 := ey19 ▸ hRs.2.1 57 _ (by show _ < 48; omega)
    refine wp_rg (by omega) ?_
    refine wp_rg (by omega) ?_
    refine wp_if (fun c2 => ?_) (fun c2 => ?_)
    · skip
      refine wp_rdIn (by omega) (fun y23 ey23 => ?_)
      have by23 : (-1 : Int) ≤ y23 ∧ y23 ≤ 255 := ey23 ▸ hRs.2.1 57 _ (by show _ < 48; omega)
      refine wp_inb (by omega) ?_
      refine wp_stn (fun s25 es25 => ?_)
      have hRs25 : Rg s25 := es25 ▸ Rg.uAu hRs (by show (-1 : Int) ≤ (y23 - 1) ∧ (y23 - 1) ≤ 255; omega)
      have g25 : gA s25 57 = upZ (gA s 57) p0.toNat (gA s 57 p0.toNat - 1) := by rw [q_AA es25, ey23]
      refine wp_rdIn (by omega) (fun y26 ey26 => ?_)
      have by26 : (-1 : Int) ≤ y26 ∧ y26 ≤ 255 := ey26 ▸ hRs25.2.1 57 _ (by show _ < 48; omega)
      have g26 : y26 = gA s 57 p0.toNat - 1 := by rw [← ey26, g25, upZ_s]
      refine wp_bn (w_x8_slot hRs25) (fun r28 er28 hr28 => ?_)
      have hr28_0 := hr28
      have hr28_0 : r28 = p0 * 6 + y26 := hr28_0
      refine wp_bn (w_x8_slot hRs25) (fun r30 er30 hr30 => ?_)
      have hr30_0 := hr30
      have hr30_0 : r30 = p0 * 6 + p1 := hr30_0
      have L45 : ∀ (n : Nat) (x1 : Int) (x2 : Int) (x3 : Int) (s4 : MS), Rg s4 → (x1 = p0 ∧ x2 = p0 * 6 + gA s 57 p0.toNat - 1) → (p0 * 6 + p1 ≤ x3 ∧ x3 ≤ x2) → (gA s4 57 = upZ (gA s 57) p0.toNat (gA s 57 p0.toNat - 1)) → (ShD (gA s 58) (gA s4 58) (p0 * 6 + p1) x3) → (ShD (gA s 59) (gA s4 59) (p0 * 6 + p1) x3) → (x2 - x3) < (n : Int) → wp (m_x8_delete_L45 n x1 x2 x3 s4) (fun o => (Rg o) ∧ (gA o 57 = upZ (gA s 57) p0.toNat (gA s 57 p0.toNat - 1)) ∧ (DelR (gA s 58) (gA o 58) (6 * p0.toNat) (gA s 57 p0.toNat).toNat p1.toNat) ∧ (DelR (gA s 59) (gA o 59) (6 * p0.toNat) (gA s 57 p0.toNat).toNat p1.toNat)) := by
        refine fr_ind (fun x1 x2 x3 s4 hRs4 hv45_0 hv45_1 hv45_2 hv45_3 hv45_4 hm45 => ?_) (fun n45 ih45 x1 x2 x3 s4 hRs4 hv45_0 hv45_1 hv45_2 hv45_3 hv45_4 hm45 => ?_)
        · exfalso; omega
        · show wp (m_x8_delete_b45 (m_x8_delete_L45 n45) x1 x2 x3 s4) _
          unfold m_x8_delete_b45
          refine wp_rg (by omega) ?_
          refine wp_rg (by omega) ?_
          refine wp_if (fun c3 => ?_) (fun c3 => ?_)
          · skip
            refine wp_bn (w_x8_mark hRs4 (by show R2 x1; omega)) (fun s9 es9 hs9 => ?_)
            have Fs9 := fr_x8_mark es9
            have hRs9 := hs9
            exact wp_some ⟨hRs9, ((Fs9.2.1 57 (by decide))).trans hv45_2, Del_fin (t := x3) (by rw [(Fs9.2.1 58 (by decide))]; exact hv45_3) (by omega) (by omega) (by omega), Del_fin (t := x3) (by rw [(Fs9.2.1 59 (by decide))]; exact hv45_4) (by omega) (by omega) (by omega)⟩
          · skip
            refine wp_rdIn (by omega) (fun y10 ey10 => ?_)
            have by10 : (-257 : Int) ≤ y10 ∧ y10 ≤ 65535 := ey10 ▸ hRs4.2.1 58 _ (by show _ < 288; omega)
            refine wp_inb (by omega) ?_
            refine wp_stn (fun s12 es12 => ?_)
            have hRs12 : Rg s12 := es12 ▸ Rg.uAu hRs4 (by show (-257 : Int) ≤ y10 ∧ y10 ≤ 65535; omega)
            refine wp_rdIn (by omega) (fun y13 ey13 => ?_)
            have by13 : (-257 : Int) ≤ y13 ∧ y13 ≤ 65535 := ey13 ▸ hRs12.2.1 59 _ (by show _ < 288; omega)
            refine wp_inb (by omega) ?_
            refine wp_stn (fun s15 es15 => ?_)
            have hRs15 : Rg s15 := es15 ▸ Rg.uAu hRs12 (by show (-257 : Int) ≤ y13 ∧ y13 ≤ 65535; omega)
            exact ih45 x1 x2 (x3 + 1) s15 hRs15 (by show x1 = p0 ∧ x2 = p0 * 6 + gA s 57 p0.toNat - 1; omega) (by show p0 * 6 + p1 ≤ (x3 + 1) ∧ (x3 + 1) ≤ x2; omega) ((((q_Aa es15 (by decide) : gA s15 57 = gA s12 57).trans (q_Aa es12 (by decide) : gA s12 57 = gA s4 57))).trans hv45_2) (ShD_step hv45_3 (by omega) ey10 (((q_Aa es15 (by decide) : gA s15 58 = gA s12 58)).trans (q_AA es12))) (ShD_step (y := y13) hv45_4 (by omega) (by rw [← (q_Aa es12 (by decide) : gA s12 59 = gA s4 59)]; exact ey13) ((q_AA es15).trans (by rw [(q_Aa es12 (by decide) : gA s12 59 = gA s4 59)]))) (by omega)
      exact L45 FU p0 r28 r30 s25 hRs25 (by show p0 = p0 ∧ r28 = p0 * 6 + gA s 57 p0.toNat - 1; omega) (by show p0 * 6 + p1 ≤ r30 ∧ r30 ≤ r28; omega) (g25) (by rw [(q_Aa es25 (by decide) : gA s25 58 = gA s 58), show r30 = p0 * 6 + p1 by omega]; exact ShD_0 _ _) (by rw [(q_Aa es25 (by decide) : gA s25 59 = gA s 59), show r30 = p0 * 6 + p1 by omega]; exact ShD_0 _ _) (by have := FU_big; have := FU_big2; omega)
    · skip
      unfold m_x8_delete_J14
      exact wp_some ⟨hRs, by exfalso; omega, by exfalso; omega, by exfalso; omega⟩
set_option maxHeartbeats 1000000 in
theorem w_x8_set {p0 : Int} {p1 : Int} {p2 : Int} {s : MS} (hRs : Rg s) (hp0 : 0 ≤ p0 ∧ p0 < 48) (hp1 : 0 ≤ p1 ∧ p1 < 6) (hp2 : (-257) ≤ p2 ∧ p2 ≤ 65535) : wp (m_x8_set p0 p1 p2 s) (fun o => (Rg o) ∧ (gA o 59 = upZ (gA s 59) (6 * p0.toNat + p1.toNat) p2)) := by
  unfold m_x8_set
  refine wp_bn (w_x8_slot hRs) (fun r3 er3 hr3 => ?_)
  have hr3_0 := hr3
  have hr3_0 : r3 = p0 * 6 + p1 := hr3_0
  refine wp_rdIn (by omega) (fun y4 ey4 => ?_)
  have by4 : (-257 : Int) ≤ y4 ∧ y4 ≤ 65535 := ey4 ▸ hRs.2.1 59 _ (by show _ < 288; omega)
  refine wp_rg (by omega) ?_
  refine wp_rg (by omega) ?_
  refine wp_if (fun c1 => ?_) (fun c1 => ?_)
  · skip
    unfold m_x8_set_J32
    exact wp_some ⟨hRs, by
      funext j
      by_cases ej : j = 6 * p0.toNat + p1.toNat
      · rw [ej, upZ_s, ← c1, ← ey4, show r3.toNat = 6 * p0.toNat + p1.toNat by omega]
      · rw [upZ_n ej]⟩
  · skip
    refine wp_inb (by omega) ?_
    refine wp_stn (fun s9 es9 => ?_)
    have hRs9 : Rg s9 := es9 ▸ Rg.uAu hRs (by show (-257 : Int) ≤ p2 ∧ p2 ≤ 65535; omega)
    refine wp_bn (w_x8_mark hRs9 (by show R2 p0; omega)) (fun s11 es11 hs11 => ?_)
    have Fs11 := fr_x8_mark es11
    have hRs11 := hs11
    unfold m_x8_set_J32
    exact wp_some ⟨hRs11, by rw [(Fs11.2.1 59 (by decide)), q_AA es9, show r3.toNat = 6 * p0.toNat + p1.toNat by omega]⟩
