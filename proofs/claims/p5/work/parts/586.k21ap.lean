/-! ===== steps are only added behind those that are there ===== -/
def AP (s o : MS) : Prop := gI s 941 ≤ gI o 941 ∧ ∀ j : Nat, (j : Int) < gI s 941 → gA o 48 j = gA s 48 j
theorem AP.rf (s : MS) : AP s s := ⟨Int.le_refl _, fun _ _ => rfl⟩
theorem AP.tr {s o q : MS} (h : AP s o) (g : AP o q) : AP s q := ⟨Int.le_trans h.1 g.1, fun j hj => (g.2 j (Int.lt_of_lt_of_le hj h.1)).trans (h.2 j hj)⟩
theorem AP.of {I A L B : List Nat} {s o : MS} (h : Fr I A L B s o) (hi : 941 ∉ I) (hj : 48 ∉ A) : AP s o := ⟨by rw [h.1 941 hi]; exact Int.le_refl _, fun j _ => by rw [h.2.1 48 hj]⟩
theorem AP.i {k : Nat} {v : Int} {s o : MS} (e : sI s k v = o) (h : 941 ≠ k) : AP s o := ⟨by rw [q_Ii e h]; exact Int.le_refl _, fun j _ => by rw [(q_Ia e : gA o 48 = gA s 48)]⟩
theorem AP.a {k : Nat} {f : Nat → Int} {s o : MS} (e : sA s k f = o) (h : 48 ≠ k) : AP s o := ⟨by rw [(q_Ai e : gI o 941 = gI s 941)]; exact Int.le_refl _, fun j _ => by rw [q_Aa e h]⟩
theorem ap_x6_fail {p0 p1 : Int} {s : MS} : pc (m_x6_fail p0 p1 s) (fun q => AP s q.2) := fun q e => AP.of (fr_x6_fail e) (by decide) (by decide)
theorem ap_x0_add {c : Int} {s : MS} : pc (m_x0_add c s) (fun o => AP s o) := by
  unfold m_x0_add m_x0_add_J30
  refine pc_rg (pc_if (fun c => pc_some (AP.rf s)) (fun c => pc_inb2 (fun hi => pc_stn (fun s5 e5 => pc_stn (fun s6 e6 => pc_some ⟨?_, fun j hj => ?_⟩)))))
  · rw [(q_II e6 : gI s6 941 = _), (q_Ai e5 : gI s5 941 = gI s 941)]; omega
  · rw [(q_Ia e6 : gA s6 48 = gA s5 48), (q_AA e5 : gA s5 48 = _), upZ_n (by omega)]
set_option maxHeartbeats 1000000 in
theorem ap_x6_opens {s : MS} : pc (m_x6_opens s) (fun q => AP s q.2) := by
  unfold m_x6_opens
  refine pc_rg ?_
  refine pc_if (fun _ => ?_) (fun _ => ?_)
  · skip
    refine pc_stn (fun s3 es3 => ?_)
    have hs3 := (AP.rf s).tr (AP.i es3 (by decide))
    exact pc_some hs3
  · skip
    refine pc_bn (fun qr6 eqr6 => ?_)
    have hqr6 := (AP.rf s).tr (ap_x6_fail _ eqr6)
    refine pc_bo ?_
    exact pc_some hqr6
set_option maxHeartbeats 1000000 in
theorem ap_x6_expectSign {p0 : Int} {s : MS} : pc (m_x6_expectSign p0 s) (fun q => AP s q) := by
  unfold m_x6_expectSign
  refine pc_bn (fun r3 er3 => ?_)
  refine pc_rg ?_
  refine pc_if (fun _ => ?_) (fun _ => ?_)
  · skip
    refine pc_bn (fun qr8 eqr8 => ?_)
    have hqr8 := (AP.rf s).tr (ap_x6_fail _ eqr8)
    unfold m_x6_expectSign_J25
    exact pc_some hqr8
  · skip
    refine pc_bn (fun s10 es10 => ?_)
    have hs10 := (AP.rf s).tr (AP.of (fr_x6_advance es10) (by decide) (by decide))
    unfold m_x6_expectSign_J25
    exact pc_some hs10
set_option maxHeartbeats 1000000 in
theorem ap_x6_readOther {rgs : (MS → Option MS) × (MS → Option MS)} {p0 : Int} {s : MS} (hr1 : ∀ s, pc (rgs.1 s) (fun o => AP s o)) (hr2 : ∀ s, pc (rgs.2 s) (fun o => AP s o)) : pc (m_x6_readOther rgs p0 s) (fun q => AP s q) := by
  unfold m_x6_readOther
  refine pc_bn (fun qr4 eqr4 => ?_)
  have hqr4 := (AP.rf s).tr (ap_x6_opens _ eqr4)
  refine pc_rg ?_
  refine pc_if (fun _ => ?_) (fun _ => ?_)
  · skip
    unfold m_x6_readOther_J33
    exact pc_some hqr4
  · skip
    refine pc_bn (fun s8 es8 => ?_)
    have hs8 := hqr4.tr (AP.of (fr_x6_advance es8) (by decide) (by decide))
    refine pc_bn (fun s10 es10 => ?_)
    have hs10 := hs8.tr (hr2 _ _ es10)
    refine pc_eqg ?_
    refine pc_bn (fun s13 es13 => ?_)
    have hs13 := hs10.tr (ap_x0_add _ es13)
    refine pc_stn (fun s14 es14 => ?_)
    have hs14 := hs13.tr (AP.i es14 (by decide))
    unfold m_x6_readOther_J33
    exact pc_some hs14
set_option maxHeartbeats 1000000 in
theorem ap_x6_readChoice {rgs : (MS → Option MS) × (MS → Option MS)} {p0 : Int} {s : MS} (hr1 : ∀ s, pc (rgs.1 s) (fun o => AP s o)) (hr2 : ∀ s, pc (rgs.2 s) (fun o => AP s o)) : pc (m_x6_readChoice rgs p0 s) (fun q => AP s q) := by
  unfold m_x6_readChoice
  refine pc_bn (fun s3 es3 => ?_)
  have hs3 := (AP.rf s).tr (AP.of (fr_x6_advance es3) (by decide) (by decide))
  refine pc_bn (fun r5 er5 => ?_)
  refine pc_rg ?_
  refine pc_if (fun _ => ?_) (fun _ => ?_)
  · skip
    refine pc_bn (fun qr29 eqr29 => ?_)
    have hqr29 := hs3.tr (ap_x6_fail _ eqr29)
    unfold m_x6_readChoice_J75
    exact pc_some hqr29
  · skip
    refine pc_bn (fun qr10 eqr10 => ?_)
    have hqr10 := hs3.tr (ap_x6_opens _ eqr10)
    refine pc_rg ?_
    refine pc_if (fun _ => ?_) (fun _ => ?_)
    · skip
      unfold m_x6_readChoice_J75
      exact pc_some hqr10
    · skip
      refine pc_bn (fun s14 es14 => ?_)
      have hs14 := hqr10.tr (AP.of (fr_x6_advance es14) (by decide) (by decide))
      refine pc_bn (fun s16 es16 => ?_)
      have hs16 := hs14.tr (hr1 _ _ es16)
      refine pc_bn (fun s18 es18 => ?_)
      have hs18 := hs16.tr (ap_x6_expectSign _ es18)
      refine pc_bn (fun s20 es20 => ?_)
      have hs20 := hs18.tr (hr1 _ _ es20)
      refine pc_bn (fun s22 es22 => ?_)
      have hs22 := hs20.tr (ap_x6_expectSign _ es22)
      refine pc_stn (fun s23 es23 => ?_)
      have hs23 := hs22.tr (AP.i es23 (by decide))
      refine pc_eqg ?_
      refine pc_bn (fun s26 es26 => ?_)
      have hs26 := hs23.tr (ap_x0_add _ es26)
      unfold m_x6_readChoice_J75
      exact pc_some hs26
set_option maxHeartbeats 1000000 in
theorem ap_x6_expectNumber_L55 {s : MS} : ∀ (n : Nat) (x6 : Int) (x7 : Int) (x8 : Int) (x9 : Int) (s10 : MS), AP s s10 → pc (m_x6_expectNumber_L55 n x6 x7 x8 x9 s10) (fun q => AP s q.2) := by
  refine fr_ind (fun _ _ _ _ _ _ => pc_none) (fun n55 ih55 x6 x7 x8 x9 s10 hs10 => ?_)
  show pc (m_x6_expectNumber_b55 (m_x6_expectNumber_L55 n55) x6 x7 x8 x9 s10) _
  unfold m_x6_expectNumber_b55
  refine pc_rg ?_
  refine pc_rg ?_
  refine pc_if (fun _ => ?_) (fun _ => ?_)
  · skip
    refine pc_rg ?_
    refine pc_rg ?_
    refine pc_if (fun _ => ?_) (fun _ => ?_)
    · skip
      unfold m_x6_expectNumber_J98
      refine pc_bn (fun qr5 eqr5 => ?_)
      have hqr5 := hs10.tr (ap_x6_fail _ eqr5)
      exact pc_some hqr5
    · skip
      refine pc_rg ?_
      refine pc_rg ?_
      refine pc_if (fun _ => ?_) (fun _ => ?_)
      · skip
        refine pc_bn (fun s21 es21 => ?_)
        have hs21 := hs10.tr (AP.of (fr_x6_advance es21) (by decide) (by decide))
        exact pc_some hs21
      · skip
        unfold m_x6_expectNumber_J98
        refine pc_bn (fun qr5 eqr5 => ?_)
        have hqr5 := hs10.tr (ap_x6_fail _ eqr5)
        exact pc_some hqr5
  · skip
    refine pc_bn (fun r23 er23 => ?_)
    exact ih55 _ _ _ _ _ hs10
set_option maxHeartbeats 1000000 in
theorem ap_x6_expectNumber {p0 : Int} {p1 : Int} {s : MS} : pc (m_x6_expectNumber p0 p1 s) (fun q => AP s q.2) := by
  unfold m_x6_expectNumber
  refine pc_rg ?_
  refine pc_if (fun _ => ?_) (fun _ => ?_)
  · skip
    refine pc_rg ?_
    refine pc_if (fun _ => ?_) (fun _ => ?_)
    · skip
      exact ap_x6_expectNumber_L55 FU _ _ _ _ _ (AP.rf s)
    · skip
      refine pc_bn (fun qr30 eqr30 => ?_)
      have hqr30 := (AP.rf s).tr (ap_x6_fail _ eqr30)
      exact pc_some hqr30
  · skip
    refine pc_bn (fun qr33 eqr33 => ?_)
    have hqr33 := (AP.rf s).tr (ap_x6_fail _ eqr33)
    exact pc_some hqr33
set_option maxHeartbeats 1000000 in
theorem ap_x6_readPart {rgs : (MS → Option MS) × (MS → Option MS)} {s : MS} (hr1 : ∀ s, pc (rgs.1 s) (fun o => AP s o)) (hr2 : ∀ s, pc (rgs.2 s) (fun o => AP s o)) : pc (m_x6_readPart rgs s) (fun q => AP s q) := by
  unfold m_x6_readPart
  refine pc_rg ?_
  refine pc_if (fun _ => ?_) (fun _ => ?_)
  · skip
    refine pc_eqg ?_
    refine pc_bn (fun qr72 eqr72 => ?_)
    have hqr72 := (AP.rf s).tr (ap_x6_expectNumber _ eqr72)
    refine pc_bn (fun s74 es74 => ?_)
    have hs74 := hqr72.tr (ap_x0_add _ es74)
    unfold m_x6_readPart_J196
    exact pc_some hs74
  · skip
    refine pc_bn (fun r36 er36 => ?_)
    refine pc_rg ?_
    refine pc_if (fun _ => ?_) (fun _ => ?_)
    · skip
      refine pc_bn (fun r40 er40 => ?_)
      refine pc_rg ?_
      refine pc_if (fun _ => ?_) (fun _ => ?_)
      · skip
        refine pc_bn (fun r44 er44 => ?_)
        refine pc_rg ?_
        refine pc_if (fun _ => ?_) (fun _ => ?_)
        · skip
          refine pc_rg ?_
          refine pc_if (fun _ => ?_) (fun _ => ?_)
          · skip
            refine pc_bn (fun r50 er50 => ?_)
            refine pc_rg ?_
            refine pc_if (fun _ => ?_) (fun _ => ?_)
            · skip
              refine pc_bn (fun r54 er54 => ?_)
              refine pc_rg ?_
              refine pc_if (fun _ => ?_) (fun _ => ?_)
              · skip
                unfold m_x6_readPart_J158
                refine pc_bn (fun r4 er4 => ?_)
                refine pc_rg ?_
                refine pc_if (fun _ => ?_) (fun _ => ?_)
                · skip
                  refine pc_bn (fun qr9 eqr9 => ?_)
                  have hqr9 := (AP.rf s).tr (ap_x6_fail _ eqr9)
                  unfold m_x6_readPart_J196
                  exact pc_some hqr9
                · skip
                  refine pc_eqg ?_
                  refine pc_bn (fun s12 es12 => ?_)
                  have hs12 := (AP.rf s).tr (ap_x0_add _ es12)
                  refine pc_bn (fun s14 es14 => ?_)
                  have hs14 := hs12.tr (AP.of (fr_x6_advance es14) (by decide) (by decide))
                  unfold m_x6_readPart_J196
                  exact pc_some hs14
              · skip
                unfold m_x6_readPart_J135
                refine pc_bn (fun r21 er21 => ?_)
                refine pc_rg ?_
                refine pc_if (fun _ => ?_) (fun _ => ?_)
                · skip
                  unfold m_x6_readPart_J152
                  refine pc_bn (fun s18 es18 => ?_)
                  have hs18 := (AP.rf s).tr (ap_x6_readOther hr1 hr2 _ es18)
                  unfold m_x6_readPart_J196
                  exact pc_some hs18
                · skip
                  unfold m_x6_readPart_J152
                  refine pc_bn (fun s18 es18 => ?_)
                  have hs18 := (AP.rf s).tr (ap_x6_readOther hr1 hr2 _ es18)
                  unfold m_x6_readPart_J196
                  exact pc_some hs18
            · skip
              unfold m_x6_readPart_J135
              refine pc_bn (fun r21 er21 => ?_)
              refine pc_rg ?_
              refine pc_if (fun _ => ?_) (fun _ => ?_)
              · skip
                unfold m_x6_readPart_J152
                refine pc_bn (fun s18 es18 => ?_)
                have hs18 := (AP.rf s).tr (ap_x6_readOther hr1 hr2 _ es18)
                unfold m_x6_readPart_J196
                exact pc_some hs18
              · skip
                unfold m_x6_readPart_J152
                refine pc_bn (fun s18 es18 => ?_)
                have hs18 := (AP.rf s).tr (ap_x6_readOther hr1 hr2 _ es18)
                unfold m_x6_readPart_J196
                exact pc_some hs18
          · skip
            unfold m_x6_readPart_J158
            refine pc_bn (fun r4 er4 => ?_)
            refine pc_rg ?_
            refine pc_if (fun _ => ?_) (fun _ => ?_)
            · skip
              refine pc_bn (fun qr9 eqr9 => ?_)
              have hqr9 := (AP.rf s).tr (ap_x6_fail _ eqr9)
              unfold m_x6_readPart_J196
              exact pc_some hqr9
            · skip
              refine pc_eqg ?_
              refine pc_bn (fun s12 es12 => ?_)
              have hs12 := (AP.rf s).tr (ap_x0_add _ es12)
              refine pc_bn (fun s14 es14 => ?_)
              have hs14 := hs12.tr (AP.of (fr_x6_advance es14) (by decide) (by decide))
              unfold m_x6_readPart_J196
              exact pc_some hs14
        · skip
          unfold m_x6_readPart_J86
          refine pc_bn (fun r30 er30 => ?_)
          refine pc_rg ?_
          refine pc_if (fun _ => ?_) (fun _ => ?_)
          · skip
            unfold m_x6_readPart_J103
            refine pc_bn (fun s27 es27 => ?_)
            have hs27 := (AP.rf s).tr (ap_x6_readChoice hr1 hr2 _ es27)
            unfold m_x6_readPart_J196
            exact pc_some hs27
          · skip
            unfold m_x6_readPart_J103
            refine pc_bn (fun s27 es27 => ?_)
            have hs27 := (AP.rf s).tr (ap_x6_readChoice hr1 hr2 _ es27)
            unfold m_x6_readPart_J196
            exact pc_some hs27
      · skip
        unfold m_x6_readPart_J86
        refine pc_bn (fun r30 er30 => ?_)
        refine pc_rg ?_
        refine pc_if (fun _ => ?_) (fun _ => ?_)
        · skip
          unfold m_x6_readPart_J103
          refine pc_bn (fun s27 es27 => ?_)
          have hs27 := (AP.rf s).tr (ap_x6_readChoice hr1 hr2 _ es27)
          unfold m_x6_readPart_J196
          exact pc_some hs27
        · skip
          unfold m_x6_readPart_J103
          refine pc_bn (fun s27 es27 => ?_)
          have hs27 := (AP.rf s).tr (ap_x6_readChoice hr1 hr2 _ es27)
          unfold m_x6_readPart_J196
          exact pc_some hs27
    · skip
      refine pc_bn (fun qr59 eqr59 => ?_)
      have hqr59 := (AP.rf s).tr (ap_x6_opens _ eqr59)
      refine pc_rg ?_
      refine pc_if (fun _ => ?_) (fun _ => ?_)
      · skip
        unfold m_x6_readPart_J196
        exact pc_some hqr59
      · skip
        refine pc_bn (fun s63 es63 => ?_)
        have hs63 := hqr59.tr (AP.of (fr_x6_advance es63) (by decide) (by decide))
        refine pc_bn (fun s65 es65 => ?_)
        have hs65 := hs63.tr (hr1 _ _ es65)
        refine pc_bn (fun s67 es67 => ?_)
        have hs67 := hs65.tr (ap_x6_expectSign _ es67)
        refine pc_stn (fun s68 es68 => ?_)
        have hs68 := hs67.tr (AP.i es68 (by decide))
        unfold m_x6_readPart_J196
        exact pc_some hs68
set_option maxHeartbeats 1000000 in
theorem ap_x6_readProduct {rgs : (MS → Option MS) × (MS → Option MS)} {s : MS} (hr1 : ∀ s, pc (rgs.1 s) (fun o => AP s o)) (hr2 : ∀ s, pc (rgs.2 s) (fun o => AP s o)) : pc (m_x6_readProduct rgs s) (fun q => AP s q) := by
  unfold m_x6_readProduct
  refine pc_bn (fun s31 es31 => ?_)
  have hs31 := (AP.rf s).tr (ap_x6_readPart hr1 hr2 _ es31)
  have L6 : ∀ (n : Nat) (x2 : Int) (s3 : MS), AP s s3 → pc (m_x6_readProduct_L6 rgs n x2 s3) (fun q => AP s q) := by
    refine fr_ind (fun _ _ _ => pc_none) (fun n6 ih6 x2 s3 hs3 => ?_)
    show pc (m_x6_readProduct_b6 rgs (m_x6_readProduct_L6 rgs n6) x2 s3) _
    unfold m_x6_readProduct_b6
    refine pc_rg ?_
    refine pc_if (fun _ => ?_) (fun _ => ?_)
    · skip
      unfold m_x6_readProduct_J70
      exact pc_some hs3
    · skip
      refine pc_bn (fun r23 er23 => ?_)
      refine pc_rg ?_
      refine pc_if (fun _ => ?_) (fun _ => ?_)
      · skip
        refine pc_bn (fun r27 er27 => ?_)
        refine pc_rg ?_
        refine pc_if (fun _ => ?_) (fun _ => ?_)
        · skip
          unfold m_x6_readProduct_J70
          exact pc_some hs3
        · skip
          unfold m_x6_readProduct_J31
          refine pc_bn (fun r17 er17 => ?_)
          refine pc_rg ?_
          refine pc_if (fun _ => ?_) (fun _ => ?_)
          · skip
            unfold m_x6_readProduct_J47
            refine pc_bn (fun s8 es8 => ?_)
            have hs8 := hs3.tr (AP.of (fr_x6_advance es8) (by decide) (by decide))
            refine pc_bn (fun s10 es10 => ?_)
            have hs10 := hs8.tr (ap_x6_readPart hr1 hr2 _ es10)
            refine pc_eqg ?_
            refine pc_bn (fun s13 es13 => ?_)
            have hs13 := hs10.tr (ap_x0_add _ es13)
            exact ih6 _ _ hs13
          · skip
            unfold m_x6_readProduct_J47
            refine pc_bn (fun s8 es8 => ?_)
            have hs8 := hs3.tr (AP.of (fr_x6_advance es8) (by decide) (by decide))
            refine pc_bn (fun s10 es10 => ?_)
            have hs10 := hs8.tr (ap_x6_readPart hr1 hr2 _ es10)
            refine pc_eqg ?_
            refine pc_bn (fun s13 es13 => ?_)
            have hs13 := hs10.tr (ap_x0_add _ es13)
            exact ih6 _ _ hs13
      · skip
        unfold m_x6_readProduct_J31
        refine pc_bn (fun r17 er17 => ?_)
        refine pc_rg ?_
        refine pc_if (fun _ => ?_) (fun _ => ?_)
        · skip
          unfold m_x6_readProduct_J47
          refine pc_bn (fun s8 es8 => ?_)
          have hs8 := hs3.tr (AP.of (fr_x6_advance es8) (by decide) (by decide))
          refine pc_bn (fun s10 es10 => ?_)
          have hs10 := hs8.tr (ap_x6_readPart hr1 hr2 _ es10)
          refine pc_eqg ?_
          refine pc_bn (fun s13 es13 => ?_)
          have hs13 := hs10.tr (ap_x0_add _ es13)
          exact ih6 _ _ hs13
        · skip
          unfold m_x6_readProduct_J47
          refine pc_bn (fun s8 es8 => ?_)
          have hs8 := hs3.tr (AP.of (fr_x6_advance es8) (by decide) (by decide))
          refine pc_bn (fun s10 es10 => ?_)
          have hs10 := hs8.tr (ap_x6_readPart hr1 hr2 _ es10)
          refine pc_eqg ?_
          refine pc_bn (fun s13 es13 => ?_)
          have hs13 := hs10.tr (ap_x0_add _ es13)
          exact ih6 _ _ hs13
  exact L6 FU _ _ hs31
set_option maxHeartbeats 1000000 in
theorem ap_x6_readSum {rgs : (MS → Option MS) × (MS → Option MS)} {s : MS} (hr1 : ∀ s, pc (rgs.1 s) (fun o => AP s o)) (hr2 : ∀ s, pc (rgs.2 s) (fun o => AP s o)) : pc (m_x6_readSum rgs s) (fun q => AP s q) := by
  unfold m_x6_readSum
  refine pc_bn (fun s31 es31 => ?_)
  have hs31 := (AP.rf s).tr (ap_x6_readProduct hr1 hr2 _ es31)
  have L6 : ∀ (n : Nat) (x2 : Int) (s3 : MS), AP s s3 → pc (m_x6_readSum_L6 rgs n x2 s3) (fun q => AP s q) := by
    refine fr_ind (fun _ _ _ => pc_none) (fun n6 ih6 x2 s3 hs3 => ?_)
    show pc (m_x6_readSum_b6 rgs (m_x6_readSum_L6 rgs n6) x2 s3) _
    unfold m_x6_readSum_b6
    refine pc_rg ?_
    refine pc_if (fun _ => ?_) (fun _ => ?_)
    · skip
      unfold m_x6_readSum_J69
      exact pc_some hs3
    · skip
      refine pc_bn (fun r23 er23 => ?_)
      refine pc_rg ?_
      refine pc_if (fun _ => ?_) (fun _ => ?_)
      · skip
        refine pc_bn (fun r27 er27 => ?_)
        refine pc_rg ?_
        refine pc_if (fun _ => ?_) (fun _ => ?_)
        · skip
          unfold m_x6_readSum_J69
          exact pc_some hs3
        · skip
          unfold m_x6_readSum_J31
          refine pc_bn (fun r17 er17 => ?_)
          refine pc_rg ?_
          refine pc_if (fun _ => ?_) (fun _ => ?_)
          · skip
            unfold m_x6_readSum_J46
            refine pc_bn (fun s8 es8 => ?_)
            have hs8 := hs3.tr (AP.of (fr_x6_advance es8) (by decide) (by decide))
            refine pc_bn (fun s10 es10 => ?_)
            have hs10 := hs8.tr (ap_x6_readProduct hr1 hr2 _ es10)
            refine pc_eqg ?_
            refine pc_bn (fun s13 es13 => ?_)
            have hs13 := hs10.tr (ap_x0_add _ es13)
            exact ih6 _ _ hs13
          · skip
            unfold m_x6_readSum_J46
            refine pc_bn (fun s8 es8 => ?_)
            have hs8 := hs3.tr (AP.of (fr_x6_advance es8) (by decide) (by decide))
            refine pc_bn (fun s10 es10 => ?_)
            have hs10 := hs8.tr (ap_x6_readProduct hr1 hr2 _ es10)
            refine pc_eqg ?_
            refine pc_bn (fun s13 es13 => ?_)
            have hs13 := hs10.tr (ap_x0_add _ es13)
            exact ih6 _ _ hs13
      · skip
        unfold m_x6_readSum_J31
        refine pc_bn (fun r17 er17 => ?_)
        refine pc_rg ?_
        refine pc_if (fun _ => ?_) (fun _ => ?_)
        · skip
          unfold m_x6_readSum_J46
          refine pc_bn (fun s8 es8 => ?_)
          have hs8 := hs3.tr (AP.of (fr_x6_advance es8) (by decide) (by decide))
          refine pc_bn (fun s10 es10 => ?_)
          have hs10 := hs8.tr (ap_x6_readProduct hr1 hr2 _ es10)
          refine pc_eqg ?_
          refine pc_bn (fun s13 es13 => ?_)
          have hs13 := hs10.tr (ap_x0_add _ es13)
          exact ih6 _ _ hs13
        · skip
          unfold m_x6_readSum_J46
          refine pc_bn (fun s8 es8 => ?_)
          have hs8 := hs3.tr (AP.of (fr_x6_advance es8) (by decide) (by decide))
          refine pc_bn (fun s10 es10 => ?_)
          have hs10 := hs8.tr (ap_x6_readProduct hr1 hr2 _ es10)
          refine pc_eqg ?_
          refine pc_bn (fun s13 es13 => ?_)
          have hs13 := hs10.tr (ap_x0_add _ es13)
          exact ih6 _ _ hs13
  exact L6 FU _ _ hs31
theorem ap_RG1 : ∀ n : Nat, (∀ s, pc ((RG1 n).1 s) (fun o => AP s o)) ∧ ∀ s, pc ((RG1 n).2 s) (fun o => AP s o) := by
  refine fr_ind ⟨fun _ => pc_none, fun _ => pc_none⟩ (fun n ih => ⟨fun s => ?_, fun s => ?_⟩)
  · show pc (m_x6_readSum (RG1 n) s) _
    exact ap_x6_readSum ih.1 ih.2
  · show pc (m_x6_readPart (RG1 n) s) _
    exact ap_x6_readPart ih.1 ih.2
theorem ap_x6_readSumC {s : MS} : pc (m_x6_readSumC s) (fun q => AP s q) := (ap_RG1 8).1 s
set_option maxHeartbeats 1000000 in
theorem ap_x6_comparison {s : MS} : pc (m_x6_comparison s) (fun q => AP s q.2) := by
  unfold m_x6_comparison
  refine pc_bn (fun r6 er6 => ?_)
  refine pc_rg ?_
  refine pc_if (fun _ => ?_) (fun _ => ?_)
  · skip
    refine pc_bn (fun r10 er10 => ?_)
    refine pc_rg ?_
    refine pc_if (fun _ => ?_) (fun _ => ?_)
    · skip
      refine pc_bn (fun r14 er14 => ?_)
      refine pc_rg ?_
      refine pc_if (fun _ => ?_) (fun _ => ?_)
      · skip
        refine pc_bn (fun qr19 eqr19 => ?_)
        have hqr19 := (AP.rf s).tr (ap_x6_fail _ eqr19)
        unfold m_x6_comparison_J52
        refine pc_bn (fun s4 es4 => ?_)
        have hs4 := hqr19.tr (AP.of (fr_x6_advance es4) (by decide) (by decide))
        exact pc_some hs4
      · skip
        unfold m_x6_comparison_J52
        refine pc_bn (fun s4 es4 => ?_)
        have hs4 := (AP.rf s).tr (AP.of (fr_x6_advance es4) (by decide) (by decide))
        exact pc_some hs4
    · skip
      unfold m_x6_comparison_J52
      refine pc_bn (fun s4 es4 => ?_)
      have hs4 := (AP.rf s).tr (AP.of (fr_x6_advance es4) (by decide) (by decide))
      exact pc_some hs4
  · skip
    unfold m_x6_comparison_J52
    refine pc_bn (fun s4 es4 => ?_)
    have hs4 := (AP.rf s).tr (AP.of (fr_x6_advance es4) (by decide) (by decide))
    exact pc_some hs4
set_option maxHeartbeats 1000000 in
theorem ap_x6_readFact {rgs : (MS → Option MS) × (MS → Option MS)} {s : MS} (hr1 : ∀ s, pc (rgs.1 s) (fun o => AP s o)) (hr2 : ∀ s, pc (rgs.2 s) (fun o => AP s o)) : pc (m_x6_readFact rgs s) (fun q => AP s q) := by
  unfold m_x6_readFact
  refine pc_bn (fun r3 er3 => ?_)
  refine pc_rg ?_
  refine pc_if (fun _ => ?_) (fun _ => ?_)
  · skip
    refine pc_bn (fun r7 er7 => ?_)
    refine pc_rg ?_
    refine pc_if (fun _ => ?_) (fun _ => ?_)
    · skip
      refine pc_bn (fun r11 er11 => ?_)
      refine pc_rg ?_
      refine pc_if (fun _ => ?_) (fun _ => ?_)
      · skip
        refine pc_bn (fun s15 es15 => ?_)
        have hs15 := (AP.rf s).tr (ap_x6_readSumC _ es15)
        refine pc_bn (fun qr18 eqr18 => ?_)
        have hqr18 := hs15.tr (ap_x6_comparison _ eqr18)
        refine pc_bn (fun s20 es20 => ?_)
        have hs20 := hqr18.tr (ap_x6_readSumC _ es20)
        refine pc_eqg ?_
        refine pc_bn (fun s23 es23 => ?_)
        have hs23 := hs20.tr (ap_x0_add _ es23)
        unfold m_x6_readFact_J134
        exact pc_some hs23
      · skip
        refine pc_eqg ?_
        refine pc_bn (fun s26 es26 => ?_)
        have hs26 := (AP.rf s).tr (ap_x0_add _ es26)
        refine pc_bn (fun s28 es28 => ?_)
        have hs28 := hs26.tr (AP.of (fr_x6_advance es28) (by decide) (by decide))
        unfold m_x6_readFact_J134
        exact pc_some hs28
    · skip
      refine pc_bn (fun qr31 eqr31 => ?_)
      have hqr31 := (AP.rf s).tr (ap_x6_opens _ eqr31)
      refine pc_rg ?_
      refine pc_if (fun _ => ?_) (fun _ => ?_)
      · skip
        unfold m_x6_readFact_J134
        exact pc_some hqr31
      · skip
        refine pc_bn (fun s35 es35 => ?_)
        have hs35 := hqr31.tr (AP.of (fr_x6_advance es35) (by decide) (by decide))
        refine pc_bn (fun s37 es37 => ?_)
        have hs37 := hs35.tr (hr2 _ _ es37)
        refine pc_bn (fun s39 es39 => ?_)
        have hs39 := hs37.tr (ap_x6_expectSign _ es39)
        refine pc_stn (fun s40 es40 => ?_)
        have hs40 := hs39.tr (AP.i es40 (by decide))
        unfold m_x6_readFact_J134
        exact pc_some hs40
  · skip
    refine pc_bn (fun qr43 eqr43 => ?_)
    have hqr43 := (AP.rf s).tr (ap_x6_opens _ eqr43)
    refine pc_rg ?_
    refine pc_if (fun _ => ?_) (fun _ => ?_)
    · skip
      unfold m_x6_readFact_J134
      exact pc_some hqr43
    · skip
      refine pc_bn (fun s47 es47 => ?_)
      have hs47 := hqr43.tr (AP.of (fr_x6_advance es47) (by decide) (by decide))
      refine pc_bn (fun s49 es49 => ?_)
      have hs49 := hs47.tr (hr1 _ _ es49)
      refine pc_eqg ?_
      refine pc_bn (fun s52 es52 => ?_)
      have hs52 := hs49.tr (ap_x0_add _ es52)
      refine pc_stn (fun s53 es53 => ?_)
      have hs53 := hs52.tr (AP.i es53 (by decide))
      unfold m_x6_readFact_J134
      exact pc_some hs53
set_option maxHeartbeats 1000000 in
theorem ap_x6_readBoth {rgs : (MS → Option MS) × (MS → Option MS)} {s : MS} (hr1 : ∀ s, pc (rgs.1 s) (fun o => AP s o)) (hr2 : ∀ s, pc (rgs.2 s) (fun o => AP s o)) : pc (m_x6_readBoth rgs s) (fun q => AP s q) := by
  unfold m_x6_readBoth
  refine pc_bn (fun s18 es18 => ?_)
  have hs18 := (AP.rf s).tr (ap_x6_readFact hr1 hr2 _ es18)
  have L6 : ∀ (n : Nat) (x2 : Int) (s3 : MS), AP s s3 → pc (m_x6_readBoth_L6 rgs n x2 s3) (fun q => AP s q) := by
    refine fr_ind (fun _ _ _ => pc_none) (fun n6 ih6 x2 s3 hs3 => ?_)
    show pc (m_x6_readBoth_b6 rgs (m_x6_readBoth_L6 rgs n6) x2 s3) _
    unfold m_x6_readBoth_b6
    refine pc_rg ?_
    refine pc_if (fun _ => ?_) (fun _ => ?_)
    · skip
      unfold m_x6_readBoth_J45
      exact pc_some hs3
    · skip
      refine pc_bn (fun r7 er7 => ?_)
      refine pc_rg ?_
      refine pc_if (fun _ => ?_) (fun _ => ?_)
      · skip
        unfold m_x6_readBoth_J45
        exact pc_some hs3
      · skip
        refine pc_bn (fun s11 es11 => ?_)
        have hs11 := hs3.tr (AP.of (fr_x6_advance es11) (by decide) (by decide))
        refine pc_bn (fun s13 es13 => ?_)
        have hs13 := hs11.tr (ap_x6_readFact hr1 hr2 _ es13)
        refine pc_eqg ?_
        refine pc_bn (fun s16 es16 => ?_)
        have hs16 := hs13.tr (ap_x0_add _ es16)
        exact ih6 _ _ hs16
  exact L6 FU _ _ hs18
set_option maxHeartbeats 1000000 in
theorem ap_x6_readTest {rgs : (MS → Option MS) × (MS → Option MS)} {s : MS} (hr1 : ∀ s, pc (rgs.1 s) (fun o => AP s o)) (hr2 : ∀ s, pc (rgs.2 s) (fun o => AP s o)) : pc (m_x6_readTest rgs s) (fun q => AP s q) := by
  unfold m_x6_readTest
  refine pc_bn (fun s18 es18 => ?_)
  have hs18 := (AP.rf s).tr (ap_x6_readBoth hr1 hr2 _ es18)
  have L6 : ∀ (n : Nat) (x2 : Int) (s3 : MS), AP s s3 → pc (m_x6_readTest_L6 rgs n x2 s3) (fun q => AP s q) := by
    refine fr_ind (fun _ _ _ => pc_none) (fun n6 ih6 x2 s3 hs3 => ?_)
    show pc (m_x6_readTest_b6 rgs (m_x6_readTest_L6 rgs n6) x2 s3) _
    unfold m_x6_readTest_b6
    refine pc_rg ?_
    refine pc_if (fun _ => ?_) (fun _ => ?_)
    · skip
      unfold m_x6_readTest_J45
      exact pc_some hs3
    · skip
      refine pc_bn (fun r7 er7 => ?_)
      refine pc_rg ?_
      refine pc_if (fun _ => ?_) (fun _ => ?_)
      · skip
        unfold m_x6_readTest_J45
        exact pc_some hs3
      · skip
        refine pc_bn (fun s11 es11 => ?_)
        have hs11 := hs3.tr (AP.of (fr_x6_advance es11) (by decide) (by decide))
        refine pc_bn (fun s13 es13 => ?_)
        have hs13 := hs11.tr (ap_x6_readBoth hr1 hr2 _ es13)
        refine pc_eqg ?_
        refine pc_bn (fun s16 es16 => ?_)
        have hs16 := hs13.tr (ap_x0_add _ es16)
        exact ih6 _ _ hs16
  exact L6 FU _ _ hs18
theorem ap_RG2 : ∀ n : Nat, (∀ s, pc ((RG2 n).1 s) (fun o => AP s o)) ∧ ∀ s, pc ((RG2 n).2 s) (fun o => AP s o) := by
  refine fr_ind ⟨fun _ => pc_none, fun _ => pc_none⟩ (fun n ih => ⟨fun s => ?_, fun s => ?_⟩)
  · show pc (m_x6_readFact (RG2 n) s) _
    exact ap_x6_readFact ih.1 ih.2
  · show pc (m_x6_readTest (RG2 n) s) _
    exact ap_x6_readTest ih.1 ih.2
theorem ap_x6_readTestC {s : MS} : pc (m_x6_readTestC s) (fun q => AP s q) := (ap_RG2 8).2 s
