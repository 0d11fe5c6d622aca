/-! ===== a fault that is there stays ===== -/
def FKp (i j : Nat) (s o : MS) : Prop := gI s i ≠ 0 → gI o i = gI s i ∧ gI o j = gI s j
theorem FKp.rf {i j : Nat} (s : MS) : FKp i j s s := fun _ => ⟨rfl, rfl⟩
theorem FKp.tr {i j : Nat} {s o q : MS} (h : FKp i j s o) (g : FKp i j o q) : FKp i j s q := fun z => by
  have a := h z
  have b := g (by rw [a.1]; exact z)
  exact ⟨b.1.trans a.1, b.2.trans a.2⟩
theorem FKp.of {i j : Nat} {I A L B : List Nat} {s o : MS} (h : Fr I A L B s o) (hi : i ∉ I) (hj : j ∉ I) : FKp i j s o := fun _ => ⟨h.1 i hi, h.1 j hj⟩
theorem FKp.i {i j k : Nat} {v : Int} {s o : MS} (e : sI s k v = o) (hi : i ≠ k) (hj : j ≠ k) : FKp i j s o := fun _ => ⟨q_Ii e hi, q_Ii e hj⟩
theorem FKp.a {i j k : Nat} {f : Nat → Int} {s o : MS} (e : sA s k f = o) : FKp i j s o := fun _ => ⟨q_Ai e, q_Ai e⟩
theorem FKp.l {i j k : Nat} {v : Int} {s o : MS} (e : sL s k v = o) : FKp i j s o := fun _ => ⟨q_Li e, q_Li e⟩
theorem FKp.b {i j k : Nat} {f : Nat → Int} {s o : MS} (e : sB s k f = o) : FKp i j s o := fun _ => ⟨q_Bi e, q_Bi e⟩
theorem fk_x6_fail {p0 p1 : Int} {s : MS} : pc (m_x6_fail p0 p1 s) (fun q => FKp 100 101 s q.2) := by
  unfold m_x6_fail m_x6_fail_J22
  exact pc_rg (pc_if (fun c => pc_stn (fun _ _ => pc_stn (fun _ _ => pc_stn (fun _ _ => pc_some (fun z => absurd c z))))) (fun c => pc_some (FKp.rf s)))
theorem fk_x12_fail {p0 p1 : Int} {s : MS} : pc (m_x12_fail p0 p1 s) (fun q => FKp 5 6 s q) := by
  unfold m_x12_fail
  exact pc_rg (pc_if (fun c => pc_stn (fun _ _ => pc_stn (fun _ _ => pc_some (fun z => absurd c z)))) (fun c => pc_some (FKp.rf s)))
theorem pc_rdL {α : Type} {f : Nat → Int} {n : Nat} {i : Int} {k : Int → Option α} {P : α → Prop} (h : pc (k (f i.toNat)) P) : pc (rdL f n i k) P := by
  unfold rdL
  split
  · exact h
  · exact pc_none
theorem pc_rgL {α : Type} {x : Int} {k : Option α} {P : α → Prop} (h : pc k P) : pc (rgL x k) P := by
  unfold rgL
  split
  · exact h
  · exact pc_none
theorem pc_dvL {α : Type} {x y : Int} {k : Option α} {P : α → Prop} (h : pc k P) : pc (dvL x y k) P := by
  unfold dvL
  split
  · exact h
  · exact pc_none
set_option maxHeartbeats 1000000 in
theorem fk_x6_opens {s : MS} : pc (m_x6_opens s) (fun q => FKp 100 101 s q.2) := by
  unfold m_x6_opens
  refine pc_rg ?_
  refine pc_if (fun _ => ?_) (fun _ => ?_)
  · skip
    refine pc_stn (fun s3 es3 => ?_)
    have hs3 := (FKp.rf s).tr (FKp.i (i := 100) (j := 101) es3 (by decide) (by decide))
    exact pc_some hs3
  · skip
    refine pc_bn (fun qr6 eqr6 => ?_)
    have hqr6 := (FKp.rf s).tr (fk_x6_fail _ eqr6)
    refine pc_bo ?_
    exact pc_some hqr6
set_option maxHeartbeats 1000000 in
theorem fk_x6_expectSign {p0 : Int} {s : MS} : pc (m_x6_expectSign p0 s) (fun q => FKp 100 101 s q) := by
  unfold m_x6_expectSign
  refine pc_bn (fun r3 er3 => ?_)
  refine pc_rg ?_
  refine pc_if (fun _ => ?_) (fun _ => ?_)
  · skip
    refine pc_bn (fun qr8 eqr8 => ?_)
    have hqr8 := (FKp.rf s).tr (fk_x6_fail _ eqr8)
    unfold m_x6_expectSign_J25
    exact pc_some hqr8
  · skip
    refine pc_bn (fun s10 es10 => ?_)
    have hs10 := (FKp.rf s).tr (FKp.of (i := 100) (j := 101) (fr_x6_advance es10) (by decide) (by decide))
    unfold m_x6_expectSign_J25
    exact pc_some hs10
set_option maxHeartbeats 1000000 in
theorem fk_x6_readOther {rgs : (MS → Option MS) × (MS → Option MS)} {p0 : Int} {s : MS} (hr1 : ∀ s, pc (rgs.1 s) (fun o => FKp 100 101 s o)) (hr2 : ∀ s, pc (rgs.2 s) (fun o => FKp 100 101 s o)) : pc (m_x6_readOther rgs p0 s) (fun q => FKp 100 101 s q) := by
  unfold m_x6_readOther
  refine pc_bn (fun qr4 eqr4 => ?_)
  have hqr4 := (FKp.rf s).tr (fk_x6_opens _ eqr4)
  refine pc_rg ?_
  refine pc_if (fun _ => ?_) (fun _ => ?_)
  · skip
    unfold m_x6_readOther_J33
    exact pc_some hqr4
  · skip
    refine pc_bn (fun s8 es8 => ?_)
    have hs8 := hqr4.tr (FKp.of (i := 100) (j := 101) (fr_x6_advance es8) (by decide) (by decide))
    refine pc_bn (fun s10 es10 => ?_)
    have hs10 := hs8.tr (hr2 _ _ es10)
    refine pc_eqg ?_
    refine pc_bn (fun s13 es13 => ?_)
    have hs13 := hs10.tr (FKp.of (i := 100) (j := 101) (fr_x0_add es13) (by decide) (by decide))
    refine pc_stn (fun s14 es14 => ?_)
    have hs14 := hs13.tr (FKp.i (i := 100) (j := 101) es14 (by decide) (by decide))
    unfold m_x6_readOther_J33
    exact pc_some hs14
set_option maxHeartbeats 1000000 in
theorem fk_x6_readChoice {rgs : (MS → Option MS) × (MS → Option MS)} {p0 : Int} {s : MS} (hr1 : ∀ s, pc (rgs.1 s) (fun o => FKp 100 101 s o)) (hr2 : ∀ s, pc (rgs.2 s) (fun o => FKp 100 101 s o)) : pc (m_x6_readChoice rgs p0 s) (fun q => FKp 100 101 s q) := by
  unfold m_x6_readChoice
  refine pc_bn (fun s3 es3 => ?_)
  have hs3 := (FKp.rf s).tr (FKp.of (i := 100) (j := 101) (fr_x6_advance es3) (by decide) (by decide))
  refine pc_bn (fun r5 er5 => ?_)
  refine pc_rg ?_
  refine pc_if (fun _ => ?_) (fun _ => ?_)
  · skip
    refine pc_bn (fun qr29 eqr29 => ?_)
    have hqr29 := hs3.tr (fk_x6_fail _ eqr29)
    unfold m_x6_readChoice_J75
    exact pc_some hqr29
  · skip
    refine pc_bn (fun qr10 eqr10 => ?_)
    have hqr10 := hs3.tr (fk_x6_opens _ eqr10)
    refine pc_rg ?_
    refine pc_if (fun _ => ?_) (fun _ => ?_)
    · skip
      unfold m_x6_readChoice_J75
      exact pc_some hqr10
    · skip
      refine pc_bn (fun s14 es14 => ?_)
      have hs14 := hqr10.tr (FKp.of (i := 100) (j := 101) (fr_x6_advance es14) (by decide) (by decide))
      refine pc_bn (fun s16 es16 => ?_)
      have hs16 := hs14.tr (hr1 _ _ es16)
      refine pc_bn (fun s18 es18 => ?_)
      have hs18 := hs16.tr (fk_x6_expectSign _ es18)
      refine pc_bn (fun s20 es20 => ?_)
      have hs20 := hs18.tr (hr1 _ _ es20)
      refine pc_bn (fun s22 es22 => ?_)
      have hs22 := hs20.tr (fk_x6_expectSign _ es22)
      refine pc_stn (fun s23 es23 => ?_)
      have hs23 := hs22.tr (FKp.i (i := 100) (j := 101) es23 (by decide) (by decide))
      refine pc_eqg ?_
      refine pc_bn (fun s26 es26 => ?_)
      have hs26 := hs23.tr (FKp.of (i := 100) (j := 101) (fr_x0_add es26) (by decide) (by decide))
      unfold m_x6_readChoice_J75
      exact pc_some hs26
set_option maxHeartbeats 1000000 in
theorem fk_x6_expectNumber_L55 {s : MS} : ∀ (n : Nat) (x6 : Int) (x7 : Int) (x8 : Int) (x9 : Int) (s10 : MS), FKp 100 101 s s10 → pc (m_x6_expectNumber_L55 n x6 x7 x8 x9 s10) (fun q => FKp 100 101 s q.2) := by
  refine fr_ind (fun _ _ _ _ _ _ => pc_none) (fun n55 ih55 x6 x7 x8 x9 s10 hs10 => ?_)
  show pc (m_x6_expectNumber_b55 (m_x6_expectNumber_L55 n55) x6 x7 x8 x9 s10) _
  unfold m_x6_expectNumber_b55
  refine pc_rg ?_
  refine pc_rg ?_
  refine pc_if (fun _ => ?_) (fun _ => ?_)
  · skip
    refine pc_rg ?_
    refine pc_rg ?_
    refine pc_if (fun _ => ?_) (fun _ => ?_)
    · skip
      unfold m_x6_expectNumber_J98
      refine pc_bn (fun qr5 eqr5 => ?_)
      have hqr5 := hs10.tr (fk_x6_fail _ eqr5)
      exact pc_some hqr5
    · skip
      refine pc_rg ?_
      refine pc_rg ?_
      refine pc_if (fun _ => ?_) (fun _ => ?_)
      · skip
        refine pc_bn (fun s21 es21 => ?_)
        have hs21 := hs10.tr (FKp.of (i := 100) (j := 101) (fr_x6_advance es21) (by decide) (by decide))
        exact pc_some hs21
      · skip
        unfold m_x6_expectNumber_J98
        refine pc_bn (fun qr5 eqr5 => ?_)
        have hqr5 := hs10.tr (fk_x6_fail _ eqr5)
        exact pc_some hqr5
  · skip
    refine pc_bn (fun r23 er23 => ?_)
    exact ih55 _ _ _ _ _ hs10
set_option maxHeartbeats 1000000 in
theorem fk_x6_expectNumber {p0 : Int} {p1 : Int} {s : MS} : pc (m_x6_expectNumber p0 p1 s) (fun q => FKp 100 101 s q.2) := by
  unfold m_x6_expectNumber
  refine pc_rg ?_
  refine pc_if (fun _ => ?_) (fun _ => ?_)
  · skip
    refine pc_rg ?_
    refine pc_if (fun _ => ?_) (fun _ => ?_)
    · skip
      exact fk_x6_expectNumber_L55 FU _ _ _ _ _ (FKp.rf s)
    · skip
      refine pc_bn (fun qr30 eqr30 => ?_)
      have hqr30 := (FKp.rf s).tr (fk_x6_fail _ eqr30)
      exact pc_some hqr30
  · skip
    refine pc_bn (fun qr33 eqr33 => ?_)
    have hqr33 := (FKp.rf s).tr (fk_x6_fail _ eqr33)
    exact pc_some hqr33
set_option maxHeartbeats 1000000 in
theorem fk_x6_readPart {rgs : (MS → Option MS) × (MS → Option MS)} {s : MS} (hr1 : ∀ s, pc (rgs.1 s) (fun o => FKp 100 101 s o)) (hr2 : ∀ s, pc (rgs.2 s) (fun o => FKp 100 101 s o)) : pc (m_x6_readPart rgs s) (fun q => FKp 100 101 s q) := by
  unfold m_x6_readPart
  refine pc_rg ?_
  refine pc_if (fun _ => ?_) (fun _ => ?_)
  · skip
    refine pc_eqg ?_
    refine pc_bn (fun qr72 eqr72 => ?_)
    have hqr72 := (FKp.rf s).tr (fk_x6_expectNumber _ eqr72)
    refine pc_bn (fun s74 es74 => ?_)
    have hs74 := hqr72.tr (FKp.of (i := 100) (j := 101) (fr_x0_add es74) (by decide) (by decide))
    unfold m_x6_readPart_J196
    exact pc_some hs74
  · skip
    refine pc_bn (fun r36 er36 => ?_)
    refine pc_rg ?_
    refine pc_if (fun _ => ?_) (fun _ => ?_)
    · skip
      refine pc_bn (fun r40 er40 => ?_)
      refine pc_rg ?_
      refine pc_if (fun _ => ?_) (fun _ => ?_)
      · skip
        refine pc_bn (fun r44 er44 => ?_)
        refine pc_rg ?_
        refine pc_if (fun _ => ?_) (fun _ => ?_)
        · skip
          refine pc_rg ?_
          refine pc_if (fun _ => ?_) (fun _ => ?_)
          · skip
            refine pc_bn (fun r50 er50 => ?_)
            refine pc_rg ?_
            refine pc_if (fun _ => ?_) (fun _ => ?_)
            · skip
              refine pc_bn (fun r54 er54 => ?_)
              refine pc_rg ?_
              refine pc_if (fun _ => ?_) (fun _ => ?_)
              · skip
                unfold m_x6_readPart_J158
                refine pc_bn (fun r4 er4 => ?_)
                refine pc_rg ?_
                refine pc_if (fun _ => ?_) (fun _ => ?_)
                · skip
                  refine pc_bn (fun qr9 eqr9 => ?_)
                  have hqr9 := (FKp.rf s).tr (fk_x6_fail _ eqr9)
                  unfold m_x6_readPart_J196
                  exact pc_some hqr9
                · skip
                  refine pc_eqg ?_
                  refine pc_bn (fun s12 es12 => ?_)
                  have hs12 := (FKp.rf s).tr (FKp.of (i := 100) (j := 101) (fr_x0_add es12) (by decide) (by decide))
                  refine pc_bn (fun s14 es14 => ?_)
                  have hs14 := hs12.tr (FKp.of (i := 100) (j := 101) (fr_x6_advance es14) (by decide) (by decide))
                  unfold m_x6_readPart_J196
                  exact pc_some hs14
              · skip
                unfold m_x6_readPart_J135
                refine pc_bn (fun r21 er21 => ?_)
                refine pc_rg ?_
                refine pc_if (fun _ => ?_) (fun _ => ?_)
                · skip
                  unfold m_x6_readPart_J152
                  refine pc_bn (fun s18 es18 => ?_)
                  have hs18 := (FKp.rf s).tr (fk_x6_readOther hr1 hr2 _ es18)
                  unfold m_x6_readPart_J196
                  exact pc_some hs18
                · skip
                  unfold m_x6_readPart_J152
                  refine pc_bn (fun s18 es18 => ?_)
                  have hs18 := (FKp.rf s).tr (fk_x6_readOther hr1 hr2 _ es18)
                  unfold m_x6_readPart_J196
                  exact pc_some hs18
            · skip
              unfold m_x6_readPart_J135
              refine pc_bn (fun r21 er21 => ?_)
              refine pc_rg ?_
              refine pc_if (fun _ => ?_) (fun _ => ?_)
              · skip
                unfold m_x6_readPart_J152
                refine pc_bn (fun s18 es18 => ?_)
                have hs18 := (FKp.rf s).tr (fk_x6_readOther hr1 hr2 _ es18)
                unfold m_x6_readPart_J196
                exact pc_some hs18
              · skip
                unfold m_x6_readPart_J152
                refine pc_bn (fun s18 es18 => ?_)
                have hs18 := (FKp.rf s).tr (fk_x6_readOther hr1 hr2 _ es18)
                unfold m_x6_readPart_J196
                exact pc_some hs18
          · skip
            unfold m_x6_readPart_J158
            refine pc_bn (fun r4 er4 => ?_)
            refine pc_rg ?_
            refine pc_if (fun _ => ?_) (fun _ => ?_)
            · skip
              refine pc_bn (fun qr9 eqr9 => ?_)
              have hqr9 := (FKp.rf s).tr (fk_x6_fail _ eqr9)
              unfold m_x6_readPart_J196
              exact pc_some hqr9
            · skip
              refine pc_eqg ?_
              refine pc_bn (fun s12 es12 => ?_)
              have hs12 := (FKp.rf s).tr (FKp.of (i := 100) (j := 101) (fr_x0_add es12) (by decide) (by decide))
              refine pc_bn (fun s14 es14 => ?_)
              have hs14 := hs12.tr (FKp.of (i := 100) (j := 101) (fr_x6_advance es14) (by decide) (by decide))
              unfold m_x6_readPart_J196
              exact pc_some hs14
        · skip
          unfold m_x6_readPart_J86
          refine pc_bn (fun r30 er30 => ?_)
          refine pc_rg ?_
          refine pc_if (fun _ => ?_) (fun _ => ?_)
          · skip
            unfold m_x6_readPart_J103
            refine pc_bn (fun s27 es27 => ?_)
            have hs27 := (FKp.rf s).tr (fk_x6_readChoice hr1 hr2 _ es27)
            unfold m_x6_readPart_J196
            exact pc_some hs27
          · skip
            unfold m_x6_readPart_J103
            refine pc_bn (fun s27 es27 => ?_)
            have hs27 := (FKp.rf s).tr (fk_x6_readChoice hr1 hr2 _ es27)
            unfold m_x6_readPart_J196
            exact pc_some hs27
      · skip
        unfold m_x6_readPart_J86
        refine pc_bn (fun r30 er30 => ?_)
        refine pc_rg ?_
        refine pc_if (fun _ => ?_) (fun _ => ?_)
        · skip
          unfold m_x6_readPart_J103
          refine pc_bn (fun s27 es27 => ?_)
          have hs27 := (FKp.rf s).tr (fk_x6_readChoice hr1 hr2 _ es27)
          unfold m_x6_readPart_J196
          exact pc_some hs27
        · skip
          unfold m_x6_readPart_J103
          refine pc_bn (fun s27 es27 => ?_)
          have hs27 := (FKp.rf s).tr (fk_x6_readChoice hr1 hr2 _ es27)
          unfold m_x6_readPart_J196
          exact pc_some hs27
    · skip
      refine pc_bn (fun qr59 eqr59 => ?_)
      have hqr59 := (FKp.rf s).tr (fk_x6_opens _ eqr59)
      refine pc_rg ?_
      refine pc_if (fun _ => ?_) (fun _ => ?_)
      · skip
        unfold m_x6_readPart_J196
        exact pc_some hqr59
      · skip
        refine pc_bn (fun s63 es63 => ?_)
        have hs63 := hqr59.tr (FKp.of (i := 100) (j := 101) (fr_x6_advance es63) (by decide) (by decide))
        refine pc_bn (fun s65 es65 => ?_)
        have hs65 := hs63.tr (hr1 _ _ es65)
        refine pc_bn (fun s67 es67 => ?_)
        have hs67 := hs65.tr (fk_x6_expectSign _ es67)
        refine pc_stn (fun s68 es68 => ?_)
        have hs68 := hs67.tr (FKp.i (i := 100) (j := 101) es68 (by decide) (by decide))
        unfold m_x6_readPart_J196
        exact pc_some hs68
set_option maxHeartbeats 1000000 in
theorem fk_x6_readProduct {rgs : (MS → Option MS) × (MS → Option MS)} {s : MS} (hr1 : ∀ s, pc (rgs.1 s) (fun o => FKp 100 101 s o)) (hr2 : ∀ s, pc (rgs.2 s) (fun o => FKp 100 101 s o)) : pc (m_x6_readProduct rgs s) (fun q => FKp 100 101 s q) := by
  unfold m_x6_readProduct
  refine pc_bn (fun s31 es31 => ?_)
  have hs31 := (FKp.rf s).tr (fk_x6_readPart hr1 hr2 _ es31)
  have L6 : ∀ (n : Nat) (x2 : Int) (s3 : MS), FKp 100 101 s s3 → pc (m_x6_readProduct_L6 rgs n x2 s3) (fun q => FKp 100 101 s q) := by
    refine fr_ind (fun _ _ _ => pc_none) (fun n6 ih6 x2 s3 hs3 => ?_)
    show pc (m_x6_readProduct_b6 rgs (m_x6_readProduct_L6 rgs n6) x2 s3) _
    unfold m_x6_readProduct_b6
    refine pc_rg ?_
    refine pc_if (fun _ => ?_) (fun _ => ?_)
    · skip
      unfold m_x6_readProduct_J70
      exact pc_some hs3
    · skip
      refine pc_bn (fun r23 er23 => ?_)
      refine pc_rg ?_
      refine pc_if (fun _ => ?_) (fun _ => ?_)
      · skip
        refine pc_bn (fun r27 er27 => ?_)
        refine pc_rg ?_
        refine pc_if (fun _ => ?_) (fun _ => ?_)
        · skip
          unfold m_x6_readProduct_J70
          exact pc_some hs3
        · skip
          unfold m_x6_readProduct_J31
          refine pc_bn (fun r17 er17 => ?_)
          refine pc_rg ?_
          refine pc_if (fun _ => ?_) (fun _ => ?_)
          · skip
            unfold m_x6_readProduct_J47
            refine pc_bn (fun s8 es8 => ?_)
            have hs8 := hs3.tr (FKp.of (i := 100) (j := 101) (fr_x6_advance es8) (by decide) (by decide))
            refine pc_bn (fun s10 es10 => ?_)
            have hs10 := hs8.tr (fk_x6_readPart hr1 hr2 _ es10)
            refine pc_eqg ?_
            refine pc_bn (fun s13 es13 => ?_)
            have hs13 := hs10.tr (FKp.of (i := 100) (j := 101) (fr_x0_add es13) (by decide) (by decide))
            exact ih6 _ _ hs13
          · skip
            unfold m_x6_readProduct_J47
            refine pc_bn (fun s8 es8 => ?_)
            have hs8 := hs3.tr (FKp.of (i := 100) (j := 101) (fr_x6_advance es8) (by decide) (by decide))
            refine pc_bn (fun s10 es10 => ?_)
            have hs10 := hs8.tr (fk_x6_readPart hr1 hr2 _ es10)
            refine pc_eqg ?_
            refine pc_bn (fun s13 es13 => ?_)
            have hs13 := hs10.tr (FKp.of (i := 100) (j := 101) (fr_x0_add es13) (by decide) (by decide))
            exact ih6 _ _ hs13
      · skip
        unfold m_x6_readProduct_J31
        refine pc_bn (fun r17 er17 => ?_)
        refine pc_rg ?_
        refine pc_if (fun _ => ?_) (fun _ => ?_)
        · skip
          unfold m_x6_readProduct_J47
          refine pc_bn (fun s8 es8 => ?_)
          have hs8 := hs3.tr (FKp.of (i := 100) (j := 101) (fr_x6_advance es8) (by decide) (by decide))
          refine pc_bn (fun s10 es10 => ?_)
          have hs10 := hs8.tr (fk_x6_readPart hr1 hr2 _ es10)
          refine pc_eqg ?_
          refine pc_bn (fun s13 es13 => ?_)
          have hs13 := hs10.tr (FKp.of (i := 100) (j := 101) (fr_x0_add es13) (by decide) (by decide))
          exact ih6 _ _ hs13
        · skip
          unfold m_x6_readProduct_J47
          refine pc_bn (fun s8 es8 => ?_)
          have hs8 := hs3.tr (FKp.of (i := 100) (j := 101) (fr_x6_advance es8) (by decide) (by decide))
          refine pc_bn (fun s10 es10 => ?_)
          have hs10 := hs8.tr (fk_x6_readPart hr1 hr2 _ es10)
          refine pc_eqg ?_
          refine pc_bn (fun s13 es13 => ?_)
          have hs13 := hs10.tr (FKp.of (i := 100) (j := 101) (fr_x0_add es13) (by decide) (by decide))
          exact ih6 _ _ hs13
  exact L6 FU _ _ hs31
set_option maxHeartbeats 1000000 in
theorem fk_x6_readSum {rgs : (MS → Option MS) × (MS → Option MS)} {s : MS} (hr1 : ∀ s, pc (rgs.1 s) (fun o => FKp 100 101 s o)) (hr2 : ∀ s, pc (rgs.2 s) (fun o => FKp 100 101 s o)) : pc (m_x6_readSum rgs s) (fun q => FKp 100 101 s q) := by
  unfold m_x6_readSum
  refine pc_bn (fun s31 es31 => ?_)
  have hs31 := (FKp.rf s).tr (fk_x6_readProduct hr1 hr2 _ es31)
  have L6 : ∀ (n : Nat) (x2 : Int) (s3 : MS), FKp 100 101 s s3 → pc (m_x6_readSum_L6 rgs n x2 s3) (fun q => FKp 100 101 s q) := by
    refine fr_ind (fun _ _ _ => pc_none) (fun n6 ih6 x2 s3 hs3 => ?_)
    show pc (m_x6_readSum_b6 rgs (m_x6_readSum_L6 rgs n6) x2 s3) _
    unfold m_x6_readSum_b6
    refine pc_rg ?_
    refine pc_if (fun _ => ?_) (fun _ => ?_)
    · skip
      unfold m_x6_readSum_J69
      exact pc_some hs3
    · skip
      refine pc_bn (fun r23 er23 => ?_)
      refine pc_rg ?_
      refine pc_if (fun _ => ?_) (fun _ => ?_)
      · skip
        refine pc_bn (fun r27 er27 => ?_)
        refine pc_rg ?_
        refine pc_if (fun _ => ?_) (fun _ => ?_)
        · skip
          unfold m_x6_readSum_J69
          exact pc_some hs3
        · skip
          unfold m_x6_readSum_J31
          refine pc_bn (fun r17 er17 => ?_)
          refine pc_rg ?_
          refine pc_if (fun _ => ?_) (fun _ => ?_)
          · skip
            unfold m_x6_readSum_J46
            refine pc_bn (fun s8 es8 => ?_)
            have hs8 := hs3.tr (FKp.of (i := 100) (j := 101) (fr_x6_advance es8) (by decide) (by decide))
            refine pc_bn (fun s10 es10 => ?_)
            have hs10 := hs8.tr (fk_x6_readProduct hr1 hr2 _ es10)
            refine pc_eqg ?_
            refine pc_bn (fun s13 es13 => ?_)
            have hs13 := hs10.tr (FKp.of (i := 100) (j := 101) (fr_x0_add es13) (by decide) (by decide))
            exact ih6 _ _ hs13
          · skip
            unfold m_x6_readSum_J46
            refine pc_bn (fun s8 es8 => ?_)
            have hs8 := hs3.tr (FKp.of (i := 100) (j := 101) (fr_x6_advance es8) (by decide) (by decide))
            refine pc_bn (fun s10 es10 => ?_)
            have hs10 := hs8.tr (fk_x6_readProduct hr1 hr2 _ es10)
            refine pc_eqg ?_
            refine pc_bn (fun s13 es13 => ?_)
            have hs13 := hs10.tr (FKp.of (i := 100) (j := 101) (fr_x0_add es13) (by decide) (by decide))
            exact ih6 _ _ hs13
      · skip
        unfold m_x6_readSum_J31
        refine pc_bn (fun r17 er17 => ?_)
        refine pc_rg ?_
        refine pc_if (fun _ => ?_) (fun _ => ?_)
        · skip
          unfold m_x6_readSum_J46
          refine pc_bn (fun s8 es8 => ?_)
          have hs8 := hs3.tr (FKp.of (i := 100) (j := 101) (fr_x6_advance es8) (by decide) (by decide))
          refine pc_bn (fun s10 es10 => ?_)
          have hs10 := hs8.tr (fk_x6_readProduct hr1 hr2 _ es10)
          refine pc_eqg ?_
          refine pc_bn (fun s13 es13 => ?_)
          have hs13 := hs10.tr (FKp.of (i := 100) (j := 101) (fr_x0_add es13) (by decide) (by decide))
          exact ih6 _ _ hs13
        · skip
          unfold m_x6_readSum_J46
          refine pc_bn (fun s8 es8 => ?_)
          have hs8 := hs3.tr (FKp.of (i := 100) (j := 101) (fr_x6_advance es8) (by decide) (by decide))
          refine pc_bn (fun s10 es10 => ?_)
          have hs10 := hs8.tr (fk_x6_readProduct hr1 hr2 _ es10)
          refine pc_eqg ?_
          refine pc_bn (fun s13 es13 => ?_)
          have hs13 := hs10.tr (FKp.of (i := 100) (j := 101) (fr_x0_add es13) (by decide) (by decide))
          exact ih6 _ _ hs13
  exact L6 FU _ _ hs31
theorem fk_RG1 : ∀ n : Nat, (∀ s, pc ((RG1 n).1 s) (fun o => FKp 100 101 s o)) ∧ ∀ s, pc ((RG1 n).2 s) (fun o => FKp 100 101 s o) := by
  refine fr_ind ⟨fun _ => pc_none, fun _ => pc_none⟩ (fun n ih => ⟨fun s => ?_, fun s => ?_⟩)
  · show pc (m_x6_readSum (RG1 n) s) _
    exact fk_x6_readSum ih.1 ih.2
  · show pc (m_x6_readPart (RG1 n) s) _
    exact fk_x6_readPart ih.1 ih.2
theorem fk_x6_readSumC {s : MS} : pc (m_x6_readSumC s) (fun q => FKp 100 101 s q) := (fk_RG1 8).1 s
set_option maxHeartbeats 1000000 in
theorem fk_x6_comparison {s : MS} : pc (m_x6_comparison s) (fun q => FKp 100 101 s q.2) := by
  unfold m_x6_comparison
  refine pc_bn (fun r6 er6 => ?_)
  refine pc_rg ?_
  refine pc_if (fun _ => ?_) (fun _ => ?_)
  · skip
    refine pc_bn (fun r10 er10 => ?_)
    refine pc_rg ?_
    refine pc_if (fun _ => ?_) (fun _ => ?_)
    · skip
      refine pc_bn (fun r14 er14 => ?_)
      refine pc_rg ?_
      refine pc_if (fun _ => ?_) (fun _ => ?_)
      · skip
        refine pc_bn (fun qr19 eqr19 => ?_)
        have hqr19 := (FKp.rf s).tr (fk_x6_fail _ eqr19)
        unfold m_x6_comparison_J52
        refine pc_bn (fun s4 es4 => ?_)
        have hs4 := hqr19.tr (FKp.of (i := 100) (j := 101) (fr_x6_advance es4) (by decide) (by decide))
        exact pc_some hs4
      · skip
        unfold m_x6_comparison_J52
        refine pc_bn (fun s4 es4 => ?_)
        have hs4 := (FKp.rf s).tr (FKp.of (i := 100) (j := 101) (fr_x6_advance es4) (by decide) (by decide))
        exact pc_some hs4
    · skip
      unfold m_x6_comparison_J52
      refine pc_bn (fun s4 es4 => ?_)
      have hs4 := (FKp.rf s).tr (FKp.of (i := 100) (j := 101) (fr_x6_advance es4) (by decide) (by decide))
      exact pc_some hs4
  · skip
    unfold m_x6_comparison_J52
    refine pc_bn (fun s4 es4 => ?_)
    have hs4 := (FKp.rf s).tr (FKp.of (i := 100) (j := 101) (fr_x6_advance es4) (by decide) (by decide))
    exact pc_some hs4
set_option maxHeartbeats 1000000 in
theorem fk_x6_readFact {rgs : (MS → Option MS) × (MS → Option MS)} {s : MS} (hr1 : ∀ s, pc (rgs.1 s) (fun o => FKp 100 101 s o)) (hr2 : ∀ s, pc (rgs.2 s) (fun o => FKp 100 101 s o)) : pc (m_x6_readFact rgs s) (fun q => FKp 100 101 s q) := by
  unfold m_x6_readFact
  refine pc_bn (fun r3 er3 => ?_)
  refine pc_rg ?_
  refine pc_if (fun _ => ?_) (fun _ => ?_)
  · skip
    refine pc_bn (fun r7 er7 => ?_)
    refine pc_rg ?_
    refine pc_if (fun _ => ?_) (fun _ => ?_)
    · skip
      refine pc_bn (fun r11 er11 => ?_)
      refine pc_rg ?_
      refine pc_if (fun _ => ?_) (fun _ => ?_)
      · skip
        refine pc_bn (fun s15 es15 => ?_)
        have hs15 := (FKp.rf s).tr (fk_x6_readSumC _ es15)
        refine pc_bn (fun qr18 eqr18 => ?_)
        have hqr18 := hs15.tr (fk_x6_comparison _ eqr18)
        refine pc_bn (fun s20 es20 => ?_)
        have hs20 := hqr18.tr (fk_x6_readSumC _ es20)
        refine pc_eqg ?_
        refine pc_bn (fun s23 es23 => ?_)
        have hs23 := hs20.tr (FKp.of (i := 100) (j := 101) (fr_x0_add es23) (by decide) (by decide))
        unfold m_x6_readFact_J134
        exact pc_some hs23
      · skip
        refine pc_eqg ?_
        refine pc_bn (fun s26 es26 => ?_)
        have hs26 := (FKp.rf s).tr (FKp.of (i := 100) (j := 101) (fr_x0_add es26) (by decide) (by decide))
        refine pc_bn (fun s28 es28 => ?_)
        have hs28 := hs26.tr (FKp.of (i := 100) (j := 101) (fr_x6_advance es28) (by decide) (by decide))
        unfold m_x6_readFact_J134
        exact pc_some hs28
    · skip
      refine pc_bn (fun qr31 eqr31 => ?_)
      have hqr31 := (FKp.rf s).tr (fk_x6_opens _ eqr31)
      refine pc_rg ?_
      refine pc_if (fun _ => ?_) (fun _ => ?_)
      · skip
        unfold m_x6_readFact_J134
        exact pc_some hqr31
      · skip
        refine pc_bn (fun s35 es35 => ?_)
        have hs35 := hqr31.tr (FKp.of (i := 100) (j := 101) (fr_x6_advance es35) (by decide) (by decide))
        refine pc_bn (fun s37 es37 => ?_)
        have hs37 := hs35.tr (hr2 _ _ es37)
        refine pc_bn (fun s39 es39 => ?_)
        have hs39 := hs37.tr (fk_x6_expectSign _ es39)
        refine pc_stn (fun s40 es40 => ?_)
        have hs40 := hs39.tr (FKp.i (i := 100) (j := 101) es40 (by decide) (by decide))
        unfold m_x6_readFact_J134
        exact pc_some hs40
  · skip
    refine pc_bn (fun qr43 eqr43 => ?_)
    have hqr43 := (FKp.rf s).tr (fk_x6_opens _ eqr43)
    refine pc_rg ?_
    refine pc_if (fun _ => ?_) (fun _ => ?_)
    · skip
      unfold m_x6_readFact_J134
      exact pc_some hqr43
    · skip
      refine pc_bn (fun s47 es47 => ?_)
      have hs47 := hqr43.tr (FKp.of (i := 100) (j := 101) (fr_x6_advance es47) (by decide) (by decide))
      refine pc_bn (fun s49 es49 => ?_)
      have hs49 := hs47.tr (hr1 _ _ es49)
      refine pc_eqg ?_
      refine pc_bn (fun s52 es52 => ?_)
      have hs52 := hs49.tr (FKp.of (i := 100) (j := 101) (fr_x0_add es52) (by decide) (by decide))
      refine pc_stn (fun s53 es53 => ?_)
      have hs53 := hs52.tr (FKp.i (i := 100) (j := 101) es53 (by decide) (by decide))
      unfold m_x6_readFact_J134
      exact pc_some hs53
set_option maxHeartbeats 1000000 in
theorem fk_x6_readBoth {rgs : (MS → Option MS) × (MS → Option MS)} {s : MS} (hr1 : ∀ s, pc (rgs.1 s) (fun o => FKp 100 101 s o)) (hr2 : ∀ s, pc (rgs.2 s) (fun o => FKp 100 101 s o)) : pc (m_x6_readBoth rgs s) (fun q => FKp 100 101 s q) := by
  unfold m_x6_readBoth
  refine pc_bn (fun s18 es18 => ?_)
  have hs18 := (FKp.rf s).tr (fk_x6_readFact hr1 hr2 _ es18)
  have L6 : ∀ (n : Nat) (x2 : Int) (s3 : MS), FKp 100 101 s s3 → pc (m_x6_readBoth_L6 rgs n x2 s3) (fun q => FKp 100 101 s q) := by
    refine fr_ind (fun _ _ _ => pc_none) (fun n6 ih6 x2 s3 hs3 => ?_)
    show pc (m_x6_readBoth_b6 rgs (m_x6_readBoth_L6 rgs n6) x2 s3) _
    unfold m_x6_readBoth_b6
    refine pc_rg ?_
    refine pc_if (fun _ => ?_) (fun _ => ?_)
    · skip
      unfold m_x6_readBoth_J45
      exact pc_some hs3
    · skip
      refine pc_bn (fun r7 er7 => ?_)
      refine pc_rg ?_
      refine pc_if (fun _ => ?_) (fun _ => ?_)
      · skip
        unfold m_x6_readBoth_J45
        exact pc_some hs3
      · skip
        refine pc_bn (fun s11 es11 => ?_)
        have hs11 := hs3.tr (FKp.of (i := 100) (j := 101) (fr_x6_advance es11) (by decide) (by decide))
        refine pc_bn (fun s13 es13 => ?_)
        have hs13 := hs11.tr (fk_x6_readFact hr1 hr2 _ es13)
        refine pc_eqg ?_
        refine pc_bn (fun s16 es16 => ?_)
        have hs16 := hs13.tr (FKp.of (i := 100) (j := 101) (fr_x0_add es16) (by decide) (by decide))
        exact ih6 _ _ hs16
  exact L6 FU _ _ hs18
set_option maxHeartbeats 1000000 in
theorem fk_x6_readTest {rgs : (MS → Option MS) × (MS → Option MS)} {s : MS} (hr1 : ∀ s, pc (rgs.1 s) (fun o => FKp 100 101 s o)) (hr2 : ∀ s, pc (rgs.2 s) (fun o => FKp 100 101 s o)) : pc (m_x6_readTest rgs s) (fun q => FKp 100 101 s q) := by
  unfold m_x6_readTest
  refine pc_bn (fun s18 es18 => ?_)
  have hs18 := (FKp.rf s).tr (fk_x6_readBoth hr1 hr2 _ es18)
  have L6 : ∀ (n : Nat) (x2 : Int) (s3 : MS), FKp 100 101 s s3 → pc (m_x6_readTest_L6 rgs n x2 s3) (fun q => FKp 100 101 s q) := by
    refine fr_ind (fun _ _ _ => pc_none) (fun n6 ih6 x2 s3 hs3 => ?_)
    show pc (m_x6_readTest_b6 rgs (m_x6_readTest_L6 rgs n6) x2 s3) _
    unfold m_x6_readTest_b6
    refine pc_rg ?_
    refine pc_if (fun _ => ?_) (fun _ => ?_)
    · skip
      unfold m_x6_readTest_J45
      exact pc_some hs3
    · skip
      refine pc_bn (fun r7 er7 => ?_)
      refine pc_rg ?_
      refine pc_if (fun _ => ?_) (fun _ => ?_)
      · skip
        unfold m_x6_readTest_J45
        exact pc_some hs3
      · skip
        refine pc_bn (fun s11 es11 => ?_)
        have hs11 := hs3.tr (FKp.of (i := 100) (j := 101) (fr_x6_advance es11) (by decide) (by decide))
        refine pc_bn (fun s13 es13 => ?_)
        have hs13 := hs11.tr (fk_x6_readBoth hr1 hr2 _ es13)
        refine pc_eqg ?_
        refine pc_bn (fun s16 es16 => ?_)
        have hs16 := hs13.tr (FKp.of (i := 100) (j := 101) (fr_x0_add es16) (by decide) (by decide))
        exact ih6 _ _ hs16
  exact L6 FU _ _ hs18
theorem fk_RG2 : ∀ n : Nat, (∀ s, pc ((RG2 n).1 s) (fun o => FKp 100 101 s o)) ∧ ∀ s, pc ((RG2 n).2 s) (fun o => FKp 100 101 s o) := by
  refine fr_ind ⟨fun _ => pc_none, fun _ => pc_none⟩ (fun n ih => ⟨fun s => ?_, fun s => ?_⟩)
  · show pc (m_x6_readFact (RG2 n) s) _
    exact fk_x6_readFact ih.1 ih.2
  · show pc (m_x6_readTest (RG2 n) s) _
    exact fk_x6_readTest ih.1 ih.2
theorem fk_x6_readTestC {s : MS} : pc (m_x6_readTestC s) (fun q => FKp 100 101 s q) := (fk_RG2 8).2 s
set_option maxHeartbeats 1000000 in
theorem fk_x6_expectWord {p0 : Int} {s : MS} : pc (m_x6_expectWord p0 s) (fun q => FKp 100 101 s q) := by
  unfold m_x6_expectWord
  refine pc_bn (fun r3 er3 => ?_)
  refine pc_rg ?_
  refine pc_if (fun _ => ?_) (fun _ => ?_)
  · skip
    refine pc_bn (fun qr8 eqr8 => ?_)
    have hqr8 := (FKp.rf s).tr (fk_x6_fail _ eqr8)
    unfold m_x6_expectWord_J25
    exact pc_some hqr8
  · skip
    refine pc_bn (fun s10 es10 => ?_)
    have hs10 := (FKp.rf s).tr (FKp.of (i := 100) (j := 101) (fr_x6_advance es10) (by decide) (by decide))
    unfold m_x6_expectWord_J25
    exact pc_some hs10
set_option maxHeartbeats 1000000 in
theorem fk_x6_isName {s : MS} : pc (m_x6_isName s) (fun q => FKp 100 101 s q.2) := by
  unfold m_x6_isName
  refine pc_rg ?_
  refine pc_if (fun _ => ?_) (fun _ => ?_)
  · skip
    refine pc_rg ?_
    refine pc_if (fun _ => ?_) (fun _ => ?_)
    · skip
      unfold m_x6_isName_J35
      refine pc_rg ?_
      refine pc_if (fun _ => ?_) (fun _ => ?_)
      · skip
        unfold m_x6_isName_J64
        unfold m_x6_isName_J69
        refine pc_bo ?_
        exact pc_some (FKp.rf s)
      · skip
        refine pc_bn (fun qr10 eqr10 => ?_)
        have hqr10 := (FKp.rf s).tr (fk_x6_fail _ eqr10)
        refine pc_rg ?_
        refine pc_if (fun _ => ?_) (fun _ => ?_)
        · skip
          unfold m_x6_isName_J69
          refine pc_bo ?_
          exact pc_some hqr10
        · skip
          unfold m_x6_isName_J64
          unfold m_x6_isName_J69
          refine pc_bo ?_
          exact pc_some hqr10
    · skip
      refine pc_rg ?_
      refine pc_if (fun _ => ?_) (fun _ => ?_)
      · skip
        unfold m_x6_isName_J35
        refine pc_rg ?_
        refine pc_if (fun _ => ?_) (fun _ => ?_)
        · skip
          unfold m_x6_isName_J64
          unfold m_x6_isName_J69
          refine pc_bo ?_
          exact pc_some (FKp.rf s)
        · skip
          refine pc_bn (fun qr10 eqr10 => ?_)
          have hqr10 := (FKp.rf s).tr (fk_x6_fail _ eqr10)
          refine pc_rg ?_
          refine pc_if (fun _ => ?_) (fun _ => ?_)
          · skip
            unfold m_x6_isName_J69
            refine pc_bo ?_
            exact pc_some hqr10
          · skip
            unfold m_x6_isName_J64
            unfold m_x6_isName_J69
            refine pc_bo ?_
            exact pc_some hqr10
      · skip
        unfold m_x6_isName_J25
        refine pc_bn (fun qr16 eqr16 => ?_)
        have hqr16 := (FKp.rf s).tr (fk_x6_fail _ eqr16)
        refine pc_bo ?_
        exact pc_some hqr16
  · skip
    unfold m_x6_isName_J25
    refine pc_bn (fun qr16 eqr16 => ?_)
    have hqr16 := (FKp.rf s).tr (fk_x6_fail _ eqr16)
    refine pc_bo ?_
    exact pc_some hqr16
set_option maxHeartbeats 1000000 in
theorem fk_x6_expectVolume {s : MS} : pc (m_x6_expectVolume s) (fun q => FKp 100 101 s q.2) := by
  unfold m_x6_expectVolume
  refine pc_bn (fun qr7 eqr7 => ?_)
  have hqr7 := (FKp.rf s).tr (fk_x6_isName _ eqr7)
  refine pc_rg ?_
  refine pc_if (fun _ => ?_) (fun _ => ?_)
  · skip
    exact pc_some hqr7
  · skip
    refine pc_bn (fun r11 er11 => ?_)
    refine pc_rg ?_
    refine pc_if (fun _ => ?_) (fun _ => ?_)
    · skip
      refine pc_bn (fun qr16 eqr16 => ?_)
      have hqr16 := hqr7.tr (fk_x6_fail _ eqr16)
      unfold m_x6_expectVolume_J41
      refine pc_bn (fun s4 es4 => ?_)
      have hs4 := hqr16.tr (FKp.of (i := 100) (j := 101) (fr_x6_advance es4) (by decide) (by decide))
      exact pc_some hs4
    · skip
      unfold m_x6_expectVolume_J41
      refine pc_bn (fun s4 es4 => ?_)
      have hs4 := hqr7.tr (FKp.of (i := 100) (j := 101) (fr_x6_advance es4) (by decide) (by decide))
      exact pc_some hs4
set_option maxHeartbeats 1000000 in
theorem fk_x6_readBlocks {s : MS} : pc (m_x6_readBlocks s) (fun q => FKp 100 101 s q) := by
  unfold m_x6_readBlocks
  refine pc_bn (fun s2 es2 => ?_)
  have hs2 := (FKp.rf s).tr (FKp.of (i := 100) (j := 101) (fr_x6_advance es2) (by decide) (by decide))
  refine pc_bn (fun qr5 eqr5 => ?_)
  have hqr5 := hs2.tr (fk_x6_expectNumber _ eqr5)
  refine pc_stn (fun s6 es6 => ?_)
  have hs6 := hqr5.tr (FKp.i (i := 100) (j := 101) es6 (by decide) (by decide))
  refine pc_bn (fun s8 es8 => ?_)
  have hs8 := hs6.tr (fk_x6_expectWord _ es8)
  refine pc_bn (fun qr11 eqr11 => ?_)
  have hqr11 := hs8.tr (fk_x6_expectNumber _ eqr11)
  refine pc_stn (fun s12 es12 => ?_)
  have hs12 := hqr11.tr (FKp.i (i := 100) (j := 101) es12 (by decide) (by decide))
  exact pc_some hs12
set_option maxHeartbeats 1000000 in
theorem fk_x6_readVolume {p1 : Int} {s : MS} : pc (m_x6_readVolume p1 s) (fun q => FKp 100 101 s q) := by
  unfold m_x6_readVolume
  refine pc_rg ?_
  refine pc_if (fun _ => ?_) (fun _ => ?_)
  · skip
    refine pc_bn (fun qr42 eqr42 => ?_)
    have hqr42 := (FKp.rf s).tr (fk_x6_fail _ eqr42)
    unfold m_x6_readVolume_J19
    refine pc_bn (fun s25 es25 => ?_)
    have hs25 := hqr42.tr (FKp.of (i := 100) (j := 101) (fr_x6_advance es25) (by decide) (by decide))
    refine pc_bn (fun qr28 eqr28 => ?_)
    have hqr28 := hs25.tr (fk_x6_isName _ eqr28)
    refine pc_rg ?_
    refine pc_if (fun _ => ?_) (fun _ => ?_)
    · skip
      exact pc_some hqr28
    · skip
      refine pc_bn (fun r32 er32 => ?_)
      refine pc_rg ?_
      refine pc_if (fun _ => ?_) (fun _ => ?_)
      · skip
        unfold m_x6_readVolume_J61
        refine pc_bn (fun s14 es14 => ?_)
        have hs14 := hqr28.tr (FKp.of (i := 100) (j := 101) (fr_x6_advance es14) (by decide) (by decide))
        refine pc_rg ?_
        refine pc_if (fun _ => ?_) (fun _ => ?_)
        · skip
          refine pc_bn (fun s18 es18 => ?_)
          have hs18 := hs14.tr (fk_x6_expectWord _ es18)
          refine pc_bn (fun qr21 eqr21 => ?_)
          have hqr21 := hs18.tr (fk_x6_expectVolume _ eqr21)
          unfold m_x6_readVolume_J96
          refine pc_bn (fun qr8 eqr8 => ?_)
          have hqr8 := hqr21.tr (FKp.of (i := 100) (j := 101) (fr_x5_addVolume eqr8) (by decide) (by decide))
          refine pc_bn (fun s10 es10 => ?_)
          have hs10 := hqr8.tr (FKp.of (i := 100) (j := 101) (fr_x5_addChange es10) (by decide) (by decide))
          exact pc_some hs10
        · skip
          unfold m_x6_readVolume_J96
          refine pc_bn (fun qr8 eqr8 => ?_)
          have hqr8 := hs14.tr (FKp.of (i := 100) (j := 101) (fr_x5_addVolume eqr8) (by decide) (by decide))
          refine pc_bn (fun s10 es10 => ?_)
          have hs10 := hqr8.tr (FKp.of (i := 100) (j := 101) (fr_x5_addChange es10) (by decide) (by decide))
          exact pc_some hs10
      · skip
        refine pc_bn (fun qr37 eqr37 => ?_)
        have hqr37 := hqr28.tr (fk_x6_fail _ eqr37)
        unfold m_x6_readVolume_J61
        refine pc_bn (fun s14 es14 => ?_)
        have hs14 := hqr37.tr (FKp.of (i := 100) (j := 101) (fr_x6_advance es14) (by decide) (by decide))
        refine pc_rg ?_
        refine pc_if (fun _ => ?_) (fun _ => ?_)
        · skip
          refine pc_bn (fun s18 es18 => ?_)
          have hs18 := hs14.tr (fk_x6_expectWord _ es18)
          refine pc_bn (fun qr21 eqr21 => ?_)
          have hqr21 := hs18.tr (fk_x6_expectVolume _ eqr21)
          unfold m_x6_readVolume_J96
          refine pc_bn (fun qr8 eqr8 => ?_)
          have hqr8 := hqr21.tr (FKp.of (i := 100) (j := 101) (fr_x5_addVolume eqr8) (by decide) (by decide))
          refine pc_bn (fun s10 es10 => ?_)
          have hs10 := hqr8.tr (FKp.of (i := 100) (j := 101) (fr_x5_addChange es10) (by decide) (by decide))
          exact pc_some hs10
        · skip
          unfold m_x6_readVolume_J96
          refine pc_bn (fun qr8 eqr8 => ?_)
          have hqr8 := hs14.tr (FKp.of (i := 100) (j := 101) (fr_x5_addVolume eqr8) (by decide) (by decide))
          refine pc_bn (fun s10 es10 => ?_)
          have hs10 := hqr8.tr (FKp.of (i := 100) (j := 101) (fr_x5_addChange es10) (by decide) (by decide))
          exact pc_some hs10
  · skip
    unfold m_x6_readVolume_J19
    refine pc_bn (fun s25 es25 => ?_)
    have hs25 := (FKp.rf s).tr (FKp.of (i := 100) (j := 101) (fr_x6_advance es25) (by decide) (by decide))
    refine pc_bn (fun qr28 eqr28 => ?_)
    have hqr28 := hs25.tr (fk_x6_isName _ eqr28)
    refine pc_rg ?_
    refine pc_if (fun _ => ?_) (fun _ => ?_)
    · skip
      exact pc_some hqr28
    · skip
      refine pc_bn (fun r32 er32 => ?_)
      refine pc_rg ?_
      refine pc_if (fun _ => ?_) (fun _ => ?_)
      · skip
        unfold m_x6_readVolume_J61
        refine pc_bn (fun s14 es14 => ?_)
        have hs14 := hqr28.tr (FKp.of (i := 100) (j := 101) (fr_x6_advance es14) (by decide) (by decide))
        refine pc_rg ?_
        refine pc_if (fun _ => ?_) (fun _ => ?_)
        · skip
          refine pc_bn (fun s18 es18 => ?_)
          have hs18 := hs14.tr (fk_x6_expectWord _ es18)
          refine pc_bn (fun qr21 eqr21 => ?_)
          have hqr21 := hs18.tr (fk_x6_expectVolume _ eqr21)
          unfold m_x6_readVolume_J96
          refine pc_bn (fun qr8 eqr8 => ?_)
          have hqr8 := hqr21.tr (FKp.of (i := 100) (j := 101) (fr_x5_addVolume eqr8) (by decide) (by decide))
          refine pc_bn (fun s10 es10 => ?_)
          have hs10 := hqr8.tr (FKp.of (i := 100) (j := 101) (fr_x5_addChange es10) (by decide) (by decide))
          exact pc_some hs10
        · skip
          unfold m_x6_readVolume_J96
          refine pc_bn (fun qr8 eqr8 => ?_)
          have hqr8 := hs14.tr (FKp.of (i := 100) (j := 101) (fr_x5_addVolume eqr8) (by decide) (by decide))
          refine pc_bn (fun s10 es10 => ?_)
          have hs10 := hqr8.tr (FKp.of (i := 100) (j := 101) (fr_x5_addChange es10) (by decide) (by decide))
          exact pc_some hs10
      · skip
        refine pc_bn (fun qr37 eqr37 => ?_)
        have hqr37 := hqr28.tr (fk_x6_fail _ eqr37)
        unfold m_x6_readVolume_J61
        refine pc_bn (fun s14 es14 => ?_)
        have hs14 := hqr37.tr (FKp.of (i := 100) (j := 101) (fr_x6_advance es14) (by decide) (by decide))
        refine pc_rg ?_
        refine pc_if (fun _ => ?_) (fun _ => ?_)
        · skip
          refine pc_bn (fun s18 es18 => ?_)
          have hs18 := hs14.tr (fk_x6_expectWord _ es18)
          refine pc_bn (fun qr21 eqr21 => ?_)
          have hqr21 := hs18.tr (fk_x6_expectVolume _ eqr21)
          unfold m_x6_readVolume_J96
          refine pc_bn (fun qr8 eqr8 => ?_)
          have hqr8 := hqr21.tr (FKp.of (i := 100) (j := 101) (fr_x5_addVolume eqr8) (by decide) (by decide))
          refine pc_bn (fun s10 es10 => ?_)
          have hs10 := hqr8.tr (FKp.of (i := 100) (j := 101) (fr_x5_addChange es10) (by decide) (by decide))
          exact pc_some hs10
        · skip
          unfold m_x6_readVolume_J96
          refine pc_bn (fun qr8 eqr8 => ?_)
          have hqr8 := hs14.tr (FKp.of (i := 100) (j := 101) (fr_x5_addVolume eqr8) (by decide) (by decide))
          refine pc_bn (fun s10 es10 => ?_)
          have hs10 := hqr8.tr (FKp.of (i := 100) (j := 101) (fr_x5_addChange es10) (by decide) (by decide))
          exact pc_some hs10
set_option maxHeartbeats 1000000 in
theorem fk_x6_readChange {p1 : Int} {s : MS} : pc (m_x6_readChange p1 s) (fun q => FKp 100 101 s q) := by
  unfold m_x6_readChange
  refine pc_bn (fun s9 es9 => ?_)
  have hs9 := (FKp.rf s).tr (FKp.of (i := 100) (j := 101) (fr_x6_advance es9) (by decide) (by decide))
  refine pc_bn (fun qr12 eqr12 => ?_)
  have hqr12 := hs9.tr (fk_x6_expectVolume _ eqr12)
  refine pc_bn (fun qr15 eqr15 => ?_)
  have hqr15 := hqr12.tr (fk_x6_expectNumber _ eqr15)
  refine pc_rg ?_
  refine pc_if (fun _ => ?_) (fun _ => ?_)
  · skip
    refine pc_bn (fun qr20 eqr20 => ?_)
    have hqr20 := hqr15.tr (fk_x6_expectNumber _ eqr20)
    unfold m_x6_readChange_J37
    refine pc_bn (fun s7 es7 => ?_)
    have hs7 := hqr20.tr (FKp.of (i := 100) (j := 101) (fr_x5_addChange es7) (by decide) (by decide))
    exact pc_some hs7
  · skip
    unfold m_x6_readChange_J37
    refine pc_bn (fun s7 es7 => ?_)
    have hs7 := hqr15.tr (FKp.of (i := 100) (j := 101) (fr_x5_addChange es7) (by decide) (by decide))
    exact pc_some hs7
set_option maxHeartbeats 1000000 in
theorem fk_x6_beginFormula {p1 : Int} {s : MS} : pc (m_x6_beginFormula p1 s) (fun q => FKp 100 101 s q) := by
  unfold m_x6_beginFormula
  refine pc_rdI (fun _ => ?_)
  refine pc_rg ?_
  refine pc_if (fun _ => ?_) (fun _ => ?_)
  · skip
    unfold m_x6_beginFormula_J20
    refine pc_bn (fun s4 es4 => ?_)
    have hs4 := (FKp.rf s).tr (FKp.of (i := 100) (j := 101) (fr_x6_advance es4) (by decide) (by decide))
    refine pc_stn (fun s5 es5 => ?_)
    have hs5 := hs4.tr (FKp.i (i := 100) (j := 101) es5 (by decide) (by decide))
    refine pc_eqg ?_
    refine pc_inb ?_
    refine pc_stn (fun s8 es8 => ?_)
    have hs8 := hs5.tr (FKp.a (i := 100) (j := 101) es8)
    exact pc_some hs8
  · skip
    refine pc_bn (fun qr14 eqr14 => ?_)
    have hqr14 := (FKp.rf s).tr (fk_x6_fail _ eqr14)
    unfold m_x6_beginFormula_J20
    refine pc_bn (fun s4 es4 => ?_)
    have hs4 := hqr14.tr (FKp.of (i := 100) (j := 101) (fr_x6_advance es4) (by decide) (by decide))
    refine pc_stn (fun s5 es5 => ?_)
    have hs5 := hs4.tr (FKp.i (i := 100) (j := 101) es5 (by decide) (by decide))
    refine pc_eqg ?_
    refine pc_inb ?_
    refine pc_stn (fun s8 es8 => ?_)
    have hs8 := hs5.tr (FKp.a (i := 100) (j := 101) es8)
    exact pc_some hs8
set_option maxHeartbeats 1000000 in
theorem fk_x6_readStatement {s : MS} : pc (m_x6_readStatement s) (fun q => FKp 100 101 s q) := by
  unfold m_x6_readStatement
  refine pc_rg ?_
  refine pc_if (fun _ => ?_) (fun _ => ?_)
  · skip
    unfold m_x6_readStatement_J16
    refine pc_rg ?_
    refine pc_if (fun _ => ?_) (fun _ => ?_)
    · skip
      unfold m_x6_readStatement_J29
      refine pc_rg ?_
      refine pc_if (fun _ => ?_) (fun _ => ?_)
      · skip
        unfold m_x6_readStatement_J40
        refine pc_rg ?_
        refine pc_rg ?_
        refine pc_if (fun _ => ?_) (fun _ => ?_)
        · skip
          refine pc_rg ?_
          refine pc_if (fun _ => ?_) (fun _ => ?_)
          · skip
            refine pc_bn (fun s27 es27 => ?_)
            have hs27 := (FKp.rf s).tr (fk_x6_readBlocks _ es27)
            unfold m_x6_readStatement_J244
            refine pc_bn (fun s3 es3 => ?_)
            have hs3 := hs27.tr (fk_x6_expectSign _ es3)
            refine pc_stn (fun s4 es4 => ?_)
            have hs4 := hs3.tr (FKp.i (i := 100) (j := 101) es4 (by decide) (by decide))
            exact pc_some hs4
          · skip
            refine pc_if (fun _ => ?_) (fun _ => ?_)
            · skip
              unfold m_x6_readStatement_J234
              refine pc_bn (fun qr8 eqr8 => ?_)
              have hqr8 := (FKp.rf s).tr (fk_x6_fail _ eqr8)
              unfold m_x6_readStatement_J244
              refine pc_bn (fun s3 es3 => ?_)
              have hs3 := hqr8.tr (fk_x6_expectSign _ es3)
              refine pc_stn (fun s4 es4 => ?_)
              have hs4 := hs3.tr (FKp.i (i := 100) (j := 101) es4 (by decide) (by decide))
              exact pc_some hs4
            · skip
              refine pc_if (fun _ => ?_) (fun _ => ?_)
              · skip
                unfold m_x6_readStatement_J120
                refine pc_bn (fun s16 es16 => ?_)
                have hs16 := (FKp.rf s).tr (fk_x6_readVolume _ es16)
                unfold m_x6_readStatement_J244
                refine pc_bn (fun s3 es3 => ?_)
                have hs3 := hs16.tr (fk_x6_expectSign _ es3)
                refine pc_stn (fun s4 es4 => ?_)
                have hs4 := hs3.tr (FKp.i (i := 100) (j := 101) es4 (by decide) (by decide))
                exact pc_some hs4
              · skip
                refine pc_if (fun _ => ?_) (fun _ => ?_)
                · skip
                  unfold m_x6_readStatement_J120
                  refine pc_bn (fun s16 es16 => ?_)
                  have hs16 := (FKp.rf s).tr (fk_x6_readVolume _ es16)
                  unfold m_x6_readStatement_J244
                  refine pc_bn (fun s3 es3 => ?_)
                  have hs3 := hs16.tr (fk_x6_expectSign _ es3)
                  refine pc_stn (fun s4 es4 => ?_)
                  have hs4 := hs3.tr (FKp.i (i := 100) (j := 101) es4 (by decide) (by decide))
                  exact pc_some hs4
                · skip
                  refine pc_if (fun _ => ?_) (fun _ => ?_)
                  · skip
                    unfold m_x6_readStatement_J234
                    refine pc_bn (fun qr8 eqr8 => ?_)
                    have hqr8 := (FKp.rf s).tr (fk_x6_fail _ eqr8)
                    unfold m_x6_readStatement_J244
                    refine pc_bn (fun s3 es3 => ?_)
                    have hs3 := hqr8.tr (fk_x6_expectSign _ es3)
                    refine pc_stn (fun s4 es4 => ?_)
                    have hs4 := hs3.tr (FKp.i (i := 100) (j := 101) es4 (by decide) (by decide))
                    exact pc_some hs4
                  · skip
                    refine pc_if (fun _ => ?_) (fun _ => ?_)
                    · skip
                      unfold m_x6_readStatement_J129
                      refine pc_bn (fun s12 es12 => ?_)
                      have hs12 := (FKp.rf s).tr (fk_x6_readChange _ es12)
                      unfold m_x6_readStatement_J244
                      refine pc_bn (fun s3 es3 => ?_)
                      have hs3 := hs12.tr (fk_x6_expectSign _ es3)
                      refine pc_stn (fun s4 es4 => ?_)
                      have hs4 := hs3.tr (FKp.i (i := 100) (j := 101) es4 (by decide) (by decide))
                      exact pc_some hs4
                    · skip
                      refine pc_if (fun _ => ?_) (fun _ => ?_)
                      · skip
                        unfold m_x6_readStatement_J129
                        refine pc_bn (fun s12 es12 => ?_)
                        have hs12 := (FKp.rf s).tr (fk_x6_readChange _ es12)
                        unfold m_x6_readStatement_J244
                        refine pc_bn (fun s3 es3 => ?_)
                        have hs3 := hs12.tr (fk_x6_expectSign _ es3)
                        refine pc_stn (fun s4 es4 => ?_)
                        have hs4 := hs3.tr (FKp.i (i := 100) (j := 101) es4 (by decide) (by decide))
                        exact pc_some hs4
                      · skip
                        refine pc_if (fun _ => ?_) (fun _ => ?_)
                        · skip
                          refine pc_bn (fun s36 es36 => ?_)
                          have hs36 := (FKp.rf s).tr (fk_x6_beginFormula _ es36)
                          refine pc_bn (fun s38 es38 => ?_)
                          have hs38 := hs36.tr (fk_x6_readSumC _ es38)
                          refine pc_eqg ?_
                          refine pc_inb ?_
                          refine pc_stn (fun s41 es41 => ?_)
                          have hs41 := hs38.tr (FKp.a (i := 100) (j := 101) es41)
                          unfold m_x6_readStatement_J244
                          refine pc_bn (fun s3 es3 => ?_)
                          have hs3 := hs41.tr (fk_x6_expectSign _ es3)
                          refine pc_stn (fun s4 es4 => ?_)
                          have hs4 := hs3.tr (FKp.i (i := 100) (j := 101) es4 (by decide) (by decide))
                          exact pc_some hs4
                        · skip
                          refine pc_if (fun _ => ?_) (fun _ => ?_)
                          · skip
                            refine pc_bn (fun s44 es44 => ?_)
                            have hs44 := (FKp.rf s).tr (fk_x6_beginFormula _ es44)
                            refine pc_bn (fun s46 es46 => ?_)
                            have hs46 := hs44.tr (fk_x6_readTestC _ es46)
                            refine pc_eqg ?_
                            refine pc_inb ?_
                            refine pc_stn (fun s49 es49 => ?_)
                            have hs49 := hs46.tr (FKp.a (i := 100) (j := 101) es49)
                            unfold m_x6_readStatement_J244
                            refine pc_bn (fun s3 es3 => ?_)
                            have hs3 := hs49.tr (fk_x6_expectSign _ es3)
                            refine pc_stn (fun s4 es4 => ?_)
                            have hs4 := hs3.tr (FKp.i (i := 100) (j := 101) es4 (by decide) (by decide))
                            exact pc_some hs4
                          · skip
                            refine pc_if (fun _ => ?_) (fun _ => ?_)
                            · skip
                              refine pc_bn (fun s52 es52 => ?_)
                              have hs52 := (FKp.rf s).tr (fk_x6_beginFormula _ es52)
                              refine pc_bn (fun s54 es54 => ?_)
                              have hs54 := hs52.tr (fk_x6_readSumC _ es54)
                              refine pc_eqg ?_
                              refine pc_inb ?_
                              refine pc_stn (fun s57 es57 => ?_)
                              have hs57 := hs54.tr (FKp.a (i := 100) (j := 101) es57)
                              unfold m_x6_readStatement_J244
                              refine pc_bn (fun s3 es3 => ?_)
                              have hs3 := hs57.tr (fk_x6_expectSign _ es3)
                              refine pc_stn (fun s4 es4 => ?_)
                              have hs4 := hs3.tr (FKp.i (i := 100) (j := 101) es4 (by decide) (by decide))
                              exact pc_some hs4
                            · skip
                              refine pc_if (fun _ => ?_) (fun _ => ?_)
                              · skip
                                refine pc_bn (fun s60 es60 => ?_)
                                have hs60 := (FKp.rf s).tr (FKp.of (i := 100) (j := 101) (fr_x6_advance es60) (by decide) (by decide))
                                refine pc_bn (fun qr63 eqr63 => ?_)
                                have hqr63 := hs60.tr (fk_x6_expectNumber _ eqr63)
                                refine pc_stn (fun s64 es64 => ?_)
                                have hs64 := hqr63.tr (FKp.i (i := 100) (j := 101) es64 (by decide) (by decide))
                                unfold m_x6_readStatement_J244
                                refine pc_bn (fun s3 es3 => ?_)
                                have hs3 := hs64.tr (fk_x6_expectSign _ es3)
                                refine pc_stn (fun s4 es4 => ?_)
                                have hs4 := hs3.tr (FKp.i (i := 100) (j := 101) es4 (by decide) (by decide))
                                exact pc_some hs4
                              · skip
                                unfold m_x6_readStatement_J234
                                refine pc_bn (fun qr8 eqr8 => ?_)
                                have hqr8 := (FKp.rf s).tr (fk_x6_fail _ eqr8)
                                unfold m_x6_readStatement_J244
                                refine pc_bn (fun s3 es3 => ?_)
                                have hs3 := hqr8.tr (fk_x6_expectSign _ es3)
                                refine pc_stn (fun s4 es4 => ?_)
                                have hs4 := hs3.tr (FKp.i (i := 100) (j := 101) es4 (by decide) (by decide))
                                exact pc_some hs4
        · skip
          refine pc_bn (fun qr67 eqr67 => ?_)
          have hqr67 := (FKp.rf s).tr (fk_x6_fail _ eqr67)
          exact pc_some hqr67
      · skip
        unfold m_x6_readStatement_J40
        refine pc_rg ?_
        refine pc_rg ?_
        refine pc_if (fun _ => ?_) (fun _ => ?_)
        · skip
          refine pc_rg ?_
          refine pc_if (fun _ => ?_) (fun _ => ?_)
          · skip
            refine pc_bn (fun s27 es27 => ?_)
            have hs27 := (FKp.rf s).tr (fk_x6_readBlocks _ es27)
            unfold m_x6_readStatement_J244
            refine pc_bn (fun s3 es3 => ?_)
            have hs3 := hs27.tr (fk_x6_expectSign _ es3)
            refine pc_stn (fun s4 es4 => ?_)
            have hs4 := hs3.tr (FKp.i (i := 100) (j := 101) es4 (by decide) (by decide))
            exact pc_some hs4
          · skip
            refine pc_if (fun _ => ?_) (fun _ => ?_)
            · skip
              unfold m_x6_readStatement_J234
              refine pc_bn (fun qr8 eqr8 => ?_)
              have hqr8 := (FKp.rf s).tr (fk_x6_fail _ eqr8)
              unfold m_x6_readStatement_J244
              refine pc_bn (fun s3 es3 => ?_)
              have hs3 := hqr8.tr (fk_x6_expectSign _ es3)
              refine pc_stn (fun s4 es4 => ?_)
              have hs4 := hs3.tr (FKp.i (i := 100) (j := 101) es4 (by decide) (by decide))
              exact pc_some hs4
            · skip
              refine pc_if (fun _ => ?_) (fun _ => ?_)
              · skip
                unfold m_x6_readStatement_J120
                refine pc_bn (fun s16 es16 => ?_)
                have hs16 := (FKp.rf s).tr (fk_x6_readVolume _ es16)
                unfold m_x6_readStatement_J244
                refine pc_bn (fun s3 es3 => ?_)
                have hs3 := hs16.tr (fk_x6_expectSign _ es3)
                refine pc_stn (fun s4 es4 => ?_)
                have hs4 := hs3.tr (FKp.i (i := 100) (j := 101) es4 (by decide) (by decide))
                exact pc_some hs4
              · skip
                refine pc_if (fun _ => ?_) (fun _ => ?_)
                · skip
                  unfold m_x6_readStatement_J120
                  refine pc_bn (fun s16 es16 => ?_)
                  have hs16 := (FKp.rf s).tr (fk_x6_readVolume _ es16)
                  unfold m_x6_readStatement_J244
                  refine pc_bn (fun s3 es3 => ?_)
                  have hs3 := hs16.tr (fk_x6_expectSign _ es3)
                  refine pc_stn (fun s4 es4 => ?_)
                  have hs4 := hs3.tr (FKp.i (i := 100) (j := 101) es4 (by decide) (by decide))
                  exact pc_some hs4
                · skip
                  refine pc_if (fun _ => ?_) (fun _ => ?_)
                  · skip
                    unfold m_x6_readStatement_J234
                    refine pc_bn (fun qr8 eqr8 => ?_)
                    have hqr8 := (FKp.rf s).tr (fk_x6_fail _ eqr8)
                    unfold m_x6_readStatement_J244
                    refine pc_bn (fun s3 es3 => ?_)
                    have hs3 := hqr8.tr (fk_x6_expectSign _ es3)
                    refine pc_stn (fun s4 es4 => ?_)
                    have hs4 := hs3.tr (FKp.i (i := 100) (j := 101) es4 (by decide) (by decide))
                    exact pc_some hs4
                  · skip
                    refine pc_if (fun _ => ?_) (fun _ => ?_)
                    · skip
                      unfold m_x6_readStatement_J129
                      refine pc_bn (fun s12 es12 => ?_)
                      have hs12 := (FKp.rf s).tr (fk_x6_readChange _ es12)
                      unfold m_x6_readStatement_J244
                      refine pc_bn (fun s3 es3 => ?_)
                      have hs3 := hs12.tr (fk_x6_expectSign _ es3)
                      refine pc_stn (fun s4 es4 => ?_)
                      have hs4 := hs3.tr (FKp.i (i := 100) (j := 101) es4 (by decide) (by decide))
                      exact pc_some hs4
                    · skip
                      refine pc_if (fun _ => ?_) (fun _ => ?_)
                      · skip
                        unfold m_x6_readStatement_J129
                        refine pc_bn (fun s12 es12 => ?_)
                        have hs12 := (FKp.rf s).tr (fk_x6_readChange _ es12)
                        unfold m_x6_readStatement_J244
                        refine pc_bn (fun s3 es3 => ?_)
                        have hs3 := hs12.tr (fk_x6_expectSign _ es3)
                        refine pc_stn (fun s4 es4 => ?_)
                        have hs4 := hs3.tr (FKp.i (i := 100) (j := 101) es4 (by decide) (by decide))
                        exact pc_some hs4
                      · skip
                        refine pc_if (fun _ => ?_) (fun _ => ?_)
                        · skip
                          refine pc_bn (fun s36 es36 => ?_)
                          have hs36 := (FKp.rf s).tr (fk_x6_beginFormula _ es36)
                          refine pc_bn (fun s38 es38 => ?_)
                          have hs38 := hs36.tr (fk_x6_readSumC _ es38)
                          refine pc_eqg ?_
                          refine pc_inb ?_
                          refine pc_stn (fun s41 es41 => ?_)
                          have hs41 := hs38.tr (FKp.a (i := 100) (j := 101) es41)
                          unfold m_x6_readStatement_J244
                          refine pc_bn (fun s3 es3 => ?_)
                          have hs3 := hs41.tr (fk_x6_expectSign _ es3)
                          refine pc_stn (fun s4 es4 => ?_)
                          have hs4 := hs3.tr (FKp.i (i := 100) (j := 101) es4 (by decide) (by decide))
                          exact pc_some hs4
                        · skip
                          refine pc_if (fun _ => ?_) (fun _ => ?_)
                          · skip
                            refine pc_bn (fun s44 es44 => ?_)
                            have hs44 := (FKp.rf s).tr (fk_x6_beginFormula _ es44)
                            refine pc_bn (fun s46 es46 => ?_)
                            have hs46 := hs44.tr (fk_x6_readTestC _ es46)
                            refine pc_eqg ?_
                            refine pc_inb ?_
                            refine pc_stn (fun s49 es49 => ?_)
                            have hs49 := hs46.tr (FKp.a (i := 100) (j := 101) es49)
                            unfold m_x6_readStatement_J244
                            refine pc_bn (fun s3 es3 => ?_)
                            have hs3 := hs49.tr (fk_x6_expectSign _ es3)
                            refine pc_stn (fun s4 es4 => ?_)
                            have hs4 := hs3.tr (FKp.i (i := 100) (j := 101) es4 (by decide) (by decide))
                            exact pc_some hs4
                          · skip
                            refine pc_if (fun _ => ?_) (fun _ => ?_)
                            · skip
                              refine pc_bn (fun s52 es52 => ?_)
                              have hs52 := (FKp.rf s).tr (fk_x6_beginFormula _ es52)
                              refine pc_bn (fun s54 es54 => ?_)
                              have hs54 := hs52.tr (fk_x6_readSumC _ es54)
                              refine pc_eqg ?_
                              refine pc_inb ?_
                              refine pc_stn (fun s57 es57 => ?_)
                              have hs57 := hs54.tr (FKp.a (i := 100) (j := 101) es57)
                              unfold m_x6_readStatement_J244
                              refine pc_bn (fun s3 es3 => ?_)
                              have hs3 := hs57.tr (fk_x6_expectSign _ es3)
                              refine pc_stn (fun s4 es4 => ?_)
                              have hs4 := hs3.tr (FKp.i (i := 100) (j := 101) es4 (by decide) (by decide))
                              exact pc_some hs4
                            · skip
                              refine pc_if (fun _ => ?_) (fun _ => ?_)
                              · skip
                                refine pc_bn (fun s60 es60 => ?_)
                                have hs60 := (FKp.rf s).tr (FKp.of (i := 100) (j := 101) (fr_x6_advance es60) (by decide) (by decide))
                                refine pc_bn (fun qr63 eqr63 => ?_)
                                have hqr63 := hs60.tr (fk_x6_expectNumber _ eqr63)
                                refine pc_stn (fun s64 es64 => ?_)
                                have hs64 := hqr63.tr (FKp.i (i := 100) (j := 101) es64 (by decide) (by decide))
                                unfold m_x6_readStatement_J244
                                refine pc_bn (fun s3 es3 => ?_)
                                have hs3 := hs64.tr (fk_x6_expectSign _ es3)
                                refine pc_stn (fun s4 es4 => ?_)
                                have hs4 := hs3.tr (FKp.i (i := 100) (j := 101) es4 (by decide) (by decide))
                                exact pc_some hs4
                              · skip
                                unfold m_x6_readStatement_J234
                                refine pc_bn (fun qr8 eqr8 => ?_)
                                have hqr8 := (FKp.rf s).tr (fk_x6_fail _ eqr8)
                                unfold m_x6_readStatement_J244
                                refine pc_bn (fun s3 es3 => ?_)
                                have hs3 := hqr8.tr (fk_x6_expectSign _ es3)
                                refine pc_stn (fun s4 es4 => ?_)
                                have hs4 := hs3.tr (FKp.i (i := 100) (j := 101) es4 (by decide) (by decide))
                                exact pc_some hs4
        · skip
          refine pc_bn (fun qr67 eqr67 => ?_)
          have hqr67 := (FKp.rf s).tr (fk_x6_fail _ eqr67)
          exact pc_some hqr67
    · skip
      unfold m_x6_readStatement_J29
      refine pc_rg ?_
      refine pc_if (fun _ => ?_) (fun _ => ?_)
      · skip
        unfold m_x6_readStatement_J40
        refine pc_rg ?_
        refine pc_rg ?_
        refine pc_if (fun _ => ?_) (fun _ => ?_)
        · skip
          refine pc_rg ?_
          refine pc_if (fun _ => ?_) (fun _ => ?_)
          · skip
            refine pc_bn (fun s27 es27 => ?_)
            have hs27 := (FKp.rf s).tr (fk_x6_readBlocks _ es27)
            unfold m_x6_readStatement_J244
            refine pc_bn (fun s3 es3 => ?_)
            have hs3 := hs27.tr (fk_x6_expectSign _ es3)
            refine pc_stn (fun s4 es4 => ?_)
            have hs4 := hs3.tr (FKp.i (i := 100) (j := 101) es4 (by decide) (by decide))
            exact pc_some hs4
          · skip
            refine pc_if (fun _ => ?_) (fun _ => ?_)
            · skip
              unfold m_x6_readStatement_J234
              refine pc_bn (fun qr8 eqr8 => ?_)
              have hqr8 := (FKp.rf s).tr (fk_x6_fail _ eqr8)
              unfold m_x6_readStatement_J244
              refine pc_bn (fun s3 es3 => ?_)
              have hs3 := hqr8.tr (fk_x6_expectSign _ es3)
              refine pc_stn (fun s4 es4 => ?_)
              have hs4 := hs3.tr (FKp.i (i := 100) (j := 101) es4 (by decide) (by decide))
              exact pc_some hs4
            · skip
              refine pc_if (fun _ => ?_) (fun _ => ?_)
              · skip
                unfold m_x6_readStatement_J120
                refine pc_bn (fun s16 es16 => ?_)
                have hs16 := (FKp.rf s).tr (fk_x6_readVolume _ es16)
                unfold m_x6_readStatement_J244
                refine pc_bn (fun s3 es3 => ?_)
                have hs3 := hs16.tr (fk_x6_expectSign _ es3)
                refine pc_stn (fun s4 es4 => ?_)
                have hs4 := hs3.tr (FKp.i (i := 100) (j := 101) es4 (by decide) (by decide))
                exact pc_some hs4
              · skip
                refine pc_if (fun _ => ?_) (fun _ => ?_)
                · skip
                  unfold m_x6_readStatement_J120
                  refine pc_bn (fun s16 es16 => ?_)
                  have hs16 := (FKp.rf s).tr (fk_x6_readVolume _ es16)
                  unfold m_x6_readStatement_J244
                  refine pc_bn (fun s3 es3 => ?_)
                  have hs3 := hs16.tr (fk_x6_expectSign _ es3)
                  refine pc_stn (fun s4 es4 => ?_)
                  have hs4 := hs3.tr (FKp.i (i := 100) (j := 101) es4 (by decide) (by decide))
                  exact pc_some hs4
                · skip
                  refine pc_if (fun _ => ?_) (fun _ => ?_)
                  · skip
                    unfold m_x6_readStatement_J234
                    refine pc_bn (fun qr8 eqr8 => ?_)
                    have hqr8 := (FKp.rf s).tr (fk_x6_fail _ eqr8)
                    unfold m_x6_readStatement_J244
                    refine pc_bn (fun s3 es3 => ?_)
                    have hs3 := hqr8.tr (fk_x6_expectSign _ es3)
                    refine pc_stn (fun s4 es4 => ?_)
                    have hs4 := hs3.tr (FKp.i (i := 100) (j := 101) es4 (by decide) (by decide))
                    exact pc_some hs4
                  · skip
                    refine pc_if (fun _ => ?_) (fun _ => ?_)
                    · skip
                      unfold m_x6_readStatement_J129
                      refine pc_bn (fun s12 es12 => ?_)
                      have hs12 := (FKp.rf s).tr (fk_x6_readChange _ es12)
                      unfold m_x6_readStatement_J244
                      refine pc_bn (fun s3 es3 => ?_)
                      have hs3 := hs12.tr (fk_x6_expectSign _ es3)
                      refine pc_stn (fun s4 es4 => ?_)
                      have hs4 := hs3.tr (FKp.i (i := 100) (j := 101) es4 (by decide) (by decide))
                      exact pc_some hs4
                    · skip
                      refine pc_if (fun _ => ?_) (fun _ => ?_)
                      · skip
                        unfold m_x6_readStatement_J129
                        refine pc_bn (fun s12 es12 => ?_)
                        have hs12 := (FKp.rf s).tr (fk_x6_readChange _ es12)
                        unfold m_x6_readStatement_J244
                        refine pc_bn (fun s3 es3 => ?_)
                        have hs3 := hs12.tr (fk_x6_expectSign _ es3)
                        refine pc_stn (fun s4 es4 => ?_)
                        have hs4 := hs3.tr (FKp.i (i := 100) (j := 101) es4 (by decide) (by decide))
                        exact pc_some hs4
                      · skip
                        refine pc_if (fun _ => ?_) (fun _ => ?_)
                        · skip
                          refine pc_bn (fun s36 es36 => ?_)
                          have hs36 := (FKp.rf s).tr (fk_x6_beginFormula _ es36)
                          refine pc_bn (fun s38 es38 => ?_)
                          have hs38 := hs36.tr (fk_x6_readSumC _ es38)
                          refine pc_eqg ?_
                          refine pc_inb ?_
                          refine pc_stn (fun s41 es41 => ?_)
                          have hs41 := hs38.tr (FKp.a (i := 100) (j := 101) es41)
                          unfold m_x6_readStatement_J244
                          refine pc_bn (fun s3 es3 => ?_)
                          have hs3 := hs41.tr (fk_x6_expectSign _ es3)
                          refine pc_stn (fun s4 es4 => ?_)
                          have hs4 := hs3.tr (FKp.i (i := 100) (j := 101) es4 (by decide) (by decide))
                          exact pc_some hs4
                        · skip
                          refine pc_if (fun _ => ?_) (fun _ => ?_)
                          · skip
                            refine pc_bn (fun s44 es44 => ?_)
                            have hs44 := (FKp.rf s).tr (fk_x6_beginFormula _ es44)
                            refine pc_bn (fun s46 es46 => ?_)
                            have hs46 := hs44.tr (fk_x6_readTestC _ es46)
                            refine pc_eqg ?_
                            refine pc_inb ?_
                            refine pc_stn (fun s49 es49 => ?_)
                            have hs49 := hs46.tr (FKp.a (i := 100) (j := 101) es49)
                            unfold m_x6_readStatement_J244
                            refine pc_bn (fun s3 es3 => ?_)
                            have hs3 := hs49.tr (fk_x6_expectSign _ es3)
                            refine pc_stn (fun s4 es4 => ?_)
                            have hs4 := hs3.tr (FKp.i (i := 100) (j := 101) es4 (by decide) (by decide))
                            exact pc_some hs4
                          · skip
                            refine pc_if (fun _ => ?_) (fun _ => ?_)
                            · skip
                              refine pc_bn (fun s52 es52 => ?_)
                              have hs52 := (FKp.rf s).tr (fk_x6_beginFormula _ es52)
                              refine pc_bn (fun s54 es54 => ?_)
                              have hs54 := hs52.tr (fk_x6_readSumC _ es54)
                              refine pc_eqg ?_
                              refine pc_inb ?_
                              refine pc_stn (fun s57 es57 => ?_)
                              have hs57 := hs54.tr (FKp.a (i := 100) (j := 101) es57)
                              unfold m_x6_readStatement_J244
                              refine pc_bn (fun s3 es3 => ?_)
                              have hs3 := hs57.tr (fk_x6_expectSign _ es3)
                              refine pc_stn (fun s4 es4 => ?_)
                              have hs4 := hs3.tr (FKp.i (i := 100) (j := 101) es4 (by decide) (by decide))
                              exact pc_some hs4
                            · skip
                              refine pc_if (fun _ => ?_) (fun _ => ?_)
                              · skip
                                refine pc_bn (fun s60 es60 => ?_)
                                have hs60 := (FKp.rf s).tr (FKp.of (i := 100) (j := 101) (fr_x6_advance es60) (by decide) (by decide))
                                refine pc_bn (fun qr63 eqr63 => ?_)
                                have hqr63 := hs60.tr (fk_x6_expectNumber _ eqr63)
                                refine pc_stn (fun s64 es64 => ?_)
                                have hs64 := hqr63.tr (FKp.i (i := 100) (j := 101) es64 (by decide) (by decide))
                                unfold m_x6_readStatement_J244
                                refine pc_bn (fun s3 es3 => ?_)
                                have hs3 := hs64.tr (fk_x6_expectSign _ es3)
                                refine pc_stn (fun s4 es4 => ?_)
                                have hs4 := hs3.tr (FKp.i (i := 100) (j := 101) es4 (by decide) (by decide))
                                exact pc_some hs4
                              · skip
                                unfold m_x6_readStatement_J234
                                refine pc_bn (fun qr8 eqr8 => ?_)
                                have hqr8 := (FKp.rf s).tr (fk_x6_fail _ eqr8)
                                unfold m_x6_readStatement_J244
                                refine pc_bn (fun s3 es3 => ?_)
                                have hs3 := hqr8.tr (fk_x6_expectSign _ es3)
                                refine pc_stn (fun s4 es4 => ?_)
                                have hs4 := hs3.tr (FKp.i (i := 100) (j := 101) es4 (by decide) (by decide))
                                exact pc_some hs4
        · skip
          refine pc_bn (fun qr67 eqr67 => ?_)
          have hqr67 := (FKp.rf s).tr (fk_x6_fail _ eqr67)
          exact pc_some hqr67
      · skip
        unfold m_x6_readStatement_J40
        refine pc_rg ?_
        refine pc_rg ?_
        refine pc_if (fun _ => ?_) (fun _ => ?_)
        · skip
          refine pc_rg ?_
          refine pc_if (fun _ => ?_) (fun _ => ?_)
          · skip
            refine pc_bn (fun s27 es27 => ?_)
            have hs27 := (FKp.rf s).tr (fk_x6_readBlocks _ es27)
            unfold m_x6_readStatement_J244
            refine pc_bn (fun s3 es3 => ?_)
            have hs3 := hs27.tr (fk_x6_expectSign _ es3)
            refine pc_stn (fun s4 es4 => ?_)
            have hs4 := hs3.tr (FKp.i (i := 100) (j := 101) es4 (by decide) (by decide))
            exact pc_some hs4
          · skip
            refine pc_if (fun _ => ?_) (fun _ => ?_)
            · skip
              unfold m_x6_readStatement_J234
              refine pc_bn (fun qr8 eqr8 => ?_)
              have hqr8 := (FKp.rf s).tr (fk_x6_fail _ eqr8)
              unfold m_x6_readStatement_J244
              refine pc_bn (fun s3 es3 => ?_)
              have hs3 := hqr8.tr (fk_x6_expectSign _ es3)
              refine pc_stn (fun s4 es4 => ?_)
              have hs4 := hs3.tr (FKp.i (i := 100) (j := 101) es4 (by decide) (by decide))
              exact pc_some hs4
            · skip
              refine pc_if (fun _ => ?_) (fun _ => ?_)
              · skip
                unfold m_x6_readStatement_J120
                refine pc_bn (fun s16 es16 => ?_)
                have hs16 := (FKp.rf s).tr (fk_x6_readVolume _ es16)
                unfold m_x6_readStatement_J244
                refine pc_bn (fun s3 es3 => ?_)
                have hs3 := hs16.tr (fk_x6_expectSign _ es3)
                refine pc_stn (fun s4 es4 => ?_)
                have hs4 := hs3.tr (FKp.i (i := 100) (j := 101) es4 (by decide) (by decide))
                exact pc_some hs4
              · skip
                refine pc_if (fun _ => ?_) (fun _ => ?_)
                · skip
                  unfold m_x6_readStatement_J120
                  refine pc_bn (fun s16 es16 => ?_)
                  have hs16 := (FKp.rf s).tr (fk_x6_readVolume _ es16)
                  unfold m_x6_readStatement_J244
                  refine pc_bn (fun s3 es3 => ?_)
                  have hs3 := hs16.tr (fk_x6_expectSign _ es3)
                  refine pc_stn (fun s4 es4 => ?_)
                  have hs4 := hs3.tr (FKp.i (i := 100) (j := 101) es4 (by decide) (by decide))
                  exact pc_some hs4
                · skip
                  refine pc_if (fun _ => ?_) (fun _ => ?_)
                  · skip
                    unfold m_x6_readStatement_J234
                    refine pc_bn (fun qr8 eqr8 => ?_)
                    have hqr8 := (FKp.rf s).tr (fk_x6_fail _ eqr8)
                    unfold m_x6_readStatement_J244
                    refine pc_bn (fun s3 es3 => ?_)
                    have hs3 := hqr8.tr (fk_x6_expectSign _ es3)
                    refine pc_stn (fun s4 es4 => ?_)
                    have hs4 := hs3.tr (FKp.i (i := 100) (j := 101) es4 (by decide) (by decide))
                    exact pc_some hs4
                  · skip
                    refine pc_if (fun _ => ?_) (fun _ => ?_)
                    · skip
                      unfold m_x6_readStatement_J129
                      refine pc_bn (fun s12 es12 => ?_)
                      have hs12 := (FKp.rf s).tr (fk_x6_readChange _ es12)
                      unfold m_x6_readStatement_J244
                      refine pc_bn (fun s3 es3 => ?_)
                      have hs3 := hs12.tr (fk_x6_expectSign _ es3)
                      refine pc_stn (fun s4 es4 => ?_)
                      have hs4 := hs3.tr (FKp.i (i := 100) (j := 101) es4 (by decide) (by decide))
                      exact pc_some hs4
                    · skip
                      refine pc_if (fun _ => ?_) (fun _ => ?_)
                      · skip
                        unfold m_x6_readStatement_J129
                        refine pc_bn (fun s12 es12 => ?_)
                        have hs12 := (FKp.rf s).tr (fk_x6_readChange _ es12)
                        unfold m_x6_readStatement_J244
                        refine pc_bn (fun s3 es3 => ?_)
                        have hs3 := hs12.tr (fk_x6_expectSign _ es3)
                        refine pc_stn (fun s4 es4 => ?_)
                        have hs4 := hs3.tr (FKp.i (i := 100) (j := 101) es4 (by decide) (by decide))
                        exact pc_some hs4
                      · skip
                        refine pc_if (fun _ => ?_) (fun _ => ?_)
                        · skip
                          refine pc_bn (fun s36 es36 => ?_)
                          have hs36 := (FKp.rf s).tr (fk_x6_beginFormula _ es36)
                          refine pc_bn (fun s38 es38 => ?_)
                          have hs38 := hs36.tr (fk_x6_readSumC _ es38)
                          refine pc_eqg ?_
                          refine pc_inb ?_
                          refine pc_stn (fun s41 es41 => ?_)
                          have hs41 := hs38.tr (FKp.a (i := 100) (j := 101) es41)
                          unfold m_x6_readStatement_J244
                          refine pc_bn (fun s3 es3 => ?_)
                          have hs3 := hs41.tr (fk_x6_expectSign _ es3)
                          refine pc_stn (fun s4 es4 => ?_)
                          have hs4 := hs3.tr (FKp.i (i := 100) (j := 101) es4 (by decide) (by decide))
                          exact pc_some hs4
                        · skip
                          refine pc_if (fun _ => ?_) (fun _ => ?_)
                          · skip
                            refine pc_bn (fun s44 es44 => ?_)
                            have hs44 := (FKp.rf s).tr (fk_x6_beginFormula _ es44)
                            refine pc_bn (fun s46 es46 => ?_)
                            have hs46 := hs44.tr (fk_x6_readTestC _ es46)
                            refine pc_eqg ?_
                            refine pc_inb ?_
                            refine pc_stn (fun s49 es49 => ?_)
                            have hs49 := hs46.tr (FKp.a (i := 100) (j := 101) es49)
                            unfold m_x6_readStatement_J244
                            refine pc_bn (fun s3 es3 => ?_)
                            have hs3 := hs49.tr (fk_x6_expectSign _ es3)
                            refine pc_stn (fun s4 es4 => ?_)
                            have hs4 := hs3.tr (FKp.i (i := 100) (j := 101) es4 (by decide) (by decide))
                            exact pc_some hs4
                          · skip
                            refine pc_if (fun _ => ?_) (fun _ => ?_)
                            · skip
                              refine pc_bn (fun s52 es52 => ?_)
                              have hs52 := (FKp.rf s).tr (fk_x6_beginFormula _ es52)
                              refine pc_bn (fun s54 es54 => ?_)
                              have hs54 := hs52.tr (fk_x6_readSumC _ es54)
                              refine pc_eqg ?_
                              refine pc_inb ?_
                              refine pc_stn (fun s57 es57 => ?_)
                              have hs57 := hs54.tr (FKp.a (i := 100) (j := 101) es57)
                              unfold m_x6_readStatement_J244
                              refine pc_bn (fun s3 es3 => ?_)
                              have hs3 := hs57.tr (fk_x6_expectSign _ es3)
                              refine pc_stn (fun s4 es4 => ?_)
                              have hs4 := hs3.tr (FKp.i (i := 100) (j := 101) es4 (by decide) (by decide))
                              exact pc_some hs4
                            · skip
                              refine pc_if (fun _ => ?_) (fun _ => ?_)
                              · skip
                                refine pc_bn (fun s60 es60 => ?_)
                                have hs60 := (FKp.rf s).tr (FKp.of (i := 100) (j := 101) (fr_x6_advance es60) (by decide) (by decide))
                                refine pc_bn (fun qr63 eqr63 => ?_)
                                have hqr63 := hs60.tr (fk_x6_expectNumber _ eqr63)
                                refine pc_stn (fun s64 es64 => ?_)
                                have hs64 := hqr63.tr (FKp.i (i := 100) (j := 101) es64 (by decide) (by decide))
                                unfold m_x6_readStatement_J244
                                refine pc_bn (fun s3 es3 => ?_)
                                have hs3 := hs64.tr (fk_x6_expectSign _ es3)
                                refine pc_stn (fun s4 es4 => ?_)
                                have hs4 := hs3.tr (FKp.i (i := 100) (j := 101) es4 (by decide) (by decide))
                                exact pc_some hs4
                              · skip
                                unfold m_x6_readStatement_J234
                                refine pc_bn (fun qr8 eqr8 => ?_)
                                have hqr8 := (FKp.rf s).tr (fk_x6_fail _ eqr8)
                                unfold m_x6_readStatement_J244
                                refine pc_bn (fun s3 es3 => ?_)
                                have hs3 := hqr8.tr (fk_x6_expectSign _ es3)
                                refine pc_stn (fun s4 es4 => ?_)
                                have hs4 := hs3.tr (FKp.i (i := 100) (j := 101) es4 (by decide) (by decide))
                                exact pc_some hs4
        · skip
          refine pc_bn (fun qr67 eqr67 => ?_)
          have hqr67 := (FKp.rf s).tr (fk_x6_fail _ eqr67)
          exact pc_some hqr67
  · skip
    unfold m_x6_readStatement_J16
    refine pc_rg ?_
    refine pc_if (fun _ => ?_) (fun _ => ?_)
    · skip
      unfold m_x6_readStatement_J29
      refine pc_rg ?_
      refine pc_if (fun _ => ?_) (fun _ => ?_)
      · skip
        unfold m_x6_readStatement_J40
        refine pc_rg ?_
        refine pc_rg ?_
        refine pc_if (fun _ => ?_) (fun _ => ?_)
        · skip
          refine pc_rg ?_
          refine pc_if (fun _ => ?_) (fun _ => ?_)
          · skip
            refine pc_bn (fun s27 es27 => ?_)
            have hs27 := (FKp.rf s).tr (fk_x6_readBlocks _ es27)
            unfold m_x6_readStatement_J244
            refine pc_bn (fun s3 es3 => ?_)
            have hs3 := hs27.tr (fk_x6_expectSign _ es3)
            refine pc_stn (fun s4 es4 => ?_)
            have hs4 := hs3.tr (FKp.i (i := 100) (j := 101) es4 (by decide) (by decide))
            exact pc_some hs4
          · skip
            refine pc_if (fun _ => ?_) (fun _ => ?_)
            · skip
              unfold m_x6_readStatement_J234
              refine pc_bn (fun qr8 eqr8 => ?_)
              have hqr8 := (FKp.rf s).tr (fk_x6_fail _ eqr8)
              unfold m_x6_readStatement_J244
              refine pc_bn (fun s3 es3 => ?_)
              have hs3 := hqr8.tr (fk_x6_expectSign _ es3)
              refine pc_stn (fun s4 es4 => ?_)
              have hs4 := hs3.tr (FKp.i (i := 100) (j := 101) es4 (by decide) (by decide))
              exact pc_some hs4
            · skip
              refine pc_if (fun _ => ?_) (fun _ => ?_)
              · skip
                unfold m_x6_readStatement_J120
                refine pc_bn (fun s16 es16 => ?_)
                have hs16 := (FKp.rf s).tr (fk_x6_readVolume _ es16)
                unfold m_x6_readStatement_J244
                refine pc_bn (fun s3 es3 => ?_)
                have hs3 := hs16.tr (fk_x6_expectSign _ es3)
                refine pc_stn (fun s4 es4 => ?_)
                have hs4 := hs3.tr (FKp.i (i := 100) (j := 101) es4 (by decide) (by decide))
                exact pc_some hs4
              · skip
                refine pc_if (fun _ => ?_) (fun _ => ?_)
                · skip
                  unfold m_x6_readStatement_J120
                  refine pc_bn (fun s16 es16 => ?_)
                  have hs16 := (FKp.rf s).tr (fk_x6_readVolume _ es16)
                  unfold m_x6_readStatement_J244
                  refine pc_bn (fun s3 es3 => ?_)
                  have hs3 := hs16.tr (fk_x6_expectSign _ es3)
                  refine pc_stn (fun s4 es4 => ?_)
                  have hs4 := hs3.tr (FKp.i (i := 100) (j := 101) es4 (by decide) (by decide))
                  exact pc_some hs4
                · skip
                  refine pc_if (fun _ => ?_) (fun _ => ?_)
                  · skip
                    unfold m_x6_readStatement_J234
                    refine pc_bn (fun qr8 eqr8 => ?_)
                    have hqr8 := (FKp.rf s).tr (fk_x6_fail _ eqr8)
                    unfold m_x6_readStatement_J244
                    refine pc_bn (fun s3 es3 => ?_)
                    have hs3 := hqr8.tr (fk_x6_expectSign _ es3)
                    refine pc_stn (fun s4 es4 => ?_)
                    have hs4 := hs3.tr (FKp.i (i := 100) (j := 101) es4 (by decide) (by decide))
                    exact pc_some hs4
                  · skip
                    refine pc_if (fun _ => ?_) (fun _ => ?_)
                    · skip
                      unfold m_x6_readStatement_J129
                      refine pc_bn (fun s12 es12 => ?_)
                      have hs12 := (FKp.rf s).tr (fk_x6_readChange _ es12)
                      unfold m_x6_readStatement_J244
                      refine pc_bn (fun s3 es3 => ?_)
                      have hs3 := hs12.tr (fk_x6_expectSign _ es3)
                      refine pc_stn (fun s4 es4 => ?_)
                      have hs4 := hs3.tr (FKp.i (i := 100) (j := 101) es4 (by decide) (by decide))
                      exact pc_some hs4
                    · skip
                      refine pc_if (fun _ => ?_) (fun _ => ?_)
                      · skip
                        unfold m_x6_readStatement_J129
                        refine pc_bn (fun s12 es12 => ?_)
                        have hs12 := (FKp.rf s).tr (fk_x6_readChange _ es12)
                        unfold m_x6_readStatement_J244
                        refine pc_bn (fun s3 es3 => ?_)
                        have hs3 := hs12.tr (fk_x6_expectSign _ es3)
                        refine pc_stn (fun s4 es4 => ?_)
                        have hs4 := hs3.tr (FKp.i (i := 100) (j := 101) es4 (by decide) (by decide))
                        exact pc_some hs4
                      · skip
                        refine pc_if (fun _ => ?_) (fun _ => ?_)
                        · skip
                          refine pc_bn (fun s36 es36 => ?_)
                          have hs36 := (FKp.rf s).tr (fk_x6_beginFormula _ es36)
                          refine pc_bn (fun s38 es38 => ?_)
                          have hs38 := hs36.tr (fk_x6_readSumC _ es38)
                          refine pc_eqg ?_
                          refine pc_inb ?_
                          refine pc_stn (fun s41 es41 => ?_)
                          have hs41 := hs38.tr (FKp.a (i := 100) (j := 101) es41)
                          unfold m_x6_readStatement_J244
                          refine pc_bn (fun s3 es3 => ?_)
                          have hs3 := hs41.tr (fk_x6_expectSign _ es3)
                          refine pc_stn (fun s4 es4 => ?_)
                          have hs4 := hs3.tr (FKp.i (i := 100) (j := 101) es4 (by decide) (by decide))
                          exact pc_some hs4
                        · skip
                          refine pc_if (fun _ => ?_) (fun _ => ?_)
                          · skip
                            refine pc_bn (fun s44 es44 => ?_)
                            have hs44 := (FKp.rf s).tr (fk_x6_beginFormula _ es44)
                            refine pc_bn (fun s46 es46 => ?_)
                            have hs46 := hs44.tr (fk_x6_readTestC _ es46)
                            refine pc_eqg ?_
                            refine pc_inb ?_
                            refine pc_stn (fun s49 es49 => ?_)
                            have hs49 := hs46.tr (FKp.a (i := 100) (j := 101) es49)
                            unfold m_x6_readStatement_J244
                            refine pc_bn (fun s3 es3 => ?_)
                            have hs3 := hs49.tr (fk_x6_expectSign _ es3)
                            refine pc_stn (fun s4 es4 => ?_)
                            have hs4 := hs3.tr (FKp.i (i := 100) (j := 101) es4 (by decide) (by decide))
                            exact pc_some hs4
                          · skip
                            refine pc_if (fun _ => ?_) (fun _ => ?_)
                            · skip
                              refine pc_bn (fun s52 es52 => ?_)
                              have hs52 := (FKp.rf s).tr (fk_x6_beginFormula _ es52)
                              refine pc_bn (fun s54 es54 => ?_)
                              have hs54 := hs52.tr (fk_x6_readSumC _ es54)
                              refine pc_eqg ?_
                              refine pc_inb ?_
                              refine pc_stn (fun s57 es57 => ?_)
                              have hs57 := hs54.tr (FKp.a (i := 100) (j := 101) es57)
                              unfold m_x6_readStatement_J244
                              refine pc_bn (fun s3 es3 => ?_)
                              have hs3 := hs57.tr (fk_x6_expectSign _ es3)
                              refine pc_stn (fun s4 es4 => ?_)
                              have hs4 := hs3.tr (FKp.i (i := 100) (j := 101) es4 (by decide) (by decide))
                              exact pc_some hs4
                            · skip
                              refine pc_if (fun _ => ?_) (fun _ => ?_)
                              · skip
                                refine pc_bn (fun s60 es60 => ?_)
                                have hs60 := (FKp.rf s).tr (FKp.of (i := 100) (j := 101) (fr_x6_advance es60) (by decide) (by decide))
                                refine pc_bn (fun qr63 eqr63 => ?_)
                                have hqr63 := hs60.tr (fk_x6_expectNumber _ eqr63)
                                refine pc_stn (fun s64 es64 => ?_)
                                have hs64 := hqr63.tr (FKp.i (i := 100) (j := 101) es64 (by decide) (by decide))
                                unfold m_x6_readStatement_J244
                                refine pc_bn (fun s3 es3 => ?_)
                                have hs3 := hs64.tr (fk_x6_expectSign _ es3)
                                refine pc_stn (fun s4 es4 => ?_)
                                have hs4 := hs3.tr (FKp.i (i := 100) (j := 101) es4 (by decide) (by decide))
                                exact pc_some hs4
                              · skip
                                unfold m_x6_readStatement_J234
                                refine pc_bn (fun qr8 eqr8 => ?_)
                                have hqr8 := (FKp.rf s).tr (fk_x6_fail _ eqr8)
                                unfold m_x6_readStatement_J244
                                refine pc_bn (fun s3 es3 => ?_)
                                have hs3 := hqr8.tr (fk_x6_expectSign _ es3)
                                refine pc_stn (fun s4 es4 => ?_)
                                have hs4 := hs3.tr (FKp.i (i := 100) (j := 101) es4 (by decide) (by decide))
                                exact pc_some hs4
        · skip
          refine pc_bn (fun qr67 eqr67 => ?_)
          have hqr67 := (FKp.rf s).tr (fk_x6_fail _ eqr67)
          exact pc_some hqr67
      · skip
        unfold m_x6_readStatement_J40
        refine pc_rg ?_
        refine pc_rg ?_
        refine pc_if (fun _ => ?_) (fun _ => ?_)
        · skip
          refine pc_rg ?_
          refine pc_if (fun _ => ?_) (fun _ => ?_)
          · skip
            refine pc_bn (fun s27 es27 => ?_)
            have hs27 := (FKp.rf s).tr (fk_x6_readBlocks _ es27)
            unfold m_x6_readStatement_J244
            refine pc_bn (fun s3 es3 => ?_)
            have hs3 := hs27.tr (fk_x6_expectSign _ es3)
            refine pc_stn (fun s4 es4 => ?_)
            have hs4 := hs3.tr (FKp.i (i := 100) (j := 101) es4 (by decide) (by decide))
            exact pc_some hs4
          · skip
            refine pc_if (fun _ => ?_) (fun _ => ?_)
            · skip
              unfold m_x6_readStatement_J234
              refine pc_bn (fun qr8 eqr8 => ?_)
              have hqr8 := (FKp.rf s).tr (fk_x6_fail _ eqr8)
              unfold m_x6_readStatement_J244
              refine pc_bn (fun s3 es3 => ?_)
              have hs3 := hqr8.tr (fk_x6_expectSign _ es3)
              refine pc_stn (fun s4 es4 => ?_)
              have hs4 := hs3.tr (FKp.i (i := 100) (j := 101) es4 (by decide) (by decide))
              exact pc_some hs4
            · skip
              refine pc_if (fun _ => ?_) (fun _ => ?_)
              · skip
                unfold m_x6_readStatement_J120
                refine pc_bn (fun s16 es16 => ?_)
                have hs16 := (FKp.rf s).tr (fk_x6_readVolume _ es16)
                unfold m_x6_readStatement_J244
                refine pc_bn (fun s3 es3 => ?_)
                have hs3 := hs16.tr (fk_x6_expectSign _ es3)
                refine pc_stn (fun s4 es4 => ?_)
                have hs4 := hs3.tr (FKp.i (i := 100) (j := 101) es4 (by decide) (by decide))
                exact pc_some hs4
              · skip
                refine pc_if (fun _ => ?_) (fun _ => ?_)
                · skip
                  unfold m_x6_readStatement_J120
                  refine pc_bn (fun s16 es16 => ?_)
                  have hs16 := (FKp.rf s).tr (fk_x6_readVolume _ es16)
                  unfold m_x6_readStatement_J244
                  refine pc_bn (fun s3 es3 => ?_)
                  have hs3 := hs16.tr (fk_x6_expectSign _ es3)
                  refine pc_stn (fun s4 es4 => ?_)
                  have hs4 := hs3.tr (FKp.i (i := 100) (j := 101) es4 (by decide) (by decide))
                  exact pc_some hs4
                · skip
                  refine pc_if (fun _ => ?_) (fun _ => ?_)
                  · skip
                    unfold m_x6_readStatement_J234
                    refine pc_bn (fun qr8 eqr8 => ?_)
                    have hqr8 := (FKp.rf s).tr (fk_x6_fail _ eqr8)
                    unfold m_x6_readStatement_J244
                    refine pc_bn (fun s3 es3 => ?_)
                    have hs3 := hqr8.tr (fk_x6_expectSign _ es3)
                    refine pc_stn (fun s4 es4 => ?_)
                    have hs4 := hs3.tr (FKp.i (i := 100) (j := 101) es4 (by decide) (by decide))
                    exact pc_some hs4
                  · skip
                    refine pc_if (fun _ => ?_) (fun _ => ?_)
                    · skip
                      unfold m_x6_readStatement_J129
                      refine pc_bn (fun s12 es12 => ?_)
                      have hs12 := (FKp.rf s).tr (fk_x6_readChange _ es12)
                      unfold m_x6_readStatement_J244
                      refine pc_bn (fun s3 es3 => ?_)
                      have hs3 := hs12.tr (fk_x6_expectSign _ es3)
                      refine pc_stn (fun s4 es4 => ?_)
                      have hs4 := hs3.tr (FKp.i (i := 100) (j := 101) es4 (by decide) (by decide))
                      exact pc_some hs4
                    · skip
                      refine pc_if (fun _ => ?_) (fun _ => ?_)
                      · skip
                        unfold m_x6_readStatement_J129
                        refine pc_bn (fun s12 es12 => ?_)
                        have hs12 := (FKp.rf s).tr (fk_x6_readChange _ es12)
                        unfold m_x6_readStatement_J244
                        refine pc_bn (fun s3 es3 => ?_)
                        have hs3 := hs12.tr (fk_x6_expectSign _ es3)
                        refine pc_stn (fun s4 es4 => ?_)
                        have hs4 := hs3.tr (FKp.i (i := 100) (j := 101) es4 (by decide) (by decide))
                        exact pc_some hs4
                      · skip
                        refine pc_if (fun _ => ?_) (fun _ => ?_)
                        · skip
                          refine pc_bn (fun s36 es36 => ?_)
                          have hs36 := (FKp.rf s).tr (fk_x6_beginFormula _ es36)
                          refine pc_bn (fun s38 es38 => ?_)
                          have hs38 := hs36.tr (fk_x6_readSumC _ es38)
                          refine pc_eqg ?_
                          refine pc_inb ?_
                          refine pc_stn (fun s41 es41 => ?_)
                          have hs41 := hs38.tr (FKp.a (i := 100) (j := 101) es41)
                          unfold m_x6_readStatement_J244
                          refine pc_bn (fun s3 es3 => ?_)
                          have hs3 := hs41.tr (fk_x6_expectSign _ es3)
                          refine pc_stn (fun s4 es4 => ?_)
                          have hs4 := hs3.tr (FKp.i (i := 100) (j := 101) es4 (by decide) (by decide))
                          exact pc_some hs4
                        · skip
                          refine pc_if (fun _ => ?_) (fun _ => ?_)
                          · skip
                            refine pc_bn (fun s44 es44 => ?_)
                            have hs44 := (FKp.rf s).tr (fk_x6_beginFormula _ es44)
                            refine pc_bn (fun s46 es46 => ?_)
                            have hs46 := hs44.tr (fk_x6_readTestC _ es46)
                            refine pc_eqg ?_
                            refine pc_inb ?_
                            refine pc_stn (fun s49 es49 => ?_)
                            have hs49 := hs46.tr (FKp.a (i := 100) (j := 101) es49)
                            unfold m_x6_readStatement_J244
                            refine pc_bn (fun s3 es3 => ?_)
                            have hs3 := hs49.tr (fk_x6_expectSign _ es3)
                            refine pc_stn (fun s4 es4 => ?_)
                            have hs4 := hs3.tr (FKp.i (i := 100) (j := 101) es4 (by decide) (by decide))
                            exact pc_some hs4
                          · skip
                            refine pc_if (fun _ => ?_) (fun _ => ?_)
                            · skip
                              refine pc_bn (fun s52 es52 => ?_)
                              have hs52 := (FKp.rf s).tr (fk_x6_beginFormula _ es52)
                              refine pc_bn (fun s54 es54 => ?_)
                              have hs54 := hs52.tr (fk_x6_readSumC _ es54)
                              refine pc_eqg ?_
                              refine pc_inb ?_
                              refine pc_stn (fun s57 es57 => ?_)
                              have hs57 := hs54.tr (FKp.a (i := 100) (j := 101) es57)
                              unfold m_x6_readStatement_J244
                              refine pc_bn (fun s3 es3 => ?_)
                              have hs3 := hs57.tr (fk_x6_expectSign _ es3)
                              refine pc_stn (fun s4 es4 => ?_)
                              have hs4 := hs3.tr (FKp.i (i := 100) (j := 101) es4 (by decide) (by decide))
                              exact pc_some hs4
                            · skip
                              refine pc_if (fun _ => ?_) (fun _ => ?_)
                              · skip
                                refine pc_bn (fun s60 es60 => ?_)
                                have hs60 := (FKp.rf s).tr (FKp.of (i := 100) (j := 101) (fr_x6_advance es60) (by decide) (by decide))
                                refine pc_bn (fun qr63 eqr63 => ?_)
                                have hqr63 := hs60.tr (fk_x6_expectNumber _ eqr63)
                                refine pc_stn (fun s64 es64 => ?_)
                                have hs64 := hqr63.tr (FKp.i (i := 100) (j := 101) es64 (by decide) (by decide))
                                unfold m_x6_readStatement_J244
                                refine pc_bn (fun s3 es3 => ?_)
                                have hs3 := hs64.tr (fk_x6_expectSign _ es3)
                                refine pc_stn (fun s4 es4 => ?_)
                                have hs4 := hs3.tr (FKp.i (i := 100) (j := 101) es4 (by decide) (by decide))
                                exact pc_some hs4
                              · skip
                                unfold m_x6_readStatement_J234
                                refine pc_bn (fun qr8 eqr8 => ?_)
                                have hqr8 := (FKp.rf s).tr (fk_x6_fail _ eqr8)
                                unfold m_x6_readStatement_J244
                                refine pc_bn (fun s3 es3 => ?_)
                                have hs3 := hqr8.tr (fk_x6_expectSign _ es3)
                                refine pc_stn (fun s4 es4 => ?_)
                                have hs4 := hs3.tr (FKp.i (i := 100) (j := 101) es4 (by decide) (by decide))
                                exact pc_some hs4
        · skip
          refine pc_bn (fun qr67 eqr67 => ?_)
          have hqr67 := (FKp.rf s).tr (fk_x6_fail _ eqr67)
          exact pc_some hqr67
    · skip
      unfold m_x6_readStatement_J29
      refine pc_rg ?_
      refine pc_if (fun _ => ?_) (fun _ => ?_)
      · skip
        unfold m_x6_readStatement_J40
        refine pc_rg ?_
        refine pc_rg ?_
        refine pc_if (fun _ => ?_) (fun _ => ?_)
        · skip
          refine pc_rg ?_
          refine pc_if (fun _ => ?_) (fun _ => ?_)
          · skip
            refine pc_bn (fun s27 es27 => ?_)
            have hs27 := (FKp.rf s).tr (fk_x6_readBlocks _ es27)
            unfold m_x6_readStatement_J244
            refine pc_bn (fun s3 es3 => ?_)
            have hs3 := hs27.tr (fk_x6_expectSign _ es3)
            refine pc_stn (fun s4 es4 => ?_)
            have hs4 := hs3.tr (FKp.i (i := 100) (j := 101) es4 (by decide) (by decide))
            exact pc_some hs4
          · skip
            refine pc_if (fun _ => ?_) (fun _ => ?_)
            · skip
              unfold m_x6_readStatement_J234
              refine pc_bn (fun qr8 eqr8 => ?_)
              have hqr8 := (FKp.rf s).tr (fk_x6_fail _ eqr8)
              unfold m_x6_readStatement_J244
              refine pc_bn (fun s3 es3 => ?_)
              have hs3 := hqr8.tr (fk_x6_expectSign _ es3)
              refine pc_stn (fun s4 es4 => ?_)
              have hs4 := hs3.tr (FKp.i (i := 100) (j := 101) es4 (by decide) (by decide))
              exact pc_some hs4
            · skip
              refine pc_if (fun _ => ?_) (fun _ => ?_)
              · skip
                unfold m_x6_readStatement_J120
                refine pc_bn (fun s16 es16 => ?_)
                have hs16 := (FKp.rf s).tr (fk_x6_readVolume _ es16)
                unfold m_x6_readStatement_J244
                refine pc_bn (fun s3 es3 => ?_)
                have hs3 := hs16.tr (fk_x6_expectSign _ es3)
                refine pc_stn (fun s4 es4 => ?_)
                have hs4 := hs3.tr (FKp.i (i := 100) (j := 101) es4 (by decide) (by decide))
                exact pc_some hs4
              · skip
                refine pc_if (fun _ => ?_) (fun _ => ?_)
                · skip
                  unfold m_x6_readStatement_J120
                  refine pc_bn (fun s16 es16 => ?_)
                  have hs16 := (FKp.rf s).tr (fk_x6_readVolume _ es16)
                  unfold m_x6_readStatement_J244
                  refine pc_bn (fun s3 es3 => ?_)
                  have hs3 := hs16.tr (fk_x6_expectSign _ es3)
                  refine pc_stn (fun s4 es4 => ?_)
                  have hs4 := hs3.tr (FKp.i (i := 100) (j := 101) es4 (by decide) (by decide))
                  exact pc_some hs4
                · skip
                  refine pc_if (fun _ => ?_) (fun _ => ?_)
                  · skip
                    unfold m_x6_readStatement_J234
                    refine pc_bn (fun qr8 eqr8 => ?_)
                    have hqr8 := (FKp.rf s).tr (fk_x6_fail _ eqr8)
                    unfold m_x6_readStatement_J244
                    refine pc_bn (fun s3 es3 => ?_)
                    have hs3 := hqr8.tr (fk_x6_expectSign _ es3)
                    refine pc_stn (fun s4 es4 => ?_)
                    have hs4 := hs3.tr (FKp.i (i := 100) (j := 101) es4 (by decide) (by decide))
                    exact pc_some hs4
                  · skip
                    refine pc_if (fun _ => ?_) (fun _ => ?_)
                    · skip
                      unfold m_x6_readStatement_J129
                      refine pc_bn (fun s12 es12 => ?_)
                      have hs12 := (FKp.rf s).tr (fk_x6_readChange _ es12)
                      unfold m_x6_readStatement_J244
                      refine pc_bn (fun s3 es3 => ?_)
                      have hs3 := hs12.tr (fk_x6_expectSign _ es3)
                      refine pc_stn (fun s4 es4 => ?_)
                      have hs4 := hs3.tr (FKp.i (i := 100) (j := 101) es4 (by decide) (by decide))
                      exact pc_some hs4
                    · skip
                      refine pc_if (fun _ => ?_) (fun _ => ?_)
                      · skip
                        unfold m_x6_readStatement_J129
                        refine pc_bn (fun s12 es12 => ?_)
                        have hs12 := (FKp.rf s).tr (fk_x6_readChange _ es12)
                        unfold m_x6_readStatement_J244
                        refine pc_bn (fun s3 es3 => ?_)
                        have hs3 := hs12.tr (fk_x6_expectSign _ es3)
                        refine pc_stn (fun s4 es4 => ?_)
                        have hs4 := hs3.tr (FKp.i (i := 100) (j := 101) es4 (by decide) (by decide))
                        exact pc_some hs4
                      · skip
                        refine pc_if (fun _ => ?_) (fun _ => ?_)
                        · skip
                          refine pc_bn (fun s36 es36 => ?_)
                          have hs36 := (FKp.rf s).tr (fk_x6_beginFormula _ es36)
                          refine pc_bn (fun s38 es38 => ?_)
                          have hs38 := hs36.tr (fk_x6_readSumC _ es38)
                          refine pc_eqg ?_
                          refine pc_inb ?_
                          refine pc_stn (fun s41 es41 => ?_)
                          have hs41 := hs38.tr (FKp.a (i := 100) (j := 101) es41)
                          unfold m_x6_readStatement_J244
                          refine pc_bn (fun s3 es3 => ?_)
                          have hs3 := hs41.tr (fk_x6_expectSign _ es3)
                          refine pc_stn (fun s4 es4 => ?_)
                          have hs4 := hs3.tr (FKp.i (i := 100) (j := 101) es4 (by decide) (by decide))
                          exact pc_some hs4
                        · skip
                          refine pc_if (fun _ => ?_) (fun _ => ?_)
                          · skip
                            refine pc_bn (fun s44 es44 => ?_)
                            have hs44 := (FKp.rf s).tr (fk_x6_beginFormula _ es44)
                            refine pc_bn (fun s46 es46 => ?_)
                            have hs46 := hs44.tr (fk_x6_readTestC _ es46)
                            refine pc_eqg ?_
                            refine pc_inb ?_
                            refine pc_stn (fun s49 es49 => ?_)
                            have hs49 := hs46.tr (FKp.a (i := 100) (j := 101) es49)
                            unfold m_x6_readStatement_J244
                            refine pc_bn (fun s3 es3 => ?_)
                            have hs3 := hs49.tr (fk_x6_expectSign _ es3)
                            refine pc_stn (fun s4 es4 => ?_)
                            have hs4 := hs3.tr (FKp.i (i := 100) (j := 101) es4 (by decide) (by decide))
                            exact pc_some hs4
                          · skip
                            refine pc_if (fun _ => ?_) (fun _ => ?_)
                            · skip
                              refine pc_bn (fun s52 es52 => ?_)
                              have hs52 := (FKp.rf s).tr (fk_x6_beginFormula _ es52)
                              refine pc_bn (fun s54 es54 => ?_)
                              have hs54 := hs52.tr (fk_x6_readSumC _ es54)
                              refine pc_eqg ?_
                              refine pc_inb ?_
                              refine pc_stn (fun s57 es57 => ?_)
                              have hs57 := hs54.tr (FKp.a (i := 100) (j := 101) es57)
                              unfold m_x6_readStatement_J244
                              refine pc_bn (fun s3 es3 => ?_)
                              have hs3 := hs57.tr (fk_x6_expectSign _ es3)
                              refine pc_stn (fun s4 es4 => ?_)
                              have hs4 := hs3.tr (FKp.i (i := 100) (j := 101) es4 (by decide) (by decide))
                              exact pc_some hs4
                            · skip
                              refine pc_if (fun _ => ?_) (fun _ => ?_)
                              · skip
                                refine pc_bn (fun s60 es60 => ?_)
                                have hs60 := (FKp.rf s).tr (FKp.of (i := 100) (j := 101) (fr_x6_advance es60) (by decide) (by decide))
                                refine pc_bn (fun qr63 eqr63 => ?_)
                                have hqr63 := hs60.tr (fk_x6_expectNumber _ eqr63)
                                refine pc_stn (fun s64 es64 => ?_)
                                have hs64 := hqr63.tr (FKp.i (i := 100) (j := 101) es64 (by decide) (by decide))
                                unfold m_x6_readStatement_J244
                                refine pc_bn (fun s3 es3 => ?_)
                                have hs3 := hs64.tr (fk_x6_expectSign _ es3)
                                refine pc_stn (fun s4 es4 => ?_)
                                have hs4 := hs3.tr (FKp.i (i := 100) (j := 101) es4 (by decide) (by decide))
                                exact pc_some hs4
                              · skip
                                unfold m_x6_readStatement_J234
                                refine pc_bn (fun qr8 eqr8 => ?_)
                                have hqr8 := (FKp.rf s).tr (fk_x6_fail _ eqr8)
                                unfold m_x6_readStatement_J244
                                refine pc_bn (fun s3 es3 => ?_)
                                have hs3 := hqr8.tr (fk_x6_expectSign _ es3)
                                refine pc_stn (fun s4 es4 => ?_)
                                have hs4 := hs3.tr (FKp.i (i := 100) (j := 101) es4 (by decide) (by decide))
                                exact pc_some hs4
        · skip
          refine pc_bn (fun qr67 eqr67 => ?_)
          have hqr67 := (FKp.rf s).tr (fk_x6_fail _ eqr67)
          exact pc_some hqr67
      · skip
        unfold m_x6_readStatement_J40
        refine pc_rg ?_
        refine pc_rg ?_
        refine pc_if (fun _ => ?_) (fun _ => ?_)
        · skip
          refine pc_rg ?_
          refine pc_if (fun _ => ?_) (fun _ => ?_)
          · skip
            refine pc_bn (fun s27 es27 => ?_)
            have hs27 := (FKp.rf s).tr (fk_x6_readBlocks _ es27)
            unfold m_x6_readStatement_J244
            refine pc_bn (fun s3 es3 => ?_)
            have hs3 := hs27.tr (fk_x6_expectSign _ es3)
            refine pc_stn (fun s4 es4 => ?_)
            have hs4 := hs3.tr (FKp.i (i := 100) (j := 101) es4 (by decide) (by decide))
            exact pc_some hs4
          · skip
            refine pc_if (fun _ => ?_) (fun _ => ?_)
            · skip
              unfold m_x6_readStatement_J234
              refine pc_bn (fun qr8 eqr8 => ?_)
              have hqr8 := (FKp.rf s).tr (fk_x6_fail _ eqr8)
              unfold m_x6_readStatement_J244
              refine pc_bn (fun s3 es3 => ?_)
              have hs3 := hqr8.tr (fk_x6_expectSign _ es3)
              refine pc_stn (fun s4 es4 => ?_)
              have hs4 := hs3.tr (FKp.i (i := 100) (j := 101) es4 (by decide) (by decide))
              exact pc_some hs4
            · skip
              refine pc_if (fun _ => ?_) (fun _ => ?_)
              · skip
                unfold m_x6_readStatement_J120
                refine pc_bn (fun s16 es16 => ?_)
                have hs16 := (FKp.rf s).tr (fk_x6_readVolume _ es16)
                unfold m_x6_readStatement_J244
                refine pc_bn (fun s3 es3 => ?_)
                have hs3 := hs16.tr (fk_x6_expectSign _ es3)
                refine pc_stn (fun s4 es4 => ?_)
                have hs4 := hs3.tr (FKp.i (i := 100) (j := 101) es4 (by decide) (by decide))
                exact pc_some hs4
              · skip
                refine pc_if (fun _ => ?_) (fun _ => ?_)
                · skip
                  unfold m_x6_readStatement_J120
                  refine pc_bn (fun s16 es16 => ?_)
                  have hs16 := (FKp.rf s).tr (fk_x6_readVolume _ es16)
                  unfold m_x6_readStatement_J244
                  refine pc_bn (fun s3 es3 => ?_)
                  have hs3 := hs16.tr (fk_x6_expectSign _ es3)
                  refine pc_stn (fun s4 es4 => ?_)
                  have hs4 := hs3.tr (FKp.i (i := 100) (j := 101) es4 (by decide) (by decide))
                  exact pc_some hs4
                · skip
                  refine pc_if (fun _ => ?_) (fun _ => ?_)
                  · skip
                    unfold m_x6_readStatement_J234
                    refine pc_bn (fun qr8 eqr8 => ?_)
                    have hqr8 := (FKp.rf s).tr (fk_x6_fail _ eqr8)
                    unfold m_x6_readStatement_J244
                    refine pc_bn (fun s3 es3 => ?_)
                    have hs3 := hqr8.tr (fk_x6_expectSign _ es3)
                    refine pc_stn (fun s4 es4 => ?_)
                    have hs4 := hs3.tr (FKp.i (i := 100) (j := 101) es4 (by decide) (by decide))
                    exact pc_some hs4
                  · skip
                    refine pc_if (fun _ => ?_) (fun _ => ?_)
                    · skip
                      unfold m_x6_readStatement_J129
                      refine pc_bn (fun s12 es12 => ?_)
                      have hs12 := (FKp.rf s).tr (fk_x6_readChange _ es12)
                      unfold m_x6_readStatement_J244
                      refine pc_bn (fun s3 es3 => ?_)
                      have hs3 := hs12.tr (fk_x6_expectSign _ es3)
                      refine pc_stn (fun s4 es4 => ?_)
                      have hs4 := hs3.tr (FKp.i (i := 100) (j := 101) es4 (by decide) (by decide))
                      exact pc_some hs4
                    · skip
                      refine pc_if (fun _ => ?_) (fun _ => ?_)
                      · skip
                        unfold m_x6_readStatement_J129
                        refine pc_bn (fun s12 es12 => ?_)
                        have hs12 := (FKp.rf s).tr (fk_x6_readChange _ es12)
                        unfold m_x6_readStatement_J244
                        refine pc_bn (fun s3 es3 => ?_)
                        have hs3 := hs12.tr (fk_x6_expectSign _ es3)
                        refine pc_stn (fun s4 es4 => ?_)
                        have hs4 := hs3.tr (FKp.i (i := 100) (j := 101) es4 (by decide) (by decide))
                        exact pc_some hs4
                      · skip
                        refine pc_if (fun _ => ?_) (fun _ => ?_)
                        · skip
                          refine pc_bn (fun s36 es36 => ?_)
                          have hs36 := (FKp.rf s).tr (fk_x6_beginFormula _ es36)
                          refine pc_bn (fun s38 es38 => ?_)
                          have hs38 := hs36.tr (fk_x6_readSumC _ es38)
                          refine pc_eqg ?_
                          refine pc_inb ?_
                          refine pc_stn (fun s41 es41 => ?_)
                          have hs41 := hs38.tr (FKp.a (i := 100) (j := 101) es41)
                          unfold m_x6_readStatement_J244
                          refine pc_bn (fun s3 es3 => ?_)
                          have hs3 := hs41.tr (fk_x6_expectSign _ es3)
                          refine pc_stn (fun s4 es4 => ?_)
                          have hs4 := hs3.tr (FKp.i (i := 100) (j := 101) es4 (by decide) (by decide))
                          exact pc_some hs4
                        · skip
                          refine pc_if (fun _ => ?_) (fun _ => ?_)
                          · skip
                            refine pc_bn (fun s44 es44 => ?_)
                            have hs44 := (FKp.rf s).tr (fk_x6_beginFormula _ es44)
                            refine pc_bn (fun s46 es46 => ?_)
                            have hs46 := hs44.tr (fk_x6_readTestC _ es46)
                            refine pc_eqg ?_
                            refine pc_inb ?_
                            refine pc_stn (fun s49 es49 => ?_)
                            have hs49 := hs46.tr (FKp.a (i := 100) (j := 101) es49)
                            unfold m_x6_readStatement_J244
                            refine pc_bn (fun s3 es3 => ?_)
                            have hs3 := hs49.tr (fk_x6_expectSign _ es3)
                            refine pc_stn (fun s4 es4 => ?_)
                            have hs4 := hs3.tr (FKp.i (i := 100) (j := 101) es4 (by decide) (by decide))
                            exact pc_some hs4
                          · skip
                            refine pc_if (fun _ => ?_) (fun _ => ?_)
                            · skip
                              refine pc_bn (fun s52 es52 => ?_)
                              have hs52 := (FKp.rf s).tr (fk_x6_beginFormula _ es52)
                              refine pc_bn (fun s54 es54 => ?_)
                              have hs54 := hs52.tr (fk_x6_readSumC _ es54)
                              refine pc_eqg ?_
                              refine pc_inb ?_
                              refine pc_stn (fun s57 es57 => ?_)
                              have hs57 := hs54.tr (FKp.a (i := 100) (j := 101) es57)
                              unfold m_x6_readStatement_J244
                              refine pc_bn (fun s3 es3 => ?_)
                              have hs3 := hs57.tr (fk_x6_expectSign _ es3)
                              refine pc_stn (fun s4 es4 => ?_)
                              have hs4 := hs3.tr (FKp.i (i := 100) (j := 101) es4 (by decide) (by decide))
                              exact pc_some hs4
                            · skip
                              refine pc_if (fun _ => ?_) (fun _ => ?_)
                              · skip
                                refine pc_bn (fun s60 es60 => ?_)
                                have hs60 := (FKp.rf s).tr (FKp.of (i := 100) (j := 101) (fr_x6_advance es60) (by decide) (by decide))
                                refine pc_bn (fun qr63 eqr63 => ?_)
                                have hqr63 := hs60.tr (fk_x6_expectNumber _ eqr63)
                                refine pc_stn (fun s64 es64 => ?_)
                                have hs64 := hqr63.tr (FKp.i (i := 100) (j := 101) es64 (by decide) (by decide))
                                unfold m_x6_readStatement_J244
                                refine pc_bn (fun s3 es3 => ?_)
                                have hs3 := hs64.tr (fk_x6_expectSign _ es3)
                                refine pc_stn (fun s4 es4 => ?_)
                                have hs4 := hs3.tr (FKp.i (i := 100) (j := 101) es4 (by decide) (by decide))
                                exact pc_some hs4
                              · skip
                                unfold m_x6_readStatement_J234
                                refine pc_bn (fun qr8 eqr8 => ?_)
                                have hqr8 := (FKp.rf s).tr (fk_x6_fail _ eqr8)
                                unfold m_x6_readStatement_J244
                                refine pc_bn (fun s3 es3 => ?_)
                                have hs3 := hqr8.tr (fk_x6_expectSign _ es3)
                                refine pc_stn (fun s4 es4 => ?_)
                                have hs4 := hs3.tr (FKp.i (i := 100) (j := 101) es4 (by decide) (by decide))
                                exact pc_some hs4
        · skip
          refine pc_bn (fun qr67 eqr67 => ?_)
          have hqr67 := (FKp.rf s).tr (fk_x6_fail _ eqr67)
          exact pc_some hqr67
set_option maxHeartbeats 1000000 in
theorem fk_x12_asks {wid : Nat} {wn : Nat} {s : MS} : pc (m_x12_asks wid wn s) (fun q => FKp 5 6 s q) := by
  unfold m_x12_asks
  refine pc_rg ?_
  refine pc_if (fun _ => ?_) (fun _ => ?_)
  · skip
    refine pc_bn (fun qr6 eqr6 => ?_)
    have hqr6 := (FKp.rf s).tr (FKp.of (i := 5) (j := 6) (fr_x12_takes eqr6) (by decide) (by decide))
    refine pc_rg ?_
    refine pc_if (fun _ => ?_) (fun _ => ?_)
    · skip
      refine pc_bn (fun s10 es10 => ?_)
      have hs10 := hqr6.tr (fk_x12_fail _ es10)
      unfold m_x12_asks_J24
      exact pc_some hs10
    · skip
      unfold m_x12_asks_J24
      exact pc_some hqr6
  · skip
    unfold m_x12_asks_J24
    exact pc_some (FKp.rf s)
set_option maxHeartbeats 1000000 in
theorem fk_x12_asksSign {p0 : Int} {s : MS} : pc (m_x12_asksSign p0 s) (fun q => FKp 5 6 s q) := by
  unfold m_x12_asksSign
  refine pc_rg ?_
  refine pc_if (fun _ => ?_) (fun _ => ?_)
  · skip
    refine pc_bn (fun qr6 eqr6 => ?_)
    have hqr6 := (FKp.rf s).tr (FKp.of (i := 5) (j := 6) (fr_x12_takesSign eqr6) (by decide) (by decide))
    refine pc_rg ?_
    refine pc_if (fun _ => ?_) (fun _ => ?_)
    · skip
      refine pc_bn (fun s10 es10 => ?_)
      have hs10 := hqr6.tr (fk_x12_fail _ es10)
      unfold m_x12_asksSign_J24
      exact pc_some hs10
    · skip
      unfold m_x12_asksSign_J24
      exact pc_some hqr6
  · skip
    unfold m_x12_asksSign_J24
    exact pc_some (FKp.rf s)
set_option maxHeartbeats 1000000 in
theorem fk_x12_number_L49 {s : MS} : ∀ (n : Nat) (x19 : Int) (x20 : Int) (x21 : Int) (x22 : Int) (s23 : MS), FKp 5 6 s s23 → pc (m_x12_number_L49 n x19 x20 x21 x22 s23) (fun q => FKp 5 6 s q.2) := by
  refine fr_ind (fun _ _ _ _ _ _ => pc_none) (fun n49 ih49 x19 x20 x21 x22 s23 hs23 => ?_)
  show pc (m_x12_number_b49 (m_x12_number_L49 n49) x19 x20 x21 x22 s23) _
  unfold m_x12_number_b49
  refine pc_rg ?_
  refine pc_rg ?_
  refine pc_if (fun _ => ?_) (fun _ => ?_)
  · skip
    unfold m_x12_number_J129
    refine pc_stn (fun s8 es8 => ?_)
    have hs8 := hs23.tr (FKp.i (i := 5) (j := 6) es8 (by decide) (by decide))
    refine pc_stn (fun s9 es9 => ?_)
    have hs9 := hs8.tr (FKp.i (i := 5) (j := 6) es9 (by decide) (by decide))
    refine pc_rg ?_
    refine pc_rg ?_
    refine pc_rg ?_
    refine pc_bn (fun r14 er14 => ?_)
    refine pc_rg ?_
    refine pc_if (fun _ => ?_) (fun _ => ?_)
    · skip
      refine pc_bn (fun s18 es18 => ?_)
      have hs18 := hs9.tr (fk_x12_fail _ es18)
      unfold m_x12_number_J164
      exact pc_some hs18
    · skip
      unfold m_x12_number_J164
      exact pc_some hs9
  · skip
    refine pc_rdI (fun _ => ?_)
    refine pc_bn (fun r29 er29 => ?_)
    refine pc_rg ?_
    refine pc_if (fun _ => ?_) (fun _ => ?_)
    · skip
      unfold m_x12_number_J129
      refine pc_stn (fun s8 es8 => ?_)
      have hs8 := hs23.tr (FKp.i (i := 5) (j := 6) es8 (by decide) (by decide))
      refine pc_stn (fun s9 es9 => ?_)
      have hs9 := hs8.tr (FKp.i (i := 5) (j := 6) es9 (by decide) (by decide))
      refine pc_rg ?_
      refine pc_rg ?_
      refine pc_rg ?_
      refine pc_bn (fun r14 er14 => ?_)
      refine pc_rg ?_
      refine pc_if (fun _ => ?_) (fun _ => ?_)
      · skip
        refine pc_bn (fun s18 es18 => ?_)
        have hs18 := hs9.tr (fk_x12_fail _ es18)
        unfold m_x12_number_J164
        exact pc_some hs18
      · skip
        unfold m_x12_number_J164
        exact pc_some hs9
    · skip
      refine pc_rg ?_
      refine pc_if (fun _ => ?_) (fun _ => ?_)
      · skip
        refine pc_bn (fun s37 es37 => ?_)
        have hs37 := hs23.tr (fk_x12_fail _ es37)
        exact pc_some hs37
      · skip
        refine pc_rdI (fun _ => ?_)
        refine pc_stn (fun s35 es35 => ?_)
        have hs35 := hs23.tr (FKp.i (i := 5) (j := 6) es35 (by decide) (by decide))
        exact ih49 _ _ _ _ _ hs35
set_option maxHeartbeats 1000000 in
theorem fk_x12_number {p0 : Int} {p1 : Int} {s : MS} : pc (m_x12_number p0 p1 s) (fun q => FKp 5 6 s q.2) := by
  unfold m_x12_number
  refine pc_rg ?_
  refine pc_if (fun _ => ?_) (fun _ => ?_)
  · skip
    refine pc_bn (fun qr45 eqr45 => ?_)
    have hqr45 := (FKp.rf s).tr (FKp.of (i := 5) (j := 6) (fr_x12_look eqr45) (by decide) (by decide))
    refine pc_bn (fun r47 er47 => ?_)
    refine pc_rg ?_
    refine pc_if (fun _ => ?_) (fun _ => ?_)
    · skip
      unfold m_x12_number_J30
      refine pc_bn (fun s40 es40 => ?_)
      have hs40 := hqr45.tr (fk_x12_fail _ es40)
      exact pc_some hs40
    · skip
      refine pc_rg ?_
      refine pc_rg ?_
      refine pc_if (fun _ => ?_) (fun _ => ?_)
      · skip
        unfold m_x12_number_J30
        refine pc_bn (fun s40 es40 => ?_)
        have hs40 := hqr45.tr (fk_x12_fail _ es40)
        exact pc_some hs40
      · skip
        exact fk_x12_number_L49 FU _ _ _ _ _ hqr45
  · skip
    exact pc_some (FKp.rf s)
set_option maxHeartbeats 1000000 in
theorem fk_x12_name_L58 {s : MS} : ∀ (n : Nat) (z4 : Int) (s5 : MS), FKp 5 6 s s5 → pc (m_x12_name_L58 n z4 s5) (fun q => FKp 5 6 s q.2) := by
  refine fr_ind (fun _ _ _ => pc_none) (fun n58 ih58 z4 s5 hs5 => ?_)
  show pc (m_x12_name_b58 (m_x12_name_L58 n58) z4 s5) _
  unfold m_x12_name_b58
  refine pc_rg ?_
  refine pc_rg ?_
  refine pc_if (fun _ => ?_) (fun _ => ?_)
  · skip
    unfold m_x12_name_J145
    refine pc_stn (fun s3 es3 => ?_)
    have hs3 := hs5.tr (FKp.i (i := 5) (j := 6) es3 (by decide) (by decide))
    exact pc_some hs3
  · skip
    refine pc_rdI (fun _ => ?_)
    refine pc_bn (fun r11 er11 => ?_)
    refine pc_rg ?_
    refine pc_if (fun _ => ?_) (fun _ => ?_)
    · skip
      unfold m_x12_name_J145
      refine pc_stn (fun s3 es3 => ?_)
      have hs3 := hs5.tr (FKp.i (i := 5) (j := 6) es3 (by decide) (by decide))
      exact pc_some hs3
    · skip
      refine pc_rg ?_
      refine pc_if (fun _ => ?_) (fun _ => ?_)
      · skip
        refine pc_bn (fun s20 es20 => ?_)
        have hs20 := hs5.tr (fk_x12_fail _ es20)
        exact pc_some hs20
      · skip
        refine pc_rdI (fun _ => ?_)
        refine pc_rg ?_
        refine pc_stn (fun s18 es18 => ?_)
        have hs18 := hs5.tr (FKp.i (i := 5) (j := 6) es18 (by decide) (by decide))
        exact ih58 _ _ hs18
set_option maxHeartbeats 1000000 in
theorem fk_x12_name {s : MS} : pc (m_x12_name s) (fun q => FKp 5 6 s q.2) := by
  unfold m_x12_name
  refine pc_rg ?_
  refine pc_if (fun _ => ?_) (fun _ => ?_)
  · skip
    refine pc_bn (fun qr28 eqr28 => ?_)
    have hqr28 := (FKp.rf s).tr (FKp.of (i := 5) (j := 6) (fr_x12_look eqr28) (by decide) (by decide))
    refine pc_bn (fun r30 er30 => ?_)
    refine pc_rg ?_
    refine pc_if (fun _ => ?_) (fun _ => ?_)
    · skip
      unfold m_x12_name_J37
      refine pc_bn (fun s23 es23 => ?_)
      have hs23 := hqr28.tr (fk_x12_fail _ es23)
      exact pc_some hs23
    · skip
      refine pc_rg ?_
      refine pc_rg ?_
      refine pc_if (fun _ => ?_) (fun _ => ?_)
      · skip
        unfold m_x12_name_J37
        refine pc_bn (fun s23 es23 => ?_)
        have hs23 := hqr28.tr (fk_x12_fail _ es23)
        exact pc_some hs23
      · skip
        refine pc_bn (fun qr38 eqr38 => ?_)
        have hqr38 := hqr28.tr (FKp.of (i := 5) (j := 6) (fr_x12_isOwnHere eqr38) (by decide) (by decide))
        refine pc_rg ?_
        refine pc_if (fun _ => ?_) (fun _ => ?_)
        · skip
          refine pc_stn (fun s41 es41 => ?_)
          have hs41 := hqr38.tr (FKp.i (i := 5) (j := 6) es41 (by decide) (by decide))
          exact fk_x12_name_L58 FU _ _ hs41
        · skip
          unfold m_x12_name_J37
          refine pc_bn (fun s23 es23 => ?_)
          have hs23 := hqr38.tr (fk_x12_fail _ es23)
          exact pc_some hs23
  · skip
    exact pc_some (FKp.rf s)
set_option maxHeartbeats 1000000 in
theorem fk_x12_qOpens {p0 : Int} {p1 : Int} {s : MS} : pc (m_x12_qOpens p0 p1 s) (fun q => FKp 5 6 s q) := by
  unfold m_x12_qOpens
  refine pc_rg ?_
  refine pc_if (fun _ => ?_) (fun _ => ?_)
  · skip
    refine pc_rg ?_
    refine pc_if (fun _ => ?_) (fun _ => ?_)
    · skip
      refine pc_bn (fun s10 es10 => ?_)
      have hs10 := (FKp.rf s).tr (fk_x12_fail _ es10)
      exact pc_some hs10
    · skip
      refine pc_stn (fun s5 es5 => ?_)
      have hs5 := (FKp.rf s).tr (FKp.i (i := 5) (j := 6) es5 (by decide) (by decide))
      refine pc_inb ?_
      refine pc_stn (fun s7 es7 => ?_)
      have hs7 := hs5.tr (FKp.a (i := 5) (j := 6) es7)
      refine pc_stn (fun s8 es8 => ?_)
      have hs8 := hs7.tr (FKp.i (i := 5) (j := 6) es8 (by decide) (by decide))
      exact pc_some hs8
  · skip
    exact pc_some (FKp.rf s)
set_option maxHeartbeats 1000000 in
theorem fk_x12_qAsksWord {p0 : Int} {s : MS} : pc (m_x12_qAsksWord p0 s) (fun q => FKp 5 6 s q) := by
  unfold m_x12_qAsksWord
  refine pc_rg ?_
  refine pc_if (fun _ => ?_) (fun _ => ?_)
  · skip
    refine pc_bn (fun s5 es5 => ?_)
    have hs5 := (FKp.rf s).tr (fk_x12_asks _ es5)
    unfold m_x12_qAsksWord_J159
    exact pc_some hs5
  · skip
    refine pc_if (fun _ => ?_) (fun _ => ?_)
    · skip
      refine pc_bn (fun s8 es8 => ?_)
      have hs8 := (FKp.rf s).tr (fk_x12_asks _ es8)
      unfold m_x12_qAsksWord_J159
      exact pc_some hs8
    · skip
      refine pc_if (fun _ => ?_) (fun _ => ?_)
      · skip
        refine pc_bn (fun s11 es11 => ?_)
        have hs11 := (FKp.rf s).tr (fk_x12_asks _ es11)
        unfold m_x12_qAsksWord_J159
        exact pc_some hs11
      · skip
        refine pc_if (fun _ => ?_) (fun _ => ?_)
        · skip
          refine pc_bn (fun s14 es14 => ?_)
          have hs14 := (FKp.rf s).tr (fk_x12_asks _ es14)
          unfold m_x12_qAsksWord_J159
          exact pc_some hs14
        · skip
          refine pc_if (fun _ => ?_) (fun _ => ?_)
          · skip
            refine pc_bn (fun s17 es17 => ?_)
            have hs17 := (FKp.rf s).tr (fk_x12_asks _ es17)
            unfold m_x12_qAsksWord_J159
            exact pc_some hs17
          · skip
            refine pc_if (fun _ => ?_) (fun _ => ?_)
            · skip
              refine pc_bn (fun s20 es20 => ?_)
              have hs20 := (FKp.rf s).tr (fk_x12_asks _ es20)
              unfold m_x12_qAsksWord_J159
              exact pc_some hs20
            · skip
              refine pc_if (fun _ => ?_) (fun _ => ?_)
              · skip
                refine pc_bn (fun s23 es23 => ?_)
                have hs23 := (FKp.rf s).tr (fk_x12_asks _ es23)
                unfold m_x12_qAsksWord_J159
                exact pc_some hs23
              · skip
                refine pc_if (fun _ => ?_) (fun _ => ?_)
                · skip
                  refine pc_bn (fun s26 es26 => ?_)
                  have hs26 := (FKp.rf s).tr (fk_x12_asks _ es26)
                  unfold m_x12_qAsksWord_J159
                  exact pc_some hs26
                · skip
                  refine pc_if (fun _ => ?_) (fun _ => ?_)
                  · skip
                    refine pc_bn (fun s29 es29 => ?_)
                    have hs29 := (FKp.rf s).tr (fk_x12_asks _ es29)
                    unfold m_x12_qAsksWord_J159
                    exact pc_some hs29
                  · skip
                    refine pc_bn (fun s31 es31 => ?_)
                    have hs31 := (FKp.rf s).tr (fk_x12_asks _ es31)
                    unfold m_x12_qAsksWord_J159
                    exact pc_some hs31
set_option maxHeartbeats 1000000 in
theorem fk_x12_qEndsPart_L0 {s : MS} : ∀ (n : Nat) (s2 : MS), FKp 5 6 s s2 → pc (m_x12_qEndsPart_L0 n s2) (fun q => FKp 5 6 s q) := by
  refine fr_ind (fun _ _ => pc_none) (fun n0 ih0 s2 hs2 => ?_)
  show pc (m_x12_qEndsPart_b0 (m_x12_qEndsPart_L0 n0) s2) _
  unfold m_x12_qEndsPart_b0
  refine pc_rg ?_
  refine pc_if (fun _ => ?_) (fun _ => ?_)
  · skip
    refine pc_rg ?_
    refine pc_rg ?_
    refine pc_if (fun _ => ?_) (fun _ => ?_)
    · skip
      unfold m_x12_qEndsPart_J51
      exact pc_some hs2
    · skip
      refine pc_rdI (fun _ => ?_)
      refine pc_rg ?_
      refine pc_if (fun _ => ?_) (fun _ => ?_)
      · skip
        unfold m_x12_qEndsPart_J51
        exact pc_some hs2
      · skip
        refine pc_stn (fun s11 es11 => ?_)
        have hs11 := hs2.tr (FKp.i (i := 5) (j := 6) es11 (by decide) (by decide))
        refine pc_bn (fun s13 es13 => ?_)
        have hs13 := hs11.tr (FKp.of (i := 5) (j := 6) (fr_x12_qDrops es13) (by decide) (by decide))
        exact ih0 _ hs13
  · skip
    unfold m_x12_qEndsPart_J51
    exact pc_some hs2
set_option maxHeartbeats 1000000 in
theorem fk_x12_qEndsPart {s : MS} : pc (m_x12_qEndsPart s) (fun q => FKp 5 6 s q) := by
  unfold m_x12_qEndsPart
  exact fk_x12_qEndsPart_L0 FU _ (FKp.rf s)
set_option maxHeartbeats 1000000 in
theorem fk_x12_qPartTold_L2 {s : MS} : ∀ (n : Nat) (x24 : Int) (s25 : MS), FKp 5 6 s s25 → pc (m_x12_qPartTold_L2 n x24 s25) (fun q => FKp 5 6 s q) := by
  refine fr_ind (fun _ _ _ => pc_none) (fun n2 ih2 x24 s25 hs25 => ?_)
  show pc (m_x12_qPartTold_b2 (m_x12_qPartTold_L2 n2) x24 s25) _
  unfold m_x12_qPartTold_b2
  refine pc_rg ?_
  refine pc_if (fun _ => ?_) (fun _ => ?_)
  · skip
    unfold m_x12_qPartTold_J186
    refine pc_rg ?_
    refine pc_if (fun _ => ?_) (fun _ => ?_)
    · skip
      refine pc_bn (fun qr19 eqr19 => ?_)
      have hqr19 := hs25.tr (FKp.of (i := 5) (j := 6) (fr_x12_qWordOf eqr19) (by decide) (by decide))
      refine pc_rg ?_
      refine pc_if (fun _ => ?_) (fun _ => ?_)
      · skip
        unfold m_x12_qPartTold_J212
        refine pc_rg ?_
        refine pc_if (fun _ => ?_) (fun _ => ?_)
        · skip
          refine pc_bn (fun qr13 eqr13 => ?_)
          have hqr13 := hqr19.tr (fk_x12_number _ eqr13)
          unfold m_x12_qPartTold_J237
          refine pc_bn (fun s4 es4 => ?_)
          have hs4 := hqr13.tr (FKp.of (i := 5) (j := 6) (fr_x12_qCode es4) (by decide) (by decide))
          refine pc_bn (fun s6 es6 => ?_)
          have hs6 := hs4.tr (FKp.of (i := 5) (j := 6) (fr_x12_qEndsPart es6) (by decide) (by decide))
          exact pc_some hs6
        · skip
          unfold m_x12_qPartTold_J237
          refine pc_bn (fun s4 es4 => ?_)
          have hs4 := hqr19.tr (FKp.of (i := 5) (j := 6) (fr_x12_qCode es4) (by decide) (by decide))
          refine pc_bn (fun s6 es6 => ?_)
          have hs6 := hs4.tr (FKp.of (i := 5) (j := 6) (fr_x12_qEndsPart es6) (by decide) (by decide))
          exact pc_some hs6
      · skip
        refine pc_bn (fun s23 es23 => ?_)
        have hs23 := hqr19.tr (fk_x12_qAsksWord _ es23)
        unfold m_x12_qPartTold_J212
        refine pc_rg ?_
        refine pc_if (fun _ => ?_) (fun _ => ?_)
        · skip
          refine pc_bn (fun qr13 eqr13 => ?_)
          have hqr13 := hs23.tr (fk_x12_number _ eqr13)
          unfold m_x12_qPartTold_J237
          refine pc_bn (fun s4 es4 => ?_)
          have hs4 := hqr13.tr (FKp.of (i := 5) (j := 6) (fr_x12_qCode es4) (by decide) (by decide))
          refine pc_bn (fun s6 es6 => ?_)
          have hs6 := hs4.tr (FKp.of (i := 5) (j := 6) (fr_x12_qEndsPart es6) (by decide) (by decide))
          exact pc_some hs6
        · skip
          unfold m_x12_qPartTold_J237
          refine pc_bn (fun s4 es4 => ?_)
          have hs4 := hs23.tr (FKp.of (i := 5) (j := 6) (fr_x12_qCode es4) (by decide) (by decide))
          refine pc_bn (fun s6 es6 => ?_)
          have hs6 := hs4.tr (FKp.of (i := 5) (j := 6) (fr_x12_qEndsPart es6) (by decide) (by decide))
          exact pc_some hs6
    · skip
      exact pc_some hs25
  · skip
    refine pc_rg ?_
    refine pc_if (fun _ => ?_) (fun _ => ?_)
    · skip
      refine pc_bn (fun qr69 eqr69 => ?_)
      have hqr69 := hs25.tr (FKp.of (i := 5) (j := 6) (fr_x12_look eqr69) (by decide) (by decide))
      refine pc_bn (fun qr72 eqr72 => ?_)
      have hqr72 := hqr69.tr (FKp.of (i := 5) (j := 6) (fr_x12_qWordOf eqr72) (by decide) (by decide))
      refine pc_rg ?_
      refine pc_if (fun _ => ?_) (fun _ => ?_)
      · skip
        refine pc_bn (fun s92 es92 => ?_)
        have hs92 := hqr72.tr (fk_x12_qOpens _ es92)
        refine pc_stn (fun s93 es93 => ?_)
        have hs93 := hs92.tr (FKp.i (i := 5) (j := 6) es93 (by decide) (by decide))
        unfold m_x12_qPartTold_J183
        exact ih2 _ _ hs93
      · skip
        refine pc_bn (fun qr77 eqr77 => ?_)
        have hqr77 := hqr72.tr (FKp.of (i := 5) (j := 6) (fr_x12_isHere eqr77) (by decide) (by decide))
        refine pc_rg ?_
        refine pc_if (fun _ => ?_) (fun _ => ?_)
        · skip
          refine pc_bn (fun qr82 eqr82 => ?_)
          have hqr82 := hqr77.tr (FKp.of (i := 5) (j := 6) (fr_x12_isHere eqr82) (by decide) (by decide))
          refine pc_rg ?_
          refine pc_if (fun _ => ?_) (fun _ => ?_)
          · skip
            refine pc_rg ?_
            refine pc_if (fun _ => ?_) (fun _ => ?_)
            · skip
              unfold m_x12_qPartTold_J183
              exact ih2 _ _ hqr82
            · skip
              refine pc_bn (fun s88 es88 => ?_)
              have hs88 := hqr82.tr (fk_x12_qOpens _ es88)
              refine pc_bn (fun s90 es90 => ?_)
              have hs90 := hs88.tr (fk_x12_qAsksWord _ es90)
              unfold m_x12_qPartTold_J183
              exact ih2 _ _ hs90
          · skip
            unfold m_x12_qPartTold_J78
            refine pc_bn (fun qr58 eqr58 => ?_)
            have hqr58 := hqr82.tr (FKp.of (i := 5) (j := 6) (fr_x12_takes eqr58) (by decide) (by decide))
            refine pc_rg ?_
            refine pc_if (fun _ => ?_) (fun _ => ?_)
            · skip
              refine pc_bn (fun s62 es62 => ?_)
              have hs62 := hqr58.tr (fk_x12_asks _ es62)
              unfold m_x12_qPartTold_J101
              refine pc_bn (fun qr51 eqr51 => ?_)
              have hqr51 := hs62.tr (FKp.of (i := 5) (j := 6) (fr_x12_look eqr51) (by decide) (by decide))
              refine pc_rg ?_
              refine pc_if (fun _ => ?_) (fun _ => ?_)
              · skip
                unfold m_x12_qPartTold_J118
                refine pc_rg ?_
                refine pc_if (fun _ => ?_) (fun _ => ?_)
                · skip
                  unfold m_x12_qPartTold_J144
                  refine pc_bn (fun s31 es31 => ?_)
                  have hs31 := hqr51.tr (fk_x12_asksSign _ es31)
                  unfold m_x12_qPartTold_J183
                  exact ih2 _ _ hs31
                · skip
                  refine pc_rg ?_
                  refine pc_if (fun _ => ?_) (fun _ => ?_)
                  · skip
                    unfold m_x12_qPartTold_J139
                    refine pc_bn (fun s37 es37 => ?_)
                    have hs37 := hqr51.tr (fk_x12_qOpens _ es37)
                    unfold m_x12_qPartTold_J144
                    refine pc_bn (fun s31 es31 => ?_)
                    have hs31 := hs37.tr (fk_x12_asksSign _ es31)
                    unfold m_x12_qPartTold_J183
                    exact ih2 _ _ hs31
                  · skip
                    unfold m_x12_qPartTold_J139
                    refine pc_bn (fun s37 es37 => ?_)
                    have hs37 := hqr51.tr (fk_x12_qOpens _ es37)
                    unfold m_x12_qPartTold_J144
                    refine pc_bn (fun s31 es31 => ?_)
                    have hs31 := hs37.tr (fk_x12_asksSign _ es31)
                    unfold m_x12_qPartTold_J183
                    exact ih2 _ _ hs31
              · skip
                unfold m_x12_qPartTold_J118
                refine pc_rg ?_
                refine pc_if (fun _ => ?_) (fun _ => ?_)
                · skip
                  unfold m_x12_qPartTold_J144
                  refine pc_bn (fun s31 es31 => ?_)
                  have hs31 := hqr51.tr (fk_x12_asksSign _ es31)
                  unfold m_x12_qPartTold_J183
                  exact ih2 _ _ hs31
                · skip
                  refine pc_rg ?_
                  refine pc_if (fun _ => ?_) (fun _ => ?_)
                  · skip
                    unfold m_x12_qPartTold_J139
                    refine pc_bn (fun s37 es37 => ?_)
                    have hs37 := hqr51.tr (fk_x12_qOpens _ es37)
                    unfold m_x12_qPartTold_J144
                    refine pc_bn (fun s31 es31 => ?_)
                    have hs31 := hs37.tr (fk_x12_asksSign _ es31)
                    unfold m_x12_qPartTold_J183
                    exact ih2 _ _ hs31
                  · skip
                    unfold m_x12_qPartTold_J139
                    refine pc_bn (fun s37 es37 => ?_)
                    have hs37 := hqr51.tr (fk_x12_qOpens _ es37)
                    unfold m_x12_qPartTold_J144
                    refine pc_bn (fun s31 es31 => ?_)
                    have hs31 := hs37.tr (fk_x12_asksSign _ es31)
                    unfold m_x12_qPartTold_J183
                    exact ih2 _ _ hs31
            · skip
              unfold m_x12_qPartTold_J101
              refine pc_bn (fun qr51 eqr51 => ?_)
              have hqr51 := hqr58.tr (FKp.of (i := 5) (j := 6) (fr_x12_look eqr51) (by decide) (by decide))
              refine pc_rg ?_
              refine pc_if (fun _ => ?_) (fun _ => ?_)
              · skip
                unfold m_x12_qPartTold_J118
                refine pc_rg ?_
                refine pc_if (fun _ => ?_) (fun _ => ?_)
                · skip
                  unfold m_x12_qPartTold_J144
                  refine pc_bn (fun s31 es31 => ?_)
                  have hs31 := hqr51.tr (fk_x12_asksSign _ es31)
                  unfold m_x12_qPartTold_J183
                  exact ih2 _ _ hs31
                · skip
                  refine pc_rg ?_
                  refine pc_if (fun _ => ?_) (fun _ => ?_)
                  · skip
                    unfold m_x12_qPartTold_J139
                    refine pc_bn (fun s37 es37 => ?_)
                    have hs37 := hqr51.tr (fk_x12_qOpens _ es37)
                    unfold m_x12_qPartTold_J144
                    refine pc_bn (fun s31 es31 => ?_)
                    have hs31 := hs37.tr (fk_x12_asksSign _ es31)
                    unfold m_x12_qPartTold_J183
                    exact ih2 _ _ hs31
                  · skip
                    unfold m_x12_qPartTold_J139
                    refine pc_bn (fun s37 es37 => ?_)
                    have hs37 := hqr51.tr (fk_x12_qOpens _ es37)
                    unfold m_x12_qPartTold_J144
                    refine pc_bn (fun s31 es31 => ?_)
                    have hs31 := hs37.tr (fk_x12_asksSign _ es31)
                    unfold m_x12_qPartTold_J183
                    exact ih2 _ _ hs31
              · skip
                unfold m_x12_qPartTold_J118
                refine pc_rg ?_
                refine pc_if (fun _ => ?_) (fun _ => ?_)
                · skip
                  unfold m_x12_qPartTold_J144
                  refine pc_bn (fun s31 es31 => ?_)
                  have hs31 := hqr51.tr (fk_x12_asksSign _ es31)
                  unfold m_x12_qPartTold_J183
                  exact ih2 _ _ hs31
                · skip
                  refine pc_rg ?_
                  refine pc_if (fun _ => ?_) (fun _ => ?_)
                  · skip
                    unfold m_x12_qPartTold_J139
                    refine pc_bn (fun s37 es37 => ?_)
                    have hs37 := hqr51.tr (fk_x12_qOpens _ es37)
                    unfold m_x12_qPartTold_J144
                    refine pc_bn (fun s31 es31 => ?_)
                    have hs31 := hs37.tr (fk_x12_asksSign _ es31)
                    unfold m_x12_qPartTold_J183
                    exact ih2 _ _ hs31
                  · skip
                    unfold m_x12_qPartTold_J139
                    refine pc_bn (fun s37 es37 => ?_)
                    have hs37 := hqr51.tr (fk_x12_qOpens _ es37)
                    unfold m_x12_qPartTold_J144
                    refine pc_bn (fun s31 es31 => ?_)
                    have hs31 := hs37.tr (fk_x12_asksSign _ es31)
                    unfold m_x12_qPartTold_J183
                    exact ih2 _ _ hs31
        · skip
          unfold m_x12_qPartTold_J78
          refine pc_bn (fun qr58 eqr58 => ?_)
          have hqr58 := hqr77.tr (FKp.of (i := 5) (j := 6) (fr_x12_takes eqr58) (by decide) (by decide))
          refine pc_rg ?_
          refine pc_if (fun _ => ?_) (fun _ => ?_)
          · skip
            refine pc_bn (fun s62 es62 => ?_)
            have hs62 := hqr58.tr (fk_x12_asks _ es62)
            unfold m_x12_qPartTold_J101
            refine pc_bn (fun qr51 eqr51 => ?_)
            have hqr51 := hs62.tr (FKp.of (i := 5) (j := 6) (fr_x12_look eqr51) (by decide) (by decide))
            refine pc_rg ?_
            refine pc_if (fun _ => ?_) (fun _ => ?_)
            · skip
              unfold m_x12_qPartTold_J118
              refine pc_rg ?_
              refine pc_if (fun _ => ?_) (fun _ => ?_)
              · skip
                unfold m_x12_qPartTold_J144
                refine pc_bn (fun s31 es31 => ?_)
                have hs31 := hqr51.tr (fk_x12_asksSign _ es31)
                unfold m_x12_qPartTold_J183
                exact ih2 _ _ hs31
              · skip
                refine pc_rg ?_
                refine pc_if (fun _ => ?_) (fun _ => ?_)
                · skip
                  unfold m_x12_qPartTold_J139
                  refine pc_bn (fun s37 es37 => ?_)
                  have hs37 := hqr51.tr (fk_x12_qOpens _ es37)
                  unfold m_x12_qPartTold_J144
                  refine pc_bn (fun s31 es31 => ?_)
                  have hs31 := hs37.tr (fk_x12_asksSign _ es31)
                  unfold m_x12_qPartTold_J183
                  exact ih2 _ _ hs31
                · skip
                  unfold m_x12_qPartTold_J139
                  refine pc_bn (fun s37 es37 => ?_)
                  have hs37 := hqr51.tr (fk_x12_qOpens _ es37)
                  unfold m_x12_qPartTold_J144
                  refine pc_bn (fun s31 es31 => ?_)
                  have hs31 := hs37.tr (fk_x12_asksSign _ es31)
                  unfold m_x12_qPartTold_J183
                  exact ih2 _ _ hs31
            · skip
              unfold m_x12_qPartTold_J118
              refine pc_rg ?_
              refine pc_if (fun _ => ?_) (fun _ => ?_)
              · skip
                unfold m_x12_qPartTold_J144
                refine pc_bn (fun s31 es31 => ?_)
                have hs31 := hqr51.tr (fk_x12_asksSign _ es31)
                unfold m_x12_qPartTold_J183
                exact ih2 _ _ hs31
              · skip
                refine pc_rg ?_
                refine pc_if (fun _ => ?_) (fun _ => ?_)
                · skip
                  unfold m_x12_qPartTold_J139
                  refine pc_bn (fun s37 es37 => ?_)
                  have hs37 := hqr51.tr (fk_x12_qOpens _ es37)
                  unfold m_x12_qPartTold_J144
                  refine pc_bn (fun s31 es31 => ?_)
                  have hs31 := hs37.tr (fk_x12_asksSign _ es31)
                  unfold m_x12_qPartTold_J183
                  exact ih2 _ _ hs31
                · skip
                  unfold m_x12_qPartTold_J139
                  refine pc_bn (fun s37 es37 => ?_)
                  have hs37 := hqr51.tr (fk_x12_qOpens _ es37)
                  unfold m_x12_qPartTold_J144
                  refine pc_bn (fun s31 es31 => ?_)
                  have hs31 := hs37.tr (fk_x12_asksSign _ es31)
                  unfold m_x12_qPartTold_J183
                  exact ih2 _ _ hs31
          · skip
            unfold m_x12_qPartTold_J101
            refine pc_bn (fun qr51 eqr51 => ?_)
            have hqr51 := hqr58.tr (FKp.of (i := 5) (j := 6) (fr_x12_look eqr51) (by decide) (by decide))
            refine pc_rg ?_
            refine pc_if (fun _ => ?_) (fun _ => ?_)
            · skip
              unfold m_x12_qPartTold_J118
              refine pc_rg ?_
              refine pc_if (fun _ => ?_) (fun _ => ?_)
              · skip
                unfold m_x12_qPartTold_J144
                refine pc_bn (fun s31 es31 => ?_)
                have hs31 := hqr51.tr (fk_x12_asksSign _ es31)
                unfold m_x12_qPartTold_J183
                exact ih2 _ _ hs31
              · skip
                refine pc_rg ?_
                refine pc_if (fun _ => ?_) (fun _ => ?_)
                · skip
                  unfold m_x12_qPartTold_J139
                  refine pc_bn (fun s37 es37 => ?_)
                  have hs37 := hqr51.tr (fk_x12_qOpens _ es37)
                  unfold m_x12_qPartTold_J144
                  refine pc_bn (fun s31 es31 => ?_)
                  have hs31 := hs37.tr (fk_x12_asksSign _ es31)
                  unfold m_x12_qPartTold_J183
                  exact ih2 _ _ hs31
                · skip
                  unfold m_x12_qPartTold_J139
                  refine pc_bn (fun s37 es37 => ?_)
                  have hs37 := hqr51.tr (fk_x12_qOpens _ es37)
                  unfold m_x12_qPartTold_J144
                  refine pc_bn (fun s31 es31 => ?_)
                  have hs31 := hs37.tr (fk_x12_asksSign _ es31)
                  unfold m_x12_qPartTold_J183
                  exact ih2 _ _ hs31
            · skip
              unfold m_x12_qPartTold_J118
              refine pc_rg ?_
              refine pc_if (fun _ => ?_) (fun _ => ?_)
              · skip
                unfold m_x12_qPartTold_J144
                refine pc_bn (fun s31 es31 => ?_)
                have hs31 := hqr51.tr (fk_x12_asksSign _ es31)
                unfold m_x12_qPartTold_J183
                exact ih2 _ _ hs31
              · skip
                refine pc_rg ?_
                refine pc_if (fun _ => ?_) (fun _ => ?_)
                · skip
                  unfold m_x12_qPartTold_J139
                  refine pc_bn (fun s37 es37 => ?_)
                  have hs37 := hqr51.tr (fk_x12_qOpens _ es37)
                  unfold m_x12_qPartTold_J144
                  refine pc_bn (fun s31 es31 => ?_)
                  have hs31 := hs37.tr (fk_x12_asksSign _ es31)
                  unfold m_x12_qPartTold_J183
                  exact ih2 _ _ hs31
                · skip
                  unfold m_x12_qPartTold_J139
                  refine pc_bn (fun s37 es37 => ?_)
                  have hs37 := hqr51.tr (fk_x12_qOpens _ es37)
                  unfold m_x12_qPartTold_J144
                  refine pc_bn (fun s31 es31 => ?_)
                  have hs31 := hs37.tr (fk_x12_asksSign _ es31)
                  unfold m_x12_qPartTold_J183
                  exact ih2 _ _ hs31
    · skip
      unfold m_x12_qPartTold_J186
      refine pc_rg ?_
      refine pc_if (fun _ => ?_) (fun _ => ?_)
      · skip
        refine pc_bn (fun qr19 eqr19 => ?_)
        have hqr19 := hs25.tr (FKp.of (i := 5) (j := 6) (fr_x12_qWordOf eqr19) (by decide) (by decide))
        refine pc_rg ?_
        refine pc_if (fun _ => ?_) (fun _ => ?_)
        · skip
          unfold m_x12_qPartTold_J212
          refine pc_rg ?_
          refine pc_if (fun _ => ?_) (fun _ => ?_)
          · skip
            refine pc_bn (fun qr13 eqr13 => ?_)
            have hqr13 := hqr19.tr (fk_x12_number _ eqr13)
            unfold m_x12_qPartTold_J237
            refine pc_bn (fun s4 es4 => ?_)
            have hs4 := hqr13.tr (FKp.of (i := 5) (j := 6) (fr_x12_qCode es4) (by decide) (by decide))
            refine pc_bn (fun s6 es6 => ?_)
            have hs6 := hs4.tr (FKp.of (i := 5) (j := 6) (fr_x12_qEndsPart es6) (by decide) (by decide))
            exact pc_some hs6
          · skip
            unfold m_x12_qPartTold_J237
            refine pc_bn (fun s4 es4 => ?_)
            have hs4 := hqr19.tr (FKp.of (i := 5) (j := 6) (fr_x12_qCode es4) (by decide) (by decide))
            refine pc_bn (fun s6 es6 => ?_)
            have hs6 := hs4.tr (FKp.of (i := 5) (j := 6) (fr_x12_qEndsPart es6) (by decide) (by decide))
            exact pc_some hs6
        · skip
          refine pc_bn (fun s23 es23 => ?_)
          have hs23 := hqr19.tr (fk_x12_qAsksWord _ es23)
          unfold m_x12_qPartTold_J212
          refine pc_rg ?_
          refine pc_if (fun _ => ?_) (fun _ => ?_)
          · skip
            refine pc_bn (fun qr13 eqr13 => ?_)
            have hqr13 := hs23.tr (fk_x12_number _ eqr13)
            unfold m_x12_qPartTold_J237
            refine pc_bn (fun s4 es4 => ?_)
            have hs4 := hqr13.tr (FKp.of (i := 5) (j := 6) (fr_x12_qCode es4) (by decide) (by decide))
            refine pc_bn (fun s6 es6 => ?_)
            have hs6 := hs4.tr (FKp.of (i := 5) (j := 6) (fr_x12_qEndsPart es6) (by decide) (by decide))
            exact pc_some hs6
          · skip
            unfold m_x12_qPartTold_J237
            refine pc_bn (fun s4 es4 => ?_)
            have hs4 := hs23.tr (FKp.of (i := 5) (j := 6) (fr_x12_qCode es4) (by decide) (by decide))
            refine pc_bn (fun s6 es6 => ?_)
            have hs6 := hs4.tr (FKp.of (i := 5) (j := 6) (fr_x12_qEndsPart es6) (by decide) (by decide))
            exact pc_some hs6
      · skip
        exact pc_some hs25
set_option maxHeartbeats 1000000 in
theorem fk_x12_qPartTold {s : MS} : pc (m_x12_qPartTold s) (fun q => FKp 5 6 s q) := by
  unfold m_x12_qPartTold
  exact fk_x12_qPartTold_L2 FU _ _ (FKp.rf s)
set_option maxHeartbeats 1000000 in
theorem fk_x12_qGoesOn_L247 {s : MS} : ∀ (n : Nat) (x12 : Int) (s13 : MS), FKp 5 6 s s13 → pc (m_x12_qGoesOn_L247 n x12 s13) (fun q => FKp 5 6 s q.2) := by
  refine fr_ind (fun _ _ _ => pc_none) (fun n247 ih247 x12 s13 hs13 => ?_)
  show pc (m_x12_qGoesOn_b247 (m_x12_qGoesOn_L247 n247) x12 s13) _
  unfold m_x12_qGoesOn_b247
  refine pc_bn (fun r19 er19 => ?_)
  refine pc_rg ?_
  refine pc_if (fun _ => ?_) (fun _ => ?_)
  · skip
    refine pc_bn (fun r23 er23 => ?_)
    refine pc_rg ?_
    refine pc_if (fun _ => ?_) (fun _ => ?_)
    · skip
      refine pc_bn (fun r27 er27 => ?_)
      refine pc_rg ?_
      refine pc_if (fun _ => ?_) (fun _ => ?_)
      · skip
        refine pc_bn (fun r31 er31 => ?_)
        refine pc_rg ?_
        refine pc_if (fun _ => ?_) (fun _ => ?_)
        · skip
          refine pc_inb ?_
          refine pc_stn (fun s35 es35 => ?_)
          have hs35 := hs13.tr (FKp.a (i := 5) (j := 6) es35)
          refine pc_stn (fun s36 es36 => ?_)
          have hs36 := hs35.tr (FKp.i (i := 5) (j := 6) es36 (by decide) (by decide))
          exact pc_some hs36
        · skip
          unfold m_x12_qGoesOn_J279
          refine pc_bn (fun s17 es17 => ?_)
          have hs17 := hs13.tr (FKp.of (i := 5) (j := 6) (fr_x12_qDrops es17) (by decide) (by decide))
          exact ih247 _ _ hs17
      · skip
        unfold m_x12_qGoesOn_J279
        refine pc_bn (fun s17 es17 => ?_)
        have hs17 := hs13.tr (FKp.of (i := 5) (j := 6) (fr_x12_qDrops es17) (by decide) (by decide))
        exact ih247 _ _ hs17
    · skip
      unfold m_x12_qGoesOn_J279
      refine pc_bn (fun s17 es17 => ?_)
      have hs17 := hs13.tr (FKp.of (i := 5) (j := 6) (fr_x12_qDrops es17) (by decide) (by decide))
      exact ih247 _ _ hs17
  · skip
    unfold m_x12_qGoesOn_J279
    refine pc_bn (fun s17 es17 => ?_)
    have hs17 := hs13.tr (FKp.of (i := 5) (j := 6) (fr_x12_qDrops es17) (by decide) (by decide))
    exact ih247 _ _ hs17
set_option maxHeartbeats 1000000 in
theorem fk_x12_qGoesOn_L162 {s : MS} : ∀ (n : Nat) (x43 : Int) (s44 : MS), FKp 5 6 s s44 → pc (m_x12_qGoesOn_L162 n x43 s44) (fun q => FKp 5 6 s q.2) := by
  refine fr_ind (fun _ _ _ => pc_none) (fun n162 ih162 x43 s44 hs44 => ?_)
  show pc (m_x12_qGoesOn_b162 (m_x12_qGoesOn_L162 n162) x43 s44) _
  unfold m_x12_qGoesOn_b162
  refine pc_bn (fun r50 er50 => ?_)
  refine pc_rg ?_
  refine pc_if (fun _ => ?_) (fun _ => ?_)
  · skip
    refine pc_bn (fun r54 er54 => ?_)
    refine pc_rg ?_
    refine pc_if (fun _ => ?_) (fun _ => ?_)
    · skip
      refine pc_inb ?_
      refine pc_stn (fun s58 es58 => ?_)
      have hs58 := hs44.tr (FKp.a (i := 5) (j := 6) es58)
      refine pc_stn (fun s59 es59 => ?_)
      have hs59 := hs58.tr (FKp.i (i := 5) (j := 6) es59 (by decide) (by decide))
      exact pc_some hs59
    · skip
      unfold m_x12_qGoesOn_J178
      refine pc_bn (fun s48 es48 => ?_)
      have hs48 := hs44.tr (FKp.of (i := 5) (j := 6) (fr_x12_qDrops es48) (by decide) (by decide))
      exact ih162 _ _ hs48
  · skip
    unfold m_x12_qGoesOn_J178
    refine pc_bn (fun s48 es48 => ?_)
    have hs48 := hs44.tr (FKp.of (i := 5) (j := 6) (fr_x12_qDrops es48) (by decide) (by decide))
    exact ih162 _ _ hs48
set_option maxHeartbeats 1000000 in
theorem fk_x12_qGoesOn_L0 {s : MS} : ∀ (n : Nat) (s103 : MS), FKp 5 6 s s103 → pc (m_x12_qGoesOn_L0 n s103) (fun q => FKp 5 6 s q.2) := by
  refine fr_ind (fun _ _ => pc_none) (fun n0 ih0 s103 hs103 => ?_)
  show pc (m_x12_qGoesOn_b0 (m_x12_qGoesOn_L0 n0) s103) _
  unfold m_x12_qGoesOn_b0
  refine pc_rg ?_
  refine pc_if (fun _ => ?_) (fun _ => ?_)
  · skip
    refine pc_bn (fun qr127 eqr127 => ?_)
    have hqr127 := hs103.tr (FKp.of (i := 5) (j := 6) (fr_x12_look eqr127) (by decide) (by decide))
    refine pc_rg ?_
    refine pc_if (fun _ => ?_) (fun _ => ?_)
    · skip
      refine pc_bn (fun r131 er131 => ?_)
      refine pc_rg ?_
      refine pc_if (fun _ => ?_) (fun _ => ?_)
      · skip
        unfold m_x12_qGoesOn_J43
        refine pc_stn (fun s112 es112 => ?_)
        have hs112 := hqr127.tr (FKp.i (i := 5) (j := 6) es112 (by decide) (by decide))
        refine pc_bn (fun s114 es114 => ?_)
        have hs114 := hs112.tr (FKp.of (i := 5) (j := 6) (fr_x12_qDropsToBracket es114) (by decide) (by decide))
        refine pc_stn (fun s115 es115 => ?_)
        have hs115 := hs114.tr (FKp.i (i := 5) (j := 6) es115 (by decide) (by decide))
        refine pc_stn (fun s116 es116 => ?_)
        have hs116 := hs115.tr (FKp.i (i := 5) (j := 6) es116 (by decide) (by decide))
        refine pc_rdI (fun _ => ?_)
        refine pc_rg ?_
        refine pc_if (fun _ => ?_) (fun _ => ?_)
        · skip
          unfold m_x12_qGoesOn_J115
          refine pc_bn (fun s106 es106 => ?_)
          have hs106 := hs116.tr (FKp.of (i := 5) (j := 6) (fr_x12_qEndsPart es106) (by decide) (by decide))
          exact ih0 _ hs106
        · skip
          refine pc_rdI (fun _ => ?_)
          refine pc_rg ?_
          refine pc_if (fun _ => ?_) (fun _ => ?_)
          · skip
            unfold m_x12_qGoesOn_J112
            refine pc_bn (fun s110 es110 => ?_)
            have hs110 := hs116.tr (FKp.of (i := 5) (j := 6) (fr_x12_qCode es110) (by decide) (by decide))
            unfold m_x12_qGoesOn_J115
            refine pc_bn (fun s106 es106 => ?_)
            have hs106 := hs110.tr (FKp.of (i := 5) (j := 6) (fr_x12_qEndsPart es106) (by decide) (by decide))
            exact ih0 _ hs106
          · skip
            unfold m_x12_qGoesOn_J112
            refine pc_bn (fun s110 es110 => ?_)
            have hs110 := hs116.tr (FKp.of (i := 5) (j := 6) (fr_x12_qCode es110) (by decide) (by decide))
            unfold m_x12_qGoesOn_J115
            refine pc_bn (fun s106 es106 => ?_)
            have hs106 := hs110.tr (FKp.of (i := 5) (j := 6) (fr_x12_qEndsPart es106) (by decide) (by decide))
            exact ih0 _ hs106
      · skip
        refine pc_bn (fun r135 er135 => ?_)
        refine pc_rg ?_
        refine pc_if (fun _ => ?_) (fun _ => ?_)
        · skip
          unfold m_x12_qGoesOn_J43
          refine pc_stn (fun s112 es112 => ?_)
          have hs112 := hqr127.tr (FKp.i (i := 5) (j := 6) es112 (by decide) (by decide))
          refine pc_bn (fun s114 es114 => ?_)
          have hs114 := hs112.tr (FKp.of (i := 5) (j := 6) (fr_x12_qDropsToBracket es114) (by decide) (by decide))
          refine pc_stn (fun s115 es115 => ?_)
          have hs115 := hs114.tr (FKp.i (i := 5) (j := 6) es115 (by decide) (by decide))
          refine pc_stn (fun s116 es116 => ?_)
          have hs116 := hs115.tr (FKp.i (i := 5) (j := 6) es116 (by decide) (by decide))
          refine pc_rdI (fun _ => ?_)
          refine pc_rg ?_
          refine pc_if (fun _ => ?_) (fun _ => ?_)
          · skip
            unfold m_x12_qGoesOn_J115
            refine pc_bn (fun s106 es106 => ?_)
            have hs106 := hs116.tr (FKp.of (i := 5) (j := 6) (fr_x12_qEndsPart es106) (by decide) (by decide))
            exact ih0 _ hs106
          · skip
            refine pc_rdI (fun _ => ?_)
            refine pc_rg ?_
            refine pc_if (fun _ => ?_) (fun _ => ?_)
            · skip
              unfold m_x12_qGoesOn_J112
              refine pc_bn (fun s110 es110 => ?_)
              have hs110 := hs116.tr (FKp.of (i := 5) (j := 6) (fr_x12_qCode es110) (by decide) (by decide))
              unfold m_x12_qGoesOn_J115
              refine pc_bn (fun s106 es106 => ?_)
              have hs106 := hs110.tr (FKp.of (i := 5) (j := 6) (fr_x12_qEndsPart es106) (by decide) (by decide))
              exact ih0 _ hs106
            · skip
              unfold m_x12_qGoesOn_J112
              refine pc_bn (fun s110 es110 => ?_)
              have hs110 := hs116.tr (FKp.of (i := 5) (j := 6) (fr_x12_qCode es110) (by decide) (by decide))
              unfold m_x12_qGoesOn_J115
              refine pc_bn (fun s106 es106 => ?_)
              have hs106 := hs110.tr (FKp.of (i := 5) (j := 6) (fr_x12_qEndsPart es106) (by decide) (by decide))
              exact ih0 _ hs106
        · skip
          refine pc_bn (fun r139 er139 => ?_)
          refine pc_rg ?_
          refine pc_if (fun _ => ?_) (fun _ => ?_)
          · skip
            unfold m_x12_qGoesOn_J43
            refine pc_stn (fun s112 es112 => ?_)
            have hs112 := hqr127.tr (FKp.i (i := 5) (j := 6) es112 (by decide) (by decide))
            refine pc_bn (fun s114 es114 => ?_)
            have hs114 := hs112.tr (FKp.of (i := 5) (j := 6) (fr_x12_qDropsToBracket es114) (by decide) (by decide))
            refine pc_stn (fun s115 es115 => ?_)
            have hs115 := hs114.tr (FKp.i (i := 5) (j := 6) es115 (by decide) (by decide))
            refine pc_stn (fun s116 es116 => ?_)
            have hs116 := hs115.tr (FKp.i (i := 5) (j := 6) es116 (by decide) (by decide))
            refine pc_rdI (fun _ => ?_)
            refine pc_rg ?_
            refine pc_if (fun _ => ?_) (fun _ => ?_)
            · skip
              unfold m_x12_qGoesOn_J115
              refine pc_bn (fun s106 es106 => ?_)
              have hs106 := hs116.tr (FKp.of (i := 5) (j := 6) (fr_x12_qEndsPart es106) (by decide) (by decide))
              exact ih0 _ hs106
            · skip
              refine pc_rdI (fun _ => ?_)
              refine pc_rg ?_
              refine pc_if (fun _ => ?_) (fun _ => ?_)
              · skip
                unfold m_x12_qGoesOn_J112
                refine pc_bn (fun s110 es110 => ?_)
                have hs110 := hs116.tr (FKp.of (i := 5) (j := 6) (fr_x12_qCode es110) (by decide) (by decide))
                unfold m_x12_qGoesOn_J115
                refine pc_bn (fun s106 es106 => ?_)
                have hs106 := hs110.tr (FKp.of (i := 5) (j := 6) (fr_x12_qEndsPart es106) (by decide) (by decide))
                exact ih0 _ hs106
              · skip
                unfold m_x12_qGoesOn_J112
                refine pc_bn (fun s110 es110 => ?_)
                have hs110 := hs116.tr (FKp.of (i := 5) (j := 6) (fr_x12_qCode es110) (by decide) (by decide))
                unfold m_x12_qGoesOn_J115
                refine pc_bn (fun s106 es106 => ?_)
                have hs106 := hs110.tr (FKp.of (i := 5) (j := 6) (fr_x12_qEndsPart es106) (by decide) (by decide))
                exact ih0 _ hs106
          · skip
            unfold m_x12_qGoesOn_J122
            refine pc_bn (fun qr69 eqr69 => ?_)
            have hqr69 := hqr127.tr (FKp.of (i := 5) (j := 6) (fr_x12_takesSign eqr69) (by decide) (by decide))
            refine pc_rg ?_
            refine pc_if (fun _ => ?_) (fun _ => ?_)
            · skip
              refine pc_bn (fun qr74 eqr74 => ?_)
              have hqr74 := hqr69.tr (FKp.of (i := 5) (j := 6) (fr_x12_takesSign eqr74) (by decide) (by decide))
              refine pc_rg ?_
              refine pc_if (fun _ => ?_) (fun _ => ?_)
              · skip
                refine pc_bn (fun qr79 eqr79 => ?_)
                have hqr79 := hqr74.tr (FKp.of (i := 5) (j := 6) (fr_x12_takesSign eqr79) (by decide) (by decide))
                refine pc_rg ?_
                refine pc_if (fun _ => ?_) (fun _ => ?_)
                · skip
                  refine pc_bn (fun qr84 eqr84 => ?_)
                  have hqr84 := hqr79.tr (FKp.of (i := 5) (j := 6) (fr_x12_takesSign eqr84) (by decide) (by decide))
                  refine pc_rg ?_
                  refine pc_if (fun _ => ?_) (fun _ => ?_)
                  · skip
                    refine pc_bn (fun r88 er88 => ?_)
                    refine pc_rg ?_
                    refine pc_if (fun _ => ?_) (fun _ => ?_)
                    · skip
                      unfold m_x12_qGoesOn_J326
                      refine pc_bn (fun s4 es4 => ?_)
                      have hs4 := hqr84.tr (fk_x12_asksSign _ es4)
                      refine pc_rg ?_
                      refine pc_if (fun _ => ?_) (fun _ => ?_)
                      · skip
                        refine pc_bn (fun s8 es8 => ?_)
                        have hs8 := hs4.tr (FKp.of (i := 5) (j := 6) (fr_x12_qDropsToBracket es8) (by decide) (by decide))
                        refine pc_rdI (fun _ => ?_)
                        refine pc_inb ?_
                        refine pc_stn (fun s11 es11 => ?_)
                        have hs11 := hs8.tr (FKp.a (i := 5) (j := 6) es11)
                        exact pc_some hs11
                      · skip
                        exact pc_some hs4
                    · skip
                      refine pc_bn (fun r92 er92 => ?_)
                      refine pc_rg ?_
                      refine pc_if (fun _ => ?_) (fun _ => ?_)
                      · skip
                        unfold m_x12_qGoesOn_J326
                        refine pc_bn (fun s4 es4 => ?_)
                        have hs4 := hqr84.tr (fk_x12_asksSign _ es4)
                        refine pc_rg ?_
                        refine pc_if (fun _ => ?_) (fun _ => ?_)
                        · skip
                          refine pc_bn (fun s8 es8 => ?_)
                          have hs8 := hs4.tr (FKp.of (i := 5) (j := 6) (fr_x12_qDropsToBracket es8) (by decide) (by decide))
                          refine pc_rdI (fun _ => ?_)
                          refine pc_inb ?_
                          refine pc_stn (fun s11 es11 => ?_)
                          have hs11 := hs8.tr (FKp.a (i := 5) (j := 6) es11)
                          exact pc_some hs11
                        · skip
                          exact pc_some hs4
                      · skip
                        refine pc_bn (fun r96 er96 => ?_)
                        refine pc_rg ?_
                        refine pc_if (fun _ => ?_) (fun _ => ?_)
                        · skip
                          unfold m_x12_qGoesOn_J386
                          exact pc_some hqr84
                        · skip
                          refine pc_rg ?_
                          refine pc_if (fun _ => ?_) (fun _ => ?_)
                          · skip
                            refine pc_bn (fun s102 es102 => ?_)
                            have hs102 := hqr84.tr (fk_x12_fail _ es102)
                            unfold m_x12_qGoesOn_J386
                            exact pc_some hs102
                          · skip
                            unfold m_x12_qGoesOn_J386
                            exact pc_some hqr84
                  · skip
                    unfold m_x12_qGoesOn_J225
                    refine pc_rdI (fun _ => ?_)
                    refine pc_rg ?_
                    refine pc_if (fun _ => ?_) (fun _ => ?_)
                    · skip
                      unfold m_x12_qGoesOn_J246
                      exact fk_x12_qGoesOn_L247 FU _ _ hqr84
                    · skip
                      unfold m_x12_qGoesOn_J246
                      exact fk_x12_qGoesOn_L247 FU _ _ hqr84
                · skip
                  unfold m_x12_qGoesOn_J225
                  refine pc_rdI (fun _ => ?_)
                  refine pc_rg ?_
                  refine pc_if (fun _ => ?_) (fun _ => ?_)
                  · skip
                    unfold m_x12_qGoesOn_J246
                    exact fk_x12_qGoesOn_L247 FU _ _ hqr79
                  · skip
                    unfold m_x12_qGoesOn_J246
                    exact fk_x12_qGoesOn_L247 FU _ _ hqr79
              · skip
                unfold m_x12_qGoesOn_J140
                refine pc_rdI (fun _ => ?_)
                refine pc_rg ?_
                refine pc_if (fun _ => ?_) (fun _ => ?_)
                · skip
                  unfold m_x12_qGoesOn_J161
                  exact fk_x12_qGoesOn_L162 FU _ _ hqr74
                · skip
                  unfold m_x12_qGoesOn_J161
                  exact fk_x12_qGoesOn_L162 FU _ _ hqr74
            · skip
              unfold m_x12_qGoesOn_J140
              refine pc_rdI (fun _ => ?_)
              refine pc_rg ?_
              refine pc_if (fun _ => ?_) (fun _ => ?_)
              · skip
                unfold m_x12_qGoesOn_J161
                exact fk_x12_qGoesOn_L162 FU _ _ hqr69
              · skip
                unfold m_x12_qGoesOn_J161
                exact fk_x12_qGoesOn_L162 FU _ _ hqr69
    · skip
      unfold m_x12_qGoesOn_J122
      refine pc_bn (fun qr69 eqr69 => ?_)
      have hqr69 := hqr127.tr (FKp.of (i := 5) (j := 6) (fr_x12_takesSign eqr69) (by decide) (by decide))
      refine pc_rg ?_
      refine pc_if (fun _ => ?_) (fun _ => ?_)
      · skip
        refine pc_bn (fun qr74 eqr74 => ?_)
        have hqr74 := hqr69.tr (FKp.of (i := 5) (j := 6) (fr_x12_takesSign eqr74) (by decide) (by decide))
        refine pc_rg ?_
        refine pc_if (fun _ => ?_) (fun _ => ?_)
        · skip
          refine pc_bn (fun qr79 eqr79 => ?_)
          have hqr79 := hqr74.tr (FKp.of (i := 5) (j := 6) (fr_x12_takesSign eqr79) (by decide) (by decide))
          refine pc_rg ?_
          refine pc_if (fun _ => ?_) (fun _ => ?_)
          · skip
            refine pc_bn (fun qr84 eqr84 => ?_)
            have hqr84 := hqr79.tr (FKp.of (i := 5) (j := 6) (fr_x12_takesSign eqr84) (by decide) (by decide))
            refine pc_rg ?_
            refine pc_if (fun _ => ?_) (fun _ => ?_)
            · skip
              refine pc_bn (fun r88 er88 => ?_)
              refine pc_rg ?_
              refine pc_if (fun _ => ?_) (fun _ => ?_)
              · skip
                unfold m_x12_qGoesOn_J326
                refine pc_bn (fun s4 es4 => ?_)
                have hs4 := hqr84.tr (fk_x12_asksSign _ es4)
                refine pc_rg ?_
                refine pc_if (fun _ => ?_) (fun _ => ?_)
                · skip
                  refine pc_bn (fun s8 es8 => ?_)
                  have hs8 := hs4.tr (FKp.of (i := 5) (j := 6) (fr_x12_qDropsToBracket es8) (by decide) (by decide))
                  refine pc_rdI (fun _ => ?_)
                  refine pc_inb ?_
                  refine pc_stn (fun s11 es11 => ?_)
                  have hs11 := hs8.tr (FKp.a (i := 5) (j := 6) es11)
                  exact pc_some hs11
                · skip
                  exact pc_some hs4
              · skip
                refine pc_bn (fun r92 er92 => ?_)
                refine pc_rg ?_
                refine pc_if (fun _ => ?_) (fun _ => ?_)
                · skip
                  unfold m_x12_qGoesOn_J326
                  refine pc_bn (fun s4 es4 => ?_)
                  have hs4 := hqr84.tr (fk_x12_asksSign _ es4)
                  refine pc_rg ?_
                  refine pc_if (fun _ => ?_) (fun _ => ?_)
                  · skip
                    refine pc_bn (fun s8 es8 => ?_)
                    have hs8 := hs4.tr (FKp.of (i := 5) (j := 6) (fr_x12_qDropsToBracket es8) (by decide) (by decide))
                    refine pc_rdI (fun _ => ?_)
                    refine pc_inb ?_
                    refine pc_stn (fun s11 es11 => ?_)
                    have hs11 := hs8.tr (FKp.a (i := 5) (j := 6) es11)
                    exact pc_some hs11
                  · skip
                    exact pc_some hs4
                · skip
                  refine pc_bn (fun r96 er96 => ?_)
                  refine pc_rg ?_
                  refine pc_if (fun _ => ?_) (fun _ => ?_)
                  · skip
                    unfold m_x12_qGoesOn_J386
                    exact pc_some hqr84
                  · skip
                    refine pc_rg ?_
                    refine pc_if (fun _ => ?_) (fun _ => ?_)
                    · skip
                      refine pc_bn (fun s102 es102 => ?_)
                      have hs102 := hqr84.tr (fk_x12_fail _ es102)
                      unfold m_x12_qGoesOn_J386
                      exact pc_some hs102
                    · skip
                      unfold m_x12_qGoesOn_J386
                      exact pc_some hqr84
            · skip
              unfold m_x12_qGoesOn_J225
              refine pc_rdI (fun _ => ?_)
              refine pc_rg ?_
              refine pc_if (fun _ => ?_) (fun _ => ?_)
              · skip
                unfold m_x12_qGoesOn_J246
                exact fk_x12_qGoesOn_L247 FU _ _ hqr84
              · skip
                unfold m_x12_qGoesOn_J246
                exact fk_x12_qGoesOn_L247 FU _ _ hqr84
          · skip
            unfold m_x12_qGoesOn_J225
            refine pc_rdI (fun _ => ?_)
            refine pc_rg ?_
            refine pc_if (fun _ => ?_) (fun _ => ?_)
            · skip
              unfold m_x12_qGoesOn_J246
              exact fk_x12_qGoesOn_L247 FU _ _ hqr79
            · skip
              unfold m_x12_qGoesOn_J246
              exact fk_x12_qGoesOn_L247 FU _ _ hqr79
        · skip
          unfold m_x12_qGoesOn_J140
          refine pc_rdI (fun _ => ?_)
          refine pc_rg ?_
          refine pc_if (fun _ => ?_) (fun _ => ?_)
          · skip
            unfold m_x12_qGoesOn_J161
            exact fk_x12_qGoesOn_L162 FU _ _ hqr74
          · skip
            unfold m_x12_qGoesOn_J161
            exact fk_x12_qGoesOn_L162 FU _ _ hqr74
      · skip
        unfold m_x12_qGoesOn_J140
        refine pc_rdI (fun _ => ?_)
        refine pc_rg ?_
        refine pc_if (fun _ => ?_) (fun _ => ?_)
        · skip
          unfold m_x12_qGoesOn_J161
          exact fk_x12_qGoesOn_L162 FU _ _ hqr69
        · skip
          unfold m_x12_qGoesOn_J161
          exact fk_x12_qGoesOn_L162 FU _ _ hqr69
  · skip
    unfold m_x12_qGoesOn_J122
    refine pc_bn (fun qr69 eqr69 => ?_)
    have hqr69 := hs103.tr (FKp.of (i := 5) (j := 6) (fr_x12_takesSign eqr69) (by decide) (by decide))
    refine pc_rg ?_
    refine pc_if (fun _ => ?_) (fun _ => ?_)
    · skip
      refine pc_bn (fun qr74 eqr74 => ?_)
      have hqr74 := hqr69.tr (FKp.of (i := 5) (j := 6) (fr_x12_takesSign eqr74) (by decide) (by decide))
      refine pc_rg ?_
      refine pc_if (fun _ => ?_) (fun _ => ?_)
      · skip
        refine pc_bn (fun qr79 eqr79 => ?_)
        have hqr79 := hqr74.tr (FKp.of (i := 5) (j := 6) (fr_x12_takesSign eqr79) (by decide) (by decide))
        refine pc_rg ?_
        refine pc_if (fun _ => ?_) (fun _ => ?_)
        · skip
          refine pc_bn (fun qr84 eqr84 => ?_)
          have hqr84 := hqr79.tr (FKp.of (i := 5) (j := 6) (fr_x12_takesSign eqr84) (by decide) (by decide))
          refine pc_rg ?_
          refine pc_if (fun _ => ?_) (fun _ => ?_)
          · skip
            refine pc_bn (fun r88 er88 => ?_)
            refine pc_rg ?_
            refine pc_if (fun _ => ?_) (fun _ => ?_)
            · skip
              unfold m_x12_qGoesOn_J326
              refine pc_bn (fun s4 es4 => ?_)
              have hs4 := hqr84.tr (fk_x12_asksSign _ es4)
              refine pc_rg ?_
              refine pc_if (fun _ => ?_) (fun _ => ?_)
              · skip
                refine pc_bn (fun s8 es8 => ?_)
                have hs8 := hs4.tr (FKp.of (i := 5) (j := 6) (fr_x12_qDropsToBracket es8) (by decide) (by decide))
                refine pc_rdI (fun _ => ?_)
                refine pc_inb ?_
                refine pc_stn (fun s11 es11 => ?_)
                have hs11 := hs8.tr (FKp.a (i := 5) (j := 6) es11)
                exact pc_some hs11
              · skip
                exact pc_some hs4
            · skip
              refine pc_bn (fun r92 er92 => ?_)
              refine pc_rg ?_
              refine pc_if (fun _ => ?_) (fun _ => ?_)
              · skip
                unfold m_x12_qGoesOn_J326
                refine pc_bn (fun s4 es4 => ?_)
                have hs4 := hqr84.tr (fk_x12_asksSign _ es4)
                refine pc_rg ?_
                refine pc_if (fun _ => ?_) (fun _ => ?_)
                · skip
                  refine pc_bn (fun s8 es8 => ?_)
                  have hs8 := hs4.tr (FKp.of (i := 5) (j := 6) (fr_x12_qDropsToBracket es8) (by decide) (by decide))
                  refine pc_rdI (fun _ => ?_)
                  refine pc_inb ?_
                  refine pc_stn (fun s11 es11 => ?_)
                  have hs11 := hs8.tr (FKp.a (i := 5) (j := 6) es11)
                  exact pc_some hs11
                · skip
                  exact pc_some hs4
              · skip
                refine pc_bn (fun r96 er96 => ?_)
                refine pc_rg ?_
                refine pc_if (fun _ => ?_) (fun _ => ?_)
                · skip
                  unfold m_x12_qGoesOn_J386
                  exact pc_some hqr84
                · skip
                  refine pc_rg ?_
                  refine pc_if (fun _ => ?_) (fun _ => ?_)
                  · skip
                    refine pc_bn (fun s102 es102 => ?_)
                    have hs102 := hqr84.tr (fk_x12_fail _ es102)
                    unfold m_x12_qGoesOn_J386
                    exact pc_some hs102
                  · skip
                    unfold m_x12_qGoesOn_J386
                    exact pc_some hqr84
          · skip
            unfold m_x12_qGoesOn_J225
            refine pc_rdI (fun _ => ?_)
            refine pc_rg ?_
            refine pc_if (fun _ => ?_) (fun _ => ?_)
            · skip
              unfold m_x12_qGoesOn_J246
              exact fk_x12_qGoesOn_L247 FU _ _ hqr84
            · skip
              unfold m_x12_qGoesOn_J246
              exact fk_x12_qGoesOn_L247 FU _ _ hqr84
        · skip
          unfold m_x12_qGoesOn_J225
          refine pc_rdI (fun _ => ?_)
          refine pc_rg ?_
          refine pc_if (fun _ => ?_) (fun _ => ?_)
          · skip
            unfold m_x12_qGoesOn_J246
            exact fk_x12_qGoesOn_L247 FU _ _ hqr79
          · skip
            unfold m_x12_qGoesOn_J246
            exact fk_x12_qGoesOn_L247 FU _ _ hqr79
      · skip
        unfold m_x12_qGoesOn_J140
        refine pc_rdI (fun _ => ?_)
        refine pc_rg ?_
        refine pc_if (fun _ => ?_) (fun _ => ?_)
        · skip
          unfold m_x12_qGoesOn_J161
          exact fk_x12_qGoesOn_L162 FU _ _ hqr74
        · skip
          unfold m_x12_qGoesOn_J161
          exact fk_x12_qGoesOn_L162 FU _ _ hqr74
    · skip
      unfold m_x12_qGoesOn_J140
      refine pc_rdI (fun _ => ?_)
      refine pc_rg ?_
      refine pc_if (fun _ => ?_) (fun _ => ?_)
      · skip
        unfold m_x12_qGoesOn_J161
        exact fk_x12_qGoesOn_L162 FU _ _ hqr69
      · skip
        unfold m_x12_qGoesOn_J161
        exact fk_x12_qGoesOn_L162 FU _ _ hqr69
set_option maxHeartbeats 1000000 in
theorem fk_x12_qGoesOn {s : MS} : pc (m_x12_qGoesOn s) (fun q => FKp 5 6 s q.2) := by
  unfold m_x12_qGoesOn
  exact fk_x12_qGoesOn_L0 FU _ (FKp.rf s)
set_option maxHeartbeats 1000000 in
theorem fk_x12_qSums_L53 {s : MS} : ∀ (n : Nat) (x4 : Int) (s5 : MS), FKp 5 6 s s5 → pc (m_x12_qSums_L53 n x4 s5) (fun q => FKp 5 6 s q) := by
  refine fr_ind (fun _ _ _ => pc_none) (fun n53 ih53 x4 s5 hs5 => ?_)
  show pc (m_x12_qSums_b53 (m_x12_qSums_L53 n53) x4 s5) _
  unfold m_x12_qSums_b53
  refine pc_rg ?_
  refine pc_if (fun _ => ?_) (fun _ => ?_)
  · skip
    refine pc_rg ?_
    refine pc_rg ?_
    refine pc_if (fun _ => ?_) (fun _ => ?_)
    · skip
      unfold m_x12_qSums_J78
      refine pc_stn (fun s3 es3 => ?_)
      have hs3 := hs5.tr (FKp.i (i := 5) (j := 6) es3 (by decide) (by decide))
      exact pc_some hs3
    · skip
      refine pc_bn (fun s12 es12 => ?_)
      have hs12 := hs5.tr (FKp.of (i := 5) (j := 6) (fr_x12_qDrops es12) (by decide) (by decide))
      exact ih53 _ _ hs12
  · skip
    unfold m_x12_qSums_J78
    refine pc_stn (fun s3 es3 => ?_)
    have hs3 := hs5.tr (FKp.i (i := 5) (j := 6) es3 (by decide) (by decide))
    exact pc_some hs3
set_option maxHeartbeats 1000000 in
theorem fk_x12_qSums_L15 {s : MS} : ∀ (n : Nat) (x13 : Int) (x14 : Int) (s15 : MS), FKp 5 6 s s15 → pc (m_x12_qSums_L15 n x13 x14 s15) (fun q => FKp 5 6 s q) := by
  refine fr_ind (fun _ _ _ _ => pc_none) (fun n15 ih15 x13 x14 s15 hs15 => ?_)
  show pc (m_x12_qSums_b15 (m_x12_qSums_L15 n15) x13 x14 s15) _
  unfold m_x12_qSums_b15
  refine pc_rg ?_
  refine pc_if (fun _ => ?_) (fun _ => ?_)
  · skip
    exact fk_x12_qSums_L53 FU _ _ hs15
  · skip
    refine pc_rg ?_
    refine pc_if (fun _ => ?_) (fun _ => ?_)
    · skip
      refine pc_bn (fun s26 es26 => ?_)
      have hs26 := hs15.tr (fk_x12_qPartTold _ es26)
      refine pc_rg ?_
      refine pc_if (fun _ => ?_) (fun _ => ?_)
      · skip
        refine pc_bn (fun qr31 eqr31 => ?_)
        have hqr31 := hs26.tr (fk_x12_qGoesOn _ eqr31)
        refine pc_rg ?_
        refine pc_if (fun _ => ?_) (fun _ => ?_)
        · skip
          unfold m_x12_qSums_J48
          unfold m_x12_qSums_J49
          exact ih15 _ _ _ hqr31
        · skip
          unfold m_x12_qSums_J49
          exact ih15 _ _ _ hqr31
      · skip
        unfold m_x12_qSums_J48
        unfold m_x12_qSums_J49
        exact ih15 _ _ _ hs26
    · skip
      exact fk_x12_qSums_L53 FU _ _ hs15
set_option maxHeartbeats 1000000 in
theorem fk_x12_qSums {s : MS} : pc (m_x12_qSums s) (fun q => FKp 5 6 s q) := by
  unfold m_x12_qSums
  refine pc_stn (fun s34 es34 => ?_)
  have hs34 := (FKp.rf s).tr (FKp.i (i := 5) (j := 6) es34 (by decide) (by decide))
  exact fk_x12_qSums_L15 FU _ _ _ hs34
set_option maxHeartbeats 1000000 in
theorem fk_x12_qFact {s : MS} : pc (m_x12_qFact s) (fun q => FKp 5 6 s q) := by
  unfold m_x12_qFact
  refine pc_bn (fun qr16 eqr16 => ?_)
  have hqr16 := (FKp.rf s).tr (FKp.of (i := 5) (j := 6) (fr_x12_takes eqr16) (by decide) (by decide))
  refine pc_rg ?_
  refine pc_if (fun _ => ?_) (fun _ => ?_)
  · skip
    refine pc_bn (fun s20 es20 => ?_)
    have hs20 := hqr16.tr (fk_x12_qSums _ es20)
    refine pc_rg ?_
    refine pc_if (fun _ => ?_) (fun _ => ?_)
    · skip
      refine pc_bn (fun qr25 eqr25 => ?_)
      have hqr25 := hs20.tr (FKp.of (i := 5) (j := 6) (fr_x12_look eqr25) (by decide) (by decide))
      refine pc_rg ?_
      refine pc_if (fun _ => ?_) (fun _ => ?_)
      · skip
        unfold m_x12_qFact_J63
        refine pc_stn (fun s7 es7 => ?_)
        have hs7 := hqr25.tr (FKp.i (i := 5) (j := 6) es7 (by decide) (by decide))
        refine pc_bn (fun s9 es9 => ?_)
        have hs9 := hs7.tr (fk_x12_qSums _ es9)
        refine pc_rg ?_
        refine pc_if (fun _ => ?_) (fun _ => ?_)
        · skip
          unfold m_x12_qFact_J102
          refine pc_bn (fun s4 es4 => ?_)
          have hs4 := hs9.tr (FKp.of (i := 5) (j := 6) (fr_x12_qCode es4) (by decide) (by decide))
          exact pc_some hs4
        · skip
          refine pc_rg ?_
          refine pc_if (fun _ => ?_) (fun _ => ?_)
          · skip
            unfold m_x12_qFact_J102
            refine pc_bn (fun s4 es4 => ?_)
            have hs4 := hs9.tr (FKp.of (i := 5) (j := 6) (fr_x12_qCode es4) (by decide) (by decide))
            exact pc_some hs4
          · skip
            unfold m_x12_qFact_J102
            refine pc_bn (fun s4 es4 => ?_)
            have hs4 := hs9.tr (FKp.of (i := 5) (j := 6) (fr_x12_qCode es4) (by decide) (by decide))
            exact pc_some hs4
      · skip
        refine pc_rg ?_
        refine pc_if (fun _ => ?_) (fun _ => ?_)
        · skip
          unfold m_x12_qFact_J63
          refine pc_stn (fun s7 es7 => ?_)
          have hs7 := hqr25.tr (FKp.i (i := 5) (j := 6) es7 (by decide) (by decide))
          refine pc_bn (fun s9 es9 => ?_)
          have hs9 := hs7.tr (fk_x12_qSums _ es9)
          refine pc_rg ?_
          refine pc_if (fun _ => ?_) (fun _ => ?_)
          · skip
            unfold m_x12_qFact_J102
            refine pc_bn (fun s4 es4 => ?_)
            have hs4 := hs9.tr (FKp.of (i := 5) (j := 6) (fr_x12_qCode es4) (by decide) (by decide))
            exact pc_some hs4
          · skip
            refine pc_rg ?_
            refine pc_if (fun _ => ?_) (fun _ => ?_)
            · skip
              unfold m_x12_qFact_J102
              refine pc_bn (fun s4 es4 => ?_)
              have hs4 := hs9.tr (FKp.of (i := 5) (j := 6) (fr_x12_qCode es4) (by decide) (by decide))
              exact pc_some hs4
            · skip
              unfold m_x12_qFact_J102
              refine pc_bn (fun s4 es4 => ?_)
              have hs4 := hs9.tr (FKp.of (i := 5) (j := 6) (fr_x12_qCode es4) (by decide) (by decide))
              exact pc_some hs4
        · skip
          refine pc_rg ?_
          refine pc_if (fun _ => ?_) (fun _ => ?_)
          · skip
            unfold m_x12_qFact_J63
            refine pc_stn (fun s7 es7 => ?_)
            have hs7 := hqr25.tr (FKp.i (i := 5) (j := 6) es7 (by decide) (by decide))
            refine pc_bn (fun s9 es9 => ?_)
            have hs9 := hs7.tr (fk_x12_qSums _ es9)
            refine pc_rg ?_
            refine pc_if (fun _ => ?_) (fun _ => ?_)
            · skip
              unfold m_x12_qFact_J102
              refine pc_bn (fun s4 es4 => ?_)
              have hs4 := hs9.tr (FKp.of (i := 5) (j := 6) (fr_x12_qCode es4) (by decide) (by decide))
              exact pc_some hs4
            · skip
              refine pc_rg ?_
              refine pc_if (fun _ => ?_) (fun _ => ?_)
              · skip
                unfold m_x12_qFact_J102
                refine pc_bn (fun s4 es4 => ?_)
                have hs4 := hs9.tr (FKp.of (i := 5) (j := 6) (fr_x12_qCode es4) (by decide) (by decide))
                exact pc_some hs4
              · skip
                unfold m_x12_qFact_J102
                refine pc_bn (fun s4 es4 => ?_)
                have hs4 := hs9.tr (FKp.of (i := 5) (j := 6) (fr_x12_qCode es4) (by decide) (by decide))
                exact pc_some hs4
          · skip
            refine pc_bn (fun s33 es33 => ?_)
            have hs33 := hqr25.tr (fk_x12_fail _ es33)
            exact pc_some hs33
    · skip
      exact pc_some hs20
  · skip
    refine pc_bn (fun s35 es35 => ?_)
    have hs35 := hqr16.tr (FKp.of (i := 5) (j := 6) (fr_x12_qCode es35) (by decide) (by decide))
    exact pc_some hs35
set_option maxHeartbeats 1000000 in
theorem fk_x12_qGoesOnTest_L137 {s : MS} : ∀ (n : Nat) (s2 : MS), FKp 5 6 s s2 → pc (m_x12_qGoesOnTest_L137 n s2) (fun q => FKp 5 6 s q.2) := by
  refine fr_ind (fun _ _ => pc_none) (fun n137 ih137 s2 hs2 => ?_)
  show pc (m_x12_qGoesOnTest_b137 (m_x12_qGoesOnTest_L137 n137) s2) _
  unfold m_x12_qGoesOnTest_b137
  refine pc_bn (fun r7 er7 => ?_)
  refine pc_rg ?_
  refine pc_if (fun _ => ?_) (fun _ => ?_)
  · skip
    refine pc_bn (fun r11 er11 => ?_)
    refine pc_rg ?_
    refine pc_if (fun _ => ?_) (fun _ => ?_)
    · skip
      refine pc_inb ?_
      refine pc_stn (fun s15 es15 => ?_)
      have hs15 := hs2.tr (FKp.a (i := 5) (j := 6) es15)
      refine pc_stn (fun s16 es16 => ?_)
      have hs16 := hs15.tr (FKp.i (i := 5) (j := 6) es16 (by decide) (by decide))
      exact pc_some hs16
    · skip
      unfold m_x12_qGoesOnTest_J155
      refine pc_bn (fun s5 es5 => ?_)
      have hs5 := hs2.tr (FKp.of (i := 5) (j := 6) (fr_x12_qDrops es5) (by decide) (by decide))
      exact ih137 _ hs5
  · skip
    unfold m_x12_qGoesOnTest_J155
    refine pc_bn (fun s5 es5 => ?_)
    have hs5 := hs2.tr (FKp.of (i := 5) (j := 6) (fr_x12_qDrops es5) (by decide) (by decide))
    exact ih137 _ hs5
set_option maxHeartbeats 1000000 in
theorem fk_x12_qGoesOnTest_L87 {s : MS} : ∀ (n : Nat) (s17 : MS), FKp 5 6 s s17 → pc (m_x12_qGoesOnTest_L87 n s17) (fun q => FKp 5 6 s q.2) := by
  refine fr_ind (fun _ _ => pc_none) (fun n87 ih87 s17 hs17 => ?_)
  show pc (m_x12_qGoesOnTest_b87 (m_x12_qGoesOnTest_L87 n87) s17) _
  unfold m_x12_qGoesOnTest_b87
  refine pc_bn (fun r19 er19 => ?_)
  refine pc_rg ?_
  refine pc_if (fun _ => ?_) (fun _ => ?_)
  · skip
    refine pc_inb ?_
    refine pc_stn (fun s23 es23 => ?_)
    have hs23 := hs17.tr (FKp.a (i := 5) (j := 6) es23)
    refine pc_stn (fun s24 es24 => ?_)
    have hs24 := hs23.tr (FKp.i (i := 5) (j := 6) es24 (by decide) (by decide))
    exact pc_some hs24
  · skip
    refine pc_bn (fun s26 es26 => ?_)
    have hs26 := hs17.tr (FKp.of (i := 5) (j := 6) (fr_x12_qDrops es26) (by decide) (by decide))
    exact ih87 _ hs26
set_option maxHeartbeats 1000000 in
theorem fk_x12_qGoesOnTest_L0 {s : MS} : ∀ (n : Nat) (s46 : MS), FKp 5 6 s s46 → pc (m_x12_qGoesOnTest_L0 n s46) (fun q => FKp 5 6 s q.2) := by
  refine fr_ind (fun _ _ => pc_none) (fun n0 ih0 s46 hs46 => ?_)
  show pc (m_x12_qGoesOnTest_b0 (m_x12_qGoesOnTest_L0 n0) s46) _
  unfold m_x12_qGoesOnTest_b0
  refine pc_rg ?_
  refine pc_if (fun _ => ?_) (fun _ => ?_)
  · skip
    refine pc_bn (fun qr62 eqr62 => ?_)
    have hqr62 := hs46.tr (FKp.of (i := 5) (j := 6) (fr_x12_look eqr62) (by decide) (by decide))
    refine pc_rg ?_
    refine pc_if (fun _ => ?_) (fun _ => ?_)
    · skip
      refine pc_bn (fun r66 er66 => ?_)
      refine pc_rg ?_
      refine pc_if (fun _ => ?_) (fun _ => ?_)
      · skip
        unfold m_x12_qGoesOnTest_J76
        refine pc_bn (fun qr30 eqr30 => ?_)
        have hqr30 := hqr62.tr (FKp.of (i := 5) (j := 6) (fr_x12_takes eqr30) (by decide) (by decide))
        refine pc_rg ?_
        refine pc_if (fun _ => ?_) (fun _ => ?_)
        · skip
          refine pc_bn (fun qr35 eqr35 => ?_)
          have hqr35 := hqr30.tr (FKp.of (i := 5) (j := 6) (fr_x12_takes eqr35) (by decide) (by decide))
          refine pc_rg ?_
          refine pc_if (fun _ => ?_) (fun _ => ?_)
          · skip
            refine pc_rg ?_
            refine pc_if (fun _ => ?_) (fun _ => ?_)
            · skip
              refine pc_bn (fun r41 er41 => ?_)
              refine pc_rg ?_
              refine pc_if (fun _ => ?_) (fun _ => ?_)
              · skip
                unfold m_x12_qGoesOnTest_J208
                exact pc_some hqr35
              · skip
                refine pc_bn (fun s45 es45 => ?_)
                have hs45 := hqr35.tr (fk_x12_fail _ es45)
                unfold m_x12_qGoesOnTest_J208
                exact pc_some hs45
            · skip
              unfold m_x12_qGoesOnTest_J208
              exact pc_some hqr35
          · skip
            exact fk_x12_qGoesOnTest_L137 FU _ hqr35
        · skip
          exact fk_x12_qGoesOnTest_L87 FU _ hqr30
      · skip
        refine pc_stn (fun s69 es69 => ?_)
        have hs69 := hqr62.tr (FKp.i (i := 5) (j := 6) es69 (by decide) (by decide))
        have L33 : ∀ (n : Nat) (s47 : MS), FKp 5 6 s s47 → pc (m_x12_qGoesOnTest_L33 (m_x12_qGoesOnTest_L0 n0) n s47) (fun q => FKp 5 6 s q.2) := by
          refine fr_ind (fun _ _ => pc_none) (fun n33 ih33 s47 hs47 => ?_)
          show pc (m_x12_qGoesOnTest_b33 (m_x12_qGoesOnTest_L0 n0) (m_x12_qGoesOnTest_L33 (m_x12_qGoesOnTest_L0 n0) n33) s47) _
          unfold m_x12_qGoesOnTest_b33
          refine pc_bn (fun r49 er49 => ?_)
          refine pc_rg ?_
          refine pc_if (fun _ => ?_) (fun _ => ?_)
          · skip
            refine pc_bn (fun s57 es57 => ?_)
            have hs57 := hs47.tr (FKp.of (i := 5) (j := 6) (fr_x12_qDrops es57) (by decide) (by decide))
            exact ih33 _ hs57
          · skip
            refine pc_stn (fun s52 es52 => ?_)
            have hs52 := hs47.tr (FKp.i (i := 5) (j := 6) es52 (by decide) (by decide))
            refine pc_stn (fun s53 es53 => ?_)
            have hs53 := hs52.tr (FKp.i (i := 5) (j := 6) es53 (by decide) (by decide))
            refine pc_bn (fun s55 es55 => ?_)
            have hs55 := hs53.tr (FKp.of (i := 5) (j := 6) (fr_x12_qDropsNots es55) (by decide) (by decide))
            exact ih0 _ hs55
        exact L33 FU _ hs69
    · skip
      unfold m_x12_qGoesOnTest_J76
      refine pc_bn (fun qr30 eqr30 => ?_)
      have hqr30 := hqr62.tr (FKp.of (i := 5) (j := 6) (fr_x12_takes eqr30) (by decide) (by decide))
      refine pc_rg ?_
      refine pc_if (fun _ => ?_) (fun _ => ?_)
      · skip
        refine pc_bn (fun qr35 eqr35 => ?_)
        have hqr35 := hqr30.tr (FKp.of (i := 5) (j := 6) (fr_x12_takes eqr35) (by decide) (by decide))
        refine pc_rg ?_
        refine pc_if (fun _ => ?_) (fun _ => ?_)
        · skip
          refine pc_rg ?_
          refine pc_if (fun _ => ?_) (fun _ => ?_)
          · skip
            refine pc_bn (fun r41 er41 => ?_)
            refine pc_rg ?_
            refine pc_if (fun _ => ?_) (fun _ => ?_)
            · skip
              unfold m_x12_qGoesOnTest_J208
              exact pc_some hqr35
            · skip
              refine pc_bn (fun s45 es45 => ?_)
              have hs45 := hqr35.tr (fk_x12_fail _ es45)
              unfold m_x12_qGoesOnTest_J208
              exact pc_some hs45
          · skip
            unfold m_x12_qGoesOnTest_J208
            exact pc_some hqr35
        · skip
          exact fk_x12_qGoesOnTest_L137 FU _ hqr35
      · skip
        exact fk_x12_qGoesOnTest_L87 FU _ hqr30
  · skip
    unfold m_x12_qGoesOnTest_J76
    refine pc_bn (fun qr30 eqr30 => ?_)
    have hqr30 := hs46.tr (FKp.of (i := 5) (j := 6) (fr_x12_takes eqr30) (by decide) (by decide))
    refine pc_rg ?_
    refine pc_if (fun _ => ?_) (fun _ => ?_)
    · skip
      refine pc_bn (fun qr35 eqr35 => ?_)
      have hqr35 := hqr30.tr (FKp.of (i := 5) (j := 6) (fr_x12_takes eqr35) (by decide) (by decide))
      refine pc_rg ?_
      refine pc_if (fun _ => ?_) (fun _ => ?_)
      · skip
        refine pc_rg ?_
        refine pc_if (fun _ => ?_) (fun _ => ?_)
        · skip
          refine pc_bn (fun r41 er41 => ?_)
          refine pc_rg ?_
          refine pc_if (fun _ => ?_) (fun _ => ?_)
          · skip
            unfold m_x12_qGoesOnTest_J208
            exact pc_some hqr35
          · skip
            refine pc_bn (fun s45 es45 => ?_)
            have hs45 := hqr35.tr (fk_x12_fail _ es45)
            unfold m_x12_qGoesOnTest_J208
            exact pc_some hs45
        · skip
          unfold m_x12_qGoesOnTest_J208
          exact pc_some hqr35
      · skip
        exact fk_x12_qGoesOnTest_L137 FU _ hqr35
    · skip
      exact fk_x12_qGoesOnTest_L87 FU _ hqr30
set_option maxHeartbeats 1000000 in
theorem fk_x12_qGoesOnTest {s : MS} : pc (m_x12_qGoesOnTest s) (fun q => FKp 5 6 s q.2) := by
  unfold m_x12_qGoesOnTest
  exact fk_x12_qGoesOnTest_L0 FU _ (FKp.rf s)
set_option maxHeartbeats 1000000 in
theorem fk_x12_qTest_L110 {s : MS} : ∀ (n : Nat) (s2 : MS), FKp 5 6 s s2 → pc (m_x12_qTest_L110 n s2) (fun q => FKp 5 6 s q) := by
  refine fr_ind (fun _ _ => pc_none) (fun n110 ih110 s2 hs2 => ?_)
  show pc (m_x12_qTest_b110 (m_x12_qTest_L110 n110) s2) _
  unfold m_x12_qTest_b110
  refine pc_rg ?_
  refine pc_if (fun _ => ?_) (fun _ => ?_)
  · skip
    refine pc_rg ?_
    refine pc_if (fun _ => ?_) (fun _ => ?_)
    · skip
      unfold m_x12_qTest_J131
      exact pc_some hs2
    · skip
      refine pc_bn (fun s8 es8 => ?_)
      have hs8 := hs2.tr (FKp.of (i := 5) (j := 6) (fr_x12_qDrops es8) (by decide) (by decide))
      exact ih110 _ hs8
  · skip
    unfold m_x12_qTest_J131
    exact pc_some hs2
set_option maxHeartbeats 1000000 in
theorem fk_x12_qTest_L2 {s : MS} : ∀ (n : Nat) (x9 : Int) (s10 : MS), FKp 5 6 s s10 → pc (m_x12_qTest_L2 n x9 s10) (fun q => FKp 5 6 s q) := by
  refine fr_ind (fun _ _ _ => pc_none) (fun n2 ih2 x9 s10 hs10 => ?_)
  show pc (m_x12_qTest_b2 (m_x12_qTest_L2 n2) x9 s10) _
  unfold m_x12_qTest_b2
  refine pc_rg ?_
  refine pc_if (fun _ => ?_) (fun _ => ?_)
  · skip
    exact fk_x12_qTest_L110 FU _ hs10
  · skip
    refine pc_rg ?_
    refine pc_if (fun _ => ?_) (fun _ => ?_)
    · skip
      refine pc_bn (fun qr20 eqr20 => ?_)
      have hqr20 := hs10.tr (FKp.of (i := 5) (j := 6) (fr_x12_look eqr20) (by decide) (by decide))
      refine pc_rg ?_
      refine pc_if (fun _ => ?_) (fun _ => ?_)
      · skip
        refine pc_bn (fun s44 es44 => ?_)
        have hs44 := hqr20.tr (fk_x12_qOpens _ es44)
        refine pc_stn (fun s45 es45 => ?_)
        have hs45 := hs44.tr (FKp.i (i := 5) (j := 6) es45 (by decide) (by decide))
        exact ih2 _ _ hs45
      · skip
        refine pc_bn (fun qr25 eqr25 => ?_)
        have hqr25 := hqr20.tr (FKp.of (i := 5) (j := 6) (fr_x12_isHere eqr25) (by decide) (by decide))
        refine pc_rg ?_
        refine pc_if (fun _ => ?_) (fun _ => ?_)
        · skip
          refine pc_bn (fun s29 es29 => ?_)
          have hs29 := hqr25.tr (fk_x12_qFact _ es29)
          refine pc_bn (fun s31 es31 => ?_)
          have hs31 := hs29.tr (FKp.of (i := 5) (j := 6) (fr_x12_qDropsNots es31) (by decide) (by decide))
          refine pc_rg ?_
          refine pc_if (fun _ => ?_) (fun _ => ?_)
          · skip
            refine pc_bn (fun qr36 eqr36 => ?_)
            have hqr36 := hs31.tr (fk_x12_qGoesOnTest _ eqr36)
            refine pc_rg ?_
            refine pc_if (fun _ => ?_) (fun _ => ?_)
            · skip
              unfold m_x12_qTest_J105
              unfold m_x12_qTest_J106
              exact ih2 _ _ hqr36
            · skip
              unfold m_x12_qTest_J106
              exact ih2 _ _ hqr36
          · skip
            unfold m_x12_qTest_J105
            unfold m_x12_qTest_J106
            exact ih2 _ _ hs31
        · skip
          refine pc_bn (fun s40 es40 => ?_)
          have hs40 := hqr25.tr (fk_x12_qOpens _ es40)
          refine pc_bn (fun s42 es42 => ?_)
          have hs42 := hs40.tr (fk_x12_asks _ es42)
          exact ih2 _ _ hs42
    · skip
      exact fk_x12_qTest_L110 FU _ hs10
set_option maxHeartbeats 1000000 in
theorem fk_x12_qTest {s : MS} : pc (m_x12_qTest s) (fun q => FKp 5 6 s q) := by
  unfold m_x12_qTest
  exact fk_x12_qTest_L2 FU _ _ (FKp.rf s)
set_option maxHeartbeats 1000000 in
theorem fk_x12_storeTold {s : MS} : pc (m_x12_storeTold s) (fun q => FKp 5 6 s q) := by
  unfold m_x12_storeTold
  refine pc_bn (fun s2 es2 => ?_)
  have hs2 := (FKp.rf s).tr (fk_x12_asks _ es2)
  refine pc_bn (fun qr5 eqr5 => ?_)
  have hqr5 := hs2.tr (fk_x12_number _ eqr5)
  refine pc_inb ?_
  refine pc_stn (fun s7 es7 => ?_)
  have hs7 := hqr5.tr (FKp.a (i := 5) (j := 6) es7)
  refine pc_bn (fun s9 es9 => ?_)
  have hs9 := hs7.tr (fk_x12_asks _ es9)
  refine pc_bn (fun qr12 eqr12 => ?_)
  have hqr12 := hs9.tr (fk_x12_number _ eqr12)
  refine pc_inb ?_
  refine pc_stn (fun s14 es14 => ?_)
  have hs14 := hqr12.tr (FKp.a (i := 5) (j := 6) es14)
  refine pc_bn (fun s16 es16 => ?_)
  have hs16 := hs14.tr (fk_x12_asksSign _ es16)
  exact pc_some hs16
set_option maxHeartbeats 1000000 in
theorem fk_x12_newName_L7 {s : MS} : ∀ (n : Nat) (z1 : Int) (x2 : Int) (s3 : MS), FKp 5 6 s s3 → pc (m_x12_newName_L7 n z1 x2 s3) (fun q => FKp 5 6 s q.2) := by
  refine fr_ind (fun _ _ _ _ => pc_none) (fun n7 ih7 z1 x2 s3 hs3 => ?_)
  show pc (m_x12_newName_b7 (m_x12_newName_L7 n7) z1 x2 s3) _
  unfold m_x12_newName_b7
  refine pc_rdI (fun _ => ?_)
  refine pc_rg ?_
  refine pc_rg ?_
  refine pc_if (fun _ => ?_) (fun _ => ?_)
  · skip
    exact pc_some hs3
  · skip
    refine pc_rg ?_
    refine pc_if (fun _ => ?_) (fun _ => ?_)
    · skip
      refine pc_rdL ?_
      refine pc_rgL ?_
      refine pc_rgL ?_
      refine pc_if (fun _ => ?_) (fun _ => ?_)
      · skip
        refine pc_bn (fun s18 es18 => ?_)
        have hs18 := hs3.tr (fk_x12_fail _ es18)
        unfold m_x12_newName_J44
        exact ih7 _ _ _ hs18
      · skip
        unfold m_x12_newName_J44
        exact ih7 _ _ _ hs3
    · skip
      unfold m_x12_newName_J44
      exact ih7 _ _ _ hs3
set_option maxHeartbeats 1000000 in
theorem fk_x12_newName {s : MS} : pc (m_x12_newName s) (fun q => FKp 5 6 s q.2) := by
  unfold m_x12_newName
  refine pc_bn (fun qrl21 eqrl21 => ?_)
  have hqrl21 := (FKp.rf s).tr (fk_x12_name _ eqrl21)
  exact fk_x12_newName_L7 FU _ _ _ hqrl21
set_option maxHeartbeats 1000000 in
theorem fk_x12_volumeNamed_L7 {s : MS} : ∀ (n : Nat) (z2 : Int) (x3 : Int) (s4 : MS), FKp 5 6 s s4 → pc (m_x12_volumeNamed_L7 n z2 x3 s4) (fun q => FKp 5 6 s q.2) := by
  refine fr_ind (fun _ _ _ _ => pc_none) (fun n7 ih7 z2 x3 s4 hs4 => ?_)
  show pc (m_x12_volumeNamed_b7 (m_x12_volumeNamed_L7 n7) z2 x3 s4) _
  unfold m_x12_volumeNamed_b7
  refine pc_rdI (fun _ => ?_)
  refine pc_rg ?_
  refine pc_rg ?_
  refine pc_if (fun _ => ?_) (fun _ => ?_)
  · skip
    refine pc_rg ?_
    refine pc_if (fun _ => ?_) (fun _ => ?_)
    · skip
      refine pc_bn (fun s12 es12 => ?_)
      have hs12 := hs4.tr (fk_x12_fail _ es12)
      unfold m_x12_volumeNamed_J52
      exact pc_some hs12
    · skip
      unfold m_x12_volumeNamed_J52
      exact pc_some hs4
  · skip
    refine pc_rdL ?_
    refine pc_rgL ?_
    refine pc_rgL ?_
    refine pc_if (fun _ => ?_) (fun _ => ?_)
    · skip
      exact pc_some hs4
    · skip
      exact ih7 _ _ _ hs4
set_option maxHeartbeats 1000000 in
theorem fk_x12_volumeNamed {s : MS} : pc (m_x12_volumeNamed s) (fun q => FKp 5 6 s q.2) := by
  unfold m_x12_volumeNamed
  refine pc_bn (fun qrl19 eqrl19 => ?_)
  have hqrl19 := (FKp.rf s).tr (fk_x12_name _ eqrl19)
  exact fk_x12_volumeNamed_L7 FU _ _ _ hqrl19
set_option maxHeartbeats 1000000 in
theorem fk_x12_volumeTold {p0 : Int} {p1 : Int} {s : MS} : pc (m_x12_volumeTold p0 p1 s) (fun q => FKp 5 6 s q) := by
  unfold m_x12_volumeTold
  refine pc_rg ?_
  refine pc_if (fun _ => ?_) (fun _ => ?_)
  · skip
    refine pc_rdI (fun _ => ?_)
    refine pc_rg ?_
    refine pc_if (fun _ => ?_) (fun _ => ?_)
    · skip
      refine pc_bn (fun s48 es48 => ?_)
      have hs48 := (FKp.rf s).tr (fk_x12_fail _ es48)
      unfold m_x12_volumeTold_J24
      refine pc_bn (fun qrl34 eqrl34 => ?_)
      have hqrl34 := hs48.tr (fk_x12_newName _ eqrl34)
      refine pc_rg ?_
      refine pc_if (fun _ => ?_) (fun _ => ?_)
      · skip
        unfold m_x12_volumeTold_J50
        refine pc_rg ?_
        refine pc_if (fun _ => ?_) (fun _ => ?_)
        · skip
          refine pc_rg ?_
          refine pc_if (fun _ => ?_) (fun _ => ?_)
          · skip
            unfold m_x12_volumeTold_J68
            refine pc_rg ?_
            refine pc_if (fun _ => ?_) (fun _ => ?_)
            · skip
              refine pc_rdI (fun _ => ?_)
              unfold m_x12_volumeTold_J83
              refine pc_rdI (fun _ => ?_)
              refine pc_bn (fun s7 es7 => ?_)
              have hs7 := hqrl34.tr (FKp.of (i := 5) (j := 6) (fr_x12_actTold es7) (by decide) (by decide))
              refine pc_rdI (fun _ => ?_)
              refine pc_inb ?_
              refine pc_stn (fun s10 es10 => ?_)
              have hs10 := hs7.tr (FKp.b (i := 5) (j := 6) es10)
              refine pc_rdI (fun _ => ?_)
              refine pc_inb ?_
              refine pc_stn (fun s13 es13 => ?_)
              have hs13 := hs10.tr (FKp.a (i := 5) (j := 6) es13)
              exact pc_some hs13
            · skip
              unfold m_x12_volumeTold_J83
              refine pc_rdI (fun _ => ?_)
              refine pc_bn (fun s7 es7 => ?_)
              have hs7 := hqrl34.tr (FKp.of (i := 5) (j := 6) (fr_x12_actTold es7) (by decide) (by decide))
              refine pc_rdI (fun _ => ?_)
              refine pc_inb ?_
              refine pc_stn (fun s10 es10 => ?_)
              have hs10 := hs7.tr (FKp.b (i := 5) (j := 6) es10)
              refine pc_rdI (fun _ => ?_)
              refine pc_inb ?_
              refine pc_stn (fun s13 es13 => ?_)
              have hs13 := hs10.tr (FKp.a (i := 5) (j := 6) es13)
              exact pc_some hs13
          · skip
            unfold m_x12_volumeTold_J68
            refine pc_rg ?_
            refine pc_if (fun _ => ?_) (fun _ => ?_)
            · skip
              refine pc_rdI (fun _ => ?_)
              unfold m_x12_volumeTold_J83
              refine pc_rdI (fun _ => ?_)
              refine pc_bn (fun s7 es7 => ?_)
              have hs7 := hqrl34.tr (FKp.of (i := 5) (j := 6) (fr_x12_actTold es7) (by decide) (by decide))
              refine pc_rdI (fun _ => ?_)
              refine pc_inb ?_
              refine pc_stn (fun s10 es10 => ?_)
              have hs10 := hs7.tr (FKp.b (i := 5) (j := 6) es10)
              refine pc_rdI (fun _ => ?_)
              refine pc_inb ?_
              refine pc_stn (fun s13 es13 => ?_)
              have hs13 := hs10.tr (FKp.a (i := 5) (j := 6) es13)
              exact pc_some hs13
            · skip
              unfold m_x12_volumeTold_J83
              refine pc_rdI (fun _ => ?_)
              refine pc_bn (fun s7 es7 => ?_)
              have hs7 := hqrl34.tr (FKp.of (i := 5) (j := 6) (fr_x12_actTold es7) (by decide) (by decide))
              refine pc_rdI (fun _ => ?_)
              refine pc_inb ?_
              refine pc_stn (fun s10 es10 => ?_)
              have hs10 := hs7.tr (FKp.b (i := 5) (j := 6) es10)
              refine pc_rdI (fun _ => ?_)
              refine pc_inb ?_
              refine pc_stn (fun s13 es13 => ?_)
              have hs13 := hs10.tr (FKp.a (i := 5) (j := 6) es13)
              exact pc_some hs13
        · skip
          exact pc_some hqrl34
      · skip
        refine pc_bn (fun s38 es38 => ?_)
        have hs38 := hqrl34.tr (fk_x12_asks _ es38)
        refine pc_bn (fun qr41 eqr41 => ?_)
        have hqr41 := hs38.tr (fk_x12_volumeNamed _ eqr41)
        unfold m_x12_volumeTold_J50
        refine pc_rg ?_
        refine pc_if (fun _ => ?_) (fun _ => ?_)
        · skip
          refine pc_rg ?_
          refine pc_if (fun _ => ?_) (fun _ => ?_)
          · skip
            unfold m_x12_volumeTold_J68
            refine pc_rg ?_
            refine pc_if (fun _ => ?_) (fun _ => ?_)
            · skip
              refine pc_rdI (fun _ => ?_)
              unfold m_x12_volumeTold_J83
              refine pc_rdI (fun _ => ?_)
              refine pc_bn (fun s7 es7 => ?_)
              have hs7 := hqr41.tr (FKp.of (i := 5) (j := 6) (fr_x12_actTold es7) (by decide) (by decide))
              refine pc_rdI (fun _ => ?_)
              refine pc_inb ?_
              refine pc_stn (fun s10 es10 => ?_)
              have hs10 := hs7.tr (FKp.b (i := 5) (j := 6) es10)
              refine pc_rdI (fun _ => ?_)
              refine pc_inb ?_
              refine pc_stn (fun s13 es13 => ?_)
              have hs13 := hs10.tr (FKp.a (i := 5) (j := 6) es13)
              exact pc_some hs13
            · skip
              unfold m_x12_volumeTold_J83
              refine pc_rdI (fun _ => ?_)
              refine pc_bn (fun s7 es7 => ?_)
              have hs7 := hqr41.tr (FKp.of (i := 5) (j := 6) (fr_x12_actTold es7) (by decide) (by decide))
              refine pc_rdI (fun _ => ?_)
              refine pc_inb ?_
              refine pc_stn (fun s10 es10 => ?_)
              have hs10 := hs7.tr (FKp.b (i := 5) (j := 6) es10)
              refine pc_rdI (fun _ => ?_)
              refine pc_inb ?_
              refine pc_stn (fun s13 es13 => ?_)
              have hs13 := hs10.tr (FKp.a (i := 5) (j := 6) es13)
              exact pc_some hs13
          · skip
            unfold m_x12_volumeTold_J68
            refine pc_rg ?_
            refine pc_if (fun _ => ?_) (fun _ => ?_)
            · skip
              refine pc_rdI (fun _ => ?_)
              unfold m_x12_volumeTold_J83
              refine pc_rdI (fun _ => ?_)
              refine pc_bn (fun s7 es7 => ?_)
              have hs7 := hqr41.tr (FKp.of (i := 5) (j := 6) (fr_x12_actTold es7) (by decide) (by decide))
              refine pc_rdI (fun _ => ?_)
              refine pc_inb ?_
              refine pc_stn (fun s10 es10 => ?_)
              have hs10 := hs7.tr (FKp.b (i := 5) (j := 6) es10)
              refine pc_rdI (fun _ => ?_)
              refine pc_inb ?_
              refine pc_stn (fun s13 es13 => ?_)
              have hs13 := hs10.tr (FKp.a (i := 5) (j := 6) es13)
              exact pc_some hs13
            · skip
              unfold m_x12_volumeTold_J83
              refine pc_rdI (fun _ => ?_)
              refine pc_bn (fun s7 es7 => ?_)
              have hs7 := hqr41.tr (FKp.of (i := 5) (j := 6) (fr_x12_actTold es7) (by decide) (by decide))
              refine pc_rdI (fun _ => ?_)
              refine pc_inb ?_
              refine pc_stn (fun s10 es10 => ?_)
              have hs10 := hs7.tr (FKp.b (i := 5) (j := 6) es10)
              refine pc_rdI (fun _ => ?_)
              refine pc_inb ?_
              refine pc_stn (fun s13 es13 => ?_)
              have hs13 := hs10.tr (FKp.a (i := 5) (j := 6) es13)
              exact pc_some hs13
        · skip
          exact pc_some hqr41
    · skip
      unfold m_x12_volumeTold_J24
      refine pc_bn (fun qrl34 eqrl34 => ?_)
      have hqrl34 := (FKp.rf s).tr (fk_x12_newName _ eqrl34)
      refine pc_rg ?_
      refine pc_if (fun _ => ?_) (fun _ => ?_)
      · skip
        unfold m_x12_volumeTold_J50
        refine pc_rg ?_
        refine pc_if (fun _ => ?_) (fun _ => ?_)
        · skip
          refine pc_rg ?_
          refine pc_if (fun _ => ?_) (fun _ => ?_)
          · skip
            unfold m_x12_volumeTold_J68
            refine pc_rg ?_
            refine pc_if (fun _ => ?_) (fun _ => ?_)
            · skip
              refine pc_rdI (fun _ => ?_)
              unfold m_x12_volumeTold_J83
              refine pc_rdI (fun _ => ?_)
              refine pc_bn (fun s7 es7 => ?_)
              have hs7 := hqrl34.tr (FKp.of (i := 5) (j := 6) (fr_x12_actTold es7) (by decide) (by decide))
              refine pc_rdI (fun _ => ?_)
              refine pc_inb ?_
              refine pc_stn (fun s10 es10 => ?_)
              have hs10 := hs7.tr (FKp.b (i := 5) (j := 6) es10)
              refine pc_rdI (fun _ => ?_)
              refine pc_inb ?_
              refine pc_stn (fun s13 es13 => ?_)
              have hs13 := hs10.tr (FKp.a (i := 5) (j := 6) es13)
              exact pc_some hs13
            · skip
              unfold m_x12_volumeTold_J83
              refine pc_rdI (fun _ => ?_)
              refine pc_bn (fun s7 es7 => ?_)
              have hs7 := hqrl34.tr (FKp.of (i := 5) (j := 6) (fr_x12_actTold es7) (by decide) (by decide))
              refine pc_rdI (fun _ => ?_)
              refine pc_inb ?_
              refine pc_stn (fun s10 es10 => ?_)
              have hs10 := hs7.tr (FKp.b (i := 5) (j := 6) es10)
              refine pc_rdI (fun _ => ?_)
              refine pc_inb ?_
              refine pc_stn (fun s13 es13 => ?_)
              have hs13 := hs10.tr (FKp.a (i := 5) (j := 6) es13)
              exact pc_some hs13
          · skip
            unfold m_x12_volumeTold_J68
            refine pc_rg ?_
            refine pc_if (fun _ => ?_) (fun _ => ?_)
            · skip
              refine pc_rdI (fun _ => ?_)
              unfold m_x12_volumeTold_J83
              refine pc_rdI (fun _ => ?_)
              refine pc_bn (fun s7 es7 => ?_)
              have hs7 := hqrl34.tr (FKp.of (i := 5) (j := 6) (fr_x12_actTold es7) (by decide) (by decide))
              refine pc_rdI (fun _ => ?_)
              refine pc_inb ?_
              refine pc_stn (fun s10 es10 => ?_)
              have hs10 := hs7.tr (FKp.b (i := 5) (j := 6) es10)
              refine pc_rdI (fun _ => ?_)
              refine pc_inb ?_
              refine pc_stn (fun s13 es13 => ?_)
              have hs13 := hs10.tr (FKp.a (i := 5) (j := 6) es13)
              exact pc_some hs13
            · skip
              unfold m_x12_volumeTold_J83
              refine pc_rdI (fun _ => ?_)
              refine pc_bn (fun s7 es7 => ?_)
              have hs7 := hqrl34.tr (FKp.of (i := 5) (j := 6) (fr_x12_actTold es7) (by decide) (by decide))
              refine pc_rdI (fun _ => ?_)
              refine pc_inb ?_
              refine pc_stn (fun s10 es10 => ?_)
              have hs10 := hs7.tr (FKp.b (i := 5) (j := 6) es10)
              refine pc_rdI (fun _ => ?_)
              refine pc_inb ?_
              refine pc_stn (fun s13 es13 => ?_)
              have hs13 := hs10.tr (FKp.a (i := 5) (j := 6) es13)
              exact pc_some hs13
        · skip
          exact pc_some hqrl34
      · skip
        refine pc_bn (fun s38 es38 => ?_)
        have hs38 := hqrl34.tr (fk_x12_asks _ es38)
        refine pc_bn (fun qr41 eqr41 => ?_)
        have hqr41 := hs38.tr (fk_x12_volumeNamed _ eqr41)
        unfold m_x12_volumeTold_J50
        refine pc_rg ?_
        refine pc_if (fun _ => ?_) (fun _ => ?_)
        · skip
          refine pc_rg ?_
          refine pc_if (fun _ => ?_) (fun _ => ?_)
          · skip
            unfold m_x12_volumeTold_J68
            refine pc_rg ?_
            refine pc_if (fun _ => ?_) (fun _ => ?_)
            · skip
              refine pc_rdI (fun _ => ?_)
              unfold m_x12_volumeTold_J83
              refine pc_rdI (fun _ => ?_)
              refine pc_bn (fun s7 es7 => ?_)
              have hs7 := hqr41.tr (FKp.of (i := 5) (j := 6) (fr_x12_actTold es7) (by decide) (by decide))
              refine pc_rdI (fun _ => ?_)
              refine pc_inb ?_
              refine pc_stn (fun s10 es10 => ?_)
              have hs10 := hs7.tr (FKp.b (i := 5) (j := 6) es10)
              refine pc_rdI (fun _ => ?_)
              refine pc_inb ?_
              refine pc_stn (fun s13 es13 => ?_)
              have hs13 := hs10.tr (FKp.a (i := 5) (j := 6) es13)
              exact pc_some hs13
            · skip
              unfold m_x12_volumeTold_J83
              refine pc_rdI (fun _ => ?_)
              refine pc_bn (fun s7 es7 => ?_)
              have hs7 := hqr41.tr (FKp.of (i := 5) (j := 6) (fr_x12_actTold es7) (by decide) (by decide))
              refine pc_rdI (fun _ => ?_)
              refine pc_inb ?_
              refine pc_stn (fun s10 es10 => ?_)
              have hs10 := hs7.tr (FKp.b (i := 5) (j := 6) es10)
              refine pc_rdI (fun _ => ?_)
              refine pc_inb ?_
              refine pc_stn (fun s13 es13 => ?_)
              have hs13 := hs10.tr (FKp.a (i := 5) (j := 6) es13)
              exact pc_some hs13
          · skip
            unfold m_x12_volumeTold_J68
            refine pc_rg ?_
            refine pc_if (fun _ => ?_) (fun _ => ?_)
            · skip
              refine pc_rdI (fun _ => ?_)
              unfold m_x12_volumeTold_J83
              refine pc_rdI (fun _ => ?_)
              refine pc_bn (fun s7 es7 => ?_)
              have hs7 := hqr41.tr (FKp.of (i := 5) (j := 6) (fr_x12_actTold es7) (by decide) (by decide))
              refine pc_rdI (fun _ => ?_)
              refine pc_inb ?_
              refine pc_stn (fun s10 es10 => ?_)
              have hs10 := hs7.tr (FKp.b (i := 5) (j := 6) es10)
              refine pc_rdI (fun _ => ?_)
              refine pc_inb ?_
              refine pc_stn (fun s13 es13 => ?_)
              have hs13 := hs10.tr (FKp.a (i := 5) (j := 6) es13)
              exact pc_some hs13
            · skip
              unfold m_x12_volumeTold_J83
              refine pc_rdI (fun _ => ?_)
              refine pc_bn (fun s7 es7 => ?_)
              have hs7 := hqr41.tr (FKp.of (i := 5) (j := 6) (fr_x12_actTold es7) (by decide) (by decide))
              refine pc_rdI (fun _ => ?_)
              refine pc_inb ?_
              refine pc_stn (fun s10 es10 => ?_)
              have hs10 := hs7.tr (FKp.b (i := 5) (j := 6) es10)
              refine pc_rdI (fun _ => ?_)
              refine pc_inb ?_
              refine pc_stn (fun s13 es13 => ?_)
              have hs13 := hs10.tr (FKp.a (i := 5) (j := 6) es13)
              exact pc_some hs13
        · skip
          exact pc_some hqr41
  · skip
    unfold m_x12_volumeTold_J24
    refine pc_bn (fun qrl34 eqrl34 => ?_)
    have hqrl34 := (FKp.rf s).tr (fk_x12_newName _ eqrl34)
    refine pc_rg ?_
    refine pc_if (fun _ => ?_) (fun _ => ?_)
    · skip
      unfold m_x12_volumeTold_J50
      refine pc_rg ?_
      refine pc_if (fun _ => ?_) (fun _ => ?_)
      · skip
        refine pc_rg ?_
        refine pc_if (fun _ => ?_) (fun _ => ?_)
        · skip
          unfold m_x12_volumeTold_J68
          refine pc_rg ?_
          refine pc_if (fun _ => ?_) (fun _ => ?_)
          · skip
            refine pc_rdI (fun _ => ?_)
            unfold m_x12_volumeTold_J83
            refine pc_rdI (fun _ => ?_)
            refine pc_bn (fun s7 es7 => ?_)
            have hs7 := hqrl34.tr (FKp.of (i := 5) (j := 6) (fr_x12_actTold es7) (by decide) (by decide))
            refine pc_rdI (fun _ => ?_)
            refine pc_inb ?_
            refine pc_stn (fun s10 es10 => ?_)
            have hs10 := hs7.tr (FKp.b (i := 5) (j := 6) es10)
            refine pc_rdI (fun _ => ?_)
            refine pc_inb ?_
            refine pc_stn (fun s13 es13 => ?_)
            have hs13 := hs10.tr (FKp.a (i := 5) (j := 6) es13)
            exact pc_some hs13
          · skip
            unfold m_x12_volumeTold_J83
            refine pc_rdI (fun _ => ?_)
            refine pc_bn (fun s7 es7 => ?_)
            have hs7 := hqrl34.tr (FKp.of (i := 5) (j := 6) (fr_x12_actTold es7) (by decide) (by decide))
            refine pc_rdI (fun _ => ?_)
            refine pc_inb ?_
            refine pc_stn (fun s10 es10 => ?_)
            have hs10 := hs7.tr (FKp.b (i := 5) (j := 6) es10)
            refine pc_rdI (fun _ => ?_)
            refine pc_inb ?_
            refine pc_stn (fun s13 es13 => ?_)
            have hs13 := hs10.tr (FKp.a (i := 5) (j := 6) es13)
            exact pc_some hs13
        · skip
          unfold m_x12_volumeTold_J68
          refine pc_rg ?_
          refine pc_if (fun _ => ?_) (fun _ => ?_)
          · skip
            refine pc_rdI (fun _ => ?_)
            unfold m_x12_volumeTold_J83
            refine pc_rdI (fun _ => ?_)
            refine pc_bn (fun s7 es7 => ?_)
            have hs7 := hqrl34.tr (FKp.of (i := 5) (j := 6) (fr_x12_actTold es7) (by decide) (by decide))
            refine pc_rdI (fun _ => ?_)
            refine pc_inb ?_
            refine pc_stn (fun s10 es10 => ?_)
            have hs10 := hs7.tr (FKp.b (i := 5) (j := 6) es10)
            refine pc_rdI (fun _ => ?_)
            refine pc_inb ?_
            refine pc_stn (fun s13 es13 => ?_)
            have hs13 := hs10.tr (FKp.a (i := 5) (j := 6) es13)
            exact pc_some hs13
          · skip
            unfold m_x12_volumeTold_J83
            refine pc_rdI (fun _ => ?_)
            refine pc_bn (fun s7 es7 => ?_)
            have hs7 := hqrl34.tr (FKp.of (i := 5) (j := 6) (fr_x12_actTold es7) (by decide) (by decide))
            refine pc_rdI (fun _ => ?_)
            refine pc_inb ?_
            refine pc_stn (fun s10 es10 => ?_)
            have hs10 := hs7.tr (FKp.b (i := 5) (j := 6) es10)
            refine pc_rdI (fun _ => ?_)
            refine pc_inb ?_
            refine pc_stn (fun s13 es13 => ?_)
            have hs13 := hs10.tr (FKp.a (i := 5) (j := 6) es13)
            exact pc_some hs13
      · skip
        exact pc_some hqrl34
    · skip
      refine pc_bn (fun s38 es38 => ?_)
      have hs38 := hqrl34.tr (fk_x12_asks _ es38)
      refine pc_bn (fun qr41 eqr41 => ?_)
      have hqr41 := hs38.tr (fk_x12_volumeNamed _ eqr41)
      unfold m_x12_volumeTold_J50
      refine pc_rg ?_
      refine pc_if (fun _ => ?_) (fun _ => ?_)
      · skip
        refine pc_rg ?_
        refine pc_if (fun _ => ?_) (fun _ => ?_)
        · skip
          unfold m_x12_volumeTold_J68
          refine pc_rg ?_
          refine pc_if (fun _ => ?_) (fun _ => ?_)
          · skip
            refine pc_rdI (fun _ => ?_)
            unfold m_x12_volumeTold_J83
            refine pc_rdI (fun _ => ?_)
            refine pc_bn (fun s7 es7 => ?_)
            have hs7 := hqr41.tr (FKp.of (i := 5) (j := 6) (fr_x12_actTold es7) (by decide) (by decide))
            refine pc_rdI (fun _ => ?_)
            refine pc_inb ?_
            refine pc_stn (fun s10 es10 => ?_)
            have hs10 := hs7.tr (FKp.b (i := 5) (j := 6) es10)
            refine pc_rdI (fun _ => ?_)
            refine pc_inb ?_
            refine pc_stn (fun s13 es13 => ?_)
            have hs13 := hs10.tr (FKp.a (i := 5) (j := 6) es13)
            exact pc_some hs13
          · skip
            unfold m_x12_volumeTold_J83
            refine pc_rdI (fun _ => ?_)
            refine pc_bn (fun s7 es7 => ?_)
            have hs7 := hqr41.tr (FKp.of (i := 5) (j := 6) (fr_x12_actTold es7) (by decide) (by decide))
            refine pc_rdI (fun _ => ?_)
            refine pc_inb ?_
            refine pc_stn (fun s10 es10 => ?_)
            have hs10 := hs7.tr (FKp.b (i := 5) (j := 6) es10)
            refine pc_rdI (fun _ => ?_)
            refine pc_inb ?_
            refine pc_stn (fun s13 es13 => ?_)
            have hs13 := hs10.tr (FKp.a (i := 5) (j := 6) es13)
            exact pc_some hs13
        · skip
          unfold m_x12_volumeTold_J68
          refine pc_rg ?_
          refine pc_if (fun _ => ?_) (fun _ => ?_)
          · skip
            refine pc_rdI (fun _ => ?_)
            unfold m_x12_volumeTold_J83
            refine pc_rdI (fun _ => ?_)
            refine pc_bn (fun s7 es7 => ?_)
            have hs7 := hqr41.tr (FKp.of (i := 5) (j := 6) (fr_x12_actTold es7) (by decide) (by decide))
            refine pc_rdI (fun _ => ?_)
            refine pc_inb ?_
            refine pc_stn (fun s10 es10 => ?_)
            have hs10 := hs7.tr (FKp.b (i := 5) (j := 6) es10)
            refine pc_rdI (fun _ => ?_)
            refine pc_inb ?_
            refine pc_stn (fun s13 es13 => ?_)
            have hs13 := hs10.tr (FKp.a (i := 5) (j := 6) es13)
            exact pc_some hs13
          · skip
            unfold m_x12_volumeTold_J83
            refine pc_rdI (fun _ => ?_)
            refine pc_bn (fun s7 es7 => ?_)
            have hs7 := hqr41.tr (FKp.of (i := 5) (j := 6) (fr_x12_actTold es7) (by decide) (by decide))
            refine pc_rdI (fun _ => ?_)
            refine pc_inb ?_
            refine pc_stn (fun s10 es10 => ?_)
            have hs10 := hs7.tr (FKp.b (i := 5) (j := 6) es10)
            refine pc_rdI (fun _ => ?_)
            refine pc_inb ?_
            refine pc_stn (fun s13 es13 => ?_)
            have hs13 := hs10.tr (FKp.a (i := 5) (j := 6) es13)
            exact pc_some hs13
      · skip
        exact pc_some hqr41
set_option maxHeartbeats 1000000 in
theorem fk_x12_putTold {s : MS} : pc (m_x12_putTold s) (fun q => FKp 5 6 s q) := by
  unfold m_x12_putTold
  refine pc_bn (fun qr3 eqr3 => ?_)
  have hqr3 := (FKp.rf s).tr (fk_x12_volumeNamed _ eqr3)
  refine pc_bn (fun qr6 eqr6 => ?_)
  have hqr6 := hqr3.tr (fk_x12_number _ eqr6)
  refine pc_bn (fun qr9 eqr9 => ?_)
  have hqr9 := hqr6.tr (fk_x12_number _ eqr9)
  refine pc_bn (fun s11 es11 => ?_)
  have hs11 := hqr9.tr (FKp.of (i := 5) (j := 6) (fr_x12_actTold es11) (by decide) (by decide))
  exact pc_some hs11
set_option maxHeartbeats 1000000 in
theorem fk_x12_removeTold {s : MS} : pc (m_x12_removeTold s) (fun q => FKp 5 6 s q) := by
  unfold m_x12_removeTold
  refine pc_bn (fun qr3 eqr3 => ?_)
  have hqr3 := (FKp.rf s).tr (fk_x12_volumeNamed _ eqr3)
  refine pc_bn (fun qr6 eqr6 => ?_)
  have hqr6 := hqr3.tr (fk_x12_number _ eqr6)
  refine pc_bn (fun s8 es8 => ?_)
  have hs8 := hqr6.tr (FKp.of (i := 5) (j := 6) (fr_x12_actTold es8) (by decide) (by decide))
  exact pc_some hs8
set_option maxHeartbeats 1000000 in
theorem fk_x12_codesTold_L92 {s : MS} : ∀ (n : Nat) (x1 : Int) (x2 : Int) (s3 : MS), FKp 5 6 s s3 → pc (m_x12_codesTold_L92 n x1 x2 s3) (fun q => FKp 5 6 s q) := by
  refine fr_ind (fun _ _ _ _ => pc_none) (fun n92 ih92 x1 x2 s3 hs3 => ?_)
  show pc (m_x12_codesTold_b92 (m_x12_codesTold_L92 n92) x1 x2 s3) _
  unfold m_x12_codesTold_b92
  refine pc_rg ?_
  refine pc_rg ?_
  refine pc_if (fun _ => ?_) (fun _ => ?_)
  · skip
    refine pc_inb ?_
    refine pc_stn (fun s8 es8 => ?_)
    have hs8 := hs3.tr (FKp.a (i := 5) (j := 6) es8)
    exact pc_some hs8
  · skip
    refine pc_rdI (fun _ => ?_)
    refine pc_inb ?_
    refine pc_stn (fun s11 es11 => ?_)
    have hs11 := hs3.tr (FKp.a (i := 5) (j := 6) es11)
    refine pc_stn (fun s12 es12 => ?_)
    have hs12 := hs11.tr (FKp.i (i := 5) (j := 6) es12 (by decide) (by decide))
    exact ih92 _ _ _ hs12
set_option maxHeartbeats 1000000 in
theorem fk_x12_codesTold {p0 : Int} {p1 : Int} {s : MS} : pc (m_x12_codesTold p0 p1 s) (fun q => FKp 5 6 s q) := by
  unfold m_x12_codesTold
  refine pc_rg ?_
  refine pc_if (fun _ => ?_) (fun _ => ?_)
  · skip
    refine pc_rdI (fun _ => ?_)
    refine pc_rg ?_
    refine pc_if (fun _ => ?_) (fun _ => ?_)
    · skip
      unfold m_x12_codesTold_J23
      refine pc_rg ?_
      refine pc_if (fun _ => ?_) (fun _ => ?_)
      · skip
        refine pc_stn (fun s23 es23 => ?_)
        have hs23 := (FKp.rf s).tr (FKp.i (i := 5) (j := 6) es23 (by decide) (by decide))
        refine pc_stn (fun s24 es24 => ?_)
        have hs24 := hs23.tr (FKp.i (i := 5) (j := 6) es24 (by decide) (by decide))
        refine pc_stn (fun s25 es25 => ?_)
        have hs25 := hs24.tr (FKp.i (i := 5) (j := 6) es25 (by decide) (by decide))
        refine pc_stn (fun s26 es26 => ?_)
        have hs26 := hs25.tr (FKp.i (i := 5) (j := 6) es26 (by decide) (by decide))
        refine pc_stn (fun s27 es27 => ?_)
        have hs27 := hs26.tr (FKp.i (i := 5) (j := 6) es27 (by decide) (by decide))
        refine pc_rg ?_
        refine pc_if (fun _ => ?_) (fun _ => ?_)
        · skip
          refine pc_bn (fun s33 es33 => ?_)
          have hs33 := hs27.tr (fk_x12_qTest _ es33)
          unfold m_x12_codesTold_J72
          refine pc_rg ?_
          refine pc_if (fun _ => ?_) (fun _ => ?_)
          · skip
            refine pc_inb ?_
            refine pc_stn (fun s18 es18 => ?_)
            have hs18 := hs33.tr (FKp.a (i := 5) (j := 6) es18)
            exact fk_x12_codesTold_L92 FU _ _ _ hs18
          · skip
            exact pc_some hs33
        · skip
          refine pc_bn (fun s31 es31 => ?_)
          have hs31 := hs27.tr (fk_x12_qSums _ es31)
          unfold m_x12_codesTold_J72
          refine pc_rg ?_
          refine pc_if (fun _ => ?_) (fun _ => ?_)
          · skip
            refine pc_inb ?_
            refine pc_stn (fun s18 es18 => ?_)
            have hs18 := hs31.tr (FKp.a (i := 5) (j := 6) es18)
            exact fk_x12_codesTold_L92 FU _ _ _ hs18
          · skip
            exact pc_some hs31
      · skip
        exact pc_some (FKp.rf s)
    · skip
      refine pc_bn (fun s40 es40 => ?_)
      have hs40 := (FKp.rf s).tr (fk_x12_fail _ es40)
      unfold m_x12_codesTold_J23
      refine pc_rg ?_
      refine pc_if (fun _ => ?_) (fun _ => ?_)
      · skip
        refine pc_stn (fun s23 es23 => ?_)
        have hs23 := hs40.tr (FKp.i (i := 5) (j := 6) es23 (by decide) (by decide))
        refine pc_stn (fun s24 es24 => ?_)
        have hs24 := hs23.tr (FKp.i (i := 5) (j := 6) es24 (by decide) (by decide))
        refine pc_stn (fun s25 es25 => ?_)
        have hs25 := hs24.tr (FKp.i (i := 5) (j := 6) es25 (by decide) (by decide))
        refine pc_stn (fun s26 es26 => ?_)
        have hs26 := hs25.tr (FKp.i (i := 5) (j := 6) es26 (by decide) (by decide))
        refine pc_stn (fun s27 es27 => ?_)
        have hs27 := hs26.tr (FKp.i (i := 5) (j := 6) es27 (by decide) (by decide))
        refine pc_rg ?_
        refine pc_if (fun _ => ?_) (fun _ => ?_)
        · skip
          refine pc_bn (fun s33 es33 => ?_)
          have hs33 := hs27.tr (fk_x12_qTest _ es33)
          unfold m_x12_codesTold_J72
          refine pc_rg ?_
          refine pc_if (fun _ => ?_) (fun _ => ?_)
          · skip
            refine pc_inb ?_
            refine pc_stn (fun s18 es18 => ?_)
            have hs18 := hs33.tr (FKp.a (i := 5) (j := 6) es18)
            exact fk_x12_codesTold_L92 FU _ _ _ hs18
          · skip
            exact pc_some hs33
        · skip
          refine pc_bn (fun s31 es31 => ?_)
          have hs31 := hs27.tr (fk_x12_qSums _ es31)
          unfold m_x12_codesTold_J72
          refine pc_rg ?_
          refine pc_if (fun _ => ?_) (fun _ => ?_)
          · skip
            refine pc_inb ?_
            refine pc_stn (fun s18 es18 => ?_)
            have hs18 := hs31.tr (FKp.a (i := 5) (j := 6) es18)
            exact fk_x12_codesTold_L92 FU _ _ _ hs18
          · skip
            exact pc_some hs31
      · skip
        exact pc_some hs40
  · skip
    unfold m_x12_codesTold_J23
    refine pc_rg ?_
    refine pc_if (fun _ => ?_) (fun _ => ?_)
    · skip
      refine pc_stn (fun s23 es23 => ?_)
      have hs23 := (FKp.rf s).tr (FKp.i (i := 5) (j := 6) es23 (by decide) (by decide))
      refine pc_stn (fun s24 es24 => ?_)
      have hs24 := hs23.tr (FKp.i (i := 5) (j := 6) es24 (by decide) (by decide))
      refine pc_stn (fun s25 es25 => ?_)
      have hs25 := hs24.tr (FKp.i (i := 5) (j := 6) es25 (by decide) (by decide))
      refine pc_stn (fun s26 es26 => ?_)
      have hs26 := hs25.tr (FKp.i (i := 5) (j := 6) es26 (by decide) (by decide))
      refine pc_stn (fun s27 es27 => ?_)
      have hs27 := hs26.tr (FKp.i (i := 5) (j := 6) es27 (by decide) (by decide))
      refine pc_rg ?_
      refine pc_if (fun _ => ?_) (fun _ => ?_)
      · skip
        refine pc_bn (fun s33 es33 => ?_)
        have hs33 := hs27.tr (fk_x12_qTest _ es33)
        unfold m_x12_codesTold_J72
        refine pc_rg ?_
        refine pc_if (fun _ => ?_) (fun _ => ?_)
        · skip
          refine pc_inb ?_
          refine pc_stn (fun s18 es18 => ?_)
          have hs18 := hs33.tr (FKp.a (i := 5) (j := 6) es18)
          exact fk_x12_codesTold_L92 FU _ _ _ hs18
        · skip
          exact pc_some hs33
      · skip
        refine pc_bn (fun s31 es31 => ?_)
        have hs31 := hs27.tr (fk_x12_qSums _ es31)
        unfold m_x12_codesTold_J72
        refine pc_rg ?_
        refine pc_if (fun _ => ?_) (fun _ => ?_)
        · skip
          refine pc_inb ?_
          refine pc_stn (fun s18 es18 => ?_)
          have hs18 := hs31.tr (FKp.a (i := 5) (j := 6) es18)
          exact fk_x12_codesTold_L92 FU _ _ _ hs18
        · skip
          exact pc_some hs31
    · skip
      exact pc_some (FKp.rf s)
set_option maxHeartbeats 1000000 in
theorem fk_x12_statementTold {s : MS} : pc (m_x12_statementTold s) (fun q => FKp 5 6 s q) := by
  unfold m_x12_statementTold
  refine pc_rg ?_
  refine pc_if (fun _ => ?_) (fun _ => ?_)
  · skip
    refine pc_bn (fun s64 es64 => ?_)
    have hs64 := (FKp.rf s).tr (fk_x12_fail _ es64)
    exact pc_some hs64
  · skip
    refine pc_bn (fun qr9 eqr9 => ?_)
    have hqr9 := (FKp.rf s).tr (FKp.of (i := 5) (j := 6) (fr_x12_takes eqr9) (by decide) (by decide))
    refine pc_rg ?_
    refine pc_if (fun _ => ?_) (fun _ => ?_)
    · skip
      refine pc_bn (fun qr14 eqr14 => ?_)
      have hqr14 := hqr9.tr (FKp.of (i := 5) (j := 6) (fr_x12_takes eqr14) (by decide) (by decide))
      refine pc_rg ?_
      refine pc_if (fun _ => ?_) (fun _ => ?_)
      · skip
        refine pc_bn (fun qr19 eqr19 => ?_)
        have hqr19 := hqr14.tr (FKp.of (i := 5) (j := 6) (fr_x12_takes eqr19) (by decide) (by decide))
        refine pc_rg ?_
        refine pc_if (fun _ => ?_) (fun _ => ?_)
        · skip
          refine pc_bn (fun qr24 eqr24 => ?_)
          have hqr24 := hqr19.tr (FKp.of (i := 5) (j := 6) (fr_x12_takes eqr24) (by decide) (by decide))
          refine pc_rg ?_
          refine pc_if (fun _ => ?_) (fun _ => ?_)
          · skip
            refine pc_bn (fun qr29 eqr29 => ?_)
            have hqr29 := hqr24.tr (FKp.of (i := 5) (j := 6) (fr_x12_takes eqr29) (by decide) (by decide))
            refine pc_rg ?_
            refine pc_if (fun _ => ?_) (fun _ => ?_)
            · skip
              refine pc_bn (fun qr34 eqr34 => ?_)
              have hqr34 := hqr29.tr (FKp.of (i := 5) (j := 6) (fr_x12_takes eqr34) (by decide) (by decide))
              refine pc_rg ?_
              refine pc_if (fun _ => ?_) (fun _ => ?_)
              · skip
                refine pc_bn (fun qr39 eqr39 => ?_)
                have hqr39 := hqr34.tr (FKp.of (i := 5) (j := 6) (fr_x12_takes eqr39) (by decide) (by decide))
                refine pc_rg ?_
                refine pc_if (fun _ => ?_) (fun _ => ?_)
                · skip
                  refine pc_bn (fun s43 es43 => ?_)
                  have hs43 := hqr39.tr (fk_x12_asks _ es43)
                  refine pc_bn (fun qr46 eqr46 => ?_)
                  have hqr46 := hs43.tr (fk_x12_number _ eqr46)
                  refine pc_inb ?_
                  refine pc_stn (fun s48 es48 => ?_)
                  have hs48 := hqr46.tr (FKp.a (i := 5) (j := 6) es48)
                  unfold m_x12_statementTold_J178
                  refine pc_bn (fun s3 es3 => ?_)
                  have hs3 := hs48.tr (fk_x12_asksSign _ es3)
                  refine pc_stn (fun s4 es4 => ?_)
                  have hs4 := hs3.tr (FKp.i (i := 5) (j := 6) es4 (by decide) (by decide))
                  exact pc_some hs4
                · skip
                  refine pc_bn (fun s50 es50 => ?_)
                  have hs50 := hqr39.tr (fk_x12_codesTold _ es50)
                  unfold m_x12_statementTold_J178
                  refine pc_bn (fun s3 es3 => ?_)
                  have hs3 := hs50.tr (fk_x12_asksSign _ es3)
                  refine pc_stn (fun s4 es4 => ?_)
                  have hs4 := hs3.tr (FKp.i (i := 5) (j := 6) es4 (by decide) (by decide))
                  exact pc_some hs4
              · skip
                refine pc_bn (fun s52 es52 => ?_)
                have hs52 := hqr34.tr (fk_x12_codesTold _ es52)
                unfold m_x12_statementTold_J178
                refine pc_bn (fun s3 es3 => ?_)
                have hs3 := hs52.tr (fk_x12_asksSign _ es3)
                refine pc_stn (fun s4 es4 => ?_)
                have hs4 := hs3.tr (FKp.i (i := 5) (j := 6) es4 (by decide) (by decide))
                exact pc_some hs4
            · skip
              refine pc_bn (fun s54 es54 => ?_)
              have hs54 := hqr29.tr (fk_x12_codesTold _ es54)
              unfold m_x12_statementTold_J178
              refine pc_bn (fun s3 es3 => ?_)
              have hs3 := hs54.tr (fk_x12_asksSign _ es3)
              refine pc_stn (fun s4 es4 => ?_)
              have hs4 := hs3.tr (FKp.i (i := 5) (j := 6) es4 (by decide) (by decide))
              exact pc_some hs4
          · skip
            refine pc_bn (fun s56 es56 => ?_)
            have hs56 := hqr24.tr (fk_x12_removeTold _ es56)
            unfold m_x12_statementTold_J178
            refine pc_bn (fun s3 es3 => ?_)
            have hs3 := hs56.tr (fk_x12_asksSign _ es3)
            refine pc_stn (fun s4 es4 => ?_)
            have hs4 := hs3.tr (FKp.i (i := 5) (j := 6) es4 (by decide) (by decide))
            exact pc_some hs4
        · skip
          refine pc_bn (fun s58 es58 => ?_)
          have hs58 := hqr19.tr (fk_x12_putTold _ es58)
          unfold m_x12_statementTold_J178
          refine pc_bn (fun s3 es3 => ?_)
          have hs3 := hs58.tr (fk_x12_asksSign _ es3)
          refine pc_stn (fun s4 es4 => ?_)
          have hs4 := hs3.tr (FKp.i (i := 5) (j := 6) es4 (by decide) (by decide))
          exact pc_some hs4
      · skip
        refine pc_bn (fun s60 es60 => ?_)
        have hs60 := hqr14.tr (fk_x12_volumeTold _ es60)
        unfold m_x12_statementTold_J178
        refine pc_bn (fun s3 es3 => ?_)
        have hs3 := hs60.tr (fk_x12_asksSign _ es3)
        refine pc_stn (fun s4 es4 => ?_)
        have hs4 := hs3.tr (FKp.i (i := 5) (j := 6) es4 (by decide) (by decide))
        exact pc_some hs4
    · skip
      refine pc_bn (fun s62 es62 => ?_)
      have hs62 := hqr9.tr (fk_x12_volumeTold _ es62)
      unfold m_x12_statementTold_J178
      refine pc_bn (fun s3 es3 => ?_)
      have hs3 := hs62.tr (fk_x12_asksSign _ es3)
      refine pc_stn (fun s4 es4 => ?_)
      have hs4 := hs3.tr (FKp.i (i := 5) (j := 6) es4 (by decide) (by decide))
      exact pc_some hs4
