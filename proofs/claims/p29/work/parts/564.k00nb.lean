/-! ===== without a fault its place is -1 ===== -/
def NBp (t o : MS) : Prop := (gI t 5 = 0 → gI t 6 = -1) → (gI o 5 = 0 → gI o 6 = -1)
theorem NBp.rf (s : MS) : NBp s s := fun a => a
theorem NBp.tr {s o q : MS} (h : NBp s o) (g : NBp o q) : NBp s q := fun a => g (h a)
theorem NBp.of {I A L B : List Nat} {s o : MS} (h : Fr I A L B s o) (hi : 5 ∉ I) (hj : 6 ∉ I) : NBp s o := fun a z => (h.1 6 hj).trans (a ((h.1 5 hi).symm.trans z))
theorem NBp.i {k : Nat} {v : Int} {s o : MS} (e : sI s k v = o) (hi : 5 ≠ k) (hj : 6 ≠ k) : NBp s o := fun a z => (q_Ii e hj).trans (a ((q_Ii e hi).symm.trans z))
theorem NBp.a {k : Nat} {f : Nat → Int} {s o : MS} (e : sA s k f = o) : NBp s o := fun a z => (q_Ai e).trans (a ((q_Ai e).symm.trans z))
theorem NBp.l {k : Nat} {v : Int} {s o : MS} (e : sL s k v = o) : NBp s o := fun a z => (q_Li e).trans (a ((q_Li e).symm.trans z))
theorem NBp.b {k : Nat} {f : Nat → Int} {s o : MS} (e : sB s k f = o) : NBp s o := fun a z => (q_Bi e).trans (a ((q_Bi e).symm.trans z))
theorem nb_x12_fail {p0 p1 : Int} {s : MS} (hp : p0 ≠ 0) : pc (m_x12_fail p0 p1 s) (fun q => NBp s q) := by
  unfold m_x12_fail
  exact pc_rg (pc_if (fun c => pc_stn (fun s4 e4 => pc_stn (fun s5 e5 => pc_some (fun _ z => absurd (((q_II e4 : gI s4 5 = p0).symm.trans (q_Ii e5 (by decide)).symm).trans z) hp)))) (fun c => pc_some (NBp.rf s)))
set_option maxHeartbeats 1000000 in
theorem nb_x12_asks {wid : Nat} {wn : Nat} {s : MS} : pc (m_x12_asks wid wn s) (fun q => NBp s q) := by
  unfold m_x12_asks
  refine pc_rg ?_
  refine pc_if (fun _ => ?_) (fun _ => ?_)
  · skip
    refine pc_bn (fun qr6 eqr6 => ?_)
    have hqr6 := (NBp.rf s).tr (NBp.of (fr_x12_takes eqr6) (by decide) (by decide))
    refine pc_rg ?_
    refine pc_if (fun _ => ?_) (fun _ => ?_)
    · skip
      refine pc_bn (fun s10 es10 => ?_)
      have hs10 := hqr6.tr (nb_x12_fail (by decide) _ es10)
      unfold m_x12_asks_J24
      exact pc_some hs10
    · skip
      unfold m_x12_asks_J24
      exact pc_some hqr6
  · skip
    unfold m_x12_asks_J24
    exact pc_some (NBp.rf s)
set_option maxHeartbeats 1000000 in
theorem nb_x12_asksSign {p0 : Int} {s : MS} : pc (m_x12_asksSign p0 s) (fun q => NBp s q) := by
  unfold m_x12_asksSign
  refine pc_rg ?_
  refine pc_if (fun _ => ?_) (fun _ => ?_)
  · skip
    refine pc_bn (fun qr6 eqr6 => ?_)
    have hqr6 := (NBp.rf s).tr (NBp.of (fr_x12_takesSign eqr6) (by decide) (by decide))
    refine pc_rg ?_
    refine pc_if (fun _ => ?_) (fun _ => ?_)
    · skip
      refine pc_bn (fun s10 es10 => ?_)
      have hs10 := hqr6.tr (nb_x12_fail (by decide) _ es10)
      unfold m_x12_asksSign_J24
      exact pc_some hs10
    · skip
      unfold m_x12_asksSign_J24
      exact pc_some hqr6
  · skip
    unfold m_x12_asksSign_J24
    exact pc_some (NBp.rf s)
set_option maxHeartbeats 1000000 in
theorem nb_x12_number_L49 {s : MS} : ∀ (n : Nat) (x19 : Int) (x20 : Int) (x21 : Int) (x22 : Int) (s23 : MS), NBp s s23 → pc (m_x12_number_L49 n x19 x20 x21 x22 s23) (fun q => NBp s q.2) := by
  refine fr_ind (fun _ _ _ _ _ _ => pc_none) (fun n49 ih49 x19 x20 x21 x22 s23 hs23 => ?_)
  show pc (m_x12_number_b49 (m_x12_number_L49 n49) x19 x20 x21 x22 s23) _
  unfold m_x12_number_b49
  refine pc_rg ?_
  refine pc_rg ?_
  refine pc_if (fun _ => ?_) (fun _ => ?_)
  · skip
    unfold m_x12_number_J129
    refine pc_stn (fun s8 es8 => ?_)
    have hs8 := hs23.tr (NBp.i es8 (by decide) (by decide))
    refine pc_stn (fun s9 es9 => ?_)
    have hs9 := hs8.tr (NBp.i es9 (by decide) (by decide))
    refine pc_rg ?_
    refine pc_rg ?_
    refine pc_rg ?_
    refine pc_bn (fun r14 er14 => ?_)
    refine pc_rg ?_
    refine pc_if (fun _ => ?_) (fun _ => ?_)
    · skip
      refine pc_bn (fun s18 es18 => ?_)
      have hs18 := hs9.tr (nb_x12_fail (by decide) _ es18)
      unfold m_x12_number_J164
      exact pc_some hs18
    · skip
      unfold m_x12_number_J164
      exact pc_some hs9
  · skip
    refine pc_rdI (fun _ => ?_)
    refine pc_bn (fun r29 er29 => ?_)
    refine pc_rg ?_
    refine pc_if (fun _ => ?_) (fun _ => ?_)
    · skip
      unfold m_x12_number_J129
      refine pc_stn (fun s8 es8 => ?_)
      have hs8 := hs23.tr (NBp.i es8 (by decide) (by decide))
      refine pc_stn (fun s9 es9 => ?_)
      have hs9 := hs8.tr (NBp.i es9 (by decide) (by decide))
      refine pc_rg ?_
      refine pc_rg ?_
      refine pc_rg ?_
      refine pc_bn (fun r14 er14 => ?_)
      refine pc_rg ?_
      refine pc_if (fun _ => ?_) (fun _ => ?_)
      · skip
        refine pc_bn (fun s18 es18 => ?_)
        have hs18 := hs9.tr (nb_x12_fail (by decide) _ es18)
        unfold m_x12_number_J164
        exact pc_some hs18
      · skip
        unfold m_x12_number_J164
        exact pc_some hs9
    · skip
      refine pc_rg ?_
      refine pc_if (fun _ => ?_) (fun _ => ?_)
      · skip
        refine pc_bn (fun s37 es37 => ?_)
        have hs37 := hs23.tr (nb_x12_fail (by decide) _ es37)
        exact pc_some hs37
      · skip
        refine pc_rdI (fun _ => ?_)
        refine pc_stn (fun s35 es35 => ?_)
        have hs35 := hs23.tr (NBp.i es35 (by decide) (by decide))
        exact ih49 _ _ _ _ _ hs35
set_option maxHeartbeats 1000000 in
theorem nb_x12_number {p0 : Int} {p1 : Int} {s : MS} : pc (m_x12_number p0 p1 s) (fun q => NBp s q.2) := by
  unfold m_x12_number
  refine pc_rg ?_
  refine pc_if (fun _ => ?_) (fun _ => ?_)
  · skip
    refine pc_bn (fun qr45 eqr45 => ?_)
    have hqr45 := (NBp.rf s).tr (NBp.of (fr_x12_look eqr45) (by decide) (by decide))
    refine pc_bn (fun r47 er47 => ?_)
    refine pc_rg ?_
    refine pc_if (fun _ => ?_) (fun _ => ?_)
    · skip
      unfold m_x12_number_J30
      refine pc_bn (fun s40 es40 => ?_)
      have hs40 := hqr45.tr (nb_x12_fail (by decide) _ es40)
      exact pc_some hs40
    · skip
      refine pc_rg ?_
      refine pc_rg ?_
      refine pc_if (fun _ => ?_) (fun _ => ?_)
      · skip
        unfold m_x12_number_J30
        refine pc_bn (fun s40 es40 => ?_)
        have hs40 := hqr45.tr (nb_x12_fail (by decide) _ es40)
        exact pc_some hs40
      · skip
        exact nb_x12_number_L49 FU _ _ _ _ _ hqr45
  · skip
    exact pc_some (NBp.rf s)
set_option maxHeartbeats 1000000 in
theorem nb_x12_name_L58 {s : MS} : ∀ (n : Nat) (z4 : Int) (s5 : MS), NBp s s5 → pc (m_x12_name_L58 n z4 s5) (fun q => NBp s q.2) := by
  refine fr_ind (fun _ _ _ => pc_none) (fun n58 ih58 z4 s5 hs5 => ?_)
  show pc (m_x12_name_b58 (m_x12_name_L58 n58) z4 s5) _
  unfold m_x12_name_b58
  refine pc_rg ?_
  refine pc_rg ?_
  refine pc_if (fun _ => ?_) (fun _ => ?_)
  · skip
    unfold m_x12_name_J145
    refine pc_stn (fun s3 es3 => ?_)
    have hs3 := hs5.tr (NBp.i es3 (by decide) (by decide))
    exact pc_some hs3
  · skip
    refine pc_rdI (fun _ => ?_)
    refine pc_bn (fun r11 er11 => ?_)
    refine pc_rg ?_
    refine pc_if (fun _ => ?_) (fun _ => ?_)
    · skip
      unfold m_x12_name_J145
      refine pc_stn (fun s3 es3 => ?_)
      have hs3 := hs5.tr (NBp.i es3 (by decide) (by decide))
      exact pc_some hs3
    · skip
      refine pc_rg ?_
      refine pc_if (fun _ => ?_) (fun _ => ?_)
      · skip
        refine pc_bn (fun s20 es20 => ?_)
        have hs20 := hs5.tr (nb_x12_fail (by decide) _ es20)
        exact pc_some hs20
      · skip
        refine pc_rdI (fun _ => ?_)
        refine pc_rg ?_
        refine pc_stn (fun s18 es18 => ?_)
        have hs18 := hs5.tr (NBp.i es18 (by decide) (by decide))
        exact ih58 _ _ hs18
set_option maxHeartbeats 1000000 in
theorem nb_x12_name {s : MS} : pc (m_x12_name s) (fun q => NBp s q.2) := by
  unfold m_x12_name
  refine pc_rg ?_
  refine pc_if (fun _ => ?_) (fun _ => ?_)
  · skip
    refine pc_bn (fun qr28 eqr28 => ?_)
    have hqr28 := (NBp.rf s).tr (NBp.of (fr_x12_look eqr28) (by decide) (by decide))
    refine pc_bn (fun r30 er30 => ?_)
    refine pc_rg ?_
    refine pc_if (fun _ => ?_) (fun _ => ?_)
    · skip
      unfold m_x12_name_J37
      refine pc_bn (fun s23 es23 => ?_)
      have hs23 := hqr28.tr (nb_x12_fail (by decide) _ es23)
      exact pc_some hs23
    · skip
      refine pc_rg ?_
      refine pc_rg ?_
      refine pc_if (fun _ => ?_) (fun _ => ?_)
      · skip
        unfold m_x12_name_J37
        refine pc_bn (fun s23 es23 => ?_)
        have hs23 := hqr28.tr (nb_x12_fail (by decide) _ es23)
        exact pc_some hs23
      · skip
        refine pc_bn (fun qr38 eqr38 => ?_)
        have hqr38 := hqr28.tr (NBp.of (fr_x12_isOwnHere eqr38) (by decide) (by decide))
        refine pc_rg ?_
        refine pc_if (fun _ => ?_) (fun _ => ?_)
        · skip
          refine pc_stn (fun s41 es41 => ?_)
          have hs41 := hqr38.tr (NBp.i es41 (by decide) (by decide))
          exact nb_x12_name_L58 FU _ _ hs41
        · skip
          unfold m_x12_name_J37
          refine pc_bn (fun s23 es23 => ?_)
          have hs23 := hqr38.tr (nb_x12_fail (by decide) _ es23)
          exact pc_some hs23
  · skip
    exact pc_some (NBp.rf s)
set_option maxHeartbeats 1000000 in
theorem nb_x12_qOpens {p0 : Int} {p1 : Int} {s : MS} : pc (m_x12_qOpens p0 p1 s) (fun q => NBp s q) := by
  unfold m_x12_qOpens
  refine pc_rg ?_
  refine pc_if (fun _ => ?_) (fun _ => ?_)
  · skip
    refine pc_rg ?_
    refine pc_if (fun _ => ?_) (fun _ => ?_)
    · skip
      refine pc_bn (fun s10 es10 => ?_)
      have hs10 := (NBp.rf s).tr (nb_x12_fail (by decide) _ es10)
      exact pc_some hs10
    · skip
      refine pc_stn (fun s5 es5 => ?_)
      have hs5 := (NBp.rf s).tr (NBp.i es5 (by decide) (by decide))
      refine pc_inb ?_
      refine pc_stn (fun s7 es7 => ?_)
      have hs7 := hs5.tr (NBp.a es7)
      refine pc_stn (fun s8 es8 => ?_)
      have hs8 := hs7.tr (NBp.i es8 (by decide) (by decide))
      exact pc_some hs8
  · skip
    exact pc_some (NBp.rf s)
set_option maxHeartbeats 1000000 in
theorem nb_x12_qAsksWord {p0 : Int} {s : MS} : pc (m_x12_qAsksWord p0 s) (fun q => NBp s q) := by
  unfold m_x12_qAsksWord
  refine pc_rg ?_
  refine pc_if (fun _ => ?_) (fun _ => ?_)
  · skip
    refine pc_bn (fun s5 es5 => ?_)
    have hs5 := (NBp.rf s).tr (nb_x12_asks _ es5)
    unfold m_x12_qAsksWord_J159
    exact pc_some hs5
  · skip
    refine pc_if (fun _ => ?_) (fun _ => ?_)
    · skip
      refine pc_bn (fun s8 es8 => ?_)
      have hs8 := (NBp.rf s).tr (nb_x12_asks _ es8)
      unfold m_x12_qAsksWord_J159
      exact pc_some hs8
    · skip
      refine pc_if (fun _ => ?_) (fun _ => ?_)
      · skip
        refine pc_bn (fun s11 es11 => ?_)
        have hs11 := (NBp.rf s).tr (nb_x12_asks _ es11)
        unfold m_x12_qAsksWord_J159
        exact pc_some hs11
      · skip
        refine pc_if (fun _ => ?_) (fun _ => ?_)
        · skip
          refine pc_bn (fun s14 es14 => ?_)
          have hs14 := (NBp.rf s).tr (nb_x12_asks _ es14)
          unfold m_x12_qAsksWord_J159
          exact pc_some hs14
        · skip
          refine pc_if (fun _ => ?_) (fun _ => ?_)
          · skip
            refine pc_bn (fun s17 es17 => ?_)
            have hs17 := (NBp.rf s).tr (nb_x12_asks _ es17)
            unfold m_x12_qAsksWord_J159
            exact pc_some hs17
          · skip
            refine pc_if (fun _ => ?_) (fun _ => ?_)
            · skip
              refine pc_bn (fun s20 es20 => ?_)
              have hs20 := (NBp.rf s).tr (nb_x12_asks _ es20)
              unfold m_x12_qAsksWord_J159
              exact pc_some hs20
            · skip
              refine pc_if (fun _ => ?_) (fun _ => ?_)
              · skip
                refine pc_bn (fun s23 es23 => ?_)
                have hs23 := (NBp.rf s).tr (nb_x12_asks _ es23)
                unfold m_x12_qAsksWord_J159
                exact pc_some hs23
              · skip
                refine pc_if (fun _ => ?_) (fun _ => ?_)
                · skip
                  refine pc_bn (fun s26 es26 => ?_)
                  have hs26 := (NBp.rf s).tr (nb_x12_asks _ es26)
                  unfold m_x12_qAsksWord_J159
                  exact pc_some hs26
                · skip
                  refine pc_if (fun _ => ?_) (fun _ => ?_)
                  · skip
                    refine pc_bn (fun s29 es29 => ?_)
                    have hs29 := (NBp.rf s).tr (nb_x12_asks _ es29)
                    unfold m_x12_qAsksWord_J159
                    exact pc_some hs29
                  · skip
                    refine pc_bn (fun s31 es31 => ?_)
                    have hs31 := (NBp.rf s).tr (nb_x12_asks _ es31)
                    unfold m_x12_qAsksWord_J159
                    exact pc_some hs31
set_option maxHeartbeats 1000000 in
theorem nb_x12_qEndsPart_L0 {s : MS} : ∀ (n : Nat) (s2 : MS), NBp s s2 → pc (m_x12_qEndsPart_L0 n s2) (fun q => NBp s q) := by
  refine fr_ind (fun _ _ => pc_none) (fun n0 ih0 s2 hs2 => ?_)
  show pc (m_x12_qEndsPart_b0 (m_x12_qEndsPart_L0 n0) s2) _
  unfold m_x12_qEndsPart_b0
  refine pc_rg ?_
  refine pc_if (fun _ => ?_) (fun _ => ?_)
  · skip
    refine pc_rg ?_
    refine pc_rg ?_
    refine pc_if (fun _ => ?_) (fun _ => ?_)
    · skip
      unfold m_x12_qEndsPart_J51
      exact pc_some hs2
    · skip
      refine pc_rdI (fun _ => ?_)
      refine pc_rg ?_
      refine pc_if (fun _ => ?_) (fun _ => ?_)
      · skip
        unfold m_x12_qEndsPart_J51
        exact pc_some hs2
      · skip
        refine pc_stn (fun s11 es11 => ?_)
        have hs11 := hs2.tr (NBp.i es11 (by decide) (by decide))
        refine pc_bn (fun s13 es13 => ?_)
        have hs13 := hs11.tr (NBp.of (fr_x12_qDrops es13) (by decide) (by decide))
        exact ih0 _ hs13
  · skip
    unfold m_x12_qEndsPart_J51
    exact pc_some hs2
set_option maxHeartbeats 1000000 in
theorem nb_x12_qEndsPart {s : MS} : pc (m_x12_qEndsPart s) (fun q => NBp s q) := by
  unfold m_x12_qEndsPart
  exact nb_x12_qEndsPart_L0 FU _ (NBp.rf s)
set_option maxHeartbeats 1000000 in
theorem nb_x12_qPartTold_L2 {s : MS} : ∀ (n : Nat) (x24 : Int) (s25 : MS), NBp s s25 → pc (m_x12_qPartTold_L2 n x24 s25) (fun q => NBp s q) := by
  refine fr_ind (fun _ _ _ => pc_none) (fun n2 ih2 x24 s25 hs25 => ?_)
  show pc (m_x12_qPartTold_b2 (m_x12_qPartTold_L2 n2) x24 s25) _
  unfold m_x12_qPartTold_b2
  refine pc_rg ?_
  refine pc_if (fun _ => ?_) (fun _ => ?_)
  · skip
    unfold m_x12_qPartTold_J186
    refine pc_rg ?_
    refine pc_if (fun _ => ?_) (fun _ => ?_)
    · skip
      refine pc_bn (fun qr19 eqr19 => ?_)
      have hqr19 := hs25.tr (NBp.of (fr_x12_qWordOf eqr19) (by decide) (by decide))
      refine pc_rg ?_
      refine pc_if (fun _ => ?_) (fun _ => ?_)
      · skip
        unfold m_x12_qPartTold_J212
        refine pc_rg ?_
        refine pc_if (fun _ => ?_) (fun _ => ?_)
        · skip
          refine pc_bn (fun qr13 eqr13 => ?_)
          have hqr13 := hqr19.tr (nb_x12_number _ eqr13)
          unfold m_x12_qPartTold_J237
          refine pc_bn (fun s4 es4 => ?_)
          have hs4 := hqr13.tr (NBp.of (fr_x12_qCode es4) (by decide) (by decide))
          refine pc_bn (fun s6 es6 => ?_)
          have hs6 := hs4.tr (NBp.of (fr_x12_qEndsPart es6) (by decide) (by decide))
          exact pc_some hs6
        · skip
          unfold m_x12_qPartTold_J237
          refine pc_bn (fun s4 es4 => ?_)
          have hs4 := hqr19.tr (NBp.of (fr_x12_qCode es4) (by decide) (by decide))
          refine pc_bn (fun s6 es6 => ?_)
          have hs6 := hs4.tr (NBp.of (fr_x12_qEndsPart es6) (by decide) (by decide))
          exact pc_some hs6
      · skip
        refine pc_bn (fun s23 es23 => ?_)
        have hs23 := hqr19.tr (nb_x12_qAsksWord _ es23)
        unfold m_x12_qPartTold_J212
        refine pc_rg ?_
        refine pc_if (fun _ => ?_) (fun _ => ?_)
        · skip
          refine pc_bn (fun qr13 eqr13 => ?_)
          have hqr13 := hs23.tr (nb_x12_number _ eqr13)
          unfold m_x12_qPartTold_J237
          refine pc_bn (fun s4 es4 => ?_)
          have hs4 := hqr13.tr (NBp.of (fr_x12_qCode es4) (by decide) (by decide))
          refine pc_bn (fun s6 es6 => ?_)
          have hs6 := hs4.tr (NBp.of (fr_x12_qEndsPart es6) (by decide) (by decide))
          exact pc_some hs6
        · skip
          unfold m_x12_qPartTold_J237
          refine pc_bn (fun s4 es4 => ?_)
          have hs4 := hs23.tr (NBp.of (fr_x12_qCode es4) (by decide) (by decide))
          refine pc_bn (fun s6 es6 => ?_)
          have hs6 := hs4.tr (NBp.of (fr_x12_qEndsPart es6) (by decide) (by decide))
          exact pc_some hs6
    · skip
      exact pc_some hs25
  · skip
    refine pc_rg ?_
    refine pc_if (fun _ => ?_) (fun _ => ?_)
    · skip
      refine pc_bn (fun qr69 eqr69 => ?_)
      have hqr69 := hs25.tr (NBp.of (fr_x12_look eqr69) (by decide) (by decide))
      refine pc_bn (fun qr72 eqr72 => ?_)
      have hqr72 := hqr69.tr (NBp.of (fr_x12_qWordOf eqr72) (by decide) (by decide))
      refine pc_rg ?_
      refine pc_if (fun _ => ?_) (fun _ => ?_)
      · skip
        refine pc_bn (fun s92 es92 => ?_)
        have hs92 := hqr72.tr (nb_x12_qOpens _ es92)
        refine pc_stn (fun s93 es93 => ?_)
        have hs93 := hs92.tr (NBp.i es93 (by decide) (by decide))
        unfold m_x12_qPartTold_J183
        exact ih2 _ _ hs93
      · skip
        refine pc_bn (fun qr77 eqr77 => ?_)
        have hqr77 := hqr72.tr (NBp.of (fr_x12_isHere eqr77) (by decide) (by decide))
        refine pc_rg ?_
        refine pc_if (fun _ => ?_) (fun _ => ?_)
        · skip
          refine pc_bn (fun qr82 eqr82 => ?_)
          have hqr82 := hqr77.tr (NBp.of (fr_x12_isHere eqr82) (by decide) (by decide))
          refine pc_rg ?_
          refine pc_if (fun _ => ?_) (fun _ => ?_)
          · skip
            refine pc_rg ?_
            refine pc_if (fun _ => ?_) (fun _ => ?_)
            · skip
              unfold m_x12_qPartTold_J183
              exact ih2 _ _ hqr82
            · skip
              refine pc_bn (fun s88 es88 => ?_)
              have hs88 := hqr82.tr (nb_x12_qOpens _ es88)
              refine pc_bn (fun s90 es90 => ?_)
              have hs90 := hs88.tr (nb_x12_qAsksWord _ es90)
              unfold m_x12_qPartTold_J183
              exact ih2 _ _ hs90
          · skip
            unfold m_x12_qPartTold_J78
            refine pc_bn (fun qr58 eqr58 => ?_)
            have hqr58 := hqr82.tr (NBp.of (fr_x12_takes eqr58) (by decide) (by decide))
            refine pc_rg ?_
            refine pc_if (fun _ => ?_) (fun _ => ?_)
            · skip
              refine pc_bn (fun s62 es62 => ?_)
              have hs62 := hqr58.tr (nb_x12_asks _ es62)
              unfold m_x12_qPartTold_J101
              refine pc_bn (fun qr51 eqr51 => ?_)
              have hqr51 := hs62.tr (NBp.of (fr_x12_look eqr51) (by decide) (by decide))
              refine pc_rg ?_
              refine pc_if (fun _ => ?_) (fun _ => ?_)
              · skip
                unfold m_x12_qPartTold_J118
                refine pc_rg ?_
                refine pc_if (fun _ => ?_) (fun _ => ?_)
                · skip
                  unfold m_x12_qPartTold_J144
                  refine pc_bn (fun s31 es31 => ?_)
                  have hs31 := hqr51.tr (nb_x12_asksSign _ es31)
                  unfold m_x12_qPartTold_J183
                  exact ih2 _ _ hs31
                · skip
                  refine pc_rg ?_
                  refine pc_if (fun _ => ?_) (fun _ => ?_)
                  · skip
                    unfold m_x12_qPartTold_J139
                    refine pc_bn (fun s37 es37 => ?_)
                    have hs37 := hqr51.tr (nb_x12_qOpens _ es37)
                    unfold m_x12_qPartTold_J144
                    refine pc_bn (fun s31 es31 => ?_)
                    have hs31 := hs37.tr (nb_x12_asksSign _ es31)
                    unfold m_x12_qPartTold_J183
                    exact ih2 _ _ hs31
                  · skip
                    unfold m_x12_qPartTold_J139
                    refine pc_bn (fun s37 es37 => ?_)
                    have hs37 := hqr51.tr (nb_x12_qOpens _ es37)
                    unfold m_x12_qPartTold_J144
                    refine pc_bn (fun s31 es31 => ?_)
                    have hs31 := hs37.tr (nb_x12_asksSign _ es31)
                    unfold m_x12_qPartTold_J183
                    exact ih2 _ _ hs31
              · skip
                unfold m_x12_qPartTold_J118
                refine pc_rg ?_
                refine pc_if (fun _ => ?_) (fun _ => ?_)
                · skip
                  unfold m_x12_qPartTold_J144
                  refine pc_bn (fun s31 es31 => ?_)
                  have hs31 := hqr51.tr (nb_x12_asksSign _ es31)
                  unfold m_x12_qPartTold_J183
                  exact ih2 _ _ hs31
                · skip
                  refine pc_rg ?_
                  refine pc_if (fun _ => ?_) (fun _ => ?_)
                  · skip
                    unfold m_x12_qPartTold_J139
                    refine pc_bn (fun s37 es37 => ?_)
                    have hs37 := hqr51.tr (nb_x12_qOpens _ es37)
                    unfold m_x12_qPartTold_J144
                    refine pc_bn (fun s31 es31 => ?_)
                    have hs31 := hs37.tr (nb_x12_asksSign _ es31)
                    unfold m_x12_qPartTold_J183
                    exact ih2 _ _ hs31
                  · skip
                    unfold m_x12_qPartTold_J139
                    refine pc_bn (fun s37 es37 => ?_)
                    have hs37 := hqr51.tr (nb_x12_qOpens _ es37)
                    unfold m_x12_qPartTold_J144
                    refine pc_bn (fun s31 es31 => ?_)
                    have hs31 := hs37.tr (nb_x12_asksSign _ es31)
                    unfold m_x12_qPartTold_J183
                    exact ih2 _ _ hs31
            · skip
              unfold m_x12_qPartTold_J101
              refine pc_bn (fun qr51 eqr51 => ?_)
              have hqr51 := hqr58.tr (NBp.of (fr_x12_look eqr51) (by decide) (by decide))
              refine pc_rg ?_
              refine pc_if (fun _ => ?_) (fun _ => ?_)
              · skip
                unfold m_x12_qPartTold_J118
                refine pc_rg ?_
                refine pc_if (fun _ => ?_) (fun _ => ?_)
                · skip
                  unfold m_x12_qPartTold_J144
                  refine pc_bn (fun s31 es31 => ?_)
                  have hs31 := hqr51.tr (nb_x12_asksSign _ es31)
                  unfold m_x12_qPartTold_J183
                  exact ih2 _ _ hs31
                · skip
                  refine pc_rg ?_
                  refine pc_if (fun _ => ?_) (fun _ => ?_)
                  · skip
                    unfold m_x12_qPartTold_J139
                    refine pc_bn (fun s37 es37 => ?_)
                    have hs37 := hqr51.tr (nb_x12_qOpens _ es37)
                    unfold m_x12_qPartTold_J144
                    refine pc_bn (fun s31 es31 => ?_)
                    have hs31 := hs37.tr (nb_x12_asksSign _ es31)
                    unfold m_x12_qPartTold_J183
                    exact ih2 _ _ hs31
                  · skip
                    unfold m_x12_qPartTold_J139
                    refine pc_bn (fun s37 es37 => ?_)
                    have hs37 := hqr51.tr (nb_x12_qOpens _ es37)
                    unfold m_x12_qPartTold_J144
                    refine pc_bn (fun s31 es31 => ?_)
                    have hs31 := hs37.tr (nb_x12_asksSign _ es31)
                    unfold m_x12_qPartTold_J183
                    exact ih2 _ _ hs31
              · skip
                unfold m_x12_qPartTold_J118
                refine pc_rg ?_
                refine pc_if (fun _ => ?_) (fun _ => ?_)
                · skip
                  unfold m_x12_qPartTold_J144
                  refine pc_bn (fun s31 es31 => ?_)
                  have hs31 := hqr51.tr (nb_x12_asksSign _ es31)
                  unfold m_x12_qPartTold_J183
                  exact ih2 _ _ hs31
                · skip
                  refine pc_rg ?_
                  refine pc_if (fun _ => ?_) (fun _ => ?_)
                  · skip
                    unfold m_x12_qPartTold_J139
                    refine pc_bn (fun s37 es37 => ?_)
                    have hs37 := hqr51.tr (nb_x12_qOpens _ es37)
                    unfold m_x12_qPartTold_J144
                    refine pc_bn (fun s31 es31 => ?_)
                    have hs31 := hs37.tr (nb_x12_asksSign _ es31)
                    unfold m_x12_qPartTold_J183
                    exact ih2 _ _ hs31
                  · skip
                    unfold m_x12_qPartTold_J139
                    refine pc_bn (fun s37 es37 => ?_)
                    have hs37 := hqr51.tr (nb_x12_qOpens _ es37)
                    unfold m_x12_qPartTold_J144
                    refine pc_bn (fun s31 es31 => ?_)
                    have hs31 := hs37.tr (nb_x12_asksSign _ es31)
                    unfold m_x12_qPartTold_J183
                    exact ih2 _ _ hs31
        · skip
          unfold m_x12_qPartTold_J78
          refine pc_bn (fun qr58 eqr58 => ?_)
          have hqr58 := hqr77.tr (NBp.of (fr_x12_takes eqr58) (by decide) (by decide))
          refine pc_rg ?_
          refine pc_if (fun _ => ?_) (fun _ => ?_)
          · skip
            refine pc_bn (fun s62 es62 => ?_)
            have hs62 := hqr58.tr (nb_x12_asks _ es62)
            unfold m_x12_qPartTold_J101
            refine pc_bn (fun qr51 eqr51 => ?_)
            have hqr51 := hs62.tr (NBp.of (fr_x12_look eqr51) (by decide) (by decide))
            refine pc_rg ?_
            refine pc_if (fun _ => ?_) (fun _ => ?_)
            · skip
              unfold m_x12_qPartTold_J118
              refine pc_rg ?_
              refine pc_if (fun _ => ?_) (fun _ => ?_)
              · skip
                unfold m_x12_qPartTold_J144
                refine pc_bn (fun s31 es31 => ?_)
                have hs31 := hqr51.tr (nb_x12_asksSign _ es31)
                unfold m_x12_qPartTold_J183
                exact ih2 _ _ hs31
              · skip
                refine pc_rg ?_
                refine pc_if (fun _ => ?_) (fun _ => ?_)
                · skip
                  unfold m_x12_qPartTold_J139
                  refine pc_bn (fun s37 es37 => ?_)
                  have hs37 := hqr51.tr (nb_x12_qOpens _ es37)
                  unfold m_x12_qPartTold_J144
                  refine pc_bn (fun s31 es31 => ?_)
                  have hs31 := hs37.tr (nb_x12_asksSign _ es31)
                  unfold m_x12_qPartTold_J183
                  exact ih2 _ _ hs31
                · skip
                  unfold m_x12_qPartTold_J139
                  refine pc_bn (fun s37 es37 => ?_)
                  have hs37 := hqr51.tr (nb_x12_qOpens _ es37)
                  unfold m_x12_qPartTold_J144
                  refine pc_bn (fun s31 es31 => ?_)
                  have hs31 := hs37.tr (nb_x12_asksSign _ es31)
                  unfold m_x12_qPartTold_J183
                  exact ih2 _ _ hs31
            · skip
              unfold m_x12_qPartTold_J118
              refine pc_rg ?_
              refine pc_if (fun _ => ?_) (fun _ => ?_)
              · skip
                unfold m_x12_qPartTold_J144
                refine pc_bn (fun s31 es31 => ?_)
                have hs31 := hqr51.tr (nb_x12_asksSign _ es31)
                unfold m_x12_qPartTold_J183
                exact ih2 _ _ hs31
              · skip
                refine pc_rg ?_
                refine pc_if (fun _ => ?_) (fun _ => ?_)
                · skip
                  unfold m_x12_qPartTold_J139
                  refine pc_bn (fun s37 es37 => ?_)
                  have hs37 := hqr51.tr (nb_x12_qOpens _ es37)
                  unfold m_x12_qPartTold_J144
                  refine pc_bn (fun s31 es31 => ?_)
                  have hs31 := hs37.tr (nb_x12_asksSign _ es31)
                  unfold m_x12_qPartTold_J183
                  exact ih2 _ _ hs31
                · skip
                  unfold m_x12_qPartTold_J139
                  refine pc_bn (fun s37 es37 => ?_)
                  have hs37 := hqr51.tr (nb_x12_qOpens _ es37)
                  unfold m_x12_qPartTold_J144
                  refine pc_bn (fun s31 es31 => ?_)
                  have hs31 := hs37.tr (nb_x12_asksSign _ es31)
                  unfold m_x12_qPartTold_J183
                  exact ih2 _ _ hs31
          · skip
            unfold m_x12_qPartTold_J101
            refine pc_bn (fun qr51 eqr51 => ?_)
            have hqr51 := hqr58.tr (NBp.of (fr_x12_look eqr51) (by decide) (by decide))
            refine pc_rg ?_
            refine pc_if (fun _ => ?_) (fun _ => ?_)
            · skip
              unfold m_x12_qPartTold_J118
              refine pc_rg ?_
              refine pc_if (fun _ => ?_) (fun _ => ?_)
              · skip
                unfold m_x12_qPartTold_J144
                refine pc_bn (fun s31 es31 => ?_)
                have hs31 := hqr51.tr (nb_x12_asksSign _ es31)
                unfold m_x12_qPartTold_J183
                exact ih2 _ _ hs31
              · skip
                refine pc_rg ?_
                refine pc_if (fun _ => ?_) (fun _ => ?_)
                · skip
                  unfold m_x12_qPartTold_J139
                  refine pc_bn (fun s37 es37 => ?_)
                  have hs37 := hqr51.tr (nb_x12_qOpens _ es37)
                  unfold m_x12_qPartTold_J144
                  refine pc_bn (fun s31 es31 => ?_)
                  have hs31 := hs37.tr (nb_x12_asksSign _ es31)
                  unfold m_x12_qPartTold_J183
                  exact ih2 _ _ hs31
                · skip
                  unfold m_x12_qPartTold_J139
                  refine pc_bn (fun s37 es37 => ?_)
                  have hs37 := hqr51.tr (nb_x12_qOpens _ es37)
                  unfold m_x12_qPartTold_J144
                  refine pc_bn (fun s31 es31 => ?_)
                  have hs31 := hs37.tr (nb_x12_asksSign _ es31)
                  unfold m_x12_qPartTold_J183
                  exact ih2 _ _ hs31
            · skip
              unfold m_x12_qPartTold_J118
              refine pc_rg ?_
              refine pc_if (fun _ => ?_) (fun _ => ?_)
              · skip
                unfold m_x12_qPartTold_J144
                refine pc_bn (fun s31 es31 => ?_)
                have hs31 := hqr51.tr (nb_x12_asksSign _ es31)
                unfold m_x12_qPartTold_J183
                exact ih2 _ _ hs31
              · skip
                refine pc_rg ?_
                refine pc_if (fun _ => ?_) (fun _ => ?_)
                · skip
                  unfold m_x12_qPartTold_J139
                  refine pc_bn (fun s37 es37 => ?_)
                  have hs37 := hqr51.tr (nb_x12_qOpens _ es37)
                  unfold m_x12_qPartTold_J144
                  refine pc_bn (fun s31 es31 => ?_)
                  have hs31 := hs37.tr (nb_x12_asksSign _ es31)
                  unfold m_x12_qPartTold_J183
                  exact ih2 _ _ hs31
                · skip
                  unfold m_x12_qPartTold_J139
                  refine pc_bn (fun s37 es37 => ?_)
                  have hs37 := hqr51.tr (nb_x12_qOpens _ es37)
                  unfold m_x12_qPartTold_J144
                  refine pc_bn (fun s31 es31 => ?_)
                  have hs31 := hs37.tr (nb_x12_asksSign _ es31)
                  unfold m_x12_qPartTold_J183
                  exact ih2 _ _ hs31
    · skip
      unfold m_x12_qPartTold_J186
      refine pc_rg ?_
      refine pc_if (fun _ => ?_) (fun _ => ?_)
      · skip
        refine pc_bn (fun qr19 eqr19 => ?_)
        have hqr19 := hs25.tr (NBp.of (fr_x12_qWordOf eqr19) (by decide) (by decide))
        refine pc_rg ?_
        refine pc_if (fun _ => ?_) (fun _ => ?_)
        · skip
          unfold m_x12_qPartTold_J212
          refine pc_rg ?_
          refine pc_if (fun _ => ?_) (fun _ => ?_)
          · skip
            refine pc_bn (fun qr13 eqr13 => ?_)
            have hqr13 := hqr19.tr (nb_x12_number _ eqr13)
            unfold m_x12_qPartTold_J237
            refine pc_bn (fun s4 es4 => ?_)
            have hs4 := hqr13.tr (NBp.of (fr_x12_qCode es4) (by decide) (by decide))
            refine pc_bn (fun s6 es6 => ?_)
            have hs6 := hs4.tr (NBp.of (fr_x12_qEndsPart es6) (by decide) (by decide))
            exact pc_some hs6
          · skip
            unfold m_x12_qPartTold_J237
            refine pc_bn (fun s4 es4 => ?_)
            have hs4 := hqr19.tr (NBp.of (fr_x12_qCode es4) (by decide) (by decide))
            refine pc_bn (fun s6 es6 => ?_)
            have hs6 := hs4.tr (NBp.of (fr_x12_qEndsPart es6) (by decide) (by decide))
            exact pc_some hs6
        · skip
          refine pc_bn (fun s23 es23 => ?_)
          have hs23 := hqr19.tr (nb_x12_qAsksWord _ es23)
          unfold m_x12_qPartTold_J212
          refine pc_rg ?_
          refine pc_if (fun _ => ?_) (fun _ => ?_)
          · skip
            refine pc_bn (fun qr13 eqr13 => ?_)
            have hqr13 := hs23.tr (nb_x12_number _ eqr13)
            unfold m_x12_qPartTold_J237
            refine pc_bn (fun s4 es4 => ?_)
            have hs4 := hqr13.tr (NBp.of (fr_x12_qCode es4) (by decide) (by decide))
            refine pc_bn (fun s6 es6 => ?_)
            have hs6 := hs4.tr (NBp.of (fr_x12_qEndsPart es6) (by decide) (by decide))
            exact pc_some hs6
          · skip
            unfold m_x12_qPartTold_J237
            refine pc_bn (fun s4 es4 => ?_)
            have hs4 := hs23.tr (NBp.of (fr_x12_qCode es4) (by decide) (by decide))
            refine pc_bn (fun s6 es6 => ?_)
            have hs6 := hs4.tr (NBp.of (fr_x12_qEndsPart es6) (by decide) (by decide))
            exact pc_some hs6
      · skip
        exact pc_some hs25
set_option maxHeartbeats 1000000 in
theorem nb_x12_qPartTold {s : MS} : pc (m_x12_qPartTold s) (fun q => NBp s q) := by
  unfold m_x12_qPartTold
  exact nb_x12_qPartTold_L2 FU _ _ (NBp.rf s)
set_option maxHeartbeats 1000000 in
theorem nb_x12_qGoesOn_L247 {s : MS} : ∀ (n : Nat) (x12 : Int) (s13 : MS), NBp s s13 → pc (m_x12_qGoesOn_L247 n x12 s13) (fun q => NBp s q.2) := by
  refine fr_ind (fun _ _ _ => pc_none) (fun n247 ih247 x12 s13 hs13 => ?_)
  show pc (m_x12_qGoesOn_b247 (m_x12_qGoesOn_L247 n247) x12 s13) _
  unfold m_x12_qGoesOn_b247
  refine pc_bn (fun r19 er19 => ?_)
  refine pc_rg ?_
  refine pc_if (fun _ => ?_) (fun _ => ?_)
  · skip
    refine pc_bn (fun r23 er23 => ?_)
    refine pc_rg ?_
    refine pc_if (fun _ => ?_) (fun _ => ?_)
    · skip
      refine pc_bn (fun r27 er27 => ?_)
      refine pc_rg ?_
      refine pc_if (fun _ => ?_) (fun _ => ?_)
      · skip
        refine pc_bn (fun r31 er31 => ?_)
        refine pc_rg ?_
        refine pc_if (fun _ => ?_) (fun _ => ?_)
        · skip
          refine pc_inb ?_
          refine pc_stn (fun s35 es35 => ?_)
          have hs35 := hs13.tr (NBp.a es35)
          refine pc_stn (fun s36 es36 => ?_)
          have hs36 := hs35.tr (NBp.i es36 (by decide) (by decide))
          exact pc_some hs36
        · skip
          unfold m_x12_qGoesOn_J279
          refine pc_bn (fun s17 es17 => ?_)
          have hs17 := hs13.tr (NBp.of (fr_x12_qDrops es17) (by decide) (by decide))
          exact ih247 _ _ hs17
      · skip
        unfold m_x12_qGoesOn_J279
        refine pc_bn (fun s17 es17 => ?_)
        have hs17 := hs13.tr (NBp.of (fr_x12_qDrops es17) (by decide) (by decide))
        exact ih247 _ _ hs17
    · skip
      unfold m_x12_qGoesOn_J279
      refine pc_bn (fun s17 es17 => ?_)
      have hs17 := hs13.tr (NBp.of (fr_x12_qDrops es17) (by decide) (by decide))
      exact ih247 _ _ hs17
  · skip
    unfold m_x12_qGoesOn_J279
    refine pc_bn (fun s17 es17 => ?_)
    have hs17 := hs13.tr (NBp.of (fr_x12_qDrops es17) (by decide) (by decide))
    exact ih247 _ _ hs17
set_option maxHeartbeats 1000000 in
theorem nb_x12_qGoesOn_L162 {s : MS} : ∀ (n : Nat) (x43 : Int) (s44 : MS), NBp s s44 → pc (m_x12_qGoesOn_L162 n x43 s44) (fun q => NBp s q.2) := by
  refine fr_ind (fun _ _ _ => pc_none) (fun n162 ih162 x43 s44 hs44 => ?_)
  show pc (m_x12_qGoesOn_b162 (m_x12_qGoesOn_L162 n162) x43 s44) _
  unfold m_x12_qGoesOn_b162
  refine pc_bn (fun r50 er50 => ?_)
  refine pc_rg ?_
  refine pc_if (fun _ => ?_) (fun _ => ?_)
  · skip
    refine pc_bn (fun r54 er54 => ?_)
    refine pc_rg ?_
    refine pc_if (fun _ => ?_) (fun _ => ?_)
    · skip
      refine pc_inb ?_
      refine pc_stn (fun s58 es58 => ?_)
      have hs58 := hs44.tr (NBp.a es58)
      refine pc_stn (fun s59 es59 => ?_)
      have hs59 := hs58.tr (NBp.i es59 (by decide) (by decide))
      exact pc_some hs59
    · skip
      unfold m_x12_qGoesOn_J178
      refine pc_bn (fun s48 es48 => ?_)
      have hs48 := hs44.tr (NBp.of (fr_x12_qDrops es48) (by decide) (by decide))
      exact ih162 _ _ hs48
  · skip
    unfold m_x12_qGoesOn_J178
    refine pc_bn (fun s48 es48 => ?_)
    have hs48 := hs44.tr (NBp.of (fr_x12_qDrops es48) (by decide) (by decide))
    exact ih162 _ _ hs48
set_option maxHeartbeats 1000000 in
theorem nb_x12_qGoesOn_L0 {s : MS} : ∀ (n : Nat) (s103 : MS), NBp s s103 → pc (m_x12_qGoesOn_L0 n s103) (fun q => NBp s q.2) := by
  refine fr_ind (fun _ _ => pc_none) (fun n0 ih0 s103 hs103 => ?_)
  show pc (m_x12_qGoesOn_b0 (m_x12_qGoesOn_L0 n0) s103) _
  unfold m_x12_qGoesOn_b0
  refine pc_rg ?_
  refine pc_if (fun _ => ?_) (fun _ => ?_)
  · skip
    refine pc_bn (fun qr127 eqr127 => ?_)
    have hqr127 := hs103.tr (NBp.of (fr_x12_look eqr127) (by decide) (by decide))
    refine pc_rg ?_
    refine pc_if (fun _ => ?_) (fun _ => ?_)
    · skip
      refine pc_bn (fun r131 er131 => ?_)
      refine pc_rg ?_
      refine pc_if (fun _ => ?_) (fun _ => ?_)
      · skip
        unfold m_x12_qGoesOn_J43
        refine pc_stn (fun s112 es112 => ?_)
        have hs112 := hqr127.tr (NBp.i es112 (by decide) (by decide))
        refine pc_bn (fun s114 es114 => ?_)
        have hs114 := hs112.tr (NBp.of (fr_x12_qDropsToBracket es114) (by decide) (by decide))
        refine pc_stn (fun s115 es115 => ?_)
        have hs115 := hs114.tr (NBp.i es115 (by decide) (by decide))
        refine pc_stn (fun s116 es116 => ?_)
        have hs116 := hs115.tr (NBp.i es116 (by decide) (by decide))
        refine pc_rdI (fun _ => ?_)
        refine pc_rg ?_
        refine pc_if (fun _ => ?_) (fun _ => ?_)
        · skip
          unfold m_x12_qGoesOn_J115
          refine pc_bn (fun s106 es106 => ?_)
          have hs106 := hs116.tr (NBp.of (fr_x12_qEndsPart es106) (by decide) (by decide))
          exact ih0 _ hs106
        · skip
          refine pc_rdI (fun _ => ?_)
          refine pc_rg ?_
          refine pc_if (fun _ => ?_) (fun _ => ?_)
          · skip
            unfold m_x12_qGoesOn_J112
            refine pc_bn (fun s110 es110 => ?_)
            have hs110 := hs116.tr (NBp.of (fr_x12_qCode es110) (by decide) (by decide))
            unfold m_x12_qGoesOn_J115
            refine pc_bn (fun s106 es106 => ?_)
            have hs106 := hs110.tr (NBp.of (fr_x12_qEndsPart es106) (by decide) (by decide))
            exact ih0 _ hs106
          · skip
            unfold m_x12_qGoesOn_J112
            refine pc_bn (fun s110 es110 => ?_)
            have hs110 := hs116.tr (NBp.of (fr_x12_qCode es110) (by decide) (by decide))
            unfold m_x12_qGoesOn_J115
            refine pc_bn (fun s106 es106 => ?_)
            have hs106 := hs110.tr (NBp.of (fr_x12_qEndsPart es106) (by decide) (by decide))
            exact ih0 _ hs106
      · skip
        refine pc_bn (fun r135 er135 => ?_)
        refine pc_rg ?_
        refine pc_if (fun _ => ?_) (fun _ => ?_)
        · skip
          unfold m_x12_qGoesOn_J43
          refine pc_stn (fun s112 es112 => ?_)
          have hs112 := hqr127.tr (NBp.i es112 (by decide) (by decide))
          refine pc_bn (fun s114 es114 => ?_)
          have hs114 := hs112.tr (NBp.of (fr_x12_qDropsToBracket es114) (by decide) (by decide))
          refine pc_stn (fun s115 es115 => ?_)
          have hs115 := hs114.tr (NBp.i es115 (by decide) (by decide))
          refine pc_stn (fun s116 es116 => ?_)
          have hs116 := hs115.tr (NBp.i es116 (by decide) (by decide))
          refine pc_rdI (fun _ => ?_)
          refine pc_rg ?_
          refine pc_if (fun _ => ?_) (fun _ => ?_)
          · skip
            unfold m_x12_qGoesOn_J115
            refine pc_bn (fun s106 es106 => ?_)
            have hs106 := hs116.tr (NBp.of (fr_x12_qEndsPart es106) (by decide) (by decide))
            exact ih0 _ hs106
          · skip
            refine pc_rdI (fun _ => ?_)
            refine pc_rg ?_
            refine pc_if (fun _ => ?_) (fun _ => ?_)
            · skip
              unfold m_x12_qGoesOn_J112
              refine pc_bn (fun s110 es110 => ?_)
              have hs110 := hs116.tr (NBp.of (fr_x12_qCode es110) (by decide) (by decide))
              unfold m_x12_qGoesOn_J115
              refine pc_bn (fun s106 es106 => ?_)
              have hs106 := hs110.tr (NBp.of (fr_x12_qEndsPart es106) (by decide) (by decide))
              exact ih0 _ hs106
            · skip
              unfold m_x12_qGoesOn_J112
              refine pc_bn (fun s110 es110 => ?_)
              have hs110 := hs116.tr (NBp.of (fr_x12_qCode es110) (by decide) (by decide))
              unfold m_x12_qGoesOn_J115
              refine pc_bn (fun s106 es106 => ?_)
              have hs106 := hs110.tr (NBp.of (fr_x12_qEndsPart es106) (by decide) (by decide))
              exact ih0 _ hs106
        · skip
          refine pc_bn (fun r139 er139 => ?_)
          refine pc_rg ?_
          refine pc_if (fun _ => ?_) (fun _ => ?_)
          · skip
            unfold m_x12_qGoesOn_J43
            refine pc_stn (fun s112 es112 => ?_)
            have hs112 := hqr127.tr (NBp.i es112 (by decide) (by decide))
            refine pc_bn (fun s114 es114 => ?_)
            have hs114 := hs112.tr (NBp.of (fr_x12_qDropsToBracket es114) (by decide) (by decide))
            refine pc_stn (fun s115 es115 => ?_)
            have hs115 := hs114.tr (NBp.i es115 (by decide) (by decide))
            refine pc_stn (fun s116 es116 => ?_)
            have hs116 := hs115.tr (NBp.i es116 (by decide) (by decide))
            refine pc_rdI (fun _ => ?_)
            refine pc_rg ?_
            refine pc_if (fun _ => ?_) (fun _ => ?_)
            · skip
              unfold m_x12_qGoesOn_J115
              refine pc_bn (fun s106 es106 => ?_)
              have hs106 := hs116.tr (NBp.of (fr_x12_qEndsPart es106) (by decide) (by decide))
              exact ih0 _ hs106
            · skip
              refine pc_rdI (fun _ => ?_)
              refine pc_rg ?_
              refine pc_if (fun _ => ?_) (fun _ => ?_)
              · skip
                unfold m_x12_qGoesOn_J112
                refine pc_bn (fun s110 es110 => ?_)
                have hs110 := hs116.tr (NBp.of (fr_x12_qCode es110) (by decide) (by decide))
                unfold m_x12_qGoesOn_J115
                refine pc_bn (fun s106 es106 => ?_)
                have hs106 := hs110.tr (NBp.of (fr_x12_qEndsPart es106) (by decide) (by decide))
                exact ih0 _ hs106
              · skip
                unfold m_x12_qGoesOn_J112
                refine pc_bn (fun s110 es110 => ?_)
                have hs110 := hs116.tr (NBp.of (fr_x12_qCode es110) (by decide) (by decide))
                unfold m_x12_qGoesOn_J115
                refine pc_bn (fun s106 es106 => ?_)
                have hs106 := hs110.tr (NBp.of (fr_x12_qEndsPart es106) (by decide) (by decide))
                exact ih0 _ hs106
          · skip
            unfold m_x12_qGoesOn_J122
            refine pc_bn (fun qr69 eqr69 => ?_)
            have hqr69 := hqr127.tr (NBp.of (fr_x12_takesSign eqr69) (by decide) (by decide))
            refine pc_rg ?_
            refine pc_if (fun _ => ?_) (fun _ => ?_)
            · skip
              refine pc_bn (fun qr74 eqr74 => ?_)
              have hqr74 := hqr69.tr (NBp.of (fr_x12_takesSign eqr74) (by decide) (by decide))
              refine pc_rg ?_
              refine pc_if (fun _ => ?_) (fun _ => ?_)
              · skip
                refine pc_bn (fun qr79 eqr79 => ?_)
                have hqr79 := hqr74.tr (NBp.of (fr_x12_takesSign eqr79) (by decide) (by decide))
                refine pc_rg ?_
                refine pc_if (fun _ => ?_) (fun _ => ?_)
                · skip
                  refine pc_bn (fun qr84 eqr84 => ?_)
                  have hqr84 := hqr79.tr (NBp.of (fr_x12_takesSign eqr84) (by decide) (by decide))
                  refine pc_rg ?_
                  refine pc_if (fun _ => ?_) (fun _ => ?_)
                  · skip
                    refine pc_bn (fun r88 er88 => ?_)
                    refine pc_rg ?_
                    refine pc_if (fun _ => ?_) (fun _ => ?_)
                    · skip
                      unfold m_x12_qGoesOn_J326
                      refine pc_bn (fun s4 es4 => ?_)
                      have hs4 := hqr84.tr (nb_x12_asksSign _ es4)
                      refine pc_rg ?_
                      refine pc_if (fun _ => ?_) (fun _ => ?_)
                      · skip
                        refine pc_bn (fun s8 es8 => ?_)
                        have hs8 := hs4.tr (NBp.of (fr_x12_qDropsToBracket es8) (by decide) (by decide))
                        refine pc_rdI (fun _ => ?_)
                        refine pc_inb ?_
                        refine pc_stn (fun s11 es11 => ?_)
                        have hs11 := hs8.tr (NBp.a es11)
                        exact pc_some hs11
                      · skip
                        exact pc_some hs4
                    · skip
                      refine pc_bn (fun r92 er92 => ?_)
                      refine pc_rg ?_
                      refine pc_if (fun _ => ?_) (fun _ => ?_)
                      · skip
                        unfold m_x12_qGoesOn_J326
                        refine pc_bn (fun s4 es4 => ?_)
                        have hs4 := hqr84.tr (nb_x12_asksSign _ es4)
                        refine pc_rg ?_
                        refine pc_if (fun _ => ?_) (fun _ => ?_)
                        · skip
                          refine pc_bn (fun s8 es8 => ?_)
                          have hs8 := hs4.tr (NBp.of (fr_x12_qDropsToBracket es8) (by decide) (by decide))
                          refine pc_rdI (fun _ => ?_)
                          refine pc_inb ?_
                          refine pc_stn (fun s11 es11 => ?_)
                          have hs11 := hs8.tr (NBp.a es11)
                          exact pc_some hs11
                        · skip
                          exact pc_some hs4
                      · skip
                        refine pc_bn (fun r96 er96 => ?_)
                        refine pc_rg ?_
                        refine pc_if (fun _ => ?_) (fun _ => ?_)
                        · skip
                          unfold m_x12_qGoesOn_J386
                          exact pc_some hqr84
                        · skip
                          refine pc_rg ?_
                          refine pc_if (fun _ => ?_) (fun _ => ?_)
                          · skip
                            refine pc_bn (fun s102 es102 => ?_)
                            have hs102 := hqr84.tr (nb_x12_fail (by decide) _ es102)
                            unfold m_x12_qGoesOn_J386
                            exact pc_some hs102
                          · skip
                            unfold m_x12_qGoesOn_J386
                            exact pc_some hqr84
                  · skip
                    unfold m_x12_qGoesOn_J225
                    refine pc_rdI (fun _ => ?_)
                    refine pc_rg ?_
                    refine pc_if (fun _ => ?_) (fun _ => ?_)
                    · skip
                      unfold m_x12_qGoesOn_J246
                      exact nb_x12_qGoesOn_L247 FU _ _ hqr84
                    · skip
                      unfold m_x12_qGoesOn_J246
                      exact nb_x12_qGoesOn_L247 FU _ _ hqr84
                · skip
                  unfold m_x12_qGoesOn_J225
                  refine pc_rdI (fun _ => ?_)
                  refine pc_rg ?_
                  refine pc_if (fun _ => ?_) (fun _ => ?_)
                  · skip
                    unfold m_x12_qGoesOn_J246
                    exact nb_x12_qGoesOn_L247 FU _ _ hqr79
                  · skip
                    unfold m_x12_qGoesOn_J246
                    exact nb_x12_qGoesOn_L247 FU _ _ hqr79
              · skip
                unfold m_x12_qGoesOn_J140
                refine pc_rdI (fun _ => ?_)
                refine pc_rg ?_
                refine pc_if (fun _ => ?_) (fun _ => ?_)
                · skip
                  unfold m_x12_qGoesOn_J161
                  exact nb_x12_qGoesOn_L162 FU _ _ hqr74
                · skip
                  unfold m_x12_qGoesOn_J161
                  exact nb_x12_qGoesOn_L162 FU _ _ hqr74
            · skip
              unfold m_x12_qGoesOn_J140
              refine pc_rdI (fun _ => ?_)
              refine pc_rg ?_
              refine pc_if (fun _ => ?_) (fun _ => ?_)
              · skip
                unfold m_x12_qGoesOn_J161
                exact nb_x12_qGoesOn_L162 FU _ _ hqr69
              · skip
                unfold m_x12_qGoesOn_J161
                exact nb_x12_qGoesOn_L162 FU _ _ hqr69
    · skip
      unfold m_x12_qGoesOn_J122
      refine pc_bn (fun qr69 eqr69 => ?_)
      have hqr69 := hqr127.tr (NBp.of (fr_x12_takesSign eqr69) (by decide) (by decide))
      refine pc_rg ?_
      refine pc_if (fun _ => ?_) (fun _ => ?_)
      · skip
        refine pc_bn (fun qr74 eqr74 => ?_)
        have hqr74 := hqr69.tr (NBp.of (fr_x12_takesSign eqr74) (by decide) (by decide))
        refine pc_rg ?_
        refine pc_if (fun _ => ?_) (fun _ => ?_)
        · skip
          refine pc_bn (fun qr79 eqr79 => ?_)
          have hqr79 := hqr74.tr (NBp.of (fr_x12_takesSign eqr79) (by decide) (by decide))
          refine pc_rg ?_
          refine pc_if (fun _ => ?_) (fun _ => ?_)
          · skip
            refine pc_bn (fun qr84 eqr84 => ?_)
            have hqr84 := hqr79.tr (NBp.of (fr_x12_takesSign eqr84) (by decide) (by decide))
            refine pc_rg ?_
            refine pc_if (fun _ => ?_) (fun _ => ?_)
            · skip
              refine pc_bn (fun r88 er88 => ?_)
              refine pc_rg ?_
              refine pc_if (fun _ => ?_) (fun _ => ?_)
              · skip
                unfold m_x12_qGoesOn_J326
                refine pc_bn (fun s4 es4 => ?_)
                have hs4 := hqr84.tr (nb_x12_asksSign _ es4)
                refine pc_rg ?_
                refine pc_if (fun _ => ?_) (fun _ => ?_)
                · skip
                  refine pc_bn (fun s8 es8 => ?_)
                  have hs8 := hs4.tr (NBp.of (fr_x12_qDropsToBracket es8) (by decide) (by decide))
                  refine pc_rdI (fun _ => ?_)
                  refine pc_inb ?_
                  refine pc_stn (fun s11 es11 => ?_)
                  have hs11 := hs8.tr (NBp.a es11)
                  exact pc_some hs11
                · skip
                  exact pc_some hs4
              · skip
                refine pc_bn (fun r92 er92 => ?_)
                refine pc_rg ?_
                refine pc_if (fun _ => ?_) (fun _ => ?_)
                · skip
                  unfold m_x12_qGoesOn_J326
                  refine pc_bn (fun s4 es4 => ?_)
                  have hs4 := hqr84.tr (nb_x12_asksSign _ es4)
                  refine pc_rg ?_
                  refine pc_if (fun _ => ?_) (fun _ => ?_)
                  · skip
                    refine pc_bn (fun s8 es8 => ?_)
                    have hs8 := hs4.tr (NBp.of (fr_x12_qDropsToBracket es8) (by decide) (by decide))
                    refine pc_rdI (fun _ => ?_)
                    refine pc_inb ?_
                    refine pc_stn (fun s11 es11 => ?_)
                    have hs11 := hs8.tr (NBp.a es11)
                    exact pc_some hs11
                  · skip
                    exact pc_some hs4
                · skip
                  refine pc_bn (fun r96 er96 => ?_)
                  refine pc_rg ?_
                  refine pc_if (fun _ => ?_) (fun _ => ?_)
                  · skip
                    unfold m_x12_qGoesOn_J386
                    exact pc_some hqr84
                  · skip
                    refine pc_rg ?_
                    refine pc_if (fun _ => ?_) (fun _ => ?_)
                    · skip
                      refine pc_bn (fun s102 es102 => ?_)
                      have hs102 := hqr84.tr (nb_x12_fail (by decide) _ es102)
                      unfold m_x12_qGoesOn_J386
                      exact pc_some hs102
                    · skip
                      unfold m_x12_qGoesOn_J386
                      exact pc_some hqr84
            · skip
              unfold m_x12_qGoesOn_J225
              refine pc_rdI (fun _ => ?_)
              refine pc_rg ?_
              refine pc_if (fun _ => ?_) (fun _ => ?_)
              · skip
                unfold m_x12_qGoesOn_J246
                exact nb_x12_qGoesOn_L247 FU _ _ hqr84
              · skip
                unfold m_x12_qGoesOn_J246
                exact nb_x12_qGoesOn_L247 FU _ _ hqr84
          · skip
            unfold m_x12_qGoesOn_J225
            refine pc_rdI (fun _ => ?_)
            refine pc_rg ?_
            refine pc_if (fun _ => ?_) (fun _ => ?_)
            · skip
              unfold m_x12_qGoesOn_J246
              exact nb_x12_qGoesOn_L247 FU _ _ hqr79
            · skip
              unfold m_x12_qGoesOn_J246
              exact nb_x12_qGoesOn_L247 FU _ _ hqr79
        · skip
          unfold m_x12_qGoesOn_J140
          refine pc_rdI (fun _ => ?_)
          refine pc_rg ?_
          refine pc_if (fun _ => ?_) (fun _ => ?_)
          · skip
            unfold m_x12_qGoesOn_J161
            exact nb_x12_qGoesOn_L162 FU _ _ hqr74
          · skip
            unfold m_x12_qGoesOn_J161
            exact nb_x12_qGoesOn_L162 FU _ _ hqr74
      · skip
        unfold m_x12_qGoesOn_J140
        refine pc_rdI (fun _ => ?_)
        refine pc_rg ?_
        refine pc_if (fun _ => ?_) (fun _ => ?_)
        · skip
          unfold m_x12_qGoesOn_J161
          exact nb_x12_qGoesOn_L162 FU _ _ hqr69
        · skip
          unfold m_x12_qGoesOn_J161
          exact nb_x12_qGoesOn_L162 FU _ _ hqr69
  · skip
    unfold m_x12_qGoesOn_J122
    refine pc_bn (fun qr69 eqr69 => ?_)
    have hqr69 := hs103.tr (NBp.of (fr_x12_takesSign eqr69) (by decide) (by decide))
    refine pc_rg ?_
    refine pc_if (fun _ => ?_) (fun _ => ?_)
    · skip
      refine pc_bn (fun qr74 eqr74 => ?_)
      have hqr74 := hqr69.tr (NBp.of (fr_x12_takesSign eqr74) (by decide) (by decide))
      refine pc_rg ?_
      refine pc_if (fun _ => ?_) (fun _ => ?_)
      · skip
        refine pc_bn (fun qr79 eqr79 => ?_)
        have hqr79 := hqr74.tr (NBp.of (fr_x12_takesSign eqr79) (by decide) (by decide))
        refine pc_rg ?_
        refine pc_if (fun _ => ?_) (fun _ => ?_)
        · skip
          refine pc_bn (fun qr84 eqr84 => ?_)
          have hqr84 := hqr79.tr (NBp.of (fr_x12_takesSign eqr84) (by decide) (by decide))
          refine pc_rg ?_
          refine pc_if (fun _ => ?_) (fun _ => ?_)
          · skip
            refine pc_bn (fun r88 er88 => ?_)
            refine pc_rg ?_
            refine pc_if (fun _ => ?_) (fun _ => ?_)
            · skip
              unfold m_x12_qGoesOn_J326
              refine pc_bn (fun s4 es4 => ?_)
              have hs4 := hqr84.tr (nb_x12_asksSign _ es4)
              refine pc_rg ?_
              refine pc_if (fun _ => ?_) (fun _ => ?_)
              · skip
                refine pc_bn (fun s8 es8 => ?_)
                have hs8 := hs4.tr (NBp.of (fr_x12_qDropsToBracket es8) (by decide) (by decide))
                refine pc_rdI (fun _ => ?_)
                refine pc_inb ?_
                refine pc_stn (fun s11 es11 => ?_)
                have hs11 := hs8.tr (NBp.a es11)
                exact pc_some hs11
              · skip
                exact pc_some hs4
            · skip
              refine pc_bn (fun r92 er92 => ?_)
              refine pc_rg ?_
              refine pc_if (fun _ => ?_) (fun _ => ?_)
              · skip
                unfold m_x12_qGoesOn_J326
                refine pc_bn (fun s4 es4 => ?_)
                have hs4 := hqr84.tr (nb_x12_asksSign _ es4)
                refine pc_rg ?_
                refine pc_if (fun _ => ?_) (fun _ => ?_)
                · skip
                  refine pc_bn (fun s8 es8 => ?_)
                  have hs8 := hs4.tr (NBp.of (fr_x12_qDropsToBracket es8) (by decide) (by decide))
                  refine pc_rdI (fun _ => ?_)
                  refine pc_inb ?_
                  refine pc_stn (fun s11 es11 => ?_)
                  have hs11 := hs8.tr (NBp.a es11)
                  exact pc_some hs11
                · skip
                  exact pc_some hs4
              · skip
                refine pc_bn (fun r96 er96 => ?_)
                refine pc_rg ?_
                refine pc_if (fun _ => ?_) (fun _ => ?_)
                · skip
                  unfold m_x12_qGoesOn_J386
                  exact pc_some hqr84
                · skip
                  refine pc_rg ?_
                  refine pc_if (fun _ => ?_) (fun _ => ?_)
                  · skip
                    refine pc_bn (fun s102 es102 => ?_)
                    have hs102 := hqr84.tr (nb_x12_fail (by decide) _ es102)
                    unfold m_x12_qGoesOn_J386
                    exact pc_some hs102
                  · skip
                    unfold m_x12_qGoesOn_J386
                    exact pc_some hqr84
          · skip
            unfold m_x12_qGoesOn_J225
            refine pc_rdI (fun _ => ?_)
            refine pc_rg ?_
            refine pc_if (fun _ => ?_) (fun _ => ?_)
            · skip
              unfold m_x12_qGoesOn_J246
              exact nb_x12_qGoesOn_L247 FU _ _ hqr84
            · skip
              unfold m_x12_qGoesOn_J246
              exact nb_x12_qGoesOn_L247 FU _ _ hqr84
        · skip
          unfold m_x12_qGoesOn_J225
          refine pc_rdI (fun _ => ?_)
          refine pc_rg ?_
          refine pc_if (fun _ => ?_) (fun _ => ?_)
          · skip
            unfold m_x12_qGoesOn_J246
            exact nb_x12_qGoesOn_L247 FU _ _ hqr79
          · skip
            unfold m_x12_qGoesOn_J246
            exact nb_x12_qGoesOn_L247 FU _ _ hqr79
      · skip
        unfold m_x12_qGoesOn_J140
        refine pc_rdI (fun _ => ?_)
        refine pc_rg ?_
        refine pc_if (fun _ => ?_) (fun _ => ?_)
        · skip
          unfold m_x12_qGoesOn_J161
          exact nb_x12_qGoesOn_L162 FU _ _ hqr74
        · skip
          unfold m_x12_qGoesOn_J161
          exact nb_x12_qGoesOn_L162 FU _ _ hqr74
    · skip
      unfold m_x12_qGoesOn_J140
      refine pc_rdI (fun _ => ?_)
      refine pc_rg ?_
      refine pc_if (fun _ => ?_) (fun _ => ?_)
      · skip
        unfold m_x12_qGoesOn_J161
        exact nb_x12_qGoesOn_L162 FU _ _ hqr69
      · skip
        unfold m_x12_qGoesOn_J161
        exact nb_x12_qGoesOn_L162 FU _ _ hqr69
set_option maxHeartbeats 1000000 in
theorem nb_x12_qGoesOn {s : MS} : pc (m_x12_qGoesOn s) (fun q => NBp s q.2) := by
  unfold m_x12_qGoesOn
  exact nb_x12_qGoesOn_L0 FU _ (NBp.rf s)
set_option maxHeartbeats 1000000 in
theorem nb_x12_qSums_L53 {s : MS} : ∀ (n : Nat) (x4 : Int) (s5 : MS), NBp s s5 → pc (m_x12_qSums_L53 n x4 s5) (fun q => NBp s q) := by
  refine fr_ind (fun _ _ _ => pc_none) (fun n53 ih53 x4 s5 hs5 => ?_)
  show pc (m_x12_qSums_b53 (m_x12_qSums_L53 n53) x4 s5) _
  unfold m_x12_qSums_b53
  refine pc_rg ?_
  refine pc_if (fun _ => ?_) (fun _ => ?_)
  · skip
    refine pc_rg ?_
    refine pc_rg ?_
    refine pc_if (fun _ => ?_) (fun _ => ?_)
    · skip
      unfold m_x12_qSums_J78
      refine pc_stn (fun s3 es3 => ?_)
      have hs3 := hs5.tr (NBp.i es3 (by decide) (by decide))
      exact pc_some hs3
    · skip
      refine pc_bn (fun s12 es12 => ?_)
      have hs12 := hs5.tr (NBp.of (fr_x12_qDrops es12) (by decide) (by decide))
      exact ih53 _ _ hs12
  · skip
    unfold m_x12_qSums_J78
    refine pc_stn (fun s3 es3 => ?_)
    have hs3 := hs5.tr (NBp.i es3 (by decide) (by decide))
    exact pc_some hs3
set_option maxHeartbeats 1000000 in
theorem nb_x12_qSums_L15 {s : MS} : ∀ (n : Nat) (x13 : Int) (x14 : Int) (s15 : MS), NBp s s15 → pc (m_x12_qSums_L15 n x13 x14 s15) (fun q => NBp s q) := by
  refine fr_ind (fun _ _ _ _ => pc_none) (fun n15 ih15 x13 x14 s15 hs15 => ?_)
  show pc (m_x12_qSums_b15 (m_x12_qSums_L15 n15) x13 x14 s15) _
  unfold m_x12_qSums_b15
  refine pc_rg ?_
  refine pc_if (fun _ => ?_) (fun _ => ?_)
  · skip
    exact nb_x12_qSums_L53 FU _ _ hs15
  · skip
    refine pc_rg ?_
    refine pc_if (fun _ => ?_) (fun _ => ?_)
    · skip
      refine pc_bn (fun s26 es26 => ?_)
      have hs26 := hs15.tr (nb_x12_qPartTold _ es26)
      refine pc_rg ?_
      refine pc_if (fun _ => ?_) (fun _ => ?_)
      · skip
        refine pc_bn (fun qr31 eqr31 => ?_)
        have hqr31 := hs26.tr (nb_x12_qGoesOn _ eqr31)
        refine pc_rg ?_
        refine pc_if (fun _ => ?_) (fun _ => ?_)
        · skip
          unfold m_x12_qSums_J48
          unfold m_x12_qSums_J49
          exact ih15 _ _ _ hqr31
        · skip
          unfold m_x12_qSums_J49
          exact ih15 _ _ _ hqr31
      · skip
        unfold m_x12_qSums_J48
        unfold m_x12_qSums_J49
        exact ih15 _ _ _ hs26
    · skip
      exact nb_x12_qSums_L53 FU _ _ hs15
set_option maxHeartbeats 1000000 in
theorem nb_x12_qSums {s : MS} : pc (m_x12_qSums s) (fun q => NBp s q) := by
  unfold m_x12_qSums
  refine pc_stn (fun s34 es34 => ?_)
  have hs34 := (NBp.rf s).tr (NBp.i es34 (by decide) (by decide))
  exact nb_x12_qSums_L15 FU _ _ _ hs34
set_option maxHeartbeats 1000000 in
theorem nb_x12_qFact {s : MS} : pc (m_x12_qFact s) (fun q => NBp s q) := by
  unfold m_x12_qFact
  refine pc_bn (fun qr16 eqr16 => ?_)
  have hqr16 := (NBp.rf s).tr (NBp.of (fr_x12_takes eqr16) (by decide) (by decide))
  refine pc_rg ?_
  refine pc_if (fun _ => ?_) (fun _ => ?_)
  · skip
    refine pc_bn (fun s20 es20 => ?_)
    have hs20 := hqr16.tr (nb_x12_qSums _ es20)
    refine pc_rg ?_
    refine pc_if (fun _ => ?_) (fun _ => ?_)
    · skip
      refine pc_bn (fun qr25 eqr25 => ?_)
      have hqr25 := hs20.tr (NBp.of (fr_x12_look eqr25) (by decide) (by decide))
      refine pc_rg ?_
      refine pc_if (fun _ => ?_) (fun _ => ?_)
      · skip
        unfold m_x12_qFact_J63
        refine pc_stn (fun s7 es7 => ?_)
        have hs7 := hqr25.tr (NBp.i es7 (by decide) (by decide))
        refine pc_bn (fun s9 es9 => ?_)
        have hs9 := hs7.tr (nb_x12_qSums _ es9)
        refine pc_rg ?_
        refine pc_if (fun _ => ?_) (fun _ => ?_)
        · skip
          unfold m_x12_qFact_J102
          refine pc_bn (fun s4 es4 => ?_)
          have hs4 := hs9.tr (NBp.of (fr_x12_qCode es4) (by decide) (by decide))
          exact pc_some hs4
        · skip
          refine pc_rg ?_
          refine pc_if (fun _ => ?_) (fun _ => ?_)
          · skip
            unfold m_x12_qFact_J102
            refine pc_bn (fun s4 es4 => ?_)
            have hs4 := hs9.tr (NBp.of (fr_x12_qCode es4) (by decide) (by decide))
            exact pc_some hs4
          · skip
            unfold m_x12_qFact_J102
            refine pc_bn (fun s4 es4 => ?_)
            have hs4 := hs9.tr (NBp.of (fr_x12_qCode es4) (by decide) (by decide))
            exact pc_some hs4
      · skip
        refine pc_rg ?_
        refine pc_if (fun _ => ?_) (fun _ => ?_)
        · skip
          unfold m_x12_qFact_J63
          refine pc_stn (fun s7 es7 => ?_)
          have hs7 := hqr25.tr (NBp.i es7 (by decide) (by decide))
          refine pc_bn (fun s9 es9 => ?_)
          have hs9 := hs7.tr (nb_x12_qSums _ es9)
          refine pc_rg ?_
          refine pc_if (fun _ => ?_) (fun _ => ?_)
          · skip
            unfold m_x12_qFact_J102
            refine pc_bn (fun s4 es4 => ?_)
            have hs4 := hs9.tr (NBp.of (fr_x12_qCode es4) (by decide) (by decide))
            exact pc_some hs4
          · skip
            refine pc_rg ?_
            refine pc_if (fun _ => ?_) (fun _ => ?_)
            · skip
              unfold m_x12_qFact_J102
              refine pc_bn (fun s4 es4 => ?_)
              have hs4 := hs9.tr (NBp.of (fr_x12_qCode es4) (by decide) (by decide))
              exact pc_some hs4
            · skip
              unfold m_x12_qFact_J102
              refine pc_bn (fun s4 es4 => ?_)
              have hs4 := hs9.tr (NBp.of (fr_x12_qCode es4) (by decide) (by decide))
              exact pc_some hs4
        · skip
          refine pc_rg ?_
          refine pc_if (fun _ => ?_) (fun _ => ?_)
          · skip
            unfold m_x12_qFact_J63
            refine pc_stn (fun s7 es7 => ?_)
            have hs7 := hqr25.tr (NBp.i es7 (by decide) (by decide))
            refine pc_bn (fun s9 es9 => ?_)
            have hs9 := hs7.tr (nb_x12_qSums _ es9)
            refine pc_rg ?_
            refine pc_if (fun _ => ?_) (fun _ => ?_)
            · skip
              unfold m_x12_qFact_J102
              refine pc_bn (fun s4 es4 => ?_)
              have hs4 := hs9.tr (NBp.of (fr_x12_qCode es4) (by decide) (by decide))
              exact pc_some hs4
            · skip
              refine pc_rg ?_
              refine pc_if (fun _ => ?_) (fun _ => ?_)
              · skip
                unfold m_x12_qFact_J102
                refine pc_bn (fun s4 es4 => ?_)
                have hs4 := hs9.tr (NBp.of (fr_x12_qCode es4) (by decide) (by decide))
                exact pc_some hs4
              · skip
                unfold m_x12_qFact_J102
                refine pc_bn (fun s4 es4 => ?_)
                have hs4 := hs9.tr (NBp.of (fr_x12_qCode es4) (by decide) (by decide))
                exact pc_some hs4
          · skip
            refine pc_bn (fun s33 es33 => ?_)
            have hs33 := hqr25.tr (nb_x12_fail (by decide) _ es33)
            exact pc_some hs33
    · skip
      exact pc_some hs20
  · skip
    refine pc_bn (fun s35 es35 => ?_)
    have hs35 := hqr16.tr (NBp.of (fr_x12_qCode es35) (by decide) (by decide))
    exact pc_some hs35
set_option maxHeartbeats 1000000 in
theorem nb_x12_qGoesOnTest_L137 {s : MS} : ∀ (n : Nat) (s2 : MS), NBp s s2 → pc (m_x12_qGoesOnTest_L137 n s2) (fun q => NBp s q.2) := by
  refine fr_ind (fun _ _ => pc_none) (fun n137 ih137 s2 hs2 => ?_)
  show pc (m_x12_qGoesOnTest_b137 (m_x12_qGoesOnTest_L137 n137) s2) _
  unfold m_x12_qGoesOnTest_b137
  refine pc_bn (fun r7 er7 => ?_)
  refine pc_rg ?_
  refine pc_if (fun _ => ?_) (fun _ => ?_)
  · skip
    refine pc_bn (fun r11 er11 => ?_)
    refine pc_rg ?_
    refine pc_if (fun _ => ?_) (fun _ => ?_)
    · skip
      refine pc_inb ?_
      refine pc_stn (fun s15 es15 => ?_)
      have hs15 := hs2.tr (NBp.a es15)
      refine pc_stn (fun s16 es16 => ?_)
      have hs16 := hs15.tr (NBp.i es16 (by decide) (by decide))
      exact pc_some hs16
    · skip
      unfold m_x12_qGoesOnTest_J155
      refine pc_bn (fun s5 es5 => ?_)
      have hs5 := hs2.tr (NBp.of (fr_x12_qDrops es5) (by decide) (by decide))
      exact ih137 _ hs5
  · skip
    unfold m_x12_qGoesOnTest_J155
    refine pc_bn (fun s5 es5 => ?_)
    have hs5 := hs2.tr (NBp.of (fr_x12_qDrops es5) (by decide) (by decide))
    exact ih137 _ hs5
set_option maxHeartbeats 1000000 in
theorem nb_x12_qGoesOnTest_L87 {s : MS} : ∀ (n : Nat) (s17 : MS), NBp s s17 → pc (m_x12_qGoesOnTest_L87 n s17) (fun q => NBp s q.2) := by
  refine fr_ind (fun _ _ => pc_none) (fun n87 ih87 s17 hs17 => ?_)
  show pc (m_x12_qGoesOnTest_b87 (m_x12_qGoesOnTest_L87 n87) s17) _
  unfold m_x12_qGoesOnTest_b87
  refine pc_bn (fun r19 er19 => ?_)
  refine pc_rg ?_
  refine pc_if (fun _ => ?_) (fun _ => ?_)
  · skip
    refine pc_inb ?_
    refine pc_stn (fun s23 es23 => ?_)
    have hs23 := hs17.tr (NBp.a es23)
    refine pc_stn (fun s24 es24 => ?_)
    have hs24 := hs23.tr (NBp.i es24 (by decide) (by decide))
    exact pc_some hs24
  · skip
    refine pc_bn (fun s26 es26 => ?_)
    have hs26 := hs17.tr (NBp.of (fr_x12_qDrops es26) (by decide) (by decide))
    exact ih87 _ hs26
set_option maxHeartbeats 1000000 in
theorem nb_x12_qGoesOnTest_L0 {s : MS} : ∀ (n : Nat) (s46 : MS), NBp s s46 → pc (m_x12_qGoesOnTest_L0 n s46) (fun q => NBp s q.2) := by
  refine fr_ind (fun _ _ => pc_none) (fun n0 ih0 s46 hs46 => ?_)
  show pc (m_x12_qGoesOnTest_b0 (m_x12_qGoesOnTest_L0 n0) s46) _
  unfold m_x12_qGoesOnTest_b0
  refine pc_rg ?_
  refine pc_if (fun _ => ?_) (fun _ => ?_)
  · skip
    refine pc_bn (fun qr62 eqr62 => ?_)
    have hqr62 := hs46.tr (NBp.of (fr_x12_look eqr62) (by decide) (by decide))
    refine pc_rg ?_
    refine pc_if (fun _ => ?_) (fun _ => ?_)
    · skip
      refine pc_bn (fun r66 er66 => ?_)
      refine pc_rg ?_
      refine pc_if (fun _ => ?_) (fun _ => ?_)
      · skip
        unfold m_x12_qGoesOnTest_J76
        refine pc_bn (fun qr30 eqr30 => ?_)
        have hqr30 := hqr62.tr (NBp.of (fr_x12_takes eqr30) (by decide) (by decide))
        refine pc_rg ?_
        refine pc_if (fun _ => ?_) (fun _ => ?_)
        · skip
          refine pc_bn (fun qr35 eqr35 => ?_)
          have hqr35 := hqr30.tr (NBp.of (fr_x12_takes eqr35) (by decide) (by decide))
          refine pc_rg ?_
          refine pc_if (fun _ => ?_) (fun _ => ?_)
          · skip
            refine pc_rg ?_
            refine pc_if (fun _ => ?_) (fun _ => ?_)
            · skip
              refine pc_bn (fun r41 er41 => ?_)
              refine pc_rg ?_
              refine pc_if (fun _ => ?_) (fun _ => ?_)
              · skip
                unfold m_x12_qGoesOnTest_J208
                exact pc_some hqr35
              · skip
                refine pc_bn (fun s45 es45 => ?_)
                have hs45 := hqr35.tr (nb_x12_fail (by decide) _ es45)
                unfold m_x12_qGoesOnTest_J208
                exact pc_some hs45
            · skip
              unfold m_x12_qGoesOnTest_J208
              exact pc_some hqr35
          · skip
            exact nb_x12_qGoesOnTest_L137 FU _ hqr35
        · skip
          exact nb_x12_qGoesOnTest_L87 FU _ hqr30
      · skip
        refine pc_stn (fun s69 es69 => ?_)
        have hs69 := hqr62.tr (NBp.i es69 (by decide) (by decide))
        have L33 : ∀ (n : Nat) (s47 : MS), NBp s s47 → pc (m_x12_qGoesOnTest_L33 (m_x12_qGoesOnTest_L0 n0) n s47) (fun q => NBp s q.2) := by
          refine fr_ind (fun _ _ => pc_none) (fun n33 ih33 s47 hs47 => ?_)
          show pc (m_x12_qGoesOnTest_b33 (m_x12_qGoesOnTest_L0 n0) (m_x12_qGoesOnTest_L33 (m_x12_qGoesOnTest_L0 n0) n33) s47) _
          unfold m_x12_qGoesOnTest_b33
          refine pc_bn (fun r49 er49 => ?_)
          refine pc_rg ?_
          refine pc_if (fun _ => ?_) (fun _ => ?_)
          · skip
            refine pc_bn (fun s57 es57 => ?_)
            have hs57 := hs47.tr (NBp.of (fr_x12_qDrops es57) (by decide) (by decide))
            exact ih33 _ hs57
          · skip
            refine pc_stn (fun s52 es52 => ?_)
            have hs52 := hs47.tr (NBp.i es52 (by decide) (by decide))
            refine pc_stn (fun s53 es53 => ?_)
            have hs53 := hs52.tr (NBp.i es53 (by decide) (by decide))
            refine pc_bn (fun s55 es55 => ?_)
            have hs55 := hs53.tr (NBp.of (fr_x12_qDropsNots es55) (by decide) (by decide))
            exact ih0 _ hs55
        exact L33 FU _ hs69
    · skip
      unfold m_x12_qGoesOnTest_J76
      refine pc_bn (fun qr30 eqr30 => ?_)
      have hqr30 := hqr62.tr (NBp.of (fr_x12_takes eqr30) (by decide) (by decide))
      refine pc_rg ?_
      refine pc_if (fun _ => ?_) (fun _ => ?_)
      · skip
        refine pc_bn (fun qr35 eqr35 => ?_)
        have hqr35 := hqr30.tr (NBp.of (fr_x12_takes eqr35) (by decide) (by decide))
        refine pc_rg ?_
        refine pc_if (fun _ => ?_) (fun _ => ?_)
        · skip
          refine pc_rg ?_
          refine pc_if (fun _ => ?_) (fun _ => ?_)
          · skip
            refine pc_bn (fun r41 er41 => ?_)
            refine pc_rg ?_
            refine pc_if (fun _ => ?_) (fun _ => ?_)
            · skip
              unfold m_x12_qGoesOnTest_J208
              exact pc_some hqr35
            · skip
              refine pc_bn (fun s45 es45 => ?_)
              have hs45 := hqr35.tr (nb_x12_fail (by decide) _ es45)
              unfold m_x12_qGoesOnTest_J208
              exact pc_some hs45
          · skip
            unfold m_x12_qGoesOnTest_J208
            exact pc_some hqr35
        · skip
          exact nb_x12_qGoesOnTest_L137 FU _ hqr35
      · skip
        exact nb_x12_qGoesOnTest_L87 FU _ hqr30
  · skip
    unfold m_x12_qGoesOnTest_J76
    refine pc_bn (fun qr30 eqr30 => ?_)
    have hqr30 := hs46.tr (NBp.of (fr_x12_takes eqr30) (by decide) (by decide))
    refine pc_rg ?_
    refine pc_if (fun _ => ?_) (fun _ => ?_)
    · skip
      refine pc_bn (fun qr35 eqr35 => ?_)
      have hqr35 := hqr30.tr (NBp.of (fr_x12_takes eqr35) (by decide) (by decide))
      refine pc_rg ?_
      refine pc_if (fun _ => ?_) (fun _ => ?_)
      · skip
        refine pc_rg ?_
        refine pc_if (fun _ => ?_) (fun _ => ?_)
        · skip
          refine pc_bn (fun r41 er41 => ?_)
          refine pc_rg ?_
          refine pc_if (fun _ => ?_) (fun _ => ?_)
          · skip
            unfold m_x12_qGoesOnTest_J208
            exact pc_some hqr35
          · skip
            refine pc_bn (fun s45 es45 => ?_)
            have hs45 := hqr35.tr (nb_x12_fail (by decide) _ es45)
            unfold m_x12_qGoesOnTest_J208
            exact pc_some hs45
        · skip
          unfold m_x12_qGoesOnTest_J208
          exact pc_some hqr35
      · skip
        exact nb_x12_qGoesOnTest_L137 FU _ hqr35
    · skip
      exact nb_x12_qGoesOnTest_L87 FU _ hqr30
set_option maxHeartbeats 1000000 in
theorem nb_x12_qGoesOnTest {s : MS} : pc (m_x12_qGoesOnTest s) (fun q => NBp s q.2) := by
  unfold m_x12_qGoesOnTest
  exact nb_x12_qGoesOnTest_L0 FU _ (NBp.rf s)
set_option maxHeartbeats 1000000 in
theorem nb_x12_qTest_L110 {s : MS} : ∀ (n : Nat) (s2 : MS), NBp s s2 → pc (m_x12_qTest_L110 n s2) (fun q => NBp s q) := by
  refine fr_ind (fun _ _ => pc_none) (fun n110 ih110 s2 hs2 => ?_)
  show pc (m_x12_qTest_b110 (m_x12_qTest_L110 n110) s2) _
  unfold m_x12_qTest_b110
  refine pc_rg ?_
  refine pc_if (fun _ => ?_) (fun _ => ?_)
  · skip
    refine pc_rg ?_
    refine pc_if (fun _ => ?_) (fun _ => ?_)
    · skip
      unfold m_x12_qTest_J131
      exact pc_some hs2
    · skip
      refine pc_bn (fun s8 es8 => ?_)
      have hs8 := hs2.tr (NBp.of (fr_x12_qDrops es8) (by decide) (by decide))
      exact ih110 _ hs8
  · skip
    unfold m_x12_qTest_J131
    exact pc_some hs2
set_option maxHeartbeats 1000000 in
theorem nb_x12_qTest_L2 {s : MS} : ∀ (n : Nat) (x9 : Int) (s10 : MS), NBp s s10 → pc (m_x12_qTest_L2 n x9 s10) (fun q => NBp s q) := by
  refine fr_ind (fun _ _ _ => pc_none) (fun n2 ih2 x9 s10 hs10 => ?_)
  show pc (m_x12_qTest_b2 (m_x12_qTest_L2 n2) x9 s10) _
  unfold m_x12_qTest_b2
  refine pc_rg ?_
  refine pc_if (fun _ => ?_) (fun _ => ?_)
  · skip
    exact nb_x12_qTest_L110 FU _ hs10
  · skip
    refine pc_rg ?_
    refine pc_if (fun _ => ?_) (fun _ => ?_)
    · skip
      refine pc_bn (fun qr20 eqr20 => ?_)
      have hqr20 := hs10.tr (NBp.of (fr_x12_look eqr20) (by decide) (by decide))
      refine pc_rg ?_
      refine pc_if (fun _ => ?_) (fun _ => ?_)
      · skip
        refine pc_bn (fun s44 es44 => ?_)
        have hs44 := hqr20.tr (nb_x12_qOpens _ es44)
        refine pc_stn (fun s45 es45 => ?_)
        have hs45 := hs44.tr (NBp.i es45 (by decide) (by decide))
        exact ih2 _ _ hs45
      · skip
        refine pc_bn (fun qr25 eqr25 => ?_)
        have hqr25 := hqr20.tr (NBp.of (fr_x12_isHere eqr25) (by decide) (by decide))
        refine pc_rg ?_
        refine pc_if (fun _ => ?_) (fun _ => ?_)
        · skip
          refine pc_bn (fun s29 es29 => ?_)
          have hs29 := hqr25.tr (nb_x12_qFact _ es29)
          refine pc_bn (fun s31 es31 => ?_)
          have hs31 := hs29.tr (NBp.of (fr_x12_qDropsNots es31) (by decide) (by decide))
          refine pc_rg ?_
          refine pc_if (fun _ => ?_) (fun _ => ?_)
          · skip
            refine pc_bn (fun qr36 eqr36 => ?_)
            have hqr36 := hs31.tr (nb_x12_qGoesOnTest _ eqr36)
            refine pc_rg ?_
            refine pc_if (fun _ => ?_) (fun _ => ?_)
            · skip
              unfold m_x12_qTest_J105
              unfold m_x12_qTest_J106
              exact ih2 _ _ hqr36
            · skip
              unfold m_x12_qTest_J106
              exact ih2 _ _ hqr36
          · skip
            unfold m_x12_qTest_J105
            unfold m_x12_qTest_J106
            exact ih2 _ _ hs31
        · skip
          refine pc_bn (fun s40 es40 => ?_)
          have hs40 := hqr25.tr (nb_x12_qOpens _ es40)
          refine pc_bn (fun s42 es42 => ?_)
          have hs42 := hs40.tr (nb_x12_asks _ es42)
          exact ih2 _ _ hs42
    · skip
      exact nb_x12_qTest_L110 FU _ hs10
set_option maxHeartbeats 1000000 in
theorem nb_x12_qTest {s : MS} : pc (m_x12_qTest s) (fun q => NBp s q) := by
  unfold m_x12_qTest
  exact nb_x12_qTest_L2 FU _ _ (NBp.rf s)
set_option maxHeartbeats 1000000 in
theorem nb_x12_storeTold {s : MS} : pc (m_x12_storeTold s) (fun q => NBp s q) := by
  unfold m_x12_storeTold
  refine pc_bn (fun s2 es2 => ?_)
  have hs2 := (NBp.rf s).tr (nb_x12_asks _ es2)
  refine pc_bn (fun qr5 eqr5 => ?_)
  have hqr5 := hs2.tr (nb_x12_number _ eqr5)
  refine pc_inb ?_
  refine pc_stn (fun s7 es7 => ?_)
  have hs7 := hqr5.tr (NBp.a es7)
  refine pc_bn (fun s9 es9 => ?_)
  have hs9 := hs7.tr (nb_x12_asks _ es9)
  refine pc_bn (fun qr12 eqr12 => ?_)
  have hqr12 := hs9.tr (nb_x12_number _ eqr12)
  refine pc_inb ?_
  refine pc_stn (fun s14 es14 => ?_)
  have hs14 := hqr12.tr (NBp.a es14)
  refine pc_bn (fun s16 es16 => ?_)
  have hs16 := hs14.tr (nb_x12_asksSign _ es16)
  exact pc_some hs16
set_option maxHeartbeats 1000000 in
theorem nb_x12_newName_L7 {s : MS} : ∀ (n : Nat) (z1 : Int) (x2 : Int) (s3 : MS), NBp s s3 → pc (m_x12_newName_L7 n z1 x2 s3) (fun q => NBp s q.2) := by
  refine fr_ind (fun _ _ _ _ => pc_none) (fun n7 ih7 z1 x2 s3 hs3 => ?_)
  show pc (m_x12_newName_b7 (m_x12_newName_L7 n7) z1 x2 s3) _
  unfold m_x12_newName_b7
  refine pc_rdI (fun _ => ?_)
  refine pc_rg ?_
  refine pc_rg ?_
  refine pc_if (fun _ => ?_) (fun _ => ?_)
  · skip
    exact pc_some hs3
  · skip
    refine pc_rg ?_
    refine pc_if (fun _ => ?_) (fun _ => ?_)
    · skip
      refine pc_rdL ?_
      refine pc_rgL ?_
      refine pc_rgL ?_
      refine pc_if (fun _ => ?_) (fun _ => ?_)
      · skip
        refine pc_bn (fun s18 es18 => ?_)
        have hs18 := hs3.tr (nb_x12_fail (by decide) _ es18)
        unfold m_x12_newName_J44
        exact ih7 _ _ _ hs18
      · skip
        unfold m_x12_newName_J44
        exact ih7 _ _ _ hs3
    · skip
      unfold m_x12_newName_J44
      exact ih7 _ _ _ hs3
set_option maxHeartbeats 1000000 in
theorem nb_x12_newName {s : MS} : pc (m_x12_newName s) (fun q => NBp s q.2) := by
  unfold m_x12_newName
  refine pc_bn (fun qrl21 eqrl21 => ?_)
  have hqrl21 := (NBp.rf s).tr (nb_x12_name _ eqrl21)
  exact nb_x12_newName_L7 FU _ _ _ hqrl21
set_option maxHeartbeats 1000000 in
theorem nb_x12_volumeNamed_L7 {s : MS} : ∀ (n : Nat) (z2 : Int) (x3 : Int) (s4 : MS), NBp s s4 → pc (m_x12_volumeNamed_L7 n z2 x3 s4) (fun q => NBp s q.2) := by
  refine fr_ind (fun _ _ _ _ => pc_none) (fun n7 ih7 z2 x3 s4 hs4 => ?_)
  show pc (m_x12_volumeNamed_b7 (m_x12_volumeNamed_L7 n7) z2 x3 s4) _
  unfold m_x12_volumeNamed_b7
  refine pc_rdI (fun _ => ?_)
  refine pc_rg ?_
  refine pc_rg ?_
  refine pc_if (fun _ => ?_) (fun _ => ?_)
  · skip
    refine pc_rg ?_
    refine pc_if (fun _ => ?_) (fun _ => ?_)
    · skip
      refine pc_bn (fun s12 es12 => ?_)
      have hs12 := hs4.tr (nb_x12_fail (by decide) _ es12)
      unfold m_x12_volumeNamed_J52
      exact pc_some hs12
    · skip
      unfold m_x12_volumeNamed_J52
      exact pc_some hs4
  · skip
    refine pc_rdL ?_
    refine pc_rgL ?_
    refine pc_rgL ?_
    refine pc_if (fun _ => ?_) (fun _ => ?_)
    · skip
      exact pc_some hs4
    · skip
      exact ih7 _ _ _ hs4
set_option maxHeartbeats 1000000 in
theorem nb_x12_volumeNamed {s : MS} : pc (m_x12_volumeNamed s) (fun q => NBp s q.2) := by
  unfold m_x12_volumeNamed
  refine pc_bn (fun qrl19 eqrl19 => ?_)
  have hqrl19 := (NBp.rf s).tr (nb_x12_name _ eqrl19)
  exact nb_x12_volumeNamed_L7 FU _ _ _ hqrl19
set_option maxHeartbeats 1000000 in
theorem nb_x12_volumeTold {p0 : Int} {p1 : Int} {s : MS} : pc (m_x12_volumeTold p0 p1 s) (fun q => NBp s q) := by
  unfold m_x12_volumeTold
  refine pc_rg ?_
  refine pc_if (fun _ => ?_) (fun _ => ?_)
  · skip
    refine pc_rdI (fun _ => ?_)
    refine pc_rg ?_
    refine pc_if (fun _ => ?_) (fun _ => ?_)
    · skip
      refine pc_bn (fun s48 es48 => ?_)
      have hs48 := (NBp.rf s).tr (nb_x12_fail (by decide) _ es48)
      unfold m_x12_volumeTold_J24
      refine pc_bn (fun qrl34 eqrl34 => ?_)
      have hqrl34 := hs48.tr (nb_x12_newName _ eqrl34)
      refine pc_rg ?_
      refine pc_if (fun _ => ?_) (fun _ => ?_)
      · skip
        unfold m_x12_volumeTold_J50
        refine pc_rg ?_
        refine pc_if (fun _ => ?_) (fun _ => ?_)
        · skip
          refine pc_rg ?_
          refine pc_if (fun _ => ?_) (fun _ => ?_)
          · skip
            unfold m_x12_volumeTold_J68
            refine pc_rg ?_
            refine pc_if (fun _ => ?_) (fun _ => ?_)
            · skip
              refine pc_rdI (fun _ => ?_)
              unfold m_x12_volumeTold_J83
              refine pc_rdI (fun _ => ?_)
              refine pc_bn (fun s7 es7 => ?_)
              have hs7 := hqrl34.tr (NBp.of (fr_x12_actTold es7) (by decide) (by decide))
              refine pc_rdI (fun _ => ?_)
              refine pc_inb ?_
              refine pc_stn (fun s10 es10 => ?_)
              have hs10 := hs7.tr (NBp.b es10)
              refine pc_rdI (fun _ => ?_)
              refine pc_inb ?_
              refine pc_stn (fun s13 es13 => ?_)
              have hs13 := hs10.tr (NBp.a es13)
              exact pc_some hs13
            · skip
              unfold m_x12_volumeTold_J83
              refine pc_rdI (fun _ => ?_)
              refine pc_bn (fun s7 es7 => ?_)
              have hs7 := hqrl34.tr (NBp.of (fr_x12_actTold es7) (by decide) (by decide))
              refine pc_rdI (fun _ => ?_)
              refine pc_inb ?_
              refine pc_stn (fun s10 es10 => ?_)
              have hs10 := hs7.tr (NBp.b es10)
              refine pc_rdI (fun _ => ?_)
              refine pc_inb ?_
              refine pc_stn (fun s13 es13 => ?_)
              have hs13 := hs10.tr (NBp.a es13)
              exact pc_some hs13
          · skip
            unfold m_x12_volumeTold_J68
            refine pc_rg ?_
            refine pc_if (fun _ => ?_) (fun _ => ?_)
            · skip
              refine pc_rdI (fun _ => ?_)
              unfold m_x12_volumeTold_J83
              refine pc_rdI (fun _ => ?_)
              refine pc_bn (fun s7 es7 => ?_)
              have hs7 := hqrl34.tr (NBp.of (fr_x12_actTold es7) (by decide) (by decide))
              refine pc_rdI (fun _ => ?_)
              refine pc_inb ?_
              refine pc_stn (fun s10 es10 => ?_)
              have hs10 := hs7.tr (NBp.b es10)
              refine pc_rdI (fun _ => ?_)
              refine pc_inb ?_
              refine pc_stn (fun s13 es13 => ?_)
              have hs13 := hs10.tr (NBp.a es13)
              exact pc_some hs13
            · skip
              unfold m_x12_volumeTold_J83
              refine pc_rdI (fun _ => ?_)
              refine pc_bn (fun s7 es7 => ?_)
              have hs7 := hqrl34.tr (NBp.of (fr_x12_actTold es7) (by decide) (by decide))
              refine pc_rdI (fun _ => ?_)
              refine pc_inb ?_
              refine pc_stn (fun s10 es10 => ?_)
              have hs10 := hs7.tr (NBp.b es10)
              refine pc_rdI (fun _ => ?_)
              refine pc_inb ?_
              refine pc_stn (fun s13 es13 => ?_)
              have hs13 := hs10.tr (NBp.a es13)
              exact pc_some hs13
        · skip
          exact pc_some hqrl34
      · skip
        refine pc_bn (fun s38 es38 => ?_)
        have hs38 := hqrl34.tr (nb_x12_asks _ es38)
        refine pc_bn (fun qr41 eqr41 => ?_)
        have hqr41 := hs38.tr (nb_x12_volumeNamed _ eqr41)
        unfold m_x12_volumeTold_J50
        refine pc_rg ?_
        refine pc_if (fun _ => ?_) (fun _ => ?_)
        · skip
          refine pc_rg ?_
          refine pc_if (fun _ => ?_) (fun _ => ?_)
          · skip
            unfold m_x12_volumeTold_J68
            refine pc_rg ?_
            refine pc_if (fun _ => ?_) (fun _ => ?_)
            · skip
              refine pc_rdI (fun _ => ?_)
              unfold m_x12_volumeTold_J83
              refine pc_rdI (fun _ => ?_)
              refine pc_bn (fun s7 es7 => ?_)
              have hs7 := hqr41.tr (NBp.of (fr_x12_actTold es7) (by decide) (by decide))
              refine pc_rdI (fun _ => ?_)
              refine pc_inb ?_
              refine pc_stn (fun s10 es10 => ?_)
              have hs10 := hs7.tr (NBp.b es10)
              refine pc_rdI (fun _ => ?_)
              refine pc_inb ?_
              refine pc_stn (fun s13 es13 => ?_)
              have hs13 := hs10.tr (NBp.a es13)
              exact pc_some hs13
            · skip
              unfold m_x12_volumeTold_J83
              refine pc_rdI (fun _ => ?_)
              refine pc_bn (fun s7 es7 => ?_)
              have hs7 := hqr41.tr (NBp.of (fr_x12_actTold es7) (by decide) (by decide))
              refine pc_rdI (fun _ => ?_)
              refine pc_inb ?_
              refine pc_stn (fun s10 es10 => ?_)
              have hs10 := hs7.tr (NBp.b es10)
              refine pc_rdI (fun _ => ?_)
              refine pc_inb ?_
              refine pc_stn (fun s13 es13 => ?_)
              have hs13 := hs10.tr (NBp.a es13)
              exact pc_some hs13
          · skip
            unfold m_x12_volumeTold_J68
            refine pc_rg ?_
            refine pc_if (fun _ => ?_) (fun _ => ?_)
            · skip
              refine pc_rdI (fun _ => ?_)
              unfold m_x12_volumeTold_J83
              refine pc_rdI (fun _ => ?_)
              refine pc_bn (fun s7 es7 => ?_)
              have hs7 := hqr41.tr (NBp.of (fr_x12_actTold es7) (by decide) (by decide))
              refine pc_rdI (fun _ => ?_)
              refine pc_inb ?_
              refine pc_stn (fun s10 es10 => ?_)
              have hs10 := hs7.tr (NBp.b es10)
              refine pc_rdI (fun _ => ?_)
              refine pc_inb ?_
              refine pc_stn (fun s13 es13 => ?_)
              have hs13 := hs10.tr (NBp.a es13)
              exact pc_some hs13
            · skip
              unfold m_x12_volumeTold_J83
              refine pc_rdI (fun _ => ?_)
              refine pc_bn (fun s7 es7 => ?_)
              have hs7 := hqr41.tr (NBp.of (fr_x12_actTold es7) (by decide) (by decide))
              refine pc_rdI (fun _ => ?_)
              refine pc_inb ?_
              refine pc_stn (fun s10 es10 => ?_)
              have hs10 := hs7.tr (NBp.b es10)
              refine pc_rdI (fun _ => ?_)
              refine pc_inb ?_
              refine pc_stn (fun s13 es13 => ?_)
              have hs13 := hs10.tr (NBp.a es13)
              exact pc_some hs13
        · skip
          exact pc_some hqr41
    · skip
      unfold m_x12_volumeTold_J24
      refine pc_bn (fun qrl34 eqrl34 => ?_)
      have hqrl34 := (NBp.rf s).tr (nb_x12_newName _ eqrl34)
      refine pc_rg ?_
      refine pc_if (fun _ => ?_) (fun _ => ?_)
      · skip
        unfold m_x12_volumeTold_J50
        refine pc_rg ?_
        refine pc_if (fun _ => ?_) (fun _ => ?_)
        · skip
          refine pc_rg ?_
          refine pc_if (fun _ => ?_) (fun _ => ?_)
          · skip
            unfold m_x12_volumeTold_J68
            refine pc_rg ?_
            refine pc_if (fun _ => ?_) (fun _ => ?_)
            · skip
              refine pc_rdI (fun _ => ?_)
              unfold m_x12_volumeTold_J83
              refine pc_rdI (fun _ => ?_)
              refine pc_bn (fun s7 es7 => ?_)
              have hs7 := hqrl34.tr (NBp.of (fr_x12_actTold es7) (by decide) (by decide))
              refine pc_rdI (fun _ => ?_)
              refine pc_inb ?_
              refine pc_stn (fun s10 es10 => ?_)
              have hs10 := hs7.tr (NBp.b es10)
              refine pc_rdI (fun _ => ?_)
              refine pc_inb ?_
              refine pc_stn (fun s13 es13 => ?_)
              have hs13 := hs10.tr (NBp.a es13)
              exact pc_some hs13
            · skip
              unfold m_x12_volumeTold_J83
              refine pc_rdI (fun _ => ?_)
              refine pc_bn (fun s7 es7 => ?_)
              have hs7 := hqrl34.tr (NBp.of (fr_x12_actTold es7) (by decide) (by decide))
              refine pc_rdI (fun _ => ?_)
              refine pc_inb ?_
              refine pc_stn (fun s10 es10 => ?_)
              have hs10 := hs7.tr (NBp.b es10)
              refine pc_rdI (fun _ => ?_)
              refine pc_inb ?_
              refine pc_stn (fun s13 es13 => ?_)
              have hs13 := hs10.tr (NBp.a es13)
              exact pc_some hs13
          · skip
            unfold m_x12_volumeTold_J68
            refine pc_rg ?_
            refine pc_if (fun _ => ?_) (fun _ => ?_)
            · skip
              refine pc_rdI (fun _ => ?_)
              unfold m_x12_volumeTold_J83
              refine pc_rdI (fun _ => ?_)
              refine pc_bn (fun s7 es7 => ?_)
              have hs7 := hqrl34.tr (NBp.of (fr_x12_actTold es7) (by decide) (by decide))
              refine pc_rdI (fun _ => ?_)
              refine pc_inb ?_
              refine pc_stn (fun s10 es10 => ?_)
              have hs10 := hs7.tr (NBp.b es10)
              refine pc_rdI (fun _ => ?_)
              refine pc_inb ?_
              refine pc_stn (fun s13 es13 => ?_)
              have hs13 := hs10.tr (NBp.a es13)
              exact pc_some hs13
            · skip
              unfold m_x12_volumeTold_J83
              refine pc_rdI (fun _ => ?_)
              refine pc_bn (fun s7 es7 => ?_)
              have hs7 := hqrl34.tr (NBp.of (fr_x12_actTold es7) (by decide) (by decide))
              refine pc_rdI (fun _ => ?_)
              refine pc_inb ?_
              refine pc_stn (fun s10 es10 => ?_)
              have hs10 := hs7.tr (NBp.b es10)
              refine pc_rdI (fun _ => ?_)
              refine pc_inb ?_
              refine pc_stn (fun s13 es13 => ?_)
              have hs13 := hs10.tr (NBp.a es13)
              exact pc_some hs13
        · skip
          exact pc_some hqrl34
      · skip
        refine pc_bn (fun s38 es38 => ?_)
        have hs38 := hqrl34.tr (nb_x12_asks _ es38)
        refine pc_bn (fun qr41 eqr41 => ?_)
        have hqr41 := hs38.tr (nb_x12_volumeNamed _ eqr41)
        unfold m_x12_volumeTold_J50
        refine pc_rg ?_
        refine pc_if (fun _ => ?_) (fun _ => ?_)
        · skip
          refine pc_rg ?_
          refine pc_if (fun _ => ?_) (fun _ => ?_)
          · skip
            unfold m_x12_volumeTold_J68
            refine pc_rg ?_
            refine pc_if (fun _ => ?_) (fun _ => ?_)
            · skip
              refine pc_rdI (fun _ => ?_)
              unfold m_x12_volumeTold_J83
              refine pc_rdI (fun _ => ?_)
              refine pc_bn (fun s7 es7 => ?_)
              have hs7 := hqr41.tr (NBp.of (fr_x12_actTold es7) (by decide) (by decide))
              refine pc_rdI (fun _ => ?_)
              refine pc_inb ?_
              refine pc_stn (fun s10 es10 => ?_)
              have hs10 := hs7.tr (NBp.b es10)
              refine pc_rdI (fun _ => ?_)
              refine pc_inb ?_
              refine pc_stn (fun s13 es13 => ?_)
              have hs13 := hs10.tr (NBp.a es13)
              exact pc_some hs13
            · skip
              unfold m_x12_volumeTold_J83
              refine pc_rdI (fun _ => ?_)
              refine pc_bn (fun s7 es7 => ?_)
              have hs7 := hqr41.tr (NBp.of (fr_x12_actTold es7) (by decide) (by decide))
              refine pc_rdI (fun _ => ?_)
              refine pc_inb ?_
              refine pc_stn (fun s10 es10 => ?_)
              have hs10 := hs7.tr (NBp.b es10)
              refine pc_rdI (fun _ => ?_)
              refine pc_inb ?_
              refine pc_stn (fun s13 es13 => ?_)
              have hs13 := hs10.tr (NBp.a es13)
              exact pc_some hs13
          · skip
            unfold m_x12_volumeTold_J68
            refine pc_rg ?_
            refine pc_if (fun _ => ?_) (fun _ => ?_)
            · skip
              refine pc_rdI (fun _ => ?_)
              unfold m_x12_volumeTold_J83
              refine pc_rdI (fun _ => ?_)
              refine pc_bn (fun s7 es7 => ?_)
              have hs7 := hqr41.tr (NBp.of (fr_x12_actTold es7) (by decide) (by decide))
              refine pc_rdI (fun _ => ?_)
              refine pc_inb ?_
              refine pc_stn (fun s10 es10 => ?_)
              have hs10 := hs7.tr (NBp.b es10)
              refine pc_rdI (fun _ => ?_)
              refine pc_inb ?_
              refine pc_stn (fun s13 es13 => ?_)
              have hs13 := hs10.tr (NBp.a es13)
              exact pc_some hs13
            · skip
              unfold m_x12_volumeTold_J83
              refine pc_rdI (fun _ => ?_)
              refine pc_bn (fun s7 es7 => ?_)
              have hs7 := hqr41.tr (NBp.of (fr_x12_actTold es7) (by decide) (by decide))
              refine pc_rdI (fun _ => ?_)
              refine pc_inb ?_
              refine pc_stn (fun s10 es10 => ?_)
              have hs10 := hs7.tr (NBp.b es10)
              refine pc_rdI (fun _ => ?_)
              refine pc_inb ?_
              refine pc_stn (fun s13 es13 => ?_)
              have hs13 := hs10.tr (NBp.a es13)
              exact pc_some hs13
        · skip
          exact pc_some hqr41
  · skip
    unfold m_x12_volumeTold_J24
    refine pc_bn (fun qrl34 eqrl34 => ?_)
    have hqrl34 := (NBp.rf s).tr (nb_x12_newName _ eqrl34)
    refine pc_rg ?_
    refine pc_if (fun _ => ?_) (fun _ => ?_)
    · skip
      unfold m_x12_volumeTold_J50
      refine pc_rg ?_
      refine pc_if (fun _ => ?_) (fun _ => ?_)
      · skip
        refine pc_rg ?_
        refine pc_if (fun _ => ?_) (fun _ => ?_)
        · skip
          unfold m_x12_volumeTold_J68
          refine pc_rg ?_
          refine pc_if (fun _ => ?_) (fun _ => ?_)
          · skip
            refine pc_rdI (fun _ => ?_)
            unfold m_x12_volumeTold_J83
            refine pc_rdI (fun _ => ?_)
            refine pc_bn (fun s7 es7 => ?_)
            have hs7 := hqrl34.tr (NBp.of (fr_x12_actTold es7) (by decide) (by decide))
            refine pc_rdI (fun _ => ?_)
            refine pc_inb ?_
            refine pc_stn (fun s10 es10 => ?_)
            have hs10 := hs7.tr (NBp.b es10)
            refine pc_rdI (fun _ => ?_)
            refine pc_inb ?_
            refine pc_stn (fun s13 es13 => ?_)
            have hs13 := hs10.tr (NBp.a es13)
            exact pc_some hs13
          · skip
            unfold m_x12_volumeTold_J83
            refine pc_rdI (fun _ => ?_)
            refine pc_bn (fun s7 es7 => ?_)
            have hs7 := hqrl34.tr (NBp.of (fr_x12_actTold es7) (by decide) (by decide))
            refine pc_rdI (fun _ => ?_)
            refine pc_inb ?_
            refine pc_stn (fun s10 es10 => ?_)
            have hs10 := hs7.tr (NBp.b es10)
            refine pc_rdI (fun _ => ?_)
            refine pc_inb ?_
            refine pc_stn (fun s13 es13 => ?_)
            have hs13 := hs10.tr (NBp.a es13)
            exact pc_some hs13
        · skip
          unfold m_x12_volumeTold_J68
          refine pc_rg ?_
          refine pc_if (fun _ => ?_) (fun _ => ?_)
          · skip
            refine pc_rdI (fun _ => ?_)
            unfold m_x12_volumeTold_J83
            refine pc_rdI (fun _ => ?_)
            refine pc_bn (fun s7 es7 => ?_)
            have hs7 := hqrl34.tr (NBp.of (fr_x12_actTold es7) (by decide) (by decide))
            refine pc_rdI (fun _ => ?_)
            refine pc_inb ?_
            refine pc_stn (fun s10 es10 => ?_)
            have hs10 := hs7.tr (NBp.b es10)
            refine pc_rdI (fun _ => ?_)
            refine pc_inb ?_
            refine pc_stn (fun s13 es13 => ?_)
            have hs13 := hs10.tr (NBp.a es13)
            exact pc_some hs13
          · skip
            unfold m_x12_volumeTold_J83
            refine pc_rdI (fun _ => ?_)
            refine pc_bn (fun s7 es7 => ?_)
            have hs7 := hqrl34.tr (NBp.of (fr_x12_actTold es7) (by decide) (by decide))
            refine pc_rdI (fun _ => ?_)
            refine pc_inb ?_
            refine pc_stn (fun s10 es10 => ?_)
            have hs10 := hs7.tr (NBp.b es10)
            refine pc_rdI (fun _ => ?_)
            refine pc_inb ?_
            refine pc_stn (fun s13 es13 => ?_)
            have hs13 := hs10.tr (NBp.a es13)
            exact pc_some hs13
      · skip
        exact pc_some hqrl34
    · skip
      refine pc_bn (fun s38 es38 => ?_)
      have hs38 := hqrl34.tr (nb_x12_asks _ es38)
      refine pc_bn (fun qr41 eqr41 => ?_)
      have hqr41 := hs38.tr (nb_x12_volumeNamed _ eqr41)
      unfold m_x12_volumeTold_J50
      refine pc_rg ?_
      refine pc_if (fun _ => ?_) (fun _ => ?_)
      · skip
        refine pc_rg ?_
        refine pc_if (fun _ => ?_) (fun _ => ?_)
        · skip
          unfold m_x12_volumeTold_J68
          refine pc_rg ?_
          refine pc_if (fun _ => ?_) (fun _ => ?_)
          · skip
            refine pc_rdI (fun _ => ?_)
            unfold m_x12_volumeTold_J83
            refine pc_rdI (fun _ => ?_)
            refine pc_bn (fun s7 es7 => ?_)
            have hs7 := hqr41.tr (NBp.of (fr_x12_actTold es7) (by decide) (by decide))
            refine pc_rdI (fun _ => ?_)
            refine pc_inb ?_
            refine pc_stn (fun s10 es10 => ?_)
            have hs10 := hs7.tr (NBp.b es10)
            refine pc_rdI (fun _ => ?_)
            refine pc_inb ?_
            refine pc_stn (fun s13 es13 => ?_)
            have hs13 := hs10.tr (NBp.a es13)
            exact pc_some hs13
          · skip
            unfold m_x12_volumeTold_J83
            refine pc_rdI (fun _ => ?_)
            refine pc_bn (fun s7 es7 => ?_)
            have hs7 := hqr41.tr (NBp.of (fr_x12_actTold es7) (by decide) (by decide))
            refine pc_rdI (fun _ => ?_)
            refine pc_inb ?_
            refine pc_stn (fun s10 es10 => ?_)
            have hs10 := hs7.tr (NBp.b es10)
            refine pc_rdI (fun _ => ?_)
            refine pc_inb ?_
            refine pc_stn (fun s13 es13 => ?_)
            have hs13 := hs10.tr (NBp.a es13)
            exact pc_some hs13
        · skip
          unfold m_x12_volumeTold_J68
          refine pc_rg ?_
          refine pc_if (fun _ => ?_) (fun _ => ?_)
          · skip
            refine pc_rdI (fun _ => ?_)
            unfold m_x12_volumeTold_J83
            refine pc_rdI (fun _ => ?_)
            refine pc_bn (fun s7 es7 => ?_)
            have hs7 := hqr41.tr (NBp.of (fr_x12_actTold es7) (by decide) (by decide))
            refine pc_rdI (fun _ => ?_)
            refine pc_inb ?_
            refine pc_stn (fun s10 es10 => ?_)
            have hs10 := hs7.tr (NBp.b es10)
            refine pc_rdI (fun _ => ?_)
            refine pc_inb ?_
            refine pc_stn (fun s13 es13 => ?_)
            have hs13 := hs10.tr (NBp.a es13)
            exact pc_some hs13
          · skip
            unfold m_x12_volumeTold_J83
            refine pc_rdI (fun _ => ?_)
            refine pc_bn (fun s7 es7 => ?_)
            have hs7 := hqr41.tr (NBp.of (fr_x12_actTold es7) (by decide) (by decide))
            refine pc_rdI (fun _ => ?_)
            refine pc_inb ?_
            refine pc_stn (fun s10 es10 => ?_)
            have hs10 := hs7.tr (NBp.b es10)
            refine pc_rdI (fun _ => ?_)
            refine pc_inb ?_
            refine pc_stn (fun s13 es13 => ?_)
            have hs13 := hs10.tr (NBp.a es13)
            exact pc_some hs13
      · skip
        exact pc_some hqr41
set_option maxHeartbeats 1000000 in
theorem nb_x12_putTold {s : MS} : pc (m_x12_putTold s) (fun q => NBp s q) := by
  unfold m_x12_putTold
  refine pc_bn (fun qr3 eqr3 => ?_)
  have hqr3 := (NBp.rf s).tr (nb_x12_volumeNamed _ eqr3)
  refine pc_bn (fun qr6 eqr6 => ?_)
  have hqr6 := hqr3.tr (nb_x12_number _ eqr6)
  refine pc_bn (fun qr9 eqr9 => ?_)
  have hqr9 := hqr6.tr (nb_x12_number _ eqr9)
  refine pc_bn (fun s11 es11 => ?_)
  have hs11 := hqr9.tr (NBp.of (fr_x12_actTold es11) (by decide) (by decide))
  exact pc_some hs11
set_option maxHeartbeats 1000000 in
theorem nb_x12_removeTold {s : MS} : pc (m_x12_removeTold s) (fun q => NBp s q) := by
  unfold m_x12_removeTold
  refine pc_bn (fun qr3 eqr3 => ?_)
  have hqr3 := (NBp.rf s).tr (nb_x12_volumeNamed _ eqr3)
  refine pc_bn (fun qr6 eqr6 => ?_)
  have hqr6 := hqr3.tr (nb_x12_number _ eqr6)
  refine pc_bn (fun s8 es8 => ?_)
  have hs8 := hqr6.tr (NBp.of (fr_x12_actTold es8) (by decide) (by decide))
  exact pc_some hs8
set_option maxHeartbeats 1000000 in
theorem nb_x12_codesTold_L92 {s : MS} : ∀ (n : Nat) (x1 : Int) (x2 : Int) (s3 : MS), NBp s s3 → pc (m_x12_codesTold_L92 n x1 x2 s3) (fun q => NBp s q) := by
  refine fr_ind (fun _ _ _ _ => pc_none) (fun n92 ih92 x1 x2 s3 hs3 => ?_)
  show pc (m_x12_codesTold_b92 (m_x12_codesTold_L92 n92) x1 x2 s3) _
  unfold m_x12_codesTold_b92
  refine pc_rg ?_
  refine pc_rg ?_
  refine pc_if (fun _ => ?_) (fun _ => ?_)
  · skip
    refine pc_inb ?_
    refine pc_stn (fun s8 es8 => ?_)
    have hs8 := hs3.tr (NBp.a es8)
    exact pc_some hs8
  · skip
    refine pc_rdI (fun _ => ?_)
    refine pc_inb ?_
    refine pc_stn (fun s11 es11 => ?_)
    have hs11 := hs3.tr (NBp.a es11)
    refine pc_stn (fun s12 es12 => ?_)
    have hs12 := hs11.tr (NBp.i es12 (by decide) (by decide))
    exact ih92 _ _ _ hs12
set_option maxHeartbeats 1000000 in
theorem nb_x12_codesTold {p0 : Int} {p1 : Int} {s : MS} : pc (m_x12_codesTold p0 p1 s) (fun q => NBp s q) := by
  unfold m_x12_codesTold
  refine pc_rg ?_
  refine pc_if (fun _ => ?_) (fun _ => ?_)
  · skip
    refine pc_rdI (fun _ => ?_)
    refine pc_rg ?_
    refine pc_if (fun _ => ?_) (fun _ => ?_)
    · skip
      unfold m_x12_codesTold_J23
      refine pc_rg ?_
      refine pc_if (fun _ => ?_) (fun _ => ?_)
      · skip
        refine pc_stn (fun s23 es23 => ?_)
        have hs23 := (NBp.rf s).tr (NBp.i es23 (by decide) (by decide))
        refine pc_stn (fun s24 es24 => ?_)
        have hs24 := hs23.tr (NBp.i es24 (by decide) (by decide))
        refine pc_stn (fun s25 es25 => ?_)
        have hs25 := hs24.tr (NBp.i es25 (by decide) (by decide))
        refine pc_stn (fun s26 es26 => ?_)
        have hs26 := hs25.tr (NBp.i es26 (by decide) (by decide))
        refine pc_stn (fun s27 es27 => ?_)
        have hs27 := hs26.tr (NBp.i es27 (by decide) (by decide))
        refine pc_rg ?_
        refine pc_if (fun _ => ?_) (fun _ => ?_)
        · skip
          refine pc_bn (fun s33 es33 => ?_)
          have hs33 := hs27.tr (nb_x12_qTest _ es33)
          unfold m_x12_codesTold_J72
          refine pc_rg ?_
          refine pc_if (fun _ => ?_) (fun _ => ?_)
          · skip
            refine pc_inb ?_
            refine pc_stn (fun s18 es18 => ?_)
            have hs18 := hs33.tr (NBp.a es18)
            exact nb_x12_codesTold_L92 FU _ _ _ hs18
          · skip
            exact pc_some hs33
        · skip
          refine pc_bn (fun s31 es31 => ?_)
          have hs31 := hs27.tr (nb_x12_qSums _ es31)
          unfold m_x12_codesTold_J72
          refine pc_rg ?_
          refine pc_if (fun _ => ?_) (fun _ => ?_)
          · skip
            refine pc_inb ?_
            refine pc_stn (fun s18 es18 => ?_)
            have hs18 := hs31.tr (NBp.a es18)
            exact nb_x12_codesTold_L92 FU _ _ _ hs18
          · skip
            exact pc_some hs31
      · skip
        exact pc_some (NBp.rf s)
    · skip
      refine pc_bn (fun s40 es40 => ?_)
      have hs40 := (NBp.rf s).tr (nb_x12_fail (by decide) _ es40)
      unfold m_x12_codesTold_J23
      refine pc_rg ?_
      refine pc_if (fun _ => ?_) (fun _ => ?_)
      · skip
        refine pc_stn (fun s23 es23 => ?_)
        have hs23 := hs40.tr (NBp.i es23 (by decide) (by decide))
        refine pc_stn (fun s24 es24 => ?_)
        have hs24 := hs23.tr (NBp.i es24 (by decide) (by decide))
        refine pc_stn (fun s25 es25 => ?_)
        have hs25 := hs24.tr (NBp.i es25 (by decide) (by decide))
        refine pc_stn (fun s26 es26 => ?_)
        have hs26 := hs25.tr (NBp.i es26 (by decide) (by decide))
        refine pc_stn (fun s27 es27 => ?_)
        have hs27 := hs26.tr (NBp.i es27 (by decide) (by decide))
        refine pc_rg ?_
        refine pc_if (fun _ => ?_) (fun _ => ?_)
        · skip
          refine pc_bn (fun s33 es33 => ?_)
          have hs33 := hs27.tr (nb_x12_qTest _ es33)
          unfold m_x12_codesTold_J72
          refine pc_rg ?_
          refine pc_if (fun _ => ?_) (fun _ => ?_)
          · skip
            refine pc_inb ?_
            refine pc_stn (fun s18 es18 => ?_)
            have hs18 := hs33.tr (NBp.a es18)
            exact nb_x12_codesTold_L92 FU _ _ _ hs18
          · skip
            exact pc_some hs33
        · skip
          refine pc_bn (fun s31 es31 => ?_)
          have hs31 := hs27.tr (nb_x12_qSums _ es31)
          unfold m_x12_codesTold_J72
          refine pc_rg ?_
          refine pc_if (fun _ => ?_) (fun _ => ?_)
          · skip
            refine pc_inb ?_
            refine pc_stn (fun s18 es18 => ?_)
            have hs18 := hs31.tr (NBp.a es18)
            exact nb_x12_codesTold_L92 FU _ _ _ hs18
          · skip
            exact pc_some hs31
      · skip
        exact pc_some hs40
  · skip
    unfold m_x12_codesTold_J23
    refine pc_rg ?_
    refine pc_if (fun _ => ?_) (fun _ => ?_)
    · skip
      refine pc_stn (fun s23 es23 => ?_)
      have hs23 := (NBp.rf s).tr (NBp.i es23 (by decide) (by decide))
      refine pc_stn (fun s24 es24 => ?_)
      have hs24 := hs23.tr (NBp.i es24 (by decide) (by decide))
      refine pc_stn (fun s25 es25 => ?_)
      have hs25 := hs24.tr (NBp.i es25 (by decide) (by decide))
      refine pc_stn (fun s26 es26 => ?_)
      have hs26 := hs25.tr (NBp.i es26 (by decide) (by decide))
      refine pc_stn (fun s27 es27 => ?_)
      have hs27 := hs26.tr (NBp.i es27 (by decide) (by decide))
      refine pc_rg ?_
      refine pc_if (fun _ => ?_) (fun _ => ?_)
      · skip
        refine pc_bn (fun s33 es33 => ?_)
        have hs33 := hs27.tr (nb_x12_qTest _ es33)
        unfold m_x12_codesTold_J72
        refine pc_rg ?_
        refine pc_if (fun _ => ?_) (fun _ => ?_)
        · skip
          refine pc_inb ?_
          refine pc_stn (fun s18 es18 => ?_)
          have hs18 := hs33.tr (NBp.a es18)
          exact nb_x12_codesTold_L92 FU _ _ _ hs18
        · skip
          exact pc_some hs33
      · skip
        refine pc_bn (fun s31 es31 => ?_)
        have hs31 := hs27.tr (nb_x12_qSums _ es31)
        unfold m_x12_codesTold_J72
        refine pc_rg ?_
        refine pc_if (fun _ => ?_) (fun _ => ?_)
        · skip
          refine pc_inb ?_
          refine pc_stn (fun s18 es18 => ?_)
          have hs18 := hs31.tr (NBp.a es18)
          exact nb_x12_codesTold_L92 FU _ _ _ hs18
        · skip
          exact pc_some hs31
    · skip
      exact pc_some (NBp.rf s)
set_option maxHeartbeats 1000000 in
theorem nb_x12_statementTold {s : MS} : pc (m_x12_statementTold s) (fun q => NBp s q) := by
  unfold m_x12_statementTold
  refine pc_rg ?_
  refine pc_if (fun _ => ?_) (fun _ => ?_)
  · skip
    refine pc_bn (fun s64 es64 => ?_)
    have hs64 := (NBp.rf s).tr (nb_x12_fail (by decide) _ es64)
    exact pc_some hs64
  · skip
    refine pc_bn (fun qr9 eqr9 => ?_)
    have hqr9 := (NBp.rf s).tr (NBp.of (fr_x12_takes eqr9) (by decide) (by decide))
    refine pc_rg ?_
    refine pc_if (fun _ => ?_) (fun _ => ?_)
    · skip
      refine pc_bn (fun qr14 eqr14 => ?_)
      have hqr14 := hqr9.tr (NBp.of (fr_x12_takes eqr14) (by decide) (by decide))
      refine pc_rg ?_
      refine pc_if (fun _ => ?_) (fun _ => ?_)
      · skip
        refine pc_bn (fun qr19 eqr19 => ?_)
        have hqr19 := hqr14.tr (NBp.of (fr_x12_takes eqr19) (by decide) (by decide))
        refine pc_rg ?_
        refine pc_if (fun _ => ?_) (fun _ => ?_)
        · skip
          refine pc_bn (fun qr24 eqr24 => ?_)
          have hqr24 := hqr19.tr (NBp.of (fr_x12_takes eqr24) (by decide) (by decide))
          refine pc_rg ?_
          refine pc_if (fun _ => ?_) (fun _ => ?_)
          · skip
            refine pc_bn (fun qr29 eqr29 => ?_)
            have hqr29 := hqr24.tr (NBp.of (fr_x12_takes eqr29) (by decide) (by decide))
            refine pc_rg ?_
            refine pc_if (fun _ => ?_) (fun _ => ?_)
            · skip
              refine pc_bn (fun qr34 eqr34 => ?_)
              have hqr34 := hqr29.tr (NBp.of (fr_x12_takes eqr34) (by decide) (by decide))
              refine pc_rg ?_
              refine pc_if (fun _ => ?_) (fun _ => ?_)
              · skip
                refine pc_bn (fun qr39 eqr39 => ?_)
                have hqr39 := hqr34.tr (NBp.of (fr_x12_takes eqr39) (by decide) (by decide))
                refine pc_rg ?_
                refine pc_if (fun _ => ?_) (fun _ => ?_)
                · skip
                  refine pc_bn (fun s43 es43 => ?_)
                  have hs43 := hqr39.tr (nb_x12_asks _ es43)
                  refine pc_bn (fun qr46 eqr46 => ?_)
                  have hqr46 := hs43.tr (nb_x12_number _ eqr46)
                  refine pc_inb ?_
                  refine pc_stn (fun s48 es48 => ?_)
                  have hs48 := hqr46.tr (NBp.a es48)
                  unfold m_x12_statementTold_J178
                  refine pc_bn (fun s3 es3 => ?_)
                  have hs3 := hs48.tr (nb_x12_asksSign _ es3)
                  refine pc_stn (fun s4 es4 => ?_)
                  have hs4 := hs3.tr (NBp.i es4 (by decide) (by decide))
                  exact pc_some hs4
                · skip
                  refine pc_bn (fun s50 es50 => ?_)
                  have hs50 := hqr39.tr (nb_x12_codesTold _ es50)
                  unfold m_x12_statementTold_J178
                  refine pc_bn (fun s3 es3 => ?_)
                  have hs3 := hs50.tr (nb_x12_asksSign _ es3)
                  refine pc_stn (fun s4 es4 => ?_)
                  have hs4 := hs3.tr (NBp.i es4 (by decide) (by decide))
                  exact pc_some hs4
              · skip
                refine pc_bn (fun s52 es52 => ?_)
                have hs52 := hqr34.tr (nb_x12_codesTold _ es52)
                unfold m_x12_statementTold_J178
                refine pc_bn (fun s3 es3 => ?_)
                have hs3 := hs52.tr (nb_x12_asksSign _ es3)
                refine pc_stn (fun s4 es4 => ?_)
                have hs4 := hs3.tr (NBp.i es4 (by decide) (by decide))
                exact pc_some hs4
            · skip
              refine pc_bn (fun s54 es54 => ?_)
              have hs54 := hqr29.tr (nb_x12_codesTold _ es54)
              unfold m_x12_statementTold_J178
              refine pc_bn (fun s3 es3 => ?_)
              have hs3 := hs54.tr (nb_x12_asksSign _ es3)
              refine pc_stn (fun s4 es4 => ?_)
              have hs4 := hs3.tr (NBp.i es4 (by decide) (by decide))
              exact pc_some hs4
          · skip
            refine pc_bn (fun s56 es56 => ?_)
            have hs56 := hqr24.tr (nb_x12_removeTold _ es56)
            unfold m_x12_statementTold_J178
            refine pc_bn (fun s3 es3 => ?_)
            have hs3 := hs56.tr (nb_x12_asksSign _ es3)
            refine pc_stn (fun s4 es4 => ?_)
            have hs4 := hs3.tr (NBp.i es4 (by decide) (by decide))
            exact pc_some hs4
        · skip
          refine pc_bn (fun s58 es58 => ?_)
          have hs58 := hqr19.tr (nb_x12_putTold _ es58)
          unfold m_x12_statementTold_J178
          refine pc_bn (fun s3 es3 => ?_)
          have hs3 := hs58.tr (nb_x12_asksSign _ es3)
          refine pc_stn (fun s4 es4 => ?_)
          have hs4 := hs3.tr (NBp.i es4 (by decide) (by decide))
          exact pc_some hs4
      · skip
        refine pc_bn (fun s60 es60 => ?_)
        have hs60 := hqr14.tr (nb_x12_volumeTold _ es60)
        unfold m_x12_statementTold_J178
        refine pc_bn (fun s3 es3 => ?_)
        have hs3 := hs60.tr (nb_x12_asksSign _ es3)
        refine pc_stn (fun s4 es4 => ?_)
        have hs4 := hs3.tr (NBp.i es4 (by decide) (by decide))
        exact pc_some hs4
    · skip
      refine pc_bn (fun s62 es62 => ?_)
      have hs62 := hqr9.tr (nb_x12_volumeTold _ es62)
      unfold m_x12_statementTold_J178
      refine pc_bn (fun s3 es3 => ?_)
      have hs3 := hs62.tr (nb_x12_asksSign _ es3)
      refine pc_stn (fun s4 es4 => ?_)
      have hs4 := hs3.tr (NBp.i es4 (by decide) (by decide))
      exact pc_some hs4
/-! ===== both readers: words, numbers, signs ===== -/
abbrev isL (c : Int) : Prop := 97 ≤ c ∧ c ≤ 122
abbrev isD (c : Int) : Prop := 48 ≤ c ∧ c ≤ 57
abbrev isB (c : Int) : Prop := c = 10 ∨ c = 32
/-- the words, joined -/
def w6l : List Int := 98 :: 108 :: 111 :: 99 :: 107 :: 115 :: 32 :: 114 :: 111 :: 111 :: 109 :: 32 :: 118 :: 111 :: 108 :: 117 :: 109 :: 101 :: 32 :: 99 :: 108 :: 111 :: 110 :: 101 :: 32 :: 111 :: 102 :: 32 :: 112 :: 117 :: 116 :: 32 :: 114 :: 101 :: 109 :: 111 :: 118 :: 101 :: 32 :: 112 :: 105 :: 99 :: 107 :: 115 :: 32 :: 115 :: 112 :: 108 :: 105 :: 116 :: 115 :: 32 :: 99 :: 111 :: 115 :: 116 :: 115 :: 32 :: 99 :: 104 :: 117 :: 114 :: 110 :: 32 :: 98 :: 108 :: 111 :: 99 :: 107 :: 32 :: 102 :: 114 :: 111 :: 109 :: 32 :: 108 :: 101 :: 118 :: 101 :: 108 :: 32 :: 101 :: 110 :: 116 :: 114 :: 105 :: 101 :: 115 :: 32 :: 110 :: 117 :: 109 :: 98 :: 101 :: 114 :: 32 :: 99 :: 111 :: 117 :: 110 :: 116 :: 32 :: 102 :: 114 :: 101 :: 115 :: 104 :: 32 :: 115 :: 97 :: 118 :: 101 :: 100 :: 32 :: 114 :: 101 :: 102 :: 115 :: 32 :: 107 :: 101 :: 121 :: 32 :: 111 :: 114 :: 32 :: 97 :: 110 :: 100 :: 32 :: 110 :: 111 :: 116 :: 32 :: 97 :: 108 :: 108 :: 32 :: 109 :: 105 :: 110 :: 32 :: 109 :: 97 :: 120 :: 32 :: 102 :: 105 :: 114 :: 115 :: 116 :: 32 :: 108 :: 97 :: 115 :: 116 :: 32 :: 111 :: 102 :: 116 :: 101 :: 110 :: 32 :: 116 :: 111 :: 116 :: 97 :: 108 :: 32 :: 109 :: 111 :: 115 :: 116 :: 32 :: 108 :: 101 :: 97 :: 115 :: 116 :: []
def w6 (j : Nat) : Int := w6l.getD j 0
def wll : List Nat := 6 :: 4 :: 6 :: 5 :: 2 :: 3 :: 6 :: 5 :: 6 :: 5 :: 5 :: 5 :: 4 :: 5 :: 7 :: 6 :: 5 :: 5 :: 5 :: 4 :: 3 :: 2 :: 3 :: 3 :: 3 :: 3 :: 3 :: 5 :: 4 :: 5 :: 5 :: 4 :: 5 :: []
def wol : List Nat := 0 :: 7 :: 12 :: 19 :: 25 :: 28 :: 32 :: 39 :: 45 :: 52 :: 58 :: 64 :: 70 :: 75 :: 81 :: 89 :: 96 :: 102 :: 108 :: 114 :: 119 :: 123 :: 126 :: 130 :: 134 :: 138 :: 142 :: 146 :: 152 :: 157 :: 163 :: 169 :: 174 :: []
def wl (w : Nat) : Nat := wll.getD w 0
def woJ (w : Nat) : Nat := wol.getD w 0
def wc (w j : Nat) : Int := w6 (woJ w + j)
set_option maxRecDepth 20000 in
theorem w_no : ∀ w, w < 33 → ∀ j, j < wl w → wc w j ≠ 32 := by decide +kernel
set_option maxRecDepth 20000 in
theorem w_sp : ∀ w, w < 32 → w6 (woJ w + wl w) = 32 ∧ woJ (w + 1) = woJ w + wl w + 1 := by decide +kernel
theorem w_end : woJ 32 + wl 32 = 179 ∧ woJ 0 = 0 := by decide +kernel
set_option maxRecDepth 20000 in
theorem w_lt : ∀ w, w < 33 → woJ w + wl w ≤ 179 ∧ 1 ≤ wl w ∧ wl w ≤ 7 := by decide +kernel
set_option maxRecDepth 20000 in
theorem w_ne : ∀ v, v < 33 → ∀ w, w < 33 → v ≠ w → ¬ (wl v = wl w ∧ ∀ j, j < wl w → wc v j = wc w j) := by decide +kernel
/-- a run of one kind, from a on, ends at b -/
def Ru (L : Int → Prop) (f : Nat → Int) (n a b : Int) : Prop := (a ≤ b ∧ b ≤ n) ∧ (∀ j : Nat, a ≤ (j : Int) → (j : Int) < b → L (f j)) ∧ (b < n → ¬ L (f b.toNat))
theorem Ru_u {L : Int → Prop} {f : Nat → Int} {n a b c : Int} (ha : 0 ≤ a) (h : Ru L f n a b) (g : Ru L f n a c) : b = c := by
  have h1 := h.1
  have g1 := g.1
  by_cases z : b < c
  · have q := g.2.1 b.toNat (by omega) (by omega)
    exact absurd q (h.2.2 (by omega))
  · by_cases y : c < b
    · have q := h.2.1 c.toNat (by omega) (by omega)
      exact absurd q (g.2.2 (by omega))
    · omega
theorem Ru_c {L : Int → Prop} {f g : Nat → Int} {n a b : Int} (ha : 0 ≤ a) (h : Ru L f n a b) (e : ∀ j : Nat, (j : Int) < n → g j = f j) : Ru L g n a b := by
  have h1 := h.1
  exact ⟨h1, fun j h2 h3 => by rw [e j (by omega)]; exact h.2.1 j h2 h3, fun h2 => by rw [e _ (by omega)]; exact h.2.2 h2⟩
/-- the word from a to b -/
def WM (f : Nat → Int) (a b : Int) (w : Nat) : Prop := b - a = (wl w : Int) ∧ ∀ j : Nat, j < wl w → f (a.toNat + j) = wc w j
theorem WM_u {f : Nat → Int} {a b : Int} {v w : Nat} (hv : v < 33) (hw : w < 33) (h : WM f a b v) (g : WM f a b w) : v = w := by
  by_cases z : v = w
  · exact z
  · have h1 := h.1
    have g1 := g.1
    exact absurd ⟨by omega, fun j hj => by rw [← g.2 j hj]; exact (h.2 j (by omega)).symm⟩ (w_ne v hv w hw z)
/-- no blank ahead, and a letter or digit there -/
def GLU (f : Nat → Int) (a : Int) : Prop := 0 < a ∧ (isL (f (a - 1).toNat) ∨ isD (f (a - 1).toNat))
/-- of the kind k, or glued -/
def KG (s : MS) (k : Int) : Prop := (GLU (gA s 4) (gI s 108) ∧ gI s 107 = 4) ∨ (¬ GLU (gA s 4) (gI s 108) ∧ gI s 107 = k)
/-- what the class's reader has at hand -/
def TK (s : MS) : Prop := ((0 ≤ gI s 108 ∧ gI s 108 ≤ gI s 61) ∧ gI s 61 ≤ 1600) ∧ (gI s 108 < gI s 61 → ¬ isB (gA s 4 (gI s 108).toNat)) ∧
  ((gI s 108 = gI s 61 ∧ gI s 107 = 0 ∧ gI s 111 = -1 ∧ gI s 109 = gI s 108) ∨
   (gI s 108 < gI s 61 ∧ gI s 111 = gA s 4 (gI s 108).toNat ∧ gI s 108 < gI s 109 ∧ gI s 109 ≤ gI s 61 ∧
    ((isL (gA s 4 (gI s 108).toNat) ∧ Ru isL (gA s 4) (gI s 61) (gI s 108) (gI s 109) ∧ ((-1) ≤ gI s 110 ∧ gI s 110 ≤ 32 ∧ ∀ w : Nat, w < 33 → (gI s 110 = (w : Int) ↔ WM (gA s 4) (gI s 108) (gI s 109) w)) ∧ KG s 1) ∨
     (isD (gA s 4 (gI s 108).toNat) ∧ Ru isD (gA s 4) (gI s 61) (gI s 108) (gI s 109) ∧ KG s 2) ∨
     (¬ isL (gA s 4 (gI s 108).toNat) ∧ ¬ isD (gA s 4 (gI s 108).toNat) ∧ gI s 109 = gI s 108 + 1 ∧ gI s 107 = 3))))
theorem s_isL {p0 : Int} {s : MS} : pc (m_x6_isLetter p0 s) (fun r => (r = 1 ∧ isL p0) ∨ (r = 0 ∧ ¬ isL p0)) := by
  unfold m_x6_isLetter m_x6_isLetter_J16 m_x6_isLetter_J17
  exact pc_rg (pc_if (fun c => pc_bo (pc_some (Or.inr ⟨rfl, by omega⟩))) (fun c => pc_rg (pc_if (fun c2 => pc_bo (pc_some (Or.inr ⟨rfl, by omega⟩))) (fun c2 => pc_bo (pc_some (Or.inl ⟨rfl, by omega⟩))))))
theorem s_isD {p0 : Int} {s : MS} : pc (m_x6_isDigit p0 s) (fun r => (r = 1 ∧ isD p0) ∨ (r = 0 ∧ ¬ isD p0)) := by
  unfold m_x6_isDigit m_x6_isDigit_J16 m_x6_isDigit_J17
  exact pc_rg (pc_if (fun c => pc_bo (pc_some (Or.inr ⟨rfl, by omega⟩))) (fun c => pc_rg (pc_if (fun c2 => pc_bo (pc_some (Or.inr ⟨rfl, by omega⟩))) (fun c2 => pc_bo (pc_some (Or.inl ⟨rfl, by omega⟩))))))
theorem s_isB {p0 : Int} {s : MS} : pc (m_x6_isBlank p0 s) (fun r => (r = 1 ∧ isB p0) ∨ (r = 0 ∧ ¬ isB p0)) := by
  unfold m_x6_isBlank m_x6_isBlank_J12 m_x6_isBlank_J17
  exact pc_rg (pc_if (fun c => pc_bo (pc_some (Or.inl ⟨rfl, by omega⟩))) (fun c => pc_rg (pc_if (fun c2 => pc_bo (pc_some (Or.inl ⟨rfl, by omega⟩))) (fun c2 => pc_bo (pc_some (Or.inr ⟨rfl, by omega⟩))))))
theorem m_isL {p0 : Int} {s : MS} : pc (m_x12_isLetter p0 s) (fun r => (r = 1 ∧ isL p0) ∨ (r = 0 ∧ ¬ isL p0)) := by
  unfold m_x12_isLetter m_x12_isLetter_J16 m_x12_isLetter_J17
  exact pc_rg (pc_if (fun c => pc_bo (pc_some (Or.inr ⟨rfl, by omega⟩))) (fun c => pc_rg (pc_if (fun c2 => pc_bo (pc_some (Or.inr ⟨rfl, by omega⟩))) (fun c2 => pc_bo (pc_some (Or.inl ⟨rfl, by omega⟩))))))
theorem m_isD {p0 : Int} {s : MS} : pc (m_x12_isDigit p0 s) (fun r => (r = 1 ∧ isD p0) ∨ (r = 0 ∧ ¬ isD p0)) := by
  unfold m_x12_isDigit m_x12_isDigit_J16 m_x12_isDigit_J17
  exact pc_rg (pc_if (fun c => pc_bo (pc_some (Or.inr ⟨rfl, by omega⟩))) (fun c => pc_rg (pc_if (fun c2 => pc_bo (pc_some (Or.inr ⟨rfl, by omega⟩))) (fun c2 => pc_bo (pc_some (Or.inl ⟨rfl, by omega⟩))))))
/-- the byte at k, or -1 -/
theorem s_at {p0 : Int} {s : MS} : pc (m_x9_at p0 s) (fun r => ((0 ≤ p0 ∧ p0 < gI s 61) ∧ r = gA s 4 p0.toNat) ∨ ((p0 < 0 ∨ gI s 61 ≤ p0) ∧ r = -1)) := by
  unfold m_x9_at m_x9_at_J21 m_x9_at_J22
  exact pc_rg (pc_if (fun c => pc_some (Or.inr ⟨Or.inl c, rfl⟩)) (fun c => pc_rg (pc_rg (pc_if (fun c2 => pc_some (Or.inr ⟨Or.inr c2, rfl⟩)) (fun c2 => pc_rdI (fun _ => pc_some (Or.inl ⟨by omega, rfl⟩)))))))
/-- the joined words lie in the class's row -/
def W6 (s : MS) : Prop := ∀ j, j < 179 → gA s 6 j = w6 j
theorem s_word {s : MS} (hW : W6 s) (h0 : 0 ≤ gI s 108) : pc (m_x6_wordNumber s) (fun r => ((-1) ≤ r ∧ r ≤ 32) ∧ ∀ w : Nat, w < 33 → (r = (w : Int) ↔ WM (gA s 4) (gI s 108) (gI s 109) w)) := by
  have L : ∀ (n : Nat) (x2 x3 x4 x5 : Int) (w j : Nat), w < 33 → j ≤ wl w → x2 = (w : Int) → x3 = gI s 108 + (j : Int) → x5 = ((woJ w + j : Nat) : Int) → ((x4 = 1 ∧ ∀ i : Nat, i < j → gI s 108 + (i : Int) < gI s 109 ∧ gA s 4 ((gI s 108).toNat + i) = wc w i) ∨ (x4 = 0 ∧ ¬ WM (gA s 4) (gI s 108) (gI s 109) w)) → (∀ v : Nat, v < w → ¬ WM (gA s 4) (gI s 108) (gI s 109) v) → pc (m_x6_wordNumber_L12 s n x2 x3 x4 x5) (fun r => ((-1) ≤ r ∧ r ≤ 32) ∧ ∀ w : Nat, w < 33 → (r = (w : Int) ↔ WM (gA s 4) (gI s 108) (gI s 109) w)) := by
    refine fr_ind (fun _ _ _ _ _ _ _ _ _ _ _ _ _ => pc_none) (fun n ih x2 x3 x4 x5 w j hw hj e2 e3 e5 h4 hd => ?_)
    show pc (m_x6_wordNumber_b12 s (m_x6_wordNumber_L12 s n) x2 x3 x4 x5) _
    have wlt := w_lt w hw
    have we := w_end
    -- a word that is there is told
    have yes : WM (gA s 4) (gI s 108) (gI s 109) w → ((-1) ≤ x2 ∧ x2 ≤ 32) ∧ ∀ v : Nat, v < 33 → (x2 = (v : Int) ↔ WM (gA s 4) (gI s 108) (gI s 109) v) := fun hm => ⟨by omega, fun v hv => ⟨fun q => by rw [show v = w by omega]; exact hm, fun q => by have := WM_u hv hw q hm; omega⟩⟩
    have no : w = 32 → ¬ WM (gA s 4) (gI s 108) (gI s 109) w → ((-1) ≤ (-1 : Int) ∧ (-1 : Int) ≤ 32) ∧ ∀ v : Nat, v < 33 → ((-1 : Int) = (v : Int) ↔ WM (gA s 4) (gI s 108) (gI s 109) v) := fun e hm => ⟨by omega, fun v hv => ⟨fun q => by omega, fun q => by
      by_cases z : v = w
      · rw [z] at q; exact absurd q hm
      · exact absurd q (hd v (by omega))⟩⟩
    -- at a word's end
    have full : j = wl w → x4 = 1 → x3 = gI s 109 → WM (gA s 4) (gI s 108) (gI s 109) w := fun ej e4 e9 => by
      rcases h4 with ⟨_, h⟩ | ⟨h, _⟩
      · exact ⟨by omega, fun i hi => (h i (by omega)).2⟩
      · omega
    have nofull : j = wl w → (x4 = 0 ∨ x3 ≠ gI s 109) → ¬ WM (gA s 4) (gI s 108) (gI s 109) w := fun ej hz hm => by
      rcases h4 with ⟨g, h⟩ | ⟨_, h⟩
      · have := hm.1
        omega
      · exact h hm
    have x01 : x4 = 0 ∨ x4 = 1 := by
      rcases h4 with h | h
      · exact Or.inr h.1
      · exact Or.inl h.1
    unfold m_x6_wordNumber_b12 m_x6_wordNumber_J123 m_x6_wordNumber_J124
    refine pc_rg (pc_if (fun c => ?_) (fun c => ?_))
    · have e32 : w = 32 := by
        by_cases z : w < 32
        · have a := w_sp w z
          have b := (w_lt (w + 1) (by omega)).1
          omega
        · omega
      rw [e32] at wlt hj e5
      have ej : j = wl w := by rw [e32]; omega
      exact pc_rg (pc_if (fun c2 => pc_some (no e32 (nofull ej (Or.inl c2)))) (fun c2 => pc_rg (pc_rg (pc_if (fun c3 => pc_some (yes (full ej (by omega) c3))) (fun c3 => pc_some (no e32 (nofull ej (Or.inr c3))))))))
    · refine pc_rdI (fun _ => ?_)
      have r6 : gA s 6 x5.toNat = w6 (woJ w + j) := by rw [show x5.toNat = woJ w + j by omega]; exact hW _ (by omega)
      rw [r6]
      have nxt : w < 32 → j = wl w → ¬ WM (gA s 4) (gI s 108) (gI s 109) w → pc (m_x6_wordNumber_J91 s (m_x6_wordNumber_L12 s n) x2 x5) (fun r => ((-1) ≤ r ∧ r ≤ 32) ∧ ∀ w : Nat, w < 33 → (r = (w : Int) ↔ WM (gA s 4) (gI s 108) (gI s 109) w)) := fun hlt ej hm => by
        unfold m_x6_wordNumber_J91 m_x6_wordNumber_J101
        have a := w_sp w hlt
        exact ih (x2 + 1) (gI s 108) 1 (x5 + 1) (w + 1) 0 (by omega) (by omega) (by omega) (by omega) (by omega) (Or.inl ⟨rfl, fun i hi => by omega⟩) (fun v hv => by
          by_cases z : v = w
          · rw [z]; exact hm
          · exact hd v (by omega))
      have stp : ∀ y : Int, ((y = 1 ∧ ∀ i : Nat, i < j + 1 → gI s 108 + (i : Int) < gI s 109 ∧ gA s 4 ((gI s 108).toNat + i) = wc w i) ∨ (y = 0 ∧ ¬ WM (gA s 4) (gI s 108) (gI s 109) w)) → j < wl w → pc (m_x6_wordNumber_J70 s (m_x6_wordNumber_L12 s n) x2 x3 x5 y) (fun r => ((-1) ≤ r ∧ r ≤ 32) ∧ ∀ w : Nat, w < 33 → (r = (w : Int) ↔ WM (gA s 4) (gI s 108) (gI s 109) w)) := fun y hy hlt => by
        unfold m_x6_wordNumber_J70 m_x6_wordNumber_J101
        exact ih x2 (x3 + 1) y (x5 + 1) w (j + 1) hw (by omega) e2 (by omega) (by omega) hy hd
      refine pc_rg (pc_if (fun c2 => ?_) (fun c2 => ?_))
      · have ej : j = wl w := by
          by_cases z : j < wl w
          · exact absurd c2 (w_no w hw j z)
          · omega
        have hlt : w < 32 := by
          by_cases z : w = 32
          · rw [z] at ej e5; omega
          · omega
        refine pc_rg (pc_if (fun c3 => nxt hlt ej (nofull ej (Or.inl c3))) (fun c3 => pc_rg (pc_rg (pc_if (fun c4 => pc_some (yes (full ej (by omega) c4))) (fun c4 => nxt hlt ej (nofull ej (Or.inr c4)))))))
      · have hlt : j < wl w := by
          by_cases z : j = wl w
          · exfalso
            by_cases z2 : w < 32
            · have a := (w_sp w z2).1
              rw [z] at c2
              exact c2 a
            · rw [show w = 32 by omega] at z e5
              omega
          · omega
        have bad : ¬ (gI s 108 + (j : Int) < gI s 109 ∧ gA s 4 ((gI s 108).toNat + j) = wc w j) → ¬ WM (gA s 4) (gI s 108) (gI s 109) w := fun h hm => h ⟨by have := hm.1; omega, hm.2 j hlt⟩
        unfold m_x6_wordNumber_J69
        refine pc_rg (pc_if (fun c3 => stp 0 (Or.inr ⟨rfl, ?_⟩) hlt) (fun c3 => pc_rg (pc_rg (pc_if (fun c4 => stp 0 (Or.inr ⟨rfl, bad (fun q => by omega)⟩) hlt) (fun c4 => pc_rdI (fun _ => pc_rdI (fun _ => pc_rg (pc_rg (pc_if (fun c5 => stp 1 (Or.inl ⟨rfl, fun i hi => ?_⟩) hlt) (fun c5 => stp 0 (Or.inr ⟨rfl, bad (fun q => c5 ?_)⟩) hlt))))))))))
        · rcases h4 with h | h
          · omega
          · exact h.2
        · rcases h4 with ⟨_, h⟩ | ⟨h, _⟩
          · by_cases z : i = j
            · rw [z]
              refine ⟨by omega, ?_⟩
              rw [r6, show x3.toNat = (gI s 108).toNat + j by omega] at c5
              exact c5
            · exact h i (by omega)
          · omega
        · rw [r6, show x3.toNat = (gI s 108).toNat + j by omega]; exact q.2
  unfold m_x6_wordNumber
  exact L FU 0 (gI s 108) 1 0 0 0 (by omega) (by omega) rfl (by omega) (by have := w_end; omega) (Or.inl ⟨rfl, fun i hi => by omega⟩) (fun v hv => by omega)
/-! ===== the class goes on to the next word, number or sign ===== -/
/-- the same ahead of what glues -/
def TK0 (s : MS) : Prop := ((0 ≤ gI s 108 ∧ gI s 108 ≤ gI s 61) ∧ gI s 61 ≤ 1600) ∧ (gI s 108 < gI s 61 → ¬ isB (gA s 4 (gI s 108).toNat)) ∧
  ((gI s 108 = gI s 61 ∧ gI s 107 = 0 ∧ gI s 111 = -1 ∧ gI s 109 = gI s 108) ∨
   (gI s 108 < gI s 61 ∧ gI s 111 = gA s 4 (gI s 108).toNat ∧ gI s 108 < gI s 109 ∧ gI s 109 ≤ gI s 61 ∧
    ((isL (gA s 4 (gI s 108).toNat) ∧ Ru isL (gA s 4) (gI s 61) (gI s 108) (gI s 109) ∧ ((-1) ≤ gI s 110 ∧ gI s 110 ≤ 32 ∧ ∀ w : Nat, w < 33 → (gI s 110 = (w : Int) ↔ WM (gA s 4) (gI s 108) (gI s 109) w)) ∧ gI s 107 = 1) ∨
     (isD (gA s 4 (gI s 108).toNat) ∧ Ru isD (gA s 4) (gI s 61) (gI s 108) (gI s 109) ∧ gI s 107 = 2) ∨
     (¬ isL (gA s 4 (gI s 108).toNat) ∧ ¬ isD (gA s 4 (gI s 108).toNat) ∧ gI s 109 = gI s 108 + 1 ∧ gI s 107 = 3))))
theorem TK0_n {s : MS} (h : TK0 s) (g : gI s 107 = 1 ∨ gI s 107 = 2 → ¬ GLU (gA s 4) (gI s 108)) : TK s := by
  obtain ⟨h1, h2, h3⟩ := h
  refine ⟨h1, h2, ?_⟩
  rcases h3 with q | ⟨q1, q2, q3, q4, q⟩
  · exact Or.inl q
  · refine Or.inr ⟨q1, q2, q3, q4, ?_⟩
    rcases q with ⟨a, b, c, d⟩ | ⟨a, b, d⟩ | q
    · exact Or.inl ⟨a, b, c, Or.inr ⟨g (Or.inl d), d⟩⟩
    · exact Or.inr (Or.inl ⟨a, b, Or.inr ⟨g (Or.inr d), d⟩⟩)
    · exact Or.inr (Or.inr q)
theorem TK0_g {s o : MS} (h : TK0 s) (e : sI s 107 4 = o) (k : gI s 107 = 1 ∨ gI s 107 = 2) (g : GLU (gA s 4) (gI s 108)) : TK o := by
  obtain ⟨h1, h2, h3⟩ := h
  unfold TK KG
  rw [(q_Ii e (by decide) : gI o 108 = gI s 108), (q_Ii e (by decide) : gI o 61 = gI s 61), (q_Ii e (by decide) : gI o 109 = gI s 109), (q_Ii e (by decide) : gI o 110 = gI s 110), (q_Ii e (by decide) : gI o 111 = gI s 111), (q_Ia e : gA o 4 = gA s 4), (q_II e : gI o 107 = 4)]
  refine ⟨h1, h2, ?_⟩
  rcases h3 with q | ⟨q1, q2, q3, q4, q⟩
  · omega
  · refine Or.inr ⟨q1, q2, q3, q4, ?_⟩
    rcases q with ⟨a, b, c, d⟩ | ⟨a, b, d⟩ | q
    · exact Or.inl ⟨a, b, c, Or.inl ⟨g, rfl⟩⟩
    · exact Or.inr (Or.inl ⟨a, b, Or.inl ⟨g, rfl⟩⟩)
    · omega
theorem s_J251 {S : MS} (h : TK0 S) : pc (m_x6_advance_J251 S) (fun o => TK o ∧ gI o 108 = gI S 108) := by
  have h1 := h.1
  unfold m_x6_advance_J251
  refine pc_bq s_at (fun r16 h16 => ?_)
  have hg : GLU (gA S 4) (gI S 108) ↔ isL r16 ∨ isD r16 := by
    rcases h16 with ⟨a, b⟩ | ⟨a, b⟩
    · unfold GLU
      rw [b]
      exact ⟨fun q => q.2, fun q => ⟨by omega, q⟩⟩
    · rw [b]
      exact ⟨fun q => by have := q.1; omega, fun q => by omega⟩
  have J : (gI S 107 = 1 ∨ gI S 107 = 2) → pc (m_x6_advance_J281 r16 S) (fun o => TK o ∧ gI o 108 = gI S 108) := by
    intro k
    unfold m_x6_advance_J281 m_x6_advance_J295 m_x6_advance_J300
    refine pc_bq s_isL (fun r7 h7 => pc_rg (pc_if (fun c => pc_bq s_isD (fun r11 h11 => pc_rg (pc_if (fun c2 => pc_some ⟨TK0_n h (fun _ q => ?_), rfl⟩) (fun c2 => pc_stn (fun s3 e3 => pc_some ⟨TK0_g h e3 k (hg.2 ?_), q_Ii e3 (by decide)⟩))))) (fun c => pc_stn (fun s3 e3 => pc_some ⟨TK0_g h e3 k (hg.2 ?_), q_Ii e3 (by decide)⟩))))
    · have q2 := hg.1 q
      omega
    · omega
    · omega
  refine pc_rg (pc_if (fun c => J (Or.inl c)) (fun c => pc_rg (pc_if (fun c2 => J (Or.inr c2)) (fun c2 => ?_))))
  unfold m_x6_advance_J300
  exact pc_some ⟨TK0_n h (fun q => by omega), rfl⟩
theorem W6_e {s o : MS} (h : W6 s) (e : gA o 6 = gA s 6) : W6 o := fun j hj => by rw [e]; exact h j hj
theorem s_L191 : ∀ (n : Nat) (S : MS), ((0 ≤ gI S 108 ∧ gI S 108 < gI S 61) ∧ gI S 61 ≤ 1600) → isD (gA S 4 (gI S 108).toNat) → gI S 111 = gA S 4 (gI S 108).toNat → gI S 107 = 2 → (gI S 108 ≤ gI S 109 ∧ gI S 109 ≤ gI S 61) → (∀ j : Nat, gI S 108 ≤ (j : Int) → (j : Int) < gI S 109 → isD (gA S 4 j)) → pc (m_x6_advance_L191 n S) (fun o => TK o ∧ gI o 108 = gI S 108) := by
  refine fr_ind (fun _ _ _ _ _ _ _ => pc_none) (fun n ih S ha hd hs hk hb hr => ?_)
  show pc (m_x6_advance_b191 (m_x6_advance_L191 n) S) _
  unfold m_x6_advance_b191
  have fin : (gI S 109 < gI S 61 → ¬ isD (gA S 4 (gI S 109).toNat)) → pc (m_x6_advance_J251 S) (fun o => TK o ∧ gI o 108 = gI S 108) := fun hx => by
    refine s_J251 ⟨⟨by omega, ha.2⟩, fun _ => by omega, Or.inr ⟨ha.1.2, hs, ?_, hb.2, Or.inr (Or.inl ⟨hd, ⟨hb, hr, hx⟩, hk⟩)⟩⟩
    by_cases z : gI S 108 = gI S 109
    · rw [← z] at hx; exact absurd hd (hx (by omega))
    · omega
  refine pc_rg (pc_rg (pc_if (fun c => fin (fun q => by omega)) (fun c => pc_rdI (fun _ => pc_bq s_isD (fun r27 h27 => pc_rg (pc_if (fun c2 => fin (fun _ => by omega)) (fun c2 => pc_stn (fun s30 e30 => ?_))))))))
  have k : ∀ i, i ≠ 109 → gI s30 i = gI S i := fun i hi => q_Ii e30 hi
  have k4 : gA s30 4 = gA S 4 := q_Ia e30
  have k9 : gI s30 109 = gI S 109 + 1 := q_II e30
  have q := ih s30
  rw [k 108 (by decide), k 61 (by decide), k 111 (by decide), k 107 (by decide), k4, k9] at q
  refine q ha hd hs hk (by omega) (fun j h1 h2 => ?_)
  by_cases z : (j : Int) < gI S 109
  · exact hr j h1 z
  · rw [show j = (gI S 109).toNat by omega]; omega
theorem s_L120 : ∀ (n : Nat) (S : MS), W6 S → ((0 ≤ gI S 108 ∧ gI S 108 < gI S 61) ∧ gI S 61 ≤ 1600) → isL (gA S 4 (gI S 108).toNat) → gI S 111 = gA S 4 (gI S 108).toNat → gI S 107 = 1 → (gI S 108 ≤ gI S 109 ∧ gI S 109 ≤ gI S 61) → (∀ j : Nat, gI S 108 ≤ (j : Int) → (j : Int) < gI S 109 → isL (gA S 4 j)) → pc (m_x6_advance_L120 n S) (fun o => TK o ∧ gI o 108 = gI S 108) := by
  refine fr_ind (fun _ _ _ _ _ _ _ _ => pc_none) (fun n ih S hW ha hd hs hk hb hr => ?_)
  show pc (m_x6_advance_b120 (m_x6_advance_L120 n) S) _
  unfold m_x6_advance_b120
  have fin : (gI S 109 < gI S 61 → ¬ isL (gA S 4 (gI S 109).toNat)) → pc (m_x6_advance_J165 S) (fun o => TK o ∧ gI o 108 = gI S 108) := fun hx => by
    have lt : gI S 108 < gI S 109 := by
      by_cases z : gI S 108 = gI S 109
      · rw [← z] at hx; exact absurd hd (hx (by omega))
      · omega
    unfold m_x6_advance_J165
    refine pc_bq (s_word hW (by omega)) (fun r33 h33 => pc_stn (fun s34 e34 => ?_))
    have k : ∀ i, i ≠ 110 → gI s34 i = gI S i := fun i hi => q_Ii e34 hi
    have k4 : gA s34 4 = gA S 4 := q_Ia e34
    have k0 : gI s34 110 = r33 := q_II e34
    refine pc_mono (s_J251 ?_) (fun o ho => ⟨ho.1, ho.2.trans (k 108 (by decide))⟩)
    unfold TK0
    rw [k 108 (by decide), k 61 (by decide), k 111 (by decide), k 107 (by decide), k 109 (by decide), k4, k0]
    exact ⟨⟨by omega, ha.2⟩, fun _ => by omega, Or.inr ⟨ha.1.2, hs, lt, hb.2, Or.inl ⟨hd, ⟨hb, hr, hx⟩, ⟨h33.1.1, h33.1.2, h33.2⟩, hk⟩⟩⟩
  refine pc_rg (pc_rg (pc_if (fun c => fin (fun q => by omega)) (fun c => pc_rdI (fun _ => pc_bq s_isL (fun r41 h41 => pc_rg (pc_if (fun c2 => fin (fun _ => by omega)) (fun c2 => pc_stn (fun s44 e44 => ?_))))))))
  have k : ∀ i, i ≠ 109 → gI s44 i = gI S i := fun i hi => q_Ii e44 hi
  have k4 : gA s44 4 = gA S 4 := q_Ia e44
  have k9 : gI s44 109 = gI S 109 + 1 := q_II e44
  have q := ih s44 (W6_e hW (q_Ia e44))
  rw [k 108 (by decide), k 61 (by decide), k 111 (by decide), k 107 (by decide), k4, k9] at q
  refine q ha hd hs hk (by omega) (fun j h1 h2 => ?_)
  by_cases z : (j : Int) < gI S 109
  · exact hr j h1 z
  · rw [show j = (gI S 109).toNat by omega]; omega
/-- bytes are no less than 0 -/
def BY (s : MS) : Prop := ∀ j : Nat, (j : Int) < gI s 61 → 0 ≤ gA s 4 j
theorem s_J61 {S : MS} (hW : W6 S) (hy : BY S) (ha : (0 ≤ gI S 108 ∧ gI S 108 ≤ gI S 61) ∧ gI S 61 ≤ 1600) (hb : gI S 108 < gI S 61 → ¬ isB (gA S 4 (gI S 108).toNat)) : pc (m_x6_advance_J61 S) (fun o => TK o ∧ gI o 108 = gI S 108) := by
  unfold m_x6_advance_J61
  refine pc_stn (fun s46 e46 => pc_stn (fun s47 e47 => pc_bq s_at (fun r49 h49 => pc_stn (fun s50 e50 => ?_))))
  have k : ∀ i, i ≠ 109 → i ≠ 110 → i ≠ 111 → gI s50 i = gI S i := fun i h1 h2 h3 => (q_Ii e50 h3).trans ((q_Ii e47 h2).trans (q_Ii e46 h1))
  have kA : ∀ i, gA s50 i = gA S i := fun i => (q_Ia e50).trans ((q_Ia e47).trans (q_Ia e46))
  have k9 : gI s50 109 = gI S 108 := (q_Ii e50 (by decide)).trans ((q_Ii e47 (by decide)).trans (q_II e46))
  have k11 : gI s50 111 = r49 := q_II e50
  have a47 : gI s47 108 = gI S 108 := (q_Ii e47 (by decide)).trans (q_Ii e46 (by decide))
  have n47 : gI s47 61 = gI S 61 := (q_Ii e47 (by decide)).trans (q_Ii e46 (by decide))
  have f47 : gA s47 4 = gA S 4 := (q_Ia e47).trans (q_Ia e46)
  rw [a47, n47, f47] at h49
  have h49 : (gI S 108 < gI S 61 ∧ r49 = gA S 4 (gI S 108).toNat) ∨ (gI S 108 = gI S 61 ∧ r49 = -1) := by
    rcases h49 with ⟨a, b⟩ | ⟨a, b⟩
    · exact Or.inl ⟨a.2, b⟩
    · exact Or.inr ⟨by omega, b⟩
  have W50 : W6 s50 := W6_e hW (kA 6)
  have e108 := k 108 (by decide) (by decide) (by decide)
  have e61 := k 61 (by decide) (by decide) (by decide)
  refine pc_rg (pc_if (fun c => pc_stn (fun s65 e65 => ?_)) (fun c => ?_))
  · have hend : gI S 108 = gI S 61 := by
      rcases h49 with ⟨a, b⟩ | ⟨a, b⟩
      · exfalso
        have q := hy (gI S 108).toNat (by omega)
        omega
      · exact a
    refine pc_mono (s_J251 ?_) (fun o ho => ⟨ho.1, ho.2.trans ((q_Ii e65 (by decide)).trans e108)⟩)
    unfold TK0
    rw [(q_Ii e65 (by decide) : gI s65 108 = gI s50 108), (q_Ii e65 (by decide) : gI s65 61 = gI s50 61), (q_Ii e65 (by decide) : gI s65 109 = gI s50 109), (q_Ii e65 (by decide) : gI s65 111 = gI s50 111), (q_II e65 : gI s65 107 = 0), e108, e61, k9]
    exact ⟨ha, fun q => by omega, Or.inl ⟨hend, rfl, c, rfl⟩⟩
  · have hlt : gI S 108 < gI S 61 ∧ r49 = gA S 4 (gI S 108).toNat := by
      rcases h49 with q | q
      · exact q
      · omega
    have hv : gI s50 111 = gA S 4 (gI S 108).toNat := k11.trans hlt.2
    refine pc_bq s_isL (fun r54 h54 => pc_rg (pc_if (fun c2 => pc_bq s_isD (fun r58 h58 => pc_rg (pc_if (fun c3 => pc_stn (fun s61 e61' => pc_stn (fun s62 e62 => ?_))) (fun c3 => pc_stn (fun s63 e63 => ?_))))) (fun c2 => pc_stn (fun s64 e64 => ?_))))
    · refine pc_mono (s_J251 ?_) (fun o ho => ⟨ho.1, ho.2.trans ((q_Ii e62 (by decide)).trans ((q_Ii e61' (by decide)).trans e108))⟩)
      unfold TK0
      have m : ∀ i, i ≠ 109 → i ≠ 107 → gI s62 i = gI s50 i := fun i h1 h2 => (q_Ii e62 h1).trans (q_Ii e61' h2)
      have m7 : gI s62 107 = 3 := (q_Ii e62 (by decide)).trans (q_II e61')
      have m9 : gI s62 109 = gI S 108 + 1 := by rw [(q_II e62 : gI s62 109 = _), (q_Ii e61' (by decide) : gI s61 109 = gI s50 109), k9]
      have m4 : gA s62 4 = gA S 4 := (q_Ia e62).trans ((q_Ia e61').trans (kA 4))
      rw [m 108 (by decide) (by decide), m 61 (by decide) (by decide), m 111 (by decide) (by decide), m7, m9, m4, e108, e61, hv]
      rw [hv] at h54 h58
      exact ⟨ha, hb, Or.inr ⟨hlt.1, rfl, by omega, by omega, Or.inr (Or.inr ⟨by omega, by omega, rfl, rfl⟩)⟩⟩
    · have q := s_L191 FU s63
      rw [(q_Ii e63 (by decide) : gI s63 108 = gI s50 108), (q_Ii e63 (by decide) : gI s63 61 = gI s50 61), (q_Ii e63 (by decide) : gI s63 109 = gI s50 109), (q_Ii e63 (by decide) : gI s63 111 = gI s50 111), (q_II e63 : gI s63 107 = 2), (q_Ia e63 : gA s63 4 = gA s50 4), kA 4, e108, e61, k9, hv] at q
      rw [hv] at h58
      exact q ⟨⟨ha.1.1, hlt.1⟩, ha.2⟩ (by omega) rfl rfl (by omega) (fun j h1 h2 => by omega)
    · have q := s_L120 FU s64 (W6_e W50 (q_Ia e64))
      rw [(q_Ii e64 (by decide) : gI s64 108 = gI s50 108), (q_Ii e64 (by decide) : gI s64 61 = gI s50 61), (q_Ii e64 (by decide) : gI s64 109 = gI s50 109), (q_Ii e64 (by decide) : gI s64 111 = gI s50 111), (q_II e64 : gI s64 107 = 1), (q_Ia e64 : gA s64 4 = gA s50 4), kA 4, e108, e61, k9, hv] at q
      rw [hv] at h54
      exact q ⟨⟨ha.1.1, hlt.1⟩, ha.2⟩ (by omega) rfl rfl (by omega) (fun j h1 h2 => by omega)
theorem s_adv {s : MS} (h0 : gI s 100 = 0) (hs : (0 ≤ gI s 109 ∧ gI s 109 ≤ gI s 61) ∧ gI s 61 ≤ 1600) (hW : W6 s) (hy : BY s) : pc (m_x6_advance s) (fun o => TK o ∧ Ru isB (gA s 4) (gI s 61) (gI s 109) (gI o 108)) := by
  have L16 : ∀ (n : Nat) (S : MS), gA S 4 = gA s 4 → gA S 6 = gA s 6 → gI S 61 = gI s 61 → (gI s 109 ≤ gI S 108 ∧ gI S 108 ≤ gI s 61) → (∀ j : Nat, gI s 109 ≤ (j : Int) → (j : Int) < gI S 108 → isB (gA s 4 j)) → pc (m_x6_advance_L16 n S) (fun o => TK o ∧ Ru isB (gA s 4) (gI s 61) (gI s 109) (gI o 108)) := by
    refine fr_ind (fun _ _ _ _ _ _ => pc_none) (fun n ih S h4 h6 h61 ha hr => ?_)
    show pc (m_x6_advance_b16 (m_x6_advance_L16 n) S) _
    unfold m_x6_advance_b16
    have fin : (gI S 108 < gI s 61 → ¬ isB (gA s 4 (gI S 108).toNat)) → pc (m_x6_advance_J61 S) (fun o => TK o ∧ Ru isB (gA s 4) (gI s 61) (gI s 109) (gI o 108)) := fun hx => by
      refine pc_mono (s_J61 (W6_e hW h6) (fun j hj => by rw [h4]; exact hy j (by omega)) (by omega) (by rw [h4, h61]; exact hx)) (fun o ho => ⟨ho.1, ?_⟩)
      rw [ho.2]
      exact ⟨ha, hr, hx⟩
    refine pc_rg (pc_rg (pc_if (fun c => fin (fun q => by omega)) (fun c => pc_rdI (fun _ => pc_bq s_isB (fun r72 h72 => pc_rg (pc_if (fun c2 => fin (fun _ => ?_)) (fun c2 => pc_stn (fun s75 e75 => ?_))))))))
    · rw [h4] at h72
      omega
    · have k8 : gI s75 108 = gI S 108 + 1 := q_II e75
      refine ih s75 ((q_Ia e75).trans h4) ((q_Ia e75).trans h6) ((q_Ii e75 (by decide)).trans h61) (by omega) (fun j h1 h2 => ?_)
      by_cases z : (j : Int) < gI S 108
      · exact hr j h1 z
      · rw [h4] at h72
        rw [show j = (gI S 108).toNat by omega]; omega
  unfold m_x6_advance
  refine pc_rg (pc_if (fun c => pc_stn (fun s78 e78 => ?_)) (fun c => absurd h0 c))
  have k8 : gI s78 108 = gI s 109 := q_II e78
  exact L16 FU s78 (q_Ia e78) (q_Ia e78) (q_Ii e78 (by decide)) (by omega) (fun j h1 h2 => by omega)
/-! ===== both readers at the same place ===== -/
def wql : List Nat := 27 :: 28 :: 29 :: 30 :: 31 :: 32 :: 23 :: 22 :: 21 :: 24 :: 25 :: 26 :: 13 :: 11 :: 12 :: 14 :: 15 :: 16 :: 17 :: 18 :: 19 :: 20 :: []
def wqJ (i : Nat) : Nat := wql.getD i 0
/-- the reference's rows of words -/
def RWD (t : MS) : Prop := (∀ w, w < 27 → ∀ j, j < wl w → gA t (11 + w) j = wc w j) ∧ (∀ i, i < 22 → ∀ j, j < wl (wqJ i) → gA t (79 + i) j = wc (wqJ i) j)
theorem RWD_e {t o : MS} (h : RWD t) (e : ∀ k, (11 ≤ k ∧ k ≤ 37) ∨ (79 ≤ k ∧ k ≤ 100) → gA o k = gA t k) : RWD o := ⟨fun w hw j hj => by rw [e _ (by omega)]; exact h.1 w hw j hj, fun i hi j hj => by rw [e _ (by omega)]; exact h.2 i hi j hj⟩
/-- where the last word or number ended -/
def RE (f : Nat → Int) (t : MS) : Prop := gI t 4 ≤ gI t 2 ∧ (gI t 4 = gI t 2 ↔ GLU f (gI t 2))
/-- the same text -/
def TX (s t : MS) : Prop := gI t 3 = gI s 61 ∧ ∀ j : Nat, (j : Int) < gI s 61 → gA t 0 j = gA s 4 j
def SY (s t : MS) : Prop := TX s t ∧ (gI s 100 = 0 ∧ gI t 5 = 0) ∧ (TK s ∧ W6 s ∧ BY s) ∧ (0 ≤ gI t 2 ∧ Ru isB (gA s 4) (gI s 61) (gI t 2) (gI s 108)) ∧ RE (gA s 4) t ∧ RWD t
/-- the reference looks further, over blanks -/
theorem SY_at {s t o : MS} (h : SY s t) (kI : ∀ i, i ≠ 2 → gI o i = gI t i) (kA : ∀ k, gA o k = gA t k) (ha : gI t 2 ≤ gI o 2 ∧ gI o 2 ≤ gI s 108) : SY s o := by
  obtain ⟨⟨h1, h2⟩, ⟨h3, h4⟩, h5, ⟨h6, h7⟩, ⟨h8, h9⟩, h10⟩ := h
  have r1 := h7.1
  refine ⟨⟨by rw [kI 3 (by decide)]; exact h1, fun j hj => by rw [kA]; exact h2 j hj⟩, ⟨h3, by rw [kI 5 (by decide)]; exact h4⟩, h5, ⟨by omega, ⟨⟨ha.2, r1.2⟩, fun j a b => h7.2.1 j (by omega) b, h7.2.2⟩⟩, ⟨by rw [kI 4 (by decide)]; omega, ?_⟩, RWD_e h10 (fun k _ => kA k)⟩
  rw [kI 4 (by decide)]
  by_cases z : gI o 2 = gI t 2
  · rw [z]; exact h9
  · have b := h7.2.1 (gI o 2 - 1).toNat (by omega) (by omega)
    exact ⟨fun q => by omega, fun q => by
      have q2 := q.2
      omega⟩
theorem y_look {s t : MS} (h : SY s t) : pc (m_x12_look t) (fun q => SY s q.2 ∧ gI q.2 2 = gI s 108 ∧ q.1 = gI s 111) := by
  have hT := h.1
  have hk := h.2.2.1.1
  have hr := h.2.2.2.1
  have r1 := hr.2.1
  have L : ∀ (n : Nat) (S : MS), (∀ i, i ≠ 2 → gI S i = gI t i) → (∀ k, gA S k = gA t k) → (gI t 2 ≤ gI S 2 ∧ gI S 2 ≤ gI s 108) → pc (m_x12_look_L0 n S) (fun q => SY s q.2 ∧ gI q.2 2 = gI s 108 ∧ q.1 = gI s 111) := by
    refine fr_ind (fun _ _ _ _ => pc_none) (fun n ih S kI kA ha => ?_)
    show pc (m_x12_look_b0 (m_x12_look_L0 n) S) _
    unfold m_x12_look_b0
    have e3 : gI S 3 = gI s 61 := (kI 3 (by decide)).trans hT.1
    have e0 : gA S 0 = gA t 0 := kA 0
    have fin : gI S 2 = gI s 108 → pc (m_x12_look_J52 S) (fun q => SY s q.2 ∧ gI q.2 2 = gI s 108 ∧ q.1 = gI s 111) := fun e => by
      unfold m_x12_look_J52 m_x12_look_J76
      refine pc_rg (pc_rg (pc_if (fun c => pc_some ⟨SY_at h kI kA ha, e, ?_⟩) (fun c => pc_rdI (fun _ => pc_some ⟨SY_at h kI kA ha, e, ?_⟩))))
      · rcases hk.2.2 with q | q
        · exact q.2.2.1.symm
        · omega
      · rcases hk.2.2 with q | q
        · omega
        · show gA S 0 (gI S 2).toNat = gI s 111
          rw [q.2.1, e0, e]; exact hT.2 _ (by omega)
    have nb : gI S 2 < gI s 61 → ¬ isB (gA t 0 (gI S 2).toNat) → gI S 2 = gI s 108 := fun a b => by
      by_cases z : gI S 2 < gI s 108
      · have q := hr.2.2.1 (gI S 2).toNat (by omega) (by omega)
        rw [hT.2 _ (by omega)] at b
        exact absurd q b
      · omega
    have bl : gI S 2 < gI s 61 → isB (gA t 0 (gI S 2).toNat) → pc (m_x12_look_J39 (m_x12_look_L0 n) S) (fun q => SY s q.2 ∧ gI q.2 2 = gI s 108 ∧ q.1 = gI s 111) := fun a b => by
      unfold m_x12_look_J39
      refine pc_stn (fun s10 e10 => ?_)
      have k2 : gI s10 2 = gI S 2 + 1 := q_II e10
      refine ih s10 (fun i hi => (q_Ii e10 hi).trans (kI i hi)) (fun k => (q_Ia e10).trans (kA k)) ⟨by omega, ?_⟩
      by_cases z : gI S 2 = gI s 108
      · exfalso
        rw [hT.2 _ (by omega), z] at b
        exact hr.2.2.2 (by omega) b
      · omega
    refine pc_rg (pc_rg (pc_if (fun c => fin (by omega)) (fun c => pc_rdI (fun _ => pc_rg (pc_if (fun c2 => bl (by omega) ?_) (fun c2 => pc_rdI (fun _ => pc_rg (pc_if (fun c3 => bl (by omega) ?_) (fun c3 => fin (nb (by omega) ?_))))))))))
    · rw [e0] at c2; exact Or.inl c2
    · rw [e0] at c3; exact Or.inr c3
    · rw [e0] at c2 c3; omega
  unfold m_x12_look
  exact L FU t (fun _ _ => rfl) (fun _ => rfl) ⟨by omega, r1.1⟩
/-- the sign at hand, in cases -/
theorem TK_sg {s : MS} (h : TK s) : (gI s 108 = gI s 61 ∧ gI s 111 = -1 ∧ gI s 107 = 0) ∨ (gI s 108 < gI s 61 ∧ gI s 111 = gA s 4 (gI s 108).toNat) := by
  rcases h.2.2 with q | q
  · exact Or.inl ⟨q.1, q.2.2.1, q.2.1⟩
  · exact Or.inr ⟨q.1, q.2.1⟩
theorem y_here {wid wn w : Nat} {s t : MS} (h : SY s t) (hw : w < 33) (hn : wn = wl w) (hr : ∀ j, j < wn → gA t wid j = wc w j) : pc (m_x12_isHere wid wn t) (fun q => SY s q.2 ∧ gI q.2 2 = gI s 108 ∧ ((q.1 = 1 ∧ gI s 107 = 1 ∧ gI s 110 = (w : Int)) ∨ (q.1 = 0 ∧ ¬ (gI s 107 = 1 ∧ gI s 110 = (w : Int))))) := by
  unfold m_x12_isHere m_x12_isHere_J28
  refine pc_rg (pc_if (fun c => pc_bn (fun q31 e31 => ?_)) (fun c => absurd h.2.1.2 c))
  obtain ⟨hS, h2, h1⟩ := y_look h q31 e31
  have F31 : F_x12_look t q31.2 := fr_x12_look e31
  obtain ⟨r31, S⟩ := q31
  dsimp only at hS h2 h1 F31 ⊢
  have hk := hS.2.2.1.1
  have hT := hS.1
  have k0' := hk.1
  have hw3 := F31.2.1 wid (by simp)
  refine pc_bq m_isL (fun r33 h33 => pc_rg (pc_if (fun c1 => pc_some ⟨hS, h2, Or.inr ⟨rfl, fun q => ?_⟩⟩) (fun c1 => ?_)))
  · rcases hk.2.2 with g | ⟨g1, g2, _, _, g⟩
    · omega
    · rcases g with ⟨a, _⟩ | ⟨_, _, g⟩ | ⟨_, _, _, g⟩
      · omega
      · rcases g with ⟨_, g⟩ | ⟨_, g⟩ <;> omega
      · omega
  · have hl : isL r31 := by omega
    rcases hk.2.2 with g | ⟨g1, g2, g3, g4, g⟩
    · omega
    · rcases g with ⟨a, ru, hwd, kg⟩ | ⟨a, _⟩ | ⟨a, _⟩
      · have POST : ∀ y : Int, ((y = 1 ∧ gI s 107 = 1 ∧ gI s 110 = (w : Int)) ∨ (y = 0 ∧ ¬ (gI s 107 = 1 ∧ gI s 110 = (w : Int)))) → (fun q : Int × MS => SY s q.2 ∧ gI q.2 2 = gI s 108 ∧ ((q.1 = 1 ∧ gI s 107 = 1 ∧ gI s 110 = (w : Int)) ∨ (q.1 = 0 ∧ ¬ (gI s 107 = 1 ∧ gI s 110 = (w : Int))))) (y, S) := fun y hy => ⟨hS, h2, hy⟩
        refine pc_rg (pc_rg (pc_if (fun c2 => pc_some (POST 0 (Or.inr ⟨rfl, fun q => ?_⟩))) (fun c2 => ?_)))
        · have gl := (hS.2.2.2.2.1.2.1 c2.symm)
          rw [h2] at gl
          rcases kg with ⟨_, k⟩ | ⟨k, _⟩
          · omega
          · exact k gl
        · have ng : ¬ GLU (gA s 4) (gI s 108) := fun gl => c2 (by
            have := hS.2.2.2.2.1.2.2 (by rw [h2]; exact gl)
            omega)
          have k1 : gI s 107 = 1 := by
            rcases kg with ⟨k, _⟩ | ⟨_, k⟩
            · exact absurd k ng
            · exact k
          have wm := hwd.2.2 w hw
          have rb := ru.1
          have L76 : gI s 109 - gI s 108 = (wn : Int) → ∀ (n : Nat) (x : Int), (0 ≤ x ∧ x ≤ (wn : Int)) → (∀ j : Nat, (j : Int) < x → gA s 4 ((gI s 108).toNat + j) = wc w j) → pc (m_x12_isHere_L76 wid wn n x S) (fun q => SY s q.2 ∧ gI q.2 2 = gI s 108 ∧ ((q.1 = 1 ∧ gI s 107 = 1 ∧ gI s 110 = (w : Int)) ∨ (q.1 = 0 ∧ ¬ (gI s 107 = 1 ∧ gI s 110 = (w : Int))))) := by
            intro hlen
            refine fr_ind (fun _ _ _ => pc_none) (fun n ih x hx hd => ?_)
            show pc (m_x12_isHere_b76 wid wn (m_x12_isHere_L76 wid wn n) x S) _
            unfold m_x12_isHere_b76
            refine pc_rg (pc_rg (pc_if (fun c3 => pc_some (POST 1 (Or.inl ⟨rfl, k1, wm.2 ⟨by omega, fun j hj => hd j (by omega)⟩⟩))) (fun c3 => pc_rdI (fun _ => pc_rdI (fun _ => pc_rg (pc_rg (pc_if (fun c4 => ih (x + 1) (by omega) (fun j hj => ?_)) (fun c4 => pc_some (POST 0 (Or.inr ⟨rfl, fun q => c4 ?_⟩))))))))))
            · by_cases z : (j : Int) < x
              · exact hd j z
              · rw [hw3, show x.toNat = j by omega, hr j (by omega), h2, show (gI s 108 + x).toNat = (gI s 108).toNat + j by omega, hT.2 _ (by omega)] at c4
                exact c4
            · have m := (wm.1 q.2).2 x.toNat (by omega)
              rw [hw3, hr x.toNat (by omega), h2, show (gI s 108 + x).toNat = (gI s 108).toNat + x.toNat by omega, hT.2 _ (by omega)]
              exact m
          have J61 : pc (m_x12_isHere_J61 wid wn (gI s 109) S) (fun q => SY s q.2 ∧ gI q.2 2 = gI s 108 ∧ ((q.1 = 1 ∧ gI s 107 = 1 ∧ gI s 110 = (w : Int)) ∨ (q.1 = 0 ∧ ¬ (gI s 107 = 1 ∧ gI s 110 = (w : Int))))) := by
            unfold m_x12_isHere_J61
            rw [h2]
            refine pc_rg (pc_rg (pc_if (fun c3 => L76 c3 FU 0 (by omega) (fun j hj => by omega)) (fun c3 => pc_some (POST 0 (Or.inr ⟨rfl, fun q => c3 ?_⟩)))))
            have m := (wm.1 q.2).1
            omega
          have L35 : ∀ (n : Nat) (x : Int), (gI s 108 ≤ x ∧ x ≤ gI s 109) → pc (m_x12_isHere_L35 wid wn n x S) (fun q => SY s q.2 ∧ gI q.2 2 = gI s 108 ∧ ((q.1 = 1 ∧ gI s 107 = 1 ∧ gI s 110 = (w : Int)) ∨ (q.1 = 0 ∧ ¬ (gI s 107 = 1 ∧ gI s 110 = (w : Int))))) := by
            refine fr_ind (fun _ _ => pc_none) (fun n ih x hx => ?_)
            show pc (m_x12_isHere_b35 wid wn (m_x12_isHere_L35 wid wn n) x S) _
            unfold m_x12_isHere_b35
            have e3 := hT.1
            have at_b : x = gI s 109 → pc (m_x12_isHere_J61 wid wn x S) (fun q => SY s q.2 ∧ gI q.2 2 = gI s 108 ∧ ((q.1 = 1 ∧ gI s 107 = 1 ∧ gI s 110 = (w : Int)) ∨ (q.1 = 0 ∧ ¬ (gI s 107 = 1 ∧ gI s 110 = (w : Int))))) := fun e => by rw [e]; exact J61
            refine pc_rg (pc_rg (pc_if (fun c3 => at_b (by omega)) (fun c3 => pc_rdI (fun _ => pc_bq m_isL (fun r23 h23 => pc_rg (pc_if (fun c4 => at_b ?_) (fun c4 => ih (x + 1) ⟨by omega, ?_⟩)))))))
            · rw [hT.2 _ (by omega)] at h23
              by_cases z : x < gI s 109
              · have q := ru.2.1 x.toNat (by omega) (by omega)
                omega
              · omega
            · rw [hT.2 _ (by omega)] at h23
              by_cases z : x = gI s 109
              · have q := ru.2.2 (by omega)
                rw [z] at h23
                omega
              · omega
          rw [h2]
          exact L35 FU (gI s 108) ⟨by omega, by omega⟩
      · omega
      · omega
/-- the reference has taken what the class has at hand -/
def NX (s t : MS) : Prop := TX s t ∧ (gI s 100 = 0 ∧ gI t 5 = 0) ∧ (TK s ∧ W6 s ∧ BY s) ∧ gI t 2 = gI s 109 ∧ RE (gA s 4) t ∧ RWD t
theorem y_adv {s t : MS} (h : NX s t) : pc (m_x6_advance s) (fun o => SY o t ∧ gI s 109 ≤ gI o 108) := by
  obtain ⟨h1, h2, ⟨h3, h4, h5⟩, h6, h7, h8⟩ := h
  have k1 := h3.1
  have b9 : 0 ≤ gI s 109 ∧ gI s 109 ≤ gI s 61 := by
    rcases h3.2.2 with q | q
    · omega
    · omega
  intro o e
  obtain ⟨a1, a2⟩ := s_adv h2.1 ⟨b9, k1.2⟩ h4 h5 o e
  have F : F_x6_advance s o := fr_x6_advance e
  have f4 : gA o 4 = gA s 4 := F.2.1 4 (by decide)
  have f61 : gI o 61 = gI s 61 := F.1 61 (by decide)
  refine ⟨⟨⟨h1.1.trans f61.symm, fun j hj => by rw [f4]; exact h1.2 j (by omega)⟩, ⟨(F.1 100 (by decide)).trans h2.1, h2.2⟩, ⟨a1, W6_e h4 (F.2.1 6 (by decide)), fun j hj => by rw [f4]; exact h5 j (by omega)⟩, ⟨by omega, ?_⟩, by rw [f4]; exact h7, h8⟩, a2.1.1⟩
  rw [f4, f61, h6]; exact a2
theorem y_takes {wid wn w : Nat} {s t : MS} (h : SY s t) (hw : w < 33) (hn : wn = wl w) (hr : ∀ j, j < wn → gA t wid j = wc w j) : pc (m_x12_takes wid wn t) (fun q => (q.1 = 1 ∧ gI s 107 = 1 ∧ gI s 110 = (w : Int) ∧ NX s q.2) ∨ (q.1 = 0 ∧ ¬ (gI s 107 = 1 ∧ gI s 110 = (w : Int)) ∧ SY s q.2 ∧ gI q.2 2 = gI s 108)) := by
  unfold m_x12_takes
  refine pc_bq (y_here h hw hn hr) (fun q3 h3 => ?_)
  obtain ⟨r3, S⟩ := q3
  obtain ⟨hS, h2, h3⟩ := h3
  dsimp only at hS h2 h3 ⊢
  refine pc_rg (pc_if (fun c => pc_some (Or.inr ⟨rfl, ?_, hS, h2⟩)) (fun c => pc_stn (fun s6 e6 => pc_stn (fun s7 e7 => pc_some (Or.inl ⟨rfl, ?_⟩)))))
  · rcases h3 with q | q
    · omega
    · exact q.2
  · obtain ⟨k1, k2⟩ : gI s 107 = 1 ∧ gI s 110 = (w : Int) := by
      rcases h3 with q | q
      · exact q.2
      · exact absurd q.1 c
    refine ⟨k1, k2, ?_⟩
    show NX s s7
    have hk := hS.2.2.1.1
    have kI : ∀ i, i ≠ 2 → i ≠ 4 → gI s7 i = gI S i := fun i a b => (q_Ii e7 b).trans (q_Ii e6 a)
    have kA : ∀ k, gA s7 k = gA S k := fun k => (q_Ia e7).trans (q_Ia e6)
    have e62 : gI s6 2 = gI S 2 + (wn : Int) := q_II e6
    have k72 : gI s7 2 = gI S 2 + (wn : Int) := (q_Ii e7 (by decide)).trans e62
    have k74 : gI s7 4 = gI s7 2 := by rw [(q_II e7 : gI s7 4 = gI s6 2), (q_Ii e7 (by decide) : gI s7 2 = gI s6 2)]
    rcases hk.2.2 with g | ⟨g1, g2, g3, g4, g⟩
    · omega
    · rcases g with ⟨a, ru, hwd, kg⟩ | ⟨_, _, kg⟩ | ⟨_, _, _, kg⟩
      · have m := ((hwd.2.2 w hw).1 k2).1
        have e9 : gI s7 2 = gI s 109 := by omega
        have k1' := hk.1
        refine ⟨⟨(kI 3 (by decide) (by decide)).trans hS.1.1, fun j hj => by rw [kA]; exact hS.1.2 j hj⟩, ⟨hS.2.1.1, (kI 5 (by decide) (by decide)).trans hS.2.1.2⟩, hS.2.2.1, e9, ⟨by omega, fun _ => ⟨by omega, Or.inl ?_⟩, fun _ => k74⟩, RWD_e hS.2.2.2.2.2 (fun k _ => kA k)⟩
        exact ru.2.1 _ (by omega) (by omega)
      · rcases kg with ⟨_, q⟩ | ⟨_, q⟩ <;> omega
      · omega
theorem y_sign {p0 : Int} {s t : MS} (h : SY s t) (hp : 0 ≤ p0 ∧ ¬ isL p0 ∧ ¬ isD p0) : pc (m_x12_takesSign p0 t) (fun q => (q.1 = 1 ∧ gI s 107 = 3 ∧ gI s 111 = p0 ∧ NX s q.2) ∨ (q.1 = 0 ∧ ¬ (gI s 107 = 3 ∧ gI s 111 = p0) ∧ SY s q.2 ∧ gI q.2 2 = gI s 108)) := by
  unfold m_x12_takesSign m_x12_takesSign_J15
  refine pc_rg (pc_if (fun c => pc_bq (y_look h) (fun q6 h6 => ?_)) (fun c => absurd h.2.1.2 c))
  obtain ⟨r6, S⟩ := q6
  obtain ⟨hS, h2, h1⟩ := h6
  dsimp only at hS h2 h1 ⊢
  refine pc_rg (pc_rg (pc_if (fun c2 => pc_stn (fun s10 e10 => pc_some (Or.inl ⟨rfl, ?_⟩))) (fun c2 => pc_some (Or.inr ⟨rfl, fun q => c2 (by omega), hS, h2⟩))))
  have hk := hS.2.2.1.1
  have k1' := hk.1
  have k2 : gI s10 2 = gI S 2 + 1 := q_II e10
  rcases hk.2.2 with g | ⟨g1, g2, g3, g4, g⟩
  · omega
  · rcases g with ⟨a, _⟩ | ⟨a, _⟩ | ⟨a1, a2, a3, a4⟩
    · omega
    · omega
    · refine ⟨a4, by omega, ?_⟩
      show NX s s10
      refine ⟨⟨(q_Ii e10 (by decide)).trans hS.1.1, fun j hj => by rw [(q_Ia e10 : gA s10 0 = gA S 0)]; exact hS.1.2 j hj⟩, ⟨hS.2.1.1, (q_Ii e10 (by decide)).trans hS.2.1.2⟩, hS.2.2.1, by omega, ⟨?_, ?_⟩, RWD_e hS.2.2.2.2.2 (fun k _ => q_Ia e10)⟩
      · rw [(q_Ii e10 (by decide) : gI s10 4 = gI S 4)]
        have := hS.2.2.2.2.1.1
        omega
      · rw [(q_Ii e10 (by decide) : gI s10 4 = gI S 4)]
        have := hS.2.2.2.2.1.1
        refine ⟨fun q => by omega, fun q => ?_⟩
        have q2 := q.2
        rw [show (gI s10 2 - 1).toNat = (gI s 108).toNat by omega] at q2
        rcases q2 with q2 | q2
        · exact absurd q2 a1
        · exact absurd q2 a2
/-! ===== what both readers expect ===== -/
/-- the same fault at the same place -/
def BR (s t : MS) : Prop := gI s 100 ≠ 0 ∧ gI t 5 = gI s 100 ∧ gI t 6 = gI s 101
def RS (s t : MS) : Prop := SY s t ∨ BR s t
theorem BR_go {s s' t t' : MS} (h : BR s t) (f1 : FKp 100 101 s s') (f2 : FKp 5 6 t t') : BR s' t' := by
  have a := f1 h.1
  have b := f2 (by rw [h.2.1]; exact h.1)
  exact ⟨by rw [a.1]; exact h.1, by rw [b.1, a.1]; exact h.2.1, by rw [b.2, a.2]; exact h.2.2⟩
theorem s_fail {k p : Int} {s : MS} (h0 : gI s 100 = 0) : pc (m_x6_fail k p s) (fun q => gI q.2 100 = k ∧ gI q.2 101 = p) := by
  unfold m_x6_fail m_x6_fail_J22
  exact pc_rg (pc_if (fun c => pc_stn (fun s4 e4 => pc_stn (fun s5 e5 => pc_stn (fun s6 e6 => pc_some ⟨(q_Ii e6 (by decide)).trans ((q_Ii e5 (by decide)).trans (q_II e4)), (q_Ii e6 (by decide)).trans (q_II e5)⟩)))) (fun c => absurd h0 c))
theorem m_fail {k p : Int} {t : MS} (h0 : gI t 5 = 0) : pc (m_x12_fail k p t) (fun o => gI o 5 = k ∧ gI o 6 = p) := by
  unfold m_x12_fail
  exact pc_rg (pc_if (fun c => pc_stn (fun s3 e3 => pc_stn (fun s4 e4 => pc_some ⟨(q_Ii e4 (by decide)).trans (q_II e3), q_II e4⟩))) (fun c => absurd h0 c))
theorem BR_mk {k p : Int} {s t : MS} (hk : k ≠ 0) (a : gI s 100 = k ∧ gI s 101 = p) (b : gI t 5 = k ∧ gI t 6 = p) : BR s t := ⟨by rw [a.1]; exact hk, by rw [a.1]; exact b.1, by rw [a.2]; exact b.2⟩
theorem s_isWord {p0 : Int} {s : MS} : pc (m_x6_isWord p0 s) (fun r => (r = 1 ∧ gI s 107 = 1 ∧ gI s 110 = p0) ∨ (r = 0 ∧ ¬ (gI s 107 = 1 ∧ gI s 110 = p0))) := by
  unfold m_x6_isWord m_x6_isWord_J20 m_x6_isWord_J21
  exact pc_rg (pc_if (fun c => pc_rg (pc_rg (pc_if (fun c2 => pc_bo (pc_some (Or.inl ⟨rfl, c, c2⟩))) (fun c2 => pc_bo (pc_some (Or.inr ⟨rfl, fun q => c2 q.2⟩)))))) (fun c => pc_bo (pc_some (Or.inr ⟨rfl, fun q => c q.1⟩))))
theorem s_isSign {p0 : Int} {s : MS} : pc (m_x6_isSign p0 s) (fun r => (r = 1 ∧ gI s 107 = 3 ∧ gI s 111 = p0) ∨ (r = 0 ∧ ¬ (gI s 107 = 3 ∧ gI s 111 = p0))) := by
  unfold m_x6_isSign m_x6_isSign_J20 m_x6_isSign_J21
  exact pc_rg (pc_if (fun c => pc_rg (pc_rg (pc_if (fun c2 => pc_bo (pc_some (Or.inl ⟨rfl, c, c2⟩))) (fun c2 => pc_bo (pc_some (Or.inr ⟨rfl, fun q => c2 q.2⟩)))))) (fun c => pc_bo (pc_some (Or.inr ⟨rfl, fun q => c q.1⟩))))
theorem s_expWord {p0 : Int} {s : MS} (h0 : gI s 100 = 0) : pc (m_x6_expectWord p0 s) (fun o => ((gI s 107 = 1 ∧ gI s 110 = p0) ∧ m_x6_advance s = some o) ∨ (¬ (gI s 107 = 1 ∧ gI s 110 = p0) ∧ gI o 100 = 1 ∧ gI o 101 = gI s 108)) := by
  unfold m_x6_expectWord m_x6_expectWord_J25
  refine pc_bq s_isWord (fun r3 h3 => pc_rg (pc_if (fun c => pc_bq (s_fail h0) (fun q8 h8 => pc_some (Or.inr ⟨?_, h8⟩))) (fun c => pc_bn (fun s10 e10 => pc_some (Or.inl ⟨?_, e10⟩)))))
  · rcases h3 with q | q
    · omega
    · exact q.2
  · rcases h3 with q | q
    · exact q.2
    · exact absurd q.1 c
theorem s_expSign {p0 : Int} {s : MS} (h0 : gI s 100 = 0) : pc (m_x6_expectSign p0 s) (fun o => ((gI s 107 = 3 ∧ gI s 111 = p0) ∧ m_x6_advance s = some o) ∨ (¬ (gI s 107 = 3 ∧ gI s 111 = p0) ∧ gI o 100 = 1 ∧ gI o 101 = gI s 108)) := by
  unfold m_x6_expectSign m_x6_expectSign_J25
  refine pc_bq s_isSign (fun r3 h3 => pc_rg (pc_if (fun c => pc_bq (s_fail h0) (fun q8 h8 => pc_some (Or.inr ⟨?_, h8⟩))) (fun c => pc_bn (fun s10 e10 => pc_some (Or.inl ⟨?_, e10⟩)))))
  · rcases h3 with q | q
    · omega
    · exact q.2
  · rcases h3 with q | q
    · exact q.2
    · exact absurd q.1 c
theorem y_expWord {wid wn w : Nat} {s s' t : MS} (h : SY s t) (hw : w < 33) (hn : wn = wl w) (hr : ∀ j, j < wn → gA t wid j = wc w j) (e : m_x6_expectWord (w : Int) s = some s') : pc (m_x12_asks wid wn t) (fun o => RS s' o) := by
  have hs := s_expWord h.2.1.1 s' e
  unfold m_x12_asks m_x12_asks_J24
  refine pc_rg (pc_if (fun c => pc_bq (y_takes h hw hn hr) (fun q6 h6 => pc_rg (pc_if (fun c2 => ?_) (fun c2 => pc_some ?_)))) (fun c => absurd h.2.1.2 c))
  · rcases h6 with g | ⟨_, g2, g3, g4⟩
    · omega
    · refine pc_bq (m_fail g3.2.1.2) (fun s10 h10 => pc_some (Or.inr ?_))
      rw [g4] at h10
      rcases hs with q | q
      · exact absurd q.1 g2
      · exact BR_mk (by decide) q.2 h10
  · rcases h6 with ⟨_, g2, g3, g4⟩ | g
    · rcases hs with q | q
      · exact Or.inl (y_adv g4 s' q.2).1
      · exact absurd ⟨g2, g3⟩ q.1
    · exact absurd g.1 c2
theorem y_expSign {p0 : Int} {s s' t : MS} (h : SY s t) (hp : 0 ≤ p0 ∧ ¬ isL p0 ∧ ¬ isD p0) (e : m_x6_expectSign p0 s = some s') : pc (m_x12_asksSign p0 t) (fun o => RS s' o) := by
  have hs := s_expSign h.2.1.1 s' e
  unfold m_x12_asksSign m_x12_asksSign_J24
  refine pc_rg (pc_if (fun c => pc_bq (y_sign h hp) (fun q6 h6 => pc_rg (pc_if (fun c2 => ?_) (fun c2 => pc_some ?_)))) (fun c => absurd h.2.1.2 c))
  · rcases h6 with g | ⟨_, g2, g3, g4⟩
    · omega
    · refine pc_bq (m_fail g3.2.1.2) (fun s10 h10 => pc_some (Or.inr ?_))
      rw [g4] at h10
      rcases hs with q | q
      · exact absurd q.1 g2
      · exact BR_mk (by decide) q.2 h10
  · rcases h6 with ⟨_, g2, g3, g4⟩ | g
    · rcases hs with q | q
      · exact Or.inl (y_adv g4 s' q.2).1
      · exact absurd ⟨g2, g3⟩ q.1
    · exact absurd g.1 c2
/-! ===== numbers ===== -/
theorem y_isIn {p0 p1 p2 : Int} {s : MS} : pc (m_x12_isIn p0 p1 p2 s) (fun r => (r = 1 ∧ p1 ≤ p0 ∧ p0 ≤ p2) ∨ (r = 0 ∧ (p0 < p1 ∨ p2 < p0))) := by
  unfold m_x12_isIn m_x12_isIn_J17 m_x12_isIn_J18
  exact pc_rgL (pc_rgL (pc_if (fun c => pc_bo (pc_some (Or.inr ⟨rfl, Or.inl c⟩))) (fun c => pc_rgL (pc_rgL (pc_if (fun c2 => pc_bo (pc_some (Or.inr ⟨rfl, Or.inr c2⟩))) (fun c2 => pc_bo (pc_some (Or.inl ⟨rfl, by omega, by omega⟩))))))))
def dvl (f : Nat → Int) (a : Nat) : Nat → Int
  | 0 => 0
  | k + 1 => 10 * dvl f a k + f (a + k) - 48
/-- what the number at hand is worth -/
def nvl (s : MS) : Int := dvl (gA s 4) (gI s 108).toNat (gI s 109 - gI s 108).toNat
theorem s_expNum {lo hi : Int} {s : MS} (h0 : gI s 100 = 0) (ha : 0 ≤ gI s 108 ∧ gI s 109 ≤ gI s 61) : pc (m_x6_expectNumber lo hi s) (fun q => (gI s 107 ≠ 2 ∧ gI q.2 100 = 1 ∧ gI q.2 101 = gI s 108) ∨ ((gI s 107 = 2 ∧ 4 < gI s 109 - gI s 108) ∧ gI q.2 100 = 1 ∧ gI q.2 101 = gI s 108 + 4) ∨ ((gI s 107 = 2 ∧ gI s 109 - gI s 108 ≤ 4) ∧ ((nvl s < lo ∨ hi < nvl s) ∧ gI q.2 100 = 2 ∧ gI q.2 101 = gI s 108)) ∨ ((gI s 107 = 2 ∧ gI s 109 - gI s 108 ≤ 4) ∧ (lo ≤ nvl s ∧ nvl s ≤ hi) ∧ q.1 = nvl s ∧ m_x6_advance s = some q.2)) := by
  have L : (gI s 107 = 2 ∧ gI s 109 - gI s 108 ≤ 4) → ∀ (n : Nat) (x8 x9 : Int) (k : Nat), x9 = gI s 108 + (k : Int) → (gI s 108 ≤ gI s 109 → x9 ≤ gI s 109) → (gI s 109 < gI s 108 → k = 0) → x8 = dvl (gA s 4) (gI s 108).toNat k → pc (m_x6_expectNumber_L55 n lo hi x8 x9 s) (fun q => (gI s 107 ≠ 2 ∧ gI q.2 100 = 1 ∧ gI q.2 101 = gI s 108) ∨ ((gI s 107 = 2 ∧ 4 < gI s 109 - gI s 108) ∧ gI q.2 100 = 1 ∧ gI q.2 101 = gI s 108 + 4) ∨ ((gI s 107 = 2 ∧ gI s 109 - gI s 108 ≤ 4) ∧ ((nvl s < lo ∨ hi < nvl s) ∧ gI q.2 100 = 2 ∧ gI q.2 101 = gI s 108)) ∨ ((gI s 107 = 2 ∧ gI s 109 - gI s 108 ≤ 4) ∧ (lo ≤ nvl s ∧ nvl s ≤ hi) ∧ q.1 = nvl s ∧ m_x6_advance s = some q.2)) := by
    intro hk
    refine fr_ind (fun _ _ _ _ _ _ _ => pc_none) (fun n ih x8 x9 k h9 hb hz h8 => ?_)
    show pc (m_x6_expectNumber_b55 (m_x6_expectNumber_L55 n) lo hi x8 x9 s) _
    unfold m_x6_expectNumber_b55 m_x6_expectNumber_J98
    refine pc_rg (pc_rg (pc_if (fun c => ?_) (fun c => pc_bq s_at (fun r23 h23 => ?_))))
    · have e : x8 = nvl s := by
        rw [h8]
        unfold nvl
        rw [show (gI s 109 - gI s 108).toNat = k by omega]
      rw [e]
      exact pc_rg (pc_rg (pc_if (fun c2 => pc_bq (s_fail h0) (fun q5 h5 => pc_some (Or.inr (Or.inr (Or.inl ⟨hk, Or.inl c2, h5⟩))))) (fun c2 => pc_rg (pc_rg (pc_if (fun c3 => pc_bn (fun s21 e21 => pc_some (Or.inr (Or.inr (Or.inr ⟨hk, ⟨by omega, c3⟩, rfl, e21⟩))))) (fun c3 => pc_bq (s_fail h0) (fun q5 h5 => pc_some (Or.inr (Or.inr (Or.inl ⟨hk, Or.inr (by omega), h5⟩))))))))))
    · have e23 : r23 = gA s 4 ((gI s 108).toNat + k) := by
        rcases h23 with q | q
        · rw [q.2, show x9.toNat = (gI s 108).toNat + k by omega]
        · omega
      refine ih _ _ (k + 1) (by omega) (fun _ => by omega) (fun q => by omega) ?_
      rw [h8, e23]
      show _ = 10 * dvl (gA s 4) (gI s 108).toNat k + gA s 4 ((gI s 108).toNat + k) - 48
      omega
  unfold m_x6_expectNumber
  exact pc_rg (pc_if (fun c => pc_rg (pc_if (fun c2 => L ⟨c, c2⟩ FU 0 (gI s 108) 0 (by omega) (fun q => q) (fun _ => rfl) rfl) (fun c2 => pc_bq (s_fail h0) (fun q30 h30 => pc_some (Or.inr (Or.inl ⟨⟨c, by omega⟩, h30⟩)))))) (fun c => pc_bq (s_fail h0) (fun q33 h33 => pc_some (Or.inl ⟨c, h33⟩))))
theorem y_num {lo hi : Int} {s t : MS} (h : SY s t) (hR : R8 lo ∧ R8 hi) : pc (m_x12_number lo hi t) (fun q => (gI s 107 ≠ 2 ∧ gI q.2 5 = 1 ∧ gI q.2 6 = gI s 108) ∨ ((gI s 107 = 2 ∧ 4 < gI s 109 - gI s 108) ∧ gI q.2 5 = 1 ∧ gI q.2 6 = gI s 108 + 4) ∨ ((gI s 107 = 2 ∧ gI s 109 - gI s 108 ≤ 4) ∧ ((nvl s < lo ∨ hi < nvl s) ∧ gI q.2 5 = 2 ∧ gI q.2 6 = gI s 108)) ∨ ((gI s 107 = 2 ∧ gI s 109 - gI s 108 ≤ 4) ∧ (lo ≤ nvl s ∧ nvl s ≤ hi) ∧ q.1 = nvl s ∧ NX s q.2)) := by
  unfold m_x12_number
  refine pc_rg (pc_if (fun c => pc_bq (y_look h) (fun q45 h45 => ?_)) (fun c => absurd h.2.1.2 c))
  obtain ⟨r45, S⟩ := q45
  obtain ⟨hS, h2, h1⟩ := h45
  dsimp only at hS h2 h1 ⊢
  have hk := hS.2.2.1.1
  have k1' := hk.1
  have hT := hS.1
  have J30 : gI s 107 ≠ 2 → pc (m_x12_number_J30 S) (fun q => (gI s 107 ≠ 2 ∧ gI q.2 5 = 1 ∧ gI q.2 6 = gI s 108) ∨ ((gI s 107 = 2 ∧ 4 < gI s 109 - gI s 108) ∧ gI q.2 5 = 1 ∧ gI q.2 6 = gI s 108 + 4) ∨ ((gI s 107 = 2 ∧ gI s 109 - gI s 108 ≤ 4) ∧ ((nvl s < lo ∨ hi < nvl s) ∧ gI q.2 5 = 2 ∧ gI q.2 6 = gI s 108)) ∨ ((gI s 107 = 2 ∧ gI s 109 - gI s 108 ≤ 4) ∧ (lo ≤ nvl s ∧ nvl s ≤ hi) ∧ q.1 = nvl s ∧ NX s q.2)) := fun hn => by
    unfold m_x12_number_J30
    refine pc_bq (m_fail hS.2.1.2) (fun s40 h40 => pc_some (Or.inl ⟨hn, ?_⟩))
    rw [h2] at h40
    exact h40
  refine pc_bq m_isD (fun r47 h47 => pc_rg (pc_if (fun c1 => J30 ?_) (fun c1 => pc_rg (pc_rg (pc_if (fun c2 => J30 ?_) (fun c2 => ?_))))))
  · rcases hk.2.2 with g | ⟨g1, g2, _, _, g⟩
    · omega
    · rcases g with ⟨_, _, _, g⟩ | ⟨a, _⟩ | ⟨_, _, _, g⟩
      · rcases g with ⟨_, g⟩ | ⟨_, g⟩ <;> omega
      · omega
      · omega
  · have gl := hS.2.2.2.2.1.2.1 c2.symm
    rw [h2] at gl
    rcases hk.2.2 with g | ⟨g1, g2, _, _, g⟩
    · omega
    · rcases g with ⟨_, _, _, g⟩ | ⟨_, _, g⟩ | ⟨_, _, _, g⟩
      · rcases g with ⟨_, g⟩ | ⟨_, g⟩ <;> omega
      · rcases g with ⟨_, g⟩ | ⟨g, _⟩
        · omega
        · exact absurd gl g
      · omega
  · have ng : ¬ GLU (gA s 4) (gI s 108) := fun gl => c2 (by
      have := hS.2.2.2.2.1.2.2 (by rw [h2]; exact gl)
      omega)
    rcases hk.2.2 with g | ⟨g1, g2, g3, g4, g⟩
    · omega
    · rcases g with ⟨a, _⟩ | ⟨_, ru, g⟩ | ⟨_, a, _⟩
      · omega
      · have k2 : gI s 107 = 2 := by
          rcases g with ⟨q, _⟩ | ⟨_, q⟩
          · exact absurd q ng
          · exact q
        have rb := ru.1
        have L49 : ∀ (n : Nat) (x22 : Int) (X : MS) (k : Nat), (∀ i, i ≠ 2 → gI X i = gI S i) → (∀ i, gA X i = gA S i) → gI X 2 = gI s 108 + (k : Int) → gI X 2 ≤ gI s 109 → k ≤ 4 → x22 = dvl (gA s 4) (gI s 108).toNat k → pc (m_x12_number_L49 n lo hi (gI s 108) x22 X) (fun q => (gI s 107 ≠ 2 ∧ gI q.2 5 = 1 ∧ gI q.2 6 = gI s 108) ∨ ((gI s 107 = 2 ∧ 4 < gI s 109 - gI s 108) ∧ gI q.2 5 = 1 ∧ gI q.2 6 = gI s 108 + 4) ∨ ((gI s 107 = 2 ∧ gI s 109 - gI s 108 ≤ 4) ∧ ((nvl s < lo ∨ hi < nvl s) ∧ gI q.2 5 = 2 ∧ gI q.2 6 = gI s 108)) ∨ ((gI s 107 = 2 ∧ gI s 109 - gI s 108 ≤ 4) ∧ (lo ≤ nvl s ∧ nvl s ≤ hi) ∧ q.1 = nvl s ∧ NX s q.2)) := by
          refine fr_ind (fun _ _ _ _ _ _ _ _ _ => pc_none) (fun n ih x22 X k kI kA hx hxb hk4 hv => ?_)
          show pc (m_x12_number_b49 (m_x12_number_L49 n) lo hi (gI s 108) x22 X) _
          unfold m_x12_number_b49
          have e3 : gI X 3 = gI s 61 := (kI 3 (by decide)).trans hT.1
          have e0 : gA X 0 = gA S 0 := kA 0
          have fin : gI X 2 = gI s 109 → pc (m_x12_number_J129 lo hi (gI s 108) x22 X) (fun q => (gI s 107 ≠ 2 ∧ gI q.2 5 = 1 ∧ gI q.2 6 = gI s 108) ∨ ((gI s 107 = 2 ∧ 4 < gI s 109 - gI s 108) ∧ gI q.2 5 = 1 ∧ gI q.2 6 = gI s 108 + 4) ∨ ((gI s 107 = 2 ∧ gI s 109 - gI s 108 ≤ 4) ∧ ((nvl s < lo ∨ hi < nvl s) ∧ gI q.2 5 = 2 ∧ gI q.2 6 = gI s 108)) ∨ ((gI s 107 = 2 ∧ gI s 109 - gI s 108 ≤ 4) ∧ (lo ≤ nvl s ∧ nvl s ≤ hi) ∧ q.1 = nvl s ∧ NX s q.2)) := fun e9 => by
            have ev : x22 = nvl s := by
              rw [hv]
              unfold nvl
              rw [show (gI s 109 - gI s 108).toNat = k by omega]
            rw [ev]
            unfold m_x12_number_J129 m_x12_number_J164
            refine pc_stn (fun s8 e8 => pc_stn (fun s9 e9' => pc_rg (pc_rg (pc_rg (pc_bn (fun r14 e14 => ?_))))))
            have k9 : ∀ i, i ≠ 4 → i ≠ 10 → gI s9 i = gI X i := fun i a b => (q_Ii e9' b).trans (q_Ii e8 a)
            have k94 : gI s9 4 = gI X 2 := (q_Ii e9' (by decide)).trans (q_II e8)
            have kA9 : ∀ i, gA s9 i = gA S i := fun i => (q_Ia e9').trans ((q_Ia e8).trans (kA i))
            have h14 : (r14 = 1 ∧ lo ≤ nvl s ∧ nvl s ≤ hi) ∨ (r14 = 0 ∧ (nvl s < lo ∨ hi < nvl s)) := by
              have g : pc (m_x12_isIn (nvl s) lo hi s9) (fun r => (r = 1 ∧ lo ≤ nvl s ∧ nvl s ≤ hi) ∨ (r = 0 ∧ (nvl s < lo ∨ hi < nvl s))) := y_isIn
              exact g r14 e14
            refine pc_rg (pc_if (fun c3 => pc_bq (m_fail ((k9 5 (by decide) (by decide)).trans ((kI 5 (by decide)).trans hS.2.1.2))) (fun s18 h18 => pc_some (Or.inr (Or.inr (Or.inl ⟨⟨k2, by omega⟩, ?_, ?_⟩))))) (fun c3 => pc_some (Or.inr (Or.inr (Or.inr ⟨⟨k2, by omega⟩, ?_, rfl, ?_⟩)))))
            · rcases h14 with q | q
              · omega
              · exact q.2
            · rw [(q_II e9' : gI s9 10 = gI s 108)] at h18
              exact h18
            · rcases h14 with q | q
              · exact q.2
              · exact absurd q.1 c3
            · have k92 : gI s9 2 = gI s 109 := (k9 2 (by decide) (by decide)).trans e9
              show NX s s9
              refine ⟨⟨(k9 3 (by decide) (by decide)).trans e3, fun j hj => by rw [kA9]; exact hT.2 j hj⟩, ⟨hS.2.1.1, (k9 5 (by decide) (by decide)).trans ((kI 5 (by decide)).trans hS.2.1.2)⟩, hS.2.2.1, k92, ⟨by omega, fun _ => ⟨by omega, Or.inr ?_⟩, fun _ => by omega⟩, RWD_e hS.2.2.2.2.2 (fun i _ => kA9 i)⟩
              exact ru.2.1 _ (by omega) (by omega)
          refine pc_rg (pc_rg (pc_if (fun c3 => fin (by omega)) (fun c3 => pc_rdI (fun _ => pc_bq m_isD (fun r29 h29 => pc_rg (pc_if (fun c4 => fin ?_) (fun c4 => ?_)))))))
          · rw [e0, hT.2 _ (by omega)] at h29
            by_cases z : gI X 2 < gI s 109
            · have q := ru.2.1 (gI X 2).toNat (by omega) (by omega)
              omega
            · omega
          · rw [e0, hT.2 _ (by omega)] at h29
            have lt : gI X 2 < gI s 109 := by
              by_cases z : gI X 2 = gI s 109
              · have q := ru.2.2 (by omega)
                rw [z] at h29
                omega
              · omega
            refine pc_rg (pc_if (fun c5 => pc_bq (m_fail ((kI 5 (by decide)).trans hS.2.1.2)) (fun s37 h37 => pc_some (Or.inr (Or.inl ⟨⟨k2, by omega⟩, h37.1, by rw [h37.2]; omega⟩)))) (fun c5 => pc_rdI (fun _ => pc_stn (fun s35 e35 => ?_))))
            have k2' : gI s35 2 = gI X 2 + 1 := q_II e35
            refine ih _ s35 (k + 1) (fun i hi => (q_Ii e35 hi).trans (kI i hi)) (fun i => (q_Ia e35).trans (kA i)) (by omega) (by omega) (by omega) ?_
            rw [e0, hT.2 _ (by omega), hv, show (gI X 2).toNat = (gI s 108).toNat + k by omega]
            show _ = 10 * dvl (gA s 4) (gI s 108).toNat k + gA s 4 ((gI s 108).toNat + k) - 48
            omega
        rw [h2]
        exact L49 FU 0 S 0 (fun _ _ => rfl) (fun _ => rfl) (by omega) (by omega) (by omega) rfl
      · omega
/-- a number, on both sides -/
theorem y_expNum {lo hi r : Int} {s s' t : MS} (h : SY s t) (hR : R8 lo ∧ R8 hi) (e : m_x6_expectNumber lo hi s = some (r, s')) : pc (m_x12_number lo hi t) (fun q => RS s' q.2 ∧ (gI s' 100 = 0 → q.1 = r ∧ lo ≤ r ∧ r ≤ hi)) := by
  have k1 := h.2.2.1.1.1
  have b9 : 0 ≤ gI s 108 ∧ gI s 109 ≤ gI s 61 := by
    rcases h.2.2.1.1.2.2 with q | q
    · omega
    · omega
  have hs := s_expNum h.2.1.1 b9 (r, s') e
  dsimp only at hs
  refine pc_mono (y_num h hR) (fun q hq => ?_)
  rcases hq with ⟨a, b⟩ | ⟨a, b⟩ | ⟨a, a2, b⟩ | ⟨a, a2, b, b2⟩
  · rcases hs with ⟨_, d⟩ | ⟨c, _⟩ | ⟨c, _⟩ | ⟨c, _⟩
    · exact ⟨Or.inr (BR_mk (by decide) d b), fun z => by omega⟩
    · exact absurd c.1 a
    · exact absurd c.1 a
    · exact absurd c.1 a
  · rcases hs with ⟨c, _⟩ | ⟨_, d⟩ | ⟨c, _⟩ | ⟨c, _⟩
    · exact absurd a.1 c
    · exact ⟨Or.inr (BR_mk (by decide) d b), fun z => by omega⟩
    · omega
    · omega
  · rcases hs with ⟨c, _⟩ | ⟨c, _⟩ | ⟨_, _, d⟩ | ⟨_, c, _⟩
    · exact absurd a.1 c
    · omega
    · exact ⟨Or.inr (BR_mk (by decide) d b), fun z => by omega⟩
    · omega
  · rcases hs with ⟨c, _⟩ | ⟨c, _⟩ | ⟨_, c, _⟩ | ⟨_, c, d, d2⟩
    · exact absurd a.1 c
    · omega
    · omega
    · exact ⟨Or.inl (y_adv b2 s' d2).1, fun _ => ⟨by rw [b, d], by rw [d]; exact c⟩⟩
/-! ===== sums on both sides: what waits, what is told ===== -/
/-- a step of the class and one of the reference that mean the same -/
def cr (c d : Int) : Prop := (0 ≤ c ∧ (d = 1000 + c ∨ (c = 1 ∧ d = 13))) ∨ ((-12) ≤ c ∧ c ≤ -1 ∧ d = -c) ∨ (c = -13 ∧ d = 60) ∨ (c = -14 ∧ d = 61) ∨ (c = -113 ∧ d = 40) ∨ (c = -111 ∧ d = 41) ∨ (c = -112 ∧ d = 42) ∨ (c = -114 ∧ d = 43) ∨ (c = -115 ∧ d = 44) ∨ (c = -116 ∧ d = 45) ∨ (c = -117 ∧ d = 46) ∨ (c = -118 ∧ d = 47)
/-- what waits above b, the last one first -/
def SKr (f : Nat → Int) (b : Int) : Int → List Int → Prop
  | h, [] => h = b
  | h, k :: K => b < h ∧ f (h - 1).toNat = k ∧ SKr f b (h - 1) K
theorem SKr_le {f : Nat → Int} {b : Int} : ∀ {K : List Int} {h : Int}, SKr f b h K → b ≤ h := by
  intro K
  induction K with
  | nil => intro h H; have : h = b := H; omega
  | cons k K ih => intro h H; have := H.1; omega
theorem SKr_up {f : Nat → Int} {b v : Int} {i : Nat} (hb : 0 ≤ b) : ∀ {K : List Int} {h : Int}, SKr f b h K → h ≤ (i : Int) → SKr (upZ f i v) b h K := by
  intro K
  induction K with
  | nil => intro h H _; exact H
  | cons k K ih =>
    intro h H hi
    have h1 := H.1
    exact ⟨h1, by rw [upZ_n (by omega)]; exact H.2.1, ih H.2.2 (by omega)⟩
theorem SKr_push {f : Nat → Int} {b h v : Int} {K : List Int} (hb : 0 ≤ b) (H : SKr f b h K) : SKr (upZ f h.toNat v) b (h + 1) (v :: K) := by
  have h1 := SKr_le H
  refine ⟨by omega, by rw [show (h + 1 - 1).toNat = h.toNat by omega, upZ_s], ?_⟩
  rw [show h + 1 - 1 = h by omega]
  exact SKr_up hb H (by omega)
theorem SKr_top {f : Nat → Int} {b h k v : Int} {K : List Int} (hb : 0 ≤ b) (H : SKr f b h (k :: K)) : SKr (upZ f (h - 1).toNat v) b h (v :: K) := by
  have h1 := H.1
  exact ⟨h1, upZ_s _ _ _, SKr_up hb H.2.2 (by omega)⟩
/-- steps that the class has and the reference still lets wait -/
def ELr (f : Nat → Int) : Nat → List Int → Prop
  | _, [] => True
  | p, e :: E => cr (f p) e ∧ ELr f (p + 1) E
theorem ELr_up {f : Nat → Int} {v : Int} {i : Nat} : ∀ {E : List Int} {p : Nat}, ELr f p E → p + E.length ≤ i → ELr (upZ f i v) p E := by
  intro E
  induction E with
  | nil => intro p _ _; trivial
  | cons e E ih =>
    intro p H hi
    rw [List.length_cons] at hi
    exact ⟨by rw [upZ_n (by omega)]; exact H.1, ih H.2 (by omega)⟩
theorem ELr_app {f : Nat → Int} {x : Int} : ∀ {E : List Int} {p : Nat}, ELr f p E → cr (f (p + E.length)) x → ELr f p (E ++ [x]) := by
  intro E
  induction E with
  | nil => intro p _ h; exact ⟨h, trivial⟩
  | cons e E ih =>
    intro p H h
    rw [List.length_cons] at h
    exact ⟨H.1, ih H.2 (by rw [show p + 1 + E.length = p + (E.length + 1) by omega]; exact h)⟩
def CO (k0 : Int) (s t : MS) (E : List Int) : Prop := (gI s 941 = k0 + gI t 102 + (E.length : Int) ∧ 0 ≤ gI t 102 ∧ 0 ≤ k0) ∧ (∀ j : Nat, (j : Int) < gI t 102 → cr (gA s 48 (k0.toNat + j)) (gA t 101 j)) ∧ ELr (gA s 48) (k0 + gI t 102).toNat E
/-- both sides in a sum: K waits, E waits with the reference alone -/
def BS (b0 : Int) (f0 : Nat → Int) (t : MS) : Prop := gI t 106 = b0 ∧ ∀ j : Nat, (j : Int) < b0 → gA t 103 j = f0 j
theorem BS_e {b0 : Int} {f0 : Nat → Int} {t o : MS} (h : BS b0 f0 t) (k : gI o 106 = gI t 106) (kA : gA o 103 = gA t 103) : BS b0 f0 o := ⟨k.trans h.1, fun j hj => by rw [kA]; exact h.2 j hj⟩
def OPN (s t : MS) : Prop := (gI t 105 = gI s 106 ∧ gI s 106 ≤ 6) ∧ gI t 48 = gI s 105 ∧ (0 ≤ gI s 105 ∧ gI s 105 ≤ 3)
theorem OPN_e {s s' t o : MS} (h : OPN s t) (a : gI s' 106 = gI s 106) (b : gI s' 105 = gI s 105) (c : gI o 105 = gI t 105) (d : gI o 48 = gI t 48) : OPN s' o := by
  unfold OPN
  rw [a, b, c, d]; exact h
def REL (k0 b0 : Int) (f0 : Nat → Int) (s t : MS) (K E : List Int) : Prop := SY s t ∧ OPN s t ∧ ((0 ≤ gI t 106 ∧ (0 < gI t 106 → ¬ (1 ≤ gA t 103 (gI t 106 - 1).toNat ∧ gA t 103 (gI t 106 - 1).toNat ≤ 4))) ∧ SKr (gA t 103) (gI t 106) (gI t 104) (E ++ K)) ∧ CO k0 s t E ∧ gI s 941 ≤ gI s 108 ∧ BS b0 f0 t
theorem SY_f {s t o : MS} (h : SY s t) (k2 : gI o 2 = gI t 2) (k3 : gI o 3 = gI t 3) (k4 : gI o 4 = gI t 4) (k5 : gI o 5 = gI t 5) (kA : ∀ k, k = 0 ∨ (11 ≤ k ∧ k ≤ 37) ∨ (79 ≤ k ∧ k ≤ 100) → gA o k = gA t k) : SY s o := by
  obtain ⟨⟨h1, h2⟩, ⟨h3, h4⟩, h5, ⟨h6, h7⟩, h8, h10⟩ := h
  refine ⟨⟨by rw [k3]; exact h1, fun j hj => by rw [kA 0 (Or.inl rfl)]; exact h2 j hj⟩, ⟨h3, by rw [k5]; exact h4⟩, h5, ⟨by rw [k2]; exact h6, by rw [k2]; exact h7⟩, ?_, RWD_e h10 (fun k hk => kA k (Or.inr hk))⟩
  unfold RE
  rw [k2, k4]; exact h8
theorem TK_e {s o : MS} (h : TK s) (kI : ∀ i, i = 61 ∨ (107 ≤ i ∧ i ≤ 111) → gI o i = gI s i) (k4 : gA o 4 = gA s 4) : TK o := by
  unfold TK KG
  rw [kI 61 (by omega), kI 107 (by omega), kI 108 (by omega), kI 109 (by omega), kI 110 (by omega), kI 111 (by omega), k4]
  exact h
theorem SY_c {s o t : MS} (h : SY s t) (kI : ∀ i, i = 61 ∨ i = 100 ∨ (107 ≤ i ∧ i ≤ 111) → gI o i = gI s i) (k4 : gA o 4 = gA s 4) (k6 : gA o 6 = gA s 6) : SY o t := by
  obtain ⟨⟨h1, h2⟩, ⟨h3, h4⟩, ⟨h5, h5b, h5c⟩, h6, h8, h10⟩ := h
  refine ⟨⟨by rw [kI 61 (by omega)]; exact h1, fun j hj => by rw [k4]; rw [kI 61 (by omega)] at hj; exact h2 j hj⟩, ⟨by rw [kI 100 (by omega)]; exact h3, h4⟩, ⟨TK_e h5 (fun i hi => kI i (by omega)) k4, W6_e h5b k6, fun j hj => by rw [k4]; rw [kI 61 (by omega)] at hj; exact h5c j hj⟩, ?_, by rw [k4]; exact h8, h10⟩
  rw [k4, kI 61 (by omega), kI 108 (by omega)]; exact h6
/-- the reference moves, no more -/
theorem REL_2 {b0 : Int} {f0 : Nat → Int} {k0 : Int} {s t o : MS} {K E : List Int} (h : REL k0 b0 f0 s t K E) (hS : SY s o) (kI : ∀ i, 48 ≤ i → gI o i = gI t i) (kA : ∀ k, gA o k = gA t k) : REL k0 b0 f0 s o K E := by
  obtain ⟨_, h2, h3, h4, h5⟩ := h
  refine ⟨hS, OPN_e h2 rfl rfl (kI 105 (by decide)) (kI 48 (by decide)), by rw [kI 106 (by decide), kI 104 (by decide), kA]; exact h3, ?_, h5.1, BS_e h5.2 (kI 106 (by decide)) (kA 103)⟩
  unfold CO at h4 ⊢
  rw [kI 102 (by decide), kA]; exact h4
/-- the class goes on -/
theorem REL_adv {b0 : Int} {f0 : Nat → Int} {k0 : Int} {s s' t o : MS} {K E : List Int} (h : REL k0 b0 f0 s t K E) (hN : NX s o) (kI : ∀ i, 48 ≤ i → gI o i = gI t i) (kA : ∀ k, gA o k = gA t k) (e : m_x6_advance s = some s') : REL k0 b0 f0 s' o K E ∧ gI s 109 ≤ gI s' 108 := by
  have F : F_x6_advance s s' := fr_x6_advance e
  obtain ⟨hS, hp⟩ := y_adv hN s' e
  obtain ⟨h1, h2, h3, h4, h5⟩ := h
  have hk := h1.2.2.1.1
  have st : gI s 108 ≤ gI s 109 := by
    rcases hk.2.2 with q | q
    · omega
    · omega
  have h5' := h5.1
  refine ⟨⟨hS, OPN_e h2 (F.1 106 (by decide)) (F.1 105 (by decide)) (kI 105 (by decide)) (kI 48 (by decide)), by rw [kI 106 (by decide), kI 104 (by decide), kA]; exact h3, ?_, by rw [F.1 941 (by decide)]; omega, BS_e h5.2 (kI 106 (by decide)) (kA 103)⟩, hp⟩
  unfold CO at h4 ⊢
  rw [kI 102 (by decide), kA, F.1 941 (by decide), F.2.1 48 (by decide)]; exact h4
theorem y_code {v : Int} {t : MS} : pc (m_x12_qCode v t) (fun o => (gI o 102 = gI t 102 + 1 ∧ gA o 101 = upZ (gA t 101) (gI t 102).toNat v) ∧ (∀ i, i ≠ 102 → gI o i = gI t i) ∧ (∀ k, k ≠ 101 → gA o k = gA t k)) := by
  unfold m_x12_qCode
  refine pc_inb (pc_stn (fun s2 e2 => pc_stn (fun s3 e3 => pc_some ⟨⟨?_, (q_Ia e3).trans (q_AA e2)⟩, fun i hi => (q_Ii e3 hi).trans (q_Ai e2), fun k hk => (q_Ia e3).trans (q_Aa e2 hk)⟩)))
  rw [(q_II e3 : gI s3 102 = _), (q_Ai e2 : gI s2 102 = gI t 102)]
theorem s_add {c : Int} {s : MS} (h : gI s 941 < 1600) : pc (m_x0_add c s) (fun o => (gI o 941 = gI s 941 + 1 ∧ gA o 48 = upZ (gA s 48) (gI s 941).toNat c) ∧ (∀ i, i ≠ 941 → gI o i = gI s i) ∧ (∀ k, k ≠ 48 → gA o k = gA s k)) := by
  unfold m_x0_add m_x0_add_J30
  refine pc_rg (pc_if (fun c => by omega) (fun c => pc_inb (pc_stn (fun s5 e5 => pc_stn (fun s6 e6 => pc_some ⟨⟨?_, (q_Ia e6).trans (q_AA e5)⟩, fun i hi => (q_Ii e6 hi).trans (q_Ai e5), fun k hk => (q_Ia e6).trans (q_Aa e5 hk)⟩)))))
  rw [(q_II e6 : gI s6 941 = _), (q_Ai e5 : gI s5 941 = gI s 941)]
/-- the last one that waits is told -/
theorem y_drop {b0 : Int} {f0 : Nat → Int} {k0 e : Int} {s t : MS} {K E : List Int} (h : REL k0 b0 f0 s t K (e :: E)) : pc (m_x12_qDrops t) (fun o => REL k0 b0 f0 s o K E ∧ (gI o 106 = gI t 106 ∧ gA o 103 = gA t 103)) := by
  obtain ⟨h1, h2, ⟨h3, h3'⟩, ⟨⟨c1, c2, c3⟩, c4, c5⟩, h5⟩ := h
  rw [List.length_cons] at c1
  have hk : gI t 106 < gI t 104 ∧ gA t 103 (gI t 104 - 1).toNat = e ∧ SKr (gA t 103) (gI t 106) (gI t 104 - 1) (E ++ K) := h3'
  unfold m_x12_qDrops
  refine pc_stn (fun s1 e1 => pc_rdI (fun _ => pc_bq y_code (fun s4 h4 => pc_some ?_)))
  obtain ⟨⟨a1, a2⟩, a3, a4⟩ := h4
  have kI : ∀ i, i ≠ 102 → i ≠ 104 → gI s4 i = gI t i := fun i x y => (a3 i x).trans (q_Ii e1 y)
  have kA : ∀ k, k ≠ 101 → gA s4 k = gA t k := fun k x => (a4 k x).trans (q_Ia e1)
  have k104 : gI s4 104 = gI t 104 - 1 := (a3 104 (by decide)).trans (q_II e1)
  have k102 : gI s4 102 = gI t 102 + 1 := by rw [a1, (q_Ii e1 (by decide) : gI s1 102 = gI t 102)]
  have v : gA s1 103 (gI s1 104).toNat = e := by rw [(q_Ia e1 : gA s1 103 = gA t 103), (q_II e1 : gI s1 104 = _)]; exact hk.2.1
  have k101 : gA s4 101 = upZ (gA t 101) (gI t 102).toNat e := by rw [a2, v, (q_Ia e1 : gA s1 101 = gA t 101), (q_Ii e1 (by decide) : gI s1 102 = gI t 102)]
  refine ⟨⟨SY_f h1 (kI 2 (by decide) (by decide)) (kI 3 (by decide) (by decide)) (kI 4 (by decide) (by decide)) (kI 5 (by decide) (by decide)) (fun k hk => kA k (by omega)), OPN_e h2 rfl rfl (kI 105 (by decide) (by decide)) (kI 48 (by decide) (by decide)), by rw [kI 106 (by decide) (by decide), kA 103 (by decide), k104]; exact ⟨h3, hk.2.2⟩, ⟨⟨by omega, by omega, c3⟩, fun j hj => ?_, ?_⟩, h5.1, BS_e h5.2 (kI 106 (by decide) (by decide)) (kA 103 (by decide))⟩, kI 106 (by decide) (by decide), kA 103 (by decide)⟩
  · rw [k101]
    by_cases z : j = (gI t 102).toNat
    · rw [z, upZ_s, show k0.toNat + (gI t 102).toNat = (k0 + gI t 102).toNat by omega]; exact c5.1
    · rw [upZ_n z]; exact c4 j (by omega)
  · rw [k102, show (k0 + (gI t 102 + 1)).toNat = (k0 + gI t 102).toNat + 1 by omega]; exact c5.2
/-- one more waits -/
theorem REL_push {b0 : Int} {f0 : Nat → Int} {k0 x : Int} {s t o : MS} {K : List Int} (h : REL k0 b0 f0 s t K []) (hI : ∀ i, i ≠ 104 → gI o i = gI t i) (hA : ∀ k, k ≠ 103 → gA o k = gA t k) (h4 : gI o 104 = gI t 104 + 1) (h3 : gA o 103 = upZ (gA t 103) (gI t 104).toNat x) : REL k0 b0 f0 s o (x :: K) [] := by
  obtain ⟨h1, h2, ⟨⟨b1, b2⟩, b3⟩, c, h5⟩ := h
  have b3' : SKr (gA t 103) (gI t 106) (gI t 104) K := b3
  have le := SKr_le b3'
  refine ⟨SY_f h1 (hI 2 (by decide)) (hI 3 (by decide)) (hI 4 (by decide)) (hI 5 (by decide)) (fun k hk => hA k (by omega)), OPN_e h2 rfl rfl (hI 105 (by decide)) (hI 48 (by decide)), ?_, ?_, h5.1, (hI 106 (by decide)).trans h5.2.1, fun j hj => ?_⟩
  · rw [hI 106 (by decide), h4, h3]
    exact ⟨⟨b1, fun q => by rw [upZ_n (by omega)]; exact b2 q⟩, SKr_push b1 b3'⟩
  · unfold CO at c ⊢
    rw [hI 102 (by decide), hA 101 (by decide)]; exact c
  · have := h5.2.1
    rw [h3, upZ_n (by omega)]; exact h5.2.2 j hj
/-- the class tells a step that waits with the reference -/
theorem REL_add {b0 : Int} {f0 : Nat → Int} {k0 x c : Int} {s s' t : MS} {K E : List Int} (h : REL k0 b0 f0 s t (x :: K) E) (hc : cr c x) (hb : gI s 941 + 1 ≤ gI s 108) (e : m_x0_add c s = some s') : REL k0 b0 f0 s' t K (E ++ [x]) ∧ gI s' 941 = gI s 941 + 1 ∧ (∀ i, i ≠ 941 → gI s' i = gI s i) := by
  obtain ⟨h1, h2, ⟨b1, b3⟩, ⟨⟨c1, c2, c3⟩, c4, c5⟩, h5⟩ := h
  have k1 := h1.2.2.1.1.1
  obtain ⟨⟨a1, a2⟩, a3, a4⟩ := s_add (by omega) s' e
  refine ⟨⟨SY_c h1 (fun i hi => a3 i (by omega)) (a4 4 (by decide)) (a4 6 (by decide)), OPN_e h2 (a3 106 (by decide)) (a3 105 (by decide)) rfl rfl, ⟨b1, by rw [List.append_assoc]; exact b3⟩, ⟨⟨?_, c2, c3⟩, fun j hj => ?_, ?_⟩, by rw [a1, a3 108 (by decide)]; exact hb, h5.2⟩, a1, a3⟩
  · rw [a1, c1, List.length_append]
    show k0 + gI t 102 + (E.length : Int) + 1 = k0 + gI t 102 + ((E.length + 1 : Nat) : Int)
    omega
  · rw [a2, upZ_n (by omega)]; exact c4 j hj
  · refine ELr_app ?_ ?_
    · rw [a2]; exact ELr_up c5 (by omega)
    · rw [a2, show (k0 + gI t 102).toNat + E.length = (gI s 941).toNat by omega, upZ_s]; exact hc
/-- both sides tell a step -/
theorem CO_both {k0 c d : Int} {s s' t o : MS} (h : CO k0 s t []) (hc : cr c d) (a1 : gI s' 941 = gI s 941 + 1) (a2 : gA s' 48 = upZ (gA s 48) (gI s 941).toNat c) (r1 : gI o 102 = gI t 102 + 1) (r2 : gA o 101 = upZ (gA t 101) (gI t 102).toNat d) : CO k0 s' o [] := by
  obtain ⟨⟨c1, c2, c3⟩, c4, _⟩ := h
  have c1 : gI s 941 = k0 + gI t 102 + 0 := c1
  refine ⟨⟨?_, by omega, c3⟩, fun j hj => ?_, trivial⟩
  · rw [a1, r1, c1]
    show k0 + gI t 102 + 0 + 1 = k0 + (gI t 102 + 1) + ((0 : Nat) : Int)
    omega
  · rw [a2, r2]
    by_cases z : j = (gI t 102).toNat
    · rw [z, upZ_s, show k0.toNat + (gI t 102).toNat = (gI s 941).toNat by omega, upZ_s]; exact hc
    · rw [upZ_n z, upZ_n (by omega)]; exact c4 j (by omega)
theorem REL_mk {b0 : Int} {f0 : Nat → Int} {k0 : Int} {s s' t o : MS} {K E : List Int} (h : REL k0 b0 f0 s t K []) (hS : SY s' o) (ho : OPN s' o) (k6 : gI o 106 = gI t 106) (k4 : gI o 104 = gI t 104) (k3 : gA o 103 = gA t 103) (hC : CO k0 s' o []) (hb : gI s' 941 ≤ gI s' 108) : REL k0 b0 f0 s' o K [] := ⟨hS, ho, by rw [k6, k4, k3]; exact h.2.2.1, hC, hb, BS_e h.2.2.2.2.2 k6 k3⟩
/-- the bracket that is open last -/
def brj : List Int → Int
  | [] => -1
  | k :: K => if 20 ≤ k ∧ k ≤ 24 then k else brj K
def hdk : List Int → Int
  | [] => 0
  | k :: _ => k
theorem y_isBr {p0 : Int} {s : MS} : pc (m_x12_qIsBracket p0 s) (fun r => (r = 1 ∧ 20 ≤ p0 ∧ p0 ≤ 24) ∨ (r = 0 ∧ ¬ (20 ≤ p0 ∧ p0 ≤ 24))) := by
  unfold m_x12_qIsBracket m_x12_qIsBracket_J16 m_x12_qIsBracket_J17
  exact pc_rg (pc_if (fun c => pc_bo (pc_some (Or.inr ⟨rfl, by omega⟩))) (fun c => pc_rg (pc_if (fun c2 => pc_bo (pc_some (Or.inr ⟨rfl, by omega⟩))) (fun c2 => pc_bo (pc_some (Or.inl ⟨rfl, by omega, by omega⟩))))))
theorem y_bracket {t : MS} {L : List Int} (h0 : 0 ≤ gI t 106) (h : SKr (gA t 103) (gI t 106) (gI t 104) L) : pc (m_x12_qBracket t) (fun r => r = brj L) := by
  have LP : ∀ (n : Nat) (M : List Int) (x : Int), SKr (gA t 103) (gI t 106) (x + 1) M → pc (m_x12_qBracket_L7 t n x) (fun r => r = brj M) := by
    refine fr_ind (fun _ _ _ => pc_none) (fun n ih M x H => ?_)
    show pc (m_x12_qBracket_b7 t (m_x12_qBracket_L7 t n) x) _
    unfold m_x12_qBracket_b7 m_x12_qBracket_J33 m_x12_qBracket_J51
    cases M with
    | nil =>
      have e : x + 1 = gI t 106 := H
      exact pc_rg (pc_rg (pc_if (fun c => pc_rg (pc_rg (pc_if (fun c2 => pc_some rfl) (fun c2 => by omega)))) (fun c => by omega)))
    | cons k M =>
      have h1 : gI t 106 < x + 1 := H.1
      have h2 : gA t 103 (x + 1 - 1).toNat = k := H.2.1
      have h3 : SKr (gA t 103) (gI t 106) (x + 1 - 1) M := H.2.2
      rw [show x + 1 - 1 = x by omega] at h2 h3
      refine pc_rg (pc_rg (pc_if (fun c => by omega) (fun c => pc_rdI (fun _ => ?_))))
      rw [h2]
      refine pc_bq y_isBr (fun r13 h13 => pc_rg (pc_if (fun c2 => ?_) (fun c2 => pc_rg (pc_rg (pc_if (fun c3 => by omega) (fun c3 => pc_rdI (fun _ => pc_some ?_)))))))
      · refine pc_mono (ih M (x + -1) (by rw [show x + -1 + 1 = x by omega]; exact h3)) (fun r hr => ?_)
        rw [hr]
        show brj M = if 20 ≤ k ∧ k ≤ 24 then k else brj M
        rw [if_neg (by omega)]
      · show gA t 103 x.toNat = if 20 ≤ k ∧ k ≤ 24 then k else brj M
        rw [if_pos (by omega), h2]
  unfold m_x12_qBracket
  exact LP FU L (gI t 104 - 1) (by rw [show gI t 104 - 1 + 1 = gI t 104 by omega]; exact h)
theorem y_isOn {b0 : Int} {f0 : Nat → Int} {k0 p0 : Int} {s t : MS} {K E : List Int} (h : REL k0 b0 f0 s t K E) (hp : 1 ≤ p0 ∧ p0 ≤ 4) : pc (m_x12_qIsOn p0 t) (fun r => (r = 1 ∧ hdk (E ++ K) = p0) ∨ (r = 0 ∧ hdk (E ++ K) ≠ p0)) := by
  obtain ⟨⟨b1, b2⟩, b3⟩ := h.2.2.1
  unfold m_x12_qIsOn m_x12_qIsOn_J26 m_x12_qIsOn_J27
  cases hL : E ++ K with
  | nil =>
    rw [hL] at b3
    have e : gI t 104 = gI t 106 := b3
    refine pc_rg (pc_if (fun c => pc_bo (pc_some (Or.inr ⟨rfl, by show (0 : Int) ≠ p0; omega⟩))) (fun c => pc_rdI (fun _ => pc_rg (pc_rg (pc_if (fun c2 => ?_) (fun c2 => pc_bo (pc_some (Or.inr ⟨rfl, by show (0 : Int) ≠ p0; omega⟩))))))))
    exfalso
    have q := b2 (by omega)
    rw [e] at c2
    omega
  | cons k L =>
    rw [hL] at b3
    have h1 : gI t 106 < gI t 104 := b3.1
    have h2 : gA t 103 (gI t 104 - 1).toNat = k := b3.2.1
    refine pc_rg (pc_if (fun c => by omega) (fun c => pc_rdI (fun _ => pc_rg (pc_rg (pc_if (fun c2 => pc_bo (pc_some (Or.inl ⟨rfl, by show k = p0; omega⟩))) (fun c2 => pc_bo (pc_some (Or.inr ⟨rfl, by show k ≠ p0; omega⟩))))))))
/-- all that waits above the bracket is told -/
theorem y_dtb {b0 : Int} {f0 : Nat → Int} {k0 b : Int} {s : MS} {K : List Int} (hb : 20 ≤ b ∧ b ≤ 24) : ∀ (n : Nat) (E : List Int) (t : MS), REL k0 b0 f0 s t (b :: K) E → (∀ e, e ∈ E → ¬ (20 ≤ e ∧ e ≤ 24)) → pc (m_x12_qDropsToBracket_L0 n t) (fun o => REL k0 b0 f0 s o (b :: K) [] ∧ (gI o 106 = gI t 106 ∧ ∀ j : Nat, (j : Int) < gI o 104 → gA o 103 j = gA t 103 j)) := by
  refine fr_ind (fun _ _ _ _ => pc_none) (fun n ih E t h hE => ?_)
  show pc (m_x12_qDropsToBracket_b0 (m_x12_qDropsToBracket_L0 n) t) _
  unfold m_x12_qDropsToBracket_b0 m_x12_qDropsToBracket_J35
  obtain ⟨⟨b1, b2⟩, b3⟩ := h.2.2.1
  cases E with
  | nil =>
    have h1 : gI t 106 < gI t 104 := b3.1
    have h2 : gA t 103 (gI t 104 - 1).toNat = b := b3.2.1
    refine pc_rg (pc_rg (pc_if (fun c => by omega) (fun c => pc_rdI (fun _ => ?_))))
    rw [h2]
    exact pc_bq y_isBr (fun r8 h8 => pc_rg (pc_if (fun c2 => by omega) (fun c2 => pc_some ⟨h, rfl, fun _ _ => rfl⟩)))
  | cons e E =>
    have h1 : gI t 106 < gI t 104 := b3.1
    have h2 : gA t 103 (gI t 104 - 1).toNat = e := b3.2.1
    have he := hE e (List.mem_cons_self)
    refine pc_rg (pc_rg (pc_if (fun c => by omega) (fun c => pc_rdI (fun _ => ?_))))
    rw [h2]
    refine pc_bq y_isBr (fun r8 h8 => pc_rg (pc_if (fun c2 => pc_bq (y_drop h) (fun s12 h12 => ?_)) (fun c2 => by omega)))
    refine pc_mono (ih E s12 h12.1 (fun x hx => hE x (List.mem_cons_of_mem _ hx))) (fun o ho => ⟨ho.1, ho.2.1.trans h12.2.1, fun j hj => (ho.2.2 j hj).trans (by rw [h12.2.2])⟩)
/-- times or by: what binds as much is told first -/
theorem y_L162 {b0 : Int} {f0 : Nat → Int} {k0 x : Int} {s : MS} {K : List Int} (hK : ¬ (hdk K = 3 ∨ hdk K = 4)) : ∀ (n : Nat) (E : List Int) (t : MS), REL k0 b0 f0 s t K E → (∀ e, e ∈ E → e = 3 ∨ e = 4) → pc (m_x12_qGoesOn_L162 n x t) (fun q => q.1 = 1 ∧ REL k0 b0 f0 s q.2 (x :: K) []) := by
  refine fr_ind (fun _ _ _ _ => pc_none) (fun n ih E t h hE => ?_)
  show pc (m_x12_qGoesOn_b162 (m_x12_qGoesOn_L162 n) x t) _
  unfold m_x12_qGoesOn_b162 m_x12_qGoesOn_J178
  have drop : (hdk (E ++ K) = 3 ∨ hdk (E ++ K) = 4) → pc (bn (m_x12_qDrops t) (fun s48 => m_x12_qGoesOn_L162 n x s48)) (fun q => q.1 = 1 ∧ REL k0 b0 f0 s q.2 (x :: K) []) := fun hd => by
    cases E with
    | nil => exact absurd hd hK
    | cons e E => exact pc_bq (y_drop h) (fun s48 h48 => ih E s48 h48.1 (fun y hy => hE y (List.mem_cons_of_mem _ hy)))
  refine pc_bq (y_isOn h (by omega)) (fun r50 h50 => pc_rg (pc_if (fun c => pc_bq (y_isOn h (by omega)) (fun r54 h54 => pc_rg (pc_if (fun c2 => pc_inb (pc_stn (fun s58 e58 => pc_stn (fun s59 e59 => pc_some ⟨rfl, ?_⟩)))) (fun c2 => drop ?_)))) (fun c => drop ?_)))
  · have eE : E = [] := by
      cases E with
      | nil => rfl
      | cons e E =>
        have q := hE e (List.mem_cons_self)
        have : hdk (e :: E ++ K) = e := rfl
        omega
    subst eE
    exact REL_push h (fun i hi => (q_Ii e59 hi).trans (q_Ai e58)) (fun k hk => (q_Ia e59).trans (q_Aa e58 hk)) (by rw [(q_II e59 : gI s59 104 = _), (q_Ai e58 : gI s58 104 = gI t 104)]) ((q_Ia e59).trans (q_AA e58))
  · rcases h54 with q | q
    · exact Or.inr q.2
    · omega
  · rcases h50 with q | q
    · exact Or.inl q.2
    · omega
/-- plus or less: all steps of the sum at hand are told first -/
theorem y_L247 {b0 : Int} {f0 : Nat → Int} {k0 x : Int} {s : MS} {K : List Int} (hK : ¬ (1 ≤ hdk K ∧ hdk K ≤ 4)) : ∀ (n : Nat) (E : List Int) (t : MS), REL k0 b0 f0 s t K E → (∀ e, e ∈ E → 1 ≤ e ∧ e ≤ 4) → pc (m_x12_qGoesOn_L247 n x t) (fun q => q.1 = 1 ∧ REL k0 b0 f0 s q.2 (x :: K) []) := by
  refine fr_ind (fun _ _ _ _ => pc_none) (fun n ih E t h hE => ?_)
  show pc (m_x12_qGoesOn_b247 (m_x12_qGoesOn_L247 n) x t) _
  unfold m_x12_qGoesOn_b247 m_x12_qGoesOn_J279
  have drop : (1 ≤ hdk (E ++ K) ∧ hdk (E ++ K) ≤ 4) → pc (bn (m_x12_qDrops t) (fun s17 => m_x12_qGoesOn_L247 n x s17)) (fun q => q.1 = 1 ∧ REL k0 b0 f0 s q.2 (x :: K) []) := fun hd => by
    cases E with
    | nil => exact absurd hd hK
    | cons e E => exact pc_bq (y_drop h) (fun s17 h17 => ih E s17 h17.1 (fun y hy => hE y (List.mem_cons_of_mem _ hy)))
  refine pc_bq (y_isOn h (by omega)) (fun r19 h19 => pc_rg (pc_if (fun c => pc_bq (y_isOn h (by omega)) (fun r23 h23 => pc_rg (pc_if (fun c2 => pc_bq (y_isOn h (by omega)) (fun r27 h27 => pc_rg (pc_if (fun c3 => pc_bq (y_isOn h (by omega)) (fun r31 h31 => pc_rg (pc_if (fun c4 => pc_inb (pc_stn (fun s35 e35 => pc_stn (fun s36 e36 => pc_some ⟨rfl, ?_⟩)))) (fun c4 => drop ?_)))) (fun c3 => drop ?_)))) (fun c2 => drop ?_)))) (fun c => drop ?_)))
  · have eE : E = [] := by
      cases E with
      | nil => rfl
      | cons e E =>
        have q := hE e (List.mem_cons_self)
        have : hdk (e :: E ++ K) = e := rfl
        omega
    subst eE
    exact REL_push h (fun i hi => (q_Ii e36 hi).trans (q_Ai e35)) (fun k hk => (q_Ia e36).trans (q_Aa e35 hk)) (by rw [(q_II e36 : gI s36 104 = _), (q_Ai e35 : gI s35 104 = gI t 104)]) ((q_Ia e36).trans (q_AA e35))
  · rcases h31 with q | q <;> omega
  · rcases h27 with q | q <;> omega
  · rcases h23 with q | q <;> omega
  · rcases h19 with q | q <;> omega
/-! ===== the reference in a sum: ahead of a part, behind one ===== -/
def rSm (n : Nat) (x13 : Int) (q : Int × MS) : Option MS := rg q.1 (if q.1 = 0 then m_x12_qSums_J48 (m_x12_qSums_L15 n) x13 q.2 else m_x12_qSums_J49 (m_x12_qSums_L15 n) x13 1 q.2)
def aftP (n : Nat) (x13 : Int) (s26 : MS) : Option MS := rg (gI s26 5) (if (gI s26 5) = 0 then bn (m_x12_qGoesOn s26) (fun q => rSm n x13 q) else m_x12_qSums_J48 (m_x12_qSums_L15 n) x13 s26)
def QA (P : MS → Prop) (x13 : Int) : MS → Prop := fun s26 => ∀ n, pc (aftP n x13 s26) P
def QB (P : MS → Prop) (x13 : Int) : Int × MS → Prop := fun q => ∀ n, pc (rSm n x13 q) P
def PA (P : MS → Prop) (x13 : Int) (t : MS) : Prop := ∀ m, pc (m_x12_qPartTold_L2 m 1 t) (QA P x13)
def PB (P : MS → Prop) (x13 : Int) (t : MS) : Prop := ∀ m, pc (m_x12_qGoesOn_L0 m t) (QB P x13)
def PE (P : MS → Prop) (x13 : Int) (t : MS) : Prop := (∀ k, pc (m_x12_qEndsPart_L0 k t) (QA P x13)) ∧ (∀ m k, pc (m_x12_qEndsPart_L0 k t) (fun s106 => pc (m_x12_qGoesOn_L0 m s106) (QB P x13)))
section RB1
variable {P : MS → Prop} {x13 : Int} {t : MS}
theorem QA_PB (h0 : gI t 5 = 0) (h : PB P x13 t) : QA P x13 t := fun n => by
  unfold aftP
  refine pc_rg (pc_if (fun _ => ?_) (fun c => absurd h0 c))
  show pc (bn (m_x12_qGoesOn_L0 FU t) (fun q => rSm n x13 q)) P
  exact pc_bq (h FU) (fun q hq => hq n)
theorem L15_bad (n : Nat) (x : Int) (hP : ∀ o, FKp 5 6 t o → P o) : pc (m_x12_qSums_L15 n x13 x t) P := pc_mono (fk_x12_qSums_L15 n x13 x t (FKp.rf t)) hP
theorem QA_bad (h0 : gI t 5 ≠ 0) (hP : ∀ o, FKp 5 6 t o → P o) : QA P x13 t := fun n => by
  unfold aftP
  exact pc_rg (pc_if (fun c => absurd c h0) (fun _ => L15_bad n 0 hP))
theorem QB_bad {r : Int} (hP : ∀ o, FKp 5 6 t o → P o) : QB P x13 (r, t) := fun n => by
  unfold rSm
  exact pc_rg (pc_if (fun _ => L15_bad n 0 hP) (fun _ => L15_bad n 1 hP))
theorem FKp_ne {s o : MS} (h : FKp 5 6 s o) (h0 : gI s 5 ≠ 0) : gI o 5 ≠ 0 := by rw [(h h0).1]; exact h0
theorem PA_bad (h0 : gI t 5 ≠ 0) (hP : ∀ o, FKp 5 6 t o → P o) : PA P x13 t := fun m => pc_mono (fk_x12_qPartTold_L2 m 1 t (FKp.rf t)) (fun o ho => QA_bad (FKp_ne ho h0) (fun u hu => hP u (ho.tr hu)))
theorem PB_bad (hP : ∀ o, FKp 5 6 t o → P o) : PB P x13 t := fun m => pc_mono (fk_x12_qGoesOn_L0 m t (FKp.rf t)) (fun o ho => by
  obtain ⟨r, o⟩ := o
  exact QB_bad (fun u hu => hP u (FKp.tr ho hu)))
theorem PE_bad (h0 : gI t 5 ≠ 0) (hP : ∀ o, FKp 5 6 t o → P o) : PE P x13 t := ⟨fun k => pc_mono (fk_x12_qEndsPart_L0 k t (FKp.rf t)) (fun o ho => QA_bad (FKp_ne ho h0) (fun u hu => hP u (ho.tr hu))), fun m k => pc_mono (fk_x12_qEndsPart_L0 k t (FKp.rf t)) (fun o ho => PB_bad (fun u hu => hP u (ho.tr hu)) m)⟩
theorem QB_go (h0 : gI t 5 = 0) (h : PA P x13 t) : QB P x13 (1, t) := fun n => by
  unfold rSm
  refine pc_rg (pc_if (fun c => absurd c (show ¬ (1 : Int) = 0 by decide)) (fun _ => ?_))
  show pc (m_x12_qSums_L15 n x13 1 t) P
  cases n with
  | zero => exact pc_none
  | succ n =>
    show pc (m_x12_qSums_b15 (m_x12_qSums_L15 n) x13 1 t) P
    unfold m_x12_qSums_b15
    refine pc_rg (pc_if (fun c => absurd c (by decide)) (fun _ => pc_rg (pc_if (fun _ => ?_) (fun c => absurd h0 c))))
    exact pc_bq (h FU) (fun s26 hq => hq n)
end RB1
theorem BR_P {P : MS → Prop} {s t : MS} (h : BR s t) (hP : ∀ o, BR s o → P o) : ∀ o, FKp 5 6 t o → P o := fun o ho => hP o (BR_go h (FKp.rf s) ho)
/-- the sum has ended -/
def FIN (k0 b0 : Int) (f0 : Nat → Int) (s : MS) (x13 : Int) (o : MS) : Prop := SY s o ∧ OPN s o ∧ (gI o 106 = x13 ∧ gI o 104 = b0 ∧ ∀ j : Nat, (j : Int) < b0 → gA o 103 j = f0 j) ∧ CO k0 s o [] ∧ gI s 941 ≤ gI s 108
section RB2
variable {P : MS → Prop} {x13 : Int} {k0 b0 : Int} {f0 : Nat → Int} {s s' s'' : MS} {K E : List Int}
theorem y_L53 (hP : ∀ o, FIN k0 b0 f0 s x13 o → P o) : ∀ (n : Nat) (E : List Int) (t : MS), REL k0 b0 f0 s t [] E → pc (m_x12_qSums_L53 n x13 t) P := by
  refine fr_ind (fun _ _ _ => pc_none) (fun n ih E t h => ?_)
  show pc (m_x12_qSums_b53 (m_x12_qSums_L53 n) x13 t) _
  unfold m_x12_qSums_b53 m_x12_qSums_J78
  obtain ⟨⟨b1, b2⟩, b3⟩ := h.2.2.1
  refine pc_rg (pc_if (fun _ => ?_) (fun c => absurd h.1.2.1.2 c))
  cases E with
  | nil =>
    have e4 : gI t 104 = gI t 106 := b3
    refine pc_rg (pc_rg (pc_if (fun c => pc_stn (fun s3 e3 => pc_some (hP s3 ?_))) (fun c => by omega)))
    obtain ⟨h1, h2, _, h4, h5, h6⟩ := h
    have kI : ∀ i, i ≠ 106 → gI s3 i = gI t i := fun i hi => q_Ii e3 hi
    have kA : ∀ k, gA s3 k = gA t k := fun k => q_Ia e3
    refine ⟨SY_f h1 (kI 2 (by decide)) (kI 3 (by decide)) (kI 4 (by decide)) (kI 5 (by decide)) (fun k _ => kA k), OPN_e h2 rfl rfl (kI 105 (by decide)) (kI 48 (by decide)), ⟨q_II e3, ?_, fun j hj => by rw [kA]; exact h6.2 j hj⟩, ?_, h5⟩
    · rw [kI 104 (by decide), e4]; exact h6.1
    · unfold CO at h4 ⊢
      rw [kI 102 (by decide), kA]; exact h4
  | cons e E =>
    have h1 : gI t 106 < gI t 104 := b3.1
    exact pc_rg (pc_rg (pc_if (fun c => by omega) (fun c => pc_bq (y_drop h) (fun s12 h12 => ih E s12 h12.1))))
theorem QB_end {t : MS} (h : REL k0 b0 f0 s t [] E) (hP : ∀ o, FIN k0 b0 f0 s x13 o → P o) : QB P x13 (0, t) := fun n => by
  unfold rSm
  refine pc_rg (pc_if (fun _ => ?_) (fun c => absurd rfl c))
  show pc (m_x12_qSums_L15 n x13 0 t) P
  cases n with
  | zero => exact pc_none
  | succ n =>
    show pc (m_x12_qSums_b15 (m_x12_qSums_L15 n) x13 0 t) P
    unfold m_x12_qSums_b15
    exact pc_rg (pc_if (fun _ => y_L53 hP FU E t h) (fun c => absurd rfl c))
/-- looks, words, signs, with all that waits -/
theorem r_look {t : MS} (h : REL k0 b0 f0 s t K E) : pc (m_x12_look t) (fun q => REL k0 b0 f0 s q.2 K E ∧ gI q.2 2 = gI s 108 ∧ q.1 = gI s 111) := fun q e => by
  obtain ⟨a, b, c⟩ := y_look h.1 q e
  have F : F_x12_look t q.2 := fr_x12_look e
  exact ⟨REL_2 h a (fun i h2 => F.1 i (by simp; omega)) (fun k => F.2.1 k (by simp)), b, c⟩
theorem r_here {wid wn w : Nat} {t : MS} (h : REL k0 b0 f0 s t K E) (hw : w < 33) (hn : wn = wl w) (hr : ∀ j, j < wn → gA t wid j = wc w j) : pc (m_x12_isHere wid wn t) (fun q => REL k0 b0 f0 s q.2 K E ∧ gI q.2 2 = gI s 108 ∧ ((q.1 = 1 ∧ gI s 107 = 1 ∧ gI s 110 = (w : Int)) ∨ (q.1 = 0 ∧ ¬ (gI s 107 = 1 ∧ gI s 110 = (w : Int))))) := fun q e => by
  obtain ⟨a, b, c⟩ := y_here h.1 hw hn hr q e
  have F : F_x12_isHere t q.2 := fr_x12_isHere e
  exact ⟨REL_2 h a (fun i h2 => F.1 i (by simp; omega)) (fun k => F.2.1 k (by simp)), b, c⟩
theorem r_sign {p0 : Int} {t : MS} (h : REL k0 b0 f0 s t K E) (hp : 0 ≤ p0 ∧ ¬ isL p0 ∧ ¬ isD p0) : pc (m_x12_takesSign p0 t) (fun q => (q.1 = 1 ∧ gI s 107 = 3 ∧ gI s 111 = p0 ∧ NX s q.2 ∧ ∀ s', m_x6_advance s = some s' → REL k0 b0 f0 s' q.2 K E ∧ gI s 109 ≤ gI s' 108) ∨ (q.1 = 0 ∧ ¬ (gI s 107 = 3 ∧ gI s 111 = p0) ∧ REL k0 b0 f0 s q.2 K E ∧ gI q.2 2 = gI s 108)) := fun q e => by
  have F : F_x12_takesSign t q.2 := fr_x12_takesSign e
  have kI : ∀ i, 48 ≤ i → gI q.2 i = gI t i := fun i h2 => F.1 i (by simp; omega)
  have kA : ∀ k, gA q.2 k = gA t k := fun k => F.2.1 k (by simp)
  rcases y_sign h.1 hp q e with ⟨a, b, c, d⟩ | ⟨a, b, c, d⟩
  · exact Or.inl ⟨a, b, c, d, fun s' e' => REL_adv h d kI kA e'⟩
  · exact Or.inr ⟨a, b, REL_2 h c kI kA, d⟩
theorem NX_sg {S o : MS} (hS : SY s S) (h2 : gI S 2 = gI s 108) (hk : gI s 107 = 3) (e : sI S 2 (gI S 2 + 1) = o) : NX s o := by
  have hT := hS.2.2.1.1
  have k1' := hT.1
  have k2 : gI o 2 = gI S 2 + 1 := q_II e
  rcases hT.2.2 with g | ⟨g1, g2, g3, g4, g⟩
  · omega
  · rcases g with ⟨_, _, _, g⟩ | ⟨_, _, g⟩ | ⟨a1, a2, a3, a4⟩
    · rcases g with ⟨_, g⟩ | ⟨_, g⟩ <;> omega
    · rcases g with ⟨_, g⟩ | ⟨_, g⟩ <;> omega
    · refine ⟨⟨(q_Ii e (by decide)).trans hS.1.1, fun j hj => by rw [(q_Ia e : gA o 0 = gA S 0)]; exact hS.1.2 j hj⟩, ⟨hS.2.1.1, (q_Ii e (by decide)).trans hS.2.1.2⟩, hS.2.2.1, by omega, ⟨?_, ?_⟩, RWD_e hS.2.2.2.2.2 (fun k _ => q_Ia e)⟩
      · rw [(q_Ii e (by decide) : gI o 4 = gI S 4)]
        have := hS.2.2.2.2.1.1
        omega
      · rw [(q_Ii e (by decide) : gI o 4 = gI S 4)]
        have := hS.2.2.2.2.1.1
        refine ⟨fun q => by omega, fun q => ?_⟩
        have q2 := q.2
        rw [show (gI o 2 - 1).toNat = (gI s 108).toNat by omega] at q2
        rcases q2 with q2 | q2
        · exact absurd q2 a1
        · exact absurd q2 a2
theorem TK_3 (h : TK s) (hc : 0 ≤ gI s 111 ∧ ¬ isL (gI s 111) ∧ ¬ isD (gI s 111)) : gI s 107 = 3 := by
  rcases h.2.2 with g | ⟨g1, g2, g3, g4, g⟩
  · omega
  · rcases g with ⟨a, _⟩ | ⟨a, _⟩ | ⟨_, _, _, a⟩
    · omega
    · omega
    · exact a
theorem TK_3' (h : TK s) (hk : gI s 107 = 3) : (0 ≤ gI s 108 ∧ gI s 108 < gI s 61 ∧ gI s 61 ≤ 1600) ∧ gI s 109 = gI s 108 + 1 ∧ gI s 111 = gA s 4 (gI s 108).toNat ∧ ¬ isL (gI s 111) ∧ ¬ isD (gI s 111) := by
  have k1 := h.1
  rcases h.2.2 with g | ⟨g1, g2, g3, g4, g⟩
  · omega
  · rcases g with ⟨_, _, _, g⟩ | ⟨_, _, g⟩ | ⟨a1, a2, a3, a4⟩
    · rcases g with ⟨_, g⟩ | ⟨_, g⟩ <;> omega
    · rcases g with ⟨_, g⟩ | ⟨_, g⟩ <;> omega
    · exact ⟨by omega, a3, g2, by rw [g2]; exact a1, by rw [g2]; exact a2⟩
/-! ===== behind a part ===== -/
theorem PE_top {t : MS} (h : REL k0 b0 f0 s t K []) (hK : hdk K < 60) (hB : PB P x13 t) : PE P x13 t := by
  obtain ⟨⟨b1, b2⟩, b3⟩ := h.2.2.1
  have hb : gI t 5 = 0 := h.1.2.1.2
  have key : ∀ (Q : MS → Prop), Q t → ∀ k, pc (m_x12_qEndsPart_L0 k t) Q := fun Q hQ k => by
    cases k with
    | zero => exact pc_none
    | succ k =>
      show pc (m_x12_qEndsPart_b0 (m_x12_qEndsPart_L0 k) t) Q
      unfold m_x12_qEndsPart_b0 m_x12_qEndsPart_J51
      refine pc_rg (pc_if (fun _ => pc_rg (pc_rg (pc_if (fun _ => pc_some hQ) (fun c => pc_rdI (fun _ => pc_rg (pc_if (fun _ => pc_some hQ) (fun c2 => ?_))))))) (fun _ => pc_some hQ))
      exfalso
      cases K with
      | nil =>
        have e4 : gI t 104 = gI t 106 := b3
        omega
      | cons k2 K =>
        have e4 : gA t 103 (gI t 104 - 1).toNat = k2 := b3.2.1
        have e5 : hdk (k2 :: K) = k2 := rfl
        omega
  exact ⟨key _ (QA_PB hb hB), fun m => key _ (hB m)⟩
/-- open signs one less on both sides -/
theorem REL_close {t o : MS} {u : MS} (h : REL k0 b0 f0 s t K E) (e1 : sI s 106 (gI s 106 - 1) = u) (e2 : sI t 105 (gI t 105 - 1) = o) : REL k0 b0 f0 u o K E := by
  obtain ⟨h1, ⟨⟨o1, o2⟩, o3⟩, h3, h4, h5, h6⟩ := h
  have kI : ∀ i, i ≠ 106 → gI u i = gI s i := fun i hi => q_Ii e1 hi
  have kA : ∀ k, gA u k = gA s k := fun k => q_Ia e1
  have rI : ∀ i, i ≠ 105 → gI o i = gI t i := fun i hi => q_Ii e2 hi
  have rA : ∀ k, gA o k = gA t k := fun k => q_Ia e2
  have a1 : gI u 106 = gI s 106 - 1 := q_II e1
  have a2 : gI o 105 = gI t 105 - 1 := q_II e2
  refine ⟨SY_f (SY_c h1 (fun i hi => kI i (by omega)) (kA 4) (kA 6)) (rI 2 (by decide)) (rI 3 (by decide)) (rI 4 (by decide)) (rI 5 (by decide)) (fun k _ => rA k), ⟨⟨by omega, by omega⟩, by rw [rI 48 (by decide), kI 105 (by decide)]; exact o3⟩, by rw [rI 106 (by decide), rI 104 (by decide), rA]; exact h3, ?_, by rw [kI 941 (by decide), kI 108 (by decide)]; exact h5, BS_e h6 (rI 106 (by decide)) (rA 103)⟩
  unfold CO at h4 ⊢
  rw [kI 941 (by decide), kA, rI 102 (by decide), rA]; exact h4
theorem PE_of {t u s1 : MS} {c d : Int} (h : REL k0 b0 f0 s t (d :: K) []) (hd : 60 ≤ d) (hc : cr c d) (hb : gI s 941 + 1 ≤ gI s 108) (e : m_x0_add c s = some s1) (eu : sI s1 106 (gI s1 106 - 1) = u) (hP : ∀ o, REL k0 b0 f0 u o K [] → PE P x13 o) : PE P x13 t := by
  have hb0 : gI t 5 = 0 := h.1.2.1.2
  obtain ⟨h1, _, _⟩ := REL_add h hc hb e
  have h1 : REL k0 b0 f0 s1 t K [d] := h1
  have st := h.2.2.1.2
  have s1' : gI t 106 < gI t 104 := st.1
  have s2' : gA t 103 (gI t 104 - 1).toNat = d := st.2.1
  have key : ∀ (Q : MS → Prop), (∀ o, REL k0 b0 f0 u o K [] → ∀ k, pc (m_x12_qEndsPart_L0 k o) Q) → ∀ k, pc (m_x12_qEndsPart_L0 k t) Q := fun Q hQ k => by
    cases k with
    | zero => exact pc_none
    | succ k =>
      show pc (m_x12_qEndsPart_b0 (m_x12_qEndsPart_L0 k) t) Q
      unfold m_x12_qEndsPart_b0
      refine pc_rg (pc_if (fun _ => pc_rg (pc_rg (pc_if (fun c => by omega) (fun c => pc_rdI (fun _ => pc_rg (pc_if (fun c2 => by omega) (fun c2 => pc_stn (fun s11 e11 => ?_)))))))) (fun c => absurd hb0 c))
      exact pc_bq (y_drop (REL_close h1 eu e11)) (fun s13 h13 => hQ s13 h13.1 k)
  exact ⟨key _ (fun o ho => (hP o ho).1), fun m => key _ (fun o ho => (hP o ho).2 m)⟩
/-! ===== behind a part: signs ===== -/
/-- a sign that goes on -/
def OPS (s : MS) : Prop := gI s 107 = 3 ∧ (gI s 111 = 42 ∨ gI s 111 = 47 ∨ gI s 111 = 43 ∨ gI s 111 = 45)
theorem PB_mul {t : MS} {x : Int} (h : REL k0 b0 f0 s t K E) (hE : ∀ e, e ∈ E → e = 3 ∨ e = 4) (hK : ¬ (hdk K = 3 ∨ hdk K = 4)) (hk : gI s 107 = 3) (hx : (gI s 111 = 42 ∧ x = 3) ∨ (gI s 111 = 47 ∧ x = 4)) (e : m_x6_advance s = some s') (hP : ∀ o, REL k0 b0 f0 s' o (x :: K) [] → PA P x13 o) : PB P x13 t := fun m => by
  cases m with
  | zero => exact pc_none
  | succ m =>
    show pc (m_x12_qGoesOn_b0 (m_x12_qGoesOn_L0 m) t) _
    unfold m_x12_qGoesOn_b0
    have hb0 : gI t 5 = 0 := h.1.2.1.2
    have J140 : ∀ S : MS, NX s S → REL k0 b0 f0 s' S K E → pc (m_x12_qGoesOn_J140 S) (QB P x13) := fun S hN hR => by
      unfold m_x12_qGoesOn_J140 m_x12_qGoesOn_J161
      have t3 := TK_3' hN.2.2.1.1 hk
      have y : gA S 0 (gI S 2 - 1).toNat = gI s 111 := by
        rw [t3.2.2.1, hN.2.2.2.1, show (gI s 109 - 1).toNat = (gI s 108).toNat by omega]
        exact hN.1.2 _ (by omega)
      refine pc_rdI (fun _ => ?_)
      rw [y]
      have fin : ∀ q : Int × MS, q.1 = 1 ∧ REL k0 b0 f0 s' q.2 (x :: K) [] → QB P x13 q := fun q hq => by
        obtain ⟨r, o⟩ := q
        obtain ⟨a, b⟩ := hq
        dsimp only at a b
        rw [a]
        exact QB_go b.1.2.1.2 (hP o b)
      refine pc_rg (pc_if (fun c => ?_) (fun c => ?_))
      · have ex : x = 3 := by omega
        subst ex
        exact pc_mono (y_L162 hK FU E S hR hE) fin
      · have ex : x = 4 := by omega
        subst ex
        exact pc_mono (y_L162 hK FU E S hR hE) fin
    refine pc_rg (pc_if (fun _ => pc_bq (r_look h) (fun q127 h127 => ?_)) (fun c => absurd hb0 c))
    obtain ⟨hS, h2, h1⟩ := h127
    refine pc_rg (pc_if (fun c => by omega) (fun c => ?_))
    unfold m_x12_qGoesOn_J122
    refine pc_bq (r_sign hS (by omega)) (fun q69 h69 => pc_rg (pc_if (fun c2 => ?_) (fun c2 => ?_)))
    · rcases h69 with g | ⟨_, g2, g3, g4⟩
      · omega
      · refine pc_bq (r_sign g3 (by omega)) (fun q74 h74 => pc_rg (pc_if (fun c3 => ?_) (fun c3 => ?_)))
        · exfalso
          rcases h74 with g | ⟨_, g5, _⟩
          · omega
          · rcases hx with hx | hx
            · exact g2 ⟨hk, hx.1⟩
            · exact g5 ⟨hk, hx.1⟩
        · rcases h74 with ⟨_, _, _, g4, g5⟩ | g
          · exact J140 _ g4 (g5 s' e).1
          · exact absurd g.1 c3
    · rcases h69 with ⟨_, _, _, g4, g5⟩ | g
      · exact J140 _ g4 (g5 s' e).1
      · exact absurd g.1 c2
theorem PB_add {t : MS} {x : Int} (h : REL k0 b0 f0 s t K E) (hE : ∀ e, e ∈ E → 1 ≤ e ∧ e ≤ 4) (hK : ¬ (1 ≤ hdk K ∧ hdk K ≤ 4)) (hk : gI s 107 = 3) (hx : (gI s 111 = 43 ∧ x = 1) ∨ (gI s 111 = 45 ∧ x = 2)) (e : m_x6_advance s = some s') (hP : ∀ o, REL k0 b0 f0 s' o (x :: K) [] → PA P x13 o) : PB P x13 t := fun m => by
  cases m with
  | zero => exact pc_none
  | succ m =>
    show pc (m_x12_qGoesOn_b0 (m_x12_qGoesOn_L0 m) t) _
    unfold m_x12_qGoesOn_b0
    have hb0 : gI t 5 = 0 := h.1.2.1.2
    have J225 : ∀ S : MS, NX s S → REL k0 b0 f0 s' S K E → pc (m_x12_qGoesOn_J225 S) (QB P x13) := fun S hN hR => by
      unfold m_x12_qGoesOn_J225 m_x12_qGoesOn_J246
      have t3 := TK_3' hN.2.2.1.1 hk
      have y : gA S 0 (gI S 2 - 1).toNat = gI s 111 := by
        rw [t3.2.2.1, hN.2.2.2.1, show (gI s 109 - 1).toNat = (gI s 108).toNat by omega]
        exact hN.1.2 _ (by omega)
      refine pc_rdI (fun _ => ?_)
      rw [y]
      have fin : ∀ q : Int × MS, q.1 = 1 ∧ REL k0 b0 f0 s' q.2 (x :: K) [] → QB P x13 q := fun q hq => by
        obtain ⟨r, o⟩ := q
        obtain ⟨a, b⟩ := hq
        dsimp only at a b
        rw [a]
        exact QB_go b.1.2.1.2 (hP o b)
      refine pc_rg (pc_if (fun c => ?_) (fun c => ?_))
      · have ex : x = 1 := by omega
        subst ex
        exact pc_mono (y_L247 hK FU E S hR hE) fin
      · have ex : x = 2 := by omega
        subst ex
        exact pc_mono (y_L247 hK FU E S hR hE) fin
    refine pc_rg (pc_if (fun _ => pc_bq (r_look h) (fun q127 h127 => ?_)) (fun c => absurd hb0 c))
    obtain ⟨hS, h2, h1⟩ := h127
    refine pc_rg (pc_if (fun c => by omega) (fun c => ?_))
    unfold m_x12_qGoesOn_J122
    refine pc_bq (r_sign hS (by omega)) (fun q69 h69 => pc_rg (pc_if (fun c2 => ?_) (fun c2 => by omega)))
    rcases h69 with g | ⟨_, g2, g3, g4⟩
    · omega
    · refine pc_bq (r_sign g3 (by omega)) (fun q74 h74 => pc_rg (pc_if (fun c3 => ?_) (fun c3 => by omega)))
      rcases h74 with g | ⟨_, _, g5, _⟩
      · omega
      · refine pc_bq (r_sign g5 (by omega)) (fun q79 h79 => pc_rg (pc_if (fun c4 => ?_) (fun c4 => ?_)))
        · rcases h79 with g | ⟨_, g6, g7, _⟩
          · omega
          · refine pc_bq (r_sign g7 (by omega)) (fun q84 h84 => pc_rg (pc_if (fun c5 => ?_) (fun c5 => ?_)))
            · exfalso
              rcases h84 with g | ⟨_, g8, _⟩
              · omega
              · rcases hx with hx | hx
                · exact g6 ⟨hk, hx.1⟩
                · exact g8 ⟨hk, hx.1⟩
            · rcases h84 with ⟨_, _, _, g8, g9⟩ | g
              · exact J225 _ g8 (g9 s' e).1
              · exact absurd g.1 c5
        · rcases h79 with ⟨_, _, _, g8, g9⟩ | g
          · exact J225 _ g8 (g9 s' e).1
          · exact absurd g.1 c4
/-- what comes when no sign goes on -/
def tl122 (S : MS) : Option (Int × MS) := bn (m_x12_qBracket S) (fun r88 => rg r88 (if r88 = 21 then m_x12_qGoesOn_J326 S else bn (m_x12_qBracket S) (fun r92 => rg r92 (if r92 = 22 then m_x12_qGoesOn_J326 S else bn (m_x12_qBracket S) (fun r96 => rg r96 (if r96 = (-1) then m_x12_qGoesOn_J386 S else rg (gI S 5) (if (gI S 5) = 0 then bn (m_x12_fail 1 (gI S 2) S) (fun s102 => m_x12_qGoesOn_J386 s102) else m_x12_qGoesOn_J386 S)))))))
theorem y_J122 {t : MS} {Q : Int × MS → Prop} (h : REL k0 b0 f0 s t K E) (hn : ¬ OPS s) (hQ : ∀ S, REL k0 b0 f0 s S K E → gI S 2 = gI s 108 → pc (tl122 S) Q) : pc (m_x12_qGoesOn_J122 t) Q := by
  unfold m_x12_qGoesOn_J122
  refine pc_bq (r_sign h (by omega)) (fun q69 h69 => pc_rg (pc_if (fun c2 => ?_) (fun c2 => ?_)))
  · rcases h69 with g | ⟨_, _, g3, _⟩
    · omega
    · refine pc_bq (r_sign g3 (by omega)) (fun q74 h74 => pc_rg (pc_if (fun c3 => ?_) (fun c3 => ?_)))
      · rcases h74 with g | ⟨_, _, g5, _⟩
        · omega
        · refine pc_bq (r_sign g5 (by omega)) (fun q79 h79 => pc_rg (pc_if (fun c4 => ?_) (fun c4 => ?_)))
          · rcases h79 with g | ⟨_, _, g7, _⟩
            · omega
            · refine pc_bq (r_sign g7 (by omega)) (fun q84 h84 => pc_rg (pc_if (fun c5 => ?_) (fun c5 => ?_)))
              · rcases h84 with g | ⟨_, _, g9, g10⟩
                · omega
                · exact hQ q84.2 g9 g10
              · rcases h84 with ⟨_, a, b, _⟩ | g
                · exact absurd ⟨a, by omega⟩ hn
                · exact absurd g.1 c5
          · rcases h79 with ⟨_, a, b, _⟩ | g
            · exact absurd ⟨a, by omega⟩ hn
            · exact absurd g.1 c4
      · rcases h74 with ⟨_, a, b, _⟩ | g
        · exact absurd ⟨a, by omega⟩ hn
        · exact absurd g.1 c3
  · rcases h69 with ⟨_, a, b, _⟩ | g
    · exact absurd ⟨a, by omega⟩ hn
    · exact absurd g.1 c2
/-- behind a part, when no sign goes on, and none closes -/
theorem PB_tail {t : MS} (h : REL k0 b0 f0 s t K E) (hn : ¬ OPS s) (hc : gI s 111 = 41 → ¬ (brj (E ++ K) = 20 ∨ brj (E ++ K) = 23 ∨ brj (E ++ K) = 24)) (hQ : ∀ S, REL k0 b0 f0 s S K E → gI S 2 = gI s 108 → pc (tl122 S) (QB P x13)) : PB P x13 t := fun m => by
  cases m with
  | zero => exact pc_none
  | succ m =>
    show pc (m_x12_qGoesOn_b0 (m_x12_qGoesOn_L0 m) t) _
    unfold m_x12_qGoesOn_b0
    have hb0 : gI t 5 = 0 := h.1.2.1.2
    refine pc_rg (pc_if (fun _ => pc_bq (r_look h) (fun q127 h127 => ?_)) (fun c => absurd hb0 c))
    obtain ⟨hS, h2, h1⟩ := h127
    have br := y_bracket hS.2.2.1.1.1 hS.2.2.1.2
    refine pc_rg (pc_if (fun c => ?_) (fun c => y_J122 hS hn hQ))
    have hc := hc (by omega)
    exact pc_bq br (fun r131 h131 => pc_rg (pc_if (fun c2 => by omega) (fun c2 => pc_bq br (fun r135 h135 => pc_rg (pc_if (fun c3 => by omega) (fun c3 => pc_bq br (fun r139 h139 => pc_rg (pc_if (fun c4 => by omega) (fun c4 => y_J122 hS hn hQ)))))))))
theorem y_tail {S : MS} {Q : Int × MS → Prop} (h : REL k0 b0 f0 s S K E) (h1 : brj (E ++ K) = 21 ∨ brj (E ++ K) = 22 → pc (m_x12_qGoesOn_J326 S) Q) (h2 : brj (E ++ K) = -1 → Q (0, S)) (h3 : brj (E ++ K) ≠ 21 → brj (E ++ K) ≠ 22 → brj (E ++ K) ≠ -1 → pc (bn (m_x12_fail 1 (gI S 2) S) (fun s102 => m_x12_qGoesOn_J386 s102)) Q) : pc (tl122 S) Q := by
  have br := y_bracket h.2.2.1.1.1 h.2.2.1.2
  have hb0 : gI S 5 = 0 := h.1.2.1.2
  unfold tl122
  refine pc_bq br (fun r88 h88 => pc_rg (pc_if (fun c => h1 (by omega)) (fun c => pc_bq br (fun r92 h92 => pc_rg (pc_if (fun c2 => h1 (by omega)) (fun c2 => pc_bq br (fun r96 h96 => pc_rg (pc_if (fun c3 => ?_) (fun c3 => pc_rg (pc_if (fun _ => h3 (by omega) (by omega) (by omega)) (fun c4 => absurd hb0 c4)))))))))))
  unfold m_x12_qGoesOn_J386
  exact pc_some (h2 (by omega))
theorem brk_E {E K : List Int} (hE : ∀ e, e ∈ E → 1 ≤ e ∧ e ≤ 4) : brj (E ++ K) = brj K := by
  induction E with
  | nil => rfl
  | cons e E ih =>
    have q := hE e (List.mem_cons_self)
    show (if 20 ≤ e ∧ e ≤ 24 then e else brj (E ++ K)) = brj K
    rw [if_neg (by omega)]
    exact ih (fun y hy => hE y (List.mem_cons_of_mem _ hy))
/-- the sum ends -/
theorem PB_end {t : MS} (h : REL k0 b0 f0 s t [] E) (hE : ∀ e, e ∈ E → 1 ≤ e ∧ e ≤ 4) (hn : ¬ OPS s) (hP : ∀ o, FIN k0 b0 f0 s x13 o → P o) : PB P x13 t := by
  have e1 : brj (E ++ []) = -1 := brk_E hE
  refine PB_tail h hn (fun _ => by omega) (fun S hS h2 => y_tail hS (fun q => by omega) (fun _ => QB_end hS hP) (fun _ _ q => absurd e1 q))
/-- a sign that closes is wanting -/
theorem PB_open {t : MS} {b : Int} (h : REL k0 b0 f0 s t (b :: K) E) (hb : b = 20 ∨ b = 23 ∨ b = 24) (hE : ∀ e, e ∈ E → 1 ≤ e ∧ e ≤ 4) (hn : ¬ OPS s) (h41 : ¬ (gI s 107 = 3 ∧ gI s 111 = 41)) (hs : gI s' 100 = 1 ∧ gI s' 101 = gI s 108) (hP : ∀ o, BR s' o → P o) : PB P x13 t := by
  have e1 : brj (E ++ b :: K) = b := by
    rw [brk_E hE]
    show (if 20 ≤ b ∧ b ≤ 24 then b else brj K) = b
    exact if_pos (by omega)
  refine PB_tail h hn (fun q => ?_) (fun S hS h2 => y_tail hS (fun q => by omega) (fun q => by omega) (fun _ _ _ => ?_))
  · exfalso
    exact h41 ⟨TK_3 h.1.2.2.1.1 (by omega), q⟩
  · refine pc_bq (m_fail hS.1.2.1.2) (fun s102 h102 => ?_)
    unfold m_x12_qGoesOn_J386
    rw [h2] at h102
    exact pc_some (QB_bad (BR_P (BR_mk (by decide) hs h102) hP))
end RB2
/-! ===== sums: what closes, what parts there are ===== -/
def wkl : List Nat := 13 :: 11 :: 12 :: 14 :: 15 :: 16 :: 17 :: 18 :: 19 :: 20 :: []
def wk (k : Nat) : Nat := wkl.getD k 0
/-- allowed in a text of this kind -/
def alw (m : Int) (k : Int) : Prop := (m = 0 ∧ k < 3) ∨ (m = 1 ∧ (k = 0 ∨ k = 3)) ∨ (m = 2 ∧ (k < 2 ∨ k = 3)) ∨ (m = 3 ∧ (k = 0 ∨ 3 ≤ k))
section RC
variable {P : MS → Prop} {x13 : Int} {k0 b0 : Int} {f0 : Nat → Int} {s s' s'' : MS} {K E : List Int}
theorem r_wordHere {t : MS} (h : REL k0 b0 f0 s t K E) : pc (m_x12_qWordHere t) (fun q => REL k0 b0 f0 s q.2 K E ∧ gI q.2 2 = gI s 108 ∧ ((∃ k : Nat, k < 10 ∧ q.1 = (k : Int) ∧ gI s 107 = 1 ∧ gI s 110 = (wk k : Int)) ∨ (q.1 = -1 ∧ ∀ k : Nat, k < 10 → ¬ (gI s 107 = 1 ∧ gI s 110 = (wk k : Int))))) := by
  unfold m_x12_qWordHere
  have hw : ∀ (k : Nat), k < 10 → ∀ S : MS, REL k0 b0 f0 s S K E → pc (m_x12_isHere (91 + k) (wl (wk k)) S) (fun q => REL k0 b0 f0 s q.2 K E ∧ gI q.2 2 = gI s 108 ∧ ((q.1 = 1 ∧ gI s 107 = 1 ∧ gI s 110 = (wk k : Int)) ∨ (q.1 = 0 ∧ ¬ (gI s 107 = 1 ∧ gI s 110 = (wk k : Int))))) := fun k hk S hS => by
    have e : wqJ (12 + k) = wk k := by
      have : ∀ k, k < 10 → wqJ (12 + k) = wk k := by decide
      exact this k hk
    have l : wk k < 33 := by
      have : ∀ k, k < 10 → wk k < 33 := by decide
      exact this k hk
    refine r_here hS l rfl (fun j hj => ?_)
    have := hS.1.2.2.2.2.2.2 (12 + k) (by omega) j (by rw [e]; exact hj)
    rw [e, show 79 + (12 + k) = 91 + k by omega] at this
    exact this
  refine pc_bq (hw 0 (by decide) _ h) (fun q3 h3 => pc_rg (pc_if (fun c3 => ?_) (fun c3 => pc_some ⟨h3.1, h3.2.1, Or.inl ⟨0, by decide, rfl, ?_⟩⟩)))
  rotate_left
  · rcases h3.2.2 with g | g
    · exact g.2
    · exact absurd g.1 c3
  have n0 : ¬ (gI s 107 = 1 ∧ gI s 110 = (wk 0 : Int)) := by
    rcases h3.2.2 with g | g
    · omega
    · exact g.2
  refine pc_bq (hw 1 (by decide) _ h3.1) (fun q8 h8 => pc_rg (pc_if (fun c8 => ?_) (fun c8 => pc_some ⟨h8.1, h8.2.1, Or.inl ⟨1, by decide, rfl, ?_⟩⟩)))
  rotate_left
  · rcases h8.2.2 with g | g
    · exact g.2
    · exact absurd g.1 c8
  have n1 : ¬ (gI s 107 = 1 ∧ gI s 110 = (wk 1 : Int)) := by
    rcases h8.2.2 with g | g
    · omega
    · exact g.2
  refine pc_bq (hw 2 (by decide) _ h8.1) (fun q13 h13 => pc_rg (pc_if (fun c13 => ?_) (fun c13 => pc_some ⟨h13.1, h13.2.1, Or.inl ⟨2, by decide, rfl, ?_⟩⟩)))
  rotate_left
  · rcases h13.2.2 with g | g
    · exact g.2
    · exact absurd g.1 c13
  have n2 : ¬ (gI s 107 = 1 ∧ gI s 110 = (wk 2 : Int)) := by
    rcases h13.2.2 with g | g
    · omega
    · exact g.2
  refine pc_bq (hw 3 (by decide) _ h13.1) (fun q18 h18 => pc_rg (pc_if (fun c18 => ?_) (fun c18 => pc_some ⟨h18.1, h18.2.1, Or.inl ⟨3, by decide, rfl, ?_⟩⟩)))
  rotate_left
  · rcases h18.2.2 with g | g
    · exact g.2
    · exact absurd g.1 c18
  have n3 : ¬ (gI s 107 = 1 ∧ gI s 110 = (wk 3 : Int)) := by
    rcases h18.2.2 with g | g
    · omega
    · exact g.2
  refine pc_bq (hw 4 (by decide) _ h18.1) (fun q23 h23 => pc_rg (pc_if (fun c23 => ?_) (fun c23 => pc_some ⟨h23.1, h23.2.1, Or.inl ⟨4, by decide, rfl, ?_⟩⟩)))
  rotate_left
  · rcases h23.2.2 with g | g
    · exact g.2
    · exact absurd g.1 c23
  have n4 : ¬ (gI s 107 = 1 ∧ gI s 110 = (wk 4 : Int)) := by
    rcases h23.2.2 with g | g
    · omega
    · exact g.2
  refine pc_bq (hw 5 (by decide) _ h23.1) (fun q28 h28 => pc_rg (pc_if (fun c28 => ?_) (fun c28 => pc_some ⟨h28.1, h28.2.1, Or.inl ⟨5, by decide, rfl, ?_⟩⟩)))
  rotate_left
  · rcases h28.2.2 with g | g
    · exact g.2
    · exact absurd g.1 c28
  have n5 : ¬ (gI s 107 = 1 ∧ gI s 110 = (wk 5 : Int)) := by
    rcases h28.2.2 with g | g
    · omega
    · exact g.2
  refine pc_bq (hw 6 (by decide) _ h28.1) (fun q33 h33 => pc_rg (pc_if (fun c33 => ?_) (fun c33 => pc_some ⟨h33.1, h33.2.1, Or.inl ⟨6, by decide, rfl, ?_⟩⟩)))
  rotate_left
  · rcases h33.2.2 with g | g
    · exact g.2
    · exact absurd g.1 c33
  have n6 : ¬ (gI s 107 = 1 ∧ gI s 110 = (wk 6 : Int)) := by
    rcases h33.2.2 with g | g
    · omega
    · exact g.2
  refine pc_bq (hw 7 (by decide) _ h33.1) (fun q38 h38 => pc_rg (pc_if (fun c38 => ?_) (fun c38 => pc_some ⟨h38.1, h38.2.1, Or.inl ⟨7, by decide, rfl, ?_⟩⟩)))
  rotate_left
  · rcases h38.2.2 with g | g
    · exact g.2
    · exact absurd g.1 c38
  have n7 : ¬ (gI s 107 = 1 ∧ gI s 110 = (wk 7 : Int)) := by
    rcases h38.2.2 with g | g
    · omega
    · exact g.2
  refine pc_bq (hw 8 (by decide) _ h38.1) (fun q43 h43 => pc_rg (pc_if (fun c43 => ?_) (fun c43 => pc_some ⟨h43.1, h43.2.1, Or.inl ⟨8, by decide, rfl, ?_⟩⟩)))
  rotate_left
  · rcases h43.2.2 with g | g
    · exact g.2
    · exact absurd g.1 c43
  have n8 : ¬ (gI s 107 = 1 ∧ gI s 110 = (wk 8 : Int)) := by
    rcases h43.2.2 with g | g
    · omega
    · exact g.2
  refine pc_bq (hw 9 (by decide) _ h43.1) (fun q48 h48 => pc_rg (pc_if (fun c48 => ?_) (fun c48 => pc_some ⟨h48.1, h48.2.1, Or.inl ⟨9, by decide, rfl, ?_⟩⟩)))
  rotate_left
  · rcases h48.2.2 with g | g
    · exact g.2
    · exact absurd g.1 c48
  have n9 : ¬ (gI s 107 = 1 ∧ gI s 110 = (wk 9 : Int)) := by
    rcases h48.2.2 with g | g
    · omega
    · exact g.2
  refine pc_some ⟨h48.1, h48.2.1, Or.inr ⟨rfl, fun k hk => ?_⟩⟩
  match k, hk with
  | 0, _ => exact n0
  | 1, _ => exact n1
  | 2, _ => exact n2
  | 3, _ => exact n3
  | 4, _ => exact n4
  | 5, _ => exact n5
  | 6, _ => exact n6
  | 7, _ => exact n7
  | 8, _ => exact n8
  | 9, _ => exact n9
  | k + 10, hk => omega
theorem y_allowed {p0 : Int} {t : MS} (hm : 0 ≤ gI t 48 ∧ gI t 48 ≤ 3) : pc (m_x12_isAllowed p0 t) (fun r => (r = 1 ∧ alw (gI t 48) p0) ∨ (r = 0 ∧ ¬ alw (gI t 48) p0)) := by
  unfold m_x12_isAllowed m_x12_isAllowed_J83 m_x12_isAllowed_J88 m_x12_isAllowed_J68 m_x12_isAllowed_J73 m_x12_isAllowed_J52 m_x12_isAllowed_J57 m_x12_isAllowed_J42 alw
  refine pc_rg (pc_if (fun c => pc_rg (pc_if (fun c2 => pc_bo (pc_some ?_)) (fun c2 => pc_bo (pc_some ?_)))) (fun c => pc_if (fun c1 => pc_rg (pc_if (fun c2 => pc_bo (pc_some ?_)) (fun c2 => pc_rg (pc_if (fun c3 => pc_bo (pc_some ?_)) (fun c3 => pc_bo (pc_some ?_)))))) (fun c1 => pc_if (fun c4 => pc_rg (pc_if (fun c2 => pc_bo (pc_some ?_)) (fun c2 => pc_rg (pc_if (fun c3 => pc_bo (pc_some ?_)) (fun c3 => pc_bo (pc_some ?_)))))) (fun c4 => pc_rg (pc_if (fun c2 => pc_bo (pc_some ?_)) (fun c2 => pc_rg (pc_if (fun c3 => pc_bo (pc_some ?_)) (fun c3 => pc_bo (pc_some ?_)))))))))
  all_goals omega
theorem r_wordOf {p0 p1 : Int} {t : MS} (h : REL k0 b0 f0 s t K E) : pc (m_x12_qWordOf p0 p1 t) (fun q => REL k0 b0 f0 s q.2 K E ∧ gI q.2 2 = gI s 108 ∧ ((∃ k : Nat, k < 10 ∧ q.1 = (k : Int) ∧ (gI s 107 = 1 ∧ gI s 110 = (wk k : Int)) ∧ (p0 ≤ (k : Int) ∧ (k : Int) < p1) ∧ alw (gI s 105) (k : Int)) ∨ (q.1 = -1 ∧ ∀ k : Nat, k < 10 → (gI s 107 = 1 ∧ gI s 110 = (wk k : Int)) → (p0 ≤ (k : Int) ∧ (k : Int) < p1) → ¬ alw (gI s 105) (k : Int)))) := by
  unfold m_x12_qWordOf m_x12_qWordOf_J27 m_x12_qWordOf_J28
  refine pc_bq (r_wordHere h) (fun q6 h6 => ?_)
  obtain ⟨r6, S⟩ := q6
  obtain ⟨hS, h2, h6⟩ := h6
  dsimp only at hS h2 h6 ⊢
  have hm := hS.2.1.2
  have non : (∀ k : Nat, k < 10 → r6 = (k : Int) → (p0 ≤ (k : Int) ∧ (k : Int) < p1) → ¬ alw (gI s 105) (k : Int)) → (fun q : Int × MS => REL k0 b0 f0 s q.2 K E ∧ gI q.2 2 = gI s 108 ∧ ((∃ k : Nat, k < 10 ∧ q.1 = (k : Int) ∧ (gI s 107 = 1 ∧ gI s 110 = (wk k : Int)) ∧ (p0 ≤ (k : Int) ∧ (k : Int) < p1) ∧ alw (gI s 105) (k : Int)) ∨ (q.1 = -1 ∧ ∀ k : Nat, k < 10 → (gI s 107 = 1 ∧ gI s 110 = (wk k : Int)) → (p0 ≤ (k : Int) ∧ (k : Int) < p1) → ¬ alw (gI s 105) (k : Int)))) (-1, S) := fun hn => by
    refine ⟨hS, h2, Or.inr ⟨rfl, fun k hk hw hp => ?_⟩⟩
    rcases h6 with ⟨k', hk', e, hw'⟩ | ⟨_, g⟩
    · have inj : ∀ a, a < 10 → ∀ b, b < 10 → wk a = wk b → a = b := by decide
      have : k = k' := inj k hk k' hk' (by omega)
      rw [this] at hp ⊢
      exact hn k' hk' e hp
    · exact absurd hw (g k hk)
  refine pc_rg (pc_rg (pc_if (fun c => pc_some (non (fun k hk e hp => by omega))) (fun c => pc_rg (pc_rg (pc_if (fun c2 => pc_some (non (fun k hk e hp => by omega))) (fun c2 => pc_bq (y_allowed (by omega)) (fun r14 h14 => pc_rg (pc_if (fun c3 => pc_some (non (fun k hk e hp => ?_))) (fun c3 => pc_some ⟨hS, h2, ?_⟩)))))))))
  · rcases h14 with g | g
    · omega
    · rw [hm.1, e] at g; exact g.2
  · rcases h14 with g | g
    · rw [hm.1] at g
      rcases h6 with ⟨k, hk, e, hw⟩ | ⟨e, g'⟩
      · rw [e] at g ⊢
        exact Or.inl ⟨k, hk, rfl, hw, by omega, g.2⟩
      · exact Or.inr ⟨e, fun k hk hw => absurd hw (g' k hk)⟩
    · exact absurd g.1 c3
end RC
/-! ===== sums: brackets ===== -/
section RD
variable {P : MS → Prop} {x13 : Int} {k0 b0 : Int} {f0 : Nat → Int} {s s' s'' : MS} {K E : List Int}
/-- a bracket is taken off -/
theorem REL_pop {t o u : MS} {b : Int} (h : REL k0 b0 f0 s t (b :: K) []) (e1 : sI s 106 (gI s 106 - 1) = u) (rI : ∀ i, i ≠ 104 → i ≠ 105 → gI o i = gI t i) (rA : ∀ k, gA o k = gA t k) (r4 : gI o 104 = gI t 104 - 1) (r5 : gI o 105 = gI t 105 - 1) : REL k0 b0 f0 u o K [] ∧ gA o 103 (gI o 104).toNat = b := by
  obtain ⟨h1, ⟨⟨o1, o2⟩, o3⟩, ⟨h3, h3'⟩, h4, h5, h6⟩ := h
  have hk : gI t 106 < gI t 104 ∧ gA t 103 (gI t 104 - 1).toNat = b ∧ SKr (gA t 103) (gI t 106) (gI t 104 - 1) K := h3'
  have kI : ∀ i, i ≠ 106 → gI u i = gI s i := fun i hi => q_Ii e1 hi
  have kA : ∀ k, gA u k = gA s k := fun k => q_Ia e1
  have a1 : gI u 106 = gI s 106 - 1 := q_II e1
  refine ⟨⟨SY_f (SY_c h1 (fun i hi => kI i (by omega)) (kA 4) (kA 6)) (rI 2 (by decide) (by decide)) (rI 3 (by decide) (by decide)) (rI 4 (by decide) (by decide)) (rI 5 (by decide) (by decide)) (fun k _ => rA k), ⟨⟨by omega, by omega⟩, by rw [rI 48 (by decide) (by decide), kI 105 (by decide)]; exact o3⟩, by rw [rI 106 (by decide) (by decide), r4, rA]; exact ⟨h3, hk.2.2⟩, ?_, by rw [kI 941 (by decide), kI 108 (by decide)]; exact h5, BS_e h6 (rI 106 (by decide) (by decide)) (rA 103)⟩, by rw [rA, r4]; exact hk.2.1⟩
  unfold CO at h4 ⊢
  rw [kI 941 (by decide), kA, rI 102 (by decide) (by decide), rA]; exact h4
/-- a sign closes: c is told with it, if there is a choice -/
theorem PB_close {t u : MS} {b : Int} (h : REL k0 b0 f0 s t (b :: K) E) (hb : b = 20 ∨ b = 23 ∨ b = 24) (hE : ∀ e, e ∈ E → 1 ≤ e ∧ e ≤ 4) (hk : gI s 107 = 3) (h41 : gI s 111 = 41) (e : m_x6_advance s = some s') (eu : sI s' 106 (gI s' 106 - 1) = u) (hP : b = 20 → ∀ o, REL k0 b0 f0 u o K [] → PE P x13 o) (hQ : ∀ d, (b = 23 ∧ d = 5) ∨ (b = 24 ∧ d = 6) → ∀ T o, REL k0 b0 f0 u T K [] → m_x12_qCode d T = some o → PE P x13 o) : PB P x13 t := fun m => by
  cases m with
  | zero => exact pc_none
  | succ m =>
    show pc (m_x12_qGoesOn_b0 (m_x12_qGoesOn_L0 m) t) _
    unfold m_x12_qGoesOn_b0
    have hb0 : gI t 5 = 0 := h.1.2.1.2
    have e1 : brj (E ++ b :: K) = b := by
      rw [brk_E hE]
      show (if 20 ≤ b ∧ b ≤ 24 then b else brj K) = b
      exact if_pos (by omega)
    have J43 : ∀ S : MS, REL k0 b0 f0 s S (b :: K) E → gI S 2 = gI s 108 → pc (m_x12_qGoesOn_J43 (m_x12_qGoesOn_L0 m) S) (QB P x13) := fun S hS h2 => by
      unfold m_x12_qGoesOn_J43
      refine pc_stn (fun s112 e112 => ?_)
      have hN := NX_sg hS.1 h2 hk e112
      obtain ⟨hR, _⟩ := REL_adv hS hN (fun i a => q_Ii e112 (by omega)) (fun k => q_Ia e112) e
      refine pc_bq (y_dtb (by omega) FU E s112 hR (fun x hx => by have := hE x hx; omega)) (fun s114 h114 => pc_stn (fun s115 e115 => pc_stn (fun s116 e116 => pc_rdI (fun _ => ?_))))
      obtain ⟨hO, hv⟩ := REL_pop (o := s116) h114.1 eu (fun i a c => (q_Ii e116 c).trans (q_Ii e115 a)) (fun k => (q_Ia e116).trans (q_Ia e115)) ((q_Ii e116 (by decide)).trans (q_II e115)) (by rw [(q_II e116 : gI s116 105 = _), (q_Ii e115 (by decide) : gI s115 105 = gI s114 105)])
      rw [hv]
      unfold m_x12_qGoesOn_J115 m_x12_qGoesOn_J112
      refine pc_rg (pc_if (fun c => ?_) (fun c => pc_rdI (fun _ => ?_)))
      · exact pc_bq ((hP c s116 hO).2 m FU) (fun s106 h106 => h106)
      · rw [hv]
        refine pc_rg (pc_if (fun c2 => ?_) (fun c2 => ?_))
        · refine pc_bn (fun s110 e110 => ?_)
          unfold m_x12_qGoesOn_J115
          exact pc_bq ((hQ 5 (Or.inl ⟨c2, rfl⟩) s116 s110 hO e110).2 m FU) (fun s106 h106 => h106)
        · refine pc_bn (fun s110 e110 => ?_)
          unfold m_x12_qGoesOn_J115
          exact pc_bq ((hQ 6 (Or.inr ⟨by omega, rfl⟩) s116 s110 hO e110).2 m FU) (fun s106 h106 => h106)
    refine pc_rg (pc_if (fun _ => pc_bq (r_look h) (fun q127 h127 => ?_)) (fun c => absurd hb0 c))
    obtain ⟨hS, h2, h1⟩ := h127
    have br := y_bracket hS.2.2.1.1.1 hS.2.2.1.2
    rw [e1] at br
    refine pc_rg (pc_if (fun c => ?_) (fun c => by omega))
    exact pc_bq br (fun r131 h131 => pc_rg (pc_if (fun c2 => J43 _ hS h2) (fun c2 => pc_bq br (fun r135 h135 => pc_rg (pc_if (fun c3 => J43 _ hS h2) (fun c3 => pc_bq br (fun r139 h139 => pc_rg (pc_if (fun c4 => J43 _ hS h2) (fun c4 => by omega)))))))))
/-- a comma -/
theorem PB_comma {t : MS} {b : Int} (h : REL k0 b0 f0 s t (b :: K) E) (hb : b = 21 ∨ b = 22) (hE : ∀ e, e ∈ E → 1 ≤ e ∧ e ≤ 4) (hn : ¬ OPS s) (e : m_x6_expectSign 44 s = some s') (hP : gI s' 100 = 0 → ∀ o, REL k0 b0 f0 s' o ((b + 2) :: K) [] → gI s 108 < gI s' 108 → PA P x13 o) (hF : ∀ o, BR s' o → P o) : PB P x13 t := by
  have e1 : brj (E ++ b :: K) = b := by
    rw [brk_E hE]
    show (if 20 ≤ b ∧ b ≤ 24 then b else brj K) = b
    exact if_pos (by omega)
  have hs := s_expSign h.1.2.1.1 s' e
  refine PB_tail h hn (fun q => by omega) (fun S hS h2 => y_tail hS (fun _ => ?_) (fun q => by omega) (fun a c _ => by omega))
  unfold m_x12_qGoesOn_J326 m_x12_asksSign m_x12_asksSign_J24
  have hb5 : gI S 5 = 0 := hS.1.2.1.2
  refine pc_bn (fun s4 e4 => ?_)
  have h4 : (gI s' 100 = 0 ∧ REL k0 b0 f0 s' s4 (b :: K) E ∧ gI s 108 < gI s' 108) ∨ BR s' s4 := by
    have g : pc (m_x12_asksSign 44 S) (fun o => (gI s' 100 = 0 ∧ REL k0 b0 f0 s' o (b :: K) E ∧ gI s 108 < gI s' 108) ∨ BR s' o) := by
      unfold m_x12_asksSign m_x12_asksSign_J24
      refine pc_rg (pc_if (fun _ => pc_bq (r_sign hS (by omega)) (fun q6 h6 => pc_rg (pc_if (fun c2 => ?_) (fun c2 => pc_some ?_)))) (fun c => absurd hb5 c))
      · rcases h6 with g | ⟨_, g2, g3, g4⟩
        · omega
        · refine pc_bq (m_fail g3.1.2.1.2) (fun s10 h10 => pc_some (Or.inr ?_))
          rw [g4] at h10
          rcases hs with q | q
          · exact absurd q.1 g2
          · exact BR_mk (by decide) q.2 h10
      · rcases h6 with ⟨_, g2, g3, _, g5⟩ | g
        · rcases hs with q | q
          · obtain ⟨a1, a2⟩ := g5 s' q.2
            have t3 := TK_3' hS.1.2.2.1.1 g2
            exact Or.inl ⟨a1.1.2.1.1, a1, by omega⟩
          · exact absurd ⟨g2, g3⟩ q.1
        · exact absurd g.1 c2
    refine g s4 ?_
    unfold m_x12_asksSign m_x12_asksSign_J24
    exact e4
  rcases h4 with ⟨z, hR, hlt⟩ | hB
  · refine pc_rg (pc_if (fun _ => ?_) (fun c => absurd hR.1.2.1.2 c))
    refine pc_bq (y_dtb (by omega) FU E s4 hR (fun x hx => by have := hE x hx; omega)) (fun s8 h8 => pc_rdI (fun _ => pc_inb (pc_stn (fun s11 e11 => pc_some ?_))))
    obtain ⟨hR8, _⟩ := h8
    refine QB_go ((q_Ai e11).trans hR8.1.2.1.2) (hP z s11 ?_ hlt)
    obtain ⟨h1, h2', ⟨b3, b3'⟩, h4', h5, h6⟩ := hR8
    have st : gI s8 106 < gI s8 104 ∧ gA s8 103 (gI s8 104 - 1).toNat = b ∧ SKr (gA s8 103) (gI s8 106) (gI s8 104 - 1) K := b3'
    have rI : ∀ i, gI s11 i = gI s8 i := fun i => q_Ai e11
    have rA : ∀ k, k ≠ 103 → gA s11 k = gA s8 k := fun k hk => q_Aa e11 hk
    have r103 : gA s11 103 = upZ (gA s8 103) (gI s8 104 - 1).toNat (b + 2) := by rw [(q_AA e11 : gA s11 103 = _), st.2.1]
    refine ⟨SY_f h1 (rI 2) (rI 3) (rI 4) (rI 5) (fun k hk => rA k (by omega)), OPN_e h2' rfl rfl (rI 105) (rI 48), ?_, ?_, h5, (rI 106).trans h6.1, fun j hj => ?_⟩
    · rw [rI 106, rI 104, r103]
      exact ⟨⟨b3.1, fun q => by rw [upZ_n (by omega)]; exact b3.2 q⟩, SKr_top b3.1 b3'⟩
    · unfold CO at h4' ⊢
      rw [rI 102, rA 101 (by decide)]; exact h4'
    · have := h6.1
      rw [r103, upZ_n (by omega)]; exact h6.2 j hj
  · refine pc_rg (pc_if (fun c => ?_) (fun _ => pc_some (QB_bad (BR_P hB hF))))
    exfalso
    have := hB.2.1
    have := hB.1
    omega
/-- signs and words that open -/
theorem r_opens {t : MS} {r d p : Int} (h : REL k0 b0 f0 s t K []) (e : m_x6_opens s = some (r, s')) : pc (m_x12_qOpens d p t) (fun o => (r = 1 ∧ gI s' 100 = 0 ∧ REL k0 b0 f0 s' o (d :: K) [] ∧ (∀ i, i ≠ 106 → gI s' i = gI s i) ∧ (gI s' 106 = gI s 106 + 1 ∧ gA s' 4 = gA s 4) ∧ gI o 2 = gI t 2) ∨ (r = 0 ∧ (gI s' 100 = 4 ∧ gI s' 101 = gI s 108) ∧ gI o 5 = 4 ∧ gI o 6 = p)) := by
  have hs : (gI s 106 < 6 ∧ r = 1 ∧ sI s 106 (gI s 106 + 1) = s') ∨ (6 ≤ gI s 106 ∧ r = 0 ∧ gI s' 100 = 4 ∧ gI s' 101 = gI s 108) := by
    have g : pc (m_x6_opens s) (fun q => (gI s 106 < 6 ∧ q.1 = 1 ∧ sI s 106 (gI s 106 + 1) = q.2) ∨ (6 ≤ gI s 106 ∧ q.1 = 0 ∧ gI q.2 100 = 4 ∧ gI q.2 101 = gI s 108)) := by
      unfold m_x6_opens
      refine pc_rg (pc_if (fun c => pc_stn (fun s3 e3 => pc_some (Or.inl ⟨c, rfl, e3⟩))) (fun c => pc_bn (fun q6 e6 => pc_bo (pc_some (Or.inr ⟨by omega, ?_, s_fail h.1.2.1.1 q6 e6⟩)))))
      have g2 : pc (m_x6_fail 4 (gI s 108) s) (fun q => q.1 = 0) := by
        unfold m_x6_fail m_x6_fail_J22
        exact pc_rg (pc_if (fun _ => pc_stn (fun _ _ => pc_stn (fun _ _ => pc_stn (fun _ _ => pc_some rfl)))) (fun _ => pc_some rfl))
      exact g2 q6 e6
    exact g (r, s') e
  have h5 : gI t 5 = 0 := h.1.2.1.2
  have op := h.2.1.1
  unfold m_x12_qOpens
  refine pc_rg (pc_if (fun _ => pc_rg (pc_if (fun c => pc_bq (m_fail h5) (fun s10 h10 => pc_some (Or.inr ?_))) (fun c => pc_stn (fun s5 e5 => pc_inb (pc_stn (fun s7 e7 => pc_stn (fun s8 e8 => pc_some (Or.inl ?_)))))))) (fun c => absurd h5 c))
  · rcases hs with g | g
    · omega
    · exact ⟨g.2.1, g.2.2, h10⟩
  · rcases hs with ⟨g1, g2, g3⟩ | g
    · have kI : ∀ i, i ≠ 106 → gI s' i = gI s i := fun i hi => q_Ii g3 hi
      have kA : ∀ k, gA s' k = gA s k := fun k => q_Ia g3
      have k6 : gI s' 106 = gI s 106 + 1 := q_II g3
      obtain ⟨h1, ⟨_, o3⟩, h3, h4, h5', h6⟩ := h
      have a5 : gI s5 105 = gI t 105 + 1 := q_II e5
      have R5 : REL k0 b0 f0 s' s5 K [] := by
        refine ⟨SY_f (SY_c h1 (fun i hi => kI i (by omega)) (kA 4) (kA 6)) (q_Ii e5 (by decide)) (q_Ii e5 (by decide)) (q_Ii e5 (by decide)) (q_Ii e5 (by decide)) (fun k _ => q_Ia e5), ⟨⟨by omega, by omega⟩, by rw [(q_Ii e5 (by decide) : gI s5 48 = gI t 48), kI 105 (by decide)]; exact o3⟩, by rw [(q_Ii e5 (by decide) : gI s5 106 = gI t 106), (q_Ii e5 (by decide) : gI s5 104 = gI t 104), (q_Ia e5 : gA s5 103 = gA t 103)]; exact h3, ?_, by rw [kI 941 (by decide), kI 108 (by decide)]; exact h5', BS_e h6 (q_Ii e5 (by decide)) (q_Ia e5)⟩
        unfold CO at h4 ⊢
        rw [kI 941 (by decide), kA, (q_Ii e5 (by decide) : gI s5 102 = gI t 102), (q_Ia e5 : gA s5 101 = gA t 101)]; exact h4
      refine ⟨g2, (kI 100 (by decide)).trans h1.2.1.1, REL_push R5 (fun i hi => (q_Ii e8 hi).trans (q_Ai e7)) (fun k hk => (q_Ia e8).trans (q_Aa e7 hk)) (by rw [(q_II e8 : gI s8 104 = _), (q_Ai e7 : gI s7 104 = gI s5 104)]) ((q_Ia e8).trans (q_AA e7)), kI, ⟨k6, kA 4⟩, ?_⟩
      exact (q_Ii e8 (by decide)).trans ((q_Ai e7).trans (q_Ii e5 (by decide)))
    · omega
end RD
