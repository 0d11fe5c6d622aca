/-! ===== an image ===== -/
def OC (s : MS) : Prop := ∀ j : Nat, (j : Int) < gI s 112 → (-8388609) ≤ gA s 111 j ∧ gA s 111 j ≤ 8388609
theorem OC_e {s o : MS} (H : OC s) (h1 : gI o 112 = gI s 112) (h2 : gA o 111 = gA s 111) : OC o := fun j hj => by rw [h2]; exact H j (by omega)
set_option maxHeartbeats 1000000 in
theorem w_x12_tellsByte {p0 : Int} {s : MS} (hRs : Rr s) (hp0 : gI s 112 < 1364) (hp1 : (-8388609) ≤ p0 ∧ p0 ≤ 8388609) (hp2 : OC s) : wp (m_x12_tellsByte p0 s) (fun o => (Rr o) ∧ (gI o 112 = gI s 112 + 1) ∧ (OC o)) := by
  unfold m_x12_tellsByte
  refine wp_inb (by have : (0 : Int) ≤ gI s 112 ∧ gI s 112 ≤ 1364 := hRs.1 112; omega) ?_
  refine wp_stn (fun s2 es2 => ?_)
  have hRs2 : Rr s2 := es2 ▸ Rr.uAu hRs (by show (-2147483648 : Int) ≤ p0 ∧ p0 ≤ 2147483647; have : (0 : Int) ≤ gI s 112 ∧ gI s 112 ≤ 1364 := hRs.1 112; omega)
  refine wp_stn (fun s3 es3 => ?_)
  have hRs3 : Rr s3 := es3 ▸ Rr.uI hRs2 (by show (0 : Int) ≤ ((gI s2 112) + 1) ∧ ((gI s2 112) + 1) ≤ 1364; have : (0 : Int) ≤ gI s 112 ∧ gI s 112 ≤ 1364 := hRs.1 112; have : gI s2 112 = gI s 112 := q_Ai es2; omega)
  have k3 : gI s3 112 = gI s 112 + 1 := by rw [(q_II es3 : gI s3 112 = _), ((q_Ai es2 : gI s2 112 = gI s 112))]
  exact wp_some ⟨hRs3, k3, fun j hj => by
      rw [((q_Ia es3 : gA s3 111 = gA s2 111)), (q_AA es2 : gA s2 111 = _)]
      by_cases z : j = (gI s 112).toNat
      · rw [z, upZ_s]; exact hp1
      · rw [upZ_n z]; exact hp2 j (by omega)⟩
set_option maxHeartbeats 1000000 in
theorem w_x12_tellsTwo {p0 : Int} {s : MS} (hRs : Rr s) (hp0 : gI s 112 < 1363) (hp1 : R2 p0) (hp2 : OC s) : wp (m_x12_tellsTwo p0 s) (fun o => (Rr o) ∧ (gI o 112 = gI s 112 + 2) ∧ (OC o)) := by
  have km1 := Int.natAbs_tmod p0 256
  have km2 := Nat.mod_lt p0.natAbs (show 0 < (256 : Int).natAbs by decide)
  have km3 : (256 : Int).natAbs = 256 := rfl
  have ke : 256 * Int.tdiv p0 256 + Int.tmod p0 256 = p0 := Int.mul_tdiv_add_tmod p0 256
  unfold m_x12_tellsTwo
  refine wp_dv (by have : (0 : Int) ≤ gI s 112 ∧ gI s 112 ≤ 1364 := hRs.1 112; omega) ?_
  refine wp_bn (w_x12_tellsByte hRs (by show gI s 112 < 1364; have : (0 : Int) ≤ gI s 112 ∧ gI s 112 ≤ 1364 := hRs.1 112; omega) (by show (-8388609) ≤ (Int.tdiv p0 256) ∧ (Int.tdiv p0 256) ≤ 8388609; have : (0 : Int) ≤ gI s 112 ∧ gI s 112 ≤ 1364 := hRs.1 112; omega) (hp2)) (fun s3 es3 hs3 => ?_)
  have Fs3 : F_x12_tellsByte s s3 := fr_x12_tellsByte es3
  obtain ⟨hRs3, hs3_0, hs3_1⟩ := hs3
  have hs3_0 : gI s3 112 = gI s 112 + 1 := hs3_0
  have hs3_1 : OC s3 := hs3_1
  refine wp_dv (by have : (0 : Int) ≤ gI s3 112 ∧ gI s3 112 ≤ 1364 := hRs3.1 112; have : (0 : Int) ≤ gI s 112 ∧ gI s 112 ≤ 1364 := hRs.1 112; omega) ?_
  refine wp_bn (w_x12_tellsByte hRs3 (by show gI s3 112 < 1364; have : (0 : Int) ≤ gI s 112 ∧ gI s 112 ≤ 1364 := hRs.1 112; have : (0 : Int) ≤ gI s3 112 ∧ gI s3 112 ≤ 1364 := hRs3.1 112; omega) (by show (-8388609) ≤ (Int.tmod p0 256) ∧ (Int.tmod p0 256) ≤ 8388609; have : (0 : Int) ≤ gI s3 112 ∧ gI s3 112 ≤ 1364 := hRs3.1 112; have : (0 : Int) ≤ gI s 112 ∧ gI s 112 ≤ 1364 := hRs.1 112; omega) (hs3_1)) (fun s6 es6 hs6 => ?_)
  have Fs6 : F_x12_tellsByte s3 s6 := fr_x12_tellsByte es6
  obtain ⟨hRs6, hs6_0, hs6_1⟩ := hs6
  have hs6_0 : gI s6 112 = gI s3 112 + 1 := hs6_0
  have hs6_1 : OC s6 := hs6_1
  exact wp_some ⟨hRs6, by show gI s6 112 = gI s 112 + 2; have : (0 : Int) ≤ gI s3 112 ∧ gI s3 112 ≤ 1364 := hRs3.1 112; have : (0 : Int) ≤ gI s 112 ∧ gI s 112 ≤ 1364 := hRs.1 112; have : (0 : Int) ≤ gI s6 112 ∧ gI s6 112 ≤ 1364 := hRs6.1 112; omega, hs6_1⟩
set_option maxHeartbeats 1000000 in
theorem w_x12_writesBlock {p0 : Int} {s : MS} (hRs : Rr s) (hp0 : 0 ≤ p0 ∧ p0 < 48) (hp1 : RT s) (hp2 : gI s 112 ≤ 1336) (hp3 : OC s) : wp (m_x12_writesBlock p0 s) (fun o => (Rr o) ∧ (gI o 112 ≤ gI s 112 + 28) ∧ (OC o) ∧ (gA o 49 = gA s 49)) := by
  have bd := RT_bd hp1 (b := p0.toNat) (by omega)
  have sz := RT_sz hp1 (b := p0.toNat) (by omega)
  unfold m_x12_writesBlock
  refine wp_bn (w_x12_countOf hRs (by show 0 ≤ p0 ∧ p0 < 48; have : (0 : Int) ≤ gI s 112 ∧ gI s 112 ≤ 1364 := hRs.1 112; omega)) (fun r18 er18 hr18 => ?_)
  obtain ⟨hr18_0, hr18_1⟩ := hr18
  have hr18_0 : r18 = cM s p0.toNat := hr18_0
  have hr18_1 : R2 r18 := hr18_1
  refine wp_bn (w_x12_tellsByte hRs (by show gI s 112 < 1364; have : (0 : Int) ≤ gI s 112 ∧ gI s 112 ≤ 1364 := hRs.1 112; omega) (by show (-8388609) ≤ r18 ∧ r18 ≤ 8388609; have : (0 : Int) ≤ gI s 112 ∧ gI s 112 ≤ 1364 := hRs.1 112; omega) (hp3)) (fun s20 es20 hs20 => ?_)
  have Fs20 : F_x12_tellsByte s s20 := fr_x12_tellsByte es20
  obtain ⟨hRs20, hs20_0, hs20_1⟩ := hs20
  have hs20_0 : gI s20 112 = gI s 112 + 1 := hs20_0
  have hs20_1 : OC s20 := hs20_1
  have e20 := eq49 ((Fs20.2.1 49 (by decide)) : gA s20 49 = gA s 49)
  refine wp_bn (w_x12_savedOf hRs20 (by show 0 ≤ p0 ∧ p0 < 48; have : (0 : Int) ≤ gI s20 112 ∧ gI s20 112 ≤ 1364 := hRs20.1 112; have : (0 : Int) ≤ gI s 112 ∧ gI s 112 ≤ 1364 := hRs.1 112; omega)) (fun r22 er22 hr22 => ?_)
  obtain ⟨hr22_0, hr22_1⟩ := hr22
  have hr22_0 : r22 = vM s20 p0.toNat := hr22_0
  have hr22_1 : R2 r22 := hr22_1
  rw [e20.2.2.2] at hr22_0
  refine wp_bn (w_x12_tellsByte hRs20 (by show gI s20 112 < 1364; have : (0 : Int) ≤ gI s 112 ∧ gI s 112 ≤ 1364 := hRs.1 112; have : (0 : Int) ≤ gI s20 112 ∧ gI s20 112 ≤ 1364 := hRs20.1 112; omega) (by show (-8388609) ≤ r22 ∧ r22 ≤ 8388609; have : (0 : Int) ≤ gI s20 112 ∧ gI s20 112 ≤ 1364 := hRs20.1 112; have : (0 : Int) ≤ gI s 112 ∧ gI s 112 ≤ 1364 := hRs.1 112; omega) (hs20_1)) (fun s24 es24 hs24 => ?_)
  have Fs24 : F_x12_tellsByte s20 s24 := fr_x12_tellsByte es24
  obtain ⟨hRs24, hs24_0, hs24_1⟩ := hs24
  have hs24_0 : gI s24 112 = gI s20 112 + 1 := hs24_0
  have hs24_1 : OC s24 := hs24_1
  have e24 := eq49 (((Fs24.2.1 49 (by decide)).trans (Fs20.2.1 49 (by decide))) : gA s24 49 = gA s 49)
  refine wp_bn (w_x12_isThere hRs24 (by show 0 ≤ p0 ∧ p0 < 48; have : (0 : Int) ≤ gI s24 112 ∧ gI s24 112 ≤ 1364 := hRs24.1 112; have : (0 : Int) ≤ gI s20 112 ∧ gI s20 112 ≤ 1364 := hRs20.1 112; have : (0 : Int) ≤ gI s 112 ∧ gI s 112 ≤ 1364 := hRs.1 112; omega)) (fun r26 er26 hr26 => ?_)
  have hr26_0 := hr26
  have hr26_0 : (r26 = 1 ∧ (0 < cM s24 p0.toNat ∨ 0 < vM s24 p0.toNat)) ∨ (r26 = 0 ∧ cM s24 p0.toNat ≤ 0 ∧ vM s24 p0.toNat ≤ 0) := hr26_0
  rw [e24.2.2.1, e24.2.2.2] at hr26_0
  refine wp_rg (by have : (0 : Int) ≤ gI s24 112 ∧ gI s24 112 ≤ 1364 := hRs24.1 112; have : (0 : Int) ≤ gI s20 112 ∧ gI s20 112 ≤ 1364 := hRs20.1 112; have : (0 : Int) ≤ gI s 112 ∧ gI s 112 ≤ 1364 := hRs.1 112; omega) ?_
  refine wp_if (fun c1 => ?_) (fun c1 => ?_)
  · skip
    exact wp_some ⟨hRs24, by show gI s24 112 ≤ gI s 112 + 28; have : (0 : Int) ≤ gI s20 112 ∧ gI s20 112 ≤ 1364 := hRs20.1 112; have : (0 : Int) ≤ gI s 112 ∧ gI s 112 ≤ 1364 := hRs.1 112; have : (0 : Int) ≤ gI s24 112 ∧ gI s24 112 ≤ 1364 := hRs24.1 112; omega, hs24_1, ((Fs24.2.1 49 (by decide)).trans (Fs20.2.1 49 (by decide)))⟩
  · skip
    refine wp_bn (w_x12_levelOf hRs24 (by show 0 ≤ p0 ∧ p0 < 48; have : (0 : Int) ≤ gI s24 112 ∧ gI s24 112 ≤ 1364 := hRs24.1 112; have : (0 : Int) ≤ gI s20 112 ∧ gI s20 112 ≤ 1364 := hRs20.1 112; have : (0 : Int) ≤ gI s 112 ∧ gI s 112 ≤ 1364 := hRs.1 112; omega)) (fun r30 er30 hr30 => ?_)
    obtain ⟨hr30_0, hr30_1⟩ := hr30
    have hr30_0 : r30 = (hM s24).1 p0.toNat := hr30_0
    have hr30_1 : R2 r30 := hr30_1
    rw [e24.1] at hr30_0
    have kd := DW_nd hp1 (b := p0.toNat) (by omega) (by unfold DW; omega)
    refine wp_bn (w_x12_tellsByte hRs24 (by show gI s24 112 < 1364; have : (0 : Int) ≤ gI s20 112 ∧ gI s20 112 ≤ 1364 := hRs20.1 112; have : (0 : Int) ≤ gI s 112 ∧ gI s 112 ≤ 1364 := hRs.1 112; have : (0 : Int) ≤ gI s24 112 ∧ gI s24 112 ≤ 1364 := hRs24.1 112; omega) (by show (-8388609) ≤ r30 ∧ r30 ≤ 8388609; have : (0 : Int) ≤ gI s24 112 ∧ gI s24 112 ≤ 1364 := hRs24.1 112; have : (0 : Int) ≤ gI s20 112 ∧ gI s20 112 ≤ 1364 := hRs20.1 112; have : (0 : Int) ≤ gI s 112 ∧ gI s 112 ≤ 1364 := hRs.1 112; omega) (hs24_1)) (fun s32 es32 hs32 => ?_)
    have Fs32 : F_x12_tellsByte s24 s32 := fr_x12_tellsByte es32
    obtain ⟨hRs32, hs32_0, hs32_1⟩ := hs32
    have hs32_0 : gI s32 112 = gI s24 112 + 1 := hs32_0
    have hs32_1 : OC s32 := hs32_1
    have e32 := eq49 (((Fs32.2.1 49 (by decide)).trans ((Fs24.2.1 49 (by decide)).trans (Fs20.2.1 49 (by decide)))) : gA s32 49 = gA s 49)
    refine wp_bn (w_x12_entriesOf hRs32 (by show 0 ≤ p0 ∧ p0 < 48; have : (0 : Int) ≤ gI s32 112 ∧ gI s32 112 ≤ 1364 := hRs32.1 112; have : (0 : Int) ≤ gI s24 112 ∧ gI s24 112 ≤ 1364 := hRs24.1 112; have : (0 : Int) ≤ gI s20 112 ∧ gI s20 112 ≤ 1364 := hRs20.1 112; have : (0 : Int) ≤ gI s 112 ∧ gI s 112 ≤ 1364 := hRs.1 112; omega)) (fun r34 er34 hr34 => ?_)
    obtain ⟨hr34_0, hr34_1⟩ := hr34
    have hr34_0 : r34 = (hM s32).2.1 p0.toNat := hr34_0
    have hr34_1 : R2 r34 := hr34_1
    rw [e32.1] at hr34_0
    refine wp_bn (w_x12_tellsByte hRs32 (by show gI s32 112 < 1364; have : (0 : Int) ≤ gI s24 112 ∧ gI s24 112 ≤ 1364 := hRs24.1 112; have : (0 : Int) ≤ gI s20 112 ∧ gI s20 112 ≤ 1364 := hRs20.1 112; have : (0 : Int) ≤ gI s 112 ∧ gI s 112 ≤ 1364 := hRs.1 112; have : (0 : Int) ≤ gI s32 112 ∧ gI s32 112 ≤ 1364 := hRs32.1 112; omega) (by show (-8388609) ≤ r34 ∧ r34 ≤ 8388609; have : (0 : Int) ≤ gI s32 112 ∧ gI s32 112 ≤ 1364 := hRs32.1 112; have : (0 : Int) ≤ gI s24 112 ∧ gI s24 112 ≤ 1364 := hRs24.1 112; have : (0 : Int) ≤ gI s20 112 ∧ gI s20 112 ≤ 1364 := hRs20.1 112; have : (0 : Int) ≤ gI s 112 ∧ gI s 112 ≤ 1364 := hRs.1 112; omega) (hs32_1)) (fun s36 es36 hs36 => ?_)
    have Fs36 : F_x12_tellsByte s32 s36 := fr_x12_tellsByte es36
    obtain ⟨hRs36, hs36_0, hs36_1⟩ := hs36
    have hs36_0 : gI s36 112 = gI s32 112 + 1 := hs36_0
    have hs36_1 : OC s36 := hs36_1
    have L47 : ∀ (n : Nat) (x1 : Int) (x2 : Int) (s3 : MS), Rr s3 → (x1 = p0) → (0 ≤ x2 ∧ x2 ≤ (hM s).2.1 p0.toNat) → (gI s3 112 = gI s 112 + 4 + 4 * x2) → (OC s3) → (gA s3 49 = gA s 49) → (6 - x2) < (n : Int) → wp (m_x12_writesBlock_L47 n x1 x2 s3) (fun o => (Rr o) ∧ (gI o 112 ≤ gI s 112 + 28) ∧ (OC o) ∧ (gA o 49 = gA s 49)) := by
      refine fr_ind (fun x1 x2 s3 hRs3 hv47_0 hv47_1 hv47_2 hv47_3 hv47_4 hm47 => ?_) (fun n47 ih47 x1 x2 s3 hRs3 hv47_0 hv47_1 hv47_2 hv47_3 hv47_4 hm47 => ?_)
      · exfalso; have : (0 : Int) ≤ gI s 112 ∧ gI s 112 ≤ 1364 := hRs.1 112; have : (0 : Int) ≤ gI s3 112 ∧ gI s3 112 ≤ 1364 := hRs3.1 112; omega
      · show wp (m_x12_writesBlock_b47 (m_x12_writesBlock_L47 n47) x1 x2 s3) _
        unfold m_x12_writesBlock_b47
        have e3 := eq49 hv47_4
        have e0 : x1 = p0 := hv47_0
        refine wp_bn (w_x12_entriesOf hRs3 (by show 0 ≤ x1 ∧ x1 < 48; have : (0 : Int) ≤ gI s3 112 ∧ gI s3 112 ≤ 1364 := hRs3.1 112; have : (0 : Int) ≤ gI s36 112 ∧ gI s36 112 ≤ 1364 := hRs36.1 112; have : (0 : Int) ≤ gI s32 112 ∧ gI s32 112 ≤ 1364 := hRs32.1 112; have : (0 : Int) ≤ gI s24 112 ∧ gI s24 112 ≤ 1364 := hRs24.1 112; have : (0 : Int) ≤ gI s20 112 ∧ gI s20 112 ≤ 1364 := hRs20.1 112; have : (0 : Int) ≤ gI s 112 ∧ gI s 112 ≤ 1364 := hRs.1 112; omega)) (fun r5 er5 hr5 => ?_)
        obtain ⟨hr5_0, hr5_1⟩ := hr5
        have hr5_0 : r5 = (hM s3).2.1 x1.toNat := hr5_0
        have hr5_1 : R2 r5 := hr5_1
        rw [e3.1, e0] at hr5_0
        refine wp_rg (by have : (0 : Int) ≤ gI s3 112 ∧ gI s3 112 ≤ 1364 := hRs3.1 112; have : (0 : Int) ≤ gI s36 112 ∧ gI s36 112 ≤ 1364 := hRs36.1 112; have : (0 : Int) ≤ gI s32 112 ∧ gI s32 112 ≤ 1364 := hRs32.1 112; have : (0 : Int) ≤ gI s24 112 ∧ gI s24 112 ≤ 1364 := hRs24.1 112; have : (0 : Int) ≤ gI s20 112 ∧ gI s20 112 ≤ 1364 := hRs20.1 112; have : (0 : Int) ≤ gI s 112 ∧ gI s 112 ≤ 1364 := hRs.1 112; omega) ?_
        refine wp_rg (by have : (0 : Int) ≤ gI s3 112 ∧ gI s3 112 ≤ 1364 := hRs3.1 112; have : (0 : Int) ≤ gI s36 112 ∧ gI s36 112 ≤ 1364 := hRs36.1 112; have : (0 : Int) ≤ gI s32 112 ∧ gI s32 112 ≤ 1364 := hRs32.1 112; have : (0 : Int) ≤ gI s24 112 ∧ gI s24 112 ≤ 1364 := hRs24.1 112; have : (0 : Int) ≤ gI s20 112 ∧ gI s20 112 ≤ 1364 := hRs20.1 112; have : (0 : Int) ≤ gI s 112 ∧ gI s 112 ≤ 1364 := hRs.1 112; omega) ?_
        refine wp_if (fun c2 => ?_) (fun c2 => ?_)
        · skip
          exact wp_some ⟨hRs3, by show gI s3 112 ≤ gI s 112 + 28; have : (0 : Int) ≤ gI s36 112 ∧ gI s36 112 ≤ 1364 := hRs36.1 112; have : (0 : Int) ≤ gI s32 112 ∧ gI s32 112 ≤ 1364 := hRs32.1 112; have : (0 : Int) ≤ gI s24 112 ∧ gI s24 112 ≤ 1364 := hRs24.1 112; have : (0 : Int) ≤ gI s20 112 ∧ gI s20 112 ≤ 1364 := hRs20.1 112; have : (0 : Int) ≤ gI s 112 ∧ gI s 112 ≤ 1364 := hRs.1 112; have : (0 : Int) ≤ gI s3 112 ∧ gI s3 112 ≤ 1364 := hRs3.1 112; omega, hv47_3, hv47_4⟩
        · skip
          refine wp_bn (w_x12_keyAt hRs3 (by show 0 ≤ x1 ∧ x1 < 48; have : (0 : Int) ≤ gI s3 112 ∧ gI s3 112 ≤ 1364 := hRs3.1 112; have : (0 : Int) ≤ gI s36 112 ∧ gI s36 112 ≤ 1364 := hRs36.1 112; have : (0 : Int) ≤ gI s32 112 ∧ gI s32 112 ≤ 1364 := hRs32.1 112; have : (0 : Int) ≤ gI s24 112 ∧ gI s24 112 ≤ 1364 := hRs24.1 112; have : (0 : Int) ≤ gI s20 112 ∧ gI s20 112 ≤ 1364 := hRs20.1 112; have : (0 : Int) ≤ gI s 112 ∧ gI s 112 ≤ 1364 := hRs.1 112; omega) (by show 0 ≤ x2 ∧ x2 < 6; have : (0 : Int) ≤ gI s3 112 ∧ gI s3 112 ≤ 1364 := hRs3.1 112; have : (0 : Int) ≤ gI s36 112 ∧ gI s36 112 ≤ 1364 := hRs36.1 112; have : (0 : Int) ≤ gI s32 112 ∧ gI s32 112 ≤ 1364 := hRs32.1 112; have : (0 : Int) ≤ gI s24 112 ∧ gI s24 112 ≤ 1364 := hRs24.1 112; have : (0 : Int) ≤ gI s20 112 ∧ gI s20 112 ≤ 1364 := hRs20.1 112; have : (0 : Int) ≤ gI s 112 ∧ gI s 112 ≤ 1364 := hRs.1 112; omega)) (fun r10 er10 hr10 => ?_)
          obtain ⟨hr10_0, hr10_1⟩ := hr10
          have hr10_0 : r10 = kM s3 x1.toNat x2.toNat := hr10_0
          have hr10_1 : R2 r10 := hr10_1
          refine wp_bn (w_x12_tellsTwo hRs3 (by show gI s3 112 < 1363; have : (0 : Int) ≤ gI s36 112 ∧ gI s36 112 ≤ 1364 := hRs36.1 112; have : (0 : Int) ≤ gI s32 112 ∧ gI s32 112 ≤ 1364 := hRs32.1 112; have : (0 : Int) ≤ gI s24 112 ∧ gI s24 112 ≤ 1364 := hRs24.1 112; have : (0 : Int) ≤ gI s20 112 ∧ gI s20 112 ≤ 1364 := hRs20.1 112; have : (0 : Int) ≤ gI s 112 ∧ gI s 112 ≤ 1364 := hRs.1 112; have : (0 : Int) ≤ gI s3 112 ∧ gI s3 112 ≤ 1364 := hRs3.1 112; omega) (by show R2 r10; have : (0 : Int) ≤ gI s3 112 ∧ gI s3 112 ≤ 1364 := hRs3.1 112; have : (0 : Int) ≤ gI s36 112 ∧ gI s36 112 ≤ 1364 := hRs36.1 112; have : (0 : Int) ≤ gI s32 112 ∧ gI s32 112 ≤ 1364 := hRs32.1 112; have : (0 : Int) ≤ gI s24 112 ∧ gI s24 112 ≤ 1364 := hRs24.1 112; have : (0 : Int) ≤ gI s20 112 ∧ gI s20 112 ≤ 1364 := hRs20.1 112; have : (0 : Int) ≤ gI s 112 ∧ gI s 112 ≤ 1364 := hRs.1 112; omega) (hv47_3)) (fun s12 es12 hs12 => ?_)
          have Fs12 : F_x12_tellsTwo s3 s12 := fr_x12_tellsTwo es12
          obtain ⟨hRs12, hs12_0, hs12_1⟩ := hs12
          have hs12_0 : gI s12 112 = gI s3 112 + 2 := hs12_0
          have hs12_1 : OC s12 := hs12_1
          refine wp_bn (w_x12_valueAt hRs12 (by show 0 ≤ x1 ∧ x1 < 48; have : (0 : Int) ≤ gI s12 112 ∧ gI s12 112 ≤ 1364 := hRs12.1 112; have : (0 : Int) ≤ gI s3 112 ∧ gI s3 112 ≤ 1364 := hRs3.1 112; have : (0 : Int) ≤ gI s36 112 ∧ gI s36 112 ≤ 1364 := hRs36.1 112; have : (0 : Int) ≤ gI s32 112 ∧ gI s32 112 ≤ 1364 := hRs32.1 112; have : (0 : Int) ≤ gI s24 112 ∧ gI s24 112 ≤ 1364 := hRs24.1 112; have : (0 : Int) ≤ gI s20 112 ∧ gI s20 112 ≤ 1364 := hRs20.1 112; have : (0 : Int) ≤ gI s 112 ∧ gI s 112 ≤ 1364 := hRs.1 112; omega) (by show 0 ≤ x2 ∧ x2 < 6; have : (0 : Int) ≤ gI s12 112 ∧ gI s12 112 ≤ 1364 := hRs12.1 112; have : (0 : Int) ≤ gI s3 112 ∧ gI s3 112 ≤ 1364 := hRs3.1 112; have : (0 : Int) ≤ gI s36 112 ∧ gI s36 112 ≤ 1364 := hRs36.1 112; have : (0 : Int) ≤ gI s32 112 ∧ gI s32 112 ≤ 1364 := hRs32.1 112; have : (0 : Int) ≤ gI s24 112 ∧ gI s24 112 ≤ 1364 := hRs24.1 112; have : (0 : Int) ≤ gI s20 112 ∧ gI s20 112 ≤ 1364 := hRs20.1 112; have : (0 : Int) ≤ gI s 112 ∧ gI s 112 ≤ 1364 := hRs.1 112; omega)) (fun r14 er14 hr14 => ?_)
          obtain ⟨hr14_0, hr14_1⟩ := hr14
          have hr14_0 : r14 = (hM s12).2.2 x1.toNat x2.toNat := hr14_0
          have hr14_1 : R2 r14 := hr14_1
          refine wp_bn (w_x12_tellsTwo hRs12 (by show gI s12 112 < 1363; have : (0 : Int) ≤ gI s3 112 ∧ gI s3 112 ≤ 1364 := hRs3.1 112; have : (0 : Int) ≤ gI s36 112 ∧ gI s36 112 ≤ 1364 := hRs36.1 112; have : (0 : Int) ≤ gI s32 112 ∧ gI s32 112 ≤ 1364 := hRs32.1 112; have : (0 : Int) ≤ gI s24 112 ∧ gI s24 112 ≤ 1364 := hRs24.1 112; have : (0 : Int) ≤ gI s20 112 ∧ gI s20 112 ≤ 1364 := hRs20.1 112; have : (0 : Int) ≤ gI s 112 ∧ gI s 112 ≤ 1364 := hRs.1 112; have : (0 : Int) ≤ gI s12 112 ∧ gI s12 112 ≤ 1364 := hRs12.1 112; omega) (by show R2 r14; have : (0 : Int) ≤ gI s12 112 ∧ gI s12 112 ≤ 1364 := hRs12.1 112; have : (0 : Int) ≤ gI s3 112 ∧ gI s3 112 ≤ 1364 := hRs3.1 112; have : (0 : Int) ≤ gI s36 112 ∧ gI s36 112 ≤ 1364 := hRs36.1 112; have : (0 : Int) ≤ gI s32 112 ∧ gI s32 112 ≤ 1364 := hRs32.1 112; have : (0 : Int) ≤ gI s24 112 ∧ gI s24 112 ≤ 1364 := hRs24.1 112; have : (0 : Int) ≤ gI s20 112 ∧ gI s20 112 ≤ 1364 := hRs20.1 112; have : (0 : Int) ≤ gI s 112 ∧ gI s 112 ≤ 1364 := hRs.1 112; omega) (hs12_1)) (fun s16 es16 hs16 => ?_)
          have Fs16 : F_x12_tellsTwo s12 s16 := fr_x12_tellsTwo es16
          obtain ⟨hRs16, hs16_0, hs16_1⟩ := hs16
          have hs16_0 : gI s16 112 = gI s12 112 + 2 := hs16_0
          have hs16_1 : OC s16 := hs16_1
          exact ih47 x1 (x2 + 1) s16 hRs16 (by show x1 = p0; have : (0 : Int) ≤ gI s16 112 ∧ gI s16 112 ≤ 1364 := hRs16.1 112; have : (0 : Int) ≤ gI s12 112 ∧ gI s12 112 ≤ 1364 := hRs12.1 112; have : (0 : Int) ≤ gI s3 112 ∧ gI s3 112 ≤ 1364 := hRs3.1 112; have : (0 : Int) ≤ gI s36 112 ∧ gI s36 112 ≤ 1364 := hRs36.1 112; have : (0 : Int) ≤ gI s32 112 ∧ gI s32 112 ≤ 1364 := hRs32.1 112; have : (0 : Int) ≤ gI s24 112 ∧ gI s24 112 ≤ 1364 := hRs24.1 112; have : (0 : Int) ≤ gI s20 112 ∧ gI s20 112 ≤ 1364 := hRs20.1 112; have : (0 : Int) ≤ gI s 112 ∧ gI s 112 ≤ 1364 := hRs.1 112; omega) (by show 0 ≤ (x2 + 1) ∧ (x2 + 1) ≤ (hM s).2.1 p0.toNat; have : (0 : Int) ≤ gI s16 112 ∧ gI s16 112 ≤ 1364 := hRs16.1 112; have : (0 : Int) ≤ gI s12 112 ∧ gI s12 112 ≤ 1364 := hRs12.1 112; have : (0 : Int) ≤ gI s3 112 ∧ gI s3 112 ≤ 1364 := hRs3.1 112; have : (0 : Int) ≤ gI s36 112 ∧ gI s36 112 ≤ 1364 := hRs36.1 112; have : (0 : Int) ≤ gI s32 112 ∧ gI s32 112 ≤ 1364 := hRs32.1 112; have : (0 : Int) ≤ gI s24 112 ∧ gI s24 112 ≤ 1364 := hRs24.1 112; have : (0 : Int) ≤ gI s20 112 ∧ gI s20 112 ≤ 1364 := hRs20.1 112; have : (0 : Int) ≤ gI s 112 ∧ gI s 112 ≤ 1364 := hRs.1 112; omega) (by show gI s16 112 = gI s 112 + 4 + 4 * (x2 + 1); have : (0 : Int) ≤ gI s12 112 ∧ gI s12 112 ≤ 1364 := hRs12.1 112; have : (0 : Int) ≤ gI s3 112 ∧ gI s3 112 ≤ 1364 := hRs3.1 112; have : (0 : Int) ≤ gI s36 112 ∧ gI s36 112 ≤ 1364 := hRs36.1 112; have : (0 : Int) ≤ gI s32 112 ∧ gI s32 112 ≤ 1364 := hRs32.1 112; have : (0 : Int) ≤ gI s24 112 ∧ gI s24 112 ≤ 1364 := hRs24.1 112; have : (0 : Int) ≤ gI s20 112 ∧ gI s20 112 ≤ 1364 := hRs20.1 112; have : (0 : Int) ≤ gI s 112 ∧ gI s 112 ≤ 1364 := hRs.1 112; have : (0 : Int) ≤ gI s16 112 ∧ gI s16 112 ≤ 1364 := hRs16.1 112; omega) (hs16_1) ((((Fs16.2.1 49 (by decide)).trans (Fs12.2.1 49 (by decide)))).trans hv47_4) (by have : (0 : Int) ≤ gI s16 112 ∧ gI s16 112 ≤ 1364 := hRs16.1 112; have : (0 : Int) ≤ gI s12 112 ∧ gI s12 112 ≤ 1364 := hRs12.1 112; have : (0 : Int) ≤ gI s3 112 ∧ gI s3 112 ≤ 1364 := hRs3.1 112; have : (0 : Int) ≤ gI s36 112 ∧ gI s36 112 ≤ 1364 := hRs36.1 112; have : (0 : Int) ≤ gI s32 112 ∧ gI s32 112 ≤ 1364 := hRs32.1 112; have : (0 : Int) ≤ gI s24 112 ∧ gI s24 112 ≤ 1364 := hRs24.1 112; have : (0 : Int) ≤ gI s20 112 ∧ gI s20 112 ≤ 1364 := hRs20.1 112; have : (0 : Int) ≤ gI s 112 ∧ gI s 112 ≤ 1364 := hRs.1 112; omega)
    exact L47 FU p0 0 s36 hRs36 (by show p0 = p0; have : (0 : Int) ≤ gI s36 112 ∧ gI s36 112 ≤ 1364 := hRs36.1 112; have : (0 : Int) ≤ gI s32 112 ∧ gI s32 112 ≤ 1364 := hRs32.1 112; have : (0 : Int) ≤ gI s24 112 ∧ gI s24 112 ≤ 1364 := hRs24.1 112; have : (0 : Int) ≤ gI s20 112 ∧ gI s20 112 ≤ 1364 := hRs20.1 112; have : (0 : Int) ≤ gI s 112 ∧ gI s 112 ≤ 1364 := hRs.1 112; omega) (by show 0 ≤ (0 : Int) ∧ (0 : Int) ≤ (hM s).2.1 p0.toNat; have : (0 : Int) ≤ gI s36 112 ∧ gI s36 112 ≤ 1364 := hRs36.1 112; have : (0 : Int) ≤ gI s32 112 ∧ gI s32 112 ≤ 1364 := hRs32.1 112; have : (0 : Int) ≤ gI s24 112 ∧ gI s24 112 ≤ 1364 := hRs24.1 112; have : (0 : Int) ≤ gI s20 112 ∧ gI s20 112 ≤ 1364 := hRs20.1 112; have : (0 : Int) ≤ gI s 112 ∧ gI s 112 ≤ 1364 := hRs.1 112; omega) (by show gI s36 112 = gI s 112 + 4 + 4 * (0 : Int); have : (0 : Int) ≤ gI s32 112 ∧ gI s32 112 ≤ 1364 := hRs32.1 112; have : (0 : Int) ≤ gI s24 112 ∧ gI s24 112 ≤ 1364 := hRs24.1 112; have : (0 : Int) ≤ gI s20 112 ∧ gI s20 112 ≤ 1364 := hRs20.1 112; have : (0 : Int) ≤ gI s 112 ∧ gI s 112 ≤ 1364 := hRs.1 112; have : (0 : Int) ≤ gI s36 112 ∧ gI s36 112 ≤ 1364 := hRs36.1 112; omega) (hs36_1) (((Fs36.2.1 49 (by decide)).trans ((Fs32.2.1 49 (by decide)).trans ((Fs24.2.1 49 (by decide)).trans (Fs20.2.1 49 (by decide)))))) (by have := FU_big; have := FU_big2; have : (0 : Int) ≤ gI s36 112 ∧ gI s36 112 ≤ 1364 := hRs36.1 112; have : (0 : Int) ≤ gI s32 112 ∧ gI s32 112 ≤ 1364 := hRs32.1 112; have : (0 : Int) ≤ gI s24 112 ∧ gI s24 112 ≤ 1364 := hRs24.1 112; have : (0 : Int) ≤ gI s20 112 ∧ gI s20 112 ≤ 1364 := hRs20.1 112; have : (0 : Int) ≤ gI s 112 ∧ gI s 112 ≤ 1364 := hRs.1 112; omega)
set_option maxHeartbeats 1000000 in
theorem w_x12_rootTold {p0 : Int} {s : MS} (hRs : Rr s) (hp0 : 0 ≤ p0 ∧ p0 < 16) (hp1 : JI s) : wp (m_x12_rootTold p0 s) (fun r => (0 ≤ r ∧ r ≤ 255)) := by
  unfold m_x12_rootTold
  refine wp_rg (by have : (0 : Int) ≤ gI s 47 ∧ gI s 47 ≤ 1 := hRs.1 47; omega) ?_
  refine wp_if (fun c1 => ?_) (fun c1 => ?_)
  · skip
    unfold m_x12_rootTold_J19
    exact wp_some (by show 0 ≤ (255 : Int) ∧ (255 : Int) ≤ 255; have : (0 : Int) ≤ gI s 47 ∧ gI s 47 ≤ 1 := hRs.1 47; omega)
  · skip
    refine wp_rdIn (by have : (0 : Int) ≤ gI s 47 ∧ gI s 47 ≤ 1 := hRs.1 47; omega) (fun y4 ey4 => ?_)
    have by4 : (-2147483648 : Int) ≤ y4 ∧ y4 ≤ 2147483647 := ey4 ▸ hRs.2.1 49 _ (by show _ < 906; have : (0 : Int) ≤ gI s 47 ∧ gI s 47 ≤ 1 := hRs.1 47; omega)
    have kb := (JI_GA hp1 (by assumption)).1.1.2 p0.toNat (by omega)
    rw [ey4] at kb
    unfold m_x12_rootTold_J19
    exact wp_some (by show 0 ≤ y4 ∧ y4 ≤ 255; have : (0 : Int) ≤ gI s 47 ∧ gI s 47 ≤ 1 := hRs.1 47; omega)
set_option maxHeartbeats 1000000 in
theorem w_x12_checked {p1 : Int} {s : MS} (hRs : Rr s) (hp0 : 0 ≤ p1 ∧ p1 ≤ 1364) (hp1 : p1 ≤ gI s 112) (hp2 : OC s) : wp (m_x12_checked p1 s) (fun r => ((-251) ≤ r ∧ r ≤ 251)) := by
  unfold m_x12_checked
  have L6 : ∀ (n : Nat) (x1 : Int) (x2 : Int) (x3 : Int), (x1 = p1) → ((-251) ≤ x2 ∧ x2 ≤ 251) → (0 ≤ x3 ∧ x3 ≤ p1) → (p1 - x3) < (n : Int) → wp (m_x12_checked_L6 s n x1 x2 x3) (fun r => ((-251) ≤ r ∧ r ≤ 251)) := by
    refine fr_ind (fun x1 x2 x3 hv6_0 hv6_1 hv6_2 hm6 => ?_) (fun n6 ih6 x1 x2 x3 hv6_0 hv6_1 hv6_2 hm6 => ?_)
    · exfalso; omega
    · show wp (m_x12_checked_b6 s (m_x12_checked_L6 s n6) x1 x2 x3) _
      unfold m_x12_checked_b6
      refine wp_rg (by have : (0 : Int) ≤ gI s 112 ∧ gI s 112 ≤ 1364 := hRs.1 112; omega) ?_
      refine wp_rg (by have : (0 : Int) ≤ gI s 112 ∧ gI s 112 ≤ 1364 := hRs.1 112; omega) ?_
      refine wp_if (fun c1 => ?_) (fun c1 => ?_)
      · skip
        exact wp_some (by show (-251) ≤ x2 ∧ x2 ≤ 251; have : (0 : Int) ≤ gI s 112 ∧ gI s 112 ≤ 1364 := hRs.1 112; omega)
      · skip
        refine wp_rdIn (by have : (0 : Int) ≤ gI s 112 ∧ gI s 112 ≤ 1364 := hRs.1 112; omega) (fun y7 ey7 => ?_)
        have by7 : (-2147483648 : Int) ≤ y7 ∧ y7 ≤ 2147483647 := ey7 ▸ hRs.2.1 111 _ (by show _ < 1364; have : (0 : Int) ≤ gI s 112 ∧ gI s 112 ≤ 1364 := hRs.1 112; omega)
        have k7 := hp2 x3.toNat (by omega)
        rw [ey7] at k7
        have km1 := Int.natAbs_tmod (3 * x2 + y7) 251
        have km2 := Nat.mod_lt (3 * x2 + y7).natAbs (show 0 < (251 : Int).natAbs by decide)
        have km3 : (251 : Int).natAbs = 251 := rfl
        refine wp_dv (by have : (0 : Int) ≤ gI s 112 ∧ gI s 112 ≤ 1364 := hRs.1 112; omega) ?_
        exact ih6 x1 (Int.tmod ((3 * x2) + y7) 251) (x3 + 1) (by show x1 = p1; have : (0 : Int) ≤ gI s 112 ∧ gI s 112 ≤ 1364 := hRs.1 112; omega) (by show (-251) ≤ (Int.tmod ((3 * x2) + y7) 251) ∧ (Int.tmod ((3 * x2) + y7) 251) ≤ 251; have : (0 : Int) ≤ gI s 112 ∧ gI s 112 ≤ 1364 := hRs.1 112; omega) (by show 0 ≤ (x3 + 1) ∧ (x3 + 1) ≤ p1; have : (0 : Int) ≤ gI s 112 ∧ gI s 112 ≤ 1364 := hRs.1 112; omega) (by have : (0 : Int) ≤ gI s 112 ∧ gI s 112 ≤ 1364 := hRs.1 112; omega)
  exact L6 FU p1 157 0 (by show p1 = p1; have : (0 : Int) ≤ gI s 112 ∧ gI s 112 ≤ 1364 := hRs.1 112; omega) (by show (-251) ≤ (157 : Int) ∧ (157 : Int) ≤ 251; have : (0 : Int) ≤ gI s 112 ∧ gI s 112 ≤ 1364 := hRs.1 112; omega) (by show 0 ≤ (0 : Int) ∧ (0 : Int) ≤ p1; have : (0 : Int) ≤ gI s 112 ∧ gI s 112 ≤ 1364 := hRs.1 112; omega) (by have := FU_big; have := FU_big2; have : (0 : Int) ≤ gI s 112 ∧ gI s 112 ≤ 1364 := hRs.1 112; omega)
set_option maxHeartbeats 1000000 in
theorem w_x12_image {s : MS} (hRs : Rr s) (hp0 : JI s) : wp (m_x12_image s) (fun q => (Rr q.2) ∧ (JI q.2) ∧ (gI q.2 1 = gI s 1)) := by
  have hpJ := hp0
  have kN := JI_N hpJ
  unfold m_x12_image
  refine wp_stn (fun s26 es26 => ?_)
  have hRs26 : Rr s26 := es26 ▸ Rr.uI hRs (by show (0 : Int) ≤ (0 : Int) ∧ (0 : Int) ≤ 1364; omega)
  have g26 : gI s26 112 = 0 := q_II es26
  refine wp_rdIn (by omega) (fun y27 ey27 => ?_)
  have by27 : (-2147483648 : Int) ≤ y27 ∧ y27 ≤ 2147483647 := ey27 ▸ hRs26.2.1 49 _ (by show _ < 906; omega)
  have k27 : gA s 49 16 = y27 := by rw [← ey27, (q_Ia es26 : gA s26 49 = gA s 49)]; rfl
  have kc := hpJ.1.1
  have kd : Int.tdiv y27 65536 = y27 / 65536 := Int.tdiv_eq_ediv_of_nonneg (by omega)
  refine wp_dv (by omega) ?_
  refine wp_bn (w_x12_tellsByte hRs26 (by show gI s26 112 < 1364; have : gI s26 112 = 0 := q_II es26; omega) (by show (-8388609) ≤ (Int.tdiv y27 65536) ∧ (Int.tdiv y27 65536) ≤ 8388609; omega) (fun j hj => by omega)) (fun s30 es30 hs30 => ?_)
  have Fs30 : F_x12_tellsByte s26 s30 := fr_x12_tellsByte es30
  obtain ⟨hRs30, hs30_0, hs30_1⟩ := hs30
  have hs30_0 : gI s30 112 = gI s26 112 + 1 := hs30_0
  have hs30_1 : OC s30 := hs30_1
  refine wp_rdIn (by have : gI s26 112 = 0 := q_II es26; have : (0 : Int) ≤ gI s30 112 ∧ gI s30 112 ≤ 1364 := hRs30.1 112; omega) (fun y31 ey31 => ?_)
  have by31 : (-2147483648 : Int) ≤ y31 ∧ y31 ≤ 2147483647 := ey31 ▸ hRs30.2.1 49 _ (by show _ < 906; have : gI s26 112 = 0 := q_II es26; have : (0 : Int) ≤ gI s30 112 ∧ gI s30 112 ≤ 1364 := hRs30.1 112; omega)
  have k31 : gA s 49 16 = y31 := by rw [← ey31, ((Fs30.2.1 49 (by decide)).trans (q_Ia es26 : gA s26 49 = gA s 49))]; rfl
  have kd2 : Int.tmod y31 65536 = y31 % 65536 := Int.tmod_eq_emod_of_nonneg (by omega)
  refine wp_dv (by have : gI s26 112 = 0 := q_II es26; have : (0 : Int) ≤ gI s30 112 ∧ gI s30 112 ≤ 1364 := hRs30.1 112; omega) ?_
  refine wp_bn (w_x12_tellsTwo hRs30 (by show gI s30 112 < 1363; have : gI s26 112 = 0 := q_II es26; have : (0 : Int) ≤ gI s30 112 ∧ gI s30 112 ≤ 1364 := hRs30.1 112; omega) (by show R2 (Int.tmod y31 65536); have : gI s26 112 = 0 := q_II es26; have : (0 : Int) ≤ gI s30 112 ∧ gI s30 112 ≤ 1364 := hRs30.1 112; omega) (hs30_1)) (fun s34 es34 hs34 => ?_)
  have Fs34 : F_x12_tellsTwo s30 s34 := fr_x12_tellsTwo es34
  obtain ⟨hRs34, hs34_0, hs34_1⟩ := hs34
  have hs34_0 : gI s34 112 = gI s30 112 + 2 := hs34_0
  have hs34_1 : OC s34 := hs34_1
  have L37 : ∀ (n : Nat) (x14 : Int) (s15 : MS), Rr s15 → (0 ≤ x14 ∧ x14 ≤ 8) → (gI s15 112 = 3 + 2 * x14) → (JI s15 ∧ gI s15 1 = gI s 1) → (OC s15) → (gA s15 49 = gA s 49 ∧ gA s15 39 = gA s 39 ∧ gI s15 47 = gI s 47) → (8 - x14) < (n : Int) → wp (m_x12_image_L37 n x14 s15) (fun q => (Rr q.2) ∧ (JI q.2) ∧ (gI q.2 1 = gI s 1)) := by
    refine fr_ind (fun x14 s15 hRs15 hv37_0 hv37_1 hv37_2 hv37_3 hv37_4 hm37 => ?_) (fun n37 ih37 x14 s15 hRs15 hv37_0 hv37_1 hv37_2 hv37_3 hv37_4 hm37 => ?_)
    · exfalso; have : (0 : Int) ≤ gI s 47 ∧ gI s 47 ≤ 1 := hRs.1 47; have : (0 : Int) ≤ gI s15 47 ∧ gI s15 47 ≤ 1 := hRs15.1 47; have : (0 : Int) ≤ gI s 1 ∧ gI s 1 ≤ 1600 := hRs.1 1; have : (0 : Int) ≤ gI s15 1 ∧ gI s15 1 ≤ 1600 := hRs15.1 1; have : (0 : Int) ≤ gI s15 112 ∧ gI s15 112 ≤ 1364 := hRs15.1 112; omega
    · show wp (m_x12_image_b37 (m_x12_image_L37 n37) x14 s15) _
      unfold m_x12_image_b37
      refine wp_rg (by have : (0 : Int) ≤ gI s 47 ∧ gI s 47 ≤ 1 := hRs.1 47; have : (0 : Int) ≤ gI s15 47 ∧ gI s15 47 ≤ 1 := hRs15.1 47; have : (0 : Int) ≤ gI s 1 ∧ gI s 1 ≤ 1600 := hRs.1 1; have : (0 : Int) ≤ gI s15 1 ∧ gI s15 1 ≤ 1600 := hRs15.1 1; have : (0 : Int) ≤ gI s15 112 ∧ gI s15 112 ≤ 1364 := hRs15.1 112; have : (0 : Int) ≤ gI s34 112 ∧ gI s34 112 ≤ 1364 := hRs34.1 112; have : gI s26 112 = 0 := q_II es26; have : (0 : Int) ≤ gI s30 112 ∧ gI s30 112 ≤ 1364 := hRs30.1 112; omega) ?_
      refine wp_if (fun c1 => ?_) (fun c1 => ?_)
      · skip
        have L72 : ∀ (n : Nat) (x1 : Int) (s2 : MS), Rr s2 → (0 ≤ x1 ∧ x1 ≤ 48) → (0 ≤ gI s2 112 ∧ gI s2 112 ≤ 19 + 28 * x1) → (JI s2 ∧ gI s2 1 = gI s 1) → (OC s2) → (gA s2 49 = gA s 49 ∧ gA s2 39 = gA s 39 ∧ gI s2 47 = gI s 47) → (48 - x1) < (n : Int) → wp (m_x12_image_L72 n x1 s2) (fun q => (Rr q.2) ∧ (JI q.2) ∧ (gI q.2 1 = gI s 1)) := by
          refine fr_ind (fun x1 s2 hRs2 hv72_0 hv72_1 hv72_2 hv72_3 hv72_4 hm72 => ?_) (fun n72 ih72 x1 s2 hRs2 hv72_0 hv72_1 hv72_2 hv72_3 hv72_4 hm72 => ?_)
          · exfalso; have : (0 : Int) ≤ gI s 47 ∧ gI s 47 ≤ 1 := hRs.1 47; have : (0 : Int) ≤ gI s2 47 ∧ gI s2 47 ≤ 1 := hRs2.1 47; have : (0 : Int) ≤ gI s 1 ∧ gI s 1 ≤ 1600 := hRs.1 1; have : (0 : Int) ≤ gI s2 1 ∧ gI s2 1 ≤ 1600 := hRs2.1 1; have : (0 : Int) ≤ gI s2 112 ∧ gI s2 112 ≤ 1364 := hRs2.1 112; omega
          · show wp (m_x12_image_b72 (m_x12_image_L72 n72) x1 s2) _
            unfold m_x12_image_b72
            refine wp_bn (w_x12_blockMany hRs2) (fun r4 er4 hr4 => ?_)
            have hr4_0 := hr4
            have hr4_0 : r4 = gA s2 39 5 := hr4_0
            rw [hv72_4.2.1] at hr4_0
            refine wp_rg (by have : (0 : Int) ≤ gI s2 47 ∧ gI s2 47 ≤ 1 := hRs2.1 47; have : (0 : Int) ≤ gI s2 1 ∧ gI s2 1 ≤ 1600 := hRs2.1 1; have : (0 : Int) ≤ gI s2 112 ∧ gI s2 112 ≤ 1364 := hRs2.1 112; have : (0 : Int) ≤ gI s 47 ∧ gI s 47 ≤ 1 := hRs.1 47; have : (0 : Int) ≤ gI s15 47 ∧ gI s15 47 ≤ 1 := hRs15.1 47; have : (0 : Int) ≤ gI s 1 ∧ gI s 1 ≤ 1600 := hRs.1 1; have : (0 : Int) ≤ gI s15 1 ∧ gI s15 1 ≤ 1600 := hRs15.1 1; have : (0 : Int) ≤ gI s15 112 ∧ gI s15 112 ≤ 1364 := hRs15.1 112; have : (0 : Int) ≤ gI s34 112 ∧ gI s34 112 ≤ 1364 := hRs34.1 112; have : gI s26 112 = 0 := q_II es26; have : (0 : Int) ≤ gI s30 112 ∧ gI s30 112 ≤ 1364 := hRs30.1 112; omega) ?_
            refine wp_rg (by have : (0 : Int) ≤ gI s2 47 ∧ gI s2 47 ≤ 1 := hRs2.1 47; have : (0 : Int) ≤ gI s2 1 ∧ gI s2 1 ≤ 1600 := hRs2.1 1; have : (0 : Int) ≤ gI s2 112 ∧ gI s2 112 ≤ 1364 := hRs2.1 112; have : (0 : Int) ≤ gI s 47 ∧ gI s 47 ≤ 1 := hRs.1 47; have : (0 : Int) ≤ gI s15 47 ∧ gI s15 47 ≤ 1 := hRs15.1 47; have : (0 : Int) ≤ gI s 1 ∧ gI s 1 ≤ 1600 := hRs.1 1; have : (0 : Int) ≤ gI s15 1 ∧ gI s15 1 ≤ 1600 := hRs15.1 1; have : (0 : Int) ≤ gI s15 112 ∧ gI s15 112 ≤ 1364 := hRs15.1 112; have : (0 : Int) ≤ gI s34 112 ∧ gI s34 112 ≤ 1364 := hRs34.1 112; have : gI s26 112 = 0 := q_II es26; have : (0 : Int) ≤ gI s30 112 ∧ gI s30 112 ≤ 1364 := hRs30.1 112; omega) ?_
            refine wp_if (fun c2 => ?_) (fun c2 => ?_)
            · skip
              refine wp_bn (w_x12_checked hRs2 (by show 0 ≤ (gI s2 112) ∧ (gI s2 112) ≤ 1364; have : (0 : Int) ≤ gI s2 47 ∧ gI s2 47 ≤ 1 := hRs2.1 47; have : (0 : Int) ≤ gI s2 1 ∧ gI s2 1 ≤ 1600 := hRs2.1 1; have : (0 : Int) ≤ gI s 47 ∧ gI s 47 ≤ 1 := hRs.1 47; have : (0 : Int) ≤ gI s15 47 ∧ gI s15 47 ≤ 1 := hRs15.1 47; have : (0 : Int) ≤ gI s 1 ∧ gI s 1 ≤ 1600 := hRs.1 1; have : (0 : Int) ≤ gI s15 1 ∧ gI s15 1 ≤ 1600 := hRs15.1 1; have : (0 : Int) ≤ gI s15 112 ∧ gI s15 112 ≤ 1364 := hRs15.1 112; have : (0 : Int) ≤ gI s34 112 ∧ gI s34 112 ≤ 1364 := hRs34.1 112; have : gI s26 112 = 0 := q_II es26; have : (0 : Int) ≤ gI s30 112 ∧ gI s30 112 ≤ 1364 := hRs30.1 112; have : (0 : Int) ≤ gI s2 112 ∧ gI s2 112 ≤ 1364 := hRs2.1 112; omega) (by show (gI s2 112) ≤ gI s2 112; have : (0 : Int) ≤ gI s2 47 ∧ gI s2 47 ≤ 1 := hRs2.1 47; have : (0 : Int) ≤ gI s2 1 ∧ gI s2 1 ≤ 1600 := hRs2.1 1; have : (0 : Int) ≤ gI s 47 ∧ gI s 47 ≤ 1 := hRs.1 47; have : (0 : Int) ≤ gI s15 47 ∧ gI s15 47 ≤ 1 := hRs15.1 47; have : (0 : Int) ≤ gI s 1 ∧ gI s 1 ≤ 1600 := hRs.1 1; have : (0 : Int) ≤ gI s15 1 ∧ gI s15 1 ≤ 1600 := hRs15.1 1; have : (0 : Int) ≤ gI s15 112 ∧ gI s15 112 ≤ 1364 := hRs15.1 112; have : (0 : Int) ≤ gI s34 112 ∧ gI s34 112 ≤ 1364 := hRs34.1 112; have : gI s26 112 = 0 := q_II es26; have : (0 : Int) ≤ gI s30 112 ∧ gI s30 112 ≤ 1364 := hRs30.1 112; have : (0 : Int) ≤ gI s2 112 ∧ gI s2 112 ≤ 1364 := hRs2.1 112; omega) (hv72_3)) (fun r9 er9 hr9 => ?_)
              have hr9_0 := hr9
              have hr9_0 : (-251) ≤ r9 ∧ r9 ≤ 251 := hr9_0
              refine wp_bn (w_x12_tellsByte hRs2 (by show gI s2 112 < 1364; have : (0 : Int) ≤ gI s2 47 ∧ gI s2 47 ≤ 1 := hRs2.1 47; have : (0 : Int) ≤ gI s2 1 ∧ gI s2 1 ≤ 1600 := hRs2.1 1; have : (0 : Int) ≤ gI s 47 ∧ gI s 47 ≤ 1 := hRs.1 47; have : (0 : Int) ≤ gI s15 47 ∧ gI s15 47 ≤ 1 := hRs15.1 47; have : (0 : Int) ≤ gI s 1 ∧ gI s 1 ≤ 1600 := hRs.1 1; have : (0 : Int) ≤ gI s15 1 ∧ gI s15 1 ≤ 1600 := hRs15.1 1; have : (0 : Int) ≤ gI s15 112 ∧ gI s15 112 ≤ 1364 := hRs15.1 112; have : (0 : Int) ≤ gI s34 112 ∧ gI s34 112 ≤ 1364 := hRs34.1 112; have : gI s26 112 = 0 := q_II es26; have : (0 : Int) ≤ gI s30 112 ∧ gI s30 112 ≤ 1364 := hRs30.1 112; have : (0 : Int) ≤ gI s2 112 ∧ gI s2 112 ≤ 1364 := hRs2.1 112; omega) (by show (-8388609) ≤ r9 ∧ r9 ≤ 8388609; have : (0 : Int) ≤ gI s2 47 ∧ gI s2 47 ≤ 1 := hRs2.1 47; have : (0 : Int) ≤ gI s2 1 ∧ gI s2 1 ≤ 1600 := hRs2.1 1; have : (0 : Int) ≤ gI s2 112 ∧ gI s2 112 ≤ 1364 := hRs2.1 112; have : (0 : Int) ≤ gI s 47 ∧ gI s 47 ≤ 1 := hRs.1 47; have : (0 : Int) ≤ gI s15 47 ∧ gI s15 47 ≤ 1 := hRs15.1 47; have : (0 : Int) ≤ gI s 1 ∧ gI s 1 ≤ 1600 := hRs.1 1; have : (0 : Int) ≤ gI s15 1 ∧ gI s15 1 ≤ 1600 := hRs15.1 1; have : (0 : Int) ≤ gI s15 112 ∧ gI s15 112 ≤ 1364 := hRs15.1 112; have : (0 : Int) ≤ gI s34 112 ∧ gI s34 112 ≤ 1364 := hRs34.1 112; have : gI s26 112 = 0 := q_II es26; have : (0 : Int) ≤ gI s30 112 ∧ gI s30 112 ≤ 1364 := hRs30.1 112; omega) (hv72_3)) (fun s11 es11 hs11 => ?_)
              have Fs11 : F_x12_tellsByte s2 s11 := fr_x12_tellsByte es11
              obtain ⟨hRs11, hs11_0, hs11_1⟩ := hs11
              have hs11_0 : gI s11 112 = gI s2 112 + 1 := hs11_0
              have hs11_1 : OC s11 := hs11_1
              exact wp_some ⟨hRs11, by show JI s11; exact (JI_eq hv72_2.1 ⟨(Fs11.2.1 39 (by decide)), (Fs11.2.1 42 (by decide)), (Fs11.2.1 43 (by decide)), (Fs11.2.1 44 (by decide))⟩ (Fs11.2.1 49 (by decide)) (Fs11.2.1 75 (by decide)) (Fs11.1 76 (by decide)) (Fs11.1 77 (by decide)) (Fs11.1 47 (by decide)) (Fs11.2.2.1 78 (by decide))), by show gI s11 1 = gI s 1; exact (((Fs11.1 1 (by decide))).trans hv72_2.2)⟩
            · skip
              refine wp_bn (w_x12_writesBlock hRs2 (by show 0 ≤ x1 ∧ x1 < 48; have : (0 : Int) ≤ gI s2 47 ∧ gI s2 47 ≤ 1 := hRs2.1 47; have : (0 : Int) ≤ gI s2 1 ∧ gI s2 1 ≤ 1600 := hRs2.1 1; have : (0 : Int) ≤ gI s2 112 ∧ gI s2 112 ≤ 1364 := hRs2.1 112; have : (0 : Int) ≤ gI s 47 ∧ gI s 47 ≤ 1 := hRs.1 47; have : (0 : Int) ≤ gI s15 47 ∧ gI s15 47 ≤ 1 := hRs15.1 47; have : (0 : Int) ≤ gI s 1 ∧ gI s 1 ≤ 1600 := hRs.1 1; have : (0 : Int) ≤ gI s15 1 ∧ gI s15 1 ≤ 1600 := hRs15.1 1; have : (0 : Int) ≤ gI s15 112 ∧ gI s15 112 ≤ 1364 := hRs15.1 112; have : (0 : Int) ≤ gI s34 112 ∧ gI s34 112 ≤ 1364 := hRs34.1 112; have : gI s26 112 = 0 := q_II es26; have : (0 : Int) ≤ gI s30 112 ∧ gI s30 112 ≤ 1364 := hRs30.1 112; omega) ((JI_GA hv72_2.1 (fun z => by rcases hv72_2.1.2.2.2 with q | q; (rw [hv72_4.2.1] at q; omega); omega)).1.1.1) (by show gI s2 112 ≤ 1336; have : (0 : Int) ≤ gI s2 47 ∧ gI s2 47 ≤ 1 := hRs2.1 47; have : (0 : Int) ≤ gI s2 1 ∧ gI s2 1 ≤ 1600 := hRs2.1 1; have : (0 : Int) ≤ gI s 47 ∧ gI s 47 ≤ 1 := hRs.1 47; have : (0 : Int) ≤ gI s15 47 ∧ gI s15 47 ≤ 1 := hRs15.1 47; have : (0 : Int) ≤ gI s 1 ∧ gI s 1 ≤ 1600 := hRs.1 1; have : (0 : Int) ≤ gI s15 1 ∧ gI s15 1 ≤ 1600 := hRs15.1 1; have : (0 : Int) ≤ gI s15 112 ∧ gI s15 112 ≤ 1364 := hRs15.1 112; have : (0 : Int) ≤ gI s34 112 ∧ gI s34 112 ≤ 1364 := hRs34.1 112; have : gI s26 112 = 0 := q_II es26; have : (0 : Int) ≤ gI s30 112 ∧ gI s30 112 ≤ 1364 := hRs30.1 112; have : (0 : Int) ≤ gI s2 112 ∧ gI s2 112 ≤ 1364 := hRs2.1 112; omega) (hv72_3)) (fun s13 es13 hs13 => ?_)
              have Fs13 : F_x12_writesBlock s2 s13 := fr_x12_writesBlock es13
              obtain ⟨hRs13, hs13_0, hs13_1, hs13_2⟩ := hs13
              have hs13_0 : gI s13 112 ≤ gI s2 112 + 28 := hs13_0
              have hs13_1 : OC s13 := hs13_1
              have hs13_2 : gA s13 49 = gA s2 49 := hs13_2
              exact ih72 (x1 + 1) s13 hRs13 (by show 0 ≤ (x1 + 1) ∧ (x1 + 1) ≤ 48; have : (0 : Int) ≤ gI s13 112 ∧ gI s13 112 ≤ 1364 := hRs13.1 112; have : (0 : Int) ≤ gI s2 47 ∧ gI s2 47 ≤ 1 := hRs2.1 47; have : (0 : Int) ≤ gI s2 1 ∧ gI s2 1 ≤ 1600 := hRs2.1 1; have : (0 : Int) ≤ gI s2 112 ∧ gI s2 112 ≤ 1364 := hRs2.1 112; have : (0 : Int) ≤ gI s 47 ∧ gI s 47 ≤ 1 := hRs.1 47; have : (0 : Int) ≤ gI s15 47 ∧ gI s15 47 ≤ 1 := hRs15.1 47; have : (0 : Int) ≤ gI s 1 ∧ gI s 1 ≤ 1600 := hRs.1 1; have : (0 : Int) ≤ gI s15 1 ∧ gI s15 1 ≤ 1600 := hRs15.1 1; have : (0 : Int) ≤ gI s15 112 ∧ gI s15 112 ≤ 1364 := hRs15.1 112; have : (0 : Int) ≤ gI s34 112 ∧ gI s34 112 ≤ 1364 := hRs34.1 112; have : gI s26 112 = 0 := q_II es26; have : (0 : Int) ≤ gI s30 112 ∧ gI s30 112 ≤ 1364 := hRs30.1 112; omega) (by show 0 ≤ gI s13 112 ∧ gI s13 112 ≤ 19 + 28 * (x1 + 1); have : (0 : Int) ≤ gI s2 47 ∧ gI s2 47 ≤ 1 := hRs2.1 47; have : (0 : Int) ≤ gI s2 1 ∧ gI s2 1 ≤ 1600 := hRs2.1 1; have : (0 : Int) ≤ gI s2 112 ∧ gI s2 112 ≤ 1364 := hRs2.1 112; have : (0 : Int) ≤ gI s 47 ∧ gI s 47 ≤ 1 := hRs.1 47; have : (0 : Int) ≤ gI s15 47 ∧ gI s15 47 ≤ 1 := hRs15.1 47; have : (0 : Int) ≤ gI s 1 ∧ gI s 1 ≤ 1600 := hRs.1 1; have : (0 : Int) ≤ gI s15 1 ∧ gI s15 1 ≤ 1600 := hRs15.1 1; have : (0 : Int) ≤ gI s15 112 ∧ gI s15 112 ≤ 1364 := hRs15.1 112; have : (0 : Int) ≤ gI s34 112 ∧ gI s34 112 ≤ 1364 := hRs34.1 112; have : gI s26 112 = 0 := q_II es26; have : (0 : Int) ≤ gI s30 112 ∧ gI s30 112 ≤ 1364 := hRs30.1 112; have : (0 : Int) ≤ gI s13 112 ∧ gI s13 112 ≤ 1364 := hRs13.1 112; omega) (⟨JI_eq hv72_2.1 ⟨(Fs13.2.1 39 (by decide)), (Fs13.2.1 42 (by decide)), (Fs13.2.1 43 (by decide)), (Fs13.2.1 44 (by decide))⟩ hs13_2 (Fs13.2.1 75 (by decide)) (Fs13.1 76 (by decide)) (Fs13.1 77 (by decide)) (Fs13.1 47 (by decide)) (Fs13.2.2.1 78 (by decide)), ((Fs13.1 1 (by decide))).trans hv72_2.2⟩) (hs13_1) (⟨hs13_2.trans hv72_4.1, ((Fs13.2.1 39 (by decide))).trans hv72_4.2.1, ((Fs13.1 47 (by decide))).trans hv72_4.2.2⟩) (by have : (0 : Int) ≤ gI s13 112 ∧ gI s13 112 ≤ 1364 := hRs13.1 112; have : (0 : Int) ≤ gI s2 47 ∧ gI s2 47 ≤ 1 := hRs2.1 47; have : (0 : Int) ≤ gI s2 1 ∧ gI s2 1 ≤ 1600 := hRs2.1 1; have : (0 : Int) ≤ gI s2 112 ∧ gI s2 112 ≤ 1364 := hRs2.1 112; have : (0 : Int) ≤ gI s 47 ∧ gI s 47 ≤ 1 := hRs.1 47; have : (0 : Int) ≤ gI s15 47 ∧ gI s15 47 ≤ 1 := hRs15.1 47; have : (0 : Int) ≤ gI s 1 ∧ gI s 1 ≤ 1600 := hRs.1 1; have : (0 : Int) ≤ gI s15 1 ∧ gI s15 1 ≤ 1600 := hRs15.1 1; have : (0 : Int) ≤ gI s15 112 ∧ gI s15 112 ≤ 1364 := hRs15.1 112; have : (0 : Int) ≤ gI s34 112 ∧ gI s34 112 ≤ 1364 := hRs34.1 112; have : gI s26 112 = 0 := q_II es26; have : (0 : Int) ≤ gI s30 112 ∧ gI s30 112 ≤ 1364 := hRs30.1 112; omega)
        exact L72 FU 0 s15 hRs15 (by show 0 ≤ (0 : Int) ∧ (0 : Int) ≤ 48; have : (0 : Int) ≤ gI s 47 ∧ gI s 47 ≤ 1 := hRs.1 47; have : (0 : Int) ≤ gI s15 47 ∧ gI s15 47 ≤ 1 := hRs15.1 47; have : (0 : Int) ≤ gI s 1 ∧ gI s 1 ≤ 1600 := hRs.1 1; have : (0 : Int) ≤ gI s15 1 ∧ gI s15 1 ≤ 1600 := hRs15.1 1; have : (0 : Int) ≤ gI s15 112 ∧ gI s15 112 ≤ 1364 := hRs15.1 112; have : (0 : Int) ≤ gI s34 112 ∧ gI s34 112 ≤ 1364 := hRs34.1 112; have : gI s26 112 = 0 := q_II es26; have : (0 : Int) ≤ gI s30 112 ∧ gI s30 112 ≤ 1364 := hRs30.1 112; omega) (by show 0 ≤ gI s15 112 ∧ gI s15 112 ≤ 19 + 28 * (0 : Int); have : (0 : Int) ≤ gI s 47 ∧ gI s 47 ≤ 1 := hRs.1 47; have : (0 : Int) ≤ gI s15 47 ∧ gI s15 47 ≤ 1 := hRs15.1 47; have : (0 : Int) ≤ gI s 1 ∧ gI s 1 ≤ 1600 := hRs.1 1; have : (0 : Int) ≤ gI s15 1 ∧ gI s15 1 ≤ 1600 := hRs15.1 1; have : (0 : Int) ≤ gI s34 112 ∧ gI s34 112 ≤ 1364 := hRs34.1 112; have : gI s26 112 = 0 := q_II es26; have : (0 : Int) ≤ gI s30 112 ∧ gI s30 112 ≤ 1364 := hRs30.1 112; have : (0 : Int) ≤ gI s15 112 ∧ gI s15 112 ≤ 1364 := hRs15.1 112; omega) (hv37_2) (hv37_3) (hv37_4) (by have := FU_big; have := FU_big2; have : (0 : Int) ≤ gI s 47 ∧ gI s 47 ≤ 1 := hRs.1 47; have : (0 : Int) ≤ gI s15 47 ∧ gI s15 47 ≤ 1 := hRs15.1 47; have : (0 : Int) ≤ gI s 1 ∧ gI s 1 ≤ 1600 := hRs.1 1; have : (0 : Int) ≤ gI s15 1 ∧ gI s15 1 ≤ 1600 := hRs15.1 1; have : (0 : Int) ≤ gI s15 112 ∧ gI s15 112 ≤ 1364 := hRs15.1 112; have : (0 : Int) ≤ gI s34 112 ∧ gI s34 112 ≤ 1364 := hRs34.1 112; have : gI s26 112 = 0 := q_II es26; have : (0 : Int) ≤ gI s30 112 ∧ gI s30 112 ≤ 1364 := hRs30.1 112; omega)
      · skip
        refine wp_bn (w_x12_rootTold hRs15 (by show 0 ≤ x14 ∧ x14 < 16; have : (0 : Int) ≤ gI s 47 ∧ gI s 47 ≤ 1 := hRs.1 47; have : (0 : Int) ≤ gI s15 47 ∧ gI s15 47 ≤ 1 := hRs15.1 47; have : (0 : Int) ≤ gI s 1 ∧ gI s 1 ≤ 1600 := hRs.1 1; have : (0 : Int) ≤ gI s15 1 ∧ gI s15 1 ≤ 1600 := hRs15.1 1; have : (0 : Int) ≤ gI s15 112 ∧ gI s15 112 ≤ 1364 := hRs15.1 112; have : (0 : Int) ≤ gI s34 112 ∧ gI s34 112 ≤ 1364 := hRs34.1 112; have : gI s26 112 = 0 := q_II es26; have : (0 : Int) ≤ gI s30 112 ∧ gI s30 112 ≤ 1364 := hRs30.1 112; omega) (hv37_2.1)) (fun r19 er19 hr19 => ?_)
        have hr19_0 := hr19
        have hr19_0 : 0 ≤ r19 ∧ r19 ≤ 255 := hr19_0
        refine wp_bn (w_x12_tellsByte hRs15 (by show gI s15 112 < 1364; have : (0 : Int) ≤ gI s 47 ∧ gI s 47 ≤ 1 := hRs.1 47; have : (0 : Int) ≤ gI s15 47 ∧ gI s15 47 ≤ 1 := hRs15.1 47; have : (0 : Int) ≤ gI s 1 ∧ gI s 1 ≤ 1600 := hRs.1 1; have : (0 : Int) ≤ gI s15 1 ∧ gI s15 1 ≤ 1600 := hRs15.1 1; have : (0 : Int) ≤ gI s34 112 ∧ gI s34 112 ≤ 1364 := hRs34.1 112; have : gI s26 112 = 0 := q_II es26; have : (0 : Int) ≤ gI s30 112 ∧ gI s30 112 ≤ 1364 := hRs30.1 112; have : (0 : Int) ≤ gI s15 112 ∧ gI s15 112 ≤ 1364 := hRs15.1 112; omega) (by show (-8388609) ≤ r19 ∧ r19 ≤ 8388609; have : (0 : Int) ≤ gI s 47 ∧ gI s 47 ≤ 1 := hRs.1 47; have : (0 : Int) ≤ gI s15 47 ∧ gI s15 47 ≤ 1 := hRs15.1 47; have : (0 : Int) ≤ gI s 1 ∧ gI s 1 ≤ 1600 := hRs.1 1; have : (0 : Int) ≤ gI s15 1 ∧ gI s15 1 ≤ 1600 := hRs15.1 1; have : (0 : Int) ≤ gI s15 112 ∧ gI s15 112 ≤ 1364 := hRs15.1 112; have : (0 : Int) ≤ gI s34 112 ∧ gI s34 112 ≤ 1364 := hRs34.1 112; have : gI s26 112 = 0 := q_II es26; have : (0 : Int) ≤ gI s30 112 ∧ gI s30 112 ≤ 1364 := hRs30.1 112; omega) (hv37_3)) (fun s21 es21 hs21 => ?_)
        have Fs21 : F_x12_tellsByte s15 s21 := fr_x12_tellsByte es21
        obtain ⟨hRs21, hs21_0, hs21_1⟩ := hs21
        have hs21_0 : gI s21 112 = gI s15 112 + 1 := hs21_0
        have hs21_1 : OC s21 := hs21_1
        refine wp_bn (w_x12_rootTold hRs21 (by show 0 ≤ (8 + x14) ∧ (8 + x14) < 16; have : (0 : Int) ≤ gI s21 112 ∧ gI s21 112 ≤ 1364 := hRs21.1 112; have : (0 : Int) ≤ gI s 47 ∧ gI s 47 ≤ 1 := hRs.1 47; have : (0 : Int) ≤ gI s15 47 ∧ gI s15 47 ≤ 1 := hRs15.1 47; have : (0 : Int) ≤ gI s 1 ∧ gI s 1 ≤ 1600 := hRs.1 1; have : (0 : Int) ≤ gI s15 1 ∧ gI s15 1 ≤ 1600 := hRs15.1 1; have : (0 : Int) ≤ gI s15 112 ∧ gI s15 112 ≤ 1364 := hRs15.1 112; have : (0 : Int) ≤ gI s34 112 ∧ gI s34 112 ≤ 1364 := hRs34.1 112; have : gI s26 112 = 0 := q_II es26; have : (0 : Int) ≤ gI s30 112 ∧ gI s30 112 ≤ 1364 := hRs30.1 112; omega) (JI_eq hv37_2.1 ⟨(Fs21.2.1 39 (by decide)), (Fs21.2.1 42 (by decide)), (Fs21.2.1 43 (by decide)), (Fs21.2.1 44 (by decide))⟩ (Fs21.2.1 49 (by decide)) (Fs21.2.1 75 (by decide)) (Fs21.1 76 (by decide)) (Fs21.1 77 (by decide)) (Fs21.1 47 (by decide)) (Fs21.2.2.1 78 (by decide)))) (fun r23 er23 hr23 => ?_)
        have hr23_0 := hr23
        have hr23_0 : 0 ≤ r23 ∧ r23 ≤ 255 := hr23_0
        refine wp_bn (w_x12_tellsByte hRs21 (by show gI s21 112 < 1364; have : (0 : Int) ≤ gI s 47 ∧ gI s 47 ≤ 1 := hRs.1 47; have : (0 : Int) ≤ gI s15 47 ∧ gI s15 47 ≤ 1 := hRs15.1 47; have : (0 : Int) ≤ gI s 1 ∧ gI s 1 ≤ 1600 := hRs.1 1; have : (0 : Int) ≤ gI s15 1 ∧ gI s15 1 ≤ 1600 := hRs15.1 1; have : (0 : Int) ≤ gI s15 112 ∧ gI s15 112 ≤ 1364 := hRs15.1 112; have : (0 : Int) ≤ gI s34 112 ∧ gI s34 112 ≤ 1364 := hRs34.1 112; have : gI s26 112 = 0 := q_II es26; have : (0 : Int) ≤ gI s30 112 ∧ gI s30 112 ≤ 1364 := hRs30.1 112; have : (0 : Int) ≤ gI s21 112 ∧ gI s21 112 ≤ 1364 := hRs21.1 112; omega) (by show (-8388609) ≤ r23 ∧ r23 ≤ 8388609; have : (0 : Int) ≤ gI s21 112 ∧ gI s21 112 ≤ 1364 := hRs21.1 112; have : (0 : Int) ≤ gI s 47 ∧ gI s 47 ≤ 1 := hRs.1 47; have : (0 : Int) ≤ gI s15 47 ∧ gI s15 47 ≤ 1 := hRs15.1 47; have : (0 : Int) ≤ gI s 1 ∧ gI s 1 ≤ 1600 := hRs.1 1; have : (0 : Int) ≤ gI s15 1 ∧ gI s15 1 ≤ 1600 := hRs15.1 1; have : (0 : Int) ≤ gI s15 112 ∧ gI s15 112 ≤ 1364 := hRs15.1 112; have : (0 : Int) ≤ gI s34 112 ∧ gI s34 112 ≤ 1364 := hRs34.1 112; have : gI s26 112 = 0 := q_II es26; have : (0 : Int) ≤ gI s30 112 ∧ gI s30 112 ≤ 1364 := hRs30.1 112; omega) (hs21_1)) (fun s25 es25 hs25 => ?_)
        have Fs25 : F_x12_tellsByte s21 s25 := fr_x12_tellsByte es25
        obtain ⟨hRs25, hs25_0, hs25_1⟩ := hs25
        have hs25_0 : gI s25 112 = gI s21 112 + 1 := hs25_0
        have hs25_1 : OC s25 := hs25_1
        exact ih37 (x14 + 1) s25 hRs25 (by show 0 ≤ (x14 + 1) ∧ (x14 + 1) ≤ 8; have : (0 : Int) ≤ gI s25 112 ∧ gI s25 112 ≤ 1364 := hRs25.1 112; have : (0 : Int) ≤ gI s21 112 ∧ gI s21 112 ≤ 1364 := hRs21.1 112; have : (0 : Int) ≤ gI s 47 ∧ gI s 47 ≤ 1 := hRs.1 47; have : (0 : Int) ≤ gI s15 47 ∧ gI s15 47 ≤ 1 := hRs15.1 47; have : (0 : Int) ≤ gI s 1 ∧ gI s 1 ≤ 1600 := hRs.1 1; have : (0 : Int) ≤ gI s15 1 ∧ gI s15 1 ≤ 1600 := hRs15.1 1; have : (0 : Int) ≤ gI s15 112 ∧ gI s15 112 ≤ 1364 := hRs15.1 112; have : (0 : Int) ≤ gI s34 112 ∧ gI s34 112 ≤ 1364 := hRs34.1 112; have : gI s26 112 = 0 := q_II es26; have : (0 : Int) ≤ gI s30 112 ∧ gI s30 112 ≤ 1364 := hRs30.1 112; omega) (by show gI s25 112 = 3 + 2 * (x14 + 1); have : (0 : Int) ≤ gI s21 112 ∧ gI s21 112 ≤ 1364 := hRs21.1 112; have : (0 : Int) ≤ gI s 47 ∧ gI s 47 ≤ 1 := hRs.1 47; have : (0 : Int) ≤ gI s15 47 ∧ gI s15 47 ≤ 1 := hRs15.1 47; have : (0 : Int) ≤ gI s 1 ∧ gI s 1 ≤ 1600 := hRs.1 1; have : (0 : Int) ≤ gI s15 1 ∧ gI s15 1 ≤ 1600 := hRs15.1 1; have : (0 : Int) ≤ gI s15 112 ∧ gI s15 112 ≤ 1364 := hRs15.1 112; have : (0 : Int) ≤ gI s34 112 ∧ gI s34 112 ≤ 1364 := hRs34.1 112; have : gI s26 112 = 0 := q_II es26; have : (0 : Int) ≤ gI s30 112 ∧ gI s30 112 ≤ 1364 := hRs30.1 112; have : (0 : Int) ≤ gI s25 112 ∧ gI s25 112 ≤ 1364 := hRs25.1 112; omega) (⟨JI_eq hv37_2.1 ⟨((Fs25.2.1 39 (by decide)).trans (Fs21.2.1 39 (by decide))), ((Fs25.2.1 42 (by decide)).trans (Fs21.2.1 42 (by decide))), ((Fs25.2.1 43 (by decide)).trans (Fs21.2.1 43 (by decide))), ((Fs25.2.1 44 (by decide)).trans (Fs21.2.1 44 (by decide)))⟩ ((Fs25.2.1 49 (by decide)).trans (Fs21.2.1 49 (by decide))) ((Fs25.2.1 75 (by decide)).trans (Fs21.2.1 75 (by decide))) ((Fs25.1 76 (by decide)).trans (Fs21.1 76 (by decide))) ((Fs25.1 77 (by decide)).trans (Fs21.1 77 (by decide))) ((Fs25.1 47 (by decide)).trans (Fs21.1 47 (by decide))) ((Fs25.2.2.1 78 (by decide)).trans (Fs21.2.2.1 78 (by decide))), (((Fs25.1 1 (by decide)).trans (Fs21.1 1 (by decide)))).trans hv37_2.2⟩) (hs25_1) (⟨(((Fs25.2.1 49 (by decide)).trans (Fs21.2.1 49 (by decide)))).trans hv37_4.1, (((Fs25.2.1 39 (by decide)).trans (Fs21.2.1 39 (by decide)))).trans hv37_4.2.1, (((Fs25.1 47 (by decide)).trans (Fs21.1 47 (by decide)))).trans hv37_4.2.2⟩) (by have : (0 : Int) ≤ gI s25 112 ∧ gI s25 112 ≤ 1364 := hRs25.1 112; have : (0 : Int) ≤ gI s21 112 ∧ gI s21 112 ≤ 1364 := hRs21.1 112; have : (0 : Int) ≤ gI s 47 ∧ gI s 47 ≤ 1 := hRs.1 47; have : (0 : Int) ≤ gI s15 47 ∧ gI s15 47 ≤ 1 := hRs15.1 47; have : (0 : Int) ≤ gI s 1 ∧ gI s 1 ≤ 1600 := hRs.1 1; have : (0 : Int) ≤ gI s15 1 ∧ gI s15 1 ≤ 1600 := hRs15.1 1; have : (0 : Int) ≤ gI s15 112 ∧ gI s15 112 ≤ 1364 := hRs15.1 112; have : (0 : Int) ≤ gI s34 112 ∧ gI s34 112 ≤ 1364 := hRs34.1 112; have : gI s26 112 = 0 := q_II es26; have : (0 : Int) ≤ gI s30 112 ∧ gI s30 112 ≤ 1364 := hRs30.1 112; omega)
  exact L37 FU 0 s34 hRs34 (by show 0 ≤ (0 : Int) ∧ (0 : Int) ≤ 8; have : (0 : Int) ≤ gI s34 112 ∧ gI s34 112 ≤ 1364 := hRs34.1 112; have : gI s26 112 = 0 := q_II es26; have : (0 : Int) ≤ gI s30 112 ∧ gI s30 112 ≤ 1364 := hRs30.1 112; omega) (by show gI s34 112 = 3 + 2 * (0 : Int); have : gI s26 112 = 0 := q_II es26; have : (0 : Int) ≤ gI s30 112 ∧ gI s30 112 ≤ 1364 := hRs30.1 112; have : (0 : Int) ≤ gI s34 112 ∧ gI s34 112 ≤ 1364 := hRs34.1 112; omega) (⟨JI_eq hpJ ⟨((Fs34.2.1 39 (by decide)).trans ((Fs30.2.1 39 (by decide)).trans (q_Ia es26 : gA s26 39 = gA s 39))), ((Fs34.2.1 42 (by decide)).trans ((Fs30.2.1 42 (by decide)).trans (q_Ia es26 : gA s26 42 = gA s 42))), ((Fs34.2.1 43 (by decide)).trans ((Fs30.2.1 43 (by decide)).trans (q_Ia es26 : gA s26 43 = gA s 43))), ((Fs34.2.1 44 (by decide)).trans ((Fs30.2.1 44 (by decide)).trans (q_Ia es26 : gA s26 44 = gA s 44)))⟩ ((Fs34.2.1 49 (by decide)).trans ((Fs30.2.1 49 (by decide)).trans (q_Ia es26 : gA s26 49 = gA s 49))) ((Fs34.2.1 75 (by decide)).trans ((Fs30.2.1 75 (by decide)).trans (q_Ia es26 : gA s26 75 = gA s 75))) ((Fs34.1 76 (by decide)).trans ((Fs30.1 76 (by decide)).trans (q_Ii es26 (by decide) : gI s26 76 = gI s 76))) ((Fs34.1 77 (by decide)).trans ((Fs30.1 77 (by decide)).trans (q_Ii es26 (by decide) : gI s26 77 = gI s 77))) ((Fs34.1 47 (by decide)).trans ((Fs30.1 47 (by decide)).trans (q_Ii es26 (by decide) : gI s26 47 = gI s 47))) ((Fs34.2.2.1 78 (by decide)).trans ((Fs30.2.2.1 78 (by decide)).trans (q_Il es26 : gL s26 78 = gL s 78))), ((Fs34.1 1 (by decide)).trans ((Fs30.1 1 (by decide)).trans (q_Ii es26 (by decide) : gI s26 1 = gI s 1)))⟩) (hs34_1) (⟨((Fs34.2.1 49 (by decide)).trans ((Fs30.2.1 49 (by decide)).trans (q_Ia es26 : gA s26 49 = gA s 49))), ((Fs34.2.1 39 (by decide)).trans ((Fs30.2.1 39 (by decide)).trans (q_Ia es26 : gA s26 39 = gA s 39))), ((Fs34.1 47 (by decide)).trans ((Fs30.1 47 (by decide)).trans (q_Ii es26 (by decide) : gI s26 47 = gI s 47)))⟩) (by have := FU_big; have := FU_big2; have : (0 : Int) ≤ gI s34 112 ∧ gI s34 112 ≤ 1364 := hRs34.1 112; have : gI s26 112 = 0 := q_II es26; have : (0 : Int) ≤ gI s30 112 ∧ gI s30 112 ≤ 1364 := hRs30.1 112; omega)
set_option maxHeartbeats 1000000 in
theorem w_x12_see {s : MS} (hRs : Rr s) (hp0 : JI s) : wp (m_x12_see s) (fun q => (Rr q.2) ∧ (JI q.2) ∧ (gI q.2 1 = 0)) := by
  have hpJ := hp0
  have r1 : (0 : Int) ≤ gI s 1 ∧ gI s 1 ≤ 1600 := hRs.1 1
  have kd4 : Int.tdiv (gI s 1) 4 = gI s 1 / 4 := Int.tdiv_eq_ediv_of_nonneg (by omega)
  have km4 : Int.tmod (gI s 1) 4 = gI s 1 % 4 := Int.tmod_eq_emod_of_nonneg (by omega)
  have kd2 : Int.tdiv (gI s 1) 2 = gI s 1 / 2 := Int.tdiv_eq_ediv_of_nonneg (by omega)
  have J109 : ∀ (x14 : Int) (x15 : Int) (s16 : MS), Rr s16 → (x14 = gI s 1) → (x15 = 0 ∨ (x15 = 1 ∧ gI s 1 % 4 = 0 ∧ gI s 1 ≤ 48)) → (JI s16 ∧ gI s16 1 = 0) → wp (m_x12_see_J109 x14 x15 s16) (fun q => (Rr q.2) ∧ (JI q.2) ∧ (gI q.2 1 = 0)) := by
    intro x14 x15 s16 hRs16 hj109_0 hj109_1 hj109_2
    unfold m_x12_see_J109
    refine wp_rg (by have : (0 : Int) ≤ gI s16 1 ∧ gI s16 1 ≤ 1600 := hRs16.1 1; have : (0 : Int) ≤ gI s 1 ∧ gI s 1 ≤ 1600 := hRs.1 1; omega) ?_
    refine wp_if (fun c1 => ?_) (fun c1 => ?_)
    · skip
      refine wp_bn (w_x12_refuses hRs16 (by show 0 ≤ (1 : Int) ∧ (1 : Int) < 6; have : (0 : Int) ≤ gI s16 1 ∧ gI s16 1 ≤ 1600 := hRs16.1 1; have : (0 : Int) ≤ gI s 1 ∧ gI s 1 ≤ 1600 := hRs.1 1; omega)) (fun qqr21 eqr21s hqr21s => ?_)
      obtain ⟨qr21r, qr21s⟩ := qqr21
      dsimp only at eqr21s hqr21s ⊢
      have Fqr21s : F_x12_refuses s16 qr21s := fr_x12_refuses eqr21s
      obtain ⟨hRqr21s, hqr21s_0⟩ := hqr21s
      have hqr21s_0 : qr21r = -1 := hqr21s_0
      exact wp_some ⟨hRqr21s, by show JI qr21s; exact (JI_eq hj109_2.1 ⟨(Fqr21s.2.1 39 (by decide)), (Fqr21s.2.1 42 (by decide)), (Fqr21s.2.1 43 (by decide)), (Fqr21s.2.1 44 (by decide))⟩ (Fqr21s.2.1 49 (by decide)) (Fqr21s.2.1 75 (by decide)) (Fqr21s.1 76 (by decide)) (Fqr21s.1 77 (by decide)) (Fqr21s.1 47 (by decide)) (Fqr21s.2.2.1 78 (by decide))), by show gI qr21s 1 = 0; exact (((Fqr21s.1 1 (by decide))).trans hj109_2.2)⟩
    · skip
      have L121 : ∀ (n : Nat) (x1 : Int) (x2 : Int) (s3 : MS), Rr s3 → (x1 = gI s 1 ∧ gI s 1 % 4 = 0 ∧ gI s 1 ≤ 48) → (0 ≤ x2 ∧ x2 ≤ 24) → (JI s3 ∧ gI s3 1 = 0) → (24 - x2) < (n : Int) → wp (m_x12_see_L121 n x1 x2 s3) (fun q => (Rr q.2) ∧ (JI q.2) ∧ (gI q.2 1 = 0)) := by
        refine fr_ind (fun x1 x2 s3 hRs3 hv121_0 hv121_1 hv121_2 hm121 => ?_) (fun n121 ih121 x1 x2 s3 hRs3 hv121_0 hv121_1 hv121_2 hm121 => ?_)
        · exfalso; have : (0 : Int) ≤ gI s3 1 ∧ gI s3 1 ≤ 1600 := hRs3.1 1; have : (0 : Int) ≤ gI s 1 ∧ gI s 1 ≤ 1600 := hRs.1 1; omega
        · show wp (m_x12_see_b121 (m_x12_see_L121 n121) x1 x2 s3) _
          unfold m_x12_see_b121
          have e0 : x1 = gI s 1 := hv121_0.1
          have f2 : Int.tdiv x1 2 = gI s 1 / 2 := by rw [e0]; exact kd2
          have f4 : Int.tdiv x1 4 = gI s 1 / 4 := by rw [e0]; exact kd4
          refine wp_dv (by have : (0 : Int) ≤ gI s3 1 ∧ gI s3 1 ≤ 1600 := hRs3.1 1; have : (0 : Int) ≤ gI s16 1 ∧ gI s16 1 ≤ 1600 := hRs16.1 1; have : (0 : Int) ≤ gI s 1 ∧ gI s 1 ≤ 1600 := hRs.1 1; omega) ?_
          refine wp_rg (by have : (0 : Int) ≤ gI s3 1 ∧ gI s3 1 ≤ 1600 := hRs3.1 1; have : (0 : Int) ≤ gI s16 1 ∧ gI s16 1 ≤ 1600 := hRs16.1 1; have : (0 : Int) ≤ gI s 1 ∧ gI s 1 ≤ 1600 := hRs.1 1; omega) ?_
          refine wp_rg (by have : (0 : Int) ≤ gI s3 1 ∧ gI s3 1 ≤ 1600 := hRs3.1 1; have : (0 : Int) ≤ gI s16 1 ∧ gI s16 1 ≤ 1600 := hRs16.1 1; have : (0 : Int) ≤ gI s 1 ∧ gI s 1 ≤ 1600 := hRs.1 1; omega) ?_
          refine wp_if (fun c2 => ?_) (fun c2 => ?_)
          · skip
            refine wp_dv (by have : (0 : Int) ≤ gI s3 1 ∧ gI s3 1 ≤ 1600 := hRs3.1 1; have : (0 : Int) ≤ gI s16 1 ∧ gI s16 1 ≤ 1600 := hRs16.1 1; have : (0 : Int) ≤ gI s 1 ∧ gI s 1 ≤ 1600 := hRs.1 1; omega) ?_
            refine wp_stn (fun s9 es9 => ?_)
            have hRs9 : Rr s9 := es9 ▸ Rr.uI hRs3 (by show (0 : Int) ≤ (Int.tdiv x1 4) ∧ (Int.tdiv x1 4) ≤ 12; have : (0 : Int) ≤ gI s3 1 ∧ gI s3 1 ≤ 1600 := hRs3.1 1; have : (0 : Int) ≤ gI s16 1 ∧ gI s16 1 ≤ 1600 := hRs16.1 1; have : (0 : Int) ≤ gI s 1 ∧ gI s 1 ≤ 1600 := hRs.1 1; omega)
            exact wp_some ⟨hRs9, by show JI s9; exact (JI_eq hv121_2.1 ⟨(q_Ia es9 : gA s9 39 = gA s3 39), (q_Ia es9 : gA s9 42 = gA s3 42), (q_Ia es9 : gA s9 43 = gA s3 43), (q_Ia es9 : gA s9 44 = gA s3 44)⟩ (q_Ia es9 : gA s9 49 = gA s3 49) (q_Ia es9 : gA s9 75 = gA s3 75) (q_Ii es9 (by decide) : gI s9 76 = gI s3 76) (q_Ii es9 (by decide) : gI s9 77 = gI s3 77) (q_Ii es9 (by decide) : gI s9 47 = gI s3 47) (q_Il es9 : gL s9 78 = gL s3 78)), by show gI s9 1 = 0; exact (((q_Ii es9 (by decide) : gI s9 1 = gI s3 1)).trans hv121_2.2)⟩
          · skip
            refine wp_rdIn (by have : (0 : Int) ≤ gI s3 1 ∧ gI s3 1 ≤ 1600 := hRs3.1 1; have : (0 : Int) ≤ gI s16 1 ∧ gI s16 1 ≤ 1600 := hRs16.1 1; have : (0 : Int) ≤ gI s 1 ∧ gI s 1 ≤ 1600 := hRs.1 1; omega) (fun y10 ey10 => ?_)
            have by10 : (0 : Int) ≤ y10 ∧ y10 ≤ 255 := ey10 ▸ hRs3.2.1 0 _ (by show _ < 1600; have : (0 : Int) ≤ gI s3 1 ∧ gI s3 1 ≤ 1600 := hRs3.1 1; have : (0 : Int) ≤ gI s16 1 ∧ gI s16 1 ≤ 1600 := hRs16.1 1; have : (0 : Int) ≤ gI s 1 ∧ gI s 1 ≤ 1600 := hRs.1 1; omega)
            refine wp_rdIn (by have : (0 : Int) ≤ gI s3 1 ∧ gI s3 1 ≤ 1600 := hRs3.1 1; have : (0 : Int) ≤ gI s16 1 ∧ gI s16 1 ≤ 1600 := hRs16.1 1; have : (0 : Int) ≤ gI s 1 ∧ gI s 1 ≤ 1600 := hRs.1 1; omega) (fun y11 ey11 => ?_)
            have by11 : (0 : Int) ≤ y11 ∧ y11 ≤ 255 := ey11 ▸ hRs3.2.1 0 _ (by show _ < 1600; have : (0 : Int) ≤ gI s3 1 ∧ gI s3 1 ≤ 1600 := hRs3.1 1; have : (0 : Int) ≤ gI s16 1 ∧ gI s16 1 ≤ 1600 := hRs16.1 1; have : (0 : Int) ≤ gI s 1 ∧ gI s 1 ≤ 1600 := hRs.1 1; omega)
            refine wp_inb (by have : (0 : Int) ≤ gI s3 1 ∧ gI s3 1 ≤ 1600 := hRs3.1 1; have : (0 : Int) ≤ gI s16 1 ∧ gI s16 1 ≤ 1600 := hRs16.1 1; have : (0 : Int) ≤ gI s 1 ∧ gI s 1 ≤ 1600 := hRs.1 1; omega) ?_
            refine wp_stn (fun s13 es13 => ?_)
            have hRs13 : Rr s13 := es13 ▸ Rr.uAu hRs3 (by show (-2147483648 : Int) ≤ ((256 * y10) + y11) ∧ ((256 * y10) + y11) ≤ 2147483647; have : (0 : Int) ≤ gI s3 1 ∧ gI s3 1 ≤ 1600 := hRs3.1 1; have : (0 : Int) ≤ gI s16 1 ∧ gI s16 1 ≤ 1600 := hRs16.1 1; have : (0 : Int) ≤ gI s 1 ∧ gI s 1 ≤ 1600 := hRs.1 1; omega)
            exact ih121 x1 (x2 + 1) s13 hRs13 (by show x1 = gI s 1 ∧ gI s 1 % 4 = 0 ∧ gI s 1 ≤ 48; have : (0 : Int) ≤ gI s3 1 ∧ gI s3 1 ≤ 1600 := hRs3.1 1; have : (0 : Int) ≤ gI s16 1 ∧ gI s16 1 ≤ 1600 := hRs16.1 1; have : (0 : Int) ≤ gI s 1 ∧ gI s 1 ≤ 1600 := hRs.1 1; omega) (by show 0 ≤ (x2 + 1) ∧ (x2 + 1) ≤ 24; have : (0 : Int) ≤ gI s3 1 ∧ gI s3 1 ≤ 1600 := hRs3.1 1; have : (0 : Int) ≤ gI s16 1 ∧ gI s16 1 ≤ 1600 := hRs16.1 1; have : (0 : Int) ≤ gI s 1 ∧ gI s 1 ≤ 1600 := hRs.1 1; omega) (⟨JI_eq hv121_2.1 ⟨(q_Aa es13 (by decide) : gA s13 39 = gA s3 39), (q_Aa es13 (by decide) : gA s13 42 = gA s3 42), (q_Aa es13 (by decide) : gA s13 43 = gA s3 43), (q_Aa es13 (by decide) : gA s13 44 = gA s3 44)⟩ (q_Aa es13 (by decide) : gA s13 49 = gA s3 49) (q_Aa es13 (by decide) : gA s13 75 = gA s3 75) (q_Ai es13 : gI s13 76 = gI s3 76) (q_Ai es13 : gI s13 77 = gI s3 77) (q_Ai es13 : gI s13 47 = gI s3 47) (q_Al es13 : gL s13 78 = gL s3 78), ((q_Ai es13 : gI s13 1 = gI s3 1)).trans hv121_2.2⟩) (by have : (0 : Int) ≤ gI s3 1 ∧ gI s3 1 ≤ 1600 := hRs3.1 1; have : (0 : Int) ≤ gI s16 1 ∧ gI s16 1 ≤ 1600 := hRs16.1 1; have : (0 : Int) ≤ gI s 1 ∧ gI s 1 ≤ 1600 := hRs.1 1; omega)
      exact L121 FU x14 0 s16 hRs16 (by show x14 = gI s 1 ∧ gI s 1 % 4 = 0 ∧ gI s 1 ≤ 48; have : (0 : Int) ≤ gI s16 1 ∧ gI s16 1 ≤ 1600 := hRs16.1 1; have : (0 : Int) ≤ gI s 1 ∧ gI s 1 ≤ 1600 := hRs.1 1; omega) (by show 0 ≤ (0 : Int) ∧ (0 : Int) ≤ 24; have : (0 : Int) ≤ gI s16 1 ∧ gI s16 1 ≤ 1600 := hRs16.1 1; have : (0 : Int) ≤ gI s 1 ∧ gI s 1 ≤ 1600 := hRs.1 1; omega) (hj109_2) (by have := FU_big; have := FU_big2; have : (0 : Int) ≤ gI s16 1 ∧ gI s16 1 ≤ 1600 := hRs16.1 1; have : (0 : Int) ≤ gI s 1 ∧ gI s 1 ≤ 1600 := hRs.1 1; omega)
  unfold m_x12_see
  refine wp_stn (fun s51 es51 => ?_)
  have hRs51 : Rr s51 := es51 ▸ Rr.uI hRs (by show (0 : Int) ≤ (0 : Int) ∧ (0 : Int) ≤ 1600; omega)
  have J51 : JI s51 := JI_eq hpJ ⟨(q_Ia es51 : gA s51 39 = gA s 39), (q_Ia es51 : gA s51 42 = gA s 42), (q_Ia es51 : gA s51 43 = gA s 43), (q_Ia es51 : gA s51 44 = gA s 44)⟩ (q_Ia es51 : gA s51 49 = gA s 49) (q_Ia es51 : gA s51 75 = gA s 75) (q_Ii es51 (by decide) : gI s51 76 = gI s 76) (q_Ii es51 (by decide) : gI s51 77 = gI s 77) (q_Ii es51 (by decide) : gI s51 47 = gI s 47) (q_Il es51 : gL s51 78 = gL s 78)
  have g51 : gI s51 1 = 0 := q_II es51
  refine wp_rg (by have : (0 : Int) ≤ gI s 1 ∧ gI s 1 ≤ 1600 := hRs.1 1; omega) ?_
  refine wp_if (fun c3 => ?_) (fun c3 => ?_)
  · skip
    unfold m_x12_see_J32
    unfold m_x12_see_J33
    have L36 : ∀ (n : Nat) (x22 : Int) (x23 : Int) (x24 : Int) (s25 : MS), Rr s25 → (x22 = gI s 1) → (x23 = 0 ∨ (x23 = 1 ∧ gI s 1 % 4 = 0 ∧ gI s 1 ≤ 48)) → (0 ≤ x24 ∧ x24 % 4 = 0 ∧ x24 ≤ 1604) → (JI s25 ∧ gI s25 1 = 0) → (1604 - x24) < (n : Int) → wp (m_x12_see_L36 n x22 x23 x24 s25) (fun q => (Rr q.2) ∧ (JI q.2) ∧ (gI q.2 1 = 0)) := by
      refine fr_ind (fun x22 x23 x24 s25 hRs25 hv36_0 hv36_1 hv36_2 hv36_3 hm36 => ?_) (fun n36 ih36 x22 x23 x24 s25 hRs25 hv36_0 hv36_1 hv36_2 hv36_3 hm36 => ?_)
      · exfalso; have : (0 : Int) ≤ gI s25 1 ∧ gI s25 1 ≤ 1600 := hRs25.1 1; have : (0 : Int) ≤ gI s 1 ∧ gI s 1 ≤ 1600 := hRs.1 1; omega
      · show wp (m_x12_see_b36 (m_x12_see_L36 n36) x22 x23 x24 s25) _
        unfold m_x12_see_b36
        refine wp_rg (by have : (0 : Int) ≤ gI s25 1 ∧ gI s25 1 ≤ 1600 := hRs25.1 1; have : (0 : Int) ≤ gI s 1 ∧ gI s 1 ≤ 1600 := hRs.1 1; omega) ?_
        refine wp_rg (by have : (0 : Int) ≤ gI s25 1 ∧ gI s25 1 ≤ 1600 := hRs25.1 1; have : (0 : Int) ≤ gI s 1 ∧ gI s 1 ≤ 1600 := hRs.1 1; omega) ?_
        refine wp_if (fun c4 => ?_) (fun c4 => ?_)
        · skip
          exact J109 x22 x23 s25 hRs25 (by show x22 = gI s 1; have : (0 : Int) ≤ gI s25 1 ∧ gI s25 1 ≤ 1600 := hRs25.1 1; have : (0 : Int) ≤ gI s 1 ∧ gI s 1 ≤ 1600 := hRs.1 1; omega) (by show x23 = 0 ∨ (x23 = 1 ∧ gI s 1 % 4 = 0 ∧ gI s 1 ≤ 48); have : (0 : Int) ≤ gI s25 1 ∧ gI s25 1 ≤ 1600 := hRs25.1 1; have : (0 : Int) ≤ gI s 1 ∧ gI s 1 ≤ 1600 := hRs.1 1; omega) (hv36_3)
        · skip
          refine wp_rg (by have : (0 : Int) ≤ gI s25 1 ∧ gI s25 1 ≤ 1600 := hRs25.1 1; have : (0 : Int) ≤ gI s 1 ∧ gI s 1 ≤ 1600 := hRs.1 1; omega) ?_
          refine wp_if (fun c5 => ?_) (fun c5 => ?_)
          · skip
            exact J109 x22 x23 s25 hRs25 (by show x22 = gI s 1; have : (0 : Int) ≤ gI s25 1 ∧ gI s25 1 ≤ 1600 := hRs25.1 1; have : (0 : Int) ≤ gI s 1 ∧ gI s 1 ≤ 1600 := hRs.1 1; omega) (by show x23 = 0 ∨ (x23 = 1 ∧ gI s 1 % 4 = 0 ∧ gI s 1 ≤ 48); have : (0 : Int) ≤ gI s25 1 ∧ gI s25 1 ≤ 1600 := hRs25.1 1; have : (0 : Int) ≤ gI s 1 ∧ gI s 1 ≤ 1600 := hRs.1 1; omega) (hv36_3)
          · skip
            refine wp_rdIn (by have : (0 : Int) ≤ gI s25 1 ∧ gI s25 1 ≤ 1600 := hRs25.1 1; have : (0 : Int) ≤ gI s 1 ∧ gI s 1 ≤ 1600 := hRs.1 1; omega) (fun y38 ey38 => ?_)
            have by38 : (0 : Int) ≤ y38 ∧ y38 ≤ 255 := ey38 ▸ hRs25.2.1 0 _ (by show _ < 1600; have : (0 : Int) ≤ gI s25 1 ∧ gI s25 1 ≤ 1600 := hRs25.1 1; have : (0 : Int) ≤ gI s 1 ∧ gI s 1 ≤ 1600 := hRs.1 1; omega)
            refine wp_rdIn (by have : (0 : Int) ≤ gI s25 1 ∧ gI s25 1 ≤ 1600 := hRs25.1 1; have : (0 : Int) ≤ gI s 1 ∧ gI s 1 ≤ 1600 := hRs.1 1; omega) (fun y39 ey39 => ?_)
            have by39 : (0 : Int) ≤ y39 ∧ y39 ≤ 255 := ey39 ▸ hRs25.2.1 0 _ (by show _ < 1600; have : (0 : Int) ≤ gI s25 1 ∧ gI s25 1 ≤ 1600 := hRs25.1 1; have : (0 : Int) ≤ gI s 1 ∧ gI s 1 ≤ 1600 := hRs.1 1; omega)
            refine wp_rg (by have : (0 : Int) ≤ gI s25 1 ∧ gI s25 1 ≤ 1600 := hRs25.1 1; have : (0 : Int) ≤ gI s 1 ∧ gI s 1 ≤ 1600 := hRs.1 1; omega) ?_
            refine wp_if (fun c6 => ?_) (fun c6 => ?_)
            · skip
              unfold m_x12_see_J101
              unfold m_x12_see_J102
              exact ih36 x22 0 (x24 + 4) s25 hRs25 (by show x22 = gI s 1; have : (0 : Int) ≤ gI s25 1 ∧ gI s25 1 ≤ 1600 := hRs25.1 1; have : (0 : Int) ≤ gI s 1 ∧ gI s 1 ≤ 1600 := hRs.1 1; omega) (by show (0 : Int) = 0 ∨ ((0 : Int) = 1 ∧ gI s 1 % 4 = 0 ∧ gI s 1 ≤ 48); have : (0 : Int) ≤ gI s25 1 ∧ gI s25 1 ≤ 1600 := hRs25.1 1; have : (0 : Int) ≤ gI s 1 ∧ gI s 1 ≤ 1600 := hRs.1 1; omega) (by show 0 ≤ (x24 + 4) ∧ (x24 + 4) % 4 = 0 ∧ (x24 + 4) ≤ 1604; have : (0 : Int) ≤ gI s25 1 ∧ gI s25 1 ≤ 1600 := hRs25.1 1; have : (0 : Int) ≤ gI s 1 ∧ gI s 1 ≤ 1600 := hRs.1 1; omega) (hv36_3) (by have : (0 : Int) ≤ gI s25 1 ∧ gI s25 1 ≤ 1600 := hRs25.1 1; have : (0 : Int) ≤ gI s 1 ∧ gI s 1 ≤ 1600 := hRs.1 1; omega)
            · skip
              refine wp_rdIn (by have : (0 : Int) ≤ gI s25 1 ∧ gI s25 1 ≤ 1600 := hRs25.1 1; have : (0 : Int) ≤ gI s 1 ∧ gI s 1 ≤ 1600 := hRs.1 1; omega) (fun y42 ey42 => ?_)
              have by42 : (0 : Int) ≤ y42 ∧ y42 ≤ 255 := ey42 ▸ hRs25.2.1 0 _ (by show _ < 1600; have : (0 : Int) ≤ gI s25 1 ∧ gI s25 1 ≤ 1600 := hRs25.1 1; have : (0 : Int) ≤ gI s 1 ∧ gI s 1 ≤ 1600 := hRs.1 1; omega)
              refine wp_rdIn (by have : (0 : Int) ≤ gI s25 1 ∧ gI s25 1 ≤ 1600 := hRs25.1 1; have : (0 : Int) ≤ gI s 1 ∧ gI s 1 ≤ 1600 := hRs.1 1; omega) (fun y43 ey43 => ?_)
              have by43 : (0 : Int) ≤ y43 ∧ y43 ≤ 255 := ey43 ▸ hRs25.2.1 0 _ (by show _ < 1600; have : (0 : Int) ≤ gI s25 1 ∧ gI s25 1 ≤ 1600 := hRs25.1 1; have : (0 : Int) ≤ gI s 1 ∧ gI s 1 ≤ 1600 := hRs.1 1; omega)
              refine wp_rg (by have : (0 : Int) ≤ gI s25 1 ∧ gI s25 1 ≤ 1600 := hRs25.1 1; have : (0 : Int) ≤ gI s 1 ∧ gI s 1 ≤ 1600 := hRs.1 1; omega) ?_
              refine wp_if (fun c7 => ?_) (fun c7 => ?_)
              · skip
                unfold m_x12_see_J101
                unfold m_x12_see_J102
                exact ih36 x22 0 (x24 + 4) s25 hRs25 (by show x22 = gI s 1; have : (0 : Int) ≤ gI s25 1 ∧ gI s25 1 ≤ 1600 := hRs25.1 1; have : (0 : Int) ≤ gI s 1 ∧ gI s 1 ≤ 1600 := hRs.1 1; omega) (by show (0 : Int) = 0 ∨ ((0 : Int) = 1 ∧ gI s 1 % 4 = 0 ∧ gI s 1 ≤ 48); have : (0 : Int) ≤ gI s25 1 ∧ gI s25 1 ≤ 1600 := hRs25.1 1; have : (0 : Int) ≤ gI s 1 ∧ gI s 1 ≤ 1600 := hRs.1 1; omega) (by show 0 ≤ (x24 + 4) ∧ (x24 + 4) % 4 = 0 ∧ (x24 + 4) ≤ 1604; have : (0 : Int) ≤ gI s25 1 ∧ gI s25 1 ≤ 1600 := hRs25.1 1; have : (0 : Int) ≤ gI s 1 ∧ gI s 1 ≤ 1600 := hRs.1 1; omega) (hv36_3) (by have : (0 : Int) ≤ gI s25 1 ∧ gI s25 1 ≤ 1600 := hRs25.1 1; have : (0 : Int) ≤ gI s 1 ∧ gI s 1 ≤ 1600 := hRs.1 1; omega)
              · skip
                unfold m_x12_see_J102
                exact ih36 x22 1 (x24 + 4) s25 hRs25 (by show x22 = gI s 1; have : (0 : Int) ≤ gI s25 1 ∧ gI s25 1 ≤ 1600 := hRs25.1 1; have : (0 : Int) ≤ gI s 1 ∧ gI s 1 ≤ 1600 := hRs.1 1; omega) (by show (1 : Int) = 0 ∨ ((1 : Int) = 1 ∧ gI s 1 % 4 = 0 ∧ gI s 1 ≤ 48); have : (0 : Int) ≤ gI s25 1 ∧ gI s25 1 ≤ 1600 := hRs25.1 1; have : (0 : Int) ≤ gI s 1 ∧ gI s 1 ≤ 1600 := hRs.1 1; omega) (by show 0 ≤ (x24 + 4) ∧ (x24 + 4) % 4 = 0 ∧ (x24 + 4) ≤ 1604; have : (0 : Int) ≤ gI s25 1 ∧ gI s25 1 ≤ 1600 := hRs25.1 1; have : (0 : Int) ≤ gI s 1 ∧ gI s 1 ≤ 1600 := hRs.1 1; omega) (hv36_3) (by have : (0 : Int) ≤ gI s25 1 ∧ gI s25 1 ≤ 1600 := hRs25.1 1; have : (0 : Int) ≤ gI s 1 ∧ gI s 1 ≤ 1600 := hRs.1 1; omega)
    exact L36 FU (gI s 1) 0 0 s51 hRs51 (by show (gI s 1) = gI s 1; have : (0 : Int) ≤ gI s 1 ∧ gI s 1 ≤ 1600 := hRs.1 1; omega) (by show (0 : Int) = 0 ∨ ((0 : Int) = 1 ∧ gI s 1 % 4 = 0 ∧ gI s 1 ≤ 48); have : (0 : Int) ≤ gI s 1 ∧ gI s 1 ≤ 1600 := hRs.1 1; omega) (by show 0 ≤ (0 : Int) ∧ (0 : Int) % 4 = 0 ∧ (0 : Int) ≤ 1604; have : (0 : Int) ≤ gI s 1 ∧ gI s 1 ≤ 1600 := hRs.1 1; omega) (⟨J51, g51⟩) (by have := FU_big; have := FU_big2; have : (0 : Int) ≤ gI s 1 ∧ gI s 1 ≤ 1600 := hRs.1 1; omega)
  · skip
    refine wp_dv (by have : (0 : Int) ≤ gI s 1 ∧ gI s 1 ≤ 1600 := hRs.1 1; omega) ?_
    refine wp_rg (by have : (0 : Int) ≤ gI s 1 ∧ gI s 1 ≤ 1600 := hRs.1 1; omega) ?_
    refine wp_if (fun c8 => ?_) (fun c8 => ?_)
    · skip
      refine wp_dv (by have : (0 : Int) ≤ gI s 1 ∧ gI s 1 ≤ 1600 := hRs.1 1; omega) ?_
      refine wp_rg (by have : (0 : Int) ≤ gI s 1 ∧ gI s 1 ≤ 1600 := hRs.1 1; omega) ?_
      refine wp_if (fun c9 => ?_) (fun c9 => ?_)
      · skip
        unfold m_x12_see_J32
        unfold m_x12_see_J33
        have L36 : ∀ (n : Nat) (x22 : Int) (x23 : Int) (x24 : Int) (s25 : MS), Rr s25 → (x22 = gI s 1) → (x23 = 0 ∨ (x23 = 1 ∧ gI s 1 % 4 = 0 ∧ gI s 1 ≤ 48)) → (0 ≤ x24 ∧ x24 % 4 = 0 ∧ x24 ≤ 1604) → (JI s25 ∧ gI s25 1 = 0) → (1604 - x24) < (n : Int) → wp (m_x12_see_L36 n x22 x23 x24 s25) (fun q => (Rr q.2) ∧ (JI q.2) ∧ (gI q.2 1 = 0)) := by
          refine fr_ind (fun x22 x23 x24 s25 hRs25 hv36_0 hv36_1 hv36_2 hv36_3 hm36 => ?_) (fun n36 ih36 x22 x23 x24 s25 hRs25 hv36_0 hv36_1 hv36_2 hv36_3 hm36 => ?_)
          · exfalso; have : (0 : Int) ≤ gI s25 1 ∧ gI s25 1 ≤ 1600 := hRs25.1 1; have : (0 : Int) ≤ gI s 1 ∧ gI s 1 ≤ 1600 := hRs.1 1; omega
          · show wp (m_x12_see_b36 (m_x12_see_L36 n36) x22 x23 x24 s25) _
            unfold m_x12_see_b36
            refine wp_rg (by have : (0 : Int) ≤ gI s25 1 ∧ gI s25 1 ≤ 1600 := hRs25.1 1; have : (0 : Int) ≤ gI s 1 ∧ gI s 1 ≤ 1600 := hRs.1 1; omega) ?_
            refine wp_rg (by have : (0 : Int) ≤ gI s25 1 ∧ gI s25 1 ≤ 1600 := hRs25.1 1; have : (0 : Int) ≤ gI s 1 ∧ gI s 1 ≤ 1600 := hRs.1 1; omega) ?_
            refine wp_if (fun c10 => ?_) (fun c10 => ?_)
            · skip
              exact J109 x22 x23 s25 hRs25 (by show x22 = gI s 1; have : (0 : Int) ≤ gI s25 1 ∧ gI s25 1 ≤ 1600 := hRs25.1 1; have : (0 : Int) ≤ gI s 1 ∧ gI s 1 ≤ 1600 := hRs.1 1; omega) (by show x23 = 0 ∨ (x23 = 1 ∧ gI s 1 % 4 = 0 ∧ gI s 1 ≤ 48); have : (0 : Int) ≤ gI s25 1 ∧ gI s25 1 ≤ 1600 := hRs25.1 1; have : (0 : Int) ≤ gI s 1 ∧ gI s 1 ≤ 1600 := hRs.1 1; omega) (hv36_3)
            · skip
              refine wp_rg (by have : (0 : Int) ≤ gI s25 1 ∧ gI s25 1 ≤ 1600 := hRs25.1 1; have : (0 : Int) ≤ gI s 1 ∧ gI s 1 ≤ 1600 := hRs.1 1; omega) ?_
              refine wp_if (fun c11 => ?_) (fun c11 => ?_)
              · skip
                exact J109 x22 x23 s25 hRs25 (by show x22 = gI s 1; have : (0 : Int) ≤ gI s25 1 ∧ gI s25 1 ≤ 1600 := hRs25.1 1; have : (0 : Int) ≤ gI s 1 ∧ gI s 1 ≤ 1600 := hRs.1 1; omega) (by show x23 = 0 ∨ (x23 = 1 ∧ gI s 1 % 4 = 0 ∧ gI s 1 ≤ 48); have : (0 : Int) ≤ gI s25 1 ∧ gI s25 1 ≤ 1600 := hRs25.1 1; have : (0 : Int) ≤ gI s 1 ∧ gI s 1 ≤ 1600 := hRs.1 1; omega) (hv36_3)
              · skip
                refine wp_rdIn (by have : (0 : Int) ≤ gI s25 1 ∧ gI s25 1 ≤ 1600 := hRs25.1 1; have : (0 : Int) ≤ gI s 1 ∧ gI s 1 ≤ 1600 := hRs.1 1; omega) (fun y38 ey38 => ?_)
                have by38 : (0 : Int) ≤ y38 ∧ y38 ≤ 255 := ey38 ▸ hRs25.2.1 0 _ (by show _ < 1600; have : (0 : Int) ≤ gI s25 1 ∧ gI s25 1 ≤ 1600 := hRs25.1 1; have : (0 : Int) ≤ gI s 1 ∧ gI s 1 ≤ 1600 := hRs.1 1; omega)
                refine wp_rdIn (by have : (0 : Int) ≤ gI s25 1 ∧ gI s25 1 ≤ 1600 := hRs25.1 1; have : (0 : Int) ≤ gI s 1 ∧ gI s 1 ≤ 1600 := hRs.1 1; omega) (fun y39 ey39 => ?_)
                have by39 : (0 : Int) ≤ y39 ∧ y39 ≤ 255 := ey39 ▸ hRs25.2.1 0 _ (by show _ < 1600; have : (0 : Int) ≤ gI s25 1 ∧ gI s25 1 ≤ 1600 := hRs25.1 1; have : (0 : Int) ≤ gI s 1 ∧ gI s 1 ≤ 1600 := hRs.1 1; omega)
                refine wp_rg (by have : (0 : Int) ≤ gI s25 1 ∧ gI s25 1 ≤ 1600 := hRs25.1 1; have : (0 : Int) ≤ gI s 1 ∧ gI s 1 ≤ 1600 := hRs.1 1; omega) ?_
                refine wp_if (fun c12 => ?_) (fun c12 => ?_)
                · skip
                  unfold m_x12_see_J101
                  unfold m_x12_see_J102
                  exact ih36 x22 0 (x24 + 4) s25 hRs25 (by show x22 = gI s 1; have : (0 : Int) ≤ gI s25 1 ∧ gI s25 1 ≤ 1600 := hRs25.1 1; have : (0 : Int) ≤ gI s 1 ∧ gI s 1 ≤ 1600 := hRs.1 1; omega) (by show (0 : Int) = 0 ∨ ((0 : Int) = 1 ∧ gI s 1 % 4 = 0 ∧ gI s 1 ≤ 48); have : (0 : Int) ≤ gI s25 1 ∧ gI s25 1 ≤ 1600 := hRs25.1 1; have : (0 : Int) ≤ gI s 1 ∧ gI s 1 ≤ 1600 := hRs.1 1; omega) (by show 0 ≤ (x24 + 4) ∧ (x24 + 4) % 4 = 0 ∧ (x24 + 4) ≤ 1604; have : (0 : Int) ≤ gI s25 1 ∧ gI s25 1 ≤ 1600 := hRs25.1 1; have : (0 : Int) ≤ gI s 1 ∧ gI s 1 ≤ 1600 := hRs.1 1; omega) (hv36_3) (by have : (0 : Int) ≤ gI s25 1 ∧ gI s25 1 ≤ 1600 := hRs25.1 1; have : (0 : Int) ≤ gI s 1 ∧ gI s 1 ≤ 1600 := hRs.1 1; omega)
                · skip
                  refine wp_rdIn (by have : (0 : Int) ≤ gI s25 1 ∧ gI s25 1 ≤ 1600 := hRs25.1 1; have : (0 : Int) ≤ gI s 1 ∧ gI s 1 ≤ 1600 := hRs.1 1; omega) (fun y42 ey42 => ?_)
                  have by42 : (0 : Int) ≤ y42 ∧ y42 ≤ 255 := ey42 ▸ hRs25.2.1 0 _ (by show _ < 1600; have : (0 : Int) ≤ gI s25 1 ∧ gI s25 1 ≤ 1600 := hRs25.1 1; have : (0 : Int) ≤ gI s 1 ∧ gI s 1 ≤ 1600 := hRs.1 1; omega)
                  refine wp_rdIn (by have : (0 : Int) ≤ gI s25 1 ∧ gI s25 1 ≤ 1600 := hRs25.1 1; have : (0 : Int) ≤ gI s 1 ∧ gI s 1 ≤ 1600 := hRs.1 1; omega) (fun y43 ey43 => ?_)
                  have by43 : (0 : Int) ≤ y43 ∧ y43 ≤ 255 := ey43 ▸ hRs25.2.1 0 _ (by show _ < 1600; have : (0 : Int) ≤ gI s25 1 ∧ gI s25 1 ≤ 1600 := hRs25.1 1; have : (0 : Int) ≤ gI s 1 ∧ gI s 1 ≤ 1600 := hRs.1 1; omega)
                  refine wp_rg (by have : (0 : Int) ≤ gI s25 1 ∧ gI s25 1 ≤ 1600 := hRs25.1 1; have : (0 : Int) ≤ gI s 1 ∧ gI s 1 ≤ 1600 := hRs.1 1; omega) ?_
                  refine wp_if (fun c13 => ?_) (fun c13 => ?_)
                  · skip
                    unfold m_x12_see_J101
                    unfold m_x12_see_J102
                    exact ih36 x22 0 (x24 + 4) s25 hRs25 (by show x22 = gI s 1; have : (0 : Int) ≤ gI s25 1 ∧ gI s25 1 ≤ 1600 := hRs25.1 1; have : (0 : Int) ≤ gI s 1 ∧ gI s 1 ≤ 1600 := hRs.1 1; omega) (by show (0 : Int) = 0 ∨ ((0 : Int) = 1 ∧ gI s 1 % 4 = 0 ∧ gI s 1 ≤ 48); have : (0 : Int) ≤ gI s25 1 ∧ gI s25 1 ≤ 1600 := hRs25.1 1; have : (0 : Int) ≤ gI s 1 ∧ gI s 1 ≤ 1600 := hRs.1 1; omega) (by show 0 ≤ (x24 + 4) ∧ (x24 + 4) % 4 = 0 ∧ (x24 + 4) ≤ 1604; have : (0 : Int) ≤ gI s25 1 ∧ gI s25 1 ≤ 1600 := hRs25.1 1; have : (0 : Int) ≤ gI s 1 ∧ gI s 1 ≤ 1600 := hRs.1 1; omega) (hv36_3) (by have : (0 : Int) ≤ gI s25 1 ∧ gI s25 1 ≤ 1600 := hRs25.1 1; have : (0 : Int) ≤ gI s 1 ∧ gI s 1 ≤ 1600 := hRs.1 1; omega)
                  · skip
                    unfold m_x12_see_J102
                    exact ih36 x22 1 (x24 + 4) s25 hRs25 (by show x22 = gI s 1; have : (0 : Int) ≤ gI s25 1 ∧ gI s25 1 ≤ 1600 := hRs25.1 1; have : (0 : Int) ≤ gI s 1 ∧ gI s 1 ≤ 1600 := hRs.1 1; omega) (by show (1 : Int) = 0 ∨ ((1 : Int) = 1 ∧ gI s 1 % 4 = 0 ∧ gI s 1 ≤ 48); have : (0 : Int) ≤ gI s25 1 ∧ gI s25 1 ≤ 1600 := hRs25.1 1; have : (0 : Int) ≤ gI s 1 ∧ gI s 1 ≤ 1600 := hRs.1 1; omega) (by show 0 ≤ (x24 + 4) ∧ (x24 + 4) % 4 = 0 ∧ (x24 + 4) ≤ 1604; have : (0 : Int) ≤ gI s25 1 ∧ gI s25 1 ≤ 1600 := hRs25.1 1; have : (0 : Int) ≤ gI s 1 ∧ gI s 1 ≤ 1600 := hRs.1 1; omega) (hv36_3) (by have : (0 : Int) ≤ gI s25 1 ∧ gI s25 1 ≤ 1600 := hRs25.1 1; have : (0 : Int) ≤ gI s 1 ∧ gI s 1 ≤ 1600 := hRs.1 1; omega)
        exact L36 FU (gI s 1) 0 0 s51 hRs51 (by show (gI s 1) = gI s 1; have : (0 : Int) ≤ gI s 1 ∧ gI s 1 ≤ 1600 := hRs.1 1; omega) (by show (0 : Int) = 0 ∨ ((0 : Int) = 1 ∧ gI s 1 % 4 = 0 ∧ gI s 1 ≤ 48); have : (0 : Int) ≤ gI s 1 ∧ gI s 1 ≤ 1600 := hRs.1 1; omega) (by show 0 ≤ (0 : Int) ∧ (0 : Int) % 4 = 0 ∧ (0 : Int) ≤ 1604; have : (0 : Int) ≤ gI s 1 ∧ gI s 1 ≤ 1600 := hRs.1 1; omega) (⟨J51, g51⟩) (by have := FU_big; have := FU_big2; have : (0 : Int) ≤ gI s 1 ∧ gI s 1 ≤ 1600 := hRs.1 1; omega)
      · skip
        unfold m_x12_see_J33
        have L36 : ∀ (n : Nat) (x22 : Int) (x23 : Int) (x24 : Int) (s25 : MS), Rr s25 → (x22 = gI s 1) → (x23 = 0 ∨ (x23 = 1 ∧ gI s 1 % 4 = 0 ∧ gI s 1 ≤ 48)) → (0 ≤ x24 ∧ x24 % 4 = 0 ∧ x24 ≤ 1604) → (JI s25 ∧ gI s25 1 = 0) → (1604 - x24) < (n : Int) → wp (m_x12_see_L36 n x22 x23 x24 s25) (fun q => (Rr q.2) ∧ (JI q.2) ∧ (gI q.2 1 = 0)) := by
          refine fr_ind (fun x22 x23 x24 s25 hRs25 hv36_0 hv36_1 hv36_2 hv36_3 hm36 => ?_) (fun n36 ih36 x22 x23 x24 s25 hRs25 hv36_0 hv36_1 hv36_2 hv36_3 hm36 => ?_)
          · exfalso; have : (0 : Int) ≤ gI s25 1 ∧ gI s25 1 ≤ 1600 := hRs25.1 1; have : (0 : Int) ≤ gI s 1 ∧ gI s 1 ≤ 1600 := hRs.1 1; omega
          · show wp (m_x12_see_b36 (m_x12_see_L36 n36) x22 x23 x24 s25) _
            unfold m_x12_see_b36
            refine wp_rg (by have : (0 : Int) ≤ gI s25 1 ∧ gI s25 1 ≤ 1600 := hRs25.1 1; have : (0 : Int) ≤ gI s 1 ∧ gI s 1 ≤ 1600 := hRs.1 1; omega) ?_
            refine wp_rg (by have : (0 : Int) ≤ gI s25 1 ∧ gI s25 1 ≤ 1600 := hRs25.1 1; have : (0 : Int) ≤ gI s 1 ∧ gI s 1 ≤ 1600 := hRs.1 1; omega) ?_
            refine wp_if (fun c14 => ?_) (fun c14 => ?_)
            · skip
              exact J109 x22 x23 s25 hRs25 (by show x22 = gI s 1; have : (0 : Int) ≤ gI s25 1 ∧ gI s25 1 ≤ 1600 := hRs25.1 1; have : (0 : Int) ≤ gI s 1 ∧ gI s 1 ≤ 1600 := hRs.1 1; omega) (by show x23 = 0 ∨ (x23 = 1 ∧ gI s 1 % 4 = 0 ∧ gI s 1 ≤ 48); have : (0 : Int) ≤ gI s25 1 ∧ gI s25 1 ≤ 1600 := hRs25.1 1; have : (0 : Int) ≤ gI s 1 ∧ gI s 1 ≤ 1600 := hRs.1 1; omega) (hv36_3)
            · skip
              refine wp_rg (by have : (0 : Int) ≤ gI s25 1 ∧ gI s25 1 ≤ 1600 := hRs25.1 1; have : (0 : Int) ≤ gI s 1 ∧ gI s 1 ≤ 1600 := hRs.1 1; omega) ?_
              refine wp_if (fun c15 => ?_) (fun c15 => ?_)
              · skip
                exact J109 x22 x23 s25 hRs25 (by show x22 = gI s 1; have : (0 : Int) ≤ gI s25 1 ∧ gI s25 1 ≤ 1600 := hRs25.1 1; have : (0 : Int) ≤ gI s 1 ∧ gI s 1 ≤ 1600 := hRs.1 1; omega) (by show x23 = 0 ∨ (x23 = 1 ∧ gI s 1 % 4 = 0 ∧ gI s 1 ≤ 48); have : (0 : Int) ≤ gI s25 1 ∧ gI s25 1 ≤ 1600 := hRs25.1 1; have : (0 : Int) ≤ gI s 1 ∧ gI s 1 ≤ 1600 := hRs.1 1; omega) (hv36_3)
              · skip
                refine wp_rdIn (by have : (0 : Int) ≤ gI s25 1 ∧ gI s25 1 ≤ 1600 := hRs25.1 1; have : (0 : Int) ≤ gI s 1 ∧ gI s 1 ≤ 1600 := hRs.1 1; omega) (fun y38 ey38 => ?_)
                have by38 : (0 : Int) ≤ y38 ∧ y38 ≤ 255 := ey38 ▸ hRs25.2.1 0 _ (by show _ < 1600; have : (0 : Int) ≤ gI s25 1 ∧ gI s25 1 ≤ 1600 := hRs25.1 1; have : (0 : Int) ≤ gI s 1 ∧ gI s 1 ≤ 1600 := hRs.1 1; omega)
                refine wp_rdIn (by have : (0 : Int) ≤ gI s25 1 ∧ gI s25 1 ≤ 1600 := hRs25.1 1; have : (0 : Int) ≤ gI s 1 ∧ gI s 1 ≤ 1600 := hRs.1 1; omega) (fun y39 ey39 => ?_)
                have by39 : (0 : Int) ≤ y39 ∧ y39 ≤ 255 := ey39 ▸ hRs25.2.1 0 _ (by show _ < 1600; have : (0 : Int) ≤ gI s25 1 ∧ gI s25 1 ≤ 1600 := hRs25.1 1; have : (0 : Int) ≤ gI s 1 ∧ gI s 1 ≤ 1600 := hRs.1 1; omega)
                refine wp_rg (by have : (0 : Int) ≤ gI s25 1 ∧ gI s25 1 ≤ 1600 := hRs25.1 1; have : (0 : Int) ≤ gI s 1 ∧ gI s 1 ≤ 1600 := hRs.1 1; omega) ?_
                refine wp_if (fun c16 => ?_) (fun c16 => ?_)
                · skip
                  unfold m_x12_see_J101
                  unfold m_x12_see_J102
                  exact ih36 x22 0 (x24 + 4) s25 hRs25 (by show x22 = gI s 1; have : (0 : Int) ≤ gI s25 1 ∧ gI s25 1 ≤ 1600 := hRs25.1 1; have : (0 : Int) ≤ gI s 1 ∧ gI s 1 ≤ 1600 := hRs.1 1; omega) (by show (0 : Int) = 0 ∨ ((0 : Int) = 1 ∧ gI s 1 % 4 = 0 ∧ gI s 1 ≤ 48); have : (0 : Int) ≤ gI s25 1 ∧ gI s25 1 ≤ 1600 := hRs25.1 1; have : (0 : Int) ≤ gI s 1 ∧ gI s 1 ≤ 1600 := hRs.1 1; omega) (by show 0 ≤ (x24 + 4) ∧ (x24 + 4) % 4 = 0 ∧ (x24 + 4) ≤ 1604; have : (0 : Int) ≤ gI s25 1 ∧ gI s25 1 ≤ 1600 := hRs25.1 1; have : (0 : Int) ≤ gI s 1 ∧ gI s 1 ≤ 1600 := hRs.1 1; omega) (hv36_3) (by have : (0 : Int) ≤ gI s25 1 ∧ gI s25 1 ≤ 1600 := hRs25.1 1; have : (0 : Int) ≤ gI s 1 ∧ gI s 1 ≤ 1600 := hRs.1 1; omega)
                · skip
                  refine wp_rdIn (by have : (0 : Int) ≤ gI s25 1 ∧ gI s25 1 ≤ 1600 := hRs25.1 1; have : (0 : Int) ≤ gI s 1 ∧ gI s 1 ≤ 1600 := hRs.1 1; omega) (fun y42 ey42 => ?_)
                  have by42 : (0 : Int) ≤ y42 ∧ y42 ≤ 255 := ey42 ▸ hRs25.2.1 0 _ (by show _ < 1600; have : (0 : Int) ≤ gI s25 1 ∧ gI s25 1 ≤ 1600 := hRs25.1 1; have : (0 : Int) ≤ gI s 1 ∧ gI s 1 ≤ 1600 := hRs.1 1; omega)
                  refine wp_rdIn (by have : (0 : Int) ≤ gI s25 1 ∧ gI s25 1 ≤ 1600 := hRs25.1 1; have : (0 : Int) ≤ gI s 1 ∧ gI s 1 ≤ 1600 := hRs.1 1; omega) (fun y43 ey43 => ?_)
                  have by43 : (0 : Int) ≤ y43 ∧ y43 ≤ 255 := ey43 ▸ hRs25.2.1 0 _ (by show _ < 1600; have : (0 : Int) ≤ gI s25 1 ∧ gI s25 1 ≤ 1600 := hRs25.1 1; have : (0 : Int) ≤ gI s 1 ∧ gI s 1 ≤ 1600 := hRs.1 1; omega)
                  refine wp_rg (by have : (0 : Int) ≤ gI s25 1 ∧ gI s25 1 ≤ 1600 := hRs25.1 1; have : (0 : Int) ≤ gI s 1 ∧ gI s 1 ≤ 1600 := hRs.1 1; omega) ?_
                  refine wp_if (fun c17 => ?_) (fun c17 => ?_)
                  · skip
                    unfold m_x12_see_J101
                    unfold m_x12_see_J102
                    exact ih36 x22 0 (x24 + 4) s25 hRs25 (by show x22 = gI s 1; have : (0 : Int) ≤ gI s25 1 ∧ gI s25 1 ≤ 1600 := hRs25.1 1; have : (0 : Int) ≤ gI s 1 ∧ gI s 1 ≤ 1600 := hRs.1 1; omega) (by show (0 : Int) = 0 ∨ ((0 : Int) = 1 ∧ gI s 1 % 4 = 0 ∧ gI s 1 ≤ 48); have : (0 : Int) ≤ gI s25 1 ∧ gI s25 1 ≤ 1600 := hRs25.1 1; have : (0 : Int) ≤ gI s 1 ∧ gI s 1 ≤ 1600 := hRs.1 1; omega) (by show 0 ≤ (x24 + 4) ∧ (x24 + 4) % 4 = 0 ∧ (x24 + 4) ≤ 1604; have : (0 : Int) ≤ gI s25 1 ∧ gI s25 1 ≤ 1600 := hRs25.1 1; have : (0 : Int) ≤ gI s 1 ∧ gI s 1 ≤ 1600 := hRs.1 1; omega) (hv36_3) (by have : (0 : Int) ≤ gI s25 1 ∧ gI s25 1 ≤ 1600 := hRs25.1 1; have : (0 : Int) ≤ gI s 1 ∧ gI s 1 ≤ 1600 := hRs.1 1; omega)
                  · skip
                    unfold m_x12_see_J102
                    exact ih36 x22 1 (x24 + 4) s25 hRs25 (by show x22 = gI s 1; have : (0 : Int) ≤ gI s25 1 ∧ gI s25 1 ≤ 1600 := hRs25.1 1; have : (0 : Int) ≤ gI s 1 ∧ gI s 1 ≤ 1600 := hRs.1 1; omega) (by show (1 : Int) = 0 ∨ ((1 : Int) = 1 ∧ gI s 1 % 4 = 0 ∧ gI s 1 ≤ 48); have : (0 : Int) ≤ gI s25 1 ∧ gI s25 1 ≤ 1600 := hRs25.1 1; have : (0 : Int) ≤ gI s 1 ∧ gI s 1 ≤ 1600 := hRs.1 1; omega) (by show 0 ≤ (x24 + 4) ∧ (x24 + 4) % 4 = 0 ∧ (x24 + 4) ≤ 1604; have : (0 : Int) ≤ gI s25 1 ∧ gI s25 1 ≤ 1600 := hRs25.1 1; have : (0 : Int) ≤ gI s 1 ∧ gI s 1 ≤ 1600 := hRs.1 1; omega) (hv36_3) (by have : (0 : Int) ≤ gI s25 1 ∧ gI s25 1 ≤ 1600 := hRs25.1 1; have : (0 : Int) ≤ gI s 1 ∧ gI s 1 ≤ 1600 := hRs.1 1; omega)
        exact L36 FU (gI s 1) 1 0 s51 hRs51 (by show (gI s 1) = gI s 1; have : (0 : Int) ≤ gI s 1 ∧ gI s 1 ≤ 1600 := hRs.1 1; omega) (by show (1 : Int) = 0 ∨ ((1 : Int) = 1 ∧ gI s 1 % 4 = 0 ∧ gI s 1 ≤ 48); have : (0 : Int) ≤ gI s 1 ∧ gI s 1 ≤ 1600 := hRs.1 1; omega) (by show 0 ≤ (0 : Int) ∧ (0 : Int) % 4 = 0 ∧ (0 : Int) ≤ 1604; have : (0 : Int) ≤ gI s 1 ∧ gI s 1 ≤ 1600 := hRs.1 1; omega) (⟨J51, g51⟩) (by have := FU_big; have := FU_big2; have : (0 : Int) ≤ gI s 1 ∧ gI s 1 ≤ 1600 := hRs.1 1; omega)
    · skip
      unfold m_x12_see_J32
      unfold m_x12_see_J33
      have L36 : ∀ (n : Nat) (x22 : Int) (x23 : Int) (x24 : Int) (s25 : MS), Rr s25 → (x22 = gI s 1) → (x23 = 0 ∨ (x23 = 1 ∧ gI s 1 % 4 = 0 ∧ gI s 1 ≤ 48)) → (0 ≤ x24 ∧ x24 % 4 = 0 ∧ x24 ≤ 1604) → (JI s25 ∧ gI s25 1 = 0) → (1604 - x24) < (n : Int) → wp (m_x12_see_L36 n x22 x23 x24 s25) (fun q => (Rr q.2) ∧ (JI q.2) ∧ (gI q.2 1 = 0)) := by
        refine fr_ind (fun x22 x23 x24 s25 hRs25 hv36_0 hv36_1 hv36_2 hv36_3 hm36 => ?_) (fun n36 ih36 x22 x23 x24 s25 hRs25 hv36_0 hv36_1 hv36_2 hv36_3 hm36 => ?_)
        · exfalso; have : (0 : Int) ≤ gI s25 1 ∧ gI s25 1 ≤ 1600 := hRs25.1 1; have : (0 : Int) ≤ gI s 1 ∧ gI s 1 ≤ 1600 := hRs.1 1; omega
        · show wp (m_x12_see_b36 (m_x12_see_L36 n36) x22 x23 x24 s25) _
          unfold m_x12_see_b36
          refine wp_rg (by have : (0 : Int) ≤ gI s25 1 ∧ gI s25 1 ≤ 1600 := hRs25.1 1; have : (0 : Int) ≤ gI s 1 ∧ gI s 1 ≤ 1600 := hRs.1 1; omega) ?_
          refine wp_rg (by have : (0 : Int) ≤ gI s25 1 ∧ gI s25 1 ≤ 1600 := hRs25.1 1; have : (0 : Int) ≤ gI s 1 ∧ gI s 1 ≤ 1600 := hRs.1 1; omega) ?_
          refine wp_if (fun c18 => ?_) (fun c18 => ?_)
          · skip
            exact J109 x22 x23 s25 hRs25 (by show x22 = gI s 1; have : (0 : Int) ≤ gI s25 1 ∧ gI s25 1 ≤ 1600 := hRs25.1 1; have : (0 : Int) ≤ gI s 1 ∧ gI s 1 ≤ 1600 := hRs.1 1; omega) (by show x23 = 0 ∨ (x23 = 1 ∧ gI s 1 % 4 = 0 ∧ gI s 1 ≤ 48); have : (0 : Int) ≤ gI s25 1 ∧ gI s25 1 ≤ 1600 := hRs25.1 1; have : (0 : Int) ≤ gI s 1 ∧ gI s 1 ≤ 1600 := hRs.1 1; omega) (hv36_3)
          · skip
            refine wp_rg (by have : (0 : Int) ≤ gI s25 1 ∧ gI s25 1 ≤ 1600 := hRs25.1 1; have : (0 : Int) ≤ gI s 1 ∧ gI s 1 ≤ 1600 := hRs.1 1; omega) ?_
            refine wp_if (fun c19 => ?_) (fun c19 => ?_)
            · skip
              exact J109 x22 x23 s25 hRs25 (by show x22 = gI s 1; have : (0 : Int) ≤ gI s25 1 ∧ gI s25 1 ≤ 1600 := hRs25.1 1; have : (0 : Int) ≤ gI s 1 ∧ gI s 1 ≤ 1600 := hRs.1 1; omega) (by show x23 = 0 ∨ (x23 = 1 ∧ gI s 1 % 4 = 0 ∧ gI s 1 ≤ 48); have : (0 : Int) ≤ gI s25 1 ∧ gI s25 1 ≤ 1600 := hRs25.1 1; have : (0 : Int) ≤ gI s 1 ∧ gI s 1 ≤ 1600 := hRs.1 1; omega) (hv36_3)
            · skip
              refine wp_rdIn (by have : (0 : Int) ≤ gI s25 1 ∧ gI s25 1 ≤ 1600 := hRs25.1 1; have : (0 : Int) ≤ gI s 1 ∧ gI s 1 ≤ 1600 := hRs.1 1; omega) (fun y38 ey38 => ?_)
              have by38 : (0 : Int) ≤ y38 ∧ y38 ≤ 255 := ey38 ▸ hRs25.2.1 0 _ (by show _ < 1600; have : (0 : Int) ≤ gI s25 1 ∧ gI s25 1 ≤ 1600 := hRs25.1 1; have : (0 : Int) ≤ gI s 1 ∧ gI s 1 ≤ 1600 := hRs.1 1; omega)
              refine wp_rdIn (by have : (0 : Int) ≤ gI s25 1 ∧ gI s25 1 ≤ 1600 := hRs25.1 1; have : (0 : Int) ≤ gI s 1 ∧ gI s 1 ≤ 1600 := hRs.1 1; omega) (fun y39 ey39 => ?_)
              have by39 : (0 : Int) ≤ y39 ∧ y39 ≤ 255 := ey39 ▸ hRs25.2.1 0 _ (by show _ < 1600; have : (0 : Int) ≤ gI s25 1 ∧ gI s25 1 ≤ 1600 := hRs25.1 1; have : (0 : Int) ≤ gI s 1 ∧ gI s 1 ≤ 1600 := hRs.1 1; omega)
              refine wp_rg (by have : (0 : Int) ≤ gI s25 1 ∧ gI s25 1 ≤ 1600 := hRs25.1 1; have : (0 : Int) ≤ gI s 1 ∧ gI s 1 ≤ 1600 := hRs.1 1; omega) ?_
              refine wp_if (fun c20 => ?_) (fun c20 => ?_)
              · skip
                unfold m_x12_see_J101
                unfold m_x12_see_J102
                exact ih36 x22 0 (x24 + 4) s25 hRs25 (by show x22 = gI s 1; have : (0 : Int) ≤ gI s25 1 ∧ gI s25 1 ≤ 1600 := hRs25.1 1; have : (0 : Int) ≤ gI s 1 ∧ gI s 1 ≤ 1600 := hRs.1 1; omega) (by show (0 : Int) = 0 ∨ ((0 : Int) = 1 ∧ gI s 1 % 4 = 0 ∧ gI s 1 ≤ 48); have : (0 : Int) ≤ gI s25 1 ∧ gI s25 1 ≤ 1600 := hRs25.1 1; have : (0 : Int) ≤ gI s 1 ∧ gI s 1 ≤ 1600 := hRs.1 1; omega) (by show 0 ≤ (x24 + 4) ∧ (x24 + 4) % 4 = 0 ∧ (x24 + 4) ≤ 1604; have : (0 : Int) ≤ gI s25 1 ∧ gI s25 1 ≤ 1600 := hRs25.1 1; have : (0 : Int) ≤ gI s 1 ∧ gI s 1 ≤ 1600 := hRs.1 1; omega) (hv36_3) (by have : (0 : Int) ≤ gI s25 1 ∧ gI s25 1 ≤ 1600 := hRs25.1 1; have : (0 : Int) ≤ gI s 1 ∧ gI s 1 ≤ 1600 := hRs.1 1; omega)
              · skip
                refine wp_rdIn (by have : (0 : Int) ≤ gI s25 1 ∧ gI s25 1 ≤ 1600 := hRs25.1 1; have : (0 : Int) ≤ gI s 1 ∧ gI s 1 ≤ 1600 := hRs.1 1; omega) (fun y42 ey42 => ?_)
                have by42 : (0 : Int) ≤ y42 ∧ y42 ≤ 255 := ey42 ▸ hRs25.2.1 0 _ (by show _ < 1600; have : (0 : Int) ≤ gI s25 1 ∧ gI s25 1 ≤ 1600 := hRs25.1 1; have : (0 : Int) ≤ gI s 1 ∧ gI s 1 ≤ 1600 := hRs.1 1; omega)
                refine wp_rdIn (by have : (0 : Int) ≤ gI s25 1 ∧ gI s25 1 ≤ 1600 := hRs25.1 1; have : (0 : Int) ≤ gI s 1 ∧ gI s 1 ≤ 1600 := hRs.1 1; omega) (fun y43 ey43 => ?_)
                have by43 : (0 : Int) ≤ y43 ∧ y43 ≤ 255 := ey43 ▸ hRs25.2.1 0 _ (by show _ < 1600; have : (0 : Int) ≤ gI s25 1 ∧ gI s25 1 ≤ 1600 := hRs25.1 1; have : (0 : Int) ≤ gI s 1 ∧ gI s 1 ≤ 1600 := hRs.1 1; omega)
                refine wp_rg (by have : (0 : Int) ≤ gI s25 1 ∧ gI s25 1 ≤ 1600 := hRs25.1 1; have : (0 : Int) ≤ gI s 1 ∧ gI s 1 ≤ 1600 := hRs.1 1; omega) ?_
                refine wp_if (fun c21 => ?_) (fun c21 => ?_)
                · skip
                  unfold m_x12_see_J101
                  unfold m_x12_see_J102
                  exact ih36 x22 0 (x24 + 4) s25 hRs25 (by show x22 = gI s 1; have : (0 : Int) ≤ gI s25 1 ∧ gI s25 1 ≤ 1600 := hRs25.1 1; have : (0 : Int) ≤ gI s 1 ∧ gI s 1 ≤ 1600 := hRs.1 1; omega) (by show (0 : Int) = 0 ∨ ((0 : Int) = 1 ∧ gI s 1 % 4 = 0 ∧ gI s 1 ≤ 48); have : (0 : Int) ≤ gI s25 1 ∧ gI s25 1 ≤ 1600 := hRs25.1 1; have : (0 : Int) ≤ gI s 1 ∧ gI s 1 ≤ 1600 := hRs.1 1; omega) (by show 0 ≤ (x24 + 4) ∧ (x24 + 4) % 4 = 0 ∧ (x24 + 4) ≤ 1604; have : (0 : Int) ≤ gI s25 1 ∧ gI s25 1 ≤ 1600 := hRs25.1 1; have : (0 : Int) ≤ gI s 1 ∧ gI s 1 ≤ 1600 := hRs.1 1; omega) (hv36_3) (by have : (0 : Int) ≤ gI s25 1 ∧ gI s25 1 ≤ 1600 := hRs25.1 1; have : (0 : Int) ≤ gI s 1 ∧ gI s 1 ≤ 1600 := hRs.1 1; omega)
                · skip
                  unfold m_x12_see_J102
                  exact ih36 x22 1 (x24 + 4) s25 hRs25 (by show x22 = gI s 1; have : (0 : Int) ≤ gI s25 1 ∧ gI s25 1 ≤ 1600 := hRs25.1 1; have : (0 : Int) ≤ gI s 1 ∧ gI s 1 ≤ 1600 := hRs.1 1; omega) (by show (1 : Int) = 0 ∨ ((1 : Int) = 1 ∧ gI s 1 % 4 = 0 ∧ gI s 1 ≤ 48); have : (0 : Int) ≤ gI s25 1 ∧ gI s25 1 ≤ 1600 := hRs25.1 1; have : (0 : Int) ≤ gI s 1 ∧ gI s 1 ≤ 1600 := hRs.1 1; omega) (by show 0 ≤ (x24 + 4) ∧ (x24 + 4) % 4 = 0 ∧ (x24 + 4) ≤ 1604; have : (0 : Int) ≤ gI s25 1 ∧ gI s25 1 ≤ 1600 := hRs25.1 1; have : (0 : Int) ≤ gI s 1 ∧ gI s 1 ≤ 1600 := hRs.1 1; omega) (hv36_3) (by have : (0 : Int) ≤ gI s25 1 ∧ gI s25 1 ≤ 1600 := hRs25.1 1; have : (0 : Int) ≤ gI s 1 ∧ gI s 1 ≤ 1600 := hRs.1 1; omega)
      exact L36 FU (gI s 1) 0 0 s51 hRs51 (by show (gI s 1) = gI s 1; have : (0 : Int) ≤ gI s 1 ∧ gI s 1 ≤ 1600 := hRs.1 1; omega) (by show (0 : Int) = 0 ∨ ((0 : Int) = 1 ∧ gI s 1 % 4 = 0 ∧ gI s 1 ≤ 48); have : (0 : Int) ≤ gI s 1 ∧ gI s 1 ≤ 1600 := hRs.1 1; omega) (by show 0 ≤ (0 : Int) ∧ (0 : Int) % 4 = 0 ∧ (0 : Int) ≤ 1604; have : (0 : Int) ≤ gI s 1 ∧ gI s 1 ≤ 1600 := hRs.1 1; omega) (⟨J51, g51⟩) (by have := FU_big; have := FU_big2; have : (0 : Int) ≤ gI s 1 ∧ gI s 1 ≤ 1600 := hRs.1 1; omega)
/-! ===== a statement ===== -/
/-- nothing is told yet -/
def ST0 (s X : MS) : Prop := Rr X ∧ (SP X 0 ∧ FBk s X) ∧ (gI s 2 ≤ gI X 2 ∧ gI X 2 ≤ gI X 3) ∧ (gI X 46 = gI s 46 ∧ gI X 5 = 0)
theorem st_takes {s X : MS} {wid wn : Nat} (H : ST0 s X) (hw : ∀ j : Nat, j < wn → R2 (gA X wid j)) (h7 : wn ≤ 7) : wp (m_x12_takes wid wn X) (fun q => (0 ≤ q.1 ∧ q.1 ≤ 1) ∧ ST0 s q.2) := by
  obtain ⟨hR, ⟨h1, h2⟩, h3, h4⟩ := H
  refine wp_eq (w_x12_takes hR h3.2 hw h7) (fun q e h => ?_)
  obtain ⟨r, o⟩ := q
  dsimp only at e h ⊢
  obtain ⟨hRo, a, b, _⟩ := h
  have F : F_x12_takes X o := fr_x12_takes e
  have f2 : gI o 3 = gI X 3 := F.1 3 (by decide)
  have f46 : gI o 46 = gI X 46 := F.1 46 (by decide)
  have f5 : gI o 5 = gI X 5 := F.1 5 (by decide)
  exact ⟨by omega, hRo, ⟨SP_eq h1 (F.2.1 39 (by decide)) (F.2.1 41 (by decide)) (F.2.1 42 (by decide)) (F.2.1 43 (by decide)) (F.2.1 44 (by decide)) (F.1 45 (by decide)) (by omega) b.1 (by omega), FB_t h2 (FB_e (F.2.1 39 (by decide)) (F.2.1 42 (by decide)) (F.2.1 43 (by decide)) (F.2.1 44 (by decide)))⟩, by omega, by omega⟩
set_option maxHeartbeats 1000000 in
theorem w_x12_statementTold {s : MS} (hRs : Rr s) (hp0 : gI s 2 ≤ gI s 3) (hp1 : SP s 0) (hp2 : 1 ≤ gI s 46 ∧ gI s 46 ≤ 60) (hp3 : gI s 5 = 0) : wp (m_x12_statementTold s) (fun o => (Rr o) ∧ (SP o 0) ∧ (gI s 2 ≤ gI o 2 ∧ gI o 2 ≤ gI o 3) ∧ (gI o 46 = gI s 46 + 1 ∨ (gI o 5 ≠ 0 ∧ gI o 46 = gI s 46)) ∧ (FBk s o)) := by
  have r2 : (0 : Int) ≤ gI s 2 ∧ gI s 2 ≤ 1600 := hRs.1 2
  have J178 : ∀ X : MS, Rr X → SP X 1 → FBk s X → (gI s 2 ≤ gI X 2 ∧ gI X 2 ≤ gI X 3) → gI X 46 = gI s 46 → gI s 46 < 60 → wp (m_x12_statementTold_J178 X) (fun o => (Rr o) ∧ (SP o 0) ∧ (gI s 2 ≤ gI o 2 ∧ gI o 2 ≤ gI o 3) ∧ (gI o 46 = gI s 46 + 1 ∨ (gI o 5 ≠ 0 ∧ gI o 46 = gI s 46)) ∧ (FBk s o)) := by
    intro X hRX h1 h2 h3 h4 h5
    unfold m_x12_statementTold_J178
    refine wp_bn (w_x12_asksSign hRX h3.2 (by omega)) (fun s3 e3 h => ?_)
    obtain ⟨hR3, a, b, _⟩ := h
    have F : F_x12_asksSign X s3 := fr_x12_asksSign e3
    have f46 : gI s3 46 = gI X 46 := F.1 46 (by decide)
    refine wp_stn (fun s4 e4 => ?_)
    have hR4 : Rr s4 := e4 ▸ Rr.uI hR3 (by show (0 : Int) ≤ gI s3 46 + 1 ∧ gI s3 46 + 1 ≤ 60; omega)
    have g46 : gI s4 46 = gI s3 46 + 1 := q_II e4
    have g2 : gI s4 2 = gI s3 2 := q_Ii e4 (by decide)
    have g3 : gI s4 3 = gI s3 3 := q_Ii e4 (by decide)
    have g5 : gI s4 5 = gI s3 5 := q_Ii e4 (by decide)
    have g45 : gI s4 45 = gI s3 45 := q_Ii e4 (by decide)
    have f45 : gI s3 45 = gI X 45 := F.1 45 (by decide)
    have kA : ∀ k, k ≠ 0 → gA s4 k = gA s3 k := fun k _ => q_Ia e4
    refine wp_some ⟨hR4, SP_eq h1 ((kA 39 (by decide)).trans (F.2.1 39 (by decide))) ((kA 41 (by decide)).trans (F.2.1 41 (by decide))) ((kA 42 (by decide)).trans (F.2.1 42 (by decide))) ((kA 43 (by decide)).trans (F.2.1 43 (by decide))) ((kA 44 (by decide)).trans (F.2.1 44 (by decide))) (by omega) (by omega) (by omega) (by by_cases z : gI X 5 = 0; (left; exact z); (right; have := b z; omega)), by omega, Or.inl (by omega), FB_t h2 (FB_e ((kA 39 (by decide)).trans (F.2.1 39 (by decide))) ((kA 42 (by decide)).trans (F.2.1 42 (by decide))) ((kA 43 (by decide)).trans (F.2.1 43 (by decide))) ((kA 44 (by decide)).trans (F.2.1 44 (by decide))))⟩
  unfold m_x12_statementTold
  refine wp_rg (by omega) (wp_if (fun c0 => ?_) (fun c0 => ?_))
  · refine wp_bn (w_x12_fail hRs (by omega) (by omega)) (fun s64 e64 h64 => ?_)
    obtain ⟨hR64, b5⟩ := h64
    have F : F_x12_fail s s64 := fr_x12_fail e64
    have f2 : gI s64 2 = gI s 2 := F.1 2 (by decide)
    have f3 : gI s64 3 = gI s 3 := F.1 3 (by decide)
    have f46 : gI s64 46 = gI s 46 := F.1 46 (by decide)
    exact wp_some ⟨hR64, SP_eq hp1 (F.2.1 39 (by decide)) (F.2.1 41 (by decide)) (F.2.1 42 (by decide)) (F.2.1 43 (by decide)) (F.2.1 44 (by decide)) (F.1 45 (by decide)) (by omega) (by omega) (Or.inr b5), by omega, Or.inr ⟨b5, f46⟩, FB_e (F.2.1 39 (by decide)) (F.2.1 42 (by decide)) (F.2.1 43 (by decide)) (F.2.1 44 (by decide))⟩
  have S0 : ST0 s s := ⟨hRs, ⟨hp1, FB_e rfl rfl rfl rfl⟩, by omega, rfl, hp3⟩
  refine wp_bn (st_takes (wid := 13) (wn := 6) S0 (fun j hj => S0.1.2.1 13 j hj) (by decide)) (fun qr9 eqr9 hqr9 => ?_)
  obtain ⟨rqr9, sqr9⟩ := qr9
  dsimp only at hqr9 ⊢
  obtain ⟨bqr9, Sqr9⟩ := hqr9
  clear eqr9
  refine wp_rg (by omega) (wp_if (fun cqr9 => ?_) (fun cqr9 => ?_))
  rotate_left
  · refine wp_bn (w_x12_volumeTold Sqr9.1 Sqr9.2.2.1.2 Sqr9.2.1.1 (by omega) (by omega) (by have := Sqr9.2.2.2; omega)) (fun o eo ho => ?_)
    obtain ⟨hRo, a, b, _, d⟩ := ho
    have F : F_x12_volumeTold sqr9 o := fr_x12_volumeTold eo
    have f46 : gI o 46 = gI sqr9 46 := F.1 46 (by decide)
    have z := Sqr9.2.2
    exact J178 o hRo a (FB_t Sqr9.2.1.2 d) (by omega) (by omega) (by omega)
  refine wp_bn (st_takes (wid := 14) (wn := 5) Sqr9 (fun j hj => Sqr9.1.2.1 14 j hj) (by decide)) (fun qr14 eqr14 hqr14 => ?_)
  obtain ⟨rqr14, sqr14⟩ := qr14
  dsimp only at hqr14 ⊢
  obtain ⟨bqr14, Sqr14⟩ := hqr14
  clear eqr14
  refine wp_rg (by omega) (wp_if (fun cqr14 => ?_) (fun cqr14 => ?_))
  rotate_left
  · refine wp_bn (w_x12_volumeTold Sqr14.1 Sqr14.2.2.1.2 Sqr14.2.1.1 (by omega) (by omega) (by have := Sqr14.2.2.2; omega)) (fun o eo ho => ?_)
    obtain ⟨hRo, a, b, _, d⟩ := ho
    have F : F_x12_volumeTold sqr14 o := fr_x12_volumeTold eo
    have f46 : gI o 46 = gI sqr14 46 := F.1 46 (by decide)
    have z := Sqr14.2.2
    exact J178 o hRo a (FB_t Sqr14.2.1.2 d) (by omega) (by omega) (by omega)
  refine wp_bn (st_takes (wid := 16) (wn := 3) Sqr14 (fun j hj => Sqr14.1.2.1 16 j hj) (by decide)) (fun qr19 eqr19 hqr19 => ?_)
  obtain ⟨rqr19, sqr19⟩ := qr19
  dsimp only at hqr19 ⊢
  obtain ⟨bqr19, Sqr19⟩ := hqr19
  clear eqr19
  refine wp_rg (by omega) (wp_if (fun cqr19 => ?_) (fun cqr19 => ?_))
  rotate_left
  · refine wp_bn (w_x12_putTold Sqr19.1 Sqr19.2.2.1.2 Sqr19.2.1.1 (by have := Sqr19.2.2.2; omega)) (fun o eo ho => ?_)
    obtain ⟨hRo, a, b, _, d⟩ := ho
    have F : F_x12_putTold sqr19 o := fr_x12_putTold eo
    have f46 : gI o 46 = gI sqr19 46 := F.1 46 (by decide)
    have z := Sqr19.2.2
    exact J178 o hRo a (FB_t Sqr19.2.1.2 d) (by omega) (by omega) (by omega)
  refine wp_bn (st_takes (wid := 17) (wn := 6) Sqr19 (fun j hj => Sqr19.1.2.1 17 j hj) (by decide)) (fun qr24 eqr24 hqr24 => ?_)
  obtain ⟨rqr24, sqr24⟩ := qr24
  dsimp only at hqr24 ⊢
  obtain ⟨bqr24, Sqr24⟩ := hqr24
  clear eqr24
  refine wp_rg (by omega) (wp_if (fun cqr24 => ?_) (fun cqr24 => ?_))
  rotate_left
  · refine wp_bn (w_x12_removeTold Sqr24.1 Sqr24.2.2.1.2 Sqr24.2.1.1 (by have := Sqr24.2.2.2; omega)) (fun o eo ho => ?_)
    obtain ⟨hRo, a, b, _, d⟩ := ho
    have F : F_x12_removeTold sqr24 o := fr_x12_removeTold eo
    have f46 : gI o 46 = gI sqr24 46 := F.1 46 (by decide)
    have z := Sqr24.2.2
    exact J178 o hRo a (FB_t Sqr24.2.1.2 d) (by omega) (by omega) (by omega)
  refine wp_bn (st_takes (wid := 18) (wn := 5) Sqr24 (fun j hj => Sqr24.1.2.1 18 j hj) (by decide)) (fun qr29 eqr29 hqr29 => ?_)
  obtain ⟨rqr29, sqr29⟩ := qr29
  dsimp only at hqr29 ⊢
  obtain ⟨bqr29, Sqr29⟩ := hqr29
  clear eqr29
  refine wp_rg (by omega) (wp_if (fun cqr29 => ?_) (fun cqr29 => ?_))
  rotate_left
  · refine wp_bn (w_x12_codesTold Sqr29.1 Sqr29.2.2.1.2 Sqr29.2.1.1 (by omega) (by omega) (by have := Sqr29.2.2.2; omega)) (fun o eo ho => ?_)
    obtain ⟨hRo, a, b, _, d⟩ := ho
    have F : F_x12_codesTold sqr29 o := fr_x12_codesTold eo
    have f46 : gI o 46 = gI sqr29 46 := F.1 46 (by decide)
    have z := Sqr29.2.2
    exact J178 o hRo a (FB_t Sqr29.2.1.2 d) (by omega) (by omega) (by omega)
  refine wp_bn (st_takes (wid := 19) (wn := 6) Sqr29 (fun j hj => Sqr29.1.2.1 19 j hj) (by decide)) (fun qr34 eqr34 hqr34 => ?_)
  obtain ⟨rqr34, sqr34⟩ := qr34
  dsimp only at hqr34 ⊢
  obtain ⟨bqr34, Sqr34⟩ := hqr34
  clear eqr34
  refine wp_rg (by omega) (wp_if (fun cqr34 => ?_) (fun cqr34 => ?_))
  rotate_left
  · refine wp_bn (w_x12_codesTold Sqr34.1 Sqr34.2.2.1.2 Sqr34.2.1.1 (by omega) (by omega) (by have := Sqr34.2.2.2; omega)) (fun o eo ho => ?_)
    obtain ⟨hRo, a, b, _, d⟩ := ho
    have F : F_x12_codesTold sqr34 o := fr_x12_codesTold eo
    have f46 : gI o 46 = gI sqr34 46 := F.1 46 (by decide)
    have z := Sqr34.2.2
    exact J178 o hRo a (FB_t Sqr34.2.1.2 d) (by omega) (by omega) (by omega)
  refine wp_bn (st_takes (wid := 20) (wn := 5) Sqr34 (fun j hj => Sqr34.1.2.1 20 j hj) (by decide)) (fun qr39 eqr39 hqr39 => ?_)
  obtain ⟨rqr39, sqr39⟩ := qr39
  dsimp only at hqr39 ⊢
  obtain ⟨bqr39, Sqr39⟩ := hqr39
  clear eqr39
  refine wp_rg (by omega) (wp_if (fun cqr39 => ?_) (fun cqr39 => ?_))
  rotate_left
  · refine wp_bn (w_x12_codesTold Sqr39.1 Sqr39.2.2.1.2 Sqr39.2.1.1 (by omega) (by omega) (by have := Sqr39.2.2.2; omega)) (fun o eo ho => ?_)
    obtain ⟨hRo, a, b, _, d⟩ := ho
    have F : F_x12_codesTold sqr39 o := fr_x12_codesTold eo
    have f46 : gI o 46 = gI sqr39 46 := F.1 46 (by decide)
    have z := Sqr39.2.2
    exact J178 o hRo a (FB_t Sqr39.2.1.2 d) (by omega) (by omega) (by omega)
  refine wp_bn (w_x12_asks (wid := 21) (wn := 5) Sqr39.1 Sqr39.2.2.1.2 (fun j hj => Sqr39.1.2.1 21 j hj) (by decide)) (fun s43 e43 h43 => ?_)
  obtain ⟨hR43, a43, b43, _⟩ := h43
  have F43 : F_x12_asks sqr39 s43 := fr_x12_asks e43
  refine wp_bn (w_x12_number hR43 a43.2 (by omega)) (fun q46 e46 h46 => ?_)
  obtain ⟨r46, s46⟩ := q46
  dsimp only at e46 h46 ⊢
  obtain ⟨hR46, c46, a46, b46, d46⟩ := h46
  have F46 : F_x12_number s43 s46 := fr_x12_number e46
  refine wp_inb (by omega) (wp_stn (fun s48 e48 => ?_))
  have hR48 : Rr s48 := e48 ▸ Rr.uAu hR46 (by show (-2147483648 : Int) ≤ r46 ∧ r46 ≤ 2147483647; omega)
  have u48 : gA s48 39 = upZ (gA s46 39) 4 r46 := q_AA e48
  have kA : ∀ k, k ≠ 39 → gA s48 k = gA s46 k := fun k hk => q_Aa e48 hk
  have kI : ∀ k, gI s48 k = gI s46 k := fun k => q_Ai e48
  have z := Sqr39.2.2
  have f46 : gI s46 46 = gI sqr39 46 := (F46.1 46 (by decide)).trans (F43.1 46 (by decide))
  have f45 : gI s46 45 = gI sqr39 45 := (F46.1 45 (by decide)).trans (F43.1 45 (by decide))
  have q0 : SP s46 0 := SP_eq Sqr39.2.1.1 ((F46.2.1 39 (by decide)).trans (F43.2.1 39 (by decide))) ((F46.2.1 41 (by decide)).trans (F43.2.1 41 (by decide))) ((F46.2.1 42 (by decide)).trans (F43.2.1 42 (by decide))) ((F46.2.1 43 (by decide)).trans (F43.2.1 43 (by decide))) ((F46.2.1 44 (by decide)).trans (F43.2.1 44 (by decide))) f45 (by omega) (by omega) (by left; omega)
  have k2 : gI s48 2 = gI s46 2 := kI 2
  have k3 : gI s48 3 = gI s46 3 := kI 3
  have k46 : gI s48 46 = gI s46 46 := kI 46
  have k45 : gI s48 45 = gI s46 45 := kI 45
  have k5 : gI s48 5 = gI s46 5 := kI 5
  refine J178 s48 hR48 ?_ (FB_t (FB_t Sqr39.2.1.2 (FB_e ((F46.2.1 39 (by decide)).trans (F43.2.1 39 (by decide))) ((F46.2.1 42 (by decide)).trans (F43.2.1 42 (by decide))) ((F46.2.1 43 (by decide)).trans (F43.2.1 43 (by decide))) ((F46.2.1 44 (by decide)).trans (F43.2.1 44 (by decide))))) (FB_39 (fun j hj => by rw [u48, upZ_n (by omega)]) (kA 42 (by decide)) (kA 43 (by decide)) (kA 44 (by decide)))) (by omega) (by omega) (by omega)
  obtain ⟨qa, qb, ⟨qc1, qc2⟩, qd⟩ := q0
  refine ⟨?_, ?_, ⟨by omega, fun w hw => ?_⟩, fun h9 => ?_⟩
  · rw [u48, upZ_n (by decide), upZ_n (by decide)]; exact ⟨qa.1, by have := qa.2; omega⟩
  · rw [u48, upZ_n (by decide), upZ_n (by decide), kA 41 (by decide)]; exact qb
  · rw [kA 42 (by decide), kA 43 (by decide), kA 44 (by decide), k45]; exact qc2 w hw
  · have y := qd (by omega)
    have y2 := d46 (by omega)
    rw [u48, upZ_n (by decide), upZ_n (by decide), upZ_s]; exact ⟨y.1, y.2.1, by omega⟩
set_option maxHeartbeats 1000000 in
theorem w_x12_storeTold {s : MS} (hRs : Rr s) (hp0 : gI s 2 ≤ gI s 3) (hp1 : ((0 ≤ gA s 39 2 ∧ gA s 39 2 ≤ 8) ∧ (0 ≤ gA s 39 3 ∧ gA s 39 3 < 1)) ∧ (gA s 39 2 = vt_r (gA s 41) (gA s 39 3).toNat ∧ AW (gA s 41) (gA s 39 3).toNat) ∧ (gI s 45 ≤ gI s 2 ∧ ∀ w : Nat, w < 3 → CW1 (gA s 42) (gA s 43) (gA s 44) (gI s 45) w)) (hp2 : gA s 39 4 = 0) : wp (m_x12_storeTold s) (fun o => (Rr o) ∧ (SP o (1 - gI s 46)) ∧ (gI s 2 ≤ gI o 2 ∧ gI o 2 ≤ gI o 3) ∧ (FBk s o)) := by
  unfold m_x12_storeTold
  refine wp_bn (w_x12_asks hRs (by show gI s 2 ≤ gI s 3; have : (0 : Int) ≤ gI s 45 ∧ gI s 45 ≤ 1600 := hRs.1 45; have : (0 : Int) ≤ gI s 3 ∧ gI s 3 ≤ 1600 := hRs.1 3; have : (0 : Int) ≤ gI s 2 ∧ gI s 2 ≤ 1600 := hRs.1 2; omega) (fun j hj => hRs.2.1 11 j hj) (by decide)) (fun s2 es2 hs2 => ?_)
  have Fs2 : F_x12_asks s s2 := fr_x12_asks es2
  obtain ⟨hRs2, hs2_0, hs2_1, hs2_2⟩ := hs2
  have hs2_0 : gI s 2 ≤ gI s2 2 ∧ gI s2 2 ≤ gI s2 3 := hs2_0
  have hs2_1 : gI s 5 ≠ 0 → gI s2 5 ≠ 0 := hs2_1
  have hs2_2 : gI s2 5 = 0 → gI s 2 + ((6 : Int) : Int) ≤ gI s2 2 := hs2_2
  refine wp_bn (w_x12_number hRs2 (by show gI s2 2 ≤ gI s2 3; have : (0 : Int) ≤ gI s2 5 ∧ gI s2 5 ≤ 5 := hRs2.1 5; have : (0 : Int) ≤ gI s 5 ∧ gI s 5 ≤ 5 := hRs.1 5; have : (0 : Int) ≤ gI s 45 ∧ gI s 45 ≤ 1600 := hRs.1 45; have : (0 : Int) ≤ gI s 3 ∧ gI s 3 ≤ 1600 := hRs.1 3; have : (0 : Int) ≤ gI s 2 ∧ gI s 2 ≤ 1600 := hRs.1 2; have : gI s2 3 = gI s 3 := Fs2.1 3 (by decide); have : (0 : Int) ≤ gI s2 2 ∧ gI s2 2 ≤ 1600 := hRs2.1 2; omega) (by show 0 ≤ (8 : Int) ∧ (8 : Int) ≤ (48 : Int) ∧ (48 : Int) ≤ 9999; have : (0 : Int) ≤ gI s2 5 ∧ gI s2 5 ≤ 5 := hRs2.1 5; have : (0 : Int) ≤ gI s 5 ∧ gI s 5 ≤ 5 := hRs.1 5; have : gI s2 3 = gI s 3 := Fs2.1 3 (by decide); have : (0 : Int) ≤ gI s2 2 ∧ gI s2 2 ≤ 1600 := hRs2.1 2; have : (0 : Int) ≤ gI s 45 ∧ gI s 45 ≤ 1600 := hRs.1 45; have : (0 : Int) ≤ gI s 3 ∧ gI s 3 ≤ 1600 := hRs.1 3; have : (0 : Int) ≤ gI s 2 ∧ gI s 2 ≤ 1600 := hRs.1 2; omega)) (fun qqr5 eqr5s hqr5s => ?_)
  obtain ⟨qr5r, qr5s⟩ := qqr5
  dsimp only at eqr5s hqr5s ⊢
  have Fqr5s : F_x12_number s2 qr5s := fr_x12_number eqr5s
  obtain ⟨hRqr5s, hqr5s_0, hqr5s_1, hqr5s_2, hqr5s_3⟩ := hqr5s
  have hqr5s_0 : 0 ≤ qr5r ∧ qr5r ≤ 9999 := hqr5s_0
  have hqr5s_1 : gI s2 2 ≤ gI qr5s 2 ∧ gI qr5s 2 ≤ gI qr5s 3 := hqr5s_1
  have hqr5s_2 : gI s2 5 ≠ 0 → gI qr5s 5 ≠ 0 := hqr5s_2
  have hqr5s_3 : gI qr5s 5 = 0 → ((8 : Int) ≤ qr5r ∧ qr5r ≤ (48 : Int)) ∧ gI s2 2 + 1 ≤ gI qr5s 2 := hqr5s_3
  refine wp_inb (by have : (0 : Int) ≤ gI qr5s 5 ∧ gI qr5s 5 ≤ 5 := hRqr5s.1 5; have : gI qr5s 3 = gI s2 3 := Fqr5s.1 3 (by decide); have : (0 : Int) ≤ gI qr5s 2 ∧ gI qr5s 2 ≤ 1600 := hRqr5s.1 2; have : (0 : Int) ≤ gI s2 5 ∧ gI s2 5 ≤ 5 := hRs2.1 5; have : (0 : Int) ≤ gI s 5 ∧ gI s 5 ≤ 5 := hRs.1 5; have : gI s2 3 = gI s 3 := Fs2.1 3 (by decide); have : (0 : Int) ≤ gI s2 2 ∧ gI s2 2 ≤ 1600 := hRs2.1 2; have : (0 : Int) ≤ gI s 45 ∧ gI s 45 ≤ 1600 := hRs.1 45; have : (0 : Int) ≤ gI s 3 ∧ gI s 3 ≤ 1600 := hRs.1 3; have : (0 : Int) ≤ gI s 2 ∧ gI s 2 ≤ 1600 := hRs.1 2; omega) ?_
  refine wp_stn (fun s7 es7 => ?_)
  have hRs7 : Rr s7 := es7 ▸ Rr.uAu hRqr5s (by show (-2147483648 : Int) ≤ qr5r ∧ qr5r ≤ 2147483647; have : (0 : Int) ≤ gI qr5s 5 ∧ gI qr5s 5 ≤ 5 := hRqr5s.1 5; have : gI qr5s 3 = gI s2 3 := Fqr5s.1 3 (by decide); have : (0 : Int) ≤ gI qr5s 2 ∧ gI qr5s 2 ≤ 1600 := hRqr5s.1 2; have : (0 : Int) ≤ gI s2 5 ∧ gI s2 5 ≤ 5 := hRs2.1 5; have : (0 : Int) ≤ gI s 5 ∧ gI s 5 ≤ 5 := hRs.1 5; have : gI s2 3 = gI s 3 := Fs2.1 3 (by decide); have : (0 : Int) ≤ gI s2 2 ∧ gI s2 2 ≤ 1600 := hRs2.1 2; have : (0 : Int) ≤ gI s 45 ∧ gI s 45 ≤ 1600 := hRs.1 45; have : (0 : Int) ≤ gI s 3 ∧ gI s 3 ≤ 1600 := hRs.1 3; have : (0 : Int) ≤ gI s 2 ∧ gI s 2 ≤ 1600 := hRs.1 2; omega)
  refine wp_bn (w_x12_asks hRs7 (by show gI s7 2 ≤ gI s7 3; have : (0 : Int) ≤ gI qr5s 5 ∧ gI qr5s 5 ≤ 5 := hRqr5s.1 5; have : gI qr5s 3 = gI s2 3 := Fqr5s.1 3 (by decide); have : (0 : Int) ≤ gI qr5s 2 ∧ gI qr5s 2 ≤ 1600 := hRqr5s.1 2; have : (0 : Int) ≤ gI s2 5 ∧ gI s2 5 ≤ 5 := hRs2.1 5; have : (0 : Int) ≤ gI s 5 ∧ gI s 5 ≤ 5 := hRs.1 5; have : gI s2 3 = gI s 3 := Fs2.1 3 (by decide); have : (0 : Int) ≤ gI s2 2 ∧ gI s2 2 ≤ 1600 := hRs2.1 2; have : (0 : Int) ≤ gI s 45 ∧ gI s 45 ≤ 1600 := hRs.1 45; have : (0 : Int) ≤ gI s 3 ∧ gI s 3 ≤ 1600 := hRs.1 3; have : (0 : Int) ≤ gI s 2 ∧ gI s 2 ≤ 1600 := hRs.1 2; have : gI s7 3 = gI qr5s 3 := q_Ai es7; have : gI s7 2 = gI qr5s 2 := q_Ai es7; omega) (fun j hj => hRs7.2.1 12 j hj) (by decide)) (fun s9 es9 hs9 => ?_)
  have Fs9 : F_x12_asks s7 s9 := fr_x12_asks es9
  obtain ⟨hRs9, hs9_0, hs9_1, hs9_2⟩ := hs9
  have hs9_0 : gI s7 2 ≤ gI s9 2 ∧ gI s9 2 ≤ gI s9 3 := hs9_0
  have hs9_1 : gI s7 5 ≠ 0 → gI s9 5 ≠ 0 := hs9_1
  have hs9_2 : gI s9 5 = 0 → gI s7 2 + ((4 : Int) : Int) ≤ gI s9 2 := hs9_2
  refine wp_bn (w_x12_number hRs9 (by show gI s9 2 ≤ gI s9 3; have : (0 : Int) ≤ gI s9 5 ∧ gI s9 5 ≤ 5 := hRs9.1 5; have : gI s7 5 = gI qr5s 5 := q_Ai es7; have : gI s7 2 = gI qr5s 2 := q_Ai es7; have : (0 : Int) ≤ gI qr5s 5 ∧ gI qr5s 5 ≤ 5 := hRqr5s.1 5; have : gI qr5s 3 = gI s2 3 := Fqr5s.1 3 (by decide); have : (0 : Int) ≤ gI qr5s 2 ∧ gI qr5s 2 ≤ 1600 := hRqr5s.1 2; have : (0 : Int) ≤ gI s2 5 ∧ gI s2 5 ≤ 5 := hRs2.1 5; have : (0 : Int) ≤ gI s 5 ∧ gI s 5 ≤ 5 := hRs.1 5; have : gI s2 3 = gI s 3 := Fs2.1 3 (by decide); have : (0 : Int) ≤ gI s2 2 ∧ gI s2 2 ≤ 1600 := hRs2.1 2; have : (0 : Int) ≤ gI s 45 ∧ gI s 45 ≤ 1600 := hRs.1 45; have : (0 : Int) ≤ gI s 3 ∧ gI s 3 ≤ 1600 := hRs.1 3; have : (0 : Int) ≤ gI s 2 ∧ gI s 2 ≤ 1600 := hRs.1 2; have : gI s9 3 = gI s7 3 := Fs9.1 3 (by decide); have : gI s7 3 = gI qr5s 3 := q_Ai es7; have : (0 : Int) ≤ gI s9 2 ∧ gI s9 2 ≤ 1600 := hRs9.1 2; omega) (by show 0 ≤ (3 : Int) ∧ (3 : Int) ≤ (6 : Int) ∧ (6 : Int) ≤ 9999; have : (0 : Int) ≤ gI s9 5 ∧ gI s9 5 ≤ 5 := hRs9.1 5; have : gI s7 5 = gI qr5s 5 := q_Ai es7; have : gI s9 3 = gI s7 3 := Fs9.1 3 (by decide); have : gI s7 3 = gI qr5s 3 := q_Ai es7; have : (0 : Int) ≤ gI s9 2 ∧ gI s9 2 ≤ 1600 := hRs9.1 2; have : gI s7 2 = gI qr5s 2 := q_Ai es7; have : (0 : Int) ≤ gI qr5s 5 ∧ gI qr5s 5 ≤ 5 := hRqr5s.1 5; have : gI qr5s 3 = gI s2 3 := Fqr5s.1 3 (by decide); have : (0 : Int) ≤ gI qr5s 2 ∧ gI qr5s 2 ≤ 1600 := hRqr5s.1 2; have : (0 : Int) ≤ gI s2 5 ∧ gI s2 5 ≤ 5 := hRs2.1 5; have : (0 : Int) ≤ gI s 5 ∧ gI s 5 ≤ 5 := hRs.1 5; have : gI s2 3 = gI s 3 := Fs2.1 3 (by decide); have : (0 : Int) ≤ gI s2 2 ∧ gI s2 2 ≤ 1600 := hRs2.1 2; have : (0 : Int) ≤ gI s 45 ∧ gI s 45 ≤ 1600 := hRs.1 45; have : (0 : Int) ≤ gI s 3 ∧ gI s 3 ≤ 1600 := hRs.1 3; have : (0 : Int) ≤ gI s 2 ∧ gI s 2 ≤ 1600 := hRs.1 2; omega)) (fun qqr12 eqr12s hqr12s => ?_)
  obtain ⟨qr12r, qr12s⟩ := qqr12
  dsimp only at eqr12s hqr12s ⊢
  have Fqr12s : F_x12_number s9 qr12s := fr_x12_number eqr12s
  obtain ⟨hRqr12s, hqr12s_0, hqr12s_1, hqr12s_2, hqr12s_3⟩ := hqr12s
  have hqr12s_0 : 0 ≤ qr12r ∧ qr12r ≤ 9999 := hqr12s_0
  have hqr12s_1 : gI s9 2 ≤ gI qr12s 2 ∧ gI qr12s 2 ≤ gI qr12s 3 := hqr12s_1
  have hqr12s_2 : gI s9 5 ≠ 0 → gI qr12s 5 ≠ 0 := hqr12s_2
  have hqr12s_3 : gI qr12s 5 = 0 → ((3 : Int) ≤ qr12r ∧ qr12r ≤ (6 : Int)) ∧ gI s9 2 + 1 ≤ gI qr12s 2 := hqr12s_3
  refine wp_inb (by have : (0 : Int) ≤ gI qr12s 5 ∧ gI qr12s 5 ≤ 5 := hRqr12s.1 5; have : gI qr12s 3 = gI s9 3 := Fqr12s.1 3 (by decide); have : (0 : Int) ≤ gI qr12s 2 ∧ gI qr12s 2 ≤ 1600 := hRqr12s.1 2; have : (0 : Int) ≤ gI s9 5 ∧ gI s9 5 ≤ 5 := hRs9.1 5; have : gI s7 5 = gI qr5s 5 := q_Ai es7; have : gI s9 3 = gI s7 3 := Fs9.1 3 (by decide); have : gI s7 3 = gI qr5s 3 := q_Ai es7; have : (0 : Int) ≤ gI s9 2 ∧ gI s9 2 ≤ 1600 := hRs9.1 2; have : gI s7 2 = gI qr5s 2 := q_Ai es7; have : (0 : Int) ≤ gI qr5s 5 ∧ gI qr5s 5 ≤ 5 := hRqr5s.1 5; have : gI qr5s 3 = gI s2 3 := Fqr5s.1 3 (by decide); have : (0 : Int) ≤ gI qr5s 2 ∧ gI qr5s 2 ≤ 1600 := hRqr5s.1 2; have : (0 : Int) ≤ gI s2 5 ∧ gI s2 5 ≤ 5 := hRs2.1 5; have : (0 : Int) ≤ gI s 5 ∧ gI s 5 ≤ 5 := hRs.1 5; have : gI s2 3 = gI s 3 := Fs2.1 3 (by decide); have : (0 : Int) ≤ gI s2 2 ∧ gI s2 2 ≤ 1600 := hRs2.1 2; have : (0 : Int) ≤ gI s 45 ∧ gI s 45 ≤ 1600 := hRs.1 45; have : (0 : Int) ≤ gI s 3 ∧ gI s 3 ≤ 1600 := hRs.1 3; have : (0 : Int) ≤ gI s 2 ∧ gI s 2 ≤ 1600 := hRs.1 2; omega) ?_
  refine wp_stn (fun s14 es14 => ?_)
  have hRs14 : Rr s14 := es14 ▸ Rr.uAu hRqr12s (by show (-2147483648 : Int) ≤ qr12r ∧ qr12r ≤ 2147483647; have : (0 : Int) ≤ gI qr12s 5 ∧ gI qr12s 5 ≤ 5 := hRqr12s.1 5; have : gI qr12s 3 = gI s9 3 := Fqr12s.1 3 (by decide); have : (0 : Int) ≤ gI qr12s 2 ∧ gI qr12s 2 ≤ 1600 := hRqr12s.1 2; have : (0 : Int) ≤ gI s9 5 ∧ gI s9 5 ≤ 5 := hRs9.1 5; have : gI s7 5 = gI qr5s 5 := q_Ai es7; have : gI s9 3 = gI s7 3 := Fs9.1 3 (by decide); have : gI s7 3 = gI qr5s 3 := q_Ai es7; have : (0 : Int) ≤ gI s9 2 ∧ gI s9 2 ≤ 1600 := hRs9.1 2; have : gI s7 2 = gI qr5s 2 := q_Ai es7; have : (0 : Int) ≤ gI qr5s 5 ∧ gI qr5s 5 ≤ 5 := hRqr5s.1 5; have : gI qr5s 3 = gI s2 3 := Fqr5s.1 3 (by decide); have : (0 : Int) ≤ gI qr5s 2 ∧ gI qr5s 2 ≤ 1600 := hRqr5s.1 2; have : (0 : Int) ≤ gI s2 5 ∧ gI s2 5 ≤ 5 := hRs2.1 5; have : (0 : Int) ≤ gI s 5 ∧ gI s 5 ≤ 5 := hRs.1 5; have : gI s2 3 = gI s 3 := Fs2.1 3 (by decide); have : (0 : Int) ≤ gI s2 2 ∧ gI s2 2 ≤ 1600 := hRs2.1 2; have : (0 : Int) ≤ gI s 45 ∧ gI s 45 ≤ 1600 := hRs.1 45; have : (0 : Int) ≤ gI s 3 ∧ gI s 3 ≤ 1600 := hRs.1 3; have : (0 : Int) ≤ gI s 2 ∧ gI s 2 ≤ 1600 := hRs.1 2; omega)
  refine wp_bn (w_x12_asksSign hRs14 (by show gI s14 2 ≤ gI s14 3; have : (0 : Int) ≤ gI qr12s 5 ∧ gI qr12s 5 ≤ 5 := hRqr12s.1 5; have : gI qr12s 3 = gI s9 3 := Fqr12s.1 3 (by decide); have : (0 : Int) ≤ gI qr12s 2 ∧ gI qr12s 2 ≤ 1600 := hRqr12s.1 2; have : (0 : Int) ≤ gI s9 5 ∧ gI s9 5 ≤ 5 := hRs9.1 5; have : gI s7 5 = gI qr5s 5 := q_Ai es7; have : gI s9 3 = gI s7 3 := Fs9.1 3 (by decide); have : gI s7 3 = gI qr5s 3 := q_Ai es7; have : (0 : Int) ≤ gI s9 2 ∧ gI s9 2 ≤ 1600 := hRs9.1 2; have : gI s7 2 = gI qr5s 2 := q_Ai es7; have : (0 : Int) ≤ gI qr5s 5 ∧ gI qr5s 5 ≤ 5 := hRqr5s.1 5; have : gI qr5s 3 = gI s2 3 := Fqr5s.1 3 (by decide); have : (0 : Int) ≤ gI qr5s 2 ∧ gI qr5s 2 ≤ 1600 := hRqr5s.1 2; have : (0 : Int) ≤ gI s2 5 ∧ gI s2 5 ≤ 5 := hRs2.1 5; have : (0 : Int) ≤ gI s 5 ∧ gI s 5 ≤ 5 := hRs.1 5; have : gI s2 3 = gI s 3 := Fs2.1 3 (by decide); have : (0 : Int) ≤ gI s2 2 ∧ gI s2 2 ≤ 1600 := hRs2.1 2; have : (0 : Int) ≤ gI s 45 ∧ gI s 45 ≤ 1600 := hRs.1 45; have : (0 : Int) ≤ gI s 3 ∧ gI s 3 ≤ 1600 := hRs.1 3; have : (0 : Int) ≤ gI s 2 ∧ gI s 2 ≤ 1600 := hRs.1 2; have : gI s14 3 = gI qr12s 3 := q_Ai es14; have : gI s14 2 = gI qr12s 2 := q_Ai es14; omega) (by show 0 ≤ (59 : Int) ∧ (59 : Int) ≤ 255; have : (0 : Int) ≤ gI qr12s 5 ∧ gI qr12s 5 ≤ 5 := hRqr12s.1 5; have : gI qr12s 3 = gI s9 3 := Fqr12s.1 3 (by decide); have : (0 : Int) ≤ gI qr12s 2 ∧ gI qr12s 2 ≤ 1600 := hRqr12s.1 2; have : (0 : Int) ≤ gI s9 5 ∧ gI s9 5 ≤ 5 := hRs9.1 5; have : gI s7 5 = gI qr5s 5 := q_Ai es7; have : gI s9 3 = gI s7 3 := Fs9.1 3 (by decide); have : gI s7 3 = gI qr5s 3 := q_Ai es7; have : (0 : Int) ≤ gI s9 2 ∧ gI s9 2 ≤ 1600 := hRs9.1 2; have : gI s7 2 = gI qr5s 2 := q_Ai es7; have : (0 : Int) ≤ gI qr5s 5 ∧ gI qr5s 5 ≤ 5 := hRqr5s.1 5; have : gI qr5s 3 = gI s2 3 := Fqr5s.1 3 (by decide); have : (0 : Int) ≤ gI qr5s 2 ∧ gI qr5s 2 ≤ 1600 := hRqr5s.1 2; have : (0 : Int) ≤ gI s2 5 ∧ gI s2 5 ≤ 5 := hRs2.1 5; have : (0 : Int) ≤ gI s 5 ∧ gI s 5 ≤ 5 := hRs.1 5; have : gI s2 3 = gI s 3 := Fs2.1 3 (by decide); have : (0 : Int) ≤ gI s2 2 ∧ gI s2 2 ≤ 1600 := hRs2.1 2; have : (0 : Int) ≤ gI s 45 ∧ gI s 45 ≤ 1600 := hRs.1 45; have : (0 : Int) ≤ gI s 3 ∧ gI s 3 ≤ 1600 := hRs.1 3; have : (0 : Int) ≤ gI s 2 ∧ gI s 2 ≤ 1600 := hRs.1 2; omega)) (fun s16 es16 hs16 => ?_)
  have Fs16 : F_x12_asksSign s14 s16 := fr_x12_asksSign es16
  obtain ⟨hRs16, hs16_0, hs16_1, hs16_2⟩ := hs16
  have hs16_0 : gI s14 2 ≤ gI s16 2 ∧ gI s16 2 ≤ gI s16 3 := hs16_0
  have hs16_1 : gI s14 5 ≠ 0 → gI s16 5 ≠ 0 := hs16_1
  have hs16_2 : gI s16 5 = 0 → gI s14 2 + 1 ≤ gI s16 2 := hs16_2
  exact wp_some ⟨hRs16, by
      have u7 : gA s7 39 = upZ (gA qr5s 39) 0 qr5r := q_AA es7
      have u14 : gA s14 39 = upZ (gA qr12s 39) 1 qr12r := q_AA es14
      have w : gA s16 39 = upZ (upZ (gA s 39) 0 qr5r) 1 qr12r := by rw [((Fs16.2.1 39 (by decide))), u14, (((Fqr12s.2.1 39 (by decide)).trans (Fs9.2.1 39 (by decide)))), u7, (((Fqr5s.2.1 39 (by decide)).trans (Fs2.2.1 39 (by decide))))]
      obtain ⟨qa, qb, ⟨qc1, qc2⟩⟩ := hp1
      refine ⟨?_, ?_, ⟨?_, fun w hw => ?_⟩, fun h9 => ?_⟩
      · rw [w, upZ_n (by decide), upZ_n (by decide), upZ_n (by decide), upZ_n (by decide)]; exact ⟨qa.1, by have : (0 : Int) ≤ gI s16 5 ∧ gI s16 5 ≤ 5 := hRs16.1 5; have : gI s14 5 = gI qr12s 5 := q_Ai es14; have : gI s16 3 = gI s14 3 := Fs16.1 3 (by decide); have : gI s14 3 = gI qr12s 3 := q_Ai es14; have : (0 : Int) ≤ gI s16 2 ∧ gI s16 2 ≤ 1600 := hRs16.1 2; have : gI s14 2 = gI qr12s 2 := q_Ai es14; have : (0 : Int) ≤ gI qr12s 5 ∧ gI qr12s 5 ≤ 5 := hRqr12s.1 5; have : gI qr12s 3 = gI s9 3 := Fqr12s.1 3 (by decide); have : (0 : Int) ≤ gI qr12s 2 ∧ gI qr12s 2 ≤ 1600 := hRqr12s.1 2; have : (0 : Int) ≤ gI s9 5 ∧ gI s9 5 ≤ 5 := hRs9.1 5; have : gI s7 5 = gI qr5s 5 := q_Ai es7; have : gI s9 3 = gI s7 3 := Fs9.1 3 (by decide); have : gI s7 3 = gI qr5s 3 := q_Ai es7; have : (0 : Int) ≤ gI s9 2 ∧ gI s9 2 ≤ 1600 := hRs9.1 2; have : gI s7 2 = gI qr5s 2 := q_Ai es7; have : (0 : Int) ≤ gI qr5s 5 ∧ gI qr5s 5 ≤ 5 := hRqr5s.1 5; have : gI qr5s 3 = gI s2 3 := Fqr5s.1 3 (by decide); have : (0 : Int) ≤ gI qr5s 2 ∧ gI qr5s 2 ≤ 1600 := hRqr5s.1 2; have : (0 : Int) ≤ gI s2 5 ∧ gI s2 5 ≤ 5 := hRs2.1 5; have : (0 : Int) ≤ gI s 5 ∧ gI s 5 ≤ 5 := hRs.1 5; have : gI s2 3 = gI s 3 := Fs2.1 3 (by decide); have : (0 : Int) ≤ gI s2 2 ∧ gI s2 2 ≤ 1600 := hRs2.1 2; have : (0 : Int) ≤ gI s 45 ∧ gI s 45 ≤ 1600 := hRs.1 45; have : (0 : Int) ≤ gI s 3 ∧ gI s 3 ≤ 1600 := hRs.1 3; have : (0 : Int) ≤ gI s 2 ∧ gI s 2 ≤ 1600 := hRs.1 2; have : gI s16 46 = gI s14 46 := Fs16.1 46 (by decide); have : gI s14 46 = gI qr12s 46 := q_Ai es14; have : gI qr12s 46 = gI s9 46 := Fqr12s.1 46 (by decide); have : gI s9 46 = gI s7 46 := Fs9.1 46 (by decide); have : gI s7 46 = gI qr5s 46 := q_Ai es7; have : gI qr5s 46 = gI s2 46 := Fqr5s.1 46 (by decide); have : gI s2 46 = gI s 46 := Fs2.1 46 (by decide); have : (0 : Int) ≤ gI s 46 ∧ gI s 46 ≤ 60 := hRs.1 46; have := qa.2; omega⟩
      · rw [w, upZ_n (by decide), upZ_n (by decide), upZ_n (by decide), upZ_n (by decide), (((Fs16.2.1 41 (by decide)).trans ((q_Aa es14 (by decide) : gA s14 41 = gA qr12s 41).trans ((Fqr12s.2.1 41 (by decide)).trans ((Fs9.2.1 41 (by decide)).trans ((q_Aa es7 (by decide) : gA s7 41 = gA qr5s 41).trans ((Fqr5s.2.1 41 (by decide)).trans (Fs2.2.1 41 (by decide)))))))))]; exact qb
      · have : (0 : Int) ≤ gI s16 5 ∧ gI s16 5 ≤ 5 := hRs16.1 5; have : gI s14 5 = gI qr12s 5 := q_Ai es14; have : gI s16 3 = gI s14 3 := Fs16.1 3 (by decide); have : gI s14 3 = gI qr12s 3 := q_Ai es14; have : gI s14 2 = gI qr12s 2 := q_Ai es14; have : (0 : Int) ≤ gI qr12s 5 ∧ gI qr12s 5 ≤ 5 := hRqr12s.1 5; have : gI qr12s 3 = gI s9 3 := Fqr12s.1 3 (by decide); have : (0 : Int) ≤ gI qr12s 2 ∧ gI qr12s 2 ≤ 1600 := hRqr12s.1 2; have : (0 : Int) ≤ gI s9 5 ∧ gI s9 5 ≤ 5 := hRs9.1 5; have : gI s7 5 = gI qr5s 5 := q_Ai es7; have : gI s9 3 = gI s7 3 := Fs9.1 3 (by decide); have : gI s7 3 = gI qr5s 3 := q_Ai es7; have : (0 : Int) ≤ gI s9 2 ∧ gI s9 2 ≤ 1600 := hRs9.1 2; have : gI s7 2 = gI qr5s 2 := q_Ai es7; have : (0 : Int) ≤ gI qr5s 5 ∧ gI qr5s 5 ≤ 5 := hRqr5s.1 5; have : gI qr5s 3 = gI s2 3 := Fqr5s.1 3 (by decide); have : (0 : Int) ≤ gI qr5s 2 ∧ gI qr5s 2 ≤ 1600 := hRqr5s.1 2; have : (0 : Int) ≤ gI s2 5 ∧ gI s2 5 ≤ 5 := hRs2.1 5; have : (0 : Int) ≤ gI s 5 ∧ gI s 5 ≤ 5 := hRs.1 5; have : gI s2 3 = gI s 3 := Fs2.1 3 (by decide); have : (0 : Int) ≤ gI s2 2 ∧ gI s2 2 ≤ 1600 := hRs2.1 2; have : (0 : Int) ≤ gI s 45 ∧ gI s 45 ≤ 1600 := hRs.1 45; have : (0 : Int) ≤ gI s 3 ∧ gI s 3 ≤ 1600 := hRs.1 3; have : (0 : Int) ≤ gI s 2 ∧ gI s 2 ≤ 1600 := hRs.1 2; have : (0 : Int) ≤ gI s16 2 ∧ gI s16 2 ≤ 1600 := hRs16.1 2; have : gI s16 45 = gI s14 45 := Fs16.1 45 (by decide); have : gI s14 45 = gI qr12s 45 := q_Ai es14; have : gI qr12s 45 = gI s9 45 := Fqr12s.1 45 (by decide); have : gI s9 45 = gI s7 45 := Fs9.1 45 (by decide); have : gI s7 45 = gI qr5s 45 := q_Ai es7; have : gI qr5s 45 = gI s2 45 := Fqr5s.1 45 (by decide); have : gI s2 45 = gI s 45 := Fs2.1 45 (by decide); omega
      · rw [(((Fs16.2.1 42 (by decide)).trans ((q_Aa es14 (by decide) : gA s14 42 = gA qr12s 42).trans ((Fqr12s.2.1 42 (by decide)).trans ((Fs9.2.1 42 (by decide)).trans ((q_Aa es7 (by decide) : gA s7 42 = gA qr5s 42).trans ((Fqr5s.2.1 42 (by decide)).trans (Fs2.2.1 42 (by decide))))))))), (((Fs16.2.1 43 (by decide)).trans ((q_Aa es14 (by decide) : gA s14 43 = gA qr12s 43).trans ((Fqr12s.2.1 43 (by decide)).trans ((Fs9.2.1 43 (by decide)).trans ((q_Aa es7 (by decide) : gA s7 43 = gA qr5s 43).trans ((Fqr5s.2.1 43 (by decide)).trans (Fs2.2.1 43 (by decide))))))))), (((Fs16.2.1 44 (by decide)).trans ((q_Aa es14 (by decide) : gA s14 44 = gA qr12s 44).trans ((Fqr12s.2.1 44 (by decide)).trans ((Fs9.2.1 44 (by decide)).trans ((q_Aa es7 (by decide) : gA s7 44 = gA qr5s 44).trans ((Fqr5s.2.1 44 (by decide)).trans (Fs2.2.1 44 (by decide))))))))), (((Fs16.1 45 (by decide)).trans ((q_Ai es14 : gI s14 45 = gI qr12s 45).trans ((Fqr12s.1 45 (by decide)).trans ((Fs9.1 45 (by decide)).trans ((q_Ai es7 : gI s7 45 = gI qr5s 45).trans ((Fqr5s.1 45 (by decide)).trans (Fs2.1 45 (by decide)))))))))]; exact qc2 w hw
      · have : gI s14 5 = gI qr12s 5 := q_Ai es14; have : gI s16 3 = gI s14 3 := Fs16.1 3 (by decide); have : gI s14 3 = gI qr12s 3 := q_Ai es14; have : (0 : Int) ≤ gI s16 2 ∧ gI s16 2 ≤ 1600 := hRs16.1 2; have : gI s14 2 = gI qr12s 2 := q_Ai es14; have : (0 : Int) ≤ gI qr12s 5 ∧ gI qr12s 5 ≤ 5 := hRqr12s.1 5; have : gI qr12s 3 = gI s9 3 := Fqr12s.1 3 (by decide); have : (0 : Int) ≤ gI qr12s 2 ∧ gI qr12s 2 ≤ 1600 := hRqr12s.1 2; have : (0 : Int) ≤ gI s9 5 ∧ gI s9 5 ≤ 5 := hRs9.1 5; have : gI s7 5 = gI qr5s 5 := q_Ai es7; have : gI s9 3 = gI s7 3 := Fs9.1 3 (by decide); have : gI s7 3 = gI qr5s 3 := q_Ai es7; have : (0 : Int) ≤ gI s9 2 ∧ gI s9 2 ≤ 1600 := hRs9.1 2; have : gI s7 2 = gI qr5s 2 := q_Ai es7; have : (0 : Int) ≤ gI qr5s 5 ∧ gI qr5s 5 ≤ 5 := hRqr5s.1 5; have : gI qr5s 3 = gI s2 3 := Fqr5s.1 3 (by decide); have : (0 : Int) ≤ gI qr5s 2 ∧ gI qr5s 2 ≤ 1600 := hRqr5s.1 2; have : (0 : Int) ≤ gI s2 5 ∧ gI s2 5 ≤ 5 := hRs2.1 5; have : (0 : Int) ≤ gI s 5 ∧ gI s 5 ≤ 5 := hRs.1 5; have : gI s2 3 = gI s 3 := Fs2.1 3 (by decide); have : (0 : Int) ≤ gI s2 2 ∧ gI s2 2 ≤ 1600 := hRs2.1 2; have : (0 : Int) ≤ gI s 45 ∧ gI s 45 ≤ 1600 := hRs.1 45; have : (0 : Int) ≤ gI s 3 ∧ gI s 3 ≤ 1600 := hRs.1 3; have : (0 : Int) ≤ gI s 2 ∧ gI s 2 ≤ 1600 := hRs.1 2; have : (0 : Int) ≤ gI s16 5 ∧ gI s16 5 ≤ 5 := hRs16.1 5; rw [w, upZ_n (by decide), upZ_s, upZ_s, upZ_n (by decide), upZ_n (by decide), hp2]; exact ⟨by omega, by omega, by omega⟩, by show gI s 2 ≤ gI s16 2 ∧ gI s16 2 ≤ gI s16 3; have : (0 : Int) ≤ gI s16 5 ∧ gI s16 5 ≤ 5 := hRs16.1 5; have : gI s14 5 = gI qr12s 5 := q_Ai es14; have : gI s14 2 = gI qr12s 2 := q_Ai es14; have : (0 : Int) ≤ gI qr12s 5 ∧ gI qr12s 5 ≤ 5 := hRqr12s.1 5; have : gI qr12s 3 = gI s9 3 := Fqr12s.1 3 (by decide); have : (0 : Int) ≤ gI qr12s 2 ∧ gI qr12s 2 ≤ 1600 := hRqr12s.1 2; have : (0 : Int) ≤ gI s9 5 ∧ gI s9 5 ≤ 5 := hRs9.1 5; have : gI s7 5 = gI qr5s 5 := q_Ai es7; have : gI s9 3 = gI s7 3 := Fs9.1 3 (by decide); have : gI s7 3 = gI qr5s 3 := q_Ai es7; have : (0 : Int) ≤ gI s9 2 ∧ gI s9 2 ≤ 1600 := hRs9.1 2; have : gI s7 2 = gI qr5s 2 := q_Ai es7; have : (0 : Int) ≤ gI qr5s 5 ∧ gI qr5s 5 ≤ 5 := hRqr5s.1 5; have : gI qr5s 3 = gI s2 3 := Fqr5s.1 3 (by decide); have : (0 : Int) ≤ gI qr5s 2 ∧ gI qr5s 2 ≤ 1600 := hRqr5s.1 2; have : (0 : Int) ≤ gI s2 5 ∧ gI s2 5 ≤ 5 := hRs2.1 5; have : (0 : Int) ≤ gI s 5 ∧ gI s 5 ≤ 5 := hRs.1 5; have : gI s2 3 = gI s 3 := Fs2.1 3 (by decide); have : (0 : Int) ≤ gI s2 2 ∧ gI s2 2 ≤ 1600 := hRs2.1 2; have : (0 : Int) ≤ gI s 45 ∧ gI s 45 ≤ 1600 := hRs.1 45; have : (0 : Int) ≤ gI s 3 ∧ gI s 3 ≤ 1600 := hRs.1 3; have : gI s16 3 = gI s14 3 := Fs16.1 3 (by decide); have : gI s14 3 = gI qr12s 3 := q_Ai es14; have : (0 : Int) ≤ gI s16 2 ∧ gI s16 2 ≤ 1600 := hRs16.1 2; have : (0 : Int) ≤ gI s 2 ∧ gI s 2 ≤ 1600 := hRs.1 2; omega, FB_39 (fun j hj => by rw [((Fs16.2.1 39 (by decide))), (q_AA es14 : gA s14 39 = _), upZ_n (by omega), (((Fqr12s.2.1 39 (by decide)).trans (Fs9.2.1 39 (by decide)))), (q_AA es7 : gA s7 39 = _), upZ_n (by omega), (((Fqr5s.2.1 39 (by decide)).trans (Fs2.2.1 39 (by decide))))]) ((Fs16.2.1 42 (by decide)).trans ((q_Aa es14 (by decide) : gA s14 42 = gA qr12s 42).trans ((Fqr12s.2.1 42 (by decide)).trans ((Fs9.2.1 42 (by decide)).trans ((q_Aa es7 (by decide) : gA s7 42 = gA qr5s 42).trans ((Fqr5s.2.1 42 (by decide)).trans (Fs2.2.1 42 (by decide)))))))) ((Fs16.2.1 43 (by decide)).trans ((q_Aa es14 (by decide) : gA s14 43 = gA qr12s 43).trans ((Fqr12s.2.1 43 (by decide)).trans ((Fs9.2.1 43 (by decide)).trans ((q_Aa es7 (by decide) : gA s7 43 = gA qr5s 43).trans ((Fqr5s.2.1 43 (by decide)).trans (Fs2.2.1 43 (by decide)))))))) ((Fs16.2.1 44 (by decide)).trans ((q_Aa es14 (by decide) : gA s14 44 = gA qr12s 44).trans ((Fqr12s.2.1 44 (by decide)).trans ((Fs9.2.1 44 (by decide)).trans ((q_Aa es7 (by decide) : gA s7 44 = gA qr5s 44).trans ((Fqr5s.2.1 44 (by decide)).trans (Fs2.2.1 44 (by decide))))))))⟩
set_option maxHeartbeats 1000000 in
theorem w_x12_qKind {s : MS} (hRs : Rr s) (hp0 : gI s 2 ≤ gI s 3) : wp (m_x12_qKind s) (fun q => (Rr q.2) ∧ (0 ≤ q.1 ∧ q.1 ≤ 5) ∧ (gI s 2 ≤ gI q.2 2 ∧ gI q.2 2 ≤ gI q.2 3) ∧ (gI s 5 ≠ 0 → gI q.2 5 ≠ 0)) := by
  have J76 : ∀ (x3 : Int) (s4 : MS), Rr s4 → (0 ≤ x3 ∧ x3 ≤ 5) → (gI s 2 ≤ gI s4 2 ∧ gI s4 2 ≤ gI s4 3) → (gI s 5 ≠ 0 → gI s4 5 ≠ 0) → wp (m_x12_qKind_J76 x3 s4) (fun q => (Rr q.2) ∧ (0 ≤ q.1 ∧ q.1 ≤ 5) ∧ (gI s 2 ≤ gI q.2 2 ∧ gI q.2 2 ≤ gI q.2 3) ∧ (gI s 5 ≠ 0 → gI q.2 5 ≠ 0)) := by
    intro x3 s4 hRs4 hj76_0 hj76_1 hj76_2
    unfold m_x12_qKind_J76
    refine wp_rg (by have : (0 : Int) ≤ gI s4 5 ∧ gI s4 5 ≤ 5 := hRs4.1 5; have : (0 : Int) ≤ gI s 5 ∧ gI s 5 ≤ 5 := hRs.1 5; have : (0 : Int) ≤ gI s4 3 ∧ gI s4 3 ≤ 1600 := hRs4.1 3; have : (0 : Int) ≤ gI s4 2 ∧ gI s4 2 ≤ 1600 := hRs4.1 2; have : (0 : Int) ≤ gI s 3 ∧ gI s 3 ≤ 1600 := hRs.1 3; have : (0 : Int) ≤ gI s 2 ∧ gI s 2 ≤ 1600 := hRs.1 2; omega) ?_
    refine wp_if (fun c1 => ?_) (fun c1 => ?_)
    · skip
      refine wp_bn (w_x12_asks hRs4 (by show gI s4 2 ≤ gI s4 3; have : (0 : Int) ≤ gI s4 5 ∧ gI s4 5 ≤ 5 := hRs4.1 5; have : (0 : Int) ≤ gI s 5 ∧ gI s 5 ≤ 5 := hRs.1 5; have : (0 : Int) ≤ gI s 3 ∧ gI s 3 ≤ 1600 := hRs.1 3; have : (0 : Int) ≤ gI s 2 ∧ gI s 2 ≤ 1600 := hRs.1 2; have : (0 : Int) ≤ gI s4 3 ∧ gI s4 3 ≤ 1600 := hRs4.1 3; have : (0 : Int) ≤ gI s4 2 ∧ gI s4 2 ≤ 1600 := hRs4.1 2; omega) (fun j hj => hRs4.2.1 84 j hj) (by decide)) (fun s8 es8 hs8 => ?_)
      have Fs8 : F_x12_asks s4 s8 := fr_x12_asks es8
      obtain ⟨hRs8, hs8_0, hs8_1, hs8_2⟩ := hs8
      have hs8_0 : gI s4 2 ≤ gI s8 2 ∧ gI s8 2 ≤ gI s8 3 := hs8_0
      have hs8_1 : gI s4 5 ≠ 0 → gI s8 5 ≠ 0 := hs8_1
      have hs8_2 : gI s8 5 = 0 → gI s4 2 + ((5 : Int) : Int) ≤ gI s8 2 := hs8_2
      unfold m_x12_qKind_J90
      exact wp_some ⟨hRs8, by show 0 ≤ x3 ∧ x3 ≤ 5; have : (0 : Int) ≤ gI s8 5 ∧ gI s8 5 ≤ 5 := hRs8.1 5; have : gI s8 3 = gI s4 3 := Fs8.1 3 (by decide); have : (0 : Int) ≤ gI s8 2 ∧ gI s8 2 ≤ 1600 := hRs8.1 2; have : (0 : Int) ≤ gI s4 5 ∧ gI s4 5 ≤ 5 := hRs4.1 5; have : (0 : Int) ≤ gI s 5 ∧ gI s 5 ≤ 5 := hRs.1 5; have : (0 : Int) ≤ gI s4 3 ∧ gI s4 3 ≤ 1600 := hRs4.1 3; have : (0 : Int) ≤ gI s4 2 ∧ gI s4 2 ≤ 1600 := hRs4.1 2; have : (0 : Int) ≤ gI s 3 ∧ gI s 3 ≤ 1600 := hRs.1 3; have : (0 : Int) ≤ gI s 2 ∧ gI s 2 ≤ 1600 := hRs.1 2; omega, by show gI s 2 ≤ gI s8 2 ∧ gI s8 2 ≤ gI s8 3; have : (0 : Int) ≤ gI s8 5 ∧ gI s8 5 ≤ 5 := hRs8.1 5; have : (0 : Int) ≤ gI s4 5 ∧ gI s4 5 ≤ 5 := hRs4.1 5; have : (0 : Int) ≤ gI s 5 ∧ gI s 5 ≤ 5 := hRs.1 5; have : (0 : Int) ≤ gI s4 3 ∧ gI s4 3 ≤ 1600 := hRs4.1 3; have : (0 : Int) ≤ gI s4 2 ∧ gI s4 2 ≤ 1600 := hRs4.1 2; have : (0 : Int) ≤ gI s 3 ∧ gI s 3 ≤ 1600 := hRs.1 3; have : gI s8 3 = gI s4 3 := Fs8.1 3 (by decide); have : (0 : Int) ≤ gI s8 2 ∧ gI s8 2 ≤ 1600 := hRs8.1 2; have : (0 : Int) ≤ gI s 2 ∧ gI s 2 ≤ 1600 := hRs.1 2; omega, by show gI s 5 ≠ 0 → gI s8 5 ≠ 0; have : gI s8 3 = gI s4 3 := Fs8.1 3 (by decide); have : (0 : Int) ≤ gI s8 2 ∧ gI s8 2 ≤ 1600 := hRs8.1 2; have : (0 : Int) ≤ gI s4 5 ∧ gI s4 5 ≤ 5 := hRs4.1 5; have : (0 : Int) ≤ gI s4 3 ∧ gI s4 3 ≤ 1600 := hRs4.1 3; have : (0 : Int) ≤ gI s4 2 ∧ gI s4 2 ≤ 1600 := hRs4.1 2; have : (0 : Int) ≤ gI s 3 ∧ gI s 3 ≤ 1600 := hRs.1 3; have : (0 : Int) ≤ gI s 2 ∧ gI s 2 ≤ 1600 := hRs.1 2; have : (0 : Int) ≤ gI s8 5 ∧ gI s8 5 ≤ 5 := hRs8.1 5; have : (0 : Int) ≤ gI s 5 ∧ gI s 5 ≤ 5 := hRs.1 5; omega⟩
    · skip
      unfold m_x12_qKind_J90
      exact wp_some ⟨hRs4, by show 0 ≤ x3 ∧ x3 ≤ 5; have : (0 : Int) ≤ gI s4 5 ∧ gI s4 5 ≤ 5 := hRs4.1 5; have : (0 : Int) ≤ gI s 5 ∧ gI s 5 ≤ 5 := hRs.1 5; have : (0 : Int) ≤ gI s4 3 ∧ gI s4 3 ≤ 1600 := hRs4.1 3; have : (0 : Int) ≤ gI s4 2 ∧ gI s4 2 ≤ 1600 := hRs4.1 2; have : (0 : Int) ≤ gI s 3 ∧ gI s 3 ≤ 1600 := hRs.1 3; have : (0 : Int) ≤ gI s 2 ∧ gI s 2 ≤ 1600 := hRs.1 2; omega, by show gI s 2 ≤ gI s4 2 ∧ gI s4 2 ≤ gI s4 3; have : (0 : Int) ≤ gI s4 5 ∧ gI s4 5 ≤ 5 := hRs4.1 5; have : (0 : Int) ≤ gI s 5 ∧ gI s 5 ≤ 5 := hRs.1 5; have : (0 : Int) ≤ gI s 3 ∧ gI s 3 ≤ 1600 := hRs.1 3; have : (0 : Int) ≤ gI s4 3 ∧ gI s4 3 ≤ 1600 := hRs4.1 3; have : (0 : Int) ≤ gI s4 2 ∧ gI s4 2 ≤ 1600 := hRs4.1 2; have : (0 : Int) ≤ gI s 2 ∧ gI s 2 ≤ 1600 := hRs.1 2; omega, by show gI s 5 ≠ 0 → gI s4 5 ≠ 0; have : (0 : Int) ≤ gI s4 3 ∧ gI s4 3 ≤ 1600 := hRs4.1 3; have : (0 : Int) ≤ gI s4 2 ∧ gI s4 2 ≤ 1600 := hRs4.1 2; have : (0 : Int) ≤ gI s 3 ∧ gI s 3 ≤ 1600 := hRs.1 3; have : (0 : Int) ≤ gI s 2 ∧ gI s 2 ≤ 1600 := hRs.1 2; have : (0 : Int) ≤ gI s4 5 ∧ gI s4 5 ≤ 5 := hRs4.1 5; have : (0 : Int) ≤ gI s 5 ∧ gI s 5 ≤ 5 := hRs.1 5; omega⟩
  unfold m_x12_qKind
  refine wp_bn (w_x12_takes hRs (by show gI s 2 ≤ gI s 3; have : (0 : Int) ≤ gI s 3 ∧ gI s 3 ≤ 1600 := hRs.1 3; have : (0 : Int) ≤ gI s 2 ∧ gI s 2 ≤ 1600 := hRs.1 2; omega) (fun j hj => hRs.2.1 79 j hj) (by decide)) (fun qqr11 eqr11s hqr11s => ?_)
  obtain ⟨qr11r, qr11s⟩ := qqr11
  dsimp only at eqr11s hqr11s ⊢
  have Fqr11s : F_x12_takes s qr11s := fr_x12_takes eqr11s
  obtain ⟨hRqr11s, hqr11s_0, hqr11s_1, hqr11s_2, hqr11s_3⟩ := hqr11s
  have hqr11s_0 : Hid (qr11r = 0 ∨ qr11r = 1) := hqr11s_0
  have hqr11s_1 : gI s 2 ≤ gI qr11s 2 ∧ gI qr11s 2 ≤ gI qr11s 3 := hqr11s_1
  have hqr11s_2 : Hid (qr11r = 1 → gI s 2 + ((5 : Int) : Int) ≤ gI qr11s 2) := hqr11s_2
  have hqr11s_3 : Hid (qr11r = 1 → gI s 5 = 0) := hqr11s_3
  refine wp_rg (by have : gI qr11s 3 = gI s 3 := Fqr11s.1 3 (by decide); have : (0 : Int) ≤ gI qr11s 2 ∧ gI qr11s 2 ≤ 1600 := hRqr11s.1 2; have : (0 : Int) ≤ gI s 3 ∧ gI s 3 ≤ 1600 := hRs.1 3; have : (0 : Int) ≤ gI s 2 ∧ gI s 2 ≤ 1600 := hRs.1 2; omega) ?_
  refine wp_if (fun c2 => ?_) (fun c2 => ?_)
  · skip
    refine wp_bn (w_x12_takes hRqr11s (by show gI qr11s 2 ≤ gI qr11s 3; have : (0 : Int) ≤ gI s 3 ∧ gI s 3 ≤ 1600 := hRs.1 3; have : (0 : Int) ≤ gI s 2 ∧ gI s 2 ≤ 1600 := hRs.1 2; have : gI qr11s 3 = gI s 3 := Fqr11s.1 3 (by decide); have : (0 : Int) ≤ gI qr11s 2 ∧ gI qr11s 2 ≤ 1600 := hRqr11s.1 2; omega) (fun j hj => hRqr11s.2.1 80 j hj) (by decide)) (fun qqr16 eqr16s hqr16s => ?_)
    obtain ⟨qr16r, qr16s⟩ := qqr16
    dsimp only at eqr16s hqr16s ⊢
    have Fqr16s : F_x12_takes qr11s qr16s := fr_x12_takes eqr16s
    obtain ⟨hRqr16s, hqr16s_0, hqr16s_1, hqr16s_2, hqr16s_3⟩ := hqr16s
    have hqr16s_0 : Hid (qr16r = 0 ∨ qr16r = 1) := hqr16s_0
    have hqr16s_1 : gI qr11s 2 ≤ gI qr16s 2 ∧ gI qr16s 2 ≤ gI qr16s 3 := hqr16s_1
    have hqr16s_2 : Hid (qr16r = 1 → gI qr11s 2 + ((4 : Int) : Int) ≤ gI qr16s 2) := hqr16s_2
    have hqr16s_3 : Hid (qr16r = 1 → gI qr11s 5 = 0) := hqr16s_3
    refine wp_rg (by have : gI qr16s 3 = gI qr11s 3 := Fqr16s.1 3 (by decide); have : (0 : Int) ≤ gI qr16s 2 ∧ gI qr16s 2 ≤ 1600 := hRqr16s.1 2; have : gI qr11s 3 = gI s 3 := Fqr11s.1 3 (by decide); have : (0 : Int) ≤ gI qr11s 2 ∧ gI qr11s 2 ≤ 1600 := hRqr11s.1 2; have : (0 : Int) ≤ gI s 3 ∧ gI s 3 ≤ 1600 := hRs.1 3; have : (0 : Int) ≤ gI s 2 ∧ gI s 2 ≤ 1600 := hRs.1 2; omega) ?_
    refine wp_if (fun c3 => ?_) (fun c3 => ?_)
    · skip
      refine wp_bn (w_x12_takes hRqr16s (by show gI qr16s 2 ≤ gI qr16s 3; have : gI qr11s 3 = gI s 3 := Fqr11s.1 3 (by decide); have : (0 : Int) ≤ gI qr11s 2 ∧ gI qr11s 2 ≤ 1600 := hRqr11s.1 2; have : (0 : Int) ≤ gI s 3 ∧ gI s 3 ≤ 1600 := hRs.1 3; have : (0 : Int) ≤ gI s 2 ∧ gI s 2 ≤ 1600 := hRs.1 2; have : gI qr16s 3 = gI qr11s 3 := Fqr16s.1 3 (by decide); have : (0 : Int) ≤ gI qr16s 2 ∧ gI qr16s 2 ≤ 1600 := hRqr16s.1 2; omega) (fun j hj => hRqr16s.2.1 81 j hj) (by decide)) (fun qqr21 eqr21s hqr21s => ?_)
      obtain ⟨qr21r, qr21s⟩ := qqr21
      dsimp only at eqr21s hqr21s ⊢
      have Fqr21s : F_x12_takes qr16s qr21s := fr_x12_takes eqr21s
      obtain ⟨hRqr21s, hqr21s_0, hqr21s_1, hqr21s_2, hqr21s_3⟩ := hqr21s
      have hqr21s_0 : Hid (qr21r = 0 ∨ qr21r = 1) := hqr21s_0
      have hqr21s_1 : gI qr16s 2 ≤ gI qr21s 2 ∧ gI qr21s 2 ≤ gI qr21s 3 := hqr21s_1
      have hqr21s_2 : Hid (qr21r = 1 → gI qr16s 2 + ((5 : Int) : Int) ≤ gI qr21s 2) := hqr21s_2
      have hqr21s_3 : Hid (qr21r = 1 → gI qr16s 5 = 0) := hqr21s_3
      refine wp_rg (by have : gI qr21s 3 = gI qr16s 3 := Fqr21s.1 3 (by decide); have : (0 : Int) ≤ gI qr21s 2 ∧ gI qr21s 2 ≤ 1600 := hRqr21s.1 2; have : gI qr16s 3 = gI qr11s 3 := Fqr16s.1 3 (by decide); have : (0 : Int) ≤ gI qr16s 2 ∧ gI qr16s 2 ≤ 1600 := hRqr16s.1 2; have : gI qr11s 3 = gI s 3 := Fqr11s.1 3 (by decide); have : (0 : Int) ≤ gI qr11s 2 ∧ gI qr11s 2 ≤ 1600 := hRqr11s.1 2; have : (0 : Int) ≤ gI s 3 ∧ gI s 3 ≤ 1600 := hRs.1 3; have : (0 : Int) ≤ gI s 2 ∧ gI s 2 ≤ 1600 := hRs.1 2; omega) ?_
      refine wp_if (fun c4 => ?_) (fun c4 => ?_)
      · skip
        refine wp_bn (w_x12_takes hRqr21s (by show gI qr21s 2 ≤ gI qr21s 3; have : gI qr16s 3 = gI qr11s 3 := Fqr16s.1 3 (by decide); have : (0 : Int) ≤ gI qr16s 2 ∧ gI qr16s 2 ≤ 1600 := hRqr16s.1 2; have : gI qr11s 3 = gI s 3 := Fqr11s.1 3 (by decide); have : (0 : Int) ≤ gI qr11s 2 ∧ gI qr11s 2 ≤ 1600 := hRqr11s.1 2; have : (0 : Int) ≤ gI s 3 ∧ gI s 3 ≤ 1600 := hRs.1 3; have : (0 : Int) ≤ gI s 2 ∧ gI s 2 ≤ 1600 := hRs.1 2; have : gI qr21s 3 = gI qr16s 3 := Fqr21s.1 3 (by decide); have : (0 : Int) ≤ gI qr21s 2 ∧ gI qr21s 2 ≤ 1600 := hRqr21s.1 2; omega) (fun j hj => hRqr21s.2.1 82 j hj) (by decide)) (fun qqr26 eqr26s hqr26s => ?_)
        obtain ⟨qr26r, qr26s⟩ := qqr26
        dsimp only at eqr26s hqr26s ⊢
        have Fqr26s : F_x12_takes qr21s qr26s := fr_x12_takes eqr26s
        obtain ⟨hRqr26s, hqr26s_0, hqr26s_1, hqr26s_2, hqr26s_3⟩ := hqr26s
        have hqr26s_0 : Hid (qr26r = 0 ∨ qr26r = 1) := hqr26s_0
        have hqr26s_1 : gI qr21s 2 ≤ gI qr26s 2 ∧ gI qr26s 2 ≤ gI qr26s 3 := hqr26s_1
        have hqr26s_2 : Hid (qr26r = 1 → gI qr21s 2 + ((5 : Int) : Int) ≤ gI qr26s 2) := hqr26s_2
        have hqr26s_3 : Hid (qr26r = 1 → gI qr21s 5 = 0) := hqr26s_3
        refine wp_rg (by have : gI qr26s 3 = gI qr21s 3 := Fqr26s.1 3 (by decide); have : (0 : Int) ≤ gI qr26s 2 ∧ gI qr26s 2 ≤ 1600 := hRqr26s.1 2; have : gI qr21s 3 = gI qr16s 3 := Fqr21s.1 3 (by decide); have : (0 : Int) ≤ gI qr21s 2 ∧ gI qr21s 2 ≤ 1600 := hRqr21s.1 2; have : gI qr16s 3 = gI qr11s 3 := Fqr16s.1 3 (by decide); have : (0 : Int) ≤ gI qr16s 2 ∧ gI qr16s 2 ≤ 1600 := hRqr16s.1 2; have : gI qr11s 3 = gI s 3 := Fqr11s.1 3 (by decide); have : (0 : Int) ≤ gI qr11s 2 ∧ gI qr11s 2 ≤ 1600 := hRqr11s.1 2; have : (0 : Int) ≤ gI s 3 ∧ gI s 3 ≤ 1600 := hRs.1 3; have : (0 : Int) ≤ gI s 2 ∧ gI s 2 ≤ 1600 := hRs.1 2; omega) ?_
        refine wp_if (fun c5 => ?_) (fun c5 => ?_)
        · skip
          refine wp_bn (w_x12_takes hRqr26s (by show gI qr26s 2 ≤ gI qr26s 3; have : gI qr21s 3 = gI qr16s 3 := Fqr21s.1 3 (by decide); have : (0 : Int) ≤ gI qr21s 2 ∧ gI qr21s 2 ≤ 1600 := hRqr21s.1 2; have : gI qr16s 3 = gI qr11s 3 := Fqr16s.1 3 (by decide); have : (0 : Int) ≤ gI qr16s 2 ∧ gI qr16s 2 ≤ 1600 := hRqr16s.1 2; have : gI qr11s 3 = gI s 3 := Fqr11s.1 3 (by decide); have : (0 : Int) ≤ gI qr11s 2 ∧ gI qr11s 2 ≤ 1600 := hRqr11s.1 2; have : (0 : Int) ≤ gI s 3 ∧ gI s 3 ≤ 1600 := hRs.1 3; have : (0 : Int) ≤ gI s 2 ∧ gI s 2 ≤ 1600 := hRs.1 2; have : gI qr26s 3 = gI qr21s 3 := Fqr26s.1 3 (by decide); have : (0 : Int) ≤ gI qr26s 2 ∧ gI qr26s 2 ≤ 1600 := hRqr26s.1 2; omega) (fun j hj => hRqr26s.2.1 83 j hj) (by decide)) (fun qqr31 eqr31s hqr31s => ?_)
          obtain ⟨qr31r, qr31s⟩ := qqr31
          dsimp only at eqr31s hqr31s ⊢
          have Fqr31s : F_x12_takes qr26s qr31s := fr_x12_takes eqr31s
          obtain ⟨hRqr31s, hqr31s_0, hqr31s_1, hqr31s_2, hqr31s_3⟩ := hqr31s
          have hqr31s_0 : Hid (qr31r = 0 ∨ qr31r = 1) := hqr31s_0
          have hqr31s_1 : gI qr26s 2 ≤ gI qr31s 2 ∧ gI qr31s 2 ≤ gI qr31s 3 := hqr31s_1
          have hqr31s_2 : Hid (qr31r = 1 → gI qr26s 2 + ((4 : Int) : Int) ≤ gI qr31s 2) := hqr31s_2
          have hqr31s_3 : Hid (qr31r = 1 → gI qr26s 5 = 0) := hqr31s_3
          refine wp_rg (by have : gI qr31s 3 = gI qr26s 3 := Fqr31s.1 3 (by decide); have : (0 : Int) ≤ gI qr31s 2 ∧ gI qr31s 2 ≤ 1600 := hRqr31s.1 2; have : gI qr26s 3 = gI qr21s 3 := Fqr26s.1 3 (by decide); have : (0 : Int) ≤ gI qr26s 2 ∧ gI qr26s 2 ≤ 1600 := hRqr26s.1 2; have : gI qr21s 3 = gI qr16s 3 := Fqr21s.1 3 (by decide); have : (0 : Int) ≤ gI qr21s 2 ∧ gI qr21s 2 ≤ 1600 := hRqr21s.1 2; have : gI qr16s 3 = gI qr11s 3 := Fqr16s.1 3 (by decide); have : (0 : Int) ≤ gI qr16s 2 ∧ gI qr16s 2 ≤ 1600 := hRqr16s.1 2; have : gI qr11s 3 = gI s 3 := Fqr11s.1 3 (by decide); have : (0 : Int) ≤ gI qr11s 2 ∧ gI qr11s 2 ≤ 1600 := hRqr11s.1 2; have : (0 : Int) ≤ gI s 3 ∧ gI s 3 ≤ 1600 := hRs.1 3; have : (0 : Int) ≤ gI s 2 ∧ gI s 2 ≤ 1600 := hRs.1 2; omega) ?_
          refine wp_if (fun c6 => ?_) (fun c6 => ?_)
          · skip
            exact J76 5 qr31s hRqr31s (by show 0 ≤ (5 : Int) ∧ (5 : Int) ≤ 5; have : gI qr31s 3 = gI qr26s 3 := Fqr31s.1 3 (by decide); have : (0 : Int) ≤ gI qr31s 2 ∧ gI qr31s 2 ≤ 1600 := hRqr31s.1 2; have : gI qr26s 3 = gI qr21s 3 := Fqr26s.1 3 (by decide); have : (0 : Int) ≤ gI qr26s 2 ∧ gI qr26s 2 ≤ 1600 := hRqr26s.1 2; have : gI qr21s 3 = gI qr16s 3 := Fqr21s.1 3 (by decide); have : (0 : Int) ≤ gI qr21s 2 ∧ gI qr21s 2 ≤ 1600 := hRqr21s.1 2; have : gI qr16s 3 = gI qr11s 3 := Fqr16s.1 3 (by decide); have : (0 : Int) ≤ gI qr16s 2 ∧ gI qr16s 2 ≤ 1600 := hRqr16s.1 2; have : gI qr11s 3 = gI s 3 := Fqr11s.1 3 (by decide); have : (0 : Int) ≤ gI qr11s 2 ∧ gI qr11s 2 ≤ 1600 := hRqr11s.1 2; have : (0 : Int) ≤ gI s 3 ∧ gI s 3 ≤ 1600 := hRs.1 3; have : (0 : Int) ≤ gI s 2 ∧ gI s 2 ≤ 1600 := hRs.1 2; omega) (by show gI s 2 ≤ gI qr31s 2 ∧ gI qr31s 2 ≤ gI qr31s 3; have : gI qr26s 3 = gI qr21s 3 := Fqr26s.1 3 (by decide); have : (0 : Int) ≤ gI qr26s 2 ∧ gI qr26s 2 ≤ 1600 := hRqr26s.1 2; have : gI qr21s 3 = gI qr16s 3 := Fqr21s.1 3 (by decide); have : (0 : Int) ≤ gI qr21s 2 ∧ gI qr21s 2 ≤ 1600 := hRqr21s.1 2; have : gI qr16s 3 = gI qr11s 3 := Fqr16s.1 3 (by decide); have : (0 : Int) ≤ gI qr16s 2 ∧ gI qr16s 2 ≤ 1600 := hRqr16s.1 2; have : gI qr11s 3 = gI s 3 := Fqr11s.1 3 (by decide); have : (0 : Int) ≤ gI qr11s 2 ∧ gI qr11s 2 ≤ 1600 := hRqr11s.1 2; have : (0 : Int) ≤ gI s 3 ∧ gI s 3 ≤ 1600 := hRs.1 3; have : gI qr31s 3 = gI qr26s 3 := Fqr31s.1 3 (by decide); have : (0 : Int) ≤ gI qr31s 2 ∧ gI qr31s 2 ≤ 1600 := hRqr31s.1 2; have : (0 : Int) ≤ gI s 2 ∧ gI s 2 ≤ 1600 := hRs.1 2; omega) (by show gI s 5 ≠ 0 → gI qr31s 5 ≠ 0; have : gI qr31s 3 = gI qr26s 3 := Fqr31s.1 3 (by decide); have : (0 : Int) ≤ gI qr31s 2 ∧ gI qr31s 2 ≤ 1600 := hRqr31s.1 2; have : gI qr26s 3 = gI qr21s 3 := Fqr26s.1 3 (by decide); have : (0 : Int) ≤ gI qr26s 2 ∧ gI qr26s 2 ≤ 1600 := hRqr26s.1 2; have : gI qr21s 3 = gI qr16s 3 := Fqr21s.1 3 (by decide); have : (0 : Int) ≤ gI qr21s 2 ∧ gI qr21s 2 ≤ 1600 := hRqr21s.1 2; have : gI qr16s 3 = gI qr11s 3 := Fqr16s.1 3 (by decide); have : (0 : Int) ≤ gI qr16s 2 ∧ gI qr16s 2 ≤ 1600 := hRqr16s.1 2; have : gI qr11s 3 = gI s 3 := Fqr11s.1 3 (by decide); have : (0 : Int) ≤ gI qr11s 2 ∧ gI qr11s 2 ≤ 1600 := hRqr11s.1 2; have : (0 : Int) ≤ gI s 3 ∧ gI s 3 ≤ 1600 := hRs.1 3; have : (0 : Int) ≤ gI s 2 ∧ gI s 2 ≤ 1600 := hRs.1 2; have : gI qr31s 5 = gI qr26s 5 := Fqr31s.1 5 (by decide); have : gI qr26s 5 = gI qr21s 5 := Fqr26s.1 5 (by decide); have : gI qr21s 5 = gI qr16s 5 := Fqr21s.1 5 (by decide); have : gI qr16s 5 = gI qr11s 5 := Fqr16s.1 5 (by decide); have : gI qr11s 5 = gI s 5 := Fqr11s.1 5 (by decide); have : (0 : Int) ≤ gI s 5 ∧ gI s 5 ≤ 5 := hRs.1 5; omega)
          · skip
            exact J76 4 qr31s hRqr31s (by show 0 ≤ (4 : Int) ∧ (4 : Int) ≤ 5; have : gI qr31s 3 = gI qr26s 3 := Fqr31s.1 3 (by decide); have : (0 : Int) ≤ gI qr31s 2 ∧ gI qr31s 2 ≤ 1600 := hRqr31s.1 2; have : gI qr26s 3 = gI qr21s 3 := Fqr26s.1 3 (by decide); have : (0 : Int) ≤ gI qr26s 2 ∧ gI qr26s 2 ≤ 1600 := hRqr26s.1 2; have : gI qr21s 3 = gI qr16s 3 := Fqr21s.1 3 (by decide); have : (0 : Int) ≤ gI qr21s 2 ∧ gI qr21s 2 ≤ 1600 := hRqr21s.1 2; have : gI qr16s 3 = gI qr11s 3 := Fqr16s.1 3 (by decide); have : (0 : Int) ≤ gI qr16s 2 ∧ gI qr16s 2 ≤ 1600 := hRqr16s.1 2; have : gI qr11s 3 = gI s 3 := Fqr11s.1 3 (by decide); have : (0 : Int) ≤ gI qr11s 2 ∧ gI qr11s 2 ≤ 1600 := hRqr11s.1 2; have : (0 : Int) ≤ gI s 3 ∧ gI s 3 ≤ 1600 := hRs.1 3; have : (0 : Int) ≤ gI s 2 ∧ gI s 2 ≤ 1600 := hRs.1 2; omega) (by show gI s 2 ≤ gI qr31s 2 ∧ gI qr31s 2 ≤ gI qr31s 3; have : gI qr26s 3 = gI qr21s 3 := Fqr26s.1 3 (by decide); have : (0 : Int) ≤ gI qr26s 2 ∧ gI qr26s 2 ≤ 1600 := hRqr26s.1 2; have : gI qr21s 3 = gI qr16s 3 := Fqr21s.1 3 (by decide); have : (0 : Int) ≤ gI qr21s 2 ∧ gI qr21s 2 ≤ 1600 := hRqr21s.1 2; have : gI qr16s 3 = gI qr11s 3 := Fqr16s.1 3 (by decide); have : (0 : Int) ≤ gI qr16s 2 ∧ gI qr16s 2 ≤ 1600 := hRqr16s.1 2; have : gI qr11s 3 = gI s 3 := Fqr11s.1 3 (by decide); have : (0 : Int) ≤ gI qr11s 2 ∧ gI qr11s 2 ≤ 1600 := hRqr11s.1 2; have : (0 : Int) ≤ gI s 3 ∧ gI s 3 ≤ 1600 := hRs.1 3; have : gI qr31s 3 = gI qr26s 3 := Fqr31s.1 3 (by decide); have : (0 : Int) ≤ gI qr31s 2 ∧ gI qr31s 2 ≤ 1600 := hRqr31s.1 2; have : (0 : Int) ≤ gI s 2 ∧ gI s 2 ≤ 1600 := hRs.1 2; omega) (by show gI s 5 ≠ 0 → gI qr31s 5 ≠ 0; have : gI qr31s 3 = gI qr26s 3 := Fqr31s.1 3 (by decide); have : (0 : Int) ≤ gI qr31s 2 ∧ gI qr31s 2 ≤ 1600 := hRqr31s.1 2; have : gI qr26s 3 = gI qr21s 3 := Fqr26s.1 3 (by decide); have : (0 : Int) ≤ gI qr26s 2 ∧ gI qr26s 2 ≤ 1600 := hRqr26s.1 2; have : gI qr21s 3 = gI qr16s 3 := Fqr21s.1 3 (by decide); have : (0 : Int) ≤ gI qr21s 2 ∧ gI qr21s 2 ≤ 1600 := hRqr21s.1 2; have : gI qr16s 3 = gI qr11s 3 := Fqr16s.1 3 (by decide); have : (0 : Int) ≤ gI qr16s 2 ∧ gI qr16s 2 ≤ 1600 := hRqr16s.1 2; have : gI qr11s 3 = gI s 3 := Fqr11s.1 3 (by decide); have : (0 : Int) ≤ gI qr11s 2 ∧ gI qr11s 2 ≤ 1600 := hRqr11s.1 2; have : (0 : Int) ≤ gI s 3 ∧ gI s 3 ≤ 1600 := hRs.1 3; have : (0 : Int) ≤ gI s 2 ∧ gI s 2 ≤ 1600 := hRs.1 2; have : gI qr31s 5 = gI qr26s 5 := Fqr31s.1 5 (by decide); have : gI qr26s 5 = gI qr21s 5 := Fqr26s.1 5 (by decide); have : gI qr21s 5 = gI qr16s 5 := Fqr21s.1 5 (by decide); have : gI qr16s 5 = gI qr11s 5 := Fqr16s.1 5 (by decide); have : gI qr11s 5 = gI s 5 := Fqr11s.1 5 (by decide); have : (0 : Int) ≤ gI s 5 ∧ gI s 5 ≤ 5 := hRs.1 5; omega)
        · skip
          exact J76 3 qr26s hRqr26s (by show 0 ≤ (3 : Int) ∧ (3 : Int) ≤ 5; have : gI qr26s 3 = gI qr21s 3 := Fqr26s.1 3 (by decide); have : (0 : Int) ≤ gI qr26s 2 ∧ gI qr26s 2 ≤ 1600 := hRqr26s.1 2; have : gI qr21s 3 = gI qr16s 3 := Fqr21s.1 3 (by decide); have : (0 : Int) ≤ gI qr21s 2 ∧ gI qr21s 2 ≤ 1600 := hRqr21s.1 2; have : gI qr16s 3 = gI qr11s 3 := Fqr16s.1 3 (by decide); have : (0 : Int) ≤ gI qr16s 2 ∧ gI qr16s 2 ≤ 1600 := hRqr16s.1 2; have : gI qr11s 3 = gI s 3 := Fqr11s.1 3 (by decide); have : (0 : Int) ≤ gI qr11s 2 ∧ gI qr11s 2 ≤ 1600 := hRqr11s.1 2; have : (0 : Int) ≤ gI s 3 ∧ gI s 3 ≤ 1600 := hRs.1 3; have : (0 : Int) ≤ gI s 2 ∧ gI s 2 ≤ 1600 := hRs.1 2; omega) (by show gI s 2 ≤ gI qr26s 2 ∧ gI qr26s 2 ≤ gI qr26s 3; have : gI qr21s 3 = gI qr16s 3 := Fqr21s.1 3 (by decide); have : (0 : Int) ≤ gI qr21s 2 ∧ gI qr21s 2 ≤ 1600 := hRqr21s.1 2; have : gI qr16s 3 = gI qr11s 3 := Fqr16s.1 3 (by decide); have : (0 : Int) ≤ gI qr16s 2 ∧ gI qr16s 2 ≤ 1600 := hRqr16s.1 2; have : gI qr11s 3 = gI s 3 := Fqr11s.1 3 (by decide); have : (0 : Int) ≤ gI qr11s 2 ∧ gI qr11s 2 ≤ 1600 := hRqr11s.1 2; have : (0 : Int) ≤ gI s 3 ∧ gI s 3 ≤ 1600 := hRs.1 3; have : gI qr26s 3 = gI qr21s 3 := Fqr26s.1 3 (by decide); have : (0 : Int) ≤ gI qr26s 2 ∧ gI qr26s 2 ≤ 1600 := hRqr26s.1 2; have : (0 : Int) ≤ gI s 2 ∧ gI s 2 ≤ 1600 := hRs.1 2; omega) (by show gI s 5 ≠ 0 → gI qr26s 5 ≠ 0; have : gI qr26s 3 = gI qr21s 3 := Fqr26s.1 3 (by decide); have : (0 : Int) ≤ gI qr26s 2 ∧ gI qr26s 2 ≤ 1600 := hRqr26s.1 2; have : gI qr21s 3 = gI qr16s 3 := Fqr21s.1 3 (by decide); have : (0 : Int) ≤ gI qr21s 2 ∧ gI qr21s 2 ≤ 1600 := hRqr21s.1 2; have : gI qr16s 3 = gI qr11s 3 := Fqr16s.1 3 (by decide); have : (0 : Int) ≤ gI qr16s 2 ∧ gI qr16s 2 ≤ 1600 := hRqr16s.1 2; have : gI qr11s 3 = gI s 3 := Fqr11s.1 3 (by decide); have : (0 : Int) ≤ gI qr11s 2 ∧ gI qr11s 2 ≤ 1600 := hRqr11s.1 2; have : (0 : Int) ≤ gI s 3 ∧ gI s 3 ≤ 1600 := hRs.1 3; have : (0 : Int) ≤ gI s 2 ∧ gI s 2 ≤ 1600 := hRs.1 2; have : gI qr26s 5 = gI qr21s 5 := Fqr26s.1 5 (by decide); have : gI qr21s 5 = gI qr16s 5 := Fqr21s.1 5 (by decide); have : gI qr16s 5 = gI qr11s 5 := Fqr16s.1 5 (by decide); have : gI qr11s 5 = gI s 5 := Fqr11s.1 5 (by decide); have : (0 : Int) ≤ gI s 5 ∧ gI s 5 ≤ 5 := hRs.1 5; omega)
      · skip
        exact J76 2 qr21s hRqr21s (by show 0 ≤ (2 : Int) ∧ (2 : Int) ≤ 5; have : gI qr21s 3 = gI qr16s 3 := Fqr21s.1 3 (by decide); have : (0 : Int) ≤ gI qr21s 2 ∧ gI qr21s 2 ≤ 1600 := hRqr21s.1 2; have : gI qr16s 3 = gI qr11s 3 := Fqr16s.1 3 (by decide); have : (0 : Int) ≤ gI qr16s 2 ∧ gI qr16s 2 ≤ 1600 := hRqr16s.1 2; have : gI qr11s 3 = gI s 3 := Fqr11s.1 3 (by decide); have : (0 : Int) ≤ gI qr11s 2 ∧ gI qr11s 2 ≤ 1600 := hRqr11s.1 2; have : (0 : Int) ≤ gI s 3 ∧ gI s 3 ≤ 1600 := hRs.1 3; have : (0 : Int) ≤ gI s 2 ∧ gI s 2 ≤ 1600 := hRs.1 2; omega) (by show gI s 2 ≤ gI qr21s 2 ∧ gI qr21s 2 ≤ gI qr21s 3; have : gI qr16s 3 = gI qr11s 3 := Fqr16s.1 3 (by decide); have : (0 : Int) ≤ gI qr16s 2 ∧ gI qr16s 2 ≤ 1600 := hRqr16s.1 2; have : gI qr11s 3 = gI s 3 := Fqr11s.1 3 (by decide); have : (0 : Int) ≤ gI qr11s 2 ∧ gI qr11s 2 ≤ 1600 := hRqr11s.1 2; have : (0 : Int) ≤ gI s 3 ∧ gI s 3 ≤ 1600 := hRs.1 3; have : gI qr21s 3 = gI qr16s 3 := Fqr21s.1 3 (by decide); have : (0 : Int) ≤ gI qr21s 2 ∧ gI qr21s 2 ≤ 1600 := hRqr21s.1 2; have : (0 : Int) ≤ gI s 2 ∧ gI s 2 ≤ 1600 := hRs.1 2; omega) (by show gI s 5 ≠ 0 → gI qr21s 5 ≠ 0; have : gI qr21s 3 = gI qr16s 3 := Fqr21s.1 3 (by decide); have : (0 : Int) ≤ gI qr21s 2 ∧ gI qr21s 2 ≤ 1600 := hRqr21s.1 2; have : gI qr16s 3 = gI qr11s 3 := Fqr16s.1 3 (by decide); have : (0 : Int) ≤ gI qr16s 2 ∧ gI qr16s 2 ≤ 1600 := hRqr16s.1 2; have : gI qr11s 3 = gI s 3 := Fqr11s.1 3 (by decide); have : (0 : Int) ≤ gI qr11s 2 ∧ gI qr11s 2 ≤ 1600 := hRqr11s.1 2; have : (0 : Int) ≤ gI s 3 ∧ gI s 3 ≤ 1600 := hRs.1 3; have : (0 : Int) ≤ gI s 2 ∧ gI s 2 ≤ 1600 := hRs.1 2; have : gI qr21s 5 = gI qr16s 5 := Fqr21s.1 5 (by decide); have : gI qr16s 5 = gI qr11s 5 := Fqr16s.1 5 (by decide); have : gI qr11s 5 = gI s 5 := Fqr11s.1 5 (by decide); have : (0 : Int) ≤ gI s 5 ∧ gI s 5 ≤ 5 := hRs.1 5; omega)
    · skip
      exact J76 1 qr16s hRqr16s (by show 0 ≤ (1 : Int) ∧ (1 : Int) ≤ 5; have : gI qr16s 3 = gI qr11s 3 := Fqr16s.1 3 (by decide); have : (0 : Int) ≤ gI qr16s 2 ∧ gI qr16s 2 ≤ 1600 := hRqr16s.1 2; have : gI qr11s 3 = gI s 3 := Fqr11s.1 3 (by decide); have : (0 : Int) ≤ gI qr11s 2 ∧ gI qr11s 2 ≤ 1600 := hRqr11s.1 2; have : (0 : Int) ≤ gI s 3 ∧ gI s 3 ≤ 1600 := hRs.1 3; have : (0 : Int) ≤ gI s 2 ∧ gI s 2 ≤ 1600 := hRs.1 2; omega) (by show gI s 2 ≤ gI qr16s 2 ∧ gI qr16s 2 ≤ gI qr16s 3; have : gI qr11s 3 = gI s 3 := Fqr11s.1 3 (by decide); have : (0 : Int) ≤ gI qr11s 2 ∧ gI qr11s 2 ≤ 1600 := hRqr11s.1 2; have : (0 : Int) ≤ gI s 3 ∧ gI s 3 ≤ 1600 := hRs.1 3; have : gI qr16s 3 = gI qr11s 3 := Fqr16s.1 3 (by decide); have : (0 : Int) ≤ gI qr16s 2 ∧ gI qr16s 2 ≤ 1600 := hRqr16s.1 2; have : (0 : Int) ≤ gI s 2 ∧ gI s 2 ≤ 1600 := hRs.1 2; omega) (by show gI s 5 ≠ 0 → gI qr16s 5 ≠ 0; have : gI qr16s 3 = gI qr11s 3 := Fqr16s.1 3 (by decide); have : (0 : Int) ≤ gI qr16s 2 ∧ gI qr16s 2 ≤ 1600 := hRqr16s.1 2; have : gI qr11s 3 = gI s 3 := Fqr11s.1 3 (by decide); have : (0 : Int) ≤ gI qr11s 2 ∧ gI qr11s 2 ≤ 1600 := hRqr11s.1 2; have : (0 : Int) ≤ gI s 3 ∧ gI s 3 ≤ 1600 := hRs.1 3; have : (0 : Int) ≤ gI s 2 ∧ gI s 2 ≤ 1600 := hRs.1 2; have : gI qr16s 5 = gI qr11s 5 := Fqr16s.1 5 (by decide); have : gI qr11s 5 = gI s 5 := Fqr11s.1 5 (by decide); have : (0 : Int) ≤ gI s 5 ∧ gI s 5 ≤ 5 := hRs.1 5; omega)
  · skip
    exact J76 0 qr11s hRqr11s (by show 0 ≤ (0 : Int) ∧ (0 : Int) ≤ 5; have : gI qr11s 3 = gI s 3 := Fqr11s.1 3 (by decide); have : (0 : Int) ≤ gI qr11s 2 ∧ gI qr11s 2 ≤ 1600 := hRqr11s.1 2; have : (0 : Int) ≤ gI s 3 ∧ gI s 3 ≤ 1600 := hRs.1 3; have : (0 : Int) ≤ gI s 2 ∧ gI s 2 ≤ 1600 := hRs.1 2; omega) (by show gI s 2 ≤ gI qr11s 2 ∧ gI qr11s 2 ≤ gI qr11s 3; have : (0 : Int) ≤ gI s 3 ∧ gI s 3 ≤ 1600 := hRs.1 3; have : gI qr11s 3 = gI s 3 := Fqr11s.1 3 (by decide); have : (0 : Int) ≤ gI qr11s 2 ∧ gI qr11s 2 ≤ 1600 := hRqr11s.1 2; have : (0 : Int) ≤ gI s 2 ∧ gI s 2 ≤ 1600 := hRs.1 2; omega) (by show gI s 5 ≠ 0 → gI qr11s 5 ≠ 0; have : gI qr11s 3 = gI s 3 := Fqr11s.1 3 (by decide); have : (0 : Int) ≤ gI qr11s 2 ∧ gI qr11s 2 ≤ 1600 := hRqr11s.1 2; have : (0 : Int) ≤ gI s 3 ∧ gI s 3 ≤ 1600 := hRs.1 3; have : (0 : Int) ≤ gI s 2 ∧ gI s 2 ≤ 1600 := hRs.1 2; have : gI qr11s 5 = gI s 5 := Fqr11s.1 5 (by decide); have : (0 : Int) ≤ gI s 5 ∧ gI s 5 ≤ 5 := hRs.1 5; omega)
