/-! ===== an image ===== -/
def OC (s : MS) : Prop := ∀ j : Nat, (j : Int) < gI s 112 → (-8388609) ≤ gA s 111 j ∧ gA s 111 j ≤ 8388609
theorem OC_e {s o : MS} (H : OC s) (h1 : gI o 112 = gI s 112) (h2 : gA o 111 = gA s 111) : OC o := fun j hj => by rw [h2]; exact H j (by omega)
set_option maxHeartbeats 1000000 in
theorem w_x12_tellsByte {p0 : Int} {s : MS} (hRs : Rr s) (hp0 : gI s 112 < 1364) (hp1 : (-8388609) ≤ p0 ∧ p0 ≤ 8388609) (hp2 : OC s) : wp (m_x12_tellsByte p0 s) (fun o => (Rr o) ∧ (gI o 112 = gI s 112 + 1) ∧ (OC o)) := by
  unfold m_x12_tellsByte
  refine wp_inb (by have : (0 : Int) ≤ gI s 112 ∧ gI s 112 ≤ 1364 := hRs.1 112; omega) ?_
  refine wp_stn (fun s2 es2 => ?_)
  have hRs2 : Rr s2 := es2 ▸ Rr.uAu hRs (by show (-2147483648 : Int) ≤ p0 ∧ p0 ≤ 2147483647; have : (0 : Int) ≤ gI s 112 ∧ gI s 112 ≤ 1364 := hRs.1 112; omega)
  refine wp_stn (fun s3 es3 => ?_)
  have hRs3 : Rr s3 := es3 ▸ Rr.uI hRs2 (by show (0 : Int) ≤ ((gI s2 112) + 1) ∧ ((gI s2 112) + 1) ≤ 1364; have : (0 : Int) ≤ gI s 112 ∧ gI s 112 ≤ 1364 := hRs.1 112; have : gI s2 112 = gI s 112 := q_Ai es2; omega)
  have k3 : gI s3 112 = gI s 112 + 1 := by rw [(q_II es3 : gI s3 112 = _), ((q_Ai es2 : gI s2 112 = gI s 112))]
  exact wp_some ⟨hRs3, k3, fun j hj => by
      rw [((q_Ia es3 : gA s3 111 = gA s2 111)), (q_AA es2 : gA s2 111 = _)]
      by_cases z : j = (gI s 112).toNat
      · rw [z, upZ_s]; exact hp1
      · rw [upZ_n z]; exact hp2 j (by omega)⟩
set_option maxHeartbeats 1000000 in
theorem w_x12_tellsTwo {p0 : Int} {s : MS} (hRs : Rr s) (hp0 : gI s 112 < 1363) (hp1 : R2 p0) (hp2 : OC s) : wp (m_x12_tellsTwo p0 s) (fun o => (Rr o) ∧ (gI o 112 = gI s 112 + 2) ∧ (OC o)) := by
  have km1 := Int.natAbs_tmod p0 256
  have km2 := Nat.mod_lt p0.natAbs (show 0 < (256 : Int).natAbs by decide)
  have km3 : (256 : Int).natAbs = 256 := rfl
  have ke : 256 * Int.tdiv p0 256 + Int.tmod p0 256 = p0 := Int.mul_tdiv_add_tmod p0 256
  unfold m_x12_tellsTwo
  refine wp_dv (by have : (0 : Int) ≤ gI s 112 ∧ gI s 112 ≤ 1364 := hRs.1 112; omega) ?_
  refine wp_bn (w_x12_tellsByte hRs (by show gI s 112 < 1364; have : (0 : Int) ≤ gI s 112 ∧ gI s 112 ≤ 1364 := hRs.1 112; omega) (by show (-8388609) ≤ (Int.tdiv p0 256) ∧ (Int.tdiv p0 256) ≤ 8388609; have : (0 : Int) ≤ gI s 112 ∧ gI s 112 ≤ 1364 := hRs.1 112; omega) (hp2)) (fun s3 es3 hs3 => ?_)
  have Fs3 : F_x12_tellsByte s s3 := fr_x12_tellsByte es3
  obtain ⟨hRs3, hs3_0, hs3_1⟩ := hs3
  have hs3_0 : gI s3 112 = gI s 112 + 1 := hs3_0
  have hs3_1 : OC s3 := hs3_1
  refine wp_dv (by have : (0 : Int) ≤ gI s3 112 ∧ gI s3 112 ≤ 1364 := hRs3.1 112; have : (0 : Int) ≤ gI s 112 ∧ gI s 112 ≤ 1364 := hRs.1 112; omega) ?_
  refine wp_bn (w_x12_tellsByte hRs3 (by show gI s3 112 < 1364; have : (0 : Int) ≤ gI s 112 ∧ gI s 112 ≤ 1364 := hRs.1 112; have : (0 : Int) ≤ gI s3 112 ∧ gI s3 112 ≤ 1364 := hRs3.1 112; omega) (by show (-8388609) ≤ (Int.tmod p0 256) ∧ (Int.tmod p0 256) ≤ 8388609; have : (0 : Int) ≤ gI s3 112 ∧ gI s3 112 ≤ 1364 := hRs3.1 112; have : (0 : Int) ≤ gI s 112 ∧ gI s 112 ≤ 1364 := hRs.1 112; omega) (hs3_1)) (fun s6 es6 hs6 => ?_)
  have Fs6 : F_x12_tellsByte s3 s6 := fr_x12_tellsByte es6
  obtain ⟨hRs6, hs6_0, hs6_1⟩ := hs6
  have hs6_0 : gI s6 112 = gI s3 112 + 1 := hs6_0
  have hs6_1 : OC s6 := hs6_1
  exact wp_some ⟨hRs6, by show gI s6 112 = gI s 112 + 2; have : (0 : Int) ≤ gI s3 112 ∧ gI s3 112 ≤ 1364 := hRs3.1 112; have : (0 : Int) ≤ gI s 112 ∧ gI s 112 ≤ 1364 := hRs.1 112; have : (0 : Int) ≤ gI s6 112 ∧ gI s6 112 ≤ 1364 := hRs6.1 112; omega, hs6_1⟩
set_option maxHeartbeats 1000000 in
theorem w_x12_writesBlock {p0 : Int} {s : MS} (hRs : Rr s) (hp0 : 0 ≤ p0 ∧ p0 < 48) (hp1 : RT s) (hp2 : gI s 112 ≤ 1336) (hp3 : OC s) : wp (m_x12_writesBlock p0 s) (fun o => (Rr o) ∧ (gI o 112 ≤ gI s 112 + 28) ∧ (OC o) ∧ (gA o 49 = gA s 49)) := by
  have bd := RT_bd hp1 (b := p0.toNat) (by omega)
  have sz := RT_sz hp1 (b := p0.toNat) (by omega)
  unfold m_x12_writesBlock
  refine wp_bn (w_x12_countOf hRs (by show 0 ≤ p0 ∧ p0 < 48; have : (0 : Int) ≤ gI s 112 ∧ gI s 112 ≤ 1364 := hRs.1 112; omega)) (fun r18 er18 hr18 => ?_)
  obtain ⟨hr18_0, hr18_1⟩ := hr18
  have hr18_0 : r18 = cM s p0.toNat := hr18_0
  have hr18_1 : R2 r18 := hr18_1
  refine wp_bn (w_x12_tellsByte hRs (by show gI s 112 < 1364; have : (0 : Int) ≤ gI s 112 ∧ gI s 112 ≤ 1364 := hRs.1 112; omega) (by show (-8388609) ≤ r18 ∧ r18 ≤ 8388609; have : (0 : Int) ≤ gI s 112 ∧ gI s 112 ≤ 1364 := hRs.1 112; omega) (hp3)) (fun s20 es20 hs20 => ?_)
  have Fs20 : F_x12_tellsByte s s20 := fr_x12_tellsByte es20
  obtain ⟨hRs20, hs20_0, hs20_1⟩ := hs20
  have hs20_0 : gI s20 112 = gI s 112 + 1 := hs20_0
  have hs20_1 : OC s20 := hs20_1
  have e20 := eq49 ((Fs20.2.1 49 (by decide)) : gA s20 49 = gA s 49)
  refine wp_bn (w_x12_savedOf hRs20 (by show 0 ≤ p0 ∧ p0 < 48; have : (0 : Int) ≤ gI s20 112 ∧ gI s20 112 ≤ 1364 := hRs20.1 112; have : (0 : Int) ≤ gI s 112 ∧ gI s 112 ≤ 1364 := hRs.1 112; omega)) (fun r22 er22 hr22 => ?_)
  obtain ⟨hr22_0, hr22_1⟩ := hr22
  have hr22_0 : r22 = vM s20 p0.toNat := hr22_0
  have hr22_1 : R2 r22 := hr22_1
  rw [e20.2.2.2] at hr22_0
  refine wp_bn (w_x12_tellsByte hRs20 (by show gI s20 112 < 1364; have : (0 : Int) ≤ gI s 112 ∧ gI s 112 ≤ 1364 := hRs.1 112; have : (0 : Int) ≤ gI s20 112 ∧ gI s20 112 ≤ 1364 := hRs20.1 112; omega) (by show (-8388609) ≤ r22 ∧ r22 ≤ 8388609; have : (0 : Int) ≤ gI s20 112 ∧ gI s20 112 ≤ 1364 := hRs20.1 112; have : (0 : Int) ≤ gI s 112 ∧ gI s 112 ≤ 1364 := hRs.1 112; omega) (hs20_1)) (fun s24 es24 hs24 => ?_)
  have Fs24 : F_x12_tellsByte s20 s24 := fr_x12_tellsByte es24
  obtain ⟨hRs24, hs24_0, hs24_1⟩ := hs24
  have hs24_0 : gI s24 112 = gI s20 112 + 1 := hs24_0
  have hs24_1 : OC s24 := hs24_1
  have e24 := eq49 (((Fs24.2.1 49 (by decide)).trans (Fs20.2.1 49 (by decide))) : gA s24 49 = gA s 49)
  refine wp_bn (w_x12_isThere hRs24 (by show 0 ≤ p0 ∧ p0 < 48; have : (0 : Int) ≤ gI s24 112 ∧ gI s24 112 ≤ 1364 := hRs24.1 112; have : (0 : Int) ≤ gI s20 112 ∧ gI s20 112 ≤ 1364 := hRs20.1 112; have : (0 : Int) ≤ gI s 112 ∧ gI s 112 ≤ 1364 := hRs.1 112; omega)) (fun r26 er26 hr26 => ?_)
  have hr26_0 := hr26
  have hr26_0 : (r26 = 1 ∧ (0 < cM s24 p0.toNat ∨ 0 < vM s24 p0.toNat)) ∨ (r26 = 0 ∧ cM s24 p0.toNat ≤ 0 ∧ vM s24 p0.toNat ≤ 0) := hr26_0
  rw [e24.2.2.1, e24.2.2.2] at hr26_0
  refine wp_rg (by have : (0 : Int) ≤ gI s24 112 ∧ gI s24 112 ≤ 1364 := hRs24.1 112; have : (0 : Int) ≤ gI s20 112 ∧ gI s20 112 ≤ 1364 := hRs20.1 112; have : (0 : Int) ≤ gI s 112 ∧ gI s 112 ≤ 1364 := hRs.1 112; omega) ?_
  refine wp_if (fun c1 => ?_) (fun c1 => ?_)
  · skip
    exact wp_some ⟨hRs24, by show gI s24 112 ≤ gI s 112 + 28; have : (0 : Int) ≤ gI s20 112 ∧ gI s20 112 ≤ 1364 := hRs20.1 112; have : (0 : Int) ≤ gI s 112 ∧ gI s 112 ≤ 1364 := hRs.1 112; have : (0 : Int) ≤ gI s24 112 ∧ gI s24 112 ≤ 1364 := hRs24.1 112; omega, hs24_1, ((Fs24.2.1 49 (by decide)).trans (Fs20.2.1 49 (by decide)))⟩
  · skip
    refine wp_bn (w_x12_levelOf hRs24 (by show 0 ≤ p0 ∧ p0 < 48; have : (0 : Int) ≤ gI s24 112 ∧ gI s24 112 ≤ 1364 := hRs24.1 112; have : (0 : Int) ≤ gI s20 112 ∧ gI s20 112 ≤ 1364 := hRs20.1 112; have : (0 : Int) ≤ gI s 112 ∧ gI s 112 ≤ 1364 := hRs.1 112; omega)) (fun r30 er30 hr30 => ?_)
    obtain ⟨hr30_0, hr30_1⟩ := hr30
    have hr30_0 : r30 = (hM s24).1 p0.toNat := hr30_0
    have hr30_1 : R2 r30 := hr30_1
    rw [e24.1] at hr30_0
    have kd := DW_nd hp1 (b := p0.toNat) (by omega) (by unfold DW; omega)
    refine wp_bn (w_x12_tellsByte hRs24 (by show gI s24 112 < 1364; have : (0 : Int) ≤ gI s20 112 ∧ gI s20 112 ≤ 1364 := hRs20.1 112; have : (0 : Int) ≤ gI s 112 ∧ gI s 112 ≤ 1364 := hRs.1 112; have : (0 : Int) ≤ gI s24 112 ∧ gI s24 112 ≤ 1364 := hRs24.1 112; omega) (by show (-8388609) ≤ r30 ∧ r30 ≤ 8388609; have : (0 : Int) ≤ gI s24 112 ∧ gI s24 112 ≤ 1364 := hRs24.1 112; have : (0 : Int) ≤ gI s20 112 ∧ gI s20 112 ≤ 1364 := hRs20.1 112; have : (0 : Int) ≤ gI s 112 ∧ gI s 112 ≤ 1364 := hRs.1 112; omega) (hs24_1)) (fun s32 es32 hs32 => ?_)
    have Fs32 : F_x12_tellsByte s24 s32 := fr_x12_tellsByte es32
    obtain ⟨hRs32, hs32_0, hs32_1⟩ := hs32
    have hs32_0 : gI s32 112 = gI s24 112 + 1 := hs32_0
    have hs32_1 : OC s32 := hs32_1
    have e32 := eq49 (((Fs32.2.1 49 (by decide)).trans ((Fs24.2.1 49 (by decide)).trans (Fs20.2.1 49 (by decide)))) : gA s32 49 = gA s 49)
    refine wp_bn (w_x12_entriesOf hRs32 (by show 0 ≤ p0 ∧ p0 < 48; have : (0 : Int) ≤ gI s32 112 ∧ gI s32 112 ≤ 1364 := hRs32.1 112; have : (0 : Int) ≤ gI s24 112 ∧ gI s24 112 ≤ 1364 := hRs24.1 112; have : (0 : Int) ≤ gI s20 112 ∧ gI s20 112 ≤ 1364 := hRs20.1 112; have : (0 : Int) ≤ gI s 112 ∧ gI s 112 ≤ 1364 := hRs.1 112; omega)) (fun r34 er34 hr34 => ?_)
    obtain ⟨hr34_0, hr34_1⟩ := hr34
    have hr34_0 : r34 = (hM s32).2.1 p0.toNat := hr34_0
    have hr34_1 : R2 r34 := hr34_1
    rw [e32.1] at hr34_0
    refine wp_bn (w_x12_tellsByte hRs32 (by show gI s32 112 < 1364; have : (0 : Int) ≤ gI s24 112 ∧ gI s24 112 ≤ 1364 := hRs24.1 112; have : (0 : Int) ≤ gI s20 112 ∧ gI s20 112 ≤ 1364 := hRs20.1 112; have : (0 : Int) ≤ gI s 112 ∧ gI s 112 ≤ 1364 := hRs.1 112; have : (0 : Int) ≤ gI s32 112 ∧ gI s32 112 ≤ 1364 := hRs32.1 112; omega) (by show (-8388609) ≤ r34 ∧ r34 ≤ 8388609; have : (0 : Int) ≤ gI s32 112 ∧ gI s32 112 ≤ 1364 := hRs32.1 112; have : (0 : Int) ≤ gI s24 112 ∧ gI s24 112 ≤ 1364 := hRs24.1 112; have : (0 : Int) ≤ gI s20 112 ∧ gI s20 112 ≤ 1364 := hRs20.1 112; have : (0 : Int) ≤ gI s 112 ∧ gI s 112 ≤ 1364 := hRs.1 112; omega) (hs32_1)) (fun s36 es36 hs36 => ?_)
    have Fs36 : F_x12_tellsByte s32 s36 := fr_x12_tellsByte es36
    obtain ⟨hRs36, hs36_0, hs36_1⟩ := hs36
    have hs36_0 : gI s36 112 = gI s32 112 + 1 := hs36_0
    have hs36_1 : OC s36 := hs36_1
    have L47 : ∀ (n : Nat) (x1 : Int) (x2 : Int) (s3 : MS), Rr s3 → (x1 = p0) → (0 ≤ x2 ∧ x2 ≤ (hM s).2.1 p0.toNat) → (gI s3 112 = gI s 112 + 4 + 4 * x2) → (OC s3) → (gA s3 49 = gA s 49) → (6 - x2) < (n : Int) → wp (m_x12_writesBlock_L47 n x1 x2 s3) (fun o => (Rr o) ∧ (gI o 112 ≤ gI s 112 + 28) ∧ (OC o) ∧ (gA o 49 = gA s 49)) := by
      refine fr_ind (fun x1 x2 s3 hRs3 hv47_0 hv47_1 hv47_2 hv47_3 hv47_4 hm47 => ?_) (fun n47 ih47 x1 x2 s3 hRs3 hv47_0 hv47_1 hv47_2 hv47_3 hv47_4 hm47 => ?_)
      · exfalso; have : (0 : Int) ≤ gI s 112 ∧ gI s 112 ≤ 1364 := hRs.1 112; have : (0 : Int) ≤ gI s3 112 ∧ gI s3 112 ≤ 1364 := hRs3.1 112; omega
      · show wp (m_x12_writesBlock_b47 (m_x12_writesBlock_L47 n47) x1 x2 s3) _
        unfold m_x12_writesBlock_b47
        have e3 := eq49 hv47_4
        have e0 : x1 = p0 := hv47_0
        refine wp_bn (w_x12_entriesOf hRs3 (by show 0 ≤ x1 ∧ x1 < 48; have : (0 : Int) ≤ gI s3 112 ∧ gI s3 112 ≤ 1364 := hRs3.1 112; have : (0 : Int) ≤ gI s36 112 ∧ gI s36 112 ≤ 1364 := hRs36.1 112; have : (0 : Int) ≤ gI s32 112 ∧ gI s32 112 ≤ 1364 := hRs32.1 112; have : (0 : Int) ≤ gI s24 112 ∧ gI s24 112 ≤ 1364 := hRs24.1 112; have : (0 : Int) ≤ gI s20 112 ∧ gI s20 112 ≤ 1364 := hRs20.1 112; have : (0 : Int) ≤ gI s 112 ∧ gI s 112 ≤ 1364 := hRs.1 112; omega)) (fun r5 er5 hr5 => ?_)
        obtain ⟨hr5_0, hr5_1⟩ := hr5
        have hr5_0 : r5 = (hM s3).2.1 x1.toNat := hr5_0
        have hr5_1 : R2 r5 := hr5_1
        rw [e3.1, e0] at hr5_0
        refine wp_rg (by have : (0 : Int) ≤ gI s3 112 ∧ gI s3 112 ≤ 1364 := hRs3.1 112; have : (0 : Int) ≤ gI s36 112 ∧ gI s36 112 ≤ 1364 := hRs36.1 112; have : (0 : Int) ≤ gI s32 112 ∧ gI s32 112 ≤ 1364 := hRs32.1 112; have : (0 : Int) ≤ gI s24 112 ∧ gI s24 112 ≤ 1364 := hRs24.1 112; have : (0 : Int) ≤ gI s20 112 ∧ gI s20 112 ≤ 1364 := hRs20.1 112; have : (0 : Int) ≤ gI s 112 ∧ gI s 112 ≤ 1364 := hRs.1 112; omega) ?_
        refine wp_rg (by have : (0 : Int) ≤ gI s3 112 ∧ gI s3 112 ≤ 1364 := hRs3.1 112; have : (0 : Int) ≤ gI s36 112 ∧ gI s36 112 ≤ 1364 := hRs36.1 112; have : (0 : Int) ≤ gI s32 112 ∧ gI s32 112 ≤ 1364 := hRs32.1 112; have : (0 : Int) ≤ gI s24 112 ∧ gI s24 112 ≤ 1364 := hRs24.1 112; have : (0 : Int) ≤ gI s20 112 ∧ gI s20 112 ≤ 1364 := hRs20.1 112; have : (0 : Int) ≤ gI s 112 ∧ gI s 112 ≤ 1364 := hRs.1 112; omega) ?_
        refine wp_if (fun c2 => ?_) (fun c2 => ?_)
        · skip
          exact wp_some ⟨hRs3, by show gI s3 112 ≤ gI s 112 + 28; have : (0 : Int) ≤ gI s36 112 ∧ gI s36 112 ≤ 1364 := hRs36.1 112; have : (0 : Int) ≤ gI s32 112 ∧ gI s32 112 ≤ 1364 := hRs32.1 112; have : (0 : Int) ≤ gI s24 112 ∧ gI s24 112 ≤ 1364 := hRs24.1 112; have : (0 : Int) ≤ gI s20 112 ∧ gI s20 112 ≤ 1364 := hRs20.1 112; have : (0 : Int) ≤ gI s 112 ∧ gI s 112 ≤ 1364 := hRs.1 112; have : (0 : Int) ≤ gI s3 112 ∧ gI s3 112 ≤ 1364 := hRs3.1 112; omega, hv47_3, hv47_4⟩
        · skip
          refine wp_bn (w_x12_keyAt hRs3 (by show 0 ≤ x1 ∧ x1 < 48; have : (0 : Int) ≤ gI s3 112 ∧ gI s3 112 ≤ 1364 := hRs3.1 112; have : (0 : Int) ≤ gI s36 112 ∧ gI s36 112 ≤ 1364 := hRs36.1 112; have : (0 : Int) ≤ gI s32 112 ∧ gI s32 112 ≤ 1364 := hRs32.1 112; have : (0 : Int) ≤ gI s24 112 ∧ gI s24 112 ≤ 1364 := hRs24.1 112; have : (0 : Int) ≤ gI s20 112 ∧ gI s20 112 ≤ 1364 := hRs20.1 112; have : (0 : Int) ≤ gI s 112 ∧ gI s 112 ≤ 1364 := hRs.1 112; omega) (by show 0 ≤ x2 ∧ x2 < 6; have : (0 : Int) ≤ gI s3 112 ∧ gI s3 112 ≤ 1364 := hRs3.1 112; have : (0 : Int) ≤ gI s36 112 ∧ gI s36 112 ≤ 1364 := hRs36.1 112; have : (0 : Int) ≤ gI s32 112 ∧ gI s32 112 ≤ 1364 := hRs32.1 112; have : (0 : Int) ≤ gI s24 112 ∧ gI s24 112 ≤ 1364 := hRs24.1 112; have : (0 : Int) ≤ gI s20 112 ∧ gI s20 112 ≤ 1364 := hRs20.1 112; have : (0 : Int) ≤ gI s 112 ∧ gI s 112 ≤ 1364 := hRs.1 112; omega)) (fun r10 er10 hr10 => ?_)
          obtain ⟨hr10_0, hr10_1⟩ := hr10
          have hr10_0 : r10 = kM s3 x1.toNat x2.toNat := hr10_0
          have hr10_1 : R2 r10 := hr10_1
          refine wp_bn (w_x12_tellsTwo hRs3 (by show gI s3 112 < 1363; have : (0 : Int) ≤ gI s36 112 ∧ gI s36 112 ≤ 1364 := hRs36.1 112; have : (0 : Int) ≤ gI s32 112 ∧ gI s32 112 ≤ 1364 := hRs32.1 112; have : (0 : Int) ≤ gI s24 112 ∧ gI s24 112 ≤ 1364 := hRs24.1 112; have : (0 : Int) ≤ gI s20 112 ∧ gI s20 112 ≤ 1364 := hRs20.1 112; have : (0 : Int) ≤ gI s 112 ∧ gI s 112 ≤ 1364 := hRs.1 112; have : (0 : Int) ≤ gI s3 112 ∧ gI s3 112 ≤ 1364 := hRs3.1 112; omega) (by show R2 r10; have : (0 : Int) ≤ gI s3 112 ∧ gI s3 112 ≤ 1364 := hRs3.1 112; have : (0 : Int) ≤ gI s36 112 ∧ gI s36 112 ≤ 1364 := hRs36.1 112; have : (0 : Int) ≤ gI s32 112 ∧ gI s32 112 ≤ 1364 := hRs32.1 112; have : (0 : Int) ≤ gI s24 112 ∧ gI s24 112 ≤ 1364 := hRs24.1 112; have : (0 : Int) ≤ gI s20 112 ∧ gI s20 112 ≤ 1364 := hRs20.1 112; have : (0 : Int) ≤ gI s 112 ∧ gI s 112 ≤ 1364 := hRs.1 112; omega) (hv47_3)) (fun s12 es12 hs12 => ?_)
          have Fs12 : F_x12_tellsTwo s3 s12 := fr_x12_tellsTwo es12
          obtain ⟨hRs12, hs12_0, hs12_1⟩ := hs12
          have hs12_0 : gI s12 112 = gI s3 112 + 2 := hs12_0
          have hs12_1 : OC s12 := hs12_1
          refine wp_bn (w_x12_valueAt hRs12 (by show 0 ≤ x1 ∧ x1 < 48; have : (0 : Int) ≤ gI s12 112 ∧ gI s12 112 ≤ 1364 := hRs12.1 112; have : (0 : Int) ≤ gI s3 112 ∧ gI s3 112 ≤ 1364 := hRs3.1 112; have : (0 : Int) ≤ gI s36 112 ∧ gI s36 112 ≤ 1364 := hRs36.1 112; have : (0 : Int) ≤ gI s32 112 ∧ gI s32 112 ≤ 1364 := hRs32.1 112; have : (0 : Int) ≤ gI s24 112 ∧ gI s24 112 ≤ 1364 := hRs24.1 112; have : (0 : Int) ≤ gI s20 112 ∧ gI s20 112 ≤ 1364 := hRs20.1 112; have : (0 : Int) ≤ gI s 112 ∧ gI s 112 ≤ 1364 := hRs.1 112; omega) (by show 0 ≤ x2 ∧ x2 < 6; have : (0 : Int) ≤ gI s12 112 ∧ gI s12 112 ≤ 1364 := hRs12.1 112; have : (0 : Int) ≤ gI s3 112 ∧ gI s3 112 ≤ 1364 := hRs3.1 112; have : (0 : Int) ≤ gI s36 112 ∧ gI s36 112 ≤ 1364 := hRs36.1 112; have : (0 : Int) ≤ gI s32 112 ∧ gI s32 112 ≤ 1364 := hRs32.1 112; have : (0 : Int) ≤ gI s24 112 ∧ gI s24 112 ≤ 1364 := hRs24.1 112; have : (0 : Int) ≤ gI s20 112 ∧ gI s20 112 ≤ 1364 := hRs20.1 112; have : (0 : Int) ≤ gI s 112 ∧ gI s 112 ≤ 1364 := hRs.1 112; omega)) (fun r14 er14 hr14 => ?_)
          obtain ⟨hr14_0, hr14_1⟩ := hr14
          have hr14_0 : r14 = (hM s12).2.2 x1.toNat x2.toNat := hr14_0
          have hr14_1 : R2 r14 := hr14_1
          refine wp_bn (w_x12_tellsTwo hRs12 (by show gI s12 112 < 1363; have : (0 : Int) ≤ gI s3 112 ∧ gI s3 112 ≤ 1364 := hRs3.1 112; have : (0 : Int) ≤ gI s36 112 ∧ gI s36 112 ≤ 1364 := hRs36.1 112; have : (0 : Int) ≤ gI s32 112 ∧ gI s32 112 ≤ 1364 := hRs32.1 112; have : (0 : Int) ≤ gI s24 112 ∧ gI s24 112 ≤ 1364 := hRs24.1 112; have : (0 : Int) ≤ gI s20 112 ∧ gI s20 112 ≤ 1364 := hRs20.1 112; have : (0 : Int) ≤ gI s 112 ∧ gI s 112 ≤ 1364 := hRs.1 112; have : (0 : Int) ≤ gI s12 112 ∧ gI s12 112 ≤ 1364 := hRs12.1 112; omega) (by show R2 r14; have : (0 : Int) ≤ gI s12 112 ∧ gI s12 112 ≤ 1364 := hRs12.1 112; have : (0 : Int) ≤ gI s3 112 ∧ gI s3 112 ≤ 1364 := hRs3.1 112; have : (0 : Int) ≤ gI s36 112 ∧ gI s36 112 ≤ 1364 := hRs36.1 112; have : (0 : Int) ≤ gI s32 112 ∧ gI s32 112 ≤ 1364 := hRs32.1 112; have : (0 : Int) ≤ gI s24 112 ∧ gI s24 112 ≤ 1364 := hRs24.1 112; have : (0 : Int) ≤ gI s20 112 ∧ gI s20 112 ≤ 1364 := hRs20.1 112; have : (0 : Int) ≤ gI s 112 ∧ gI s 112 ≤ 1364 := hRs.1 112; omega) (hs12_1)) (fun s16 es16 hs16 => ?_)
          have Fs16 : F_x12_tellsTwo s12 s16 := fr_x12_tellsTwo es16
          obtain ⟨hRs16, hs16_0, hs16_1⟩ := hs16
          have hs16_0 : gI s16 112 = gI s12 112 + 2 := hs16_0
          have hs16_1 : OC s16 := hs16_1
          exact ih47 x1 (x2 + 1) s16 hRs16 (by show x1 = p0; have : (0 : Int) ≤ gI s16 112 ∧ gI s16 112 ≤ 1364 := hRs16.1 112; have : (0 : Int) ≤ gI s12 112 ∧ gI s12 112 ≤ 1364 := hRs12.1 112; have : (0 : Int) ≤ gI s3 112 ∧ gI s3 112 ≤ 1364 := hRs3.1 112; have : (0 : Int) ≤ gI s36 112 ∧ gI s36 112 ≤ 1364 := hRs36.1 112; have : (0 : Int) ≤ gI s32 112 ∧ gI s32 112 ≤ 1364 := hRs32.1 112; have : (0 : Int) ≤ gI s24 112 ∧ gI s24 112 ≤ 1364 := hRs24.1 112; have : (0 : Int) ≤ gI s20 112 ∧ gI s20 112 ≤ 1364 := hRs20.1 112; have : (0 : Int) ≤ gI s 112 ∧ gI s 112 ≤ 1364 := hRs.1 112; omega) (by show 0 ≤ (x2 + 1) ∧ (x2 + 1) ≤ (hM s).2.1 p0.toNat; have : (0 : Int) ≤ gI s16 112 ∧ gI s16 112 ≤ 1364 := hRs16.1 112; have : (0 : Int) ≤ gI s12 112 ∧ gI s12 112 ≤ 1364 := hRs12.1 112; have : (0 : Int) ≤ gI s3 112 ∧ gI s3 112 ≤ 1364 := hRs3.1 112; have : (0 : Int) ≤ gI s36 112 ∧ gI s36 112 ≤ 1364 := hRs36.1 112; have : (0 : Int) ≤ gI s32 112 ∧ gI s32 112 ≤ 1364 := hRs32.1 112; have : (0 : Int) ≤ gI s24 112 ∧ gI s24 112 ≤ 1364 := hRs24.1 112; have : (0 : Int) ≤ gI s20 112 ∧ gI s20 112 ≤ 1364 := hRs20.1 112; have : (0 : Int) ≤ gI s 112 ∧ gI s 112 ≤ 1364 := hRs.1 112; omega) (by show gI s16 112 = gI s 112 + 4 + 4 * (x2 + 1); have : (0 : Int) ≤ gI s12 112 ∧ gI s12 112 ≤ 1364 := hRs12.1 112; have : (0 : Int) ≤ gI s3 112 ∧ gI s3 112 ≤ 1364 := hRs3.1 112; have : (0 : Int) ≤ gI s36 112 ∧ gI s36 112 ≤ 1364 := hRs36.1 112; have : (0 : Int) ≤ gI s32 112 ∧ gI s32 112 ≤ 1364 := hRs32.1 112; have : (0 : Int) ≤ gI s24 112 ∧ gI s24 112 ≤ 1364 := hRs24.1 112; have : (0 : Int) ≤ gI s20 112 ∧ gI s20 112 ≤ 1364 := hRs20.1 112; have : (0 : Int) ≤ gI s 112 ∧ gI s 112 ≤ 1364 := hRs.1 112; have : (0 : Int) ≤ gI s16 112 ∧ gI s16 112 ≤ 1364 := hRs16.1 112; omega) (hs16_1) ((((Fs16.2.1 49 (by decide)).trans (Fs12.2.1 49 (by decide)))).trans hv47_4) (by have : (0 : Int) ≤ gI s16 112 ∧ gI s16 112 ≤ 1364 := hRs16.1 112; have : (0 : Int) ≤ gI s12 112 ∧ gI s12 112 ≤ 1364 := hRs12.1 112; have : (0 : Int) ≤ gI s3 112 ∧ gI s3 112 ≤ 1364 := hRs3.1 112; have : (0 : Int) ≤ gI s36 112 ∧ gI s36 112 ≤ 1364 := hRs36.1 112; have : (0 : Int) ≤ gI s32 112 ∧ gI s32 112 ≤ 1364 := hRs32.1 112; have : (0 : Int) ≤ gI s24 112 ∧ gI s24 112 ≤ 1364 := hRs24.1 112; have : (0 : Int) ≤ gI s20 112 ∧ gI s20 112 ≤ 1364 := hRs20.1 112; have : (0 : Int) ≤ gI s 112 ∧ gI s 112 ≤ 1364 := hRs.1 112; omega)
    exact L47 FU p0 0 s36 hRs36 (by show p0 = p0; have : (0 : Int) ≤ gI s36 112 ∧ gI s36 112 ≤ 1364 := hRs36.1 112; have : (0 : Int) ≤ gI s32 112 ∧ gI s32 112 ≤ 1364 := hRs32.1 112; have : (0 : Int) ≤ gI s24 112 ∧ gI s24 112 ≤ 1364 := hRs24.1 112; have : (0 : Int) ≤ gI s20 112 ∧ gI s20 112 ≤ 1364 := hRs20.1 112; have : (0 : Int) ≤ gI s 112 ∧ gI s 112 ≤ 1364 := hRs.1 112; omega) (by show 0 ≤ (0 : Int) ∧ (0 : Int) ≤ (hM s).2.1 p0.toNat; have : (0 : Int) ≤ gI s36 112 ∧ gI s36 112 ≤ 1364 := hRs36.1 112; have : (0 : Int) ≤ gI s32 112 ∧ gI s32 112 ≤ 1364 := hRs32.1 112; have : (0 : Int) ≤ gI s24 112 ∧ gI s24 112 ≤ 1364 := hRs24.1 112; have : (0 : Int) ≤ gI s20 112 ∧ gI s20 112 ≤ 1364 := hRs20.1 112; have : (0 : Int) ≤ gI s 112 ∧ gI s 112 ≤ 1364 := hRs.1 112; omega) (by show gI s36 112 = gI s 112 + 4 + 4 * (0 : Int); have : (0 : Int) ≤ gI s32 112 ∧ gI s32 112 ≤ 1364 := hRs32.1 112; have : (0 : Int) ≤ gI s24 112 ∧ gI s24 112 ≤ 1364 := hRs24.1 112; have : (0 : Int) ≤ gI s20 112 ∧ gI s20 112 ≤ 1364 := hRs20.1 112; have : (0 : Int) ≤ gI s 112 ∧ gI s 112 ≤ 1364 := hRs.1 112; have : (0 : Int) ≤ gI s36 112 ∧ gI s36 112 ≤ 1364 := hRs36.1 112; omega) (hs36_1) (((Fs36.2.1 49 (by decide)).trans ((Fs32.2.1 49 (by decide)).trans ((Fs24.2.1 49 (by decide)).trans (Fs20.2.1 49 (by decide)))))) (by have := FU_big; have := FU_big2; have : (0 : Int) ≤ gI s36 112 ∧ gI s36 112 ≤ 1364 := hRs36.1 112; have : (0 : Int) ≤ gI s32 112 ∧ gI s32 112 ≤ 1364 := hRs32.1 112; have : (0 : Int) ≤ gI s24 112 ∧ gI s24 112 ≤ 1364 := hRs24.1 112; have : (0 : Int) ≤ gI s20 112 ∧ gI s20 112 ≤ 1364 := hRs20.1 112; have : (0 : Int) ≤ gI s 112 ∧ gI s 112 ≤ 1364 := hRs.1 112; omega)
set_option maxHeartbeats 1000000 in
theorem w_x12_rootTold {p0 : Int} {s : MS} (hRs : Rr s) (hp0 : 0 ≤ p0 ∧ p0 < 16) (hp1 : JI s) : wp (m_x12_rootTold p0 s) (fun r => (0 ≤ r ∧ r ≤ 255)) := by
  unfold m_x12_rootTold
  refine wp_rg (by have : (0 : Int) ≤ gI s 47 ∧ gI s 47 ≤ 1 := hRs.1 47; omega) ?_
  refine wp_if (fun c1 => ?_) (fun c1 => ?_)
  · skip
    unfold m_x12_rootTold_J19
    exact wp_some (by show 0 ≤ (255 : Int) ∧ (255 : Int) ≤ 255; have : (0 : Int) ≤ gI s 47 ∧ gI s 47 ≤ 1 := hRs.1 47; omega)
  · skip
    refine wp_rdIn (by have : (0 : Int) ≤ gI s 47 ∧ gI s 47 ≤ 1 := hRs.1 47; omega) (fun y4 ey4 => ?_)
    have by4 : (-2147483648 : Int) ≤ y4 ∧ y4 ≤ 2147483647 := ey4 ▸ hRs.2.1 49 _ (by show _ < 906; have : (0 : Int) ≤ gI s 47 ∧ gI s 47 ≤ 1 := hRs.1 47; omega)
    have kb := (JI_GA hp1 (by assumption)).1.1.2 p0.toNat (by omega)
    rw [ey4] at kb
    unfold m_x12_rootTold_J19
    exact wp_some (by show 0 ≤ y4 ∧ y4 ≤ 255; have : (0 : Int) ≤ gI s 47 ∧ gI s 47 ≤ 1 := hRs.1 47; omega)
set_option maxHeartbeats 1000000 in
theorem w_x12_checked {p1 : Int} {s : MS} (hRs : Rr s) (hp0 : 0 ≤ p1 ∧ p1 ≤ 1364) (hp1 : p1 ≤ gI s 112) (hp2 : OC s) : wp (m_x12_checked p1 s) (fun r => ((-251) ≤ r ∧ r ≤ 251)) := by
  unfold m_x12_checked
  have L6 : ∀ (n : Nat) (x1 : Int) (x2 : Int) (x3 : Int), (x1 = p1) → ((-251) ≤ x2 ∧ x2 ≤ 251) → (0 ≤ x3 ∧ x3 ≤ p1) → (p1 - x3) < (n : Int) → wp (m_x12_checked_L6 s n x1 x2 x3) (fun r => ((-251) ≤ r ∧ r ≤ 251)) := by
    refine fr_ind (fun x1 x2 x3 hv6_0 hv6_1 hv6_2 hm6 => ?_) (fun n6 ih6 x1 x2 x3 hv6_0 hv6_1 hv6_2 hm6 => ?_)
    · exfalso; omega
    · show wp (m_x12_checked_b6 s (m_x12_checked_L6 s n6) x1 x2 x3) _
      unfold m_x12_checked_b6
      refine wp_rg (by have : (0 : Int) ≤ gI s 112 ∧ gI s 112 ≤ 1364 := hRs.1 112; omega) ?_
      refine wp_rg (by have : (0 : Int) ≤ gI s 112 ∧ gI s 112 ≤ 1364 := hRs.1 112; omega) ?_
      refine wp_if (fun c1 => ?_) (fun c1 => ?_)
      · skip
        exact wp_some (by show (-251) ≤ x2 ∧ x2 ≤ 251; have : (0 : Int) ≤ gI s 112 ∧ gI s 112 ≤ 1364 := hRs.1 112; omega)
      · skip
        refine wp_rdIn (by have : (0 : Int) ≤ gI s 112 ∧ gI s 112 ≤ 1364 := hRs.1 112; omega) (fun y7 ey7 => ?_)
        have by7 : (-2147483648 : Int) ≤ y7 ∧ y7 ≤ 2147483647 := ey7 ▸ hRs.2.1 111 _ (by show _ < 1364; have : (0 : Int) ≤ gI s 112 ∧ gI s 112 ≤ 1364 := hRs.1 112; omega)
        have k7 := hp2 x3.toNat (by omega)
        rw [ey7] at k7
        have km1 := Int.natAbs_tmod (3 * x2 + y7) 251
        have km2 := Nat.mod_lt (3 * x2 + y7).natAbs (show 0 < (251 : Int).natAbs by decide)
        have km3 : (251 : Int).natAbs = 251 := rfl
        refine wp_dv (by have : (0 : Int) ≤ gI s 112 ∧ gI s 112 ≤ 1364 := hRs.1 112; omega) ?_
        exact ih6 x1 (Int.tmod ((3 * x2) + y7) 251) (x3 + 1) (by show x1 = p1; have : (0 : Int) ≤ gI s 112 ∧ gI s 112 ≤ 1364 := hRs.1 112; omega) (by show (-251) ≤ (Int.tmod ((3 * x2) + y7) 251) ∧ (Int.tmod ((3 * x2) + y7) 251) ≤ 251; have : (0 : Int) ≤ gI s 112 ∧ gI s 112 ≤ 1364 := hRs.1 112; omega) (by show 0 ≤ (x3 + 1) ∧ (x3 + 1) ≤ p1; have : (0 : Int) ≤ gI s 112 ∧ gI s 112 ≤ 1364 := hRs.1 112; omega) (by have : (0 : Int) ≤ gI s 112 ∧ gI s 112 ≤ 1364 := hRs.1 112; omega)
  exact L6 FU p1 157 0 (by show p1 = p1; have : (0 : Int) ≤ gI s 112 ∧ gI s 112 ≤ 1364 := hRs.1 112; omega) (by show (-251) ≤ (157 : Int) ∧ (157 : Int) ≤ 251; have : (0 : Int) ≤ gI s 112 ∧ gI s 112 ≤ 1364 := hRs.1 112; omega) (by show 0 ≤ (0 : Int) ∧ (0 : Int) ≤ p1; have : (0 : Int) ≤ gI s 112 ∧ gI s 112 ≤ 1364 := hRs.1 112; omega) (by have := FU_big; have := FU_big2; have : (0 : Int) ≤ gI s 112 ∧ gI s 112 ≤ 1364 := hRs.1 112; omega)
set_option maxHeartbeats 1000000 in
theorem w_x12_image {s : MS} (hRs : Rr s) (hp0 : JI s) : wp (m_x12_image s) (fun q => (Rr q.2) ∧ (JI q.2) ∧ (gI q.2 1 = gI s 1)) := by
  have hpJ := hp0
  have kN := JI_N hpJ
  unfold m_x12_image
  refine wp_stn (fun s26 es26 => ?_)
  have hRs26 : Rr s26 := es26 ▸ Rr.uI hRs (by show (0 : Int) ≤ (0 : Int) ∧ (0 : Int) ≤ 1364; omega)
  have g26 : gI s26 112 = 0 := q_II es26
  refine wp_rdIn (by omega) (fun y27 ey27 => ?_)
  have by27 : (-2147483648 : Int) ≤ y27 ∧ y27 ≤ 2147483647 := ey27 ▸ hRs26.2.1 49 _ (by show _ < 906; omega)
  have k27 : gA s 49 16 = y27 := by rw [← ey27, (q_Ia es26 : gA s26 49 = gA s 49)]; rfl
  have kc := hpJ.1.1
  have kd : Int.tdiv y27 65536 = y27 / 65536 := Int.tdiv_eq_ediv_of_nonneg (by omega)
  refine wp_dv (by omega) ?_
  refine wp_bn (w_x12_tellsByte hRs26 (by show gI s26 112 < 1364; have : gI s26 112 = 0 := q_II es26; omega) (by show (-8388609) ≤ (Int.tdiv y27 65536) ∧ (Int.tdiv y27 65536) ≤ 8388609; omega) (fun j hj => by omega)) (fun s30 es30 hs30 => ?_)
  have Fs30 : F_x12_tellsByte s26 s30 := fr_x12_tellsByte es30
  obtain ⟨hRs30, hs30_0, hs30_1⟩ := hs30
  have hs30_0 : gI s30 112 = gI s26 112 + 1 := hs30_0
  have hs30_1 : OC s30 := hs30_1
  refine wp_rdIn (by have : gI s26 112 = 0 := q_II es26; have : (0 : Int) ≤ gI s30 112 ∧ gI s30 112 ≤ 1364 := hRs30.1 112; omega) (fun y31 ey31 => ?_)
  have by31 : (-2147483648 : Int) ≤ y31 ∧ y31 ≤ 2147483647 := ey31 ▸ hRs30.2.1 49 _ (by show _ < 906; have : gI s26 112 = 0 := q_II es26; have : (0 : Int) ≤ gI s30 112 ∧ gI s30 112 ≤ 1364 := hRs30.1 112; omega)
  have k31 : gA s 49 16 = y31 := by rw [← ey31, ((Fs30.2.1 49 (by decide)).trans (q_Ia es26 : gA s26 49 = gA s 49))]; rfl
  have kd2 : Int.tmod y31 65536 = y31 % 65536 := Int.tmod_eq_emod_of_nonneg (by omega)
  refine wp_dv (by have : gI s26 112 = 0 := q_II es26; have : (0 : Int) ≤ gI s30 112 ∧ gI s30 112 ≤ 1364 := hRs30.1 112; omega) ?_
  refine wp_bn (w_x12_tellsTwo hRs30 (by show gI s30 112 < 1363; have : gI s26 112 = 0 := q_II es26; have : (0 : Int) ≤ gI s30 112 ∧ gI s30 112 ≤ 1364 := hRs30.1 112; omega) (by show R2 (Int.tmod y31 65536); have : gI s26 112 = 0 := q_II es26; have : (0 : Int) ≤ gI s30 112 ∧ gI s30 112 ≤ 1364 := hRs30.1 112; omega) (hs30_1)) (fun s34 es34 hs34 => ?_)
  have Fs34 : F_x12_tellsTwo s30 s34 := fr_x12_tellsTwo es34
  obtain ⟨hRs34, hs34_0, hs34_1⟩ := hs34
  have hs34_0 : gI s34 112 = gI s30 112 + 2 := hs34_0
  have hs34_1 : OC s34 := hs34_1
  have L37 : ∀ (n : Nat) (x14 : Int) (s15 : MS), Rr s15 → (0 ≤ x14 ∧ x14 ≤ 8) → (gI s15 112 = 3 + 2 * x14) → (JI s15 ∧ gI s15 1 = gI s 1) → (OC s15) → (gA s15 49 = gA s 49 ∧ gA s15 39 = gA s 39 ∧ gI s15 47 = gI s 47) → (8 - x14) < (n : Int) → wp (m_x12_image_L37 n x14 s15) (fun q => (Rr q.2) ∧ (JI q.2) ∧ (gI q.2 1 = gI s 1)) := by
    refine fr_ind (fun x14 s15 hRs15 hv37_0 hv37_1 hv37_2 hv37_3 hv37_4 hm37 => ?_) (fun n37 ih37 x14 s15 hRs15 hv37_0 hv37_1 hv37_2 hv37_3 hv37_4 hm37 => ?_)
    · exfalso; have : (0 : Int) ≤ gI s 47 ∧ gI s 47 ≤ 1 := hRs.1 47; have : (0 : Int) ≤ gI s15 47 ∧ gI s15 47 ≤ 1 := hRs15.1 47; have : (0 : Int) ≤ gI s 1 ∧ gI s 1 ≤ 1600 := hRs.1 1; have : (0 : Int) ≤ gI s15 1 ∧ gI s15 1 ≤ 1600 := hRs15.1 1; have : (0 : Int) ≤ gI s15 112 ∧ gI s15 112 ≤ 1364 := hRs15.1 112; omega
    · show wp (m_x12_image_b37 (m_x12_image_L37 n37) x14 s15) _
      unfold m_x12_image_b37
      refine wp_rg (by have : (0 : Int) ≤ gI s 47 ∧ gI s 47 ≤ 1 := hRs.1 47; have : (0 : Int) ≤ gI s15 47 ∧ gI s15 47 ≤ 1 := hRs15.1 47; have : (0 : Int) ≤ gI s 1 ∧ gI s 1 ≤ 1600 := hRs.1 1; have : (0 : Int) ≤ gI s15 1 ∧ gI s15 1 ≤ 1600 := hRs15.1 1; have : (0 : Int) ≤ gI s15 112 ∧ gI s15 112 ≤ 1364 := hRs15.1 112; have : (0 : Int) ≤ gI s34 112 ∧ gI s34 112 ≤ 1364 := hRs34.1 112; have : gI s26 112 = 0 := q_II es26; have : (0 : Int) ≤ gI s30 112 ∧ gI s30 112 ≤ 1364 := hRs30.1 112; omega) ?_
      refine wp_if (fun c1 => ?_) (fun c1 => ?_)
      · skip
        have L72 : ∀ (n : Nat) (x1 : Int) (s2 : MS), Rr s2 → (0 ≤ x1 ∧ x1 ≤ 48) → (0 ≤ gI s2 112 ∧ gI s2 112 ≤ 19 + 28 * x1) → (JI s2 ∧ gI s2 1 = gI s 1) → (OC s2) → (gA s2 49 = gA s 49 ∧ gA s2 39 = gA s 39 ∧ gI s2 47 = gI s 47) → (48 - x1) < (n : Int) → wp (m_x12_image_L72 n x1 s2) (fun q => (Rr q.2) ∧ (JI q.2) ∧ (gI q.2 1 = gI s 1)) := by
          refine fr_ind (fun x1 s2 hRs2 hv72_0 hv72_1 hv72_2 hv72_3 hv72_4 hm72 => ?_) (fun n72 ih72 x1 s2 hRs2 hv72_0 hv72_1 hv72_2 hv72_3 hv72_4 hm72 => ?_)
          · exfalso; have : (0 : Int) ≤ gI s 47 ∧ gI s 47 ≤ 1 := hRs.1 47; have : (0 : Int) ≤ gI s2 47 ∧ gI s2 47 ≤ 1 := hRs2.1 47; have : (0 : Int) ≤ gI s 1 ∧ gI s 1 ≤ 1600 := hRs.1 1; have : (0 : Int) ≤ gI s2 1 ∧ gI s2 1 ≤ 1600 := hRs2.1 1; have : (0 : Int) ≤ gI s2 112 ∧ gI s2 112 ≤ 1364 := hRs2.1 112; omega
          · show wp (m_x12_image_b72 (m_x12_image_L72 n72) x1 s2) _
            unfold m_x12_image_b72
            refine wp_bn (w_x12_blockMany hRs2) (fun r4 er4 hr4 => ?_)
            have hr4_0 := hr4
            have hr4_0 : r4 = gA s2 39 5 := hr4_0
            rw [hv72_4.2.1] at hr4_0
            refine wp_rg (by have : (0 : Int) ≤ gI s2 47 ∧ gI s2 47 ≤ 1 := hRs2.1 47; have : (0 : Int) ≤ gI s2 1 ∧ gI s2 1 ≤ 1600 := hRs2.1 1; have : (0 : Int) ≤ gI s2 112 ∧ gI s2 112 ≤ 1364 := hRs2.1 112; have : (0 : Int) ≤ gI s 47 ∧ gI s 47 ≤ 1 := hRs.1 47; have : (0 : Int) ≤ gI s15 47 ∧ gI s15 47 ≤ 1 := hRs15.1 47; have : (0 : Int) ≤ gI s 1 ∧ gI s 1 ≤ 1600 := hRs.1 1; have : (0 : Int) ≤ gI s15 1 ∧ gI s15 1 ≤ 1600 := hRs15.1 1; have : (0 : Int) ≤ gI s15 112 ∧ gI s15 112 ≤ 1364 := hRs15.1 112; have : (0 : Int) ≤ gI s34 112 ∧ gI s34 112 ≤ 1364 := hRs34.1 112; have : gI s26 112 = 0 := q_II es26; have : (0 : Int) ≤ gI s30 112 ∧ gI s30 112 ≤ 1364 := hRs30.1 112; omega) ?_
            refine wp_rg (by have : (0 : Int) ≤ gI s2 47 ∧ gI s2 47 ≤ 1 := hRs2.1 47; have : (0 : Int) ≤ gI s2 1 ∧ gI s2 1 ≤ 1600 := hRs2.1 1; have : (0 : Int) ≤ gI s2 112 ∧ gI s2 112 ≤ 1364 := hRs2.1 112; have : (0 : Int) ≤ gI s 47 ∧ gI s 47 ≤ 1 := hRs.1 47; have : (0 : Int) ≤ gI s15 47 ∧ gI s15 47 ≤ 1 := hRs15.1 47; have : (0 : Int) ≤ gI s 1 ∧ gI s 1 ≤ 1600 := hRs.1 1; have : (0 : Int) ≤ gI s15 1 ∧ gI s15 1 ≤ 1600 := hRs15.1 1; have : (0 : Int) ≤ gI s15 112 ∧ gI s15 112 ≤ 1364 := hRs15.1 112; have : (0 : Int) ≤ gI s34 112 ∧ gI s34 112 ≤ 1364 := hRs34.1 112; have : gI s26 112 = 0 := q_II es26; have : (0 : Int) ≤ gI s30 112 ∧ gI s30 112 ≤ 1364 := hRs30.1 112; omega) ?_
            refine wp_if (fun c2 => ?_) (fun c2 => ?_)
            · skip
              refine wp_bn (w_x12_checked hRs2 (by show 0 ≤ (gI s2 112) ∧ (gI s2 112) ≤ 1364; have : (0 : Int) ≤ gI s2 47 ∧ gI s2 47 ≤ 1 := hRs2.1 47; have : (0 : Int) ≤ gI s2 1 ∧ gI s2 1 ≤ 1600 := hRs2.1 1; have : (0 : Int) ≤ gI s 47 ∧ gI s 47 ≤ 1 := hRs.1 47; have : (0 : Int) ≤ gI s15 47 ∧ gI s15 47 ≤ 1 := hRs15.1 47; have : (0 : Int) ≤ gI s 1 ∧ gI s 1 ≤ 1600 := hRs.1 1; have : (0 : Int) ≤ gI s15 1 ∧ gI s15 1 ≤ 1600 := hRs15.1 1; have : (0 : Int) ≤ gI s15 112 ∧ gI s15 112 ≤ 1364 := hRs15.1 112; have : (0 : Int) ≤ gI s34 112 ∧ gI s34 112 ≤ 1364 := hRs34.1 112; have : gI s26 112 = 0 := q_II es26; have : (0 : Int) ≤ gI s30 112 ∧ gI s30 112 ≤ 1364 := hRs30.1 112; have : (0 : Int) ≤ gI s2 112 ∧ gI s2 112 ≤ 1364 := hRs2.1 112; omega) (by show (gI s2 112) ≤ gI s2 112; have : (0 : Int) ≤ gI s2 47 ∧ gI s2 47 ≤ 1 := hRs2.1 47; have : (0 : Int) ≤ gI s2 1 ∧ gI s2 1 ≤ 1600 := hRs2.1 1; have : (0 : Int) ≤ gI s 47 ∧ gI s 47 ≤ 1 := hRs.1 47; have : (0 : Int) ≤ gI s15 47 ∧ gI s15 47 ≤ 1 := hRs15.1 47; have : (0 : Int) ≤ gI s 1 ∧ gI s 1 ≤ 1600 := hRs.1 1; have : (0 : Int) ≤ gI s15 1 ∧ gI s15 1 ≤ 1600 := hRs15.1 1; have : (0 : Int) ≤ gI s15 112 ∧ gI s15 112 ≤ 1364 := hRs15.1 112; have : (0 : Int) ≤ gI s34 112 ∧ gI s34 112 ≤ 1364 := hRs34.1 112; have : gI s26 112 = 0 := q_II es26; have : (0 : Int) ≤ gI s30 112 ∧ gI s30 112 ≤ 1364 := hRs30.1 112; have : (0 : Int) ≤ gI s2 112 ∧ gI s2 112 ≤ 1364 := hRs2.1 112; omega) (hv72_3)) (fun r9 er9 hr9 => ?_)
              have hr9_0 := hr9
              have hr9_0 : (-251) ≤ r9 ∧ r9 ≤ 251 := hr9_0
              refine wp_bn (w_x12_tellsByte hRs2 (by show gI s2 112 < 1364; have : (0 : Int) ≤ gI s2 47 ∧ gI s2 47 ≤ 1 := hRs2.1 47; have : (0 : Int) ≤ gI s2 1 ∧ gI s2 1 ≤ 1600 := hRs2.1 1; have : (0 : Int) ≤ gI s 47 ∧ gI s 47 ≤ 1 := hRs.1 47; have : (0 : Int) ≤ gI s15 47 ∧ gI s15 47 ≤ 1 := hRs15.1 47; have : (0 : Int) ≤ gI s 1 ∧ gI s 1 ≤ 1600 := hRs.1 1; have : (0 : Int) ≤ gI s15 1 ∧ gI s15 1 ≤ 1600 := hRs15.1 1; have : (0 : Int) ≤ gI s15 112 ∧ gI s15 112 ≤ 1364 := hRs15.1 112; have : (0 : Int) ≤ gI s34 112 ∧ gI s34 112 ≤ 1364 := hRs34.1 112; have : gI s26 112 = 0 := q_II es26; have : (0 : Int) ≤ gI s30 112 ∧ gI s30 112 ≤ 1364 := hRs30.1 112; have : (0 : Int) ≤ gI s2 112 ∧ gI s2 112 ≤ 1364 := hRs2.1 112; omega) (by show (-8388609) ≤ r9 ∧ r9 ≤ 8388609; have : (0 : Int) ≤ gI s2 47 ∧ gI s2 47 ≤ 1 := hRs2.1 47; have : (0 : Int) ≤ gI s2 1 ∧ gI s2 1 ≤ 1600 := hRs2.1 1; have : (0 : Int) ≤ gI s2 112 ∧ gI s2 112 ≤ 1364 := hRs2.1 112; have : (0 : Int) ≤ gI s 47 ∧ gI s 47 ≤ 1 := hRs.1 47; have : (0 : Int) ≤ gI s15 47 ∧ gI s15 47 ≤ 1 := hRs15.1 47; have : (0 : Int) ≤ gI s 1 ∧ gI s 1 ≤ 1600 := hRs.1 1; have : (0 : Int) ≤ gI s15 1 ∧ gI s15 1 ≤ 1600 := hRs15.1 1; have : (0 : Int) ≤ gI s15 112 ∧ gI s15 112 ≤ 1364 := hRs15.1 112; have : (0 : Int) ≤ gI s34 112 ∧ gI s34 112 ≤ 1364 := hRs34.1 112; have : gI s26 112 = 0 := q_II es26; have : (0 : Int) ≤ gI s30 112 ∧ gI s30 112 ≤ 1364 := hRs30.1 112; omega) (hv72_3)) (fun s11 es11 hs11 => ?_)
              have Fs11 : F_x12_tellsByte s2 s11 := fr_x12_tellsByte es11
              obtain ⟨hRs11, hs11_0, hs11_1⟩ := hs11
              have hs11_0 : gI s11 112 = gI s2 112 + 1 := hs11_0
              have hs11_1 : OC s11 := hs11_1
              exact wp_some ⟨hRs11, by show JI s11; exact (JI_eq hv72_2.1 ⟨(Fs11.2.1 39 (by decide)), (Fs11.2.1 42 (by decide)), (Fs11.2.1 43 (by decide)), (Fs11.2.1 44 (by decide))⟩ (Fs11.2.1 49 (by decide)) (Fs11.2.1 75 (by decide)) (Fs11.1 76 (by decide)) (Fs11.1 77 (by decide)) (Fs11.1 47 (by decide)) (Fs11.2.2.1 78 (by decide))), by show gI s11 1 = gI s 1; exact (((Fs11.1 1 (by decide))).trans hv72_2.2)⟩
            · skip
              refine wp_bn (w_x12_writesBlock hRs2 (by show 0 ≤ x1 ∧ x1 < 48; have : (0 : Int) ≤ gI s2 47 ∧ gI s2 47 ≤ 1 := hRs2.1 47; have : (0 : Int) ≤ gI s2 1 ∧ gI s2 1 ≤ 1600 := hRs2.1 1; have : (0 : Int) ≤ gI s2 112 ∧ gI s2 112 ≤ 1364 := hRs2.1 112; have : (0 : Int) ≤ gI s 47 ∧ gI s 47 ≤ 1 := hRs.1 47; have : (0 : Int) ≤ gI s15 47 ∧ gI s15 47 ≤ 1 := hRs15.1 47; have : (0 : Int) ≤ gI s 1 ∧ gI s 1 ≤ 1600 := hRs.1 1; have : (0 : Int) ≤ gI s15 1 ∧ gI s15 1 ≤ 1600 := hRs15.1 1; have : (0 : Int) ≤ gI s15 112 ∧ gI s15 112 ≤ 1364 := hRs15.1 112; have : (0 : Int) ≤ gI s34 112 ∧ gI s34 112 ≤ 1364 := hRs34.1 112; have : gI s26 112 = 0 := q_II es26; have : (0 : Int) ≤ gI s30 112 ∧ gI s30 112 ≤ 1364 := hRs30.1 112; omega) ((JI_GA hv72_2.1 (fun z => by rcases hv72_2.1.2.2.2 with q | q; (rw [hv72_4.2.1] at q; omega); omega)).1.1.1) (by show gI s2 112 ≤ 1336; have : (0 : Int) ≤ gI s2 47 ∧ gI s2 47 ≤ 1 := hRs2.1 47; have : (0 : Int) ≤ gI s2 1 ∧ gI s2 1 ≤ 1600 := hRs2.1 1; have : (0 : Int) ≤ gI s 47 ∧ gI s 47 ≤ 1 := hRs.1 47; have : (0 : Int) ≤ gI s15 47 ∧ gI s15 47 ≤ 1 := hRs15.1 47; have : (0 : Int) ≤ gI s 1 ∧ gI s 1 ≤ 1600 := hRs.1 1; have : (0 : Int) ≤ gI s15 1 ∧ gI s15 1 ≤ 1600 := hRs15.1 1; have : (0 : Int) ≤ gI s15 112 ∧ gI s15 112 ≤ 1364 := hRs15.1 112; have : (0 : Int) ≤ gI s34 112 ∧ gI s34 112 ≤ 1364 := hRs34.1 112; have : gI s26 112 = 0 := q_II es26; have : (0 : Int) ≤ gI s30 112 ∧ gI s30 112 ≤ 1364 := hRs30.1 112; have : (0 : Int) ≤ gI s2 112 ∧ gI s2 112 ≤ 1364 := hRs2.1 112; omega) (hv72_3)) (fun s13 es13 hs13 => ?_)
              have Fs13 : F_x12_writesBlock s2 s13 := fr_x12_writesBlock es13
              obtain ⟨hRs13, hs13_0, hs13_1, hs13_2⟩ := hs13
              have hs13_0 : gI s13 112 ≤ gI s2 112 + 28 := hs13_0
              have hs13_1 : OC s13 := hs13_1
              have hs13_2 : gA s13 49 = gA s2 49 := hs13_2
              exact ih72 (x1 + 1) s13 hRs13 (by show 0 ≤ (x1 + 1) ∧ (x1 + 1) ≤ 48; have : (0 : Int) ≤ gI s13 112 ∧ gI s13 112 ≤ 1364 := hRs13.1 112; have : (0 : Int) ≤ gI s2 47 ∧ gI s2 47 ≤ 1 := hRs2.1 47; have : (0 : Int) ≤ gI s2 1 ∧ gI s2 1 ≤ 1600 := hRs2.1 1; have : (0 : Int) ≤ gI s2 112 ∧ gI s2 112 ≤ 1364 := hRs2.1 112; have : (0 : Int) ≤ gI s 47 ∧ gI s 47 ≤ 1 := hRs.1 47; have : (0 : Int) ≤ gI s15 47 ∧ gI s15 47 ≤ 1 := hRs15.1 47; have : (0 : Int) ≤ gI s 1 ∧ gI s 1 ≤ 1600 := hRs.1 1; have : (0 : Int) ≤ gI s15 1 ∧ gI s15 1 ≤ 1600 := hRs15.1 1; have : (0 : Int) ≤ gI s15 112 ∧ gI s15 112 ≤ 1364 := hRs15.1 112; have : (0 : Int) ≤ gI s34 112 ∧ gI s34 112 ≤ 1364 := hRs34.1 112; have : gI s26 112 = 0 := q_II es26; have : (0 : Int) ≤ gI s30 112 ∧ gI s30 112 ≤ 1364 := hRs30.1 112; omega) (by show 0 ≤ gI s13 112 ∧ gI s13 112 ≤ 19 + 28 * (x1 + 1); have : (0 : Int) ≤ gI s2 47 ∧ gI s2 47 ≤ 1 := hRs2.1 47; have : (0 : Int) ≤ gI s2 1 ∧ gI s2 1 ≤ 1600 := hRs2.1 1; have : (0 : Int) ≤ gI s2 112 ∧ gI s2 112 ≤ 1364 := hRs2.1 112; have : (0 : Int) ≤ gI s 47 ∧ gI s 47 ≤ 1 := hRs.1 47; have : (0 : Int) ≤ gI s15 47 ∧ gI s15 47 ≤ 1 := hRs15.1 47; have : (0 : Int) ≤ gI s 1 ∧ gI s 1 ≤ 1600 := hRs.1 1; have : (0 : Int) ≤ gI s15 1 ∧ gI s15 1 ≤ 1600 := hRs15.1 1; have : (0 : Int) ≤ gI s15 112 ∧ gI s15 112 ≤ 1364 := hRs15.1 112; have : (0 : Int) ≤ gI s34 112 ∧ gI s34 112 ≤ 1364 := hRs34.1 112; have : gI s26 112 = 0 := q_II es26; have : (0 : Int) ≤ gI s30 112 ∧ gI s30 112 ≤ 1364 := hRs30.1 112; have : (0 : Int) ≤ gI s13 112 ∧ gI s13 112 ≤ 1364 := hRs13.1 112; omega) (⟨JI_eq hv72_2.1 ⟨(Fs13.2.1 39 (by decide)), (Fs13.2.1 42 (by decide)), (Fs13.2.1 43 (by decide)), (Fs13.2.1 44 (by decide))⟩ hs13_2 (Fs13.2.1 75 (by decide)) (Fs13.1 76 (by decide)) (Fs13.1 77 (by decide)) (Fs13.1 47 (by decide)) (Fs13.2.2.1 78 (by decide)), ((Fs13.1 1 (by decide))).trans hv72_2.2⟩) (hs13_1) (⟨hs13_2.trans hv72_4.1, ((Fs13.2.1 39 (by decide))).trans hv72_4.2.1, ((Fs13.1 47 (by decide))).trans hv72_4.2.2⟩) (by have : (0 : Int) ≤ gI s13 112 ∧ gI s13 112 ≤ 1364 := hRs13.1 112; have : (0 : Int) ≤ gI s2 47 ∧ gI s2 47 ≤ 1 := hRs2.1 47; have : (0 : Int) ≤ gI s2 1 ∧ gI s2 1 ≤ 1600 := hRs2.1 1; have : (0 : Int) ≤ gI s2 112 ∧ gI s2 112 ≤ 1364 := hRs2.1 112; have : (0 : Int) ≤ gI s 47 ∧ gI s 47 ≤ 1 := hRs.1 47; have : (0 : Int) ≤ gI s15 47 ∧ gI s15 47 ≤ 1 := hRs15.1 47; have : (0 : Int) ≤ gI s 1 ∧ gI s 1 ≤ 1600 := hRs.1 1; have : (0 : Int) ≤ gI s15 1 ∧ gI s15 1 ≤ 1600 := hRs15.1 1; have : (0 : Int) ≤ gI s15 112 ∧ gI s15 112 ≤ 1364 := hRs15.1 112; have : (0 : Int) ≤ gI s34 112 ∧ gI s34 112 ≤ 1364 := hRs34.1 112; have : gI s26 112 = 0 := q_II es26; have : (0 : Int) ≤ gI s30 112 ∧ gI s30 112 ≤ 1364 := hRs30.1 112; omega)
        exact L72 FU 0 s15 hRs15 (by show 0 ≤ (0 : Int) ∧ (0 : Int) ≤ 48; have : (0 : Int) ≤ gI s 47 ∧ gI s 47 ≤ 1 := hRs.1 47; have : (0 : Int) ≤ gI s15 47 ∧ gI s15 47 ≤ 1 := hRs15.1 47; have : (0 : Int) ≤ gI s 1 ∧ gI s 1 ≤ 1600 := hRs.1 1; have : (0 : Int) ≤ gI s15 1 ∧ gI s15 1 ≤ 1600 := hRs15.1 1; have : (0 : Int) ≤ gI s15 112 ∧ gI s15 112 ≤ 1364 := hRs15.1 112; have : (0 : Int) ≤ gI s34 112 ∧ gI s34 112 ≤ 1364 := hRs34.1 112; have : gI s26 112 = 0 := q_II es26; have : (0 : Int) ≤ gI s30 112 ∧ gI s30 112 ≤ 1364 := hRs30.1 112; omega) (by show 0 ≤ gI s15 112 ∧ gI s15 112 ≤ 19 + 28 * (0 : Int); have : (0 : Int) ≤ gI s 47 ∧ gI s 47 ≤ 1 := hRs.1 47; have : (0 : Int) ≤ gI s15 47 ∧ gI s15 47 ≤ 1 := hRs15.1 47; have : (0 : Int) ≤ gI s 1 ∧ gI s 1 ≤ 1600 := hRs.1 1; have : (0 : Int) ≤ gI s15 1 ∧ gI s15 1 ≤ 1600 := hRs15.1 1; have : (0 : Int) ≤ gI s34 112 ∧ gI s34 112 ≤ 1364 := hRs34.1 112; have : gI s26 112 = 0 := q_II es26; have : (0 : Int) ≤ gI s30 112 ∧ gI s30 112 ≤ 1364 := hRs30.1 112; have : (0 : Int) ≤ gI s15 112 ∧ gI s15 112 ≤ 1364 := hRs15.1 112; omega) (hv37_2) (hv37_3) (hv37_4) (by have := FU_big; have := FU_big2; have : (0 : Int) ≤ gI s 47 ∧ gI s 47 ≤ 1 := hRs.1 47; have : (0 : Int) ≤ gI s15 47 ∧ gI s15 47 ≤ 1 := hRs15.1 47; have : (0 : Int) ≤ gI s 1 ∧ gI s 1 ≤ 1600 := hRs.1 1; have : (0 : Int) ≤ gI s15 1 ∧ gI s15 1 ≤ 1600 := hRs15.1 1; have : (0 : Int) ≤ gI s15 112 ∧ gI s15 112 ≤ 1364 := hRs15.1 112; have : (0 : Int) ≤ gI s34 112 ∧ gI s34 112 ≤ 1364 := hRs34.1 112; have : gI s26 112 = 0 := q_II es26; have : (0 : Int) ≤ gI s30 112 ∧ gI s30 112 ≤ 1364 := hRs30.1 112; omega)
      · skip
        refine wp_bn (w_x12_rootTold hRs15 (by show 0 ≤ x14 ∧ x14 < 16; have : (0 : Int) ≤ gI s 47 ∧ gI s 47 ≤ 1 := hRs.1 47; have : (0 : Int) ≤ gI s15 47 ∧ gI s15 47 ≤ 1 := hRs15.1 47; have : (0 : Int) ≤ gI s 1 ∧ gI s 1 ≤ 1600 := hRs.1 1; have : (0 : Int) ≤ gI s15 1 ∧ gI s15 1 ≤ 1600 := hRs15.1 1; have : (0 : Int) ≤ gI s15 112 ∧ gI s15 112 ≤ 1364 := hRs15.1 112; have : (0 : Int) ≤ gI s34 112 ∧ gI s34 112 ≤ 1364 := hRs34.1 112; have : gI s26 112 = 0 := q_II es26; have : (0 : Int) ≤ gI s30 112 ∧ gI s30 112 ≤ 1364 := hRs30.1 112; omega) (hv37_2.1)) (fun r19 er19 hr19 => ?_)
        have hr19_0 := hr19
        have hr19_0 : 0 ≤ r19 ∧ r19 ≤ 255 := hr19_0
        refine wp_bn (w_x12_tellsByte hRs15 (by show gI s15 112 < 1364; have : (0 : Int) ≤ gI s 47 ∧ gI s 47 ≤ 1 := hRs.1 47; have : (0 : Int) ≤ gI s15 47 ∧ gI s15 47 ≤ 1 := hRs15.1 47; have : (0 : Int) ≤ gI s 1 ∧ gI s 1 ≤ 1600 := hRs.1 1; have : (0 : Int) ≤ gI s15 1 ∧ gI s15 1 ≤ 1600 := hRs15.1 1; have : (0 : Int) ≤ gI s34 112 ∧ gI s34 112 ≤ 1364 := hRs34.1 112; have : gI s26 112 = 0 := q_II es26; have : (0 : Int) ≤ gI s30 112 ∧ gI s30 112 ≤ 1364 := hRs30.1 112; have : (0 : Int) ≤ gI s15 112 ∧ gI s15 112 ≤ 1364 := hRs15.1 112; omega) (by show (-8388609) ≤ r19 ∧ r19 ≤ 8388609; have : (0 : Int) ≤ gI s 47 ∧ gI s 47 ≤ 1 := hRs.1 47; have : (0 : Int) ≤ gI s15 47 ∧ gI s15 47 ≤ 1 := hRs15.1 47; have : (0 : Int) ≤ gI s 1 ∧ gI s 1 ≤ 1600 := hRs.1 1; have : (0 : Int) ≤ gI s15 1 ∧ gI s15 1 ≤ 1600 := hRs15.1 1; have : (0 : Int) ≤ gI s15 112 ∧ gI s15 112 ≤ 1364 := hRs15.1 112; have : (0 : Int) ≤ gI s34 112 ∧ gI s34 112 ≤ 1364 := hRs34.1 112; have : gI s26 112 = 0 := q_II es26; have : (0 : Int) ≤ gI s30 112 ∧ gI s30 112 ≤ 1364 := hRs30.1 112; omega) (hv37_3)) (fun s21 es21 hs21 => ?_)
        have Fs21 : F_x12_tellsByte s15 s21 := fr_x12_tellsByte es21
        obtain ⟨hRs21, hs21_0, hs21_1⟩ := hs21
        have hs21_0 : gI s21 112 = gI s15 112 + 1 := hs21_0
        have hs21_1 : OC s21 := hs21_1
        refine wp_bn (w_x12_rootTold hRs21 (by show 0 ≤ (8 + x14) ∧ (8 + x14) < 16; have : (0 : Int) ≤ gI s21 112 ∧ gI s21 112 ≤ 1364 := hRs21.1 112; have : (0 : Int) ≤ gI s 47 ∧ gI s 47 ≤ 1 := hRs.1 47; have : (0 : Int) ≤ gI s15 47 ∧ gI s15 47 ≤ 1 := hRs15.1 47; have : (0 : Int) ≤ gI s 1 ∧ gI s 1 ≤ 1600 := hRs.1 1; have : (0 : Int) ≤ gI s15 1 ∧ gI s15 1 ≤ 1600 := hRs15.1 1; have : (0 : Int) ≤ gI s15 112 ∧ gI s15 112 ≤ 1364 := hRs15.1 112; have : (0 : Int) ≤ gI s34 112 ∧ gI s34 112 ≤ 1364 := hRs34.1 112; have : gI s26 112 = 0 := q_II es26; have : (0 : Int) ≤ gI s30 112 ∧ gI s30 112 ≤ 1364 := hRs30.1 112; omega) (JI_eq hv37_2.1 ⟨(Fs21.2.1 39 (by decide)), (Fs21.2.1 42 (by decide)), (Fs21.2.1 43 (by decide)), (Fs21.2.1 44 (by decide))⟩ (Fs21.2.1 49 (by decide)) (Fs21.2.1 75 (by decide)) (Fs21.1 76 (by decide)) (Fs21.1 77 (by decide)) (Fs21.1 47 (by decide)) (Fs21.2.2.1 78 (by decide)))) (fun r23 er23 hr23 => ?_)
        have hr23_0 := hr23
        have hr23_0 : 0 ≤ r23 ∧ r23 ≤ 255 := hr23_0
        refine wp_bn (w_x12_tellsByte hRs21 (by show gI s21 112 < 1364; have : (0 : Int) ≤ gI s 47 ∧ gI s 47 ≤ 1 := hRs.1 47; have : (0 : Int) ≤ gI s15 47 ∧ gI s15 47 ≤ 1 := hRs15.1 47; have : (0 : Int) ≤ gI s 1 ∧ gI s 1 ≤ 1600 := hRs.1 1; have : (0 : Int) ≤ gI s15 1 ∧ gI s15 1 ≤ 1600 := hRs15.1 1; have : (0 : Int) ≤ gI s15 112 ∧ gI s15 112 ≤ 1364 := hRs15.1 112; have : (0 : Int) ≤ gI s34 112 ∧ gI s34 112 ≤ 1364 := hRs34.1 112; have : gI s26 112 = 0 := q_II es26; have : (0 : Int) ≤ gI s30 112 ∧ gI s30 112 ≤ 1364 := hRs30.1 112; have : (0 : Int) ≤ gI s21 112 ∧ gI s21 112 ≤ 1364 := hRs21.1 112; omega) (by show (-8388609) ≤ r23 ∧ r23 ≤ 8388609; have : (0 : Int) ≤ gI s21 112 ∧ gI s21 112 ≤ 1364 := hRs21.1 112; have : (0 : Int) ≤ gI s 47 ∧ gI s 47 ≤ 1 := hRs.1 47; have : (0 : Int) ≤ gI s15 47 ∧ gI s15 47 ≤ 1 := hRs15.1 47; have : (0 : Int) ≤ gI s 1 ∧ gI s 1 ≤ 1600 := hRs.1 1; have : (0 : Int) ≤ gI s15 1 ∧ gI s15 1 ≤ 1600 := hRs15.1 1; have : (0 : Int) ≤ gI s15 112 ∧ gI s15 112 ≤ 1364 := hRs15.1 112; have : (0 : Int) ≤ gI s34 112 ∧ gI s34 112 ≤ 1364 := hRs34.1 112; have : gI s26 112 = 0 := q_II es26; have : (0 : Int) ≤ gI s30 112 ∧ gI s30 112 ≤ 1364 := hRs30.1 112; omega) (hs21_1)) (fun s25 es25 hs25 => ?_)
        have Fs25 : F_x12_tellsByte s21 s25 := fr_x12_tellsByte es25
        obtain ⟨hRs25, hs25_0, hs25_1⟩ := hs25
        have hs25_0 : gI s25 112 = gI s21 112 + 1 := hs25_0
        have hs25_1 : OC s25 := hs25_1
        exact ih37 (x14 + 1) s25 hRs25 (by show 0 ≤ (x14 + 1) ∧ (x14 + 1) ≤ 8; have : (0 : Int) ≤ gI s25 112 ∧ gI s25 112 ≤ 1364 := hRs25.1 112; have : (0 : Int) ≤ gI s21 112 ∧ gI s21 112 ≤ 1364 := hRs21.1 112; have : (0 : Int) ≤ gI s 47 ∧ gI s 47 ≤ 1 := hRs.1 47; have : (0 : Int) ≤ gI s15 47 ∧ gI s15 47 ≤ 1 := hRs15.1 47; have : (0 : Int) ≤ gI s 1 ∧ gI s 1 ≤ 1600 := hRs.1 1; have : (0 : Int) ≤ gI s15 1 ∧ gI s15 1 ≤ 1600 := hRs15.1 1; have : (0 : Int) ≤ gI s15 112 ∧ gI s15 112 ≤ 1364 := hRs15.1 112; have : (0 : Int) ≤ gI s34 112 ∧ gI s34 112 ≤ 1364 := hRs34.1 112; have : gI s26 112 = 0 := q_II es26; have : (0 : Int) ≤ gI s30 112 ∧ gI s30 112 ≤ 1364 := hRs30.1 112; omega) (by show gI s25 112 = 3 + 2 * (x14 + 1); have : (0 : Int) ≤ gI s21 112 ∧ gI s21 112 ≤ 1364 := hRs21.1 112; have : (0 : Int) ≤ gI s 47 ∧ gI s 47 ≤ 1 := hRs.1 47; have : (0 : Int) ≤ gI s15 47 ∧ gI s15 47 ≤ 1 := hRs15.1 47; have : (0 : Int) ≤ gI s 1 ∧ gI s 1 ≤ 1600 := hRs.1 1; have : (0 : Int) ≤ gI s15 1 ∧ gI s15 1 ≤ 1600 := hRs15.1 1; have : (0 : Int) ≤ gI s15 112 ∧ gI s15 112 ≤ 1364 := hRs15.1 112; have : (0 : Int) ≤ gI s34 112 ∧ gI s34 112 ≤ 1364 := hRs34.1 112; have : gI s26 112 = 0 := q_II es26; have : (0 : Int) ≤ gI s30 112 ∧ gI s30 112 ≤ 1364 := hRs30.1 112; have : (0 : Int) ≤ gI s25 112 ∧ gI s25 112 ≤ 1364 := hRs25.1 112; omega) (⟨JI_eq hv37_2.1 ⟨((Fs25.2.1 39 (by decide)).trans (Fs21.2.1 39 (by decide))), ((Fs25.2.1 42 (by decide)).trans (Fs21.2.1 42 (by decide))), ((Fs25.2.1 43 (by decide)).trans (Fs21.2.1 43 (by decide))), ((Fs25.2.1 44 (by decide)).trans (Fs21.2.1 44 (by decide)))⟩ ((Fs25.2.1 49 (by decide)).trans (Fs21.2.1 49 (by decide))) ((Fs25.2.1 75 (by decide)).trans (Fs21.2.1 75 (by decide))) ((Fs25.1 76 (by decide)).trans (Fs21.1 76 (by decide))) ((Fs25.1 77 (by decide)).trans (Fs21.1 77 (by decide))) ((Fs25.1 47 (by decide)).trans (Fs21.1 47 (by decide))) ((Fs25.2.2.1 78 (by decide)).trans (Fs21.2.2.1 78 (by decide))), (((Fs25.1 1 (by decide)).trans (Fs21.1 1 (by decide)))).trans hv37_2.2⟩) (hs25_1) (⟨(((Fs25.2.1 49 (by decide)).trans (Fs21.2.1 49 (by decide)))).trans hv37_4.1, (((Fs25.2.1 39 (by decide)).trans (Fs21.2.1 39 (by decide)))).trans hv37_4.2.1, (((Fs25.1 47 (by decide)).trans (Fs21.1 47 (by decide)))).trans hv37_4.2.2⟩) (by have : (0 : Int) ≤ gI s25 112 ∧ gI s25 112 ≤ 1364 := hRs25.1 112; have : (0 : Int) ≤ gI s21 112 ∧ gI s21 112 ≤ 1364 := hRs21.1 112; have : (0 : Int) ≤ gI s 47 ∧ gI s 47 ≤ 1 := hRs.1 47; have : (0 : Int) ≤ gI s15 47 ∧ gI s15 47 ≤ 1 := hRs15.1 47; have : (0 : Int) ≤ gI s 1 ∧ gI s 1 ≤ 1600 := hRs.1 1; have : (0 : Int) ≤ gI s15 1 ∧ gI s15 1 ≤ 1600 := hRs15.1 1; have : (0 : Int) ≤ gI s15 112 ∧ gI s15 112 ≤ 1364 := hRs15.1 112; have : (0 : Int) ≤ gI s34 112 ∧ gI s34 112 ≤ 1364 := hRs34.1 112; have : gI s26 112 = 0 := q_II es26; have : (0 : Int) ≤ gI s30 112 ∧ gI s30 112 ≤ 1364 := hRs30.1 112; omega)
  exact L37 FU 0 s34 hRs34 (by show 0 ≤ (0 : Int) ∧ (0 : Int) ≤ 8; have : (0 : Int) ≤ gI s34 112 ∧ gI s34 112 ≤ 1364 := hRs34.1 112; have : gI s26 112 = 0 := q_II es26; have : (0 : Int) ≤ gI s30 112 ∧ gI s30 112 ≤ 1364 := hRs30.1 112; omega) (by show gI s34 112 = 3 + 2 * (0 : Int); have : gI s26 112 = 0 := q_II es26; have : (0 : Int) ≤ gI s30 112 ∧ gI s30 112 ≤ 1364 := hRs30.1 112; have : (0 : Int) ≤ gI s34 112 ∧ gI s34 112 ≤ 1364 := hRs34.1 112; omega) (⟨JI_eq hpJ ⟨((Fs34.2.1 39 (by decide)).trans ((Fs30.2.1 39 (by decide)).trans (q_Ia es26 : gA s26 39 = gA s 39))), ((Fs34.2.1 42 (by decide)).trans ((Fs30.2.1 42 (by decide)).trans (q_Ia es26 : gA s26 42 = gA s 42))), ((Fs34.2.1 43 (by decide)).trans ((Fs30.2.1 43 (by decide)).trans (q_Ia es26 : gA s26 43 = gA s 43))), ((Fs34.2.1 44 (by decide)).trans ((Fs30.2.1 44 (by decide)).trans (q_Ia es26 : gA s26 44 = gA s 44)))⟩ ((Fs34.2.1 49 (by decide)).trans ((Fs30.2.1 49 (by decide)).trans (q_Ia es26 : gA s26 49 = gA s 49))) ((Fs34.2.1 75 (by decide)).trans ((Fs30.2.1 75 (by decide)).trans (q_Ia es26 : gA s26 75 = gA s 75))) ((Fs34.1 76 (by decide)).trans ((Fs30.1 76 (by decide)).trans (q_Ii es26 (by decide) : gI s26 76 = gI s 76))) ((Fs34.1 77 (by decide)).trans ((Fs30.1 77 (by decide)).trans (q_Ii es26 (by decide) : gI s26 77 = gI s 77))) ((Fs34.1 47 (by decide)).trans ((Fs30.1 47 (by decide)).trans (q_Ii es26 (by decide) : gI s26 47 = gI s 47))) ((Fs34.2.2.1 78 (by decide)).trans ((Fs30.2.2.1 78 (by decide)).trans (q_Il es26 : gL s26 78 = gL s 78))), ((Fs34.1 1 (by decide)).trans ((Fs30.1 1 (by decide)).trans (q_Ii es26 (by decide) : gI s26 1 = gI s 1)))⟩) (hs34_1) (⟨((Fs34.2.1 49 (by decide)).trans ((Fs30.2.1 49 (by decide)).trans (q_Ia es26 : gA s26 49 = gA s 49))), ((Fs34.2.1 39 (by decide)).trans ((Fs30.2.1 39 (by decide)).trans (q_Ia es26 : gA s26 39 = gA s 39))), ((Fs34.1 47 (by decide)).trans ((Fs30.1 47 (by decide)).trans (q_Ii es26 (by decide) : gI s26 47 = gI s 47)))⟩) (by have := FU_big; have := FU_big2; have : (0 : Int) ≤ gI s34 112 ∧ gI s34 112 ≤ 1364 := hRs34.1 112; have : gI s26 112 = 0 := q_II es26; have : (0 : Int) ≤ gI s30 112 ∧ gI s30 112 ≤ 1364 := hRs30.1 112; omega)
set_option maxHeartbeats 1000000 in
theorem w_x12_see {s : MS} (hRs : Rr s) (hp0 : JI s) : wp (m_x12_see s) (fun q => (Rr q.2) ∧ (JI q.2) ∧ (gI q.2 1 = 0)) := by
  have hpJ := hp0
  have r1 : (0 : Int) ≤ gI s 1 ∧ gI s 1 ≤ 1600 := hRs.1 1
  have kd4 : Int.tdiv (gI s 1) 4 = gI s 1 / 4 := Int.tdiv_eq_ediv_of_nonneg (by omega)
  have km4 : Int.tmod (gI s 1) 4 = gI s 1 % 4 := Int.tmod_eq_emod_of_nonneg (by omega)
  have kd2 : Int.tdiv (gI s 1) 2 = gI s 1 / 2 := Int.tdiv_eq_ediv_of_nonneg (by omega)
  have J109 : ∀ (x14 : Int) (x15 : Int) (s16 : MS), Rr s16 → (x14 = gI s 1) → (x15 = 0 ∨ (x15 = 1 ∧ gI s 1 % 4 = 0 ∧ gI s 1 ≤ 48)) → (JI s16 ∧ gI s16 1 = 0) → wp (m_x12_see_J109 x14 x15 s16) (fun q => (Rr q.2) ∧ (JI q.2) ∧ (gI q.2 1 = 0)) := by
    intro x14 x15 s16 hRs16 hj109_0 hj109_1 hj109_2
    unfold m_x12_see_J109
    refine wp_rg (by have : (0 : Int) ≤ gI s16 1 ∧ gI s16 1 ≤ 1600 := hRs16.1 1; have : (0 : Int) ≤ gI s 1 ∧ gI s 1 ≤ 1600 := hRs.1 1; omega) ?_
    refine wp_if (fun c1 => ?_) (fun c1 => ?_)
    · skip
      refine wp_bn (w_x12_refuses hRs16 (by show 0 ≤ (1 : Int) ∧ (1 : Int) < 6; have : (0 : Int) ≤ gI s16 1 ∧ gI s16 1 ≤ 1600 := hRs16.1 1; have : (0 : Int) ≤ gI s 1 ∧ gI s 1 ≤ 1600 := hRs.1 1; omega)) (fun qqr21 eqr21s hqr21s => ?_)
      obtain ⟨qr21r, qr21s⟩ := qqr21
      dsimp only at eqr21s hqr21s ⊢
      have Fqr21s : F_x12_refuses s16 qr21s := fr_x12_refuses eqr21s
      obtain ⟨hRqr21s, hqr21s_0⟩ := hqr21s
      have hqr21s_0 : qr21r = -1 := hqr21s_0
      exact wp_some ⟨hRqr21s, by show JI qr21s; exact (JI_eq hj109_2.1 ⟨(Fqr21s.2.1 39 (by decide)), (Fqr21s.2.1 42 (by decide)), (Fqr21s.2.1 43 (by decide)), (Fqr21s.2.1 44 (by decide))⟩ (Fqr21s.2.1 49 (by decide)) (Fqr21s.2.1 75 (by decide)) (Fqr21s.1 76 (by decide)) (Fqr21s.1 77 (by decide)) (Fqr21s.1 47 (by decide)) (Fqr21s.2.2.1 78 (by decide))), by show gI qr21s 1 = 0; exact (((Fqr21s.1 1 (by decide))).trans hj109_2.2)⟩
    · skip
      have L121 : ∀ (n : Nat) (x1 : Int) (x2 : Int) (s3 : MS), Rr s3 → (x1 = gI s 1 ∧ gI s 1 % 4 = 0 ∧ gI s 1 ≤ 48) → (0 ≤ x2 ∧ x2 ≤ 24) → (JI s3 ∧ gI s3 1 = 0) → (24 - x2) < (n : Int) → wp (m_x12_see_L121 n x1 x2 s3) (fun q => (Rr q.2) ∧ (JI q.2) ∧ (gI q.2 1 = 0)) := by
        refine fr_ind (fun x1 x2 s3 hRs3 hv121_0 hv121_1 hv121_2 hm121 => ?_) (fun n121 ih121 x1 x2 s3 hRs3 hv121_0 hv121_1 hv121_2 hm121 => ?_)
        · exfalso; have : (0 : Int) ≤ gI s3 1 ∧ gI s3 1 ≤ 1600 := hRs3.1 1; have : (0 : Int) ≤ gI s 1 ∧ gI s 1 ≤ 1600 := hRs.1 1; omega
        · show wp (m_x12_see_b121 (m_x12_see_L121 n121) x1 x2 s3) _
          unfold m_x12_see_b121
          have e0 : x1 = gI s 1 := hv121_0.1
          have f2 : Int.tdiv x1 2 = gI s 1 / 2 := by rw [e0]; exact kd2
          have f4 : Int.tdiv x1 4 = gI s 1 / 4 := by rw [e0]; exact kd4
          refine wp_dv (by have : (0 : Int) ≤ gI s3 1 ∧ gI s3 1 ≤ 1600 := hRs3.1 1; have : (0 : Int) ≤ gI s16 1 ∧ gI s16 1 ≤ 1600 := hRs16.1 1; have : (0 : Int) ≤ gI s 1 ∧ gI s 1 ≤ 1600 := hRs.1 1; omega) ?_
          refine wp_rg (by have : (0 : Int) ≤ gI s3 1 ∧ gI s3 1 ≤ 1600 := hRs3.1 1; have : (0 : Int) ≤ gI s16 1 ∧ gI s16 1 ≤ 1600 := hRs16.1 1; have : (0 : Int) ≤ gI s 1 ∧ gI s 1 ≤ 1600 := hRs.1 1; omega) ?_
          refine wp_rg (by have : (0 : Int) ≤ gI s3 1 ∧ gI s3 1 ≤ 1600 := hRs3.1 1; have : (0 : Int) ≤ gI s16 1 ∧ gI s16 1 ≤ 1600 := hRs16.1 1; have : (0 : Int) ≤ gI s 1 ∧ gI s 1 ≤ 1600 := hRs.1 1; omega) ?_
          refine wp_if (fun c2 => ?_) (fun c2 => ?_)
          · skip
            refine wp_dv (by have : (0 : Int) ≤ gI s3 1 ∧ gI s3 1 ≤ 1600 := hRs3.1 1; have : (0 : Int) ≤ gI s16 1 ∧ gI s16 1 ≤ 1600 := hRs16.1 1; have : (0 : Int) ≤ gI s 1 ∧ gI s 1 ≤ 1600 := hRs.1 1; omega) ?_
            refine wp_stn (fun s9 es9 => ?_)
            have hRs9 : Rr s9 := es9 ▸ Rr.uI hRs3 (by show (0 : Int) ≤ (Int.tdiv x1 4) ∧ (Int.tdiv x1 4) ≤ 12; have : (0 : Int) ≤ gI s3 1 ∧ gI s3 1 ≤ 1600 := hRs3.1 1; have : (0 : Int) ≤ gI s16 1 ∧ gI s16 1 ≤ 1600 := hRs16.1 1; have : (0 : Int) ≤ gI s 1 ∧ gI s 1 ≤ 1600 := hRs.1 1; omega)
            exact wp_some ⟨hRs9, by show JI s9; exact (JI_eq hv121_2.1 ⟨(q_Ia es9 : gA s9 39 = gA s3 39), (q_Ia es9 : gA s9 42 = gA s3 42), (q_Ia es9 : gA s9 43 = gA s3 43), (q_Ia es9 : gA s9 44 = gA s3 44)⟩ (q_Ia es9 : gA s9 49 = gA s3 49) (q_Ia es9 : gA s9 75 = gA s3 75) (q_Ii es9 (by decide) : gI s9 76 = gI s3 76) (q_Ii es9 (by decide) : gI s9 77 = gI s3 77) (q_Ii es9 (by decide) : gI s9 47 = gI s3 47) (q_Il es9 : gL s9 78 = gL s3 78)), by show gI s9 1 = 0; exact (((q_Ii es9 (by decide) : gI s9 1 = gI s3 1)).trans hv121_2.2)⟩
          · skip
            refine wp_rdIn (by have : (0 : Int) ≤ gI s3 1 ∧ gI s3 1 ≤ 1600 := hRs3.1 1; have : (0 : Int) ≤ gI s16 1 ∧ gI s16 1 ≤ 1600 := hRs16.1 1; have : (0 : Int) ≤ gI s 1 ∧ gI s 1 ≤ 1600 := hRs.1 1; omega) (fun y10 ey10 => ?_)
            have by10 : (0 : Int) ≤ y10 ∧ y10 ≤ 255 := ey10 ▸ hRs3.2.1 0 _ (by show _ < 1600; have : (0 : Int) ≤ gI s3 1 ∧ gI s3 1 ≤ 1600 := hRs3.1 1; have : (0 : Int) ≤ gI s16 1 ∧ gI s16 1 ≤ 1600 := hRs16.1 1; have : (0 : Int) ≤ gI s 1 ∧ gI s 1 ≤ 1600 := hRs.1 1; omega)
            refine wp_rdIn (by have : (0 : Int) ≤ gI s3 1 ∧ gI s3 1 ≤ 1600 := hRs3.1 1; have : (0 : Int) ≤ gI s16 1 ∧ gI s16 1 ≤ 1600 := hRs16.1 1; have : (0 : Int) ≤ gI s 1 ∧ gI s 1 ≤ 1600 := hRs.1 1; omega) (fun y11 ey11 => ?_)
            have by11 : (0 : Int) ≤ y11 ∧ y11 ≤ 255 := ey11 ▸ hRs3.2.1 0 _ (by show _ < 1600; have : (0 : Int) ≤ gI s3 1 ∧ gI s3 1 ≤ 1600 := hRs3.1 1; have : (0 : Int) ≤ gI s16 1 ∧ gI s16 1 ≤ 1600 := hRs16.1 1; have : (0 : Int) ≤ gI s 1 ∧ gI s 1 ≤ 1600 := hRs.1 1; omega)
            refine wp_inb (by have : (0 : Int) ≤ gI s3 1 ∧ gI s3 1 ≤ 1600 := hRs3.1 1; have : (0 : Int) ≤ gI s16 1 ∧ gI s16 1 ≤ 1600 := hRs16.1 1; have : (0 : Int) ≤ gI s 1 ∧ gI s 1 ≤ 1600 := hRs.1 1; omega) ?_
            refine wp_stn (fun s13 es13 => ?_)
            have hRs13 : Rr s13 := es13 ▸ Rr.uAu hRs3 (by show (-2147483648 : Int) ≤ ((256 * y10) + y11) ∧ ((256 * y10) + y11) ≤ 2147483647; have : (0 : Int) ≤ gI s3 1 ∧ gI s3 1 ≤ 1600 := hRs3.1 1; have : (0 : Int) ≤ gI s16 1 ∧ gI s16 1 ≤ 1600 := hRs16.1 1; have : (0 : Int) ≤ gI s 1 ∧ gI s 1 ≤ 1600 := hRs.1 1; omega)
            exact ih121 x1 (x2 + 1) s13 hRs13 (by show x1 = gI s 1 ∧ gI s 1 % 4 = 0 ∧ gI s 1 ≤ 48; have : (0 : Int) ≤ gI s3 1 ∧ gI s3 1 ≤ 1600 := hRs3.1 1; have : (0 : Int) ≤ gI s16 1 ∧ gI s16 1 ≤ 1600 := hRs16.1 1; have : (0 : Int) ≤ gI s 1 ∧ gI s 1 ≤ 1600 := hRs.1 1; omega) (by show 0 ≤ (x2 + 1) ∧ (x2 + 1) ≤ 24; have : (0 : Int) ≤ gI s3 1 ∧ gI s3 1 ≤ 1600 := hRs3.1 1; have : (0 : Int) ≤ gI s16 1 ∧ gI s16 1 ≤ 1600 := hRs16.1 1; have : (0 : Int) ≤ gI s 1 ∧ gI s 1 ≤ 1600 := hRs.1 1; omega) (⟨JI_eq hv121_2.1 ⟨(q_Aa es13 (by decide) : gA s13 39 = gA s3 39), (q_Aa es13 (by decide) : gA s13 42 = gA s3 42), (q_Aa es13 (by decide) : gA s13 43 = gA s3 43), (q_Aa es13 (by decide) : gA s13 44 = gA s3 44)⟩ (q_Aa es13 (by decide) : gA s13 49 = gA s3 49) (q_Aa es13 (by decide) : gA s13 75 = gA s3 75) (q_Ai es13 : gI s13 76 = gI s3 76) (q_Ai es13 : gI s13 77 = gI s3 77) (q_Ai es13 : gI s13 47 = gI s3 47) (q_Al es13 : gL s13 78 = gL s3 78), ((q_Ai es13 : gI s13 1 = gI s3 1)).trans hv121_2.2⟩) (by have : (0 : Int) ≤ gI s3 1 ∧ gI s3 1 ≤ 1600 := hRs3.1 1; have : (0 : Int) ≤ gI s16 1 ∧ gI s16 1 ≤ 1600 := hRs16.1 1; have : (0 : Int) ≤ gI s 1 ∧ gI s 1 ≤ 1600 := hRs.1 1; omega)
      exact L121 FU x14 0 s16 hRs16 (by show x14 = gI s 1 ∧ gI s 1 % 4 = 0 ∧ gI s 1 ≤ 48; have : (0 : Int) ≤ gI s16 1 ∧ gI s16 1 ≤ 1600 := hRs16.1 1; have : (0 : Int) ≤ gI s 1 ∧ gI s 1 ≤ 1600 := hRs.1 1; omega) (by show 0 ≤ (0 : Int) ∧ (0 : Int) ≤ 24; have : (0 : Int) ≤ gI s16 1 ∧ gI s16 1 ≤ 1600 := hRs16.1 1; have : (0 : Int) ≤ gI s 1 ∧ gI s 1 ≤ 1600 := hRs.1 1; omega) (hj109_2) (by have := FU_big; have := FU_big2; have : (0 : Int) ≤ gI s16 1 ∧ gI s16 1 ≤ 1600 := hRs16.1 1; have : (0 : Int) ≤ gI s 1 ∧ gI s 1 ≤ 1600 := hRs.1 1; omega)
  unfold m_x12_see
  refine wp_stn (fun s51 es51 => ?_)
  have hRs51 : Rr s51 := es51 ▸ Rr.uI hRs (by show (0 : Int) ≤ (0 : Int) ∧ (0 : Int) ≤ 1600; omega)
  have J51 : JI s51 := JI_eq hpJ ⟨(q_Ia es51 : gA s51 39 = gA s 39), (q_Ia es51 : gA s51 42 = gA s 42), (q_Ia es51 : gA s51 43 = gA s 43), (q_Ia es51 : gA s51 44 = gA s 44)⟩ (q_Ia es51 : gA s51 49 = gA s 49) (q_Ia es51 : gA s51 75 = gA s 75) (q_Ii es51 (by decide) : gI s51 76 = gI s 76) (q_Ii es51 (by decide) : gI s51 77 = gI s 77) (q_Ii es51 (by decide) : gI s51 47 = gI s 47) (q_Il es51 : gL s51 78 = gL s 78)
  have g51 : gI s51 1 = 0 := q_II es51
  refine wp_rg (by have : (0 : Int) ≤ gI s 1 ∧ gI s 1 ≤ 1600 := hRs.1 1; omega) ?_
  refine wp_if (fun c3 => ?_) (fun c3 => ?_)
  · skip
    unfold m_x12_see_J32
    unfold m_x12_see_J33
    have L36 : ∀ (n : Nat) (x22 : Int) (x23 : Int) (x24 : Int) (s25 : MS), Rr s25 → (x22 = gI s 1) → (x23 = 0 ∨ (x23 = 1 ∧ gI s 1 % 4 = 0 ∧ gI s 1 ≤ 48)) → (0 ≤ x24 ∧ x24 % 4 = 0 ∧ x24 ≤ 1604) → (JI s25 ∧ gI s25 1 = 0) → (1604 - x24) < (n : Int) → wp (m_x12_see_L36 n x22 x23 x24 s25) (fun q => (Rr q.2) ∧ (JI q.2) ∧ (gI q.2 1 = 0)) := by
      refine fr_ind (fun x22 x23 x24 s25 hRs25 hv36_0 hv36_1 hv36_2 hv36_3 hm36 => ?_) (fun n36 ih36 x22 x23 x24 s25 hRs25 hv36_0 hv36_1 hv36_2 hv36_3 hm36 => ?_)
      · exfalso; have : (0 : Int) ≤ gI s25 1 ∧ gI s25 1 ≤ 1600 := hRs25.1 1; have : (0 : Int) ≤ gI s 1 ∧ gI s 1 ≤ 1600 := hRs.1 1; omega
      · show wp (m_x12_see_b36 (m_x12_see_L36 n36) x22 x23 x24 s25) _
        unfold m_x12_see_b36
        refine wp_rg (by have : (0 : Int) ≤ gI s25 1 ∧ gI s25 1 ≤ 1600 := hRs25.1 1; have : (0 : Int) ≤ gI s 1 ∧ gI s 1 ≤ 1600 := hRs.1 1; omega) ?_
        refine wp_rg (by have : (0 : Int) ≤ gI s25 1 ∧ gI s25 1 ≤ 1600 := hRs25.1 1; have : (0 : Int) ≤ gI s 1 ∧ gI s 1 ≤ 1600 := hRs.1 1; omega) ?_
        refine wp_if (fun c4 => ?_) (fun c4 => ?_)
        · skip
          exact J109 x22 x23 s25 hRs25 (by show x22 = gI s 1; have : (0 : Int) ≤ gI s25 1 ∧ gI s25 1 ≤ 1600 := hRs25.1 1; have : (0 : Int) ≤ gI s 1 ∧ gI s 1 ≤ 1600 := hRs.1 1; omega) (by show x23 = 0 ∨ (x23 = 1 ∧ gI s 1 % 4 = 0 ∧ gI s 1 ≤ 48); have : (0 : Int) ≤ gI s25 1 ∧ gI s25 1 ≤ 1600 := hRs25.1 1; have : (0 : Int) ≤ gI s 1 ∧ gI s 1 ≤ 1600 := hRs.1 1; omega) (hv36_3)
        · skip
          refine wp_rg (by have : (0 : Int) ≤ gI s25 1 ∧ gI s25 1 ≤ 1600 := hRs25.1 1; have : (0 : Int) ≤ gI s 1 ∧ gI s 1 ≤ 1600 := hRs.1 1; omega) ?_
          refine wp_if (fun c5 => ?_) (fun c5 => ?_)
          · skip
            exact J109 x22 x23 s25 hRs25 (by show x22 = gI s 1; have : (0 : Int) ≤ gI s25 1 ∧ gI s25 1 ≤ 1600 := hRs25.1 1; have : (0 : Int) ≤ gI s 1 ∧ gI s 1 ≤ 1600 := hRs.1 1; omega) (by show x23 = 0 ∨ (x23 = 1 ∧ gI s 1 % 4 = 0 ∧ gI s 1 ≤ 48); have : (0 : Int) ≤ gI s25 1 ∧ gI s25 1 ≤ 1600 := hRs25.1 1; have : (0 : Int) ≤ gI s 1 ∧ gI s 1 ≤ 1600 := hRs.1 1; omega) (hv36_3)
          · skip
            refine wp_rdIn (by have : (0 : Int) ≤ gI s25 1 ∧ gI s25 1 ≤ 1600 := hRs25.1 1; have : (0 : Int) ≤ gI s 1 ∧ gI s 1 ≤ 1600 := hRs.1 1; omega) (fun y38 ey38 => ?_)
            have by38 : (0 : Int) ≤ y38 ∧ y38 ≤ 255 := ey38 ▸ hRs25.2.1 0 _ (by show _ < 1600; have : (0 : Int) ≤ gI s25 1 ∧ gI s25 1 ≤ 1600 := hRs25.1 1; have : (0 : Int) ≤ gI s 1 ∧ gI s 1 ≤ 1600 := hRs.1 1; omega)
            refine wp_rdIn (by have : (0 : Int) ≤ gI s25 1 ∧ gI s25 1 ≤ 1600 := hRs25.1 1; have : (0 : Int) ≤ gI s 1 ∧ gI s 1 ≤ 1600 := hRs.1 1; omega) (fun y39 ey39 => ?_)
            have by39 : (0 : Int) ≤ y39 ∧ y39 ≤ 255 := ey39 ▸ hRs25.2.1 0 _ (by show _ < 1600; have : (0 : Int) ≤ gI s25 1 ∧ gI s25 1 ≤ 1600 := hRs25.1 1; have : (0 : Int) ≤ gI s 1 ∧ gI s 1 ≤ 1600 := hRs.1 1; omega)
            refine wp_rg (by have : (0 : Int) ≤ gI s25 1 ∧ gI s25 1 ≤ 1600 := hRs25.1 1; have : (0 : Int) ≤ gI s 1 ∧ gI s 1 ≤ 1600 := hRs.1 1; omega) ?_
            refine wp_if (fun c6 => ?_) (fun c6 => ?_)
            · skip
              unfold m_x12_see_J101
              unfold m_x12_see_J102
              exact ih36 x22 0 (x24 + 4) s25 hRs25 (by show x22 = gI s 1; have : (0 : Int) ≤ gI s25 1 ∧ gI s25 1 ≤ 1600 := hRs25.1 1; have : (0 : Int) ≤ gI s 1 ∧ gI s 1 ≤ 1600 := hRs.1 1; omega) (by show (0 : Int) = 0 ∨ ((0 : Int) = 1 ∧ gI s 1 % 4 = 0 ∧ gI s 1 ≤ 48); have : (0 : Int) ≤ gI s25 1 ∧ gI s25 1 ≤ 1600 := hRs25.1 1; have : (0 : Int) ≤ gI s 1 ∧ gI s 1 ≤ 1600 := hRs.1 1; omega) (by show 0 ≤ (x24 + 4) ∧ (x24 + 4) % 4 = 0 ∧ (x24 + 4) ≤ 1604; have : (0 : Int) ≤ gI s25 1 ∧ gI s25 1 ≤ 1600 := hRs25.1 1; have : (0 : Int) ≤ gI s 1 ∧ gI s 1 ≤ 1600 := hRs.1 1; omega) (hv36_3) (by have : (0 : Int) ≤ gI s25 1 ∧ gI s25 1 ≤ 1600 := hRs25.1 1; have : (0 : Int) ≤ gI s 1 ∧ gI s 1 ≤ 1600 := hRs.1 1; omega)
            · skip
              refine wp_rdIn (by have : (0 : Int) ≤ gI s25 1 ∧ gI s25 1 ≤ 1600 := hRs25.1 1; have : (0 : Int) ≤ gI s 1 ∧ gI s 1 ≤ 1600 := hRs.1 1; omega) (fun y42 ey42 => ?_)
              have by42 : (0 : Int) ≤ y42 ∧ y42 ≤ 255 := ey42 ▸ hRs25.2.1 0 _ (by show _ < 1600; have : (0 : Int) ≤ gI s25 1 ∧ gI s25 1 ≤ 1600 := hRs25.1 1; have : (0 : Int) ≤ gI s 1 ∧ gI s 1 ≤ 1600 := hRs.1 1; omega)
              refine wp_rdIn (by have : (0 : Int) ≤ gI s25 1 ∧ gI s25 1 ≤ 1600 := hRs25.1 1; have : (0 : Int) ≤ gI s 1 ∧ gI s 1 ≤ 1600 := hRs.1 1; omega) (fun y43 ey43 => ?_)
              have by43 : (0 : Int) ≤ y43 ∧ y43 ≤ 255 := ey43 ▸ hRs25.2.1 0 _ (by show _ < 1600; have : (0 : Int) ≤ gI s25 1 ∧ gI s25 1 ≤ 1600 := hRs25.1 1; have : (0 : Int) ≤ gI s 1 ∧ gI s 1 ≤ 1600 := hRs.1 1; omega)
              refine wp_rg (by have : (0 : Int) ≤ gI s25 1 ∧ gI s25 1 ≤ 1600 := hRs25.1 1; have : (0 : Int) ≤ gI s 1 ∧ gI s 1 ≤ 1600 := hRs.1 1; omega) ?_
              refine wp_if (fun c7 => ?_) (fun c7 => ?_)
              · skip
                unfold m_x12_see_J101
                unfold m_x12_see_J102
                exact ih36 x22 0 (x24 + 4) s25 hRs25 (by show x22 = gI s 1; have : (0 : Int) ≤ gI s25 1 ∧ gI s25 1 ≤ 1600 := hRs25.1 1; have : (0 : Int) ≤ gI s 1 ∧ gI s 1 ≤ 1600 := hRs.1 1; omega) (by show (0 : Int) = 0 ∨ ((0 : Int) = 1 ∧ gI s 1 % 4 = 0 ∧ gI s 1 ≤ 48); have : (0 : Int) ≤ gI s25 1 ∧ gI s25 1 ≤ 1600 := hRs25.1 1; have : (0 : Int) ≤ gI s 1 ∧ gI s 1 ≤ 1600 := hRs.1 1; omega) (by show 0 ≤ (x24 + 4) ∧ (x24 + 4) % 4 = 0 ∧ (x24 + 4) ≤ 1604; have : (0 : Int) ≤ gI s25 1 ∧ gI s25 1 ≤ 1600 := hRs25.1 1; have : (0 : Int) ≤ gI s 1 ∧ gI s 1 ≤ 1600 := hRs.1 1; omega) (hv36_3) (by have : (0 : Int) ≤ gI s25 1 ∧ gI s25 1 ≤ 1600 := hRs25.1 1; have : (0 : Int) ≤ gI s 1 ∧ gI s 1 ≤ 1600 := hRs.1 1; omega)
              · skip
                unfold m_x12_see_J102
                exact ih36 x22 1 (x24 + 4) s25 hRs25 (by show x22 = gI s 1; have : (0 : Int) ≤ gI s25 1 ∧ gI s25 1 ≤ 1600 := hRs25.1 1; have : (0 : Int) ≤ gI s 1 ∧ gI s 1 ≤ 1600 := hRs.1 1; omega) (by show (1 : Int) = 0 ∨ ((1 : Int) = 1 ∧ gI s 1 % 4 = 0 ∧ gI s 1 ≤ 48); have : (0 : Int) ≤ gI s25 1 ∧ gI s25 1 ≤ 1600 := hRs25.1 1; have : (0 : Int) ≤ gI s 1 ∧ gI s 1 ≤ 1600 := hRs.1 1; omega) (by show 0 ≤ (x24 + 4) ∧ (x24 + 4) % 4 = 0 ∧ (x24 + 4) ≤ 1604; have : (0 : Int) ≤ gI s25 1 ∧ gI s25 1 ≤ 1600 := hRs25.1 1; have : (0 : Int) ≤ gI s 1 ∧ gI s 1 ≤ 1600 := hRs.1 1; omega) (hv36_3) (by have : (0 : Int) ≤ gI s25 1 ∧ gI s25 1 ≤ 1600 := hRs25.1 1; have : (0 : Int) ≤ gI s 1 ∧ gI s 1 ≤ 1600 := hRs.1 1; omega)
    exact L36 FU (gI s 1) 0 0 s51 hRs51 (by show (gI s 1) = gI s 1; have : (0 : Int) ≤ gI s 1 ∧ gI s 1 ≤ 1600 := hRs.1 1; omega) (by show (0 : Int) = 0 ∨ ((0 : Int) = 1 ∧ gI s 1 % 4 = 0 ∧ gI s 1 ≤ 48); have : (0 : Int) ≤ gI s 1 ∧ gI s 1 ≤ 1600 := hRs.1 1; omega) (by show 0 ≤ (0 : Int) ∧ (0 : Int) % 4 = 0 ∧ (0 : Int) ≤ 1604; have : (0 : Int) ≤ gI s 1 ∧ gI s 1 ≤ 1600 := hRs.1 1; omega) (⟨J51, g51⟩) (by have := FU_big; have := FU_big2; have : (0 : Int) ≤ gI s 1 ∧ gI s 1 ≤ 1600 := hRs.1 1; omega)
  · skip
    refine wp_dv (by have : (0 : Int) ≤ gI s 1 ∧ gI s 1 ≤ 1600 := hRs.1 1; omega) ?_
    refine wp_rg (by have : (0 : Int) ≤ gI s 1 ∧ gI s 1 ≤ 1600 := hRs.1 1; omega) ?_
    refine wp_if (fun c8 => ?_) (fun c8 => ?_)
    · skip
      refine wp_dv (by have : (0 : Int) ≤ gI s 1 ∧ gI s 1 ≤ 1600 := hRs.1 1; omega) ?_
      refine wp_rg (by have : (0 : Int) ≤ gI s 1 ∧ gI s 1 ≤ 1600 := hRs.1 1; omega) ?_
      refine wp_if (fun c9 => ?_) (fun c9 => ?_)
      · skip
        unfold m_x12_see_J32
        unfold m_x12_see_J33
        have L36 : ∀ (n : Nat) (x22 : Int) (x23 : Int) (x24 : Int) (s25 : MS), Rr s25 → (x22 = gI s 1) → (x23 = 0 ∨ (x23 = 1 ∧ gI s 1 % 4 = 0 ∧ gI s 1 ≤ 48)) → (0 ≤ x24 ∧ x24 % 4 = 0 ∧ x24 ≤ 1604) → (JI s25 ∧ gI s25 1 = 0) → (1604 - x24) < (n : Int) → wp (m_x12_see_L36 n x22 x23 x24 s25) (fun q => (Rr q.2) ∧ (JI q.2) ∧ (gI q.2 1 = 0)) := by
          refine fr_ind (fun x22 x23 x24 s25 hRs25 hv36_0 hv36_1 hv36_2 hv36_3 hm36 => ?_) (fun n36 ih36 x22 x23 x24 s25 hRs25 hv36_0 hv36_1 hv36_2 hv36_3 hm36 => ?_)
          · exfalso; have : (0 : Int) ≤ gI s25 1 ∧ gI s25 1 ≤ 1600 := hRs25.1 1; have : (0 : Int) ≤ gI s 1 ∧ gI s 1 ≤ 1600 := hRs.1 1; omega
          · show wp (m_x12_see_b36 (m_x12_see_L36 n36) x22 x23 x24 s25) _
            unfold m_x12_see_b36
            refine wp_rg (by have : (0 : Int) ≤ gI s25 1 ∧ gI s25 1 ≤ 1600 := hRs25.1 1; have : (0 : Int) ≤ gI s 1 ∧ gI s 1 ≤ 1600 := hRs.1 1; omega) ?_
            refine wp_rg (by have : (0 : Int) ≤ gI s25 1 ∧ gI s25 1 ≤ 1600 := hRs25.1 1; have : (0 : Int) ≤ gI s 1 ∧ gI s 1 ≤ 1600 := hRs.1 1; omega) ?_
            refine wp_if (fun c10 => ?_) (fun c10 => ?_)
            · skip
              exact J109 x22 x23 s25 hRs25 (by show x22 = gI s 1; have : (0 : Int) ≤ gI s25 1 ∧ gI s25 1 ≤ 1600 := hRs25.1 1; have : (0 : Int) ≤ gI s 1 ∧ gI s 1 ≤ 1600 := hRs.1 1; omega) (by show x23 = 0 ∨ (x23 = 1 ∧ gI s 1 % 4 = 0 ∧ gI s 1 ≤ 48); have : (0 : Int) ≤ gI s25 1 ∧ gI s25 1 ≤ 1600 := hRs25.1 1; have : (0 : Int) ≤ gI s 1 ∧ gI s 1 ≤ 1600 := hRs.1 1; omega) (hv36_3)
            · skip
              refine wp_rg (by have : (0 : Int) ≤ gI s25 1 ∧ gI s25 1 ≤ 1600 := hRs25.1 1; have : (0 : Int) ≤ gI s 1 ∧ gI s 1 ≤ 1600 := hRs.1 1; omega) ?_
              refine wp_if (fun c11 => ?_) (fun c11 => ?_)
              · skip
                exact J109 x22 x23 s25 hRs25 (by show x22 = gI s 1; have : (0 : Int) ≤ gI s25 1 ∧ gI s25 1 ≤ 1600 := hRs25.1 1; have : (0 : Int) ≤ gI s 1 ∧ gI s 1 ≤ 1600 := hRs.1 1; omega) (by show x23 = 0 ∨ (x23 = 1 ∧ gI s 1 % 4 = 0 ∧ gI s 1 ≤ 48); have : (0 : Int) ≤ gI s25 1 ∧ gI s25 1 ≤ 1600 := hRs25.1 1; have : (0 : Int) ≤ gI s 1 ∧ gI s 1 ≤ 1600 := hRs.1 1; omega) (hv36_3)
              · skip
                refine wp_rdIn (by have : (0 : Int) ≤ gI s25 1 ∧ gI s25 1 ≤ 1600 := hRs25.1 1; have : (0 : Int) ≤ gI s 1 ∧ gI s 1 ≤ 1600 := hRs.1 1; omega) (fun y38 ey38 => ?_)
                have by38 : (0 : Int) ≤ y38 ∧ y38 ≤ 255 := ey38 ▸ hRs25.2.1 0 _ (by show _ < 1600; have : (0 : Int) ≤ gI s25 1 ∧ gI s25 1 ≤ 1600 := hRs25.1 1; have : (0 : Int) ≤ gI s 1 ∧ gI s 1 ≤ 1600 := hRs.1 1; omega)
                refine wp_rdIn (by have : (0 : Int) ≤ gI s25 1 ∧ gI s25 1 ≤ 1600 := hRs25.1 1; have : (0 : Int) ≤ gI s 1 ∧ gI s 1 ≤ 1600 := hRs.1 1; omega) (fun y39 ey39 => ?_)
                have by39 : (0 : Int) ≤ y39 ∧ y39 ≤ 255 := ey39 ▸ hRs25.2.1 0 _ (by show _ < 1600; have : (0 : Int) ≤ gI s25 1 ∧ gI s25 1 ≤ 1600 := hRs25.1 1; have : (0 : Int) ≤ gI s 1 ∧ gI s 1 ≤ 1600 := hRs.1 1; omega)
                refine wp_rg (by have : (0 : Int) ≤ gI s25 1 ∧ gI s25 1 ≤ 1600 := hRs25.1 1; have : (0 : Int) ≤ gI s 1 ∧ gI s 1 ≤ 1600 := hRs.1 1; omega) ?_
                refine wp_if (fun c12 => ?_) (fun c12 => ?_)
                · skip
                  unfold m_x12_see_J101
                  unfold m_x12_see_J102
                  exact ih36 x22 0 (x24 + 4) s25 hRs25 (by show x22 = gI s 1; have : (0 : Int) ≤ gI s25 1 ∧ gI s25 1 ≤ 1600 := hRs25.1 1; have : (0 : Int) ≤ gI s 1 ∧ gI s 1 ≤ 1600 := hRs.1 1; omega) (by show (0 : Int) = 0 ∨ ((0 : Int) = 1 ∧ gI s 1 % 4 = 0 ∧ gI s 1 ≤ 48); have : (0 : Int) ≤ gI s25 1 ∧ gI s25 1 ≤ 1600 := hRs25.1 1; have : (0 : Int) ≤ gI s 1 ∧ gI s 1 ≤ 1600 := hRs.1 1; omega) (by show 0 ≤ (x24 + 4) ∧ (x24 + 4) % 4 = 0 ∧ (x24 + 4) ≤ 1604; have : (0 : Int) ≤ gI s25 1 ∧ gI s25 1 ≤ 1600 := hRs25.1 1; have : (0 : Int) ≤ gI s 1 ∧ gI s 1 ≤ 1600 := hRs.1 1; omega) (hv36_3) (by have : (0 : Int) ≤ gI s25 1 ∧ gI s25 1 ≤ 1600 := hRs25.1 1; have : (0 : Int) ≤ gI s 1 ∧ gI s 1 ≤ 1600 := hRs.1 1; omega)
                · skip
                  refine wp_rdIn (by have : (0 : Int) ≤ gI s25 1 ∧ gI s25 1 ≤ 1600 := hRs25.1 1; have : (0 : Int) ≤ gI s 1 ∧ gI s 1 ≤ 1600 := hRs.1 1; omega) (fun y42 ey42 => ?_)
                  have by42 : (0 : Int) ≤ y42 ∧ y42 ≤ 255 := ey42 ▸ hRs25.2.1 0 _ (by show _ < 1600; have : (0 : Int) ≤ gI s25 1 ∧ gI s25 1 ≤ 1600 := hRs25.1 1; have : (0 : Int) ≤ gI s 1 ∧ gI s 1 ≤ 1600 := hRs.1 1; omega)
                  refine wp_rdIn (by have : (0 : Int) ≤ gI s25 1 ∧ gI s25 1 ≤ 1600 := hRs25.1 1; have : (0 : Int) ≤ gI s 1 ∧ gI s 1 ≤ 1600 := hRs.1 1; omega) (fun y43 ey43 => ?_)
                  have by43 : (0 : Int) ≤ y43 ∧ y43 ≤ 255 := ey43 ▸ hRs25.2.1 0 _ (by show _ < 1600; have : (0 : Int) ≤ gI s25 1 ∧ gI s25 1 ≤ 1600 := hRs25.1 1; have : (0 : Int) ≤ gI s 1 ∧ gI s 1 ≤ 1600 := hRs.1 1; omega)
                  refine wp_rg (by have : (0 : Int) ≤ gI s25 1 ∧ gI s25 1 ≤ 1600 := hRs25.1 1; have : (0 : Int) ≤ gI s 1 ∧ gI s 1 ≤ 1600 := hRs.1 1; omega) ?_
                  refine wp_if (fun c13 => ?_) (fun c13 => ?_)
                  · skip
                    unfold m_x12_see_J101
                    unfold m_x12_see_J102
                    exact ih36 x22 0 (x24 + 4) s25 hRs25 (by show x22 = gI s 1; have : (0 : Int) ≤ gI s25 1 ∧ gI s25 1 ≤ 1600 := hRs25.1 1; have : (0 : Int) ≤ gI s 1 ∧ gI s 1 ≤ 1600 := hRs.1 1; omega) (by show (0 : Int) = 0 ∨ ((0 : Int) = 1 ∧ gI s 1 % 4 = 0 ∧ gI s 1 ≤ 48); have : (0 : Int) ≤ gI s25 1 ∧ gI s25 1 ≤ 1600 := hRs25.1 1; have : (0 : Int) ≤ gI s 1 ∧ gI s 1 ≤ 1600 := hRs.1 1; omega) (by show 0 ≤ (x24 + 4) ∧ (x24 + 4) % 4 = 0 ∧ (x24 + 4) ≤ 1604; have : (0 : Int) ≤ gI s25 1 ∧ gI s25 1 ≤ 1600 := hRs25.1 1; have : (0 : Int) ≤ gI s 1 ∧ gI s 1 ≤ 1600 := hRs.1 1; omega) (hv36_3) (by have : (0 : Int) ≤ gI s25 1 ∧ gI s25 1 ≤ 1600 := hRs25.1 1; have : (0 : Int) ≤ gI s 1 ∧ gI s 1 ≤ 1600 := hRs.1 1; omega)
                  · skip
                    unfold m_x12_see_J102
                    exact ih36 x22 1 (x24 + 4) s25 hRs25 (by show x22 = gI s 1; have : (0 : Int) ≤ gI s25 1 ∧ gI s25 1 ≤ 1600 := hRs25.1 1; have : (0 : Int) ≤ gI s 1 ∧ gI s 1 ≤ 1600 := hRs.1 1; omega) (by show (1 : Int) = 0 ∨ ((1 : Int) = 1 ∧ gI s 1 % 4 = 0 ∧ gI s 1 ≤ 48); have : (0 : Int) ≤ gI s25 1 ∧ gI s25 1 ≤ 1600 := hRs25.1 1; have : (0 : Int) ≤ gI s 1 ∧ gI s 1 ≤ 1600 := hRs.1 1; omega) (by show 0 ≤ (x24 + 4) ∧ (x24 + 4) % 4 = 0 ∧ (x24 + 4) ≤ 1604; have : (0 : Int) ≤ gI s25 1 ∧ gI s25 1 ≤ 1600 := hRs25.1 1; have : (0 : Int) ≤ gI s 1 ∧ gI s 1 ≤ 1600 := hRs.1 1; omega) (hv36_3) (by have : (0 : Int) ≤ gI s25 1 ∧ gI s25 1 ≤ 1600 := hRs25.1 1; have : (0 : Int) ≤ gI s 1 ∧ gI s 1 ≤ 1600 := hRs.1 1; omega)
        exact L36 FU (gI s 1) 0 0 s51 hRs51 (by show (gI s 1) = gI s 1; have : (0 : Int) ≤ gI s 1 ∧ gI s 1 ≤ 1600 := hRs.1 1; omega) (by show (0 : Int) = 0 ∨ ((0 : Int) = 1 ∧ gI s 1 % 4 = 0 ∧ gI s 1 ≤ 48); have : (0 : Int) ≤ gI s 1 ∧ gI s 1 ≤ 1600 := hRs.1 1; omega) (by show 0 ≤ (0 : Int) ∧ (0 : Int) % 4 = 0 ∧ (0 : Int) ≤ 1604; have : (0 : Int) ≤ gI s 1 ∧ gI s 1 ≤ 1600 := hRs.1 1; omega) (⟨J51, g51⟩) (by have := FU_big; have := FU_big2; have : (0 : Int) ≤ gI s 1 ∧ gI s 1 ≤ 1600 := hRs.1 1; omega)
      · skip
        unfold m_x12_see_J33
        have L36 : ∀ (n : Nat) (x22 : Int) (x23 : Int) (x24 : Int) (s25 : MS), Rr s25 → (x22 = gI s 1) → (x23 = 0 ∨ (x23 = 1 ∧ gI s 1 % 4 = 0 ∧ gI s 1 ≤ 48)) → (0 ≤ x24 ∧ x24 % 4 = 0 ∧ x24 ≤ 1604) → (JI s25 ∧ gI s25 1 = 0) → (1604 - x24) < (n : Int) → wp (m_x12_see_L36 n x22 x23 x24 s25) (fun q => (Rr q.2) ∧ (JI q.2) ∧ (gI q.2 1 = 0)) := by
          refine fr_ind (fun x22 x23 x24 s25 hRs25 hv36_0 hv36_1 hv36_2 hv36_3 hm36 => ?_) (fun n36 ih36 x22 x23 x24 s25 hRs25 hv36_0 hv36_1 hv36_2 hv36_3 hm36 => ?_)
          · exfalso; have : (0 : Int) ≤ gI s25 1 ∧ gI s25 1 ≤ 1600 := hRs25.1 1; have : (0 : Int) ≤ gI s 1 ∧ gI s 1 ≤ 1600 := hRs.1 1; omega
          · show wp (m_x12_see_b36 (m_x12_see_L36 n36) x22 x23 x24 s25) _
            unfold m_x12_see_b36
            refine wp_rg (by have : (0 : Int) ≤ gI s25 1 ∧ gI s25 1 ≤ 1600 := hRs25.1 1; have : (0 : Int) ≤ gI s 1 ∧ gI s 1 ≤ 1600 := hRs.1 1; omega) ?_
            refine wp_rg (by have : (0 : Int) ≤ gI s25 1 ∧ gI s25 1 ≤ 1600 := hRs25.1 1; have : (0 : Int) ≤ gI s 1 ∧ gI s 1 ≤ 1600 := hRs.1 1; omega) ?_
            refine wp_if (fun c14 => ?_) (fun c14 => ?_)
            · skip
              exact J109 x22 x23 s25 hRs25 (by show x22 = gI s 1; have : (0 : Int) ≤ gI s25 1 ∧ gI s25 1 ≤ 1600 := hRs25.1 1; have : (0 : Int) ≤ gI s 1 ∧ gI s 1 ≤ 1600 := hRs.1 1; omega) (by show x23 = 0 ∨ (x23 = 1 ∧ gI s 1 % 4 = 0 ∧ gI s 1 ≤ 48); have : (0 : Int) ≤ gI s25 1 ∧ gI s25 1 ≤ 1600 := hRs25.1 1; have : (0 : Int) ≤ gI s 1 ∧ gI s 1 ≤ 1600 := hRs.1 1; omega) (hv36_3)
            · skip
              refine wp_rg (by have : (0 : Int) ≤ gI s25 1 ∧ gI s25 1 ≤ 1600 := hRs25.1 1; have : (0 : Int) ≤ gI s 1 ∧ gI s 1 ≤ 1600 := hRs.1 1; omega) ?_
              refine wp_if (fun c15 => ?_) (fun c15 => ?_)
              · skip
                exact J109 x22 x23 s25 hRs25 (by show x22 = gI s 1; have : (0 : Int) ≤ gI s25 1 ∧ gI s25 1 ≤ 1600 := hRs25.1 1; have : (0 : Int) ≤ gI s 1 ∧ gI s 1 ≤ 1600 := hRs.1 1; omega) (by show x23 = 0 ∨ (x23 = 1 ∧ gI s 1 % 4 = 0 ∧ gI s 1 ≤ 48); have : (0 : Int) ≤ gI s25 1 ∧ gI s25 1 ≤ 1600 := hRs25.1 1; have : (0 : Int) ≤ gI s 1 ∧ gI s 1 ≤ 1600 := hRs.1 1; omega) (hv36_3)
              · skip
                refine wp_rdIn (by have : (0 : Int) ≤ gI s25 1 ∧ gI s25 1 ≤ 1600 := hRs25.1 1; have : (0 : Int) ≤ gI s 1 ∧ gI s 1 ≤ 1600 := hRs.1 1; omega) (fun y38 ey38 => ?_)
                have by38 : (0 : Int) ≤ y38 ∧ y38 ≤ 255 := ey38 ▸ hRs25.2.1 0 _ (by show _ < 1600; have : (0 : Int) ≤ gI s25 1 ∧ gI s25 1 ≤ 1600 := hRs25.1 1; have : (0 : Int) ≤ gI s 1 ∧ gI s 1 ≤ 1600 := hRs.1 1; omega)
                refine wp_rdIn (by have : (0 : Int) ≤ gI s25 1 ∧ gI s25 1 ≤ 1600 := hRs25.1 1; have : (0 : Int) ≤ gI s 1 ∧ gI s 1 ≤ 1600 := hRs.1 1; omega) (fun y39 ey39 => ?_)
                have by39 : (0 : Int) ≤ y39 ∧ y39 ≤ 255 := ey39 ▸ hRs25.2.1 0 _ (by show _ < 1600; have : (0 : Int) ≤ gI s25 1 ∧ gI s25 1 ≤ 1600 := hRs25.1 1; have : (0 : Int) ≤ gI s 1 ∧ gI s 1 ≤ 1600 := hRs.1 1; omega)
                refine wp_rg (by have : (0 : Int) ≤ gI s25 1 ∧ gI s25 1 ≤ 1600 := hRs25.1 1; have : (0 : Int) ≤ gI s 1 ∧ gI s 1 ≤ 1600 := hRs.1 1; omega) ?_
                refine wp_if (fun c16 => ?_) (fun c16 => ?_)
                · skip
                  unfold m_x12_see_J101
                  unfold m_x12_see_J102
                  exact ih36 x22 0 (x24 + 4) s25 hRs25 (by show x22 = gI s 1; have : (0 : Int) ≤ gI s25 1 ∧ gI s25 1 ≤ 1600 := hRs25.1 1; have : (0 : Int) ≤ gI s 1 ∧ gI s 1 ≤ 1600 := hRs.1 1; omega) (by show (0 : Int) = 0 ∨ ((0 : Int) = 1 ∧ gI s 1 % 4 = 0 ∧ gI s 1 ≤ 48); have : (0 : Int) ≤ gI s25 1 ∧ gI s25 1 ≤ 1600 := hRs25.1 1; have : (0 : Int) ≤ gI s 1 ∧ gI s 1 ≤ 1600 := hRs.1 1; omega) (by show 0 ≤ (x24 + 4) ∧ (x24 + 4) % 4 = 0 ∧ (x24 + 4) ≤ 1604; have : (0 : Int) ≤ gI s25 1 ∧ gI s25 1 ≤ 1600 := hRs25.1 1; have : (0 : Int) ≤ gI s 1 ∧ gI s 1 ≤ 1600 := hRs.1 1; omega) (hv36_3) (by have : (0 : Int) ≤ gI s25 1 ∧ gI s25 1 ≤ 1600 := hRs25.1 1; have : (0 : Int) ≤ gI s 1 ∧ gI s 1 ≤ 1600 := hRs.1 1; omega)
                · skip
                  refine wp_rdIn (by have : (0 : Int) ≤ gI s25 1 ∧ gI s25 1 ≤ 1600 := hRs25.1 1; have : (0 : Int) ≤ gI s 1 ∧ gI s 1 ≤ 1600 := hRs.1 1; omega) (fun y42 ey42 => ?_)
                  have by42 : (0 : Int) ≤ y42 ∧ y42 ≤ 255 := ey42 ▸ hRs25.2.1 0 _ (by show _ < 1600; have : (0 : Int) ≤ gI s25 1 ∧ gI s25 1 ≤ 1600 := hRs25.1 1; have : (0 : Int) ≤ gI s 1 ∧ gI s 1 ≤ 1600 := hRs.1 1; omega)
                  refine wp_rdIn (by have : (0 : Int) ≤ gI s25 1 ∧ gI s25 1 ≤ 1600 := hRs25.1 1; have : (0 : Int) ≤ gI s 1 ∧ gI s 1 ≤ 1600 := hRs.1 1; omega) (fun y43 ey43 => ?_)
                  have by43 : (0 : Int) ≤ y43 ∧ y43 ≤ 255 := ey43 ▸ hRs25.2.1 0 _ (by show _ < 1600; have : (0 : Int) ≤ gI s25 1 ∧ gI s25 1 ≤ 1600 := hRs25.1 1; have : (0 : Int) ≤ gI s 1 ∧ gI s 1 ≤ 1600 := hRs.1 1; omega)
                  refine wp_rg (by have : (0 : Int) ≤ gI s25 1 ∧ gI s25 1 ≤ 1600 := hRs25.1 1; have : (0 : Int) ≤ gI s 1 ∧ gI s 1 ≤ 1600 := hRs.1 1; omega) ?_
                  refine wp_if (fun c17 => ?_) (fun c17 => ?_)
                  · skip
                    unfold m_x12_see_J101
                    unfold m_x12_see_J102
                    exact ih36 x22 0 (x24 + 4) s25 hRs25 (by show x22 = gI s 1; have : (0 : Int) ≤ gI s25 1 ∧ gI s25 1 ≤ 1600 := hRs25.1 1; have : (0 : Int) ≤ gI s 1 ∧ gI s 1 ≤ 1600 := hRs.1 1; omega) (by show (0 : Int) = 0 ∨ ((0 : Int) = 1 ∧ gI s 1 % 4 = 0 ∧ gI s 1 ≤ 48); have : (0 : Int) ≤ gI s25 1 ∧ gI s25 1 ≤ 1600 := hRs25.1 1; have : (0 : Int) ≤ gI s 1 ∧ gI s 1 ≤ 1600 := hRs.1 1; omega) (by show 0 ≤ (x24 + 4) ∧ (x24 + 4) % 4 = 0 ∧ (x24 + 4) ≤ 1604; have : (0 : Int) ≤ gI s25 1 ∧ gI s25 1 ≤ 1600 := hRs25.1 1; have : (0 : Int) ≤ gI s 1 ∧ gI s 1 ≤ 1600 := hRs.1 1; omega) (hv36_3) (by have : (0 : Int) ≤ gI s25 1 ∧ gI s25 1 ≤ 1600 := hRs25.1 1; have : (0 : Int) ≤ gI s 1 ∧ gI s 1 ≤ 1600 := hRs.1 1; omega)
                  · skip
                    unfold m_x12_see_J102
                    exact ih36 x22 1 (x24 + 4) s25 hRs25 (by show x22 = gI s 1; have : (0 : Int) ≤ gI s25 1 ∧ gI s25 1 ≤ 1600 := hRs25.1 1; have : (0 : Int) ≤ gI s 1 ∧ gI s 1 ≤ 1600 := hRs.1 1; omega) (by show (1 : Int) = 0 ∨ ((1 : Int) = 1 ∧ gI s 1 % 4 = 0 ∧ gI s 1 ≤ 48); have : (0 : Int) ≤ gI s25 1 ∧ gI s25 1 ≤ 1600 := hRs25.1 1; have : (0 : Int) ≤ gI s 1 ∧ gI s 1 ≤ 1600 := hRs.1 1; omega) (by show 0 ≤ (x24 + 4) ∧ (x24 + 4) % 4 = 0 ∧ (x24 + 4) ≤ 1604; have : (0 : Int) ≤ gI s25 1 ∧ gI s25 1 ≤ 1600 := hRs25.1 1; have : (0 : Int) ≤ gI s 1 ∧ gI s 1 ≤ 1600 := hRs.1 1; omega) (hv36_3) (by have : (0 : Int) ≤ gI s25 1 ∧ gI s25 1 ≤ 1600 := hRs25.1 1; have : (0 : Int) ≤ gI s 1 ∧ gI s 1 ≤ 1600 := hRs.1 1; omega)
        exact L36 FU (gI s 1) 1 0 s51 hRs51 (by show (gI s 1) = gI s 1; have : (0 : Int) ≤ gI s 1 ∧ gI s 1 ≤ 1600 := hRs.1 1; omega) (by show (1 : Int) = 0 ∨ ((1 : Int) = 1 ∧ gI s 1 % 4 = 0 ∧ gI s 1 ≤ 48); have : (0 : Int) ≤ gI s 1 ∧ gI s 1 ≤ 1600 := hRs.1 1; omega) (by show 0 ≤ (0 : Int) ∧ (0 : Int) % 4 = 0 ∧ (0 : Int) ≤ 1604; have : (0 : Int) ≤ gI s 1 ∧ gI s 1 ≤ 1600 := hRs.1 1; omega) (⟨J51, g51⟩) (by have := FU_big; have := FU_big2; have : (0 : Int) ≤ gI s 1 ∧ gI s 1 ≤ 1600 := hRs.1 1; omega)
    · skip
      unfold m_x12_see_J32
      unfold m_x12_see_J33
      have L36 : ∀ (n : Nat) (x22 : Int) (x23 : Int) (x24 : Int) (s25 : MS), Rr s25 → (x22 = gI s 1) → (x23 = 0 ∨ (x23 = 1 ∧ gI s 1 % 4 = 0 ∧ gI s 1 ≤ 48)) → (0 ≤ x24 ∧ x24 % 4 = 0 ∧ x24 ≤ 1604) → (JI s25 ∧ gI s25 1 = 0) → (1604 - x24) < (n : Int) → wp (m_x12_see_L36 n x22 x23 x24 s25) (fun q => (Rr q.2) ∧ (JI q.2) ∧ (gI q.2 1 = 0)) := by
        refine fr_ind (fun x22 x23 x24 s25 hRs25 hv36_0 hv36_1 hv36_2 hv36_3 hm36 => ?_) (fun n36 ih36 x22 x23 x24 s25 hRs25 hv36_0 hv36_1 hv36_2 hv36_3 hm36 => ?_)
        · exfalso; have : (0 : Int) ≤ gI s25 1 ∧ gI s25 1 ≤ 1600 := hRs25.1 1; have : (0 : Int) ≤ gI s 1 ∧ gI s 1 ≤ 1600 := hRs.1 1; omega
        · show wp (m_x12_see_b36 (m_x12_see_L36 n36) x22 x23 x24 s25) _
          unfold m_x12_see_b36
          refine wp_rg (by have : (0 : Int) ≤ gI s25 1 ∧ gI s25 1 ≤ 1600 := hRs25.1 1; have : (0 : Int) ≤ gI s 1 ∧ gI s 1 ≤ 1600 := hRs.1 1; omega) ?_
          refine wp_rg (by have : (0 : Int) ≤ gI s25 1 ∧ gI s25 1 ≤ 1600 := hRs25.1 1; have : (0 : Int) ≤ gI s 1 ∧ gI s 1 ≤ 1600 := hRs.1 1; omega) ?_
          refine wp_if (fun c18 => ?_) (fun c18 => ?_)
          · skip
            exact J109 x22 x23 s25 hRs25 (by show x22 = gI s 1; have : (0 : Int) ≤ gI s25 1 ∧ gI s25 1 ≤ 1600 := hRs25.1 1; have : (0 : Int) ≤ gI s 1 ∧ gI s 1 ≤ 1600 := hRs.1 1; omega) (by show x23 = 0 ∨ (x23 = 1 ∧ gI s 1 % 4 = 0 ∧ gI s 1 ≤ 48); have : (0 : Int) ≤ gI s25 1 ∧ gI s25 1 ≤ 1600 := hRs25.1 1; have : (0 : Int) ≤ gI s 1 ∧ gI s 1 ≤ 1600 := hRs.1 1; omega) (hv36_3)
          · skip
            refine wp_rg (by have : (0 : Int) ≤ gI s25 1 ∧ gI s25 1 ≤ 1600 := hRs25.1 1; have : (0 : Int) ≤ gI s 1 ∧ gI s 1 ≤ 1600 := hRs.1 1; omega) ?_
            refine wp_if (fun c19 => ?_) (fun c19 => ?_)
            · skip
              exact J109 x22 x23 s25 hRs25 (by show x22 = gI s 1; have : (0 : Int) ≤ gI s25 1 ∧ gI s25 1 ≤ 1600 := hRs25.1 1; have : (0 : Int) ≤ gI s 1 ∧ gI s 1 ≤ 1600 := hRs.1 1; omega) (by show x23 = 0 ∨ (x23 = 1 ∧ gI s 1 % 4 = 0 ∧ gI s 1 ≤ 48); have : (0 : Int) ≤ gI s25 1 ∧ gI s25 1 ≤ 1600 := hRs25.1 1; have : (0 : Int) ≤ gI s 1 ∧ gI s 1 ≤ 1600 := hRs.1 1; omega) (hv36_3)
            · skip
              refine wp_rdIn (by have : (0 : Int) ≤ gI s25 1 ∧ gI s25 1 ≤ 1600 := hRs25.1 1; have : (0 : Int) ≤ gI s 1 ∧ gI s 1 ≤ 1600 := hRs.1 1; omega) (fun y38 ey38 => ?_)
              have by38 : (0 : Int) ≤ y38 ∧ y38 ≤ 255 := ey38 ▸ hRs25.2.1 0 _ (by show _ < 1600; have : (0 : Int) ≤ gI s25 1 ∧ gI s25 1 ≤ 1600 := hRs25.1 1; have : (0 : Int) ≤ gI s 1 ∧ gI s 1 ≤ 1600 := hRs.1 1; omega)
              refine wp_rdIn (by have : (0 : Int) ≤ gI s25 1 ∧ gI s25 1 ≤ 1600 := hRs25.1 1; have : (0 : Int) ≤ gI s 1 ∧ gI s 1 ≤ 1600 := hRs.1 1; omega) (fun y39 ey39 => ?_)
              have by39 : (0 : Int) ≤ y39 ∧ y39 ≤ 255 := ey39 ▸ hRs25.2.1 0 _ (by show _ < 1600; have : (0 : Int) ≤ gI s25 1 ∧ gI s25 1 ≤ 1600 := hRs25.1 1; have : (0 : Int) ≤ gI s 1 ∧ gI s 1 ≤ 1600 := hRs.1 1; omega)
              refine wp_rg (by have : (0 : Int) ≤ gI s25 1 ∧ gI s25 1 ≤ 1600 := hRs25.1 1; have : (0 : Int) ≤ gI s 1 ∧ gI s 1 ≤ 1600 := hRs.1 1; omega) ?_
              refine wp_if (fun c20 => ?_) (fun c20 => ?_)
              · skip
                unfold m_x12_see_J101
                unfold m_x12_see_J102
                exact ih36 x22 0 (x24 + 4) s25 hRs25 (by show x22 = gI s 1; have : (0 : Int) ≤ gI s25 1 ∧ gI s25 1 ≤ 1600 := hRs25.1 1; have : (0 : Int) ≤ gI s 1 ∧ gI s 1 ≤ 1600 := hRs.1 1; omega) (by show (0 : Int) = 0 ∨ ((0 : Int) = 1 ∧ gI s 1 % 4 = 0 ∧ gI s 1 ≤ 48); have : (0 : Int) ≤ gI s25 1 ∧ gI s25 1 ≤ 1600 := hRs25.1 1; have : (0 : Int) ≤ gI s 1 ∧ gI s 1 ≤ 1600 := hRs.1 1; omega) (by show 0 ≤ (x24 + 4) ∧ (x24 + 4) % 4 = 0 ∧ (x24 + 4) ≤ 1604; have : (0 : Int) ≤ gI s25 1 ∧ gI s25 1 ≤ 1600 := hRs25.1 1; have : (0 : Int) ≤ gI s 1 ∧ gI s 1 ≤ 1600 := hRs.1 1; omega) (hv36_3) (by have : (0 : Int) ≤ gI s25 1 ∧ gI s25 1 ≤ 1600 := hRs25.1 1; have : (0 : Int) ≤ gI s 1 ∧ gI s 1 ≤ 1600 := hRs.1 1; omega)
              · skip
                refine wp_rdIn (by have : (0 : Int) ≤ gI s25 1 ∧ gI s25 1 ≤ 1600 := hRs25.1 1; have : (0 : Int) ≤ gI s 1 ∧ gI s 1 ≤ 1600 := hRs.1 1; omega) (fun y42 ey42 => ?_)
                have by42 : (0 : Int) ≤ y42 ∧ y42 ≤ 255 := ey42 ▸ hRs25.2.1 0 _ (by show _ < 1600; have : (0 : Int) ≤ gI s25 1 ∧ gI s25 1 ≤ 1600 := hRs25.1 1; have : (0 : Int) ≤ gI s 1 ∧ gI s 1 ≤ 1600 := hRs.1 1; omega)
                refine wp_rdIn (by have : (0 : Int) ≤ gI s25 1 ∧ gI s25 1 ≤ 1600 := hRs25.1 1; have : (0 : Int) ≤ gI s 1 ∧ gI s 1 ≤ 1600 := hRs.1 1; omega) (fun y43 ey43 => ?_)
                have by43 : (0 : Int) ≤ y43 ∧ y43 ≤ 255 := ey43 ▸ hRs25.2.1 0 _ (by show _ < 1600; have : (0 : Int) ≤ gI s25 1 ∧ gI s25 1 ≤ 1600 := hRs25.1 1; have : (0 : Int) ≤ gI s 1 ∧ gI s 1 ≤ 1600 := hRs.1 1; omega)
                refine wp_rg (by have : (0 : Int) ≤ gI s25 1 ∧ gI s25 1 ≤ 1600 := hRs25.1 1; have : (0 : Int) ≤ gI s 1 ∧ gI s 1 ≤ 1600 := hRs.1 1; omega) ?_
                refine wp_if (fun c21 => ?_) (fun c21 => ?_)
                · skip
                  unfold m_x12_see_J101
                  unfold m_x12_see_J102
                  exact ih36 x22 0 (x24 + 4) s25 hRs25 (by show x22 = gI s 1; have : (0 : Int) ≤ gI s25 1 ∧ gI s25 1 ≤ 1600 := hRs25.1 1; have : (0 : Int) ≤ gI s 1 ∧ gI s 1 ≤ 1600 := hRs.1 1; omega) (by show (0 : Int) = 0 ∨ ((0 : Int) = 1 ∧ gI s 1 % 4 = 0 ∧ gI s 1 ≤ 48); have : (0 : Int) ≤ gI s25 1 ∧ gI s25 1 ≤ 1600 := hRs25.1 1; have : (0 : Int) ≤ gI s 1 ∧ gI s 1 ≤ 1600 := hRs.1 1; omega) (by show 0 ≤ (x24 + 4) ∧ (x24 + 4) % 4 = 0 ∧ (x24 + 4) ≤ 1604; have : (0 : Int) ≤ gI s25 1 ∧ gI s25 1 ≤ 1600 := hRs25.1 1; have : (0 : Int) ≤ gI s 1 ∧ gI s 1 ≤ 1600 := hRs.1 1; omega) (hv36_3) (by have : (0 : Int) ≤ gI s25 1 ∧ gI s25 1 ≤ 1600 := hRs25.1 1; have : (0 : Int) ≤ gI s 1 ∧ gI s 1 ≤ 1600 := hRs.1 1; omega)
                · skip
                  unfold m_x12_see_J102
                  exact ih36 x22 1 (x24 + 4) s25 hRs25 (by show x22 = gI s 1; have : (0 : Int) ≤ gI s25 1 ∧ gI s25 1 ≤ 1600 := hRs25.1 1; have : (0 : Int) ≤ gI s 1 ∧ gI s 1 ≤ 1600 := hRs.1 1; omega) (by show (1 : Int) = 0 ∨ ((1 : Int) = 1 ∧ gI s 1 % 4 = 0 ∧ gI s 1 ≤ 48); have : (0 : Int) ≤ gI s25 1 ∧ gI s25 1 ≤ 1600 := hRs25.1 1; have : (0 : Int) ≤ gI s 1 ∧ gI s 1 ≤ 1600 := hRs.1 1; omega) (by show 0 ≤ (x24 + 4) ∧ (x24 + 4) % 4 = 0 ∧ (x24 + 4) ≤ 1604; have : (0 : Int) ≤ gI s25 1 ∧ gI s25 1 ≤ 1600 := hRs25.1 1; have : (0 : Int) ≤ gI s 1 ∧ gI s 1 ≤ 1600 := hRs.1 1; omega) (hv36_3) (by have : (0 : Int) ≤ gI s25 1 ∧ gI s25 1 ≤ 1600 := hRs25.1 1; have : (0 : Int) ≤ gI s 1 ∧ gI s 1 ≤ 1600 := hRs.1 1; omega)
      exact L36 FU (gI s 1) 0 0 s51 hRs51 (by show (gI s 1) = gI s 1; have : (0 : Int) ≤ gI s 1 ∧ gI s 1 ≤ 1600 := hRs.1 1; omega) (by show (0 : Int) = 0 ∨ ((0 : Int) = 1 ∧ gI s 1 % 4 = 0 ∧ gI s 1 ≤ 48); have : (0 : Int) ≤ gI s 1 ∧ gI s 1 ≤ 1600 := hRs.1 1; omega) (by show 0 ≤ (0 : Int) ∧ (0 : Int) % 4 = 0 ∧ (0 : Int) ≤ 1604; have : (0 : Int) ≤ gI s 1 ∧ gI s 1 ≤ 1600 := hRs.1 1; omega) (⟨J51, g51⟩) (by have := FU_big; have := FU_big2; have : (0 : Int) ≤ gI s 1 ∧ gI s 1 ≤ 1600 := hRs.1 1; omega)
