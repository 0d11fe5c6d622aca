/-! ===== codes run ===== -/
theorem fl_d (a b : Int) {B : Int} (h : (0 - B) ≤ a ∧ a ≤ B) : (0 - B) ≤ Int.tdiv a b ∧ Int.tdiv a b ≤ B := by
  have h1 := Int.natAbs_tdiv_le_natAbs a b
  omega
theorem fl_m (a b : Int) {B : Int} (h : (0 - B) ≤ a ∧ a ≤ B) : (0 - B) ≤ Int.tmod a b ∧ Int.tmod a b ≤ B := by
  have h1 := Int.natAbs_tmod a b
  have h2 := Nat.mod_le a.natAbs b.natAbs
  omega
theorem fl_x (a b : Int) {B : Int} (h : (0 - B) ≤ a ∧ a ≤ B) (h2 : (0 - B) ≤ b ∧ b ≤ B) (hB : B ≤ 3000000000) : R8 (a * b) := by
  have h3 := Int.natAbs_mul a b
  have h4 : a.natAbs * b.natAbs ≤ 3000000000 * 3000000000 := Nat.mul_le_mul (by omega) (by omega)
  constructor <;> omega
theorem fl_01 {a b : Int} (h : a = 0 ∨ a = 1) (h2 : b = 0 ∨ b = 1) : a * b = 0 ∨ a * b = 1 := by
  rcases h with h | h <;> rcases h2 with h2 | h2 <;> rw [h, h2] <;> decide
def rn (k H : Int) (f : Nat → Int) : Nat → Nat → Int → Int → Prop
  | 0, _, h, _ => h = H
  | m + 1, i, h, U => ∃ h' U', stq k (f i) h h' U U' ∧ rn k H f m (i + 1) h' U'
theorem rn_of {k G : Int} {f : Nat → Int} {n : Nat} {h T : Int} (H : hk k f n h T) : ∀ m, rn k G f m n h T → ∃ U, U ≤ 0 ∧ rn k G f (n + m) 0 0 U := by
  induction n generalizing h T with
  | zero =>
    intro m hm
    obtain ⟨h1, h2⟩ := H
    rw [h1] at hm
    exact ⟨T, h2, by rw [Nat.zero_add]; exact hm⟩
  | succ n ih =>
    intro m hm
    obtain ⟨g, U, h1, h2⟩ := H
    have := ih h1 (m + 1) ⟨h, T, h2, hm⟩
    rw [show n + 1 + m = n + (m + 1) by omega]
    exact this
theorem rn_0 {k : Int} {f : Nat → Int} {n : Nat} {h T : Int} (H : hk k f n h T) : ∃ U, U ≤ 0 ∧ rn k h f n 0 0 U := rn_of H 0 rfl
/-- the pile: numbers within B, the lowest U are tests -/
def PL (s : MS) (U B : Int) : Prop := (∀ j : Nat, (j : Int) < gI s 108 → (0 - B) ≤ gB s 107 j ∧ gB s 107 j ≤ B) ∧ (∀ j : Nat, (j : Int) < U → gB s 107 j = 0 ∨ gB s 107 j = 1)
theorem PL_push {s o : MS} {U U' B B' v : Int} (H : PL s U B) (h108 : gI o 108 = gI s 108 + 1) (h107 : gB o 107 = upZ (gB s 107) (gI s 108).toNat v) (h0 : 0 ≤ gI s 108) (hU : U ≤ gI s 108) (hB : B ≤ B') (hv : (0 - B') ≤ v ∧ v ≤ B') (hT : U' ≤ U ∨ (gI s 108 ≤ U ∧ U' ≤ gI s 108 + 1 ∧ (v = 0 ∨ v = 1))) : PL o U' B' := by
  refine ⟨fun j hj => ?_, fun j hj => ?_⟩
  · rw [h107]
    by_cases z : j = (gI s 108).toNat
    · rw [z, upZ_s]; exact hv
    · rw [upZ_n z]
      have := H.1 j (by omega)
      omega
  · rw [h107]
    by_cases z : j = (gI s 108).toNat
    · rw [z, upZ_s]
      rcases hT with q | q
      · omega
      · exact q.2.2
    · rw [upZ_n z]
      exact H.2 j (by omega)
theorem PL_join {s o : MS} {U U' B B' w : Int} (H : PL s U B) (h108 : gI o 108 = gI s 108 - 1) (h107 : gB o 107 = upZ (gB s 107) (gI s 108 - 2).toNat w) (h0 : 2 ≤ gI s 108) (hB : B ≤ B') (hv : (0 - B') ≤ w ∧ w ≤ B') (hT : (U' ≤ U ∧ U' ≤ gI s 108 - 2) ∨ (gI s 108 - 2 ≤ U ∧ U' ≤ gI s 108 - 1 ∧ (w = 0 ∨ w = 1))) : PL o U' B' := by
  refine ⟨fun j hj => ?_, fun j hj => ?_⟩
  · rw [h107]
    by_cases z : j = (gI s 108 - 2).toNat
    · rw [z, upZ_s]; exact hv
    · rw [upZ_n z]
      have := H.1 j (by omega)
      omega
  · rw [h107]
    by_cases z : j = (gI s 108 - 2).toNat
    · rw [z, upZ_s]
      rcases hT with q | q
      · omega
      · exact q.2.2
    · rw [upZ_n z]
      exact H.2 j (by omega)
theorem PL_top {s o : MS} {U U' B B' w : Int} (H : PL s U B) (h108 : gI o 108 = gI s 108) (h107 : gB o 107 = upZ (gB s 107) (gI s 108 - 1).toNat w) (h0 : 1 ≤ gI s 108) (hB : B ≤ B') (hv : (0 - B') ≤ w ∧ w ≤ B') (hT : (U' ≤ U ∧ U' ≤ gI s 108 - 1) ∨ (gI s 108 ≤ U ∧ U' ≤ gI s 108 ∧ (w = 0 ∨ w = 1))) : PL o U' B' := by
  refine ⟨fun j hj => ?_, fun j hj => ?_⟩
  · rw [h107]
    by_cases z : j = (gI s 108 - 1).toNat
    · rw [z, upZ_s]; exact hv
    · rw [upZ_n z]
      have := H.1 j (by omega)
      omega
  · rw [h107]
    by_cases z : j = (gI s 108 - 1).toNat
    · rw [z, upZ_s]
      rcases hT with q | q
      · omega
      · exact q.2.2
    · rw [upZ_n z]
      exact H.2 j (by omega)
/-- codes that stand can be run -/
def CE (s : MS) (w : Nat) : Prop := gA s 42 (3 + w) = -1 ∨ (0 ≤ gA s 42 (3 + w) ∧ gA s 42 (3 + w) ≤ gA s 43 (3 + w) ∧ gA s 43 (3 + w) ≤ 1600 ∧ ∃ T, hk (w : Int) (fun j => gA s 44 (1600 + (gA s 42 (3 + w)).toNat + j)) (gA s 43 (3 + w) - gA s 42 (3 + w)).toNat 1 T)
theorem CE_eq {s o : MS} {w : Nat} (H : CE s w) (h42 : gA o 42 = gA s 42) (h43 : gA o 43 = gA s 43) (h44 : gA o 44 = gA s 44) : CE o w := by
  unfold CE at H ⊢
  rw [h42, h43, h44]; exact H
set_option maxHeartbeats 1000000 in
theorem w_x12_qPuts {p0 : Int} {s : MS} (hRs : Rr s) (hp0 : gI s 108 < 1700) (hp1 : R8 p0) : wp (m_x12_qPuts p0 s) (fun o => (Rr o) ∧ (gI o 108 = gI s 108 + 1) ∧ (gB o 107 = upZ (gB s 107) (gI s 108).toNat p0)) := by
  unfold m_x12_qPuts
  refine wp_inb (by have : (0 : Int) ≤ gI s 108 ∧ gI s 108 ≤ 1700 := hRs.1 108; omega) ?_
  refine wp_stn (fun s2 es2 => ?_)
  have hRs2 : Rr s2 := es2 ▸ Rr.uBu hRs (by have : (0 : Int) ≤ gI s 108 ∧ gI s 108 ≤ 1700 := hRs.1 108; omega)
  refine wp_stn (fun s3 es3 => ?_)
  have hRs3 : Rr s3 := es3 ▸ Rr.uI hRs2 (by show (0 : Int) ≤ ((gI s2 108) + 1) ∧ ((gI s2 108) + 1) ≤ 1700; have : (0 : Int) ≤ gI s 108 ∧ gI s 108 ≤ 1700 := hRs.1 108; have : gI s2 108 = gI s 108 := q_Bi es2; omega)
  exact wp_some ⟨hRs3, by show gI s3 108 = gI s 108 + 1; have : (0 : Int) ≤ gI s 108 ∧ gI s 108 ≤ 1700 := hRs.1 108; have : gI s3 108 = (gI s2 108) + 1 := q_II es3; have : gI s2 108 = gI s 108 := q_Bi es2; omega, by rw [(q_Ib es3 : gB s3 107 = gB s2 107)]; exact q_BB es2⟩
set_option maxHeartbeats 1000000 in
theorem w_x12_qClip {p0 : Int} {s : MS} (hRs : Rr s) (hp0 : R8 p0) : wp (m_x12_qClip p0 s) (fun r => ((-1000000) ≤ r ∧ r ≤ 1000000)) := by
  unfold m_x12_qClip
  refine wp_rgL (by omega) ?_
  refine wp_if (fun c1 => ?_) (fun c1 => ?_)
  · skip
    refine wp_rgL (by omega) ?_
    refine wp_if (fun c2 => ?_) (fun c2 => ?_)
    · skip
      unfold m_x12_qClip_J29
      exact wp_some (by show (-1000000) ≤ p0 ∧ p0 ≤ 1000000; omega)
    · skip
      unfold m_x12_qClip_J29
      exact wp_some (by show (-1000000) ≤ (-1000000 : Int) ∧ (-1000000 : Int) ≤ 1000000; omega)
  · skip
    unfold m_x12_qClip_J29
    exact wp_some (by show (-1000000) ≤ (1000000 : Int) ∧ (1000000 : Int) ≤ 1000000; omega)
set_option maxHeartbeats 1000000 in
theorem w_x12_qFloor {p0 : Int} {p1 : Int} {B : Int} {s : MS} (hRs : Rr s) (hp0 : (0 - B) ≤ p0 ∧ p0 ≤ B) (hp1 : (0 - B) ≤ p1 ∧ p1 ≤ B) (hp2 : 1000000 ≤ B ∧ B ≤ 3000000000) : wp (m_x12_qFloor p0 p1 s) (fun r => ((0 - B - 1) ≤ r ∧ r ≤ B + 1)) := by
  have kd := fl_d p0 p1 hp0
  have km := fl_m p0 p1 hp0
  unfold m_x12_qFloor
  refine wp_rgL (by omega) ?_
  refine wp_if (fun c1 => ?_) (fun c1 => ?_)
  · skip
    exact wp_some (by show (0 - B - 1) ≤ (0 : Int) ∧ (0 : Int) ≤ B + 1; omega)
  · skip
    refine wp_dvL (by omega) ?_
    refine wp_dvL (by omega) ?_
    refine wp_rgL (by omega) ?_
    refine wp_if (fun c2 => ?_) (fun c2 => ?_)
    · skip
      unfold m_x12_qFloor_J53
      unfold m_x12_qFloor_J55
      exact wp_some (by show (0 - B - 1) ≤ (Int.tdiv p0 p1) ∧ (Int.tdiv p0 p1) ≤ B + 1; omega)
    · skip
      refine wp_rgL (by omega) ?_
      refine wp_if (fun c3 => ?_) (fun c3 => ?_)
      · skip
        unfold m_x12_qFloor_J32
        refine wp_rgL (by omega) ?_
        refine wp_if (fun c4 => ?_) (fun c4 => ?_)
        · skip
          unfold m_x12_qFloor_J43
          refine wp_rg (by omega) ?_
          refine wp_rg (by omega) ?_
          refine wp_if (fun c5 => ?_) (fun c5 => ?_)
          · skip
            unfold m_x12_qFloor_J53
            unfold m_x12_qFloor_J55
            exact wp_some (by show (0 - B - 1) ≤ (Int.tdiv p0 p1) ∧ (Int.tdiv p0 p1) ≤ B + 1; omega)
          · skip
            unfold m_x12_qFloor_J55
            exact wp_some (by show (0 - B - 1) ≤ ((Int.tdiv p0 p1) - 1) ∧ ((Int.tdiv p0 p1) - 1) ≤ B + 1; omega)
        · skip
          unfold m_x12_qFloor_J43
          refine wp_rg (by omega) ?_
          refine wp_rg (by omega) ?_
          refine wp_if (fun c6 => ?_) (fun c6 => ?_)
          · skip
            unfold m_x12_qFloor_J53
            unfold m_x12_qFloor_J55
            exact wp_some (by show (0 - B - 1) ≤ (Int.tdiv p0 p1) ∧ (Int.tdiv p0 p1) ≤ B + 1; omega)
          · skip
            unfold m_x12_qFloor_J55
            exact wp_some (by show (0 - B - 1) ≤ ((Int.tdiv p0 p1) - 1) ∧ ((Int.tdiv p0 p1) - 1) ≤ B + 1; omega)
      · skip
        unfold m_x12_qFloor_J32
        refine wp_rgL (by omega) ?_
        refine wp_if (fun c7 => ?_) (fun c7 => ?_)
        · skip
          unfold m_x12_qFloor_J43
          refine wp_rg (by omega) ?_
          refine wp_rg (by omega) ?_
          refine wp_if (fun c8 => ?_) (fun c8 => ?_)
          · skip
            unfold m_x12_qFloor_J53
            unfold m_x12_qFloor_J55
            exact wp_some (by show (0 - B - 1) ≤ (Int.tdiv p0 p1) ∧ (Int.tdiv p0 p1) ≤ B + 1; omega)
          · skip
            unfold m_x12_qFloor_J55
            exact wp_some (by show (0 - B - 1) ≤ ((Int.tdiv p0 p1) - 1) ∧ ((Int.tdiv p0 p1) - 1) ≤ B + 1; omega)
        · skip
          unfold m_x12_qFloor_J43
          refine wp_rg (by omega) ?_
          refine wp_rg (by omega) ?_
          refine wp_if (fun c9 => ?_) (fun c9 => ?_)
          · skip
            unfold m_x12_qFloor_J53
            unfold m_x12_qFloor_J55
            exact wp_some (by show (0 - B - 1) ≤ (Int.tdiv p0 p1) ∧ (Int.tdiv p0 p1) ≤ B + 1; omega)
          · skip
            unfold m_x12_qFloor_J55
            exact wp_some (by show (0 - B - 1) ≤ ((Int.tdiv p0 p1) - 1) ∧ ((Int.tdiv p0 p1) - 1) ≤ B + 1; omega)
set_option maxHeartbeats 1000000 in
theorem w_x12_qJoins {p0 : Int} {B : Int} {s : MS} (hRs : Rr s) (hp0 : 2 ≤ gI s 108 ∧ gI s 108 ≤ 1700) (hp1 : ∀ j : Nat, (j : Int) < gI s 108 → (0 - B) ≤ gB s 107 j ∧ gB s 107 j ≤ B) (hp2 : 1000000 ≤ B ∧ B ≤ 3000000000) (hp3 : 1 ≤ p0 ∧ p0 ≤ 11) (hp4 : p0 = 10 → (gB s 107 (gI s 108 - 1).toNat = 0 ∨ gB s 107 (gI s 108 - 1).toNat = 1) ∧ (gB s 107 (gI s 108 - 2).toNat = 0 ∨ gB s 107 (gI s 108 - 2).toNat = 1)) : wp (m_x12_qJoins p0 s) (fun o => (Rr o) ∧ (gI o 108 = gI s 108 - 1) ∧ (∃ w, gB o 107 = upZ (gB s 107) (gI s 108 - 2).toNat w ∧ ((0 - B - 1) ≤ w ∧ w ≤ B + 1) ∧ (7 ≤ p0 → w = 0 ∨ w = 1))) := by
  unfold m_x12_qJoins
  refine wp_rdLn (by have : (0 : Int) ≤ gI s 108 ∧ gI s 108 ≤ 1700 := hRs.1 108; omega) (fun yl26 eyl26 => ?_)
  have b26 := hp1 (gI s 108 - 1).toNat (by omega)
  rw [eyl26] at b26
  refine wp_rdLn (by have : (0 : Int) ≤ gI s 108 ∧ gI s 108 ≤ 1700 := hRs.1 108; omega) (fun yl27 eyl27 => ?_)
  have b27 := hp1 (gI s 108 - 2).toNat (by omega)
  rw [eyl27] at b27
  refine wp_stn (fun s28 es28 => ?_)
  have hRs28 : Rr s28 := es28 ▸ Rr.uI hRs (by show (0 : Int) ≤ ((gI s 108) - 2) ∧ ((gI s 108) - 2) ≤ 1700; have : (0 : Int) ≤ gI s 108 ∧ gI s 108 ≤ 1700 := hRs.1 108; omega)
  refine wp_rg (by have : (0 : Int) ≤ gI s 108 ∧ gI s 108 ≤ 1700 := hRs.1 108; omega) ?_
  refine wp_if (fun c1 => ?_) (fun c1 => ?_)
  · skip
    refine wp_bn (w_x12_qClip hRs28 (by show R8 (yl27 + yl26); have : (0 : Int) ≤ gI s 108 ∧ gI s 108 ≤ 1700 := hRs.1 108; omega)) (fun rl32 erl32 hrl32 => ?_)
    have hrl32_0 := hrl32
    have hrl32_0 : (-1000000) ≤ rl32 ∧ rl32 ≤ 1000000 := hrl32_0
    refine wp_bn (w_x12_qPuts hRs28 (by show gI s28 108 < 1700; have : (0 : Int) ≤ gI s 108 ∧ gI s 108 ≤ 1700 := hRs.1 108; have : gI s28 108 = (gI s 108) - 2 := q_II es28; omega) (by show R8 rl32; have : (0 : Int) ≤ gI s 108 ∧ gI s 108 ≤ 1700 := hRs.1 108; omega)) (fun s34 es34 hs34 => ?_)
    have Fs34 : F_x12_qPuts s28 s34 := fr_x12_qPuts es34
    obtain ⟨hRs34, hs34_0, hs34_1⟩ := hs34
    have hs34_0 : gI s34 108 = gI s28 108 + 1 := hs34_0
    have hs34_1 : gB s34 107 = upZ (gB s28 107) (gI s28 108).toNat rl32 := hs34_1
    unfold m_x12_qJoins_J273
    exact wp_some ⟨hRs34, by show gI s34 108 = gI s 108 - 1; have : gI s28 108 = (gI s 108) - 2 := q_II es28; have : (0 : Int) ≤ gI s 108 ∧ gI s 108 ≤ 1700 := hRs.1 108; have : (0 : Int) ≤ gI s34 108 ∧ gI s34 108 ≤ 1700 := hRs34.1 108; omega, ⟨_, by rw [hs34_1, (q_Ib es28 : gB s28 107 = gB s 107), (q_II es28 : gI s28 108 = gI s 108 - 2)], by omega, by omega⟩⟩
  · skip
    refine wp_if (fun c2 => ?_) (fun c2 => ?_)
    · skip
      refine wp_bn (w_x12_qClip hRs28 (by show R8 (yl27 - yl26); have : (0 : Int) ≤ gI s 108 ∧ gI s 108 ≤ 1700 := hRs.1 108; omega)) (fun rl37 erl37 hrl37 => ?_)
      have hrl37_0 := hrl37
      have hrl37_0 : (-1000000) ≤ rl37 ∧ rl37 ≤ 1000000 := hrl37_0
      refine wp_bn (w_x12_qPuts hRs28 (by show gI s28 108 < 1700; have : (0 : Int) ≤ gI s 108 ∧ gI s 108 ≤ 1700 := hRs.1 108; have : gI s28 108 = (gI s 108) - 2 := q_II es28; omega) (by show R8 rl37; have : (0 : Int) ≤ gI s 108 ∧ gI s 108 ≤ 1700 := hRs.1 108; omega)) (fun s39 es39 hs39 => ?_)
      have Fs39 : F_x12_qPuts s28 s39 := fr_x12_qPuts es39
      obtain ⟨hRs39, hs39_0, hs39_1⟩ := hs39
      have hs39_0 : gI s39 108 = gI s28 108 + 1 := hs39_0
      have hs39_1 : gB s39 107 = upZ (gB s28 107) (gI s28 108).toNat rl37 := hs39_1
      unfold m_x12_qJoins_J273
      exact wp_some ⟨hRs39, by show gI s39 108 = gI s 108 - 1; have : gI s28 108 = (gI s 108) - 2 := q_II es28; have : (0 : Int) ≤ gI s 108 ∧ gI s 108 ≤ 1700 := hRs.1 108; have : (0 : Int) ≤ gI s39 108 ∧ gI s39 108 ≤ 1700 := hRs39.1 108; omega, ⟨_, by rw [hs39_1, (q_Ib es28 : gB s28 107 = gB s 107), (q_II es28 : gI s28 108 = gI s 108 - 2)], by omega, by omega⟩⟩
    · skip
      refine wp_if (fun c3 => ?_) (fun c3 => ?_)
      · skip
        refine wp_bn (w_x12_qClip hRs28 (fl_x _ _ b27 b26 hp2.2)) (fun rl42 erl42 hrl42 => ?_)
        have hrl42_0 := hrl42
        have hrl42_0 : (-1000000) ≤ rl42 ∧ rl42 ≤ 1000000 := hrl42_0
        refine wp_bn (w_x12_qPuts hRs28 (by show gI s28 108 < 1700; have : (0 : Int) ≤ gI s 108 ∧ gI s 108 ≤ 1700 := hRs.1 108; have : gI s28 108 = (gI s 108) - 2 := q_II es28; omega) (by show R8 rl42; have : (0 : Int) ≤ gI s 108 ∧ gI s 108 ≤ 1700 := hRs.1 108; omega)) (fun s44 es44 hs44 => ?_)
        have Fs44 : F_x12_qPuts s28 s44 := fr_x12_qPuts es44
        obtain ⟨hRs44, hs44_0, hs44_1⟩ := hs44
        have hs44_0 : gI s44 108 = gI s28 108 + 1 := hs44_0
        have hs44_1 : gB s44 107 = upZ (gB s28 107) (gI s28 108).toNat rl42 := hs44_1
        unfold m_x12_qJoins_J273
        exact wp_some ⟨hRs44, by show gI s44 108 = gI s 108 - 1; have : gI s28 108 = (gI s 108) - 2 := q_II es28; have : (0 : Int) ≤ gI s 108 ∧ gI s 108 ≤ 1700 := hRs.1 108; have : (0 : Int) ≤ gI s44 108 ∧ gI s44 108 ≤ 1700 := hRs44.1 108; omega, ⟨_, by rw [hs44_1, (q_Ib es28 : gB s28 107 = gB s 107), (q_II es28 : gI s28 108 = gI s 108 - 2)], by omega, by omega⟩⟩
      · skip
        refine wp_if (fun c4 => ?_) (fun c4 => ?_)
        · skip
          refine wp_bn (w_x12_qFloor (B := B) hRs28 (by show (0 - B) ≤ yl27 ∧ yl27 ≤ B; have : (0 : Int) ≤ gI s 108 ∧ gI s 108 ≤ 1700 := hRs.1 108; omega) (by show (0 - B) ≤ yl26 ∧ yl26 ≤ B; have : (0 : Int) ≤ gI s 108 ∧ gI s 108 ≤ 1700 := hRs.1 108; omega) (by show 1000000 ≤ B ∧ B ≤ 3000000000; have : (0 : Int) ≤ gI s 108 ∧ gI s 108 ≤ 1700 := hRs.1 108; omega)) (fun rl47 erl47 hrl47 => ?_)
          have hrl47_0 := hrl47
          have hrl47_0 : (0 - B - 1) ≤ rl47 ∧ rl47 ≤ B + 1 := hrl47_0
          refine wp_bn (w_x12_qPuts hRs28 (by show gI s28 108 < 1700; have : (0 : Int) ≤ gI s 108 ∧ gI s 108 ≤ 1700 := hRs.1 108; have : gI s28 108 = (gI s 108) - 2 := q_II es28; omega) (by show R8 rl47; have : (0 : Int) ≤ gI s 108 ∧ gI s 108 ≤ 1700 := hRs.1 108; omega)) (fun s49 es49 hs49 => ?_)
          have Fs49 : F_x12_qPuts s28 s49 := fr_x12_qPuts es49
          obtain ⟨hRs49, hs49_0, hs49_1⟩ := hs49
          have hs49_0 : gI s49 108 = gI s28 108 + 1 := hs49_0
          have hs49_1 : gB s49 107 = upZ (gB s28 107) (gI s28 108).toNat rl47 := hs49_1
          unfold m_x12_qJoins_J273
          exact wp_some ⟨hRs49, by show gI s49 108 = gI s 108 - 1; have : gI s28 108 = (gI s 108) - 2 := q_II es28; have : (0 : Int) ≤ gI s 108 ∧ gI s 108 ≤ 1700 := hRs.1 108; have : (0 : Int) ≤ gI s49 108 ∧ gI s49 108 ≤ 1700 := hRs49.1 108; omega, ⟨_, by rw [hs49_1, (q_Ib es28 : gB s28 107 = gB s 107), (q_II es28 : gI s28 108 = gI s 108 - 2)], by omega, by omega⟩⟩
        · skip
          refine wp_if (fun c5 => ?_) (fun c5 => ?_)
          · skip
            refine wp_rgL (by have : (0 : Int) ≤ gI s 108 ∧ gI s 108 ≤ 1700 := hRs.1 108; omega) ?_
            refine wp_rgL (by have : (0 : Int) ≤ gI s 108 ∧ gI s 108 ≤ 1700 := hRs.1 108; omega) ?_
            refine wp_if (fun c6 => ?_) (fun c6 => ?_)
            · skip
              unfold m_x12_qJoins_J161
              refine wp_bn (w_x12_qPuts hRs28 (by show gI s28 108 < 1700; have : (0 : Int) ≤ gI s 108 ∧ gI s 108 ≤ 1700 := hRs.1 108; have : gI s28 108 = (gI s 108) - 2 := q_II es28; omega) (by show R8 yl26; have : (0 : Int) ≤ gI s 108 ∧ gI s 108 ≤ 1700 := hRs.1 108; omega)) (fun s25 es25 hs25 => ?_)
              have Fs25 : F_x12_qPuts s28 s25 := fr_x12_qPuts es25
              obtain ⟨hRs25, hs25_0, hs25_1⟩ := hs25
              have hs25_0 : gI s25 108 = gI s28 108 + 1 := hs25_0
              have hs25_1 : gB s25 107 = upZ (gB s28 107) (gI s28 108).toNat yl26 := hs25_1
              unfold m_x12_qJoins_J273
              exact wp_some ⟨hRs25, by show gI s25 108 = gI s 108 - 1; have : gI s28 108 = (gI s 108) - 2 := q_II es28; have : (0 : Int) ≤ gI s 108 ∧ gI s 108 ≤ 1700 := hRs.1 108; have : (0 : Int) ≤ gI s25 108 ∧ gI s25 108 ≤ 1700 := hRs25.1 108; omega, ⟨_, by rw [hs25_1, (q_Ib es28 : gB s28 107 = gB s 107), (q_II es28 : gI s28 108 = gI s 108 - 2)], by omega, by omega⟩⟩
            · skip
              unfold m_x12_qJoins_J161
              refine wp_bn (w_x12_qPuts hRs28 (by show gI s28 108 < 1700; have : (0 : Int) ≤ gI s 108 ∧ gI s 108 ≤ 1700 := hRs.1 108; have : gI s28 108 = (gI s 108) - 2 := q_II es28; omega) (by show R8 yl27; have : (0 : Int) ≤ gI s 108 ∧ gI s 108 ≤ 1700 := hRs.1 108; omega)) (fun s25 es25 hs25 => ?_)
              have Fs25 : F_x12_qPuts s28 s25 := fr_x12_qPuts es25
              obtain ⟨hRs25, hs25_0, hs25_1⟩ := hs25
              have hs25_0 : gI s25 108 = gI s28 108 + 1 := hs25_0
              have hs25_1 : gB s25 107 = upZ (gB s28 107) (gI s28 108).toNat yl27 := hs25_1
              unfold m_x12_qJoins_J273
              exact wp_some ⟨hRs25, by show gI s25 108 = gI s 108 - 1; have : gI s28 108 = (gI s 108) - 2 := q_II es28; have : (0 : Int) ≤ gI s 108 ∧ gI s 108 ≤ 1700 := hRs.1 108; have : (0 : Int) ≤ gI s25 108 ∧ gI s25 108 ≤ 1700 := hRs25.1 108; omega, ⟨_, by rw [hs25_1, (q_Ib es28 : gB s28 107 = gB s 107), (q_II es28 : gI s28 108 = gI s 108 - 2)], by omega, by omega⟩⟩
          · skip
            refine wp_if (fun c7 => ?_) (fun c7 => ?_)
            · skip
              refine wp_rgL (by have : (0 : Int) ≤ gI s 108 ∧ gI s 108 ≤ 1700 := hRs.1 108; omega) ?_
              refine wp_rgL (by have : (0 : Int) ≤ gI s 108 ∧ gI s 108 ≤ 1700 := hRs.1 108; omega) ?_
              refine wp_if (fun c8 => ?_) (fun c8 => ?_)
              · skip
                unfold m_x12_qJoins_J181
                refine wp_bn (w_x12_qPuts hRs28 (by show gI s28 108 < 1700; have : (0 : Int) ≤ gI s 108 ∧ gI s 108 ≤ 1700 := hRs.1 108; have : gI s28 108 = (gI s 108) - 2 := q_II es28; omega) (by show R8 yl26; have : (0 : Int) ≤ gI s 108 ∧ gI s 108 ≤ 1700 := hRs.1 108; omega)) (fun s21 es21 hs21 => ?_)
                have Fs21 : F_x12_qPuts s28 s21 := fr_x12_qPuts es21
                obtain ⟨hRs21, hs21_0, hs21_1⟩ := hs21
                have hs21_0 : gI s21 108 = gI s28 108 + 1 := hs21_0
                have hs21_1 : gB s21 107 = upZ (gB s28 107) (gI s28 108).toNat yl26 := hs21_1
                unfold m_x12_qJoins_J273
                exact wp_some ⟨hRs21, by show gI s21 108 = gI s 108 - 1; have : gI s28 108 = (gI s 108) - 2 := q_II es28; have : (0 : Int) ≤ gI s 108 ∧ gI s 108 ≤ 1700 := hRs.1 108; have : (0 : Int) ≤ gI s21 108 ∧ gI s21 108 ≤ 1700 := hRs21.1 108; omega, ⟨_, by rw [hs21_1, (q_Ib es28 : gB s28 107 = gB s 107), (q_II es28 : gI s28 108 = gI s 108 - 2)], by omega, by omega⟩⟩
              · skip
                unfold m_x12_qJoins_J181
                refine wp_bn (w_x12_qPuts hRs28 (by show gI s28 108 < 1700; have : (0 : Int) ≤ gI s 108 ∧ gI s 108 ≤ 1700 := hRs.1 108; have : gI s28 108 = (gI s 108) - 2 := q_II es28; omega) (by show R8 yl27; have : (0 : Int) ≤ gI s 108 ∧ gI s 108 ≤ 1700 := hRs.1 108; omega)) (fun s21 es21 hs21 => ?_)
                have Fs21 : F_x12_qPuts s28 s21 := fr_x12_qPuts es21
                obtain ⟨hRs21, hs21_0, hs21_1⟩ := hs21
                have hs21_0 : gI s21 108 = gI s28 108 + 1 := hs21_0
                have hs21_1 : gB s21 107 = upZ (gB s28 107) (gI s28 108).toNat yl27 := hs21_1
                unfold m_x12_qJoins_J273
                exact wp_some ⟨hRs21, by show gI s21 108 = gI s 108 - 1; have : gI s28 108 = (gI s 108) - 2 := q_II es28; have : (0 : Int) ≤ gI s 108 ∧ gI s 108 ≤ 1700 := hRs.1 108; have : (0 : Int) ≤ gI s21 108 ∧ gI s21 108 ≤ 1700 := hRs21.1 108; omega, ⟨_, by rw [hs21_1, (q_Ib es28 : gB s28 107 = gB s 107), (q_II es28 : gI s28 108 = gI s 108 - 2)], by omega, by omega⟩⟩
            · skip
              refine wp_if (fun c9 => ?_) (fun c9 => ?_)
              · skip
                refine wp_rgL (by have : (0 : Int) ≤ gI s 108 ∧ gI s 108 ≤ 1700 := hRs.1 108; omega) ?_
                refine wp_rgL (by have : (0 : Int) ≤ gI s 108 ∧ gI s 108 ≤ 1700 := hRs.1 108; omega) ?_
                refine wp_if (fun c10 => ?_) (fun c10 => ?_)
                · skip
                  unfold m_x12_qJoins_J200
                  refine wp_bn (w_x12_qPuts hRs28 (by show gI s28 108 < 1700; have : (0 : Int) ≤ gI s 108 ∧ gI s 108 ≤ 1700 := hRs.1 108; have : gI s28 108 = (gI s 108) - 2 := q_II es28; omega) (by show R8 (0 : Int); have : (0 : Int) ≤ gI s 108 ∧ gI s 108 ≤ 1700 := hRs.1 108; omega)) (fun s17 es17 hs17 => ?_)
                  have Fs17 : F_x12_qPuts s28 s17 := fr_x12_qPuts es17
                  obtain ⟨hRs17, hs17_0, hs17_1⟩ := hs17
                  have hs17_0 : gI s17 108 = gI s28 108 + 1 := hs17_0
                  have hs17_1 : gB s17 107 = upZ (gB s28 107) (gI s28 108).toNat (0 : Int) := hs17_1
                  unfold m_x12_qJoins_J273
                  exact wp_some ⟨hRs17, by show gI s17 108 = gI s 108 - 1; have : gI s28 108 = (gI s 108) - 2 := q_II es28; have : (0 : Int) ≤ gI s 108 ∧ gI s 108 ≤ 1700 := hRs.1 108; have : (0 : Int) ≤ gI s17 108 ∧ gI s17 108 ≤ 1700 := hRs17.1 108; omega, ⟨_, by rw [hs17_1, (q_Ib es28 : gB s28 107 = gB s 107), (q_II es28 : gI s28 108 = gI s 108 - 2)], by omega, by omega⟩⟩
                · skip
                  unfold m_x12_qJoins_J200
                  refine wp_bn (w_x12_qPuts hRs28 (by show gI s28 108 < 1700; have : (0 : Int) ≤ gI s 108 ∧ gI s 108 ≤ 1700 := hRs.1 108; have : gI s28 108 = (gI s 108) - 2 := q_II es28; omega) (by show R8 (1 : Int); have : (0 : Int) ≤ gI s 108 ∧ gI s 108 ≤ 1700 := hRs.1 108; omega)) (fun s17 es17 hs17 => ?_)
                  have Fs17 : F_x12_qPuts s28 s17 := fr_x12_qPuts es17
                  obtain ⟨hRs17, hs17_0, hs17_1⟩ := hs17
                  have hs17_0 : gI s17 108 = gI s28 108 + 1 := hs17_0
                  have hs17_1 : gB s17 107 = upZ (gB s28 107) (gI s28 108).toNat (1 : Int) := hs17_1
                  unfold m_x12_qJoins_J273
                  exact wp_some ⟨hRs17, by show gI s17 108 = gI s 108 - 1; have : gI s28 108 = (gI s 108) - 2 := q_II es28; have : (0 : Int) ≤ gI s 108 ∧ gI s 108 ≤ 1700 := hRs.1 108; have : (0 : Int) ≤ gI s17 108 ∧ gI s17 108 ≤ 1700 := hRs17.1 108; omega, ⟨_, by rw [hs17_1, (q_Ib es28 : gB s28 107 = gB s 107), (q_II es28 : gI s28 108 = gI s 108 - 2)], by omega, by omega⟩⟩
              · skip
                refine wp_if (fun c11 => ?_) (fun c11 => ?_)
                · skip
                  refine wp_rgL (by have : (0 : Int) ≤ gI s 108 ∧ gI s 108 ≤ 1700 := hRs.1 108; omega) ?_
                  refine wp_rgL (by have : (0 : Int) ≤ gI s 108 ∧ gI s 108 ≤ 1700 := hRs.1 108; omega) ?_
                  refine wp_if (fun c12 => ?_) (fun c12 => ?_)
                  · skip
                    unfold m_x12_qJoins_J219
                    refine wp_bn (w_x12_qPuts hRs28 (by show gI s28 108 < 1700; have : (0 : Int) ≤ gI s 108 ∧ gI s 108 ≤ 1700 := hRs.1 108; have : gI s28 108 = (gI s 108) - 2 := q_II es28; omega) (by show R8 (0 : Int); have : (0 : Int) ≤ gI s 108 ∧ gI s 108 ≤ 1700 := hRs.1 108; omega)) (fun s13 es13 hs13 => ?_)
                    have Fs13 : F_x12_qPuts s28 s13 := fr_x12_qPuts es13
                    obtain ⟨hRs13, hs13_0, hs13_1⟩ := hs13
                    have hs13_0 : gI s13 108 = gI s28 108 + 1 := hs13_0
                    have hs13_1 : gB s13 107 = upZ (gB s28 107) (gI s28 108).toNat (0 : Int) := hs13_1
                    unfold m_x12_qJoins_J273
                    exact wp_some ⟨hRs13, by show gI s13 108 = gI s 108 - 1; have : gI s28 108 = (gI s 108) - 2 := q_II es28; have : (0 : Int) ≤ gI s 108 ∧ gI s 108 ≤ 1700 := hRs.1 108; have : (0 : Int) ≤ gI s13 108 ∧ gI s13 108 ≤ 1700 := hRs13.1 108; omega, ⟨_, by rw [hs13_1, (q_Ib es28 : gB s28 107 = gB s 107), (q_II es28 : gI s28 108 = gI s 108 - 2)], by omega, by omega⟩⟩
                  · skip
                    unfold m_x12_qJoins_J219
                    refine wp_bn (w_x12_qPuts hRs28 (by show gI s28 108 < 1700; have : (0 : Int) ≤ gI s 108 ∧ gI s 108 ≤ 1700 := hRs.1 108; have : gI s28 108 = (gI s 108) - 2 := q_II es28; omega) (by show R8 (1 : Int); have : (0 : Int) ≤ gI s 108 ∧ gI s 108 ≤ 1700 := hRs.1 108; omega)) (fun s13 es13 hs13 => ?_)
                    have Fs13 : F_x12_qPuts s28 s13 := fr_x12_qPuts es13
                    obtain ⟨hRs13, hs13_0, hs13_1⟩ := hs13
                    have hs13_0 : gI s13 108 = gI s28 108 + 1 := hs13_0
                    have hs13_1 : gB s13 107 = upZ (gB s28 107) (gI s28 108).toNat (1 : Int) := hs13_1
                    unfold m_x12_qJoins_J273
                    exact wp_some ⟨hRs13, by show gI s13 108 = gI s 108 - 1; have : gI s28 108 = (gI s 108) - 2 := q_II es28; have : (0 : Int) ≤ gI s 108 ∧ gI s 108 ≤ 1700 := hRs.1 108; have : (0 : Int) ≤ gI s13 108 ∧ gI s13 108 ≤ 1700 := hRs13.1 108; omega, ⟨_, by rw [hs13_1, (q_Ib es28 : gB s28 107 = gB s 107), (q_II es28 : gI s28 108 = gI s 108 - 2)], by omega, by omega⟩⟩
                · skip
                  refine wp_if (fun c13 => ?_) (fun c13 => ?_)
                  · skip
                    refine wp_rgL (by have : (0 : Int) ≤ gI s 108 ∧ gI s 108 ≤ 1700 := hRs.1 108; omega) ?_
                    refine wp_rgL (by have : (0 : Int) ≤ gI s 108 ∧ gI s 108 ≤ 1700 := hRs.1 108; omega) ?_
                    refine wp_if (fun c14 => ?_) (fun c14 => ?_)
                    · skip
                      unfold m_x12_qJoins_J238
                      refine wp_bn (w_x12_qPuts hRs28 (by show gI s28 108 < 1700; have : (0 : Int) ≤ gI s 108 ∧ gI s 108 ≤ 1700 := hRs.1 108; have : gI s28 108 = (gI s 108) - 2 := q_II es28; omega) (by show R8 (1 : Int); have : (0 : Int) ≤ gI s 108 ∧ gI s 108 ≤ 1700 := hRs.1 108; omega)) (fun s9 es9 hs9 => ?_)
                      have Fs9 : F_x12_qPuts s28 s9 := fr_x12_qPuts es9
                      obtain ⟨hRs9, hs9_0, hs9_1⟩ := hs9
                      have hs9_0 : gI s9 108 = gI s28 108 + 1 := hs9_0
                      have hs9_1 : gB s9 107 = upZ (gB s28 107) (gI s28 108).toNat (1 : Int) := hs9_1
                      unfold m_x12_qJoins_J273
                      exact wp_some ⟨hRs9, by show gI s9 108 = gI s 108 - 1; have : gI s28 108 = (gI s 108) - 2 := q_II es28; have : (0 : Int) ≤ gI s 108 ∧ gI s 108 ≤ 1700 := hRs.1 108; have : (0 : Int) ≤ gI s9 108 ∧ gI s9 108 ≤ 1700 := hRs9.1 108; omega, ⟨_, by rw [hs9_1, (q_Ib es28 : gB s28 107 = gB s 107), (q_II es28 : gI s28 108 = gI s 108 - 2)], by omega, by omega⟩⟩
                    · skip
                      unfold m_x12_qJoins_J238
                      refine wp_bn (w_x12_qPuts hRs28 (by show gI s28 108 < 1700; have : (0 : Int) ≤ gI s 108 ∧ gI s 108 ≤ 1700 := hRs.1 108; have : gI s28 108 = (gI s 108) - 2 := q_II es28; omega) (by show R8 (0 : Int); have : (0 : Int) ≤ gI s 108 ∧ gI s 108 ≤ 1700 := hRs.1 108; omega)) (fun s9 es9 hs9 => ?_)
                      have Fs9 : F_x12_qPuts s28 s9 := fr_x12_qPuts es9
                      obtain ⟨hRs9, hs9_0, hs9_1⟩ := hs9
                      have hs9_0 : gI s9 108 = gI s28 108 + 1 := hs9_0
                      have hs9_1 : gB s9 107 = upZ (gB s28 107) (gI s28 108).toNat (0 : Int) := hs9_1
                      unfold m_x12_qJoins_J273
                      exact wp_some ⟨hRs9, by show gI s9 108 = gI s 108 - 1; have : gI s28 108 = (gI s 108) - 2 := q_II es28; have : (0 : Int) ≤ gI s 108 ∧ gI s 108 ≤ 1700 := hRs.1 108; have : (0 : Int) ≤ gI s9 108 ∧ gI s9 108 ≤ 1700 := hRs9.1 108; omega, ⟨_, by rw [hs9_1, (q_Ib es28 : gB s28 107 = gB s 107), (q_II es28 : gI s28 108 = gI s 108 - 2)], by omega, by omega⟩⟩
                  · skip
                    refine wp_if (fun c15 => ?_) (fun c15 => ?_)
                    · skip
                      refine wp_bn (w_x12_qPuts hRs28 (by show gI s28 108 < 1700; have : (0 : Int) ≤ gI s 108 ∧ gI s 108 ≤ 1700 := hRs.1 108; have : gI s28 108 = (gI s 108) - 2 := q_II es28; omega) (fl_x _ _ b27 b26 hp2.2)) (fun s72 es72 hs72 => ?_)
                      have Fs72 : F_x12_qPuts s28 s72 := fr_x12_qPuts es72
                      obtain ⟨hRs72, hs72_0, hs72_1⟩ := hs72
                      have hs72_0 : gI s72 108 = gI s28 108 + 1 := hs72_0
                      have hs72_1 : gB s72 107 = upZ (gB s28 107) (gI s28 108).toNat (yl27 * yl26) := hs72_1
                      unfold m_x12_qJoins_J273
                      exact wp_some ⟨hRs72, by show gI s72 108 = gI s 108 - 1; have : gI s28 108 = (gI s 108) - 2 := q_II es28; have : (0 : Int) ≤ gI s 108 ∧ gI s 108 ≤ 1700 := hRs.1 108; have : (0 : Int) ≤ gI s72 108 ∧ gI s72 108 ≤ 1700 := hRs72.1 108; omega, by have z := hp4 (by omega); rw [eyl26, eyl27] at z; have zz := fl_01 z.2 z.1; exact ⟨_, by rw [hs72_1, (q_Ib es28 : gB s28 107 = gB s 107), (q_II es28 : gI s28 108 = gI s 108 - 2)], by omega, fun _ => zz⟩⟩
                    · skip
                      refine wp_rgL (by have : (0 : Int) ≤ gI s 108 ∧ gI s 108 ≤ 1700 := hRs.1 108; omega) ?_
                      refine wp_if (fun c16 => ?_) (fun c16 => ?_)
                      · skip
                        unfold m_x12_qJoins_J270
                        refine wp_bn (w_x12_qPuts hRs28 (by show gI s28 108 < 1700; have : (0 : Int) ≤ gI s 108 ∧ gI s 108 ≤ 1700 := hRs.1 108; have : gI s28 108 = (gI s 108) - 2 := q_II es28; omega) (by show R8 (0 : Int); have : (0 : Int) ≤ gI s 108 ∧ gI s 108 ≤ 1700 := hRs.1 108; omega)) (fun s5 es5 hs5 => ?_)
                        have Fs5 : F_x12_qPuts s28 s5 := fr_x12_qPuts es5
                        obtain ⟨hRs5, hs5_0, hs5_1⟩ := hs5
                        have hs5_0 : gI s5 108 = gI s28 108 + 1 := hs5_0
                        have hs5_1 : gB s5 107 = upZ (gB s28 107) (gI s28 108).toNat (0 : Int) := hs5_1
                        unfold m_x12_qJoins_J273
                        exact wp_some ⟨hRs5, by show gI s5 108 = gI s 108 - 1; have : gI s28 108 = (gI s 108) - 2 := q_II es28; have : (0 : Int) ≤ gI s 108 ∧ gI s 108 ≤ 1700 := hRs.1 108; have : (0 : Int) ≤ gI s5 108 ∧ gI s5 108 ≤ 1700 := hRs5.1 108; omega, ⟨_, by rw [hs5_1, (q_Ib es28 : gB s28 107 = gB s 107), (q_II es28 : gI s28 108 = gI s 108 - 2)], by omega, by omega⟩⟩
                      · skip
                        unfold m_x12_qJoins_J270
                        refine wp_bn (w_x12_qPuts hRs28 (by show gI s28 108 < 1700; have : (0 : Int) ≤ gI s 108 ∧ gI s 108 ≤ 1700 := hRs.1 108; have : gI s28 108 = (gI s 108) - 2 := q_II es28; omega) (by show R8 (1 : Int); have : (0 : Int) ≤ gI s 108 ∧ gI s 108 ≤ 1700 := hRs.1 108; omega)) (fun s5 es5 hs5 => ?_)
                        have Fs5 : F_x12_qPuts s28 s5 := fr_x12_qPuts es5
                        obtain ⟨hRs5, hs5_0, hs5_1⟩ := hs5
                        have hs5_0 : gI s5 108 = gI s28 108 + 1 := hs5_0
                        have hs5_1 : gB s5 107 = upZ (gB s28 107) (gI s28 108).toNat (1 : Int) := hs5_1
                        unfold m_x12_qJoins_J273
                        exact wp_some ⟨hRs5, by show gI s5 108 = gI s 108 - 1; have : gI s28 108 = (gI s 108) - 2 := q_II es28; have : (0 : Int) ≤ gI s 108 ∧ gI s 108 ≤ 1700 := hRs.1 108; have : (0 : Int) ≤ gI s5 108 ∧ gI s5 108 ≤ 1700 := hRs5.1 108; omega, ⟨_, by rw [hs5_1, (q_Ib es28 : gB s28 107 = gB s 107), (q_II es28 : gI s28 108 = gI s 108 - 2)], by omega, by omega⟩⟩
set_option maxHeartbeats 1000000 in
theorem w_x12_qPartOf {p0 : Int} {p1 : Int} {s : MS} (hRs : Rr s) (hp0 : R2 p0) : wp (m_x12_qPartOf p0 p1 s) (fun r => (R2 r)) := by
  unfold m_x12_qPartOf
  refine wp_rg (by omega) ?_
  refine wp_if (fun c1 => ?_) (fun c1 => ?_)
  · skip
    refine wp_rg (by have : (0 : Int) ≤ gI s 52 ∧ gI s 52 ≤ 1000 := hRs.1 52; omega) ?_
    exact wp_some (by show R2 (gI s 52); have : (0 : Int) ≤ gI s 52 ∧ gI s 52 ≤ 1000 := hRs.1 52; omega)
  · skip
    refine wp_if (fun c2 => ?_) (fun c2 => ?_)
    · skip
      refine wp_rg (by have : (0 : Int) ≤ gI s 50 ∧ gI s 50 ≤ 47 := hRs.1 50; omega) ?_
      exact wp_some (by show R2 (gI s 50); have : (0 : Int) ≤ gI s 50 ∧ gI s 50 ≤ 47 := hRs.1 50; omega)
    · skip
      refine wp_if (fun c3 => ?_) (fun c3 => ?_)
      · skip
        refine wp_rg (by have : (0 : Int) ≤ gI s 51 ∧ gI s 51 ≤ 48 := hRs.1 51; omega) ?_
        exact wp_some (by show R2 (gI s 51); have : (0 : Int) ≤ gI s 51 ∧ gI s 51 ≤ 48 := hRs.1 51; omega)
      · skip
        refine wp_if (fun c4 => ?_) (fun c4 => ?_)
        · skip
          refine wp_rg (by have : (0 : Int) ≤ gI s 53 ∧ gI s 53 ≤ 6 := hRs.1 53; omega) ?_
          exact wp_some (by show R2 (gI s 53); have : (0 : Int) ≤ gI s 53 ∧ gI s 53 ≤ 6 := hRs.1 53; omega)
        · skip
          refine wp_if (fun c5 => ?_) (fun c5 => ?_)
          · skip
            refine wp_rg (by have : (0 : Int) ≤ gI s 50 ∧ gI s 50 ≤ 47 := hRs.1 50; omega) ?_
            exact wp_some (by show R2 (gI s 50); have : (0 : Int) ≤ gI s 50 ∧ gI s 50 ≤ 47 := hRs.1 50; omega)
          · skip
            refine wp_if (fun c6 => ?_) (fun c6 => ?_)
            · skip
              refine wp_bn (w_x12_countOf hRs (by show 0 ≤ (gI s 50) ∧ (gI s 50) < 48; have : (0 : Int) ≤ gI s 50 ∧ gI s 50 ≤ 47 := hRs.1 50; have : (0 : Int) ≤ gI s 50 ∧ gI s 50 ≤ 47 := hRs.1 50; omega)) (fun r15 er15 hr15 => ?_)
              obtain ⟨hr15_0, hr15_1⟩ := hr15
              have hr15_0 : r15 = cM s (gI s 50).toNat := hr15_0
              have hr15_1 : R2 r15 := hr15_1
              refine wp_rg (by have : (0 : Int) ≤ gI s 50 ∧ gI s 50 ≤ 47 := hRs.1 50; omega) ?_
              exact wp_some (by show R2 r15; have : (0 : Int) ≤ gI s 50 ∧ gI s 50 ≤ 47 := hRs.1 50; omega)
            · skip
              refine wp_if (fun c7 => ?_) (fun c7 => ?_)
              · skip
                refine wp_bn (w_x12_isFresh hRs (by show 0 ≤ (gI s 50) ∧ (gI s 50) < 48; have : (0 : Int) ≤ gI s 50 ∧ gI s 50 ≤ 47 := hRs.1 50; omega)) (fun r19 er19 hr19 => ?_)
                have hr19_0 := hr19
                have hr19_0 : (r19 = 1 ∧ 0 < cM s (gI s 50).toNat ∧ vM s (gI s 50).toNat = 0) ∨ (r19 = 0 ∧ (cM s (gI s 50).toNat ≤ 0 ∨ vM s (gI s 50).toNat ≠ 0)) := hr19_0
                refine wp_rg (by have : (0 : Int) ≤ gI s 50 ∧ gI s 50 ≤ 47 := hRs.1 50; omega) ?_
                refine wp_if (fun c8 => ?_) (fun c8 => ?_)
                · skip
                  unfold m_x12_qPartOf_J100
                  exact wp_some (by show R2 (0 : Int); have : (0 : Int) ≤ gI s 50 ∧ gI s 50 ≤ 47 := hRs.1 50; omega)
                · skip
                  unfold m_x12_qPartOf_J100
                  exact wp_some (by show R2 (1 : Int); have : (0 : Int) ≤ gI s 50 ∧ gI s 50 ≤ 47 := hRs.1 50; omega)
              · skip
                refine wp_bn (w_x12_savedOf hRs (by show 0 ≤ (gI s 50) ∧ (gI s 50) < 48; have : (0 : Int) ≤ gI s 50 ∧ gI s 50 ≤ 47 := hRs.1 50; omega)) (fun r23 er23 hr23 => ?_)
                obtain ⟨hr23_0, hr23_1⟩ := hr23
                have hr23_0 : r23 = vM s (gI s 50).toNat := hr23_0
                have hr23_1 : R2 r23 := hr23_1
                refine wp_rg (by have : (0 : Int) ≤ gI s 50 ∧ gI s 50 ≤ 47 := hRs.1 50; omega) ?_
                exact wp_some (by show R2 r23; have : (0 : Int) ≤ gI s 50 ∧ gI s 50 ≤ 47 := hRs.1 50; omega)
set_option maxHeartbeats 1000000 in
theorem w_x12_isBlock {p0 : Int} {s : MS} (hRs : Rr s) (hp0 : R8 p0) (hp1 : 0 ≤ gA s 39 5 ∧ gA s 39 5 ≤ 48) : wp (m_x12_isBlock p0 s) (fun r => ((r = 1 ∧ 0 ≤ p0 ∧ p0 < gA s 39 5) ∨ (r = 0 ∧ (p0 < 0 ∨ gA s 39 5 ≤ p0)))) := by
  unfold m_x12_isBlock
  refine wp_bn (w_x12_blockMany hRs) (fun r2 er2 hr2 => ?_)
  have hr2_0 := hr2
  have hr2_0 : r2 = gA s 39 5 := hr2_0
  refine wp_rg (by omega) ?_
  refine wp_bn (w_x12_isIn hRs (by show R8 p0; omega) (by show R8 (0 : Int); omega) (by show R8 (r2 - 1); omega)) (fun r5 er5 hr5 => ?_)
  have hr5_0 := hr5
  have hr5_0 : (r5 = 1 ∧ (0 : Int) ≤ p0 ∧ p0 ≤ (r2 - 1)) ∨ (r5 = 0 ∧ (p0 < (0 : Int) ∨ (r2 - 1) < p0)) := hr5_0
  refine wp_bo (by omega) ?_
  exact wp_some (by show (r5 = 1 ∧ 0 ≤ p0 ∧ p0 < gA s 39 5) ∨ (r5 = 0 ∧ (p0 < 0 ∨ gA s 39 5 ≤ p0)); omega)
set_option maxHeartbeats 1000000 in
theorem w_x12_qOf {p0 : Int} {p1 : Int} {p2 : Int} {s : MS} (hRs : Rr s) (hp0 : R2 p0) (hp1 : R8 p1) (hp2 : 0 ≤ gA s 39 5 ∧ gA s 39 5 ≤ 48) : wp (m_x12_qOf p0 p1 p2 s) (fun r => (R2 r)) := by
  unfold m_x12_qOf
  refine wp_rg (by omega) ?_
  refine wp_if (fun c1 => ?_) (fun c1 => ?_)
  · skip
    refine wp_bn (w_x12_isBlock hRs (by show R8 p1; omega) (by show 0 ≤ gA s 39 5 ∧ gA s 39 5 ≤ 48; omega)) (fun r6 er6 hr6 => ?_)
    have hr6_0 := hr6
    have hr6_0 : (r6 = 1 ∧ 0 ≤ p1 ∧ p1 < gA s 39 5) ∨ (r6 = 0 ∧ (p1 < 0 ∨ gA s 39 5 ≤ p1)) := hr6_0
    refine wp_rg (by omega) ?_
    refine wp_if (fun c2 => ?_) (fun c2 => ?_)
    · skip
      unfold m_x12_qOf_J39
      exact wp_some (by show R2 (0 : Int); omega)
    · skip
      refine wp_bn (w_x12_countOf hRs (by show 0 ≤ p1 ∧ p1 < 48; omega)) (fun r10 er10 hr10 => ?_)
      obtain ⟨hr10_0, hr10_1⟩ := hr10
      have hr10_0 : r10 = cM s p1.toNat := hr10_0
      have hr10_1 : R2 r10 := hr10_1
      refine wp_rg (by omega) ?_
      unfold m_x12_qOf_J39
      exact wp_some (by show R2 r10; omega)
  · skip
    refine wp_bn (w_x12_isBlock hRs (by show R8 p1; omega) (by show 0 ≤ gA s 39 5 ∧ gA s 39 5 ≤ 48; omega)) (fun r13 er13 hr13 => ?_)
    have hr13_0 := hr13
    have hr13_0 : (r13 = 1 ∧ 0 ≤ p1 ∧ p1 < gA s 39 5) ∨ (r13 = 0 ∧ (p1 < 0 ∨ gA s 39 5 ≤ p1)) := hr13_0
    refine wp_rg (by omega) ?_
    refine wp_if (fun c3 => ?_) (fun c3 => ?_)
    · skip
      unfold m_x12_qOf_J68
      unfold m_x12_qOf_J69
      exact wp_some (by show R2 (0 : Int); omega)
    · skip
      refine wp_bn (w_x12_isUsed hRs (by show 0 ≤ p1 ∧ p1 < 48; omega)) (fun r17 er17 hr17 => ?_)
      have hr17_0 := hr17
      have hr17_0 : (r17 = 1 ∧ 0 < cM s p1.toNat) ∨ (r17 = 0 ∧ cM s p1.toNat ≤ 0) := hr17_0
      refine wp_rg (by omega) ?_
      refine wp_if (fun c4 => ?_) (fun c4 => ?_)
      · skip
        unfold m_x12_qOf_J68
        unfold m_x12_qOf_J69
        exact wp_some (by show R2 (0 : Int); omega)
      · skip
        refine wp_bn (w_x12_keyAt hRs (by show 0 ≤ p1 ∧ p1 < 48; omega) (by show 0 ≤ (0 : Int) ∧ (0 : Int) < 6; omega)) (fun r21 er21 hr21 => ?_)
        obtain ⟨hr21_0, hr21_1⟩ := hr21
        have hr21_0 : r21 = kM s p1.toNat (0 : Int).toNat := hr21_0
        have hr21_1 : R2 r21 := hr21_1
        refine wp_rg (by omega) ?_
        unfold m_x12_qOf_J69
        exact wp_some (by show R2 r21; omega)
set_option maxHeartbeats 4000000 in
theorem w_x12_codesTell {p0 : Int} {s : MS} (hRs : Rr s) (hp0 : 0 ≤ p0 ∧ p0 ≤ 2) (hp1 : CE s p0.toNat) (hp2 : gA s 42 (3 + p0.toNat) ≠ -1) : wp (m_x12_codesTell p0 s) (fun q => (Rr q.2) ∧ (R8 q.1)) := by
  obtain ⟨q1, q2, q3, T, q4⟩ := hp1.resolve_left hp2
  rw [show ((p0.toNat : Nat) : Int) = p0 by omega] at q4
  obtain ⟨U0, u1, u2⟩ := rn_0 q4
  unfold m_x12_codesTell
  refine wp_stn (fun s35 es35 => ?_)
  have hRs35 : Rr s35 := es35 ▸ Rr.uI hRs (by show (0 : Int) ≤ p0 ∧ p0 ≤ 3; omega)
  refine wp_stn (fun s36 es36 => ?_)
  have hRs36 : Rr s36 := es36 ▸ Rr.uI hRs35 (by show (0 : Int) ≤ (0 : Int) ∧ (0 : Int) ≤ 1700; omega)
  refine wp_rdIn (by omega) (fun y37 ey37 => ?_)
  have by37 : (-1 : Int) ≤ y37 ∧ y37 ≤ 1600 := ey37 ▸ hRs36.2.1 42 _ (by show _ < 6; omega)
  have k37 : gA s 42 (3 + p0.toNat) = y37 := by rw [← ey37, ((q_Ia es36 : gA s36 42 = gA s35 42).trans (q_Ia es35 : gA s35 42 = gA s 42))]; congr 1; omega
  have L19 : ∀ (n : Nat) (x1 : Int) (x2 : Int) (s3 : MS), Rr s3 → (x1 = p0 ∧ gA s 42 (3 + p0.toNat) ≤ x2 ∧ x2 ≤ gA s 43 (3 + p0.toNat)) → (gA s3 42 = gA s 42 ∧ gA s3 43 = gA s 43 ∧ gA s3 44 = gA s 44) → (∃ U, rn p0 1 (fun j => gA s 44 (1600 + (gA s 42 (3 + p0.toNat)).toNat + j)) (gA s 43 (3 + p0.toNat) - x2).toNat (x2 - gA s 42 (3 + p0.toNat)).toNat (gI s3 108) U ∧ U ≤ gI s3 108 ∧ PL s3 U (2147483648 + (x2 - gA s 42 (3 + p0.toNat))) ∧ (0 ≤ gI s3 108 ∧ gI s3 108 ≤ x2 - gA s 42 (3 + p0.toNat))) → (1600 - x2) < (n : Int) → wp (m_x12_codesTell_L19 n x1 x2 s3) (fun q => (Rr q.2) ∧ (R8 q.1)) := by
    refine fr_ind (fun x1 x2 s3 hRs3 hv19_0 hv19_1 hv19_2 hm19 => ?_) (fun n19 ih19 x1 x2 s3 hRs3 hv19_0 hv19_1 hv19_2 hm19 => ?_)
    · exfalso; have : (0 : Int) ≤ gI s3 108 ∧ gI s3 108 ≤ 1700 := hRs3.1 108; omega
    · show wp (m_x12_codesTell_b19 (m_x12_codesTell_L19 n19) x1 x2 s3) _
      unfold m_x12_codesTell_b19
      refine wp_rdIn (by have : (0 : Int) ≤ gI s3 108 ∧ gI s3 108 ≤ 1700 := hRs3.1 108; omega) (fun y7 ey7 => ?_)
      have by7 : (0 : Int) ≤ y7 ∧ y7 ≤ 1600 := ey7 ▸ hRs3.2.1 43 _ (by show _ < 6; have : (0 : Int) ≤ gI s3 108 ∧ gI s3 108 ≤ 1700 := hRs3.1 108; omega)
      have k7 : gA s 43 (3 + p0.toNat) = y7 := by rw [← ey7, hv19_1.2.1]; congr 1; omega
      refine wp_rg (by have : (0 : Int) ≤ gI s3 108 ∧ gI s3 108 ≤ 1700 := hRs3.1 108; omega) ?_
      refine wp_rg (by have : (0 : Int) ≤ gI s3 108 ∧ gI s3 108 ≤ 1700 := hRs3.1 108; omega) ?_
      refine wp_if (fun c1 => ?_) (fun c1 => ?_)
      · skip
        refine wp_rdLn (by have : (0 : Int) ≤ gI s3 108 ∧ gI s3 108 ≤ 1700 := hRs3.1 108; omega) (fun yl11 eyl11 => ?_)
        have kyl : R8 yl11 := eyl11 ▸ hRs3.2.2.2 107 _
        exact wp_some ⟨hRs3, by show R8 yl11; have : (0 : Int) ≤ gI s3 108 ∧ gI s3 108 ≤ 1700 := hRs3.1 108; omega⟩
      · skip
        obtain ⟨U, hrn, hU, hP, hh⟩ := hv19_2
        rw [show (gA s 43 (3 + p0.toNat) - x2).toNat = (gA s 43 (3 + p0.toNat) - (x2 + 1)).toNat + 1 by omega] at hrn
        obtain ⟨g1, U1, st1, hr1⟩ := hrn
        refine wp_rdIn (by have : (0 : Int) ≤ gI s3 108 ∧ gI s3 108 ≤ 1700 := hRs3.1 108; omega) (fun y12 ey12 => ?_)
        have by12 : (0 : Int) ≤ y12 ∧ y12 ≤ 10999 := ey12 ▸ hRs3.2.1 44 _ (by show _ < 3200; have : (0 : Int) ≤ gI s3 108 ∧ gI s3 108 ≤ 1700 := hRs3.1 108; omega)
        have kf : (fun j => gA s 44 (1600 + (gA s 42 (3 + p0.toNat)).toNat + j)) (x2 - gA s 42 (3 + p0.toNat)).toNat = y12 := by show gA s 44 (1600 + (gA s 42 (3 + p0.toNat)).toNat + (x2 - gA s 42 (3 + p0.toNat)).toNat) = y12; rw [← ey12, hv19_1.2.2]; congr 1; omega
        rw [kf] at st1
        have sp := st1.1
        have tp := st1.2.1
        have sk := st1.2.2
        unfold stp at sp
        unfold tpd at tp
        refine wp_rg (by have : (0 : Int) ≤ gI s3 108 ∧ gI s3 108 ≤ 1700 := hRs3.1 108; omega) ?_
        refine wp_if (fun c2 => ?_) (fun c2 => ?_)
        · skip
          refine wp_rg (by have : (0 : Int) ≤ gI s3 108 ∧ gI s3 108 ≤ 1700 := hRs3.1 108; omega) ?_
          refine wp_if (fun c3 => ?_) (fun c3 => ?_)
          · skip
            refine wp_rg (by have : (0 : Int) ≤ gI s3 108 ∧ gI s3 108 ≤ 1700 := hRs3.1 108; omega) ?_
            refine wp_if (fun c4 => ?_) (fun c4 => ?_)
            · skip
              refine wp_bn (w_x12_qPuts hRs3 (by show gI s3 108 < 1700; have : (0 : Int) ≤ gI s3 108 ∧ gI s3 108 ≤ 1700 := hRs3.1 108; omega) (by show R8 (1 : Int); have : (0 : Int) ≤ gI s3 108 ∧ gI s3 108 ≤ 1700 := hRs3.1 108; omega)) (fun s27 es27 hs27 => ?_)
              have Fs27 : F_x12_qPuts s3 s27 := fr_x12_qPuts es27
              obtain ⟨hRs27, hs27_0, hs27_1⟩ := hs27
              have hs27_0 : gI s27 108 = gI s3 108 + 1 := hs27_0
              have hs27_1 : gB s27 107 = upZ (gB s3 107) (gI s3 108).toNat (1 : Int) := hs27_1
              unfold m_x12_codesTell_J136
              exact ih19 x1 (x2 + 1) s27 hRs27 (by show x1 = p0 ∧ gA s 42 (3 + p0.toNat) ≤ (x2 + 1) ∧ (x2 + 1) ≤ gA s 43 (3 + p0.toNat); have : (0 : Int) ≤ gI s27 108 ∧ gI s27 108 ≤ 1700 := hRs27.1 108; have : (0 : Int) ≤ gI s3 108 ∧ gI s3 108 ≤ 1700 := hRs3.1 108; omega) (⟨((Fs27.2.1 42 (by decide))).trans hv19_1.1, ((Fs27.2.1 43 (by decide))).trans hv19_1.2.1, ((Fs27.2.1 44 (by decide))).trans hv19_1.2.2⟩) (by
        have z8 : gI s27 108 = g1 := by have : (0 : Int) ≤ gI s3 108 ∧ gI s3 108 ≤ 1700 := hRs3.1 108; have : (0 : Int) ≤ gI s27 108 ∧ gI s27 108 ≤ 1700 := hRs27.1 108; omega
        refine ⟨U1, by rw [z8, show (x2 + 1 - gA s 42 (3 + p0.toNat)).toNat = (x2 - gA s 42 (3 + p0.toNat)).toNat + 1 by omega]; exact hr1, by omega, ?_, by omega⟩
        exact PL_push hP hs27_0 hs27_1 (by omega) (by omega) (by omega) (by omega) (by omega)) (by have : (0 : Int) ≤ gI s27 108 ∧ gI s27 108 ≤ 1700 := hRs27.1 108; have : (0 : Int) ≤ gI s3 108 ∧ gI s3 108 ≤ 1700 := hRs3.1 108; omega)
            · skip
              refine wp_rg (by have : (0 : Int) ≤ gI s3 108 ∧ gI s3 108 ≤ 1700 := hRs3.1 108; omega) ?_
              refine wp_if (fun c5 => ?_) (fun c5 => ?_)
              · skip
                refine wp_rdLn (by have : (0 : Int) ≤ gI s3 108 ∧ gI s3 108 ≤ 1700 := hRs3.1 108; omega) (fun yl23 eyl23 => ?_)
                have k23 := hP.1 (gI s3 108 - 1).toNat (by omega)
                rw [eyl23] at k23
                refine wp_inb (by have : (0 : Int) ≤ gI s3 108 ∧ gI s3 108 ≤ 1700 := hRs3.1 108; omega) ?_
                refine wp_stn (fun s25 es25 => ?_)
                have hRs25 : Rr s25 := es25 ▸ Rr.uBu hRs3 (by have : (0 : Int) ≤ gI s3 108 ∧ gI s3 108 ≤ 1700 := hRs3.1 108; omega)
                unfold m_x12_codesTell_J136
                exact ih19 x1 (x2 + 1) s25 hRs25 (by show x1 = p0 ∧ gA s 42 (3 + p0.toNat) ≤ (x2 + 1) ∧ (x2 + 1) ≤ gA s 43 (3 + p0.toNat); have : (0 : Int) ≤ gI s3 108 ∧ gI s3 108 ≤ 1700 := hRs3.1 108; omega) (⟨((q_Ba es25 : gA s25 42 = gA s3 42)).trans hv19_1.1, ((q_Ba es25 : gA s25 43 = gA s3 43)).trans hv19_1.2.1, ((q_Ba es25 : gA s25 44 = gA s3 44)).trans hv19_1.2.2⟩) (by
        have z8 : gI s25 108 = g1 := by have : (0 : Int) ≤ gI s3 108 ∧ gI s3 108 ≤ 1700 := hRs3.1 108; have : gI s25 108 = gI s3 108 := q_Bi es25; omega
        refine ⟨U1, by rw [z8, show (x2 + 1 - gA s 42 (3 + p0.toNat)).toNat = (x2 - gA s 42 (3 + p0.toNat)).toNat + 1 by omega]; exact hr1, by omega, ?_, by omega⟩
        have kt : yl23 = 0 ∨ yl23 = 1 := by rw [← eyl23]; exact hP.2 _ (by omega)
        exact PL_top (w := 1 - yl23) hP (q_Bi es25 : gI s25 108 = gI s3 108) (q_BB es25) (by omega) (by omega) (by omega) (by omega)) (by have : (0 : Int) ≤ gI s3 108 ∧ gI s3 108 ≤ 1700 := hRs3.1 108; omega)
              · skip
                refine wp_bn (w_x12_qJoins (B := 2147483648 + (x2 - gA s 42 (3 + p0.toNat))) hRs3 (by show 2 ≤ gI s3 108 ∧ gI s3 108 ≤ 1700; have : (0 : Int) ≤ gI s3 108 ∧ gI s3 108 ≤ 1700 := hRs3.1 108; omega) (hP.1) (by show 1000000 ≤ (2147483648 + (x2 - gA s 42 (3 + p0.toNat))) ∧ (2147483648 + (x2 - gA s 42 (3 + p0.toNat))) ≤ 3000000000; have : (0 : Int) ≤ gI s3 108 ∧ gI s3 108 ≤ 1700 := hRs3.1 108; omega) (by show 1 ≤ y12 ∧ y12 ≤ 11; have : (0 : Int) ≤ gI s3 108 ∧ gI s3 108 ≤ 1700 := hRs3.1 108; omega) (fun h10 => ⟨by have z := hP.2 (gI s3 108 - 1).toNat (by omega); exact z, by have z := hP.2 (gI s3 108 - 2).toNat (by omega); exact z⟩)) (fun s22 es22 hs22 => ?_)
                have Fs22 : F_x12_qJoins s3 s22 := fr_x12_qJoins es22
                obtain ⟨hRs22, hs22_0, hs22_1⟩ := hs22
                have hs22_0 : gI s22 108 = gI s3 108 - 1 := hs22_0
                have hs22_1 : ∃ w, gB s22 107 = upZ (gB s3 107) (gI s3 108 - 2).toNat w ∧ ((0 - (2147483648 + (x2 - gA s 42 (3 + p0.toNat))) - 1) ≤ w ∧ w ≤ (2147483648 + (x2 - gA s 42 (3 + p0.toNat))) + 1) ∧ (7 ≤ y12 → w = 0 ∨ w = 1) := hs22_1
                unfold m_x12_codesTell_J136
                exact ih19 x1 (x2 + 1) s22 hRs22 (by show x1 = p0 ∧ gA s 42 (3 + p0.toNat) ≤ (x2 + 1) ∧ (x2 + 1) ≤ gA s 43 (3 + p0.toNat); have : (0 : Int) ≤ gI s22 108 ∧ gI s22 108 ≤ 1700 := hRs22.1 108; have : (0 : Int) ≤ gI s3 108 ∧ gI s3 108 ≤ 1700 := hRs3.1 108; omega) (⟨((Fs22.2.1 42 (by decide))).trans hv19_1.1, ((Fs22.2.1 43 (by decide))).trans hv19_1.2.1, ((Fs22.2.1 44 (by decide))).trans hv19_1.2.2⟩) (by
        have z8 : gI s22 108 = g1 := by have : (0 : Int) ≤ gI s3 108 ∧ gI s3 108 ≤ 1700 := hRs3.1 108; have : (0 : Int) ≤ gI s22 108 ∧ gI s22 108 ≤ 1700 := hRs22.1 108; omega
        refine ⟨U1, by rw [z8, show (x2 + 1 - gA s 42 (3 + p0.toNat)).toNat = (x2 - gA s 42 (3 + p0.toNat)).toNat + 1 by omega]; exact hr1, by omega, ?_, by omega⟩
        obtain ⟨w, w1, w2, w3⟩ := hs22_1
        exact PL_join hP hs22_0 w1 (by omega) (by omega) (by omega) (by omega)) (by have : (0 : Int) ≤ gI s22 108 ∧ gI s22 108 ≤ 1700 := hRs22.1 108; have : (0 : Int) ≤ gI s3 108 ∧ gI s3 108 ≤ 1700 := hRs3.1 108; omega)
          · skip
            refine wp_bn (w_x12_qPartOf hRs3 (by show R2 (y12 - 40); have : (0 : Int) ≤ gI s3 108 ∧ gI s3 108 ≤ 1700 := hRs3.1 108; omega)) (fun rl29 erl29 hrl29 => ?_)
            have hrl29_0 := hrl29
            have hrl29_0 : R2 rl29 := hrl29_0
            refine wp_bn (w_x12_qPuts hRs3 (by show gI s3 108 < 1700; have : (0 : Int) ≤ gI s3 108 ∧ gI s3 108 ≤ 1700 := hRs3.1 108; omega) (by show R8 rl29; have : (0 : Int) ≤ gI s3 108 ∧ gI s3 108 ≤ 1700 := hRs3.1 108; omega)) (fun s31 es31 hs31 => ?_)
            have Fs31 : F_x12_qPuts s3 s31 := fr_x12_qPuts es31
            obtain ⟨hRs31, hs31_0, hs31_1⟩ := hs31
            have hs31_0 : gI s31 108 = gI s3 108 + 1 := hs31_0
            have hs31_1 : gB s31 107 = upZ (gB s3 107) (gI s3 108).toNat rl29 := hs31_1
            unfold m_x12_codesTell_J136
            exact ih19 x1 (x2 + 1) s31 hRs31 (by show x1 = p0 ∧ gA s 42 (3 + p0.toNat) ≤ (x2 + 1) ∧ (x2 + 1) ≤ gA s 43 (3 + p0.toNat); have : (0 : Int) ≤ gI s31 108 ∧ gI s31 108 ≤ 1700 := hRs31.1 108; have : (0 : Int) ≤ gI s3 108 ∧ gI s3 108 ≤ 1700 := hRs3.1 108; omega) (⟨((Fs31.2.1 42 (by decide))).trans hv19_1.1, ((Fs31.2.1 43 (by decide))).trans hv19_1.2.1, ((Fs31.2.1 44 (by decide))).trans hv19_1.2.2⟩) (by
        have z8 : gI s31 108 = g1 := by have : (0 : Int) ≤ gI s3 108 ∧ gI s3 108 ≤ 1700 := hRs3.1 108; have : (0 : Int) ≤ gI s31 108 ∧ gI s31 108 ≤ 1700 := hRs31.1 108; omega
        refine ⟨U1, by rw [z8, show (x2 + 1 - gA s 42 (3 + p0.toNat)).toNat = (x2 - gA s 42 (3 + p0.toNat)).toNat + 1 by omega]; exact hr1, by omega, ?_, by omega⟩
        exact PL_push hP hs31_0 hs31_1 (by omega) (by omega) (by omega) (by omega) (by omega)) (by have : (0 : Int) ≤ gI s31 108 ∧ gI s31 108 ≤ 1700 := hRs31.1 108; have : (0 : Int) ≤ gI s3 108 ∧ gI s3 108 ≤ 1700 := hRs3.1 108; omega)
        · skip
          refine wp_rg (by have : (0 : Int) ≤ gI s3 108 ∧ gI s3 108 ≤ 1700 := hRs3.1 108; omega) ?_
          refine wp_bn (w_x12_qPuts hRs3 (by show gI s3 108 < 1700; have : (0 : Int) ≤ gI s3 108 ∧ gI s3 108 ≤ 1700 := hRs3.1 108; omega) (by show R8 (y12 - 1000); have : (0 : Int) ≤ gI s3 108 ∧ gI s3 108 ≤ 1700 := hRs3.1 108; omega)) (fun s34 es34 hs34 => ?_)
          have Fs34 : F_x12_qPuts s3 s34 := fr_x12_qPuts es34
          obtain ⟨hRs34, hs34_0, hs34_1⟩ := hs34
          have hs34_0 : gI s34 108 = gI s3 108 + 1 := hs34_0
          have hs34_1 : gB s34 107 = upZ (gB s3 107) (gI s3 108).toNat (y12 - 1000) := hs34_1
          unfold m_x12_codesTell_J136
          exact ih19 x1 (x2 + 1) s34 hRs34 (by show x1 = p0 ∧ gA s 42 (3 + p0.toNat) ≤ (x2 + 1) ∧ (x2 + 1) ≤ gA s 43 (3 + p0.toNat); have : (0 : Int) ≤ gI s34 108 ∧ gI s34 108 ≤ 1700 := hRs34.1 108; have : (0 : Int) ≤ gI s3 108 ∧ gI s3 108 ≤ 1700 := hRs3.1 108; omega) (⟨((Fs34.2.1 42 (by decide))).trans hv19_1.1, ((Fs34.2.1 43 (by decide))).trans hv19_1.2.1, ((Fs34.2.1 44 (by decide))).trans hv19_1.2.2⟩) (by
        have z8 : gI s34 108 = g1 := by have : (0 : Int) ≤ gI s3 108 ∧ gI s3 108 ≤ 1700 := hRs3.1 108; have : (0 : Int) ≤ gI s34 108 ∧ gI s34 108 ≤ 1700 := hRs34.1 108; omega
        refine ⟨U1, by rw [z8, show (x2 + 1 - gA s 42 (3 + p0.toNat)).toNat = (x2 - gA s 42 (3 + p0.toNat)).toNat + 1 by omega]; exact hr1, by omega, ?_, by omega⟩
        exact PL_push hP hs34_0 hs34_1 (by omega) (by omega) (by omega) (by omega) (by omega)) (by have : (0 : Int) ≤ gI s34 108 ∧ gI s34 108 ≤ 1700 := hRs34.1 108; have : (0 : Int) ≤ gI s3 108 ∧ gI s3 108 ≤ 1700 := hRs3.1 108; omega)
  exact L19 FU p0 y37 s36 hRs36 (⟨rfl, by omega, by omega⟩) (⟨((q_Ia es36 : gA s36 42 = gA s35 42).trans (q_Ia es35 : gA s35 42 = gA s 42)), ((q_Ia es36 : gA s36 43 = gA s35 43).trans (q_Ia es35 : gA s35 43 = gA s 43)), ((q_Ia es36 : gA s36 44 = gA s35 44).trans (q_Ia es35 : gA s35 44 = gA s 44))⟩) (⟨U0, by rw [(q_II es36 : gI s36 108 = 0), ← k37, show (gA s 42 (3 + p0.toNat) - gA s 42 (3 + p0.toNat)).toNat = 0 by omega]; exact u2, by rw [(q_II es36 : gI s36 108 = 0)]; exact u1, ⟨fun j hj => by rw [(q_II es36 : gI s36 108 = 0)] at hj; omega, fun j hj => by omega⟩, by rw [(q_II es36 : gI s36 108 = 0)]; omega⟩) (by have := FU_big; have := FU_big2; omega)
set_option maxHeartbeats 4000000 in
theorem w_x12_qTold {p0 : Int} {s : MS} (hRs : Rr s) (hp0 : R2 p0) (hp1 : ∃ T, hk 3 (gA s 101) (gI s 102).toNat 1 T) (hp2 : 0 ≤ gA s 39 5 ∧ gA s 39 5 ≤ 48) : wp (m_x12_qTold p0 s) (fun q => (Rr q.2) ∧ ((-3000000000) ≤ q.1 ∧ q.1 ≤ 3000000000)) := by
  obtain ⟨T, q4⟩ := hp1
  obtain ⟨U0, u1, u2⟩ := rn_0 q4
  have r102 : (0 : Int) ≤ gI s 102 ∧ gI s 102 ≤ 1700 := hRs.1 102
  unfold m_x12_qTold
  refine wp_stn (fun s45 es45 => ?_)
  have hRs45 : Rr s45 := es45 ▸ Rr.uI hRs (by show (0 : Int) ≤ (0 : Int) ∧ (0 : Int) ≤ 1700; have : (0 : Int) ≤ gI s 102 ∧ gI s 102 ≤ 1700 := hRs.1 102; omega)
  have L7 : ∀ (n : Nat) (x1 : Int) (x2 : Int) (s3 : MS), Rr s3 → (x1 = p0 ∧ 0 ≤ x2 ∧ x2 ≤ gI s 102) → (gA s3 101 = gA s 101 ∧ gI s3 102 = gI s 102 ∧ gA s3 39 = gA s 39) → (∃ U, rn 3 1 (gA s 101) (gI s 102 - x2).toNat (x2 - 0).toNat (gI s3 108) U ∧ U ≤ gI s3 108 ∧ PL s3 U (2147483648 + (x2 - 0)) ∧ (0 ≤ gI s3 108 ∧ gI s3 108 ≤ x2 - 0)) → (1700 - x2) < (n : Int) → wp (m_x12_qTold_L7 n x1 x2 s3) (fun q => (Rr q.2) ∧ ((-3000000000) ≤ q.1 ∧ q.1 ≤ 3000000000)) := by
    refine fr_ind (fun x1 x2 s3 hRs3 hv7_0 hv7_1 hv7_2 hm7 => ?_) (fun n7 ih7 x1 x2 s3 hRs3 hv7_0 hv7_1 hv7_2 hm7 => ?_)
    · exfalso; have : (0 : Int) ≤ gI s3 108 ∧ gI s3 108 ≤ 1700 := hRs3.1 108; have : (0 : Int) ≤ gI s3 102 ∧ gI s3 102 ≤ 1700 := hRs3.1 102; have : (0 : Int) ≤ gI s 102 ∧ gI s 102 ≤ 1700 := hRs.1 102; omega
    · show wp (m_x12_qTold_b7 (m_x12_qTold_L7 n7) x1 x2 s3) _
      unfold m_x12_qTold_b7
      have r2 := hv7_1.2.1
      refine wp_rg (by have : (0 : Int) ≤ gI s3 108 ∧ gI s3 108 ≤ 1700 := hRs3.1 108; have : (0 : Int) ≤ gI s3 102 ∧ gI s3 102 ≤ 1700 := hRs3.1 102; have : (0 : Int) ≤ gI s 102 ∧ gI s 102 ≤ 1700 := hRs.1 102; omega) ?_
      refine wp_rg (by have : (0 : Int) ≤ gI s3 108 ∧ gI s3 108 ≤ 1700 := hRs3.1 108; have : (0 : Int) ≤ gI s 102 ∧ gI s 102 ≤ 1700 := hRs.1 102; have : (0 : Int) ≤ gI s3 102 ∧ gI s3 102 ≤ 1700 := hRs3.1 102; omega) ?_
      refine wp_if (fun c1 => ?_) (fun c1 => ?_)
      · skip
        obtain ⟨U, hrn, hU, hP, hh⟩ := hv7_2
        rw [show (gI s 102 - x2).toNat = 0 by omega] at hrn
        have h1 : gI s3 108 = 1 := hrn
        have kp := hP.1 0 (by omega)
        refine wp_rdLn (by have : (0 : Int) ≤ gI s3 108 ∧ gI s3 108 ≤ 1700 := hRs3.1 108; have : (0 : Int) ≤ gI s3 102 ∧ gI s3 102 ≤ 1700 := hRs3.1 102; have : (0 : Int) ≤ gI s 102 ∧ gI s 102 ≤ 1700 := hRs.1 102; omega) (fun yl10 eyl10 => ?_)
        have kyl : gB s3 107 0 = yl10 := eyl10
        rw [kyl] at kp
        exact wp_some ⟨hRs3, by show (-3000000000) ≤ yl10 ∧ yl10 ≤ 3000000000; have : (0 : Int) ≤ gI s3 108 ∧ gI s3 108 ≤ 1700 := hRs3.1 108; have : (0 : Int) ≤ gI s3 102 ∧ gI s3 102 ≤ 1700 := hRs3.1 102; have : (0 : Int) ≤ gI s 102 ∧ gI s 102 ≤ 1700 := hRs.1 102; omega⟩
      · skip
        obtain ⟨U, hrn, hU, hP, hh⟩ := hv7_2
        rw [show (gI s 102 - x2).toNat = (gI s 102 - (x2 + 1)).toNat + 1 by omega] at hrn
        obtain ⟨g1, U1, st1, hr1⟩ := hrn
        refine wp_rdIn (by have : (0 : Int) ≤ gI s3 108 ∧ gI s3 108 ≤ 1700 := hRs3.1 108; have : (0 : Int) ≤ gI s3 102 ∧ gI s3 102 ≤ 1700 := hRs3.1 102; have : (0 : Int) ≤ gI s 102 ∧ gI s 102 ≤ 1700 := hRs.1 102; omega) (fun y11 ey11 => ?_)
        have by11 : (0 : Int) ≤ y11 ∧ y11 ≤ 10999 := ey11 ▸ hRs3.2.1 101 _ (by show _ < 1700; have : (0 : Int) ≤ gI s3 108 ∧ gI s3 108 ≤ 1700 := hRs3.1 108; have : (0 : Int) ≤ gI s3 102 ∧ gI s3 102 ≤ 1700 := hRs3.1 102; have : (0 : Int) ≤ gI s 102 ∧ gI s 102 ≤ 1700 := hRs.1 102; omega)
        have kf : gA s 101 (x2 - 0).toNat = y11 := by rw [← ey11, hv7_1.1]; congr 1; omega
        rw [kf] at st1
        have sp := st1.1
        have tp := st1.2.1
        have sk := st1.2.2
        unfold stp at sp
        unfold tpd at tp
        refine wp_rg (by have : (0 : Int) ≤ gI s3 108 ∧ gI s3 108 ≤ 1700 := hRs3.1 108; have : (0 : Int) ≤ gI s3 102 ∧ gI s3 102 ≤ 1700 := hRs3.1 102; have : (0 : Int) ≤ gI s 102 ∧ gI s 102 ≤ 1700 := hRs.1 102; omega) ?_
        refine wp_if (fun c2 => ?_) (fun c2 => ?_)
        · skip
          refine wp_rg (by have : (0 : Int) ≤ gI s3 108 ∧ gI s3 108 ≤ 1700 := hRs3.1 108; have : (0 : Int) ≤ gI s3 102 ∧ gI s3 102 ≤ 1700 := hRs3.1 102; have : (0 : Int) ≤ gI s 102 ∧ gI s 102 ≤ 1700 := hRs.1 102; omega) ?_
          refine wp_if (fun c3 => ?_) (fun c3 => ?_)
          · skip
            refine wp_rg (by have : (0 : Int) ≤ gI s3 108 ∧ gI s3 108 ≤ 1700 := hRs3.1 108; have : (0 : Int) ≤ gI s3 102 ∧ gI s3 102 ≤ 1700 := hRs3.1 102; have : (0 : Int) ≤ gI s 102 ∧ gI s 102 ≤ 1700 := hRs.1 102; omega) ?_
            refine wp_if (fun c4 => ?_) (fun c4 => ?_)
            · skip
              refine wp_rg (by have : (0 : Int) ≤ gI s3 108 ∧ gI s3 108 ≤ 1700 := hRs3.1 108; have : (0 : Int) ≤ gI s3 102 ∧ gI s3 102 ≤ 1700 := hRs3.1 102; have : (0 : Int) ≤ gI s 102 ∧ gI s 102 ≤ 1700 := hRs.1 102; omega) ?_
              refine wp_if (fun c5 => ?_) (fun c5 => ?_)
              · skip
                refine wp_bn (w_x12_qPuts hRs3 (by show gI s3 108 < 1700; have : (0 : Int) ≤ gI s3 102 ∧ gI s3 102 ≤ 1700 := hRs3.1 102; have : (0 : Int) ≤ gI s 102 ∧ gI s 102 ≤ 1700 := hRs.1 102; have : (0 : Int) ≤ gI s3 108 ∧ gI s3 108 ≤ 1700 := hRs3.1 108; omega) (by show R8 (1 : Int); have : (0 : Int) ≤ gI s3 108 ∧ gI s3 108 ≤ 1700 := hRs3.1 108; have : (0 : Int) ≤ gI s3 102 ∧ gI s3 102 ≤ 1700 := hRs3.1 102; have : (0 : Int) ≤ gI s 102 ∧ gI s 102 ≤ 1700 := hRs.1 102; omega)) (fun s28 es28 hs28 => ?_)
                have Fs28 : F_x12_qPuts s3 s28 := fr_x12_qPuts es28
                obtain ⟨hRs28, hs28_0, hs28_1⟩ := hs28
                have hs28_0 : gI s28 108 = gI s3 108 + 1 := hs28_0
                have hs28_1 : gB s28 107 = upZ (gB s3 107) (gI s3 108).toNat (1 : Int) := hs28_1
                unfold m_x12_qTold_J162
                exact ih7 x1 (x2 + 1) s28 hRs28 (by show x1 = p0 ∧ 0 ≤ (x2 + 1) ∧ (x2 + 1) ≤ gI s 102; have : (0 : Int) ≤ gI s28 108 ∧ gI s28 108 ≤ 1700 := hRs28.1 108; have : (0 : Int) ≤ gI s3 108 ∧ gI s3 108 ≤ 1700 := hRs3.1 108; have : (0 : Int) ≤ gI s3 102 ∧ gI s3 102 ≤ 1700 := hRs3.1 102; have : (0 : Int) ≤ gI s 102 ∧ gI s 102 ≤ 1700 := hRs.1 102; omega) (⟨((Fs28.2.1 101 (by decide))).trans hv7_1.1, ((Fs28.1 102 (by decide))).trans hv7_1.2.1, ((Fs28.2.1 39 (by decide))).trans hv7_1.2.2⟩) (by
        have z8 : gI s28 108 = g1 := by have : (0 : Int) ≤ gI s3 108 ∧ gI s3 108 ≤ 1700 := hRs3.1 108; have : (0 : Int) ≤ gI s3 102 ∧ gI s3 102 ≤ 1700 := hRs3.1 102; have : (0 : Int) ≤ gI s 102 ∧ gI s 102 ≤ 1700 := hRs.1 102; have : (0 : Int) ≤ gI s28 108 ∧ gI s28 108 ≤ 1700 := hRs28.1 108; omega
        refine ⟨U1, by rw [z8, show (x2 + 1 - 0).toNat = (x2 - 0).toNat + 1 by omega]; exact hr1, by omega, ?_, by omega⟩
        exact PL_push hP hs28_0 hs28_1 (by omega) (by omega) (by omega) (by omega) (by omega)) (by have : (0 : Int) ≤ gI s28 108 ∧ gI s28 108 ≤ 1700 := hRs28.1 108; have : (0 : Int) ≤ gI s3 108 ∧ gI s3 108 ≤ 1700 := hRs3.1 108; have : (0 : Int) ≤ gI s3 102 ∧ gI s3 102 ≤ 1700 := hRs3.1 102; have : (0 : Int) ≤ gI s 102 ∧ gI s 102 ≤ 1700 := hRs.1 102; omega)
              · skip
                refine wp_rg (by have : (0 : Int) ≤ gI s3 108 ∧ gI s3 108 ≤ 1700 := hRs3.1 108; have : (0 : Int) ≤ gI s3 102 ∧ gI s3 102 ≤ 1700 := hRs3.1 102; have : (0 : Int) ≤ gI s 102 ∧ gI s 102 ≤ 1700 := hRs.1 102; omega) ?_
                refine wp_if (fun c6 => ?_) (fun c6 => ?_)
                · skip
                  refine wp_rdLn (by have : (0 : Int) ≤ gI s3 102 ∧ gI s3 102 ≤ 1700 := hRs3.1 102; have : (0 : Int) ≤ gI s 102 ∧ gI s 102 ≤ 1700 := hRs.1 102; have : (0 : Int) ≤ gI s3 108 ∧ gI s3 108 ≤ 1700 := hRs3.1 108; omega) (fun yl24 eyl24 => ?_)
                  have k24 := hP.1 (gI s3 108 - 1).toNat (by omega)
                  rw [eyl24] at k24
                  refine wp_inb (by have : (0 : Int) ≤ gI s3 102 ∧ gI s3 102 ≤ 1700 := hRs3.1 102; have : (0 : Int) ≤ gI s 102 ∧ gI s 102 ≤ 1700 := hRs.1 102; have : (0 : Int) ≤ gI s3 108 ∧ gI s3 108 ≤ 1700 := hRs3.1 108; omega) ?_
                  refine wp_stn (fun s26 es26 => ?_)
                  have hRs26 : Rr s26 := es26 ▸ Rr.uBu hRs3 (by have : (0 : Int) ≤ gI s3 108 ∧ gI s3 108 ≤ 1700 := hRs3.1 108; have : (0 : Int) ≤ gI s3 102 ∧ gI s3 102 ≤ 1700 := hRs3.1 102; have : (0 : Int) ≤ gI s 102 ∧ gI s 102 ≤ 1700 := hRs.1 102; omega)
                  unfold m_x12_qTold_J162
                  exact ih7 x1 (x2 + 1) s26 hRs26 (by show x1 = p0 ∧ 0 ≤ (x2 + 1) ∧ (x2 + 1) ≤ gI s 102; have : (0 : Int) ≤ gI s3 108 ∧ gI s3 108 ≤ 1700 := hRs3.1 108; have : (0 : Int) ≤ gI s3 102 ∧ gI s3 102 ≤ 1700 := hRs3.1 102; have : (0 : Int) ≤ gI s 102 ∧ gI s 102 ≤ 1700 := hRs.1 102; omega) (⟨((q_Ba es26 : gA s26 101 = gA s3 101)).trans hv7_1.1, ((q_Bi es26 : gI s26 102 = gI s3 102)).trans hv7_1.2.1, ((q_Ba es26 : gA s26 39 = gA s3 39)).trans hv7_1.2.2⟩) (by
        have z8 : gI s26 108 = g1 := by have : (0 : Int) ≤ gI s3 108 ∧ gI s3 108 ≤ 1700 := hRs3.1 108; have : (0 : Int) ≤ gI s3 102 ∧ gI s3 102 ≤ 1700 := hRs3.1 102; have : (0 : Int) ≤ gI s 102 ∧ gI s 102 ≤ 1700 := hRs.1 102; have : gI s26 108 = gI s3 108 := q_Bi es26; omega
        refine ⟨U1, by rw [z8, show (x2 + 1 - 0).toNat = (x2 - 0).toNat + 1 by omega]; exact hr1, by omega, ?_, by omega⟩
        have kt : yl24 = 0 ∨ yl24 = 1 := by rw [← eyl24]; exact hP.2 _ (by omega)
        exact PL_top (w := 1 - yl24) hP (q_Bi es26 : gI s26 108 = gI s3 108) (q_BB es26) (by omega) (by omega) (by omega) (by omega)) (by have : (0 : Int) ≤ gI s3 108 ∧ gI s3 108 ≤ 1700 := hRs3.1 108; have : (0 : Int) ≤ gI s3 102 ∧ gI s3 102 ≤ 1700 := hRs3.1 102; have : (0 : Int) ≤ gI s 102 ∧ gI s 102 ≤ 1700 := hRs.1 102; omega)
                · skip
                  refine wp_bn (w_x12_qJoins (B := 2147483648 + (x2 - 0)) hRs3 (by show 2 ≤ gI s3 108 ∧ gI s3 108 ≤ 1700; have : (0 : Int) ≤ gI s3 102 ∧ gI s3 102 ≤ 1700 := hRs3.1 102; have : (0 : Int) ≤ gI s 102 ∧ gI s 102 ≤ 1700 := hRs.1 102; have : (0 : Int) ≤ gI s3 108 ∧ gI s3 108 ≤ 1700 := hRs3.1 108; omega) (hP.1) (by show 1000000 ≤ (2147483648 + (x2 - 0)) ∧ (2147483648 + (x2 - 0)) ≤ 3000000000; have : (0 : Int) ≤ gI s3 108 ∧ gI s3 108 ≤ 1700 := hRs3.1 108; have : (0 : Int) ≤ gI s3 102 ∧ gI s3 102 ≤ 1700 := hRs3.1 102; have : (0 : Int) ≤ gI s 102 ∧ gI s 102 ≤ 1700 := hRs.1 102; omega) (by show 1 ≤ y11 ∧ y11 ≤ 11; have : (0 : Int) ≤ gI s3 108 ∧ gI s3 108 ≤ 1700 := hRs3.1 108; have : (0 : Int) ≤ gI s3 102 ∧ gI s3 102 ≤ 1700 := hRs3.1 102; have : (0 : Int) ≤ gI s 102 ∧ gI s 102 ≤ 1700 := hRs.1 102; omega) (fun h10 => ⟨by have z := hP.2 (gI s3 108 - 1).toNat (by omega); exact z, by have z := hP.2 (gI s3 108 - 2).toNat (by omega); exact z⟩)) (fun s23 es23 hs23 => ?_)
                  have Fs23 : F_x12_qJoins s3 s23 := fr_x12_qJoins es23
                  obtain ⟨hRs23, hs23_0, hs23_1⟩ := hs23
                  have hs23_0 : gI s23 108 = gI s3 108 - 1 := hs23_0
                  have hs23_1 : ∃ w, gB s23 107 = upZ (gB s3 107) (gI s3 108 - 2).toNat w ∧ ((0 - (2147483648 + (x2 - 0)) - 1) ≤ w ∧ w ≤ (2147483648 + (x2 - 0)) + 1) ∧ (7 ≤ y11 → w = 0 ∨ w = 1) := hs23_1
                  unfold m_x12_qTold_J162
                  exact ih7 x1 (x2 + 1) s23 hRs23 (by show x1 = p0 ∧ 0 ≤ (x2 + 1) ∧ (x2 + 1) ≤ gI s 102; have : (0 : Int) ≤ gI s23 108 ∧ gI s23 108 ≤ 1700 := hRs23.1 108; have : (0 : Int) ≤ gI s3 108 ∧ gI s3 108 ≤ 1700 := hRs3.1 108; have : (0 : Int) ≤ gI s3 102 ∧ gI s3 102 ≤ 1700 := hRs3.1 102; have : (0 : Int) ≤ gI s 102 ∧ gI s 102 ≤ 1700 := hRs.1 102; omega) (⟨((Fs23.2.1 101 (by decide))).trans hv7_1.1, ((Fs23.1 102 (by decide))).trans hv7_1.2.1, ((Fs23.2.1 39 (by decide))).trans hv7_1.2.2⟩) (by
        have z8 : gI s23 108 = g1 := by have : (0 : Int) ≤ gI s3 108 ∧ gI s3 108 ≤ 1700 := hRs3.1 108; have : (0 : Int) ≤ gI s3 102 ∧ gI s3 102 ≤ 1700 := hRs3.1 102; have : (0 : Int) ≤ gI s 102 ∧ gI s 102 ≤ 1700 := hRs.1 102; have : (0 : Int) ≤ gI s23 108 ∧ gI s23 108 ≤ 1700 := hRs23.1 108; omega
        refine ⟨U1, by rw [z8, show (x2 + 1 - 0).toNat = (x2 - 0).toNat + 1 by omega]; exact hr1, by omega, ?_, by omega⟩
        obtain ⟨w, w1, w2, w3⟩ := hs23_1
        exact PL_join hP hs23_0 w1 (by omega) (by omega) (by omega) (by omega)) (by have : (0 : Int) ≤ gI s23 108 ∧ gI s23 108 ≤ 1700 := hRs23.1 108; have : (0 : Int) ≤ gI s3 108 ∧ gI s3 108 ≤ 1700 := hRs3.1 108; have : (0 : Int) ≤ gI s3 102 ∧ gI s3 102 ≤ 1700 := hRs3.1 102; have : (0 : Int) ≤ gI s 102 ∧ gI s 102 ≤ 1700 := hRs.1 102; omega)
            · skip
              refine wp_bn (w_x12_qPartOf hRs3 (by show R2 (y11 - 40); have : (0 : Int) ≤ gI s3 108 ∧ gI s3 108 ≤ 1700 := hRs3.1 108; have : (0 : Int) ≤ gI s3 102 ∧ gI s3 102 ≤ 1700 := hRs3.1 102; have : (0 : Int) ≤ gI s 102 ∧ gI s 102 ≤ 1700 := hRs.1 102; omega)) (fun rl30 erl30 hrl30 => ?_)
              have hrl30_0 := hrl30
              have hrl30_0 : R2 rl30 := hrl30_0
              refine wp_bn (w_x12_qClip hRs3 (by show R8 rl30; have : (0 : Int) ≤ gI s3 108 ∧ gI s3 108 ≤ 1700 := hRs3.1 108; have : (0 : Int) ≤ gI s3 102 ∧ gI s3 102 ≤ 1700 := hRs3.1 102; have : (0 : Int) ≤ gI s 102 ∧ gI s 102 ≤ 1700 := hRs.1 102; omega)) (fun rl32 erl32 hrl32 => ?_)
              have hrl32_0 := hrl32
              have hrl32_0 : (-1000000) ≤ rl32 ∧ rl32 ≤ 1000000 := hrl32_0
              refine wp_bn (w_x12_qPuts hRs3 (by show gI s3 108 < 1700; have : (0 : Int) ≤ gI s3 102 ∧ gI s3 102 ≤ 1700 := hRs3.1 102; have : (0 : Int) ≤ gI s 102 ∧ gI s 102 ≤ 1700 := hRs.1 102; have : (0 : Int) ≤ gI s3 108 ∧ gI s3 108 ≤ 1700 := hRs3.1 108; omega) (by show R8 rl32; have : (0 : Int) ≤ gI s3 108 ∧ gI s3 108 ≤ 1700 := hRs3.1 108; have : (0 : Int) ≤ gI s3 102 ∧ gI s3 102 ≤ 1700 := hRs3.1 102; have : (0 : Int) ≤ gI s 102 ∧ gI s 102 ≤ 1700 := hRs.1 102; omega)) (fun s34 es34 hs34 => ?_)
              have Fs34 : F_x12_qPuts s3 s34 := fr_x12_qPuts es34
              obtain ⟨hRs34, hs34_0, hs34_1⟩ := hs34
              have hs34_0 : gI s34 108 = gI s3 108 + 1 := hs34_0
              have hs34_1 : gB s34 107 = upZ (gB s3 107) (gI s3 108).toNat rl32 := hs34_1
              unfold m_x12_qTold_J162
              exact ih7 x1 (x2 + 1) s34 hRs34 (by show x1 = p0 ∧ 0 ≤ (x2 + 1) ∧ (x2 + 1) ≤ gI s 102; have : (0 : Int) ≤ gI s34 108 ∧ gI s34 108 ≤ 1700 := hRs34.1 108; have : (0 : Int) ≤ gI s3 108 ∧ gI s3 108 ≤ 1700 := hRs3.1 108; have : (0 : Int) ≤ gI s3 102 ∧ gI s3 102 ≤ 1700 := hRs3.1 102; have : (0 : Int) ≤ gI s 102 ∧ gI s 102 ≤ 1700 := hRs.1 102; omega) (⟨((Fs34.2.1 101 (by decide))).trans hv7_1.1, ((Fs34.1 102 (by decide))).trans hv7_1.2.1, ((Fs34.2.1 39 (by decide))).trans hv7_1.2.2⟩) (by
        have z8 : gI s34 108 = g1 := by have : (0 : Int) ≤ gI s3 108 ∧ gI s3 108 ≤ 1700 := hRs3.1 108; have : (0 : Int) ≤ gI s3 102 ∧ gI s3 102 ≤ 1700 := hRs3.1 102; have : (0 : Int) ≤ gI s 102 ∧ gI s 102 ≤ 1700 := hRs.1 102; have : (0 : Int) ≤ gI s34 108 ∧ gI s34 108 ≤ 1700 := hRs34.1 108; omega
        refine ⟨U1, by rw [z8, show (x2 + 1 - 0).toNat = (x2 - 0).toNat + 1 by omega]; exact hr1, by omega, ?_, by omega⟩
        exact PL_push hP hs34_0 hs34_1 (by omega) (by omega) (by omega) (by omega) (by omega)) (by have : (0 : Int) ≤ gI s34 108 ∧ gI s34 108 ≤ 1700 := hRs34.1 108; have : (0 : Int) ≤ gI s3 108 ∧ gI s3 108 ≤ 1700 := hRs3.1 108; have : (0 : Int) ≤ gI s3 102 ∧ gI s3 102 ≤ 1700 := hRs3.1 102; have : (0 : Int) ≤ gI s 102 ∧ gI s 102 ≤ 1700 := hRs.1 102; omega)
          · skip
            refine wp_rdLn (by have : (0 : Int) ≤ gI s3 102 ∧ gI s3 102 ≤ 1700 := hRs3.1 102; have : (0 : Int) ≤ gI s 102 ∧ gI s 102 ≤ 1700 := hRs.1 102; have : (0 : Int) ≤ gI s3 108 ∧ gI s3 108 ≤ 1700 := hRs3.1 108; omega) (fun yl35 eyl35 => ?_)
            have k35 := hP.1 (gI s3 108 - 1).toNat (by omega)
            rw [eyl35] at k35
            refine wp_bn (w_x12_qOf hRs3 (by show R2 (y11 - 60); have : (0 : Int) ≤ gI s3 108 ∧ gI s3 108 ≤ 1700 := hRs3.1 108; have : (0 : Int) ≤ gI s3 102 ∧ gI s3 102 ≤ 1700 := hRs3.1 102; have : (0 : Int) ≤ gI s 102 ∧ gI s 102 ≤ 1700 := hRs.1 102; omega) (by show R8 yl35; have : (0 : Int) ≤ gI s3 108 ∧ gI s3 108 ≤ 1700 := hRs3.1 108; have : (0 : Int) ≤ gI s3 102 ∧ gI s3 102 ≤ 1700 := hRs3.1 102; have : (0 : Int) ≤ gI s 102 ∧ gI s 102 ≤ 1700 := hRs.1 102; omega) (hv7_1.2.2 ▸ hp2)) (fun rl37 erl37 hrl37 => ?_)
            have hrl37_0 := hrl37
            have hrl37_0 : R2 rl37 := hrl37_0
            refine wp_bn (w_x12_qClip hRs3 (by show R8 rl37; have : (0 : Int) ≤ gI s3 108 ∧ gI s3 108 ≤ 1700 := hRs3.1 108; have : (0 : Int) ≤ gI s3 102 ∧ gI s3 102 ≤ 1700 := hRs3.1 102; have : (0 : Int) ≤ gI s 102 ∧ gI s 102 ≤ 1700 := hRs.1 102; omega)) (fun rl39 erl39 hrl39 => ?_)
            have hrl39_0 := hrl39
            have hrl39_0 : (-1000000) ≤ rl39 ∧ rl39 ≤ 1000000 := hrl39_0
            refine wp_inb (by have : (0 : Int) ≤ gI s3 102 ∧ gI s3 102 ≤ 1700 := hRs3.1 102; have : (0 : Int) ≤ gI s 102 ∧ gI s 102 ≤ 1700 := hRs.1 102; have : (0 : Int) ≤ gI s3 108 ∧ gI s3 108 ≤ 1700 := hRs3.1 108; omega) ?_
            refine wp_stn (fun s41 es41 => ?_)
            have hRs41 : Rr s41 := es41 ▸ Rr.uBu hRs3 (by have : (0 : Int) ≤ gI s3 108 ∧ gI s3 108 ≤ 1700 := hRs3.1 108; have : (0 : Int) ≤ gI s3 102 ∧ gI s3 102 ≤ 1700 := hRs3.1 102; have : (0 : Int) ≤ gI s 102 ∧ gI s 102 ≤ 1700 := hRs.1 102; omega)
            unfold m_x12_qTold_J162
            exact ih7 x1 (x2 + 1) s41 hRs41 (by show x1 = p0 ∧ 0 ≤ (x2 + 1) ∧ (x2 + 1) ≤ gI s 102; have : (0 : Int) ≤ gI s3 108 ∧ gI s3 108 ≤ 1700 := hRs3.1 108; have : (0 : Int) ≤ gI s3 102 ∧ gI s3 102 ≤ 1700 := hRs3.1 102; have : (0 : Int) ≤ gI s 102 ∧ gI s 102 ≤ 1700 := hRs.1 102; omega) (⟨((q_Ba es41 : gA s41 101 = gA s3 101)).trans hv7_1.1, ((q_Bi es41 : gI s41 102 = gI s3 102)).trans hv7_1.2.1, ((q_Ba es41 : gA s41 39 = gA s3 39)).trans hv7_1.2.2⟩) (by
        have z8 : gI s41 108 = g1 := by have : (0 : Int) ≤ gI s3 108 ∧ gI s3 108 ≤ 1700 := hRs3.1 108; have : (0 : Int) ≤ gI s3 102 ∧ gI s3 102 ≤ 1700 := hRs3.1 102; have : (0 : Int) ≤ gI s 102 ∧ gI s 102 ≤ 1700 := hRs.1 102; have : gI s41 108 = gI s3 108 := q_Bi es41; omega
        refine ⟨U1, by rw [z8, show (x2 + 1 - 0).toNat = (x2 - 0).toNat + 1 by omega]; exact hr1, by omega, ?_, by omega⟩
        exact PL_top hP (q_Bi es41 : gI s41 108 = gI s3 108) (q_BB es41) (by omega) (by omega) (by omega) (by omega)) (by have : (0 : Int) ≤ gI s3 108 ∧ gI s3 108 ≤ 1700 := hRs3.1 108; have : (0 : Int) ≤ gI s3 102 ∧ gI s3 102 ≤ 1700 := hRs3.1 102; have : (0 : Int) ≤ gI s 102 ∧ gI s 102 ≤ 1700 := hRs.1 102; omega)
        · skip
          refine wp_rg (by have : (0 : Int) ≤ gI s3 108 ∧ gI s3 108 ≤ 1700 := hRs3.1 108; have : (0 : Int) ≤ gI s3 102 ∧ gI s3 102 ≤ 1700 := hRs3.1 102; have : (0 : Int) ≤ gI s 102 ∧ gI s 102 ≤ 1700 := hRs.1 102; omega) ?_
          refine wp_bn (w_x12_qPuts hRs3 (by show gI s3 108 < 1700; have : (0 : Int) ≤ gI s3 102 ∧ gI s3 102 ≤ 1700 := hRs3.1 102; have : (0 : Int) ≤ gI s 102 ∧ gI s 102 ≤ 1700 := hRs.1 102; have : (0 : Int) ≤ gI s3 108 ∧ gI s3 108 ≤ 1700 := hRs3.1 108; omega) (by show R8 (y11 - 1000); have : (0 : Int) ≤ gI s3 108 ∧ gI s3 108 ≤ 1700 := hRs3.1 108; have : (0 : Int) ≤ gI s3 102 ∧ gI s3 102 ≤ 1700 := hRs3.1 102; have : (0 : Int) ≤ gI s 102 ∧ gI s 102 ≤ 1700 := hRs.1 102; omega)) (fun s44 es44 hs44 => ?_)
          have Fs44 : F_x12_qPuts s3 s44 := fr_x12_qPuts es44
          obtain ⟨hRs44, hs44_0, hs44_1⟩ := hs44
          have hs44_0 : gI s44 108 = gI s3 108 + 1 := hs44_0
          have hs44_1 : gB s44 107 = upZ (gB s3 107) (gI s3 108).toNat (y11 - 1000) := hs44_1
          unfold m_x12_qTold_J162
          exact ih7 x1 (x2 + 1) s44 hRs44 (by show x1 = p0 ∧ 0 ≤ (x2 + 1) ∧ (x2 + 1) ≤ gI s 102; have : (0 : Int) ≤ gI s44 108 ∧ gI s44 108 ≤ 1700 := hRs44.1 108; have : (0 : Int) ≤ gI s3 108 ∧ gI s3 108 ≤ 1700 := hRs3.1 108; have : (0 : Int) ≤ gI s3 102 ∧ gI s3 102 ≤ 1700 := hRs3.1 102; have : (0 : Int) ≤ gI s 102 ∧ gI s 102 ≤ 1700 := hRs.1 102; omega) (⟨((Fs44.2.1 101 (by decide))).trans hv7_1.1, ((Fs44.1 102 (by decide))).trans hv7_1.2.1, ((Fs44.2.1 39 (by decide))).trans hv7_1.2.2⟩) (by
        have z8 : gI s44 108 = g1 := by have : (0 : Int) ≤ gI s3 108 ∧ gI s3 108 ≤ 1700 := hRs3.1 108; have : (0 : Int) ≤ gI s3 102 ∧ gI s3 102 ≤ 1700 := hRs3.1 102; have : (0 : Int) ≤ gI s 102 ∧ gI s 102 ≤ 1700 := hRs.1 102; have : (0 : Int) ≤ gI s44 108 ∧ gI s44 108 ≤ 1700 := hRs44.1 108; omega
        refine ⟨U1, by rw [z8, show (x2 + 1 - 0).toNat = (x2 - 0).toNat + 1 by omega]; exact hr1, by omega, ?_, by omega⟩
        exact PL_push hP hs44_0 hs44_1 (by omega) (by omega) (by omega) (by omega) (by omega)) (by have : (0 : Int) ≤ gI s44 108 ∧ gI s44 108 ≤ 1700 := hRs44.1 108; have : (0 : Int) ≤ gI s3 108 ∧ gI s3 108 ≤ 1700 := hRs3.1 108; have : (0 : Int) ≤ gI s3 102 ∧ gI s3 102 ≤ 1700 := hRs3.1 102; have : (0 : Int) ≤ gI s 102 ∧ gI s 102 ≤ 1700 := hRs.1 102; omega)
  exact L7 FU p0 0 s45 hRs45 (by show p0 = p0 ∧ 0 ≤ (0 : Int) ∧ (0 : Int) ≤ gI s 102; have : (0 : Int) ≤ gI s 102 ∧ gI s 102 ≤ 1700 := hRs.1 102; omega) (⟨(q_Ia es45 : gA s45 101 = gA s 101), (q_Ii es45 (by decide) : gI s45 102 = gI s 102), (q_Ia es45 : gA s45 39 = gA s 39)⟩) (⟨U0, by rw [(q_II es45 : gI s45 108 = 0), show (gI s 102 - 0).toNat = (gI s 102).toNat by omega]; exact u2, by rw [(q_II es45 : gI s45 108 = 0)]; exact u1, ⟨fun j hj => by rw [(q_II es45 : gI s45 108 = 0)] at hj; omega, fun j hj => by omega⟩, by rw [(q_II es45 : gI s45 108 = 0)]; omega⟩) (by have := FU_big; have := FU_big2; have : (0 : Int) ≤ gI s 102 ∧ gI s 102 ≤ 1700 := hRs.1 102; omega)
