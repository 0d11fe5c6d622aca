set_option maxHeartbeats 1000000 in
theorem w_x12_laysLeaf {p0 : Int} {s : MS} (hRs : Rr s) (hp0 : 0 ≤ p0 ∧ p0 < 48) (hp1 : (0 ≤ (hM s).2.1 p0.toNat ∧ (hM s).2.1 p0.toNat ≤ 6)) (hp2 : gI s 67 ≤ 290) : wp (m_x12_laysLeaf p0 s) (fun o => (Rr o) ∧ (gI o 67 = gI s 67 + (hM s).2.1 p0.toNat)) := by
  unfold m_x12_laysLeaf
  have L2 : ∀ (n : Nat) (x1 : Int) (x2 : Int) (s3 : MS), Rr s3 → (x1 = p0) → (0 ≤ x2 ∧ x2 ≤ (hM s).2.1 p0.toNat) → (gI s3 67 = gI s 67 + x2) → (gA s3 49 = gA s 49) → (6 - x2) < (n : Int) → wp (m_x12_laysLeaf_L2 n x1 x2 s3) (fun o => (Rr o) ∧ (gI o 67 = gI s 67 + (hM s).2.1 p0.toNat)) := by
    refine fr_ind (fun x1 x2 s3 hRs3 hv2_0 hv2_1 hv2_2 hv2_3 hm2 => ?_) (fun n2 ih2 x1 x2 s3 hRs3 hv2_0 hv2_1 hv2_2 hv2_3 hm2 => ?_)
    · exfalso; have : (0 : Int) ≤ gI s 67 ∧ gI s 67 ≤ 300 := hRs.1 67; have : (0 : Int) ≤ gI s3 67 ∧ gI s3 67 ≤ 300 := hRs3.1 67; omega
    · show wp (m_x12_laysLeaf_b2 (m_x12_laysLeaf_L2 n2) x1 x2 s3) _
      unfold m_x12_laysLeaf_b2
      have e49 := (eq49 hv2_3).1
      have e0 : x1 = p0 := hv2_0
      refine wp_bn (w_x12_entriesOf hRs3 (by show 0 ≤ x1 ∧ x1 < 48; have : (0 : Int) ≤ gI s3 67 ∧ gI s3 67 ≤ 300 := hRs3.1 67; have : (0 : Int) ≤ gI s 67 ∧ gI s 67 ≤ 300 := hRs.1 67; omega)) (fun r5 er5 hr5 => ?_)
      obtain ⟨hr5_0, hr5_1⟩ := hr5
      have hr5_0 : r5 = (hM s3).2.1 x1.toNat := hr5_0
      have hr5_1 : R2 r5 := hr5_1
      rw [e49, e0] at hr5_0
      refine wp_rg (by have : (0 : Int) ≤ gI s3 67 ∧ gI s3 67 ≤ 300 := hRs3.1 67; have : (0 : Int) ≤ gI s 67 ∧ gI s 67 ≤ 300 := hRs.1 67; omega) ?_
      refine wp_rg (by have : (0 : Int) ≤ gI s3 67 ∧ gI s3 67 ≤ 300 := hRs3.1 67; have : (0 : Int) ≤ gI s 67 ∧ gI s 67 ≤ 300 := hRs.1 67; omega) ?_
      refine wp_if (fun c1 => ?_) (fun c1 => ?_)
      · skip
        exact wp_some ⟨hRs3, by show gI s3 67 = gI s 67 + (hM s).2.1 p0.toNat; have : (0 : Int) ≤ gI s 67 ∧ gI s 67 ≤ 300 := hRs.1 67; have : (0 : Int) ≤ gI s3 67 ∧ gI s3 67 ≤ 300 := hRs3.1 67; omega⟩
      · skip
        refine wp_bn (w_x12_keyAt hRs3 (by show 0 ≤ x1 ∧ x1 < 48; have : (0 : Int) ≤ gI s3 67 ∧ gI s3 67 ≤ 300 := hRs3.1 67; have : (0 : Int) ≤ gI s 67 ∧ gI s 67 ≤ 300 := hRs.1 67; omega) (by show 0 ≤ x2 ∧ x2 < 6; have : (0 : Int) ≤ gI s3 67 ∧ gI s3 67 ≤ 300 := hRs3.1 67; have : (0 : Int) ≤ gI s 67 ∧ gI s 67 ≤ 300 := hRs.1 67; omega)) (fun r10 er10 hr10 => ?_)
        obtain ⟨hr10_0, hr10_1⟩ := hr10
        have hr10_0 : r10 = kM s3 x1.toNat x2.toNat := hr10_0
        have hr10_1 : R2 r10 := hr10_1
        refine wp_inb (by have : (0 : Int) ≤ gI s 67 ∧ gI s 67 ≤ 300 := hRs.1 67; have : (0 : Int) ≤ gI s3 67 ∧ gI s3 67 ≤ 300 := hRs3.1 67; omega) ?_
        refine wp_stn (fun s12 es12 => ?_)
        have hRs12 : Rr s12 := es12 ▸ Rr.uAu hRs3 (by show (-2147483648 : Int) ≤ r10 ∧ r10 ≤ 2147483647; have : (0 : Int) ≤ gI s3 67 ∧ gI s3 67 ≤ 300 := hRs3.1 67; have : (0 : Int) ≤ gI s 67 ∧ gI s 67 ≤ 300 := hRs.1 67; omega)
        refine wp_bn (w_x12_valueAt hRs12 (by show 0 ≤ x1 ∧ x1 < 48; have : (0 : Int) ≤ gI s3 67 ∧ gI s3 67 ≤ 300 := hRs3.1 67; have : (0 : Int) ≤ gI s 67 ∧ gI s 67 ≤ 300 := hRs.1 67; omega) (by show 0 ≤ x2 ∧ x2 < 6; have : (0 : Int) ≤ gI s3 67 ∧ gI s3 67 ≤ 300 := hRs3.1 67; have : (0 : Int) ≤ gI s 67 ∧ gI s 67 ≤ 300 := hRs.1 67; omega)) (fun r14 er14 hr14 => ?_)
        obtain ⟨hr14_0, hr14_1⟩ := hr14
        have hr14_0 : r14 = (hM s12).2.2 x1.toNat x2.toNat := hr14_0
        have hr14_1 : R2 r14 := hr14_1
        refine wp_inb (by have : (0 : Int) ≤ gI s3 67 ∧ gI s3 67 ≤ 300 := hRs3.1 67; have : (0 : Int) ≤ gI s 67 ∧ gI s 67 ≤ 300 := hRs.1 67; have : gI s12 67 = gI s3 67 := q_Ai es12; omega) ?_
        refine wp_stn (fun s16 es16 => ?_)
        have hRs16 : Rr s16 := es16 ▸ Rr.uAu hRs12 (by show (-2147483648 : Int) ≤ r14 ∧ r14 ≤ 2147483647; have : (0 : Int) ≤ gI s3 67 ∧ gI s3 67 ≤ 300 := hRs3.1 67; have : (0 : Int) ≤ gI s 67 ∧ gI s 67 ≤ 300 := hRs.1 67; omega)
        refine wp_inb (by have : (0 : Int) ≤ gI s3 67 ∧ gI s3 67 ≤ 300 := hRs3.1 67; have : (0 : Int) ≤ gI s 67 ∧ gI s 67 ≤ 300 := hRs.1 67; have : gI s16 67 = gI s12 67 := q_Ai es16; have : gI s12 67 = gI s3 67 := q_Ai es12; omega) ?_
        refine wp_stn (fun s18 es18 => ?_)
        have hRs18 : Rr s18 := es18 ▸ Rr.uAu hRs16 (by show (-2147483648 : Int) ≤ x1 ∧ x1 ≤ 2147483647; have : (0 : Int) ≤ gI s3 67 ∧ gI s3 67 ≤ 300 := hRs3.1 67; have : (0 : Int) ≤ gI s 67 ∧ gI s 67 ≤ 300 := hRs.1 67; omega)
        refine wp_stn (fun s19 es19 => ?_)
        have hRs19 : Rr s19 := es19 ▸ Rr.uI hRs18 (by show (0 : Int) ≤ ((gI s18 67) + 1) ∧ ((gI s18 67) + 1) ≤ 300; have : (0 : Int) ≤ gI s3 67 ∧ gI s3 67 ≤ 300 := hRs3.1 67; have : (0 : Int) ≤ gI s 67 ∧ gI s 67 ≤ 300 := hRs.1 67; have : gI s18 67 = gI s16 67 := q_Ai es18; have : gI s16 67 = gI s12 67 := q_Ai es16; have : gI s12 67 = gI s3 67 := q_Ai es12; omega)
        exact ih2 x1 (x2 + 1) s19 hRs19 (by show x1 = p0; have : (0 : Int) ≤ gI s3 67 ∧ gI s3 67 ≤ 300 := hRs3.1 67; have : (0 : Int) ≤ gI s 67 ∧ gI s 67 ≤ 300 := hRs.1 67; omega) (by show 0 ≤ (x2 + 1) ∧ (x2 + 1) ≤ (hM s).2.1 p0.toNat; have : (0 : Int) ≤ gI s3 67 ∧ gI s3 67 ≤ 300 := hRs3.1 67; have : (0 : Int) ≤ gI s 67 ∧ gI s 67 ≤ 300 := hRs.1 67; omega) (by show gI s19 67 = gI s 67 + (x2 + 1); have : (0 : Int) ≤ gI s3 67 ∧ gI s3 67 ≤ 300 := hRs3.1 67; have : (0 : Int) ≤ gI s 67 ∧ gI s 67 ≤ 300 := hRs.1 67; have : gI s19 67 = (gI s18 67) + 1 := q_II es19; have : gI s18 67 = gI s16 67 := q_Ai es18; have : gI s16 67 = gI s12 67 := q_Ai es16; have : gI s12 67 = gI s3 67 := q_Ai es12; omega) ((((q_Ia es19 : gA s19 49 = gA s18 49).trans ((q_Aa es18 (by decide) : gA s18 49 = gA s16 49).trans ((q_Aa es16 (by decide) : gA s16 49 = gA s12 49).trans (q_Aa es12 (by decide) : gA s12 49 = gA s3 49))))).trans hv2_3) (by have : (0 : Int) ≤ gI s3 67 ∧ gI s3 67 ≤ 300 := hRs3.1 67; have : (0 : Int) ≤ gI s 67 ∧ gI s 67 ≤ 300 := hRs.1 67; omega)
  exact L2 FU p0 0 s hRs (by show p0 = p0; have : (0 : Int) ≤ gI s 67 ∧ gI s 67 ≤ 300 := hRs.1 67; omega) (by show 0 ≤ (0 : Int) ∧ (0 : Int) ≤ (hM s).2.1 p0.toNat; have : (0 : Int) ≤ gI s 67 ∧ gI s 67 ≤ 300 := hRs.1 67; omega) (by show gI s 67 = gI s 67 + (0 : Int); have : (0 : Int) ≤ gI s 67 ∧ gI s 67 ≤ 300 := hRs.1 67; omega) (rfl) (by have := FU_big; have := FU_big2; have : (0 : Int) ≤ gI s 67 ∧ gI s 67 ≤ 300 := hRs.1 67; omega)
/-! ===== a tree laid out ===== -/
theorem RT_tree {s : MS} {u : Nat} (H : RT s) (hu : u < 16) (h0 : 0 ≤ gA s 49 u) (h1 : gA s 49 u < 254) : ∃ mu, MV (hM s) mu (gA s 49 u) (fun _ => 0) ∧ ∀ x, x < 48 → 0 < mu x → DW s x := by
  have H' := H
  obtain ⟨M, P⟩ := RT_PM 0 (by omega) H
  have T : TM s d0 (-1) := H.1
  obtain ⟨l1, l2⟩ := PM_live T (fun _ _ => Int.le_refl 0) P (by omega)
  have G : TG (hM s) (kM s) (gA s 39 5) (gA s 39 6) (M u) (M u) (sr (gA s 49 u)) (sr (gA s 49 u)) (fun _ => 0) (-1) := by
    by_cases z : u = 0
    · rw [z]; exact TG_cc (P.1 1 (by omega) (by omega)) (fun _ _ => rfl)
    · exact TG_ss (P.1 u hu z)
  refine ⟨M u, ⟨fun x hx => ?_, G.2.1.1⟩, fun x hx hm => ?_⟩
  · have a := (G.1.2.1 x hx).1
    have b := P.2 u hu x hx
    omega
  · by_cases z : u < 8
    · exact Or.inl (l1 u z x hx hm)
    · exact Or.inr (l2 u (by omega) hu x hx hm)
theorem enf_le {h : SH} {p : Nat} {i x : Int} (hi : 0 ≤ i) : enf h p i x ≤ en h p x := by
  unfold en enf
  by_cases c : 0 < h.1 p
  · rw [if_pos c, if_pos c]
    refine sm_le (fun k _ => ?_)
    show (if i ≤ (k : Int) ∧ (k : Int) < h.2.1 p ∧ h.2.2 p k = x then (1 : Int) else 0) ≤ if (0 : Int) ≤ (k : Int) ∧ (k : Int) < h.2.1 p ∧ h.2.2 p k = x then 1 else 0
    by_cases d : i ≤ (k : Int) ∧ (k : Int) < h.2.1 p ∧ h.2.2 p k = x
    · rw [if_pos d, if_pos ⟨by omega, d.2⟩]; omega
    · rw [if_neg d]; split <;> omega
  · rw [if_neg c, if_neg c]; omega
set_option maxHeartbeats 2000000 in
theorem mt_laysTree {p0 : Int} {s : MS} (hRs : Rr s) (hT : RT s) (h2 : R2 p0) (hp : p0 < 254 → (0 ≤ p0 ∧ p0 < 48) ∧ ∃ mu, MV (hM s) mu p0 (fun _ => 0) ∧ ∀ x, x < 48 → 0 < mu x → DW s x) : wp (m_x12_laysTree p0 s) (fun o => Rr o ∧ F_x12_laysTree s o ∧ (254 ≤ p0 → gI o 67 = 0)) := by
  have key : wp (m_x12_laysTree p0 s) (fun o => Rr o ∧ (254 ≤ p0 → gI o 67 = 0)) := by
    have L48 : ∀ (n : Nat) (x : Int) (S : MS) (M : Nat → Int), Rr S → gA S 49 = gA s 49 → 0 ≤ x → WK (hM s) M (gA S 62) x.toNat (fun _ => 0) → (∀ y, y < 48 → 0 < M y → DW s y) → gI S 68 + pos M ≤ 48 → gI S 67 + 6 * pos M ≤ 288 → pos M < (n : Int) → wp (m_x12_laysTree_L48 n x S) (fun o => Rr o) := by
      refine fr_ind (fun x S M hRS h49 h0 hW hL h68 h67 hm => by exfalso; have := pos_b M; omega) (fun n ih x S M hRS h49 h0 hW hL h68 h67 hm => ?_)
      show wp (m_x12_laysTree_b48 (m_x12_laysTree_L48 n) x S) _
      unfold m_x12_laysTree_b48
      have wl := WK_le hW
      have pb := pos_b M
      refine wp_rg (by omega) (wp_if (fun c1 => wp_some hRS) (fun c1 => ?_))
      have wx : x.toNat = (x.toNat - 1) + 1 := by omega
      rw [wx] at hW
      obtain ⟨m1, W1⟩ := WK_pop hW
      have hb := hW.2.1 (x.toNat - 1) (by omega)
      refine wp_rdIn (by omega) (fun y31 e31 => ?_)
      have e31' : gA S 62 (x.toNat - 1) = y31 := by rw [← e31]; congr 1; omega
      rw [e31'] at m1 W1 hb
      have b48 : y31.toNat < 48 := by omega
      have dw := hL y31.toNat b48 (by omega)
      have nd := DW_nd hT b48 dw
      have ps : pos (upZ M y31.toNat 0) = pos M - 1 := WK_pos hW b48 m1
      have L1 : ∀ y, y < 48 → 0 < upZ M y31.toNat 0 y → DW s y := fun y hy hm2 => by
        by_cases z : y = y31.toNat
        · rw [z, upZ_s] at hm2; omega
        · rw [upZ_n z] at hm2; exact hL y hy hm2
      have r67 : (0 : Int) ≤ gI S 67 ∧ gI S 67 ≤ 300 := hRS.1 67
      have r68 : (0 : Int) ≤ gI S 68 ∧ gI S 68 ≤ 48 := hRS.1 68
      have J81 : ∀ X : MS, Rr X → gA X 49 = gA s 49 → gA X 62 = gA S 62 → gI X 67 = gI S 67 → gI X 68 + pos (upZ M y31.toNat 0) ≤ 48 → wp (m_x12_laysTree_J81 (m_x12_laysTree_L48 n) (x + (-1)) y31 X) (fun o => Rr o) := by
        intro X hRX x49 x62 x67 x68
        unfold m_x12_laysTree_J81
        refine wp_inb (by omega) (wp_bo (Or.inr rfl) (wp_stn (fun s20 e20 => ?_)))
        have hR20 : Rr s20 := e20 ▸ Rr.uAu hRX (by show (0 : Int) ≤ 1 ∧ (1 : Int) ≤ 1; omega)
        have a49 : gA s20 49 = gA s 49 := (q_Aa e20 (by decide)).trans x49
        have a62 : gA s20 62 = gA S 62 := (q_Aa e20 (by decide)).trans x62
        have a67 : gI s20 67 = gI S 67 := (q_Ai e20).trans x67
        have a68 : gI s20 68 = gI X 68 := q_Ai e20
        have eh := (eq49 a49).1
        refine wp_bn (w_x12_levelOf hR20 (by omega)) (fun r22 e22 h22 => ?_)
        have l22 : r22 = (hM s).1 y31.toNat := by rw [h22.1, eh]
        refine wp_rg h22.2 (wp_if (fun c2 => ?_) (fun c2 => ?_))
        · refine wp_bn (w_x12_laysLeaf hR20 (by omega) (by rw [eh]; omega) (by omega)) (fun s28 e28 h28 => ?_)
          obtain ⟨hR28, g67⟩ := h28
          have F28 : F_x12_laysLeaf s20 s28 := fr_x12_laysLeaf e28
          rw [eh] at g67
          have c68 : gI s28 68 = gI X 68 := (F28.1 68 (by decide)).trans a68
          unfold m_x12_laysTree_J140
          refine ih (x + (-1)) s28 (upZ M y31.toNat 0) hR28 ((F28.2.1 49 (by decide)).trans a49) (by omega) ?_ L1 (by omega) (by omega) (by omega)
          rw [F28.2.1 62 (by decide), a62, show (x + (-1)).toNat = x.toNat - 1 by omega]
          refine WK_P W1 (fun y hy => ?_)
          show (0 : Int) = en (hM s) y31.toNat (y : Int)
          rw [en_leaf (by omega)]
        · have l0 : 0 < (hM s).1 y31.toNat := by omega
          refine wp_bn (w_x12_entriesOf hR20 (by omega)) (fun r26 e26 h26 => ?_)
          have z26 : r26 = (hM s).2.1 y31.toNat := by rw [h26.1, eh]
          have L113 : ∀ (m : Nat) (w k : Int) (Q : MS), Rr Q → gA Q 49 = gA s 49 → gI Q 67 = gI S 67 → gI Q 68 = gI X 68 → 0 ≤ w → (-1 ≤ k ∧ k < (hM s).2.1 y31.toNat) → WK (hM s) (upZ M y31.toNat 0) (gA Q 62) w.toNat (fun y => en (hM s) y31.toNat (y : Int) - enf (hM s) y31.toNat (k + 1) (y : Int)) → k + 1 < (m : Int) → wp (m_x12_laysTree_L113 (m_x12_laysTree_L48 n) m w y31 k Q) (fun o => Rr o) := by
            refine fr_ind (fun w k Q hRQ q49 q67 q68 hw hk WQ hm2 => by exfalso; omega) (fun m ihm w k Q hRQ q49 q67 q68 hw hk WQ hm2 => ?_)
            show wp (m_x12_laysTree_b113 (m_x12_laysTree_L48 n) (m_x12_laysTree_L113 (m_x12_laysTree_L48 n) m) w y31 k Q) _
            unfold m_x12_laysTree_b113
            have wl2 := WK_le WQ
            have pb2 := pos_b (upZ M y31.toNat 0)
            have ehQ := (eq49 q49).1
            refine wp_rg (by omega) (wp_if (fun c3 => ?_) (fun c3 => ?_))
            · unfold m_x12_laysTree_J140
              refine ih w Q (upZ M y31.toNat 0) hRQ q49 hw ?_ L1 (by omega) (by omega) (by omega)
              refine WK_P WQ (fun y hy => ?_)
              show (0 : Int) = en (hM s) y31.toNat (y : Int) - enf (hM s) y31.toNat (k + 1) (y : Int)
              rw [show k + 1 = 0 by omega]
              show (0 : Int) = en (hM s) y31.toNat (y : Int) - en (hM s) y31.toNat (y : Int)
              omega
            · refine wp_bn (w_x12_valueAt hRQ (by omega) (by omega)) (fun r12 e12 h12 => ?_)
              have v12 : r12 = (hM s).2.2 y31.toNat k.toNat := by rw [h12.1, ehQ]
              have kd := DW_kid (k := k.toNat) hT b48 dw l0 (by omega)
              rw [← v12] at kd
              refine wp_inb (by omega) (wp_stn (fun s14 e14 => ?_))
              have hR14 : Rr s14 := e14 ▸ Rr.uAu hRQ (by show (0 : Int) ≤ r12 ∧ r12 ≤ 47; omega)
              have u62 : gA s14 62 = upZ (gA Q 62) w.toNat r12 := q_AA e14
              refine ihm (w + 1) (k + (-1)) s14 hR14 ((q_Aa e14 (by decide)).trans q49) ((q_Ai e14).trans q67) ((q_Ai e14).trans q68) (by omega) (by omega) ?_ (by omega)
              rw [u62, show (w + 1).toNat = w.toNat + 1 by omega, show k + (-1) + 1 = k by omega]
              refine WK_push WQ kd.1 (fun y hy => ?_) (fun y hy => ?_)
              · have es := enf_step (h := hM s) (p := y31.toNat) (k := k.toNat) (x := (y : Int)) l0 (by omega) (by omega)
                rw [show ((k.toNat : Nat) : Int) = k by omega, ← v12] at es
                show en (hM s) y31.toNat (y : Int) - enf (hM s) y31.toNat (k + 1) (y : Int) = en (hM s) y31.toNat (y : Int) - enf (hM s) y31.toNat k (y : Int) + (if r12 = (y : Int) then 1 else 0)
                omega
              · have := enf_le (h := hM s) (p := y31.toNat) (i := k) (x := (y : Int)) (by omega)
                show 0 ≤ en (hM s) y31.toNat (y : Int) - enf (hM s) y31.toNat k (y : Int)
                omega
          refine L113 FU (x + (-1)) (r26 - 1) s20 hR20 a49 a67 a68 (by omega) (by omega) ?_ (by have := FU_big; omega)
          rw [a62, show (x + (-1)).toNat = x.toNat - 1 by omega]
          refine WK_P W1 (fun y hy => ?_)
          show en (hM s) y31.toNat (y : Int) - enf (hM s) y31.toNat (r26 - 1 + 1) (y : Int) = en (hM s) y31.toNat (y : Int)
          rw [enf_end (by omega)]; omega
      have r63 := hRS.2.1 63 y31.toNat (by show _ < 48; omega)
      have r63' : (0 : Int) ≤ gA S 63 y31.toNat ∧ gA S 63 y31.toNat ≤ 1 := r63
      refine wp_rdIn (by omega) (fun y32 e32 => ?_)
      rw [e32] at r63'
      refine wp_rg (by omega) (wp_if (fun c4 => ?_) (fun c4 => ?_))
      · refine wp_stn (fun s35 e35 => ?_)
        have hR35 : Rr s35 := e35 ▸ Rr.uI hRS (by show (0 : Int) ≤ gI S 68 + 1 ∧ gI S 68 + 1 ≤ 48; omega)
        have g68 : gI s35 68 = gI S 68 + 1 := q_II e35
        exact J81 s35 hR35 ((q_Ia e35).trans h49) (q_Ia e35) (q_Ii e35 (by decide)) (by omega)
      · exact J81 S hRS h49 rfl rfl (by omega)
    have L12 : ∀ (n : Nat) (k : Int) (S : MS), Rr S → gA S 49 = gA s 49 → gI S 67 = 0 → gI S 68 = 0 → (0 ≤ k ∧ k ≤ 48) → 48 - k < (n : Int) → wp (m_x12_laysTree_L12 n p0 k S) (fun o => Rr o ∧ (254 ≤ p0 → gI o 67 = 0)) := by
      refine fr_ind (fun k S hRS h49 h67 h68 hk hm => by exfalso; omega) (fun n ih k S hRS h49 h67 h68 hk hm => ?_)
      show wp (m_x12_laysTree_b12 (m_x12_laysTree_L12 n) p0 k S) _
      unfold m_x12_laysTree_b12
      refine wp_rg (by omega) (wp_if (fun c1 => ?_) (fun c1 => ?_))
      · refine wp_rg h2 (wp_if (fun c2 => ?_) (fun c2 => wp_some ⟨hRS, fun _ => h67⟩))
        obtain ⟨hb, mu, hmv, hl⟩ := hp c2
        refine wp_inb (by omega) (wp_stn (fun s44 e44 => ?_))
        have hR44 : Rr s44 := e44 ▸ Rr.uAu hRS (by show (0 : Int) ≤ p0 ∧ p0 ≤ 47; omega)
        have u62 : gA s44 62 = upZ (gA S 62) 0 p0 := q_AA e44
        have pb := pos_b mu
        have g67 : gI s44 67 = 0 := (q_Ai e44).trans h67
        have g68 : gI s44 68 = 0 := (q_Ai e44).trans h68
        refine wp_mono (P := fun o => Rr o) ?_ (fun o h => ⟨h, fun w => by omega⟩)
        refine L48 FU 1 s44 mu hR44 ((q_Aa e44 (by decide)).trans h49) (by omega) ?_ hl (by omega) (by omega) (by have := FU_big; omega)
        rw [u62]; exact WK_0 hmv hb
      · refine wp_inb (by omega) (wp_bo (Or.inl rfl) (wp_stn (fun s47 e47 => ?_)))
        have hR47 : Rr s47 := e47 ▸ Rr.uAu hRS (by show (0 : Int) ≤ 0 ∧ (0 : Int) ≤ 1; omega)
        exact ih (k + 1) s47 hR47 ((q_Aa e47 (by decide)).trans h49) ((q_Ai e47).trans h67) ((q_Ai e47).trans h68) (by omega) (by omega)
    unfold m_x12_laysTree
    refine wp_stn (fun s48 e48 => wp_stn (fun s49 e49 => ?_))
    have hR48 : Rr s48 := e48 ▸ Rr.uI hRs (by show (0 : Int) ≤ 0 ∧ (0 : Int) ≤ 300; omega)
    have hR49 : Rr s49 := e49 ▸ Rr.uI hR48 (by show (0 : Int) ≤ 0 ∧ (0 : Int) ≤ 48; omega)
    exact L12 FU 0 s49 hR49 ((q_Ia e49).trans (q_Ia e48)) ((q_Ii e49 (by decide)).trans (q_II e48)) (q_II e49) (by omega) (by have := FU_big; omega)
  exact wp_eq key (fun o eo ho => ⟨ho.1, fr_x12_laysTree eo, ho.2⟩)
