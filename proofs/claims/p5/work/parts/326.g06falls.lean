/-! ===== counts of the reference fall ===== -/
/-- nothing but counts is another -/
def CX (s o : MS) : Prop := ∀ i, (∀ p, p < 48 → i ≠ 17 + 16 * p) → gA o 49 i = gA s 49 i
theorem CX_0 (s : MS) : CX s s := fun _ _ => rfl
theorem CX_t {s o q : MS} (h1 : CX s o) (h2 : CX o q) : CX s q := fun i hi => (h2 i hi).trans (h1 i hi)
theorem CX_h {s o : MS} (H : CX s o) : hM o = hM s := by
  have e1 : (fun p => gA o 49 (19 + 16 * p)) = fun p => gA s 49 (19 + 16 * p) := by
    funext p; exact H _ (fun q _ => by omega)
  have e2 : (fun p => gA o 49 (20 + 16 * p)) = fun p => gA s 49 (20 + 16 * p) := by
    funext p; exact H _ (fun q _ => by omega)
  have e3 : (fun p k => if k < 6 then gA o 49 (27 + 16 * p + k) else 0) = fun p k => if k < 6 then gA s 49 (27 + 16 * p + k) else 0 := by
    funext p k
    by_cases z : k < 6
    · rw [if_pos z, if_pos z]; exact H _ (fun q _ => by omega)
    · rw [if_neg z, if_neg z]
  unfold hM
  rw [e1, e2, e3]
theorem CX_k {s o : MS} (H : CX s o) : kM o = kM s := by
  funext p k
  show (if k < 6 then gA o 49 (21 + 16 * p + k) else 0) = if k < 6 then gA s 49 (21 + 16 * p + k) else 0
  by_cases z : k < 6
  · rw [if_pos z, if_pos z]; exact H _ (fun q _ => by omega)
  · rw [if_neg z, if_neg z]
theorem CX_v {s o : MS} (H : CX s o) : vM o = vM s := by
  funext p
  exact H _ (fun q _ => by omega)
theorem CX_u {s o : MS} (H : CX s o) {u : Nat} (hu : u < 17) : gA o 49 u = gA s 49 u := H u (fun q _ => by omega)
theorem CX_n {s o : MS} (H : CX s o) {i : Nat} (hi : 785 ≤ i) : gA o 49 i = gA s 49 i := H i (fun q _ => by omega)
theorem CX_r {s o : MS} (H : CX s o) : rM o = rM s := by
  funext p
  show (if p < 8 then gA o 49 p else 0) = if p < 8 then gA s 49 p else 0
  by_cases q : p < 8
  · rw [if_pos q, if_pos q]; exact CX_u H (by omega)
  · rw [if_neg q, if_neg q]
theorem CX_rs {s o : MS} (H : CX s o) : rsM o = rsM s := by
  funext p
  show (if p < 8 then gA o 49 (8 + p) else 0) = if p < 8 then gA s 49 (8 + p) else 0
  by_cases q : p < 8
  · rw [if_pos q, if_pos q]; exact CX_u H (by omega)
  · rw [if_neg q, if_neg q]
theorem M_cnt {t o : MS} {b : Nat} {v : Int} (hb : b < 48) (e : gA o 49 = upZ (gA t 49) (17 + 16 * b) v) : CX t o ∧ cM o = upZ (cM t) b v := by
  refine ⟨fun i hi => by rw [e, upZ_n (hi b hb)], ?_⟩
  funext p
  show gA o 49 (17 + 16 * p) = if p = b then v else gA t 49 (17 + 16 * p)
  rw [e]
  by_cases z : p = b
  · rw [if_pos z, z, upZ_s]
  · rw [if_neg z, upZ_n (by omega)]
/-- what is still to fall: how often each waits, and those of a block from one on -/
def FI (s S : MS) (p0 : Int) (w : Nat) (E : Nat → Int) : Prop := Rr S ∧ CX s S ∧ RelI (hM s) (rM s) (cM s) p0 (cM S) (fun x => ct (gA S 56) w (x : Int) + E x) ∧ (∀ j, j < w → (0 ≤ gA S 56 j ∧ gA S 56 j < gA s 39 5) ∧ ((w = 1 ∧ gA S 56 0 = p0 ∧ cM S p0.toNat = cM s p0.toNat ∧ 0 < cM s p0.toNat) ∨ (hM s).1 (gA S 56 j).toNat < (hM s).1 p0.toNat)) ∧ (∀ x : Nat, x < 48 → (hM s).1 p0.toNat ≤ (hM s).1 x → x ≠ p0.toNat → cM S x = cM s x)
set_option maxHeartbeats 2000000 in
theorem w_x12_falls {p0 : Int} {s : MS} (hRs : Rr s) (hN48 : gA s 39 5 ≤ 48) (hW : WN (hM s) (gA s 39 5) (cM s)) (hp : 0 ≤ p0 ∧ p0 < gA s 39 5) (hc : 0 < cM s p0.toNat) (hD : ∀ x, x < 48 → 0 ≤ df (hM s) (cM s) (rM s) x) (hcb : ∀ x, x < 48 → cM s x ≤ 100000) : wp (m_x12_falls p0 s) (fun o => Rr o ∧ F_x12_falls s o ∧ CX s o ∧ RelI (hM s) (rM s) (cM s) p0 (cM o) (fun _ => 0) ∧ (∀ x : Nat, x < 48 → (hM s).1 p0.toNat ≤ (hM s).1 x → x ≠ p0.toNat → cM o x = cM s x)) := by
  have key : wp (m_x12_falls p0 s) (fun o => Rr o ∧ CX s o ∧ RelI (hM s) (rM s) (cM s) p0 (cM o) (fun _ => 0) ∧ (∀ x : Nat, x < 48 → (hM s).1 p0.toNat ≤ (hM s).1 x → x ≠ p0.toNat → cM o x = cM s x)) := by
    have L9 : ∀ (n : Nat) (x : Int) (S : MS), FI s S p0 x.toNat (fun _ => 0) → 0 ≤ x → gA S 39 = gA s 39 → x + 6 * pos (cM S) ≤ 290 → x + 6 * pos (cM S) < (n : Int) → wp (m_x12_falls_L9 n x S) (fun o => Rr o ∧ CX s o ∧ RelI (hM s) (rM s) (cM s) p0 (cM o) (fun _ => 0) ∧ (∀ x : Nat, x < 48 → (hM s).1 p0.toNat ≤ (hM s).1 x → x ≠ p0.toNat → cM o x = cM s x)) := by
      refine fr_ind (fun x S hF h0 h39 hb hm => by exfalso; have := pos_b (cM S); omega) (fun n ih x S hF h0 h39 hb hm => ?_)
      show wp (m_x12_falls_b9 (m_x12_falls_L9 n) x S) _
      unfold m_x12_falls_b9
      obtain ⟨hRS, hX, hRel, hst, hlv⟩ := hF
      have pb := pos_b (cM S)
      refine wp_rg (by omega) (wp_if (fun c1 => ?_) (fun c1 => ?_))
      · refine wp_some ⟨hRS, hX, RelI_E hRel (fun y hy => ?_), hlv⟩
        show (0 : Int) = ct (gA S 56) x.toNat (y : Int) + 0
        rw [show x.toNat = 0 by omega]; rfl
      · refine wp_rdIn (by omega) (fun y18 e18 => ?_)
        have hy := hst (x.toNat - 1) (by omega)
        have ix : (x + (-1)).toNat = x.toNat - 1 := by omega
        rw [ix] at e18
        rw [e18] at hy
        have hyb : 0 ≤ y18 ∧ y18 < 48 := by omega
        have hy48 : y18.toNat < 48 := by omega
        have wx : x.toNat = (x.toNat - 1) + 1 := by omega
        have cx := hRel.1 y18.toNat hy48
        have cb := hcb y18.toNat hy48
        have drel := hRel.2 y18.toNat hy48
        have hctp : 1 ≤ ct (gA S 56) x.toNat ((y18.toNat : Nat) : Int) := by
          rw [wx, ct_s, e18, if_pos (by omega)]
          have := ct_nn (gA S 56) (x.toNat - 1) ((y18.toNat : Nat) : Int)
          omega
        have c1p : 1 ≤ cM S y18.toNat := by
          rcases hy.2 with q | q
          · have : y18 = p0 := by rw [← e18, show x.toNat - 1 = 0 by omega]; exact q.2.1
            rw [this, q.2.2.1]; omega
          · have ne : ((y18.toNat : Nat) : Int) ≠ p0 := fun w => by
              rw [show y18.toNat = p0.toNat by omega] at q; omega
            dsimp only at drel
            rw [if_neg ne] at drel
            have d0 := hD y18.toNat hy48
            have rn := rf_nn (hM s) (cM S) (rM s) ((y18.toNat : Nat) : Int)
            unfold df at drel d0
            omega
        refine wp_bn (w_x12_counts hRS hyb (by omega) (by omega)) (fun s20 e20 h20 => ?_)
        obtain ⟨hR20, u20⟩ := h20
        obtain ⟨x20, k20⟩ := M_cnt hy48 u20
        have F20 : F_x12_counts S s20 := fr_x12_counts e20
        have a56 : gA s20 56 = gA S 56 := F20.2.1 56 (by decide)
        have a39 : gA s20 39 = gA s 39 := (F20.2.1 39 (by decide)).trans h39
        have hX2 : CX s s20 := CX_t hX x20
        have h20 : hM s20 = hM s := CX_h hX2
        have vy : cM s20 y18.toNat = cM S y18.toNat - 1 := by rw [k20, upZ_s]; omega
        have nw : WN (hM s) (gA s 39 5) (cM S) := RelI_WN hW hRel
        have nd := (nw y18.toNat hy48).2.2 (by omega)
        have sz : 0 ≤ (hM s).2.1 y18.toNat ∧ (hM s).2.1 y18.toNat ≤ 6 := nd.2.1
        -- what holds behind the fall
        have rel2 : RelI (hM s) (rM s) (cM s) p0 (cM s20) (fun z => ct (gA S 56) (x.toNat - 1) (z : Int) + (if 0 < cM S y18.toNat - 1 then 0 else en (hM s) y18.toNat (z : Int))) := by
          refine ⟨fun z hz => ?_, fun z hz => ?_⟩
          · have := hRel.1 z hz
            rw [k20]
            by_cases w : z = y18.toNat
            · rw [w, upZ_s]; rw [w] at this; omega
            · rw [upZ_n w]; exact this
          · have dz := hRel.2 z hz
            rw [k20, df_cnt hy48, dz, if_pos (show 0 < cM S y18.toNat by omega)]
            dsimp only
            rw [wx, ct_s, e18]
            by_cases w : z = y18.toNat
            · rw [if_pos w, if_pos (show y18 = (z : Int) by omega)]
              by_cases c : 0 < cM S y18.toNat - 1
              · rw [if_pos (show 0 < cM S y18.toNat + (-1) by omega), if_pos c, show x.toNat - 1 + 1 - 1 = x.toNat - 1 by omega]; omega
              · rw [if_neg (show ¬ 0 < cM S y18.toNat + (-1) by omega), if_neg c, show x.toNat - 1 + 1 - 1 = x.toNat - 1 by omega]; omega
            · rw [if_neg w, if_neg (show ¬ y18 = (z : Int) by omega)]
              by_cases c : 0 < cM S y18.toNat - 1
              · rw [if_pos (show 0 < cM S y18.toNat + (-1) by omega), if_pos c, show x.toNat - 1 + 1 - 1 = x.toNat - 1 by omega]; omega
              · rw [if_neg (show ¬ 0 < cM S y18.toNat + (-1) by omega), if_neg c, show x.toNat - 1 + 1 - 1 = x.toNat - 1 by omega]; omega
        have lv2 : ∀ z : Nat, z < 48 → (hM s).1 p0.toNat ≤ (hM s).1 z → z ≠ p0.toNat → cM s20 z = cM s z := fun z hz hl hn => by
          rw [k20]
          have zy : z ≠ y18.toNat := fun w => by
            rcases hy.2 with q | q
            · have : y18 = p0 := by rw [← e18, show x.toNat - 1 = 0 by omega]; exact q.2.1
              rw [this] at w; exact hn w
            · rw [← w] at q; omega
          rw [upZ_n zy]; exact hlv z hz hl hn
        have st2 : ∀ j, j < x.toNat - 1 → (0 ≤ gA s20 56 j ∧ gA s20 56 j < gA s 39 5) ∧ (hM s).1 (gA s20 56 j).toNat < (hM s).1 p0.toNat := fun j hj => by
          have := hst j (by omega)
          rw [a56]
          refine ⟨this.1, ?_⟩
          rcases this.2 with q | q
          · omega
          · exact q
        have ly : (hM s).1 y18.toNat ≤ (hM s).1 p0.toNat := by
          rcases hy.2 with q | q
          · have : y18 = p0 := by rw [← e18, show x.toNat - 1 = 0 by omega]; exact q.2.1
            rw [this]; exact Int.le_refl _
          · omega
        have ps : pos (cM s20) = pos (cM S) - 1 + (if 0 < cM S y18.toNat - 1 then 1 else 0) := by
          rw [k20, pos_up hy48, if_pos (show 0 < cM S y18.toNat by omega)]
          rw [show cM S y18.toNat + (-1) = cM S y18.toNat - 1 by omega]
        have back : ∀ (hE : ∀ z : Nat, z < 48 → (if 0 < cM S y18.toNat - 1 then 0 else en (hM s) y18.toNat (z : Int)) = 0), wp (m_x12_falls_L9 n (x + (-1)) s20) (fun o => Rr o ∧ CX s o ∧ RelI (hM s) (rM s) (cM s) p0 (cM o) (fun _ => 0) ∧ (∀ x : Nat, x < 48 → (hM s).1 p0.toNat ≤ (hM s).1 x → x ≠ p0.toNat → cM o x = cM s x)) := fun hE => by
          refine ih (x + (-1)) s20 ⟨hR20, hX2, ?_, fun j hj => ?_, lv2⟩ (by omega) a39 ?_ ?_
          · rw [ix, a56]
            refine RelI_E rel2 (fun z hz => ?_)
            dsimp only
            rw [hE z hz]
          · rw [ix] at hj
            exact ⟨(st2 j hj).1, Or.inr (st2 j hj).2⟩
          · rw [ps]; split <;> omega
          · rw [ps]; split <;> omega
        refine wp_bn (w_x12_isUsed hR20 hyb) (fun r22 e22 h22 => ?_)
        refine wp_rg (by omega) (wp_if (fun c2 => ?_) (fun c2 => ?_))
        · refine wp_bn (w_x12_levelOf hR20 hyb) (fun r26 e26 h26 => ?_)
          have h26a : r26 = (hM s).1 y18.toNat := by rw [h26.1, h20]
          refine wp_rg h26.2 (wp_if (fun c3 => ?_) (fun c3 => ?_))
          · refine back (fun z hz => ?_)
            rw [if_neg (by omega)]
            exact en_leaf (by omega)
          · have l0 : 0 < (hM s).1 y18.toNat := by have := nd.1; omega
            have L51 : ∀ (m : Nat) (w k : Int) (Q : MS), FI s Q p0 w.toNat (fun z => enf (hM s) y18.toNat k (z : Int)) → 0 ≤ w → gA Q 39 = gA s 39 → (0 ≤ k ∧ k ≤ (hM s).2.1 y18.toNat ∧ w = x - 1 + k) → cM Q = cM s20 → (∀ j, j < w.toNat → (hM s).1 (gA Q 56 j).toNat < (hM s).1 p0.toNat) → (hM s).2.1 y18.toNat - k < (m : Int) → wp (m_x12_falls_L51 (m_x12_falls_L9 n) m w y18 k Q) (fun o => Rr o ∧ CX s o ∧ RelI (hM s) (rM s) (cM s) p0 (cM o) (fun _ => 0) ∧ (∀ x : Nat, x < 48 → (hM s).1 p0.toNat ≤ (hM s).1 x → x ≠ p0.toNat → cM o x = cM s x)) := by
              refine fr_ind (fun w k Q hF h0 h39 hk hcQ hlQ hm => by exfalso; omega) (fun m ihm w k Q hF h0 h39 hk hcQ hlQ hm => ?_)
              show wp (m_x12_falls_b51 (m_x12_falls_L9 n) (m_x12_falls_L51 (m_x12_falls_L9 n) m) w y18 k Q) _
              unfold m_x12_falls_b51
              obtain ⟨hRQ, hXQ, hRelQ, hstQ, hlvQ⟩ := hF
              have hQ : hM Q = hM s := CX_h hXQ
              refine wp_bn (w_x12_entriesOf hRQ hyb) (fun r8 e8 h8 => ?_)
              have h8a : r8 = (hM s).2.1 y18.toNat := by rw [h8.1, hQ]
              refine wp_rg (by omega) (wp_rg (by omega) (wp_if (fun c4 => ?_) (fun c4 => ?_)))
              · refine ih w Q ⟨hRQ, hXQ, RelI_E hRelQ (fun z hz => ?_), hstQ, hlvQ⟩ h0 h39 ?_ ?_
                · dsimp only
                  rw [enf_end (by omega)]
                · rw [hcQ, ps, if_neg (by omega)]; omega
                · rw [hcQ, ps, if_neg (by omega)]; omega
              · refine wp_bn (w_x12_valueAt hRQ hyb (by omega)) (fun r13 e13 h13 => ?_)
                have h13a : r13 = (hM s).2.2 y18.toNat k.toNat := by rw [h13.1, hQ]
                have kd := nd.2.2 l0 k.toNat (by omega)
                rw [← h13a] at kd
                refine wp_inb (by omega) (wp_stn (fun s15 e15 => ?_))
                have hR15 : Rr s15 := e15 ▸ Rr.uAu hRQ (by show (0 : Int) ≤ r13 ∧ r13 ≤ 47; omega)
                have u56 : gA s15 56 = upZ (gA Q 56) w.toNat r13 := q_AA e15
                have u49 : gA s15 49 = gA Q 49 := q_Aa e15 (by decide)
                have cQ : cM s15 = cM Q := by unfold cM; rw [u49]
                have lr : (hM s).1 r13.toNat < (hM s).1 p0.toNat := by have := kd.2; omega
                refine ihm (w + 1) (k + 1) s15 ⟨hR15, fun i hi => by rw [u49]; exact hXQ i hi, ?_, fun j hj => ?_, by rw [cQ]; exact hlvQ⟩ (by omega) ((q_Aa e15 (by decide)).trans h39) (by omega) (by rw [cQ]; exact hcQ) (fun j hj => ?_) (by omega)
                · rw [cQ, u56, show (w + 1).toNat = w.toNat + 1 by omega]
                  refine RelI_E hRelQ (fun z hz => ?_)
                  dsimp only
                  rw [ct_s, ct_up (Nat.le_refl _), upZ_s]
                  have es := enf_step (h := hM s) (p := y18.toNat) (k := k.toNat) (x := (z : Int)) l0 (by omega) (by omega)
                  rw [show ((k.toNat : Nat) : Int) = k by omega, ← h13a] at es
                  rw [es]; omega
                · rw [u56]
                  by_cases z : j = w.toNat
                  · rw [z, upZ_s]; exact ⟨kd.1, Or.inr lr⟩
                  · rw [upZ_n z]
                    exact ⟨(hstQ j (by omega)).1, Or.inr (hlQ j (by omega))⟩
                · rw [u56]
                  by_cases z : j = w.toNat
                  · rw [z, upZ_s]; exact lr
                  · rw [upZ_n z]; exact hlQ j (by omega)
            refine L51 FU (x + (-1)) 0 s20 ⟨hR20, hX2, ?_, fun j hj => ?_, lv2⟩ (by omega) a39 (by omega) rfl (fun j hj => ?_) (by have := FU_big; omega)
            · rw [ix, a56]
              refine RelI_E rel2 (fun z hz => ?_)
              dsimp only
              rw [if_neg (by omega)]; rfl
            · rw [ix] at hj
              exact ⟨(st2 j hj).1, Or.inr (st2 j hj).2⟩
            · rw [ix] at hj
              exact (st2 j hj).2
        · refine back (fun z hz => if_pos (by omega))
    unfold m_x12_falls
    refine wp_inb (by omega) (wp_stn (fun s30 e30 => ?_))
    have hR30 : Rr s30 := e30 ▸ Rr.uAu hRs (by show (0 : Int) ≤ p0 ∧ p0 ≤ 47; omega)
    have u56 : gA s30 56 = upZ (gA s 56) 0 p0 := q_AA e30
    have u49 : gA s30 49 = gA s 49 := q_Aa e30 (by decide)
    have c30 : cM s30 = cM s := by unfold cM; rw [u49]
    have pb := pos_b (cM s)
    refine L9 FU 1 s30 ⟨hR30, fun i _ => by rw [u49], ?_, fun j hj => ?_, fun x _ _ _ => by rw [c30]⟩ (by omega) (q_Aa e30 (by decide)) (by rw [c30]; omega) (by rw [c30]; have := FU_big; omega)
    · rw [c30]
      refine ⟨fun z hz => ⟨(hW z hz).1, Int.le_refl _⟩, fun z hz => ?_⟩
      dsimp only
      rw [u56, show (1 : Int).toNat = 0 + 1 by rfl, ct_s, upZ_s]
      show df (hM s) (cM s) (rM s) z = df (hM s) (cM s) (rM s) z - (if (z : Int) = p0 then 1 else 0) + ((0 : Int) + (if p0 = (z : Int) then 1 else 0) + 0)
      by_cases w : (z : Int) = p0
      · rw [if_pos w, if_pos w.symm]; omega
      · rw [if_neg w, if_neg (fun q => w q.symm)]; omega
    · have j0 : j = 0 := by
        have : j < 1 := hj
        omega
      rw [j0, u56, upZ_s]
      exact ⟨hp, Or.inl ⟨rfl, rfl, by rw [c30], hc⟩⟩
  exact wp_eq key (fun o eo ho => ⟨ho.1, fr_x12_falls eo, ho.2⟩)
