/-! ===== a block of one's own ===== -/
abbrev d0 : Nat → Int := fun _ => 0
abbrev dq (b : Nat) (x : Nat) : Int := if x = b then 1 else 0
/-- rows of what was told stay -/
theorem fr39 {s o : MS} (h : gA o 39 = gA s 39) : gA o 39 5 = gA s 39 5 ∧ gA o 39 6 = gA s 39 6 := by rw [h]; exact ⟨rfl, rfl⟩
theorem TM_CX {s o : MS} {D D' : Nat → Int} {e : Int} (h39 : gA o 39 = gA s 39) (hX : CX s o) (T : TG (hM s) (kM s) (gA s 39 5) (gA s 39 6) (cM o) (vM s) (rM s) (rsM s) D e) (hD : ∀ x, x < 48 → D' x = D x) : TM o D' e := TM_mk (TG_D T hD) (CX_h hX) (CX_k hX) (by rw [h39]) (by rw [h39]) rfl (CX_v hX) (CX_r hX) (CX_rs hX)
theorem PM_CX {s o : MS} {v : Nat} {M : Nat → Nat → Int} {D : Nat → Int} {e : Int} (H : PM s v M D e) (h39 : gA o 39 = gA s 39) (hX : CX s o) (hv : v < 16) : PM o v M D e := PM_eq H (CX_h hX) (CX_k hX) h39 (fun u hu => CX_u hX (by omega)) hv
/-- a block is taken: trees -/
theorem TM_take {s o : MS} {b : Nat} {l : Int} {v : Nat} {M : Nat → Nat → Int} (T : TM s d0 (-1)) (P : PM s v M d0 (-1)) (hv : v < 8) (hE : 0 ≤ gA s 39 6) (hb : (b : Int) < gA s 39 5) (hc : cM s b ≤ 0 ∧ vM s b ≤ 0) (hK : TkE s o b l) (hl : 0 ≤ l) (h39 : gA o 39 = gA s 39) : (cM s b = 0 ∧ vM s b = 0 ∧ (∀ u, u < 16 → M u b = 0)) ∧ TM o (fun x => dq b x) (b : Int) ∧ PM o v (upM M v (upZ (M v) b 1)) (fun x => dq b x) (b : Int) := by
  have hN48 : gA s 39 5 ≤ 48 := T.1.1
  have hb48 : b < 48 := by omega
  have c0 : cM s b = 0 := by have := (T.1.2.1 b hb48).1; omega
  have v0 : vM s b = 0 := by have := (T.1.2.2.1 b hb48).1; omega
  obtain ⟨l1, l2⟩ := PM_live T (fun _ _ => Int.le_refl 0) P hv
  have nn : ∀ u, u < 16 → 0 ≤ M u b := fun u hu => by
    by_cases z : u = v
    · rw [z]; exact ((P.1 8 (by omega) (by omega)).1.2.1 b hb48).1
    · exact ((P.1 u hu z).1.2.2.1 b hb48).1
  have m0 : ∀ u, u < 16 → M u b = 0 := fun u hu => by
    have n := nn u hu
    by_cases z : 0 < M u b
    · exfalso
      by_cases h8 : u < 8
      · have := l1 u h8 b hb48 z; omega
      · have := l2 u (by omega) hu b hb48 z; omega
    · omega
  refine ⟨⟨c0, v0, m0⟩, ?_, ?_⟩
  · have T1 := TG_take (h' := hM o) (ky' := kM o) (b := b) T (Int.le_refl 0) hE hb c0 v0 (TkE_s hK) (by rw [hK.2.2.1]; exact hl) hK.2.2.2
    refine TM_mk (TG_D T1 (fun x hx => ?_)) rfl rfl (by rw [h39]) (by rw [h39]) (TkE_c hK) (TkE_v hK v0) (TkE_r hK) (TkE_rs hK)
    show (if x = b then (1 : Int) else 0) = 0 + (if x = b then 1 else 0)
    rw [Int.zero_add]
  · refine PM_to (q := gA s 49 v) P (fun u hu hn G => ?_) (fun x hx => ?_) h39 (fun u hu _ => TkE_u hK (by omega)) (TkE_u hK (by omega))
    · have T1 := TG_take (h' := hM o) (ky' := kM o) (b := b) G (Int.le_refl 0) hE hb (m0 v (by omega)) (m0 u hu) (TkE_s hK) (by rw [hK.2.2.1]; exact hl) hK.2.2.2
      refine TG_D T1 (fun x hx => ?_)
      show (if x = b then (1 : Int) else 0) = 0 + (if x = b then 1 else 0)
      rw [Int.zero_add]
    · by_cases z : x = b
      · rw [z, upZ_s]; exact Int.le_refl 1
      · rw [upZ_n z]; exact P.2 v (by omega) x hx
/-- what it is to own a block: b is it, or q is its copy -/
def OwnM (s o : MS) (v : Nat) (M M' : Nat → Nat → Int) (b q : Nat) : Prop := ((q < 48 ∧ (q : Int) < gA s 39 5) ∧ (cM o q = 1 ∧ vM o q = 0) ∧ ((hM o).1 q = (hM s).1 b ∧ (hM o).2.1 q = (hM s).2.1 b)) ∧ (∀ x, x < 48 → 0 < cM s x → (hM s).1 b ≤ (hM s).1 x → x ≠ b → cM o x = cM s x) ∧ (∀ x, x ≠ q → vM o x = vM s x ∧ (hM o).1 x = (hM s).1 x ∧ (hM o).2.1 x = (hM s).2.1 x ∧ ∀ k, k < 6 → (hM o).2.2 x k = (hM s).2.2 x k ∧ kM o x k = kM s x k) ∧ (q = b ∨ cM s q = 0) ∧ (∀ u, u < 17 → gA o 49 u = gA s 49 u) ∧ (TM o (fun x => dq q x - dq b x) (-1) ∧ PM o v M' (fun x => dq q x - dq b x) (-1)) ∧ (M' v q = 1 ∧ (∀ u, u < 16 → u ≠ v → M' u q = 0) ∧ (∀ u, u ≠ v → M' u = M u) ∧ (∀ x, x ≠ q → x ≠ b → M' v x = M v x))
theorem en_cp {h : SH} {b q : Nat} {x : Int} (hl : h.1 q = h.1 b) (hz : h.2.1 q = h.2.1 b) (he : ∀ k : Nat, k < 6 → (k : Int) < h.2.1 b → h.2.2 q k = h.2.2 b k) : en h q x = en h b x := en_ext (h := h) (h' := h) (by rw [hl]) hz he
set_option maxHeartbeats 4000000 in
theorem mt_owned {p0 : Int} {s : MS} {v : Nat} {M : Nat → Nat → Int} (hR : Rr s) (hv : v < 8) (T : TM s d0 (-1)) (P : PM s v M d0 (-1)) (hC : CE s 0) (hE : 0 ≤ gA s 39 6) (hf : gI s 55 = 0) (hb : 0 ≤ p0 ∧ p0 < 48) (hc : 0 < cM s p0.toNat) (hm : M v p0.toNat = 1) (hx : cM s p0.toNat = 1 → vM s p0.toNat = 0 → ∀ u, u < 16 → u ≠ v → M u p0.toNat = 0) : wp (m_x12_owned p0 s) (fun q => Rr q.2 ∧ F_x12_owned s q.2 ∧ (∀ i, 785 ≤ i → gA q.2 49 i = gA s 49 i) ∧ ((gI q.2 55 = 1 ∧ q.1 = p0) ∨ (gI q.2 55 = 0 ∧ 0 ≤ q.1 ∧ ∃ M', OwnM s q.2 v M M' p0.toNat q.1.toNat))) := by
  have hN48 : gA s 39 5 ≤ 48 := T.1.1
  have hb48 : p0.toNat < 48 := by omega
  have hbN : ((p0.toNat : Nat) : Int) < gA s 39 5 := TG_lt T hb48 hc
  have nd := TG_nd T hb48 hc
  have n6 : 0 ≤ (hM s).2.1 p0.toNat ∧ (hM s).2.1 p0.toNat ≤ 6 := nd.2.1
  have n1 : 1 ≤ (hM s).2.1 p0.toNat := T.2.2.1.1 p0.toNat hb48 hc (by omega)
  have lv : 0 ≤ (hM s).1 p0.toNat ∧ (hM s).1 p0.toNat ≤ 47 := TG_lev T (fun _ _ => Int.le_refl 0) hb48 hc
  have key : wp (m_x12_owned p0 s) (fun q => Rr q.2 ∧ (∀ i, 785 ≤ i → gA q.2 49 i = gA s 49 i) ∧ ((gI q.2 55 = 1 ∧ q.1 = p0) ∨ (gI q.2 55 = 0 ∧ 0 ≤ q.1 ∧ ∃ M', OwnM s q.2 v M M' p0.toNat q.1.toNat))) := by
    have J19 : wp (m_x12_owned_J19 p0 s) (fun q => Rr q.2 ∧ (∀ i, 785 ≤ i → gA q.2 49 i = gA s 49 i) ∧ ((gI q.2 55 = 1 ∧ q.1 = p0) ∨ (gI q.2 55 = 0 ∧ 0 ≤ q.1 ∧ ∃ M', OwnM s q.2 v M M' p0.toNat q.1.toNat))) := by
      unfold m_x12_owned_J19
      refine wp_bn (w_x12_levelOf hR hb) (fun r35 e35 h35 => ?_)
      have l35 := h35.1
      refine wp_bn (w_x12_taken hR ⟨by omega, hN48⟩ hC (by omega) (by omega)) (fun q38 e38 h38 => ?_)
      obtain ⟨r, o⟩ := q38
      dsimp only at e38 h38 ⊢
      obtain ⟨hRo, k7, h38⟩ := h38
      have Fo : F_x12_taken s o := fr_x12_taken e38
      have o39 : gA o 39 = gA s 39 := Fo.2.1 39 (by decide)
      have o55 : (0 : Int) ≤ gI o 55 ∧ gI o 55 ≤ 1 := hRo.1 55
      refine wp_rg (by omega) (wp_if (fun c1 => ?_) (fun c1 => wp_some ⟨hRo, k7, Or.inl ⟨by show gI o 55 = 1; omega, rfl⟩⟩))
      rcases h38 with h38 | ⟨_, ⟨r0, r1⟩, hcv, hK⟩
      · omega
      have hq48 : r.toNat < 48 := by omega
      obtain ⟨⟨c0, v0, m0⟩, T1, P1⟩ := TM_take (b := r.toNat) T P hv hE (by omega) hcv hK (by omega) o39
      have hne : p0.toNat ≠ r.toNat := fun z => by rw [z] at hc; omega
      have ob := TkE_s hK p0.toNat hb48 hne
      have oqz : (hM o).2.1 r.toNat = 0 := hK.2.2.2
      have oql : (hM o).1 r.toNat = (hM s).1 p0.toNat := by rw [hK.2.2.1]; exact l35
      have ocb : cM o p0.toNat = cM s p0.toNat := by rw [TkE_c hK, upZ_n hne]
      -- behind the copying
      have J117 : ∀ (S B : MS), Rr S → gA S 39 = gA s 39 → gI S 55 = 0 → CX B S → BX o B r.toNat → ((hM B).2.1 r.toNat = (hM s).2.1 p0.toNat) → (∀ j, j < 6 → (hM B).2.2 r.toNat j = (hM s).2.2 p0.toNat j ∧ kM B r.toNat j = kM s p0.toNat j) → (∀ x, x < 48 → cM o x ≤ cM S x ∧ ((hM s).1 p0.toNat ≤ (hM o).1 x → cM S x = cM o x)) → TM S (fun x => dq r.toNat x) (-1) → PM S v (upM M v (upZ (M v) r.toNat 1)) (fun x => dq r.toNat x - en (hM B) r.toNat (x : Int)) (-1) → wp (m_x12_owned_J117 p0 r S) (fun q => Rr q.2 ∧ (∀ i, 785 ≤ i → gA q.2 49 i = gA s 49 i) ∧ ((gI q.2 55 = 1 ∧ q.1 = p0) ∨ (gI q.2 55 = 0 ∧ 0 ≤ q.1 ∧ ∃ M', OwnM s q.2 v M M' p0.toNat q.1.toNat))) := by
        intro S B hRS h39 h55 hX hB hBz hBe hcS TS PS
        unfold m_x12_owned_J117
        have cb := hcS p0.toNat hb48
        have hMS : hM S = hM B := CX_h hX
        refine wp_bn (w_x12_falls hRS (by rw [h39]; exact hN48) TS.1.2.1 ⟨hb.1, by rw [h39]; omega⟩ (by omega) (fun x hx => by rw [TS.2.1.1 x hx]; show 0 ≤ dq r.toNat x; unfold dq; split <;> omega) (fun x hx => by have := TG_bd TS hx; have : dq r.toNat x ≤ 1 := (by unfold dq; split <;> omega); omega)) (fun s5 e5 h5 => ?_)
        obtain ⟨hR5, F5, x5, rel5, lv5⟩ := h5
        have a39 : gA s5 39 = gA s 39 := (F5.2.1 39 (by decide)).trans h39
        have hXX : CX B s5 := CX_t hX x5
        have h5M : hM s5 = hM B := CX_h hXX
        have k5M : kM s5 = kM B := CX_k hXX
        have T2 := TG_rel TS rel5
        have T3 : TM s5 (fun x => dq r.toNat x - dq p0.toNat x) (-1) := by
          refine TM_CX (s := S) (F5.2.1 39 (by decide)) x5 T2 (fun x hx => ?_)
          show dq r.toNat x - dq p0.toNat x = dq r.toNat x - (if (x : Int) = p0 then 1 else 0)
          by_cases z : x = p0.toNat
          · rw [if_pos (show (x : Int) = p0 by omega)]; unfold dq; rw [if_pos z]
          · rw [if_neg (show ¬ (x : Int) = p0 by omega)]; unfold dq; rw [if_neg z]
        have enq : ∀ x : Int, en (hM B) r.toNat x = en (hM B) p0.toNat x := fun x => en_cp (by rw [BX_l hB, oql]; exact ob.1.symm) (by rw [hBz, BX_z hB hne]; exact ob.2.1.symm) (fun k hk _ => by rw [(hBe k hk).1, (BX_e hB hne).1]; exact (ob.2.2 k hk).1.symm)
        have P5 : PM s5 v (upM M v (upZ (M v) r.toNat 1)) (fun x => dq r.toNat x - en (hM B) r.toNat (x : Int)) (-1) := PM_CX PS (F5.2.1 39 (by decide)) x5 (by omega)
        have P6 : PM s5 v (upM (upM M v (upZ (M v) r.toNat 1)) v (upZ (upZ (M v) r.toNat 1) p0.toNat 0)) (fun x => dq r.toNat x - dq p0.toNat x) (-1) := by
          refine PM_to (q := gA s5 49 v) P5 (fun u hu hn G => ?_) (fun x hx => ?_) rfl (fun u hu _ => rfl) rfl
          · rw [upM_s] at G
            have G2 := TG_off (b := p0.toNat) G hb48 (by rw [upZ_n hne]; exact hm)
            refine TG_D G2 (fun x hx => ?_)
            show dq r.toNat x - dq p0.toNat x = dq r.toNat x - en (hM B) r.toNat (x : Int) - (if x = p0.toNat then 1 else 0) + en (hM s5) p0.toNat (x : Int)
            rw [h5M, enq]
            show dq r.toNat x - dq p0.toNat x = dq r.toNat x - en (hM B) p0.toNat (x : Int) - dq p0.toNat x + en (hM B) p0.toNat (x : Int)
            omega
          · by_cases z : x = p0.toNat
            · rw [z, upZ_s]; omega
            · rw [upZ_n z]
              by_cases w : x = r.toNat
              · rw [w, upZ_s]; omega
              · rw [upZ_n w]; exact P.2 v (by omega) x hx
        have lb : (hM S).1 p0.toNat = (hM s).1 p0.toNat := by rw [hMS, BX_l hB]; exact ob.1
        have v5 : vM s5 = vM o := by rw [CX_v hXX, BX_v hB]
        refine wp_some ⟨hR5, fun i hi => ?_, Or.inr ⟨by rw [F5.1 55 (by decide)]; exact h55, r0, _, ⟨⟨hq48, by omega⟩, ⟨?_, ?_⟩, ⟨?_, ?_⟩⟩, fun x hx hcx hlx hxb => ?_, fun x hxq => ⟨?_, ?_, ?_, fun k hk => ⟨?_, ?_⟩⟩, Or.inr c0, fun u hu => ?_, ⟨T3, P6⟩, ⟨?_, fun u hu hn => ?_, fun u hn => ?_, fun x hxq hxb => ?_⟩⟩⟩
        · rw [CX_n hXX hi, BX_k hB hq48 hi]; exact k7 i hi
        · rw [lv5 r.toNat hq48 (by rw [lb, hMS, BX_l hB, oql]; exact Int.le_refl _) (fun z => hne z.symm), (hcS r.toNat hq48).2 (by rw [oql]; exact Int.le_refl _)]
          exact hK.2.1.1
        · rw [v5]; exact hK.2.1.2
        · rw [h5M, BX_l hB]; exact oql
        · rw [h5M]; exact hBz
        · have hxq : x ≠ r.toNat := fun z => by rw [z] at hcx; omega
          have h1 : (hM o).1 x = (hM s).1 x := (TkE_s hK x hx hxq).1
          rw [lv5 x hx (by rw [lb, hMS, BX_l hB, h1]; exact hlx) hxb, (hcS x hx).2 (by rw [h1]; exact hlx), TkE_c hK, upZ_n hxq]
        · rw [v5, TkE_v hK v0]
        · rw [h5M, BX_l hB]; exact hK.1 (19 + 16 * x) (by omega)
        · rw [h5M, BX_z hB hxq]; exact hK.1 (20 + 16 * x) (by omega)
        · rw [h5M, (BX_e hB hxq).1]
          show (if k < 6 then gA o 49 (27 + 16 * x + k) else 0) = if k < 6 then gA s 49 (27 + 16 * x + k) else 0
          rw [if_pos hk, if_pos hk]; exact hK.1 _ (by omega)
        · rw [k5M, (BX_e hB hxq).2]
          show (if k < 6 then gA o 49 (21 + 16 * x + k) else 0) = if k < 6 then gA s 49 (21 + 16 * x + k) else 0
          rw [if_pos hk, if_pos hk]; exact hK.1 _ (by omega)
        · rw [CX_u hXX hu, BX_u hB hu]; exact TkE_u hK hu
        · rw [upM_s, upZ_n (fun z => hne z.symm), upZ_s]
        · rw [upM_n hn, upM_n hn]; exact m0 u hu
        · rw [upM_n hn, upM_n hn]
        · rw [upM_s, upZ_n hxb, upZ_n hxq]
      -- the copying
      have L41 : ∀ (n : Nat) (x21 : Int) (S : MS), Rr S → gA S 39 = gA s 39 → gI S 55 = 0 → (3 ≤ x21 ∧ x21 ≤ 16) → BX o S r.toNat → (∀ k : Nat, 3 ≤ k → (k : Int) < x21 → gA S 49 (17 + 16 * r.toNat + k) = gA o 49 (17 + 16 * p0.toNat + k)) → 16 - x21 < (n : Int) → wp (m_x12_owned_L41 n p0 r x21 S) (fun q => Rr q.2 ∧ (∀ i, 785 ≤ i → gA q.2 49 i = gA s 49 i) ∧ ((gI q.2 55 = 1 ∧ q.1 = p0) ∨ (gI q.2 55 = 0 ∧ 0 ≤ q.1 ∧ ∃ M', OwnM s q.2 v M M' p0.toNat q.1.toNat))) := by
        refine fr_ind (fun x21 S hRS h39 h55 hk hB hcp hmm => by exfalso; omega) (fun n ih x21 S hRS h39 h55 hk hB hcp hmm => ?_)
        show wp (m_x12_owned_b41 (m_x12_owned_L41 n) p0 r x21 S) _
        unfold m_x12_owned_b41
        refine wp_rg (by omega) (wp_if (fun c2 => ?_) (fun c2 => ?_))
        · have x16 : x21 = 16 := by omega
          have Sz : (hM S).2.1 r.toNat = (hM s).2.1 p0.toNat := by
            have := hcp 3 (by omega) (by omega)
            show gA S 49 (20 + 16 * r.toNat) = _
            rw [show 20 + 16 * r.toNat = 17 + 16 * r.toNat + 3 by omega, this]
            rw [← ob.2.1]; show gA o 49 _ = gA o 49 (20 + 16 * p0.toNat); congr 1; omega
          have Se : ∀ j, j < 6 → (hM S).2.2 r.toNat j = (hM s).2.2 p0.toNat j ∧ kM S r.toNat j = kM s p0.toNat j := fun j hj => by
            have e1 := hcp (10 + j) (by omega) (by omega)
            have e2 := hcp (4 + j) (by omega) (by omega)
            rw [← (ob.2.2 j hj).1, ← (ob.2.2 j hj).2]
            constructor
            · show (if j < 6 then gA S 49 (27 + 16 * r.toNat + j) else 0) = if j < 6 then gA o 49 (27 + 16 * p0.toNat + j) else 0
              rw [if_pos hj, if_pos hj, show 27 + 16 * r.toNat + j = 17 + 16 * r.toNat + (10 + j) by omega, e1]; congr 1; omega
            · show (if j < 6 then gA S 49 (21 + 16 * r.toNat + j) else 0) = if j < 6 then gA o 49 (21 + 16 * p0.toNat + j) else 0
              rw [if_pos hj, if_pos hj, show 21 + 16 * r.toNat + j = 17 + 16 * r.toNat + (4 + j) by omega, e2]; congr 1; omega
          have S39 : gA S 39 = gA o 39 := h39.trans o39.symm
          have hcp2 : ∀ j : Nat, (j : Int) < (hM S).2.1 r.toNat → ∃ i : Nat, (i : Int) < (hM o).2.1 p0.toNat ∧ (hM S).2.2 r.toNat j = (hM o).2.2 p0.toNat i ∧ kM S r.toNat j = kM o p0.toNat i := fun j hj => by
            rw [Sz] at hj
            exact ⟨j, by rw [ob.2.1]; exact hj, by rw [(Se j (by omega)).1]; exact (ob.2.2 j (by omega)).1.symm, by rw [(Se j (by omega)).2]; exact (ob.2.2 j (by omega)).2.symm⟩
          have fill : ∀ {c sv r2 rs2 : Nat → Int}, TG (hM o) (kM o) (gA o 39 5) (gA o 39 6) c sv r2 rs2 (fun x => dq r.toNat x) ((r.toNat : Nat) : Int) → 0 < c p0.toNat → sv r.toNat ≤ 0 → 0 < c r.toNat → TG (hM S) (kM S) (gA o 39 5) (gA o 39 6) c sv r2 rs2 (fun x => dq r.toNat x - en (hM S) r.toNat (x : Int)) (-1) := fun G g1 g2 g3 => TG_fill (h' := hM S) (ky' := kM S) (b := p0.toNat) G hb48 g1 hq48 g2 g3 (BX_s hB) (by rw [BX_l hB]) (by rw [oql]; exact ob.1.symm) oqz (by rw [Sz, ob.2.1]; omega) hcp2
          have T2 : TM S (fun x => dq r.toNat x - en (hM S) r.toNat (x : Int)) (-1) := TM_mk (fill T1 (by rw [ocb]; exact hc) (by rw [hK.2.1.2]; omega) (by rw [hK.2.1.1]; omega)) rfl rfl (by rw [S39]) (by rw [S39]) (BX_c hB) (BX_v hB) (BX_r hB) (BX_rs hB)
          have P2 : PM S v (upM M v (upZ (M v) r.toNat 1)) (fun x => dq r.toNat x - en (hM S) r.toNat (x : Int)) (-1) := by
            refine PM_to0 (q := gA o 49 v) P1 (fun u hu hn G => ?_) S39 (fun u hu _ => BX_u hB (by omega)) (BX_u hB (by omega))
            refine fill G ?_ ?_ ?_
            · rw [upM_s, upZ_n hne, hm]; omega
            · rw [upM_n hn, m0 u hu]; omega
            · rw [upM_s, upZ_s]; omega
          refine wp_bn (w_x12_levelOf hRS hb) (fun r26 e26 h26 => ?_)
          have l26 : r26 = (hM s).1 p0.toNat := by rw [h26.1, BX_l hB]; exact ob.1
          refine wp_rg h26.2 (wp_if (fun c3 => ?_) (fun c3 => ?_))
          · refine J117 S S hRS h39 h55 (CX_0 S) hB Sz Se (fun x hx => ⟨by rw [BX_c hB]; exact Int.le_refl _, fun _ => by rw [BX_c hB]⟩) (TG_D T2 (fun x hx => ?_)) P2
            show dq r.toNat x = dq r.toNat x - en (hM S) r.toNat (x : Int)
            rw [en_leaf (by rw [BX_l hB, oql]; omega)]; omega
          · have L91 : ∀ (m : Nat) (k : Int) (Q : MS), Rr Q → gA Q 39 = gA s 39 → gI Q 55 = 0 → CX S Q → (∀ x, x < 48 → cM o x ≤ cM Q x ∧ ((hM s).1 p0.toNat ≤ (hM o).1 x → cM Q x = cM o x)) → (0 ≤ k ∧ k ≤ (hM s).2.1 p0.toNat) → TM Q (fun x => dq r.toNat x - enf (hM S) r.toNat k (x : Int)) (-1) → (hM s).2.1 p0.toNat - k < (m : Int) → wp (m_x12_owned_L91 m p0 r k Q) (fun q => Rr q.2 ∧ (∀ i, 785 ≤ i → gA q.2 49 i = gA s 49 i) ∧ ((gI q.2 55 = 1 ∧ q.1 = p0) ∨ (gI q.2 55 = 0 ∧ 0 ≤ q.1 ∧ ∃ M', OwnM s q.2 v M M' p0.toNat q.1.toNat))) := by
              refine fr_ind (fun k Q hRQ q39 q55 hX hcQ hk TQ hmm => by exfalso; omega) (fun m ihm k Q hRQ q39 q55 hX hcQ hk TQ hmm => ?_)
              show wp (m_x12_owned_b91 (m_x12_owned_L91 m) p0 r k Q) _
              unfold m_x12_owned_b91
              have hMQ : hM Q = hM S := CX_h hX
              refine wp_bn (w_x12_entriesOf hRQ hb) (fun r11 e11 h11 => ?_)
              have z11 : r11 = (hM s).2.1 p0.toNat := by rw [h11.1, hMQ, BX_z hB hne]; exact ob.2.1
              refine wp_rg (by omega) (wp_rg (by omega) (wp_if (fun c4 => ?_) (fun c4 => ?_)))
              · refine J117 Q S hRQ q39 q55 hX hB Sz Se hcQ (TG_D TQ (fun x hx => ?_)) (PM_CX P2 (q39.trans h39.symm) hX (by omega))
                show dq r.toNat x = dq r.toNat x - enf (hM S) r.toNat k (x : Int)
                rw [enf_end (by rw [Sz]; omega)]; omega
              · refine wp_bn (w_x12_valueAt hRQ hb (by omega)) (fun r16 e16 h16 => ?_)
                have ey : r16 = (hM s).2.2 p0.toNat k.toNat := by rw [h16.1, hMQ, (BX_e hB hne).1]; exact (ob.2.2 k.toNat (by omega)).1
                have kid := TG_kid (p := p0.toNat) (k := k.toNat) T (fun _ _ => Int.le_refl 0) hb48 hc (by omega) (by omega)
                rw [← ey] at kid
                obtain ⟨⟨y0, y1⟩, y2, y3⟩ := kid
                have y48 : r16.toNat < 48 := by omega
                have yq : r16.toNat ≠ r.toNat := fun z => by rw [z] at y3; omega
                have yo : cM o r16.toNat = cM s r16.toNat := by rw [TkE_c hK, upZ_n yq]
                have yc := (hcQ r16.toNat y48).1
                have ybd := TG_bd TQ y48
                have yen := enf_nn (hM S) r.toNat k ((r16.toNat : Nat) : Int)
                have ydq : dq r.toNat r16.toNat = 0 := if_neg yq
                refine wp_bn (w_x12_counts hRQ (by omega) (by omega) (by omega)) (fun s18 e18 h18 => ?_)
                obtain ⟨hR18, u18⟩ := h18
                obtain ⟨x18, k18⟩ := M_cnt y48 u18
                have F18 : F_x12_counts Q s18 := fr_x12_counts e18
                have T18 := TG_inc (y := r16.toNat) TQ y48 (by omega)
                have yl : (hM o).1 r16.toNat = (hM s).1 p0.toNat - 1 := by rw [(TkE_s hK r16.toNat y48 yq).1]; exact y2
                refine ihm (k + 1) s18 hR18 ((F18.2.1 39 (by decide)).trans q39) ((F18.1 55 (by decide)).trans q55) (CX_t hX x18) (fun x hx => ?_) (by omega) ?_ (by omega)
                · rw [k18]
                  have := hcQ x hx
                  by_cases z : x = r16.toNat
                  · rw [z, upZ_s]
                    rw [z] at this
                    exact ⟨by omega, fun w => by omega⟩
                  · rw [upZ_n z]; exact this
                · refine TM_CX (s := Q) (F18.2.1 39 (by decide)) x18 (by rw [k18]; exact T18) (fun x hx => ?_)
                  show dq r.toNat x - enf (hM S) r.toNat (k + 1) (x : Int) = dq r.toNat x - enf (hM S) r.toNat k (x : Int) + (if x = r16.toNat then 1 else 0)
                  have es := enf_step (h := hM S) (p := r.toNat) (k := k.toNat) (x := (x : Int)) (by rw [BX_l hB, oql]; omega) (by rw [Sz]; omega) (by omega)
                  rw [show ((k.toNat : Nat) : Int) = k by omega, (Se k.toNat (by omega)).1, ← ey] at es
                  rw [es]
                  by_cases z : x = r16.toNat
                  · rw [if_pos z, if_pos (show r16 = (x : Int) by omega)]; omega
                  · rw [if_neg z, if_neg (show ¬ r16 = (x : Int) by omega)]; omega
            refine L91 FU 0 S hRS h39 h55 (CX_0 S) (fun x hx => ⟨by rw [BX_c hB]; exact Int.le_refl _, fun _ => by rw [BX_c hB]⟩) (by omega) T2 (by have := FU_big; omega)
        · refine wp_rdIn (by omega) (fun y29 e29 => ?_)
          refine wp_inb (by omega) (wp_stn (fun s31 e31 => ?_))
          have y29r : R2 y29 := by rw [← e29]; exact R49 hRS (by omega)
          have hR31 : Rr s31 := e31 ▸ Rr.uAu hRS (by show (-2147483648 : Int) ≤ y29 ∧ y29 ≤ 2147483647; exact y29r)
          have u31 : gA s31 49 = upZ (gA S 49) (17 + 16 * r.toNat + x21.toNat) y29 := by
            rw [(q_AA e31 : gA s31 49 = _), show (17 + 16 * r + x21).toNat = 17 + 16 * r.toNat + x21.toNat by omega]
          refine ih (x21 + 1) s31 hR31 ((q_Aa e31 (by decide)).trans h39) ((q_Ai e31).trans h55) (by omega) (fun i hi => ?_) (fun k hk3 hkx => ?_) (by omega)
          · rw [u31, upZ_n (by omega)]; exact hB i hi
          · rw [u31]
            by_cases z : k = x21.toNat
            · rw [z, upZ_s, ← e29, show (17 + 16 * p0 + x21).toNat = 17 + 16 * p0.toNat + x21.toNat by omega]
              exact hB _ (by omega)
            · rw [upZ_n (by omega)]; exact hcp k hk3 (by omega)
      exact L41 FU 3 o hRo o39 (by omega) (by omega) (BX_0 o _) (fun k h3 hk => by omega) (by have := FU_big; omega)
    unfold m_x12_owned
    refine wp_bn (w_x12_isFresh hR hb) (fun r42 e42 h42 => ?_)
    refine wp_rg (by omega) (wp_if (fun c1 => J19) (fun c1 => ?_))
    refine wp_bn (w_x12_countOf hR hb) (fun r46 e46 h46 => ?_)
    refine wp_rg h46.2 (wp_if (fun c2 => ?_) (fun c2 => J19))
    have hx' := hx (by omega) (by omega)
    have z0 : ∀ x, dq p0.toNat x - dq p0.toNat x = 0 := fun x => by omega
    exact wp_some ⟨hR, fun i _ => rfl, Or.inr ⟨hf, hb.1, M, ⟨⟨hb48, hbN⟩, ⟨by show cM s p0.toNat = 1; omega, by show vM s p0.toNat = 0; omega⟩, rfl, rfl⟩, fun x _ _ _ _ => rfl, fun x _ => ⟨rfl, rfl, rfl, fun k _ => ⟨rfl, rfl⟩⟩, Or.inl rfl, fun u _ => rfl, ⟨TG_D T (fun x _ => z0 x), PM_D P (fun x _ => z0 x)⟩, hm, hx', fun u _ => rfl, fun x _ _ => rfl⟩⟩
  exact wp_eq key (fun q eq hq => ⟨hq.1, fr_x12_owned eq, hq.2⟩)
