/-! ===== entries set and put in: trees ===== -/
/-- a block that may be changed, with room -/
def CurM (s : MS) (v : Nat) (M : Nat → Nat → Int) (b i : Int) : Prop := ((0 ≤ b ∧ b < 48) ∧ cM s b.toNat = 1 ∧ vM s b.toNat = 0) ∧ (hM s).1 b.toNat = i ∧ (hM s).2.1 b.toNat < gA s 39 6 ∧ (M v b.toNat = 1 ∧ ∀ u, u < 16 → u ≠ v → M u b.toNat = 0)
theorem MT_ins {s o : MS} {v b k : Nat} {M : Nat → Nat → Int} {D : Nat → Int} {e key val : Int} (T : TM s D e) (P : PM s v M D e) (I : InsE s o b k key val) (h39 : gA o 39 = gA s 39) (hvv : v < 16) (hb : b < 48) (hc : 0 < cM s b) (hv0 : vM s b ≤ 0) (hm : 0 < M v b) (hmu : ∀ u, u < 16 → u ≠ v → M u b ≤ 0) (hz : (hM s).2.1 b ≤ 5) (hzE : (hM s).2.1 b + 1 ≤ gA s 39 6) (hk : (k : Int) ≤ (hM s).2.1 b) (hval : 0 < (hM s).1 b → (0 ≤ val ∧ val < gA s 39 5) ∧ (hM s).1 val.toNat = (hM s).1 b - 1) (hke : 0 ≤ key ∧ key ≤ 999) (he : e = -1 ∨ e = (b : Int)) : TM o (fun x => D x - (if 0 < (hM s).1 b ∧ val = (x : Int) then 1 else 0)) (-1) ∧ PM o v M (fun x => D x - (if 0 < (hM s).1 b ∧ val = (x : Int) then 1 else 0)) (-1) := by
  obtain ⟨iB, iz, ilo, iat, ihi⟩ := I
  have step : ∀ {c sv r2 rs2 : Nat → Int}, TG (hM s) (kM s) (gA s 39 5) (gA s 39 6) c sv r2 rs2 D e → 0 < c b → sv b ≤ 0 → TG (hM o) (kM o) (gA s 39 5) (gA s 39 6) c sv r2 rs2 (fun x => D x - (if 0 < (hM s).1 b ∧ val = (x : Int) then 1 else 0)) (-1) := fun G g1 g2 => TG_ins (h' := hM o) (ky' := kM o) G hb g2 g1 (BX_s iB) (by rw [BX_l iB]) hz hzE iz hk ilo iat ihi hval hke he
  refine ⟨TM_mk (step T hc hv0) rfl rfl (by rw [h39]) (by rw [h39]) (BX_c iB) (BX_v iB) (BX_r iB) (BX_rs iB), ?_⟩
  exact PM_to0 (q := gA s 49 v) P (fun u hu hn G => step G hm (hmu u hu hn)) h39 (fun u hu _ => BX_u iB (by omega)) (BX_u iB (by omega))
theorem MT_set {s o : MS} {v b k : Nat} {M : Nat → Nat → Int} {D : Nat → Int} {e val : Int} (T : TM s D e) (P : PM s v M D e) (hk6 : k < 6) (u49 : gA o 49 = upZ (upZ (gA s 49) (21 + 16 * b + k) (kM s b k)) (27 + 16 * b + k) val) (h39 : gA o 39 = gA s 39) (hvv : v < 16) (hb : b < 48) (hc : 0 < cM s b) (hv0 : vM s b ≤ 0) (hm : 0 < M v b) (hmu : ∀ u, u < 16 → u ≠ v → M u b ≤ 0) (hk : (k : Int) < (hM s).2.1 b) (hval : 0 < (hM s).1 b → (0 ≤ val ∧ val < gA s 39 5) ∧ (hM s).1 val.toNat = (hM s).1 b - 1) : BX s o b ∧ (hM o).2.1 b = (hM s).2.1 b ∧ (TM o (fun x => D x + (if 0 < (hM s).1 b ∧ (hM s).2.2 b k = (x : Int) then 1 else 0) - (if 0 < (hM s).1 b ∧ val = (x : Int) then 1 else 0)) e ∧ PM o v M (fun x => D x + (if 0 < (hM s).1 b ∧ (hM s).2.2 b k = (x : Int) then 1 else 0) - (if 0 < (hM s).1 b ∧ val = (x : Int) then 1 else 0)) e) := by
  obtain ⟨iB, iz, ⟨iv, ik⟩, irest⟩ := M_set hk6 u49
  have step : ∀ {c sv r2 rs2 : Nat → Int}, TG (hM s) (kM s) (gA s 39 5) (gA s 39 6) c sv r2 rs2 D e → 0 < c b → sv b ≤ 0 → TG (hM o) (kM o) (gA s 39 5) (gA s 39 6) c sv r2 rs2 (fun x => D x + (if 0 < (hM s).1 b ∧ (hM s).2.2 b k = (x : Int) then 1 else 0) - (if 0 < (hM s).1 b ∧ val = (x : Int) then 1 else 0)) e := fun G g1 g2 => TG_set (h' := hM o) (ky' := kM o) G hb g2 g1 (BX_s iB) (by rw [BX_l iB]) iz hk (fun j _ hj => (irest j hj).1) iv (fun j _ => by
    by_cases z : j = k
    · rw [z]; exact ik
    · exact (irest j z).2) hval
  refine ⟨iB, iz, TM_mk (step T hc hv0) rfl rfl (by rw [h39]) (by rw [h39]) (BX_c iB) (BX_v iB) (BX_r iB) (BX_rs iB), ?_⟩
  exact PM_to0 (q := gA s 49 v) P (fun u hu hn G => step G hm (hmu u hu hn)) h39 (fun u hu _ => BX_u iB (by omega)) (BX_u iB (by omega))
/-- a root is another -/
theorem M_root {s o : MS} {v : Nat} {q : Int} (hv : v < 8) (e : gA o 49 = upZ (gA s 49) v q) : (hM o = hM s ∧ kM o = kM s) ∧ (cM o = cM s ∧ vM o = vM s) ∧ (rM o = upZ (rM s) v q ∧ rsM o = rsM s) := by
  have nz : ∀ i, i ≠ v → gA o 49 i = gA s 49 i := fun i hi => by rw [e, upZ_n hi]
  refine ⟨⟨?_, ?_⟩, ⟨?_, ?_⟩, ?_, ?_⟩
  · have e1 : (fun p => gA o 49 (19 + 16 * p)) = fun p => gA s 49 (19 + 16 * p) := by funext p; exact nz _ (by omega)
    have e2 : (fun p => gA o 49 (20 + 16 * p)) = fun p => gA s 49 (20 + 16 * p) := by funext p; exact nz _ (by omega)
    have e3 : (fun p k => if k < 6 then gA o 49 (27 + 16 * p + k) else 0) = fun p k => if k < 6 then gA s 49 (27 + 16 * p + k) else 0 := by funext p k; rw [nz _ (by omega)]
    unfold hM
    rw [e1, e2, e3]
  · funext p k
    show (if k < 6 then gA o 49 (21 + 16 * p + k) else 0) = if k < 6 then gA s 49 (21 + 16 * p + k) else 0
    rw [nz _ (by omega)]
  · funext p; exact nz _ (by omega)
  · funext p; exact nz _ (by omega)
  · funext p
    show (if p < 8 then gA o 49 p else 0) = if p = v then q else if p < 8 then gA s 49 p else 0
    by_cases z : p = v
    · rw [if_pos (show p < 8 by omega), if_pos z, z, e, upZ_s]
    · rw [if_neg z, nz _ z]
  · funext p
    show (if p < 8 then gA o 49 (8 + p) else 0) = if p < 8 then gA s 49 (8 + p) else 0
    rw [nz _ (by omega)]
theorem MT_root {s o : MS} {v : Nat} {M : Nat → Nat → Int} {D : Nat → Int} {e q : Int} (T : TM s D e) (P : PM s v M D e) (hv : v < 8) (u49 : gA o 49 = upZ (gA s 49) v q) (h39 : gA o 39 = gA s 39) (hq : (0 ≤ q ∧ q < gA s 39 5) ∨ q < 0 ∨ 254 ≤ q) : TM o (fun x => D x + (if gA s 49 v = (x : Int) then 1 else 0) - (if q = (x : Int) then 1 else 0)) e ∧ PM o v M (fun x => D x + (if gA s 49 v = (x : Int) then 1 else 0) - (if q = (x : Int) then 1 else 0)) e := by
  obtain ⟨⟨a1, a2⟩, ⟨a3, a4⟩, a5, a6⟩ := M_root hv u49
  constructor
  · have T1 := TG_root (v := v) (q := q) T hv hq
    rw [rM_v hv] at T1
    exact TM_mk T1 a1 a2 (by rw [h39]) (by rw [h39]) a3 a4 a5 a6
  · refine PM_to0 (q := q) P (fun u hu hn G => ?_) h39 (fun u hu hn => by rw [u49, upZ_n hn]) (by rw [u49, upZ_s])
    have G1 := TG_root (v := 0) (q := q) G (by omega) hq
    rw [sr_up, sr_0] at G1
    rw [a1, a2]
    exact G1
theorem half_b {z E : Int} (h0 : 2 ≤ z) (h6 : z ≤ 6) (hE : z ≤ E) : (1 ≤ Int.tdiv z 2 ∧ Int.tdiv z 2 < E ∧ Int.tdiv z 2 ≤ 3) ∧ 1 ≤ z - Int.tdiv z 2 ∧ z - Int.tdiv z 2 < E ∧ z - Int.tdiv z 2 ≤ z := by
  rw [Int.tdiv_eq_ediv_of_nonneg (by omega)]
  omega
set_option maxHeartbeats 4000000 in
theorem mt_half {p0 p1 p2 p3 : Int} {s : MS} {v : Nat} {M : Nat → Nat → Int} {i : Int} (hR : Rr s) (hv : v < 8) (T : TM s d0 (-1)) (P : PM s v M d0 (-1)) (hC : CE s 0) (hE : 3 ≤ gA s 39 6 ∧ gA s 39 6 ≤ 6) (hf : gI s 55 = 0) (hA : CurM s v M p0 (i + 1)) (hk : 0 ≤ p1 ∧ p1 < (hM s).2.1 p0.toNat) (hB : ((0 ≤ p2 ∧ p2 < 48) ∧ cM s p2.toNat = 1 ∧ vM s p2.toNat = 0) ∧ (hM s).1 p2.toNat = i ∧ 2 ≤ (hM s).2.1 p2.toNat ∧ (M v p2.toNat = 1 ∧ ∀ u, u < 16 → u ≠ v → M u p2.toNat = 0)) (h3 : R2 p3) : wp (m_x12_half p0 p1 p2 p3 s) (fun q => Rr q.2 ∧ F_x12_half s q.2 ∧ (∀ j, 785 ≤ j → gA q.2 49 j = gA s 49 j) ∧ (∀ u, u < 17 → gI q.2 55 = 0 → gA q.2 49 u = gA s 49 u) ∧ (gI q.2 55 = 1 ∨ (gI q.2 55 = 0 ∧ ∃ M', TM q.2 d0 (-1) ∧ PM q.2 v M' d0 (-1) ∧ CurM q.2 v M' q.1 i))) := by
  obtain ⟨⟨ha, a54, a55⟩, a56, a57, am, amu⟩ := hA
  obtain ⟨⟨hb, b54, b55⟩, b56, b57, bm, bmu⟩ := hB
  have hN48 : gA s 39 5 ≤ 48 := T.1.1
  have ha48 : p0.toNat < 48 := by omega
  have hb48 : p2.toNat < 48 := by omega
  have nd := TG_nd T hb48 (by omega)
  have n6 : 0 ≤ (hM s).2.1 p2.toNat ∧ (hM s).2.1 p2.toNat ≤ 6 := nd.2.1
  have nE : (hM s).2.1 p2.toNat ≤ gA s 39 6 := (T.2.2.2.2 p2.toNat hb48 (Or.inl (by omega))).1
  have lv : 0 ≤ (hM s).1 p2.toNat ∧ (hM s).1 p2.toNat ≤ 47 := TG_lev T (fun _ _ => Int.le_refl 0) hb48 (by omega)
  have bN : ((p2.toNat : Nat) : Int) < gA s 39 5 := TG_lt T hb48 (by omega)
  obtain ⟨⟨t1, t2, t2b⟩, t3, t4, t5⟩ := half_b b57 n6.2 nE
  have hab : p0.toNat ≠ p2.toNat := fun q => by rw [q] at a56; omega
  have key : wp (m_x12_half p0 p1 p2 p3 s) (fun q => Rr q.2 ∧ (∀ j, 785 ≤ j → gA q.2 49 j = gA s 49 j) ∧ (∀ u, u < 17 → gI q.2 55 = 0 → gA q.2 49 u = gA s 49 u) ∧ (gI q.2 55 = 1 ∨ (gI q.2 55 = 0 ∧ ∃ M', TM q.2 d0 (-1) ∧ PM q.2 v M' d0 (-1) ∧ CurM q.2 v M' q.1 i))) := by
    unfold m_x12_half
    refine wp_bn (w_x12_levelOf hR hb) (fun r36 e36 h36 => ?_)
    have l36 := h36.1
    refine wp_bn (w_x12_taken hR ⟨by omega, hN48⟩ hC (by omega) (by omega)) (fun q39 e39 h39q => ?_)
    obtain ⟨r, o⟩ := q39
    dsimp only at e39 h39q ⊢
    obtain ⟨hRo, k7, h38⟩ := h39q
    have Fo : F_x12_taken s o := fr_x12_taken e39
    have o39 : gA o 39 = gA s 39 := Fo.2.1 39 (by decide)
    have o55 : (0 : Int) ≤ gI o 55 ∧ gI o 55 ≤ 1 := hRo.1 55
    refine wp_rg (by omega) (wp_if (fun c1 => ?_) (fun c1 => wp_some ⟨hRo, k7, fun u hu h0 => by exfalso; have h0' : gI o 55 = 0 := h0; omega, Or.inl (by show gI o 55 = 1; omega)⟩))
    rcases h38 with h38 | ⟨_, ⟨r0, r1⟩, hcv, hK⟩
    · omega
    have hq48 : r.toNat < 48 := by omega
    obtain ⟨⟨c0, v0, m0⟩, T1, P1⟩ := TM_take (b := r.toNat) T P hv (by omega) (by omega) hcv hK (by omega) o39
    have nqb : p2.toNat ≠ r.toNat := fun z => by rw [z] at b54; omega
    have nqa : p0.toNat ≠ r.toNat := fun z => by rw [z] at a54; omega
    have ob := TkE_s hK p2.toNat hb48 nqb
    have oa := TkE_s hK p0.toNat ha48 nqa
    have oqz : (hM o).2.1 r.toNat = 0 := hK.2.2.2
    have oql : (hM o).1 r.toNat = i := by rw [hK.2.2.1, l36]; exact b56
    have oc : cM o = upZ (cM s) r.toNat 1 := TkE_c hK
    have ov : vM o = vM s := TkE_v hK v0
    refine wp_bn (w_x12_entriesOf hRo hb) (fun r43 e43 h43 => ?_)
    have z43 : r43 = (hM s).2.1 p2.toNat := by rw [h43.1]; exact ob.2.1
    refine wp_dv (by omega) ?_
    refine wp_bn (w_x12_entriesOf hRo hb) (fun r46 e46 h46 => ?_)
    have z46 : r46 = (hM s).2.1 p2.toNat := by rw [h46.1]; exact ob.2.1
    rw [z43, z46]
    generalize hgo : Int.tdiv ((hM s).2.1 p2.toNat) 2 = go at *
    have L43 : ∀ (n : Nat) (x : Int) (S : MS), Rr S → gA S 39 = gA s 39 → gI S 55 = 0 → (0 ≤ x ∧ x ≤ go) → BX o S r.toNat → (hM S).2.1 r.toNat = x → (∀ j : Nat, (j : Int) < x → (hM S).2.2 r.toNat j = (hM s).2.2 p2.toNat (((hM s).2.1 p2.toNat - go).toNat + j) ∧ kM S r.toNat j = kM s p2.toNat (((hM s).2.1 p2.toNat - go).toNat + j)) → go - x < (n : Int) → wp (m_x12_half_L43 n p0 p1 p2 p3 r go ((hM s).2.1 p2.toNat - go) x S) (fun q => Rr q.2 ∧ (∀ j, 785 ≤ j → gA q.2 49 j = gA s 49 j) ∧ (∀ u, u < 17 → gI q.2 55 = 0 → gA q.2 49 u = gA s 49 u) ∧ (gI q.2 55 = 1 ∨ (gI q.2 55 = 0 ∧ ∃ M', TM q.2 d0 (-1) ∧ PM q.2 v M' d0 (-1) ∧ CurM q.2 v M' q.1 i))) := by
      refine fr_ind (fun x S hRS h39 h55 hx hBX hsz hcp hmm => by exfalso; omega) (fun n ih x S hRS h39 h55 hx hBX hsz hcp hmm => ?_)
      show wp (m_x12_half_b43 (m_x12_half_L43 n) p0 p1 p2 p3 r go ((hM s).2.1 p2.toNat - go) x S) _
      unfold m_x12_half_b43
      have sb : ∀ j, j < 6 → (hM S).2.2 p2.toNat j = (hM s).2.2 p2.toNat j ∧ kM S p2.toNat j = kM s p2.toNat j := fun j hj => by rw [(BX_e hBX nqb).1, (BX_e hBX nqb).2]; exact ob.2.2 j hj
      refine wp_rg (by omega) (wp_rg (by omega) (wp_if (fun c2 => ?_) (fun c2 => ?_)))
      · have xg : x = go := by omega
        have S39 : gA S 39 = gA o 39 := h39.trans o39.symm
        have hcp2 : ∀ j : Nat, (j : Int) < (hM S).2.1 r.toNat → ∃ i : Nat, (i : Int) < (hM o).2.1 p2.toNat ∧ (hM S).2.2 r.toNat j = (hM o).2.2 p2.toNat i ∧ kM S r.toNat j = kM o p2.toNat i := fun j hj => by
          rw [hsz] at hj
          have e1 := hcp j hj
          have e2 := ob.2.2 (((hM s).2.1 p2.toNat - go).toNat + j) (by omega)
          exact ⟨((hM s).2.1 p2.toNat - go).toNat + j, by rw [ob.2.1]; omega, by rw [e1.1]; exact e2.1.symm, by rw [e1.2]; exact e2.2.symm⟩
        have fill : ∀ {c sv r2 rs2 : Nat → Int}, TG (hM o) (kM o) (gA o 39 5) (gA o 39 6) c sv r2 rs2 (fun x => dq r.toNat x) ((r.toNat : Nat) : Int) → 0 < c p2.toNat → sv r.toNat ≤ 0 → 0 < c r.toNat → TG (hM S) (kM S) (gA o 39 5) (gA o 39 6) c sv r2 rs2 (fun x => dq r.toNat x - en (hM S) r.toNat (x : Int)) (-1) := fun G g1 g2 g3 => TG_fill (h' := hM S) (ky' := kM S) (b := p2.toNat) G hb48 g1 hq48 g2 g3 (BX_s hBX) (by rw [BX_l hBX]) (by rw [oql, ob.1]; exact b56.symm) oqz (by rw [hsz, ob.2.1]; omega) hcp2
        have T2 : TM S (fun x => dq r.toNat x - en (hM S) r.toNat (x : Int)) (-1) := TM_mk (fill T1 (by rw [oc, upZ_n nqb]; omega) (by rw [hK.2.1.2]; omega) (by rw [hK.2.1.1]; omega)) rfl rfl (by rw [S39]) (by rw [S39]) (BX_c hBX) (BX_v hBX) (BX_r hBX) (BX_rs hBX)
        have P2 : PM S v (upM M v (upZ (M v) r.toNat 1)) (fun x => dq r.toNat x - en (hM S) r.toNat (x : Int)) (-1) := by
          refine PM_to0 (q := gA o 49 v) P1 (fun u hu hn G => ?_) S39 (fun u hu _ => BX_u hBX (by omega)) (BX_u hBX (by omega))
          refine fill G ?_ ?_ ?_
          · rw [upM_s, upZ_n nqb, bm]; omega
          · rw [upM_n hn, m0 u hu]; omega
          · rw [upM_s, upZ_s]; omega
        have szb : (hM S).2.1 p2.toNat = (hM s).2.1 p2.toNat := by rw [BX_z hBX nqb]; exact ob.2.1
        refine wp_inb (by omega) (wp_stn (fun s16 e16 => ?_))
        have hR16 : Rr s16 := e16 ▸ Rr.uAu hRS (by show (-2147483648 : Int) ≤ (hM s).2.1 p2.toNat - go ∧ (hM s).2.1 p2.toNat - go ≤ 2147483647; omega)
        have u16 : gA s16 49 = upZ (gA S 49) (20 + 16 * p2.toNat) ((hM s).2.1 p2.toNat - go) := by
          rw [(q_AA e16 : gA s16 49 = _), show (17 + 16 * p2 + 3).toNat = 20 + 16 * p2.toNat by omega]
        obtain ⟨b2, z2, r2⟩ := M_size u16
        refine wp_inb (by omega) (wp_bo (Or.inr rfl) (wp_stn (fun s19 e19 => ?_)))
        have hR19 : Rr s19 := e19 ▸ Rr.uAu hR16 (by show (0 : Int) ≤ 1 ∧ (1 : Int) ≤ 1; omega)
        have u19 : gA s19 49 = gA s16 49 := q_Aa e19 (by decide)
        have B19 : BX S s19 p2.toNat := fun j hj => by rw [u19]; exact b2 j hj
        have z19 : (hM s19).2.1 p2.toNat = (hM s).2.1 p2.toNat - go := by rw [← z2]; show gA s19 49 _ = gA s16 49 _; rw [u19]
        have r19 : ∀ j, (hM s19).2.2 p2.toNat j = (hM S).2.2 p2.toNat j ∧ kM s19 p2.toNat j = kM S p2.toNat j := fun j => by
          have hM' : hM s19 = hM s16 := by unfold hM; rw [u19]
          have kM' : kM s19 = kM s16 := by unfold kM; rw [u19]
          rw [hM', kM']; exact r2 j
        have a39 : gA s19 39 = gA s 39 := (q_Aa e19 (by decide)).trans ((q_Aa e16 (by decide)).trans h39)
        have a55' : gI s19 55 = 0 := (q_Ai e19).trans ((q_Ai e16).trans h55)
        have S19 : gA s19 39 = gA S 39 := a39.trans h39.symm
        have cut : ∀ {c sv r2 rs2 : Nat → Int}, TG (hM S) (kM S) (gA S 39 5) (gA S 39 6) c sv r2 rs2 (fun x => dq r.toNat x - en (hM S) r.toNat (x : Int)) (-1) → 0 < c p2.toNat → sv p2.toNat ≤ 0 → TG (hM s19) (kM s19) (gA S 39 5) (gA S 39 6) c sv r2 rs2 (fun x => dq r.toNat x) (-1) := fun G g1 g2 => by
          have G2 := TG_cut (h' := hM s19) (ky' := kM s19) (b := p2.toNat) G hb48 g2 g1 (BX_s B19) (by rw [BX_l B19]) (by rw [z19, szb]; omega) (fun j _ => r19 j)
          refine TG_D G2 (fun x hx => ?_)
          have e1 := en_two (h := hM S) (h' := hM s19) (b := p2.toNat) (q := r.toNat) (a := (hM s).2.1 p2.toNat - go) (x := (x : Int)) (by rw [BX_l B19]) (by rw [BX_l B19, BX_l hBX, oql, ob.1]; exact b56.symm) (by rw [szb]; omega) z19 (by rw [BX_z B19 (fun w => nqb w.symm), hsz, szb]; omega) (fun j _ => (r19 j).1) (fun j hj => by
            rw [szb] at hj
            rw [(BX_e B19 (fun w => nqb w.symm)).1, (hcp j (by omega)).1, (sb _ (by omega)).1])
          have e2 : en (hM s19) r.toNat (x : Int) = en (hM S) r.toNat (x : Int) := SBk_en (BX_s B19) hq48 (fun w => nqb w.symm)
          show dq r.toNat x = dq r.toNat x - en (hM S) r.toNat (x : Int) + en (hM S) p2.toNat (x : Int) - en (hM s19) p2.toNat (x : Int)
          omega
        have T3 : TM s19 (fun x => dq r.toNat x) (-1) := TM_mk (cut T2 (by rw [BX_c hBX, oc, upZ_n nqb]; omega) (by rw [BX_v hBX, ov]; omega)) rfl rfl (by rw [S19]) (by rw [S19]) (BX_c B19) (BX_v B19) (BX_r B19) (BX_rs B19)
        have P3 : PM s19 v (upM M v (upZ (M v) r.toNat 1)) (fun x => dq r.toNat x) (-1) := by
          refine PM_to0 (q := gA S 49 v) P2 (fun u hu hn G => ?_) S19 (fun u hu _ => BX_u B19 (by omega)) (BX_u B19 (by omega))
          refine cut G ?_ ?_
          · rw [upM_s, upZ_n nqb, bm]; omega
          · rw [upM_n hn, bmu u hu hn]; omega
        have qz : (hM s19).2.1 r.toNat = go := by rw [BX_z B19 (fun w => nqb w.symm), hsz, xg]
        have qc : cM s19 r.toNat = 1 := by rw [BX_c B19, BX_c hBX]; exact hK.2.1.1
        have qv : vM s19 r.toNat = 0 := by rw [BX_v B19, BX_v hBX]; exact hK.2.1.2
        have ql : (hM s19).1 r.toNat = i := by rw [BX_l B19, BX_l hBX]; exact oql
        have ac : cM s19 p0.toNat = 1 := by rw [BX_c B19, BX_c hBX, oc, upZ_n nqa]; exact a54
        have av : vM s19 p0.toNat = 0 := by rw [BX_v B19, BX_v hBX, ov]; exact a55
        have al : (hM s19).1 p0.toNat = i + 1 := by rw [BX_l B19, BX_l hBX, oa.1]; exact a56
        have az : (hM s19).2.1 p0.toNat = (hM s).2.1 p0.toNat := by rw [BX_z B19 hab, BX_z hBX nqa]; exact oa.2.1
        have na := (TG_nd T ha48 (by omega)).2.1
        refine wp_bn (w_x12_keyAt hR19 (by omega) (by omega)) (fun r21 e21 h21 => ?_)
        have ky := (T3.2.2.2.2 r.toNat hq48 (Or.inl (by omega))).2 0 (by rw [qz]; omega)
        have ky' : 0 ≤ r21 ∧ r21 ≤ 999 := by rw [h21.1]; exact ky
        refine wp_bn (w_x12_inserts hR19 ha (by rw [az]; omega) (by rw [az]; omega) h21.2 (by omega)) (fun s23 e23 h23 => ?_)
        obtain ⟨hR23, F23, I23⟩ := h23
        have i39 : gA s23 39 = gA s 39 := (F23.2.1 39 (by decide)).trans a39
        obtain ⟨T4, P4⟩ := MT_ins (b := p0.toNat) (k := (p1 + 1).toNat) T3 P3 I23 (F23.2.1 39 (by decide)) (by omega) ha48 (by omega) (by omega) (by rw [upM_s, upZ_n nqa, am]; omega) (fun u hu hn => by rw [upM_n hn, amu u hu hn]; omega) (by rw [az]; omega) (by rw [az, a39]; omega) (by rw [az]; omega) (fun _ => ⟨by rw [a39]; omega, by rw [ql, al]; omega⟩) ky' (Or.inl rfl)
        have dd : ∀ x : Nat, x < 48 → (0 : Int) = dq r.toNat x - (if 0 < (hM s19).1 p0.toNat ∧ r = (x : Int) then 1 else 0) := fun x hx => by
          by_cases z : x = r.toNat
          · rw [if_pos ⟨by omega, by omega⟩]; unfold dq; rw [if_pos z]; omega
          · rw [if_neg (fun w => z (by omega))]; unfold dq; rw [if_neg z]; omega
        have T5 : TM s23 d0 (-1) := TG_D T4 dd
        have P5 := PM_D (D' := d0) P4 dd
        obtain ⟨iB, iz, _⟩ := I23
        have k7' : ∀ j, 785 ≤ j → gA s23 49 j = gA s 49 j := fun j hj => by rw [BX_k iB ha48 hj, BX_k B19 hb48 hj, BX_k hBX hq48 hj]; exact k7 j hj
        have rt : ∀ u, u < 17 → gI s23 55 = 0 → gA s23 49 u = gA s 49 u := fun u hu _ => by rw [BX_u iB hu, BX_u B19 hu, BX_u hBX hu]; exact TkE_u hK hu
        have f55 : gI s23 55 = 0 := (F23.1 55 (by decide)).trans a55'
        refine wp_bn (w_x12_keyAt hR23 (by omega) (by omega)) (fun r25 e25 h25 => ?_)
        refine wp_rg h25.2 (wp_rg h3 (wp_if (fun c5 => ?_) (fun c5 => ?_)))
        · refine wp_some ⟨hR23, k7', rt, Or.inr ⟨f55, _, T5, P5, ⟨hb, ?_, ?_⟩, ?_, ?_, ?_, fun u hu hn => ?_⟩⟩
          · show cM s23 p2.toNat = 1
            rw [BX_c iB, BX_c B19, BX_c hBX, oc, upZ_n nqb]; exact b54
          · show vM s23 p2.toNat = 0
            rw [BX_v iB, BX_v B19, BX_v hBX, ov]; exact b55
          · show (hM s23).1 p2.toNat = i
            rw [BX_l iB, BX_l B19, BX_l hBX, ob.1]; exact b56
          · show (hM s23).2.1 p2.toNat < gA s23 39 6
            rw [BX_z iB (fun w => hab w.symm), z19, i39]; omega
          · rw [upM_s, upZ_n nqb]; exact bm
          · rw [upM_n hn]; exact bmu u hu hn
        · refine wp_some ⟨hR23, k7', rt, Or.inr ⟨f55, _, T5, P5, ⟨⟨r0, by omega⟩, ?_, ?_⟩, ?_, ?_, ?_, fun u hu hn => ?_⟩⟩
          · show cM s23 r.toNat = 1
            rw [BX_c iB]; exact qc
          · show vM s23 r.toNat = 0
            rw [BX_v iB]; exact qv
          · show (hM s23).1 r.toNat = i
            rw [BX_l iB]; exact ql
          · show (hM s23).2.1 r.toNat < gA s23 39 6
            rw [BX_z iB (fun w => nqa w.symm), qz, i39]; omega
          · rw [upM_s, upZ_s]
          · rw [upM_n hn]; exact m0 u hu
      · refine wp_bn (w_x12_keyAt hRS hb (by omega)) (fun r30 e30 h30 => ?_)
        refine wp_bn (w_x12_valueAt hRS hb (by omega)) (fun r32 e32 h32 => ?_)
        refine wp_bn (w_x12_inserts hRS (by omega) (by omega) (by omega) h30.2 h32.2) (fun s34 e34 h34 => ?_)
        obtain ⟨hR34, F34, iB, iz, ilo, iat, ihi⟩ := h34
        have sx := sb ((hM s).2.1 p2.toNat - go + x).toNat (by omega)
        refine ih (x + 1) s34 hR34 ((F34.2.1 39 (by decide)).trans h39) ((F34.1 55 (by decide)).trans h55) (by omega) (BX_t hBX iB) (by rw [iz, hsz]) (fun j hj => ?_) (by omega)
        by_cases z : j = x.toNat
        · rw [z, iat.1, iat.2, h32.1, h30.1, sx.1, sx.2, show ((hM s).2.1 p2.toNat - go + x).toNat = ((hM s).2.1 p2.toNat - go).toNat + x.toNat by omega]; exact ⟨rfl, rfl⟩
        · rw [(ilo j (by omega)).1, (ilo j (by omega)).2]; exact hcp j (by omega)
    exact L43 FU 0 o hRo o39 (by omega) (by omega) (BX_0 o _) oqz (fun j hj => by omega) (by have := FU_big; omega)
  exact wp_eq key (fun q eq hq => ⟨hq.1, fr_x12_half eq, hq.2⟩)
