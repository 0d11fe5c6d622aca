/-! ===== the reference's trees ===== -/
def hM (t : MS) : SH := (fun p => gA t 49 (19 + 16 * p), fun p => gA t 49 (20 + 16 * p), fun p k => if k < 6 then gA t 49 (27 + 16 * p + k) else 0)
def kM (t : MS) : Nat → Nat → Int := fun p k => if k < 6 then gA t 49 (21 + 16 * p + k) else 0
def cM (t : MS) : Nat → Int := fun p => gA t 49 (17 + 16 * p)
def vM (t : MS) : Nat → Int := fun p => gA t 49 (18 + 16 * p)
def rM (t : MS) : Nat → Int := fun v => if v < 8 then gA t 49 v else 0
def rsM (t : MS) : Nat → Int := fun v => if v < 8 then gA t 49 (8 + v) else 0
def TM (t : MS) (D : Nat → Int) (e : Int) : Prop := TG (hM t) (kM t) (gA t 39 5) (gA t 39 6) (cM t) (vM t) (rM t) (rsM t) D e
theorem TM_mk {o : MS} {h : SH} {ky : Nat → Nat → Int} {N E : Int} {c sv r rs D : Nat → Int} {e : Int} (T : TG h ky N E c sv r rs D e) (a1 : hM o = h) (a2 : kM o = ky) (a3 : gA o 39 5 = N) (a4 : gA o 39 6 = E) (a5 : cM o = c) (a6 : vM o = sv) (a7 : rM o = r) (a8 : rsM o = rs) : TM o D e := by
  subst a1 a2 a3 a4 a5 a6 a7 a8
  exact T
theorem TM_eq {s o : MS} {D : Nat → Int} {e : Int} (H : TM s D e) (h49 : gA o 49 = gA s 49) (h39 : gA o 39 = gA s 39) : TM o D e := by
  unfold TM hM kM cM vM rM rsM at H ⊢
  rw [h49, h39]; exact H
theorem M_c {t o : MS} {b : Nat} {v : Int} (e : gA o 49 = upZ (gA t 49) (17 + 16 * b) v) : cM o = upZ (cM t) b v ∧ vM o = vM t ∧ (hM o).1 = (hM t).1 ∧ (hM o).2.1 = (hM t).2.1 ∧ (hM o).2.2 = (hM t).2.2 ∧ kM o = kM t ∧ rM o = rM t ∧ rsM o = rsM t := ⟨by funext p; unfold cM; rw [e]; show (if 17 + 16 * p = 17 + 16 * b then v else gA t 49 (17 + 16 * p)) = if p = b then v else gA t 49 (17 + 16 * p); by_cases z : p = b; (rw [if_pos z, if_pos (by omega)]); (rw [if_neg z, if_neg (by omega)]),
  by funext p; unfold vM; rw [e, upZ_n (by omega)],
  by funext p; show gA o 49 (19 + 16 * p) = gA t 49 (19 + 16 * p); rw [e, upZ_n (by omega)],
  by funext p; show gA o 49 (20 + 16 * p) = gA t 49 (20 + 16 * p); rw [e, upZ_n (by omega)],
  by funext p j; show (if j < 6 then gA o 49 (27 + 16 * p + j) else 0) = if j < 6 then gA t 49 (27 + 16 * p + j) else 0; by_cases q : j < 6; (rw [if_pos q, if_pos q, e, upZ_n (by omega)]); (rw [if_neg q, if_neg q]),
  by funext p j; show (if j < 6 then gA o 49 (21 + 16 * p + j) else 0) = if j < 6 then gA t 49 (21 + 16 * p + j) else 0; by_cases q : j < 6; (rw [if_pos q, if_pos q, e, upZ_n (by omega)]); (rw [if_neg q, if_neg q]),
  by funext p; show (if p < 8 then gA o 49 (p) else 0) = if p < 8 then gA t 49 (p) else 0; by_cases q : p < 8; (rw [if_pos q, if_pos q, e, upZ_n (by omega)]); (rw [if_neg q, if_neg q]),
  by funext p; show (if p < 8 then gA o 49 (8 + p) else 0) = if p < 8 then gA t 49 (8 + p) else 0; by_cases q : p < 8; (rw [if_pos q, if_pos q, e, upZ_n (by omega)]); (rw [if_neg q, if_neg q])⟩
theorem M_v {t o : MS} {b : Nat} {v : Int} (e : gA o 49 = upZ (gA t 49) (18 + 16 * b) v) : cM o = cM t ∧ vM o = upZ (vM t) b v ∧ (hM o).1 = (hM t).1 ∧ (hM o).2.1 = (hM t).2.1 ∧ (hM o).2.2 = (hM t).2.2 ∧ kM o = kM t ∧ rM o = rM t ∧ rsM o = rsM t := ⟨by funext p; unfold cM; rw [e, upZ_n (by omega)],
  by funext p; unfold vM; rw [e]; show (if 18 + 16 * p = 18 + 16 * b then v else gA t 49 (18 + 16 * p)) = if p = b then v else gA t 49 (18 + 16 * p); by_cases z : p = b; (rw [if_pos z, if_pos (by omega)]); (rw [if_neg z, if_neg (by omega)]),
  by funext p; show gA o 49 (19 + 16 * p) = gA t 49 (19 + 16 * p); rw [e, upZ_n (by omega)],
  by funext p; show gA o 49 (20 + 16 * p) = gA t 49 (20 + 16 * p); rw [e, upZ_n (by omega)],
  by funext p j; show (if j < 6 then gA o 49 (27 + 16 * p + j) else 0) = if j < 6 then gA t 49 (27 + 16 * p + j) else 0; by_cases q : j < 6; (rw [if_pos q, if_pos q, e, upZ_n (by omega)]); (rw [if_neg q, if_neg q]),
  by funext p j; show (if j < 6 then gA o 49 (21 + 16 * p + j) else 0) = if j < 6 then gA t 49 (21 + 16 * p + j) else 0; by_cases q : j < 6; (rw [if_pos q, if_pos q, e, upZ_n (by omega)]); (rw [if_neg q, if_neg q]),
  by funext p; show (if p < 8 then gA o 49 (p) else 0) = if p < 8 then gA t 49 (p) else 0; by_cases q : p < 8; (rw [if_pos q, if_pos q, e, upZ_n (by omega)]); (rw [if_neg q, if_neg q]),
  by funext p; show (if p < 8 then gA o 49 (8 + p) else 0) = if p < 8 then gA t 49 (8 + p) else 0; by_cases q : p < 8; (rw [if_pos q, if_pos q, e, upZ_n (by omega)]); (rw [if_neg q, if_neg q])⟩
theorem M_l {t o : MS} {b : Nat} {v : Int} (e : gA o 49 = upZ (gA t 49) (19 + 16 * b) v) : cM o = cM t ∧ vM o = vM t ∧ (hM o).1 = upZ (hM t).1 b v ∧ (hM o).2.1 = (hM t).2.1 ∧ (hM o).2.2 = (hM t).2.2 ∧ kM o = kM t ∧ rM o = rM t ∧ rsM o = rsM t := ⟨by funext p; unfold cM; rw [e, upZ_n (by omega)],
  by funext p; unfold vM; rw [e, upZ_n (by omega)],
  by funext p; show gA o 49 (19 + 16 * p) = _; rw [e]; show (if 19 + 16 * p = 19 + 16 * b then v else gA t 49 (19 + 16 * p)) = if p = b then v else gA t 49 (19 + 16 * p); by_cases z : p = b; (rw [if_pos z, if_pos (by omega)]); (rw [if_neg z, if_neg (by omega)]),
  by funext p; show gA o 49 (20 + 16 * p) = gA t 49 (20 + 16 * p); rw [e, upZ_n (by omega)],
  by funext p j; show (if j < 6 then gA o 49 (27 + 16 * p + j) else 0) = if j < 6 then gA t 49 (27 + 16 * p + j) else 0; by_cases q : j < 6; (rw [if_pos q, if_pos q, e, upZ_n (by omega)]); (rw [if_neg q, if_neg q]),
  by funext p j; show (if j < 6 then gA o 49 (21 + 16 * p + j) else 0) = if j < 6 then gA t 49 (21 + 16 * p + j) else 0; by_cases q : j < 6; (rw [if_pos q, if_pos q, e, upZ_n (by omega)]); (rw [if_neg q, if_neg q]),
  by funext p; show (if p < 8 then gA o 49 (p) else 0) = if p < 8 then gA t 49 (p) else 0; by_cases q : p < 8; (rw [if_pos q, if_pos q, e, upZ_n (by omega)]); (rw [if_neg q, if_neg q]),
  by funext p; show (if p < 8 then gA o 49 (8 + p) else 0) = if p < 8 then gA t 49 (8 + p) else 0; by_cases q : p < 8; (rw [if_pos q, if_pos q, e, upZ_n (by omega)]); (rw [if_neg q, if_neg q])⟩
theorem M_z {t o : MS} {b : Nat} {v : Int} (e : gA o 49 = upZ (gA t 49) (20 + 16 * b) v) : cM o = cM t ∧ vM o = vM t ∧ (hM o).1 = (hM t).1 ∧ (hM o).2.1 = upZ (hM t).2.1 b v ∧ (hM o).2.2 = (hM t).2.2 ∧ kM o = kM t ∧ rM o = rM t ∧ rsM o = rsM t := ⟨by funext p; unfold cM; rw [e, upZ_n (by omega)],
  by funext p; unfold vM; rw [e, upZ_n (by omega)],
  by funext p; show gA o 49 (19 + 16 * p) = gA t 49 (19 + 16 * p); rw [e, upZ_n (by omega)],
  by funext p; show gA o 49 (20 + 16 * p) = _; rw [e]; show (if 20 + 16 * p = 20 + 16 * b then v else gA t 49 (20 + 16 * p)) = if p = b then v else gA t 49 (20 + 16 * p); by_cases z : p = b; (rw [if_pos z, if_pos (by omega)]); (rw [if_neg z, if_neg (by omega)]),
  by funext p j; show (if j < 6 then gA o 49 (27 + 16 * p + j) else 0) = if j < 6 then gA t 49 (27 + 16 * p + j) else 0; by_cases q : j < 6; (rw [if_pos q, if_pos q, e, upZ_n (by omega)]); (rw [if_neg q, if_neg q]),
  by funext p j; show (if j < 6 then gA o 49 (21 + 16 * p + j) else 0) = if j < 6 then gA t 49 (21 + 16 * p + j) else 0; by_cases q : j < 6; (rw [if_pos q, if_pos q, e, upZ_n (by omega)]); (rw [if_neg q, if_neg q]),
  by funext p; show (if p < 8 then gA o 49 (p) else 0) = if p < 8 then gA t 49 (p) else 0; by_cases q : p < 8; (rw [if_pos q, if_pos q, e, upZ_n (by omega)]); (rw [if_neg q, if_neg q]),
  by funext p; show (if p < 8 then gA o 49 (8 + p) else 0) = if p < 8 then gA t 49 (8 + p) else 0; by_cases q : p < 8; (rw [if_pos q, if_pos q, e, upZ_n (by omega)]); (rw [if_neg q, if_neg q])⟩
theorem M_y {t o : MS} {b k : Nat} {v : Int} (hk : k < 6) (e : gA o 49 = upZ (gA t 49) (21 + 16 * b + k) v) : cM o = cM t ∧ vM o = vM t ∧ (hM o).1 = (hM t).1 ∧ (hM o).2.1 = (hM t).2.1 ∧ (hM o).2.2 = (hM t).2.2 ∧ (∀ p j, kM o p j = if p = b ∧ j = k then v else kM t p j) ∧ rM o = rM t ∧ rsM o = rsM t := ⟨by funext p; unfold cM; rw [e, upZ_n (by omega)],
  by funext p; unfold vM; rw [e, upZ_n (by omega)],
  by funext p; show gA o 49 (19 + 16 * p) = gA t 49 (19 + 16 * p); rw [e, upZ_n (by omega)],
  by funext p; show gA o 49 (20 + 16 * p) = gA t 49 (20 + 16 * p); rw [e, upZ_n (by omega)],
  by funext p j; show (if j < 6 then gA o 49 (27 + 16 * p + j) else 0) = if j < 6 then gA t 49 (27 + 16 * p + j) else 0; by_cases q : j < 6; (rw [if_pos q, if_pos q, e, upZ_n (by omega)]); (rw [if_neg q, if_neg q]),
  fun p j => by show (if j < 6 then gA o 49 (21 + 16 * p + j) else 0) = if p = b ∧ j = k then v else if j < 6 then gA t 49 (21 + 16 * p + j) else 0; rw [e]; by_cases q : j < 6; (rw [if_pos q, if_pos q]; by_cases z : p = b ∧ j = k; (rw [if_pos z, show 21 + 16 * p + j = 21 + 16 * b + k by omega, upZ_s]); (rw [if_neg z, upZ_n (by omega)])); (rw [if_neg q, if_neg q, if_neg (by omega)]),
  by funext p; show (if p < 8 then gA o 49 (p) else 0) = if p < 8 then gA t 49 (p) else 0; by_cases q : p < 8; (rw [if_pos q, if_pos q, e, upZ_n (by omega)]); (rw [if_neg q, if_neg q]),
  by funext p; show (if p < 8 then gA o 49 (8 + p) else 0) = if p < 8 then gA t 49 (8 + p) else 0; by_cases q : p < 8; (rw [if_pos q, if_pos q, e, upZ_n (by omega)]); (rw [if_neg q, if_neg q])⟩
theorem M_e {t o : MS} {b k : Nat} {v : Int} (hk : k < 6) (e : gA o 49 = upZ (gA t 49) (27 + 16 * b + k) v) : cM o = cM t ∧ vM o = vM t ∧ (hM o).1 = (hM t).1 ∧ (hM o).2.1 = (hM t).2.1 ∧ (∀ p j, (hM o).2.2 p j = if p = b ∧ j = k then v else (hM t).2.2 p j) ∧ kM o = kM t ∧ rM o = rM t ∧ rsM o = rsM t := ⟨by funext p; unfold cM; rw [e, upZ_n (by omega)],
  by funext p; unfold vM; rw [e, upZ_n (by omega)],
  by funext p; show gA o 49 (19 + 16 * p) = gA t 49 (19 + 16 * p); rw [e, upZ_n (by omega)],
  by funext p; show gA o 49 (20 + 16 * p) = gA t 49 (20 + 16 * p); rw [e, upZ_n (by omega)],
  fun p j => by show (if j < 6 then gA o 49 (27 + 16 * p + j) else 0) = if p = b ∧ j = k then v else if j < 6 then gA t 49 (27 + 16 * p + j) else 0; rw [e]; by_cases q : j < 6; (rw [if_pos q, if_pos q]; by_cases z : p = b ∧ j = k; (rw [if_pos z, show 27 + 16 * p + j = 27 + 16 * b + k by omega, upZ_s]); (rw [if_neg z, upZ_n (by omega)])); (rw [if_neg q, if_neg q, if_neg (by omega)]),
  by funext p j; show (if j < 6 then gA o 49 (21 + 16 * p + j) else 0) = if j < 6 then gA t 49 (21 + 16 * p + j) else 0; by_cases q : j < 6; (rw [if_pos q, if_pos q, e, upZ_n (by omega)]); (rw [if_neg q, if_neg q]),
  by funext p; show (if p < 8 then gA o 49 (p) else 0) = if p < 8 then gA t 49 (p) else 0; by_cases q : p < 8; (rw [if_pos q, if_pos q, e, upZ_n (by omega)]); (rw [if_neg q, if_neg q]),
  by funext p; show (if p < 8 then gA o 49 (8 + p) else 0) = if p < 8 then gA t 49 (8 + p) else 0; by_cases q : p < 8; (rw [if_pos q, if_pos q, e, upZ_n (by omega)]); (rw [if_neg q, if_neg q])⟩
theorem M_r {t o : MS} {b : Nat} {v : Int} (hb : b < 8) (e : gA o 49 = upZ (gA t 49) (b) v) : cM o = cM t ∧ vM o = vM t ∧ (hM o).1 = (hM t).1 ∧ (hM o).2.1 = (hM t).2.1 ∧ (hM o).2.2 = (hM t).2.2 ∧ kM o = kM t ∧ rM o = upZ (rM t) b v ∧ rsM o = rsM t := ⟨by funext p; unfold cM; rw [e, upZ_n (by omega)],
  by funext p; unfold vM; rw [e, upZ_n (by omega)],
  by funext p; show gA o 49 (19 + 16 * p) = gA t 49 (19 + 16 * p); rw [e, upZ_n (by omega)],
  by funext p; show gA o 49 (20 + 16 * p) = gA t 49 (20 + 16 * p); rw [e, upZ_n (by omega)],
  by funext p j; show (if j < 6 then gA o 49 (27 + 16 * p + j) else 0) = if j < 6 then gA t 49 (27 + 16 * p + j) else 0; by_cases q : j < 6; (rw [if_pos q, if_pos q, e, upZ_n (by omega)]); (rw [if_neg q, if_neg q]),
  by funext p j; show (if j < 6 then gA o 49 (21 + 16 * p + j) else 0) = if j < 6 then gA t 49 (21 + 16 * p + j) else 0; by_cases q : j < 6; (rw [if_pos q, if_pos q, e, upZ_n (by omega)]); (rw [if_neg q, if_neg q]),
  by funext p; show (if p < 8 then gA o 49 (p) else 0) = if p = b then v else if p < 8 then gA t 49 (p) else 0; by_cases q : p < 8; (rw [if_pos q, if_pos q, e]; by_cases z : p = b; (rw [if_pos z, show p = b by omega, upZ_s]); (rw [if_neg z, upZ_n (by omega)])); (rw [if_neg q, if_neg q, if_neg (by omega)]),
  by funext p; show (if p < 8 then gA o 49 (8 + p) else 0) = if p < 8 then gA t 49 (8 + p) else 0; by_cases q : p < 8; (rw [if_pos q, if_pos q, e, upZ_n (by omega)]); (rw [if_neg q, if_neg q])⟩
theorem M_s {t o : MS} {b : Nat} {v : Int} (hb : b < 8) (e : gA o 49 = upZ (gA t 49) (8 + b) v) : cM o = cM t ∧ vM o = vM t ∧ (hM o).1 = (hM t).1 ∧ (hM o).2.1 = (hM t).2.1 ∧ (hM o).2.2 = (hM t).2.2 ∧ kM o = kM t ∧ rM o = rM t ∧ rsM o = upZ (rsM t) b v := ⟨by funext p; unfold cM; rw [e, upZ_n (by omega)],
  by funext p; unfold vM; rw [e, upZ_n (by omega)],
  by funext p; show gA o 49 (19 + 16 * p) = gA t 49 (19 + 16 * p); rw [e, upZ_n (by omega)],
  by funext p; show gA o 49 (20 + 16 * p) = gA t 49 (20 + 16 * p); rw [e, upZ_n (by omega)],
  by funext p j; show (if j < 6 then gA o 49 (27 + 16 * p + j) else 0) = if j < 6 then gA t 49 (27 + 16 * p + j) else 0; by_cases q : j < 6; (rw [if_pos q, if_pos q, e, upZ_n (by omega)]); (rw [if_neg q, if_neg q]),
  by funext p j; show (if j < 6 then gA o 49 (21 + 16 * p + j) else 0) = if j < 6 then gA t 49 (21 + 16 * p + j) else 0; by_cases q : j < 6; (rw [if_pos q, if_pos q, e, upZ_n (by omega)]); (rw [if_neg q, if_neg q]),
  by funext p; show (if p < 8 then gA o 49 (p) else 0) = if p < 8 then gA t 49 (p) else 0; by_cases q : p < 8; (rw [if_pos q, if_pos q, e, upZ_n (by omega)]); (rw [if_neg q, if_neg q]),
  by funext p; show (if p < 8 then gA o 49 (8 + p) else 0) = if p = b then v else if p < 8 then gA t 49 (8 + p) else 0; by_cases q : p < 8; (rw [if_pos q, if_pos q, e]; by_cases z : p = b; (rw [if_pos z, show 8 + p = 8 + b by omega, upZ_s]); (rw [if_neg z, upZ_n (by omega)])); (rw [if_neg q, if_neg q, if_neg (by omega)])⟩
/-! ===== codes that leave a pile as they should; tests lie below sums there ===== -/
def tpd (c g U T : Int) : Prop := ((1000 ≤ c ∨ (40 ≤ c ∧ c < 60)) ∧ T ≤ U) ∨ (c = 13 ∧ (T ≤ U ∨ (g ≤ U ∧ T ≤ g + 1))) ∨ ((1 ≤ c ∧ c ≤ 6) ∧ T ≤ U ∧ T ≤ g - 2) ∨ ((7 ≤ c ∧ c ≤ 9) ∧ ((T ≤ U ∧ T ≤ g - 2) ∨ (g - 2 ≤ U ∧ T ≤ g - 1))) ∨ (c = 10 ∧ g ≤ U ∧ T ≤ g - 1) ∨ (c = 11 ∧ g - 2 ≤ U ∧ T ≤ g - 1) ∨ (c = 12 ∧ g ≤ U ∧ T ≤ g) ∨ ((60 ≤ c ∧ c < 1000) ∧ T ≤ U ∧ T ≤ g - 1)
def stq (k c g h U T : Int) : Prop := stp c g h ∧ tpd c g U T ∧ (60 ≤ c → c < 1000 → k = 3)
def hk (k : Int) (f : Nat → Int) : Nat → Int → Int → Prop
  | 0, h, T => h = 0 ∧ T ≤ 0
  | n + 1, h, T => ∃ g U, hk k f n g U ∧ stq k (f n) g h U T
theorem hk_c {k : Int} {f g : Nat → Int} {n : Nat} {h T : Int} (H : hk k f n h T) (e : ∀ j, j < n → g j = f j) : hk k g n h T := by
  induction n generalizing h T with
  | zero => exact H
  | succ n ih =>
    obtain ⟨q, U, h1, h2⟩ := H
    exact ⟨q, U, ih h1 (fun j hj => e j (by omega)), by rw [e n (by omega)]; exact h2⟩
theorem hk_add {k : Int} {f : Nat → Int} {n : Nat} {g h v U T : Int} (H : hk k f n g U) (s : stq k v g h U T) : hk k (upZ f n v) (n + 1) h T := ⟨g, U, hk_c H (fun j hj => by rw [upZ_n (by omega)]), by rw [upZ_s]; exact s⟩
theorem hk_b {k : Int} {f : Nat → Int} {n : Nat} {h T : Int} (H : hk k f n h T) : 0 ≤ h ∧ h ≤ (n : Int) := by
  induction n generalizing h T with
  | zero => have := H.1; omega
  | succ n ih =>
    obtain ⟨q, U, h1, h2⟩ := H
    have a := ih h1
    have b := h2.1
    unfold stp at b
    omega
theorem wq_mono {f : Nat → Int} {a b : Nat} (h : a ≤ b) : wq f a ≤ wq f b := by
  induction b with
  | zero => rw [show a = 0 by omega]; exact Int.le_refl _
  | succ b ih =>
    by_cases q : a = b + 1
    · rw [q]; exact Int.le_refl _
    · have := ih (by omega)
      rw [wq_s]
      split <;> omega
/-! ===== what waits in a formula of the reference ===== -/
def opn (v : Int) : Int := if v = 12 ∨ (20 ≤ v ∧ v ≤ 25) ∨ 60 ≤ v then 1 else 0
theorem opn_01 (v : Int) : opn v = 0 ∨ opn v = 1 := by unfold opn; split <;> omega
def wo (f : Nat → Int) (n : Nat) : Int := sm n (fun j => opn (f j))
theorem wo_s (f : Nat → Int) (n : Nat) : wo f (n + 1) = wo f n + opn (f n) := rfl
theorem wo_c {f g : Nat → Int} {n : Nat} (e : ∀ j, j < n → g j = f j) : wo g n = wo f n := sm_c (fun j hj => by rw [e j hj])
theorem wo_nn (f : Nat → Int) (n : Nat) : 0 ≤ wo f n := sm_nn (fun j _ => by have := opn_01 (f j); show 0 ≤ opn (f j); omega)
/-- the last bracket of the sum at hand -/
def brk (f : Nat → Int) (b : Int) : Nat → Int
  | 0 => -1
  | n + 1 => if (n : Int) < b then -1 else if 20 ≤ f n ∧ f n ≤ 24 then f n else brk f b n
theorem brk_or (f : Nat → Int) (b : Int) (n : Nat) : brk f b n = -1 ∨ (20 ≤ brk f b n ∧ brk f b n ≤ 24) := by
  induction n with
  | zero => exact Or.inl rfl
  | succ n ih =>
    show (if (n : Int) < b then (-1 : Int) else if 20 ≤ f n ∧ f n ≤ 24 then f n else brk f b n) = -1 ∨ (20 ≤ (if (n : Int) < b then (-1 : Int) else if 20 ≤ f n ∧ f n ≤ 24 then f n else brk f b n) ∧ (if (n : Int) < b then (-1 : Int) else if 20 ≤ f n ∧ f n ≤ 24 then f n else brk f b n) ≤ 24)
    by_cases c : (n : Int) < b
    · rw [if_pos c]; exact Or.inl rfl
    · rw [if_neg c]
      by_cases d : 20 ≤ f n ∧ f n ≤ 24
      · rw [if_pos d]; exact Or.inr d
      · rw [if_neg d]; exact ih
theorem brk_low {f : Nat → Int} {b : Int} {n : Nat} (h : (n : Int) ≤ b) : brk f b n = -1 := by
  cases n with
  | zero => rfl
  | succ n => exact if_pos (by omega)
theorem brk_skip {f : Nat → Int} {b : Int} {n : Nat} (h : b ≤ (n : Int)) (k : ¬ (20 ≤ f n ∧ f n ≤ 24)) : brk f b (n + 1) = brk f b n := by
  show (if (n : Int) < b then (-1 : Int) else if 20 ≤ f n ∧ f n ≤ 24 then f n else brk f b n) = _
  rw [if_neg (by omega), if_neg k]
theorem brk_top {f : Nat → Int} {b : Int} {n : Nat} (h : b ≤ (n : Int)) (k : 20 ≤ f n ∧ f n ≤ 24) : brk f b (n + 1) = f n := by
  show (if (n : Int) < b then (-1 : Int) else if 20 ≤ f n ∧ f n ≤ 24 then f n else brk f b n) = _
  rw [if_neg (by omega), if_pos k]
theorem brk_none {f : Nat → Int} {b : Int} {n : Nat} (h : brk f b n = -1) : ∀ j : Nat, b ≤ (j : Int) → j < n → ¬ (20 ≤ f j ∧ f j ≤ 24) := by
  induction n with
  | zero => intro j _ hj; omega
  | succ n ih =>
    intro j hb hj k
    by_cases c : (n : Int) < b
    · omega
    · by_cases d : 20 ≤ f n ∧ f n ≤ 24
      · rw [brk_top (by omega) d] at h; omega
      · rw [brk_skip (by omega) d] at h
        by_cases e : j = n
        · rw [e] at k; exact d k
        · exact ih h j hb (by omega) k
/-- below b what tests wait for, from b on what the sum at hand waits for -/
def QW (tk : Int) (f : Nat → Int) (w b op : Int) : Prop := (0 ≤ b ∧ b ≤ w) ∧ (∀ j : Nat, (j : Int) < b → f j = 10 ∨ f j = 11 ∨ f j = 12 ∨ f j = 25) ∧ (∀ j : Nat, b ≤ (j : Int) → (j : Int) < w → (1 ≤ f j ∧ f j ≤ 4) ∨ (20 ≤ f j ∧ f j ≤ 24) ∨ ((f j = 60 ∨ f j = 61) ∧ tk = 3)) ∧ wo f w.toNat ≤ op
theorem QW_push {tk : Int} {f : Nat → Int} {w b op v op' : Int} (H : QW tk f w b op) (k : (1 ≤ v ∧ v ≤ 4) ∨ (20 ≤ v ∧ v ≤ 24) ∨ ((v = 60 ∨ v = 61) ∧ tk = 3)) (ho : op + opn v ≤ op') : QW tk (upZ f w.toNat v) (w + 1) b op' := by
  obtain ⟨h1, h2, h3, h4⟩ := H
  refine ⟨by omega, fun j hj => ?_, fun j hb hj => ?_, ?_⟩
  · rw [upZ_n (by omega)]; exact h2 j hj
  · by_cases e : j = w.toNat
    · rw [e, upZ_s]; exact k
    · rw [upZ_n e]; exact h3 j hb (by omega)
  · rw [show (w + 1).toNat = w.toNat + 1 by omega, wo_s, upZ_s, wo_c (f := f) (fun j hj => by rw [upZ_n (by omega)])]
    omega
theorem QW_pushT {tk : Int} {f : Nat → Int} {w op v op' : Int} (H : QW tk f w w op) (k : v = 10 ∨ v = 11 ∨ v = 12 ∨ v = 25) (ho : op + opn v ≤ op') : QW tk (upZ f w.toNat v) (w + 1) (w + 1) op' := by
  obtain ⟨h1, h2, h3, h4⟩ := H
  refine ⟨by omega, fun j hj => ?_, fun j hb hj => by omega, ?_⟩
  · by_cases e : j = w.toNat
    · rw [e, upZ_s]; exact k
    · rw [upZ_n e]; exact h2 j (by omega)
  · rw [show (w + 1).toNat = w.toNat + 1 by omega, wo_s, upZ_s, wo_c (f := f) (fun j hj => by rw [upZ_n (by omega)])]
    omega
theorem wo_pop {f : Nat → Int} {w : Int} (h : 1 ≤ w) : wo f w.toNat = wo f (w - 1).toNat + opn (f (w - 1).toNat) := by
  rw [← wo_s, show (w - 1).toNat + 1 = w.toNat by omega]
theorem QW_pop {tk : Int} {f : Nat → Int} {w b op op' : Int} (H : QW tk f w b op) (hw : b < w) (ho : op - opn (f (w - 1).toNat) ≤ op') : QW tk f (w - 1) b op' := by
  obtain ⟨h1, h2, h3, h4⟩ := H
  refine ⟨by omega, h2, fun j hb hj => h3 j hb (by omega), ?_⟩
  have := wo_pop (f := f) (w := w) (by omega)
  omega
theorem QW_popT {tk : Int} {f : Nat → Int} {w op op' : Int} (H : QW tk f w w op) (hw : 1 ≤ w) (ho : op - opn (f (w - 1).toNat) ≤ op') : QW tk f (w - 1) (w - 1) op' := by
  obtain ⟨h1, h2, h3, h4⟩ := H
  refine ⟨by omega, fun j hj => h2 j (by omega), fun j hb hj => by omega, ?_⟩
  have := wo_pop (f := f) (w := w) (by omega)
  omega
/-- the one that lies last names one that is open: so it was counted -/
theorem QW_op {tk : Int} {f : Nat → Int} {w b op : Int} (H : QW tk f w b op) (hw : 1 ≤ w) (k : opn (f (w - 1).toNat) = 1) : 1 ≤ op := by
  obtain ⟨h1, h2, h3, h4⟩ := H
  have := wo_pop (f := f) (w := w) hw
  have := wo_nn f (w - 1).toNat
  omega
theorem QW_next {tk : Int} {f : Nat → Int} {w b op : Int} (H : QW tk f w b op) (hw : b < w) (k : f (w - 1).toNat = 21 ∨ f (w - 1).toNat = 22) : QW tk (upZ f (w - 1).toNat (f (w - 1).toNat + 2)) w b op := by
  obtain ⟨h1, h2, h3, h4⟩ := H
  refine ⟨h1, fun j hj => ?_, fun j hb hj => ?_, ?_⟩
  · rw [upZ_n (by omega)]; exact h2 j hj
  · by_cases e : j = (w - 1).toNat
    · rw [e, upZ_s]; right; left; omega
    · rw [upZ_n e]; exact h3 j hb (by omega)
  · have a := wo_pop (f := f) (w := w) (by omega)
    have c := wo_pop (f := upZ f (w - 1).toNat (f (w - 1).toNat + 2)) (w := w) (by omega)
    rw [upZ_s, wo_c (f := f) (n := (w - 1).toNat) (fun j hj => by rw [upZ_n (by omega)])] at c
    have o1 : opn (f (w - 1).toNat) = 1 := if_pos (by omega)
    have o2 : opn (f (w - 1).toNat + 2) = 1 := if_pos (by omega)
    omega
/-- the formula at hand: codes, what waits, and that each has a byte of its own; T: so many tests lie lowest on the pile -/
def QG (s : MS) (b d k T : Int) : Prop := hk (gI s 48) (gA s 101) (gI s 102).toNat (wq (gA s 103) (gI s 104).toNat + d) T ∧ QW (gI s 48) (gA s 103) (gI s 104) b (gI s 105) ∧ (0 ≤ gI s 102 ∧ gI s 102 + gI s 104 ≤ gI s 2 + k)
def QS (s : MS) (b d k : Int) : Prop := QG s b d k (wq (gA s 103) b.toNat)
def QT (s : MS) (d k : Int) : Prop := QG s (gI s 104) d k (wq (gA s 103) (gI s 104).toNat + d)
theorem QG_eq {s o : MS} {b d k k' T : Int} (H : QG s b d k T) (h1 : gA o 101 = gA s 101) (h2 : gI o 102 = gI s 102) (h3 : gA o 103 = gA s 103) (h4 : gI o 104 = gI s 104) (h48 : gI o 48 = gI s 48) (h5 : gI s 105 ≤ gI o 105) (hk : gI s 2 + k ≤ gI o 2 + k') : QG o b d k' T := by
  obtain ⟨a, c, e⟩ := H
  refine ⟨?_, ?_, by omega⟩
  · rw [h1, h2, h3, h4, h48]; exact a
  · rw [h3, h4, h48]
    exact ⟨c.1, c.2.1, c.2.2.1, by have := c.2.2.2; omega⟩
theorem QS_eq {s o : MS} {b d k k' : Int} (H : QS s b d k) (h1 : gA o 101 = gA s 101) (h2 : gI o 102 = gI s 102) (h3 : gA o 103 = gA s 103) (h4 : gI o 104 = gI s 104) (h48 : gI o 48 = gI s 48) (h5 : gI s 105 ≤ gI o 105) (hk : gI s 2 + k ≤ gI o 2 + k') : QS o b d k' := by
  unfold QS at H ⊢
  rw [h3]
  exact QG_eq H h1 h2 h3 h4 h48 h5 hk
theorem QT_eq {s o : MS} {d k k' : Int} (H : QT s d k) (h1 : gA o 101 = gA s 101) (h2 : gI o 102 = gI s 102) (h3 : gA o 103 = gA s 103) (h4 : gI o 104 = gI s 104) (h48 : gI o 48 = gI s 48) (h5 : gI s 105 ≤ gI o 105) (hk : gI s 2 + k ≤ gI o 2 + k') : QT o d k' := by
  unfold QT at H ⊢
  rw [h3, h4]
  exact QG_eq H h1 h2 h3 h4 h48 h5 hk
theorem QT_S {s : MS} {k : Int} (H : QT s 0 k) : QS s (gI s 104) 0 k := by
  unfold QT at H
  rw [Int.add_zero] at H
  exact H
theorem wq_le {f : Nat → Int} {b w : Int} (h : 0 ≤ b ∧ b ≤ w) : wq f b.toNat ≤ wq f w.toNat := wq_mono (by omega)
theorem QS_code {s o : MS} {b d d' k k' v : Int} (H : QS s b d k) (h1 : gA o 101 = upZ (gA s 101) (gI s 102).toNat v) (h2 : gI o 102 = gI s 102 + 1) (h3 : gA o 103 = gA s 103) (h4 : gI o 104 = gI s 104) (h48 : gI o 48 = gI s 48) (h5 : gI o 105 = gI s 105) (kd : ((1000 ≤ v ∨ (40 ≤ v ∧ v < 60)) ∧ d' = d + 1) ∨ ((v = 5 ∨ v = 6) ∧ 2 ≤ d ∧ d' = d - 1)) (hk : gI s 2 + k + 1 ≤ gI o 2 + k') : QS o b d' k' := by
  obtain ⟨a, c, e⟩ := H
  have z := wq_le (f := gA s 103) c.1
  have z0 := wq_nn (gA s 103) (gI s 104).toNat
  refine ⟨?_, ?_, by omega⟩
  · rw [h1, h2, h3, h4, h48, show (gI s 102 + 1).toNat = (gI s 102).toNat + 1 by omega]
    refine hk_add a ⟨?_, ?_, fun q1 q2 => by omega⟩
    · unfold stp
      rcases kd with q | q
      · left; omega
      · right; right; omega
    · unfold tpd
      rcases kd with q | q
      · left; omega
      · right; right; left; omega
  · rw [h3, h4, h5, h48]; exact c
/-- all: a test that holds -/
theorem QT_all {s o : MS} {k k' : Int} (H : QT s 0 k) (h1 : gA o 101 = upZ (gA s 101) (gI s 102).toNat 13) (h2 : gI o 102 = gI s 102 + 1) (h3 : gA o 103 = gA s 103) (h4 : gI o 104 = gI s 104) (h48 : gI o 48 = gI s 48) (h5 : gI o 105 = gI s 105) (hk : gI s 2 + k + 1 ≤ gI o 2 + k') : QT o 1 k' := by
  obtain ⟨a, c, e⟩ := H
  refine ⟨?_, ?_, by omega⟩
  · rw [h1, h2, h3, h4, h48, show (gI s 102 + 1).toNat = (gI s 102).toNat + 1 by omega]
    refine hk_add a ⟨?_, ?_, fun q1 q2 => by omega⟩
    · unfold stp; left; omega
    · unfold tpd; right; left; omega
  · rw [h3, h4, h5, h48]; exact c
/-- two sums are compared: a test -/
theorem QT_cmp {s o : MS} {k k' v : Int} (H : QS s (gI s 104) 2 k) (h1 : gA o 101 = upZ (gA s 101) (gI s 102).toNat v) (h2 : gI o 102 = gI s 102 + 1) (h3 : gA o 103 = gA s 103) (h4 : gI o 104 = gI s 104) (h48 : gI o 48 = gI s 48) (h5 : gI o 105 = gI s 105) (kd : 7 ≤ v ∧ v ≤ 9) (hk : gI s 2 + k + 1 ≤ gI o 2 + k') : QT o 1 k' := by
  obtain ⟨a, c, e⟩ := H
  have z0 := wq_nn (gA s 103) (gI s 104).toNat
  refine ⟨?_, ?_, by omega⟩
  · rw [h1, h2, h3, h4, h48, show (gI s 102 + 1).toNat = (gI s 102).toNat + 1 by omega]
    refine hk_add a ⟨?_, ?_, fun q1 q2 => by omega⟩
    · unfold stp; right; right; omega
    · unfold tpd; right; right; right; left; omega
  · rw [h3, h4, h5, h48]; exact c
theorem wq_up {f : Nat → Int} {n m : Nat} {v : Int} (h : n ≤ m) : wq (upZ f m v) n = wq f n := wq_c (fun j hj => by rw [upZ_n (by omega)])
theorem QS_push {s o : MS} {b d d' k k' v : Int} (H : QS s b d k) (h1 : gA o 101 = gA s 101) (h2 : gI o 102 = gI s 102) (h3 : gA o 103 = upZ (gA s 103) (gI s 104).toNat v) (h4 : gI o 104 = gI s 104 + 1) (h48 : gI o 48 = gI s 48) (h5 : gI s 105 + opn v ≤ gI o 105) (kd : (1 ≤ v ∧ v ≤ 4 ∧ d' = d - 1) ∨ (((20 ≤ v ∧ v ≤ 22) ∨ ((v = 60 ∨ v = 61) ∧ gI s 48 = 3)) ∧ d' = d)) (hk : gI s 2 + k + 1 ≤ gI o 2 + k') : QS o b d' k' := by
  obtain ⟨a, c, e⟩ := H
  have cb := c.1
  refine ⟨?_, ?_, by omega⟩
  · rw [h1, h2, h3, h4, h48, show (gI s 104 + 1).toNat = (gI s 104).toNat + 1 by omega, wq_s, upZ_s, wq_up (Nat.le_refl _), wq_up (show b.toNat ≤ (gI s 104).toNat by omega)]
    rcases kd with q | q
    · rw [if_pos (by omega), q.2.2, show wq (gA s 103) (gI s 104).toNat + 1 + (d - 1) = wq (gA s 103) (gI s 104).toNat + d by omega]; exact a
    · rw [if_neg (by omega), q.2, Int.add_zero]; exact a
  · rw [h3, h4, h48]; exact QW_push c (by omega) h5
theorem QT_push {s o : MS} {d d' k k' v : Int} (H : QT s d k) (h1 : gA o 101 = gA s 101) (h2 : gI o 102 = gI s 102) (h3 : gA o 103 = upZ (gA s 103) (gI s 104).toNat v) (h4 : gI o 104 = gI s 104 + 1) (h48 : gI o 48 = gI s 48) (h5 : gI s 105 + opn v ≤ gI o 105) (kd : ((v = 10 ∨ v = 11) ∧ d' = d - 1) ∨ ((v = 12 ∨ v = 25) ∧ d' = d)) (hk : gI s 2 + k + 1 ≤ gI o 2 + k') : QT o d' k' := by
  obtain ⟨a, c, e⟩ := H
  have cb := c.1
  refine ⟨?_, ?_, by omega⟩
  · rw [h1, h2, h3, h4, h48, show (gI s 104 + 1).toNat = (gI s 104).toNat + 1 by omega, wq_s, upZ_s, wq_up (Nat.le_refl _)]
    rcases kd with q | q
    · rw [if_pos (by omega), q.2, show wq (gA s 103) (gI s 104).toNat + 1 + (d - 1) = wq (gA s 103) (gI s 104).toNat + d by omega]; exact a
    · rw [if_neg (by omega), q.2, Int.add_zero]; exact a
  · rw [h3, h4, h48]; exact QW_pushT c (by omega) h5
theorem wq_pop {f : Nat → Int} {w : Int} (h : 1 ≤ w) : wq f w.toNat = wq f (w - 1).toNat + (if (1 ≤ f (w - 1).toNat ∧ f (w - 1).toNat ≤ 11) ∨ f (w - 1).toNat = 23 ∨ f (w - 1).toNat = 24 then 1 else 0) := by
  rw [← wq_s, show (w - 1).toNat + 1 = w.toNat by omega]
/-- the last that waits is gone, with no code -/
theorem QS_pop {s o : MS} {b d d' k k' : Int} (H : QS s b d k) (hw : b < gI s 104) (h1 : gA o 101 = gA s 101) (h2 : gI o 102 = gI s 102) (h3 : gA o 103 = gA s 103) (h4 : gI o 104 = gI s 104 - 1) (h48 : gI o 48 = gI s 48) (h5 : gI s 105 - opn (gA s 103 (gI s 104 - 1).toNat) ≤ gI o 105) (kd : (gA s 103 (gI s 104 - 1).toNat = 20 ∧ d' = d) ∨ ((gA s 103 (gI s 104 - 1).toNat = 23 ∨ gA s 103 (gI s 104 - 1).toNat = 24) ∧ d' = d + 1)) (hk : gI s 2 + k ≤ gI o 2 + k' + 1) : QS o b d' k' := by
  obtain ⟨a, c, e⟩ := H
  have cb := c.1
  refine ⟨?_, ?_, by omega⟩
  · rw [wq_pop (by omega)] at a
    rw [h1, h2, h3, h4, h48]
    rcases kd with q | q
    · rw [if_neg (by omega), Int.add_zero] at a; rw [q.2]; exact a
    · rw [if_pos (by omega)] at a
      rw [q.2, show wq (gA s 103) (gI s 104 - 1).toNat + (d + 1) = wq (gA s 103) (gI s 104 - 1).toNat + 1 + d by omega]; exact a
  · rw [h3, h4, h48]; exact QW_pop c hw h5
theorem QT_pop {s o : MS} {d k k' : Int} (H : QT s d k) (hw : 1 ≤ gI s 104) (h1 : gA o 101 = gA s 101) (h2 : gI o 102 = gI s 102) (h3 : gA o 103 = gA s 103) (h4 : gI o 104 = gI s 104 - 1) (h48 : gI o 48 = gI s 48) (h5 : gI s 105 - opn (gA s 103 (gI s 104 - 1).toNat) ≤ gI o 105) (kd : gA s 103 (gI s 104 - 1).toNat = 25) (hk : gI s 2 + k ≤ gI o 2 + k' + 1) : QT o d k' := by
  obtain ⟨a, c, e⟩ := H
  refine ⟨?_, ?_, by omega⟩
  · rw [wq_pop hw, if_neg (by omega), Int.add_zero] at a
    rw [h1, h2, h3, h4, h48]
    exact a
  · rw [h3, h4, h48]; exact QW_popT c hw h5
/-- the last that waits becomes a code -/
theorem QS_drop {s o : MS} {b d k k' : Int} (H : QS s b d k) (hd : 1 ≤ d) (hw : b < gI s 104) (h1 : gA o 101 = upZ (gA s 101) (gI s 102).toNat (gA s 103 (gI s 104 - 1).toNat)) (h2 : gI o 102 = gI s 102 + 1) (h3 : gA o 103 = gA s 103) (h4 : gI o 104 = gI s 104 - 1) (h48 : gI o 48 = gI s 48) (h5 : gI s 105 - opn (gA s 103 (gI s 104 - 1).toNat) ≤ gI o 105) (kd : ¬ (20 ≤ gA s 103 (gI s 104 - 1).toNat ∧ gA s 103 (gI s 104 - 1).toNat ≤ 24)) (hk : gI s 2 + k ≤ gI o 2 + k') : QS o b d k' := by
  obtain ⟨a, c, e⟩ := H
  have cb := c.1
  have kk := c.2.2.1 (gI s 104 - 1).toNat (by omega) (by omega)
  have z := wq_le (f := gA s 103) (b := b) (w := gI s 104 - 1) (by omega)
  have z0 := wq_nn (gA s 103) b.toNat
  refine ⟨?_, ?_, by omega⟩
  · rw [wq_pop (by omega)] at a
    rw [h1, h2, h3, h4, h48, show (gI s 102 + 1).toNat = (gI s 102).toNat + 1 by omega]
    generalize gA s 103 (gI s 104 - 1).toNat = v at *
    by_cases q : 1 ≤ v ∧ v ≤ 4
    · rw [if_pos (by omega)] at a
      refine hk_add a ⟨?_, ?_, fun q1 q2 => by omega⟩
      · unfold stp; right; right; omega
      · unfold tpd; right; right; left; omega
    · rw [if_neg (by omega)] at a
      refine hk_add a ⟨?_, ?_, fun q1 q2 => by omega⟩
      · unfold stp; right; left; omega
      · unfold tpd; right; right; right; right; right; right; right; omega
  · rw [h3, h4, h48]; exact QW_pop c hw h5
theorem QT_drop {s o : MS} {d k k' : Int} (H : QT s d k) (hd : 1 ≤ d) (hw : 1 ≤ gI s 104) (h1 : gA o 101 = upZ (gA s 101) (gI s 102).toNat (gA s 103 (gI s 104 - 1).toNat)) (h2 : gI o 102 = gI s 102 + 1) (h3 : gA o 103 = gA s 103) (h4 : gI o 104 = gI s 104 - 1) (h48 : gI o 48 = gI s 48) (h5 : gI s 105 - opn (gA s 103 (gI s 104 - 1).toNat) ≤ gI o 105) (kd : gA s 103 (gI s 104 - 1).toNat ≠ 25) (hk : gI s 2 + k ≤ gI o 2 + k') : QT o d k' := by
  obtain ⟨a, c, e⟩ := H
  have kk := c.2.1 (gI s 104 - 1).toNat (by omega)
  have z0 := wq_nn (gA s 103) (gI s 104 - 1).toNat
  refine ⟨?_, ?_, by omega⟩
  · rw [wq_pop hw] at a
    rw [h1, h2, h3, h4, h48, show (gI s 102 + 1).toNat = (gI s 102).toNat + 1 by omega]
    generalize gA s 103 (gI s 104 - 1).toNat = v at *
    by_cases q : v = 10 ∨ v = 11
    · rw [if_pos (by omega)] at a
      refine hk_add a ⟨?_, ?_, fun q1 q2 => by omega⟩
      · unfold stp; right; right; omega
      · unfold tpd
        rcases q with q | q
        · right; right; right; right; left; omega
        · right; right; right; right; right; left; omega
    · rw [if_neg (by omega)] at a
      refine hk_add a ⟨?_, ?_, fun q1 q2 => by omega⟩
      · unfold stp; right; left; omega
      · unfold tpd; right; right; right; right; right; right; left; omega
  · rw [h3, h4, h48]; exact QW_popT c hw h5
theorem QS_next {s o : MS} {b d k k' : Int} (H : QS s b d k) (hw : b < gI s 104) (h1 : gA o 101 = gA s 101) (h2 : gI o 102 = gI s 102) (h3 : gA o 103 = upZ (gA s 103) (gI s 104 - 1).toNat (gA s 103 (gI s 104 - 1).toNat + 2)) (h4 : gI o 104 = gI s 104) (h48 : gI o 48 = gI s 48) (h5 : gI o 105 = gI s 105) (kd : gA s 103 (gI s 104 - 1).toNat = 21 ∨ gA s 103 (gI s 104 - 1).toNat = 22) (hk : gI s 2 + k ≤ gI o 2 + k') : QS o b (d - 1) k' := by
  obtain ⟨a, c, e⟩ := H
  have cb := c.1
  refine ⟨?_, ?_, by omega⟩
  · rw [wq_pop (by omega), if_neg (by omega), Int.add_zero] at a
    rw [h1, h2, h3, h4, h48, wq_pop (by omega), upZ_s, if_pos (by omega), wq_up (Nat.le_refl _), wq_up (show b.toNat ≤ (gI s 104 - 1).toNat by omega), show wq (gA s 103) (gI s 104 - 1).toNat + 1 + (d - 1) = wq (gA s 103) (gI s 104 - 1).toNat + d by omega]
    exact a
  · rw [h3, h4, h5, h48]; exact QW_next c hw kd
/-- a formula begins -/
theorem QT_0 {s : MS} {k : Int} (h2 : gI s 102 = 0) (h4 : gI s 104 = 0) (h5 : gI s 105 = 0) (h : 0 ≤ gI s 2 + k) : QT s 0 k := by
  refine ⟨?_, ?_, by omega⟩
  · rw [h2, h4]; exact ⟨rfl, Int.le_refl 0⟩
  · rw [h4, h5]
    exact ⟨by omega, fun j hj => by omega, fun j hb hj => by omega, Int.le_refl 0⟩
/-- kept from sight -/
def Hid (p : Prop) : Prop := p
theorem on_r {r w t k : Int} (H : Hid ((r = 1 ∧ 1 ≤ w ∧ t = k) ∨ (r = 0 ∧ (w ≤ 0 ∨ t ≠ k)))) (h : ¬ r = 0) : 1 ≤ w ∧ t = k := by
  unfold Hid at H
  omega
theorem on_0 {r w t k : Int} (H : Hid ((r = 1 ∧ 1 ≤ w ∧ t = k) ∨ (r = 0 ∧ (w ≤ 0 ∨ t ≠ k)))) (h : r = 0) : w ≤ 0 ∨ t ≠ k := by
  unfold Hid at H
  omega
set_option maxHeartbeats 1000000 in
theorem wa_x12_isAllowed {p0 : Int} {s : MS} (hRs : Rr s) (hp0 : R2 p0) : wp (m_x12_isAllowed p0 s) (fun r => (r = 0 ∨ r = 1) ∧ (r = 1 → 8 ≤ p0 → gI s 48 = 3)) := by
  unfold m_x12_isAllowed
  refine wp_rg (by have : (0 : Int) ≤ gI s 48 ∧ gI s 48 ≤ 3 := hRs.1 48; omega) ?_
  refine wp_if (fun c1 => ?_) (fun c1 => ?_)
  · skip
    refine wp_rg (by have : (0 : Int) ≤ gI s 48 ∧ gI s 48 ≤ 3 := hRs.1 48; omega) ?_
    refine wp_if (fun c2 => ?_) (fun c2 => ?_)
    · skip
      unfold m_x12_isAllowed_J42
      refine wp_bo (by have : (0 : Int) ≤ gI s 48 ∧ gI s 48 ≤ 3 := hRs.1 48; omega) ?_
      exact wp_some ⟨by show (0 : Int) = 0 ∨ (0 : Int) = 1; have : (0 : Int) ≤ gI s 48 ∧ gI s 48 ≤ 3 := hRs.1 48; omega, by show (0 : Int) = 1 → 8 ≤ p0 → gI s 48 = 3; have : (0 : Int) ≤ gI s 48 ∧ gI s 48 ≤ 3 := hRs.1 48; omega⟩
    · skip
      unfold m_x12_isAllowed_J42
      refine wp_bo (by have : (0 : Int) ≤ gI s 48 ∧ gI s 48 ≤ 3 := hRs.1 48; omega) ?_
      exact wp_some ⟨by show (1 : Int) = 0 ∨ (1 : Int) = 1; have : (0 : Int) ≤ gI s 48 ∧ gI s 48 ≤ 3 := hRs.1 48; omega, by show (1 : Int) = 1 → 8 ≤ p0 → gI s 48 = 3; have : (0 : Int) ≤ gI s 48 ∧ gI s 48 ≤ 3 := hRs.1 48; omega⟩
  · skip
    refine wp_if (fun c3 => ?_) (fun c3 => ?_)
    · skip
      refine wp_rg (by have : (0 : Int) ≤ gI s 48 ∧ gI s 48 ≤ 3 := hRs.1 48; omega) ?_
      refine wp_if (fun c4 => ?_) (fun c4 => ?_)
      · skip
        unfold m_x12_isAllowed_J52
        unfold m_x12_isAllowed_J57
        refine wp_bo (by have : (0 : Int) ≤ gI s 48 ∧ gI s 48 ≤ 3 := hRs.1 48; omega) ?_
        exact wp_some ⟨by show (1 : Int) = 0 ∨ (1 : Int) = 1; have : (0 : Int) ≤ gI s 48 ∧ gI s 48 ≤ 3 := hRs.1 48; omega, by show (1 : Int) = 1 → 8 ≤ p0 → gI s 48 = 3; have : (0 : Int) ≤ gI s 48 ∧ gI s 48 ≤ 3 := hRs.1 48; omega⟩
      · skip
        refine wp_rg (by have : (0 : Int) ≤ gI s 48 ∧ gI s 48 ≤ 3 := hRs.1 48; omega) ?_
        refine wp_if (fun c5 => ?_) (fun c5 => ?_)
        · skip
          unfold m_x12_isAllowed_J52
          unfold m_x12_isAllowed_J57
          refine wp_bo (by have : (0 : Int) ≤ gI s 48 ∧ gI s 48 ≤ 3 := hRs.1 48; omega) ?_
          exact wp_some ⟨by show (1 : Int) = 0 ∨ (1 : Int) = 1; have : (0 : Int) ≤ gI s 48 ∧ gI s 48 ≤ 3 := hRs.1 48; omega, by show (1 : Int) = 1 → 8 ≤ p0 → gI s 48 = 3; have : (0 : Int) ≤ gI s 48 ∧ gI s 48 ≤ 3 := hRs.1 48; omega⟩
        · skip
          unfold m_x12_isAllowed_J57
          refine wp_bo (by have : (0 : Int) ≤ gI s 48 ∧ gI s 48 ≤ 3 := hRs.1 48; omega) ?_
          exact wp_some ⟨by show (0 : Int) = 0 ∨ (0 : Int) = 1; have : (0 : Int) ≤ gI s 48 ∧ gI s 48 ≤ 3 := hRs.1 48; omega, by show (0 : Int) = 1 → 8 ≤ p0 → gI s 48 = 3; have : (0 : Int) ≤ gI s 48 ∧ gI s 48 ≤ 3 := hRs.1 48; omega⟩
    · skip
      refine wp_if (fun c6 => ?_) (fun c6 => ?_)
      · skip
        refine wp_rg (by have : (0 : Int) ≤ gI s 48 ∧ gI s 48 ≤ 3 := hRs.1 48; omega) ?_
        refine wp_if (fun c7 => ?_) (fun c7 => ?_)
        · skip
          unfold m_x12_isAllowed_J68
          unfold m_x12_isAllowed_J73
          refine wp_bo (by have : (0 : Int) ≤ gI s 48 ∧ gI s 48 ≤ 3 := hRs.1 48; omega) ?_
          exact wp_some ⟨by show (1 : Int) = 0 ∨ (1 : Int) = 1; have : (0 : Int) ≤ gI s 48 ∧ gI s 48 ≤ 3 := hRs.1 48; omega, by show (1 : Int) = 1 → 8 ≤ p0 → gI s 48 = 3; have : (0 : Int) ≤ gI s 48 ∧ gI s 48 ≤ 3 := hRs.1 48; omega⟩
        · skip
          refine wp_rg (by have : (0 : Int) ≤ gI s 48 ∧ gI s 48 ≤ 3 := hRs.1 48; omega) ?_
          refine wp_if (fun c8 => ?_) (fun c8 => ?_)
          · skip
            unfold m_x12_isAllowed_J68
            unfold m_x12_isAllowed_J73
            refine wp_bo (by have : (0 : Int) ≤ gI s 48 ∧ gI s 48 ≤ 3 := hRs.1 48; omega) ?_
            exact wp_some ⟨by show (1 : Int) = 0 ∨ (1 : Int) = 1; have : (0 : Int) ≤ gI s 48 ∧ gI s 48 ≤ 3 := hRs.1 48; omega, by show (1 : Int) = 1 → 8 ≤ p0 → gI s 48 = 3; have : (0 : Int) ≤ gI s 48 ∧ gI s 48 ≤ 3 := hRs.1 48; omega⟩
          · skip
            unfold m_x12_isAllowed_J73
            refine wp_bo (by have : (0 : Int) ≤ gI s 48 ∧ gI s 48 ≤ 3 := hRs.1 48; omega) ?_
            exact wp_some ⟨by show (0 : Int) = 0 ∨ (0 : Int) = 1; have : (0 : Int) ≤ gI s 48 ∧ gI s 48 ≤ 3 := hRs.1 48; omega, by show (0 : Int) = 1 → 8 ≤ p0 → gI s 48 = 3; have : (0 : Int) ≤ gI s 48 ∧ gI s 48 ≤ 3 := hRs.1 48; omega⟩
      · skip
        refine wp_rg (by have : (0 : Int) ≤ gI s 48 ∧ gI s 48 ≤ 3 := hRs.1 48; omega) ?_
        refine wp_if (fun c9 => ?_) (fun c9 => ?_)
        · skip
          unfold m_x12_isAllowed_J83
          unfold m_x12_isAllowed_J88
          refine wp_bo (by have : (0 : Int) ≤ gI s 48 ∧ gI s 48 ≤ 3 := hRs.1 48; omega) ?_
          exact wp_some ⟨by show (1 : Int) = 0 ∨ (1 : Int) = 1; have : (0 : Int) ≤ gI s 48 ∧ gI s 48 ≤ 3 := hRs.1 48; omega, by show (1 : Int) = 1 → 8 ≤ p0 → gI s 48 = 3; have : (0 : Int) ≤ gI s 48 ∧ gI s 48 ≤ 3 := hRs.1 48; omega⟩
        · skip
          refine wp_rg (by have : (0 : Int) ≤ gI s 48 ∧ gI s 48 ≤ 3 := hRs.1 48; omega) ?_
          refine wp_if (fun c10 => ?_) (fun c10 => ?_)
          · skip
            unfold m_x12_isAllowed_J88
            refine wp_bo (by have : (0 : Int) ≤ gI s 48 ∧ gI s 48 ≤ 3 := hRs.1 48; omega) ?_
            exact wp_some ⟨by show (0 : Int) = 0 ∨ (0 : Int) = 1; have : (0 : Int) ≤ gI s 48 ∧ gI s 48 ≤ 3 := hRs.1 48; omega, by show (0 : Int) = 1 → 8 ≤ p0 → gI s 48 = 3; have : (0 : Int) ≤ gI s 48 ∧ gI s 48 ≤ 3 := hRs.1 48; omega⟩
          · skip
            unfold m_x12_isAllowed_J83
            unfold m_x12_isAllowed_J88
            refine wp_bo (by have : (0 : Int) ≤ gI s 48 ∧ gI s 48 ≤ 3 := hRs.1 48; omega) ?_
            exact wp_some ⟨by show (1 : Int) = 0 ∨ (1 : Int) = 1; have : (0 : Int) ≤ gI s 48 ∧ gI s 48 ≤ 3 := hRs.1 48; omega, by show (1 : Int) = 1 → 8 ≤ p0 → gI s 48 = 3; have : (0 : Int) ≤ gI s 48 ∧ gI s 48 ≤ 3 := hRs.1 48; omega⟩
set_option maxHeartbeats 1000000 in
theorem w_x12_qCode {p0 : Int} {s : MS} (hRs : Rr s) (hp0 : 0 ≤ p0 ∧ p0 ≤ 10999) (hp1 : gI s 102 < 1700) : wp (m_x12_qCode p0 s) (fun o => (Rr o) ∧ (gI o 102 = gI s 102 + 1) ∧ (gA o 101 = upZ (gA s 101) (gI s 102).toNat p0)) := by
  unfold m_x12_qCode
  refine wp_inb (by have : (0 : Int) ≤ gI s 102 ∧ gI s 102 ≤ 1700 := hRs.1 102; omega) ?_
  refine wp_stn (fun s2 es2 => ?_)
  have hRs2 : Rr s2 := es2 ▸ Rr.uAu hRs (by show (0 : Int) ≤ p0 ∧ p0 ≤ 10999; have : (0 : Int) ≤ gI s 102 ∧ gI s 102 ≤ 1700 := hRs.1 102; omega)
  refine wp_stn (fun s3 es3 => ?_)
  have hRs3 : Rr s3 := es3 ▸ Rr.uI hRs2 (by show (0 : Int) ≤ ((gI s2 102) + 1) ∧ ((gI s2 102) + 1) ≤ 1700; have : (0 : Int) ≤ gI s 102 ∧ gI s 102 ≤ 1700 := hRs.1 102; have : gI s2 102 = gI s 102 := q_Ai es2; omega)
  exact wp_some ⟨hRs3, by show gI s3 102 = gI s 102 + 1; have : (0 : Int) ≤ gI s 102 ∧ gI s 102 ≤ 1700 := hRs.1 102; have : gI s3 102 = (gI s2 102) + 1 := q_II es3; have : gI s2 102 = gI s 102 := q_Ai es2; omega, by rw [(q_Ia es3 : gA s3 101 = gA s2 101)]; exact q_AA es2⟩
set_option maxHeartbeats 1000000 in
theorem w_x12_qDrops {s : MS} (hRs : Rr s) (hp0 : 1 ≤ gI s 104) (hp1 : gI s 102 < 1700) : wp (m_x12_qDrops s) (fun o => (Rr o) ∧ (gI o 102 = gI s 102 + 1 ∧ gI o 104 = gI s 104 - 1) ∧ (gA o 101 = upZ (gA s 101) (gI s 102).toNat (gA s 103 (gI s 104 - 1).toNat))) := by
  unfold m_x12_qDrops
  refine wp_stn (fun s1 es1 => ?_)
  have hRs1 : Rr s1 := es1 ▸ Rr.uI hRs (by show (0 : Int) ≤ ((gI s 104) - 1) ∧ ((gI s 104) - 1) ≤ 1700; have : (0 : Int) ≤ gI s 102 ∧ gI s 102 ≤ 1700 := hRs.1 102; have : (0 : Int) ≤ gI s 104 ∧ gI s 104 ≤ 1700 := hRs.1 104; omega)
  refine wp_rdIn (by have : (0 : Int) ≤ gI s 102 ∧ gI s 102 ≤ 1700 := hRs.1 102; have : (0 : Int) ≤ gI s 104 ∧ gI s 104 ≤ 1700 := hRs.1 104; have : gI s1 104 = (gI s 104) - 1 := q_II es1; omega) (fun y2 ey2 => ?_)
  have by2 : (0 : Int) ≤ y2 ∧ y2 ≤ 61 := ey2 ▸ hRs1.2.1 103 _ (by show _ < 1700; have : (0 : Int) ≤ gI s 102 ∧ gI s 102 ≤ 1700 := hRs.1 102; have : (0 : Int) ≤ gI s 104 ∧ gI s 104 ≤ 1700 := hRs.1 104; have : gI s1 104 = (gI s 104) - 1 := q_II es1; omega)
  have ky2 : y2 = gA s 103 (gI s 104 - 1).toNat := by rw [← ey2, (q_Ia es1 : gA s1 103 = gA s 103), (q_II es1 : gI s1 104 = gI s 104 - 1)]
  refine wp_bn (w_x12_qCode hRs1 (by show 0 ≤ y2 ∧ y2 ≤ 10999; have : (0 : Int) ≤ gI s 102 ∧ gI s 102 ≤ 1700 := hRs.1 102; have : (0 : Int) ≤ gI s 104 ∧ gI s 104 ≤ 1700 := hRs.1 104; omega) (by show gI s1 102 < 1700; have : (0 : Int) ≤ gI s 102 ∧ gI s 102 ≤ 1700 := hRs.1 102; have : (0 : Int) ≤ gI s 104 ∧ gI s 104 ≤ 1700 := hRs.1 104; have : gI s1 102 = gI s 102 := q_Ii es1 (by decide); omega)) (fun s4 es4 hs4 => ?_)
  have Fs4 : F_x12_qCode s1 s4 := fr_x12_qCode es4
  obtain ⟨hRs4, hs4_0, hs4_1⟩ := hs4
  have hs4_0 : gI s4 102 = gI s1 102 + 1 := hs4_0
  have hs4_1 : gA s4 101 = upZ (gA s1 101) (gI s1 102).toNat y2 := hs4_1
  exact wp_some ⟨hRs4, by show gI s4 102 = gI s 102 + 1 ∧ gI s4 104 = gI s 104 - 1; have : gI s1 102 = gI s 102 := q_Ii es1 (by decide); have : (0 : Int) ≤ gI s 104 ∧ gI s 104 ≤ 1700 := hRs.1 104; have : gI s4 104 = gI s1 104 := Fs4.1 104 (by decide); have : gI s1 104 = (gI s 104) - 1 := q_II es1; have : (0 : Int) ≤ gI s 102 ∧ gI s 102 ≤ 1700 := hRs.1 102; have : (0 : Int) ≤ gI s4 102 ∧ gI s4 102 ≤ 1700 := hRs4.1 102; omega, by rw [hs4_1, (q_Ia es1 : gA s1 101 = gA s 101), (q_Ii es1 (by decide) : gI s1 102 = gI s 102), ky2]⟩
set_option maxHeartbeats 1000000 in
theorem w_x12_qOpens {p0 : Int} {p1 : Int} {s : MS} (hRs : Rr s) (hp0 : 0 ≤ p0 ∧ p0 ≤ 61) (hp1 : R2 p1) (hp2 : gI s 5 = 0 → gI s 104 < 1700) : wp (m_x12_qOpens p0 p1 s) (fun o => (Rr o) ∧ (gI o 5 = 0 → gI s 5 = 0 ∧ gI o 105 = gI s 105 + 1 ∧ gI o 104 = gI s 104 + 1) ∧ (gI s 5 ≠ 0 → gI o 5 ≠ 0) ∧ (gI o 5 = 0 → gA o 103 = upZ (gA s 103) (gI s 104).toNat p0)) := by
  unfold m_x12_qOpens
  refine wp_rg (by have : (0 : Int) ≤ gI s 104 ∧ gI s 104 ≤ 1700 := hRs.1 104; have : (0 : Int) ≤ gI s 5 ∧ gI s 5 ≤ 5 := hRs.1 5; omega) ?_
  refine wp_if (fun c1 => ?_) (fun c1 => ?_)
  · skip
    refine wp_rg (by have : (0 : Int) ≤ gI s 104 ∧ gI s 104 ≤ 1700 := hRs.1 104; have : (0 : Int) ≤ gI s 5 ∧ gI s 5 ≤ 5 := hRs.1 5; have : (0 : Int) ≤ gI s 105 ∧ gI s 105 ≤ 6 := hRs.1 105; omega) ?_
    refine wp_if (fun c2 => ?_) (fun c2 => ?_)
    · skip
      refine wp_bn (w_x12_fail hRs (by show 1 ≤ (4 : Int) ∧ (4 : Int) ≤ 5; have : (0 : Int) ≤ gI s 105 ∧ gI s 105 ≤ 6 := hRs.1 105; have : (0 : Int) ≤ gI s 104 ∧ gI s 104 ≤ 1700 := hRs.1 104; have : (0 : Int) ≤ gI s 5 ∧ gI s 5 ≤ 5 := hRs.1 5; omega) (by show R2 p1; have : (0 : Int) ≤ gI s 105 ∧ gI s 105 ≤ 6 := hRs.1 105; have : (0 : Int) ≤ gI s 104 ∧ gI s 104 ≤ 1700 := hRs.1 104; have : (0 : Int) ≤ gI s 5 ∧ gI s 5 ≤ 5 := hRs.1 5; omega)) (fun s10 es10 hs10 => ?_)
      have Fs10 : F_x12_fail s s10 := fr_x12_fail es10
      obtain ⟨hRs10, hs10_0⟩ := hs10
      have hs10_0 : gI s10 5 ≠ 0 := hs10_0
      exact wp_some ⟨hRs10, by show gI s10 5 = 0 → gI s 5 = 0 ∧ gI s10 105 = gI s 105 + 1 ∧ gI s10 104 = gI s 104 + 1; have : (0 : Int) ≤ gI s 104 ∧ gI s 104 ≤ 1700 := hRs.1 104; have : gI s10 104 = gI s 104 := Fs10.1 104 (by decide); have : (0 : Int) ≤ gI s 105 ∧ gI s 105 ≤ 6 := hRs.1 105; have : gI s10 105 = gI s 105 := Fs10.1 105 (by decide); have : (0 : Int) ≤ gI s 5 ∧ gI s 5 ≤ 5 := hRs.1 5; have : (0 : Int) ≤ gI s10 5 ∧ gI s10 5 ≤ 5 := hRs10.1 5; omega, by show gI s 5 ≠ 0 → gI s10 5 ≠ 0; have : (0 : Int) ≤ gI s 105 ∧ gI s 105 ≤ 6 := hRs.1 105; have : (0 : Int) ≤ gI s 104 ∧ gI s 104 ≤ 1700 := hRs.1 104; have : (0 : Int) ≤ gI s10 5 ∧ gI s10 5 ≤ 5 := hRs10.1 5; have : (0 : Int) ≤ gI s 5 ∧ gI s 5 ≤ 5 := hRs.1 5; omega, fun h9 => absurd h9 hs10_0⟩
    · skip
      refine wp_stn (fun s5 es5 => ?_)
      have hRs5 : Rr s5 := es5 ▸ Rr.uI hRs (by show (0 : Int) ≤ ((gI s 105) + 1) ∧ ((gI s 105) + 1) ≤ 6; have : (0 : Int) ≤ gI s 104 ∧ gI s 104 ≤ 1700 := hRs.1 104; have : (0 : Int) ≤ gI s 5 ∧ gI s 5 ≤ 5 := hRs.1 5; have : (0 : Int) ≤ gI s 105 ∧ gI s 105 ≤ 6 := hRs.1 105; omega)
      refine wp_inb (by have : (0 : Int) ≤ gI s 105 ∧ gI s 105 ≤ 6 := hRs.1 105; have : (0 : Int) ≤ gI s 104 ∧ gI s 104 ≤ 1700 := hRs.1 104; have : (0 : Int) ≤ gI s 5 ∧ gI s 5 ≤ 5 := hRs.1 5; have : gI s5 104 = gI s 104 := q_Ii es5 (by decide); omega) ?_
      refine wp_stn (fun s7 es7 => ?_)
      have hRs7 : Rr s7 := es7 ▸ Rr.uAu hRs5 (by show (0 : Int) ≤ p0 ∧ p0 ≤ 61; have : (0 : Int) ≤ gI s 105 ∧ gI s 105 ≤ 6 := hRs.1 105; have : (0 : Int) ≤ gI s 104 ∧ gI s 104 ≤ 1700 := hRs.1 104; have : (0 : Int) ≤ gI s 5 ∧ gI s 5 ≤ 5 := hRs.1 5; omega)
      refine wp_stn (fun s8 es8 => ?_)
      have hRs8 : Rr s8 := es8 ▸ Rr.uI hRs7 (by show (0 : Int) ≤ ((gI s7 104) + 1) ∧ ((gI s7 104) + 1) ≤ 1700; have : (0 : Int) ≤ gI s 105 ∧ gI s 105 ≤ 6 := hRs.1 105; have : (0 : Int) ≤ gI s 104 ∧ gI s 104 ≤ 1700 := hRs.1 104; have : (0 : Int) ≤ gI s 5 ∧ gI s 5 ≤ 5 := hRs.1 5; have : gI s7 104 = gI s5 104 := q_Ai es7; have : gI s5 104 = gI s 104 := q_Ii es5 (by decide); omega)
      exact wp_some ⟨hRs8, by show gI s8 5 = 0 → gI s 5 = 0 ∧ gI s8 105 = gI s 105 + 1 ∧ gI s8 104 = gI s 104 + 1; have : (0 : Int) ≤ gI s 104 ∧ gI s 104 ≤ 1700 := hRs.1 104; have : gI s8 104 = (gI s7 104) + 1 := q_II es8; have : gI s7 104 = gI s5 104 := q_Ai es7; have : gI s5 104 = gI s 104 := q_Ii es5 (by decide); have : (0 : Int) ≤ gI s 105 ∧ gI s 105 ≤ 6 := hRs.1 105; have : gI s8 105 = gI s7 105 := q_Ii es8 (by decide); have : gI s7 105 = gI s5 105 := q_Ai es7; have : gI s5 105 = (gI s 105) + 1 := q_II es5; have : (0 : Int) ≤ gI s 5 ∧ gI s 5 ≤ 5 := hRs.1 5; have : gI s8 5 = gI s7 5 := q_Ii es8 (by decide); have : gI s7 5 = gI s5 5 := q_Ai es7; have : gI s5 5 = gI s 5 := q_Ii es5 (by decide); omega, by show gI s 5 ≠ 0 → gI s8 5 ≠ 0; have : (0 : Int) ≤ gI s 105 ∧ gI s 105 ≤ 6 := hRs.1 105; have : (0 : Int) ≤ gI s 104 ∧ gI s 104 ≤ 1700 := hRs.1 104; have : gI s8 5 = gI s7 5 := q_Ii es8 (by decide); have : gI s7 5 = gI s5 5 := q_Ai es7; have : gI s5 5 = gI s 5 := q_Ii es5 (by decide); have : (0 : Int) ≤ gI s 5 ∧ gI s 5 ≤ 5 := hRs.1 5; omega, fun _ => by rw [(q_Ia es8 : gA s8 103 = gA s7 103), (q_AA es7 : gA s7 103 = upZ (gA s5 103) (gI s5 104).toNat p0), (q_Ia es5 : gA s5 103 = gA s 103), (q_Ii es5 (by decide) : gI s5 104 = gI s 104)]⟩
  · skip
    exact wp_some ⟨hRs, by show gI s 5 = 0 → gI s 5 = 0 ∧ gI s 105 = gI s 105 + 1 ∧ gI s 104 = gI s 104 + 1; have : (0 : Int) ≤ gI s 104 ∧ gI s 104 ≤ 1700 := hRs.1 104; have : (0 : Int) ≤ gI s 105 ∧ gI s 105 ≤ 6 := hRs.1 105; have : (0 : Int) ≤ gI s 5 ∧ gI s 5 ≤ 5 := hRs.1 5; omega, by show gI s 5 ≠ 0 → gI s 5 ≠ 0; have : (0 : Int) ≤ gI s 104 ∧ gI s 104 ≤ 1700 := hRs.1 104; have : (0 : Int) ≤ gI s 5 ∧ gI s 5 ≤ 5 := hRs.1 5; omega, fun h9 => absurd h9 c1⟩
set_option maxHeartbeats 1000000 in
theorem w_x12_qIsOn {p0 : Int} {s : MS} (hRs : Rr s) (hp0 : R2 p0) : wp (m_x12_qIsOn p0 s) (fun r => (r = 0 ∨ r = 1) ∧ ((r = 1 ∧ 1 ≤ gI s 104 ∧ gA s 103 (gI s 104 - 1).toNat = p0) ∨ (r = 0 ∧ (gI s 104 ≤ 0 ∨ gA s 103 (gI s 104 - 1).toNat ≠ p0)))) := by
  unfold m_x12_qIsOn
  refine wp_rg (by have : (0 : Int) ≤ gI s 104 ∧ gI s 104 ≤ 1700 := hRs.1 104; omega) ?_
  refine wp_if (fun c1 => ?_) (fun c1 => ?_)
  · skip
    unfold m_x12_qIsOn_J26
    unfold m_x12_qIsOn_J27
    refine wp_bo (by have : (0 : Int) ≤ gI s 104 ∧ gI s 104 ≤ 1700 := hRs.1 104; omega) ?_
    exact wp_some ⟨by show (0 : Int) = 0 ∨ (0 : Int) = 1; have : (0 : Int) ≤ gI s 104 ∧ gI s 104 ≤ 1700 := hRs.1 104; omega, by show ((0 : Int) = 1 ∧ 1 ≤ gI s 104 ∧ gA s 103 (gI s 104 - 1).toNat = p0) ∨ ((0 : Int) = 0 ∧ (gI s 104 ≤ 0 ∨ gA s 103 (gI s 104 - 1).toNat ≠ p0)); have : (0 : Int) ≤ gI s 104 ∧ gI s 104 ≤ 1700 := hRs.1 104; omega⟩
  · skip
    refine wp_rdIn (by have : (0 : Int) ≤ gI s 104 ∧ gI s 104 ≤ 1700 := hRs.1 104; omega) (fun y5 ey5 => ?_)
    have by5 : (0 : Int) ≤ y5 ∧ y5 ≤ 61 := ey5 ▸ hRs.2.1 103 _ (by show _ < 1700; have : (0 : Int) ≤ gI s 104 ∧ gI s 104 ≤ 1700 := hRs.1 104; omega)
    refine wp_rg (by have : (0 : Int) ≤ gI s 104 ∧ gI s 104 ≤ 1700 := hRs.1 104; omega) ?_
    refine wp_rg (by have : (0 : Int) ≤ gI s 104 ∧ gI s 104 ≤ 1700 := hRs.1 104; omega) ?_
    refine wp_if (fun c2 => ?_) (fun c2 => ?_)
    · skip
      unfold m_x12_qIsOn_J27
      refine wp_bo (by have : (0 : Int) ≤ gI s 104 ∧ gI s 104 ≤ 1700 := hRs.1 104; omega) ?_
      exact wp_some ⟨by show (1 : Int) = 0 ∨ (1 : Int) = 1; have : (0 : Int) ≤ gI s 104 ∧ gI s 104 ≤ 1700 := hRs.1 104; omega, by show ((1 : Int) = 1 ∧ 1 ≤ gI s 104 ∧ gA s 103 (gI s 104 - 1).toNat = p0) ∨ ((1 : Int) = 0 ∧ (gI s 104 ≤ 0 ∨ gA s 103 (gI s 104 - 1).toNat ≠ p0)); have : (0 : Int) ≤ gI s 104 ∧ gI s 104 ≤ 1700 := hRs.1 104; omega⟩
    · skip
      unfold m_x12_qIsOn_J26
      unfold m_x12_qIsOn_J27
      refine wp_bo (by have : (0 : Int) ≤ gI s 104 ∧ gI s 104 ≤ 1700 := hRs.1 104; omega) ?_
      exact wp_some ⟨by show (0 : Int) = 0 ∨ (0 : Int) = 1; have : (0 : Int) ≤ gI s 104 ∧ gI s 104 ≤ 1700 := hRs.1 104; omega, by show ((0 : Int) = 1 ∧ 1 ≤ gI s 104 ∧ gA s 103 (gI s 104 - 1).toNat = p0) ∨ ((0 : Int) = 0 ∧ (gI s 104 ≤ 0 ∨ gA s 103 (gI s 104 - 1).toNat ≠ p0)); have : (0 : Int) ≤ gI s 104 ∧ gI s 104 ≤ 1700 := hRs.1 104; omega⟩
set_option maxHeartbeats 1000000 in
theorem w_x12_qIsBracket {p0 : Int} {s : MS} (hRs : Rr s) (hp0 : R2 p0) : wp (m_x12_qIsBracket p0 s) (fun r => ((r = 1 ∧ 20 ≤ p0 ∧ p0 ≤ 24) ∨ (r = 0 ∧ ¬ (20 ≤ p0 ∧ p0 ≤ 24)))) := by
  unfold m_x12_qIsBracket
  refine wp_rg (by omega) ?_
  refine wp_if (fun c1 => ?_) (fun c1 => ?_)
  · skip
    unfold m_x12_qIsBracket_J16
    unfold m_x12_qIsBracket_J17
    refine wp_bo (by omega) ?_
    exact wp_some (by show ((0 : Int) = 1 ∧ 20 ≤ p0 ∧ p0 ≤ 24) ∨ ((0 : Int) = 0 ∧ ¬ (20 ≤ p0 ∧ p0 ≤ 24)); omega)
  · skip
    refine wp_rg (by omega) ?_
    refine wp_if (fun c2 => ?_) (fun c2 => ?_)
    · skip
      unfold m_x12_qIsBracket_J16
      unfold m_x12_qIsBracket_J17
      refine wp_bo (by omega) ?_
      exact wp_some (by show ((0 : Int) = 1 ∧ 20 ≤ p0 ∧ p0 ≤ 24) ∨ ((0 : Int) = 0 ∧ ¬ (20 ≤ p0 ∧ p0 ≤ 24)); omega)
    · skip
      unfold m_x12_qIsBracket_J17
      refine wp_bo (by omega) ?_
      exact wp_some (by show ((1 : Int) = 1 ∧ 20 ≤ p0 ∧ p0 ≤ 24) ∨ ((1 : Int) = 0 ∧ ¬ (20 ≤ p0 ∧ p0 ≤ 24)); omega)
set_option maxHeartbeats 1000000 in
theorem w_x12_qBracket {s : MS} (hRs : Rr s) : wp (m_x12_qBracket s) (fun r => (r = brk (gA s 103) (gI s 106) (gI s 104).toNat) ∧ ((-1) ≤ r ∧ r ≤ 24)) := by
  have r106 : (0 : Int) ≤ gI s 106 ∧ gI s 106 ≤ 1700 := hRs.1 106
  unfold m_x12_qBracket
  have L7 : ∀ (n : Nat) (x7 : Int), ((-1) ≤ x7 ∧ x7 < gI s 104) → (brk (gA s 103) (gI s 106) (x7 + 1).toNat = brk (gA s 103) (gI s 106) (gI s 104).toNat) → (x7 + 1) < (n : Int) → wp (m_x12_qBracket_L7 s n x7) (fun r => (r = brk (gA s 103) (gI s 106) (gI s 104).toNat) ∧ ((-1) ≤ r ∧ r ≤ 24)) := by
    refine fr_ind (fun x7 hv7_0 hv7_1 hm7 => ?_) (fun n7 ih7 x7 hv7_0 hv7_1 hm7 => ?_)
    · exfalso; have : (0 : Int) ≤ gI s 106 ∧ gI s 106 ≤ 1700 := hRs.1 106; have : (0 : Int) ≤ gI s 104 ∧ gI s 104 ≤ 1700 := hRs.1 104; omega
    · show wp (m_x12_qBracket_b7 s (m_x12_qBracket_L7 s n7) x7) _
      unfold m_x12_qBracket_b7
      refine wp_rg (by have : (0 : Int) ≤ gI s 106 ∧ gI s 106 ≤ 1700 := hRs.1 106; have : (0 : Int) ≤ gI s 104 ∧ gI s 104 ≤ 1700 := hRs.1 104; omega) ?_
      refine wp_rg (by have : (0 : Int) ≤ gI s 104 ∧ gI s 104 ≤ 1700 := hRs.1 104; have : (0 : Int) ≤ gI s 106 ∧ gI s 106 ≤ 1700 := hRs.1 106; omega) ?_
      refine wp_if (fun c1 => ?_) (fun c1 => ?_)
      · skip
        have kb : brk (gA s 103) (gI s 106) (x7 + 1).toNat = -1 := brk_low (by omega)
        unfold m_x12_qBracket_J33
        refine wp_rg (by have : (0 : Int) ≤ gI s 106 ∧ gI s 106 ≤ 1700 := hRs.1 106; have : (0 : Int) ≤ gI s 104 ∧ gI s 104 ≤ 1700 := hRs.1 104; omega) ?_
        refine wp_rg (by have : (0 : Int) ≤ gI s 104 ∧ gI s 104 ≤ 1700 := hRs.1 104; have : (0 : Int) ≤ gI s 106 ∧ gI s 106 ≤ 1700 := hRs.1 106; omega) ?_
        refine wp_if (fun c2 => ?_) (fun c2 => ?_)
        · skip
          have kb : brk (gA s 103) (gI s 106) (x7 + 1).toNat = -1 := brk_low (by omega)
          unfold m_x12_qBracket_J51
          exact wp_some ⟨by first | exact kb.symm.trans hv7_1 | exact ey6.symm.trans (kt.symm.trans hv7_1) | (exfalso; omega), by show (-1) ≤ (-1 : Int) ∧ (-1 : Int) ≤ 24; have : (0 : Int) ≤ gI s 106 ∧ gI s 106 ≤ 1700 := hRs.1 106; have : (0 : Int) ≤ gI s 104 ∧ gI s 104 ≤ 1700 := hRs.1 104; have kk := brk_or (gA s 103) (gI s 106) (x7 + 1).toNat; omega⟩
        · skip
          refine wp_rdIn (by have : (0 : Int) ≤ gI s 106 ∧ gI s 106 ≤ 1700 := hRs.1 106; have : (0 : Int) ≤ gI s 104 ∧ gI s 104 ≤ 1700 := hRs.1 104; omega) (fun y6 ey6 => ?_)
          have by6 : (0 : Int) ≤ y6 ∧ y6 ≤ 61 := ey6 ▸ hRs.2.1 103 _ (by show _ < 1700; have : (0 : Int) ≤ gI s 106 ∧ gI s 106 ≤ 1700 := hRs.1 106; have : (0 : Int) ≤ gI s 104 ∧ gI s 104 ≤ 1700 := hRs.1 104; omega)
          unfold m_x12_qBracket_J51
          exact wp_some ⟨by first | exact kb.symm.trans hv7_1 | exact ey6.symm.trans (kt.symm.trans hv7_1) | (exfalso; omega), by show (-1) ≤ y6 ∧ y6 ≤ 24; have : (0 : Int) ≤ gI s 106 ∧ gI s 106 ≤ 1700 := hRs.1 106; have : (0 : Int) ≤ gI s 104 ∧ gI s 104 ≤ 1700 := hRs.1 104; have kk := brk_or (gA s 103) (gI s 106) (x7 + 1).toNat; omega⟩
      · skip
        refine wp_rdIn (by have : (0 : Int) ≤ gI s 106 ∧ gI s 106 ≤ 1700 := hRs.1 106; have : (0 : Int) ≤ gI s 104 ∧ gI s 104 ≤ 1700 := hRs.1 104; omega) (fun y11 ey11 => ?_)
        have by11 : (0 : Int) ≤ y11 ∧ y11 ≤ 61 := ey11 ▸ hRs.2.1 103 _ (by show _ < 1700; have : (0 : Int) ≤ gI s 106 ∧ gI s 106 ≤ 1700 := hRs.1 106; have : (0 : Int) ≤ gI s 104 ∧ gI s 104 ≤ 1700 := hRs.1 104; omega)
        refine wp_bn (w_x12_qIsBracket hRs (by show R2 y11; have : (0 : Int) ≤ gI s 106 ∧ gI s 106 ≤ 1700 := hRs.1 106; have : (0 : Int) ≤ gI s 104 ∧ gI s 104 ≤ 1700 := hRs.1 104; omega)) (fun r13 er13 hr13 => ?_)
        have hr13_0 := hr13
        have hr13_0 : (r13 = 1 ∧ 20 ≤ y11 ∧ y11 ≤ 24) ∨ (r13 = 0 ∧ ¬ (20 ≤ y11 ∧ y11 ≤ 24)) := hr13_0
        refine wp_rg (by have : (0 : Int) ≤ gI s 106 ∧ gI s 106 ≤ 1700 := hRs.1 106; have : (0 : Int) ≤ gI s 104 ∧ gI s 104 ≤ 1700 := hRs.1 104; omega) ?_
        refine wp_if (fun c3 => ?_) (fun c3 => ?_)
        · skip
          exact ih7 (x7 + (-1)) (by show (-1) ≤ (x7 + (-1)) ∧ (x7 + (-1)) < gI s 104; have : (0 : Int) ≤ gI s 106 ∧ gI s 106 ≤ 1700 := hRs.1 106; have : (0 : Int) ≤ gI s 104 ∧ gI s 104 ≤ 1700 := hRs.1 104; omega) (by rw [show x7 + (-1) + 1 = x7 by omega, ← hv7_1, show (x7 + 1).toNat = x7.toNat + 1 by omega]; exact (brk_skip (by omega) (by rw [ey11]; omega)).symm) (by have : (0 : Int) ≤ gI s 106 ∧ gI s 106 ≤ 1700 := hRs.1 106; have : (0 : Int) ≤ gI s 104 ∧ gI s 104 ≤ 1700 := hRs.1 104; omega)
        · skip
          have kt : brk (gA s 103) (gI s 106) (x7 + 1).toNat = gA s 103 x7.toNat := by rw [show (x7 + 1).toNat = x7.toNat + 1 by omega]; exact brk_top (by omega) (by rw [ey11]; omega)
          unfold m_x12_qBracket_J33
          refine wp_rg (by have : (0 : Int) ≤ gI s 106 ∧ gI s 106 ≤ 1700 := hRs.1 106; have : (0 : Int) ≤ gI s 104 ∧ gI s 104 ≤ 1700 := hRs.1 104; omega) ?_
          refine wp_rg (by have : (0 : Int) ≤ gI s 104 ∧ gI s 104 ≤ 1700 := hRs.1 104; have : (0 : Int) ≤ gI s 106 ∧ gI s 106 ≤ 1700 := hRs.1 106; omega) ?_
          refine wp_if (fun c4 => ?_) (fun c4 => ?_)
          · skip
            have kb : brk (gA s 103) (gI s 106) (x7 + 1).toNat = -1 := brk_low (by omega)
            unfold m_x12_qBracket_J51
            exact wp_some ⟨by first | exact kb.symm.trans hv7_1 | exact ey6.symm.trans (kt.symm.trans hv7_1) | (exfalso; omega), by show (-1) ≤ (-1 : Int) ∧ (-1 : Int) ≤ 24; have : (0 : Int) ≤ gI s 106 ∧ gI s 106 ≤ 1700 := hRs.1 106; have : (0 : Int) ≤ gI s 104 ∧ gI s 104 ≤ 1700 := hRs.1 104; have kk := brk_or (gA s 103) (gI s 106) (x7 + 1).toNat; omega⟩
          · skip
            refine wp_rdIn (by have : (0 : Int) ≤ gI s 106 ∧ gI s 106 ≤ 1700 := hRs.1 106; have : (0 : Int) ≤ gI s 104 ∧ gI s 104 ≤ 1700 := hRs.1 104; omega) (fun y6 ey6 => ?_)
            have by6 : (0 : Int) ≤ y6 ∧ y6 ≤ 61 := ey6 ▸ hRs.2.1 103 _ (by show _ < 1700; have : (0 : Int) ≤ gI s 106 ∧ gI s 106 ≤ 1700 := hRs.1 106; have : (0 : Int) ≤ gI s 104 ∧ gI s 104 ≤ 1700 := hRs.1 104; omega)
            unfold m_x12_qBracket_J51
            exact wp_some ⟨by first | exact kb.symm.trans hv7_1 | exact ey6.symm.trans (kt.symm.trans hv7_1) | (exfalso; omega), by show (-1) ≤ y6 ∧ y6 ≤ 24; have : (0 : Int) ≤ gI s 106 ∧ gI s 106 ≤ 1700 := hRs.1 106; have : (0 : Int) ≤ gI s 104 ∧ gI s 104 ≤ 1700 := hRs.1 104; have kk := brk_or (gA s 103) (gI s 106) (x7 + 1).toNat; omega⟩
  exact L7 FU ((gI s 104) - 1) (by show (-1) ≤ ((gI s 104) - 1) ∧ ((gI s 104) - 1) < gI s 104; have : (0 : Int) ≤ gI s 104 ∧ gI s 104 ≤ 1700 := hRs.1 104; omega) (by rw [show gI s 104 - 1 + 1 = gI s 104 by omega]) (by have := FU_big; have := FU_big2; have : (0 : Int) ≤ gI s 104 ∧ gI s 104 ≤ 1700 := hRs.1 104; omega)
set_option maxHeartbeats 1000000 in
theorem w_x12_qHasSquare {s : MS} (hRs : Rr s) : wp (m_x12_qHasSquare s) (fun r => ((r = 1 ∧ ∃ j : Nat, (j : Int) < gI s 104 ∧ gA s 103 j = 25) ∨ (r = 0 ∧ ∀ j : Nat, (j : Int) < gI s 104 → gA s 103 j ≠ 25))) := by
  unfold m_x12_qHasSquare
  have L2 : ∀ (n : Nat) (x1 : Int), (0 ≤ x1 ∧ x1 ≤ gI s 104) → (∀ j : Nat, (j : Int) < x1 → gA s 103 j ≠ 25) → (gI s 104 - x1) < (n : Int) → wp (m_x12_qHasSquare_L2 s n x1) (fun r => ((r = 1 ∧ ∃ j : Nat, (j : Int) < gI s 104 ∧ gA s 103 j = 25) ∨ (r = 0 ∧ ∀ j : Nat, (j : Int) < gI s 104 → gA s 103 j ≠ 25))) := by
    refine fr_ind (fun x1 hv2_0 hv2_1 hm2 => ?_) (fun n2 ih2 x1 hv2_0 hv2_1 hm2 => ?_)
    · exfalso; have : (0 : Int) ≤ gI s 104 ∧ gI s 104 ≤ 1700 := hRs.1 104; omega
    · show wp (m_x12_qHasSquare_b2 s (m_x12_qHasSquare_L2 s n2) x1) _
      unfold m_x12_qHasSquare_b2
      refine wp_rg (by have : (0 : Int) ≤ gI s 104 ∧ gI s 104 ≤ 1700 := hRs.1 104; omega) ?_
      refine wp_rg (by have : (0 : Int) ≤ gI s 104 ∧ gI s 104 ≤ 1700 := hRs.1 104; omega) ?_
      refine wp_if (fun c1 => ?_) (fun c1 => ?_)
      · skip
        exact wp_some (by first | exact Or.inr ⟨rfl, fun j hj => hv2_1 j (by omega)⟩ | exact Or.inl ⟨rfl, x1.toNat, by omega, by rw [ey5]; assumption⟩)
      · skip
        refine wp_rdIn (by have : (0 : Int) ≤ gI s 104 ∧ gI s 104 ≤ 1700 := hRs.1 104; omega) (fun y5 ey5 => ?_)
        have by5 : (0 : Int) ≤ y5 ∧ y5 ≤ 61 := ey5 ▸ hRs.2.1 103 _ (by show _ < 1700; have : (0 : Int) ≤ gI s 104 ∧ gI s 104 ≤ 1700 := hRs.1 104; omega)
        refine wp_rg (by have : (0 : Int) ≤ gI s 104 ∧ gI s 104 ≤ 1700 := hRs.1 104; omega) ?_
        refine wp_if (fun c2 => ?_) (fun c2 => ?_)
        · skip
          exact wp_some (by first | exact Or.inr ⟨rfl, fun j hj => hv2_1 j (by omega)⟩ | exact Or.inl ⟨rfl, x1.toNat, by omega, by rw [ey5]; assumption⟩)
        · skip
          exact ih2 (x1 + 1) (by show 0 ≤ (x1 + 1) ∧ (x1 + 1) ≤ gI s 104; have : (0 : Int) ≤ gI s 104 ∧ gI s 104 ≤ 1700 := hRs.1 104; omega) (fun j hj => by
        by_cases e : j = x1.toNat
        · rw [e, ey5]; exact c2
        · exact hv2_1 j (by omega)) (by have : (0 : Int) ≤ gI s 104 ∧ gI s 104 ≤ 1700 := hRs.1 104; omega)
  exact L2 FU 0 (by show 0 ≤ (0 : Int) ∧ (0 : Int) ≤ gI s 104; have : (0 : Int) ≤ gI s 104 ∧ gI s 104 ≤ 1700 := hRs.1 104; omega) (fun j hj => by omega) (by have := FU_big; have := FU_big2; have : (0 : Int) ≤ gI s 104 ∧ gI s 104 ≤ 1700 := hRs.1 104; omega)
set_option maxHeartbeats 1000000 in
theorem w_x12_qWordHere {s : MS} (hRs : Rr s) (hp0 : gI s 2 ≤ gI s 3) : wp (m_x12_qWordHere s) (fun q => (Rr q.2) ∧ ((-1) ≤ q.1 ∧ q.1 ≤ 9) ∧ (gI s 2 ≤ gI q.2 2 ∧ gI q.2 2 ≤ gI q.2 3) ∧ (NB s → NB q.2 ∧ gI q.2 2 = gI s 2) ∧ (q.1 ≠ -1 → gI s 5 = 0)) := by
  unfold m_x12_qWordHere
  refine wp_bn (w_x12_isHere hRs (by show gI s 2 ≤ gI s 3; have : (0 : Int) ≤ gI s 3 ∧ gI s 3 ≤ 1600 := hRs.1 3; have : (0 : Int) ≤ gI s 2 ∧ gI s 2 ≤ 1600 := hRs.1 2; omega) (fun j hj => hRs.2.1 91 j hj) (by decide)) (fun qqr3 eqr3s hqr3s => ?_)
  obtain ⟨qr3r, qr3s⟩ := qqr3
  dsimp only at eqr3s hqr3s ⊢
  have Fqr3s : F_x12_isHere s qr3s := fr_x12_isHere eqr3s
  obtain ⟨hRqr3s, hqr3s_0, hqr3s_1, hqr3s_2, hqr3s_3, hqr3s_4⟩ := hqr3s
  have hqr3s_0 : qr3r = 0 ∨ qr3r = 1 := hqr3s_0
  have hqr3s_1 : gI s 2 ≤ gI qr3s 2 ∧ gI qr3s 2 ≤ gI qr3s 3 := hqr3s_1
  have hqr3s_2 : qr3r = 1 → gI qr3s 2 + ((5 : Int) : Int) ≤ gI qr3s 3 := hqr3s_2
  have hqr3s_3 : qr3r = 1 → gI s 5 = 0 := hqr3s_3
  have hqr3s_4 : NB s → NB qr3s ∧ gI qr3s 2 = gI s 2 := hqr3s_4
  refine wp_rg (by have : (0 : Int) ≤ gI s 5 ∧ gI s 5 ≤ 5 := hRs.1 5; have : gI qr3s 3 = gI s 3 := Fqr3s.1 3 (by decide); have : (0 : Int) ≤ gI qr3s 2 ∧ gI qr3s 2 ≤ 1600 := hRqr3s.1 2; have : (0 : Int) ≤ gI s 3 ∧ gI s 3 ≤ 1600 := hRs.1 3; have : (0 : Int) ≤ gI s 2 ∧ gI s 2 ≤ 1600 := hRs.1 2; omega) ?_
  refine wp_if (fun c1 => ?_) (fun c1 => ?_)
  · skip
    refine wp_bn (w_x12_isHere hRqr3s (by show gI qr3s 2 ≤ gI qr3s 3; have : (0 : Int) ≤ gI s 5 ∧ gI s 5 ≤ 5 := hRs.1 5; have : (0 : Int) ≤ gI s 3 ∧ gI s 3 ≤ 1600 := hRs.1 3; have : (0 : Int) ≤ gI s 2 ∧ gI s 2 ≤ 1600 := hRs.1 2; have : gI qr3s 3 = gI s 3 := Fqr3s.1 3 (by decide); have : (0 : Int) ≤ gI qr3s 2 ∧ gI qr3s 2 ≤ 1600 := hRqr3s.1 2; omega) (fun j hj => hRqr3s.2.1 92 j hj) (by decide)) (fun qqr8 eqr8s hqr8s => ?_)
    obtain ⟨qr8r, qr8s⟩ := qqr8
    dsimp only at eqr8s hqr8s ⊢
    have Fqr8s : F_x12_isHere qr3s qr8s := fr_x12_isHere eqr8s
    obtain ⟨hRqr8s, hqr8s_0, hqr8s_1, hqr8s_2, hqr8s_3, hqr8s_4⟩ := hqr8s
    have hqr8s_0 : qr8r = 0 ∨ qr8r = 1 := hqr8s_0
    have hqr8s_1 : gI qr3s 2 ≤ gI qr8s 2 ∧ gI qr8s 2 ≤ gI qr8s 3 := hqr8s_1
    have hqr8s_2 : qr8r = 1 → gI qr8s 2 + ((5 : Int) : Int) ≤ gI qr8s 3 := hqr8s_2
    have hqr8s_3 : qr8r = 1 → gI qr3s 5 = 0 := hqr8s_3
    have hqr8s_4 : NB qr3s → NB qr8s ∧ gI qr8s 2 = gI qr3s 2 := hqr8s_4
    refine wp_rg (by have : gI qr3s 5 = gI s 5 := Fqr3s.1 5 (by decide); have : gI qr8s 3 = gI qr3s 3 := Fqr8s.1 3 (by decide); have : (0 : Int) ≤ gI qr8s 2 ∧ gI qr8s 2 ≤ 1600 := hRqr8s.1 2; have : (0 : Int) ≤ gI s 5 ∧ gI s 5 ≤ 5 := hRs.1 5; have : gI qr3s 3 = gI s 3 := Fqr3s.1 3 (by decide); have : (0 : Int) ≤ gI qr3s 2 ∧ gI qr3s 2 ≤ 1600 := hRqr3s.1 2; have : (0 : Int) ≤ gI s 3 ∧ gI s 3 ≤ 1600 := hRs.1 3; have : (0 : Int) ≤ gI s 2 ∧ gI s 2 ≤ 1600 := hRs.1 2; omega) ?_
    refine wp_if (fun c2 => ?_) (fun c2 => ?_)
    · skip
      refine wp_bn (w_x12_isHere hRqr8s (by show gI qr8s 2 ≤ gI qr8s 3; have : gI qr3s 5 = gI s 5 := Fqr3s.1 5 (by decide); have : (0 : Int) ≤ gI s 5 ∧ gI s 5 ≤ 5 := hRs.1 5; have : gI qr3s 3 = gI s 3 := Fqr3s.1 3 (by decide); have : (0 : Int) ≤ gI qr3s 2 ∧ gI qr3s 2 ≤ 1600 := hRqr3s.1 2; have : (0 : Int) ≤ gI s 3 ∧ gI s 3 ≤ 1600 := hRs.1 3; have : (0 : Int) ≤ gI s 2 ∧ gI s 2 ≤ 1600 := hRs.1 2; have : gI qr8s 3 = gI qr3s 3 := Fqr8s.1 3 (by decide); have : (0 : Int) ≤ gI qr8s 2 ∧ gI qr8s 2 ≤ 1600 := hRqr8s.1 2; omega) (fun j hj => hRqr8s.2.1 93 j hj) (by decide)) (fun qqr13 eqr13s hqr13s => ?_)
      obtain ⟨qr13r, qr13s⟩ := qqr13
      dsimp only at eqr13s hqr13s ⊢
      have Fqr13s : F_x12_isHere qr8s qr13s := fr_x12_isHere eqr13s
      obtain ⟨hRqr13s, hqr13s_0, hqr13s_1, hqr13s_2, hqr13s_3, hqr13s_4⟩ := hqr13s
      have hqr13s_0 : qr13r = 0 ∨ qr13r = 1 := hqr13s_0
      have hqr13s_1 : gI qr8s 2 ≤ gI qr13s 2 ∧ gI qr13s 2 ≤ gI qr13s 3 := hqr13s_1
      have hqr13s_2 : qr13r = 1 → gI qr13s 2 + ((4 : Int) : Int) ≤ gI qr13s 3 := hqr13s_2
      have hqr13s_3 : qr13r = 1 → gI qr8s 5 = 0 := hqr13s_3
      have hqr13s_4 : NB qr8s → NB qr13s ∧ gI qr13s 2 = gI qr8s 2 := hqr13s_4
      refine wp_rg (by have : gI qr8s 5 = gI qr3s 5 := Fqr8s.1 5 (by decide); have : gI qr13s 3 = gI qr8s 3 := Fqr13s.1 3 (by decide); have : (0 : Int) ≤ gI qr13s 2 ∧ gI qr13s 2 ≤ 1600 := hRqr13s.1 2; have : gI qr3s 5 = gI s 5 := Fqr3s.1 5 (by decide); have : gI qr8s 3 = gI qr3s 3 := Fqr8s.1 3 (by decide); have : (0 : Int) ≤ gI qr8s 2 ∧ gI qr8s 2 ≤ 1600 := hRqr8s.1 2; have : (0 : Int) ≤ gI s 5 ∧ gI s 5 ≤ 5 := hRs.1 5; have : gI qr3s 3 = gI s 3 := Fqr3s.1 3 (by decide); have : (0 : Int) ≤ gI qr3s 2 ∧ gI qr3s 2 ≤ 1600 := hRqr3s.1 2; have : (0 : Int) ≤ gI s 3 ∧ gI s 3 ≤ 1600 := hRs.1 3; have : (0 : Int) ≤ gI s 2 ∧ gI s 2 ≤ 1600 := hRs.1 2; omega) ?_
      refine wp_if (fun c3 => ?_) (fun c3 => ?_)
      · skip
        refine wp_bn (w_x12_isHere hRqr13s (by show gI qr13s 2 ≤ gI qr13s 3; have : gI qr8s 5 = gI qr3s 5 := Fqr8s.1 5 (by decide); have : gI qr3s 5 = gI s 5 := Fqr3s.1 5 (by decide); have : gI qr8s 3 = gI qr3s 3 := Fqr8s.1 3 (by decide); have : (0 : Int) ≤ gI qr8s 2 ∧ gI qr8s 2 ≤ 1600 := hRqr8s.1 2; have : (0 : Int) ≤ gI s 5 ∧ gI s 5 ≤ 5 := hRs.1 5; have : gI qr3s 3 = gI s 3 := Fqr3s.1 3 (by decide); have : (0 : Int) ≤ gI qr3s 2 ∧ gI qr3s 2 ≤ 1600 := hRqr3s.1 2; have : (0 : Int) ≤ gI s 3 ∧ gI s 3 ≤ 1600 := hRs.1 3; have : (0 : Int) ≤ gI s 2 ∧ gI s 2 ≤ 1600 := hRs.1 2; have : gI qr13s 3 = gI qr8s 3 := Fqr13s.1 3 (by decide); have : (0 : Int) ≤ gI qr13s 2 ∧ gI qr13s 2 ≤ 1600 := hRqr13s.1 2; omega) (fun j hj => hRqr13s.2.1 94 j hj) (by decide)) (fun qqr18 eqr18s hqr18s => ?_)
        obtain ⟨qr18r, qr18s⟩ := qqr18
        dsimp only at eqr18s hqr18s ⊢
        have Fqr18s : F_x12_isHere qr13s qr18s := fr_x12_isHere eqr18s
        obtain ⟨hRqr18s, hqr18s_0, hqr18s_1, hqr18s_2, hqr18s_3, hqr18s_4⟩ := hqr18s
        have hqr18s_0 : qr18r = 0 ∨ qr18r = 1 := hqr18s_0
        have hqr18s_1 : gI qr13s 2 ≤ gI qr18s 2 ∧ gI qr18s 2 ≤ gI qr18s 3 := hqr18s_1
        have hqr18s_2 : qr18r = 1 → gI qr18s 2 + ((7 : Int) : Int) ≤ gI qr18s 3 := hqr18s_2
        have hqr18s_3 : qr18r = 1 → gI qr13s 5 = 0 := hqr18s_3
        have hqr18s_4 : NB qr13s → NB qr18s ∧ gI qr18s 2 = gI qr13s 2 := hqr18s_4
        refine wp_rg (by have : gI qr13s 5 = gI qr8s 5 := Fqr13s.1 5 (by decide); have : gI qr18s 3 = gI qr13s 3 := Fqr18s.1 3 (by decide); have : (0 : Int) ≤ gI qr18s 2 ∧ gI qr18s 2 ≤ 1600 := hRqr18s.1 2; have : gI qr8s 5 = gI qr3s 5 := Fqr8s.1 5 (by decide); have : gI qr13s 3 = gI qr8s 3 := Fqr13s.1 3 (by decide); have : (0 : Int) ≤ gI qr13s 2 ∧ gI qr13s 2 ≤ 1600 := hRqr13s.1 2; have : gI qr3s 5 = gI s 5 := Fqr3s.1 5 (by decide); have : gI qr8s 3 = gI qr3s 3 := Fqr8s.1 3 (by decide); have : (0 : Int) ≤ gI qr8s 2 ∧ gI qr8s 2 ≤ 1600 := hRqr8s.1 2; have : (0 : Int) ≤ gI s 5 ∧ gI s 5 ≤ 5 := hRs.1 5; have : gI qr3s 3 = gI s 3 := Fqr3s.1 3 (by decide); have : (0 : Int) ≤ gI qr3s 2 ∧ gI qr3s 2 ≤ 1600 := hRqr3s.1 2; have : (0 : Int) ≤ gI s 3 ∧ gI s 3 ≤ 1600 := hRs.1 3; have : (0 : Int) ≤ gI s 2 ∧ gI s 2 ≤ 1600 := hRs.1 2; omega) ?_
        refine wp_if (fun c4 => ?_) (fun c4 => ?_)
        · skip
          refine wp_bn (w_x12_isHere hRqr18s (by show gI qr18s 2 ≤ gI qr18s 3; have : gI qr13s 5 = gI qr8s 5 := Fqr13s.1 5 (by decide); have : gI qr8s 5 = gI qr3s 5 := Fqr8s.1 5 (by decide); have : gI qr13s 3 = gI qr8s 3 := Fqr13s.1 3 (by decide); have : (0 : Int) ≤ gI qr13s 2 ∧ gI qr13s 2 ≤ 1600 := hRqr13s.1 2; have : gI qr3s 5 = gI s 5 := Fqr3s.1 5 (by decide); have : gI qr8s 3 = gI qr3s 3 := Fqr8s.1 3 (by decide); have : (0 : Int) ≤ gI qr8s 2 ∧ gI qr8s 2 ≤ 1600 := hRqr8s.1 2; have : (0 : Int) ≤ gI s 5 ∧ gI s 5 ≤ 5 := hRs.1 5; have : gI qr3s 3 = gI s 3 := Fqr3s.1 3 (by decide); have : (0 : Int) ≤ gI qr3s 2 ∧ gI qr3s 2 ≤ 1600 := hRqr3s.1 2; have : (0 : Int) ≤ gI s 3 ∧ gI s 3 ≤ 1600 := hRs.1 3; have : (0 : Int) ≤ gI s 2 ∧ gI s 2 ≤ 1600 := hRs.1 2; have : gI qr18s 3 = gI qr13s 3 := Fqr18s.1 3 (by decide); have : (0 : Int) ≤ gI qr18s 2 ∧ gI qr18s 2 ≤ 1600 := hRqr18s.1 2; omega) (fun j hj => hRqr18s.2.1 95 j hj) (by decide)) (fun qqr23 eqr23s hqr23s => ?_)
          obtain ⟨qr23r, qr23s⟩ := qqr23
          dsimp only at eqr23s hqr23s ⊢
          have Fqr23s : F_x12_isHere qr18s qr23s := fr_x12_isHere eqr23s
          obtain ⟨hRqr23s, hqr23s_0, hqr23s_1, hqr23s_2, hqr23s_3, hqr23s_4⟩ := hqr23s
          have hqr23s_0 : qr23r = 0 ∨ qr23r = 1 := hqr23s_0
          have hqr23s_1 : gI qr18s 2 ≤ gI qr23s 2 ∧ gI qr23s 2 ≤ gI qr23s 3 := hqr23s_1
          have hqr23s_2 : qr23r = 1 → gI qr23s 2 + ((6 : Int) : Int) ≤ gI qr23s 3 := hqr23s_2
          have hqr23s_3 : qr23r = 1 → gI qr18s 5 = 0 := hqr23s_3
          have hqr23s_4 : NB qr18s → NB qr23s ∧ gI qr23s 2 = gI qr18s 2 := hqr23s_4
          refine wp_rg (by have : gI qr18s 5 = gI qr13s 5 := Fqr18s.1 5 (by decide); have : gI qr23s 3 = gI qr18s 3 := Fqr23s.1 3 (by decide); have : (0 : Int) ≤ gI qr23s 2 ∧ gI qr23s 2 ≤ 1600 := hRqr23s.1 2; have : gI qr13s 5 = gI qr8s 5 := Fqr13s.1 5 (by decide); have : gI qr18s 3 = gI qr13s 3 := Fqr18s.1 3 (by decide); have : (0 : Int) ≤ gI qr18s 2 ∧ gI qr18s 2 ≤ 1600 := hRqr18s.1 2; have : gI qr8s 5 = gI qr3s 5 := Fqr8s.1 5 (by decide); have : gI qr13s 3 = gI qr8s 3 := Fqr13s.1 3 (by decide); have : (0 : Int) ≤ gI qr13s 2 ∧ gI qr13s 2 ≤ 1600 := hRqr13s.1 2; have : gI qr3s 5 = gI s 5 := Fqr3s.1 5 (by decide); have : gI qr8s 3 = gI qr3s 3 := Fqr8s.1 3 (by decide); have : (0 : Int) ≤ gI qr8s 2 ∧ gI qr8s 2 ≤ 1600 := hRqr8s.1 2; have : (0 : Int) ≤ gI s 5 ∧ gI s 5 ≤ 5 := hRs.1 5; have : gI qr3s 3 = gI s 3 := Fqr3s.1 3 (by decide); have : (0 : Int) ≤ gI qr3s 2 ∧ gI qr3s 2 ≤ 1600 := hRqr3s.1 2; have : (0 : Int) ≤ gI s 3 ∧ gI s 3 ≤ 1600 := hRs.1 3; have : (0 : Int) ≤ gI s 2 ∧ gI s 2 ≤ 1600 := hRs.1 2; omega) ?_
          refine wp_if (fun c5 => ?_) (fun c5 => ?_)
          · skip
            refine wp_bn (w_x12_isHere hRqr23s (by show gI qr23s 2 ≤ gI qr23s 3; have : gI qr18s 5 = gI qr13s 5 := Fqr18s.1 5 (by decide); have : gI qr13s 5 = gI qr8s 5 := Fqr13s.1 5 (by decide); have : gI qr18s 3 = gI qr13s 3 := Fqr18s.1 3 (by decide); have : (0 : Int) ≤ gI qr18s 2 ∧ gI qr18s 2 ≤ 1600 := hRqr18s.1 2; have : gI qr8s 5 = gI qr3s 5 := Fqr8s.1 5 (by decide); have : gI qr13s 3 = gI qr8s 3 := Fqr13s.1 3 (by decide); have : (0 : Int) ≤ gI qr13s 2 ∧ gI qr13s 2 ≤ 1600 := hRqr13s.1 2; have : gI qr3s 5 = gI s 5 := Fqr3s.1 5 (by decide); have : gI qr8s 3 = gI qr3s 3 := Fqr8s.1 3 (by decide); have : (0 : Int) ≤ gI qr8s 2 ∧ gI qr8s 2 ≤ 1600 := hRqr8s.1 2; have : (0 : Int) ≤ gI s 5 ∧ gI s 5 ≤ 5 := hRs.1 5; have : gI qr3s 3 = gI s 3 := Fqr3s.1 3 (by decide); have : (0 : Int) ≤ gI qr3s 2 ∧ gI qr3s 2 ≤ 1600 := hRqr3s.1 2; have : (0 : Int) ≤ gI s 3 ∧ gI s 3 ≤ 1600 := hRs.1 3; have : (0 : Int) ≤ gI s 2 ∧ gI s 2 ≤ 1600 := hRs.1 2; have : gI qr23s 3 = gI qr18s 3 := Fqr23s.1 3 (by decide); have : (0 : Int) ≤ gI qr23s 2 ∧ gI qr23s 2 ≤ 1600 := hRqr23s.1 2; omega) (fun j hj => hRqr23s.2.1 96 j hj) (by decide)) (fun qqr28 eqr28s hqr28s => ?_)
            obtain ⟨qr28r, qr28s⟩ := qqr28
            dsimp only at eqr28s hqr28s ⊢
            have Fqr28s : F_x12_isHere qr23s qr28s := fr_x12_isHere eqr28s
            obtain ⟨hRqr28s, hqr28s_0, hqr28s_1, hqr28s_2, hqr28s_3, hqr28s_4⟩ := hqr28s
            have hqr28s_0 : qr28r = 0 ∨ qr28r = 1 := hqr28s_0
            have hqr28s_1 : gI qr23s 2 ≤ gI qr28s 2 ∧ gI qr28s 2 ≤ gI qr28s 3 := hqr28s_1
            have hqr28s_2 : qr28r = 1 → gI qr28s 2 + ((5 : Int) : Int) ≤ gI qr28s 3 := hqr28s_2
            have hqr28s_3 : qr28r = 1 → gI qr23s 5 = 0 := hqr28s_3
            have hqr28s_4 : NB qr23s → NB qr28s ∧ gI qr28s 2 = gI qr23s 2 := hqr28s_4
            refine wp_rg (by have : gI qr23s 5 = gI qr18s 5 := Fqr23s.1 5 (by decide); have : gI qr28s 3 = gI qr23s 3 := Fqr28s.1 3 (by decide); have : (0 : Int) ≤ gI qr28s 2 ∧ gI qr28s 2 ≤ 1600 := hRqr28s.1 2; have : gI qr18s 5 = gI qr13s 5 := Fqr18s.1 5 (by decide); have : gI qr23s 3 = gI qr18s 3 := Fqr23s.1 3 (by decide); have : (0 : Int) ≤ gI qr23s 2 ∧ gI qr23s 2 ≤ 1600 := hRqr23s.1 2; have : gI qr13s 5 = gI qr8s 5 := Fqr13s.1 5 (by decide); have : gI qr18s 3 = gI qr13s 3 := Fqr18s.1 3 (by decide); have : (0 : Int) ≤ gI qr18s 2 ∧ gI qr18s 2 ≤ 1600 := hRqr18s.1 2; have : gI qr8s 5 = gI qr3s 5 := Fqr8s.1 5 (by decide); have : gI qr13s 3 = gI qr8s 3 := Fqr13s.1 3 (by decide); have : (0 : Int) ≤ gI qr13s 2 ∧ gI qr13s 2 ≤ 1600 := hRqr13s.1 2; have : gI qr3s 5 = gI s 5 := Fqr3s.1 5 (by decide); have : gI qr8s 3 = gI qr3s 3 := Fqr8s.1 3 (by decide); have : (0 : Int) ≤ gI qr8s 2 ∧ gI qr8s 2 ≤ 1600 := hRqr8s.1 2; have : (0 : Int) ≤ gI s 5 ∧ gI s 5 ≤ 5 := hRs.1 5; have : gI qr3s 3 = gI s 3 := Fqr3s.1 3 (by decide); have : (0 : Int) ≤ gI qr3s 2 ∧ gI qr3s 2 ≤ 1600 := hRqr3s.1 2; have : (0 : Int) ≤ gI s 3 ∧ gI s 3 ≤ 1600 := hRs.1 3; have : (0 : Int) ≤ gI s 2 ∧ gI s 2 ≤ 1600 := hRs.1 2; omega) ?_
            refine wp_if (fun c6 => ?_) (fun c6 => ?_)
            · skip
              refine wp_bn (w_x12_isHere hRqr28s (by show gI qr28s 2 ≤ gI qr28s 3; have : gI qr23s 5 = gI qr18s 5 := Fqr23s.1 5 (by decide); have : gI qr18s 5 = gI qr13s 5 := Fqr18s.1 5 (by decide); have : gI qr23s 3 = gI qr18s 3 := Fqr23s.1 3 (by decide); have : (0 : Int) ≤ gI qr23s 2 ∧ gI qr23s 2 ≤ 1600 := hRqr23s.1 2; have : gI qr13s 5 = gI qr8s 5 := Fqr13s.1 5 (by decide); have : gI qr18s 3 = gI qr13s 3 := Fqr18s.1 3 (by decide); have : (0 : Int) ≤ gI qr18s 2 ∧ gI qr18s 2 ≤ 1600 := hRqr18s.1 2; have : gI qr8s 5 = gI qr3s 5 := Fqr8s.1 5 (by decide); have : gI qr13s 3 = gI qr8s 3 := Fqr13s.1 3 (by decide); have : (0 : Int) ≤ gI qr13s 2 ∧ gI qr13s 2 ≤ 1600 := hRqr13s.1 2; have : gI qr3s 5 = gI s 5 := Fqr3s.1 5 (by decide); have : gI qr8s 3 = gI qr3s 3 := Fqr8s.1 3 (by decide); have : (0 : Int) ≤ gI qr8s 2 ∧ gI qr8s 2 ≤ 1600 := hRqr8s.1 2; have : (0 : Int) ≤ gI s 5 ∧ gI s 5 ≤ 5 := hRs.1 5; have : gI qr3s 3 = gI s 3 := Fqr3s.1 3 (by decide); have : (0 : Int) ≤ gI qr3s 2 ∧ gI qr3s 2 ≤ 1600 := hRqr3s.1 2; have : (0 : Int) ≤ gI s 3 ∧ gI s 3 ≤ 1600 := hRs.1 3; have : (0 : Int) ≤ gI s 2 ∧ gI s 2 ≤ 1600 := hRs.1 2; have : gI qr28s 3 = gI qr23s 3 := Fqr28s.1 3 (by decide); have : (0 : Int) ≤ gI qr28s 2 ∧ gI qr28s 2 ≤ 1600 := hRqr28s.1 2; omega) (fun j hj => hRqr28s.2.1 97 j hj) (by decide)) (fun qqr33 eqr33s hqr33s => ?_)
              obtain ⟨qr33r, qr33s⟩ := qqr33
              dsimp only at eqr33s hqr33s ⊢
              have Fqr33s : F_x12_isHere qr28s qr33s := fr_x12_isHere eqr33s
              obtain ⟨hRqr33s, hqr33s_0, hqr33s_1, hqr33s_2, hqr33s_3, hqr33s_4⟩ := hqr33s
              have hqr33s_0 : qr33r = 0 ∨ qr33r = 1 := hqr33s_0
              have hqr33s_1 : gI qr28s 2 ≤ gI qr33s 2 ∧ gI qr33s 2 ≤ gI qr33s 3 := hqr33s_1
              have hqr33s_2 : qr33r = 1 → gI qr33s 2 + ((5 : Int) : Int) ≤ gI qr33s 3 := hqr33s_2
              have hqr33s_3 : qr33r = 1 → gI qr28s 5 = 0 := hqr33s_3
              have hqr33s_4 : NB qr28s → NB qr33s ∧ gI qr33s 2 = gI qr28s 2 := hqr33s_4
              refine wp_rg (by have : gI qr28s 5 = gI qr23s 5 := Fqr28s.1 5 (by decide); have : gI qr33s 3 = gI qr28s 3 := Fqr33s.1 3 (by decide); have : (0 : Int) ≤ gI qr33s 2 ∧ gI qr33s 2 ≤ 1600 := hRqr33s.1 2; have : gI qr23s 5 = gI qr18s 5 := Fqr23s.1 5 (by decide); have : gI qr28s 3 = gI qr23s 3 := Fqr28s.1 3 (by decide); have : (0 : Int) ≤ gI qr28s 2 ∧ gI qr28s 2 ≤ 1600 := hRqr28s.1 2; have : gI qr18s 5 = gI qr13s 5 := Fqr18s.1 5 (by decide); have : gI qr23s 3 = gI qr18s 3 := Fqr23s.1 3 (by decide); have : (0 : Int) ≤ gI qr23s 2 ∧ gI qr23s 2 ≤ 1600 := hRqr23s.1 2; have : gI qr13s 5 = gI qr8s 5 := Fqr13s.1 5 (by decide); have : gI qr18s 3 = gI qr13s 3 := Fqr18s.1 3 (by decide); have : (0 : Int) ≤ gI qr18s 2 ∧ gI qr18s 2 ≤ 1600 := hRqr18s.1 2; have : gI qr8s 5 = gI qr3s 5 := Fqr8s.1 5 (by decide); have : gI qr13s 3 = gI qr8s 3 := Fqr13s.1 3 (by decide); have : (0 : Int) ≤ gI qr13s 2 ∧ gI qr13s 2 ≤ 1600 := hRqr13s.1 2; have : gI qr3s 5 = gI s 5 := Fqr3s.1 5 (by decide); have : gI qr8s 3 = gI qr3s 3 := Fqr8s.1 3 (by decide); have : (0 : Int) ≤ gI qr8s 2 ∧ gI qr8s 2 ≤ 1600 := hRqr8s.1 2; have : (0 : Int) ≤ gI s 5 ∧ gI s 5 ≤ 5 := hRs.1 5; have : gI qr3s 3 = gI s 3 := Fqr3s.1 3 (by decide); have : (0 : Int) ≤ gI qr3s 2 ∧ gI qr3s 2 ≤ 1600 := hRqr3s.1 2; have : (0 : Int) ≤ gI s 3 ∧ gI s 3 ≤ 1600 := hRs.1 3; have : (0 : Int) ≤ gI s 2 ∧ gI s 2 ≤ 1600 := hRs.1 2; omega) ?_
              refine wp_if (fun c7 => ?_) (fun c7 => ?_)
              · skip
                refine wp_bn (w_x12_isHere hRqr33s (by show gI qr33s 2 ≤ gI qr33s 3; have : gI qr28s 5 = gI qr23s 5 := Fqr28s.1 5 (by decide); have : gI qr23s 5 = gI qr18s 5 := Fqr23s.1 5 (by decide); have : gI qr28s 3 = gI qr23s 3 := Fqr28s.1 3 (by decide); have : (0 : Int) ≤ gI qr28s 2 ∧ gI qr28s 2 ≤ 1600 := hRqr28s.1 2; have : gI qr18s 5 = gI qr13s 5 := Fqr18s.1 5 (by decide); have : gI qr23s 3 = gI qr18s 3 := Fqr23s.1 3 (by decide); have : (0 : Int) ≤ gI qr23s 2 ∧ gI qr23s 2 ≤ 1600 := hRqr23s.1 2; have : gI qr13s 5 = gI qr8s 5 := Fqr13s.1 5 (by decide); have : gI qr18s 3 = gI qr13s 3 := Fqr18s.1 3 (by decide); have : (0 : Int) ≤ gI qr18s 2 ∧ gI qr18s 2 ≤ 1600 := hRqr18s.1 2; have : gI qr8s 5 = gI qr3s 5 := Fqr8s.1 5 (by decide); have : gI qr13s 3 = gI qr8s 3 := Fqr13s.1 3 (by decide); have : (0 : Int) ≤ gI qr13s 2 ∧ gI qr13s 2 ≤ 1600 := hRqr13s.1 2; have : gI qr3s 5 = gI s 5 := Fqr3s.1 5 (by decide); have : gI qr8s 3 = gI qr3s 3 := Fqr8s.1 3 (by decide); have : (0 : Int) ≤ gI qr8s 2 ∧ gI qr8s 2 ≤ 1600 := hRqr8s.1 2; have : (0 : Int) ≤ gI s 5 ∧ gI s 5 ≤ 5 := hRs.1 5; have : gI qr3s 3 = gI s 3 := Fqr3s.1 3 (by decide); have : (0 : Int) ≤ gI qr3s 2 ∧ gI qr3s 2 ≤ 1600 := hRqr3s.1 2; have : (0 : Int) ≤ gI s 3 ∧ gI s 3 ≤ 1600 := hRs.1 3; have : (0 : Int) ≤ gI s 2 ∧ gI s 2 ≤ 1600 := hRs.1 2; have : gI qr33s 3 = gI qr28s 3 := Fqr33s.1 3 (by decide); have : (0 : Int) ≤ gI qr33s 2 ∧ gI qr33s 2 ≤ 1600 := hRqr33s.1 2; omega) (fun j hj => hRqr33s.2.1 98 j hj) (by decide)) (fun qqr38 eqr38s hqr38s => ?_)
                obtain ⟨qr38r, qr38s⟩ := qqr38
                dsimp only at eqr38s hqr38s ⊢
                have Fqr38s : F_x12_isHere qr33s qr38s := fr_x12_isHere eqr38s
                obtain ⟨hRqr38s, hqr38s_0, hqr38s_1, hqr38s_2, hqr38s_3, hqr38s_4⟩ := hqr38s
                have hqr38s_0 : qr38r = 0 ∨ qr38r = 1 := hqr38s_0
                have hqr38s_1 : gI qr33s 2 ≤ gI qr38s 2 ∧ gI qr38s 2 ≤ gI qr38s 3 := hqr38s_1
                have hqr38s_2 : qr38r = 1 → gI qr38s 2 + ((5 : Int) : Int) ≤ gI qr38s 3 := hqr38s_2
                have hqr38s_3 : qr38r = 1 → gI qr33s 5 = 0 := hqr38s_3
                have hqr38s_4 : NB qr33s → NB qr38s ∧ gI qr38s 2 = gI qr33s 2 := hqr38s_4
                refine wp_rg (by have : gI qr33s 5 = gI qr28s 5 := Fqr33s.1 5 (by decide); have : gI qr38s 3 = gI qr33s 3 := Fqr38s.1 3 (by decide); have : (0 : Int) ≤ gI qr38s 2 ∧ gI qr38s 2 ≤ 1600 := hRqr38s.1 2; have : gI qr28s 5 = gI qr23s 5 := Fqr28s.1 5 (by decide); have : gI qr33s 3 = gI qr28s 3 := Fqr33s.1 3 (by decide); have : (0 : Int) ≤ gI qr33s 2 ∧ gI qr33s 2 ≤ 1600 := hRqr33s.1 2; have : gI qr23s 5 = gI qr18s 5 := Fqr23s.1 5 (by decide); have : gI qr28s 3 = gI qr23s 3 := Fqr28s.1 3 (by decide); have : (0 : Int) ≤ gI qr28s 2 ∧ gI qr28s 2 ≤ 1600 := hRqr28s.1 2; have : gI qr18s 5 = gI qr13s 5 := Fqr18s.1 5 (by decide); have : gI qr23s 3 = gI qr18s 3 := Fqr23s.1 3 (by decide); have : (0 : Int) ≤ gI qr23s 2 ∧ gI qr23s 2 ≤ 1600 := hRqr23s.1 2; have : gI qr13s 5 = gI qr8s 5 := Fqr13s.1 5 (by decide); have : gI qr18s 3 = gI qr13s 3 := Fqr18s.1 3 (by decide); have : (0 : Int) ≤ gI qr18s 2 ∧ gI qr18s 2 ≤ 1600 := hRqr18s.1 2; have : gI qr8s 5 = gI qr3s 5 := Fqr8s.1 5 (by decide); have : gI qr13s 3 = gI qr8s 3 := Fqr13s.1 3 (by decide); have : (0 : Int) ≤ gI qr13s 2 ∧ gI qr13s 2 ≤ 1600 := hRqr13s.1 2; have : gI qr3s 5 = gI s 5 := Fqr3s.1 5 (by decide); have : gI qr8s 3 = gI qr3s 3 := Fqr8s.1 3 (by decide); have : (0 : Int) ≤ gI qr8s 2 ∧ gI qr8s 2 ≤ 1600 := hRqr8s.1 2; have : (0 : Int) ≤ gI s 5 ∧ gI s 5 ≤ 5 := hRs.1 5; have : gI qr3s 3 = gI s 3 := Fqr3s.1 3 (by decide); have : (0 : Int) ≤ gI qr3s 2 ∧ gI qr3s 2 ≤ 1600 := hRqr3s.1 2; have : (0 : Int) ≤ gI s 3 ∧ gI s 3 ≤ 1600 := hRs.1 3; have : (0 : Int) ≤ gI s 2 ∧ gI s 2 ≤ 1600 := hRs.1 2; omega) ?_
                refine wp_if (fun c8 => ?_) (fun c8 => ?_)
                · skip
                  refine wp_bn (w_x12_isHere hRqr38s (by show gI qr38s 2 ≤ gI qr38s 3; have : gI qr33s 5 = gI qr28s 5 := Fqr33s.1 5 (by decide); have : gI qr28s 5 = gI qr23s 5 := Fqr28s.1 5 (by decide); have : gI qr33s 3 = gI qr28s 3 := Fqr33s.1 3 (by decide); have : (0 : Int) ≤ gI qr33s 2 ∧ gI qr33s 2 ≤ 1600 := hRqr33s.1 2; have : gI qr23s 5 = gI qr18s 5 := Fqr23s.1 5 (by decide); have : gI qr28s 3 = gI qr23s 3 := Fqr28s.1 3 (by decide); have : (0 : Int) ≤ gI qr28s 2 ∧ gI qr28s 2 ≤ 1600 := hRqr28s.1 2; have : gI qr18s 5 = gI qr13s 5 := Fqr18s.1 5 (by decide); have : gI qr23s 3 = gI qr18s 3 := Fqr23s.1 3 (by decide); have : (0 : Int) ≤ gI qr23s 2 ∧ gI qr23s 2 ≤ 1600 := hRqr23s.1 2; have : gI qr13s 5 = gI qr8s 5 := Fqr13s.1 5 (by decide); have : gI qr18s 3 = gI qr13s 3 := Fqr18s.1 3 (by decide); have : (0 : Int) ≤ gI qr18s 2 ∧ gI qr18s 2 ≤ 1600 := hRqr18s.1 2; have : gI qr8s 5 = gI qr3s 5 := Fqr8s.1 5 (by decide); have : gI qr13s 3 = gI qr8s 3 := Fqr13s.1 3 (by decide); have : (0 : Int) ≤ gI qr13s 2 ∧ gI qr13s 2 ≤ 1600 := hRqr13s.1 2; have : gI qr3s 5 = gI s 5 := Fqr3s.1 5 (by decide); have : gI qr8s 3 = gI qr3s 3 := Fqr8s.1 3 (by decide); have : (0 : Int) ≤ gI qr8s 2 ∧ gI qr8s 2 ≤ 1600 := hRqr8s.1 2; have : (0 : Int) ≤ gI s 5 ∧ gI s 5 ≤ 5 := hRs.1 5; have : gI qr3s 3 = gI s 3 := Fqr3s.1 3 (by decide); have : (0 : Int) ≤ gI qr3s 2 ∧ gI qr3s 2 ≤ 1600 := hRqr3s.1 2; have : (0 : Int) ≤ gI s 3 ∧ gI s 3 ≤ 1600 := hRs.1 3; have : (0 : Int) ≤ gI s 2 ∧ gI s 2 ≤ 1600 := hRs.1 2; have : gI qr38s 3 = gI qr33s 3 := Fqr38s.1 3 (by decide); have : (0 : Int) ≤ gI qr38s 2 ∧ gI qr38s 2 ≤ 1600 := hRqr38s.1 2; omega) (fun j hj => hRqr38s.2.1 99 j hj) (by decide)) (fun qqr43 eqr43s hqr43s => ?_)
                  obtain ⟨qr43r, qr43s⟩ := qqr43
                  dsimp only at eqr43s hqr43s ⊢
                  have Fqr43s : F_x12_isHere qr38s qr43s := fr_x12_isHere eqr43s
                  obtain ⟨hRqr43s, hqr43s_0, hqr43s_1, hqr43s_2, hqr43s_3, hqr43s_4⟩ := hqr43s
                  have hqr43s_0 : qr43r = 0 ∨ qr43r = 1 := hqr43s_0
                  have hqr43s_1 : gI qr38s 2 ≤ gI qr43s 2 ∧ gI qr43s 2 ≤ gI qr43s 3 := hqr43s_1
                  have hqr43s_2 : qr43r = 1 → gI qr43s 2 + ((4 : Int) : Int) ≤ gI qr43s 3 := hqr43s_2
                  have hqr43s_3 : qr43r = 1 → gI qr38s 5 = 0 := hqr43s_3
                  have hqr43s_4 : NB qr38s → NB qr43s ∧ gI qr43s 2 = gI qr38s 2 := hqr43s_4
                  refine wp_rg (by have : gI qr38s 5 = gI qr33s 5 := Fqr38s.1 5 (by decide); have : gI qr43s 3 = gI qr38s 3 := Fqr43s.1 3 (by decide); have : (0 : Int) ≤ gI qr43s 2 ∧ gI qr43s 2 ≤ 1600 := hRqr43s.1 2; have : gI qr33s 5 = gI qr28s 5 := Fqr33s.1 5 (by decide); have : gI qr38s 3 = gI qr33s 3 := Fqr38s.1 3 (by decide); have : (0 : Int) ≤ gI qr38s 2 ∧ gI qr38s 2 ≤ 1600 := hRqr38s.1 2; have : gI qr28s 5 = gI qr23s 5 := Fqr28s.1 5 (by decide); have : gI qr33s 3 = gI qr28s 3 := Fqr33s.1 3 (by decide); have : (0 : Int) ≤ gI qr33s 2 ∧ gI qr33s 2 ≤ 1600 := hRqr33s.1 2; have : gI qr23s 5 = gI qr18s 5 := Fqr23s.1 5 (by decide); have : gI qr28s 3 = gI qr23s 3 := Fqr28s.1 3 (by decide); have : (0 : Int) ≤ gI qr28s 2 ∧ gI qr28s 2 ≤ 1600 := hRqr28s.1 2; have : gI qr18s 5 = gI qr13s 5 := Fqr18s.1 5 (by decide); have : gI qr23s 3 = gI qr18s 3 := Fqr23s.1 3 (by decide); have : (0 : Int) ≤ gI qr23s 2 ∧ gI qr23s 2 ≤ 1600 := hRqr23s.1 2; have : gI qr13s 5 = gI qr8s 5 := Fqr13s.1 5 (by decide); have : gI qr18s 3 = gI qr13s 3 := Fqr18s.1 3 (by decide); have : (0 : Int) ≤ gI qr18s 2 ∧ gI qr18s 2 ≤ 1600 := hRqr18s.1 2; have : gI qr8s 5 = gI qr3s 5 := Fqr8s.1 5 (by decide); have : gI qr13s 3 = gI qr8s 3 := Fqr13s.1 3 (by decide); have : (0 : Int) ≤ gI qr13s 2 ∧ gI qr13s 2 ≤ 1600 := hRqr13s.1 2; have : gI qr3s 5 = gI s 5 := Fqr3s.1 5 (by decide); have : gI qr8s 3 = gI qr3s 3 := Fqr8s.1 3 (by decide); have : (0 : Int) ≤ gI qr8s 2 ∧ gI qr8s 2 ≤ 1600 := hRqr8s.1 2; have : (0 : Int) ≤ gI s 5 ∧ gI s 5 ≤ 5 := hRs.1 5; have : gI qr3s 3 = gI s 3 := Fqr3s.1 3 (by decide); have : (0 : Int) ≤ gI qr3s 2 ∧ gI qr3s 2 ≤ 1600 := hRqr3s.1 2; have : (0 : Int) ≤ gI s 3 ∧ gI s 3 ≤ 1600 := hRs.1 3; have : (0 : Int) ≤ gI s 2 ∧ gI s 2 ≤ 1600 := hRs.1 2; omega) ?_
                  refine wp_if (fun c9 => ?_) (fun c9 => ?_)
                  · skip
                    refine wp_bn (w_x12_isHere hRqr43s (by show gI qr43s 2 ≤ gI qr43s 3; have : gI qr38s 5 = gI qr33s 5 := Fqr38s.1 5 (by decide); have : gI qr33s 5 = gI qr28s 5 := Fqr33s.1 5 (by decide); have : gI qr38s 3 = gI qr33s 3 := Fqr38s.1 3 (by decide); have : (0 : Int) ≤ gI qr38s 2 ∧ gI qr38s 2 ≤ 1600 := hRqr38s.1 2; have : gI qr28s 5 = gI qr23s 5 := Fqr28s.1 5 (by decide); have : gI qr33s 3 = gI qr28s 3 := Fqr33s.1 3 (by decide); have : (0 : Int) ≤ gI qr33s 2 ∧ gI qr33s 2 ≤ 1600 := hRqr33s.1 2; have : gI qr23s 5 = gI qr18s 5 := Fqr23s.1 5 (by decide); have : gI qr28s 3 = gI qr23s 3 := Fqr28s.1 3 (by decide); have : (0 : Int) ≤ gI qr28s 2 ∧ gI qr28s 2 ≤ 1600 := hRqr28s.1 2; have : gI qr18s 5 = gI qr13s 5 := Fqr18s.1 5 (by decide); have : gI qr23s 3 = gI qr18s 3 := Fqr23s.1 3 (by decide); have : (0 : Int) ≤ gI qr23s 2 ∧ gI qr23s 2 ≤ 1600 := hRqr23s.1 2; have : gI qr13s 5 = gI qr8s 5 := Fqr13s.1 5 (by decide); have : gI qr18s 3 = gI qr13s 3 := Fqr18s.1 3 (by decide); have : (0 : Int) ≤ gI qr18s 2 ∧ gI qr18s 2 ≤ 1600 := hRqr18s.1 2; have : gI qr8s 5 = gI qr3s 5 := Fqr8s.1 5 (by decide); have : gI qr13s 3 = gI qr8s 3 := Fqr13s.1 3 (by decide); have : (0 : Int) ≤ gI qr13s 2 ∧ gI qr13s 2 ≤ 1600 := hRqr13s.1 2; have : gI qr3s 5 = gI s 5 := Fqr3s.1 5 (by decide); have : gI qr8s 3 = gI qr3s 3 := Fqr8s.1 3 (by decide); have : (0 : Int) ≤ gI qr8s 2 ∧ gI qr8s 2 ≤ 1600 := hRqr8s.1 2; have : (0 : Int) ≤ gI s 5 ∧ gI s 5 ≤ 5 := hRs.1 5; have : gI qr3s 3 = gI s 3 := Fqr3s.1 3 (by decide); have : (0 : Int) ≤ gI qr3s 2 ∧ gI qr3s 2 ≤ 1600 := hRqr3s.1 2; have : (0 : Int) ≤ gI s 3 ∧ gI s 3 ≤ 1600 := hRs.1 3; have : (0 : Int) ≤ gI s 2 ∧ gI s 2 ≤ 1600 := hRs.1 2; have : gI qr43s 3 = gI qr38s 3 := Fqr43s.1 3 (by decide); have : (0 : Int) ≤ gI qr43s 2 ∧ gI qr43s 2 ≤ 1600 := hRqr43s.1 2; omega) (fun j hj => hRqr43s.2.1 100 j hj) (by decide)) (fun qqr48 eqr48s hqr48s => ?_)
                    obtain ⟨qr48r, qr48s⟩ := qqr48
                    dsimp only at eqr48s hqr48s ⊢
                    have Fqr48s : F_x12_isHere qr43s qr48s := fr_x12_isHere eqr48s
                    obtain ⟨hRqr48s, hqr48s_0, hqr48s_1, hqr48s_2, hqr48s_3, hqr48s_4⟩ := hqr48s
                    have hqr48s_0 : qr48r = 0 ∨ qr48r = 1 := hqr48s_0
                    have hqr48s_1 : gI qr43s 2 ≤ gI qr48s 2 ∧ gI qr48s 2 ≤ gI qr48s 3 := hqr48s_1
                    have hqr48s_2 : qr48r = 1 → gI qr48s 2 + ((3 : Int) : Int) ≤ gI qr48s 3 := hqr48s_2
                    have hqr48s_3 : qr48r = 1 → gI qr43s 5 = 0 := hqr48s_3
                    have hqr48s_4 : NB qr43s → NB qr48s ∧ gI qr48s 2 = gI qr43s 2 := hqr48s_4
                    refine wp_rg (by have : gI qr43s 5 = gI qr38s 5 := Fqr43s.1 5 (by decide); have : gI qr48s 3 = gI qr43s 3 := Fqr48s.1 3 (by decide); have : (0 : Int) ≤ gI qr48s 2 ∧ gI qr48s 2 ≤ 1600 := hRqr48s.1 2; have : gI qr38s 5 = gI qr33s 5 := Fqr38s.1 5 (by decide); have : gI qr43s 3 = gI qr38s 3 := Fqr43s.1 3 (by decide); have : (0 : Int) ≤ gI qr43s 2 ∧ gI qr43s 2 ≤ 1600 := hRqr43s.1 2; have : gI qr33s 5 = gI qr28s 5 := Fqr33s.1 5 (by decide); have : gI qr38s 3 = gI qr33s 3 := Fqr38s.1 3 (by decide); have : (0 : Int) ≤ gI qr38s 2 ∧ gI qr38s 2 ≤ 1600 := hRqr38s.1 2; have : gI qr28s 5 = gI qr23s 5 := Fqr28s.1 5 (by decide); have : gI qr33s 3 = gI qr28s 3 := Fqr33s.1 3 (by decide); have : (0 : Int) ≤ gI qr33s 2 ∧ gI qr33s 2 ≤ 1600 := hRqr33s.1 2; have : gI qr23s 5 = gI qr18s 5 := Fqr23s.1 5 (by decide); have : gI qr28s 3 = gI qr23s 3 := Fqr28s.1 3 (by decide); have : (0 : Int) ≤ gI qr28s 2 ∧ gI qr28s 2 ≤ 1600 := hRqr28s.1 2; have : gI qr18s 5 = gI qr13s 5 := Fqr18s.1 5 (by decide); have : gI qr23s 3 = gI qr18s 3 := Fqr23s.1 3 (by decide); have : (0 : Int) ≤ gI qr23s 2 ∧ gI qr23s 2 ≤ 1600 := hRqr23s.1 2; have : gI qr13s 5 = gI qr8s 5 := Fqr13s.1 5 (by decide); have : gI qr18s 3 = gI qr13s 3 := Fqr18s.1 3 (by decide); have : (0 : Int) ≤ gI qr18s 2 ∧ gI qr18s 2 ≤ 1600 := hRqr18s.1 2; have : gI qr8s 5 = gI qr3s 5 := Fqr8s.1 5 (by decide); have : gI qr13s 3 = gI qr8s 3 := Fqr13s.1 3 (by decide); have : (0 : Int) ≤ gI qr13s 2 ∧ gI qr13s 2 ≤ 1600 := hRqr13s.1 2; have : gI qr3s 5 = gI s 5 := Fqr3s.1 5 (by decide); have : gI qr8s 3 = gI qr3s 3 := Fqr8s.1 3 (by decide); have : (0 : Int) ≤ gI qr8s 2 ∧ gI qr8s 2 ≤ 1600 := hRqr8s.1 2; have : (0 : Int) ≤ gI s 5 ∧ gI s 5 ≤ 5 := hRs.1 5; have : gI qr3s 3 = gI s 3 := Fqr3s.1 3 (by decide); have : (0 : Int) ≤ gI qr3s 2 ∧ gI qr3s 2 ≤ 1600 := hRqr3s.1 2; have : (0 : Int) ≤ gI s 3 ∧ gI s 3 ≤ 1600 := hRs.1 3; have : (0 : Int) ≤ gI s 2 ∧ gI s 2 ≤ 1600 := hRs.1 2; omega) ?_
                    refine wp_if (fun c10 => ?_) (fun c10 => ?_)
                    · skip
                      exact wp_some ⟨hRqr48s, by show (-1) ≤ ((-1) ) ∧ ((-1) ) ≤ 9; have : gI qr43s 5 = gI qr38s 5 := Fqr43s.1 5 (by decide); have : gI qr48s 3 = gI qr43s 3 := Fqr48s.1 3 (by decide); have : (0 : Int) ≤ gI qr48s 2 ∧ gI qr48s 2 ≤ 1600 := hRqr48s.1 2; have : gI qr38s 5 = gI qr33s 5 := Fqr38s.1 5 (by decide); have : gI qr43s 3 = gI qr38s 3 := Fqr43s.1 3 (by decide); have : (0 : Int) ≤ gI qr43s 2 ∧ gI qr43s 2 ≤ 1600 := hRqr43s.1 2; have : gI qr33s 5 = gI qr28s 5 := Fqr33s.1 5 (by decide); have : gI qr38s 3 = gI qr33s 3 := Fqr38s.1 3 (by decide); have : (0 : Int) ≤ gI qr38s 2 ∧ gI qr38s 2 ≤ 1600 := hRqr38s.1 2; have : gI qr28s 5 = gI qr23s 5 := Fqr28s.1 5 (by decide); have : gI qr33s 3 = gI qr28s 3 := Fqr33s.1 3 (by decide); have : (0 : Int) ≤ gI qr33s 2 ∧ gI qr33s 2 ≤ 1600 := hRqr33s.1 2; have : gI qr23s 5 = gI qr18s 5 := Fqr23s.1 5 (by decide); have : gI qr28s 3 = gI qr23s 3 := Fqr28s.1 3 (by decide); have : (0 : Int) ≤ gI qr28s 2 ∧ gI qr28s 2 ≤ 1600 := hRqr28s.1 2; have : gI qr18s 5 = gI qr13s 5 := Fqr18s.1 5 (by decide); have : gI qr23s 3 = gI qr18s 3 := Fqr23s.1 3 (by decide); have : (0 : Int) ≤ gI qr23s 2 ∧ gI qr23s 2 ≤ 1600 := hRqr23s.1 2; have : gI qr13s 5 = gI qr8s 5 := Fqr13s.1 5 (by decide); have : gI qr18s 3 = gI qr13s 3 := Fqr18s.1 3 (by decide); have : (0 : Int) ≤ gI qr18s 2 ∧ gI qr18s 2 ≤ 1600 := hRqr18s.1 2; have : gI qr8s 5 = gI qr3s 5 := Fqr8s.1 5 (by decide); have : gI qr13s 3 = gI qr8s 3 := Fqr13s.1 3 (by decide); have : (0 : Int) ≤ gI qr13s 2 ∧ gI qr13s 2 ≤ 1600 := hRqr13s.1 2; have : gI qr3s 5 = gI s 5 := Fqr3s.1 5 (by decide); have : gI qr8s 3 = gI qr3s 3 := Fqr8s.1 3 (by decide); have : (0 : Int) ≤ gI qr8s 2 ∧ gI qr8s 2 ≤ 1600 := hRqr8s.1 2; have : (0 : Int) ≤ gI s 5 ∧ gI s 5 ≤ 5 := hRs.1 5; have : gI qr3s 3 = gI s 3 := Fqr3s.1 3 (by decide); have : (0 : Int) ≤ gI qr3s 2 ∧ gI qr3s 2 ≤ 1600 := hRqr3s.1 2; have : (0 : Int) ≤ gI s 3 ∧ gI s 3 ≤ 1600 := hRs.1 3; have : (0 : Int) ≤ gI s 2 ∧ gI s 2 ≤ 1600 := hRs.1 2; omega, by show gI s 2 ≤ gI qr48s 2 ∧ gI qr48s 2 ≤ gI qr48s 3; have : gI qr43s 5 = gI qr38s 5 := Fqr43s.1 5 (by decide); have : gI qr38s 5 = gI qr33s 5 := Fqr38s.1 5 (by decide); have : gI qr43s 3 = gI qr38s 3 := Fqr43s.1 3 (by decide); have : (0 : Int) ≤ gI qr43s 2 ∧ gI qr43s 2 ≤ 1600 := hRqr43s.1 2; have : gI qr33s 5 = gI qr28s 5 := Fqr33s.1 5 (by decide); have : gI qr38s 3 = gI qr33s 3 := Fqr38s.1 3 (by decide); have : (0 : Int) ≤ gI qr38s 2 ∧ gI qr38s 2 ≤ 1600 := hRqr38s.1 2; have : gI qr28s 5 = gI qr23s 5 := Fqr28s.1 5 (by decide); have : gI qr33s 3 = gI qr28s 3 := Fqr33s.1 3 (by decide); have : (0 : Int) ≤ gI qr33s 2 ∧ gI qr33s 2 ≤ 1600 := hRqr33s.1 2; have : gI qr23s 5 = gI qr18s 5 := Fqr23s.1 5 (by decide); have : gI qr28s 3 = gI qr23s 3 := Fqr28s.1 3 (by decide); have : (0 : Int) ≤ gI qr28s 2 ∧ gI qr28s 2 ≤ 1600 := hRqr28s.1 2; have : gI qr18s 5 = gI qr13s 5 := Fqr18s.1 5 (by decide); have : gI qr23s 3 = gI qr18s 3 := Fqr23s.1 3 (by decide); have : (0 : Int) ≤ gI qr23s 2 ∧ gI qr23s 2 ≤ 1600 := hRqr23s.1 2; have : gI qr13s 5 = gI qr8s 5 := Fqr13s.1 5 (by decide); have : gI qr18s 3 = gI qr13s 3 := Fqr18s.1 3 (by decide); have : (0 : Int) ≤ gI qr18s 2 ∧ gI qr18s 2 ≤ 1600 := hRqr18s.1 2; have : gI qr8s 5 = gI qr3s 5 := Fqr8s.1 5 (by decide); have : gI qr13s 3 = gI qr8s 3 := Fqr13s.1 3 (by decide); have : (0 : Int) ≤ gI qr13s 2 ∧ gI qr13s 2 ≤ 1600 := hRqr13s.1 2; have : gI qr3s 5 = gI s 5 := Fqr3s.1 5 (by decide); have : gI qr8s 3 = gI qr3s 3 := Fqr8s.1 3 (by decide); have : (0 : Int) ≤ gI qr8s 2 ∧ gI qr8s 2 ≤ 1600 := hRqr8s.1 2; have : (0 : Int) ≤ gI s 5 ∧ gI s 5 ≤ 5 := hRs.1 5; have : gI qr3s 3 = gI s 3 := Fqr3s.1 3 (by decide); have : (0 : Int) ≤ gI qr3s 2 ∧ gI qr3s 2 ≤ 1600 := hRqr3s.1 2; have : (0 : Int) ≤ gI s 3 ∧ gI s 3 ≤ 1600 := hRs.1 3; have : gI qr48s 3 = gI qr43s 3 := Fqr48s.1 3 (by decide); have : (0 : Int) ≤ gI qr48s 2 ∧ gI qr48s 2 ≤ 1600 := hRqr48s.1 2; have : (0 : Int) ≤ gI s 2 ∧ gI s 2 ≤ 1600 := hRs.1 2; omega, fun h9 => have h_qr3s := hqr3s_4 h9; have h_qr8s := hqr8s_4 h_qr3s.1; have h_qr13s := hqr13s_4 h_qr8s.1; have h_qr18s := hqr18s_4 h_qr13s.1; have h_qr23s := hqr23s_4 h_qr18s.1; have h_qr28s := hqr28s_4 h_qr23s.1; have h_qr33s := hqr33s_4 h_qr28s.1; have h_qr38s := hqr38s_4 h_qr33s.1; have h_qr43s := hqr43s_4 h_qr38s.1; have h_qr48s := hqr48s_4 h_qr43s.1; ⟨h_qr48s.1, h_qr48s.2.trans (h_qr43s.2.trans (h_qr38s.2.trans (h_qr33s.2.trans (h_qr28s.2.trans (h_qr23s.2.trans (h_qr18s.2.trans (h_qr13s.2.trans (h_qr8s.2.trans (h_qr3s.2)))))))))⟩, by show ((-1) ) ≠ -1 → gI s 5 = 0; have : gI qr43s 5 = gI qr38s 5 := Fqr43s.1 5 (by decide); have : gI qr48s 3 = gI qr43s 3 := Fqr48s.1 3 (by decide); have : (0 : Int) ≤ gI qr48s 2 ∧ gI qr48s 2 ≤ 1600 := hRqr48s.1 2; have : gI qr38s 5 = gI qr33s 5 := Fqr38s.1 5 (by decide); have : gI qr43s 3 = gI qr38s 3 := Fqr43s.1 3 (by decide); have : (0 : Int) ≤ gI qr43s 2 ∧ gI qr43s 2 ≤ 1600 := hRqr43s.1 2; have : gI qr33s 5 = gI qr28s 5 := Fqr33s.1 5 (by decide); have : gI qr38s 3 = gI qr33s 3 := Fqr38s.1 3 (by decide); have : (0 : Int) ≤ gI qr38s 2 ∧ gI qr38s 2 ≤ 1600 := hRqr38s.1 2; have : gI qr28s 5 = gI qr23s 5 := Fqr28s.1 5 (by decide); have : gI qr33s 3 = gI qr28s 3 := Fqr33s.1 3 (by decide); have : (0 : Int) ≤ gI qr33s 2 ∧ gI qr33s 2 ≤ 1600 := hRqr33s.1 2; have : gI qr23s 5 = gI qr18s 5 := Fqr23s.1 5 (by decide); have : gI qr28s 3 = gI qr23s 3 := Fqr28s.1 3 (by decide); have : (0 : Int) ≤ gI qr28s 2 ∧ gI qr28s 2 ≤ 1600 := hRqr28s.1 2; have : gI qr18s 5 = gI qr13s 5 := Fqr18s.1 5 (by decide); have : gI qr23s 3 = gI qr18s 3 := Fqr23s.1 3 (by decide); have : (0 : Int) ≤ gI qr23s 2 ∧ gI qr23s 2 ≤ 1600 := hRqr23s.1 2; have : gI qr13s 5 = gI qr8s 5 := Fqr13s.1 5 (by decide); have : gI qr18s 3 = gI qr13s 3 := Fqr18s.1 3 (by decide); have : (0 : Int) ≤ gI qr18s 2 ∧ gI qr18s 2 ≤ 1600 := hRqr18s.1 2; have : gI qr8s 5 = gI qr3s 5 := Fqr8s.1 5 (by decide); have : gI qr13s 3 = gI qr8s 3 := Fqr13s.1 3 (by decide); have : (0 : Int) ≤ gI qr13s 2 ∧ gI qr13s 2 ≤ 1600 := hRqr13s.1 2; have : gI qr3s 5 = gI s 5 := Fqr3s.1 5 (by decide); have : gI qr8s 3 = gI qr3s 3 := Fqr8s.1 3 (by decide); have : (0 : Int) ≤ gI qr8s 2 ∧ gI qr8s 2 ≤ 1600 := hRqr8s.1 2; have : gI qr3s 3 = gI s 3 := Fqr3s.1 3 (by decide); have : (0 : Int) ≤ gI qr3s 2 ∧ gI qr3s 2 ≤ 1600 := hRqr3s.1 2; have : (0 : Int) ≤ gI s 3 ∧ gI s 3 ≤ 1600 := hRs.1 3; have : (0 : Int) ≤ gI s 2 ∧ gI s 2 ≤ 1600 := hRs.1 2; have : (0 : Int) ≤ gI s 5 ∧ gI s 5 ≤ 5 := hRs.1 5; omega⟩
                    · skip
                      exact wp_some ⟨hRqr48s, by show (-1) ≤ (9 : Int) ∧ (9 : Int) ≤ 9; have : gI qr43s 5 = gI qr38s 5 := Fqr43s.1 5 (by decide); have : gI qr48s 3 = gI qr43s 3 := Fqr48s.1 3 (by decide); have : (0 : Int) ≤ gI qr48s 2 ∧ gI qr48s 2 ≤ 1600 := hRqr48s.1 2; have : gI qr38s 5 = gI qr33s 5 := Fqr38s.1 5 (by decide); have : gI qr43s 3 = gI qr38s 3 := Fqr43s.1 3 (by decide); have : (0 : Int) ≤ gI qr43s 2 ∧ gI qr43s 2 ≤ 1600 := hRqr43s.1 2; have : gI qr33s 5 = gI qr28s 5 := Fqr33s.1 5 (by decide); have : gI qr38s 3 = gI qr33s 3 := Fqr38s.1 3 (by decide); have : (0 : Int) ≤ gI qr38s 2 ∧ gI qr38s 2 ≤ 1600 := hRqr38s.1 2; have : gI qr28s 5 = gI qr23s 5 := Fqr28s.1 5 (by decide); have : gI qr33s 3 = gI qr28s 3 := Fqr33s.1 3 (by decide); have : (0 : Int) ≤ gI qr33s 2 ∧ gI qr33s 2 ≤ 1600 := hRqr33s.1 2; have : gI qr23s 5 = gI qr18s 5 := Fqr23s.1 5 (by decide); have : gI qr28s 3 = gI qr23s 3 := Fqr28s.1 3 (by decide); have : (0 : Int) ≤ gI qr28s 2 ∧ gI qr28s 2 ≤ 1600 := hRqr28s.1 2; have : gI qr18s 5 = gI qr13s 5 := Fqr18s.1 5 (by decide); have : gI qr23s 3 = gI qr18s 3 := Fqr23s.1 3 (by decide); have : (0 : Int) ≤ gI qr23s 2 ∧ gI qr23s 2 ≤ 1600 := hRqr23s.1 2; have : gI qr13s 5 = gI qr8s 5 := Fqr13s.1 5 (by decide); have : gI qr18s 3 = gI qr13s 3 := Fqr18s.1 3 (by decide); have : (0 : Int) ≤ gI qr18s 2 ∧ gI qr18s 2 ≤ 1600 := hRqr18s.1 2; have : gI qr8s 5 = gI qr3s 5 := Fqr8s.1 5 (by decide); have : gI qr13s 3 = gI qr8s 3 := Fqr13s.1 3 (by decide); have : (0 : Int) ≤ gI qr13s 2 ∧ gI qr13s 2 ≤ 1600 := hRqr13s.1 2; have : gI qr3s 5 = gI s 5 := Fqr3s.1 5 (by decide); have : gI qr8s 3 = gI qr3s 3 := Fqr8s.1 3 (by decide); have : (0 : Int) ≤ gI qr8s 2 ∧ gI qr8s 2 ≤ 1600 := hRqr8s.1 2; have : (0 : Int) ≤ gI s 5 ∧ gI s 5 ≤ 5 := hRs.1 5; have : gI qr3s 3 = gI s 3 := Fqr3s.1 3 (by decide); have : (0 : Int) ≤ gI qr3s 2 ∧ gI qr3s 2 ≤ 1600 := hRqr3s.1 2; have : (0 : Int) ≤ gI s 3 ∧ gI s 3 ≤ 1600 := hRs.1 3; have : (0 : Int) ≤ gI s 2 ∧ gI s 2 ≤ 1600 := hRs.1 2; omega, by show gI s 2 ≤ gI qr48s 2 ∧ gI qr48s 2 ≤ gI qr48s 3; have : gI qr43s 5 = gI qr38s 5 := Fqr43s.1 5 (by decide); have : gI qr38s 5 = gI qr33s 5 := Fqr38s.1 5 (by decide); have : gI qr43s 3 = gI qr38s 3 := Fqr43s.1 3 (by decide); have : (0 : Int) ≤ gI qr43s 2 ∧ gI qr43s 2 ≤ 1600 := hRqr43s.1 2; have : gI qr33s 5 = gI qr28s 5 := Fqr33s.1 5 (by decide); have : gI qr38s 3 = gI qr33s 3 := Fqr38s.1 3 (by decide); have : (0 : Int) ≤ gI qr38s 2 ∧ gI qr38s 2 ≤ 1600 := hRqr38s.1 2; have : gI qr28s 5 = gI qr23s 5 := Fqr28s.1 5 (by decide); have : gI qr33s 3 = gI qr28s 3 := Fqr33s.1 3 (by decide); have : (0 : Int) ≤ gI qr33s 2 ∧ gI qr33s 2 ≤ 1600 := hRqr33s.1 2; have : gI qr23s 5 = gI qr18s 5 := Fqr23s.1 5 (by decide); have : gI qr28s 3 = gI qr23s 3 := Fqr28s.1 3 (by decide); have : (0 : Int) ≤ gI qr28s 2 ∧ gI qr28s 2 ≤ 1600 := hRqr28s.1 2; have : gI qr18s 5 = gI qr13s 5 := Fqr18s.1 5 (by decide); have : gI qr23s 3 = gI qr18s 3 := Fqr23s.1 3 (by decide); have : (0 : Int) ≤ gI qr23s 2 ∧ gI qr23s 2 ≤ 1600 := hRqr23s.1 2; have : gI qr13s 5 = gI qr8s 5 := Fqr13s.1 5 (by decide); have : gI qr18s 3 = gI qr13s 3 := Fqr18s.1 3 (by decide); have : (0 : Int) ≤ gI qr18s 2 ∧ gI qr18s 2 ≤ 1600 := hRqr18s.1 2; have : gI qr8s 5 = gI qr3s 5 := Fqr8s.1 5 (by decide); have : gI qr13s 3 = gI qr8s 3 := Fqr13s.1 3 (by decide); have : (0 : Int) ≤ gI qr13s 2 ∧ gI qr13s 2 ≤ 1600 := hRqr13s.1 2; have : gI qr3s 5 = gI s 5 := Fqr3s.1 5 (by decide); have : gI qr8s 3 = gI qr3s 3 := Fqr8s.1 3 (by decide); have : (0 : Int) ≤ gI qr8s 2 ∧ gI qr8s 2 ≤ 1600 := hRqr8s.1 2; have : (0 : Int) ≤ gI s 5 ∧ gI s 5 ≤ 5 := hRs.1 5; have : gI qr3s 3 = gI s 3 := Fqr3s.1 3 (by decide); have : (0 : Int) ≤ gI qr3s 2 ∧ gI qr3s 2 ≤ 1600 := hRqr3s.1 2; have : (0 : Int) ≤ gI s 3 ∧ gI s 3 ≤ 1600 := hRs.1 3; have : gI qr48s 3 = gI qr43s 3 := Fqr48s.1 3 (by decide); have : (0 : Int) ≤ gI qr48s 2 ∧ gI qr48s 2 ≤ 1600 := hRqr48s.1 2; have : (0 : Int) ≤ gI s 2 ∧ gI s 2 ≤ 1600 := hRs.1 2; omega, fun h9 => have h_qr3s := hqr3s_4 h9; have h_qr8s := hqr8s_4 h_qr3s.1; have h_qr13s := hqr13s_4 h_qr8s.1; have h_qr18s := hqr18s_4 h_qr13s.1; have h_qr23s := hqr23s_4 h_qr18s.1; have h_qr28s := hqr28s_4 h_qr23s.1; have h_qr33s := hqr33s_4 h_qr28s.1; have h_qr38s := hqr38s_4 h_qr33s.1; have h_qr43s := hqr43s_4 h_qr38s.1; have h_qr48s := hqr48s_4 h_qr43s.1; ⟨h_qr48s.1, h_qr48s.2.trans (h_qr43s.2.trans (h_qr38s.2.trans (h_qr33s.2.trans (h_qr28s.2.trans (h_qr23s.2.trans (h_qr18s.2.trans (h_qr13s.2.trans (h_qr8s.2.trans (h_qr3s.2)))))))))⟩, by show (9 : Int) ≠ -1 → gI s 5 = 0; have : gI qr43s 5 = gI qr38s 5 := Fqr43s.1 5 (by decide); have : gI qr48s 3 = gI qr43s 3 := Fqr48s.1 3 (by decide); have : (0 : Int) ≤ gI qr48s 2 ∧ gI qr48s 2 ≤ 1600 := hRqr48s.1 2; have : gI qr38s 5 = gI qr33s 5 := Fqr38s.1 5 (by decide); have : gI qr43s 3 = gI qr38s 3 := Fqr43s.1 3 (by decide); have : (0 : Int) ≤ gI qr43s 2 ∧ gI qr43s 2 ≤ 1600 := hRqr43s.1 2; have : gI qr33s 5 = gI qr28s 5 := Fqr33s.1 5 (by decide); have : gI qr38s 3 = gI qr33s 3 := Fqr38s.1 3 (by decide); have : (0 : Int) ≤ gI qr38s 2 ∧ gI qr38s 2 ≤ 1600 := hRqr38s.1 2; have : gI qr28s 5 = gI qr23s 5 := Fqr28s.1 5 (by decide); have : gI qr33s 3 = gI qr28s 3 := Fqr33s.1 3 (by decide); have : (0 : Int) ≤ gI qr33s 2 ∧ gI qr33s 2 ≤ 1600 := hRqr33s.1 2; have : gI qr23s 5 = gI qr18s 5 := Fqr23s.1 5 (by decide); have : gI qr28s 3 = gI qr23s 3 := Fqr28s.1 3 (by decide); have : (0 : Int) ≤ gI qr28s 2 ∧ gI qr28s 2 ≤ 1600 := hRqr28s.1 2; have : gI qr18s 5 = gI qr13s 5 := Fqr18s.1 5 (by decide); have : gI qr23s 3 = gI qr18s 3 := Fqr23s.1 3 (by decide); have : (0 : Int) ≤ gI qr23s 2 ∧ gI qr23s 2 ≤ 1600 := hRqr23s.1 2; have : gI qr13s 5 = gI qr8s 5 := Fqr13s.1 5 (by decide); have : gI qr18s 3 = gI qr13s 3 := Fqr18s.1 3 (by decide); have : (0 : Int) ≤ gI qr18s 2 ∧ gI qr18s 2 ≤ 1600 := hRqr18s.1 2; have : gI qr8s 5 = gI qr3s 5 := Fqr8s.1 5 (by decide); have : gI qr13s 3 = gI qr8s 3 := Fqr13s.1 3 (by decide); have : (0 : Int) ≤ gI qr13s 2 ∧ gI qr13s 2 ≤ 1600 := hRqr13s.1 2; have : gI qr3s 5 = gI s 5 := Fqr3s.1 5 (by decide); have : gI qr8s 3 = gI qr3s 3 := Fqr8s.1 3 (by decide); have : (0 : Int) ≤ gI qr8s 2 ∧ gI qr8s 2 ≤ 1600 := hRqr8s.1 2; have : gI qr3s 3 = gI s 3 := Fqr3s.1 3 (by decide); have : (0 : Int) ≤ gI qr3s 2 ∧ gI qr3s 2 ≤ 1600 := hRqr3s.1 2; have : (0 : Int) ≤ gI s 3 ∧ gI s 3 ≤ 1600 := hRs.1 3; have : (0 : Int) ≤ gI s 2 ∧ gI s 2 ≤ 1600 := hRs.1 2; have : (0 : Int) ≤ gI s 5 ∧ gI s 5 ≤ 5 := hRs.1 5; omega⟩
                  · skip
                    exact wp_some ⟨hRqr43s, by show (-1) ≤ (8 : Int) ∧ (8 : Int) ≤ 9; have : gI qr38s 5 = gI qr33s 5 := Fqr38s.1 5 (by decide); have : gI qr43s 3 = gI qr38s 3 := Fqr43s.1 3 (by decide); have : (0 : Int) ≤ gI qr43s 2 ∧ gI qr43s 2 ≤ 1600 := hRqr43s.1 2; have : gI qr33s 5 = gI qr28s 5 := Fqr33s.1 5 (by decide); have : gI qr38s 3 = gI qr33s 3 := Fqr38s.1 3 (by decide); have : (0 : Int) ≤ gI qr38s 2 ∧ gI qr38s 2 ≤ 1600 := hRqr38s.1 2; have : gI qr28s 5 = gI qr23s 5 := Fqr28s.1 5 (by decide); have : gI qr33s 3 = gI qr28s 3 := Fqr33s.1 3 (by decide); have : (0 : Int) ≤ gI qr33s 2 ∧ gI qr33s 2 ≤ 1600 := hRqr33s.1 2; have : gI qr23s 5 = gI qr18s 5 := Fqr23s.1 5 (by decide); have : gI qr28s 3 = gI qr23s 3 := Fqr28s.1 3 (by decide); have : (0 : Int) ≤ gI qr28s 2 ∧ gI qr28s 2 ≤ 1600 := hRqr28s.1 2; have : gI qr18s 5 = gI qr13s 5 := Fqr18s.1 5 (by decide); have : gI qr23s 3 = gI qr18s 3 := Fqr23s.1 3 (by decide); have : (0 : Int) ≤ gI qr23s 2 ∧ gI qr23s 2 ≤ 1600 := hRqr23s.1 2; have : gI qr13s 5 = gI qr8s 5 := Fqr13s.1 5 (by decide); have : gI qr18s 3 = gI qr13s 3 := Fqr18s.1 3 (by decide); have : (0 : Int) ≤ gI qr18s 2 ∧ gI qr18s 2 ≤ 1600 := hRqr18s.1 2; have : gI qr8s 5 = gI qr3s 5 := Fqr8s.1 5 (by decide); have : gI qr13s 3 = gI qr8s 3 := Fqr13s.1 3 (by decide); have : (0 : Int) ≤ gI qr13s 2 ∧ gI qr13s 2 ≤ 1600 := hRqr13s.1 2; have : gI qr3s 5 = gI s 5 := Fqr3s.1 5 (by decide); have : gI qr8s 3 = gI qr3s 3 := Fqr8s.1 3 (by decide); have : (0 : Int) ≤ gI qr8s 2 ∧ gI qr8s 2 ≤ 1600 := hRqr8s.1 2; have : (0 : Int) ≤ gI s 5 ∧ gI s 5 ≤ 5 := hRs.1 5; have : gI qr3s 3 = gI s 3 := Fqr3s.1 3 (by decide); have : (0 : Int) ≤ gI qr3s 2 ∧ gI qr3s 2 ≤ 1600 := hRqr3s.1 2; have : (0 : Int) ≤ gI s 3 ∧ gI s 3 ≤ 1600 := hRs.1 3; have : (0 : Int) ≤ gI s 2 ∧ gI s 2 ≤ 1600 := hRs.1 2; omega, by show gI s 2 ≤ gI qr43s 2 ∧ gI qr43s 2 ≤ gI qr43s 3; have : gI qr38s 5 = gI qr33s 5 := Fqr38s.1 5 (by decide); have : gI qr33s 5 = gI qr28s 5 := Fqr33s.1 5 (by decide); have : gI qr38s 3 = gI qr33s 3 := Fqr38s.1 3 (by decide); have : (0 : Int) ≤ gI qr38s 2 ∧ gI qr38s 2 ≤ 1600 := hRqr38s.1 2; have : gI qr28s 5 = gI qr23s 5 := Fqr28s.1 5 (by decide); have : gI qr33s 3 = gI qr28s 3 := Fqr33s.1 3 (by decide); have : (0 : Int) ≤ gI qr33s 2 ∧ gI qr33s 2 ≤ 1600 := hRqr33s.1 2; have : gI qr23s 5 = gI qr18s 5 := Fqr23s.1 5 (by decide); have : gI qr28s 3 = gI qr23s 3 := Fqr28s.1 3 (by decide); have : (0 : Int) ≤ gI qr28s 2 ∧ gI qr28s 2 ≤ 1600 := hRqr28s.1 2; have : gI qr18s 5 = gI qr13s 5 := Fqr18s.1 5 (by decide); have : gI qr23s 3 = gI qr18s 3 := Fqr23s.1 3 (by decide); have : (0 : Int) ≤ gI qr23s 2 ∧ gI qr23s 2 ≤ 1600 := hRqr23s.1 2; have : gI qr13s 5 = gI qr8s 5 := Fqr13s.1 5 (by decide); have : gI qr18s 3 = gI qr13s 3 := Fqr18s.1 3 (by decide); have : (0 : Int) ≤ gI qr18s 2 ∧ gI qr18s 2 ≤ 1600 := hRqr18s.1 2; have : gI qr8s 5 = gI qr3s 5 := Fqr8s.1 5 (by decide); have : gI qr13s 3 = gI qr8s 3 := Fqr13s.1 3 (by decide); have : (0 : Int) ≤ gI qr13s 2 ∧ gI qr13s 2 ≤ 1600 := hRqr13s.1 2; have : gI qr3s 5 = gI s 5 := Fqr3s.1 5 (by decide); have : gI qr8s 3 = gI qr3s 3 := Fqr8s.1 3 (by decide); have : (0 : Int) ≤ gI qr8s 2 ∧ gI qr8s 2 ≤ 1600 := hRqr8s.1 2; have : (0 : Int) ≤ gI s 5 ∧ gI s 5 ≤ 5 := hRs.1 5; have : gI qr3s 3 = gI s 3 := Fqr3s.1 3 (by decide); have : (0 : Int) ≤ gI qr3s 2 ∧ gI qr3s 2 ≤ 1600 := hRqr3s.1 2; have : (0 : Int) ≤ gI s 3 ∧ gI s 3 ≤ 1600 := hRs.1 3; have : gI qr43s 3 = gI qr38s 3 := Fqr43s.1 3 (by decide); have : (0 : Int) ≤ gI qr43s 2 ∧ gI qr43s 2 ≤ 1600 := hRqr43s.1 2; have : (0 : Int) ≤ gI s 2 ∧ gI s 2 ≤ 1600 := hRs.1 2; omega, fun h9 => have h_qr3s := hqr3s_4 h9; have h_qr8s := hqr8s_4 h_qr3s.1; have h_qr13s := hqr13s_4 h_qr8s.1; have h_qr18s := hqr18s_4 h_qr13s.1; have h_qr23s := hqr23s_4 h_qr18s.1; have h_qr28s := hqr28s_4 h_qr23s.1; have h_qr33s := hqr33s_4 h_qr28s.1; have h_qr38s := hqr38s_4 h_qr33s.1; have h_qr43s := hqr43s_4 h_qr38s.1; ⟨h_qr43s.1, h_qr43s.2.trans (h_qr38s.2.trans (h_qr33s.2.trans (h_qr28s.2.trans (h_qr23s.2.trans (h_qr18s.2.trans (h_qr13s.2.trans (h_qr8s.2.trans (h_qr3s.2))))))))⟩, by show (8 : Int) ≠ -1 → gI s 5 = 0; have : gI qr38s 5 = gI qr33s 5 := Fqr38s.1 5 (by decide); have : gI qr43s 3 = gI qr38s 3 := Fqr43s.1 3 (by decide); have : (0 : Int) ≤ gI qr43s 2 ∧ gI qr43s 2 ≤ 1600 := hRqr43s.1 2; have : gI qr33s 5 = gI qr28s 5 := Fqr33s.1 5 (by decide); have : gI qr38s 3 = gI qr33s 3 := Fqr38s.1 3 (by decide); have : (0 : Int) ≤ gI qr38s 2 ∧ gI qr38s 2 ≤ 1600 := hRqr38s.1 2; have : gI qr28s 5 = gI qr23s 5 := Fqr28s.1 5 (by decide); have : gI qr33s 3 = gI qr28s 3 := Fqr33s.1 3 (by decide); have : (0 : Int) ≤ gI qr33s 2 ∧ gI qr33s 2 ≤ 1600 := hRqr33s.1 2; have : gI qr23s 5 = gI qr18s 5 := Fqr23s.1 5 (by decide); have : gI qr28s 3 = gI qr23s 3 := Fqr28s.1 3 (by decide); have : (0 : Int) ≤ gI qr28s 2 ∧ gI qr28s 2 ≤ 1600 := hRqr28s.1 2; have : gI qr18s 5 = gI qr13s 5 := Fqr18s.1 5 (by decide); have : gI qr23s 3 = gI qr18s 3 := Fqr23s.1 3 (by decide); have : (0 : Int) ≤ gI qr23s 2 ∧ gI qr23s 2 ≤ 1600 := hRqr23s.1 2; have : gI qr13s 5 = gI qr8s 5 := Fqr13s.1 5 (by decide); have : gI qr18s 3 = gI qr13s 3 := Fqr18s.1 3 (by decide); have : (0 : Int) ≤ gI qr18s 2 ∧ gI qr18s 2 ≤ 1600 := hRqr18s.1 2; have : gI qr8s 5 = gI qr3s 5 := Fqr8s.1 5 (by decide); have : gI qr13s 3 = gI qr8s 3 := Fqr13s.1 3 (by decide); have : (0 : Int) ≤ gI qr13s 2 ∧ gI qr13s 2 ≤ 1600 := hRqr13s.1 2; have : gI qr3s 5 = gI s 5 := Fqr3s.1 5 (by decide); have : gI qr8s 3 = gI qr3s 3 := Fqr8s.1 3 (by decide); have : (0 : Int) ≤ gI qr8s 2 ∧ gI qr8s 2 ≤ 1600 := hRqr8s.1 2; have : gI qr3s 3 = gI s 3 := Fqr3s.1 3 (by decide); have : (0 : Int) ≤ gI qr3s 2 ∧ gI qr3s 2 ≤ 1600 := hRqr3s.1 2; have : (0 : Int) ≤ gI s 3 ∧ gI s 3 ≤ 1600 := hRs.1 3; have : (0 : Int) ≤ gI s 2 ∧ gI s 2 ≤ 1600 := hRs.1 2; have : (0 : Int) ≤ gI s 5 ∧ gI s 5 ≤ 5 := hRs.1 5; omega⟩
                · skip
                  exact wp_some ⟨hRqr38s, by show (-1) ≤ (7 : Int) ∧ (7 : Int) ≤ 9; have : gI qr33s 5 = gI qr28s 5 := Fqr33s.1 5 (by decide); have : gI qr38s 3 = gI qr33s 3 := Fqr38s.1 3 (by decide); have : (0 : Int) ≤ gI qr38s 2 ∧ gI qr38s 2 ≤ 1600 := hRqr38s.1 2; have : gI qr28s 5 = gI qr23s 5 := Fqr28s.1 5 (by decide); have : gI qr33s 3 = gI qr28s 3 := Fqr33s.1 3 (by decide); have : (0 : Int) ≤ gI qr33s 2 ∧ gI qr33s 2 ≤ 1600 := hRqr33s.1 2; have : gI qr23s 5 = gI qr18s 5 := Fqr23s.1 5 (by decide); have : gI qr28s 3 = gI qr23s 3 := Fqr28s.1 3 (by decide); have : (0 : Int) ≤ gI qr28s 2 ∧ gI qr28s 2 ≤ 1600 := hRqr28s.1 2; have : gI qr18s 5 = gI qr13s 5 := Fqr18s.1 5 (by decide); have : gI qr23s 3 = gI qr18s 3 := Fqr23s.1 3 (by decide); have : (0 : Int) ≤ gI qr23s 2 ∧ gI qr23s 2 ≤ 1600 := hRqr23s.1 2; have : gI qr13s 5 = gI qr8s 5 := Fqr13s.1 5 (by decide); have : gI qr18s 3 = gI qr13s 3 := Fqr18s.1 3 (by decide); have : (0 : Int) ≤ gI qr18s 2 ∧ gI qr18s 2 ≤ 1600 := hRqr18s.1 2; have : gI qr8s 5 = gI qr3s 5 := Fqr8s.1 5 (by decide); have : gI qr13s 3 = gI qr8s 3 := Fqr13s.1 3 (by decide); have : (0 : Int) ≤ gI qr13s 2 ∧ gI qr13s 2 ≤ 1600 := hRqr13s.1 2; have : gI qr3s 5 = gI s 5 := Fqr3s.1 5 (by decide); have : gI qr8s 3 = gI qr3s 3 := Fqr8s.1 3 (by decide); have : (0 : Int) ≤ gI qr8s 2 ∧ gI qr8s 2 ≤ 1600 := hRqr8s.1 2; have : (0 : Int) ≤ gI s 5 ∧ gI s 5 ≤ 5 := hRs.1 5; have : gI qr3s 3 = gI s 3 := Fqr3s.1 3 (by decide); have : (0 : Int) ≤ gI qr3s 2 ∧ gI qr3s 2 ≤ 1600 := hRqr3s.1 2; have : (0 : Int) ≤ gI s 3 ∧ gI s 3 ≤ 1600 := hRs.1 3; have : (0 : Int) ≤ gI s 2 ∧ gI s 2 ≤ 1600 := hRs.1 2; omega, by show gI s 2 ≤ gI qr38s 2 ∧ gI qr38s 2 ≤ gI qr38s 3; have : gI qr33s 5 = gI qr28s 5 := Fqr33s.1 5 (by decide); have : gI qr28s 5 = gI qr23s 5 := Fqr28s.1 5 (by decide); have : gI qr33s 3 = gI qr28s 3 := Fqr33s.1 3 (by decide); have : (0 : Int) ≤ gI qr33s 2 ∧ gI qr33s 2 ≤ 1600 := hRqr33s.1 2; have : gI qr23s 5 = gI qr18s 5 := Fqr23s.1 5 (by decide); have : gI qr28s 3 = gI qr23s 3 := Fqr28s.1 3 (by decide); have : (0 : Int) ≤ gI qr28s 2 ∧ gI qr28s 2 ≤ 1600 := hRqr28s.1 2; have : gI qr18s 5 = gI qr13s 5 := Fqr18s.1 5 (by decide); have : gI qr23s 3 = gI qr18s 3 := Fqr23s.1 3 (by decide); have : (0 : Int) ≤ gI qr23s 2 ∧ gI qr23s 2 ≤ 1600 := hRqr23s.1 2; have : gI qr13s 5 = gI qr8s 5 := Fqr13s.1 5 (by decide); have : gI qr18s 3 = gI qr13s 3 := Fqr18s.1 3 (by decide); have : (0 : Int) ≤ gI qr18s 2 ∧ gI qr18s 2 ≤ 1600 := hRqr18s.1 2; have : gI qr8s 5 = gI qr3s 5 := Fqr8s.1 5 (by decide); have : gI qr13s 3 = gI qr8s 3 := Fqr13s.1 3 (by decide); have : (0 : Int) ≤ gI qr13s 2 ∧ gI qr13s 2 ≤ 1600 := hRqr13s.1 2; have : gI qr3s 5 = gI s 5 := Fqr3s.1 5 (by decide); have : gI qr8s 3 = gI qr3s 3 := Fqr8s.1 3 (by decide); have : (0 : Int) ≤ gI qr8s 2 ∧ gI qr8s 2 ≤ 1600 := hRqr8s.1 2; have : (0 : Int) ≤ gI s 5 ∧ gI s 5 ≤ 5 := hRs.1 5; have : gI qr3s 3 = gI s 3 := Fqr3s.1 3 (by decide); have : (0 : Int) ≤ gI qr3s 2 ∧ gI qr3s 2 ≤ 1600 := hRqr3s.1 2; have : (0 : Int) ≤ gI s 3 ∧ gI s 3 ≤ 1600 := hRs.1 3; have : gI qr38s 3 = gI qr33s 3 := Fqr38s.1 3 (by decide); have : (0 : Int) ≤ gI qr38s 2 ∧ gI qr38s 2 ≤ 1600 := hRqr38s.1 2; have : (0 : Int) ≤ gI s 2 ∧ gI s 2 ≤ 1600 := hRs.1 2; omega, fun h9 => have h_qr3s := hqr3s_4 h9; have h_qr8s := hqr8s_4 h_qr3s.1; have h_qr13s := hqr13s_4 h_qr8s.1; have h_qr18s := hqr18s_4 h_qr13s.1; have h_qr23s := hqr23s_4 h_qr18s.1; have h_qr28s := hqr28s_4 h_qr23s.1; have h_qr33s := hqr33s_4 h_qr28s.1; have h_qr38s := hqr38s_4 h_qr33s.1; ⟨h_qr38s.1, h_qr38s.2.trans (h_qr33s.2.trans (h_qr28s.2.trans (h_qr23s.2.trans (h_qr18s.2.trans (h_qr13s.2.trans (h_qr8s.2.trans (h_qr3s.2)))))))⟩, by show (7 : Int) ≠ -1 → gI s 5 = 0; have : gI qr33s 5 = gI qr28s 5 := Fqr33s.1 5 (by decide); have : gI qr38s 3 = gI qr33s 3 := Fqr38s.1 3 (by decide); have : (0 : Int) ≤ gI qr38s 2 ∧ gI qr38s 2 ≤ 1600 := hRqr38s.1 2; have : gI qr28s 5 = gI qr23s 5 := Fqr28s.1 5 (by decide); have : gI qr33s 3 = gI qr28s 3 := Fqr33s.1 3 (by decide); have : (0 : Int) ≤ gI qr33s 2 ∧ gI qr33s 2 ≤ 1600 := hRqr33s.1 2; have : gI qr23s 5 = gI qr18s 5 := Fqr23s.1 5 (by decide); have : gI qr28s 3 = gI qr23s 3 := Fqr28s.1 3 (by decide); have : (0 : Int) ≤ gI qr28s 2 ∧ gI qr28s 2 ≤ 1600 := hRqr28s.1 2; have : gI qr18s 5 = gI qr13s 5 := Fqr18s.1 5 (by decide); have : gI qr23s 3 = gI qr18s 3 := Fqr23s.1 3 (by decide); have : (0 : Int) ≤ gI qr23s 2 ∧ gI qr23s 2 ≤ 1600 := hRqr23s.1 2; have : gI qr13s 5 = gI qr8s 5 := Fqr13s.1 5 (by decide); have : gI qr18s 3 = gI qr13s 3 := Fqr18s.1 3 (by decide); have : (0 : Int) ≤ gI qr18s 2 ∧ gI qr18s 2 ≤ 1600 := hRqr18s.1 2; have : gI qr8s 5 = gI qr3s 5 := Fqr8s.1 5 (by decide); have : gI qr13s 3 = gI qr8s 3 := Fqr13s.1 3 (by decide); have : (0 : Int) ≤ gI qr13s 2 ∧ gI qr13s 2 ≤ 1600 := hRqr13s.1 2; have : gI qr3s 5 = gI s 5 := Fqr3s.1 5 (by decide); have : gI qr8s 3 = gI qr3s 3 := Fqr8s.1 3 (by decide); have : (0 : Int) ≤ gI qr8s 2 ∧ gI qr8s 2 ≤ 1600 := hRqr8s.1 2; have : gI qr3s 3 = gI s 3 := Fqr3s.1 3 (by decide); have : (0 : Int) ≤ gI qr3s 2 ∧ gI qr3s 2 ≤ 1600 := hRqr3s.1 2; have : (0 : Int) ≤ gI s 3 ∧ gI s 3 ≤ 1600 := hRs.1 3; have : (0 : Int) ≤ gI s 2 ∧ gI s 2 ≤ 1600 := hRs.1 2; have : (0 : Int) ≤ gI s 5 ∧ gI s 5 ≤ 5 := hRs.1 5; omega⟩
              · skip
                exact wp_some ⟨hRqr33s, by show (-1) ≤ (6 : Int) ∧ (6 : Int) ≤ 9; have : gI qr28s 5 = gI qr23s 5 := Fqr28s.1 5 (by decide); have : gI qr33s 3 = gI qr28s 3 := Fqr33s.1 3 (by decide); have : (0 : Int) ≤ gI qr33s 2 ∧ gI qr33s 2 ≤ 1600 := hRqr33s.1 2; have : gI qr23s 5 = gI qr18s 5 := Fqr23s.1 5 (by decide); have : gI qr28s 3 = gI qr23s 3 := Fqr28s.1 3 (by decide); have : (0 : Int) ≤ gI qr28s 2 ∧ gI qr28s 2 ≤ 1600 := hRqr28s.1 2; have : gI qr18s 5 = gI qr13s 5 := Fqr18s.1 5 (by decide); have : gI qr23s 3 = gI qr18s 3 := Fqr23s.1 3 (by decide); have : (0 : Int) ≤ gI qr23s 2 ∧ gI qr23s 2 ≤ 1600 := hRqr23s.1 2; have : gI qr13s 5 = gI qr8s 5 := Fqr13s.1 5 (by decide); have : gI qr18s 3 = gI qr13s 3 := Fqr18s.1 3 (by decide); have : (0 : Int) ≤ gI qr18s 2 ∧ gI qr18s 2 ≤ 1600 := hRqr18s.1 2; have : gI qr8s 5 = gI qr3s 5 := Fqr8s.1 5 (by decide); have : gI qr13s 3 = gI qr8s 3 := Fqr13s.1 3 (by decide); have : (0 : Int) ≤ gI qr13s 2 ∧ gI qr13s 2 ≤ 1600 := hRqr13s.1 2; have : gI qr3s 5 = gI s 5 := Fqr3s.1 5 (by decide); have : gI qr8s 3 = gI qr3s 3 := Fqr8s.1 3 (by decide); have : (0 : Int) ≤ gI qr8s 2 ∧ gI qr8s 2 ≤ 1600 := hRqr8s.1 2; have : (0 : Int) ≤ gI s 5 ∧ gI s 5 ≤ 5 := hRs.1 5; have : gI qr3s 3 = gI s 3 := Fqr3s.1 3 (by decide); have : (0 : Int) ≤ gI qr3s 2 ∧ gI qr3s 2 ≤ 1600 := hRqr3s.1 2; have : (0 : Int) ≤ gI s 3 ∧ gI s 3 ≤ 1600 := hRs.1 3; have : (0 : Int) ≤ gI s 2 ∧ gI s 2 ≤ 1600 := hRs.1 2; omega, by show gI s 2 ≤ gI qr33s 2 ∧ gI qr33s 2 ≤ gI qr33s 3; have : gI qr28s 5 = gI qr23s 5 := Fqr28s.1 5 (by decide); have : gI qr23s 5 = gI qr18s 5 := Fqr23s.1 5 (by decide); have : gI qr28s 3 = gI qr23s 3 := Fqr28s.1 3 (by decide); have : (0 : Int) ≤ gI qr28s 2 ∧ gI qr28s 2 ≤ 1600 := hRqr28s.1 2; have : gI qr18s 5 = gI qr13s 5 := Fqr18s.1 5 (by decide); have : gI qr23s 3 = gI qr18s 3 := Fqr23s.1 3 (by decide); have : (0 : Int) ≤ gI qr23s 2 ∧ gI qr23s 2 ≤ 1600 := hRqr23s.1 2; have : gI qr13s 5 = gI qr8s 5 := Fqr13s.1 5 (by decide); have : gI qr18s 3 = gI qr13s 3 := Fqr18s.1 3 (by decide); have : (0 : Int) ≤ gI qr18s 2 ∧ gI qr18s 2 ≤ 1600 := hRqr18s.1 2; have : gI qr8s 5 = gI qr3s 5 := Fqr8s.1 5 (by decide); have : gI qr13s 3 = gI qr8s 3 := Fqr13s.1 3 (by decide); have : (0 : Int) ≤ gI qr13s 2 ∧ gI qr13s 2 ≤ 1600 := hRqr13s.1 2; have : gI qr3s 5 = gI s 5 := Fqr3s.1 5 (by decide); have : gI qr8s 3 = gI qr3s 3 := Fqr8s.1 3 (by decide); have : (0 : Int) ≤ gI qr8s 2 ∧ gI qr8s 2 ≤ 1600 := hRqr8s.1 2; have : (0 : Int) ≤ gI s 5 ∧ gI s 5 ≤ 5 := hRs.1 5; have : gI qr3s 3 = gI s 3 := Fqr3s.1 3 (by decide); have : (0 : Int) ≤ gI qr3s 2 ∧ gI qr3s 2 ≤ 1600 := hRqr3s.1 2; have : (0 : Int) ≤ gI s 3 ∧ gI s 3 ≤ 1600 := hRs.1 3; have : gI qr33s 3 = gI qr28s 3 := Fqr33s.1 3 (by decide); have : (0 : Int) ≤ gI qr33s 2 ∧ gI qr33s 2 ≤ 1600 := hRqr33s.1 2; have : (0 : Int) ≤ gI s 2 ∧ gI s 2 ≤ 1600 := hRs.1 2; omega, fun h9 => have h_qr3s := hqr3s_4 h9; have h_qr8s := hqr8s_4 h_qr3s.1; have h_qr13s := hqr13s_4 h_qr8s.1; have h_qr18s := hqr18s_4 h_qr13s.1; have h_qr23s := hqr23s_4 h_qr18s.1; have h_qr28s := hqr28s_4 h_qr23s.1; have h_qr33s := hqr33s_4 h_qr28s.1; ⟨h_qr33s.1, h_qr33s.2.trans (h_qr28s.2.trans (h_qr23s.2.trans (h_qr18s.2.trans (h_qr13s.2.trans (h_qr8s.2.trans (h_qr3s.2))))))⟩, by show (6 : Int) ≠ -1 → gI s 5 = 0; have : gI qr28s 5 = gI qr23s 5 := Fqr28s.1 5 (by decide); have : gI qr33s 3 = gI qr28s 3 := Fqr33s.1 3 (by decide); have : (0 : Int) ≤ gI qr33s 2 ∧ gI qr33s 2 ≤ 1600 := hRqr33s.1 2; have : gI qr23s 5 = gI qr18s 5 := Fqr23s.1 5 (by decide); have : gI qr28s 3 = gI qr23s 3 := Fqr28s.1 3 (by decide); have : (0 : Int) ≤ gI qr28s 2 ∧ gI qr28s 2 ≤ 1600 := hRqr28s.1 2; have : gI qr18s 5 = gI qr13s 5 := Fqr18s.1 5 (by decide); have : gI qr23s 3 = gI qr18s 3 := Fqr23s.1 3 (by decide); have : (0 : Int) ≤ gI qr23s 2 ∧ gI qr23s 2 ≤ 1600 := hRqr23s.1 2; have : gI qr13s 5 = gI qr8s 5 := Fqr13s.1 5 (by decide); have : gI qr18s 3 = gI qr13s 3 := Fqr18s.1 3 (by decide); have : (0 : Int) ≤ gI qr18s 2 ∧ gI qr18s 2 ≤ 1600 := hRqr18s.1 2; have : gI qr8s 5 = gI qr3s 5 := Fqr8s.1 5 (by decide); have : gI qr13s 3 = gI qr8s 3 := Fqr13s.1 3 (by decide); have : (0 : Int) ≤ gI qr13s 2 ∧ gI qr13s 2 ≤ 1600 := hRqr13s.1 2; have : gI qr3s 5 = gI s 5 := Fqr3s.1 5 (by decide); have : gI qr8s 3 = gI qr3s 3 := Fqr8s.1 3 (by decide); have : (0 : Int) ≤ gI qr8s 2 ∧ gI qr8s 2 ≤ 1600 := hRqr8s.1 2; have : gI qr3s 3 = gI s 3 := Fqr3s.1 3 (by decide); have : (0 : Int) ≤ gI qr3s 2 ∧ gI qr3s 2 ≤ 1600 := hRqr3s.1 2; have : (0 : Int) ≤ gI s 3 ∧ gI s 3 ≤ 1600 := hRs.1 3; have : (0 : Int) ≤ gI s 2 ∧ gI s 2 ≤ 1600 := hRs.1 2; have : (0 : Int) ≤ gI s 5 ∧ gI s 5 ≤ 5 := hRs.1 5; omega⟩
            · skip
              exact wp_some ⟨hRqr28s, by show (-1) ≤ (5 : Int) ∧ (5 : Int) ≤ 9; have : gI qr23s 5 = gI qr18s 5 := Fqr23s.1 5 (by decide); have : gI qr28s 3 = gI qr23s 3 := Fqr28s.1 3 (by decide); have : (0 : Int) ≤ gI qr28s 2 ∧ gI qr28s 2 ≤ 1600 := hRqr28s.1 2; have : gI qr18s 5 = gI qr13s 5 := Fqr18s.1 5 (by decide); have : gI qr23s 3 = gI qr18s 3 := Fqr23s.1 3 (by decide); have : (0 : Int) ≤ gI qr23s 2 ∧ gI qr23s 2 ≤ 1600 := hRqr23s.1 2; have : gI qr13s 5 = gI qr8s 5 := Fqr13s.1 5 (by decide); have : gI qr18s 3 = gI qr13s 3 := Fqr18s.1 3 (by decide); have : (0 : Int) ≤ gI qr18s 2 ∧ gI qr18s 2 ≤ 1600 := hRqr18s.1 2; have : gI qr8s 5 = gI qr3s 5 := Fqr8s.1 5 (by decide); have : gI qr13s 3 = gI qr8s 3 := Fqr13s.1 3 (by decide); have : (0 : Int) ≤ gI qr13s 2 ∧ gI qr13s 2 ≤ 1600 := hRqr13s.1 2; have : gI qr3s 5 = gI s 5 := Fqr3s.1 5 (by decide); have : gI qr8s 3 = gI qr3s 3 := Fqr8s.1 3 (by decide); have : (0 : Int) ≤ gI qr8s 2 ∧ gI qr8s 2 ≤ 1600 := hRqr8s.1 2; have : (0 : Int) ≤ gI s 5 ∧ gI s 5 ≤ 5 := hRs.1 5; have : gI qr3s 3 = gI s 3 := Fqr3s.1 3 (by decide); have : (0 : Int) ≤ gI qr3s 2 ∧ gI qr3s 2 ≤ 1600 := hRqr3s.1 2; have : (0 : Int) ≤ gI s 3 ∧ gI s 3 ≤ 1600 := hRs.1 3; have : (0 : Int) ≤ gI s 2 ∧ gI s 2 ≤ 1600 := hRs.1 2; omega, by show gI s 2 ≤ gI qr28s 2 ∧ gI qr28s 2 ≤ gI qr28s 3; have : gI qr23s 5 = gI qr18s 5 := Fqr23s.1 5 (by decide); have : gI qr18s 5 = gI qr13s 5 := Fqr18s.1 5 (by decide); have : gI qr23s 3 = gI qr18s 3 := Fqr23s.1 3 (by decide); have : (0 : Int) ≤ gI qr23s 2 ∧ gI qr23s 2 ≤ 1600 := hRqr23s.1 2; have : gI qr13s 5 = gI qr8s 5 := Fqr13s.1 5 (by decide); have : gI qr18s 3 = gI qr13s 3 := Fqr18s.1 3 (by decide); have : (0 : Int) ≤ gI qr18s 2 ∧ gI qr18s 2 ≤ 1600 := hRqr18s.1 2; have : gI qr8s 5 = gI qr3s 5 := Fqr8s.1 5 (by decide); have : gI qr13s 3 = gI qr8s 3 := Fqr13s.1 3 (by decide); have : (0 : Int) ≤ gI qr13s 2 ∧ gI qr13s 2 ≤ 1600 := hRqr13s.1 2; have : gI qr3s 5 = gI s 5 := Fqr3s.1 5 (by decide); have : gI qr8s 3 = gI qr3s 3 := Fqr8s.1 3 (by decide); have : (0 : Int) ≤ gI qr8s 2 ∧ gI qr8s 2 ≤ 1600 := hRqr8s.1 2; have : (0 : Int) ≤ gI s 5 ∧ gI s 5 ≤ 5 := hRs.1 5; have : gI qr3s 3 = gI s 3 := Fqr3s.1 3 (by decide); have : (0 : Int) ≤ gI qr3s 2 ∧ gI qr3s 2 ≤ 1600 := hRqr3s.1 2; have : (0 : Int) ≤ gI s 3 ∧ gI s 3 ≤ 1600 := hRs.1 3; have : gI qr28s 3 = gI qr23s 3 := Fqr28s.1 3 (by decide); have : (0 : Int) ≤ gI qr28s 2 ∧ gI qr28s 2 ≤ 1600 := hRqr28s.1 2; have : (0 : Int) ≤ gI s 2 ∧ gI s 2 ≤ 1600 := hRs.1 2; omega, fun h9 => have h_qr3s := hqr3s_4 h9; have h_qr8s := hqr8s_4 h_qr3s.1; have h_qr13s := hqr13s_4 h_qr8s.1; have h_qr18s := hqr18s_4 h_qr13s.1; have h_qr23s := hqr23s_4 h_qr18s.1; have h_qr28s := hqr28s_4 h_qr23s.1; ⟨h_qr28s.1, h_qr28s.2.trans (h_qr23s.2.trans (h_qr18s.2.trans (h_qr13s.2.trans (h_qr8s.2.trans (h_qr3s.2)))))⟩, by show (5 : Int) ≠ -1 → gI s 5 = 0; have : gI qr23s 5 = gI qr18s 5 := Fqr23s.1 5 (by decide); have : gI qr28s 3 = gI qr23s 3 := Fqr28s.1 3 (by decide); have : (0 : Int) ≤ gI qr28s 2 ∧ gI qr28s 2 ≤ 1600 := hRqr28s.1 2; have : gI qr18s 5 = gI qr13s 5 := Fqr18s.1 5 (by decide); have : gI qr23s 3 = gI qr18s 3 := Fqr23s.1 3 (by decide); have : (0 : Int) ≤ gI qr23s 2 ∧ gI qr23s 2 ≤ 1600 := hRqr23s.1 2; have : gI qr13s 5 = gI qr8s 5 := Fqr13s.1 5 (by decide); have : gI qr18s 3 = gI qr13s 3 := Fqr18s.1 3 (by decide); have : (0 : Int) ≤ gI qr18s 2 ∧ gI qr18s 2 ≤ 1600 := hRqr18s.1 2; have : gI qr8s 5 = gI qr3s 5 := Fqr8s.1 5 (by decide); have : gI qr13s 3 = gI qr8s 3 := Fqr13s.1 3 (by decide); have : (0 : Int) ≤ gI qr13s 2 ∧ gI qr13s 2 ≤ 1600 := hRqr13s.1 2; have : gI qr3s 5 = gI s 5 := Fqr3s.1 5 (by decide); have : gI qr8s 3 = gI qr3s 3 := Fqr8s.1 3 (by decide); have : (0 : Int) ≤ gI qr8s 2 ∧ gI qr8s 2 ≤ 1600 := hRqr8s.1 2; have : gI qr3s 3 = gI s 3 := Fqr3s.1 3 (by decide); have : (0 : Int) ≤ gI qr3s 2 ∧ gI qr3s 2 ≤ 1600 := hRqr3s.1 2; have : (0 : Int) ≤ gI s 3 ∧ gI s 3 ≤ 1600 := hRs.1 3; have : (0 : Int) ≤ gI s 2 ∧ gI s 2 ≤ 1600 := hRs.1 2; have : (0 : Int) ≤ gI s 5 ∧ gI s 5 ≤ 5 := hRs.1 5; omega⟩
          · skip
            exact wp_some ⟨hRqr23s, by show (-1) ≤ (4 : Int) ∧ (4 : Int) ≤ 9; have : gI qr18s 5 = gI qr13s 5 := Fqr18s.1 5 (by decide); have : gI qr23s 3 = gI qr18s 3 := Fqr23s.1 3 (by decide); have : (0 : Int) ≤ gI qr23s 2 ∧ gI qr23s 2 ≤ 1600 := hRqr23s.1 2; have : gI qr13s 5 = gI qr8s 5 := Fqr13s.1 5 (by decide); have : gI qr18s 3 = gI qr13s 3 := Fqr18s.1 3 (by decide); have : (0 : Int) ≤ gI qr18s 2 ∧ gI qr18s 2 ≤ 1600 := hRqr18s.1 2; have : gI qr8s 5 = gI qr3s 5 := Fqr8s.1 5 (by decide); have : gI qr13s 3 = gI qr8s 3 := Fqr13s.1 3 (by decide); have : (0 : Int) ≤ gI qr13s 2 ∧ gI qr13s 2 ≤ 1600 := hRqr13s.1 2; have : gI qr3s 5 = gI s 5 := Fqr3s.1 5 (by decide); have : gI qr8s 3 = gI qr3s 3 := Fqr8s.1 3 (by decide); have : (0 : Int) ≤ gI qr8s 2 ∧ gI qr8s 2 ≤ 1600 := hRqr8s.1 2; have : (0 : Int) ≤ gI s 5 ∧ gI s 5 ≤ 5 := hRs.1 5; have : gI qr3s 3 = gI s 3 := Fqr3s.1 3 (by decide); have : (0 : Int) ≤ gI qr3s 2 ∧ gI qr3s 2 ≤ 1600 := hRqr3s.1 2; have : (0 : Int) ≤ gI s 3 ∧ gI s 3 ≤ 1600 := hRs.1 3; have : (0 : Int) ≤ gI s 2 ∧ gI s 2 ≤ 1600 := hRs.1 2; omega, by show gI s 2 ≤ gI qr23s 2 ∧ gI qr23s 2 ≤ gI qr23s 3; have : gI qr18s 5 = gI qr13s 5 := Fqr18s.1 5 (by decide); have : gI qr13s 5 = gI qr8s 5 := Fqr13s.1 5 (by decide); have : gI qr18s 3 = gI qr13s 3 := Fqr18s.1 3 (by decide); have : (0 : Int) ≤ gI qr18s 2 ∧ gI qr18s 2 ≤ 1600 := hRqr18s.1 2; have : gI qr8s 5 = gI qr3s 5 := Fqr8s.1 5 (by decide); have : gI qr13s 3 = gI qr8s 3 := Fqr13s.1 3 (by decide); have : (0 : Int) ≤ gI qr13s 2 ∧ gI qr13s 2 ≤ 1600 := hRqr13s.1 2; have : gI qr3s 5 = gI s 5 := Fqr3s.1 5 (by decide); have : gI qr8s 3 = gI qr3s 3 := Fqr8s.1 3 (by decide); have : (0 : Int) ≤ gI qr8s 2 ∧ gI qr8s 2 ≤ 1600 := hRqr8s.1 2; have : (0 : Int) ≤ gI s 5 ∧ gI s 5 ≤ 5 := hRs.1 5; have : gI qr3s 3 = gI s 3 := Fqr3s.1 3 (by decide); have : (0 : Int) ≤ gI qr3s 2 ∧ gI qr3s 2 ≤ 1600 := hRqr3s.1 2; have : (0 : Int) ≤ gI s 3 ∧ gI s 3 ≤ 1600 := hRs.1 3; have : gI qr23s 3 = gI qr18s 3 := Fqr23s.1 3 (by decide); have : (0 : Int) ≤ gI qr23s 2 ∧ gI qr23s 2 ≤ 1600 := hRqr23s.1 2; have : (0 : Int) ≤ gI s 2 ∧ gI s 2 ≤ 1600 := hRs.1 2; omega, fun h9 => have h_qr3s := hqr3s_4 h9; have h_qr8s := hqr8s_4 h_qr3s.1; have h_qr13s := hqr13s_4 h_qr8s.1; have h_qr18s := hqr18s_4 h_qr13s.1; have h_qr23s := hqr23s_4 h_qr18s.1; ⟨h_qr23s.1, h_qr23s.2.trans (h_qr18s.2.trans (h_qr13s.2.trans (h_qr8s.2.trans (h_qr3s.2))))⟩, by show (4 : Int) ≠ -1 → gI s 5 = 0; have : gI qr18s 5 = gI qr13s 5 := Fqr18s.1 5 (by decide); have : gI qr23s 3 = gI qr18s 3 := Fqr23s.1 3 (by decide); have : (0 : Int) ≤ gI qr23s 2 ∧ gI qr23s 2 ≤ 1600 := hRqr23s.1 2; have : gI qr13s 5 = gI qr8s 5 := Fqr13s.1 5 (by decide); have : gI qr18s 3 = gI qr13s 3 := Fqr18s.1 3 (by decide); have : (0 : Int) ≤ gI qr18s 2 ∧ gI qr18s 2 ≤ 1600 := hRqr18s.1 2; have : gI qr8s 5 = gI qr3s 5 := Fqr8s.1 5 (by decide); have : gI qr13s 3 = gI qr8s 3 := Fqr13s.1 3 (by decide); have : (0 : Int) ≤ gI qr13s 2 ∧ gI qr13s 2 ≤ 1600 := hRqr13s.1 2; have : gI qr3s 5 = gI s 5 := Fqr3s.1 5 (by decide); have : gI qr8s 3 = gI qr3s 3 := Fqr8s.1 3 (by decide); have : (0 : Int) ≤ gI qr8s 2 ∧ gI qr8s 2 ≤ 1600 := hRqr8s.1 2; have : gI qr3s 3 = gI s 3 := Fqr3s.1 3 (by decide); have : (0 : Int) ≤ gI qr3s 2 ∧ gI qr3s 2 ≤ 1600 := hRqr3s.1 2; have : (0 : Int) ≤ gI s 3 ∧ gI s 3 ≤ 1600 := hRs.1 3; have : (0 : Int) ≤ gI s 2 ∧ gI s 2 ≤ 1600 := hRs.1 2; have : (0 : Int) ≤ gI s 5 ∧ gI s 5 ≤ 5 := hRs.1 5; omega⟩
        · skip
          exact wp_some ⟨hRqr18s, by show (-1) ≤ (3 : Int) ∧ (3 : Int) ≤ 9; have : gI qr13s 5 = gI qr8s 5 := Fqr13s.1 5 (by decide); have : gI qr18s 3 = gI qr13s 3 := Fqr18s.1 3 (by decide); have : (0 : Int) ≤ gI qr18s 2 ∧ gI qr18s 2 ≤ 1600 := hRqr18s.1 2; have : gI qr8s 5 = gI qr3s 5 := Fqr8s.1 5 (by decide); have : gI qr13s 3 = gI qr8s 3 := Fqr13s.1 3 (by decide); have : (0 : Int) ≤ gI qr13s 2 ∧ gI qr13s 2 ≤ 1600 := hRqr13s.1 2; have : gI qr3s 5 = gI s 5 := Fqr3s.1 5 (by decide); have : gI qr8s 3 = gI qr3s 3 := Fqr8s.1 3 (by decide); have : (0 : Int) ≤ gI qr8s 2 ∧ gI qr8s 2 ≤ 1600 := hRqr8s.1 2; have : (0 : Int) ≤ gI s 5 ∧ gI s 5 ≤ 5 := hRs.1 5; have : gI qr3s 3 = gI s 3 := Fqr3s.1 3 (by decide); have : (0 : Int) ≤ gI qr3s 2 ∧ gI qr3s 2 ≤ 1600 := hRqr3s.1 2; have : (0 : Int) ≤ gI s 3 ∧ gI s 3 ≤ 1600 := hRs.1 3; have : (0 : Int) ≤ gI s 2 ∧ gI s 2 ≤ 1600 := hRs.1 2; omega, by show gI s 2 ≤ gI qr18s 2 ∧ gI qr18s 2 ≤ gI qr18s 3; have : gI qr13s 5 = gI qr8s 5 := Fqr13s.1 5 (by decide); have : gI qr8s 5 = gI qr3s 5 := Fqr8s.1 5 (by decide); have : gI qr13s 3 = gI qr8s 3 := Fqr13s.1 3 (by decide); have : (0 : Int) ≤ gI qr13s 2 ∧ gI qr13s 2 ≤ 1600 := hRqr13s.1 2; have : gI qr3s 5 = gI s 5 := Fqr3s.1 5 (by decide); have : gI qr8s 3 = gI qr3s 3 := Fqr8s.1 3 (by decide); have : (0 : Int) ≤ gI qr8s 2 ∧ gI qr8s 2 ≤ 1600 := hRqr8s.1 2; have : (0 : Int) ≤ gI s 5 ∧ gI s 5 ≤ 5 := hRs.1 5; have : gI qr3s 3 = gI s 3 := Fqr3s.1 3 (by decide); have : (0 : Int) ≤ gI qr3s 2 ∧ gI qr3s 2 ≤ 1600 := hRqr3s.1 2; have : (0 : Int) ≤ gI s 3 ∧ gI s 3 ≤ 1600 := hRs.1 3; have : gI qr18s 3 = gI qr13s 3 := Fqr18s.1 3 (by decide); have : (0 : Int) ≤ gI qr18s 2 ∧ gI qr18s 2 ≤ 1600 := hRqr18s.1 2; have : (0 : Int) ≤ gI s 2 ∧ gI s 2 ≤ 1600 := hRs.1 2; omega, fun h9 => have h_qr3s := hqr3s_4 h9; have h_qr8s := hqr8s_4 h_qr3s.1; have h_qr13s := hqr13s_4 h_qr8s.1; have h_qr18s := hqr18s_4 h_qr13s.1; ⟨h_qr18s.1, h_qr18s.2.trans (h_qr13s.2.trans (h_qr8s.2.trans (h_qr3s.2)))⟩, by show (3 : Int) ≠ -1 → gI s 5 = 0; have : gI qr13s 5 = gI qr8s 5 := Fqr13s.1 5 (by decide); have : gI qr18s 3 = gI qr13s 3 := Fqr18s.1 3 (by decide); have : (0 : Int) ≤ gI qr18s 2 ∧ gI qr18s 2 ≤ 1600 := hRqr18s.1 2; have : gI qr8s 5 = gI qr3s 5 := Fqr8s.1 5 (by decide); have : gI qr13s 3 = gI qr8s 3 := Fqr13s.1 3 (by decide); have : (0 : Int) ≤ gI qr13s 2 ∧ gI qr13s 2 ≤ 1600 := hRqr13s.1 2; have : gI qr3s 5 = gI s 5 := Fqr3s.1 5 (by decide); have : gI qr8s 3 = gI qr3s 3 := Fqr8s.1 3 (by decide); have : (0 : Int) ≤ gI qr8s 2 ∧ gI qr8s 2 ≤ 1600 := hRqr8s.1 2; have : gI qr3s 3 = gI s 3 := Fqr3s.1 3 (by decide); have : (0 : Int) ≤ gI qr3s 2 ∧ gI qr3s 2 ≤ 1600 := hRqr3s.1 2; have : (0 : Int) ≤ gI s 3 ∧ gI s 3 ≤ 1600 := hRs.1 3; have : (0 : Int) ≤ gI s 2 ∧ gI s 2 ≤ 1600 := hRs.1 2; have : (0 : Int) ≤ gI s 5 ∧ gI s 5 ≤ 5 := hRs.1 5; omega⟩
      · skip
        exact wp_some ⟨hRqr13s, by show (-1) ≤ (2 : Int) ∧ (2 : Int) ≤ 9; have : gI qr8s 5 = gI qr3s 5 := Fqr8s.1 5 (by decide); have : gI qr13s 3 = gI qr8s 3 := Fqr13s.1 3 (by decide); have : (0 : Int) ≤ gI qr13s 2 ∧ gI qr13s 2 ≤ 1600 := hRqr13s.1 2; have : gI qr3s 5 = gI s 5 := Fqr3s.1 5 (by decide); have : gI qr8s 3 = gI qr3s 3 := Fqr8s.1 3 (by decide); have : (0 : Int) ≤ gI qr8s 2 ∧ gI qr8s 2 ≤ 1600 := hRqr8s.1 2; have : (0 : Int) ≤ gI s 5 ∧ gI s 5 ≤ 5 := hRs.1 5; have : gI qr3s 3 = gI s 3 := Fqr3s.1 3 (by decide); have : (0 : Int) ≤ gI qr3s 2 ∧ gI qr3s 2 ≤ 1600 := hRqr3s.1 2; have : (0 : Int) ≤ gI s 3 ∧ gI s 3 ≤ 1600 := hRs.1 3; have : (0 : Int) ≤ gI s 2 ∧ gI s 2 ≤ 1600 := hRs.1 2; omega, by show gI s 2 ≤ gI qr13s 2 ∧ gI qr13s 2 ≤ gI qr13s 3; have : gI qr8s 5 = gI qr3s 5 := Fqr8s.1 5 (by decide); have : gI qr3s 5 = gI s 5 := Fqr3s.1 5 (by decide); have : gI qr8s 3 = gI qr3s 3 := Fqr8s.1 3 (by decide); have : (0 : Int) ≤ gI qr8s 2 ∧ gI qr8s 2 ≤ 1600 := hRqr8s.1 2; have : (0 : Int) ≤ gI s 5 ∧ gI s 5 ≤ 5 := hRs.1 5; have : gI qr3s 3 = gI s 3 := Fqr3s.1 3 (by decide); have : (0 : Int) ≤ gI qr3s 2 ∧ gI qr3s 2 ≤ 1600 := hRqr3s.1 2; have : (0 : Int) ≤ gI s 3 ∧ gI s 3 ≤ 1600 := hRs.1 3; have : gI qr13s 3 = gI qr8s 3 := Fqr13s.1 3 (by decide); have : (0 : Int) ≤ gI qr13s 2 ∧ gI qr13s 2 ≤ 1600 := hRqr13s.1 2; have : (0 : Int) ≤ gI s 2 ∧ gI s 2 ≤ 1600 := hRs.1 2; omega, fun h9 => have h_qr3s := hqr3s_4 h9; have h_qr8s := hqr8s_4 h_qr3s.1; have h_qr13s := hqr13s_4 h_qr8s.1; ⟨h_qr13s.1, h_qr13s.2.trans (h_qr8s.2.trans (h_qr3s.2))⟩, by show (2 : Int) ≠ -1 → gI s 5 = 0; have : gI qr8s 5 = gI qr3s 5 := Fqr8s.1 5 (by decide); have : gI qr13s 3 = gI qr8s 3 := Fqr13s.1 3 (by decide); have : (0 : Int) ≤ gI qr13s 2 ∧ gI qr13s 2 ≤ 1600 := hRqr13s.1 2; have : gI qr3s 5 = gI s 5 := Fqr3s.1 5 (by decide); have : gI qr8s 3 = gI qr3s 3 := Fqr8s.1 3 (by decide); have : (0 : Int) ≤ gI qr8s 2 ∧ gI qr8s 2 ≤ 1600 := hRqr8s.1 2; have : gI qr3s 3 = gI s 3 := Fqr3s.1 3 (by decide); have : (0 : Int) ≤ gI qr3s 2 ∧ gI qr3s 2 ≤ 1600 := hRqr3s.1 2; have : (0 : Int) ≤ gI s 3 ∧ gI s 3 ≤ 1600 := hRs.1 3; have : (0 : Int) ≤ gI s 2 ∧ gI s 2 ≤ 1600 := hRs.1 2; have : (0 : Int) ≤ gI s 5 ∧ gI s 5 ≤ 5 := hRs.1 5; omega⟩
    · skip
      exact wp_some ⟨hRqr8s, by show (-1) ≤ (1 : Int) ∧ (1 : Int) ≤ 9; have : gI qr3s 5 = gI s 5 := Fqr3s.1 5 (by decide); have : gI qr8s 3 = gI qr3s 3 := Fqr8s.1 3 (by decide); have : (0 : Int) ≤ gI qr8s 2 ∧ gI qr8s 2 ≤ 1600 := hRqr8s.1 2; have : (0 : Int) ≤ gI s 5 ∧ gI s 5 ≤ 5 := hRs.1 5; have : gI qr3s 3 = gI s 3 := Fqr3s.1 3 (by decide); have : (0 : Int) ≤ gI qr3s 2 ∧ gI qr3s 2 ≤ 1600 := hRqr3s.1 2; have : (0 : Int) ≤ gI s 3 ∧ gI s 3 ≤ 1600 := hRs.1 3; have : (0 : Int) ≤ gI s 2 ∧ gI s 2 ≤ 1600 := hRs.1 2; omega, by show gI s 2 ≤ gI qr8s 2 ∧ gI qr8s 2 ≤ gI qr8s 3; have : gI qr3s 5 = gI s 5 := Fqr3s.1 5 (by decide); have : (0 : Int) ≤ gI s 5 ∧ gI s 5 ≤ 5 := hRs.1 5; have : gI qr3s 3 = gI s 3 := Fqr3s.1 3 (by decide); have : (0 : Int) ≤ gI qr3s 2 ∧ gI qr3s 2 ≤ 1600 := hRqr3s.1 2; have : (0 : Int) ≤ gI s 3 ∧ gI s 3 ≤ 1600 := hRs.1 3; have : gI qr8s 3 = gI qr3s 3 := Fqr8s.1 3 (by decide); have : (0 : Int) ≤ gI qr8s 2 ∧ gI qr8s 2 ≤ 1600 := hRqr8s.1 2; have : (0 : Int) ≤ gI s 2 ∧ gI s 2 ≤ 1600 := hRs.1 2; omega, fun h9 => have h_qr3s := hqr3s_4 h9; have h_qr8s := hqr8s_4 h_qr3s.1; ⟨h_qr8s.1, h_qr8s.2.trans (h_qr3s.2)⟩, by show (1 : Int) ≠ -1 → gI s 5 = 0; have : gI qr3s 5 = gI s 5 := Fqr3s.1 5 (by decide); have : gI qr8s 3 = gI qr3s 3 := Fqr8s.1 3 (by decide); have : (0 : Int) ≤ gI qr8s 2 ∧ gI qr8s 2 ≤ 1600 := hRqr8s.1 2; have : gI qr3s 3 = gI s 3 := Fqr3s.1 3 (by decide); have : (0 : Int) ≤ gI qr3s 2 ∧ gI qr3s 2 ≤ 1600 := hRqr3s.1 2; have : (0 : Int) ≤ gI s 3 ∧ gI s 3 ≤ 1600 := hRs.1 3; have : (0 : Int) ≤ gI s 2 ∧ gI s 2 ≤ 1600 := hRs.1 2; have : (0 : Int) ≤ gI s 5 ∧ gI s 5 ≤ 5 := hRs.1 5; omega⟩
  · skip
    exact wp_some ⟨hRqr3s, by show (-1) ≤ (0 : Int) ∧ (0 : Int) ≤ 9; have : (0 : Int) ≤ gI s 5 ∧ gI s 5 ≤ 5 := hRs.1 5; have : gI qr3s 3 = gI s 3 := Fqr3s.1 3 (by decide); have : (0 : Int) ≤ gI qr3s 2 ∧ gI qr3s 2 ≤ 1600 := hRqr3s.1 2; have : (0 : Int) ≤ gI s 3 ∧ gI s 3 ≤ 1600 := hRs.1 3; have : (0 : Int) ≤ gI s 2 ∧ gI s 2 ≤ 1600 := hRs.1 2; omega, by show gI s 2 ≤ gI qr3s 2 ∧ gI qr3s 2 ≤ gI qr3s 3; have : (0 : Int) ≤ gI s 5 ∧ gI s 5 ≤ 5 := hRs.1 5; have : (0 : Int) ≤ gI s 3 ∧ gI s 3 ≤ 1600 := hRs.1 3; have : gI qr3s 3 = gI s 3 := Fqr3s.1 3 (by decide); have : (0 : Int) ≤ gI qr3s 2 ∧ gI qr3s 2 ≤ 1600 := hRqr3s.1 2; have : (0 : Int) ≤ gI s 2 ∧ gI s 2 ≤ 1600 := hRs.1 2; omega, fun h9 => have h_qr3s := hqr3s_4 h9; ⟨h_qr3s.1, h_qr3s.2⟩, by show (0 : Int) ≠ -1 → gI s 5 = 0; have : gI qr3s 3 = gI s 3 := Fqr3s.1 3 (by decide); have : (0 : Int) ≤ gI qr3s 2 ∧ gI qr3s 2 ≤ 1600 := hRqr3s.1 2; have : (0 : Int) ≤ gI s 3 ∧ gI s 3 ≤ 1600 := hRs.1 3; have : (0 : Int) ≤ gI s 2 ∧ gI s 2 ≤ 1600 := hRs.1 2; have : (0 : Int) ≤ gI s 5 ∧ gI s 5 ≤ 5 := hRs.1 5; omega⟩
set_option maxHeartbeats 1000000 in
theorem w_x12_qWordOf {p0 : Int} {p1 : Int} {s : MS} (hRs : Rr s) (hp0 : gI s 2 ≤ gI s 3) (hp1 : 0 ≤ p0 ∧ p1 ≤ 10 ∧ p0 ≤ 10 ∧ 0 ≤ p1) : wp (m_x12_qWordOf p0 p1 s) (fun q => (Rr q.2) ∧ ((-1) ≤ q.1 ∧ (q.1 ≠ -1 → p0 ≤ q.1 ∧ q.1 < p1 ∧ gI s 5 = 0)) ∧ (gI s 2 ≤ gI q.2 2 ∧ gI q.2 2 ≤ gI q.2 3) ∧ (NB s → NB q.2 ∧ gI q.2 2 = gI s 2) ∧ (q.1 ≠ -1 → 8 ≤ q.1 → gI s 48 = 3)) := by
  unfold m_x12_qWordOf
  refine wp_bn (w_x12_qWordHere hRs (by show gI s 2 ≤ gI s 3; have : (0 : Int) ≤ gI s 3 ∧ gI s 3 ≤ 1600 := hRs.1 3; have : (0 : Int) ≤ gI s 2 ∧ gI s 2 ≤ 1600 := hRs.1 2; omega)) (fun qqr6 eqr6s hqr6s => ?_)
  obtain ⟨qr6r, qr6s⟩ := qqr6
  dsimp only at eqr6s hqr6s ⊢
  have Fqr6s : F_x12_qWordHere s qr6s := fr_x12_qWordHere eqr6s
  obtain ⟨hRqr6s, hqr6s_0, hqr6s_1, hqr6s_2, hqr6s_3⟩ := hqr6s
  have hqr6s_0 : (-1) ≤ qr6r ∧ qr6r ≤ 9 := hqr6s_0
  have hqr6s_1 : gI s 2 ≤ gI qr6s 2 ∧ gI qr6s 2 ≤ gI qr6s 3 := hqr6s_1
  have hqr6s_2 : NB s → NB qr6s ∧ gI qr6s 2 = gI s 2 := hqr6s_2
  have hqr6s_3 : qr6r ≠ -1 → gI s 5 = 0 := hqr6s_3
  refine wp_rg (by have : (0 : Int) ≤ gI s 5 ∧ gI s 5 ≤ 5 := hRs.1 5; have : gI qr6s 3 = gI s 3 := Fqr6s.1 3 (by decide); have : (0 : Int) ≤ gI qr6s 2 ∧ gI qr6s 2 ≤ 1600 := hRqr6s.1 2; have : (0 : Int) ≤ gI s 3 ∧ gI s 3 ≤ 1600 := hRs.1 3; have : (0 : Int) ≤ gI s 2 ∧ gI s 2 ≤ 1600 := hRs.1 2; omega) ?_
  refine wp_rg (by have : (0 : Int) ≤ gI s 5 ∧ gI s 5 ≤ 5 := hRs.1 5; have : gI qr6s 3 = gI s 3 := Fqr6s.1 3 (by decide); have : (0 : Int) ≤ gI qr6s 2 ∧ gI qr6s 2 ≤ 1600 := hRqr6s.1 2; have : (0 : Int) ≤ gI s 3 ∧ gI s 3 ≤ 1600 := hRs.1 3; have : (0 : Int) ≤ gI s 2 ∧ gI s 2 ≤ 1600 := hRs.1 2; omega) ?_
  refine wp_if (fun c1 => ?_) (fun c1 => ?_)
  · skip
    unfold m_x12_qWordOf_J27
    unfold m_x12_qWordOf_J28
    exact wp_some ⟨hRqr6s, by show (-1) ≤ (-1 : Int) ∧ ((-1 : Int) ≠ -1 → p0 ≤ (-1 : Int) ∧ (-1 : Int) < p1 ∧ gI s 5 = 0); have : gI qr6s 3 = gI s 3 := Fqr6s.1 3 (by decide); have : (0 : Int) ≤ gI qr6s 2 ∧ gI qr6s 2 ≤ 1600 := hRqr6s.1 2; have : (0 : Int) ≤ gI s 3 ∧ gI s 3 ≤ 1600 := hRs.1 3; have : (0 : Int) ≤ gI s 2 ∧ gI s 2 ≤ 1600 := hRs.1 2; have : (0 : Int) ≤ gI s 5 ∧ gI s 5 ≤ 5 := hRs.1 5; omega, by show gI s 2 ≤ gI qr6s 2 ∧ gI qr6s 2 ≤ gI qr6s 3; have : (0 : Int) ≤ gI s 5 ∧ gI s 5 ≤ 5 := hRs.1 5; have : (0 : Int) ≤ gI s 3 ∧ gI s 3 ≤ 1600 := hRs.1 3; have : gI qr6s 3 = gI s 3 := Fqr6s.1 3 (by decide); have : (0 : Int) ≤ gI qr6s 2 ∧ gI qr6s 2 ≤ 1600 := hRqr6s.1 2; have : (0 : Int) ≤ gI s 2 ∧ gI s 2 ≤ 1600 := hRs.1 2; omega, hqr6s_2, by show (-1 : Int) ≠ -1 → 8 ≤ (-1 : Int) → gI s 48 = 3; have : (0 : Int) ≤ gI s 5 ∧ gI s 5 ≤ 5 := hRs.1 5; have : gI qr6s 3 = gI s 3 := Fqr6s.1 3 (by decide); have : (0 : Int) ≤ gI qr6s 2 ∧ gI qr6s 2 ≤ 1600 := hRqr6s.1 2; have : (0 : Int) ≤ gI s 3 ∧ gI s 3 ≤ 1600 := hRs.1 3; have : (0 : Int) ≤ gI s 2 ∧ gI s 2 ≤ 1600 := hRs.1 2; have : (0 : Int) ≤ gI s 48 ∧ gI s 48 ≤ 3 := hRs.1 48; omega⟩
  · skip
    refine wp_rg (by have : (0 : Int) ≤ gI s 5 ∧ gI s 5 ≤ 5 := hRs.1 5; have : gI qr6s 3 = gI s 3 := Fqr6s.1 3 (by decide); have : (0 : Int) ≤ gI qr6s 2 ∧ gI qr6s 2 ≤ 1600 := hRqr6s.1 2; have : (0 : Int) ≤ gI s 3 ∧ gI s 3 ≤ 1600 := hRs.1 3; have : (0 : Int) ≤ gI s 2 ∧ gI s 2 ≤ 1600 := hRs.1 2; omega) ?_
    refine wp_rg (by have : (0 : Int) ≤ gI s 5 ∧ gI s 5 ≤ 5 := hRs.1 5; have : gI qr6s 3 = gI s 3 := Fqr6s.1 3 (by decide); have : (0 : Int) ≤ gI qr6s 2 ∧ gI qr6s 2 ≤ 1600 := hRqr6s.1 2; have : (0 : Int) ≤ gI s 3 ∧ gI s 3 ≤ 1600 := hRs.1 3; have : (0 : Int) ≤ gI s 2 ∧ gI s 2 ≤ 1600 := hRs.1 2; omega) ?_
    refine wp_if (fun c2 => ?_) (fun c2 => ?_)
    · skip
      unfold m_x12_qWordOf_J27
      unfold m_x12_qWordOf_J28
      exact wp_some ⟨hRqr6s, by show (-1) ≤ (-1 : Int) ∧ ((-1 : Int) ≠ -1 → p0 ≤ (-1 : Int) ∧ (-1 : Int) < p1 ∧ gI s 5 = 0); have : gI qr6s 3 = gI s 3 := Fqr6s.1 3 (by decide); have : (0 : Int) ≤ gI qr6s 2 ∧ gI qr6s 2 ≤ 1600 := hRqr6s.1 2; have : (0 : Int) ≤ gI s 3 ∧ gI s 3 ≤ 1600 := hRs.1 3; have : (0 : Int) ≤ gI s 2 ∧ gI s 2 ≤ 1600 := hRs.1 2; have : (0 : Int) ≤ gI s 5 ∧ gI s 5 ≤ 5 := hRs.1 5; omega, by show gI s 2 ≤ gI qr6s 2 ∧ gI qr6s 2 ≤ gI qr6s 3; have : (0 : Int) ≤ gI s 5 ∧ gI s 5 ≤ 5 := hRs.1 5; have : (0 : Int) ≤ gI s 3 ∧ gI s 3 ≤ 1600 := hRs.1 3; have : gI qr6s 3 = gI s 3 := Fqr6s.1 3 (by decide); have : (0 : Int) ≤ gI qr6s 2 ∧ gI qr6s 2 ≤ 1600 := hRqr6s.1 2; have : (0 : Int) ≤ gI s 2 ∧ gI s 2 ≤ 1600 := hRs.1 2; omega, hqr6s_2, by show (-1 : Int) ≠ -1 → 8 ≤ (-1 : Int) → gI s 48 = 3; have : (0 : Int) ≤ gI s 5 ∧ gI s 5 ≤ 5 := hRs.1 5; have : gI qr6s 3 = gI s 3 := Fqr6s.1 3 (by decide); have : (0 : Int) ≤ gI qr6s 2 ∧ gI qr6s 2 ≤ 1600 := hRqr6s.1 2; have : (0 : Int) ≤ gI s 3 ∧ gI s 3 ≤ 1600 := hRs.1 3; have : (0 : Int) ≤ gI s 2 ∧ gI s 2 ≤ 1600 := hRs.1 2; have : (0 : Int) ≤ gI s 48 ∧ gI s 48 ≤ 3 := hRs.1 48; omega⟩
    · skip
      refine wp_bn (wa_x12_isAllowed hRqr6s (by show R2 qr6r; have : (0 : Int) ≤ gI s 5 ∧ gI s 5 ≤ 5 := hRs.1 5; have : gI qr6s 3 = gI s 3 := Fqr6s.1 3 (by decide); have : (0 : Int) ≤ gI qr6s 2 ∧ gI qr6s 2 ≤ 1600 := hRqr6s.1 2; have : (0 : Int) ≤ gI s 3 ∧ gI s 3 ≤ 1600 := hRs.1 3; have : (0 : Int) ≤ gI s 2 ∧ gI s 2 ≤ 1600 := hRs.1 2; omega)) (fun r14 er14 hr14 => ?_)
      obtain ⟨hr14_0, hr14_1⟩ := hr14
      have hr14_0 : r14 = 0 ∨ r14 = 1 := hr14_0
      have hr14_1 : r14 = 1 → 8 ≤ qr6r → gI qr6s 48 = 3 := hr14_1
      refine wp_rg (by have : gI qr6s 48 = gI s 48 := Fqr6s.1 48 (by decide); have : (0 : Int) ≤ gI s 48 ∧ gI s 48 ≤ 3 := hRs.1 48; have : (0 : Int) ≤ gI s 5 ∧ gI s 5 ≤ 5 := hRs.1 5; have : gI qr6s 3 = gI s 3 := Fqr6s.1 3 (by decide); have : (0 : Int) ≤ gI qr6s 2 ∧ gI qr6s 2 ≤ 1600 := hRqr6s.1 2; have : (0 : Int) ≤ gI s 3 ∧ gI s 3 ≤ 1600 := hRs.1 3; have : (0 : Int) ≤ gI s 2 ∧ gI s 2 ≤ 1600 := hRs.1 2; omega) ?_
      refine wp_if (fun c3 => ?_) (fun c3 => ?_)
      · skip
        unfold m_x12_qWordOf_J27
        unfold m_x12_qWordOf_J28
        exact wp_some ⟨hRqr6s, by show (-1) ≤ (-1 : Int) ∧ ((-1 : Int) ≠ -1 → p0 ≤ (-1 : Int) ∧ (-1 : Int) < p1 ∧ gI s 5 = 0); have : gI qr6s 48 = gI s 48 := Fqr6s.1 48 (by decide); have : (0 : Int) ≤ gI s 48 ∧ gI s 48 ≤ 3 := hRs.1 48; have : gI qr6s 3 = gI s 3 := Fqr6s.1 3 (by decide); have : (0 : Int) ≤ gI qr6s 2 ∧ gI qr6s 2 ≤ 1600 := hRqr6s.1 2; have : (0 : Int) ≤ gI s 3 ∧ gI s 3 ≤ 1600 := hRs.1 3; have : (0 : Int) ≤ gI s 2 ∧ gI s 2 ≤ 1600 := hRs.1 2; have : (0 : Int) ≤ gI s 5 ∧ gI s 5 ≤ 5 := hRs.1 5; omega, by show gI s 2 ≤ gI qr6s 2 ∧ gI qr6s 2 ≤ gI qr6s 3; have : gI qr6s 48 = gI s 48 := Fqr6s.1 48 (by decide); have : (0 : Int) ≤ gI s 48 ∧ gI s 48 ≤ 3 := hRs.1 48; have : (0 : Int) ≤ gI s 5 ∧ gI s 5 ≤ 5 := hRs.1 5; have : (0 : Int) ≤ gI s 3 ∧ gI s 3 ≤ 1600 := hRs.1 3; have : gI qr6s 3 = gI s 3 := Fqr6s.1 3 (by decide); have : (0 : Int) ≤ gI qr6s 2 ∧ gI qr6s 2 ≤ 1600 := hRqr6s.1 2; have : (0 : Int) ≤ gI s 2 ∧ gI s 2 ≤ 1600 := hRs.1 2; omega, hqr6s_2, by show (-1 : Int) ≠ -1 → 8 ≤ (-1 : Int) → gI s 48 = 3; have : gI qr6s 48 = gI s 48 := Fqr6s.1 48 (by decide); have : (0 : Int) ≤ gI s 5 ∧ gI s 5 ≤ 5 := hRs.1 5; have : gI qr6s 3 = gI s 3 := Fqr6s.1 3 (by decide); have : (0 : Int) ≤ gI qr6s 2 ∧ gI qr6s 2 ≤ 1600 := hRqr6s.1 2; have : (0 : Int) ≤ gI s 3 ∧ gI s 3 ≤ 1600 := hRs.1 3; have : (0 : Int) ≤ gI s 2 ∧ gI s 2 ≤ 1600 := hRs.1 2; have : (0 : Int) ≤ gI s 48 ∧ gI s 48 ≤ 3 := hRs.1 48; omega⟩
      · skip
        unfold m_x12_qWordOf_J28
        exact wp_some ⟨hRqr6s, by show (-1) ≤ qr6r ∧ (qr6r ≠ -1 → p0 ≤ qr6r ∧ qr6r < p1 ∧ gI s 5 = 0); have : gI qr6s 48 = gI s 48 := Fqr6s.1 48 (by decide); have : (0 : Int) ≤ gI s 48 ∧ gI s 48 ≤ 3 := hRs.1 48; have : gI qr6s 3 = gI s 3 := Fqr6s.1 3 (by decide); have : (0 : Int) ≤ gI qr6s 2 ∧ gI qr6s 2 ≤ 1600 := hRqr6s.1 2; have : (0 : Int) ≤ gI s 3 ∧ gI s 3 ≤ 1600 := hRs.1 3; have : (0 : Int) ≤ gI s 2 ∧ gI s 2 ≤ 1600 := hRs.1 2; have : (0 : Int) ≤ gI s 5 ∧ gI s 5 ≤ 5 := hRs.1 5; omega, by show gI s 2 ≤ gI qr6s 2 ∧ gI qr6s 2 ≤ gI qr6s 3; have : gI qr6s 48 = gI s 48 := Fqr6s.1 48 (by decide); have : (0 : Int) ≤ gI s 48 ∧ gI s 48 ≤ 3 := hRs.1 48; have : (0 : Int) ≤ gI s 5 ∧ gI s 5 ≤ 5 := hRs.1 5; have : (0 : Int) ≤ gI s 3 ∧ gI s 3 ≤ 1600 := hRs.1 3; have : gI qr6s 3 = gI s 3 := Fqr6s.1 3 (by decide); have : (0 : Int) ≤ gI qr6s 2 ∧ gI qr6s 2 ≤ 1600 := hRqr6s.1 2; have : (0 : Int) ≤ gI s 2 ∧ gI s 2 ≤ 1600 := hRs.1 2; omega, hqr6s_2, by show qr6r ≠ -1 → 8 ≤ qr6r → gI s 48 = 3; have : gI qr6s 48 = gI s 48 := Fqr6s.1 48 (by decide); have : (0 : Int) ≤ gI s 5 ∧ gI s 5 ≤ 5 := hRs.1 5; have : gI qr6s 3 = gI s 3 := Fqr6s.1 3 (by decide); have : (0 : Int) ≤ gI qr6s 2 ∧ gI qr6s 2 ≤ 1600 := hRqr6s.1 2; have : (0 : Int) ≤ gI s 3 ∧ gI s 3 ≤ 1600 := hRs.1 3; have : (0 : Int) ≤ gI s 2 ∧ gI s 2 ≤ 1600 := hRs.1 2; have : (0 : Int) ≤ gI s 48 ∧ gI s 48 ≤ 3 := hRs.1 48; omega⟩
set_option maxHeartbeats 1000000 in
theorem w_x12_qAsksWord {p0 : Int} {s : MS} (hRs : Rr s) (hp0 : gI s 2 ≤ gI s 3) (hp1 : 0 ≤ p0 ∧ p0 ≤ 9) : wp (m_x12_qAsksWord p0 s) (fun o => (Rr o) ∧ (gI s 2 ≤ gI o 2 ∧ gI o 2 ≤ gI o 3) ∧ (gI s 5 ≠ 0 → gI o 5 ≠ 0) ∧ (gI o 5 = 0 → gI s 2 + 3 ≤ gI o 2)) := by
  unfold m_x12_qAsksWord
  refine wp_rg (by have : (0 : Int) ≤ gI s 3 ∧ gI s 3 ≤ 1600 := hRs.1 3; have : (0 : Int) ≤ gI s 2 ∧ gI s 2 ≤ 1600 := hRs.1 2; omega) ?_
  refine wp_if (fun c1 => ?_) (fun c1 => ?_)
  · skip
    refine wp_bn (w_x12_asks hRs (by show gI s 2 ≤ gI s 3; have : (0 : Int) ≤ gI s 3 ∧ gI s 3 ≤ 1600 := hRs.1 3; have : (0 : Int) ≤ gI s 2 ∧ gI s 2 ≤ 1600 := hRs.1 2; omega) (fun j hj => hRs.2.1 91 j hj) (by decide)) (fun s5 es5 hs5 => ?_)
    have Fs5 : F_x12_asks s s5 := fr_x12_asks es5
    obtain ⟨hRs5, hs5_0, hs5_1, hs5_2⟩ := hs5
    have hs5_0 : gI s 2 ≤ gI s5 2 ∧ gI s5 2 ≤ gI s5 3 := hs5_0
    have hs5_1 : gI s 5 ≠ 0 → gI s5 5 ≠ 0 := hs5_1
    have hs5_2 : gI s5 5 = 0 → gI s 2 + ((5 : Int) : Int) ≤ gI s5 2 := hs5_2
    unfold m_x12_qAsksWord_J159
    exact wp_some ⟨hRs5, by show gI s 2 ≤ gI s5 2 ∧ gI s5 2 ≤ gI s5 3; have : (0 : Int) ≤ gI s5 5 ∧ gI s5 5 ≤ 5 := hRs5.1 5; have : (0 : Int) ≤ gI s 5 ∧ gI s 5 ≤ 5 := hRs.1 5; have : (0 : Int) ≤ gI s 3 ∧ gI s 3 ≤ 1600 := hRs.1 3; have : gI s5 3 = gI s 3 := Fs5.1 3 (by decide); have : (0 : Int) ≤ gI s5 2 ∧ gI s5 2 ≤ 1600 := hRs5.1 2; have : (0 : Int) ≤ gI s 2 ∧ gI s 2 ≤ 1600 := hRs.1 2; omega, by show gI s 5 ≠ 0 → gI s5 5 ≠ 0; have : gI s5 3 = gI s 3 := Fs5.1 3 (by decide); have : (0 : Int) ≤ gI s5 2 ∧ gI s5 2 ≤ 1600 := hRs5.1 2; have : (0 : Int) ≤ gI s 3 ∧ gI s 3 ≤ 1600 := hRs.1 3; have : (0 : Int) ≤ gI s 2 ∧ gI s 2 ≤ 1600 := hRs.1 2; have : (0 : Int) ≤ gI s5 5 ∧ gI s5 5 ≤ 5 := hRs5.1 5; have : (0 : Int) ≤ gI s 5 ∧ gI s 5 ≤ 5 := hRs.1 5; omega, by show gI s5 5 = 0 → gI s 2 + 3 ≤ gI s5 2; have : (0 : Int) ≤ gI s 5 ∧ gI s 5 ≤ 5 := hRs.1 5; have : gI s5 3 = gI s 3 := Fs5.1 3 (by decide); have : (0 : Int) ≤ gI s 3 ∧ gI s 3 ≤ 1600 := hRs.1 3; have : (0 : Int) ≤ gI s5 2 ∧ gI s5 2 ≤ 1600 := hRs5.1 2; have : (0 : Int) ≤ gI s 2 ∧ gI s 2 ≤ 1600 := hRs.1 2; have : (0 : Int) ≤ gI s5 5 ∧ gI s5 5 ≤ 5 := hRs5.1 5; omega⟩
  · skip
    refine wp_if (fun c2 => ?_) (fun c2 => ?_)
    · skip
      refine wp_bn (w_x12_asks hRs (by show gI s 2 ≤ gI s 3; have : (0 : Int) ≤ gI s 3 ∧ gI s 3 ≤ 1600 := hRs.1 3; have : (0 : Int) ≤ gI s 2 ∧ gI s 2 ≤ 1600 := hRs.1 2; omega) (fun j hj => hRs.2.1 92 j hj) (by decide)) (fun s8 es8 hs8 => ?_)
      have Fs8 : F_x12_asks s s8 := fr_x12_asks es8
      obtain ⟨hRs8, hs8_0, hs8_1, hs8_2⟩ := hs8
      have hs8_0 : gI s 2 ≤ gI s8 2 ∧ gI s8 2 ≤ gI s8 3 := hs8_0
      have hs8_1 : gI s 5 ≠ 0 → gI s8 5 ≠ 0 := hs8_1
      have hs8_2 : gI s8 5 = 0 → gI s 2 + ((5 : Int) : Int) ≤ gI s8 2 := hs8_2
      unfold m_x12_qAsksWord_J159
      exact wp_some ⟨hRs8, by show gI s 2 ≤ gI s8 2 ∧ gI s8 2 ≤ gI s8 3; have : (0 : Int) ≤ gI s8 5 ∧ gI s8 5 ≤ 5 := hRs8.1 5; have : (0 : Int) ≤ gI s 5 ∧ gI s 5 ≤ 5 := hRs.1 5; have : (0 : Int) ≤ gI s 3 ∧ gI s 3 ≤ 1600 := hRs.1 3; have : gI s8 3 = gI s 3 := Fs8.1 3 (by decide); have : (0 : Int) ≤ gI s8 2 ∧ gI s8 2 ≤ 1600 := hRs8.1 2; have : (0 : Int) ≤ gI s 2 ∧ gI s 2 ≤ 1600 := hRs.1 2; omega, by show gI s 5 ≠ 0 → gI s8 5 ≠ 0; have : gI s8 3 = gI s 3 := Fs8.1 3 (by decide); have : (0 : Int) ≤ gI s8 2 ∧ gI s8 2 ≤ 1600 := hRs8.1 2; have : (0 : Int) ≤ gI s 3 ∧ gI s 3 ≤ 1600 := hRs.1 3; have : (0 : Int) ≤ gI s 2 ∧ gI s 2 ≤ 1600 := hRs.1 2; have : (0 : Int) ≤ gI s8 5 ∧ gI s8 5 ≤ 5 := hRs8.1 5; have : (0 : Int) ≤ gI s 5 ∧ gI s 5 ≤ 5 := hRs.1 5; omega, by show gI s8 5 = 0 → gI s 2 + 3 ≤ gI s8 2; have : (0 : Int) ≤ gI s 5 ∧ gI s 5 ≤ 5 := hRs.1 5; have : gI s8 3 = gI s 3 := Fs8.1 3 (by decide); have : (0 : Int) ≤ gI s 3 ∧ gI s 3 ≤ 1600 := hRs.1 3; have : (0 : Int) ≤ gI s8 2 ∧ gI s8 2 ≤ 1600 := hRs8.1 2; have : (0 : Int) ≤ gI s 2 ∧ gI s 2 ≤ 1600 := hRs.1 2; have : (0 : Int) ≤ gI s8 5 ∧ gI s8 5 ≤ 5 := hRs8.1 5; omega⟩
    · skip
      refine wp_if (fun c3 => ?_) (fun c3 => ?_)
      · skip
        refine wp_bn (w_x12_asks hRs (by show gI s 2 ≤ gI s 3; have : (0 : Int) ≤ gI s 3 ∧ gI s 3 ≤ 1600 := hRs.1 3; have : (0 : Int) ≤ gI s 2 ∧ gI s 2 ≤ 1600 := hRs.1 2; omega) (fun j hj => hRs.2.1 93 j hj) (by decide)) (fun s11 es11 hs11 => ?_)
        have Fs11 : F_x12_asks s s11 := fr_x12_asks es11
        obtain ⟨hRs11, hs11_0, hs11_1, hs11_2⟩ := hs11
        have hs11_0 : gI s 2 ≤ gI s11 2 ∧ gI s11 2 ≤ gI s11 3 := hs11_0
        have hs11_1 : gI s 5 ≠ 0 → gI s11 5 ≠ 0 := hs11_1
        have hs11_2 : gI s11 5 = 0 → gI s 2 + ((4 : Int) : Int) ≤ gI s11 2 := hs11_2
        unfold m_x12_qAsksWord_J159
        exact wp_some ⟨hRs11, by show gI s 2 ≤ gI s11 2 ∧ gI s11 2 ≤ gI s11 3; have : (0 : Int) ≤ gI s11 5 ∧ gI s11 5 ≤ 5 := hRs11.1 5; have : (0 : Int) ≤ gI s 5 ∧ gI s 5 ≤ 5 := hRs.1 5; have : (0 : Int) ≤ gI s 3 ∧ gI s 3 ≤ 1600 := hRs.1 3; have : gI s11 3 = gI s 3 := Fs11.1 3 (by decide); have : (0 : Int) ≤ gI s11 2 ∧ gI s11 2 ≤ 1600 := hRs11.1 2; have : (0 : Int) ≤ gI s 2 ∧ gI s 2 ≤ 1600 := hRs.1 2; omega, by show gI s 5 ≠ 0 → gI s11 5 ≠ 0; have : gI s11 3 = gI s 3 := Fs11.1 3 (by decide); have : (0 : Int) ≤ gI s11 2 ∧ gI s11 2 ≤ 1600 := hRs11.1 2; have : (0 : Int) ≤ gI s 3 ∧ gI s 3 ≤ 1600 := hRs.1 3; have : (0 : Int) ≤ gI s 2 ∧ gI s 2 ≤ 1600 := hRs.1 2; have : (0 : Int) ≤ gI s11 5 ∧ gI s11 5 ≤ 5 := hRs11.1 5; have : (0 : Int) ≤ gI s 5 ∧ gI s 5 ≤ 5 := hRs.1 5; omega, by show gI s11 5 = 0 → gI s 2 + 3 ≤ gI s11 2; have : (0 : Int) ≤ gI s 5 ∧ gI s 5 ≤ 5 := hRs.1 5; have : gI s11 3 = gI s 3 := Fs11.1 3 (by decide); have : (0 : Int) ≤ gI s 3 ∧ gI s 3 ≤ 1600 := hRs.1 3; have : (0 : Int) ≤ gI s11 2 ∧ gI s11 2 ≤ 1600 := hRs11.1 2; have : (0 : Int) ≤ gI s 2 ∧ gI s 2 ≤ 1600 := hRs.1 2; have : (0 : Int) ≤ gI s11 5 ∧ gI s11 5 ≤ 5 := hRs11.1 5; omega⟩
      · skip
        refine wp_if (fun c4 => ?_) (fun c4 => ?_)
        · skip
          refine wp_bn (w_x12_asks hRs (by show gI s 2 ≤ gI s 3; have : (0 : Int) ≤ gI s 3 ∧ gI s 3 ≤ 1600 := hRs.1 3; have : (0 : Int) ≤ gI s 2 ∧ gI s 2 ≤ 1600 := hRs.1 2; omega) (fun j hj => hRs.2.1 94 j hj) (by decide)) (fun s14 es14 hs14 => ?_)
          have Fs14 : F_x12_asks s s14 := fr_x12_asks es14
          obtain ⟨hRs14, hs14_0, hs14_1, hs14_2⟩ := hs14
          have hs14_0 : gI s 2 ≤ gI s14 2 ∧ gI s14 2 ≤ gI s14 3 := hs14_0
          have hs14_1 : gI s 5 ≠ 0 → gI s14 5 ≠ 0 := hs14_1
          have hs14_2 : gI s14 5 = 0 → gI s 2 + ((7 : Int) : Int) ≤ gI s14 2 := hs14_2
          unfold m_x12_qAsksWord_J159
          exact wp_some ⟨hRs14, by show gI s 2 ≤ gI s14 2 ∧ gI s14 2 ≤ gI s14 3; have : (0 : Int) ≤ gI s14 5 ∧ gI s14 5 ≤ 5 := hRs14.1 5; have : (0 : Int) ≤ gI s 5 ∧ gI s 5 ≤ 5 := hRs.1 5; have : (0 : Int) ≤ gI s 3 ∧ gI s 3 ≤ 1600 := hRs.1 3; have : gI s14 3 = gI s 3 := Fs14.1 3 (by decide); have : (0 : Int) ≤ gI s14 2 ∧ gI s14 2 ≤ 1600 := hRs14.1 2; have : (0 : Int) ≤ gI s 2 ∧ gI s 2 ≤ 1600 := hRs.1 2; omega, by show gI s 5 ≠ 0 → gI s14 5 ≠ 0; have : gI s14 3 = gI s 3 := Fs14.1 3 (by decide); have : (0 : Int) ≤ gI s14 2 ∧ gI s14 2 ≤ 1600 := hRs14.1 2; have : (0 : Int) ≤ gI s 3 ∧ gI s 3 ≤ 1600 := hRs.1 3; have : (0 : Int) ≤ gI s 2 ∧ gI s 2 ≤ 1600 := hRs.1 2; have : (0 : Int) ≤ gI s14 5 ∧ gI s14 5 ≤ 5 := hRs14.1 5; have : (0 : Int) ≤ gI s 5 ∧ gI s 5 ≤ 5 := hRs.1 5; omega, by show gI s14 5 = 0 → gI s 2 + 3 ≤ gI s14 2; have : (0 : Int) ≤ gI s 5 ∧ gI s 5 ≤ 5 := hRs.1 5; have : gI s14 3 = gI s 3 := Fs14.1 3 (by decide); have : (0 : Int) ≤ gI s 3 ∧ gI s 3 ≤ 1600 := hRs.1 3; have : (0 : Int) ≤ gI s14 2 ∧ gI s14 2 ≤ 1600 := hRs14.1 2; have : (0 : Int) ≤ gI s 2 ∧ gI s 2 ≤ 1600 := hRs.1 2; have : (0 : Int) ≤ gI s14 5 ∧ gI s14 5 ≤ 5 := hRs14.1 5; omega⟩
        · skip
          refine wp_if (fun c5 => ?_) (fun c5 => ?_)
          · skip
            refine wp_bn (w_x12_asks hRs (by show gI s 2 ≤ gI s 3; have : (0 : Int) ≤ gI s 3 ∧ gI s 3 ≤ 1600 := hRs.1 3; have : (0 : Int) ≤ gI s 2 ∧ gI s 2 ≤ 1600 := hRs.1 2; omega) (fun j hj => hRs.2.1 95 j hj) (by decide)) (fun s17 es17 hs17 => ?_)
            have Fs17 : F_x12_asks s s17 := fr_x12_asks es17
            obtain ⟨hRs17, hs17_0, hs17_1, hs17_2⟩ := hs17
            have hs17_0 : gI s 2 ≤ gI s17 2 ∧ gI s17 2 ≤ gI s17 3 := hs17_0
            have hs17_1 : gI s 5 ≠ 0 → gI s17 5 ≠ 0 := hs17_1
            have hs17_2 : gI s17 5 = 0 → gI s 2 + ((6 : Int) : Int) ≤ gI s17 2 := hs17_2
            unfold m_x12_qAsksWord_J159
            exact wp_some ⟨hRs17, by show gI s 2 ≤ gI s17 2 ∧ gI s17 2 ≤ gI s17 3; have : (0 : Int) ≤ gI s17 5 ∧ gI s17 5 ≤ 5 := hRs17.1 5; have : (0 : Int) ≤ gI s 5 ∧ gI s 5 ≤ 5 := hRs.1 5; have : (0 : Int) ≤ gI s 3 ∧ gI s 3 ≤ 1600 := hRs.1 3; have : gI s17 3 = gI s 3 := Fs17.1 3 (by decide); have : (0 : Int) ≤ gI s17 2 ∧ gI s17 2 ≤ 1600 := hRs17.1 2; have : (0 : Int) ≤ gI s 2 ∧ gI s 2 ≤ 1600 := hRs.1 2; omega, by show gI s 5 ≠ 0 → gI s17 5 ≠ 0; have : gI s17 3 = gI s 3 := Fs17.1 3 (by decide); have : (0 : Int) ≤ gI s17 2 ∧ gI s17 2 ≤ 1600 := hRs17.1 2; have : (0 : Int) ≤ gI s 3 ∧ gI s 3 ≤ 1600 := hRs.1 3; have : (0 : Int) ≤ gI s 2 ∧ gI s 2 ≤ 1600 := hRs.1 2; have : (0 : Int) ≤ gI s17 5 ∧ gI s17 5 ≤ 5 := hRs17.1 5; have : (0 : Int) ≤ gI s 5 ∧ gI s 5 ≤ 5 := hRs.1 5; omega, by show gI s17 5 = 0 → gI s 2 + 3 ≤ gI s17 2; have : (0 : Int) ≤ gI s 5 ∧ gI s 5 ≤ 5 := hRs.1 5; have : gI s17 3 = gI s 3 := Fs17.1 3 (by decide); have : (0 : Int) ≤ gI s 3 ∧ gI s 3 ≤ 1600 := hRs.1 3; have : (0 : Int) ≤ gI s17 2 ∧ gI s17 2 ≤ 1600 := hRs17.1 2; have : (0 : Int) ≤ gI s 2 ∧ gI s 2 ≤ 1600 := hRs.1 2; have : (0 : Int) ≤ gI s17 5 ∧ gI s17 5 ≤ 5 := hRs17.1 5; omega⟩
          · skip
            refine wp_if (fun c6 => ?_) (fun c6 => ?_)
            · skip
              refine wp_bn (w_x12_asks hRs (by show gI s 2 ≤ gI s 3; have : (0 : Int) ≤ gI s 3 ∧ gI s 3 ≤ 1600 := hRs.1 3; have : (0 : Int) ≤ gI s 2 ∧ gI s 2 ≤ 1600 := hRs.1 2; omega) (fun j hj => hRs.2.1 96 j hj) (by decide)) (fun s20 es20 hs20 => ?_)
              have Fs20 : F_x12_asks s s20 := fr_x12_asks es20
              obtain ⟨hRs20, hs20_0, hs20_1, hs20_2⟩ := hs20
              have hs20_0 : gI s 2 ≤ gI s20 2 ∧ gI s20 2 ≤ gI s20 3 := hs20_0
              have hs20_1 : gI s 5 ≠ 0 → gI s20 5 ≠ 0 := hs20_1
              have hs20_2 : gI s20 5 = 0 → gI s 2 + ((5 : Int) : Int) ≤ gI s20 2 := hs20_2
              unfold m_x12_qAsksWord_J159
              exact wp_some ⟨hRs20, by show gI s 2 ≤ gI s20 2 ∧ gI s20 2 ≤ gI s20 3; have : (0 : Int) ≤ gI s20 5 ∧ gI s20 5 ≤ 5 := hRs20.1 5; have : (0 : Int) ≤ gI s 5 ∧ gI s 5 ≤ 5 := hRs.1 5; have : (0 : Int) ≤ gI s 3 ∧ gI s 3 ≤ 1600 := hRs.1 3; have : gI s20 3 = gI s 3 := Fs20.1 3 (by decide); have : (0 : Int) ≤ gI s20 2 ∧ gI s20 2 ≤ 1600 := hRs20.1 2; have : (0 : Int) ≤ gI s 2 ∧ gI s 2 ≤ 1600 := hRs.1 2; omega, by show gI s 5 ≠ 0 → gI s20 5 ≠ 0; have : gI s20 3 = gI s 3 := Fs20.1 3 (by decide); have : (0 : Int) ≤ gI s20 2 ∧ gI s20 2 ≤ 1600 := hRs20.1 2; have : (0 : Int) ≤ gI s 3 ∧ gI s 3 ≤ 1600 := hRs.1 3; have : (0 : Int) ≤ gI s 2 ∧ gI s 2 ≤ 1600 := hRs.1 2; have : (0 : Int) ≤ gI s20 5 ∧ gI s20 5 ≤ 5 := hRs20.1 5; have : (0 : Int) ≤ gI s 5 ∧ gI s 5 ≤ 5 := hRs.1 5; omega, by show gI s20 5 = 0 → gI s 2 + 3 ≤ gI s20 2; have : (0 : Int) ≤ gI s 5 ∧ gI s 5 ≤ 5 := hRs.1 5; have : gI s20 3 = gI s 3 := Fs20.1 3 (by decide); have : (0 : Int) ≤ gI s 3 ∧ gI s 3 ≤ 1600 := hRs.1 3; have : (0 : Int) ≤ gI s20 2 ∧ gI s20 2 ≤ 1600 := hRs20.1 2; have : (0 : Int) ≤ gI s 2 ∧ gI s 2 ≤ 1600 := hRs.1 2; have : (0 : Int) ≤ gI s20 5 ∧ gI s20 5 ≤ 5 := hRs20.1 5; omega⟩
            · skip
              refine wp_if (fun c7 => ?_) (fun c7 => ?_)
              · skip
                refine wp_bn (w_x12_asks hRs (by show gI s 2 ≤ gI s 3; have : (0 : Int) ≤ gI s 3 ∧ gI s 3 ≤ 1600 := hRs.1 3; have : (0 : Int) ≤ gI s 2 ∧ gI s 2 ≤ 1600 := hRs.1 2; omega) (fun j hj => hRs.2.1 97 j hj) (by decide)) (fun s23 es23 hs23 => ?_)
                have Fs23 : F_x12_asks s s23 := fr_x12_asks es23
                obtain ⟨hRs23, hs23_0, hs23_1, hs23_2⟩ := hs23
                have hs23_0 : gI s 2 ≤ gI s23 2 ∧ gI s23 2 ≤ gI s23 3 := hs23_0
                have hs23_1 : gI s 5 ≠ 0 → gI s23 5 ≠ 0 := hs23_1
                have hs23_2 : gI s23 5 = 0 → gI s 2 + ((5 : Int) : Int) ≤ gI s23 2 := hs23_2
                unfold m_x12_qAsksWord_J159
                exact wp_some ⟨hRs23, by show gI s 2 ≤ gI s23 2 ∧ gI s23 2 ≤ gI s23 3; have : (0 : Int) ≤ gI s23 5 ∧ gI s23 5 ≤ 5 := hRs23.1 5; have : (0 : Int) ≤ gI s 5 ∧ gI s 5 ≤ 5 := hRs.1 5; have : (0 : Int) ≤ gI s 3 ∧ gI s 3 ≤ 1600 := hRs.1 3; have : gI s23 3 = gI s 3 := Fs23.1 3 (by decide); have : (0 : Int) ≤ gI s23 2 ∧ gI s23 2 ≤ 1600 := hRs23.1 2; have : (0 : Int) ≤ gI s 2 ∧ gI s 2 ≤ 1600 := hRs.1 2; omega, by show gI s 5 ≠ 0 → gI s23 5 ≠ 0; have : gI s23 3 = gI s 3 := Fs23.1 3 (by decide); have : (0 : Int) ≤ gI s23 2 ∧ gI s23 2 ≤ 1600 := hRs23.1 2; have : (0 : Int) ≤ gI s 3 ∧ gI s 3 ≤ 1600 := hRs.1 3; have : (0 : Int) ≤ gI s 2 ∧ gI s 2 ≤ 1600 := hRs.1 2; have : (0 : Int) ≤ gI s23 5 ∧ gI s23 5 ≤ 5 := hRs23.1 5; have : (0 : Int) ≤ gI s 5 ∧ gI s 5 ≤ 5 := hRs.1 5; omega, by show gI s23 5 = 0 → gI s 2 + 3 ≤ gI s23 2; have : (0 : Int) ≤ gI s 5 ∧ gI s 5 ≤ 5 := hRs.1 5; have : gI s23 3 = gI s 3 := Fs23.1 3 (by decide); have : (0 : Int) ≤ gI s 3 ∧ gI s 3 ≤ 1600 := hRs.1 3; have : (0 : Int) ≤ gI s23 2 ∧ gI s23 2 ≤ 1600 := hRs23.1 2; have : (0 : Int) ≤ gI s 2 ∧ gI s 2 ≤ 1600 := hRs.1 2; have : (0 : Int) ≤ gI s23 5 ∧ gI s23 5 ≤ 5 := hRs23.1 5; omega⟩
              · skip
                refine wp_if (fun c8 => ?_) (fun c8 => ?_)
                · skip
                  refine wp_bn (w_x12_asks hRs (by show gI s 2 ≤ gI s 3; have : (0 : Int) ≤ gI s 3 ∧ gI s 3 ≤ 1600 := hRs.1 3; have : (0 : Int) ≤ gI s 2 ∧ gI s 2 ≤ 1600 := hRs.1 2; omega) (fun j hj => hRs.2.1 98 j hj) (by decide)) (fun s26 es26 hs26 => ?_)
                  have Fs26 : F_x12_asks s s26 := fr_x12_asks es26
                  obtain ⟨hRs26, hs26_0, hs26_1, hs26_2⟩ := hs26
                  have hs26_0 : gI s 2 ≤ gI s26 2 ∧ gI s26 2 ≤ gI s26 3 := hs26_0
                  have hs26_1 : gI s 5 ≠ 0 → gI s26 5 ≠ 0 := hs26_1
                  have hs26_2 : gI s26 5 = 0 → gI s 2 + ((5 : Int) : Int) ≤ gI s26 2 := hs26_2
                  unfold m_x12_qAsksWord_J159
                  exact wp_some ⟨hRs26, by show gI s 2 ≤ gI s26 2 ∧ gI s26 2 ≤ gI s26 3; have : (0 : Int) ≤ gI s26 5 ∧ gI s26 5 ≤ 5 := hRs26.1 5; have : (0 : Int) ≤ gI s 5 ∧ gI s 5 ≤ 5 := hRs.1 5; have : (0 : Int) ≤ gI s 3 ∧ gI s 3 ≤ 1600 := hRs.1 3; have : gI s26 3 = gI s 3 := Fs26.1 3 (by decide); have : (0 : Int) ≤ gI s26 2 ∧ gI s26 2 ≤ 1600 := hRs26.1 2; have : (0 : Int) ≤ gI s 2 ∧ gI s 2 ≤ 1600 := hRs.1 2; omega, by show gI s 5 ≠ 0 → gI s26 5 ≠ 0; have : gI s26 3 = gI s 3 := Fs26.1 3 (by decide); have : (0 : Int) ≤ gI s26 2 ∧ gI s26 2 ≤ 1600 := hRs26.1 2; have : (0 : Int) ≤ gI s 3 ∧ gI s 3 ≤ 1600 := hRs.1 3; have : (0 : Int) ≤ gI s 2 ∧ gI s 2 ≤ 1600 := hRs.1 2; have : (0 : Int) ≤ gI s26 5 ∧ gI s26 5 ≤ 5 := hRs26.1 5; have : (0 : Int) ≤ gI s 5 ∧ gI s 5 ≤ 5 := hRs.1 5; omega, by show gI s26 5 = 0 → gI s 2 + 3 ≤ gI s26 2; have : (0 : Int) ≤ gI s 5 ∧ gI s 5 ≤ 5 := hRs.1 5; have : gI s26 3 = gI s 3 := Fs26.1 3 (by decide); have : (0 : Int) ≤ gI s 3 ∧ gI s 3 ≤ 1600 := hRs.1 3; have : (0 : Int) ≤ gI s26 2 ∧ gI s26 2 ≤ 1600 := hRs26.1 2; have : (0 : Int) ≤ gI s 2 ∧ gI s 2 ≤ 1600 := hRs.1 2; have : (0 : Int) ≤ gI s26 5 ∧ gI s26 5 ≤ 5 := hRs26.1 5; omega⟩
                · skip
                  refine wp_if (fun c9 => ?_) (fun c9 => ?_)
                  · skip
                    refine wp_bn (w_x12_asks hRs (by show gI s 2 ≤ gI s 3; have : (0 : Int) ≤ gI s 3 ∧ gI s 3 ≤ 1600 := hRs.1 3; have : (0 : Int) ≤ gI s 2 ∧ gI s 2 ≤ 1600 := hRs.1 2; omega) (fun j hj => hRs.2.1 99 j hj) (by decide)) (fun s29 es29 hs29 => ?_)
                    have Fs29 : F_x12_asks s s29 := fr_x12_asks es29
                    obtain ⟨hRs29, hs29_0, hs29_1, hs29_2⟩ := hs29
                    have hs29_0 : gI s 2 ≤ gI s29 2 ∧ gI s29 2 ≤ gI s29 3 := hs29_0
                    have hs29_1 : gI s 5 ≠ 0 → gI s29 5 ≠ 0 := hs29_1
                    have hs29_2 : gI s29 5 = 0 → gI s 2 + ((4 : Int) : Int) ≤ gI s29 2 := hs29_2
                    unfold m_x12_qAsksWord_J159
                    exact wp_some ⟨hRs29, by show gI s 2 ≤ gI s29 2 ∧ gI s29 2 ≤ gI s29 3; have : (0 : Int) ≤ gI s29 5 ∧ gI s29 5 ≤ 5 := hRs29.1 5; have : (0 : Int) ≤ gI s 5 ∧ gI s 5 ≤ 5 := hRs.1 5; have : (0 : Int) ≤ gI s 3 ∧ gI s 3 ≤ 1600 := hRs.1 3; have : gI s29 3 = gI s 3 := Fs29.1 3 (by decide); have : (0 : Int) ≤ gI s29 2 ∧ gI s29 2 ≤ 1600 := hRs29.1 2; have : (0 : Int) ≤ gI s 2 ∧ gI s 2 ≤ 1600 := hRs.1 2; omega, by show gI s 5 ≠ 0 → gI s29 5 ≠ 0; have : gI s29 3 = gI s 3 := Fs29.1 3 (by decide); have : (0 : Int) ≤ gI s29 2 ∧ gI s29 2 ≤ 1600 := hRs29.1 2; have : (0 : Int) ≤ gI s 3 ∧ gI s 3 ≤ 1600 := hRs.1 3; have : (0 : Int) ≤ gI s 2 ∧ gI s 2 ≤ 1600 := hRs.1 2; have : (0 : Int) ≤ gI s29 5 ∧ gI s29 5 ≤ 5 := hRs29.1 5; have : (0 : Int) ≤ gI s 5 ∧ gI s 5 ≤ 5 := hRs.1 5; omega, by show gI s29 5 = 0 → gI s 2 + 3 ≤ gI s29 2; have : (0 : Int) ≤ gI s 5 ∧ gI s 5 ≤ 5 := hRs.1 5; have : gI s29 3 = gI s 3 := Fs29.1 3 (by decide); have : (0 : Int) ≤ gI s 3 ∧ gI s 3 ≤ 1600 := hRs.1 3; have : (0 : Int) ≤ gI s29 2 ∧ gI s29 2 ≤ 1600 := hRs29.1 2; have : (0 : Int) ≤ gI s 2 ∧ gI s 2 ≤ 1600 := hRs.1 2; have : (0 : Int) ≤ gI s29 5 ∧ gI s29 5 ≤ 5 := hRs29.1 5; omega⟩
                  · skip
                    refine wp_bn (w_x12_asks hRs (by show gI s 2 ≤ gI s 3; have : (0 : Int) ≤ gI s 3 ∧ gI s 3 ≤ 1600 := hRs.1 3; have : (0 : Int) ≤ gI s 2 ∧ gI s 2 ≤ 1600 := hRs.1 2; omega) (fun j hj => hRs.2.1 100 j hj) (by decide)) (fun s31 es31 hs31 => ?_)
                    have Fs31 : F_x12_asks s s31 := fr_x12_asks es31
                    obtain ⟨hRs31, hs31_0, hs31_1, hs31_2⟩ := hs31
                    have hs31_0 : gI s 2 ≤ gI s31 2 ∧ gI s31 2 ≤ gI s31 3 := hs31_0
                    have hs31_1 : gI s 5 ≠ 0 → gI s31 5 ≠ 0 := hs31_1
                    have hs31_2 : gI s31 5 = 0 → gI s 2 + ((3 : Int) : Int) ≤ gI s31 2 := hs31_2
                    unfold m_x12_qAsksWord_J159
                    exact wp_some ⟨hRs31, by show gI s 2 ≤ gI s31 2 ∧ gI s31 2 ≤ gI s31 3; have : (0 : Int) ≤ gI s31 5 ∧ gI s31 5 ≤ 5 := hRs31.1 5; have : (0 : Int) ≤ gI s 5 ∧ gI s 5 ≤ 5 := hRs.1 5; have : (0 : Int) ≤ gI s 3 ∧ gI s 3 ≤ 1600 := hRs.1 3; have : gI s31 3 = gI s 3 := Fs31.1 3 (by decide); have : (0 : Int) ≤ gI s31 2 ∧ gI s31 2 ≤ 1600 := hRs31.1 2; have : (0 : Int) ≤ gI s 2 ∧ gI s 2 ≤ 1600 := hRs.1 2; omega, by show gI s 5 ≠ 0 → gI s31 5 ≠ 0; have : gI s31 3 = gI s 3 := Fs31.1 3 (by decide); have : (0 : Int) ≤ gI s31 2 ∧ gI s31 2 ≤ 1600 := hRs31.1 2; have : (0 : Int) ≤ gI s 3 ∧ gI s 3 ≤ 1600 := hRs.1 3; have : (0 : Int) ≤ gI s 2 ∧ gI s 2 ≤ 1600 := hRs.1 2; have : (0 : Int) ≤ gI s31 5 ∧ gI s31 5 ≤ 5 := hRs31.1 5; have : (0 : Int) ≤ gI s 5 ∧ gI s 5 ≤ 5 := hRs.1 5; omega, by show gI s31 5 = 0 → gI s 2 + 3 ≤ gI s31 2; have : (0 : Int) ≤ gI s 5 ∧ gI s 5 ≤ 5 := hRs.1 5; have : gI s31 3 = gI s 3 := Fs31.1 3 (by decide); have : (0 : Int) ≤ gI s 3 ∧ gI s 3 ≤ 1600 := hRs.1 3; have : (0 : Int) ≤ gI s31 2 ∧ gI s31 2 ≤ 1600 := hRs31.1 2; have : (0 : Int) ≤ gI s 2 ∧ gI s 2 ≤ 1600 := hRs.1 2; have : (0 : Int) ≤ gI s31 5 ∧ gI s31 5 ≤ 5 := hRs31.1 5; omega⟩
set_option maxHeartbeats 1000000 in
theorem w_x12_qEndsPart {d k : Int} {s : MS} (hRs : Rr s) (hp0 : gI s 5 = 0 → QS s (gI s 106) d k) (hp1 : 1 ≤ d) (hp2 : gI s 102 ≤ 1601) (hp3 : k ≤ 0) : wp (m_x12_qEndsPart s) (fun o => (Rr o) ∧ (gI s 5 = 0 → QS o (gI s 106) d k) ∧ (gI o 102 ≤ 1601)) := by
  unfold m_x12_qEndsPart
  have L0 : ∀ (n : Nat) (s2 : MS), Rr s2 → (gI s2 2 = gI s 2 ∧ gI s2 5 = gI s 5 ∧ gI s2 106 = gI s 106) → (gI s 5 = 0 → QS s2 (gI s 106) d k) → (gI s2 102 ≤ 1601) → (gI s2 104) < (n : Int) → wp (m_x12_qEndsPart_L0 n s2) (fun o => (Rr o) ∧ (gI s 5 = 0 → QS o (gI s 106) d k) ∧ (gI o 102 ≤ 1601)) := by
    refine fr_ind (fun s2 hRs2 hv0_0 hv0_1 hv0_2 hm0 => ?_) (fun n0 ih0 s2 hRs2 hv0_0 hv0_1 hv0_2 hm0 => ?_)
    · exfalso; have : (0 : Int) ≤ gI s2 102 ∧ gI s2 102 ≤ 1700 := hRs2.1 102; have : (0 : Int) ≤ gI s 106 ∧ gI s 106 ≤ 1700 := hRs.1 106; have : (0 : Int) ≤ gI s2 106 ∧ gI s2 106 ≤ 1700 := hRs2.1 106; have : (0 : Int) ≤ gI s 5 ∧ gI s 5 ≤ 5 := hRs.1 5; have : (0 : Int) ≤ gI s2 5 ∧ gI s2 5 ≤ 5 := hRs2.1 5; have : (0 : Int) ≤ gI s 2 ∧ gI s 2 ≤ 1600 := hRs.1 2; have : (0 : Int) ≤ gI s2 2 ∧ gI s2 2 ≤ 1600 := hRs2.1 2; have : (0 : Int) ≤ gI s2 104 ∧ gI s2 104 ≤ 1700 := hRs2.1 104; omega
    · show wp (m_x12_qEndsPart_b0 (m_x12_qEndsPart_L0 n0) s2) _
      unfold m_x12_qEndsPart_b0
      refine wp_rg (by have : (0 : Int) ≤ gI s2 102 ∧ gI s2 102 ≤ 1700 := hRs2.1 102; have : (0 : Int) ≤ gI s2 106 ∧ gI s2 106 ≤ 1700 := hRs2.1 106; have : (0 : Int) ≤ gI s 2 ∧ gI s 2 ≤ 1600 := hRs.1 2; have : (0 : Int) ≤ gI s2 2 ∧ gI s2 2 ≤ 1600 := hRs2.1 2; have : (0 : Int) ≤ gI s 102 ∧ gI s 102 ≤ 1700 := hRs.1 102; have : (0 : Int) ≤ gI s 106 ∧ gI s 106 ≤ 1700 := hRs.1 106; have : (0 : Int) ≤ gI s 5 ∧ gI s 5 ≤ 5 := hRs.1 5; have : (0 : Int) ≤ gI s2 5 ∧ gI s2 5 ≤ 5 := hRs2.1 5; omega) ?_
      refine wp_if (fun c1 => ?_) (fun c1 => ?_)
      · skip
        refine wp_rg (by have : (0 : Int) ≤ gI s2 102 ∧ gI s2 102 ≤ 1700 := hRs2.1 102; have : (0 : Int) ≤ gI s2 106 ∧ gI s2 106 ≤ 1700 := hRs2.1 106; have : (0 : Int) ≤ gI s2 5 ∧ gI s2 5 ≤ 5 := hRs2.1 5; have : (0 : Int) ≤ gI s 2 ∧ gI s 2 ≤ 1600 := hRs.1 2; have : (0 : Int) ≤ gI s2 2 ∧ gI s2 2 ≤ 1600 := hRs2.1 2; have : (0 : Int) ≤ gI s 102 ∧ gI s 102 ≤ 1700 := hRs.1 102; have : (0 : Int) ≤ gI s 106 ∧ gI s 106 ≤ 1700 := hRs.1 106; have : (0 : Int) ≤ gI s 5 ∧ gI s 5 ≤ 5 := hRs.1 5; have : (0 : Int) ≤ gI s2 104 ∧ gI s2 104 ≤ 1700 := hRs2.1 104; omega) ?_
        refine wp_rg (by have : (0 : Int) ≤ gI s2 102 ∧ gI s2 102 ≤ 1700 := hRs2.1 102; have : (0 : Int) ≤ gI s2 5 ∧ gI s2 5 ≤ 5 := hRs2.1 5; have : (0 : Int) ≤ gI s 2 ∧ gI s 2 ≤ 1600 := hRs.1 2; have : (0 : Int) ≤ gI s2 2 ∧ gI s2 2 ≤ 1600 := hRs2.1 2; have : (0 : Int) ≤ gI s 102 ∧ gI s 102 ≤ 1700 := hRs.1 102; have : (0 : Int) ≤ gI s 106 ∧ gI s 106 ≤ 1700 := hRs.1 106; have : (0 : Int) ≤ gI s 5 ∧ gI s 5 ≤ 5 := hRs.1 5; have : (0 : Int) ≤ gI s2 106 ∧ gI s2 106 ≤ 1700 := hRs2.1 106; omega) ?_
        refine wp_if (fun c2 => ?_) (fun c2 => ?_)
        · skip
          unfold m_x12_qEndsPart_J51
          exact wp_some ⟨hRs2, hv0_1, by show gI s2 102 ≤ 1601; have : (0 : Int) ≤ gI s2 104 ∧ gI s2 104 ≤ 1700 := hRs2.1 104; have : (0 : Int) ≤ gI s2 106 ∧ gI s2 106 ≤ 1700 := hRs2.1 106; have : (0 : Int) ≤ gI s2 5 ∧ gI s2 5 ≤ 5 := hRs2.1 5; have : (0 : Int) ≤ gI s 2 ∧ gI s 2 ≤ 1600 := hRs.1 2; have : (0 : Int) ≤ gI s2 2 ∧ gI s2 2 ≤ 1600 := hRs2.1 2; have : (0 : Int) ≤ gI s 102 ∧ gI s 102 ≤ 1700 := hRs.1 102; have : (0 : Int) ≤ gI s 106 ∧ gI s 106 ≤ 1700 := hRs.1 106; have : (0 : Int) ≤ gI s 5 ∧ gI s 5 ≤ 5 := hRs.1 5; have : (0 : Int) ≤ gI s2 102 ∧ gI s2 102 ≤ 1700 := hRs2.1 102; omega⟩
        · skip
          refine wp_rdIn (by have : (0 : Int) ≤ gI s2 102 ∧ gI s2 102 ≤ 1700 := hRs2.1 102; have : (0 : Int) ≤ gI s2 106 ∧ gI s2 106 ≤ 1700 := hRs2.1 106; have : (0 : Int) ≤ gI s2 5 ∧ gI s2 5 ≤ 5 := hRs2.1 5; have : (0 : Int) ≤ gI s 2 ∧ gI s 2 ≤ 1600 := hRs.1 2; have : (0 : Int) ≤ gI s2 2 ∧ gI s2 2 ≤ 1600 := hRs2.1 2; have : (0 : Int) ≤ gI s 102 ∧ gI s 102 ≤ 1700 := hRs.1 102; have : (0 : Int) ≤ gI s 106 ∧ gI s 106 ≤ 1700 := hRs.1 106; have : (0 : Int) ≤ gI s 5 ∧ gI s 5 ≤ 5 := hRs.1 5; have : (0 : Int) ≤ gI s2 104 ∧ gI s2 104 ≤ 1700 := hRs2.1 104; omega) (fun y8 ey8 => ?_)
          have by8 : (0 : Int) ≤ y8 ∧ y8 ≤ 61 := ey8 ▸ hRs2.2.1 103 _ (by show _ < 1700; have : (0 : Int) ≤ gI s2 102 ∧ gI s2 102 ≤ 1700 := hRs2.1 102; have : (0 : Int) ≤ gI s2 106 ∧ gI s2 106 ≤ 1700 := hRs2.1 106; have : (0 : Int) ≤ gI s2 5 ∧ gI s2 5 ≤ 5 := hRs2.1 5; have : (0 : Int) ≤ gI s 2 ∧ gI s 2 ≤ 1600 := hRs.1 2; have : (0 : Int) ≤ gI s2 2 ∧ gI s2 2 ≤ 1600 := hRs2.1 2; have : (0 : Int) ≤ gI s 102 ∧ gI s 102 ≤ 1700 := hRs.1 102; have : (0 : Int) ≤ gI s 106 ∧ gI s 106 ≤ 1700 := hRs.1 106; have : (0 : Int) ≤ gI s 5 ∧ gI s 5 ≤ 5 := hRs.1 5; have : (0 : Int) ≤ gI s2 104 ∧ gI s2 104 ≤ 1700 := hRs2.1 104; omega)
          have k5 : gI s 5 = 0 := by omega
          have kQ := hv0_1 k5
          have kb := kQ.2.1.1
          have kc := kQ.2.2
          have k2 : (0 : Int) ≤ gI s2 2 ∧ gI s2 2 ≤ 1600 := hRs2.1 2
          refine wp_rg (by have : (0 : Int) ≤ gI s2 104 ∧ gI s2 104 ≤ 1700 := hRs2.1 104; have : (0 : Int) ≤ gI s2 102 ∧ gI s2 102 ≤ 1700 := hRs2.1 102; have : (0 : Int) ≤ gI s2 106 ∧ gI s2 106 ≤ 1700 := hRs2.1 106; have : (0 : Int) ≤ gI s2 5 ∧ gI s2 5 ≤ 5 := hRs2.1 5; have : (0 : Int) ≤ gI s 2 ∧ gI s 2 ≤ 1600 := hRs.1 2; have : (0 : Int) ≤ gI s2 2 ∧ gI s2 2 ≤ 1600 := hRs2.1 2; have : (0 : Int) ≤ gI s 102 ∧ gI s 102 ≤ 1700 := hRs.1 102; have : (0 : Int) ≤ gI s 106 ∧ gI s 106 ≤ 1700 := hRs.1 106; have : (0 : Int) ≤ gI s 5 ∧ gI s 5 ≤ 5 := hRs.1 5; omega) ?_
          refine wp_if (fun c3 => ?_) (fun c3 => ?_)
          · skip
            unfold m_x12_qEndsPart_J51
            exact wp_some ⟨hRs2, hv0_1, by show gI s2 102 ≤ 1601; have : (0 : Int) ≤ gI s2 104 ∧ gI s2 104 ≤ 1700 := hRs2.1 104; have : (0 : Int) ≤ gI s2 106 ∧ gI s2 106 ≤ 1700 := hRs2.1 106; have : (0 : Int) ≤ gI s2 5 ∧ gI s2 5 ≤ 5 := hRs2.1 5; have : (0 : Int) ≤ gI s 2 ∧ gI s 2 ≤ 1600 := hRs.1 2; have : (0 : Int) ≤ gI s2 2 ∧ gI s2 2 ≤ 1600 := hRs2.1 2; have : (0 : Int) ≤ gI s 102 ∧ gI s 102 ≤ 1700 := hRs.1 102; have : (0 : Int) ≤ gI s 106 ∧ gI s 106 ≤ 1700 := hRs.1 106; have : (0 : Int) ≤ gI s 5 ∧ gI s 5 ≤ 5 := hRs.1 5; have : (0 : Int) ≤ gI s2 102 ∧ gI s2 102 ≤ 1700 := hRs2.1 102; omega⟩
          · skip
            refine wp_stn (fun s11 es11 => ?_)
            have hRs11 : Rr s11 := es11 ▸ Rr.uI hRs2 (by show (0 : Int) ≤ ((gI s2 105) - 1) ∧ ((gI s2 105) - 1) ≤ 6; have : (0 : Int) ≤ gI s2 104 ∧ gI s2 104 ≤ 1700 := hRs2.1 104; have : (0 : Int) ≤ gI s2 102 ∧ gI s2 102 ≤ 1700 := hRs2.1 102; have : (0 : Int) ≤ gI s2 106 ∧ gI s2 106 ≤ 1700 := hRs2.1 106; have : (0 : Int) ≤ gI s2 5 ∧ gI s2 5 ≤ 5 := hRs2.1 5; have : (0 : Int) ≤ gI s 2 ∧ gI s 2 ≤ 1600 := hRs.1 2; have : (0 : Int) ≤ gI s2 2 ∧ gI s2 2 ≤ 1600 := hRs2.1 2; have : (0 : Int) ≤ gI s 102 ∧ gI s 102 ≤ 1700 := hRs.1 102; have : (0 : Int) ≤ gI s 106 ∧ gI s 106 ≤ 1700 := hRs.1 106; have : (0 : Int) ≤ gI s 5 ∧ gI s 5 ≤ 5 := hRs.1 5; have : (0 : Int) ≤ gI s2 105 ∧ gI s2 105 ≤ 6 := hRs2.1 105; have kq := QW_op kQ.2.1 (by omega) (if_pos (by rw [ey8]; omega)); omega)
            refine wp_bn (w_x12_qDrops hRs11 (by show 1 ≤ gI s11 104; have : (0 : Int) ≤ gI s2 104 ∧ gI s2 104 ≤ 1700 := hRs2.1 104; have : (0 : Int) ≤ gI s2 102 ∧ gI s2 102 ≤ 1700 := hRs2.1 102; have : (0 : Int) ≤ gI s2 106 ∧ gI s2 106 ≤ 1700 := hRs2.1 106; have : (0 : Int) ≤ gI s2 5 ∧ gI s2 5 ≤ 5 := hRs2.1 5; have : (0 : Int) ≤ gI s 2 ∧ gI s 2 ≤ 1600 := hRs.1 2; have : (0 : Int) ≤ gI s2 2 ∧ gI s2 2 ≤ 1600 := hRs2.1 2; have : (0 : Int) ≤ gI s 102 ∧ gI s 102 ≤ 1700 := hRs.1 102; have : (0 : Int) ≤ gI s 106 ∧ gI s 106 ≤ 1700 := hRs.1 106; have : (0 : Int) ≤ gI s 5 ∧ gI s 5 ≤ 5 := hRs.1 5; have : gI s11 104 = gI s2 104 := q_Ii es11 (by decide); omega) (by show gI s11 102 < 1700; have : (0 : Int) ≤ gI s2 104 ∧ gI s2 104 ≤ 1700 := hRs2.1 104; have : (0 : Int) ≤ gI s2 102 ∧ gI s2 102 ≤ 1700 := hRs2.1 102; have : (0 : Int) ≤ gI s2 106 ∧ gI s2 106 ≤ 1700 := hRs2.1 106; have : (0 : Int) ≤ gI s2 5 ∧ gI s2 5 ≤ 5 := hRs2.1 5; have : (0 : Int) ≤ gI s 2 ∧ gI s 2 ≤ 1600 := hRs.1 2; have : (0 : Int) ≤ gI s2 2 ∧ gI s2 2 ≤ 1600 := hRs2.1 2; have : (0 : Int) ≤ gI s 102 ∧ gI s 102 ≤ 1700 := hRs.1 102; have : (0 : Int) ≤ gI s 106 ∧ gI s 106 ≤ 1700 := hRs.1 106; have : (0 : Int) ≤ gI s 5 ∧ gI s 5 ≤ 5 := hRs.1 5; have : gI s11 102 = gI s2 102 := q_Ii es11 (by decide); omega)) (fun s13 es13 hs13 => ?_)
            have Fs13 : F_x12_qDrops s11 s13 := fr_x12_qDrops es13
            obtain ⟨hRs13, hs13_0, hs13_1⟩ := hs13
            have hs13_0 : gI s13 102 = gI s11 102 + 1 ∧ gI s13 104 = gI s11 104 - 1 := hs13_0
            have hs13_1 : gA s13 101 = upZ (gA s11 101) (gI s11 102).toNat (gA s11 103 (gI s11 104 - 1).toNat) := hs13_1
            exact ih0 s13 hRs13 (by show gI s13 2 = gI s 2 ∧ gI s13 5 = gI s 5 ∧ gI s13 106 = gI s 106; have : gI s11 104 = gI s2 104 := q_Ii es11 (by decide); have : (0 : Int) ≤ gI s13 104 ∧ gI s13 104 ≤ 1700 := hRs13.1 104; have : gI s11 102 = gI s2 102 := q_Ii es11 (by decide); have : (0 : Int) ≤ gI s13 102 ∧ gI s13 102 ≤ 1700 := hRs13.1 102; have : (0 : Int) ≤ gI s2 104 ∧ gI s2 104 ≤ 1700 := hRs2.1 104; have : (0 : Int) ≤ gI s2 102 ∧ gI s2 102 ≤ 1700 := hRs2.1 102; have : (0 : Int) ≤ gI s2 106 ∧ gI s2 106 ≤ 1700 := hRs2.1 106; have : (0 : Int) ≤ gI s2 5 ∧ gI s2 5 ≤ 5 := hRs2.1 5; have : (0 : Int) ≤ gI s2 2 ∧ gI s2 2 ≤ 1600 := hRs2.1 2; have : (0 : Int) ≤ gI s 102 ∧ gI s 102 ≤ 1700 := hRs.1 102; have : (0 : Int) ≤ gI s 106 ∧ gI s 106 ≤ 1700 := hRs.1 106; have : gI s13 106 = gI s11 106 := Fs13.1 106 (by decide); have : gI s11 106 = gI s2 106 := q_Ii es11 (by decide); have : (0 : Int) ≤ gI s 5 ∧ gI s 5 ≤ 5 := hRs.1 5; have : gI s13 5 = gI s11 5 := Fs13.1 5 (by decide); have : gI s11 5 = gI s2 5 := q_Ii es11 (by decide); have : (0 : Int) ≤ gI s 2 ∧ gI s 2 ≤ 1600 := hRs.1 2; have : gI s13 2 = gI s11 2 := Fs13.1 2 (by decide); have : gI s11 2 = gI s2 2 := q_Ii es11 (by decide); omega) (fun _ => QS_drop (kQ) hp1 (by omega) (by rw [hs13_1, (q_Ia es11 : gA s11 101 = gA s2 101), (q_Ii es11 (by decide) : gI s11 102 = gI s2 102), (q_Ia es11 : gA s11 103 = gA s2 103), (q_Ii es11 (by decide) : gI s11 104 = gI s2 104)]) (by have z1 := hs13_0; have z2 : gI s11 102 = gI s2 102 := (q_Ii es11 (by decide) : gI s11 102 = gI s2 102); have z3 : gI s11 104 = gI s2 104 := (q_Ii es11 (by decide) : gI s11 104 = gI s2 104); omega) ((Fs13.2.1 103 (by decide)).trans (q_Ia es11 : gA s11 103 = gA s2 103)) (by have z1 := hs13_0; have z2 : gI s11 102 = gI s2 102 := (q_Ii es11 (by decide) : gI s11 102 = gI s2 102); have z3 : gI s11 104 = gI s2 104 := (q_Ii es11 (by decide) : gI s11 104 = gI s2 104); omega) ((Fs13.1 48 (by decide)).trans (q_Ii es11 (by decide) : gI s11 48 = gI s2 48)) (by have z4 : gI s13 105 = gI s11 105 := (Fs13.1 105 (by decide)); have z5 : gI s11 105 = gI s2 105 - 1 := q_II es11; have z6 : opn (gA s2 103 (gI s2 104 - 1).toNat) = 1 := if_pos (by rw [ey8]; omega); omega) (by rw [ey8]; omega) (by have z7 : gI s13 2 = gI s2 2 := ((Fs13.1 2 (by decide)).trans (q_Ii es11 (by decide) : gI s11 2 = gI s2 2)); omega)) (by show gI s13 102 ≤ 1601; have : gI s11 104 = gI s2 104 := q_Ii es11 (by decide); have : (0 : Int) ≤ gI s13 104 ∧ gI s13 104 ≤ 1700 := hRs13.1 104; have : gI s11 102 = gI s2 102 := q_Ii es11 (by decide); have : (0 : Int) ≤ gI s2 104 ∧ gI s2 104 ≤ 1700 := hRs2.1 104; have : (0 : Int) ≤ gI s2 102 ∧ gI s2 102 ≤ 1700 := hRs2.1 102; have : (0 : Int) ≤ gI s2 106 ∧ gI s2 106 ≤ 1700 := hRs2.1 106; have : (0 : Int) ≤ gI s2 5 ∧ gI s2 5 ≤ 5 := hRs2.1 5; have : (0 : Int) ≤ gI s 2 ∧ gI s 2 ≤ 1600 := hRs.1 2; have : (0 : Int) ≤ gI s2 2 ∧ gI s2 2 ≤ 1600 := hRs2.1 2; have : (0 : Int) ≤ gI s 102 ∧ gI s 102 ≤ 1700 := hRs.1 102; have : (0 : Int) ≤ gI s 106 ∧ gI s 106 ≤ 1700 := hRs.1 106; have : (0 : Int) ≤ gI s 5 ∧ gI s 5 ≤ 5 := hRs.1 5; have : (0 : Int) ≤ gI s13 102 ∧ gI s13 102 ≤ 1700 := hRs13.1 102; omega) (by have : gI s11 104 = gI s2 104 := q_Ii es11 (by decide); have : gI s11 102 = gI s2 102 := q_Ii es11 (by decide); have : (0 : Int) ≤ gI s13 102 ∧ gI s13 102 ≤ 1700 := hRs13.1 102; have : (0 : Int) ≤ gI s2 104 ∧ gI s2 104 ≤ 1700 := hRs2.1 104; have : (0 : Int) ≤ gI s2 102 ∧ gI s2 102 ≤ 1700 := hRs2.1 102; have : (0 : Int) ≤ gI s2 106 ∧ gI s2 106 ≤ 1700 := hRs2.1 106; have : (0 : Int) ≤ gI s2 5 ∧ gI s2 5 ≤ 5 := hRs2.1 5; have : (0 : Int) ≤ gI s 2 ∧ gI s 2 ≤ 1600 := hRs.1 2; have : (0 : Int) ≤ gI s2 2 ∧ gI s2 2 ≤ 1600 := hRs2.1 2; have : (0 : Int) ≤ gI s 102 ∧ gI s 102 ≤ 1700 := hRs.1 102; have : (0 : Int) ≤ gI s 106 ∧ gI s 106 ≤ 1700 := hRs.1 106; have : (0 : Int) ≤ gI s 5 ∧ gI s 5 ≤ 5 := hRs.1 5; have : (0 : Int) ≤ gI s13 104 ∧ gI s13 104 ≤ 1700 := hRs13.1 104; omega)
      · skip
        unfold m_x12_qEndsPart_J51
        exact wp_some ⟨hRs2, hv0_1, by show gI s2 102 ≤ 1601; have : (0 : Int) ≤ gI s2 106 ∧ gI s2 106 ≤ 1700 := hRs2.1 106; have : (0 : Int) ≤ gI s2 5 ∧ gI s2 5 ≤ 5 := hRs2.1 5; have : (0 : Int) ≤ gI s 2 ∧ gI s 2 ≤ 1600 := hRs.1 2; have : (0 : Int) ≤ gI s2 2 ∧ gI s2 2 ≤ 1600 := hRs2.1 2; have : (0 : Int) ≤ gI s 102 ∧ gI s 102 ≤ 1700 := hRs.1 102; have : (0 : Int) ≤ gI s 106 ∧ gI s 106 ≤ 1700 := hRs.1 106; have : (0 : Int) ≤ gI s 5 ∧ gI s 5 ≤ 5 := hRs.1 5; have : (0 : Int) ≤ gI s2 102 ∧ gI s2 102 ≤ 1700 := hRs2.1 102; omega⟩
  exact L0 FU s hRs (by show gI s 2 = gI s 2 ∧ gI s 5 = gI s 5 ∧ gI s 106 = gI s 106; have : (0 : Int) ≤ gI s 102 ∧ gI s 102 ≤ 1700 := hRs.1 102; have : (0 : Int) ≤ gI s 106 ∧ gI s 106 ≤ 1700 := hRs.1 106; have : (0 : Int) ≤ gI s 5 ∧ gI s 5 ≤ 5 := hRs.1 5; have : (0 : Int) ≤ gI s 2 ∧ gI s 2 ≤ 1600 := hRs.1 2; omega) (hp0) (by show gI s 102 ≤ 1601; have : (0 : Int) ≤ gI s 106 ∧ gI s 106 ≤ 1700 := hRs.1 106; have : (0 : Int) ≤ gI s 5 ∧ gI s 5 ≤ 5 := hRs.1 5; have : (0 : Int) ≤ gI s 102 ∧ gI s 102 ≤ 1700 := hRs.1 102; omega) (by have := FU_big; have := FU_big2; have : (0 : Int) ≤ gI s 102 ∧ gI s 102 ≤ 1700 := hRs.1 102; have : (0 : Int) ≤ gI s 106 ∧ gI s 106 ≤ 1700 := hRs.1 106; have : (0 : Int) ≤ gI s 5 ∧ gI s 5 ≤ 5 := hRs.1 5; have : (0 : Int) ≤ gI s 104 ∧ gI s 104 ≤ 1700 := hRs.1 104; omega)
set_option maxHeartbeats 1000000 in
theorem w_x12_qDropsToBracket {d k : Int} {s : MS} (hRs : Rr s) (hp0 : QS s (gI s 106) d k) (hp1 : 1 ≤ d) (hp2 : k ≤ 0) : wp (m_x12_qDropsToBracket s) (fun o => (Rr o) ∧ (QS o (gI s 106) d k) ∧ (brk (gA s 103) (gI s 106) (gI s 104).toNat ≠ -1 → gI s 106 < gI o 104 ∧ gA s 103 (gI o 104 - 1).toNat = brk (gA s 103) (gI s 106) (gI s 104).toNat)) := by
  unfold m_x12_qDropsToBracket
  have L0 : ∀ (n : Nat) (s2 : MS), Rr s2 → (gI s2 2 = gI s 2 ∧ gI s2 106 = gI s 106) → (QS s2 (gI s 106) d k) → (brk (gA s 103) (gI s 106) (gI s2 104).toNat = brk (gA s 103) (gI s 106) (gI s 104).toNat) → (gA s2 103 = gA s 103) → (gI s2 104) < (n : Int) → wp (m_x12_qDropsToBracket_L0 n s2) (fun o => (Rr o) ∧ (QS o (gI s 106) d k) ∧ (brk (gA s 103) (gI s 106) (gI s 104).toNat ≠ -1 → gI s 106 < gI o 104 ∧ gA s 103 (gI o 104 - 1).toNat = brk (gA s 103) (gI s 106) (gI s 104).toNat)) := by
    refine fr_ind (fun s2 hRs2 hv0_0 hv0_1 hv0_2 hv0_3 hm0 => ?_) (fun n0 ih0 s2 hRs2 hv0_0 hv0_1 hv0_2 hv0_3 hm0 => ?_)
    · exfalso; have : (0 : Int) ≤ gI s 104 ∧ gI s 104 ≤ 1700 := hRs.1 104; have : (0 : Int) ≤ gI s 106 ∧ gI s 106 ≤ 1700 := hRs.1 106; have : (0 : Int) ≤ gI s2 106 ∧ gI s2 106 ≤ 1700 := hRs2.1 106; have : (0 : Int) ≤ gI s 2 ∧ gI s 2 ≤ 1600 := hRs.1 2; have : (0 : Int) ≤ gI s2 2 ∧ gI s2 2 ≤ 1600 := hRs2.1 2; have : (0 : Int) ≤ gI s2 104 ∧ gI s2 104 ≤ 1700 := hRs2.1 104; omega
    · show wp (m_x12_qDropsToBracket_b0 (m_x12_qDropsToBracket_L0 n0) s2) _
      unfold m_x12_qDropsToBracket_b0
      have kb := hv0_1.2.1.1
      have kc := hv0_1.2.2
      have k2 : (0 : Int) ≤ gI s2 2 ∧ gI s2 2 ≤ 1600 := hRs2.1 2
      refine wp_rg (by have : (0 : Int) ≤ gI s 104 ∧ gI s 104 ≤ 1700 := hRs.1 104; have : (0 : Int) ≤ gI s2 106 ∧ gI s2 106 ≤ 1700 := hRs2.1 106; have : (0 : Int) ≤ gI s 2 ∧ gI s 2 ≤ 1600 := hRs.1 2; have : (0 : Int) ≤ gI s2 2 ∧ gI s2 2 ≤ 1600 := hRs2.1 2; have : (0 : Int) ≤ gI s 106 ∧ gI s 106 ≤ 1700 := hRs.1 106; have : (0 : Int) ≤ gI s2 104 ∧ gI s2 104 ≤ 1700 := hRs2.1 104; omega) ?_
      refine wp_rg (by have : (0 : Int) ≤ gI s 104 ∧ gI s 104 ≤ 1700 := hRs.1 104; have : (0 : Int) ≤ gI s2 104 ∧ gI s2 104 ≤ 1700 := hRs2.1 104; have : (0 : Int) ≤ gI s 2 ∧ gI s 2 ≤ 1600 := hRs.1 2; have : (0 : Int) ≤ gI s2 2 ∧ gI s2 2 ≤ 1600 := hRs2.1 2; have : (0 : Int) ≤ gI s 106 ∧ gI s 106 ≤ 1700 := hRs.1 106; have : (0 : Int) ≤ gI s2 106 ∧ gI s2 106 ≤ 1700 := hRs2.1 106; omega) ?_
      refine wp_if (fun c1 => ?_) (fun c1 => ?_)
      · skip
        unfold m_x12_qDropsToBracket_J35
        exact wp_some ⟨hRs2, hv0_1, fun h9 => by
        rw [← hv0_2] at h9 ⊢
        first
        | (exfalso; exact h9 (brk_low (by omega)))
        | exact ⟨by omega, by rw [show (gI s2 104).toNat = (gI s2 104 - 1).toNat + 1 by omega]; exact (brk_top (by omega) (by rw [ey6]; omega)).symm⟩⟩
      · skip
        refine wp_rdIn (by have : (0 : Int) ≤ gI s 104 ∧ gI s 104 ≤ 1700 := hRs.1 104; have : (0 : Int) ≤ gI s2 106 ∧ gI s2 106 ≤ 1700 := hRs2.1 106; have : (0 : Int) ≤ gI s 2 ∧ gI s 2 ≤ 1600 := hRs.1 2; have : (0 : Int) ≤ gI s2 2 ∧ gI s2 2 ≤ 1600 := hRs2.1 2; have : (0 : Int) ≤ gI s 106 ∧ gI s 106 ≤ 1700 := hRs.1 106; have : (0 : Int) ≤ gI s2 104 ∧ gI s2 104 ≤ 1700 := hRs2.1 104; omega) (fun y6 ey6 => ?_)
        have by6 : (0 : Int) ≤ y6 ∧ y6 ≤ 61 := ey6 ▸ hRs2.2.1 103 _ (by show _ < 1700; have : (0 : Int) ≤ gI s 104 ∧ gI s 104 ≤ 1700 := hRs.1 104; have : (0 : Int) ≤ gI s2 106 ∧ gI s2 106 ≤ 1700 := hRs2.1 106; have : (0 : Int) ≤ gI s 2 ∧ gI s 2 ≤ 1600 := hRs.1 2; have : (0 : Int) ≤ gI s2 2 ∧ gI s2 2 ≤ 1600 := hRs2.1 2; have : (0 : Int) ≤ gI s 106 ∧ gI s 106 ≤ 1700 := hRs.1 106; have : (0 : Int) ≤ gI s2 104 ∧ gI s2 104 ≤ 1700 := hRs2.1 104; omega)
        have ey6 : gA s 103 (gI s2 104 - 1).toNat = y6 := by rw [← hv0_3]; exact ey6
        refine wp_bn (w_x12_qIsBracket hRs2 (by show R2 y6; have : (0 : Int) ≤ gI s 104 ∧ gI s 104 ≤ 1700 := hRs.1 104; have : (0 : Int) ≤ gI s2 104 ∧ gI s2 104 ≤ 1700 := hRs2.1 104; have : (0 : Int) ≤ gI s2 106 ∧ gI s2 106 ≤ 1700 := hRs2.1 106; have : (0 : Int) ≤ gI s 2 ∧ gI s 2 ≤ 1600 := hRs.1 2; have : (0 : Int) ≤ gI s2 2 ∧ gI s2 2 ≤ 1600 := hRs2.1 2; have : (0 : Int) ≤ gI s 106 ∧ gI s 106 ≤ 1700 := hRs.1 106; omega)) (fun r8 er8 hr8 => ?_)
        have hr8_0 := hr8
        have hr8_0 : (r8 = 1 ∧ 20 ≤ y6 ∧ y6 ≤ 24) ∨ (r8 = 0 ∧ ¬ (20 ≤ y6 ∧ y6 ≤ 24)) := hr8_0
        refine wp_rg (by have : (0 : Int) ≤ gI s 104 ∧ gI s 104 ≤ 1700 := hRs.1 104; have : (0 : Int) ≤ gI s2 104 ∧ gI s2 104 ≤ 1700 := hRs2.1 104; have : (0 : Int) ≤ gI s2 106 ∧ gI s2 106 ≤ 1700 := hRs2.1 106; have : (0 : Int) ≤ gI s 2 ∧ gI s 2 ≤ 1600 := hRs.1 2; have : (0 : Int) ≤ gI s2 2 ∧ gI s2 2 ≤ 1600 := hRs2.1 2; have : (0 : Int) ≤ gI s 106 ∧ gI s 106 ≤ 1700 := hRs.1 106; omega) ?_
        refine wp_if (fun c2 => ?_) (fun c2 => ?_)
        · skip
          refine wp_bn (w_x12_qDrops hRs2 (by show 1 ≤ gI s2 104; have : (0 : Int) ≤ gI s 104 ∧ gI s 104 ≤ 1700 := hRs.1 104; have : (0 : Int) ≤ gI s2 106 ∧ gI s2 106 ≤ 1700 := hRs2.1 106; have : (0 : Int) ≤ gI s 2 ∧ gI s 2 ≤ 1600 := hRs.1 2; have : (0 : Int) ≤ gI s2 2 ∧ gI s2 2 ≤ 1600 := hRs2.1 2; have : (0 : Int) ≤ gI s 106 ∧ gI s 106 ≤ 1700 := hRs.1 106; have : (0 : Int) ≤ gI s2 104 ∧ gI s2 104 ≤ 1700 := hRs2.1 104; omega) (by show gI s2 102 < 1700; have : (0 : Int) ≤ gI s 104 ∧ gI s 104 ≤ 1700 := hRs.1 104; have : (0 : Int) ≤ gI s2 104 ∧ gI s2 104 ≤ 1700 := hRs2.1 104; have : (0 : Int) ≤ gI s2 106 ∧ gI s2 106 ≤ 1700 := hRs2.1 106; have : (0 : Int) ≤ gI s 2 ∧ gI s 2 ≤ 1600 := hRs.1 2; have : (0 : Int) ≤ gI s2 2 ∧ gI s2 2 ≤ 1600 := hRs2.1 2; have : (0 : Int) ≤ gI s 106 ∧ gI s 106 ≤ 1700 := hRs.1 106; have : (0 : Int) ≤ gI s2 102 ∧ gI s2 102 ≤ 1700 := hRs2.1 102; omega)) (fun s12 es12 hs12 => ?_)
          have Fs12 : F_x12_qDrops s2 s12 := fr_x12_qDrops es12
          obtain ⟨hRs12, hs12_0, hs12_1⟩ := hs12
          have hs12_0 : gI s12 102 = gI s2 102 + 1 ∧ gI s12 104 = gI s2 104 - 1 := hs12_0
          have hs12_1 : gA s12 101 = upZ (gA s2 101) (gI s2 102).toNat (gA s2 103 (gI s2 104 - 1).toNat) := hs12_1
          exact ih0 s12 hRs12 (by show gI s12 2 = gI s 2 ∧ gI s12 106 = gI s 106; have : (0 : Int) ≤ gI s12 104 ∧ gI s12 104 ≤ 1700 := hRs12.1 104; have : (0 : Int) ≤ gI s2 102 ∧ gI s2 102 ≤ 1700 := hRs2.1 102; have : (0 : Int) ≤ gI s12 102 ∧ gI s12 102 ≤ 1700 := hRs12.1 102; have : (0 : Int) ≤ gI s 104 ∧ gI s 104 ≤ 1700 := hRs.1 104; have : (0 : Int) ≤ gI s2 104 ∧ gI s2 104 ≤ 1700 := hRs2.1 104; have : (0 : Int) ≤ gI s2 106 ∧ gI s2 106 ≤ 1700 := hRs2.1 106; have : (0 : Int) ≤ gI s2 2 ∧ gI s2 2 ≤ 1600 := hRs2.1 2; have : (0 : Int) ≤ gI s 106 ∧ gI s 106 ≤ 1700 := hRs.1 106; have : gI s12 106 = gI s2 106 := Fs12.1 106 (by decide); have : (0 : Int) ≤ gI s 2 ∧ gI s 2 ≤ 1600 := hRs.1 2; have : gI s12 2 = gI s2 2 := Fs12.1 2 (by decide); omega) (QS_drop (hv0_1) hp1 (by omega) (by rw [hs12_1]) (by have z1 := hs12_0; have z2 : gI s2 102 = gI s2 102 := rfl; have z3 : gI s2 104 = gI s2 104 := rfl; omega) (Fs12.2.1 103 (by decide)) (by have z1 := hs12_0; have z2 : gI s2 102 = gI s2 102 := rfl; have z3 : gI s2 104 = gI s2 104 := rfl; omega) (Fs12.1 48 (by decide)) (by have z4 : gI s12 105 = gI s2 105 := (Fs12.1 105 (by decide)); have z6 := opn_01 (gA s2 103 (gI s2 104 - 1).toNat); omega) (by rw [hv0_3, ey6]; omega) (by have z7 : gI s12 2 = gI s2 2 := (Fs12.1 2 (by decide)); omega)) (by rw [hs12_0.2, ← hv0_2, show (gI s2 104).toNat = (gI s2 104 - 1).toNat + 1 by omega]; exact (brk_skip (by omega) (by rw [ey6]; omega)).symm) (((Fs12.2.1 103 (by decide))).trans hv0_3) (by have : (0 : Int) ≤ gI s2 102 ∧ gI s2 102 ≤ 1700 := hRs2.1 102; have : (0 : Int) ≤ gI s12 102 ∧ gI s12 102 ≤ 1700 := hRs12.1 102; have : (0 : Int) ≤ gI s 104 ∧ gI s 104 ≤ 1700 := hRs.1 104; have : (0 : Int) ≤ gI s2 104 ∧ gI s2 104 ≤ 1700 := hRs2.1 104; have : (0 : Int) ≤ gI s2 106 ∧ gI s2 106 ≤ 1700 := hRs2.1 106; have : (0 : Int) ≤ gI s 2 ∧ gI s 2 ≤ 1600 := hRs.1 2; have : (0 : Int) ≤ gI s2 2 ∧ gI s2 2 ≤ 1600 := hRs2.1 2; have : (0 : Int) ≤ gI s 106 ∧ gI s 106 ≤ 1700 := hRs.1 106; have : (0 : Int) ≤ gI s12 104 ∧ gI s12 104 ≤ 1700 := hRs12.1 104; omega)
        · skip
          unfold m_x12_qDropsToBracket_J35
          exact wp_some ⟨hRs2, hv0_1, fun h9 => by
        rw [← hv0_2] at h9 ⊢
        first
        | (exfalso; exact h9 (brk_low (by omega)))
        | exact ⟨by omega, by rw [show (gI s2 104).toNat = (gI s2 104 - 1).toNat + 1 by omega]; exact (brk_top (by omega) (by rw [ey6]; omega)).symm⟩⟩
  exact L0 FU s hRs (by show gI s 2 = gI s 2 ∧ gI s 106 = gI s 106; have : (0 : Int) ≤ gI s 106 ∧ gI s 106 ≤ 1700 := hRs.1 106; have : (0 : Int) ≤ gI s 2 ∧ gI s 2 ≤ 1600 := hRs.1 2; omega) (hp0) (rfl) (rfl) (by have := FU_big; have := FU_big2; have : (0 : Int) ≤ gI s 106 ∧ gI s 106 ≤ 1700 := hRs.1 106; have : (0 : Int) ≤ gI s 104 ∧ gI s 104 ≤ 1700 := hRs.1 104; omega)
set_option maxHeartbeats 1000000 in
theorem w_x12_qDropsNots {d k : Int} {s : MS} (hRs : Rr s) (hp0 : gI s 5 = 0 → QT s d k) (hp1 : 1 ≤ d) (hp2 : gI s 102 ≤ 1602) (hp3 : k ≤ 0) : wp (m_x12_qDropsNots s) (fun o => (Rr o) ∧ (gI s 5 = 0 → QT o d k) ∧ (gI o 102 ≤ 1602)) := by
  unfold m_x12_qDropsNots
  have L0 : ∀ (n : Nat) (s2 : MS), Rr s2 → (gI s2 2 = gI s 2 ∧ gI s2 5 = gI s 5) → (gI s 5 = 0 → QT s2 d k) → (gI s2 102 ≤ 1602) → (gI s2 104) < (n : Int) → wp (m_x12_qDropsNots_L0 n s2) (fun o => (Rr o) ∧ (gI s 5 = 0 → QT o d k) ∧ (gI o 102 ≤ 1602)) := by
    refine fr_ind (fun s2 hRs2 hv0_0 hv0_1 hv0_2 hm0 => ?_) (fun n0 ih0 s2 hRs2 hv0_0 hv0_1 hv0_2 hm0 => ?_)
    · exfalso; have : (0 : Int) ≤ gI s2 102 ∧ gI s2 102 ≤ 1700 := hRs2.1 102; have : (0 : Int) ≤ gI s 5 ∧ gI s 5 ≤ 5 := hRs.1 5; have : (0 : Int) ≤ gI s2 5 ∧ gI s2 5 ≤ 5 := hRs2.1 5; have : (0 : Int) ≤ gI s 2 ∧ gI s 2 ≤ 1600 := hRs.1 2; have : (0 : Int) ≤ gI s2 2 ∧ gI s2 2 ≤ 1600 := hRs2.1 2; have : (0 : Int) ≤ gI s2 104 ∧ gI s2 104 ≤ 1700 := hRs2.1 104; omega
    · show wp (m_x12_qDropsNots_b0 (m_x12_qDropsNots_L0 n0) s2) _
      unfold m_x12_qDropsNots_b0
      refine wp_rg (by have : (0 : Int) ≤ gI s2 102 ∧ gI s2 102 ≤ 1700 := hRs2.1 102; have : (0 : Int) ≤ gI s 2 ∧ gI s 2 ≤ 1600 := hRs.1 2; have : (0 : Int) ≤ gI s2 2 ∧ gI s2 2 ≤ 1600 := hRs2.1 2; have : (0 : Int) ≤ gI s 102 ∧ gI s 102 ≤ 1700 := hRs.1 102; have : (0 : Int) ≤ gI s 5 ∧ gI s 5 ≤ 5 := hRs.1 5; have : (0 : Int) ≤ gI s2 5 ∧ gI s2 5 ≤ 5 := hRs2.1 5; omega) ?_
      refine wp_if (fun c1 => ?_) (fun c1 => ?_)
      · skip
        refine wp_bn (w_x12_qIsOn hRs2 (by show R2 (12 : Int); have : (0 : Int) ≤ gI s2 102 ∧ gI s2 102 ≤ 1700 := hRs2.1 102; have : (0 : Int) ≤ gI s2 5 ∧ gI s2 5 ≤ 5 := hRs2.1 5; have : (0 : Int) ≤ gI s 2 ∧ gI s 2 ≤ 1600 := hRs.1 2; have : (0 : Int) ≤ gI s2 2 ∧ gI s2 2 ≤ 1600 := hRs2.1 2; have : (0 : Int) ≤ gI s 102 ∧ gI s 102 ≤ 1700 := hRs.1 102; have : (0 : Int) ≤ gI s 5 ∧ gI s 5 ≤ 5 := hRs.1 5; omega)) (fun r6 er6 hr6 => ?_)
        obtain ⟨hr6_0, hr6_1⟩ := hr6
        have hr6_0 : r6 = 0 ∨ r6 = 1 := hr6_0
        have hr6_1 : (r6 = 1 ∧ 1 ≤ gI s2 104 ∧ gA s2 103 (gI s2 104 - 1).toNat = (12 : Int)) ∨ (r6 = 0 ∧ (gI s2 104 ≤ 0 ∨ gA s2 103 (gI s2 104 - 1).toNat ≠ (12 : Int))) := hr6_1
        refine wp_rg (by have : (0 : Int) ≤ gI s2 104 ∧ gI s2 104 ≤ 1700 := hRs2.1 104; have : (0 : Int) ≤ gI s2 102 ∧ gI s2 102 ≤ 1700 := hRs2.1 102; have : (0 : Int) ≤ gI s2 5 ∧ gI s2 5 ≤ 5 := hRs2.1 5; have : (0 : Int) ≤ gI s 2 ∧ gI s 2 ≤ 1600 := hRs.1 2; have : (0 : Int) ≤ gI s2 2 ∧ gI s2 2 ≤ 1600 := hRs2.1 2; have : (0 : Int) ≤ gI s 102 ∧ gI s 102 ≤ 1700 := hRs.1 102; have : (0 : Int) ≤ gI s 5 ∧ gI s 5 ≤ 5 := hRs.1 5; omega) ?_
        refine wp_if (fun c2 => ?_) (fun c2 => ?_)
        · skip
          unfold m_x12_qDropsNots_J33
          exact wp_some ⟨hRs2, hv0_1, by show gI s2 102 ≤ 1602; have : (0 : Int) ≤ gI s2 104 ∧ gI s2 104 ≤ 1700 := hRs2.1 104; have : (0 : Int) ≤ gI s2 5 ∧ gI s2 5 ≤ 5 := hRs2.1 5; have : (0 : Int) ≤ gI s 2 ∧ gI s 2 ≤ 1600 := hRs.1 2; have : (0 : Int) ≤ gI s2 2 ∧ gI s2 2 ≤ 1600 := hRs2.1 2; have : (0 : Int) ≤ gI s 102 ∧ gI s 102 ≤ 1700 := hRs.1 102; have : (0 : Int) ≤ gI s 5 ∧ gI s 5 ≤ 5 := hRs.1 5; have : (0 : Int) ≤ gI s2 102 ∧ gI s2 102 ≤ 1700 := hRs2.1 102; omega⟩
        · skip
          have k5 : gI s 5 = 0 := by omega
          have kQ := hv0_1 k5
          have kc := kQ.2.2
          have k2 : (0 : Int) ≤ gI s2 2 ∧ gI s2 2 ≤ 1600 := hRs2.1 2
          have kt : 1 ≤ gI s2 104 ∧ gA s2 103 (gI s2 104 - 1).toNat = 12 := by omega
          refine wp_stn (fun s9 es9 => ?_)
          have hRs9 : Rr s9 := es9 ▸ Rr.uI hRs2 (by show (0 : Int) ≤ ((gI s2 105) - 1) ∧ ((gI s2 105) - 1) ≤ 6; have : (0 : Int) ≤ gI s2 104 ∧ gI s2 104 ≤ 1700 := hRs2.1 104; have : (0 : Int) ≤ gI s2 102 ∧ gI s2 102 ≤ 1700 := hRs2.1 102; have : (0 : Int) ≤ gI s2 5 ∧ gI s2 5 ≤ 5 := hRs2.1 5; have : (0 : Int) ≤ gI s 2 ∧ gI s 2 ≤ 1600 := hRs.1 2; have : (0 : Int) ≤ gI s2 2 ∧ gI s2 2 ≤ 1600 := hRs2.1 2; have : (0 : Int) ≤ gI s 102 ∧ gI s 102 ≤ 1700 := hRs.1 102; have : (0 : Int) ≤ gI s 5 ∧ gI s 5 ≤ 5 := hRs.1 5; have : (0 : Int) ≤ gI s2 105 ∧ gI s2 105 ≤ 6 := hRs2.1 105; have kq := QW_op kQ.2.1 kt.1 (if_pos (by omega)); omega)
          refine wp_bn (w_x12_qDrops hRs9 (by show 1 ≤ gI s9 104; have : (0 : Int) ≤ gI s2 104 ∧ gI s2 104 ≤ 1700 := hRs2.1 104; have : (0 : Int) ≤ gI s2 102 ∧ gI s2 102 ≤ 1700 := hRs2.1 102; have : (0 : Int) ≤ gI s2 5 ∧ gI s2 5 ≤ 5 := hRs2.1 5; have : (0 : Int) ≤ gI s 2 ∧ gI s 2 ≤ 1600 := hRs.1 2; have : (0 : Int) ≤ gI s2 2 ∧ gI s2 2 ≤ 1600 := hRs2.1 2; have : (0 : Int) ≤ gI s 102 ∧ gI s 102 ≤ 1700 := hRs.1 102; have : (0 : Int) ≤ gI s 5 ∧ gI s 5 ≤ 5 := hRs.1 5; have : gI s9 104 = gI s2 104 := q_Ii es9 (by decide); omega) (by show gI s9 102 < 1700; have : (0 : Int) ≤ gI s2 104 ∧ gI s2 104 ≤ 1700 := hRs2.1 104; have : (0 : Int) ≤ gI s2 102 ∧ gI s2 102 ≤ 1700 := hRs2.1 102; have : (0 : Int) ≤ gI s2 5 ∧ gI s2 5 ≤ 5 := hRs2.1 5; have : (0 : Int) ≤ gI s 2 ∧ gI s 2 ≤ 1600 := hRs.1 2; have : (0 : Int) ≤ gI s2 2 ∧ gI s2 2 ≤ 1600 := hRs2.1 2; have : (0 : Int) ≤ gI s 102 ∧ gI s 102 ≤ 1700 := hRs.1 102; have : (0 : Int) ≤ gI s 5 ∧ gI s 5 ≤ 5 := hRs.1 5; have : gI s9 102 = gI s2 102 := q_Ii es9 (by decide); omega)) (fun s11 es11 hs11 => ?_)
          have Fs11 : F_x12_qDrops s9 s11 := fr_x12_qDrops es11
          obtain ⟨hRs11, hs11_0, hs11_1⟩ := hs11
          have hs11_0 : gI s11 102 = gI s9 102 + 1 ∧ gI s11 104 = gI s9 104 - 1 := hs11_0
          have hs11_1 : gA s11 101 = upZ (gA s9 101) (gI s9 102).toNat (gA s9 103 (gI s9 104 - 1).toNat) := hs11_1
          exact ih0 s11 hRs11 (by show gI s11 2 = gI s 2 ∧ gI s11 5 = gI s 5; have : gI s9 104 = gI s2 104 := q_Ii es9 (by decide); have : (0 : Int) ≤ gI s11 104 ∧ gI s11 104 ≤ 1700 := hRs11.1 104; have : gI s9 102 = gI s2 102 := q_Ii es9 (by decide); have : (0 : Int) ≤ gI s11 102 ∧ gI s11 102 ≤ 1700 := hRs11.1 102; have : (0 : Int) ≤ gI s2 104 ∧ gI s2 104 ≤ 1700 := hRs2.1 104; have : (0 : Int) ≤ gI s2 102 ∧ gI s2 102 ≤ 1700 := hRs2.1 102; have : (0 : Int) ≤ gI s2 5 ∧ gI s2 5 ≤ 5 := hRs2.1 5; have : (0 : Int) ≤ gI s2 2 ∧ gI s2 2 ≤ 1600 := hRs2.1 2; have : (0 : Int) ≤ gI s 102 ∧ gI s 102 ≤ 1700 := hRs.1 102; have : (0 : Int) ≤ gI s 5 ∧ gI s 5 ≤ 5 := hRs.1 5; have : gI s11 5 = gI s9 5 := Fs11.1 5 (by decide); have : gI s9 5 = gI s2 5 := q_Ii es9 (by decide); have : (0 : Int) ≤ gI s 2 ∧ gI s 2 ≤ 1600 := hRs.1 2; have : gI s11 2 = gI s9 2 := Fs11.1 2 (by decide); have : gI s9 2 = gI s2 2 := q_Ii es9 (by decide); omega) (fun _ => QT_drop (kQ) hp1 (kt.1) (by rw [hs11_1, (q_Ia es9 : gA s9 101 = gA s2 101), (q_Ii es9 (by decide) : gI s9 102 = gI s2 102), (q_Ia es9 : gA s9 103 = gA s2 103), (q_Ii es9 (by decide) : gI s9 104 = gI s2 104)]) (by have z1 := hs11_0; have z2 : gI s9 102 = gI s2 102 := (q_Ii es9 (by decide) : gI s9 102 = gI s2 102); have z3 : gI s9 104 = gI s2 104 := (q_Ii es9 (by decide) : gI s9 104 = gI s2 104); omega) ((Fs11.2.1 103 (by decide)).trans (q_Ia es9 : gA s9 103 = gA s2 103)) (by have z1 := hs11_0; have z2 : gI s9 102 = gI s2 102 := (q_Ii es9 (by decide) : gI s9 102 = gI s2 102); have z3 : gI s9 104 = gI s2 104 := (q_Ii es9 (by decide) : gI s9 104 = gI s2 104); omega) ((Fs11.1 48 (by decide)).trans (q_Ii es9 (by decide) : gI s9 48 = gI s2 48)) (by have z4 : gI s11 105 = gI s9 105 := (Fs11.1 105 (by decide)); have z5 : gI s9 105 = gI s2 105 - 1 := q_II es9; have z6 : opn (gA s2 103 (gI s2 104 - 1).toNat) = 1 := if_pos (by omega); omega) (by omega) (by have z7 : gI s11 2 = gI s2 2 := ((Fs11.1 2 (by decide)).trans (q_Ii es9 (by decide) : gI s9 2 = gI s2 2)); omega)) (by show gI s11 102 ≤ 1602; have : gI s9 104 = gI s2 104 := q_Ii es9 (by decide); have : (0 : Int) ≤ gI s11 104 ∧ gI s11 104 ≤ 1700 := hRs11.1 104; have : gI s9 102 = gI s2 102 := q_Ii es9 (by decide); have : (0 : Int) ≤ gI s2 104 ∧ gI s2 104 ≤ 1700 := hRs2.1 104; have : (0 : Int) ≤ gI s2 102 ∧ gI s2 102 ≤ 1700 := hRs2.1 102; have : (0 : Int) ≤ gI s2 5 ∧ gI s2 5 ≤ 5 := hRs2.1 5; have : (0 : Int) ≤ gI s 2 ∧ gI s 2 ≤ 1600 := hRs.1 2; have : (0 : Int) ≤ gI s2 2 ∧ gI s2 2 ≤ 1600 := hRs2.1 2; have : (0 : Int) ≤ gI s 102 ∧ gI s 102 ≤ 1700 := hRs.1 102; have : (0 : Int) ≤ gI s 5 ∧ gI s 5 ≤ 5 := hRs.1 5; have : (0 : Int) ≤ gI s11 102 ∧ gI s11 102 ≤ 1700 := hRs11.1 102; omega) (by have : gI s9 104 = gI s2 104 := q_Ii es9 (by decide); have : gI s9 102 = gI s2 102 := q_Ii es9 (by decide); have : (0 : Int) ≤ gI s11 102 ∧ gI s11 102 ≤ 1700 := hRs11.1 102; have : (0 : Int) ≤ gI s2 104 ∧ gI s2 104 ≤ 1700 := hRs2.1 104; have : (0 : Int) ≤ gI s2 102 ∧ gI s2 102 ≤ 1700 := hRs2.1 102; have : (0 : Int) ≤ gI s2 5 ∧ gI s2 5 ≤ 5 := hRs2.1 5; have : (0 : Int) ≤ gI s 2 ∧ gI s 2 ≤ 1600 := hRs.1 2; have : (0 : Int) ≤ gI s2 2 ∧ gI s2 2 ≤ 1600 := hRs2.1 2; have : (0 : Int) ≤ gI s 102 ∧ gI s 102 ≤ 1700 := hRs.1 102; have : (0 : Int) ≤ gI s 5 ∧ gI s 5 ≤ 5 := hRs.1 5; have : (0 : Int) ≤ gI s11 104 ∧ gI s11 104 ≤ 1700 := hRs11.1 104; omega)
      · skip
        unfold m_x12_qDropsNots_J33
        exact wp_some ⟨hRs2, hv0_1, by show gI s2 102 ≤ 1602; have : (0 : Int) ≤ gI s2 5 ∧ gI s2 5 ≤ 5 := hRs2.1 5; have : (0 : Int) ≤ gI s 2 ∧ gI s 2 ≤ 1600 := hRs.1 2; have : (0 : Int) ≤ gI s2 2 ∧ gI s2 2 ≤ 1600 := hRs2.1 2; have : (0 : Int) ≤ gI s 102 ∧ gI s 102 ≤ 1700 := hRs.1 102; have : (0 : Int) ≤ gI s 5 ∧ gI s 5 ≤ 5 := hRs.1 5; have : (0 : Int) ≤ gI s2 102 ∧ gI s2 102 ≤ 1700 := hRs2.1 102; omega⟩
  exact L0 FU s hRs (by show gI s 2 = gI s 2 ∧ gI s 5 = gI s 5; have : (0 : Int) ≤ gI s 102 ∧ gI s 102 ≤ 1700 := hRs.1 102; have : (0 : Int) ≤ gI s 5 ∧ gI s 5 ≤ 5 := hRs.1 5; have : (0 : Int) ≤ gI s 2 ∧ gI s 2 ≤ 1600 := hRs.1 2; omega) (hp0) (by show gI s 102 ≤ 1602; have : (0 : Int) ≤ gI s 5 ∧ gI s 5 ≤ 5 := hRs.1 5; have : (0 : Int) ≤ gI s 102 ∧ gI s 102 ≤ 1700 := hRs.1 102; omega) (by have := FU_big; have := FU_big2; have : (0 : Int) ≤ gI s 102 ∧ gI s 102 ≤ 1700 := hRs.1 102; have : (0 : Int) ≤ gI s 5 ∧ gI s 5 ≤ 5 := hRs.1 5; have : (0 : Int) ≤ gI s 104 ∧ gI s 104 ≤ 1700 := hRs.1 104; omega)
