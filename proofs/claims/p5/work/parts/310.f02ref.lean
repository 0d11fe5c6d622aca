/-! ===== the reference's trees ===== -/
def hM (t : MS) : SH := (fun p => gA t 49 (19 + 16 * p), fun p => gA t 49 (20 + 16 * p), fun p k => if k < 6 then gA t 49 (27 + 16 * p + k) else 0)
def kM (t : MS) : Nat → Nat → Int := fun p k => if k < 6 then gA t 49 (21 + 16 * p + k) else 0
def cM (t : MS) : Nat → Int := fun p => gA t 49 (17 + 16 * p)
def vM (t : MS) : Nat → Int := fun p => gA t 49 (18 + 16 * p)
def rM (t : MS) : Nat → Int := fun v => if v < 8 then gA t 49 v else 0
def rsM (t : MS) : Nat → Int := fun v => if v < 8 then gA t 49 (8 + v) else 0
def TM (t : MS) (D : Nat → Int) (e : Int) : Prop := TG (hM t) (kM t) (gA t 39 5) (gA t 39 6) (cM t) (vM t) (rM t) (rsM t) D e
theorem TM_mk {o : MS} {h : SH} {ky : Nat → Nat → Int} {N E : Int} {c sv r rs D : Nat → Int} {e : Int} (T : TG h ky N E c sv r rs D e) (a1 : hM o = h) (a2 : kM o = ky) (a3 : gA o 39 5 = N) (a4 : gA o 39 6 = E) (a5 : cM o = c) (a6 : vM o = sv) (a7 : rM o = r) (a8 : rsM o = rs) : TM o D e := by
  subst a1 a2 a3 a4 a5 a6 a7 a8
  exact T
theorem TM_eq {s o : MS} {D : Nat → Int} {e : Int} (H : TM s D e) (h49 : gA o 49 = gA s 49) (h39 : gA o 39 = gA s 39) : TM o D e := by
  unfold TM hM kM cM vM rM rsM at H ⊢
  rw [h49, h39]; exact H
theorem M_c {t o : MS} {b : Nat} {v : Int} (e : gA o 49 = upZ (gA t 49) (17 + 16 * b) v) : cM o = upZ (cM t) b v ∧ vM o = vM t ∧ (hM o).1 = (hM t).1 ∧ (hM o).2.1 = (hM t).2.1 ∧ (hM o).2.2 = (hM t).2.2 ∧ kM o = kM t ∧ rM o = rM t ∧ rsM o = rsM t := ⟨by funext p; unfold cM; rw [e]; show (if 17 + 16 * p = 17 + 16 * b then v else gA t 49 (17 + 16 * p)) = if p = b then v else gA t 49 (17 + 16 * p); by_cases z : p = b; (rw [if_pos z, if_pos (by omega)]); (rw [if_neg z, if_neg (by omega)]),
  by funext p; unfold vM; rw [e, upZ_n (by omega)],
  by funext p; show gA o 49 (19 + 16 * p) = gA t 49 (19 + 16 * p); rw [e, upZ_n (by omega)],
  by funext p; show gA o 49 (20 + 16 * p) = gA t 49 (20 + 16 * p); rw [e, upZ_n (by omega)],
  by funext p j; show (if j < 6 then gA o 49 (27 + 16 * p + j) else 0) = if j < 6 then gA t 49 (27 + 16 * p + j) else 0; by_cases q : j < 6; (rw [if_pos q, if_pos q, e, upZ_n (by omega)]); (rw [if_neg q, if_neg q]),
  by funext p j; show (if j < 6 then gA o 49 (21 + 16 * p + j) else 0) = if j < 6 then gA t 49 (21 + 16 * p + j) else 0; by_cases q : j < 6; (rw [if_pos q, if_pos q, e, upZ_n (by omega)]); (rw [if_neg q, if_neg q]),
  by funext p; show (if p < 8 then gA o 49 (p) else 0) = if p < 8 then gA t 49 (p) else 0; by_cases q : p < 8; (rw [if_pos q, if_pos q, e, upZ_n (by omega)]); (rw [if_neg q, if_neg q]),
  by funext p; show (if p < 8 then gA o 49 (8 + p) else 0) = if p < 8 then gA t 49 (8 + p) else 0; by_cases q : p < 8; (rw [if_pos q, if_pos q, e, upZ_n (by omega)]); (rw [if_neg q, if_neg q])⟩
theorem M_v {t o : MS} {b : Nat} {v : Int} (e : gA o 49 = upZ (gA t 49) (18 + 16 * b) v) : cM o = cM t ∧ vM o = upZ (vM t) b v ∧ (hM o).1 = (hM t).1 ∧ (hM o).2.1 = (hM t).2.1 ∧ (hM o).2.2 = (hM t).2.2 ∧ kM o = kM t ∧ rM o = rM t ∧ rsM o = rsM t := ⟨by funext p; unfold cM; rw [e, upZ_n (by omega)],
  by funext p; unfold vM; rw [e]; show (if 18 + 16 * p = 18 + 16 * b then v else gA t 49 (18 + 16 * p)) = if p = b then v else gA t 49 (18 + 16 * p); by_cases z : p = b; (rw [if_pos z, if_pos (by omega)]); (rw [if_neg z, if_neg (by omega)]),
  by funext p; show gA o 49 (19 + 16 * p) = gA t 49 (19 + 16 * p); rw [e, upZ_n (by omega)],
  by funext p; show gA o 49 (20 + 16 * p) = gA t 49 (20 + 16 * p); rw [e, upZ_n (by omega)],
  by funext p j; show (if j < 6 then gA o 49 (27 + 16 * p + j) else 0) = if j < 6 then gA t 49 (27 + 16 * p + j) else 0; by_cases q : j < 6; (rw [if_pos q, if_pos q, e, upZ_n (by omega)]); (rw [if_neg q, if_neg q]),
  by funext p j; show (if j < 6 then gA o 49 (21 + 16 * p + j) else 0) = if j < 6 then gA t 49 (21 + 16 * p + j) else 0; by_cases q : j < 6; (rw [if_pos q, if_pos q, e, upZ_n (by omega)]); (rw [if_neg q, if_neg q]),
  by funext p; show (if p < 8 then gA o 49 (p) else 0) = if p < 8 then gA t 49 (p) else 0; by_cases q : p < 8; (rw [if_pos q, if_pos q, e, upZ_n (by omega)]); (rw [if_neg q, if_neg q]),
  by funext p; show (if p < 8 then gA o 49 (8 + p) else 0) = if p < 8 then gA t 49 (8 + p) else 0; by_cases q : p < 8; (rw [if_pos q, if_pos q, e, upZ_n (by omega)]); (rw [if_neg q, if_neg q])⟩
theorem M_l {t o : MS} {b : Nat} {v : Int} (e : gA o 49 = upZ (gA t 49) (19 + 16 * b) v) : cM o = cM t ∧ vM o = vM t ∧ (hM o).1 = upZ (hM t).1 b v ∧ (hM o).2.1 = (hM t).2.1 ∧ (hM o).2.2 = (hM t).2.2 ∧ kM o = kM t ∧ rM o = rM t ∧ rsM o = rsM t := ⟨by funext p; unfold cM; rw [e, upZ_n (by omega)],
  by funext p; unfold vM; rw [e, upZ_n (by omega)],
  by funext p; show gA o 49 (19 + 16 * p) = _; rw [e]; show (if 19 + 16 * p = 19 + 16 * b then v else gA t 49 (19 + 16 * p)) = if p = b then v else gA t 49 (19 + 16 * p); by_cases z : p = b; (rw [if_pos z, if_pos (by omega)]); (rw [if_neg z, if_neg (by omega)]),
  by funext p; show gA o 49 (20 + 16 * p) = gA t 49 (20 + 16 * p); rw [e, upZ_n (by omega)],
  by funext p j; show (if j < 6 then gA o 49 (27 + 16 * p + j) else 0) = if j < 6 then gA t 49 (27 + 16 * p + j) else 0; by_cases q : j < 6; (rw [if_pos q, if_pos q, e, upZ_n (by omega)]); (rw [if_neg q, if_neg q]),
  by funext p j; show (if j < 6 then gA o 49 (21 + 16 * p + j) else 0) = if j < 6 then gA t 49 (21 + 16 * p + j) else 0; by_cases q : j < 6; (rw [if_pos q, if_pos q, e, upZ_n (by omega)]); (rw [if_neg q, if_neg q]),
  by funext p; show (if p < 8 then gA o 49 (p) else 0) = if p < 8 then gA t 49 (p) else 0; by_cases q : p < 8; (rw [if_pos q, if_pos q, e, upZ_n (by omega)]); (rw [if_neg q, if_neg q]),
  by funext p; show (if p < 8 then gA o 49 (8 + p) else 0) = if p < 8 then gA t 49 (8 + p) else 0; by_cases q : p < 8; (rw [if_pos q, if_pos q, e, upZ_n (by omega)]); (rw [if_neg q, if_neg q])⟩
theorem M_z {t o : MS} {b : Nat} {v : Int} (e : gA o 49 = upZ (gA t 49) (20 + 16 * b) v) : cM o = cM t ∧ vM o = vM t ∧ (hM o).1 = (hM t).1 ∧ (hM o).2.1 = upZ (hM t).2.1 b v ∧ (hM o).2.2 = (hM t).2.2 ∧ kM o = kM t ∧ rM o = rM t ∧ rsM o = rsM t := ⟨by funext p; unfold cM; rw [e, upZ_n (by omega)],
  by funext p; unfold vM; rw [e, upZ_n (by omega)],
  by funext p; show gA o 49 (19 + 16 * p) = gA t 49 (19 + 16 * p); rw [e, upZ_n (by omega)],
  by funext p; show gA o 49 (20 + 16 * p) = _; rw [e]; show (if 20 + 16 * p = 20 + 16 * b then v else gA t 49 (20 + 16 * p)) = if p = b then v else gA t 49 (20 + 16 * p); by_cases z : p = b; (rw [if_pos z, if_pos (by omega)]); (rw [if_neg z, if_neg (by omega)]),
  by funext p j; show (if j < 6 then gA o 49 (27 + 16 * p + j) else 0) = if j < 6 then gA t 49 (27 + 16 * p + j) else 0; by_cases q : j < 6; (rw [if_pos q, if_pos q, e, upZ_n (by omega)]); (rw [if_neg q, if_neg q]),
  by funext p j; show (if j < 6 then gA o 49 (21 + 16 * p + j) else 0) = if j < 6 then gA t 49 (21 + 16 * p + j) else 0; by_cases q : j < 6; (rw [if_pos q, if_pos q, e, upZ_n (by omega)]); (rw [if_neg q, if_neg q]),
  by funext p; show (if p < 8 then gA o 49 (p) else 0) = if p < 8 then gA t 49 (p) else 0; by_cases q : p < 8; (rw [if_pos q, if_pos q, e, upZ_n (by omega)]); (rw [if_neg q, if_neg q]),
  by funext p; show (if p < 8 then gA o 49 (8 + p) else 0) = if p < 8 then gA t 49 (8 + p) else 0; by_cases q : p < 8; (rw [if_pos q, if_pos q, e, upZ_n (by omega)]); (rw [if_neg q, if_neg q])⟩
theorem M_y {t o : MS} {b k : Nat} {v : Int} (hk : k < 6) (e : gA o 49 = upZ (gA t 49) (21 + 16 * b + k) v) : cM o = cM t ∧ vM o = vM t ∧ (hM o).1 = (hM t).1 ∧ (hM o).2.1 = (hM t).2.1 ∧ (hM o).2.2 = (hM t).2.2 ∧ (∀ p j, kM o p j = if p = b ∧ j = k then v else kM t p j) ∧ rM o = rM t ∧ rsM o = rsM t := ⟨by funext p; unfold cM; rw [e, upZ_n (by omega)],
  by funext p; unfold vM; rw [e, upZ_n (by omega)],
  by funext p; show gA o 49 (19 + 16 * p) = gA t 49 (19 + 16 * p); rw [e, upZ_n (by omega)],
  by funext p; show gA o 49 (20 + 16 * p) = gA t 49 (20 + 16 * p); rw [e, upZ_n (by omega)],
  by funext p j; show (if j < 6 then gA o 49 (27 + 16 * p + j) else 0) = if j < 6 then gA t 49 (27 + 16 * p + j) else 0; by_cases q : j < 6; (rw [if_pos q, if_pos q, e, upZ_n (by omega)]); (rw [if_neg q, if_neg q]),
  fun p j => by show (if j < 6 then gA o 49 (21 + 16 * p + j) else 0) = if p = b ∧ j = k then v else if j < 6 then gA t 49 (21 + 16 * p + j) else 0; rw [e]; by_cases q : j < 6; (rw [if_pos q, if_pos q]; by_cases z : p = b ∧ j = k; (rw [if_pos z, show 21 + 16 * p + j = 21 + 16 * b + k by omega, upZ_s]); (rw [if_neg z, upZ_n (by omega)])); (rw [if_neg q, if_neg q, if_neg (by omega)]),
  by funext p; show (if p < 8 then gA o 49 (p) else 0) = if p < 8 then gA t 49 (p) else 0; by_cases q : p < 8; (rw [if_pos q, if_pos q, e, upZ_n (by omega)]); (rw [if_neg q, if_neg q]),
  by funext p; show (if p < 8 then gA o 49 (8 + p) else 0) = if p < 8 then gA t 49 (8 + p) else 0; by_cases q : p < 8; (rw [if_pos q, if_pos q, e, upZ_n (by omega)]); (rw [if_neg q, if_neg q])⟩
theorem M_e {t o : MS} {b k : Nat} {v : Int} (hk : k < 6) (e : gA o 49 = upZ (gA t 49) (27 + 16 * b + k) v) : cM o = cM t ∧ vM o = vM t ∧ (hM o).1 = (hM t).1 ∧ (hM o).2.1 = (hM t).2.1 ∧ (∀ p j, (hM o).2.2 p j = if p = b ∧ j = k then v else (hM t).2.2 p j) ∧ kM o = kM t ∧ rM o = rM t ∧ rsM o = rsM t := ⟨by funext p; unfold cM; rw [e, upZ_n (by omega)],
  by funext p; unfold vM; rw [e, upZ_n (by omega)],
  by funext p; show gA o 49 (19 + 16 * p) = gA t 49 (19 + 16 * p); rw [e, upZ_n (by omega)],
  by funext p; show gA o 49 (20 + 16 * p) = gA t 49 (20 + 16 * p); rw [e, upZ_n (by omega)],
  fun p j => by show (if j < 6 then gA o 49 (27 + 16 * p + j) else 0) = if p = b ∧ j = k then v else if j < 6 then gA t 49 (27 + 16 * p + j) else 0; rw [e]; by_cases q : j < 6; (rw [if_pos q, if_pos q]; by_cases z : p = b ∧ j = k; (rw [if_pos z, show 27 + 16 * p + j = 27 + 16 * b + k by omega, upZ_s]); (rw [if_neg z, upZ_n (by omega)])); (rw [if_neg q, if_neg q, if_neg (by omega)]),
  by funext p j; show (if j < 6 then gA o 49 (21 + 16 * p + j) else 0) = if j < 6 then gA t 49 (21 + 16 * p + j) else 0; by_cases q : j < 6; (rw [if_pos q, if_pos q, e, upZ_n (by omega)]); (rw [if_neg q, if_neg q]),
  by funext p; show (if p < 8 then gA o 49 (p) else 0) = if p < 8 then gA t 49 (p) else 0; by_cases q : p < 8; (rw [if_pos q, if_pos q, e, upZ_n (by omega)]); (rw [if_neg q, if_neg q]),
  by funext p; show (if p < 8 then gA o 49 (8 + p) else 0) = if p < 8 then gA t 49 (8 + p) else 0; by_cases q : p < 8; (rw [if_pos q, if_pos q, e, upZ_n (by omega)]); (rw [if_neg q, if_neg q])⟩
theorem M_r {t o : MS} {b : Nat} {v : Int} (hb : b < 8) (e : gA o 49 = upZ (gA t 49) (b) v) : cM o = cM t ∧ vM o = vM t ∧ (hM o).1 = (hM t).1 ∧ (hM o).2.1 = (hM t).2.1 ∧ (hM o).2.2 = (hM t).2.2 ∧ kM o = kM t ∧ rM o = upZ (rM t) b v ∧ rsM o = rsM t := ⟨by funext p; unfold cM; rw [e, upZ_n (by omega)],
  by funext p; unfold vM; rw [e, upZ_n (by omega)],
  by funext p; show gA o 49 (19 + 16 * p) = gA t 49 (19 + 16 * p); rw [e, upZ_n (by omega)],
  by funext p; show gA o 49 (20 + 16 * p) = gA t 49 (20 + 16 * p); rw [e, upZ_n (by omega)],
  by funext p j; show (if j < 6 then gA o 49 (27 + 16 * p + j) else 0) = if j < 6 then gA t 49 (27 + 16 * p + j) else 0; by_cases q : j < 6; (rw [if_pos q, if_pos q, e, upZ_n (by omega)]); (rw [if_neg q, if_neg q]),
  by funext p j; show (if j < 6 then gA o 49 (21 + 16 * p + j) else 0) = if j < 6 then gA t 49 (21 + 16 * p + j) else 0; by_cases q : j < 6; (rw [if_pos q, if_pos q, e, upZ_n (by omega)]); (rw [if_neg q, if_neg q]),
  by funext p; show (if p < 8 then gA o 49 (p) else 0) = if p = b then v else if p < 8 then gA t 49 (p) else 0; by_cases q : p < 8; (rw [if_pos q, if_pos q, e]; by_cases z : p = b; (rw [if_pos z, show p = b by omega, upZ_s]); (rw [if_neg z, upZ_n (by omega)])); (rw [if_neg q, if_neg q, if_neg (by omega)]),
  by funext p; show (if p < 8 then gA o 49 (8 + p) else 0) = if p < 8 then gA t 49 (8 + p) else 0; by_cases q : p < 8; (rw [if_pos q, if_pos q, e, upZ_n (by omega)]); (rw [if_neg q, if_neg q])⟩
theorem M_s {t o : MS} {b : Nat} {v : Int} (hb : b < 8) (e : gA o 49 = upZ (gA t 49) (8 + b) v) : cM o = cM t ∧ vM o = vM t ∧ (hM o).1 = (hM t).1 ∧ (hM o).2.1 = (hM t).2.1 ∧ (hM o).2.2 = (hM t).2.2 ∧ kM o = kM t ∧ rM o = rM t ∧ rsM o = upZ (rsM t) b v := ⟨by funext p; unfold cM; rw [e, upZ_n (by omega)],
  by funext p; unfold vM; rw [e, upZ_n (by omega)],
  by funext p; show gA o 49 (19 + 16 * p) = gA t 49 (19 + 16 * p); rw [e, upZ_n (by omega)],
  by funext p; show gA o 49 (20 + 16 * p) = gA t 49 (20 + 16 * p); rw [e, upZ_n (by omega)],
  by funext p j; show (if j < 6 then gA o 49 (27 + 16 * p + j) else 0) = if j < 6 then gA t 49 (27 + 16 * p + j) else 0; by_cases q : j < 6; (rw [if_pos q, if_pos q, e, upZ_n (by omega)]); (rw [if_neg q, if_neg q]),
  by funext p j; show (if j < 6 then gA o 49 (21 + 16 * p + j) else 0) = if j < 6 then gA t 49 (21 + 16 * p + j) else 0; by_cases q : j < 6; (rw [if_pos q, if_pos q, e, upZ_n (by omega)]); (rw [if_neg q, if_neg q]),
  by funext p; show (if p < 8 then gA o 49 (p) else 0) = if p < 8 then gA t 49 (p) else 0; by_cases q : p < 8; (rw [if_pos q, if_pos q, e, upZ_n (by omega)]); (rw [if_neg q, if_neg q]),
  by funext p; show (if p < 8 then gA o 49 (8 + p) else 0) = if p = b then v else if p < 8 then gA t 49 (8 + p) else 0; by_cases q : p < 8; (rw [if_pos q, if_pos q, e]; by_cases z : p = b; (rw [if_pos z, show 8 + p = 8 + b by omega, upZ_s]); (rw [if_neg z, upZ_n (by omega)])); (rw [if_neg q, if_neg q, if_neg (by omega)])⟩
