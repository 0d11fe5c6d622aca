/-! ===== the reference's trees: what a write does to a block ===== -/
/-- nothing but size, keys and entries of one block is another -/
def BX (s o : MS) (b : Nat) : Prop := ∀ i, ¬ (20 + 16 * b ≤ i ∧ i < 33 + 16 * b) → gA o 49 i = gA s 49 i
theorem BX_0 (s : MS) (b : Nat) : BX s s b := fun _ _ => rfl
theorem BX_t {s o q : MS} {b : Nat} (h1 : BX s o b) (h2 : BX o q b) : BX s q b := fun i hi => (h2 i hi).trans (h1 i hi)
theorem BX_c {s o : MS} {b : Nat} (H : BX s o b) : cM o = cM s := by
  funext p
  exact H _ (by omega)
theorem BX_v {s o : MS} {b : Nat} (H : BX s o b) : vM o = vM s := by
  funext p
  exact H _ (by omega)
theorem BX_l {s o : MS} {b : Nat} (H : BX s o b) : (hM o).1 = (hM s).1 := by
  funext p
  exact H (19 + 16 * p) (by omega)
theorem BX_z {s o : MS} {b p : Nat} (H : BX s o b) (hp : p ≠ b) : (hM o).2.1 p = (hM s).2.1 p := H (20 + 16 * p) (by omega)
theorem BX_e {s o : MS} {b p j : Nat} (H : BX s o b) (hp : p ≠ b) : (hM o).2.2 p j = (hM s).2.2 p j ∧ kM o p j = kM s p j := by
  constructor
  · show (if j < 6 then gA o 49 (27 + 16 * p + j) else 0) = if j < 6 then gA s 49 (27 + 16 * p + j) else 0
    by_cases q : j < 6
    · rw [if_pos q, if_pos q]; exact H _ (by omega)
    · rw [if_neg q, if_neg q]
  · show (if j < 6 then gA o 49 (21 + 16 * p + j) else 0) = if j < 6 then gA s 49 (21 + 16 * p + j) else 0
    by_cases q : j < 6
    · rw [if_pos q, if_pos q]; exact H _ (by omega)
    · rw [if_neg q, if_neg q]
theorem BX_u {s o : MS} {b u : Nat} (H : BX s o b) (hu : u < 17) : gA o 49 u = gA s 49 u := H u (by omega)
theorem BX_k {s o : MS} {b i : Nat} (H : BX s o b) (hb : b < 48) (hi : 785 ≤ i) : gA o 49 i = gA s 49 i := H i (by omega)
theorem BX_r {s o : MS} {b : Nat} (H : BX s o b) : rM o = rM s := by
  funext p
  show (if p < 8 then gA o 49 p else 0) = if p < 8 then gA s 49 p else 0
  by_cases q : p < 8
  · rw [if_pos q, if_pos q]; exact H _ (by omega)
  · rw [if_neg q, if_neg q]
theorem BX_rs {s o : MS} {b : Nat} (H : BX s o b) : rsM o = rsM s := by
  funext p
  show (if p < 8 then gA o 49 (8 + p) else 0) = if p < 8 then gA s 49 (8 + p) else 0
  by_cases q : p < 8
  · rw [if_pos q, if_pos q]; exact H _ (by omega)
  · rw [if_neg q, if_neg q]
theorem BX_s {s o : MS} {b : Nat} (H : BX s o b) : SBk (hM s) (hM o) (kM s) (kM o) b := fun q _ hn => ⟨by rw [BX_l H], BX_z H hn, fun _ _ => BX_e H hn⟩
/-- a size alone -/
theorem M_size {t o : MS} {b : Nat} {v : Int} (e : gA o 49 = upZ (gA t 49) (20 + 16 * b) v) : BX t o b ∧ (hM o).2.1 b = v ∧ (∀ j, (hM o).2.2 b j = (hM t).2.2 b j ∧ kM o b j = kM t b j) := by
  refine ⟨fun i hi => by rw [e, upZ_n (by omega)], by show gA o 49 (20 + 16 * b) = v; rw [e, upZ_s], fun j => ⟨?_, ?_⟩⟩
  · show (if j < 6 then gA o 49 (27 + 16 * b + j) else 0) = if j < 6 then gA t 49 (27 + 16 * b + j) else 0
    rw [e, upZ_n (by omega)]
  · show (if j < 6 then gA o 49 (21 + 16 * b + j) else 0) = if j < 6 then gA t 49 (21 + 16 * b + j) else 0
    by_cases q : j < 6
    · rw [if_pos q, if_pos q, e, upZ_n (by omega)]
    · rw [if_neg q, if_neg q]
/-- an entry and its key -/
theorem M_set {t o : MS} {b k : Nat} {key v : Int} (hk : k < 6) (e : gA o 49 = upZ (upZ (gA t 49) (21 + 16 * b + k) key) (27 + 16 * b + k) v) : BX t o b ∧ (hM o).2.1 b = (hM t).2.1 b ∧ ((hM o).2.2 b k = v ∧ kM o b k = key) ∧ (∀ j, j ≠ k → (hM o).2.2 b j = (hM t).2.2 b j ∧ kM o b j = kM t b j) := by
  refine ⟨fun i hi => by rw [e, upZ_n (by omega), upZ_n (by omega)], by show gA o 49 (20 + 16 * b) = gA t 49 (20 + 16 * b); rw [e, upZ_n (by omega), upZ_n (by omega)], ⟨?_, ?_⟩, fun j hj => ⟨?_, ?_⟩⟩
  · show (if k < 6 then gA o 49 (27 + 16 * b + k) else 0) = v
    rw [if_pos hk, e, upZ_s]
  · show (if k < 6 then gA o 49 (21 + 16 * b + k) else 0) = key
    rw [if_pos hk, e, upZ_n (by omega), upZ_s]
  · show (if j < 6 then gA o 49 (27 + 16 * b + j) else 0) = if j < 6 then gA t 49 (27 + 16 * b + j) else 0
    by_cases q : j < 6
    · rw [if_pos q, if_pos q, e, upZ_n (by omega), upZ_n (by omega)]
    · rw [if_neg q, if_neg q]
  · show (if j < 6 then gA o 49 (21 + 16 * b + j) else 0) = if j < 6 then gA t 49 (21 + 16 * b + j) else 0
    by_cases q : j < 6
    · rw [if_pos q, if_pos q, e, upZ_n (by omega), upZ_n (by omega)]
    · rw [if_neg q, if_neg q]
theorem R49 {s : MS} (hR : Rr s) {i : Nat} (hi : i < 906) : R2 (gA s 49 i) := hR.2.1 49 i (by show i < 906; exact hi)
theorem Rz {s : MS} (hR : Rr s) {p : Nat} (hp : p < 48) : R2 ((hM s).2.1 p) := R49 hR (i := 20 + 16 * p) (by omega)
/-- an entry is put in -/
def InsE (s o : MS) (b k : Nat) (key val : Int) : Prop := BX s o b ∧ (hM o).2.1 b = (hM s).2.1 b + 1 ∧ (∀ j, j < k → (hM o).2.2 b j = (hM s).2.2 b j ∧ kM o b j = kM s b j) ∧ ((hM o).2.2 b k = val ∧ kM o b k = key) ∧ (∀ j, k ≤ j → (j : Int) < (hM s).2.1 b → (hM o).2.2 b (j + 1) = (hM s).2.2 b j ∧ kM o b (j + 1) = kM s b j)
theorem w_x12_inserts {p0 p1 p2 p3 : Int} {s : MS} (hRs : Rr s) (hb : 0 ≤ p0 ∧ p0 < 48) (hk : 0 ≤ p1 ∧ p1 ≤ (hM s).2.1 p0.toNat) (hz : (hM s).2.1 p0.toNat ≤ 5) (h2 : R2 p2) (h3 : R2 p3) : wp (m_x12_inserts p0 p1 p2 p3 s) (fun o => Rr o ∧ F_x12_inserts s o ∧ InsE s o p0.toNat p1.toNat p2 p3) := by
  have hb48 : p0.toNat < 48 := by omega
  have key : wp (m_x12_inserts p0 p1 p2 p3 s) (fun o => Rr o ∧ InsE s o p0.toNat p1.toNat p2 p3) := by
    have L7 : ∀ (n : Nat) (x5 : Int) (S : MS), Rr S → (p1 ≤ x5 ∧ x5 ≤ (hM s).2.1 p0.toNat) → BX s S p0.toNat → (hM S).2.1 p0.toNat = (hM s).2.1 p0.toNat → (∀ j : Nat, (j : Int) ≤ x5 → (hM S).2.2 p0.toNat j = (hM s).2.2 p0.toNat j ∧ kM S p0.toNat j = kM s p0.toNat j) → (∀ j : Nat, x5 ≤ (j : Int) → (j : Int) < (hM s).2.1 p0.toNat → (hM S).2.2 p0.toNat (j + 1) = (hM s).2.2 p0.toNat j ∧ kM S p0.toNat (j + 1) = kM s p0.toNat j) → x5 - p1 < (n : Int) → wp (m_x12_inserts_L7 n p0 p1 p2 p3 x5 S) (fun o => Rr o ∧ InsE s o p0.toNat p1.toNat p2 p3) := by
      refine fr_ind (fun x5 S hRS hx hB hsz hlo hhi hm => by exfalso; omega) (fun n ih x5 S hRS hx hB hsz hlo hhi hm => ?_)
      show wp (m_x12_inserts_b7 (m_x12_inserts_L7 n) p0 p1 p2 p3 x5 S) _
      unfold m_x12_inserts_b7
      refine wp_rg (by omega) (wp_rg (by omega) (wp_if (fun c => ?_) (fun c => ?_)))
      · refine wp_bn (w_x12_setsEntry hRS hb (by omega) h2 h3) (fun s11 e11 h11 => ?_)
        obtain ⟨hR11, u11⟩ := h11
        obtain ⟨b1, z1, ⟨v1, k1⟩, r1⟩ := M_set (b := p0.toNat) (k := p1.toNat) (by omega) u11
        have y11 := Rz hR11 hb48
        refine wp_rdIn (by omega) (fun y12 e12 => ?_)
        have e12' : (hM s11).2.1 p0.toNat = y12 := by
          rw [← e12]; show gA s11 49 (20 + 16 * p0.toNat) = _; congr 1; omega
        refine wp_inb (by omega) (wp_stn (fun s14 e14 => ?_))
        have hR14 : Rr s14 := e14 ▸ Rr.uAu hR11 (by show (-2147483648 : Int) ≤ y12 + 1 ∧ y12 + 1 ≤ 2147483647; omega)
        have u14 : gA s14 49 = upZ (gA s11 49) (20 + 16 * p0.toNat) (y12 + 1) := by
          rw [(q_AA e14 : gA s14 49 = _), show (17 + 16 * p0 + 3).toNat = 20 + 16 * p0.toNat by omega]
        obtain ⟨b2, z2, r2⟩ := M_size u14
        refine wp_some ⟨hR14, BX_t hB (BX_t b1 b2), by rw [z2]; omega, fun j hj => ?_, ⟨by rw [(r2 _).1]; exact v1, by rw [(r2 _).2]; exact k1⟩, fun j hj hn => ?_⟩
        · rw [(r2 j).1, (r2 j).2, (r1 j (by omega)).1, (r1 j (by omega)).2]; exact hlo j (by omega)
        · rw [(r2 _).1, (r2 _).2, (r1 (j + 1) (by omega)).1, (r1 (j + 1) (by omega)).2]; exact hhi j (by omega) hn
      · refine wp_bn (w_x12_keyAt hRS hb (by omega)) (fun r16 e16 h16 => ?_)
        refine wp_bn (w_x12_valueAt hRS hb (by omega)) (fun r18 e18 h18 => ?_)
        refine wp_bn (w_x12_setsEntry hRS hb (by omega) h16.2 h18.2) (fun s20 e20 h20 => ?_)
        obtain ⟨hR20, u20⟩ := h20
        obtain ⟨b1, z1, ⟨v1, k1⟩, r1⟩ := M_set (b := p0.toNat) (k := x5.toNat) (by omega) u20
        have lo1 := hlo (x5 - 1).toNat (by omega)
        refine ih (x5 + (-1)) s20 hR20 (by omega) (BX_t hB b1) (by rw [z1]; exact hsz) (fun j hj => ?_) (fun j hj hn => ?_) (by omega)
        · rw [(r1 j (by omega)).1, (r1 j (by omega)).2]; exact hlo j (by omega)
        · by_cases q : j + 1 = x5.toNat
          · rw [q, v1, k1, h18.1, h16.1, lo1.1, lo1.2, show (x5 - 1).toNat = j by omega]; exact ⟨rfl, rfl⟩
          · rw [(r1 _ q).1, (r1 _ q).2]; exact hhi j (by omega) hn
    unfold m_x12_inserts
    refine wp_bn (w_x12_entriesOf hRs hb) (fun r22 e22 h22 => ?_)
    rw [h22.1]
    exact L7 FU _ s hRs (by omega) (BX_0 s _) rfl (fun j _ => ⟨rfl, rfl⟩) (fun j h1 h2 => by omega) (by have := FU_big; omega)
  exact wp_eq key (fun o eo ho => ⟨ho.1, fr_x12_inserts eo, ho.2⟩)
/-- an entry is cut -/
def DelE (s o : MS) (b k : Nat) : Prop := BX s o b ∧ (hM o).2.1 b = (hM s).2.1 b - 1 ∧ (∀ j, j < k → (hM o).2.2 b j = (hM s).2.2 b j ∧ kM o b j = kM s b j) ∧ (∀ j, k ≤ j → (j : Int) < (hM s).2.1 b - 1 → (hM o).2.2 b j = (hM s).2.2 b (j + 1) ∧ kM o b j = kM s b (j + 1))
theorem w_x12_cutsEntry {p0 p1 : Int} {s : MS} (hRs : Rr s) (hb : 0 ≤ p0 ∧ p0 < 48) (hk : 0 ≤ p1 ∧ p1 ≤ (hM s).2.1 p0.toNat) (hz : 1 ≤ (hM s).2.1 p0.toNat ∧ (hM s).2.1 p0.toNat ≤ 6) : wp (m_x12_cutsEntry p0 p1 s) (fun o => Rr o ∧ F_x12_cutsEntry s o ∧ ∃ k : Nat, (k : Int) < (hM s).2.1 p0.toNat ∧ (p1 < (hM s).2.1 p0.toNat → k = p1.toNat) ∧ DelE s o p0.toNat k) := by
  have hb48 : p0.toNat < 48 := by omega
  have key : wp (m_x12_cutsEntry p0 p1 s) (fun o => Rr o ∧ ∃ k : Nat, (k : Int) < (hM s).2.1 p0.toNat ∧ (p1 < (hM s).2.1 p0.toNat → k = p1.toNat) ∧ DelE s o p0.toNat k) := by
    have L2 : ∀ (n : Nat) (x2 : Int) (S : MS), Rr S → (p1 ≤ x2 ∧ x2 ≤ (hM s).2.1 p0.toNat ∧ (x2 = p1 ∨ x2 < (hM s).2.1 p0.toNat)) → BX s S p0.toNat → (hM S).2.1 p0.toNat = (hM s).2.1 p0.toNat → (∀ j : Nat, (j : Int) < p1 ∨ x2 ≤ (j : Int) → (hM S).2.2 p0.toNat j = (hM s).2.2 p0.toNat j ∧ kM S p0.toNat j = kM s p0.toNat j) → (∀ j : Nat, p1 ≤ (j : Int) → (j : Int) < x2 → (hM S).2.2 p0.toNat j = (hM s).2.2 p0.toNat (j + 1) ∧ kM S p0.toNat j = kM s p0.toNat (j + 1)) → 7 - x2 < (n : Int) → wp (m_x12_cutsEntry_L2 n p0 x2 S) (fun o => Rr o ∧ ∃ k : Nat, (k : Int) < (hM s).2.1 p0.toNat ∧ (p1 < (hM s).2.1 p0.toNat → k = p1.toNat) ∧ DelE s o p0.toNat k) := by
      refine fr_ind (fun x2 S hRS hx hB hsz hlo hhi hm => by exfalso; omega) (fun n ih x2 S hRS hx hB hsz hlo hhi hm => ?_)
      show wp (m_x12_cutsEntry_b2 (m_x12_cutsEntry_L2 n) p0 x2 S) _
      unfold m_x12_cutsEntry_b2
      refine wp_bn (w_x12_entriesOf hRS hb) (fun r5 e5 h5 => ?_)
      have h5a : r5 = (hM s).2.1 p0.toNat := h5.1.trans hsz
      refine wp_rg (by omega) (wp_rg (by omega) (wp_if (fun c => ?_) (fun c => ?_)))
      · refine wp_rdIn (by omega) (fun y9 e9 => ?_)
        have e9' : (hM s).2.1 p0.toNat = y9 := by
          rw [← hsz, ← e9]; show gA S 49 (20 + 16 * p0.toNat) = _; congr 1; omega
        refine wp_inb (by omega) (wp_stn (fun s11 e11 => ?_))
        have hR11 : Rr s11 := e11 ▸ Rr.uAu hRS (by show (-2147483648 : Int) ≤ y9 - 1 ∧ y9 - 1 ≤ 2147483647; omega)
        have u11 : gA s11 49 = upZ (gA S 49) (20 + 16 * p0.toNat) (y9 - 1) := by
          rw [(q_AA e11 : gA s11 49 = _), show (17 + 16 * p0 + 3).toNat = 20 + 16 * p0.toNat by omega]
        obtain ⟨b2, z2, r2⟩ := M_size u11
        refine wp_inb (by omega) (wp_bo (Or.inr rfl) (wp_stn (fun s14 e14 => ?_)))
        have hR14 : Rr s14 := e14 ▸ Rr.uAu hR11 (by show (0 : Int) ≤ 1 ∧ (1 : Int) ≤ 1; omega)
        have u14 : gA s14 49 = gA s11 49 := q_Aa e14 (by decide)
        have hM14 : hM s14 = hM s11 := by unfold hM; rw [u14]
        have kM14 : kM s14 = kM s11 := by unfold kM; rw [u14]
        refine wp_some ⟨hR14, if p1 < (hM s).2.1 p0.toNat then p1.toNat else p1.toNat - 1, ?_, ?_, ?_, ?_, ?_, ?_⟩
        · split <;> omega
        · intro q; rw [if_pos q]
        · exact BX_t hB (BX_t b2 (fun i _ => by rw [u14]))
        · rw [hM14, z2]; omega
        · intro j hj
          rw [hM14, kM14, (r2 j).1, (r2 j).2]
          exact hlo j (by left; revert hj; split <;> omega)
        · intro j hj hn
          rw [hM14, kM14, (r2 j).1, (r2 j).2]
          refine hhi j (by revert hj; split <;> omega) (by omega)
      · refine wp_bn (w_x12_keyAt hRS hb (by omega)) (fun r16 e16 h16 => ?_)
        refine wp_bn (w_x12_valueAt hRS hb (by omega)) (fun r18 e18 h18 => ?_)
        refine wp_bn (w_x12_setsEntry hRS hb (by omega) h16.2 h18.2) (fun s20 e20 h20 => ?_)
        obtain ⟨hR20, u20⟩ := h20
        obtain ⟨b1, z1, ⟨v1, k1⟩, r1⟩ := M_set (b := p0.toNat) (k := x2.toNat) (by omega) u20
        have lo1 := hlo (x2 + 1).toNat (by omega)
        refine ih (x2 + 1) s20 hR20 (by omega) (BX_t hB b1) (by rw [z1]; exact hsz) (fun j hj => ?_) (fun j hj hn => ?_) (by omega)
        · rw [(r1 j (by omega)).1, (r1 j (by omega)).2]; exact hlo j (by omega)
        · by_cases q : j = x2.toNat
          · rw [q, v1, k1, h18.1, h16.1, lo1.1, lo1.2, show (x2 + 1).toNat = x2.toNat + 1 by omega]; exact ⟨rfl, rfl⟩
          · rw [(r1 _ q).1, (r1 _ q).2]; exact hhi j hj (by omega)
    unfold m_x12_cutsEntry
    exact L2 FU p1 s hRs (by omega) (BX_0 s _) rfl (fun j _ => ⟨rfl, rfl⟩) (fun j h1 h2 => by omega) (by have := FU_big; omega)
  exact wp_eq key (fun o eo ho => ⟨ho.1, fr_x12_cutsEntry eo, ho.2⟩)
