/-! ===== all blocks of an image, as the class reads them ===== -/
theorem bt_all {g : Nat → Int} {e p : Nat} (h : nxp g p ≤ e) : (bt g e p = g p ∧ bt g e (p + 1) = g (p + 1)) ∧ (thr g p → bt g e (p + 2) = g (p + 2) ∧ bt g e (p + 3) = g (p + 3) ∧ ∀ k : Nat, (k : Int) < g (p + 3) → 256 * bt g e (p + 4 + 4 * k) + bt g e (p + 5 + 4 * k) = ke g p k ∧ 256 * bt g e (p + 6 + 4 * k) + bt g e (p + 7 + 4 * k) = ve g p k) := by
  have h2 := nxp_lt g p
  refine ⟨⟨bt_in (by omega), bt_in (by omega)⟩, fun ht => ?_⟩
  rw [nxp_1 ht] at h
  refine ⟨bt_in (by omega), bt_in (by omega), fun k hk => ?_⟩
  rw [bt_in (p := p + 4 + 4 * k) (by omega), bt_in (p := p + 5 + 4 * k) (by omega), bt_in (p := p + 6 + 4 * k) (by omega), bt_in (p := p + 7 + 4 * k) (by omega)]
  exact ⟨rfl, rfl⟩
theorem cn_in {g : Nat → Int} {e p : Nat} {E : Int} (c : COK g e p E) (h : CNx g e p ≤ (e : Int)) : nxp g p ≤ e := by
  unfold CNx at h
  by_cases z : bt g e p = 0 ∧ bt g e (p + 1) = 0
  · rw [if_pos z] at h
    have h' : p + 2 ≤ e := by omega
    rw [bt_in (p := p) (by omega), bt_in (p := p + 1) (by omega)] at z
    rw [nxp_0 (fun w => w z)]; exact h'
  · rw [if_neg z] at h
    have n := (c.2 z).2.1
    have h' : p + 4 ≤ e := by omega
    rw [bt_in (p := p + 3) (by omega)] at h n
    have z' : thr g p := fun w => z (by rw [bt_in (p := p) (by omega), bt_in (p := p + 1) (by omega)]; exact w)
    rw [nxp_1 z']; omega
theorem cn_eq {g : Nat → Int} {e p : Nat} (h : nxp g p ≤ e) (b0 : thr g p → 0 ≤ g (p + 3)) : CNx g e p = (nxp g p : Int) := by
  obtain ⟨⟨a1, a2⟩, a3⟩ := bt_all h
  unfold CNx
  rw [a1, a2]
  by_cases z : thr g p
  · have b := b0 z
    rw [if_neg z, nxp_1 z, (a3 z).2.1]; omega
  · rw [if_pos (Classical.not_not.1 z), nxp_0 z]; omega
/-- what the class asks of a block, by the tape alone -/
def GOK (g : Nat → Int) (p : Nat) (E : Int) : Prop := thr g p → (0 ≤ g (p + 2) ∧ g (p + 2) < 48) ∧ (1 ≤ g (p + 3) ∧ g (p + 3) ≤ E) ∧ ∀ k : Nat, (k : Int) < g (p + 3) → (0 ≤ ke g p k ∧ ke g p k ≤ 999) ∧ (0 ≤ ve g p k ∧ ve g p k ≤ 999)
theorem cok_iff {g : Nat → Int} {e p : Nat} {E : Int} (h : nxp g p ≤ e) (BY : ∀ j, j ≤ e → 0 ≤ g j ∧ g j ≤ 255) : COK g e p E ↔ GOK g p E := by
  obtain ⟨⟨a1, a2⟩, a3⟩ := bt_all h
  have h2 := nxp_lt g p
  have y1 := (BY p (by omega)).1
  have y2 := (BY (p + 1) (by omega)).1
  unfold COK
  rw [a1, a2]
  constructor
  · intro w ht
    obtain ⟨x1, x2, x3⟩ := w.2 ht
    obtain ⟨z1, z2, z3⟩ := a3 ht
    rw [z1] at x1
    rw [z2] at x2 x3
    refine ⟨x1, x2, fun k hk => ?_⟩
    have x := x3 k hk
    rw [(z3 k hk).1, (z3 k hk).2] at x
    exact x
  · intro w
    refine ⟨⟨y1, y2⟩, fun ht => ?_⟩
    obtain ⟨x1, x2, x3⟩ := w ht
    obtain ⟨z1, z2, z3⟩ := a3 ht
    rw [z1, z2]
    refine ⟨x1, x2, fun k hk => ?_⟩
    rw [(z3 k hk).1, (z3 k hk).2]
    exact x3 k hk
/-- block b as it lies in the class's rows -/
def CRB (S : MS) (g : Nat → Int) (p b : Nat) : Prop := (gA S 72 b = g p ∧ gA S 73 b = g (p + 1)) ∧ (thr g p → gA S 74 b = g (p + 2) ∧ gA S 75 b = g (p + 3) ∧ ∀ k : Nat, k < 6 → (k : Int) < g (p + 3) → gA S 76 (6 * b + k) = ke g p k ∧ gA S 77 (6 * b + k) = ve g p k)
theorem cbl_crb {S : MS} {g : Nat → Int} {e p b : Nat} (h : nxp g p ≤ e) (C : CBl S g e p b) : CRB S g p b := by
  obtain ⟨⟨a1, a2⟩, a3⟩ := bt_all h
  obtain ⟨c1, c2⟩ := C
  rw [a1, a2] at c1
  rw [a1, a2] at c2
  refine ⟨c1, fun ht => ?_⟩
  obtain ⟨x1, x2, x3⟩ := c2 ht
  obtain ⟨z1, z2, z3⟩ := a3 ht
  rw [z1] at x1
  rw [z2] at x2 x3
  refine ⟨x1, x2, fun k _ hk => ?_⟩
  have x := x3 k hk
  rw [(z3 k hk).1, (z3 k hk).2] at x
  exact x
theorem CRB_k {S o : MS} {g : Nat → Int} {p b x : Nat} (C : CRB S g p x) (h : x ≠ b) (K : KBl S o b) : CRB o g p x := by
  obtain ⟨k1, k2, _⟩ := K
  have r := k1 x h
  obtain ⟨c1, c2⟩ := C
  refine ⟨by rw [r.1, r.2.1]; exact c1, fun ht => ?_⟩
  obtain ⟨x1, x2, x3⟩ := c2 ht
  refine ⟨by rw [r.2.2.1]; exact x1, by rw [r.2.2.2]; exact x2, fun k k6 hk => ?_⟩
  have w := k2 (6 * x + k) (by omega)
  rw [w.1, w.2]
  exact x3 k k6 hk
/-- what stays while blocks are read -/
def FRX (S X : MS) : Prop := (∀ k, (k < 72 ∨ 77 < k) → gA X k = gA S k) ∧ ∀ i, i ≠ 322 → gI X i = gI S i
def IMC (g : Nat → Int) (e N : Nat) (E : Int) (b p : Nat) : Prop := p ≤ e ∧ PO g N = e ∧ ∀ x, b ≤ x → x < N → GOK g (PO g x) E
def EL (g : Nat → Int) (e N : Nat) (S : MS) (q : Int × MS) : Prop := ∃ (X : MS) (q' : Int × MS), m_x4_isSound X = some q' ∧ (∀ x, x < N → CRB X g (PO g x) x) ∧ FRX S X ∧ q.1 = (if q'.1 = 0 then 0 else 1) ∧ q.2 = q'.2 ∧ Rg X ∧ ∀ x, N ≤ x → x < 48 → gA X 72 x = 0 ∧ gA X 73 x = 0
set_option maxHeartbeats 1000000 in
theorem s_L59 {N e : Nat} {E : Int} {g : Nat → Int} (hN : N ≤ 48) (hE : 3 ≤ E ∧ E ≤ 6) (BY : ∀ j, j ≤ e → 0 ≤ g j ∧ g j ≤ 255) : ∀ (n b p : Nat) (S : MS), b ≤ N → gI S 1420 = (N : Int) → TPc S g e → gI S 322 = (p : Int) → (p ≤ e → p = PO g b ∧ ∀ x, x < b → CRB S g (PO g x) x) → Rg S → p ≤ 19 + 28 * b → (∀ x, b ≤ x → x < 48 → gA S 72 x = 0 ∧ gA S 73 x = 0 ∧ gA S 75 x = 0) → pc (m_x4_load_L59 n (N : Int) E (e : Int) (b : Int) S) (fun q => (IMC g e N E b p → EL g e N S q) ∧ (¬ IMC g e N E b p → q.1 = 0)) := by
  refine fr_ind (fun _ _ _ _ _ _ _ _ _ _ _ => pc_none) (fun n ih b p S hb h20 hT hp hr hRS hp28 hz0 => ?_)
  show pc (m_x4_load_b59 (m_x4_load_L59 n) (N : Int) E (e : Int) (b : Int) S) _
  unfold m_x4_load_b59 m_x4_load_J107 m_x4_load_J108
  refine pc_rg (pc_rg (pc_if (fun c => ?_) (fun c => ?_)))
  · have bN : b = N := by omega
    refine pc_rg (pc_rg (pc_if (fun c2 => pc_bn (fun q18 e18 => ?_)) (fun c2 => pc_bo (pc_some ⟨fun w => ?_, fun _ => rfl⟩))))
    · have pe : p = e := by omega
      have r := hr (by omega)
      have im : IMC g e N E b p := ⟨by omega, by rw [← bN, ← r.1]; exact pe, fun x x1 x2 => absurd x2 (by omega)⟩
      have rows : ∀ x, x < N → CRB S g (PO g x) x := fun x hx => r.2 x (by omega)
      have zz : ∀ x, N ≤ x → x < 48 → gA S 72 x = 0 ∧ gA S 73 x = 0 := fun x x1 x2 => ⟨(hz0 x (by omega) x2).1, (hz0 x (by omega) x2).2.1⟩
      refine pc_rg (pc_if (fun c3 => pc_bo (pc_some ⟨fun _ => ⟨S, q18, e18, rows, ⟨fun _ _ => rfl, fun _ _ => rfl⟩, (if_pos c3).symm, rfl, hRS, zz⟩, fun w => absurd im w⟩)) (fun c3 => pc_bo (pc_some ⟨fun _ => ⟨S, q18, e18, rows, ⟨fun _ _ => rfl, fun _ _ => rfl⟩, (if_neg c3).symm, rfl, hRS, zz⟩, fun w => absurd im w⟩)))
    · exfalso
      have r := hr w.1
      have : p = e := by rw [r.1, bN]; exact w.2.1
      omega
  · have b48 : b < 48 := by omega
    refine pc_bn (fun q23 e23 => ?_)
    have F : F_x4_loadBlock S q23.2 := fr_x4_loadBlock e23
    obtain ⟨p1, p2, p3, p4, p5⟩ := s_block (p := p) b48 (by rw [h20]; omega) hE.2 hT hp q23 e23
    have W := wp_det (w_loadBlock hRS (p2 := (b : Int)) ⟨by omega, by omega⟩ hE (by omega) (by rw [Int.toNat_natCast]; exact (hz0 b (Nat.le_refl _) b48).2.2)) e23
    have IN : IMC g e N E b p → nxp g p ≤ e ∧ GOK g p E := fun w => by
      have r := (hr w.1).1
      have m := PO_le (g := g) (show b + 1 ≤ N by omega)
      rw [PO_s, ← r, w.2.1] at m
      refine ⟨m, ?_⟩
      have y := w.2.2 b (Nat.le_refl _) (by omega)
      rw [← r] at y
      exact y
    refine pc_rg (pc_if (fun c2 => pc_some ⟨fun w => ?_, fun _ => rfl⟩) (fun c2 => ?_))
    · exfalso
      have i := IN w
      have y := p3.2 ((cok_iff i.1 BY).2 i.2)
      omega
    · have q1 : q23.1 = 1 := p1.resolve_left c2
      have C := p3.1 q1
      obtain ⟨n1, n2⟩ := p4 q1
      have pos : (p : Int) + 2 ≤ CNx g e p := by
        unfold CNx
        split
        · omega
        · rename_i z
          have := (C.2 z).2.1
          omega
      obtain ⟨p', hp'⟩ : ∃ p' : Nat, CNx g e p = (p' : Int) := ⟨(CNx g e p).toNat, by omega⟩
      have step := ih (b + 1) p' q23.2 (by omega) (by rw [F.1 1420 (by decide)]; exact h20) p2 (by rw [n1, hp']) (fun hle => by
        have i := cn_in C (by omega)
        have r := hr (by have := nxp_lt g p; omega)
        have G := (cok_iff i BY).1 C
        have q := cn_eq i (fun t => by have := (G t).2.1; omega)
        refine ⟨by rw [PO_s, ← r.1]; omega, fun x hx => ?_⟩
        by_cases z : x = b
        · rw [z, ← r.1]; exact cbl_crb i n2
        · exact CRB_k (r.2 x (by omega)) z p5) W.1 (by have := W.2.2.1; omega) (fun x x1 x2 => by
          have w := p5.1 x (by omega)
          rw [w.1, w.2.1, w.2.2.2]; exact hz0 x (by omega) x2)
      rw [show ((b : Int) + 1) = ((b + 1 : Nat) : Int) by omega]
      have EQ : IMC g e N E b p ↔ IMC g e N E (b + 1) p' := by
        constructor
        · intro w
          have i := IN w
          have q := cn_eq i.1 (fun t => by have := (i.2 t).2.1; omega)
          exact ⟨by omega, w.2.1, fun x x1 x2 => w.2.2 x (by omega) x2⟩
        · intro w
          have w1 := w.1
          have i := cn_in C (by omega)
          have l := nxp_lt g p
          have r := hr (by omega)
          refine ⟨by omega, w.2.1, fun x x1 x2 => ?_⟩
          by_cases z : x = b
          · rw [z, ← r.1]; exact (cok_iff i BY).1 C
          · exact w.2.2 x (by omega) x2
      refine pc_mono step (fun q hq => ⟨fun w => ?_, fun w => hq.2 (fun v => w (EQ.2 v))⟩)
      obtain ⟨X, q', x1, x2, x3, x4, x5, x6⟩ := hq.1 (EQ.1 w)
      exact ⟨X, q', x1, x2, ⟨fun k hk => (x3.1 k hk).trans (F.2.1 k (by simp; omega)), fun k hk => (x3.2 k hk).trans (F.1 k (by simp; omega))⟩, x4, x5, x6⟩
