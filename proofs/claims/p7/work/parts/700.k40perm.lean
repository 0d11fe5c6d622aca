/-! ===== blocks under other names ===== -/
def PNM (π σ : Nat → Nat) (N : Int) : Prop := ∀ b, b < 48 → (π b < 48 ∧ σ b < 48) ∧ (σ (π b) = b ∧ π (σ b) = b) ∧ ((π b : Int) < N ↔ (b : Int) < N)
set_option maxHeartbeats 250000 in theorem PB_i {π σ : Nat → Nat} {N : Int} (h : PNM π σ N) {a b : Nat} (ha : a < 48) (hb : b < 48) (e : π a = π b) : a = b := by
  rw [← (h a ha).2.1.1, ← (h b hb).2.1.1, e]
set_option maxHeartbeats 250000 in theorem PB_id (N : Int) : PNM (fun b => b) (fun b => b) N := fun b hb => ⟨⟨hb, hb⟩, ⟨rfl, rfl⟩, Iff.rfl⟩
set_option maxHeartbeats 250000 in theorem PB_s {π σ : Nat → Nat} {N : Int} (h : PNM π σ N) {b : Nat} (hb : b < 48) : (σ b : Int) < N ↔ (b : Int) < N := by
  have := (h (σ b) (h b hb).1.2).2.2
  rw [(h b hb).2.1.2] at this
  exact this.symm
def tw (a b x : Nat) : Nat := if x = a then b else if x = b then a else x
set_option maxHeartbeats 250000 in theorem tw_a (a b : Nat) : tw a b a = b := if_pos rfl
set_option maxHeartbeats 250000 in theorem tw_b (a b : Nat) : tw a b b = a := by
  unfold tw
  by_cases h : b = a
  · rw [if_pos h, h]
  · rw [if_neg h, if_pos rfl]
set_option maxHeartbeats 250000 in theorem tw_n {a b x : Nat} (h1 : x ≠ a) (h2 : x ≠ b) : tw a b x = x := by
  unfold tw
  rw [if_neg h1, if_neg h2]
set_option maxHeartbeats 250000 in theorem tw_tw (a b x : Nat) : tw a b (tw a b x) = x := by
  by_cases h1 : x = a
  · rw [h1, tw_a, tw_b]
  · by_cases h2 : x = b
    · rw [h2, tw_b, tw_a]
    · rw [tw_n h1 h2, tw_n h1 h2]
set_option maxHeartbeats 250000 in theorem tw_lt {a b x : Nat} (ha : a < 48) (hb : b < 48) (hx : x < 48) : tw a b x < 48 := by
  unfold tw
  split
  · exact hb
  · split
    · exact ha
    · exact hx
/- two that lie idle change names -/
set_option maxHeartbeats 250000 in theorem PB_tw {π σ : Nat → Nat} {N : Int} (h : PNM π σ N) {a b : Nat} (ha : a < 48) (hb : b < 48) (hn : (a : Int) < N ↔ (b : Int) < N) : PNM (fun x => tw a b (π x)) (fun x => σ (tw a b x)) N := fun x hx => by
  have q := h x hx
  have hw := tw_lt ha hb hx
  have q2 := h (tw a b x) hw
  refine ⟨⟨tw_lt ha hb q.1.1, q2.1.2⟩, ⟨?_, ?_⟩, ?_⟩
  · show σ (tw a b (tw a b (π x))) = x
    rw [tw_tw]; exact q.2.1.1
  · show tw a b (π (σ (tw a b x))) = x
    rw [q2.2.1.2, tw_tw]
  · show ((tw a b (π x) : Nat) : Int) < N ↔ (x : Int) < N
    rw [← q.2.2]
    by_cases h1 : π x = a
    · rw [h1, tw_a]; exact hn.symm
    · by_cases h2 : π x = b
      · rw [h2, tw_b]; exact hn
      · rw [tw_n h1 h2]
set_option maxHeartbeats 250000 in theorem sm_pick {n i : Nat} {f : Nat → Int} (hi : i < n) : sm n (fun q => if q = i then f q else 0) = f i := by
  have h := sm_one (f := fun _ => 0) (g := fun q => if q = i then f q else 0) hi (fun j _ hn => if_neg hn)
  rw [sm_0 (fun _ _ => rfl), if_pos rfl] at h
  omega
/- a sum under other names -/
set_option maxHeartbeats 250000 in theorem sm_pm {π σ : Nat → Nat} {N : Int} (h : PNM π σ N) (f : Nat → Int) : sm 48 f = sm 48 (fun p => f (π p)) := by
  have a : sm 48 (fun p => sm 48 (fun q => if q = π p then f q else 0)) = sm 48 (fun p => f (π p)) := sm_c (fun p hp => sm_pick (h p hp).1.1)
  have b : sm 48 (fun q => sm 48 (fun p => if q = π p then f q else 0)) = sm 48 f := sm_c (fun q hq => by
    rw [sm_c (n := 48) (g := fun p => if p = σ q then f q else 0) (fun p hp => by
      show (if q = π p then f q else 0) = if p = σ q then f q else 0
      by_cases e : q = π p
      · rw [if_pos e, if_pos (by rw [e]; exact (h p hp).2.1.1.symm)]
      · rw [if_neg e, if_neg (fun z => e (by rw [z]; exact (h q hq).2.1.2.symm))])]
    exact sm_pick (f := fun _ => f q) (h q hq).1.2)
  rw [← b, ← a, sm_sw]
/-! ===== a block on both sides ===== -/
def BR1 (π : Nat → Nat) (h1 h2 : SH) (k1 k2 : Nat → Nat → Int) (b : Nat) : Prop := h1.1 (π b) = h2.1 b ∧ h1.2.1 (π b) = h2.2.1 b ∧ ∀ k : Nat, (k : Int) < h2.2.1 b → k1 (π b) k = k2 b k ∧ (0 < h2.1 b → h1.2.2 (π b) k = (π (h2.2.2 b k).toNat : Int)) ∧ (h2.1 b ≤ 0 → h1.2.2 (π b) k = h2.2.2 b k)
/- a root on both sides: 254 empty, 255 none -/
def rtr (π : Nat → Nat) (r1 r2 : Int) : Prop := (r2 = 254 ∧ r1 = -1) ∨ (r2 = 255 ∧ r1 = -2) ∨ (0 ≤ r2 ∧ r2 < 48 ∧ r1 = (π r2.toNat : Int))
set_option maxHeartbeats 250000 in theorem rtr_e {π : Nat → Nat} {r1 r2 : Int} (h : rtr π r1 r2) : (r1 = -2 ↔ r2 = 255) ∧ (r1 = -1 ↔ r2 = 254) ∧ (0 ≤ r1 ↔ r2 < 254) := by
  rcases h with ⟨a, b⟩ | ⟨a, b⟩ | ⟨a, b, c⟩ <;> omega
/- how often a block's entries name another, under other names -/
set_option maxHeartbeats 250000 in theorem en_pm {π σ : Nat → Nat} {N : Int} {h1 h2 : SH} {k1 k2 : Nat → Nat → Int} {b x : Nat} (h : PNM π σ N) (hN : N ≤ 48) (hb : BR1 π h1 h2 k1 k2 b) (hn : Nd h2 N b) (hx : x < 48) : en h1 (π b) (π x : Int) = en h2 b (x : Int) := by
  have h6 := hn.2.1
  rw [en_sm (by rw [hb.2.1]; exact h6), en_sm h6, hb.1, hb.2.1]
  by_cases e : 0 < h2.1 b
  · rw [if_pos e, if_pos e]
    refine sm_c (fun k hk => ?_)
    have hk' : (k : Int) < h2.2.1 b := by omega
    have c := (hb.2.2 k hk').2.1 e
    have r := (hn.2.2 e k hk').1
    by_cases z : h2.2.2 b k = (x : Int)
    · rw [if_pos z, c, z, if_pos (by rw [Int.toNat_natCast])]
    · rw [if_neg z, c, if_neg (fun w => z ?_)]
      have w2 : π (h2.2.2 b k).toNat = π x := by omega
      have := PB_i h (by omega) hx w2
      omega
  · rw [if_neg e, if_neg e]
set_option maxHeartbeats 250000 in theorem rr_pm {π σ : Nat → Nat} {N : Int} {r1 r2 : Nat → Int} {x : Nat} (h : PNM π σ N) (hr : ∀ v, v < 8 → rtr π (r1 v) (r2 v)) (hx : x < 48) : rr r1 (π x : Int) = rr r2 (x : Int) := by
  unfold rr
  refine sm_c (fun v hv => ?_)
  rcases hr v hv with ⟨a, b⟩ | ⟨a, b⟩ | ⟨a, b, c⟩
  · rw [if_neg (by omega), if_neg (by omega)]
  · rw [if_neg (by omega), if_neg (by omega)]
  · by_cases z : r2 v = (x : Int)
    · rw [if_pos z, c, z, if_pos (by rw [Int.toNat_natCast])]
    · rw [if_neg z, c, if_neg (fun w => z ?_)]
      have w2 : π (r2 v).toNat = π x := by omega
      have := PB_i h (by omega) hx w2
      omega
/- counts are what refers: they are alike where blocks and roots are -/
set_option maxHeartbeats 250000 in theorem cnt_det {π σ : Nat → Nat} {N : Int} {h1 h2 : SH} {k1 k2 : Nat → Nat → Int} {c1 c2 r1 r2 E1 E2 : Nat → Int} {L : Nat → Prop} (h : PNM π σ N) (hN : N ≤ 48)
    (hL : ∀ b, b < 48 → L b → BR1 π h1 h2 k1 k2 b ∧ Nd h2 N b ∧ h2.1 b ≤ 48)
    (n1 : ∀ b, b < 48 → 0 ≤ c1 b) (n2 : ∀ b, b < 48 → 0 ≤ c2 b) (l1 : ∀ b, b < 48 → 0 < c1 (π b) → L b) (l2 : ∀ b, b < 48 → 0 < c2 b → L b)
    (d1 : ∀ x, x < 48 → df h1 c1 r1 (π x) = E1 x) (d2 : ∀ x, x < 48 → df h2 c2 r2 x = E2 x) (hE : ∀ x, x < 48 → E1 x = E2 x) (hr : ∀ v, v < 8 → rtr π (r1 v) (r2 v)) : ∀ b, b < 48 → c1 (π b) = c2 b := by
  have main : ∀ n : Nat, ∀ b, b < 48 → L b → (49 : Int) - h2.1 b ≤ (n : Int) → c1 (π b) = c2 b := by
    intro n
    induction n with
    | zero => intro b hb lb hl; have := (hL b hb lb).2.2; omega
    | succ n ih =>
      intro b hb lb hl
      have a1 := d1 b hb
      have a2 := d2 b hb
      unfold df rf at a1 a2
      rw [rr_pm h hr hb] at a1
      have e : sm 48 (fun p => if 0 < c1 p then en h1 p ((π b : Nat) : Int) else 0) = sm 48 (fun p => if 0 < c2 p then en h2 p (b : Int) else 0) := by
        rw [sm_pm h]
        refine sm_c (fun p hp => ?_)
        show (if 0 < c1 (π p) then en h1 (π p) (π b : Int) else 0) = if 0 < c2 p then en h2 p (b : Int) else 0
        by_cases lp : L p
        · obtain ⟨bp, np, _⟩ := hL p hp lp
          rw [en_pm h hN bp np hb]
          by_cases z : en h2 p (b : Int) = 0
          · rw [z]; split <;> split <;> rfl
          · have q : 0 < en h2 p (b : Int) := by have := en_nn h2 p (b : Int); omega
            have up : 0 < h2.1 p ∧ ∃ k : Nat, (k : Int) < h2.2.1 p ∧ h2.2.2 p k = (b : Int) := by
              have q' := q
              unfold en enf at q'
              by_cases w : 0 < h2.1 p
              · rw [if_pos w] at q'
                obtain ⟨k, _, hk2⟩ := sm_ex q'
                refine ⟨w, k, ?_⟩
                by_cases v : (0 : Int) ≤ (k : Int) ∧ (k : Int) < h2.2.1 p ∧ h2.2.2 p k = (b : Int)
                · exact ⟨v.2.1, v.2.2⟩
                · rw [if_neg v] at hk2; omega
              · rw [if_neg w] at q'; omega
            obtain ⟨w, k, hk, hv⟩ := up
            have lv := (np.2.2 w k hk).2
            rw [hv, Int.toNat_natCast] at lv
            rw [ih p hp lp (by omega)]
        · have z1 : ¬ 0 < c1 (π p) := fun z => lp (l1 p hp z)
          have z2 : ¬ 0 < c2 p := fun z => lp (l2 p hp z)
          rw [if_neg z1, if_neg z2]
      have := hE b hb
      omega
  intro b hb
  by_cases lb : L b
  · have := (hL b hb lb).2.1.1
    exact main 49 b hb lb (by omega)
  · have z1 : ¬ 0 < c1 (π b) := fun z => lb (l1 b hb z)
    have z2 : ¬ 0 < c2 b := fun z => lb (l2 b hb z)
    have a := n1 (π b) (h b hb).1.1
    have b' := n2 b hb
    omega
/-! ===== a bit for each block ===== -/
def bW (w : Int) (x : Nat) : Prop := andL (ushrLZ w (x : Int)) 1 ≠ 0
set_option maxHeartbeats 250000 in theorem bs_sh : ∀ x : Nat, x < 64 → ((((i2 (x : Int)).toInt64.toUInt64 &&& Int64.toUInt64 63).toBitVec % 64#64).toNat = x) := by decide +kernel
set_option maxHeartbeats 250000 in theorem bs_one : ∀ c : Nat, c < 48 → (shlL (i8 1) (i2 (c : Int))).toBitVec.toNat = 2 ^ c := by decide +kernel
set_option maxHeartbeats 250000 in theorem bW_t {w : Int} {x : Nat} (hx : x < 48) : bW w x ↔ Nat.testBit (i8 w).toBitVec.toNat x = true := by
  unfold bW andL
  have a : i8 (ushrLZ w (x : Int)) = ushrL (i8 w) (i2 (x : Int)) := Int64.ofInt_toInt _
  rw [a]
  have b : (ushrL (i8 w) (i2 (x : Int)) &&& i8 1).toInt = ((i8 w).toBitVec >>> (((i2 (x : Int)).toInt64.toUInt64 &&& Int64.toUInt64 63).toBitVec % 64#64) &&& 1#64).toInt := rfl
  rw [b]
  generalize hz : ((i8 w).toBitVec >>> (((i2 (x : Int)).toInt64.toUInt64 &&& Int64.toUInt64 63).toBitVec % 64#64) &&& 1#64) = z
  have n : z.toNat = (i8 w).toBitVec.toNat >>> x &&& 1 := by
    rw [← hz, BitVec.toNat_and, BitVec.ushiftRight_eq', BitVec.toNat_ushiftRight, bs_sh x (by omega)]
    rfl
  have m : (i8 w).toBitVec.toNat >>> x &&& 1 = (i8 w).toBitVec.toNat >>> x % 2 := Nat.and_one_is_mod _
  have t : Nat.testBit (i8 w).toBitVec.toNat x = (1 &&& ((i8 w).toBitVec.toNat >>> x) != 0) := rfl
  rw [t, Nat.and_comm 1, m]
  have c := BitVec.toInt_eq_toNat_cond z
  generalize (i8 w).toBitVec.toNat >>> x = q at n m ⊢
  have r : z.toInt = (z.toNat : Int) := by
    rw [c, if_pos (by omega)]
  rw [r, n, m]
  constructor
  · intro h
    have : q % 2 ≠ 0 := by omega
    exact bne_iff_ne.mpr this
  · intro h
    have := bne_iff_ne.mp h
    omega
set_option maxHeartbeats 250000 in theorem bW_or {w : Int} {c x : Nat} (hc : c < 48) (hx : x < 48) : bW (orL w (shlLZ 1 (c : Int))) x ↔ (x = c ∨ bW w x) := by
  rw [bW_t hx, bW_t hx]
  have a : i8 (orL w (shlLZ 1 (c : Int))) = i8 w ||| i8 (shlLZ 1 (c : Int)) := Int64.ofInt_toInt _
  have b : i8 (shlLZ 1 (c : Int)) = shlL (i8 1) (i2 (c : Int)) := Int64.ofInt_toInt _
  rw [a, b]
  have d : (i8 w ||| shlL (i8 1) (i2 (c : Int))).toBitVec = (i8 w).toBitVec ||| (shlL (i8 1) (i2 (c : Int))).toBitVec := rfl
  rw [d, BitVec.toNat_or, bs_one c hc, Nat.testBit_or, Nat.testBit_two_pow, Bool.or_eq_true, decide_eq_true_iff]
  constructor
  · rintro (h | h)
    · exact Or.inr h
    · exact Or.inl h.symm
  · rintro (h | h)
    · exact Or.inr h.symm
    · exact Or.inl h
set_option maxHeartbeats 250000 in theorem bW_0 {x : Nat} (hx : x < 48) : ¬ bW 0 x := by
  rw [bW_t hx]
  have : (i8 0).toBitVec.toNat = 0 := by decide +kernel
  rw [this, Nat.zero_testBit]
  exact Bool.false_ne_true
/-! ===== both sides' blocks, by rows ===== -/
def hB (s : MS) (b : Nat) : SH := (gA s (b + 2), gA s (b + 3), fun p k => gA s (b + 5) (6 * p + k))
def kB (s : MS) (b : Nat) : Nat → Nat → Int := fun p k => gA s (b + 4) (6 * p + k)
def hR (f : Nat → Int) : SH := (fun p => f (19 + 16 * p), fun p => f (20 + 16 * p), fun p k => if k < 6 then f (27 + 16 * p + k) else 0)
def kR (f : Nat → Int) : Nat → Nat → Int := fun p k => if k < 6 then f (21 + 16 * p + k) else 0
def cR (f : Nat → Int) : Nat → Int := fun p => f (17 + 16 * p)
def vR (f : Nat → Int) : Nat → Int := fun p => f (18 + 16 * p)
set_option maxHeartbeats 250000 in theorem hB_54 (s : MS) : hB s 54 = hN s := rfl
set_option maxHeartbeats 250000 in theorem kB_54 (s : MS) : kB s 54 = kN s := rfl
set_option maxHeartbeats 250000 in theorem hR_M (t : MS) : hR (gA t 49) = hM t := rfl
set_option maxHeartbeats 250000 in theorem kR_M (t : MS) : kR (gA t 49) = kM t := rfl
set_option maxHeartbeats 250000 in theorem cR_M (t : MS) : cR (gA t 49) = cM t := rfl
set_option maxHeartbeats 250000 in theorem vR_M (t : MS) : vR (gA t 49) = vM t := rfl
/- one store on both sides, the class's rows from b on -/
def TRf (π σ : Nat → Nat) (N : Int) (s : MS) (b : Nat) (f : Nat → Int) : Prop := PNM π σ N ∧ (∀ x, x < 48 → gA s b (π x) = cR f x ∧ gA s (b + 1) (π x) = vR f x) ∧ (∀ x, x < 48 → 0 < cR f x ∨ 0 < vR f x → BR1 π (hB s b) (hR f) (kB s b) (kR f) x) ∧ (∀ v, v < 8 → rtr π (gA s (b + 6) v) (f v) ∧ rtr π (gA s (b + 7) v) (f (8 + v)))
set_option maxHeartbeats 250000 in theorem TRf_r {π σ : Nat → Nat} {N : Int} {s : MS} {b : Nat} {f g : Nat → Int} (H : TRf π σ N s b f) (e : ∀ k, k < 785 → g k = f k) : TRf π σ N s b g := by
  obtain ⟨p, c, l, r⟩ := H
  refine ⟨p, fun x hx => ?_, fun x hx q => ?_, fun v hv => ?_⟩
  · have := c x hx
    show gA s b (π x) = g (17 + 16 * x) ∧ gA s (b + 1) (π x) = g (18 + 16 * x)
    rw [e _ (by omega), e _ (by omega)]
    exact this
  · have q' : 0 < cR f x ∨ 0 < vR f x := by
      show 0 < f (17 + 16 * x) ∨ 0 < f (18 + 16 * x)
      rw [← e (17 + 16 * x) (by omega), ← e (18 + 16 * x) (by omega)]
      exact q
    have B := l x hx q'
    unfold BR1 at B ⊢
    have e1 : (hR g).1 x = (hR f).1 x := e _ (by omega)
    have e2 : (hR g).2.1 x = (hR f).2.1 x := e _ (by omega)
    have e3 : ∀ k, (hR g).2.2 x k = (hR f).2.2 x k := fun k => by
      show (if k < 6 then g (27 + 16 * x + k) else 0) = if k < 6 then f (27 + 16 * x + k) else 0
      by_cases z : k < 6
      · rw [if_pos z, if_pos z]; exact e _ (by omega)
      · rw [if_neg z, if_neg z]
    have e4 : ∀ k, kR g x k = kR f x k := fun k => by
      show (if k < 6 then g (21 + 16 * x + k) else 0) = if k < 6 then f (21 + 16 * x + k) else 0
      by_cases z : k < 6
      · rw [if_pos z, if_pos z]; exact e _ (by omega)
      · rw [if_neg z, if_neg z]
    rw [e1, e2]
    exact ⟨B.1, B.2.1, fun k hk => by rw [e3, e4]; exact B.2.2 k hk⟩
  · rw [e _ (by omega), e _ (by omega)]; exact r v hv
/- rows copied -/
set_option maxHeartbeats 250000 in theorem TRf_c {π σ : Nat → Nat} {N : Int} {s o : MS} {a b i j : Nat} {f : Nat → Int} (H : TRf π σ N s a f) (h : BC s o a b i j) (z : ∀ x, x < 48 → 0 < cR f x ∨ 0 < vR f x → (hR f).2.1 x ≤ 6) : TRf π σ N o b f := by
  obtain ⟨p, c, l, r⟩ := H
  refine ⟨p, fun x hx => ?_, fun x hx q => ?_, fun v hv => ?_⟩
  · have := h.1 (π x) (p x hx).1.1
    rw [this.1, this.2.1]; exact c x hx
  · have B := l x hx q
    have px := (p x hx).1.1
    have zz := z x hx q
    have hh := h.1 (π x) px
    refine ⟨?_, ?_, fun k hk => ?_⟩
    · show gA o (b + 2) (π x) = _
      rw [hh.2.2.1]; exact B.1
    · show gA o (b + 3) (π x) = _
      rw [hh.2.2.2]; exact B.2.1
    · have h2 := h.2.1 (6 * π x + k) (by omega)
      have B2 := B.2.2 k hk
      show gA o (b + 4) (6 * π x + k) = _ ∧ (_ → gA o (b + 5) (6 * π x + k) = _) ∧ (_ → gA o (b + 5) (6 * π x + k) = _)
      rw [h2.1, h2.2]; exact B2
  · have := h.2.2.1 v hv
    rw [this.1, this.2]; exact r v hv
/- the marks: what the act took or changed -/
def WR (π : Nat → Nat) (s t : MS) : Prop := ∀ x, x < 48 → 0 < cM t x → (bW (gL s 1062) (π x) ↔ gA t 54 x ≠ 0)
/- both sides now -/
def SIM (π σ : Nat → Nat) (s t : MS) : Prop := TRf π σ (gI s 1060) s 54 (gA t 49) ∧ gI s 1060 = gA t 39 5 ∧ WR π s t
/-! ===== a block is TAKEN on both sides ===== -/
set_option maxHeartbeats 250000 in theorem s_isBk {p : Int} {s : MS} : pc (m_x8_isBlock p s) (fun r => (r = 1 ∧ 0 ≤ p ∧ p < gI s 1060) ∨ (r = 0 ∧ ¬ (0 ≤ p ∧ p < gI s 1060))) := by
  unfold m_x8_isBlock m_x8_isBlock_J16 m_x8_isBlock_J17
  exact pc_rg (pc_if (fun c => pc_bo (pc_some (Or.inr ⟨rfl, by omega⟩))) (fun c => pc_rg (pc_rg (pc_if (fun c2 => pc_bo (pc_some (Or.inr ⟨rfl, by omega⟩))) (fun c2 => pc_bo (pc_some (Or.inl ⟨rfl, by omega, by omega⟩)))))))
set_option maxHeartbeats 250000 in theorem s_isFree {p : Int} {s : MS} : pc (m_x8_isFree p s) (fun r => (r = 1 ∧ (0 ≤ p ∧ p < gI s 1060) ∧ gA s 54 p.toNat = 0 ∧ gA s 55 p.toNat = 0) ∨ (r = 0 ∧ ¬ ((0 ≤ p ∧ p < gI s 1060) ∧ gA s 54 p.toNat = 0 ∧ gA s 55 p.toNat = 0))) := by
  unfold m_x8_isFree m_x8_isFree_J30 m_x8_isFree_J31
  refine pc_bq s_isBk (fun r4 h4 => pc_rg (pc_if (fun c => pc_bo (pc_some (Or.inr ⟨rfl, fun q => ?_⟩))) (fun c => pc_rdI (fun _ => pc_rg (pc_if (fun c2 => pc_rdI (fun _ => pc_rg (pc_if (fun c3 => pc_bo (pc_some (Or.inl ⟨rfl, ?_, c2, c3⟩))) (fun c3 => pc_bo (pc_some (Or.inr ⟨rfl, fun q => c3 q.2.2⟩)))))) (fun c2 => pc_bo (pc_some (Or.inr ⟨rfl, fun q => c2 q.2.1⟩))))))))
  · rcases h4 with ⟨a, _⟩ | ⟨_, b⟩
    · omega
    · exact b q.1
  · rcases h4 with ⟨_, b⟩ | ⟨a, _⟩
    · exact b
    · omega
def NFc (s : MS) : Prop := ∀ b : Nat, (b : Int) < gI s 1060 → ¬ (gA s 54 b = 0 ∧ gA s 55 b = 0)
set_option maxHeartbeats 250000 in theorem s_take {p0 p1 : Int} {s : MS} : pc (m_x1_take p0 p1 s) (fun q => (q.1 = -1 ∧ NFc s) ∨ (q.1 ≠ -1 ∧ gL q.2 1062 = orL (gL s 1062) (shlLZ 1 q.1))) := by
  have L : ∀ (n : Nat) (x3 x4 x5 x6 x7 : Int) (S : MS), 0 ≤ x7 → (gA S 54 = gA s 54 ∧ gA S 55 = gA s 55 ∧ gI S 1060 = gI s 1060 ∧ gL S 1062 = gL s 1062) → (x4 = -1 ∨ 0 ≤ x4) → (x4 = -1 → ∀ b : Nat, (b : Int) < x7 → (b : Int) < gI s 1060 → ¬ (gA s 54 b = 0 ∧ gA s 55 b = 0)) → pc (m_x1_take_L44 n x3 x4 x5 x6 x7 S) (fun q => (q.1 = -1 ∧ NFc s) ∨ (q.1 ≠ -1 ∧ gL q.2 1062 = orL (gL s 1062) (shlLZ 1 q.1))) := by
    refine fr_ind (fun _ _ _ _ _ _ _ _ _ _ => pc_none) (fun n ih x3 x4 x5 x6 x7 S h7 hS h4 hN => ?_)
    show pc (m_x1_take_b44 (m_x1_take_L44 n) x3 x4 x5 x6 x7 S) _
    unfold m_x1_take_b44
    refine pc_rg (pc_rg (pc_if (fun c => pc_rg (pc_if (fun c4 => ?_) (fun c4 => ?_))) (fun c => pc_bq s_isFree (fun r46 h46 => pc_rg (pc_if (fun c0 => ?_) (fun c0 => pc_stn (fun s49 e49 => ?_)))))))
    · unfold m_x1_take_J189
      exact pc_some (Or.inl ⟨c4, fun b hb => hN c4 b (by omega) hb⟩)
    · refine pc_inb (pc_stn (fun s38 e38 => pc_inb (pc_stn (fun s40 e40 => pc_inb (pc_stn (fun s42 e42 => pc_bn (fun s44 e44 => ?_)))))))
      unfold m_x1_take_J189
      refine pc_some (Or.inr ⟨c4, ?_⟩)
      have g : pc (m_x8_mark x4 s42) (fun o => gL o 1062 = orL (gL s42 1062) (shlLZ 1 x4)) := by
        unfold m_x8_mark
        exact pc_stn (fun s1 e1 => pc_some (q_LL e1))
      rw [g s44 e44, (q_Al e42 : gL s42 1062 = gL s40 1062), (q_Al e40 : gL s40 1062 = gL s38 1062), (q_Al e38 : gL s38 1062 = gL S 1062), hS.2.2.2]
    · unfold m_x1_take_J140
      refine ih x3 x4 x5 x6 (x7 + 1) S (by omega) hS h4 (fun q b hb hbN w => ?_)
      by_cases z : (b : Int) < x7
      · exact hN q b z hbN w
      · have e : x7.toNat = b := by omega
        rcases h46 with ⟨a, _⟩ | ⟨_, d⟩
        · omega
        · exact d ⟨⟨h7, by rw [hS.2.2.1]; omega⟩, by rw [e, hS.1]; exact w.1, by rw [e, hS.2.1]; exact w.2⟩
    · have J119 : ∀ (v : Int) (S' : MS), (gA S' 54 = gA s 54 ∧ gA S' 55 = gA s 55 ∧ gI S' 1060 = gI s 1060 ∧ gL S' 1062 = gL s 1062) → pc (m_x1_take_J119 (m_x1_take_L44 n) x3 x4 x5 x6 x7 v S') (fun q => (q.1 = -1 ∧ NFc s) ∨ (q.1 ≠ -1 ∧ gL q.2 1062 = orL (gL s 1062) (shlLZ 1 q.1))) := fun v S' hS' => by
        unfold m_x1_take_J119 m_x1_take_J133 m_x1_take_J140
        exact pc_rg (pc_if (fun _ => ih _ _ _ _ _ S' (by omega) hS' (Or.inr h7) (fun q => absurd q (by omega))) (fun c4 => pc_rg (pc_rg (pc_if (fun _ => ih _ _ _ _ _ S' (by omega) hS' h4 (fun q => absurd q c4)) (fun _ => ih _ _ _ _ _ S' (by omega) hS' (Or.inr h7) (fun q => absurd q (by omega)))))))
      have hS49 : gA s49 54 = gA s 54 ∧ gA s49 55 = gA s 55 ∧ gI s49 1060 = gI s 1060 ∧ gL s49 1062 = gL s 1062 := ⟨(q_Ia e49).trans hS.1, (q_Ia e49).trans hS.2.1, (q_Ii e49 (by decide)).trans hS.2.2.1, (q_Il e49).trans hS.2.2.2⟩
      refine pc_rg (pc_if (fun _ => J119 _ s49 hS49) (fun _ => pc_rdI (fun _ => pc_rdI (fun _ => pc_bn (fun q56 e56 => J119 _ q56.2 ?_)))))
      have F : F_x3_value s49 q56.2 := fr_x3_value e56
      exact ⟨(F.2.1 54 (by decide)).trans hS49.1, (F.2.1 55 (by decide)).trans hS49.2.1, (F.1 1060 (by decide)).trans hS49.2.2.1, (F.2.2.1 1062 (by decide)).trans hS49.2.2.2⟩
  unfold m_x1_take
  have J23 : ∀ a b : Int, pc (m_x1_take_J23 p0 p1 (-1) a b s) (fun q => (q.1 = -1 ∧ NFc s) ∨ (q.1 ≠ -1 ∧ gL q.2 1062 = orL (gL s 1062) (shlLZ 1 q.1))) := fun a b => by
    unfold m_x1_take_J23
    exact pc_stn (fun s63 e63 => pc_stn (fun s64 e64 => L FU _ _ _ _ _ s64 (by omega) ⟨(q_Ia e64).trans (q_Ia e63), (q_Ia e64).trans (q_Ia e63), (q_Ii e64 (by decide)).trans (q_Ii e63 (by decide)), (q_Il e64).trans (q_Il e63)⟩ (Or.inl rfl) (fun _ b hb => absurd hb (by omega))))
  exact pc_rdI (fun _ => pc_rg (pc_if (fun _ => J23 _ _) (fun _ => J23 _ _)))
/-! the reference -/
set_option maxHeartbeats 250000 in theorem m_cnt {p : Int} {t : MS} (hp : 0 ≤ p) : pc (m_x12_countOf p t) (fun r => r = cM t p.toNat) := by
  unfold m_x12_countOf
  exact pc_rdI (fun _ => pc_some (by show gA t 49 (17 + 16 * p).toNat = gA t 49 (17 + 16 * p.toNat); rw [show (17 + 16 * p).toNat = 17 + 16 * p.toNat by omega]))
set_option maxHeartbeats 250000 in theorem m_sav {p : Int} {t : MS} (hp : 0 ≤ p) : pc (m_x12_savedOf p t) (fun r => r = vM t p.toNat) := by
  unfold m_x12_savedOf
  exact pc_rdI (fun _ => pc_some (by show gA t 49 (17 + 16 * p + 1).toNat = gA t 49 (18 + 16 * p.toNat); rw [show (17 + 16 * p + 1).toNat = 18 + 16 * p.toNat by omega]))
set_option maxHeartbeats 250000 in theorem m_used {p : Int} {t : MS} (hp : 0 ≤ p) : pc (m_x12_isUsed p t) (fun r => (r = 1 ∧ 0 < cM t p.toNat) ∨ (r = 0 ∧ cM t p.toNat ≤ 0)) := by
  unfold m_x12_isUsed m_x12_isUsed_J13
  exact pc_bq (m_cnt hp) (fun r4 h4 => pc_rg (pc_if (fun c => pc_bo (pc_some (Or.inr ⟨rfl, by omega⟩))) (fun c => pc_bo (pc_some (Or.inl ⟨rfl, by omega⟩)))))
set_option maxHeartbeats 250000 in theorem m_there {p : Int} {t : MS} (hp : 0 ≤ p) : pc (m_x12_isThere p t) (fun r => (r = 1 ∧ (0 < cM t p.toNat ∨ 0 < vM t p.toNat)) ∨ (r = 0 ∧ ¬ (0 < cM t p.toNat ∨ 0 < vM t p.toNat))) := by
  unfold m_x12_isThere m_x12_isThere_J16 m_x12_isThere_J21
  refine pc_bq (m_used hp) (fun r4 h4 => pc_rg (pc_if (fun c => pc_bq (m_sav hp) (fun r8 h8 => pc_rg (pc_if (fun c2 => pc_bo (pc_some (Or.inr ⟨rfl, ?_⟩))) (fun c2 => pc_bo (pc_some (Or.inl ⟨rfl, ?_⟩)))))) (fun c => pc_bo (pc_some (Or.inl ⟨rfl, ?_⟩)))))
  all_goals omega
def NFm (t : MS) : Prop := ∀ b : Nat, (b : Int) < gA t 39 5 → (0 < cM t b ∨ 0 < vM t b)
set_option maxHeartbeats 250000 in theorem m_taken {p0 p1 : Int} {t : MS} (h0 : gI t 55 = 0) : pc (m_x12_taken p0 p1 t) (fun q => (gI q.2 55 = 1 ∧ NFm t) ∨ (gI q.2 55 = 0 ∧ gA q.2 54 = upZ (gA t 54) q.1.toNat 1)) := by
  have L126 : ∀ (n : Nat) (x1 x2 x3 x4 : Int) (S : MS), gI S 55 = 0 → gA S 54 = gA t 54 → pc (m_x12_taken_L126 n x1 x2 x3 x4 S) (fun q => gI q.2 55 = 0 ∧ gA q.2 54 = upZ (gA t 54) q.1.toNat 1) := by
    refine fr_ind (fun _ _ _ _ _ _ _ => pc_none) (fun n ih x1 x2 x3 x4 S h5 h4 => ?_)
    show pc (m_x12_taken_b126 (m_x12_taken_L126 n) x1 x2 x3 x4 S) _
    unfold m_x12_taken_b126
    refine pc_rg (pc_if (fun _ => pc_inb (pc_stn (fun s9 e9 => pc_inb (pc_stn (fun s11 e11 => pc_inb (pc_bo (pc_stn (fun s14 e14 => pc_some ⟨?_, ?_⟩)))))))) (fun _ => pc_inb (pc_stn (fun s16 e16 => ih _ _ _ _ s16 ((q_Ai e16).trans h5) ((q_Aa e16 (by decide)).trans h4)))))
    · exact (q_Ai e14).trans ((q_Ai e11).trans ((q_Ai e9).trans h5))
    · rw [(q_AA e14 : gA s14 54 = _), (q_Aa e11 (by decide) : gA s11 54 = gA s9 54), (q_Aa e9 (by decide) : gA s9 54 = gA S 54), h4]
  have J102 : ∀ (a b : Int) (S : MS), gI S 55 = 0 → gA S 54 = gA t 54 → (b = -1 → NFm t) → pc (m_x12_taken_J102 a b S) (fun q => (gI q.2 55 = 1 ∧ NFm t) ∨ (gI q.2 55 = 0 ∧ gA q.2 54 = upZ (gA t 54) q.1.toNat 1)) := fun a b S h5 h4 hN => by
    unfold m_x12_taken_J102
    exact pc_rg (pc_if (fun c => pc_stn (fun s22 e22 => pc_some (Or.inl ⟨q_II e22, hN c⟩))) (fun _ => pc_mono (L126 FU _ _ _ _ S h5 h4) (fun o ho => Or.inr ho)))
  have L : ∀ (n : Nat) (x23 x24 x25 z26 x27 : Int) (S : MS), 0 ≤ x27 → (gA S 49 = gA t 49 ∧ gA S 39 = gA t 39 ∧ gI S 55 = 0 ∧ gA S 54 = gA t 54) → (x25 = -1 ∨ 0 ≤ x25) → (x25 = -1 → ∀ b : Nat, (b : Int) < x27 → (b : Int) < gA t 39 5 → (0 < cM t b ∨ 0 < vM t b)) → pc (m_x12_taken_L8 n x23 x24 x25 z26 x27 S) (fun q => (gI q.2 55 = 1 ∧ NFm t) ∨ (gI q.2 55 = 0 ∧ gA q.2 54 = upZ (gA t 54) q.1.toNat 1)) := by
    refine fr_ind (fun _ _ _ _ _ _ _ _ _ _ => pc_none) (fun n ih x23 x24 x25 z26 x27 S h7 hS h4 hN => ?_)
    show pc (m_x12_taken_b8 (m_x12_taken_L8 n) x23 x24 x25 z26 x27 S) _
    have cS : cM S = cM t := by unfold cM; rw [hS.1]
    have vS : vM S = vM t := by unfold vM; rw [hS.1]
    have J71 : ∀ (z : Int) (S' : MS), (gA S' 49 = gA t 49 ∧ gA S' 39 = gA t 39 ∧ gI S' 55 = 0 ∧ gA S' 54 = gA t 54) → pc (m_x12_taken_J71 (m_x12_taken_L8 n) x23 x24 x25 z26 x27 z S') (fun q => (gI q.2 55 = 1 ∧ NFm t) ∨ (gI q.2 55 = 0 ∧ gA q.2 54 = upZ (gA t 54) q.1.toNat 1)) := fun z S' hS' => by
      unfold m_x12_taken_J71 m_x12_taken_J89 m_x12_taken_J96
      exact pc_rg (pc_if (fun _ => ih _ _ _ _ _ S' (by omega) hS' (Or.inr h7) (fun q => absurd q (by omega))) (fun c4 => pc_rgL (pc_rgL (pc_if (fun _ => ih _ _ _ _ _ S' (by omega) hS' (Or.inr h7) (fun q => absurd q (by omega))) (fun _ => ih _ _ _ _ _ S' (by omega) hS' h4 (fun q => absurd q c4))))))
    unfold m_x12_taken_b8 m_x12_blockMany
    refine pc_bq (Q := fun r => r = gA t 39 5) (pc_rdI (fun _ => pc_some (by show gA S 39 (Int.toNat 5) = gA t 39 5; rw [hS.2.1]; rfl))) (fun r53 h53 => pc_rg (pc_rg (pc_if (fun c => ?_) (fun c => pc_rg (pc_if (fun c5 => pc_bq (m_there h7) (fun r60 h60 => pc_rg (pc_if (fun c0 => pc_stn (fun s63 e63 => pc_stn (fun s64 e64 => pc_stn (fun s65 e65 => pc_bn (fun r67 _ => ?_))))) (fun c0 => ?_)))) (fun c5 => absurd hS.2.2.1 c5))))))
    · exact J102 _ _ S hS.2.2.1 hS.2.2.2 (fun q b hb => hN q b (by omega) hb)
    · have hS65 : gA s65 49 = gA t 49 ∧ gA s65 39 = gA t 39 ∧ gI s65 55 = 0 ∧ gA s65 54 = gA t 54 := ⟨(q_Ia e65).trans ((q_Ia e64).trans ((q_Ia e63).trans hS.1)), (q_Ia e65).trans ((q_Ia e64).trans ((q_Ia e63).trans hS.2.1)), (q_Ii e65 (by decide)).trans ((q_Ii e64 (by decide)).trans ((q_Ii e63 (by decide)).trans hS.2.2.1)), (q_Ia e65).trans ((q_Ia e64).trans ((q_Ia e63).trans hS.2.2.2))⟩
      refine pc_rg (pc_if (fun _ => pc_rg (J71 _ s65 hS65)) (fun _ => pc_bn (fun q73 e73 => J71 _ q73.2 ?_)))
      have F : F_x12_codesTell s65 q73.2 := fr_x12_codesTell e73
      exact ⟨(F.2.1 49 (by decide)).trans hS65.1, (F.2.1 39 (by decide)).trans hS65.2.1, (F.1 55 (by decide)).trans hS65.2.2.1, (F.2.1 54 (by decide)).trans hS65.2.2.2⟩
    · unfold m_x12_taken_J96
      refine ih _ _ _ _ _ S (by omega) hS h4 (fun q b hb hbN => ?_)
      by_cases z : (b : Int) < x27
      · exact hN q b z hbN
      · have e : x27.toNat = b := by omega
        rcases h60 with ⟨_, d⟩ | ⟨a, _⟩
        · rw [e, cS, vS] at d; exact d
        · omega
  unfold m_x12_taken
  exact L FU _ _ _ _ _ t (by omega) ⟨rfl, rfl, h0, rfl⟩ (Or.inl rfl) (fun _ b hb => absurd hb (by omega))
/-! ===== what is TAKEN gets a name on both sides ===== -/
def LV (t : MS) (x : Nat) : Prop := 0 < cM t x ∨ 0 < vM t x
/- who is named by one that stands stands, too -/
def KLV (t : MS) : Prop := (∀ b, b < 48 → 0 ≤ cM t b ∧ 0 ≤ vM t b) ∧ (∀ x, x < 48 → LV t x → (Nd (hM t) (gA t 39 5) x ∧ (hM t).1 x ≤ 48) ∧ (0 < (hM t).1 x → ∀ k : Nat, (k : Int) < (hM t).2.1 x → (0 ≤ (hM t).2.2 x k ∧ (hM t).2.2 x k < 48) ∧ LV t ((hM t).2.2 x k).toNat)) ∧ (∀ v, v < 16 → 0 ≤ gA t 49 v → gA t 49 v < 48 → LV t (gA t 49 v).toNat)
set_option maxHeartbeats 250000 in theorem KLV_of {t : MS} {D : Nat → Int} (T : TM t D (-1)) (hD : ∀ x, x < 48 → 0 ≤ D x) : KLV t := by
  have S := TG_ss T
  have z : ∀ x : Nat, x < 48 → (0 : Int) ≤ 0 := fun _ _ => Int.le_refl 0
  have hN := T.1.1
  refine ⟨fun b hb => ⟨(T.1.2.1 b hb).1, (T.1.2.2.1 b hb).1⟩, fun x hx hl => ?_, fun v hv h0 h1 => ?_⟩
  · rcases hl with hc | hc
    · refine ⟨⟨TG_nd T hx hc, Int.le_trans (TG_lev T hD hx hc).2 (by decide)⟩, fun hl k hk => ?_⟩
      have q := TG_kid T hD hx hc hl hk
      exact ⟨⟨q.1.1, by omega⟩, Or.inl q.2.2⟩
    · refine ⟨⟨TG_nd S hx hc, Int.le_trans (TG_lev S z hx hc).2 (by decide)⟩, fun hl k hk => ?_⟩
      have q := TG_kid S z hx hc hl hk
      exact ⟨⟨q.1.1, by omega⟩, Or.inr q.2.2⟩
  · by_cases w : v < 8
    · have e := rM_v (t := t) w
      have q := TG_root_live T hD w (by rw [e]; exact h0) (by rw [e]; omega)
      rw [e] at q
      exact Or.inl q.2
    · have e := rsM_v (t := t) (v := v - 8) (by omega)
      rw [show 8 + (v - 8) = v by omega] at e
      have q := TG_root_live S z (v := v - 8) (by omega) (by rw [e]; exact h0) (by rw [e]; omega)
      rw [e] at q
      exact Or.inr q.2
set_option maxHeartbeats 250000 in theorem sim_c {π σ : Nat → Nat} {s t : MS} (h : SIM π σ s t) {x : Nat} (hx : x < 48) : gA s 54 (π x) = cM t x ∧ gA s 55 (π x) = vM t x := h.1.2.1 x hx
set_option maxHeartbeats 250000 in theorem sim_b {π σ : Nat → Nat} {s t : MS} (h : SIM π σ s t) {x : Nat} (hx : x < 48) (hl : LV t x) : BR1 π (hN s) (hM t) (kN s) (kM t) x := h.1.2.2.1 x hx hl
/- one that stands is none that lies idle -/
set_option maxHeartbeats 250000 in theorem sim_ne {π σ : Nat → Nat} {s t : MS} (h : SIM π σ s t) {x c : Nat} (hx : x < 48) (hl : LV t x) (hc : gA s 54 c = 0 ∧ gA s 55 c = 0) : π x ≠ c := fun e => by
  have a := sim_c h hx
  rw [e] at a
  unfold LV at hl
  omega
set_option maxHeartbeats 250000 in theorem y_take {π σ : Nat → Nat} {s t : MS} {p0 p1 p2 : Int} {q o : Int × MS} (h : SIM π σ s t) (hK : KLV t) (hN8 : gI s 1060 ≤ 48) (h0 : gI t 55 = 0) (e1 : m_x1_take p0 p1 s = some q) (e2 : m_x12_taken p0 p2 t = some o)
    (w1 : q.1 = -1 ∨ ((0 ≤ q.1 ∧ q.1 < gI s 1060) ∧ (gA s 54 q.1.toNat = 0 ∧ gA s 55 q.1.toNat = 0) ∧ (gA q.2 54 = upZ (gA s 54) q.1.toNat 1 ∧ gA q.2 56 = upZ (gA s 56) q.1.toNat p0 ∧ gA q.2 57 = upZ (gA s 57) q.1.toNat 0)))
    (w2 : gI o.2 55 = 1 ∨ (gI o.2 55 = gI t 55 ∧ (0 ≤ o.1 ∧ o.1 < gA t 39 5) ∧ (cM t o.1.toNat ≤ 0 ∧ vM t o.1.toNat ≤ 0) ∧ TkE t o.2 o.1.toNat p0)) :
    (q.1 = -1 ∧ gI o.2 55 = 1) ∨ (gI o.2 55 = 0 ∧ 0 ≤ q.1 ∧ 0 ≤ o.1 ∧ o.1 < gA t 39 5 ∧ ¬ LV t o.1.toNat ∧ TkE t o.2 o.1.toNat p0 ∧ ∃ π' σ', SIM π' σ' q.2 o.2 ∧ q.1 = (π' o.1.toNat : Int) ∧ ∀ x, x < 48 → LV t x → π' x = π x) := by
  have F1 : F_x1_take s q.2 := fr_x1_take e1
  have F2 : F_x12_taken t o.2 := fr_x12_taken e2
  have g1 := s_take q e1
  have g2 := m_taken h0 o e2
  have hP := h.1.1
  have hb := h.2.1
  rcases g1 with ⟨a1, a2⟩ | ⟨a1, a2⟩
  · refine Or.inl ⟨a1, ?_⟩
    rcases w2 with w | ⟨_, ⟨r0, r1⟩, ⟨c0, v0⟩, _⟩
    · exact w
    · exfalso
      have hr : o.1.toNat < 48 := by omega
      have n := hK.1 o.1.toNat hr
      have c := sim_c h hr
      have lt := (hP o.1.toNat hr).2.2.2 (by omega)
      exact a2 (π o.1.toNat) lt ⟨by omega, by omega⟩
  · rcases w1 with w | ⟨⟨q0, q1⟩, ⟨f1, f2⟩, ⟨u54, u56, u57⟩⟩
    · exact absurd w a1
    have hc : q.1.toNat < 48 := by omega
    have qc : q.1 = (q.1.toNat : Int) := by omega
    rcases w2 with w | ⟨b55, ⟨r0, r1⟩, ⟨c0, v0⟩, TK⟩
    · exfalso
      rcases g2 with ⟨_, z⟩ | ⟨z, _⟩
      · have hs := (hP q.1.toNat hc)
        have l := z (σ q.1.toNat) (by rw [← hb]; exact (PB_s hP hc).2 (by omega))
        have c := sim_c h hs.1.2
        rw [hs.2.1.2] at c
        omega
      · omega
    have f55 : gI o.2 55 = 0 := b55.trans h0
    have T54 : gA o.2 54 = upZ (gA t 54) o.1.toNat 1 := by
      rcases g2 with ⟨z, _⟩ | ⟨_, z⟩
      · omega
      · exact z
    have hr : o.1.toNat < 48 := by omega
    have nr := hK.1 o.1.toNat hr
    have cr0 := sim_c h hr
    have hpr := hP o.1.toNat hr
    obtain ⟨c, hcc⟩ : ∃ c, c = q.1.toNat := ⟨_, rfl⟩
    obtain ⟨r, hrr⟩ : ∃ r, r = o.1.toNat := ⟨_, rfl⟩
    rw [← hcc] at hc qc f1 f2 u54 u56 u57
    rw [← hrr] at c0 v0 TK T54 hr nr cr0 hpr ⊢
    have nl : ¬ LV t r := by unfold LV; omega
    have cz : cM t r = 0 := by omega
    have vz : vM t r = 0 := by omega
    refine Or.inr ⟨f55, q0, r0, r1, nl, TK, fun x => tw c (π r) (π x), fun x => σ (tw c (π r) x), ?_⟩
    have keep : ∀ x, x < 48 → LV t x → tw c (π r) (π x) = π x := fun x hx hl => tw_n (sim_ne h hx hl ⟨f1, f2⟩) (sim_ne h hx hl ⟨by omega, by omega⟩)
    have cO : cM o.2 = upZ (cM t) r 1 := TkE_c TK
    have vO : vM o.2 = vM t := TkE_v TK vz
    have sv55 : gA q.2 55 = gA s 55 := F1.2.1 55 (by decide)
    have same : ∀ x, x ≠ r → (hM o.2).1 x = (hM t).1 x ∧ (hM o.2).2.1 x = (hM t).2.1 x ∧ ∀ k, (hM o.2).2.2 x k = (hM t).2.2 x k ∧ kM o.2 x k = kM t x k := fun x hx => by
      refine ⟨TK.1 (19 + 16 * x) (by omega), TK.1 (20 + 16 * x) (by omega), fun k => ?_⟩
      show (if k < 6 then gA o.2 49 (27 + 16 * x + k) else 0) = (if k < 6 then gA t 49 (27 + 16 * x + k) else 0) ∧ (if k < 6 then gA o.2 49 (21 + 16 * x + k) else 0) = if k < 6 then gA t 49 (21 + 16 * x + k) else 0
      by_cases z : k < 6
      · rw [if_pos z, if_pos z, if_pos z, if_pos z, TK.1 (27 + 16 * x + k) (by omega), TK.1 (21 + 16 * x + k) (by omega)]
        exact ⟨rfl, rfl⟩
      · rw [if_neg z, if_neg z, if_neg z, if_neg z]
        exact ⟨rfl, rfl⟩
    refine ⟨⟨⟨PB_tw ?_ hc hpr.1.1 ?_, fun x hx => ?_, fun x hx hl => ?_, fun v hv => ?_⟩, ?_, fun x hx hl => ?_⟩, ?_, keep⟩
    · rw [F1.1 1060 (by decide)]; exact hP
    · rw [F1.1 1060 (by decide)]
      have := hpr.2.2
      exact ⟨fun _ => this.2 (by omega), fun _ => by omega⟩
    · rw [u54, sv55]
      show upZ (gA s 54) c 1 (tw c (π r) (π x)) = cM o.2 x ∧ gA s 55 (tw c (π r) (π x)) = vM o.2 x
      rw [cO, vO]
      by_cases zr : x = r
      · rw [zr, tw_b, upZ_s, upZ_s]
        exact ⟨rfl, by omega⟩
      · rw [upZ_n zr]
        have cx := sim_c h hx
        by_cases zc : π x = c
        · rw [zc, tw_a]
          have ne : π r ≠ c := fun e => zr (PB_i hP hx hr (zc.trans e.symm))
          rw [upZ_n ne]
          rw [zc] at cx
          omega
        · have ne : π x ≠ π r := fun e => zr (PB_i hP hx hr e)
          rw [tw_n zc ne, upZ_n zc]
          exact cx
    · show BR1 (fun x => tw c (π r) (π x)) (hN q.2) (hM o.2) (kN q.2) (kM o.2) x
      have hl' : 0 < cM o.2 x ∨ 0 < vM o.2 x := hl
      by_cases zr : x = r
      · rw [zr]
        have b56 : gA q.2 56 c = p0 := by rw [u56, upZ_s]
        have b57 : gA q.2 57 c = 0 := by rw [u57, upZ_s]
        refine ⟨?_, ?_, fun k hk => ?_⟩
        · show gA q.2 56 (tw c (π r) (π r)) = _
          rw [tw_b, b56]; exact TK.2.2.1.symm
        · show gA q.2 57 (tw c (π r) (π r)) = _
          rw [tw_b, b57]; exact TK.2.2.2.symm
        · have := TK.2.2.2
          omega
      · have lx : LV t x := by
          rw [cO, vO, upZ_n zr] at hl'
          exact hl'
        have kx := keep x hx lx
        have B := sim_b h hx lx
        have S := same x zr
        have ne := sim_ne h hx lx ⟨f1, f2⟩
        unfold BR1
        rw [S.1, S.2.1]
        show gA q.2 56 (tw c (π r) (π x)) = _ ∧ gA q.2 57 (tw c (π r) (π x)) = _ ∧ ∀ k : Nat, _ → gA q.2 58 (6 * tw c (π r) (π x) + k) = _ ∧ (_ → gA q.2 59 (6 * tw c (π r) (π x) + k) = _) ∧ (_ → gA q.2 59 (6 * tw c (π r) (π x) + k) = _)
        rw [kx, u56, u57, upZ_n ne, upZ_n ne, F1.2.1 58 (by decide), F1.2.1 59 (by decide)]
        refine ⟨B.1, B.2.1, fun k hk => ?_⟩
        rw [(S.2.2 k).1, (S.2.2 k).2]
        have B2 := B.2.2 k hk
        refine ⟨B2.1, fun z => ?_, B2.2.2⟩
        have kid := (hK.2.1 x hx lx).2 z k hk
        show gA s 59 (6 * π x + k) = (tw c (π r) (π ((hM t).2.2 x k).toNat) : Int)
        rw [keep _ (by omega) kid.2]
        exact B2.2.1 z
    · show rtr (fun x => tw c (π r) (π x)) (gA q.2 60 v) (gA o.2 49 v) ∧ rtr (fun x => tw c (π r) (π x)) (gA q.2 61 v) (gA o.2 49 (8 + v))
      rw [F1.2.1 60 (by decide), F1.2.1 61 (by decide), TkE_u TK (show v < 17 by omega), TkE_u TK (show 8 + v < 17 by omega)]
      have R := h.1.2.2.2 v hv
      have G : ∀ {a : Int} {u : Nat}, u < 16 → rtr π a (gA t 49 u) → rtr (fun x => tw c (π r) (π x)) a (gA t 49 u) := fun {a u} hu g => by
        rcases g with g | g | ⟨g1, g2, g3⟩
        · exact Or.inl g
        · exact Or.inr (Or.inl g)
        · refine Or.inr (Or.inr ⟨g1, g2, ?_⟩)
          show a = (tw c (π r) (π (gA t 49 u).toNat) : Int)
          rw [keep _ (by omega) (hK.2.2 u hu g1 g2)]
          exact g3
      exact ⟨G (by omega) R.1, G (by omega) R.2⟩
    · rw [F1.1 1060 (by decide), F2.2.1 39 (by decide)]; exact hb
    · show bW (gL q.2 1062) (tw c (π r) (π x)) ↔ gA o.2 54 x ≠ 0
      have hl' : 0 < cM o.2 x := hl
      rw [a2, T54, qc, bW_or hc (tw_lt hc hpr.1.1 (hP x hx).1.1)]
      by_cases zr : x = r
      · rw [zr, tw_b, upZ_s]
        exact ⟨fun _ => by decide, fun _ => Or.inl rfl⟩
      · rw [cO, upZ_n zr] at hl'
        have lx : LV t x := Or.inl hl'
        rw [keep x hx lx, upZ_n zr]
        have ne := sim_ne h hx lx ⟨f1, f2⟩
        exact ⟨fun w => (h.2.2 x hx hl').1 (w.resolve_left ne), fun w => Or.inr ((h.2.2 x hx hl').2 w)⟩
    · show q.1 = ((tw c (π r) (π r) : Nat) : Int)
      rw [tw_b]; omega
/- one row is another's -/
def ROW (t : MS) (y : Nat) (o : MS) (x : Nat) : Prop := (hM o).1 x = (hM t).1 y ∧ (hM o).2.1 x = (hM t).2.1 y ∧ ∀ k, (hM o).2.2 x k = (hM t).2.2 y k ∧ kM o x k = kM t y k
set_option maxHeartbeats 250000 in theorem ROW_rf (t : MS) (x : Nat) : ROW t x t x := ⟨rfl, rfl, fun _ => ⟨rfl, rfl⟩⟩
set_option maxHeartbeats 250000 in theorem ROW_t {t u o : MS} {x y z : Nat} (h : ROW t x u y) (g : ROW u y o z) : ROW t x o z := ⟨g.1.trans h.1, g.2.1.trans h.2.1, fun k => ⟨(g.2.2 k).1.trans (h.2.2 k).1, (g.2.2 k).2.trans (h.2.2 k).2⟩⟩
set_option maxHeartbeats 250000 in theorem ROW_bx {t o : MS} {b x : Nat} (h : BX t o b) (hx : x ≠ b) : ROW t x o x := ⟨by rw [BX_l h], BX_z h hx, fun _ => BX_e h hx⟩
set_option maxHeartbeats 250000 in theorem ROW_tk {t o : MS} {r x : Nat} {l : Int} (TK : TkE t o r l) (hx : x ≠ r) : ROW t x o x := by
  refine ⟨TK.1 (19 + 16 * x) (by omega), TK.1 (20 + 16 * x) (by omega), fun k => ?_⟩
  show (if k < 6 then gA o 49 (27 + 16 * x + k) else 0) = (if k < 6 then gA t 49 (27 + 16 * x + k) else 0) ∧ (if k < 6 then gA o 49 (21 + 16 * x + k) else 0) = if k < 6 then gA t 49 (21 + 16 * x + k) else 0
  by_cases z : k < 6
  · rw [if_pos z, if_pos z, if_pos z, if_pos z, TK.1 (27 + 16 * x + k) (by omega), TK.1 (21 + 16 * x + k) (by omega)]
    exact ⟨rfl, rfl⟩
  · rw [if_neg z, if_neg z, if_neg z, if_neg z]
    exact ⟨rfl, rfl⟩
/- what an OWNED block holds: what was there, a copy or itself -/
def CPY (t o : MS) (b r : Nat) : Prop := ROW t b o r ∧ (∀ x, x ≠ r → ROW t x o x) ∧ (∀ x, x < 48 → LV o x → x = r ∨ LV t x) ∧ (r = b ∨ ¬ LV t r)
/-! ===== a block is OWNED on both sides ===== -/
set_option maxHeartbeats 250000 in theorem s_fresh {p : Int} {s : MS} : pc (m_x8_isFresh p s) (fun r => (r = 1 ∧ (0 ≤ p ∧ p < gI s 1060) ∧ 0 < gA s 54 p.toNat ∧ gA s 55 p.toNat = 0) ∨ (r = 0 ∧ ¬ ((0 ≤ p ∧ p < gI s 1060) ∧ 0 < gA s 54 p.toNat ∧ gA s 55 p.toNat = 0))) := by
  unfold m_x8_isFresh m_x8_isFresh_J30 m_x8_isFresh_J31
  refine pc_bq s_isBk (fun r4 h4 => pc_rg (pc_if (fun c => pc_bo (pc_some (Or.inr ⟨rfl, fun q => ?_⟩))) (fun c => pc_rdI (fun _ => pc_rg (pc_if (fun c2 => pc_bo (pc_some (Or.inr ⟨rfl, fun q => ?_⟩))) (fun c2 => pc_rdI (fun _ => pc_rg (pc_if (fun c3 => pc_bo (pc_some (Or.inl ⟨rfl, ?_, by omega, c3⟩))) (fun c3 => pc_bo (pc_some (Or.inr ⟨rfl, fun q => c3 q.2.2⟩)))))))))))
  · rcases h4 with ⟨a, _⟩ | ⟨_, b⟩
    · omega
    · exact b q.1
  · have := q.2.1; omega
  · rcases h4 with ⟨_, b⟩ | ⟨a, _⟩
    · exact b
    · omega
set_option maxHeartbeats 250000 in theorem m_fresh {p : Int} {t : MS} (hp : 0 ≤ p) : pc (m_x12_isFresh p t) (fun r => (r = 1 ∧ 0 < cM t p.toNat ∧ vM t p.toNat = 0) ∨ (r = 0 ∧ ¬ (0 < cM t p.toNat ∧ vM t p.toNat = 0))) := by
  unfold m_x12_isFresh m_x12_isFresh_J20 m_x12_isFresh_J21
  refine pc_bq (m_used hp) (fun r4 h4 => pc_rg (pc_if (fun c => pc_bo (pc_some (Or.inr ⟨rfl, ?_⟩))) (fun c => pc_bq (m_sav hp) (fun r8 h8 => pc_rg (pc_if (fun c2 => pc_bo (pc_some (Or.inl ⟨rfl, ?_, ?_⟩))) (fun c2 => pc_bo (pc_some (Or.inr ⟨rfl, ?_⟩))))))))
  all_goals omega
/- counts that change are some that refer or one that falls -/
def DCs (s o : MS) : Prop := (∀ b, gA o 54 b ≤ gA s 54 b) ∧ (∀ k, k ≠ 54 → k ≠ 50 → gA o k = gA s k) ∧ (∀ k, gI o k = gI s k) ∧ ∀ k, gL o k = gL s k
set_option maxHeartbeats 250000 in theorem s_rel {p : Int} {s : MS} : pc (m_x1_release_v2 p s) (fun q => DCs s q.2) := by
  have up : ∀ (f : Nat → Int) (i : Nat) (b : Nat), upZ f i (f i - 1) b ≤ f b := fun f i b => by
    unfold upZ
    split
    · rename_i e; rw [e]; omega
    · omega
  have st1 : ∀ {S S' : MS} {i : Nat}, DCs s S → sA S 54 (upZ (gA S 54) i (gA S 54 i - 1)) = S' → DCs s S' := fun {S S' i} H e => ⟨fun b => by rw [(q_AA e : gA S' 54 = _)]; exact Int.le_trans (up _ _ _) (H.1 b), fun k h1 h2 => (q_Aa e h1).trans (H.2.1 k h1 h2), fun k => (q_Ai e).trans (H.2.2.1 k), fun k => (q_Al e).trans (H.2.2.2 k)⟩
  have st2 : ∀ {S S' : MS} {f : Nat → Int}, DCs s S → sA S 50 f = S' → DCs s S' := fun {S S' f} H e => ⟨fun b => by rw [(q_Aa e (by decide) : gA S' 54 = gA S 54)]; exact H.1 b, fun k h1 h2 => (q_Aa e h2).trans (H.2.1 k h1 h2), fun k => (q_Ai e).trans (H.2.2.1 k), fun k => (q_Al e).trans (H.2.2.2 k)⟩
  have L28 : ∀ (n : Nat) (x3 x4 : Int) (S : MS), DCs s S → pc (m_x1_release_v2_L28 n x3 x4 S) (fun q => DCs s q.2) := by
    refine fr_ind (fun _ _ _ _ => pc_none) (fun n ih x3 x4 S H => ?_)
    show pc (m_x1_release_v2_b28 (m_x1_release_v2_L28 n) x3 x4 S) _
    have L83 : ∀ (m : Nat) (x6 x7 x8 x9 : Int) (S' : MS), DCs s S' → pc (m_x1_release_v2_L83 (m_x1_release_v2_L28 n) m x6 x7 x8 x9 S') (fun q => DCs s q.2) := by
      refine fr_ind (fun _ _ _ _ _ _ => pc_none) (fun m ih2 x6 x7 x8 x9 S' H' => ?_)
      show pc (m_x1_release_v2_b83 (m_x1_release_v2_L28 n) (m_x1_release_v2_L83 (m_x1_release_v2_L28 n) m) x6 x7 x8 x9 S') _
      unfold m_x1_release_v2_b83 m_x1_release_v2_J148
      refine pc_rg (pc_rg (pc_if (fun _ => ih _ _ S' H') (fun _ => pc_rdI (fun _ => pc_bn (fun r21 _ => pc_rdI (fun _ => pc_rdI (fun _ => pc_inb (pc_stn (fun s25 e25 => pc_rdI (fun _ => pc_rg (pc_if (fun _ => pc_rg (pc_if (fun _ => ih2 _ _ _ _ s25 (st1 H' e25)) (fun _ => pc_inb (pc_stn (fun s32 e32 => ih2 _ _ _ _ s32 (st2 (st1 H' e25) e32)))))) (fun _ => ih2 _ _ _ _ s25 (st1 H' e25)))))))))))))
    unfold m_x1_release_v2_b28 m_x1_release_v2_J78 m_x1_release_v2_J160
    exact pc_rg (pc_rg (pc_if (fun _ => pc_some H) (fun _ => pc_rg (pc_if (fun _ => pc_some H) (fun _ => pc_rdI (fun _ => pc_rdI (fun _ => pc_rg (pc_if (fun _ => L83 FU _ _ _ _ S H) (fun _ => pc_rdI (fun _ => pc_rdI (fun _ => L83 FU _ _ _ _ S H)))))))))))
  have H0 : DCs s s := ⟨fun _ => Int.le_refl _, fun _ _ _ => rfl, fun _ => rfl, fun _ => rfl⟩
  unfold m_x1_release_v2 m_x1_release_v2_J25
  exact pc_rdI (fun _ => pc_inb (pc_stn (fun s52 e52 => pc_rdI (fun _ => pc_rg (pc_if (fun _ => pc_inb (pc_stn (fun s57 e57 => L28 FU _ _ s57 (st2 (st1 H0 e52) e57)))) (fun _ => L28 FU _ _ s52 (st1 H0 e52)))))))
/- what the class does where it copies -/
def OWc (p : Int) (s : MS) (q1 q : Int × MS) : Prop := q.1 = q1.1 ∧ ∃ s2, m_x1_layEntries p 0 q1.1 q1.2 = some s2 ∧ (∀ k, k ≠ 54 → k ≠ 50 → gA q.2 k = gA s2 k) ∧ (∀ k, gI q.2 k = gI s2 k) ∧ (∀ k, gL q.2 k = gL s2 k) ∧ ∀ b : Nat, (∀ k : Nat, 0 < gA s2 56 q1.1.toNat → (k : Int) < gA s2 57 q1.1.toNat → gA s2 59 (6 * q1.1.toNat + k) ≠ (b : Int)) → gA q.2 54 b ≤ gA s2 54 b
set_option maxHeartbeats 250000 in theorem s_own {p : Int} {s : MS} (hp : 0 ≤ p) : pc (m_x1_owned p s) (fun q => ((((0 ≤ p ∧ p < gI s 1060) ∧ 0 < gA s 54 p.toNat ∧ gA s 55 p.toNat = 0) ∧ gA s 54 p.toNat = 1) ∧ q = (p, s)) ∨ (¬ (((0 ≤ p ∧ p < gI s 1060) ∧ 0 < gA s 54 p.toNat ∧ gA s 55 p.toNat = 0) ∧ gA s 54 p.toNat = 1) ∧ ∃ q1, m_x1_take (gA s 56 p.toNat) p s = some q1 ∧ ((q1.1 = -1 ∧ q.1 = -1) ∨ (q1.1 ≠ -1 ∧ OWc p s q1 q)))) := by
  have J26 : pc (m_x1_owned_J26 p s) (fun q => ∃ q1, m_x1_take (gA s 56 p.toNat) p s = some q1 ∧ ((q1.1 = -1 ∧ q.1 = -1) ∨ (q1.1 ≠ -1 ∧ OWc p s q1 q))) := by
    unfold m_x1_owned_J26
    refine pc_rdI (fun _ => pc_bn (fun q1 eq1 => pc_rg (pc_if (fun c => pc_some ⟨q1, eq1, Or.inl ⟨c, rfl⟩⟩) (fun c => pc_bn (fun s2 es2 => ?_)))))
    have J117 : ∀ S : MS, (∀ k, k ≠ 54 → k ≠ 50 → gA S k = gA s2 k) → (∀ k, gI S k = gI s2 k) → (∀ k, gL S k = gL s2 k) → (∀ b : Nat, (∀ k : Nat, 0 < gA s2 56 q1.1.toNat → (k : Int) < gA s2 57 q1.1.toNat → gA s2 59 (6 * q1.1.toNat + k) ≠ (b : Int)) → gA S 54 b = gA s2 54 b) → pc (m_x1_owned_J117 p q1.1 S) (fun q => ∃ q1, m_x1_take (gA s 56 p.toNat) p s = some q1 ∧ ((q1.1 = -1 ∧ q.1 = -1) ∨ (q1.1 ≠ -1 ∧ OWc p s q1 q))) := fun S hA hI hL hc => by
      unfold m_x1_owned_J117
      refine pc_bq s_rel (fun q6 h6 => pc_some ⟨q1, eq1, Or.inr ⟨c, rfl, s2, es2, fun k a b => (h6.2.1 k a b).trans (hA k a b), fun k => (h6.2.2.1 k).trans (hI k), fun k => (h6.2.2.2 k).trans (hL k), fun b hb => ?_⟩⟩)
      rw [← hc b hb]; exact h6.1 b
    refine pc_rdI (fun g1 => pc_rg (pc_if (fun c3 => J117 s2 (fun _ _ _ => rfl) (fun _ => rfl) (fun _ => rfl) (fun _ _ => rfl)) (fun c3 => ?_)))
    have L69 : ∀ (n : Nat) (x9 : Int) (S : MS), 0 ≤ x9 → (∀ k, k ≠ 54 → k ≠ 50 → gA S k = gA s2 k) → (∀ k, gI S k = gI s2 k) → (∀ k, gL S k = gL s2 k) → (∀ b : Nat, (∀ k : Nat, 0 < gA s2 56 q1.1.toNat → (k : Int) < gA s2 57 q1.1.toNat → gA s2 59 (6 * q1.1.toNat + k) ≠ (b : Int)) → gA S 54 b = gA s2 54 b) → pc (m_x1_owned_L69 n p q1.1 x9 S) (fun q => ∃ q1, m_x1_take (gA s 56 p.toNat) p s = some q1 ∧ ((q1.1 = -1 ∧ q.1 = -1) ∨ (q1.1 ≠ -1 ∧ OWc p s q1 q))) := by
      refine fr_ind (fun _ _ _ _ _ _ _ => pc_none) (fun n ih x9 S h9 hA hI hL hc => ?_)
      show pc (m_x1_owned_b69 (m_x1_owned_L69 n) p q1.1 x9 S) _
      unfold m_x1_owned_b69 m_x8_slot
      refine pc_rdI (fun _ => pc_rg (pc_rg (pc_if (fun _ => J117 S hA hI hL hc) (fun c4 => pc_bn (fun r16 e16 => pc_rdI (fun g17 => pc_rdI (fun g18 => pc_inb2 (fun g => pc_stn (fun s20 e20 => ih (x9 + 1) s20 (by omega) (fun k a b => (q_Aa e20 a).trans (hA k a b)) (fun k => (q_Ai e20).trans (hI k)) (fun k => (q_Al e20).trans (hL k)) (fun b hb => ?_))))))))))
      cases e16
      rw [(q_AA e20 : gA s20 54 = _)]
      have k59 : gA S 59 = gA s2 59 := hA 59 (by decide) (by decide)
      have k57 : gA S 57 = gA s2 57 := hA 57 (by decide) (by decide)
      rw [k57] at c4
      have ne := hb x9.toNat (by omega) (by omega)
      rw [show 6 * q1.1.toNat + x9.toNat = (q1.1 * 6 + x9).toNat by omega, ← k59] at ne
      rw [upZ_n (by omega)]
      exact hc b hb
    exact L69 FU 0 s2 (by omega) (fun _ _ _ => rfl) (fun _ => rfl) (fun _ => rfl) (fun _ _ => rfl)
  unfold m_x1_owned
  refine pc_bq s_fresh (fun r35 h35 => pc_rg (pc_if (fun c => pc_mono J26 (fun q hq => Or.inr ⟨fun z => ?_, hq⟩)) (fun c => pc_rdI (fun _ => pc_rg (pc_if (fun c2 => pc_some (Or.inl ⟨⟨?_, c2⟩, rfl⟩)) (fun c2 => pc_mono J26 (fun q hq => Or.inr ⟨fun z => c2 z.2, hq⟩)))))))
  · rcases h35 with ⟨a, _⟩ | ⟨_, b⟩
    · omega
    · exact b z.1
  · rcases h35 with ⟨_, b⟩ | ⟨a, _⟩
    · exact b
    · omega
/-! the reference -/
set_option maxHeartbeats 250000 in theorem m_cntT {p v : Int} {t : MS} : pc (m_x12_counts p v t) (fun o => (0 ≤ 17 + 16 * p) ∧ gA o 49 = upZ (gA t 49) (17 + 16 * p).toNat (gA t 49 (17 + 16 * p).toNat + v) ∧ (∀ k, k ≠ 49 → gA o k = gA t k) ∧ ∀ k, gI o k = gI t k) := by
  unfold m_x12_counts
  exact pc_rdI (fun g => pc_inb (pc_stn (fun s3 e3 => pc_some ⟨g.1, q_AA e3, fun k hk => q_Aa e3 hk, fun k => q_Ai e3⟩)))
/- only counts are another, and none is greater -/
def DCm (t o : MS) : Prop := (∀ i, gA o 49 i ≤ gA t 49 i) ∧ (∀ i, i % 16 ≠ 1 → gA o 49 i = gA t 49 i) ∧ (∀ k, k ≠ 49 → k ≠ 56 → gA o k = gA t k) ∧ ∀ k, gI o k = gI t k
set_option maxHeartbeats 250000 in theorem m_falls {p : Int} {t : MS} : pc (m_x12_falls p t) (fun o => DCm t o) := by
  have st1 : ∀ {y : Int} {S S' : MS}, DCm t S → m_x12_counts y (-1) S = some S' → DCm t S' := fun {y S S'} H e => by
    obtain ⟨h0, h1, h2, h3⟩ := m_cntT S' e
    refine ⟨fun i => ?_, fun i hi => ?_, fun k a b => (h2 k a).trans (H.2.2.1 k a b), fun k => (h3 k).trans (H.2.2.2 k)⟩
    · rw [h1]
      by_cases z : i = (17 + 16 * y).toNat
      · rw [z, upZ_s]; have := H.1 (17 + 16 * y).toNat; omega
      · rw [upZ_n z]; exact H.1 i
    · rw [h1, upZ_n (by omega)]; exact H.2.1 i hi
  have st2 : ∀ {S S' : MS} {f : Nat → Int}, DCm t S → sA S 56 f = S' → DCm t S' := fun {S S' f} H e => ⟨fun b => by rw [(q_Aa e (by decide) : gA S' 49 = gA S 49)]; exact H.1 b, fun i hi => by rw [(q_Aa e (by decide) : gA S' 49 = gA S 49)]; exact H.2.1 i hi, fun k h1 h2 => (q_Aa e h2).trans (H.2.2.1 k h1 h2), fun k => (q_Ai e).trans (H.2.2.2 k)⟩
  have L9 : ∀ (n : Nat) (x1 : Int) (S : MS), DCm t S → pc (m_x12_falls_L9 n x1 S) (fun o => DCm t o) := by
    refine fr_ind (fun _ _ _ => pc_none) (fun n ih x1 S H => ?_)
    show pc (m_x12_falls_b9 (m_x12_falls_L9 n) x1 S) _
    have L51 : ∀ (m : Nat) (x3 x4 x5 : Int) (S' : MS), DCm t S' → pc (m_x12_falls_L51 (m_x12_falls_L9 n) m x3 x4 x5 S') (fun o => DCm t o) := by
      refine fr_ind (fun _ _ _ _ _ => pc_none) (fun m ih2 x3 x4 x5 S' H' => ?_)
      show pc (m_x12_falls_b51 (m_x12_falls_L9 n) (m_x12_falls_L51 (m_x12_falls_L9 n) m) x3 x4 x5 S') _
      unfold m_x12_falls_b51
      exact pc_bn (fun r8 _ => pc_rg (pc_rg (pc_if (fun _ => ih _ S' H') (fun _ => pc_bn (fun r13 _ => pc_inb (pc_stn (fun s15 e15 => ih2 _ _ _ s15 (st2 H' e15))))))))
    unfold m_x12_falls_b9
    exact pc_rg (pc_if (fun _ => pc_some H) (fun _ => pc_rdI (fun _ => pc_bn (fun s20 e20 => pc_bn (fun r22 _ => pc_rg (pc_if (fun _ => pc_bn (fun r26 _ => pc_rg (pc_if (fun _ => ih _ s20 (st1 H e20)) (fun _ => L51 FU _ _ _ s20 (st1 H e20))))) (fun _ => ih _ s20 (st1 H e20))))))))
  have H0 : DCm t t := ⟨fun _ => Int.le_refl _, fun _ _ => rfl, fun _ _ _ => rfl, fun _ => rfl⟩
  unfold m_x12_falls
  exact pc_inb (pc_stn (fun s30 e30 => L9 FU _ s30 (st2 H0 e30)))
set_option maxHeartbeats 250000 in theorem m_ents {p : Int} {t : MS} (hp : 0 ≤ p) : pc (m_x12_entriesOf p t) (fun r => r = (hM t).2.1 p.toNat) := by
  unfold m_x12_entriesOf
  exact pc_rdI (fun _ => pc_some (by show gA t 49 (17 + 16 * p + 3).toNat = gA t 49 (20 + 16 * p.toNat); rw [show (17 + 16 * p + 3).toNat = 20 + 16 * p.toNat by omega]))
set_option maxHeartbeats 250000 in theorem m_lev {p : Int} {t : MS} (hp : 0 ≤ p) : pc (m_x12_levelOf p t) (fun r => r = (hM t).1 p.toNat) := by
  unfold m_x12_levelOf
  exact pc_rdI (fun _ => pc_some (by show gA t 49 (17 + 16 * p + 2).toNat = gA t 49 (19 + 16 * p.toNat); rw [show (17 + 16 * p + 2).toNat = 19 + 16 * p.toNat by omega]))
set_option maxHeartbeats 250000 in theorem m_val {p k : Int} {t : MS} (hp : 0 ≤ p) (hk : 0 ≤ k ∧ k < 6) : pc (m_x12_valueAt p k t) (fun r => r = (hM t).2.2 p.toNat k.toNat) := by
  unfold m_x12_valueAt
  exact pc_rdI (fun _ => pc_some (by show gA t 49 (17 + 16 * p + 10 + k).toNat = if k.toNat < 6 then gA t 49 (27 + 16 * p.toNat + k.toNat) else 0; rw [if_pos (by omega), show (17 + 16 * p + 10 + k).toNat = 27 + 16 * p.toNat + k.toNat by omega]))
set_option maxHeartbeats 250000 in theorem m_key {p k : Int} {t : MS} (hp : 0 ≤ p) (hk : 0 ≤ k ∧ k < 6) : pc (m_x12_keyAt p k t) (fun r => r = kM t p.toNat k.toNat) := by
  unfold m_x12_keyAt
  exact pc_rdI (fun _ => pc_some (by show gA t 49 (17 + 16 * p + 4 + k).toNat = if k.toNat < 6 then gA t 49 (21 + 16 * p.toNat + k.toNat) else 0; rw [if_pos (by omega), show (17 + 16 * p + 4 + k).toNat = 21 + 16 * p.toNat + k.toNat by omega]))
/- what the reference does where it copies: b to c -/
def OWm (b c : Nat) (t o : MS) : Prop := (∀ j : Nat, 3 ≤ j → j < 16 → gA o 49 (17 + 16 * c + j) = gA t 49 (17 + 16 * b + j)) ∧ (∀ i, i % 16 ≠ 1 → ¬ (20 + 16 * c ≤ i ∧ i < 33 + 16 * c) → gA o 49 i = gA t 49 i) ∧ (∀ k, k ≠ 49 → k ≠ 56 → gA o k = gA t k) ∧ (∀ k, gI o k = gI t k) ∧ ∀ x : Nat, (∀ k : Nat, 0 < (hM t).1 b → (k : Int) < (hM t).2.1 b → (hM t).2.2 b k ≠ (x : Int)) → cM o x ≤ cM t x
set_option maxHeartbeats 250000 in theorem m_copy {p : Int} {c : Nat} {t : MS} (hp : 0 ≤ p) (hne : c ≠ p.toNat) (h6 : (hM t).2.1 p.toNat ≤ 6) : pc (m_x12_owned_L41 FU p (c : Int) 3 t) (fun o => o.1 = (c : Int) ∧ OWm p.toNat c t o.2) := by
  have L41 : ∀ (n : Nat) (x : Int) (S : MS), (3 ≤ x ∧ x ≤ 16) → (∀ j : Nat, 3 ≤ j → (j : Int) < x → gA S 49 (17 + 16 * c + j) = gA t 49 (17 + 16 * p.toNat + j)) → (∀ i, ¬ (20 + 16 * c ≤ i ∧ i < 33 + 16 * c) → gA S 49 i = gA t 49 i) → (∀ k, k ≠ 49 → gA S k = gA t k) → (∀ k, gI S k = gI t k) → pc (m_x12_owned_L41 n p (c : Int) x S) (fun o => o.1 = (c : Int) ∧ OWm p.toNat c t o.2) := by
    refine fr_ind (fun _ _ _ _ _ _ _ => pc_none) (fun n ih x S hx h1 h2 hA hI => ?_)
    show pc (m_x12_owned_b41 (m_x12_owned_L41 n) p (c : Int) x S) _
    unfold m_x12_owned_b41
    have pS : ∀ j : Nat, j < 16 → gA S 49 (17 + 16 * p.toNat + j) = gA t 49 (17 + 16 * p.toNat + j) := fun j hj => h2 _ (by omega)
    refine pc_rg (pc_if (fun cx => pc_bq (m_lev hp) (fun r26 h26 => ?_)) (fun cx => pc_rdI (fun _ => pc_inb (pc_stn (fun s31 e31 => ih (x + 1) s31 (by omega) ?_ ?_ (fun k hk => (q_Aa e31 hk).trans (hA k hk)) (fun k => (q_Ai e31).trans (hI k)))))))
    · have J117 : ∀ X : MS, (∀ i, i % 16 ≠ 1 → gA X 49 i = gA S 49 i) → (∀ k, k ≠ 49 → gA X k = gA S k) → (∀ k, gI X k = gI S k) → (∀ x : Nat, (∀ k : Nat, 0 < (hM t).1 p.toNat → (k : Int) < (hM t).2.1 p.toNat → (hM t).2.2 p.toNat k ≠ (x : Int)) → gA X 49 (17 + 16 * x) = gA S 49 (17 + 16 * x)) → pc (m_x12_owned_J117 p (c : Int) X) (fun o => o.1 = (c : Int) ∧ OWm p.toNat c t o.2) := fun X xi xA xI xc => by
        unfold m_x12_owned_J117
        refine pc_bq m_falls (fun s5 h5 => pc_some ⟨rfl, fun j h3 hj => ?_, fun i hi hn => ?_, fun k a b => ?_, fun k => ?_, fun y hy => ?_⟩)
        · rw [h5.2.1 _ (by omega), xi _ (by omega)]; exact h1 j h3 (by omega)
        · rw [h5.2.1 _ hi, xi _ hi]; exact h2 i hn
        · rw [h5.2.2.1 k a b, xA k a]; exact hA k a
        · rw [h5.2.2.2 k, xI k]; exact hI k
        · show gA s5 49 (17 + 16 * y) ≤ gA t 49 (17 + 16 * y)
          have a := h5.1 (17 + 16 * y)
          rw [xc y hy, h2 _ (by omega)] at a
          exact a
      have hSl : (hM S).1 p.toNat = (hM t).1 p.toNat := by
        show gA S 49 (19 + 16 * p.toNat) = gA t 49 (19 + 16 * p.toNat)
        exact h2 _ (by omega)
      refine pc_rg (pc_if (fun _ => J117 S (fun _ _ => rfl) (fun _ _ => rfl) (fun _ => rfl) (fun _ _ => rfl)) (fun cl => ?_))
      have L91 : ∀ (m : Nat) (x8 : Int) (X : MS), 0 ≤ x8 → (∀ i, i % 16 ≠ 1 → gA X 49 i = gA S 49 i) → (∀ k, k ≠ 49 → gA X k = gA S k) → (∀ k, gI X k = gI S k) → (∀ x : Nat, (∀ k : Nat, 0 < (hM t).1 p.toNat → (k : Int) < (hM t).2.1 p.toNat → (hM t).2.2 p.toNat k ≠ (x : Int)) → gA X 49 (17 + 16 * x) = gA S 49 (17 + 16 * x)) → pc (m_x12_owned_L91 m p (c : Int) x8 X) (fun o => o.1 = (c : Int) ∧ OWm p.toNat c t o.2) := by
        refine fr_ind (fun _ _ _ _ _ _ _ => pc_none) (fun m ih2 x8 X h8 xi xA xI xc => ?_)
        show pc (m_x12_owned_b91 (m_x12_owned_L91 m) p (c : Int) x8 X) _
        unfold m_x12_owned_b91
        have xs : (hM X).2.1 p.toNat = (hM t).2.1 p.toNat := by
          show gA X 49 (20 + 16 * p.toNat) = gA t 49 (20 + 16 * p.toNat)
          rw [xi _ (by omega)]; exact h2 _ (by omega)
        refine pc_bq (m_ents hp) (fun r11 h11 => pc_rg (pc_rg (pc_if (fun _ => J117 X xi xA xI xc) (fun c8 => ?_))))
        rw [h11, xs] at c8
        refine pc_bq (m_val hp ⟨h8, by omega⟩) (fun r16 h16 => pc_bq m_cntT (fun s18 h18 => ?_))
        obtain ⟨g0, g1, g2, g3⟩ := h18
        have vx : (hM X).2.2 p.toNat x8.toNat = (hM t).2.2 p.toNat x8.toNat := by
          show (if x8.toNat < 6 then gA X 49 (27 + 16 * p.toNat + x8.toNat) else 0) = if x8.toNat < 6 then gA t 49 (27 + 16 * p.toNat + x8.toNat) else 0
          rw [if_pos (by omega), if_pos (by omega), xi _ (by omega)]; exact h2 _ (by omega)
        refine ih2 (x8 + 1) s18 (by omega) (fun i hi => ?_) (fun k hk => (g2 k hk).trans (xA k hk)) (fun k => (g3 k).trans (xI k)) (fun y hy => ?_)
        · rw [g1, upZ_n (by omega)]; exact xi i hi
        · have ne := hy x8.toNat (by omega) (by omega)
          rw [g1, upZ_n (by omega)]; exact xc y hy
      exact L91 FU 0 S (by omega) (fun _ _ => rfl) (fun _ _ => rfl) (fun _ => rfl) (fun _ _ => rfl)
    · intro j h3 hj
      rw [(q_AA e31 : gA s31 49 = _)]
      by_cases z : (j : Int) = x
      · rw [show 17 + 16 * c + j = (17 + 16 * (c : Int) + x).toNat by omega, upZ_s, show (17 + 16 * p + x).toNat = 17 + 16 * p.toNat + j by omega]
        exact pS j (by omega)
      · rw [upZ_n (by omega)]; exact h1 j h3 (by omega)
    · intro i hi
      rw [(q_AA e31 : gA s31 49 = _), upZ_n (by omega)]
      exact h2 i hi
  exact L41 FU 3 t (by omega) (fun j h3 hj => absurd hj (by omega)) (fun _ _ => rfl) (fun _ _ => rfl) (fun _ => rfl)
set_option maxHeartbeats 250000 in theorem m_own {p : Int} {t : MS} (hp : 0 ≤ p) (h0 : gI t 55 = 0) (hq : ∀ o1, m_x12_taken ((hM t).1 p.toNat) p t = some o1 → gI o1.2 55 = 0 → 0 ≤ o1.1 ∧ o1.1.toNat ≠ p.toNat ∧ (hM o1.2).2.1 p.toNat ≤ 6) : pc (m_x12_owned p t) (fun o => (((0 < cM t p.toNat ∧ vM t p.toNat = 0) ∧ cM t p.toNat = 1) ∧ o = (p, t)) ∨ (¬ ((0 < cM t p.toNat ∧ vM t p.toNat = 0) ∧ cM t p.toNat = 1) ∧ ∃ o1, m_x12_taken ((hM t).1 p.toNat) p t = some o1 ∧ ((gI o1.2 55 ≠ 0 ∧ o = (p, o1.2)) ∨ (gI o1.2 55 = 0 ∧ o.1 = o1.1 ∧ OWm p.toNat o1.1.toNat o1.2 o.2)))) := by
  have J19 : pc (m_x12_owned_J19 p t) (fun o => ∃ o1, m_x12_taken ((hM t).1 p.toNat) p t = some o1 ∧ ((gI o1.2 55 ≠ 0 ∧ o = (p, o1.2)) ∨ (gI o1.2 55 = 0 ∧ o.1 = o1.1 ∧ OWm p.toNat o1.1.toNat o1.2 o.2))) := by
    unfold m_x12_owned_J19
    refine pc_bq (m_lev hp) (fun r35 h35 => pc_bn (fun o1 e1 => ?_))
    rw [h35] at e1
    refine pc_rg (pc_if (fun c => ?_) (fun c => pc_some ⟨o1, e1, Or.inl ⟨c, rfl⟩⟩))
    obtain ⟨a, b, d⟩ := hq o1 e1 c
    have C := m_copy (c := o1.1.toNat) hp b d
    rw [show ((o1.1.toNat : Nat) : Int) = o1.1 by omega] at C
    exact pc_mono C (fun o ho => ⟨o1, e1, Or.inr ⟨c, ho.1, ho.2⟩⟩)
  unfold m_x12_owned
  refine pc_bq (m_fresh hp) (fun r42 h42 => pc_rg (pc_if (fun c => pc_mono J19 (fun o ho => Or.inr ⟨fun z => ?_, ho⟩)) (fun c => pc_bq (m_cnt hp) (fun r46 h46 => pc_rg (pc_if (fun c2 => pc_some (Or.inl ⟨⟨?_, by omega⟩, rfl⟩)) (fun c2 => pc_mono J19 (fun o ho => Or.inr ⟨fun z => c2 (by omega), ho⟩)))))))
  · rcases h42 with ⟨a, _⟩ | ⟨_, b⟩
    · omega
    · exact b z.1
  · rcases h42 with ⟨_, b⟩ | ⟨a, _⟩
    · exact b
    · omega
/-! ===== what is OWNED has a name on both sides ===== -/
set_option maxHeartbeats 250000 in theorem cpa_at {f g : Nat → Int} {sp dp n k : Nat} (h : k < n) : va_cpy f g sp dp n (dp + k) = f (sp + k) := by
  unfold va_cpy
  rw [if_pos (by omega), show sp + (dp + k - dp) = sp + k by omega]
set_option maxHeartbeats 250000 in theorem cpa_out {f g : Nat → Int} {sp dp n k : Nat} (h : k < dp ∨ dp + n ≤ k) : va_cpy f g sp dp n k = g k := by
  unfold va_cpy
  rw [if_neg (by omega)]
set_option maxHeartbeats 2000000 in
theorem y_ownB {π σ : Nat → Nat} {s t : MS} {p p' : Int} {q o : Int × MS} {v : Nat} {M : Nat → Nat → Int} (h : SIM π σ s t) (hK : KLV t) (hR : Rg s) (hRt : Rr t) (S0 : TS s Z0 (-1)) (T0 : TM t d0 (-1)) (hC : CE t 0) (hE1 : 0 ≤ gI s 581) (hE2 : 0 ≤ gA t 39 6) (h0 : gI t 55 = 0)
    (hp' : 0 ≤ p' ∧ p' < 48) (hpp : p = (π p'.toNat : Int)) (hc : 0 < cM t p'.toNat) (e1 : m_x1_owned p s = some q) (e2 : m_x12_owned p' t = some o)
    (w1 : q.1 = -1 ∨ (0 ≤ q.1 ∧ OwnP s q.2 p.toNat q.1.toNat Z0))
    (w2 : (gI o.2 55 = 1 ∧ o.1 = p') ∨ (gI o.2 55 = 0 ∧ 0 ≤ o.1 ∧ ∃ M', OwnM t o.2 v M M' p'.toNat o.1.toNat)) :
    (q.1 = -1 ∧ gI o.2 55 = 1) ∨ (gI o.2 55 = 0 ∧ 0 ≤ q.1 ∧ 0 ≤ o.1 ∧ ∃ π' σ', SIM π' σ' q.2 o.2 ∧ q.1 = (π' o.1.toNat : Int) ∧ (∀ x, x < 48 → LV t x → π' x = π x) ∧ CPY t o.2 p'.toNat o.1.toNat) := by
  have hP := h.1.1
  have hN0 := T0.1.1
  have hb := h.2.1
  obtain ⟨b, hbb⟩ : ∃ b, b = p'.toNat := ⟨_, rfl⟩
  have hb48 : b < 48 := by omega
  have pb := (hP b hb48).1.1
  have pn : p.toNat = π b := by rw [hpp, ← hbb]; omega
  have pi : p = (π b : Int) := by rw [hpp, ← hbb]
  have lb : LV t b := Or.inl (by rw [hbb]; exact hc)
  have cb := sim_c h hb48
  have BB := sim_b h hb48 lb
  have KB := hK.2.1 b hb48 lb
  have ltN : (π b : Int) < gI s 1060 := by
    rw [(hP b hb48).2.2, hb]
    have := (T0.1.2.1 b hb48).2.1
    have c' : 0 < cM t b := by rw [hbb]; exact hc
    omega
  have hNn : 0 ≤ gA t 39 5 := by
    have w := (T0.1.2.1 b hb48).2.1
    have c' : 0 < cM t b := by rw [hbb]; exact hc
    omega
  have hq : ∀ o1, m_x12_taken ((hM t).1 p'.toNat) p' t = some o1 → gI o1.2 55 = 0 → (0 ≤ o1.1 ∧ o1.1 < gA t 39 5) ∧ (cM t o1.1.toNat ≤ 0 ∧ vM t o1.1.toNat ≤ 0) ∧ TkE t o1.2 o1.1.toNat ((hM t).1 p'.toNat) := fun o1 eo z => by
    have lv := KB.1
    rw [hbb] at lv
    have W := (wp_det (w_x12_taken hRt ⟨hNn, hN0⟩ hC ⟨lv.1.1, by omega⟩ ⟨hp'.1, by omega⟩) eo).2.2
    rcases W with w | w
    · omega
    · exact w.2
  have g1 := s_own (by omega) q e1
  have g2 := m_own hp'.1 h0 (fun o1 eo z => by
    have w := hq o1 eo z
    refine ⟨w.1.1, fun e => ?_, ?_⟩
    · rw [e] at w; have := w.2.1.1; omega
    · rw [← hbb]
      have ne : o1.1.toNat ≠ b := fun e => by rw [e] at w; have := w.2.1.1; rw [hbb] at this; omega
      have : (hM o1.2).2.1 b = (hM t).2.1 b := w.2.2.1 (20 + 16 * b) (by omega)
      rw [this]; exact KB.1.1.2.1.2) o e2
  rw [pn] at g1
  rw [← hbb] at g2
  rcases g1 with ⟨a1, rfl⟩ | ⟨a1, q1, eq1, a2⟩
  · rcases g2 with ⟨a3, rfl⟩ | ⟨a3, _⟩
    · refine Or.inr ⟨h0, by show 0 ≤ p; omega, hp'.1, π, σ, h, ?_, fun _ _ _ => rfl, ROW_rf _ _, fun _ _ => ROW_rf _ _, fun _ _ hl => Or.inr hl, Or.inl rfl⟩
      show p = (π p'.toNat : Int)
      exact hpp
    · exact absurd ⟨⟨by have := a1.1.2.1; omega, by have := a1.1.2.2; omega⟩, by have := a1.2; omega⟩ a3
  · rcases g2 with ⟨a3, _⟩ | ⟨_, o1, eo1, a4⟩
    · exact absurd ⟨⟨⟨by omega, by omega⟩, by rw [cb.1]; exact a3.1.1, by rw [cb.2]; exact a3.1.2⟩, by rw [cb.1]; exact a3.2⟩ a1
    have lev : gA s 56 (π b) = (hM t).1 b := BB.1
    rw [lev] at eq1
    have lvb := KB.1
    have W1 := (wp_det (ts_take hR S0 zZ hE1 ⟨lvb.1.1, by omega⟩ (p1 := p) ⟨by omega, by omega⟩) eq1).2.2
    have W1' : q1.1 = -1 ∨ ((0 ≤ q1.1 ∧ q1.1 < gI s 1060) ∧ (gA s 54 q1.1.toNat = 0 ∧ gA s 55 q1.1.toNat = 0) ∧ (gA q1.2 54 = upZ (gA s 54) q1.1.toNat 1 ∧ gA q1.2 56 = upZ (gA s 56) q1.1.toNat ((hM t).1 b) ∧ gA q1.2 57 = upZ (gA s 57) q1.1.toNat 0)) := W1.imp id (fun w => ⟨w.1, w.2.1, w.2.2.1⟩)
    have hq' := hq
    rw [← hbb] at hq'
    have Y := y_take h hK (by rw [hb]; exact hN0) h0 eq1 eo1 W1' (by
      have W := (wp_det (w_x12_taken hRt ⟨hNn, hN0⟩ hC ⟨lvb.1.1, by omega⟩ ⟨hp'.1, by omega⟩) eo1).2.2
      exact W)
    rcases Y with ⟨y1, y2⟩ | ⟨y1, y2, y3, y3', y4, TK, π1, σ1, H1, y5, y6⟩
    · rcases a2 with ⟨_, z⟩ | ⟨z, _⟩
      · rcases a4 with ⟨_, rfl⟩ | ⟨w, _⟩
        · exact Or.inl ⟨z, y2⟩
        · omega
      · exact absurd y1 z
    rcases a2 with ⟨z, _⟩ | ⟨_, O1⟩
    · omega
    rcases a4 with ⟨z, _⟩ | ⟨_, oo, O2⟩
    · exact absurd y1 z
    obtain ⟨qq, s2, el, lA, lI, lL, lc⟩ := O1
    obtain ⟨c, hcc⟩ : ∃ c, c = q1.1.toNat := ⟨_, rfl⟩
    obtain ⟨r, hrr⟩ : ∃ r, r = o1.1.toNat := ⟨_, rfl⟩
    rw [← hrr] at TK y4 y5 O2
    have hr : r < 48 := by omega
    have cr : π1 r = c := by omega
    have c48 : c < 48 := by rw [← cr]; exact (H1.1.1 r hr).1.1
    have rb : r ≠ b := fun e => y4 (by rw [e]; exact lb)
    have P1 := H1.1.1
    have F1 : F_x1_take s q1.2 := fr_x1_take eq1
    have kb1 : π1 b = π b := y6 b hb48 lb
    have ub : gA q1.2 57 (π b) = gA s 57 (π b) := by
      rcases W1' with w | w
      · omega
      · rw [w.2.2.2.2, upZ_n]
        intro e
        have z := w.2.1
        rw [← e, cb.1, cb.2] at z
        unfold LV at lb; omega
    have z6 : gA s 57 (π b) = (hM t).2.1 b := BB.2.1
    have R1 : Rg q1.2 := (wp_det (ts_take hR S0 zZ hE1 ⟨lvb.1.1, by omega⟩ (p1 := p) ⟨by omega, by omega⟩) eq1).1
    obtain ⟨R2, l57, l58, l59⟩ := wp_det (w_x1_layEntries R1 ⟨by omega, by omega⟩ ⟨by omega, by omega⟩ (p1 := 0) ⟨by omega, by rw [pn, ub, z6]; exact lvb.1.2.1.1, by rw [pn, ub, z6]; exact lvb.1.2.1.2⟩) el
    rw [pn, ub, z6, ← hcc] at l57 l58 l59
    have F2 : F_x1_layEntries q1.2 s2 := fr_x1_layEntries el
    -- the class's rows at the end
    have A54 : ∀ k, k ≠ 54 → k ≠ 50 → k ≠ 57 → k ≠ 58 → k ≠ 59 → gA q.2 k = gA q1.2 k := fun k k1 k2 k3 k4 k5 => (lA k k1 k2).trans (F2.2.1 k (by simp; omega))
    have A57 : gA q.2 57 = upZ (gA q1.2 57) c ((hM t).2.1 b) := by
      rw [lA 57 (by decide) (by decide), l57, show (hM t).2.1 b - 0 = (hM t).2.1 b by omega]
    have szb := lvb.1.2.1
    have E58 : ∀ k : Nat, (k : Int) < (hM t).2.1 b → gA q.2 58 (6 * c + k) = gA s 58 (6 * π b + k) ∧ gA q.2 59 (6 * c + k) = gA s 59 (6 * π b + k) := fun k hk => by
      rw [lA 58 (by decide) (by decide), lA 59 (by decide) (by decide), l58, l59, cpa_at (by omega), cpa_at (by omega), F1.2.1 58 (by decide), F1.2.1 59 (by decide), show 6 * π b + Int.toNat 0 + k = 6 * π b + k by omega]
      exact ⟨rfl, rfl⟩
    have N58 : ∀ i : Nat, ¬ (6 * c ≤ i ∧ i < 6 * c + 6) → gA q.2 58 i = gA s 58 i ∧ gA q.2 59 i = gA s 59 i := fun i hi => by
      rw [lA 58 (by decide) (by decide), lA 59 (by decide) (by decide), l58, l59, cpa_out (by omega), cpa_out (by omega), F1.2.1 58 (by decide), F1.2.1 59 (by decide)]
      exact ⟨rfl, rfl⟩
    -- the reference's
    obtain ⟨m1, m2, m3, m4, m5⟩ := O2
    have t1 : ∀ i, ¬ (17 + 16 * r ≤ i ∧ i < 33 + 16 * r) → gA o1.2 49 i = gA t 49 i := TK.1
    have H2 : ∀ x, x ≠ r → (hM o.2).1 x = (hM t).1 x ∧ (hM o.2).2.1 x = (hM t).2.1 x ∧ (∀ k, (hM o.2).2.2 x k = (hM t).2.2 x k ∧ kM o.2 x k = kM t x k) ∧ vM o.2 x = vM t x := fun x hx => by
      refine ⟨?_, ?_, fun k => ?_, ?_⟩
      · show gA o.2 49 (19 + 16 * x) = gA t 49 (19 + 16 * x)
        rw [m2 _ (by omega) (by omega), t1 _ (by omega)]
      · show gA o.2 49 (20 + 16 * x) = gA t 49 (20 + 16 * x)
        rw [m2 _ (by omega) (by omega), t1 _ (by omega)]
      · show (if k < 6 then gA o.2 49 (27 + 16 * x + k) else 0) = (if k < 6 then gA t 49 (27 + 16 * x + k) else 0) ∧ (if k < 6 then gA o.2 49 (21 + 16 * x + k) else 0) = if k < 6 then gA t 49 (21 + 16 * x + k) else 0
        by_cases z : k < 6
        · rw [if_pos z, if_pos z, if_pos z, if_pos z, m2 _ (by omega) (by omega), m2 _ (by omega) (by omega), t1 _ (by omega), t1 _ (by omega)]
          exact ⟨rfl, rfl⟩
        · rw [if_neg z, if_neg z, if_neg z, if_neg z]
          exact ⟨rfl, rfl⟩
      · show gA o.2 49 (18 + 16 * x) = gA t 49 (18 + 16 * x)
        rw [m2 _ (by omega) (by omega), t1 _ (by omega)]
    have Hr : (hM o.2).1 r = (hM t).1 b ∧ (hM o.2).2.1 r = (hM t).2.1 b ∧ (∀ k, (hM o.2).2.2 r k = (hM t).2.2 b k ∧ kM o.2 r k = kM t b k) ∧ vM o.2 r = 0 := by
      have cp : ∀ j : Nat, 3 ≤ j → j < 16 → gA o.2 49 (17 + 16 * r + j) = gA t 49 (17 + 16 * b + j) := fun j a1 a2 => by
        rw [m1 j a1 a2, t1 _ (by omega)]
      refine ⟨?_, ?_, fun k => ?_, ?_⟩
      · show gA o.2 49 (19 + 16 * r) = _
        rw [m2 _ (by omega) (by omega)]; exact TK.2.2.1
      · have := cp 3 (by omega) (by omega)
        rw [show 17 + 16 * r + 3 = 20 + 16 * r by omega, show 17 + 16 * b + 3 = 20 + 16 * b by omega] at this
        exact this
      · show (if k < 6 then gA o.2 49 (27 + 16 * r + k) else 0) = (if k < 6 then gA t 49 (27 + 16 * b + k) else 0) ∧ (if k < 6 then gA o.2 49 (21 + 16 * r + k) else 0) = if k < 6 then gA t 49 (21 + 16 * b + k) else 0
        by_cases z : k < 6
        · have d1 := cp (10 + k) (by omega) (by omega)
          have d2 := cp (4 + k) (by omega) (by omega)
          rw [show 17 + 16 * r + (10 + k) = 27 + 16 * r + k by omega, show 17 + 16 * b + (10 + k) = 27 + 16 * b + k by omega] at d1
          rw [show 17 + 16 * r + (4 + k) = 21 + 16 * r + k by omega, show 17 + 16 * b + (4 + k) = 21 + 16 * b + k by omega] at d2
          rw [if_pos z, if_pos z, if_pos z, if_pos z, d1, d2]
          exact ⟨rfl, rfl⟩
        · rw [if_neg z, if_neg z, if_neg z, if_neg z]
          exact ⟨rfl, rfl⟩
      · show gA o.2 49 (18 + 16 * r) = 0
        rw [m2 _ (by omega) (by omega)]; exact TK.2.1.2
    have c1v : vM o1.2 = vM t := by
      have nr : ¬ 0 < vM t r := fun z => y4 (Or.inr z)
      have := (hK.1 r hr).2
      exact TkE_v TK (by omega)
    have c1c : cM o1.2 = upZ (cM t) r 1 := TkE_c TK
    -- who stood then
    have LO : ∀ x, x < 48 → LV o1.2 x → x = r ∨ LV t x := fun x hx hl => by
      by_cases z : x = r
      · exact Or.inl z
      · unfold LV at hl ⊢
        rw [c1c, c1v, upZ_n z] at hl
        exact Or.inr hl
    have BX1 : ∀ x, x < 48 → LV o1.2 x → BR1 π1 (hN q.2) (hM o.2) (kN q.2) (kM o.2) x := fun x hx hl => by
      rcases LO x hx hl with z | z
      · rw [z]
        refine ⟨?_, ?_, fun k hk => ?_⟩
        · show gA q.2 56 (π1 r) = (hM o.2).1 r
          rw [A54 56 (by decide) (by decide) (by decide) (by decide) (by decide), Hr.1, cr]
          rcases W1' with w | w
          · omega
          · rw [w.2.2.2.1, ← hcc, upZ_s]
        · show gA q.2 57 (π1 r) = (hM o.2).2.1 r
          rw [A57, cr, upZ_s, Hr.2.1]
        · rw [Hr.2.1] at hk
          have e := E58 k hk
          have B2 := BB.2.2 k hk
          have k1 := (Hr.2.2.1 k).1
          have k2 := (Hr.2.2.1 k).2
          show gA q.2 58 (6 * π1 r + k) = _ ∧ (_ → gA q.2 59 (6 * π1 r + k) = _) ∧ (_ → gA q.2 59 (6 * π1 r + k) = _)
          rw [cr, e.1, e.2, k1, k2, Hr.1]
          refine ⟨B2.1, fun w => ?_, B2.2.2⟩
          have kid := KB.2 w k hk
          rw [y6 _ (by omega) kid.2]
          exact B2.2.1 w
      · have xr : x ≠ r := fun e => y4 (by rw [← e]; exact z)
        have B := sim_b h hx z
        have S := H2 x xr
        have kx := y6 x hx z
        have xc : π x ≠ c := fun e => xr (PB_i P1 hx hr (by rw [kx, e, cr]))
        have KX' := hK.2.1 x hx z
        refine ⟨?_, ?_, fun k hk => ?_⟩
        · show gA q.2 56 (π1 x) = (hM o.2).1 x
          rw [A54 56 (by decide) (by decide) (by decide) (by decide) (by decide), S.1, kx]
          rcases W1' with w | w
          · omega
          · rw [w.2.2.2.1, ← hcc, upZ_n xc]; exact B.1
        · show gA q.2 57 (π1 x) = (hM o.2).2.1 x
          rw [A57, kx, upZ_n xc, S.2.1]
          rcases W1' with w | w
          · omega
          · rw [w.2.2.2.2, ← hcc, upZ_n xc]; exact B.2.1
        · rw [S.2.1] at hk
          have B2 := B.2.2 k hk
          have sz := KX'.1.1.2.1
          have nn := N58 (6 * π x + k) (by omega)
          show gA q.2 58 (6 * π1 x + k) = _ ∧ (_ → gA q.2 59 (6 * π1 x + k) = _) ∧ (_ → gA q.2 59 (6 * π1 x + k) = _)
          rw [kx, nn.1, nn.2, (S.2.2.1 k).1, (S.2.2.1 k).2, S.1]
          refine ⟨B2.1, fun w => ?_, B2.2.2⟩
          have kid := KX'.2 w k hk
          rw [y6 _ (by omega) kid.2]
          exact B2.2.1 w
    -- nodes
    have lev0 : ∀ x, x < 48 → LV t x → (hM o.2).1 x = (hM t).1 x := fun x hx hl => (H2 x (fun e => y4 (by rw [← e]; exact hl))).1
    have NX : ∀ x, x < 48 → LV o1.2 x → Nd (hM o.2) (gI q.2 1060) x ∧ (hM o.2).1 x ≤ 48 := fun x hx hl => by
      have e60 : gI q.2 1060 = gA t 39 5 := by rw [lI, F2.1 1060 (by decide), F1.1 1060 (by decide)]; exact hb
      rw [e60]
      rcases LO x hx hl with z | z
      · rw [z]
        refine ⟨⟨by rw [Hr.1]; exact lvb.1.1, by rw [Hr.2.1]; exact lvb.1.2.1, fun w k hk => ?_⟩, by rw [Hr.1]; exact lvb.2⟩
        rw [Hr.1] at w ⊢
        rw [Hr.2.1] at hk
        rw [(Hr.2.2.1 k).1]
        have kid := KB.2 w k hk
        rw [lev0 _ (by omega) kid.2]
        exact lvb.1.2.2 w k hk
      · have S := H2 x (fun e => y4 (by rw [← e]; exact z))
        have KX' := hK.2.1 x hx z
        refine ⟨Nd_ext KX'.1.1 S.1 S.2.1 (fun k _ => (S.2.2.1 k).1) (fun w k hk => ?_), by rw [S.1]; exact KX'.1.2⟩
        have kid := KX'.2 w k hk
        exact lev0 _ (by omega) kid.2
    -- counts
    rcases w1 with w1 | ⟨w10, w1⟩
    · omega
    rcases w2 with w2 | ⟨w20, w21, M', w2⟩
    · have := w2.1; rw [m4] at this; omega
    have TSq := w1.2.2.2.2.2.2
    have TMo := w2.2.2.2.2.2.1.1
    have N2 : (∀ x, x < 48 → 0 ≤ gA q.2 54 x) ∧ ∀ x, x < 48 → 0 ≤ cM o.2 x := ⟨fun x hx => (TSq.1.2.1 x hx).1, fun x hx => (TMo.1.2.1 x hx).1⟩
    have PBq : PNM π1 σ1 (gI q.2 1060) := by
      rw [lI, F2.1 1060 (by decide)]; exact P1
    have oq : o.1.toNat = r := by rw [oo, hrr]
    have qc : q.1.toNat = c := by rw [qq, hcc]
    have rts : ∀ u, u < 8 → rtr π1 (gA q.2 60 u) (gA o.2 49 u) ∧ rtr π1 (gA q.2 61 u) (gA o.2 49 (8 + u)) := fun u hu => by
      rw [A54 60 (by decide) (by decide) (by decide) (by decide) (by decide), A54 61 (by decide) (by decide) (by decide) (by decide) (by decide)]
      rw [w2.2.2.2.2.1 u (by omega), w2.2.2.2.2.1 (8 + u) (by omega), ← TkE_u TK (show u < 17 by omega), ← TkE_u TK (show 8 + u < 17 by omega)]
      exact H1.1.2.2.2 u hu
    have CD : ∀ x, x < 48 → gA q.2 54 (π1 x) = cM o.2 x := by
      refine cnt_det (k1 := kN q.2) (k2 := kM o.2) (h1 := hN q.2) (h2 := hM o.2) (r1 := gA q.2 60) (r2 := rM o.2) (L := LV o1.2) (E1 := fun x => Z0 (π1 x) + (if π1 x = q.1.toNat then 1 else 0) - (if π1 x = p.toNat then 1 else 0)) (E2 := fun x => dq o.1.toNat x - dq p'.toNat x) PBq (by rw [lI, F2.1 1060 (by decide), F1.1 1060 (by decide), hb]; exact hN0) (fun x hx hl => ⟨BX1 x hx hl, NX x hx hl⟩) N2.1 N2.2 (fun x hx w => ?_) (fun x hx w => ?_) (fun x hx => TSq.2.1.1 (π1 x) (P1 x hx).1.1) (fun x hx => TMo.2.1.1 x hx) (fun x hx => ?_) (fun u hu => ?_)
      · refine Classical.byContradiction (fun nl => ?_)
        have cx := sim_c H1 hx
        have ub1 : gA q.2 54 (π1 x) ≤ gA s2 54 (π1 x) := by
          refine lc (π1 x) (fun k w1 hk e => nl ?_)
          rw [← hcc] at w1 hk e
          rw [l57, upZ_s] at hk
          have hk' : (k : Int) < (hM t).2.1 b := by omega
          rw [l59, cpa_at (by omega), F1.2.1 59 (by decide), show 6 * π b + Int.toNat 0 + k = 6 * π b + k by omega] at e
          have w3 : 0 < (hM t).1 b := by
            rw [F2.2.1 56 (by decide)] at w1
            rcases W1' with w4 | w4
            · omega
            · rw [w4.2.2.2.1, ← hcc, upZ_s] at w1; exact w1
          have B2 := (BB.2.2 k hk').2.1 w3
          have kid := KB.2 w3 k hk'
          have e2 : gA s 59 (6 * π b + k) = (π ((hM t).2.2 b k).toNat : Int) := B2
          rw [e2, ← y6 _ (by omega) kid.2] at e
          have e3 : ((hM t).2.2 b k).toNat = x := PB_i P1 (by omega) hx (by omega)
          have k2 := kid.2
          rw [e3] at k2
          unfold LV at k2 ⊢
          rw [c1c, c1v]
          by_cases z : x = r
          · exact absurd k2 (by rw [z]; exact y4)
          · rw [upZ_n z]; exact k2
        rw [F2.2.1 54 (by decide), cx.1] at ub1
        have : 0 < cM o1.2 x := by omega
        exact nl (Or.inl this)
      · refine Classical.byContradiction (fun nl => ?_)
        have ub1 := m5 x (fun k w1 hk e => nl ?_)
        · have : 0 < cM o1.2 x := by omega
          exact nl (Or.inl this)
        · have e1 : (hM o1.2).1 b = (hM t).1 b := t1 _ (by omega)
          have e2 : (hM o1.2).2.1 b = (hM t).2.1 b := t1 _ (by omega)
          rw [e1] at w1
          rw [e2] at hk
          have e3 : (hM o1.2).2.2 b k = (hM t).2.2 b k := by
            show (if k < 6 then gA o1.2 49 (27 + 16 * b + k) else 0) = if k < 6 then gA t 49 (27 + 16 * b + k) else 0
            by_cases z : k < 6
            · rw [if_pos z, if_pos z]; exact t1 _ (by omega)
            · rw [if_neg z, if_neg z]
          rw [e3] at e
          have kid := KB.2 w1 k hk
          have k2 := kid.2
          rw [e, Int.toNat_natCast] at k2
          unfold LV at k2 ⊢
          rw [c1c, c1v]
          by_cases z : x = r
          · exact absurd k2 (by rw [z]; exact y4)
          · rw [upZ_n z]; exact k2
      · show Z0 (π1 x) + (if π1 x = q.1.toNat then 1 else 0) - (if π1 x = p.toNat then 1 else 0) = dq o.1.toNat x - dq p'.toNat x
        have i1 : π1 x = q.1.toNat ↔ x = o.1.toNat := by
          rw [qc, oq, ← cr]
          exact ⟨fun e => PB_i P1 hx hr e, fun e => by rw [e]⟩
        have i2 : π1 x = p.toNat ↔ x = p'.toNat := by
          rw [pn, ← hbb, ← kb1]
          exact ⟨fun e => PB_i P1 hx hb48 e, fun e => by rw [e]⟩
        have zz : Z0 (π1 x) = 0 := rfl
        have d1 : dq o.1.toNat x = if x = o.1.toNat then 1 else 0 := rfl
        have d2 : dq p'.toNat x = if x = p'.toNat then 1 else 0 := rfl
        rw [zz, d1, d2]
        by_cases z1 : x = o.1.toNat
        · rw [if_pos (i1.2 z1), if_pos z1]
          by_cases z2 : x = p'.toNat
          · rw [if_pos (i2.2 z2), if_pos z2]; rfl
          · rw [if_neg (fun w => z2 (i2.1 w)), if_neg z2]; rfl
        · rw [if_neg (fun w => z1 (i1.1 w)), if_neg z1]
          by_cases z2 : x = p'.toNat
          · rw [if_pos (i2.2 z2), if_pos z2]; rfl
          · rw [if_neg (fun w => z2 (i2.1 w)), if_neg z2]; rfl
      · rw [rM_v hu]; exact (rts u hu).1
    -- all
    have vq : ∀ x, x < 48 → gA q.2 55 (π1 x) = vM o.2 x := fun x hx => by
      rw [A54 55 (by decide) (by decide) (by decide) (by decide) (by decide), (sim_c H1 hx).2, c1v]
      by_cases z : x = r
      · have nr : ¬ 0 < vM t r := fun w => y4 (Or.inr w)
        have := (hK.1 r hr).2
        rw [z, Hr.2.2.2]; omega
      · exact (H2 x z).2.2.2.symm
    have LB : ∀ x, x < 48 → LV o.2 x → LV o1.2 x := fun x hx hl => by
      refine Classical.byContradiction (fun nl => ?_)
      rcases hl with w | w
      · have ub1 := m5 x (fun k w1 hk e => nl ?_)
        · have : 0 < cM o1.2 x := by omega
          exact nl (Or.inl this)
        · have e1 : (hM o1.2).1 b = (hM t).1 b := t1 _ (by omega)
          have e2 : (hM o1.2).2.1 b = (hM t).2.1 b := t1 _ (by omega)
          rw [e1] at w1
          rw [e2] at hk
          have e3 : (hM o1.2).2.2 b k = (hM t).2.2 b k := by
            show (if k < 6 then gA o1.2 49 (27 + 16 * b + k) else 0) = if k < 6 then gA t 49 (27 + 16 * b + k) else 0
            by_cases z : k < 6
            · rw [if_pos z, if_pos z]; exact t1 _ (by omega)
            · rw [if_neg z, if_neg z]
          rw [e3] at e
          have kid := KB.2 w1 k hk
          have k2 := kid.2
          rw [e, Int.toNat_natCast] at k2
          unfold LV at k2 ⊢
          rw [c1c, c1v]
          by_cases z : x = r
          · exact absurd k2 (by rw [z]; exact y4)
          · rw [upZ_n z]; exact k2
      · rw [← vq x hx, A54 55 (by decide) (by decide) (by decide) (by decide) (by decide), (sim_c H1 hx).2] at w
        exact nl (Or.inr w)
    refine Or.inr ⟨by rw [m4]; exact y1, by omega, by omega, π1, σ1, ⟨⟨PBq, fun x hx => ⟨CD x hx, vq x hx⟩, fun x hx hl => BX1 x hx (LB x hx hl), rts⟩, ?_, fun x hx hl => ?_⟩, by rw [oq]; omega, y6, by
      rw [oq, ← hbb]
      exact ⟨⟨Hr.1, Hr.2.1, Hr.2.2.1⟩, fun x hx => ⟨(H2 x hx).1, (H2 x hx).2.1, (H2 x hx).2.2.1⟩, fun x hx hl => LO x hx (LB x hx hl), Or.inr y4⟩⟩
    · rw [lI, F2.1 1060 (by decide), m3 39 (by decide) (by decide)]; exact H1.2.1
    · have l1 := LB x hx (Or.inl hl)
      have e54 : gA o.2 54 = gA o1.2 54 := m3 54 (by decide) (by decide)
      rw [lL, F2.2.2.1 1062 (by decide), e54]
      rcases l1 with w | w
      · exact H1.2.2 x hx w
      · -- counted anew: it was named by the block copied
        have c2 : 0 < cM o1.2 x := Classical.byContradiction (fun nc => by
          have ub1 := m5 x (fun k w1 hk e => nc ?_)
          · omega
          · have e1 : (hM o1.2).1 b = (hM t).1 b := t1 _ (by omega)
            have e2 : (hM o1.2).2.1 b = (hM t).2.1 b := t1 _ (by omega)
            rw [e1] at w1
            rw [e2] at hk
            have e3 : (hM o1.2).2.2 b k = (hM t).2.2 b k := by
              show (if k < 6 then gA o1.2 49 (27 + 16 * b + k) else 0) = if k < 6 then gA t 49 (27 + 16 * b + k) else 0
              by_cases z : k < 6
              · rw [if_pos z, if_pos z]; exact t1 _ (by omega)
              · rw [if_neg z, if_neg z]
            rw [e3] at e
            have c' : 0 < cM t b := by rw [hbb]; exact hc
            have kd := (TG_kid T0 (fun x _ => Int.le_refl 0) hb48 c' w1 hk).2.2
            rw [e, Int.toNat_natCast] at kd
            rw [c1c]
            by_cases z : x = r
            · rw [z, upZ_s]; decide
            · rw [upZ_n z]; exact kd)
        exact H1.2.2 x hx c2
/-! ===== entries of one block change on both sides ===== -/
def LM (s o : MS) (c : Nat) : Prop := ∀ x, x < 48 → (bW (gL o 1062) x ↔ (x = c ∨ bW (gL s 1062) x))
def TT (t o : MS) (b : Nat) : Prop := gA o 54 b ≠ 0 ∧ ∀ x, x ≠ b → gA o 54 x = gA t 54 x
set_option maxHeartbeats 250000 in theorem TT_t {t o q : MS} {b : Nat} (h : TT t o b) (g : TT o q b) : TT t q b := ⟨g.1, fun x hx => (g.2 x hx).trans (h.2 x hx)⟩
set_option maxHeartbeats 250000 in theorem s_mark {p : Int} {s : MS} (hp : 0 ≤ p ∧ p < 48) : pc (m_x8_mark p s) (fun o => LM s o p.toNat) := by
  unfold m_x8_mark
  refine pc_stn (fun s1 e1 => pc_some (fun x hx => ?_))
  rw [(q_LL e1 : gL s1 1062 = _), show p = (p.toNat : Int) by omega, bW_or (by omega) hx]
  rw [show (((p.toNat : Nat) : Int)).toNat = p.toNat by omega]
set_option maxHeartbeats 250000 in theorem LM_e {s s' o : MS} {c : Nat} (h : LM s' o c) (e : gL s' 1062 = gL s 1062) : LM s o c := fun x hx => by rw [h x hx, e]
set_option maxHeartbeats 250000 in theorem s_insM {p0 p1 p2 p3 : Int} {s : MS} (hp : 0 ≤ p0 ∧ p0 < 48) (h1 : 0 ≤ p1 ∧ p1 ≤ gA s 57 p0.toNat ∧ gA s 57 p0.toNat ≤ 5) : pc (m_x8_insert p0 p1 p2 p3 s) (fun o => LM s o p0.toNat) := by
  have L : ∀ (n : Nat) (x1 x2 x3 x4 x5 : Int) (S : MS), x1 = p0 → gL S 1062 = gL s 1062 → pc (m_x8_insert_L47 n x1 x2 x3 x4 x5 S) (fun o => LM s o p0.toNat) := by
    refine fr_ind (fun _ _ _ _ _ _ _ _ => pc_none) (fun n ih x1 x2 x3 x4 x5 S e hL => ?_)
    show pc (m_x8_insert_b47 (m_x8_insert_L47 n) x1 x2 x3 x4 x5 S) _
    unfold m_x8_insert_b47
    refine pc_rg (pc_rg (pc_if (fun _ => pc_inb (pc_stn (fun s11 e11 => pc_inb (pc_stn (fun s13 e13 => pc_rdI (fun _ => pc_inb (pc_stn (fun s16 e16 => pc_bn (fun s18 e18 => pc_some ?_))))))))) (fun _ => pc_rdI (fun _ => pc_inb (pc_stn (fun s21 e21 => pc_rdI (fun _ => pc_inb (pc_stn (fun s24 e24 => ih _ _ _ _ _ s24 e ((q_Al e24).trans ((q_Al e21).trans hL)))))))))))
    rw [e] at e18
    exact LM_e (s_mark hp s18 e18) ((q_Al e16).trans ((q_Al e13).trans ((q_Al e11).trans hL)))
  unfold m_x8_insert m_x8_slot
  refine pc_rg (pc_if (fun c => absurd c (by omega)) (fun _ => pc_rdI (fun _ => pc_rg (pc_rg (pc_if (fun c => absurd c (by omega)) (fun _ => pc_rdI (fun _ => pc_rg (pc_if (fun _ => pc_bn (fun r36 _ => pc_rdI (fun _ => pc_bn (fun r39 _ => L FU _ _ _ _ _ s rfl rfl)))) (fun c => absurd (by omega) c)))))))))
set_option maxHeartbeats 250000 in theorem s_delM {p0 p1 : Int} {s : MS} (hp : 0 ≤ p0 ∧ p0 < 48) (h1 : 0 ≤ p1 ∧ p1 < gA s 57 p0.toNat) : pc (m_x8_delete p0 p1 s) (fun o => LM s o p0.toNat) := by
  have L : ∀ (n : Nat) (x1 x2 x3 : Int) (S : MS), x1 = p0 → gL S 1062 = gL s 1062 → pc (m_x8_delete_L45 n x1 x2 x3 S) (fun o => LM s o p0.toNat) := by
    refine fr_ind (fun _ _ _ _ _ _ => pc_none) (fun n ih x1 x2 x3 S e hL => ?_)
    show pc (m_x8_delete_b45 (m_x8_delete_L45 n) x1 x2 x3 S) _
    unfold m_x8_delete_b45
    refine pc_rg (pc_rg (pc_if (fun _ => pc_bn (fun s9 e9 => pc_some ?_)) (fun _ => pc_rdI (fun _ => pc_inb (pc_stn (fun s12 e12 => pc_rdI (fun _ => pc_inb (pc_stn (fun s15 e15 => ih _ _ _ s15 e ((q_Al e15).trans ((q_Al e12).trans hL)))))))))))
    rw [e] at e9
    exact LM_e (s_mark hp s9 e9) hL
  unfold m_x8_delete m_x8_slot
  exact pc_rg (pc_if (fun c => absurd c (by omega)) (fun _ => pc_rdI (fun _ => pc_rg (pc_rg (pc_if (fun _ => pc_rdI (fun _ => pc_inb (pc_stn (fun s25 e25 => pc_rdI (fun _ => pc_bn (fun r28 _ => pc_bn (fun r30 _ => L FU _ _ _ s25 rfl (q_Al e25)))))))) (fun c => absurd h1.2 c))))))
set_option maxHeartbeats 250000 in theorem s_setM {p0 p1 p2 : Int} {s : MS} (hp : 0 ≤ p0 ∧ p0 < 48) (h1 : 0 ≤ p1) : pc (m_x8_set p0 p1 p2 s) (fun o => (gA s 59 (6 * p0.toNat + p1.toNat) = p2 ∧ o = s) ∨ (gA s 59 (6 * p0.toNat + p1.toNat) ≠ p2 ∧ LM s o p0.toNat)) := by
  unfold m_x8_set m_x8_slot m_x8_set_J32
  refine pc_bn (fun r3 e3 => ?_)
  cases e3
  refine pc_rdI (fun _ => pc_rg (pc_rg (pc_if (fun c => pc_some (Or.inl ⟨?_, rfl⟩)) (fun c => pc_inb (pc_stn (fun s9 e9 => pc_bn (fun s11 e11 => pc_some (Or.inr ⟨?_, ?_⟩))))))))
  · rw [show 6 * p0.toNat + p1.toNat = (p0 * 6 + p1).toNat by omega]; exact c
  · rw [show 6 * p0.toNat + p1.toNat = (p0 * 6 + p1).toNat by omega]; exact c
  · exact LM_e (s_mark hp s11 e11) (q_Al e9)
/-! the reference -/
set_option maxHeartbeats 250000 in theorem m_setT {p0 p1 p2 p3 : Int} {t : MS} (hp : 0 ≤ p0) : pc (m_x12_setsEntry p0 p1 p2 p3 t) (fun o => TT t o p0.toNat) := by
  unfold m_x12_setsEntry
  refine pc_inb (pc_stn (fun s2 e2 => pc_inb (pc_stn (fun s4 e4 => pc_inb (pc_bo (pc_stn (fun s7 e7 => pc_some ⟨?_, fun x hx => ?_⟩)))))))
  · rw [(q_AA e7 : gA s7 54 = _), upZ_s]; decide
  · rw [(q_AA e7 : gA s7 54 = _), upZ_n hx, (q_Aa e4 (by decide) : gA s4 54 = gA s2 54), (q_Aa e2 (by decide) : gA s2 54 = gA t 54)]
set_option maxHeartbeats 250000 in theorem m_insT {p0 p1 p2 p3 : Int} {t : MS} (hp : 0 ≤ p0) : pc (m_x12_inserts p0 p1 p2 p3 t) (fun o => TT t o p0.toNat) := by
  have L : ∀ (n : Nat) (x1 x2 x3 x4 x5 : Int) (S : MS), x1 = p0 → (∀ x, x ≠ p0.toNat → gA S 54 x = gA t 54 x) → pc (m_x12_inserts_L7 n x1 x2 x3 x4 x5 S) (fun o => TT t o p0.toNat) := by
    refine fr_ind (fun _ _ _ _ _ _ _ _ => pc_none) (fun n ih x1 x2 x3 x4 x5 S e hS => ?_)
    show pc (m_x12_inserts_b7 (m_x12_inserts_L7 n) x1 x2 x3 x4 x5 S) _
    unfold m_x12_inserts_b7
    refine pc_rg (pc_rg (pc_if (fun _ => pc_bn (fun s11 e11 => pc_rdI (fun _ => pc_inb (pc_stn (fun s14 e14 => pc_some ?_))))) (fun _ => pc_bn (fun r16 _ => pc_bn (fun r18 _ => pc_bn (fun s20 e20 => ih _ _ _ _ _ s20 e (fun x hx => ?_)))))))
    · rw [e] at e11
      have k := m_setT hp s11 e11
      exact ⟨by rw [(q_Aa e14 (by decide) : gA s14 54 = gA s11 54)]; exact k.1, fun x hx => by rw [(q_Aa e14 (by decide) : gA s14 54 = gA s11 54), k.2 x hx, hS x hx]⟩
    · rw [e] at e20
      have k := m_setT hp s20 e20
      rw [k.2 x hx, hS x hx]
  unfold m_x12_inserts
  exact pc_bn (fun r22 _ => L FU _ _ _ _ _ t rfl (fun _ _ => rfl))
set_option maxHeartbeats 250000 in theorem m_cutT {p0 p1 : Int} {t : MS} (hp : 0 ≤ p0) : pc (m_x12_cutsEntry p0 p1 t) (fun o => TT t o p0.toNat) := by
  have L : ∀ (n : Nat) (x1 x2 : Int) (S : MS), x1 = p0 → (∀ x, x ≠ p0.toNat → gA S 54 x = gA t 54 x) → pc (m_x12_cutsEntry_L2 n x1 x2 S) (fun o => TT t o p0.toNat) := by
    refine fr_ind (fun _ _ _ _ _ => pc_none) (fun n ih x1 x2 S e hS => ?_)
    show pc (m_x12_cutsEntry_b2 (m_x12_cutsEntry_L2 n) x1 x2 S) _
    unfold m_x12_cutsEntry_b2
    refine pc_bn (fun r5 _ => pc_rg (pc_rg (pc_if (fun _ => pc_rdI (fun _ => pc_inb (pc_stn (fun s11 e11 => pc_inb (pc_bo (pc_stn (fun s14 e14 => pc_some ?_))))))) (fun _ => pc_bn (fun r16 _ => pc_bn (fun r18 _ => pc_bn (fun s20 e20 => ih _ _ s20 e (fun x hx => ?_))))))))
    · rw [e] at e14
      refine ⟨by rw [(q_AA e14 : gA s14 54 = _), upZ_s]; decide, fun x hx => ?_⟩
      rw [(q_AA e14 : gA s14 54 = _), upZ_n hx, (q_Aa e11 (by decide) : gA s11 54 = gA S 54), hS x hx]
    · rw [e] at e20
      have k := m_setT hp s20 e20
      rw [k.2 x hx, hS x hx]
  unfold m_x12_cutsEntry
  exact L FU _ _ t rfl (fun _ _ => rfl)
/- one block changes, the marks with it -/
set_option maxHeartbeats 250000 in theorem sim_blk {π σ : Nat → Nat} {s s' t t' : MS} {b : Nat} (h : SIM π σ s t) (hK : ∀ x, x < 48 → LV t x → 0 ≤ (hM t).2.1 x ∧ (hM t).2.1 x ≤ 6) (hb : b < 48)
    (c54 : gA s' 54 = gA s 54) (c55 : gA s' 55 = gA s 55) (c56 : gA s' 56 = gA s 56) (c60 : gA s' 60 = gA s 60) (c61 : gA s' 61 = gA s 61) (i60 : gI s' 1060 = gI s 1060)
    (z57 : ∀ x, x < 48 → x ≠ π b → gA s' 57 x = gA s 57 x) (z58 : ∀ x, x < 48 → x ≠ π b → ∀ k, k < 6 → gA s' 58 (6 * x + k) = gA s 58 (6 * x + k) ∧ gA s' 59 (6 * x + k) = gA s 59 (6 * x + k))
    (hX : BX t t' b) (t39 : gA t' 39 = gA t 39)
    (nz : gA s' 57 (π b) = (hM t').2.1 b) (ne : ∀ k : Nat, (k : Int) < (hM t').2.1 b → gA s' 58 (6 * π b + k) = kM t' b k ∧ (0 < (hM t).1 b → gA s' 59 (6 * π b + k) = (π ((hM t').2.2 b k).toNat : Int)) ∧ ((hM t).1 b ≤ 0 → gA s' 59 (6 * π b + k) = (hM t').2.2 b k))
    (hl : LV t b) (hW : (LM s s' (π b) ∧ TT t t' b) ∨ (gL s' 1062 = gL s 1062 ∧ gA t' 54 = gA t 54)) : SIM π σ s' t' := by
  have hP := h.1.1
  have cE : cM t' = cM t := BX_c hX
  have vE : vM t' = vM t := BX_v hX
  have lE : (hM t').1 = (hM t).1 := BX_l hX
  refine ⟨⟨by rw [i60]; exact hP, fun x hx => ?_, fun x hx hl' => ?_, fun v hv => ?_⟩, by rw [i60, t39]; exact h.2.1, fun x hx hc => ?_⟩
  · rw [c54, c55]
    show gA s 54 (π x) = cM t' x ∧ gA s 55 (π x) = vM t' x
    rw [cE, vE]; exact sim_c h hx
  · have hl2 : LV t x := by
      unfold LV
      rw [← cE, ← vE]; exact hl'
    have B := sim_b h hx hl2
    show BR1 π (hN s') (hM t') (kN s') (kM t') x
    by_cases z : x = b
    · rw [z]
      rw [z] at B
      refine ⟨?_, nz, fun k hk => ?_⟩
      · show gA s' 56 (π b) = (hM t').1 b
        rw [c56, lE]; exact B.1
      · show gA s' 58 (6 * π b + k) = _ ∧ (_ → gA s' 59 (6 * π b + k) = _) ∧ (_ → gA s' 59 (6 * π b + k) = _)
        rw [lE]; exact ne k hk
    · have px := (hP x hx).1.1
      have pz : π x ≠ π b := fun e => z (PB_i hP hx hb e)
      have sz := hK x hx hl2
      have eZ : (hM t').2.1 x = (hM t).2.1 x := BX_z hX z
      refine ⟨?_, ?_, fun k hk => ?_⟩
      · show gA s' 56 (π x) = (hM t').1 x
        rw [c56, lE]; exact B.1
      · show gA s' 57 (π x) = (hM t').2.1 x
        rw [z57 _ px pz, eZ]; exact B.2.1
      · rw [eZ] at hk
        have zz := z58 _ px pz k (by omega)
        have ee := BX_e (j := k) hX z
        show gA s' 58 (6 * π x + k) = _ ∧ (_ → gA s' 59 (6 * π x + k) = _) ∧ (_ → gA s' 59 (6 * π x + k) = _)
        rw [zz.1, zz.2, ee.1, ee.2, lE]
        exact B.2.2 k hk
  · show rtr π (gA s' 60 v) (gA t' 49 v) ∧ rtr π (gA s' 61 v) (gA t' 49 (8 + v))
    rw [c60, c61, BX_u hX (show v < 17 by omega), BX_u hX (show 8 + v < 17 by omega)]
    exact h.1.2.2.2 v hv
  · have hc' : 0 < cM t x := by rw [← cE]; exact hc
    have W := h.2.2 x hx hc'
    have px := (hP x hx).1.1
    rcases hW with ⟨a1, a2⟩ | ⟨a1, a2⟩
    · rw [a1 _ px]
      by_cases z : x = b
      · rw [z]
        exact ⟨fun _ => a2.1, fun _ => Or.inl rfl⟩
      · rw [a2.2 x z]
        exact ⟨fun w => W.1 (w.resolve_left (fun e => z (PB_i hP hx hb e))), fun w => Or.inr (W.2 w)⟩
    · rw [a1, a2]; exact W
/-! ===== an entry comes, goes, changes: on both sides ===== -/
set_option maxHeartbeats 250000 in theorem y_ins {π σ : Nat → Nat} {s s' t t' : MS} {b : Nat} {p1 key v1 v2 : Int} (h : SIM π σ s t) (hK : ∀ x, x < 48 → LV t x → 0 ≤ (hM t).2.1 x ∧ (hM t).2.1 x ≤ 6) (hR : Rg s) (hRt : Rr t) (hb : b < 48) (hl : LV t b)
    (hk : 0 ≤ p1 ∧ p1 ≤ (hM t).2.1 b) (hz : (hM t).2.1 b ≤ 5) (hkey : (-257) ≤ key ∧ key ≤ 65535) (hv1 : (-257) ≤ v1 ∧ v1 ≤ 65535) (hv2 : R2 v2) (hv : (0 < (hM t).1 b → v1 = (π v2.toNat : Int)) ∧ ((hM t).1 b ≤ 0 → v1 = v2))
    (e1 : m_x8_insert (π b : Int) p1 key v1 s = some s') (e2 : m_x12_inserts (b : Int) p1 key v2 t = some t') : SIM π σ s' t' ∧ BX t t' b ∧ (hM t').2.1 b = (hM t).2.1 b + 1 := by
  have hP := h.1.1
  have B := sim_b h hb hl
  have z1 : gA s 57 (π b) = (hM t).2.1 b := B.2.1
  have px := (hP b hb).1.1
  have tp : ((π b : Nat) : Int).toNat = π b := Int.toNat_natCast _
  have tb : ((b : Nat) : Int).toNat = b := Int.toNat_natCast _
  have W1 := wp_det (w_x8_insert hR (p0 := (π b : Int)) ⟨by omega, by omega⟩ ⟨hk.1, by rw [tp, z1]; exact hk.2, by rw [tp, z1]; exact hz⟩ ⟨by omega, by omega⟩ hv1) e1
  have W2 := wp_det (w_x12_inserts hRt (p0 := (b : Int)) ⟨by omega, by omega⟩ ⟨hk.1, by rw [tb]; exact hk.2⟩ (by rw [tb]; exact hz) ⟨by omega, by omega⟩ hv2) e2
  rw [tp, z1] at W1
  rw [tb] at W2
  obtain ⟨_, u57, ⟨a1, a2, a3⟩, ⟨d1, d2, d3⟩⟩ := W1
  obtain ⟨_, F2, hX, zz, g1, g2, g3⟩ := W2
  have F1 : F_x8_insert s s' := fr_x8_insert e1
  refine ⟨sim_blk h hK hb (F1.2.1 54 (by decide)) (F1.2.1 55 (by decide)) (F1.2.1 56 (by decide)) (F1.2.1 60 (by decide)) (F1.2.1 61 (by decide)) (F1.1 1060 (by decide)) (fun x hx hn => by rw [u57, upZ_n hn]) (fun x hx hn k h6 => ⟨a1 _ (by omega), d1 _ (by omega)⟩) hX (F2.2.1 39 (by decide)) (by rw [u57, upZ_s, zz]) (fun j hj => ?_) hl (Or.inl ⟨?_, ?_⟩), hX, zz⟩
  · have B2 := B.2.2
    rcases Nat.lt_trichotomy j p1.toNat with q | q | q
    · have c := B2 j (by omega)
      rw [a1 _ (by omega), d1 _ (by omega), (g1 j q).1, (g1 j q).2]
      exact c
    · rw [q, a2, d2, g2.1, g2.2]
      exact ⟨rfl, hv⟩
    · obtain ⟨i, hi⟩ : ∃ i, j = i + 1 := ⟨j - 1, by omega⟩
      rw [hi]
      have c := B2 i (by omega)
      have f1 := a3 i (by omega) (by omega)
      have f2 := d3 i (by omega) (by omega)
      have f3 := g3 i (by omega) (by omega)
      rw [f1, f2, f3.1, f3.2]
      exact c
  · have m := s_insM (p1 := p1) (p2 := key) (p3 := v1) (s := s) (p0 := (π b : Int)) ⟨by omega, by omega⟩ ⟨hk.1, by rw [tp, z1]; exact hk.2, by rw [tp, z1]; exact hz⟩ s' e1
    rw [tp] at m; exact m
  · have m := m_insT (p0 := (b : Int)) (by omega) t' e2
    rw [tb] at m; exact m
set_option maxHeartbeats 250000 in theorem y_set {π σ : Nat → Nat} {s s' t t' : MS} {b : Nat} {p1 v1 v2 : Int} (h : SIM π σ s t) (hK : ∀ x, x < 48 → LV t x → 0 ≤ (hM t).2.1 x ∧ (hM t).2.1 x ≤ 6) (hR : Rg s) (hRt : Rr t) (hb : b < 48) (hl : LV t b)
    (hk : 0 ≤ p1 ∧ p1 < (hM t).2.1 b) (hv1 : (-257) ≤ v1 ∧ v1 ≤ 65535) (hv2 : R2 v2) (hv : (0 < (hM t).1 b → v1 = (π v2.toNat : Int)) ∧ ((hM t).1 b ≤ 0 → v1 = v2)) (hd : (hM t).2.2 b p1.toNat = v2 ↔ gA s 59 (6 * π b + p1.toNat) = v1)
    (e1 : m_x8_set (π b : Int) p1 v1 s = some s') (e2 : ((hM t).2.2 b p1.toNat = v2 ∧ t' = t) ∨ ((hM t).2.2 b p1.toNat ≠ v2 ∧ m_x12_setsEntry (b : Int) p1 (kM t b p1.toNat) v2 t = some t')) : SIM π σ s' t' ∧ BX t t' b ∧ (hM t').2.1 b = (hM t).2.1 b := by
  have hP := h.1.1
  have B := sim_b h hb hl
  have px := (hP b hb).1.1
  have tp : ((π b : Nat) : Int).toNat = π b := Int.toNat_natCast _
  have tb : ((b : Nat) : Int).toNat = b := Int.toNat_natCast _
  have sz := hK b hb hl
  have m := s_setM (p0 := (π b : Int)) ⟨by omega, by omega⟩ hk.1 s' e1
  rw [tp] at m
  rcases e2 with ⟨q1, rfl⟩ | ⟨q1, e2⟩
  · rcases m with ⟨_, rfl⟩ | ⟨n, _⟩
    · exact ⟨h, BX_0 _ _, rfl⟩
    · exact absurd (hd.1 q1) n
  · rcases m with ⟨n, _⟩ | ⟨_, lm⟩
    · exact absurd (hd.2 n) q1
    have W1 := (wp_det (w_x8_set hR (p0 := (π b : Int)) ⟨by omega, by omega⟩ ⟨hk.1, by omega⟩ hv1) e1).2
    have W2 := (wp_det (w_x12_setsEntry hRt (p0 := (b : Int)) ⟨by omega, by omega⟩ ⟨hk.1, by omega⟩ (by
      have : R2 (gA t 49 (21 + 16 * b + p1.toNat)) := R49 hRt (by omega)
      show R2 (if p1.toNat < 6 then gA t 49 (21 + 16 * b + p1.toNat) else 0)
      rw [if_pos (by omega)]; exact this) hv2) e2).2
    rw [tp] at W1
    rw [tb] at W2
    obtain ⟨hX, zz, g2, g1⟩ := M_set (k := p1.toNat) (by omega) W2
    have F1 : F_x8_set s s' := fr_x8_set e1
    have F2 : F_x12_setsEntry t t' := fr_x12_setsEntry e2
    refine ⟨sim_blk h hK hb (F1.2.1 54 (by decide)) (F1.2.1 55 (by decide)) (F1.2.1 56 (by decide)) (F1.2.1 60 (by decide)) (F1.2.1 61 (by decide)) (F1.1 1060 (by decide)) (fun x hx hn => by rw [F1.2.1 57 (by decide)]) (fun x hx hn k h6 => ⟨by rw [F1.2.1 58 (by decide)], by rw [W1, upZ_n (by omega)]⟩) hX (F2.2.1 39 (by decide)) (by rw [F1.2.1 57 (by decide), zz]; exact B.2.1) (fun j hj => ?_) hl (Or.inl ⟨lm, ?_⟩), hX, zz⟩
    · rw [zz] at hj
      have c := B.2.2 j hj
      rw [F1.2.1 58 (by decide), W1]
      by_cases q : j = p1.toNat
      · rw [q, upZ_s, g2.1, g2.2]
        rw [q] at c
        exact ⟨c.1, hv⟩
      · rw [upZ_n (by omega), (g1 j q).1, (g1 j q).2]
        exact c
    · have m := m_setT (p0 := (b : Int)) (by omega) t' e2
      rw [tb] at m; exact m
set_option maxHeartbeats 250000 in theorem y_del {π σ : Nat → Nat} {s s' t t' : MS} {b : Nat} {p1 : Int} (h : SIM π σ s t) (hK : ∀ x, x < 48 → LV t x → 0 ≤ (hM t).2.1 x ∧ (hM t).2.1 x ≤ 6) (hR : Rg s) (hRt : Rr t) (hb : b < 48) (hl : LV t b)
    (hk : 0 ≤ p1 ∧ p1 < (hM t).2.1 b) (e1 : m_x8_delete (π b : Int) p1 s = some s') (e2 : m_x12_cutsEntry (b : Int) p1 t = some t') : SIM π σ s' t' ∧ BX t t' b ∧ (hM t').2.1 b = (hM t).2.1 b - 1 := by
  have hP := h.1.1
  have B := sim_b h hb hl
  have z1 : gA s 57 (π b) = (hM t).2.1 b := B.2.1
  have px := (hP b hb).1.1
  have tp : ((π b : Nat) : Int).toNat = π b := Int.toNat_natCast _
  have tb : ((b : Nat) : Int).toNat = b := Int.toNat_natCast _
  have sz := hK b hb hl
  have W1 := wp_det (w_x8_delete hR (p0 := (π b : Int)) ⟨by omega, by omega⟩ ⟨hk.1, by rw [tp, z1]; exact hk.2, by rw [tp, z1]; exact sz.2⟩) e1
  have W2 := wp_det (w_x12_cutsEntry hRt (p0 := (b : Int)) ⟨by omega, by omega⟩ ⟨hk.1, by rw [tb]; omega⟩ (by rw [tb]; omega)) e2
  rw [tp, z1] at W1
  rw [tb] at W2
  obtain ⟨_, u57, ⟨a1, a3⟩, ⟨d1, d3⟩⟩ := W1
  obtain ⟨_, F2, k, k1, k2, hX, zz, g1, g3⟩ := W2
  have kk := k2 hk.2
  have F1 : F_x8_delete s s' := fr_x8_delete e1
  refine ⟨sim_blk h hK hb (F1.2.1 54 (by decide)) (F1.2.1 55 (by decide)) (F1.2.1 56 (by decide)) (F1.2.1 60 (by decide)) (F1.2.1 61 (by decide)) (F1.1 1060 (by decide)) (fun x hx hn => by rw [u57, upZ_n hn]) (fun x hx hn k h6 => ⟨a1 _ (by omega), d1 _ (by omega)⟩) hX (F2.2.1 39 (by decide)) (by rw [u57, upZ_s, zz]) (fun j hj => ?_) hl (Or.inl ⟨?_, ?_⟩), hX, zz⟩
  · have B2 := B.2.2
    by_cases q : j < p1.toNat
    · have c := B2 j (by omega)
      rw [a1 _ (by omega), d1 _ (by omega), (g1 j (by omega)).1, (g1 j (by omega)).2]
      exact c
    · have c := B2 (j + 1) (by omega)
      have f1 := a3 j (by omega) (by omega)
      have f2 := d3 j (by omega) (by omega)
      have f3 := g3 j (by omega) (by omega)
      rw [f1, f2, f3.1, f3.2]
      exact c
  · have m := s_delM (p1 := p1) (s := s) (p0 := (π b : Int)) ⟨by omega, by omega⟩ ⟨hk.1, by rw [tp, z1]; exact hk.2⟩ s' e1
    rw [tp] at m; exact m
  · have m := m_cutT (p0 := (b : Int)) (by omega) t' e2
    rw [tb] at m; exact m
/-! ===== places of keys on both sides ===== -/
def SO (f : Nat → Int) (a : Nat) (z : Int) : Prop := ∀ i j : Nat, a ≤ i → i < j → (j : Int) < z → f i < f j
def EF (f : Nat → Int) (z key r : Int) : Prop := 0 ≤ r ∧ (r = 0 ∨ (r < z ∧ f r.toNat ≤ key)) ∧ ∀ k : Nat, r < (k : Int) → (k : Int) < z → 1 ≤ k → key < f k
def PF (f : Nat → Int) (z key r : Int) : Prop := 0 ≤ r ∧ (r = 0 ∨ r < z) ∧ (∀ k : Nat, 1 ≤ k → (k : Int) ≤ r → f k ≤ key) ∧ (r + 1 < z → key < f (r + 1).toNat)
set_option maxHeartbeats 250000 in theorem EF_PF {f g : Nat → Int} {z key r q : Int} (hs : SO f 1 z) (e : ∀ k : Nat, (k : Int) < z → g k = f k) (h : EF f z key r) (h2 : PF g z key q) : r = q := by
  obtain ⟨a1, a2, a3⟩ := h
  obtain ⟨b1, b2, b3, b4⟩ := h2
  by_cases c1 : r < q
  · exfalso
    have x := a3 q.toNat (by omega) (by omega) (by omega)
    have y := b3 q.toNat (by omega) (by omega)
    rw [e _ (by omega)] at y
    omega
  · by_cases c2 : q < r
    · exfalso
      rcases a2 with w | ⟨w1, w2⟩
      · omega
      · have y := b4 (by omega)
        rw [e _ (by omega)] at y
        by_cases w : (q + 1).toNat = r.toNat
        · rw [w] at y; omega
        · have := hs (q + 1).toNat r.toNat (by omega) (by omega) (by omega)
          omega
    · omega
set_option maxHeartbeats 250000 in theorem s_entryFor {p key : Int} {s : MS} (hp : 0 ≤ p) : pc (m_x8_entryFor p key s) (fun r => EF (fun k => gA s 58 (6 * p.toNat + k)) (gA s 57 p.toNat) key r) := by
  have L : ∀ (n : Nat) (x3 x4 : Int), 1 ≤ x4 → (0 ≤ x3 ∧ x3 < x4) → (x3 = 0 ∨ (x3 < gA s 57 p.toNat ∧ gA s 58 (6 * p.toNat + x3.toNat) ≤ key)) → (∀ k : Nat, x3 < (k : Int) → (k : Int) < x4 → 1 ≤ k → key < gA s 58 (6 * p.toNat + k)) → pc (m_x8_entryFor_L5 s n p key x3 x4) (fun r => EF (fun k => gA s 58 (6 * p.toNat + k)) (gA s 57 p.toNat) key r) := by
    refine fr_ind (fun _ _ _ _ _ _ => pc_none) (fun n ih x3 x4 h4 h3 ha hb => ?_)
    show pc (m_x8_entryFor_b5 s (m_x8_entryFor_L5 s n) p key x3 x4) _
    unfold m_x8_entryFor_b5 m_x8_entryFor_J35 m_x8_slot
    refine pc_rdI (fun _ => pc_rg (pc_rg (pc_if (fun c => pc_some ⟨h3.1, ha, fun k k1 k2 k3 => hb k k1 (by omega) k3⟩) (fun c => pc_bn (fun r14 e14 => ?_)))))
    cases e14
    refine pc_rdI (fun _ => pc_rg (pc_rg (pc_if (fun c2 => ih x3 (x4 + 1) (by omega) (by omega) ha (fun k k1 k2 k3 => ?_)) (fun c2 => ih x4 (x4 + 1) (by omega) (by omega) (Or.inr ⟨by omega, ?_⟩) (fun k k1 k2 k3 => absurd k1 (by omega))))))
    · by_cases z : (k : Int) < x4
      · exact hb k k1 z k3
      · rw [show 6 * p.toNat + k = (p * 6 + x4).toNat by omega]; exact c2
    · rw [show 6 * p.toNat + x4.toNat = (p * 6 + x4).toNat by omega]; omega
  unfold m_x8_entryFor
  exact L FU 0 1 (by omega) (by omega) (Or.inl rfl) (fun k k1 k2 k3 => absurd k2 (by omega))
set_option maxHeartbeats 250000 in theorem m_placeFor {p key : Int} {t : MS} (hp : 0 ≤ p) (hz : (hM t).2.1 p.toNat ≤ 6) : pc (m_x12_placeFor p key t) (fun r => PF (kM t p.toNat) ((hM t).2.1 p.toNat) key r) := by
  have L : ∀ (n : Nat) (x4 : Int), 0 ≤ x4 → (x4 = 0 ∨ x4 < (hM t).2.1 p.toNat) → (∀ k : Nat, 1 ≤ k → (k : Int) ≤ x4 → kM t p.toNat k ≤ key) → pc (m_x12_placeFor_L2 t n p key x4) (fun r => PF (kM t p.toNat) ((hM t).2.1 p.toNat) key r) := by
    refine fr_ind (fun _ _ _ _ => pc_none) (fun n ih x4 h4 ha hb => ?_)
    show pc (m_x12_placeFor_b2 t (m_x12_placeFor_L2 t n) p key x4) _
    unfold m_x12_placeFor_b2 m_x12_placeFor_J31
    refine pc_bq (m_ents hp) (fun r6 h6 => pc_rg (pc_rg (pc_if (fun c => pc_some ⟨h4, ha, hb, fun q => absurd q (by omega)⟩) (fun c => pc_bq (m_key hp ⟨by omega, by omega⟩) (fun r11 h11 => pc_rg (pc_rg (pc_if (fun c2 => pc_some ⟨h4, ha, hb, fun q => ?_⟩) (fun c2 => ih (x4 + 1) (by omega) (Or.inr (by omega)) (fun k k1 k2 => ?_)))))))))
    · rw [← h11]; exact c2
    · by_cases z : (k : Int) ≤ x4
      · exact hb k k1 z
      · have e : (x4 + 1).toNat = k := by omega
        rw [e] at h11
        omega
  unfold m_x12_placeFor
  exact L FU 0 (by omega) (Or.inl rfl) (fun k k1 k2 => absurd k2 (by omega))
/- the first that is no less -/
def PI (f : Nat → Int) (z key r : Int) : Prop := (0 ≤ r ∧ r ≤ z) ∧ (∀ k : Nat, (k : Int) < r → f k < key) ∧ (r < z → key ≤ f r.toNat)
set_option maxHeartbeats 250000 in theorem PI_u {f g : Nat → Int} {z key r q : Int} (e : ∀ k : Nat, (k : Int) < z → g k = f k) (h : PI f z key r) (h2 : PI g z key q) : r = q := by
  obtain ⟨a1, a2, a3⟩ := h
  obtain ⟨b1, b2, b3⟩ := h2
  by_cases c1 : r < q
  · exfalso
    have x := b2 r.toNat (by omega)
    have y := a3 (by omega)
    rw [e _ (by omega)] at x
    omega
  · by_cases c2 : q < r
    · exfalso
      have x := a2 q.toNat (by omega)
      have y := b3 (by omega)
      rw [e _ (by omega)] at y
      omega
    · omega
set_option maxHeartbeats 250000 in theorem m_placeIn {p key : Int} {t : MS} (hp : 0 ≤ p) (hz : 0 ≤ (hM t).2.1 p.toNat ∧ (hM t).2.1 p.toNat ≤ 6) : pc (m_x12_placeIn p key t) (fun r => PI (kM t p.toNat) ((hM t).2.1 p.toNat) key r) := by
  have L : ∀ (n : Nat) (x4 : Int), (0 ≤ x4 ∧ x4 ≤ (hM t).2.1 p.toNat) → (∀ k : Nat, (k : Int) < x4 → kM t p.toNat k < key) → pc (m_x12_placeIn_L2 t n p key x4) (fun r => PI (kM t p.toNat) ((hM t).2.1 p.toNat) key r) := by
    refine fr_ind (fun _ _ _ => pc_none) (fun n ih x4 h4 hb => ?_)
    show pc (m_x12_placeIn_b2 t (m_x12_placeIn_L2 t n) p key x4) _
    unfold m_x12_placeIn_b2 m_x12_placeIn_J27
    refine pc_bq (m_ents hp) (fun r6 h6 => pc_rg (pc_rg (pc_if (fun c => pc_some ⟨h4, hb, fun q => absurd q (by omega)⟩) (fun c => pc_bq (m_key hp ⟨by omega, by omega⟩) (fun r11 h11 => pc_rg (pc_rg (pc_if (fun c2 => pc_some ⟨h4, hb, fun q => by rw [← h11]; exact c2⟩) (fun c2 => ih (x4 + 1) (by omega) (fun k k2 => ?_)))))))))
    by_cases z : (k : Int) < x4
    · exact hb k z
    · have e : x4.toNat = k := by omega
      rw [e] at h11
      omega
  unfold m_x12_placeIn
  exact L FU 0 (by omega) (fun k k1 => absurd k1 (by omega))
/- where the key is, if it is there -/
def FDc (f : Nat → Int) (z key r : Int) : Prop := (r = -1 ∧ ∀ k : Nat, (k : Int) < z → f k ≠ key) ∨ (0 ≤ r ∧ r < z ∧ f r.toNat = key ∧ ∀ k : Nat, (k : Int) < r → f k ≠ key)
set_option maxHeartbeats 250000 in theorem s_find {p key : Int} {s : MS} (hp : 0 ≤ p) : pc (m_x8_find p key s) (fun r => FDc (fun k => gA s 58 (6 * p.toNat + k)) (gA s 57 p.toNat) key r) := by
  have L : ∀ (n : Nat) (x3 : Int), 0 ≤ x3 → (∀ k : Nat, (k : Int) < x3 → gA s 58 (6 * p.toNat + k) ≠ key) → pc (m_x8_find_L2 s n p key x3) (fun r => FDc (fun k => gA s 58 (6 * p.toNat + k)) (gA s 57 p.toNat) key r) := by
    refine fr_ind (fun _ _ _ => pc_none) (fun n ih x3 h3 hb => ?_)
    show pc (m_x8_find_b2 s (m_x8_find_L2 s n) p key x3) _
    unfold m_x8_find_b2 m_x8_slot
    refine pc_rdI (fun _ => pc_rg (pc_rg (pc_if (fun c => pc_some (Or.inl ⟨rfl, fun k hk => hb k (by omega)⟩)) (fun c => pc_bn (fun r9 e9 => ?_)))))
    cases e9
    refine pc_rdI (fun _ => pc_rg (pc_rg (pc_if (fun c2 => pc_some (Or.inr ⟨h3, by omega, ?_, hb⟩)) (fun c2 => ih (x3 + 1) (by omega) (fun k hk => ?_)))))
    · show gA s 58 (6 * p.toNat + x3.toNat) = key
      rw [show 6 * p.toNat + x3.toNat = (p * 6 + x3).toNat by omega]; exact c2
    · by_cases z : (k : Int) < x3
      · exact hb k z
      · rw [show 6 * p.toNat + k = (p * 6 + x3).toNat by omega]; exact c2
  unfold m_x8_find
  exact L FU 0 (by omega) (fun k hk => absurd hk (by omega))
/- in a rising row the two say the same -/
set_option maxHeartbeats 250000 in theorem FD_PI {f g : Nat → Int} {z key r q : Int} (hs : SO f 0 z) (e : ∀ k : Nat, (k : Int) < z → g k = f k) (h : FDc f z key r) (h2 : PI g z key q) : (r = -1 ∧ ¬ (q < z ∧ g q.toNat = key)) ∨ (r = q ∧ 0 ≤ r ∧ r < z ∧ g q.toNat = key) := by
  obtain ⟨b1, b2, b3⟩ := h2
  rcases h with ⟨a1, a2⟩ | ⟨a1, a2, a3, a4⟩
  · refine Or.inl ⟨a1, fun w => a2 q.toNat (by omega) ?_⟩
    rw [← e _ (by omega)]; exact w.2
  · have rq : r = q := by
      by_cases c1 : r < q
      · exfalso
        have x := b2 r.toNat (by omega)
        rw [e _ (by omega)] at x
        omega
      · by_cases c2 : q < r
        · exfalso
          have y := b3 (by omega)
          rw [e _ (by omega)] at y
          have := hs q.toNat r.toNat (Nat.zero_le _) (by omega) (by omega)
          omega
        · omega
    refine Or.inr ⟨rq, a1, a2, ?_⟩
    rw [← rq, e _ (by omega)]; exact a3
/-! ===== a formula of splits is worth the same on both sides ===== -/
set_option maxHeartbeats 250000 in theorem pc_rdL2 {α : Type} {f : Nat → Int} {n : Nat} {i : Int} {k : Int → Option α} {P : α → Prop} (h : 0 ≤ i ∧ i < (n : Int) → pc (k (f i.toNat)) P) : pc (rdL f n i k) P := by
  unfold rdL
  split
  · rename_i q; exact h q
  · exact pc_none
abbrev M1 (v : Int) : Prop := -1000000 ≤ v ∧ v ≤ 1000000
/- the piles alike, by kinds -/
def EV (f g : Nat → Int) : List Bool → Prop
  | [] => True
  | x :: L => f L.length = g L.length ∧ M1 (g L.length) ∧ (x = true → g L.length = 0 ∨ g L.length = 1) ∧ EV f g L
set_option maxHeartbeats 250000 in theorem EV_c {f g f' g' : Nat → Int} : ∀ {L : List Bool}, EV f g L → (∀ j, j < L.length → f' j = f j ∧ g' j = g j) → EV f' g' L := by
  intro L
  induction L with
  | nil => intro _ _; exact True.intro
  | cons x L ih =>
    intro h e
    obtain ⟨a, b, c, d⟩ := h
    have q := e L.length (Nat.lt_succ_self _)
    exact ⟨by rw [q.1, q.2]; exact a, by rw [q.2]; exact b, by rw [q.2]; exact c, ih d (fun j hj => e j (Nat.lt_succ_of_lt hj))⟩
set_option maxHeartbeats 250000 in theorem EV_p {f g : Nat → Int} {L : List Bool} {x : Bool} {v : Int} (h : EV f g L) (hv : M1 v) (hx : x = true → v = 0 ∨ v = 1) : EV (upZ f L.length v) (upZ g L.length v) (x :: L) := ⟨by rw [upZ_s, upZ_s], by rw [upZ_s]; exact hv, by rw [upZ_s]; exact hx, EV_c h (fun j hj => ⟨upZ_n (by omega), upZ_n (by omega)⟩)⟩
set_option maxHeartbeats 250000 in theorem s_push {v : Int} {s : MS} (h : gI s 1601 < 64) : pc (m_x3_push v s) (fun o => gI o 1601 = gI s 1601 + 1 ∧ gA o 81 = upZ (gA s 81) (gI s 1601).toNat v ∧ (∀ k, k ≠ 81 → gA o k = gA s k) ∧ ∀ i, i ≠ 1601 → gI o i = gI s i) := by
  unfold m_x3_push m_x3_push_J29
  exact pc_rg (pc_if (fun c => absurd h (by omega)) (fun _ => pc_inb (pc_stn (fun s5 e5 => pc_stn (fun s6 e6 => pc_some ⟨by rw [(q_II e6 : gI s6 1601 = _), (q_Ai e5 : gI s5 1601 = gI s 1601)], (q_Ia e6).trans (q_AA e5), fun k hk => (q_Ia e6).trans (q_Aa e5 hk), fun i hi => (q_Ii e6 hi).trans (q_Ai e5)⟩)))))
set_option maxHeartbeats 250000 in theorem s_pop {s : MS} (h : 0 < gI s 1601) : pc (m_x3_pop s) (fun q => q.1 = gA s 81 (gI s 1601 - 1).toNat ∧ gI q.2 1601 = gI s 1601 - 1 ∧ (∀ k, gA q.2 k = gA s k) ∧ ∀ i, i ≠ 1601 → gI q.2 i = gI s i) := by
  unfold m_x3_pop
  exact pc_rg (pc_if (fun _ => pc_stn (fun s3 e3 => pc_rdI (fun _ => pc_some ⟨by show gA s3 81 (gI s3 1601).toNat = _; rw [(q_II e3 : gI s3 1601 = _), (q_Ia e3 : gA s3 81 = gA s 81)], q_II e3, fun k => q_Ia e3, fun i hi => q_Ii e3 hi⟩))) (fun c => absurd h c))
set_option maxHeartbeats 250000 in theorem m_puts {v : Int} {t : MS} : pc (m_x12_qPuts v t) (fun o => 0 ≤ gI t 108 ∧ gI o 108 = gI t 108 + 1 ∧ gB o 107 = upZ (gB t 107) (gI t 108).toNat v ∧ (∀ k, gA o k = gA t k) ∧ ∀ i, i ≠ 108 → gI o i = gI t i) := by
  unfold m_x12_qPuts
  exact pc_inb2 (fun g => pc_stn (fun s2 e2 => pc_stn (fun s3 e3 => pc_some ⟨g.1, by rw [(q_II e3 : gI s3 108 = _), (q_Bi e2 : gI s2 108 = gI t 108)], (q_Ib e3).trans (q_BB e2), fun k => (q_Ia e3).trans (q_Ba e2), fun i hi => (q_Ii e3 hi).trans (q_Bi e2)⟩)))
/-! numbers are cut at a million -/
def clZ (z : Int) : Int := if z ≤ 1000000 then (if -1000000 ≤ z then z else -1000000) else 1000000
set_option maxHeartbeats 250000 in theorem clZ_1 {z : Int} (c : z ≤ 1000000) (d : -1000000 ≤ z) : clZ z = z := (if_pos c).trans (if_pos d)
set_option maxHeartbeats 250000 in theorem clZ_2 {z : Int} (c : z ≤ 1000000) (d : ¬ -1000000 ≤ z) : clZ z = -1000000 := (if_pos c).trans (if_neg d)
set_option maxHeartbeats 250000 in theorem clZ_3 {z : Int} (c : ¬ z ≤ 1000000) : clZ z = 1000000 := if_neg c
set_option maxHeartbeats 250000 in theorem clZ_M (z : Int) : M1 (clZ z) := by
  by_cases c : z ≤ 1000000
  · by_cases d : -1000000 ≤ z
    · rw [clZ_1 c d]; omega
    · rw [clZ_2 c d]; omega
  · rw [clZ_3 c]; omega
set_option maxHeartbeats 250000 in theorem s_clip {z : Int} {s : MS} : pc (m_x3_joined_J199 s z) (fun r => r = clZ z) := by
  unfold m_x3_joined_J199 m_x3_joined_J225
  exact pc_rgL (pc_if (fun c => pc_rgL (pc_if (fun d => pc_some (clZ_1 c d).symm) (fun d => pc_some (clZ_2 c d).symm))) (fun c => pc_some (clZ_3 c).symm))
set_option maxHeartbeats 250000 in theorem m_clip {z : Int} {t : MS} : pc (m_x12_qClip z t) (fun r => r = clZ z) := by
  unfold m_x12_qClip m_x12_qClip_J29
  exact pc_rgL (pc_if (fun c => pc_rgL (pc_if (fun d => pc_some (clZ_1 c d).symm) (fun d => pc_some (clZ_2 c d).symm))) (fun c => pc_some (clZ_3 c).symm))
/-! division downwards -/
def fdZ (a b : Int) : Int := if b = 0 then 0 else if Int.tmod a b = 0 then Int.tdiv a b else if (0 ≤ a ↔ 0 ≤ b) then Int.tdiv a b else Int.tdiv a b - 1
set_option maxHeartbeats 250000 in theorem fdZ_0 {a b : Int} (h : b = 0) : fdZ a b = 0 := if_pos h
set_option maxHeartbeats 250000 in theorem fdZ_r {a b : Int} (h : b ≠ 0) (r : Int.tmod a b = 0) : fdZ a b = Int.tdiv a b := (if_neg h).trans (if_pos r)
set_option maxHeartbeats 250000 in theorem fdZ_s {a b : Int} (h : b ≠ 0) (r : Int.tmod a b ≠ 0) (g : 0 ≤ a ↔ 0 ≤ b) : fdZ a b = Int.tdiv a b := (if_neg h).trans ((if_neg r).trans (if_pos g))
set_option maxHeartbeats 250000 in theorem fdZ_n {a b : Int} (h : b ≠ 0) (r : Int.tmod a b ≠ 0) (g : ¬ (0 ≤ a ↔ 0 ≤ b)) : fdZ a b = Int.tdiv a b - 1 := (if_neg h).trans ((if_neg r).trans (if_neg g))
set_option maxHeartbeats 250000 in theorem tm_lt (x : Int) {b : Int} (hb : b ≠ 0) : (Int.tmod x b).natAbs < b.natAbs := by
  rw [Int.natAbs_tmod]
  exact Nat.mod_lt _ (by omega)
set_option maxHeartbeats 250000 in theorem tm_p {x b : Int} (h : 0 ≤ x) : 0 ≤ Int.tmod x b := Int.tmod_nonneg b h
set_option maxHeartbeats 250000 in theorem tm_n {x b : Int} (h : x ≤ 0) : Int.tmod x b ≤ 0 := by
  have q := Int.tmod_nonneg b (show 0 ≤ -x by omega)
  rw [Int.neg_tmod] at q
  omega
set_option maxHeartbeats 250000 in theorem tm_u {x b k m : Int} (hb : b ≠ 0) (e : x = b * k + m) (h1 : m.natAbs < b.natAbs) (h2 : (0 ≤ x ∧ 0 ≤ m) ∨ (x ≤ 0 ∧ m ≤ 0)) : Int.tmod x b = m := by
  have hx := Int.tmod_add_mul_tdiv x b
  have h3 := tm_lt x hb
  have e2 : b * (k - Int.tdiv x b) = Int.tmod x b - m := by
    rw [Int.mul_sub]; omega
  have h4 : (Int.tmod x b - m).natAbs < b.natAbs := by
    rcases h2 with q | q
    · have := tm_p (b := b) q.1
      omega
    · have := tm_n (b := b) q.1
      omega
  rw [← e2, Int.natAbs_mul] at h4
  have h5 : (k - Int.tdiv x b).natAbs = 0 := by
    rcases Nat.eq_zero_or_pos (k - Int.tdiv x b).natAbs with z | z
    · exact z
    · exfalso
      have := Nat.mul_le_mul_left b.natAbs z
      omega
  rw [show k - Int.tdiv x b = 0 by omega, Int.mul_zero] at e2
  omega
set_option maxHeartbeats 250000 in theorem fd_c {a b : Int} (hb : b ≠ 0) : Int.tdiv (a - Int.tmod (Int.tmod a b + b) b) b = fdZ a b := by
  have ea := Int.tmod_add_mul_tdiv a b
  have hr := tm_lt a hb
  have sp := fun h => tm_p (x := a) (b := b) h
  have sn := fun h => tm_n (x := a) (b := b) h
  by_cases r0 : Int.tmod a b = 0
  · rw [fdZ_r hb r0, tm_u (x := Int.tmod a b + b) (k := 1) (m := 0) hb (by rw [Int.mul_one]; omega) (by omega) (by omega), show a - 0 = b * Int.tdiv a b by omega]
    exact Int.mul_tdiv_cancel_left _ hb
  · by_cases g : 0 ≤ a ↔ 0 ≤ b
    · rw [fdZ_s hb r0 g, tm_u (x := Int.tmod a b + b) (k := 1) (m := Int.tmod a b) hb (by rw [Int.mul_one]; omega) hr (by
        by_cases z : 0 ≤ a
        · have := sp z; have := g.1 z; omega
        · have := sn (by omega); have : ¬ 0 ≤ b := fun w => z (g.2 w); omega), show a - Int.tmod a b = b * Int.tdiv a b by omega]
      exact Int.mul_tdiv_cancel_left _ hb
    · rw [fdZ_n hb r0 g, tm_u (x := Int.tmod a b + b) (k := 0) (m := Int.tmod a b + b) hb (by rw [Int.mul_zero]; omega) (by
        by_cases z : 0 ≤ a
        · have := sp z; have : ¬ 0 ≤ b := fun w => g ⟨fun _ => w, fun _ => z⟩; omega
        · have := sn (by omega)
          have : 0 ≤ b := Int.not_lt.mp (fun w => g ⟨fun q => absurd q z, fun q => absurd q (by omega)⟩)
          omega) (by omega), show a - (Int.tmod a b + b) = b * (Int.tdiv a b - 1) by rw [Int.mul_sub, Int.mul_one]; omega]
      exact Int.mul_tdiv_cancel_left _ hb
set_option maxHeartbeats 250000 in theorem fd_M {a b : Int} (h : M1 a) : M1 (fdZ a b) := by
  have q := fl_d a b (B := 1000000) (by omega)
  by_cases hb : b = 0
  · rw [fdZ_0 hb]; omega
  · by_cases r0 : Int.tmod a b = 0
    · rw [fdZ_r hb r0]; omega
    · by_cases g : 0 ≤ a ↔ 0 ≤ b
      · rw [fdZ_s hb r0 g]; omega
      · rw [fdZ_n hb r0 g]
        have b2 : 2 ≤ b.natAbs := by
          rcases Nat.lt_or_ge b.natAbs 2 with w | w
          · exfalso
            have := tm_lt a hb
            omega
          · exact w
        have n1 : (Int.tdiv a b).natAbs = a.natAbs / b.natAbs := Int.natAbs_tdiv a b
        have n2 : a.natAbs / b.natAbs ≤ a.natAbs / 2 := Nat.div_le_div_left b2 (by decide)
        omega
set_option maxHeartbeats 250000 in theorem m_floor {a b : Int} {t : MS} : pc (m_x12_qFloor a b t) (fun r => r = fdZ a b) := by
  unfold m_x12_qFloor m_x12_qFloor_J32 m_x12_qFloor_J43 m_x12_qFloor_J53 m_x12_qFloor_J55
  refine pc_rgL (pc_if (fun h => pc_some (fdZ_0 h).symm) (fun h => pc_dvL (pc_dvL (pc_rgL (pc_if (fun r0 => pc_some (fdZ_r h r0).symm) (fun r0 => pc_rgL (pc_if (fun ha => pc_rgL (pc_if (fun hb => pc_rg (pc_rg (pc_if (fun _ => pc_some ?_) (fun z => absurd rfl z)))) (fun hb => pc_rg (pc_rg (pc_if (fun z => absurd z (by decide)) (fun _ => pc_some ?_)))))) (fun ha => pc_rgL (pc_if (fun hb => pc_rg (pc_rg (pc_if (fun z => absurd z (by decide)) (fun _ => pc_some ?_)))) (fun hb => pc_rg (pc_rg (pc_if (fun _ => pc_some ?_) (fun z => absurd rfl z)))))))))))))
  · exact (fdZ_s h r0 ⟨fun _ => hb, fun _ => ha⟩).symm
  · exact (fdZ_n h r0 (fun g => hb (g.1 ha))).symm
  · exact (fdZ_n h r0 (fun g => ha (g.2 hb))).symm
  · exact (fdZ_s h r0 ⟨fun w => absurd w ha, fun w => absurd w hb⟩).symm
/-! what a step makes of two -/
def jv (c a b : Int) : Int := if c = -1 then clZ (a + b) else if c = -2 then clZ (a - b) else if c = -3 then clZ (a * b) else if c = -4 then fdZ a b else if c = -5 then (if b ≤ a then b else a) else if c = -6 then (if a ≤ b then b else a) else if c = -7 then (if b ≤ a then 0 else 1) else if c = -8 then (if a ≤ b then 0 else 1) else if c = -9 then (if a = b then 1 else 0) else if c = -10 then a * b else (if a + b ≤ 0 then 0 else 1)
set_option maxHeartbeats 250000 in theorem jv_1 (a b : Int) : jv (-1) a b = clZ (a + b) := rfl
set_option maxHeartbeats 250000 in theorem jv_2 (a b : Int) : jv (-2) a b = clZ (a - b) := rfl
set_option maxHeartbeats 250000 in theorem jv_3 (a b : Int) : jv (-3) a b = clZ (a * b) := rfl
set_option maxHeartbeats 250000 in theorem jv_4 (a b : Int) : jv (-4) a b = fdZ a b := rfl
set_option maxHeartbeats 250000 in theorem jv_5 (a b : Int) : jv (-5) a b = if b ≤ a then b else a := rfl
set_option maxHeartbeats 250000 in theorem jv_6 (a b : Int) : jv (-6) a b = if a ≤ b then b else a := rfl
set_option maxHeartbeats 250000 in theorem jv_7 (a b : Int) : jv (-7) a b = if b ≤ a then 0 else 1 := rfl
set_option maxHeartbeats 250000 in theorem jv_8 (a b : Int) : jv (-8) a b = if a ≤ b then 0 else 1 := rfl
set_option maxHeartbeats 250000 in theorem jv_9 (a b : Int) : jv (-9) a b = if a = b then 1 else 0 := rfl
set_option maxHeartbeats 250000 in theorem jv_10 (a b : Int) : jv (-10) a b = a * b := rfl
set_option maxHeartbeats 250000 in theorem jv_11 (a b : Int) : jv (-11) a b = if a + b ≤ 0 then 0 else 1 := rfl
set_option maxHeartbeats 250000 in theorem or01 {a b : Int} (ha : a = 0 ∨ a = 1) (hb : b = 0 ∨ b = 1) : orZ a b = if a + b ≤ 0 then 0 else 1 := by
  rcases ha with rfl | rfl <;> rcases hb with rfl | rfl <;> decide +kernel
set_option maxHeartbeats 250000 in theorem and01 {a b : Int} (ha : a = 0 ∨ a = 1) (hb : b = 0 ∨ b = 1) : andZ a b = a * b := by
  rcases ha with rfl | rfl <;> rcases hb with rfl | rfl <;> decide +kernel
set_option maxHeartbeats 250000 in theorem jv_M {c a b : Int} (hc : -11 ≤ c ∧ c ≤ -1) (ha : M1 a) (hb : M1 b) (h01 : c ≤ -10 → (a = 0 ∨ a = 1) ∧ (b = 0 ∨ b = 1)) : M1 (jv c a b) ∧ (c ≤ -7 → jv c a b = 0 ∨ jv c a b = 1) := by
  have hh : c = -1 ∨ c = -2 ∨ c = -3 ∨ c = -4 ∨ c = -5 ∨ c = -6 ∨ c = -7 ∨ c = -8 ∨ c = -9 ∨ c = -10 ∨ c = -11 := by omega
  rcases hh with h | h | h | h | h | h | h | h | h | h | h <;> subst h
  · rw [jv_1]; exact ⟨clZ_M _, fun w => absurd w (by decide)⟩
  · rw [jv_2]; exact ⟨clZ_M _, fun w => absurd w (by decide)⟩
  · rw [jv_3]; exact ⟨clZ_M _, fun w => absurd w (by decide)⟩
  · rw [jv_4]; exact ⟨fd_M ha, fun w => absurd w (by decide)⟩
  · rw [jv_5]; exact ⟨by split <;> assumption, fun w => absurd w (by decide)⟩
  · rw [jv_6]; exact ⟨by split <;> assumption, fun w => absurd w (by decide)⟩
  · rw [jv_7]; exact ⟨by split <;> omega, fun _ => by split <;> omega⟩
  · rw [jv_8]; exact ⟨by split <;> omega, fun _ => by split <;> omega⟩
  · rw [jv_9]; exact ⟨by split <;> omega, fun _ => by split <;> omega⟩
  · rw [jv_10]
    have o := h01 (by decide)
    have p := fl_01 o.1 o.2
    exact ⟨by rcases p with p | p <;> rw [p] <;> omega, fun _ => p⟩
  · rw [jv_11]; exact ⟨by split <;> omega, fun _ => by split <;> omega⟩
set_option maxHeartbeats 250000 in theorem s_jn {c a b : Int} {s : MS} (hc : -11 ≤ c ∧ c ≤ -1) (ha : M1 a) (hb : M1 b) (h01 : c ≤ -10 → (a = 0 ∨ a = 1) ∧ (b = 0 ∨ b = 1)) : pc (m_x3_joined c a b s) (fun r => r = jv c a b) := by
  have C : ∀ z v : Int, M1 z → z = v → pc (m_x3_joined_J199 s z) (fun r => r = v) := fun z v h e => pc_mono s_clip (fun r hr => hr.trans ((clZ_1 h.2 h.1).trans e))
  have D : ∀ z v : Int, clZ z = v → pc (m_x3_joined_J199 s z) (fun r => r = v) := fun z v e => pc_mono s_clip (fun r hr => hr.trans e)
  have JM := jv_M hc ha hb h01
  unfold m_x3_joined m_x3_joined_J179 m_x3_joined_J165 m_x3_joined_J151 m_x3_joined_J137 m_x3_joined_J121 m_x3_joined_J105
  refine pc_rg (pc_if (fun h => ?_) (fun n11 => pc_if (fun h => ?_) (fun n10 => pc_if (fun h => ?_) (fun n9 => pc_if (fun h => ?_) (fun n8 => pc_if (fun h => ?_) (fun n7 => pc_if (fun h => ?_) (fun n6 => pc_if (fun h => ?_) (fun n5 => pc_if (fun h => ?_) (fun n4 => pc_if (fun h => ?_) (fun n3 => pc_if (fun h => ?_) (fun n2 => pc_if (fun h => ?_) (fun n1 => ?_))))))))))))
  · subst h
    have o := h01 (by decide)
    exact pc_rg (C _ _ (by rw [or01 o.1 o.2, ← jv_11]; exact JM.1) (or01 o.1 o.2))
  · subst h
    have o := h01 (by decide)
    exact pc_rg (C _ _ (by rw [and01 o.1 o.2, ← jv_10]; exact JM.1) (and01 o.1 o.2))
  · subst h
    exact pc_rg (pc_rg (pc_if (fun e => C _ _ (by omega) (by rw [jv_9, if_pos e])) (fun e => C _ _ (by omega) (by rw [jv_9, if_neg e]))))
  · subst h
    exact pc_rg (pc_rg (pc_if (fun e => C _ _ (by omega) (by rw [jv_8, if_pos e])) (fun e => C _ _ (by omega) (by rw [jv_8, if_neg e]))))
  · subst h
    exact pc_rg (pc_rg (pc_if (fun e => C _ _ (by omega) (by rw [jv_7, if_pos e])) (fun e => C _ _ (by omega) (by rw [jv_7, if_neg e]))))
  · subst h
    exact pc_rg (pc_rg (pc_if (fun e => pc_rg (C _ _ hb (by rw [jv_6, if_pos e]))) (fun e => pc_rg (C _ _ ha (by rw [jv_6, if_neg e])))))
  · subst h
    exact pc_rg (pc_rg (pc_if (fun e => pc_rg (C _ _ hb (by rw [jv_5, if_pos e]))) (fun e => pc_rg (C _ _ ha (by rw [jv_5, if_neg e])))))
  · subst h
    exact pc_rg (pc_if (fun e => C _ _ (by omega) (by rw [jv_4, fdZ_0 e])) (fun e => pc_dv (pc_dv (pc_dv (pc_rg (C _ _ (by rw [fd_c e]; exact fd_M ha) ((fd_c e).trans (jv_4 a b).symm)))))))
  · subst h
    exact pc_rg (pc_rg (D _ _ (jv_3 a b).symm))
  · subst h
    exact pc_rg (D _ _ (jv_2 a b).symm)
  · subst h
    exact pc_rg (D _ _ (jv_1 a b).symm)
  · exact absurd hc (by omega)
set_option maxHeartbeats 250000 in theorem m_jn {c : Int} {t : MS} (hc : -11 ≤ c ∧ c ≤ -1) : pc (m_x12_qJoins (-c) t) (fun o => 2 ≤ gI t 108 ∧ gI o 108 = gI t 108 - 1 ∧ gB o 107 = upZ (gB t 107) (gI t 108 - 2).toNat (jv c (gB t 107 (gI t 108 - 2).toNat) (gB t 107 (gI t 108 - 1).toNat)) ∧ (∀ k, gA o k = gA t k) ∧ ∀ i, i ≠ 108 → gI o i = gI t i) := by
  unfold m_x12_qJoins m_x12_qJoins_J270 m_x12_qJoins_J238 m_x12_qJoins_J219 m_x12_qJoins_J200 m_x12_qJoins_J181 m_x12_qJoins_J161 m_x12_qJoins_J273
  refine pc_rdL2 (fun g1 => pc_rdL2 (fun g2 => pc_stn (fun s28 e28 => ?_)))
  have i28 : gI s28 108 = gI t 108 - 2 := q_II e28
  have b28 : gB s28 107 = gB t 107 := q_Ib e28
  have P : ∀ v : Int, v = jv c (gB t 107 (gI t 108 - 2).toNat) (gB t 107 (gI t 108 - 1).toNat) → pc (bn (m_x12_qPuts v s28) (fun s => some s)) (fun o => 2 ≤ gI t 108 ∧ gI o 108 = gI t 108 - 1 ∧ gB o 107 = upZ (gB t 107) (gI t 108 - 2).toNat (jv c (gB t 107 (gI t 108 - 2).toNat) (gB t 107 (gI t 108 - 1).toNat)) ∧ (∀ k, gA o k = gA t k) ∧ ∀ i, i ≠ 108 → gI o i = gI t i) := fun v hv => pc_bq m_puts (fun o ho => pc_some ⟨by omega, by rw [ho.2.1, i28]; omega, by rw [ho.2.2.1, i28, b28, hv], fun k => (ho.2.2.2.1 k).trans (q_Ia e28), fun i hi => (ho.2.2.2.2 i hi).trans (q_Ii e28 hi)⟩)
  refine pc_rg (pc_if (fun h => ?_) (fun n1 => pc_if (fun h => ?_) (fun n2 => pc_if (fun h => ?_) (fun n3 => pc_if (fun h => ?_) (fun n4 => pc_if (fun h => ?_) (fun n5 => pc_if (fun h => ?_) (fun n6 => pc_if (fun h => ?_) (fun n7 => pc_if (fun h => ?_) (fun n8 => pc_if (fun h => ?_) (fun n9 => pc_if (fun h => ?_) (fun n10 => ?_)))))))))))
  · obtain rfl : c = -1 := by omega
    exact pc_bq m_clip (fun r hr => P r (hr.trans (jv_1 _ _).symm))
  · obtain rfl : c = -2 := by omega
    exact pc_bq m_clip (fun r hr => P r (hr.trans (jv_2 _ _).symm))
  · obtain rfl : c = -3 := by omega
    exact pc_bq m_clip (fun r hr => P r (hr.trans (jv_3 _ _).symm))
  · obtain rfl : c = -4 := by omega
    exact pc_bq m_floor (fun r hr => P r (hr.trans (jv_4 _ _).symm))
  · obtain rfl : c = -5 := by omega
    exact pc_rgL (pc_rgL (pc_if (fun e => P _ (by rw [jv_5, if_pos e])) (fun e => P _ (by rw [jv_5, if_neg e]))))
  · obtain rfl : c = -6 := by omega
    exact pc_rgL (pc_rgL (pc_if (fun e => P _ (by rw [jv_6, if_pos e])) (fun e => P _ (by rw [jv_6, if_neg e]))))
  · obtain rfl : c = -7 := by omega
    exact pc_rgL (pc_rgL (pc_if (fun e => P _ (by rw [jv_7, if_pos e])) (fun e => P _ (by rw [jv_7, if_neg e]))))
  · obtain rfl : c = -8 := by omega
    exact pc_rgL (pc_rgL (pc_if (fun e => P _ (by rw [jv_8, if_pos e])) (fun e => P _ (by rw [jv_8, if_neg e]))))
  · obtain rfl : c = -9 := by omega
    exact pc_rgL (pc_rgL (pc_if (fun e => P _ (by rw [jv_9, if_pos e])) (fun e => P _ (by rw [jv_9, if_neg e]))))
  · obtain rfl : c = -10 := by omega
    exact P _ (jv_10 _ _).symm
  · obtain rfl : c = -11 := by omega
    exact pc_rgL (pc_if (fun e => P _ (by rw [jv_11, if_pos e])) (fun e => P _ (by rw [jv_11, if_neg e])))
/- one step on two piles that are alike -/
def SPv (s S : MS) : Prop := gA S 38 = gA s 38 ∧ gI S 741 = gI s 741 ∧ gI S 1604 = gI s 1604 ∧ gI S 1605 = gI s 1605
def TP (t T : MS) : Prop := gA T 42 = gA t 42 ∧ gA T 43 = gA t 43 ∧ gA T 44 = gA t 44 ∧ gI T 52 = gI t 52 ∧ gI T 53 = gI t 53
def LPv (S T : MS) (L : List Bool) : Prop := gI S 1601 = (L.length : Int) ∧ gI T 108 = (L.length : Int) ∧ EV (gA S 81) (gB T 107) L
set_option maxHeartbeats 250000 in theorem LP_p {S T S' T' : MS} {L : List Bool} {x : Bool} {v : Int} (H : LPv S T L) (hv : M1 v) (hx : x = true → v = 0 ∨ v = 1) (a1 : gI S' 1601 = gI S 1601 + 1) (a2 : gA S' 81 = upZ (gA S 81) (gI S 1601).toNat v) (b1 : gI T' 108 = gI T 108 + 1) (b2 : gB T' 107 = upZ (gB T 107) (gI T 108).toNat v) : LPv S' T' (x :: L) := by
  obtain ⟨h1, h2, h3⟩ := H
  refine ⟨?_, ?_, ?_⟩
  · show gI S' 1601 = ((L.length + 1 : Nat) : Int); omega
  · show gI T' 108 = ((L.length + 1 : Nat) : Int); omega
  · rw [a2, b2, h1, h2, Int.toNat_natCast]
    exact EV_p h3 hv hx
set_option maxHeartbeats 250000 in theorem LP_0 {S T : MS} {L R : List Bool} {x : Bool} (H : LPv S T L) (e : L = x :: R) : gA S 81 R.length = gB T 107 R.length ∧ M1 (gB T 107 R.length) ∧ (x = true → gB T 107 R.length = 0 ∨ gB T 107 R.length = 1) ∧ gI S 1601 = (R.length : Int) + 1 ∧ gI T 108 = (R.length : Int) + 1 ∧ EV (gA S 81) (gB T 107) R := by
  subst e
  obtain ⟨h1, h2, h3⟩ := H
  have h1' : gI S 1601 = ((R.length + 1 : Nat) : Int) := h1
  have h2' : gI T 108 = ((R.length + 1 : Nat) : Int) := h2
  exact ⟨h3.1, h3.2.1, h3.2.2.1, by omega, by omega, h3.2.2.2⟩
set_option maxHeartbeats 250000 in theorem EV_up {f g : Nat → Int} {L : List Bool} {v w : Int} (h : EV f g L) {n : Nat} (hn : L.length ≤ n) : EV (upZ f n v) (upZ g n w) L := EV_c h (fun j hj => ⟨upZ_n (by omega), upZ_n (by omega)⟩)
/-! what one step does, each side by itself -/
def PU (T T' : MS) (v : Int) : Prop := gI T' 108 = gI T 108 + 1 ∧ gB T' 107 = upZ (gB T 107) (gI T 108).toNat v
def PS (S S' : MS) (v : Int) : Prop := gI S' 1601 = gI S 1601 + 1 ∧ gA S' 81 = upZ (gA S 81) (gI S 1601).toNat v
def RM (T T' : MS) (c : Int) : Prop := (0 ≤ c ∧ PU T T' c) ∨ (c = -113 ∧ PU T T' (gI T 52)) ∨ (c = -114 ∧ PU T T' (gI T 53)) ∨ (c = -12 ∧ gI T' 108 = gI T 108 ∧ gB T' 107 = upZ (gB T 107) (gI T 108 - 1).toNat (1 - gB T 107 (gI T 108 - 1).toNat)) ∨ ((-11 ≤ c ∧ c ≤ -1) ∧ gI T' 108 = gI T 108 - 1 ∧ gB T' 107 = upZ (gB T 107) (gI T 108 - 2).toNat (jv c (gB T 107 (gI T 108 - 2).toNat) (gB T 107 (gI T 108 - 1).toNat)))
def RC (S S' : MS) (c : Int) : Prop := (0 ≤ c ∧ PS S S' c) ∨ (c = -113 ∧ PS S S' (gI S 1604)) ∨ (c = -114 ∧ PS S S' (gI S 1605)) ∨ (c = -12 ∧ gI S' 1601 = gI S 1601 ∧ gA S' 81 = upZ (gA S 81) (gI S 1601 - 1).toNat (1 - gA S 81 (gI S 1601 - 1).toNat)) ∨ ((-11 ≤ c ∧ c ≤ -1) ∧ gI S' 1601 = gI S 1601 - 1 ∧ gA S' 81 = upZ (gA S 81) (gI S 1601 - 2).toNat (jv c (gA S 81 (gI S 1601 - 2).toNat) (gA S 81 (gI S 1601 - 1).toNat)))
set_option maxHeartbeats 250000 in theorem m_part0 {T : MS} : pc (m_x12_qPartOf 0 0 T) (fun r => r = gI T 52) := by
  unfold m_x12_qPartOf
  exact pc_rg (pc_if (fun _ => pc_rg (pc_some rfl)) (fun n => absurd rfl n))
set_option maxHeartbeats 250000 in theorem m_part3 {T : MS} : pc (m_x12_qPartOf 3 0 T) (fun r => r = gI T 53) := by
  unfold m_x12_qPartOf
  exact pc_rg (pc_if (fun e => absurd e (by decide)) (fun _ => pc_if (fun e => absurd e (by decide)) (fun _ => pc_if (fun e => absurd e (by decide)) (fun _ => pc_if (fun _ => pc_rg (pc_some rfl)) (fun n => absurd rfl n)))))
set_option maxHeartbeats 250000 in theorem m_stp {c w x z : Int} {T : MS} {m : Nat} {Q : Int × MS → Prop} (hz : gA T 43 (3 + w).toNat = z) (hx : 0 ≤ x ∧ x < z) (hc : cr c (gA T 44 (1600 + x).toNat)) (hn : ¬ (c = -13 ∨ c = -14) ∧ (c ≤ -100 → c = -113 ∨ c = -114)) (G : ∀ T', TP T T' → RM T T' c → pc (m_x12_codesTell_L19 m w (x + 1) T') Q) : pc (m_x12_codesTell_L19 (m + 1) w x T) Q := by
  show pc (m_x12_codesTell_b19 (m_x12_codesTell_L19 m) w x T) Q
  unfold m_x12_codesTell_b19 m_x12_codesTell_J136
  unfold cr at hc
  have TPo : ∀ o : MS, (∀ k, gA o k = gA T k) → (∀ i, i ≠ 108 → gI o i = gI T i) → TP T o := fun o h1 h2 => ⟨h1 42, h1 43, h1 44, h2 52 (by decide), h2 53 (by decide)⟩
  refine pc_rdI (fun _ => pc_rg (pc_rg (pc_if (fun e => absurd e (by omega)) (fun _ => pc_rdI (fun _ => pc_rg (pc_if (fun e1 => pc_rg (pc_if (fun e2 => pc_rg (pc_if (fun e3 => ?_) (fun e3 => pc_rg (pc_if (fun e4 => ?_) (fun e4 => ?_))))) (fun e2 => ?_))) (fun e1 => ?_)))))))
  · have c1 : c = 1 := by omega
    exact pc_bq m_puts (fun o ho => G o (TPo o ho.2.2.2.1 ho.2.2.2.2) (Or.inl ⟨by omega, ho.2.1, by rw [ho.2.2.1, c1]⟩))
  · exact pc_rdL2 (fun g => pc_inb (pc_stn (fun s25 e25 => G s25 ⟨q_Ba e25, q_Ba e25, q_Ba e25, q_Bi e25, q_Bi e25⟩ (Or.inr (Or.inr (Or.inr (Or.inl ⟨by omega, q_Bi e25, q_BB e25⟩)))))))
  · rw [show gA T 44 (1600 + x).toNat = -c by omega]
    exact pc_bq (m_jn (by omega)) (fun o ho => G o (TPo o ho.2.2.2.1 ho.2.2.2.2) (Or.inr (Or.inr (Or.inr (Or.inr ⟨by omega, ho.2.1, ho.2.2.1⟩)))))
  · rcases (show c = -113 ∨ c = -114 by omega) with h | h
    · rw [show gA T 44 (1600 + x).toNat - 40 = 0 by omega]
      exact pc_bq m_part0 (fun r hr => pc_bq m_puts (fun o ho => G o (TPo o ho.2.2.2.1 ho.2.2.2.2) (Or.inr (Or.inl ⟨h, ho.2.1, by rw [ho.2.2.1, hr]⟩))))
    · rw [show gA T 44 (1600 + x).toNat - 40 = 3 by omega]
      exact pc_bq m_part3 (fun r hr => pc_bq m_puts (fun o ho => G o (TPo o ho.2.2.2.1 ho.2.2.2.2) (Or.inr (Or.inr (Or.inl ⟨h, ho.2.1, by rw [ho.2.2.1, hr]⟩)))))
  · rw [show gA T 44 (1600 + x).toNat - 1000 = c by omega]
    exact pc_rg (pc_bq m_puts (fun o ho => G o (TPo o ho.2.2.2.1 ho.2.2.2.2) (Or.inl ⟨by omega, ho.2.1, ho.2.2.1⟩)))
set_option maxHeartbeats 250000 in theorem s_fact13 {S : MS} : pc (m_x3_fact 13 S) (fun r => r = gI S 1604) := by
  unfold m_x3_fact
  exact pc_rg (pc_if (fun e => absurd e (by decide)) (fun _ => pc_if (fun e => absurd e (by decide)) (fun _ => pc_if (fun _ => pc_some rfl) (fun n => absurd rfl n))))
set_option maxHeartbeats 250000 in theorem s_fact14 {S : MS} : pc (m_x3_fact 14 S) (fun r => r = gI S 1605) := by
  unfold m_x3_fact
  exact pc_rg (pc_if (fun e => absurd e (by decide)) (fun _ => pc_if (fun e => absurd e (by decide)) (fun _ => pc_if (fun e => absurd e (by decide)) (fun _ => pc_if (fun _ => pc_some rfl) (fun n => absurd rfl n)))))
set_option maxHeartbeats 250000 in theorem s_not {v : Int} {S : MS} : pc (m_x3_changed (-12) v S) (fun r => r = 1 - v) := by
  unfold m_x3_changed
  exact pc_rg (pc_if (fun _ => pc_some rfl) (fun n => absurd rfl n))
set_option maxHeartbeats 250000 in theorem s_stp {c x z : Int} {S : MS} {n : Nat} {Q : Int × MS → Prop} (hcx : c = gA S 38 x.toNat) (hx : 0 ≤ x ∧ x < z) (h741 : z ≤ gI S 741) (hn : ¬ (c = -13 ∨ c = -14) ∧ (c ≤ -100 → c = -113 ∨ c = -114)) (hl : -114 ≤ c ∧ ¬ (-99 ≤ c ∧ c ≤ -15)) (hb : 0 ≤ gI S 1601 ∧ gI S 1601 ≤ 64) (hp : (0 ≤ c ∨ c ≤ -100) → gI S 1601 < 64) (hu : c = -12 → 1 ≤ gI S 1601)
    (hj : -11 ≤ c ∧ c ≤ -1 → 2 ≤ gI S 1601 ∧ (M1 (gA S 81 (gI S 1601 - 2).toNat) ∧ M1 (gA S 81 (gI S 1601 - 1).toNat)) ∧ (c ≤ -10 → (gA S 81 (gI S 1601 - 2).toNat = 0 ∨ gA S 81 (gI S 1601 - 2).toNat = 1) ∧ (gA S 81 (gI S 1601 - 1).toNat = 0 ∨ gA S 81 (gI S 1601 - 1).toNat = 1)))
    (G : ∀ S', SPv S S' → RC S S' c → pc (m_x3_value_L8 n z (x + 1) S') Q) : pc (m_x3_value_L8 (n + 1) z x S) Q := by
  subst hcx
  show pc (m_x3_value_b8 (m_x3_value_L8 n) z x S) Q
  unfold m_x3_value_b8 m_x3_value_J119
  have SPo : ∀ o : MS, (∀ k, k ≠ 81 → gA o k = gA S k) → (∀ i, i ≠ 1601 → gI o i = gI S i) → SPv S o := fun o h1 h2 => ⟨h1 38 (by decide), h2 741 (by decide), h2 1604 (by decide), h2 1605 (by decide)⟩
  refine pc_rg (pc_if (fun e => absurd e (by omega)) (fun _ => pc_rg (pc_rg (pc_if (fun e => absurd e (by omega)) (fun _ => pc_rg (pc_rg (pc_if (fun e => absurd e (by omega)) (fun _ => pc_rdI (fun _ => pc_rg (pc_if (fun e1 => pc_rg (pc_if (fun e2 => pc_rg (pc_if (fun e3 => ?_) (fun e3 => ?_))) (fun e2 => ?_))) (fun e1 => ?_)))))))))))
  · obtain ⟨j2, ⟨ja, jb⟩, j01⟩ := hj (by omega)
    refine pc_bq (s_pop (by omega)) (fun q28 h28 => pc_bq (s_pop (by rw [h28.2.1]; omega)) (fun q31 h31 => ?_))
    have e28 : q28.1 = gA S 81 (gI S 1601 - 1).toNat := h28.1
    have e31 : q31.1 = gA S 81 (gI S 1601 - 2).toNat := by rw [h31.1, h28.2.2.1 81, h28.2.1, show gI S 1601 - 1 - 1 = gI S 1601 - 2 by omega]
    have k31 : gI q31.2 1601 = gI S 1601 - 2 := by rw [h31.2.1, h28.2.1]; omega
    have a31 : ∀ k, gA q31.2 k = gA S k := fun k => (h31.2.2.1 k).trans (h28.2.2.1 k)
    rw [e28, e31]
    refine pc_bq (s_jn ⟨by omega, by omega⟩ ja jb j01) (fun r33 h33 => pc_bq (s_push (by rw [k31]; omega)) (fun s35 h35 => G s35 (SPo s35 (fun k hk => (h35.2.2.1 k hk).trans (a31 k)) (fun i hi => (h35.2.2.2 i hi).trans ((h31.2.2.2 i hi).trans (h28.2.2.2 i hi)))) (Or.inr (Or.inr (Or.inr (Or.inr ⟨by omega, by rw [h35.1, k31]; omega, by rw [h35.2.1, k31, a31 81, h33]⟩))))))
  · have c12 : gA S 38 x.toNat = -12 := by omega
    have h1 := hu c12
    refine pc_bq (s_pop (by omega)) (fun q38 h38 => ?_)
    rw [c12]
    refine pc_bq s_not (fun r40 h40 => pc_bq (s_push (by rw [h38.2.1]; omega)) (fun s42 h42 => G s42 (SPo s42 (fun k hk => (h42.2.2.1 k hk).trans (h38.2.2.1 k)) (fun i hi => (h42.2.2.2 i hi).trans (h38.2.2.2 i hi))) (Or.inr (Or.inr (Or.inr (Or.inl ⟨c12, by rw [h42.1, h38.2.1]; omega, by rw [h42.2.1, h38.2.1, h38.2.2.1 81, h40, h38.1]⟩))))))
  · have p1 := hp (by omega)
    rcases (show gA S 38 x.toNat = -113 ∨ gA S 38 x.toNat = -114 by omega) with h | h
    · rw [show -100 - gA S 38 x.toNat = 13 by omega]
      exact pc_bq s_fact13 (fun r hr => pc_bq (s_push p1) (fun o ho => G o (SPo o ho.2.2.1 ho.2.2.2) (Or.inr (Or.inl ⟨h, ho.1, by rw [ho.2.1, hr]⟩))))
    · rw [show -100 - gA S 38 x.toNat = 14 by omega]
      exact pc_bq s_fact14 (fun r hr => pc_bq (s_push p1) (fun o ho => G o (SPo o ho.2.2.1 ho.2.2.2) (Or.inr (Or.inr (Or.inl ⟨h, ho.1, by rw [ho.2.1, hr]⟩)))))
  · have p1 := hp (by omega)
    exact pc_bq (s_push p1) (fun o ho => G o (SPo o ho.2.2.1 ho.2.2.2) (Or.inl ⟨by omega, ho.1, ho.2.1⟩))
/-! the kinds that a step wants -/
set_option maxHeartbeats 250000 in theorem tyS_u {L L' : List Bool} (h : tyS (-12) L = some L') : ∃ R, L = true :: R ∧ L' = true :: R := by
  cases L with
  | nil =>
    have e : tyS (-12) [] = none := (if_neg (by decide)).trans ((if_neg (by decide)).trans (if_pos (by decide)))
    rw [e] at h
    cases h
  | cons x R =>
    have e : tyS (-12) (x :: R) = if (-12 : Int) = -12 then (if x = true then some (true :: R) else none) else some (false :: R) := (if_neg (by decide)).trans ((if_neg (by decide)).trans (if_pos (by decide)))
    rw [e, if_pos rfl] at h
    by_cases hx : x = true
    · rw [if_pos hx] at h
      cases h
      exact ⟨R, by rw [hx], rfl⟩
    · rw [if_neg hx] at h
      cases h
set_option maxHeartbeats 250000 in theorem tyS_j {c : Int} (hc : -11 ≤ c ∧ c ≤ -1) {L L' : List Bool} (h : tyS c L = some L') : ∃ x y R z, L = x :: y :: R ∧ L' = z :: R ∧ (z = true → c ≤ -7) ∧ (c ≤ -10 → x = true ∧ y = true) := by
  cases L with
  | nil =>
    have e : tyS c [] = none := (if_neg (by omega)).trans ((if_neg (by omega)).trans (if_neg (by omega)))
    rw [e] at h
    cases h
  | cons x L1 =>
    cases L1 with
    | nil =>
      have e : tyS c [x] = none := (if_neg (by omega)).trans ((if_neg (by omega)).trans (if_neg (by omega)))
      rw [e] at h
      cases h
    | cons y R =>
      have e : tyS c (x :: y :: R) = if c ≤ -10 then (if x = true ∧ y = true then some (true :: R) else none) else some (decide (c ≤ -7) :: R) := (if_neg (by omega)).trans ((if_neg (by omega)).trans (if_neg (by omega)))
      rw [e] at h
      by_cases k : c ≤ -10
      · rw [if_pos k] at h
        by_cases g : x = true ∧ y = true
        · rw [if_pos g] at h
          cases h
          exact ⟨x, y, R, true, rfl, rfl, fun _ => by omega, fun _ => g⟩
        · rw [if_neg g] at h
          cases h
      · rw [if_neg k] at h
        cases h
        exact ⟨x, y, R, decide (c ≤ -7), rfl, rfl, fun w => of_decide_eq_true w, fun w => absurd w k⟩
/- alike piles stay alike -/
set_option maxHeartbeats 250000 in theorem LP_step {S T S' T' : MS} {c : Int} {L L' : List Bool} (H : LPv S T L) (hy : tyS c L = some L') (a : RC S S' c) (b : RM T T' c) (hf : gI S 1604 = gI T 52 ∧ gI S 1605 = gI T 53) (hM : M1 (gI T 52) ∧ M1 (gI T 53)) (hc : c ≤ 1000000) : LPv S' T' L' := by
  rcases a with ⟨a0, a1⟩ | ⟨a0, a1⟩ | ⟨a0, a1⟩ | ⟨a0, a1⟩ | ⟨a0, a1⟩
  · have e : tyS c L = some (decide (c ≤ 1) :: L) := if_pos a0
    rw [e] at hy
    cases hy
    rcases b with ⟨_, b1⟩ | ⟨b0, _⟩ | ⟨b0, _⟩ | ⟨b0, _⟩ | ⟨b0, _⟩
    · exact LP_p H (v := c) (by omega) (fun w => by have := of_decide_eq_true w; omega) a1.1 a1.2 b1.1 b1.2
    all_goals omega
  · have e : tyS c L = some (false :: L) := (if_neg (by omega)).trans (if_pos (by omega))
    rw [e] at hy
    cases hy
    rcases b with ⟨b0, _⟩ | ⟨_, b1⟩ | ⟨b0, _⟩ | ⟨b0, _⟩ | ⟨b0, _⟩
    · omega
    · exact LP_p H (v := gI T 52) hM.1 (fun w => absurd w (by decide)) a1.1 (by rw [← hf.1]; exact a1.2) b1.1 b1.2
    all_goals omega
  · have e : tyS c L = some (false :: L) := (if_neg (by omega)).trans (if_pos (by omega))
    rw [e] at hy
    cases hy
    rcases b with ⟨b0, _⟩ | ⟨b0, _⟩ | ⟨_, b1⟩ | ⟨b0, _⟩ | ⟨b0, _⟩
    · omega
    · omega
    · exact LP_p H (v := gI T 53) hM.2 (fun w => absurd w (by decide)) a1.1 (by rw [← hf.2]; exact a1.2) b1.1 b1.2
    all_goals omega
  · subst a0
    obtain ⟨R, hL, rfl⟩ := tyS_u hy
    obtain ⟨p1, p2, p3, p4, p5, p6⟩ := LP_0 H hL
    rcases b with ⟨b0, _⟩ | ⟨b0, _⟩ | ⟨b0, _⟩ | ⟨_, b1, b2⟩ | ⟨b0, _⟩
    · omega
    · omega
    · omega
    · have i1 : (gI S 1601 - 1).toNat = R.length := by omega
      have i2' : (gI T 108 - 1).toNat = R.length := by omega
      have a2 := a1.2
      rw [i1] at a2
      rw [i2'] at b2
      refine ⟨?_, ?_, ?_⟩
      · show gI S' 1601 = ((R.length + 1 : Nat) : Int); rw [a1.1]; omega
      · show gI T' 108 = ((R.length + 1 : Nat) : Int); rw [b1]; omega
      · rw [a2, b2, p1]
        have q := p3 rfl
        exact EV_p p6 (by omega) (fun _ => by omega)
    · omega
  · obtain ⟨x, y, R, z, hL, rfl, hz, hxy⟩ := tyS_j a0 hy
    obtain ⟨p1, p2, p3, p4, p5, p6⟩ := LP_0 H hL
    obtain ⟨r1, r2, r3, r4⟩ := p6
    rcases b with ⟨b0, _⟩ | ⟨b0, _⟩ | ⟨b0, _⟩ | ⟨b0, _⟩ | ⟨_, b1, b2⟩
    · omega
    · omega
    · omega
    · omega
    · have ly : (y :: R).length = R.length + 1 := rfl
      rw [ly] at p1 p2 p3 p4 p5
      have i1 : (gI S 1601 - 1).toNat = R.length + 1 := by omega
      have i2' : (gI S 1601 - 2).toNat = R.length := by omega
      have j1 : (gI T 108 - 1).toNat = R.length + 1 := by omega
      have j2 : (gI T 108 - 2).toNat = R.length := by omega
      have a2 := a1.2
      rw [i1, i2', p1, r1] at a2
      rw [j1, j2] at b2
      have JM := jv_M a0 r2 p2 (fun w => ⟨r3 (hxy w).2, p3 (hxy w).1⟩)
      refine ⟨?_, ?_, ?_⟩
      · show gI S' 1601 = ((R.length + 1 : Nat) : Int); rw [a1.1]; omega
      · show gI T' 108 = ((R.length + 1 : Nat) : Int); rw [b1]; omega
      · rw [a2, b2]
        exact EV_p r4 JM.1 (fun w => JM.2 (hz w))
set_option maxHeartbeats 250000 in theorem SP_t {s S S' : MS} (h : SPv s S) (g : SPv S S') : SPv s S' := ⟨g.1.trans h.1, g.2.1.trans h.2.1, g.2.2.1.trans h.2.2.1, g.2.2.2.trans h.2.2.2⟩
set_option maxHeartbeats 250000 in theorem TP_t {t T T' : MS} (h : TP t T) (g : TP T T') : TP t T' := ⟨g.1.trans h.1, g.2.1.trans h.2.1, g.2.2.1.trans h.2.2.1, g.2.2.2.1.trans h.2.2.2.1, g.2.2.2.2.trans h.2.2.2.2⟩
set_option maxHeartbeats 250000 in theorem y_eval {s t : MS} {a z w : Int} (ha : 0 ≤ a ∧ a ≤ z) (h741 : z ≤ gI s 741) (hw : gA t 42 (3 + w).toNat = a) (hz : gA t 43 (3 + w).toNat = z) (h44 : ∀ j : Nat, a ≤ (j : Int) → (j : Int) < z → gA t 44 (1600 + j) ≤ 10999)
    (hc : ∀ j : Nat, (j : Int) < z → cr (gA s 38 j) (gA t 44 (1600 + j))) (hF : FOK (gA s 38) a z 64) (hf : gI s 1604 = gI t 52 ∧ gI s 1605 = gI t 53) (hM : M1 (gI t 52) ∧ M1 (gI t 53)) : pc (m_x3_value a z s) (fun q => pc (m_x12_codesTell w t) (fun o => q.1 = o.1 ∧ (q.1 = 0 ∨ q.1 = 1))) := by
  obtain ⟨hF1, hE, hT⟩ := hF
  have L : ∀ (n : Nat) (x : Int) (S T : MS) (m : Nat) (L : List Bool), (a ≤ x ∧ x ≤ z) → SPv s S → TP t T → tyr (gA s 38) a.toNat (x - a).toNat [] = some L → LPv S T L → pc (m_x3_value_L8 n z x S) (fun q => pc (m_x12_codesTell_L19 m w x T) (fun o => q.1 = o.1 ∧ (q.1 = 0 ∨ q.1 = 1))) := by
    refine fr_ind (fun _ _ _ _ _ _ _ _ _ _ => pc_none) (fun n ih x S T m L hx hS hT' hL hP => ?_)
    cases m with
    | zero => exact fun q _ => pc_none
    | succ m =>
      have hzT : gA T 43 (3 + w).toNat = z := by rw [hT'.2.1]; exact hz
      by_cases xz : x = z
      · show pc (m_x3_value_b8 (m_x3_value_L8 n) z x S) _
        rw [xz] at hL
        have hLb := hE.symm.trans hL
        cases hLb
        obtain ⟨p1, p2, p3, p4, p5, p6⟩ := LP_0 hP rfl
        have p1 : gA S 81 0 = gB T 107 0 := p1
        have p3 : gB T 107 0 = 0 ∨ gB T 107 0 = 1 := p3 rfl
        have p4 : gI S 1601 = 1 := p4
        unfold m_x3_value_b8 m_x3_value_J125
        refine pc_rg (pc_if (fun e => absurd e (by omega)) (fun _ => pc_rg (pc_rg (pc_if (fun _ => ?_) (fun e => absurd (by omega) e)))))
        refine pc_bq (s_pop (by omega)) (fun q4 h4 => pc_some ?_)
        show pc (m_x12_codesTell_b19 (m_x12_codesTell_L19 m) w x T) _
        unfold m_x12_codesTell_b19
        refine pc_rdI (fun _ => pc_rg (pc_rg (pc_if (fun _ => pc_rdL (pc_some ?_)) (fun e => absurd (by omega) e))))
        show q4.1 = gB T 107 (Int.toNat 0) ∧ (q4.1 = 0 ∨ q4.1 = 1)
        rw [h4.1, p4]
        show gA S 81 0 = gB T 107 0 ∧ (gA S 81 0 = 0 ∨ gA S 81 0 = 1)
        rw [p1]
        exact ⟨rfl, p3⟩
      · have xn : (x.toNat : Int) = x := by omega
        have cc := hc x.toNat (by omega)
        have ff := hF1 x.toNat (by omega) (by omega)
        have c9 := h44 x.toNat (by omega) (by omega)
        have idx : (1600 + x).toNat = 1600 + x.toNat := by omega
        obtain ⟨L', hL', hlen⟩ := hT ((x - a).toNat + 1) (by omega)
        have hstep : tyS (gA s 38 x.toNat) L = some L' := by
          have q : (tyr (gA s 38) a.toNat (x - a).toNat []).bind (tyS (gA s 38 (a.toNat + (x - a).toNat))) = some L' := hL'
          rw [hL, show a.toNat + (x - a).toNat = x.toNat by omega] at q
          exact q
        have hlenL : (L.length : Int) ≤ 64 := by
          obtain ⟨R, r1, r2⟩ := hT (x - a).toNat (by omega)
          rw [hL] at r1
          cases r1
          exact r2
        have crb : -118 ≤ gA s 38 x.toNat ∧ gA s 38 x.toNat ≤ 9999 := by
          unfold cr at cc; omega
        have P0 := hP
        obtain ⟨q1, q2, q3⟩ := P0
        refine s_stp (c := gA s 38 x.toNat) (by rw [hS.1]) ⟨by omega, by omega⟩ (by rw [hS.2.1]; exact h741) ff ⟨by unfold cr at cc; omega, by unfold cr at cc; omega⟩ (by omega) (fun w1 => ?_) (fun w1 => ?_) (fun w1 => ?_) (fun S' hS' hRC => ?_)
        · have : L'.length = L.length + 1 := by
            by_cases k : 0 ≤ gA s 38 x.toNat
            · have e : tyS (gA s 38 x.toNat) L = some (decide (gA s 38 x.toNat ≤ 1) :: L) := if_pos k
              rw [e] at hstep
              cases hstep
              rfl
            · have e : tyS (gA s 38 x.toNat) L = some (false :: L) := (if_neg k).trans (if_pos (by omega))
              rw [e] at hstep
              cases hstep
              rfl
          omega
        · rw [w1] at hstep
          obtain ⟨R, hR, _⟩ := tyS_u hstep
          have p := LP_0 hP hR
          omega
        · obtain ⟨x1, y1, R, z1, hR, _, _, hxy⟩ := tyS_j w1 hstep
          obtain ⟨p1, p2, p3, p4, p5, p6⟩ := LP_0 hP hR
          obtain ⟨r1, r2, r3, r4⟩ := p6
          have ly : (y1 :: R).length = R.length + 1 := rfl
          rw [ly] at p1 p2 p3 p4 p5
          have i1 : (gI S 1601 - 1).toNat = R.length + 1 := by omega
          have i2' : (gI S 1601 - 2).toNat = R.length := by omega
          rw [i1, i2', p1, r1]
          exact ⟨by omega, ⟨r2, p2⟩, fun v => ⟨r3 (hxy v).2, p3 (hxy v).1⟩⟩
        · refine fun q eq => m_stp (c := gA s 38 x.toNat) hzT ⟨by omega, by omega⟩ (by rw [idx, hT'.2.2.1]; exact cc) ff (fun T' hTT hRM => ?_)
          exact ih (x + 1) S' T' m L' (by omega) (SP_t hS hS') (TP_t hT' hTT) (by rw [show (x + 1 - a).toNat = (x - a).toNat + 1 by omega]; exact hL') (LP_step hP hstep hRC hRM ⟨by rw [hS.2.2.1, hT'.2.2.2.1]; exact hf.1, by rw [hS.2.2.2, hT'.2.2.2.2]; exact hf.2⟩ ⟨by rw [hT'.2.2.2.1]; exact hM.1, by rw [hT'.2.2.2.2]; exact hM.2⟩ (by omega)) q eq
  unfold m_x3_value m_x12_codesTell
  refine pc_stn (fun s49 e49 => fun q eq => pc_stn (fun s35 e35 => pc_stn (fun s36 e36 => pc_rdI (fun _ => ?_))))
  have i42 : gA s36 42 (3 + w).toNat = a := by rw [(q_Ia e36 : gA s36 42 = gA s35 42), (q_Ia e35 : gA s35 42 = gA t 42)]; exact hw
  rw [i42]
  exact L FU a s49 s36 FU [] ⟨Int.le_refl _, ha.2⟩ ⟨q_Ia e49, q_Ii e49 (by decide), q_Ii e49 (by decide), q_Ii e49 (by decide)⟩ ⟨(q_Ia e36).trans (q_Ia e35), (q_Ia e36).trans (q_Ia e35), (q_Ia e36).trans (q_Ia e35), (q_Ii e36 (by decide)).trans (q_Ii e35 (by decide)), (q_Ii e36 (by decide)).trans (q_Ii e35 (by decide))⟩ (by rw [show (a - a).toNat = 0 by omega]; rfl) ⟨q_II e49, q_II e36, True.intro⟩ q eq
/-! ===== whether a BLOCK splits: the same on both sides ===== -/
set_option maxHeartbeats 250000 in theorem SIM_k {π σ : Nat → Nat} {s s' t t' : MS} (h : SIM π σ s t) (a : ∀ k, 54 ≤ k → k ≤ 61 → gA s' k = gA s k) (a2 : gI s' 1060 = gI s 1060) (a3 : gL s' 1062 = gL s 1062) (b : gA t' 49 = gA t 49) (b2 : gA t' 39 5 = gA t 39 5) (b3 : gA t' 54 = gA t 54) : SIM π σ s' t' := by
  obtain ⟨⟨p, c, l, r⟩, n, w⟩ := h
  have e1 : hB s' 54 = hB s 54 := by
    unfold hB
    rw [a (54 + 2) (by decide) (by decide), a (54 + 3) (by decide) (by decide), a (54 + 5) (by decide) (by decide)]
  have e2 : kB s' 54 = kB s 54 := by
    unfold kB
    rw [a (54 + 4) (by decide) (by decide)]
  have e3 : cM t' = cM t := by unfold cM; rw [b]
  refine ⟨⟨by rw [a2]; exact p, fun x hx => ?_, fun x hx q => ?_, fun v hv => ?_⟩, by rw [a2, b2]; exact n, fun x hx q => ?_⟩
  · rw [a 54 (by decide) (by decide), a (54 + 1) (by decide) (by decide), b]; exact c x hx
  · rw [b] at q
    rw [e1, e2, b]
    exact l x hx q
  · rw [a (54 + 6) (by decide) (by decide), a (54 + 7) (by decide) (by decide), b]; exact r v hv
  · rw [a3, b3]
    exact w x hx (by rw [← e3]; exact q)
/- what was told of splits -/
def ZP (s t : MS) : Prop := gI s 581 = gA t 39 6 ∧ CDT s t ∧ (gA s 35 1 ≠ -1 → (0 ≤ gA s 35 1 ∧ gA s 35 1 ≤ gA s 36 1) ∧ (gA s 36 1 ≤ gI s 741 ∧ gI s 741 ≤ 1600) ∧ FOK (gA s 38) (gA s 35 1) (gA s 36 1) 64)
set_option maxHeartbeats 250000 in theorem ZP_k {s s' t t' : MS} (h : ZP s t) (a1 : gI s' 581 = gI s 581) (a2 : gI s' 741 = gI s 741) (a3 : ∀ k, 35 ≤ k → k ≤ 38 → gA s' k = gA s k) (b : ∀ k, k = 39 ∨ (42 ≤ k ∧ k ≤ 44) → gA t' k = gA t k) : ZP s' t' := by
  unfold ZP CDT at h ⊢
  rw [a1, a2, a3 35 (by decide) (by decide), a3 36 (by decide) (by decide), a3 38 (by decide) (by decide), b 39 (by omega), b 42 (by omega), b 43 (by omega), b 44 (by omega)]
  exact h
set_option maxHeartbeats 250000 in theorem m_spl {b : Nat} {t : MS} {Q : Int × MS → Prop} (h1 : ¬ (hM t).2.1 b < gA t 39 6 → Q (1, t)) (h2 : (hM t).2.1 b < gA t 39 6 → (hM t).2.1 b < 2 → Q (0, t)) (h3 : (hM t).2.1 b < gA t 39 6 → ¬ (hM t).2.1 b < 2 → gA t 42 4 = -1 → Q (0, t))
    (h4 : (hM t).2.1 b < gA t 39 6 → ¬ (hM t).2.1 b < 2 → gA t 42 4 ≠ -1 → ∀ s21 : MS, (∀ i, i ≠ 52 → i ≠ 53 → gI s21 i = gI t i) → (∀ k, gA s21 k = gA t k) → gI s21 52 = (hM t).1 b → gI s21 53 = (hM t).2.1 b → pc (m_x12_codesTell 1 s21) (fun o => (o.1 = 0 ∨ o.1 = 1) ∧ Q (o.1, o.2))) : pc (m_x12_doesSplit (b : Int) t) Q := by
  unfold m_x12_doesSplit m_x12_roomOf m_x12_isCoded m_x12_isCoded_J17 m_x12_doesSplit_J29 m_x12_doesSplit_J60
  have tb : ((b : Nat) : Int).toNat = b := Int.toNat_natCast _
  refine pc_bq (m_ents (by omega)) (fun r6 h6 => pc_bq (Q := fun r => r = gA t 39 6) (pc_rdI (fun _ => pc_some rfl)) (fun r8 h8 => ?_))
  rw [tb] at h6
  rw [h6, h8]
  refine pc_rg (pc_rg (pc_if (fun c1 => pc_rg (pc_if (fun c2 => pc_some (h2 c1 c2)) (fun c2 => pc_bq (Q := fun r => (gA t 42 4 = -1 ∧ r = 0) ∨ (gA t 42 4 ≠ -1 ∧ r = 1)) (pc_rdI (fun _ => pc_rg (pc_if (fun c => pc_bo (pc_some (Or.inl ⟨c, rfl⟩))) (fun c => pc_bo (pc_some (Or.inr ⟨c, rfl⟩)))))) (fun r15 h15 => pc_rg (pc_if (fun c3 => pc_some ?_) (fun c3 => pc_bq (m_lev (by omega)) (fun r19 h19 => pc_stn (fun s20 e20 => pc_stn (fun s21 e21 => ?_))))))))) (fun c1 => pc_some (h1 c1))))
  · rcases h15 with ⟨a, _⟩ | ⟨_, a⟩
    · exact h3 c1 c2 a
    · omega
  · rcases h15 with ⟨_, a⟩ | ⟨a, _⟩
    · omega
    · rw [tb] at h19
      refine pc_bq (h4 c1 c2 a s21 (fun i i1 i2' => (q_Ii e21 i2').trans (q_Ii e20 i1)) (fun k => (q_Ia e21).trans (q_Ia e20)) (by rw [(q_Ii e21 (by decide) : gI s21 52 = gI s20 52), (q_II e20 : gI s20 52 = _), h19]) (q_II e21)) (fun o ho => pc_rgL (pc_if (fun c => pc_bo (pc_some ?_)) (fun c => pc_bo (pc_some ?_))))
      · have := ho.2
        rw [c] at this
        exact this
      · have := ho.2
        rw [show o.1 = 0 by have := ho.1; omega] at this
        exact this
set_option maxHeartbeats 250000 in theorem y_splits {π σ : Nat → Nat} {s t : MS} {b : Nat} {q o : Int × MS} (h : SIM π σ s t) (hb : b < 48) (hl : LV t b) (hZ : ZP s t) (hRt : Rr t) (hsz : (0 ≤ (hM t).2.1 b ∧ (hM t).2.1 b ≤ 6) ∧ (hM t).1 b ≤ 48 ∧ 0 ≤ (hM t).1 b) (e1 : m_x1_splits (π b : Int) s = some q) (e2 : m_x12_doesSplit (b : Int) t = some o) : q.1 = o.1 ∧ (q.1 = 0 ∨ q.1 = 1) ∧ SIM π σ q.2 o.2 ∧ ZP q.2 o.2 := by
  have F1 : F_x1_splits s q.2 := fr_x1_splits e1
  have F2 : F_x12_doesSplit t o.2 := fr_x12_doesSplit e2
  have B := sim_b h hb hl
  have tp : ((π b : Nat) : Int).toNat = π b := Int.toNat_natCast _
  have V : pc (m_x1_splits (π b : Int) s) (fun q => pc (m_x12_doesSplit (b : Int) t) (fun o => q.1 = o.1 ∧ (q.1 = 0 ∨ q.1 = 1))) := by
    have z : gA s 57 (π b) = (hM t).2.1 b := B.2.1
    have l56 : gA s 56 (π b) = (hM t).1 b := B.1
    have r6 := hZ.1
    have c4 : gA t 42 4 = gA s 35 1 := (hZ.2.1.2 1 (by decide)).1
    unfold m_x1_splits m_x1_splits_J47 m_x1_splits_J121
    refine pc_rdI (fun _ => pc_rg (pc_rg (pc_if (fun c1 => pc_rdI (fun _ => pc_rg (pc_if (fun c2 => pc_some ?_) (fun c2 => pc_rdI (fun _ => pc_rg (pc_if (fun c3 => pc_some ?_) (fun c3 => pc_rdI (fun _ => pc_stn (fun s16 e16 => pc_rdI (fun _ => pc_stn (fun s18 e18 => pc_rdI (fun _ => pc_rdI (fun _ => pc_bn (fun q23 e23 => ?_)))))))))))))) (fun c1 => pc_some ?_))))
    · rw [tp, z] at c1 c2
      exact m_spl (fun w => absurd (by omega) w) (fun _ _ => ⟨rfl, Or.inl rfl⟩) (fun _ w => absurd c2 w) (fun _ w => absurd c2 w)
    · rw [tp, z] at c1 c2
      have c3' : gA s 35 1 = -1 := c3
      exact m_spl (fun w => absurd (by omega) w) (fun _ w => absurd w c2) (fun _ _ _ => ⟨rfl, Or.inl rfl⟩) (fun _ _ w => absurd (c4.trans c3') w)
    · rw [tp, z] at c1 c2
      have c3' : gA s 35 1 ≠ -1 := c3
      obtain ⟨⟨g1, g2⟩, ⟨g3, g3'⟩, g4⟩ := hZ.2.2 c3'
      have A18 : ∀ k, gA s18 k = gA s k := fun k => (q_Ia e18).trans (q_Ia e16)
      have i741 : gI s18 741 = gI s 741 := (q_Ii e18 (by decide)).trans (q_Ii e16 (by decide))
      have i1604 : gI s18 1604 = (hM t).1 b := by
        rw [(q_Ii e18 (by decide) : gI s18 1604 = gI s16 1604), (q_II e16 : gI s16 1604 = _), tp]; exact l56
      have i1605 : gI s18 1605 = (hM t).2.1 b := by
        rw [(q_II e18 : gI s18 1605 = _), (q_Ia e16 : gA s16 57 = gA s 57), tp]; exact z
      have k35 : gA s18 35 (Int.toNat 1) = gA s 35 1 := by rw [A18]; rfl
      have k36 : gA s18 36 (Int.toNat 1) = gA s 36 1 := by rw [A18]; rfl
      rw [k35, k36] at e23
      have T : ∀ s21 : MS, (∀ i, i ≠ 52 → i ≠ 53 → gI s21 i = gI t i) → (∀ k, gA s21 k = gA t k) → gI s21 52 = (hM t).1 b → gI s21 53 = (hM t).2.1 b → pc (m_x12_codesTell 1 s21) (fun o => q23.1 = o.1 ∧ (q23.1 = 0 ∨ q23.1 = 1)) := fun s21 _ tA t52 t53 =>
        y_eval (s := s18) (t := s21) (a := gA s 35 1) (z := gA s 36 1) (w := 1) ⟨g1, g2⟩ (by rw [i741]; exact g3) (by rw [tA]; exact c4) (by rw [tA]; exact (hZ.2.1.2 1 (by decide)).2 c3') (fun j _ jz => by
          rw [tA]
          exact (hRt.2.1 44 (1600 + j) (by show 1600 + j < 3200; omega)).2) (fun j jz => by rw [tA, A18]; exact hZ.2.1.1 j (by omega)) (by rw [A18]; exact g4) ⟨by rw [i1604, t52], by rw [i1605, t53]⟩ ⟨by rw [t52]; omega, by rw [t53]; omega⟩ q23 e23
      refine pc_rg (pc_if (fun c5 => pc_bo (pc_some ?_)) (fun c5 => pc_bo (pc_some ?_)))
      · refine m_spl (fun w => absurd (by omega) w) (fun _ w => absurd w c2) (fun _ _ w => absurd (c4.symm.trans w) c3') (fun _ _ _ s21 a1 a2 a3 a4 => pc_mono (T s21 a1 a2 a3 a4) (fun o ho => ⟨by omega, ?_, Or.inl rfl⟩))
        show (0 : Int) = o.1
        omega
      · refine m_spl (fun w => absurd (by omega) w) (fun _ w => absurd w c2) (fun _ _ w => absurd (c4.symm.trans w) c3') (fun _ _ _ s21 a1 a2 a3 a4 => pc_mono (T s21 a1 a2 a3 a4) (fun o ho => ⟨by omega, ?_, Or.inr rfl⟩))
        show (1 : Int) = o.1
        omega
    · rw [tp, z] at c1
      exact m_spl (fun _ => ⟨rfl, Or.inr rfl⟩) (fun w => absurd (by omega) c1) (fun w => absurd (by omega) c1) (fun w => absurd (by omega) c1)
  have v := V q e1 o e2
  exact ⟨v.1, v.2, SIM_k h (fun k k1 k2 => F1.2.1 k (by simp; omega)) (F1.1 1060 (by decide)) (F1.2.2.1 1062 (by decide)) (F2.2.1 49 (by decide)) (by rw [F2.2.1 39 (by decide)]) (F2.2.1 54 (by decide)), ZP_k hZ (F1.1 581 (by decide)) (F1.1 741 (by decide)) (fun k k1 k2 => F1.2.1 k (by simp; omega)) (fun k hk => F2.2.1 k (by simp))⟩
set_option maxHeartbeats 250000 in theorem ZP_of {x t : MS} (H : PTJ x t) (h12 : gI x 12 ≠ 0) (h : gI x 741 ≤ 1600) : ZP x t := by
  obtain ⟨⟨_, g6, _⟩, c, f⟩ := H.2.1 h12
  exact ⟨g6.symm, c, fun z => by
    obtain ⟨⟨a1, a2, a3⟩, b⟩ := f z
    exact ⟨⟨a1, a2⟩, ⟨a3, h⟩, b⟩⟩
/-! ===== a BLOCK splits on both sides ===== -/
def HLv (o S : MS) (r b : Nat) (n : Int) : Prop := BX o S r ∧ (hM S).2.1 r = Int.tdiv n 2 ∧ (∀ j : Nat, (j : Int) < Int.tdiv n 2 → (hM S).2.2 r j = (hM o).2.2 b ((n - Int.tdiv n 2).toNat + j) ∧ kM S r j = kM o b ((n - Int.tdiv n 2).toNat + j)) ∧ gA S 39 = gA o 39 ∧ gA S 54 r ≠ 0 ∧ ∀ x, x ≠ r → gA S 54 x = gA o 54 x
def SZv (S q : MS) (b : Nat) (n : Int) : Prop := BX S q b ∧ (hM q).2.1 b = n - Int.tdiv n 2 ∧ (∀ j, (hM q).2.2 b j = (hM S).2.2 b j ∧ kM q b j = kM S b j) ∧ gA q 39 = gA S 39 ∧ TT S q b
/- what the reference does where it splits b under a -/
def HFm (a b : Nat) (p1 key : Int) (t : MS) (o1 o : Int × MS) : Prop := (gI o1.2 55 = 1 ∧ o = ((b : Int), o1.2)) ∨ (gI o1.2 55 = 0 ∧ ∃ S q s, HLv o1.2 S o1.1.toNat b ((hM t).2.1 b) ∧ SZv S q b ((hM t).2.1 b) ∧ Rr q ∧ gI q 55 = 0 ∧ m_x12_inserts (a : Int) (p1 + 1) (kM q o1.1.toNat 0) o1.1 q = some s ∧ o.2 = s ∧ ((key < kM s o1.1.toNat 0 ∧ o.1 = (b : Int)) ∨ (¬ key < kM s o1.1.toNat 0 ∧ o.1 = o1.1)))
set_option maxHeartbeats 2000000 in
theorem m_half {a b : Nat} {p1 key : Int} {t : MS} (hR : Rr t) (hN : 0 ≤ gA t 39 5 ∧ gA t 39 5 ≤ 48) (hC : CE t 0) (h0 : gI t 55 = 0) (hb : b < 48) (lb : LV t b) (lev : 0 ≤ (hM t).1 b ∧ (hM t).1 b ≤ 48) (hz : 2 ≤ (hM t).2.1 b ∧ (hM t).2.1 b ≤ 6) : pc (m_x12_half (a : Int) p1 (b : Int) key t) (fun o => ∃ o1, m_x12_taken ((hM t).1 b) (b : Int) t = some o1 ∧ HFm a b p1 key t o1 o) := by
  have tb : ((b : Nat) : Int).toNat = b := Int.toNat_natCast _
  unfold m_x12_half
  refine pc_bq (m_lev (by omega)) (fun r36 h36 => pc_bn (fun o1 e1 => ?_))
  rw [tb] at h36
  rw [h36] at e1
  have W := wp_det (w_x12_taken hR hN hC (p0 := (hM t).1 b) (p1 := (b : Int)) ⟨lev.1, by omega⟩ ⟨by omega, by omega⟩) e1
  obtain ⟨hRo, _, W3⟩ := W
  have Fo : F_x12_taken t o1.2 := fr_x12_taken e1
  have r55 : (0 : Int) ≤ gI o1.2 55 ∧ gI o1.2 55 ≤ 1 := hRo.1 55
  refine pc_rg (pc_if (fun c1 => ?_) (fun c1 => pc_some ⟨o1, e1, Or.inl ⟨by omega, rfl⟩⟩))
  rcases W3 with w | ⟨_, ⟨r0, r1⟩, ⟨c0, v0⟩, TK⟩
  · omega
  obtain ⟨r, hrr⟩ : ∃ r, r = o1.1.toNat := ⟨_, rfl⟩
  have ri : o1.1 = (r : Int) := by omega
  have tr : ((r : Nat) : Int).toNat = r := Int.toNat_natCast _
  rw [← hrr] at c0 v0 TK
  have r48 : r < 48 := by omega
  have nrb : b ≠ r := fun e => by
    rw [e] at lb; unfold LV at lb; omega
  have zb : (hM o1.2).2.1 b = (hM t).2.1 b := TK.1 (20 + 16 * b) (by omega)
  have T54 : gA o1.2 54 r ≠ 0 := by
    rcases m_taken h0 o1 e1 with ⟨z, _⟩ | ⟨_, z⟩
    · omega
    · rw [z, ← hrr, upZ_s]; decide
  obtain ⟨n, hn⟩ : ∃ n, n = (hM t).2.1 b := ⟨_, rfl⟩
  have td := half_b (z := n) (E := 100) (by omega) (by omega) (by omega)
  obtain ⟨⟨t1, _, t2⟩, t3, _, t5⟩ := td
  refine pc_bq (m_ents (by omega)) (fun r43 h43 => pc_dv (pc_bq (m_ents (by omega)) (fun r46 h46 => ?_)))
  rw [tb, zb, ← hn] at h43 h46
  rw [h43, h46, ri]
  have L43 : ∀ (m : Nat) (x : Int) (S : MS), Rr S → gI S 55 = 0 → (0 ≤ x ∧ x ≤ Int.tdiv n 2) → BX o1.2 S r → (hM S).2.1 r = x → (∀ j : Nat, (j : Int) < x → (hM S).2.2 r j = (hM o1.2).2.2 b ((n - Int.tdiv n 2).toNat + j) ∧ kM S r j = kM o1.2 b ((n - Int.tdiv n 2).toNat + j)) → gA S 39 = gA o1.2 39 → (gA S 54 r ≠ 0 ∧ ∀ x, x ≠ r → gA S 54 x = gA o1.2 54 x) → pc (m_x12_half_L43 m (a : Int) p1 (b : Int) key (r : Int) (Int.tdiv n 2) (n - Int.tdiv n 2) x S) (fun o => ∃ o1, m_x12_taken ((hM t).1 b) (b : Int) t = some o1 ∧ HFm a b p1 key t o1 o) := by
    refine fr_ind (fun _ _ _ _ _ _ _ _ _ _ => pc_none) (fun m ih x S hRS s55 hx hBX hsz hcp s39 s54 => ?_)
    show pc (m_x12_half_b43 (m_x12_half_L43 m) (a : Int) p1 (b : Int) key (r : Int) (Int.tdiv n 2) (n - Int.tdiv n 2) x S) _
    unfold m_x12_half_b43 m_x12_half_J142
    refine pc_rg (pc_rg (pc_if (fun c2 => ?_) (fun c2 => ?_)))
    · have xg : x = Int.tdiv n 2 := by omega
      refine pc_inb (pc_stn (fun s16 e16 => pc_inb (pc_bo (pc_stn (fun s19 e19 => ?_)))))
      have hR16 : Rr s16 := e16 ▸ Rr.uAu hRS (by show (-2147483648 : Int) ≤ n - Int.tdiv n 2 ∧ n - Int.tdiv n 2 ≤ 2147483647; omega)
      have hR19 : Rr s19 := e19 ▸ Rr.uAu hR16 (by show (0 : Int) ≤ 1 ∧ (1 : Int) ≤ 1; omega)
      have u16 : gA s16 49 = upZ (gA S 49) (20 + 16 * b) (n - Int.tdiv n 2) := by
        rw [(q_AA e16 : gA s16 49 = _), show (17 + 16 * (b : Int) + 3).toNat = 20 + 16 * b by omega]
      obtain ⟨b2, z2, r2⟩ := M_size u16
      have u19 : gA s19 49 = gA s16 49 := q_Aa e19 (by decide)
      have hM' : hM s19 = hM s16 := by unfold hM; rw [u19]
      have kM' : kM s19 = kM s16 := by unfold kM; rw [u19]
      have SZ : SZv S s19 b n := by
        refine ⟨fun j hj => by rw [u19]; exact b2 j hj, by rw [hM']; exact z2, fun j => by rw [hM', kM']; exact r2 j, (q_Aa e19 (by decide)).trans (q_Aa e16 (by decide)), ?_, fun y hy => ?_⟩
        · rw [(q_AA e19 : gA s19 54 = _), tb, upZ_s]; decide
        · rw [(q_AA e19 : gA s19 54 = _), tb, upZ_n hy, (q_Aa e16 (by decide) : gA s16 54 = gA S 54)]
      refine pc_bq (m_key (by omega) (by decide)) (fun r21 h21 => pc_bn (fun s23 e23 => pc_bq (m_key (by omega) (by decide)) (fun r25 h25 => pc_rg (pc_rg (pc_if (fun c => pc_some ?_) (fun c => pc_some ?_))))))
      · rw [tr] at h21 h25
        rw [h21] at e23
        rw [h25] at c
        refine ⟨o1, e1, Or.inr ⟨c1, S, s19, s23, ?_, ?_, hR19, ((q_Ai e19).trans (q_Ai e16)).trans s55, ?_, rfl, Or.inl ⟨?_, rfl⟩⟩⟩
        · rw [← hrr, ← hn]; exact ⟨hBX, hsz.trans xg, fun j hj => hcp j (by omega), s39, s54.1, s54.2⟩
        · rw [← hn]; exact SZ
        · rw [← hrr, ri]; exact e23
        · rw [← hrr]; exact c
      · rw [tr] at h21 h25
        rw [h21] at e23
        rw [h25] at c
        refine ⟨o1, e1, Or.inr ⟨c1, S, s19, s23, ?_, ?_, hR19, ((q_Ai e19).trans (q_Ai e16)).trans s55, ?_, rfl, Or.inr ⟨?_, ri.symm⟩⟩⟩
        · rw [← hrr, ← hn]; exact ⟨hBX, hsz.trans xg, fun j hj => hcp j (by omega), s39, s54.1, s54.2⟩
        · rw [← hn]; exact SZ
        · rw [← hrr, ri]; exact e23
        · rw [← hrr]; exact c
    · refine pc_bq (m_key (by omega) ⟨by omega, by omega⟩) (fun r30 h30 => pc_bq (m_val (by omega) ⟨by omega, by omega⟩) (fun r32 h32 => pc_bn (fun s34 e34 => ?_)))
      rw [tb] at h30 h32
      have k30 : R2 r30 := by
        rw [h30]
        show R2 (if (n - Int.tdiv n 2 + x).toNat < 6 then gA S 49 (21 + 16 * b + (n - Int.tdiv n 2 + x).toNat) else 0)
        rw [if_pos (by omega)]; exact R49 hRS (by omega)
      have k32 : R2 r32 := by
        rw [h32]
        show R2 (if (n - Int.tdiv n 2 + x).toNat < 6 then gA S 49 (27 + 16 * b + (n - Int.tdiv n 2 + x).toNat) else 0)
        rw [if_pos (by omega)]; exact R49 hRS (by omega)
      have W2 := wp_det (w_x12_inserts hRS (p0 := (r : Int)) ⟨by omega, by omega⟩ ⟨hx.1, by rw [tr, hsz]; exact Int.le_refl _⟩ (by rw [tr, hsz]; omega) k30 k32) e34
      rw [tr] at W2
      obtain ⟨hR34, F34, iB, iz, ilo, iat, ihi⟩ := W2
      have TT2 := m_insT (p0 := (r : Int)) (by omega) s34 e34
      rw [tr] at TT2
      refine ih (x + 1) s34 hR34 ((F34.1 55 (by decide)).trans s55) (by omega) (BX_t hBX iB) (by rw [iz, hsz]) (fun j hj => ?_) ((F34.2.1 39 (by decide)).trans s39) ⟨TT2.1, fun y hy => (TT2.2 y hy).trans (s54.2 y hy)⟩
      by_cases z : j = x.toNat
      · rw [z, iat.1, iat.2, h32, h30, (BX_e hBX nrb).1, (BX_e hBX nrb).2, show (n - Int.tdiv n 2 + x).toNat = (n - Int.tdiv n 2).toNat + x.toNat by omega]; exact ⟨rfl, rfl⟩
      · rw [(ilo j (by omega)).1, (ilo j (by omega)).2]; exact hcp j (by omega)
  exact L43 FU 0 o1.2 hRo c1 (by omega) (BX_0 _ _) TK.2.2.2 (fun j hj => absurd hj (by omega)) rfl ⟨T54, fun _ _ => rfl⟩
/- what the class does -/
def HFc (A B : Nat) (p1 key : Int) (q1 q : Int × MS) : Prop := ∃ s13 s15 s17 s22, m_x1_layEntries (B : Int) (gA q1.2 57 B - Int.tdiv (gA q1.2 57 B) 2) q1.1 q1.2 = some s13 ∧ sA s13 57 (upZ (gA s13 57) B (gA q1.2 57 B - Int.tdiv (gA q1.2 57 B) 2)) = s15 ∧ m_x8_mark (B : Int) s15 = some s17 ∧ m_x8_insert (A : Int) (p1 + 1) (gA s17 58 (6 * q1.1.toNat)) q1.1 s17 = some s22 ∧ q.2 = s22 ∧ ((key < gA s17 58 (6 * q1.1.toNat) ∧ q.1 = (B : Int)) ∨ (¬ key < gA s17 58 (6 * q1.1.toNat) ∧ q.1 = q1.1))
set_option maxHeartbeats 250000 in theorem s_half {A B : Nat} {p1 key : Int} {s : MS} : pc (m_x1_split (A : Int) p1 (B : Int) key s) (fun q => ∃ q1, m_x1_take (gA s 56 B) (B : Int) s = some q1 ∧ ((q1.1 = -1 ∧ q.1 = -1) ∨ (q1.1 ≠ -1 ∧ HFc A B p1 key q1 q))) := by
  have tB : ((B : Nat) : Int).toNat = B := Int.toNat_natCast _
  unfold m_x1_split m_x1_split_J123 m_x8_slot
  rw [tB]
  refine pc_rdI (fun _ => ?_)
  rw [tB]
  refine pc_bn (fun q6 e6 => pc_rg (pc_if (fun c => pc_some ⟨q6, e6, Or.inl ⟨c, rfl⟩⟩) (fun c => pc_rdI (fun _ => pc_rdI (fun _ => pc_dv (pc_bn (fun s13 e13 => pc_inb (pc_stn (fun s15 e15 => pc_bn (fun s17 e17 => pc_bn (fun r19 e19 => ?_))))))))))) 
  cases e19
  rw [tB] at e13 e15
  refine pc_rdI (fun g => pc_bn (fun s22 e22 => ?_))
  have ix : (q6.1 * 6 + 0).toNat = 6 * q6.1.toNat := by omega
  rw [ix] at e22 ⊢
  exact pc_rg (pc_rg (pc_if (fun c5 => pc_some ⟨q6, e6, Or.inr ⟨c, s13, s15, s17, s22, e13, e15, e17, e22, rfl, Or.inl ⟨c5, rfl⟩⟩⟩) (fun c5 => pc_some ⟨q6, e6, Or.inr ⟨c, s13, s15, s17, s22, e13, e15, e17, e22, rfl, Or.inr ⟨c5, rfl⟩⟩⟩)))
set_option maxHeartbeats 2000000 in
theorem y_split {π σ : Nat → Nat} {s t : MS} {a b : Nat} {p1 key : Int} {q o : Int × MS} {D : Nat → Int} (h : SIM π σ s t) (hK : KLV t) (hR : Rg s) (hRt : Rr t) (S0 : TS s D (-1)) (hD : ∀ x, x < 48 → 0 ≤ D x) (hN : 0 ≤ gA t 39 5 ∧ gA t 39 5 ≤ 48) (hC : CE t 0) (hE1 : 0 ≤ gI s 581) (h0 : gI t 55 = 0)
    (ha : a < 48) (hb : b < 48) (hab : a ≠ b) (la : LV t a) (lb : LV t b) (hz : 2 ≤ (hM t).2.1 b) (hk : 0 ≤ p1 ∧ p1 < (hM t).2.1 a) (hz5 : (hM t).2.1 a ≤ 5) (hl : 0 < (hM t).1 a) (e1 : m_x1_split (π a : Int) p1 (π b : Int) key s = some q) (e2 : m_x12_half (a : Int) p1 (b : Int) key t = some o) :
    (q.1 = -1 ∧ gI o.2 55 = 1) ∨ (gI o.2 55 = 0 ∧ 0 ≤ q.1 ∧ (0 ≤ o.1 ∧ o.1 < 48) ∧ ∃ π' σ', SIM π' σ' q.2 o.2 ∧ q.1 = (π' o.1.toNat : Int) ∧ ∀ x, x < 48 → LV t x → π' x = π x) := by
  have hP := h.1.1
  have Kb := hK.2.1 b hb lb
  have Ka := hK.2.1 a ha la
  have sz := Kb.1.1.2.1
  have Bb := sim_b h hb lb
  obtain ⟨o1, eo1, O⟩ := m_half hRt hN hC h0 hb lb ⟨Kb.1.1.1, Kb.1.2⟩ ⟨hz, sz.2⟩ o e2
  obtain ⟨q1, eq1, Qc⟩ := s_half q e1
  have lev : gA s 56 (π b) = (hM t).1 b := Bb.1
  rw [lev] at eq1
  have pb48 := (hP b hb).1.1
  have WR1 := wp_det (ts_take hR S0 hD hE1 ⟨Kb.1.1.1, by have := Kb.1.2; omega⟩ (p1 := (π b : Int)) ⟨by omega, by omega⟩) eq1
  obtain ⟨R1, F1, W1⟩ := WR1
  have W2 := wp_det (w_x12_taken hRt hN hC (p0 := (hM t).1 b) (p1 := (b : Int)) ⟨Kb.1.1.1, by have := Kb.1.2; omega⟩ ⟨by omega, by omega⟩) eo1
  have Y := y_take h hK (by rw [h.2.1]; exact hN.2) h0 eq1 eo1 (W1.imp id (fun w => ⟨w.1, w.2.1, w.2.2.1⟩)) W2.2.2
  rcases Y with ⟨y1, y2⟩ | ⟨y1, y2, y3, y3', y4, TK, π1, σ1, H1, y5, y6⟩
  · rcases Qc with ⟨_, z⟩ | ⟨z, _⟩
    · rcases O with ⟨z2, rfl⟩ | ⟨z2, _⟩
      · exact Or.inl ⟨z, y2⟩
      · omega
    · exact absurd y1 z
  rcases Qc with ⟨z, _⟩ | ⟨_, s13, s15, s17, s22, e13, e15, e17, e22, qq, qa⟩
  · omega
  rcases O with ⟨z2, _⟩ | ⟨_, S, u, v, HL, SZ, hRu, u55, ev, oq, oa⟩
  · omega
  obtain ⟨r, hrr⟩ : ∃ r, r = o1.1.toNat := ⟨_, rfl⟩
  obtain ⟨c, hcc⟩ : ∃ c, c = q1.1.toNat := ⟨_, rfl⟩
  rw [← hrr] at TK y4 y5 HL ev oa
  have ri : o1.1 = (r : Int) := by omega
  have ci : q1.1 = (c : Int) := by omega
  rw [ri] at ev oa
  rw [← hcc] at e22 qa
  rw [ci] at e13 e22 qa
  have r48 : r < 48 := by omega
  have cr1 : π1 r = c := by omega
  have P1 := H1.1.1
  have c48 : c < 48 := by rw [← cr1]; exact (P1 r r48).1.1
  have kb : π1 b = π b := y6 b hb lb
  have ka : π1 a = π a := y6 a ha la
  have nbr : b ≠ r := fun e => y4 (by rw [← e]; exact lb)
  have nar : a ≠ r := fun e => y4 (by rw [← e]; exact la)
  have npb : π b ≠ c := fun e => nbr (PB_i P1 hb r48 (by rw [kb, cr1]; exact e))
  have npab : π a ≠ π b := fun e => hab (PB_i hP ha hb e)
  have npa : π a ≠ c := fun e => nar (PB_i P1 ha r48 (by rw [ka, cr1]; exact e))
  obtain ⟨n, hn⟩ : ∃ n, n = (hM t).2.1 b := ⟨_, rfl⟩
  rw [← hn] at HL SZ hz sz
  have td := half_b (z := n) (E := 100) hz sz.2 (by omega)
  obtain ⟨⟨t1, _, t2⟩, t3, _, t5⟩ := td
  -- after the taking
  have same : ∀ x, x ≠ r → (hM o1.2).1 x = (hM t).1 x ∧ (hM o1.2).2.1 x = (hM t).2.1 x ∧ cM o1.2 x = cM t x ∧ vM o1.2 x = vM t x := fun x hx => ⟨TK.1 (19 + 16 * x) (by omega), TK.1 (20 + 16 * x) (by omega), TK.1 (17 + 16 * x) (by omega), TK.1 (18 + 16 * x) (by omega)⟩
  have LVo : ∀ x, x < 48 → LV o1.2 x → x = r ∨ LV t x := fun x _ hl => by
    by_cases e : x = r
    · exact Or.inl e
    · refine Or.inr ?_
      unfold LV at hl ⊢
      rw [← (same x e).2.2.1, ← (same x e).2.2.2]; exact hl
  have LVi : ∀ x, LV t x → LV o1.2 x := fun x hl => by
    have e : x ≠ r := fun e => y4 (by rw [← e]; exact hl)
    unfold LV at hl ⊢
    rw [(same x e).2.2.1, (same x e).2.2.2]; exact hl
  have LVr : LV o1.2 r := Or.inl (by rw [TK.2.1.1]; decide)
  have K1 : ∀ x, x < 48 → LV o1.2 x → 0 ≤ (hM o1.2).2.1 x ∧ (hM o1.2).2.1 x ≤ 6 := fun x hx hl => by
    by_cases e : x = r
    · rw [e, TK.2.2.2]; decide
    · rcases LVo x hx hl with w | w
      · exact absurd w e
      · rw [(same x e).2.1]; exact (hK.2.1 x hx w).1.1.2.1
  have nB : gA q1.2 57 (π b) = n := by
    have B1 := sim_b H1 hb (LVi b lb)
    have z : gA q1.2 57 (π1 b) = (hM o1.2).2.1 b := B1.2.1
    rw [kb, (same b nbr).2.1, ← hn] at z
    exact z
  rw [nB] at e13 e15
  have tpb : ((π b : Nat) : Int).toNat = π b := Int.toNat_natCast _
  have tc : ((c : Nat) : Int).toNat = c := Int.toNat_natCast _
  obtain ⟨R13, l57, l58, l59⟩ := wp_det (w_x1_layEntries R1 (p0 := (π b : Int)) (p2 := (c : Int)) ⟨by omega, by omega⟩ ⟨by omega, by omega⟩ (p1 := n - Int.tdiv n 2) ⟨by omega, by rw [tpb, nB]; omega, by rw [tpb, nB]; exact sz.2⟩) e13
  rw [tpb, tc, nB, show n - (n - Int.tdiv n 2) = Int.tdiv n 2 by omega] at l57 l58 l59
  have F13 : F_x1_layEntries q1.2 s13 := fr_x1_layEntries e13
  obtain ⟨hlB, hlz, hlc, hl39, hl54, hl54'⟩ := HL
  -- the new block's entries
  have mk1 : bW (gL q1.2 1062) c := by
    have w := (H1.2.2 r r48 (by rw [TK.2.1.1]; decide))
    rw [cr1] at w
    refine w.2 ?_
    rcases m_taken h0 o1 eo1 with ⟨z, _⟩ | ⟨_, z⟩
    · omega
    · rw [z, ← hrr, upZ_s]; decide
  have H2 : SIM π1 σ1 s13 S := by
    refine sim_blk H1 K1 r48 (F13.2.1 54 (by decide)) (F13.2.1 55 (by decide)) (F13.2.1 56 (by decide)) (F13.2.1 60 (by decide)) (F13.2.1 61 (by decide)) (F13.1 1060 (by decide)) (fun x hx hn' => by rw [l57, upZ_n (by rw [← cr1]; exact hn')]) (fun x hx hn' k h6 => ?_) hlB hl39 (by rw [l57, cr1, upZ_s, hlz]) (fun k hk' => ?_) LVr (Or.inl ⟨fun x hx => ?_, hl54, hl54'⟩)
    · rw [cr1] at hn'
      rw [l58, l59, cpa_out (by omega), cpa_out (by omega)]
      exact ⟨rfl, rfl⟩
    · rw [hlz] at hk'
      have c2 := hlc k hk'
      have B1 := (sim_b H1 hb (LVi b lb)).2.2 ((n - Int.tdiv n 2).toNat + k) (by rw [(same b nbr).2.1, ← hn]; omega)
      rw [kb] at B1
      have lr : (hM o1.2).1 r = (hM o1.2).1 b := by rw [TK.2.2.1, (same b nbr).1]
      rw [cr1, l58, l59, cpa_at (by omega), cpa_at (by omega), c2.1, c2.2, lr, show 6 * π b + (n - Int.tdiv n 2).toNat + k = 6 * π b + ((n - Int.tdiv n 2).toNat + k) by omega]
      exact B1
    · rw [F13.2.2.1 1062 (by decide), cr1]
      exact ⟨fun w => Or.inr w, fun w => w.elim (fun e => by rw [e]; exact mk1) id⟩
  -- the old one's size
  obtain ⟨szB, szz, szr, sz39, szT⟩ := SZ
  have cS : cM S = cM o1.2 := BX_c hlB
  have vS : vM S = vM o1.2 := BX_v hlB
  have LVS : ∀ x, LV S x → LV o1.2 x := fun x hl => by unfold LV at hl ⊢; rw [← cS, ← vS]; exact hl
  have LVS' : ∀ x, LV o1.2 x → LV S x := fun x hl => by unfold LV at hl ⊢; rw [cS, vS]; exact hl
  have K2 : ∀ x, x < 48 → LV S x → 0 ≤ (hM S).2.1 x ∧ (hM S).2.1 x ≤ 6 := fun x hx hl => by
    by_cases e : x = r
    · rw [e, hlz]; omega
    · rw [BX_z hlB e]; exact K1 x hx (LVS x hl)
  have zbS : (hM S).2.1 b = n := by rw [BX_z hlB nbr, (same b nbr).2.1, hn]
  have g17 : LM s15 s17 (π b) := by
    have m := s_mark (p := (π b : Int)) (s := s15) ⟨by omega, by omega⟩ s17 e17
    rw [tpb] at m; exact m
  have F17 : F_x8_mark s15 s17 := fr_x8_mark e17
  have A17 : ∀ k, k ≠ 57 → gA s17 k = gA s13 k := fun k hk' => (F17.2.1 k (by simp)).trans (q_Aa e15 hk')
  have A57 : gA s17 57 = upZ (gA s13 57) (π b) (n - Int.tdiv n 2) := (F17.2.1 57 (by simp)).trans (q_AA e15)
  have H3 : SIM π1 σ1 s17 u := by
    refine sim_blk H2 K2 hb (A17 54 (by decide)) (A17 55 (by decide)) (A17 56 (by decide)) (A17 60 (by decide)) (A17 61 (by decide)) ((F17.1 1060 (by simp)).trans (q_Ai e15)) (fun x hx hn' => by rw [A57, upZ_n (by rw [← kb]; exact hn')]) (fun x hx hn' k h6 => by rw [A17 58 (by decide), A17 59 (by decide)]; exact ⟨rfl, rfl⟩) szB sz39 (by rw [A57, kb, upZ_s, szz]) (fun k hk' => ?_) (LVS' b (LVi b lb)) (Or.inl ⟨?_, szT⟩)
    · rw [szz] at hk'
      rw [(szr k).1, (szr k).2, A17 58 (by decide), A17 59 (by decide)]
      exact (sim_b H2 hb (LVS' b (LVi b lb))).2.2 k (by rw [zbS]; omega)
    · rw [kb]
      exact LM_e g17 (q_Al e15)
  -- the entry above
  have cU : cM u = cM S := BX_c szB
  have vU : vM u = vM S := BX_v szB
  have LVU : ∀ x, LV u x → LV S x := fun x hl => by unfold LV at hl ⊢; rw [← cU, ← vU]; exact hl
  have LVU' : ∀ x, LV t x → LV u x := fun x hl => by
    have w := LVS' x (LVi x hl)
    unfold LV at w ⊢; rw [cU, vU]; exact w
  have K3 : ∀ x, x < 48 → LV u x → 0 ≤ (hM u).2.1 x ∧ (hM u).2.1 x ≤ 6 := fun x hx hl => by
    by_cases e : x = b
    · rw [e, szz]; omega
    · rw [BX_z szB e]; exact K2 x hx (LVU x hl)
  have zaU : (hM u).2.1 a = (hM t).2.1 a := by rw [BX_z szB hab, BX_z hlB nar, (same a nar).2.1]
  have laU : (hM u).1 a = (hM t).1 a := by rw [BX_l szB, BX_l hlB, (same a nar).1]
  have LrU : LV u r := by
    have w := LVS' r LVr
    unfold LV at w ⊢; rw [cU, vU]; exact w
  have zrU : (hM u).2.1 r = Int.tdiv n 2 := by rw [BX_z szB (fun e => nbr e.symm), hlz]
  have kr := ((sim_b H3 r48 LrU).2.2 0 (by rw [zrU]; omega)).1
  rw [cr1] at kr
  have kr' : gA s17 58 (6 * c) = kM u r 0 := kr
  have hR15 : Rg s15 := e15 ▸ Rg.uAu R13 (by show (-1 : Int) ≤ n - Int.tdiv n 2 ∧ n - Int.tdiv n 2 ≤ 255; omega)
  have hR17 : Rg s17 := wp_det (w_x8_mark hR15 (by omega)) e17
  rw [kr', ← ka] at e22
  have rk : (-257 : Int) ≤ gA s17 58 (6 * c) ∧ gA s17 58 (6 * c) ≤ 65535 := hR17.2.1 58 _ (by show _ < 288; omega)
  rw [kr'] at rk
  have Y3 := y_ins H3 K3 hR17 hRu ha (LVU' a la) ⟨by omega, by rw [zaU]; omega⟩ (by rw [zaU]; exact hz5) rk (v1 := (c : Int)) (v2 := (r : Int)) ⟨by omega, by omega⟩ ⟨by omega, by omega⟩ ⟨fun _ => by rw [Int.toNat_natCast, cr1], fun w => by rw [laU] at w; omega⟩ e22 ev
  obtain ⟨H4, BXa, _⟩ := Y3
  have kv : kM v r 0 = kM u r 0 := (BX_e (j := 0) BXa (fun e => nar e.symm)).2
  have v55 : gI v 55 = 0 := by
    have Fv : F_x12_inserts u v := fr_x12_inserts ev
    exact (Fv.1 55 (by decide)).trans u55
  refine Or.inr ⟨by rw [oq]; exact v55, ?_⟩
  rw [kr'] at qa
  rw [kv] at oa
  rcases qa with ⟨x1, x2⟩ | ⟨x1, x2⟩
  · rcases oa with ⟨z1, z2⟩ | ⟨z1, _⟩
    · refine ⟨by rw [x2]; omega, by rw [z2]; omega, π1, σ1, by rw [qq, oq]; exact H4, ?_, y6⟩
      rw [x2, z2, Int.toNat_natCast, kb]
    · exact absurd x1 z1
  · rcases oa with ⟨z1, _⟩ | ⟨_, z2⟩
    · exact absurd z1 x1
    · refine ⟨by rw [x2]; omega, by rw [z2]; omega, π1, σ1, by rw [qq, oq]; exact H4, ?_, y6⟩
      rw [x2, z2, Int.toNat_natCast, cr1]
/-! ===== a root rises on both sides ===== -/
set_option maxHeartbeats 250000 in theorem KLV_take {t o : MS} {r : Nat} {l : Int} (hK : KLV t) (TK : TkE t o r l) (nl : ¬ LV t r) (hl : 0 ≤ l ∧ l ≤ 48) (h39 : gA o 39 = gA t 39) : KLV o := by
  have same : ∀ x, x ≠ r → (hM o).1 x = (hM t).1 x ∧ (hM o).2.1 x = (hM t).2.1 x ∧ cM o x = cM t x ∧ vM o x = vM t x := fun x hx => ⟨TK.1 (19 + 16 * x) (by omega), TK.1 (20 + 16 * x) (by omega), TK.1 (17 + 16 * x) (by omega), TK.1 (18 + 16 * x) (by omega)⟩
  have vals : ∀ x, x ≠ r → ∀ k, (hM o).2.2 x k = (hM t).2.2 x k := fun x hx k => by
    show (if k < 6 then gA o 49 (27 + 16 * x + k) else 0) = if k < 6 then gA t 49 (27 + 16 * x + k) else 0
    by_cases z : k < 6
    · rw [if_pos z, if_pos z, TK.1 _ (by omega)]
    · rw [if_neg z, if_neg z]
  have up : ∀ x, LV t x → LV o x ∧ x ≠ r := fun x hl => by
    have e : x ≠ r := fun e => nl (by rw [← e]; exact hl)
    refine ⟨?_, e⟩
    unfold LV at hl ⊢
    rw [(same x e).2.2.1, (same x e).2.2.2]; exact hl
  have dn : ∀ x, x ≠ r → LV o x → LV t x := fun x e hl => by
    unfold LV at hl ⊢
    rw [← (same x e).2.2.1, ← (same x e).2.2.2]; exact hl
  refine ⟨fun x hx => ?_, fun x hx hl' => ?_, fun v hv h0 h1 => ?_⟩
  · by_cases e : x = r
    · rw [e, TK.2.1.1, TK.2.1.2]; decide
    · rw [(same x e).2.2.1, (same x e).2.2.2]; exact hK.1 x hx
  · rw [h39]
    by_cases e : x = r
    · rw [e]
      refine ⟨⟨⟨by rw [TK.2.2.1]; exact hl.1, by rw [TK.2.2.2]; decide, fun _ k hk => ?_⟩, by rw [TK.2.2.1]; exact hl.2⟩, fun _ k hk => ?_⟩
      · rw [TK.2.2.2] at hk; omega
      · rw [TK.2.2.2] at hk; omega
    · have q := hK.2.1 x hx (dn x e hl')
      have s := same x e
      refine ⟨⟨Nd_ext q.1.1 s.1 s.2.1 (fun k _ => vals x e k) (fun w k hk => (same _ (up _ (q.2 w k hk).2).2).1), by rw [s.1]; exact q.1.2⟩, fun w k hk => ?_⟩
      rw [s.1] at w
      rw [s.2.1] at hk
      rw [vals x e k]
      exact ⟨(q.2 w k hk).1, (up _ (q.2 w k hk).2).1⟩
  · have e := TK.1 v (by omega)
    rw [e] at h0 h1 ⊢
    exact (up _ (hK.2.2 v hv h0 h1)).1
set_option maxHeartbeats 250000 in theorem KLV_ins {t o : MS} {a k : Nat} {key val : Int} (hK : KLV t) (I : InsE t o a k key val) (h39 : gA o 39 = gA t 39) (hz5 : (hM t).2.1 a ≤ 5) (hk : (k : Int) ≤ (hM t).2.1 a) (hv : 0 < (hM t).1 a → ((0 ≤ val ∧ val < gA t 39 5) ∧ val < 48) ∧ (hM t).1 val.toNat = (hM t).1 a - 1 ∧ LV t val.toNat) : KLV o := by
  obtain ⟨B, z, i1, i2, i3⟩ := I
  have c := BX_c B
  have v' := BX_v B
  have l := BX_l B
  have LE : ∀ x, LV o x ↔ LV t x := fun x => by unfold LV; rw [c, v']
  refine ⟨fun x hx => by rw [c, v']; exact hK.1 x hx, fun x hx hl => ?_, fun u hu h0 h1 => ?_⟩
  · have hl' := (LE x).1 hl
    have q := hK.2.1 x hx hl'
    rw [h39]
    by_cases e : x = a
    · rw [e] at q ⊢
      have key' : 0 < (hM t).1 a → ∀ j : Nat, (j : Int) < (hM t).2.1 a + 1 → ((0 ≤ (hM o).2.2 a j ∧ (hM o).2.2 a j < gA t 39 5) ∧ (hM o).2.2 a j < 48) ∧ (hM t).1 ((hM o).2.2 a j).toNat = (hM t).1 a - 1 ∧ LV t ((hM o).2.2 a j).toNat := fun w j hj => by
        rcases Nat.lt_trichotomy j k with g | g | g
        · rw [(i1 j g).1]
          have n := q.1.1.2.2 w j (by omega)
          have m := q.2 w j (by omega)
          exact ⟨⟨n.1, m.1.2⟩, n.2, m.2⟩
        · rw [g, i2.1]; exact hv w
        · obtain ⟨j', hj'⟩ : ∃ j', j = j' + 1 := ⟨j - 1, by omega⟩
          rw [hj', (i3 j' (by omega) (by omega)).1]
          have n := q.1.1.2.2 w j' (by omega)
          have m := q.2 w j' (by omega)
          exact ⟨⟨n.1, m.1.2⟩, n.2, m.2⟩
      have q1 := q.1.1.1
      have q2 := q.1.1.2.1
      refine ⟨⟨⟨by rw [l]; exact q1, by rw [z]; omega, fun w j hj => ?_⟩, by rw [l]; exact q.1.2⟩, fun w j hj => ?_⟩
      · rw [l] at w ⊢
        rw [z] at hj
        have r := key' w j hj
        exact ⟨r.1.1, r.2.1⟩
      · rw [l] at w
        rw [z] at hj
        have r := key' w j hj
        exact ⟨⟨r.1.1.1, r.1.2⟩, (LE _).2 r.2.2⟩
    · have s := BX_z B e
      refine ⟨⟨Nd_ext q.1.1 (by rw [l]) s (fun j _ => (BX_e B e).1) (fun _ _ _ => by rw [l]), by rw [l]; exact q.1.2⟩, fun w j hj => ?_⟩
      rw [l] at w
      rw [s] at hj
      rw [(BX_e (j := j) B e).1]
      exact ⟨(q.2 w j hj).1, (LE _).2 (q.2 w j hj).2⟩
  · by_cases hu17 : u < 17
    · rw [BX_u B hu17] at h0 h1 ⊢
      exact (LE _).2 (hK.2.2 u hu h0 h1)
    · omega
set_option maxHeartbeats 250000 in theorem KLV_root {t o : MS} {v : Nat} {q : Int} (hK : KLV t) (hv : v < 8) (e : gA o 49 = upZ (gA t 49) v q) (h39 : gA o 39 = gA t 39) (hq : 0 ≤ q → q < 48 → LV t q.toNat) : KLV o := by
  obtain ⟨⟨m1, m2⟩, ⟨m3, m4⟩, _⟩ := M_root hv e
  have LE : ∀ x, LV o x ↔ LV t x := fun x => by unfold LV; rw [m3, m4]
  refine ⟨fun x hx => by rw [m3, m4]; exact hK.1 x hx, fun x hx hl => ?_, fun u hu h0 h1 => ?_⟩
  · have r := hK.2.1 x hx ((LE x).1 hl)
    rw [m1, h39]
    exact ⟨r.1, fun w k hk => ⟨(r.2 w k hk).1, (LE _).2 (r.2 w k hk).2⟩⟩
  · rw [e] at h0 h1 ⊢
    by_cases z : u = v
    · rw [z, upZ_s] at h0 h1 ⊢
      exact (LE _).2 (hq h0 h1)
    · rw [upZ_n z] at h0 h1 ⊢
      exact (LE _).2 (hK.2.2 u hu h0 h1)
set_option maxHeartbeats 250000 in theorem sim_root {π σ : Nat → Nat} {s s' t t' : MS} {v : Nat} {q1 q2 : Int} (h : SIM π σ s t) (hv : v < 8) (a : ∀ k, 54 ≤ k → k ≤ 61 → k ≠ 60 → gA s' k = gA s k) (a60 : gA s' 60 = upZ (gA s 60) v q1) (a2 : gI s' 1060 = gI s 1060) (a3 : gL s' 1062 = gL s 1062) (b : gA t' 49 = upZ (gA t 49) v q2) (b2 : gA t' 39 5 = gA t 39 5) (b3 : gA t' 54 = gA t 54) (hr : rtr π q1 q2) : SIM π σ s' t' := by
  obtain ⟨⟨p, c, l, r⟩, n, w⟩ := h
  obtain ⟨⟨m1, m2⟩, ⟨m3, m4⟩, _⟩ := M_root hv b
  have e1 : hB s' 54 = hB s 54 := by
    unfold hB
    rw [a (54 + 2) (by decide) (by decide) (by decide), a (54 + 3) (by decide) (by decide) (by decide), a (54 + 5) (by decide) (by decide) (by decide)]
  have e2 : kB s' 54 = kB s 54 := by
    unfold kB
    rw [a (54 + 4) (by decide) (by decide) (by decide)]
  refine ⟨⟨by rw [a2]; exact p, fun x hx => ?_, fun x hx q => ?_, fun u hu => ?_⟩, by rw [a2, b2]; exact n, fun x hx q => ?_⟩
  · show gA s' 54 (π x) = cM t' x ∧ gA s' 55 (π x) = vM t' x
    rw [a 54 (by decide) (by decide) (by decide), a 55 (by decide) (by decide) (by decide), m3, m4]
    exact c x hx
  · show BR1 π (hB s' 54) (hM t') (kB s' 54) (kM t') x
    have q' : 0 < cM t' x ∨ 0 < vM t' x := q
    rw [m3, m4] at q'
    rw [e1, e2, m1, m2]
    exact l x hx q'
  · show rtr π (gA s' 60 u) (gA t' 49 u) ∧ rtr π (gA s' 61 u) (gA t' 49 (8 + u))
    rw [a60, a 61 (by decide) (by decide) (by decide), b, upZ_n (show 8 + u ≠ v by omega)]
    by_cases z : u = v
    · rw [z, upZ_s, upZ_s]
      exact ⟨hr, by have := (r v hv).2; exact this⟩
    · rw [upZ_n z, upZ_n z]; exact r u hu
  · rw [a3, b3]
    rw [m3] at q
    exact w x hx q
/- what the reference does -/
set_option maxHeartbeats 250000 in theorem m_root {b v : Nat} {key : Int} {t : MS} : pc (m_x12_rootSplit (v : Int) (b : Int) key t) (fun o => ∃ o1, m_x12_taken ((hM t).1 b + 1) 48 t = some o1 ∧ ((gI o1.2 55 ≠ 0 ∧ o = ((b : Int), o1.2)) ∨ (gI o1.2 55 = 0 ∧ ∃ u w, m_x12_inserts o1.1 0 (kM o1.2 b 0) (b : Int) o1.2 = some u ∧ sA u 49 (upZ (gA u 49) v o1.1) = w ∧ m_x12_half o1.1 0 (b : Int) key w = some o))) := by
  have tb : ((b : Nat) : Int).toNat = b := Int.toNat_natCast _
  have tv : ((v : Nat) : Int).toNat = v := Int.toNat_natCast _
  unfold m_x12_rootSplit
  refine pc_bq (m_lev (by omega)) (fun r2 h2 => pc_bn (fun o1 e1 => pc_rg (pc_if (fun c => ?_) (fun c => pc_some ?_))))
  · rw [tb] at h2
    rw [h2] at e1
    refine pc_bq (m_key (by omega) (by decide)) (fun r9 h9 => pc_bn (fun u eu => pc_inb (pc_stn (fun w ew => pc_bn (fun o16 e16 => pc_some ?_)))))
    rw [tb] at h9
    rw [h9] at eu
    rw [tv] at ew
    exact ⟨o1, e1, Or.inr ⟨c, u, w, eu, ew, e16⟩⟩
  · rw [tb] at h2
    rw [h2] at e1
    exact ⟨o1, e1, Or.inl ⟨c, rfl⟩⟩
/- what the class does -/
set_option maxHeartbeats 250000 in theorem s_root {B v : Nat} {s : MS} (hr : gA s 60 v = (B : Int)) : pc (m_x1_raiseRoot (v : Int) s) (fun q => ∃ q1, m_x1_take (gA s 56 B + 1) (B : Int) s = some q1 ∧ ((q1.1 = -1 ∧ q.1 = -1) ∨ (q1.1 ≠ -1 ∧ ∃ s14, m_x8_insert q1.1 0 (gA q1.2 58 (6 * B)) (B : Int) q1.2 = some s14 ∧ sA s14 60 (upZ (gA s14 60) v q1.1) = q.2 ∧ q.1 = q1.1))) := by
  have tB : ((B : Nat) : Int).toNat = B := Int.toNat_natCast _
  have tv : ((v : Nat) : Int).toNat = v := Int.toNat_natCast _
  unfold m_x1_raiseRoot m_x1_raiseRoot_J69 m_x8_slot
  refine pc_rdI (fun _ => ?_)
  rw [tv, hr]
  refine pc_rdI (fun _ => ?_)
  rw [tB]
  refine pc_bn (fun q7 e7 => pc_rg (pc_if (fun c => pc_some ⟨q7, e7, Or.inl ⟨c, c⟩⟩) (fun c => pc_bn (fun r11 e11 => ?_))))
  cases e11
  refine pc_rdI (fun _ => pc_bn (fun s14 e14 => pc_inb (pc_stn (fun s16 e16 => pc_some ?_))))
  rw [show ((B : Int) * 6 + 0).toNat = 6 * B by omega] at e14
  exact ⟨q7, e7, Or.inr ⟨c, s14, e14, e16, rfl⟩⟩
set_option maxHeartbeats 2000000 in
theorem y_raise {π σ : Nat → Nat} {s t : MS} {b v : Nat} {key : Int} {q o : Int × MS} {D : Nat → Int} (h : SIM π σ s t) (hK : KLV t) (hR : Rg s) (hRt : Rr t) (S0 : TS s D (-1)) (hD : ∀ x, x < 48 → 0 ≤ D x) (hN : 0 ≤ gA t 39 5 ∧ gA t 39 5 ≤ 48) (hC : CE t 0) (hE1 : 0 ≤ gI s 581) (h0 : gI t 55 = 0) (hv : v < 8)
    (hb : b < 48) (lb : LV t b) (hl : (hM t).1 b ≤ 47) (hz : 1 ≤ (hM t).2.1 b) (hr : gA s 60 v = (π b : Int)) (e1 : m_x1_raiseRoot (v : Int) s = some q) (e2 : m_x12_rootSplit (v : Int) (b : Int) key t = some o) :
    (q.1 = -1 ∧ gI o.2 55 = 1) ∨ (q.1 ≠ -1 ∧ ∃ r w π1 σ1, r < 48 ∧ SIM π1 σ1 q.2 w ∧ q.1 = (π1 r : Int) ∧ (∀ x, x < 48 → LV t x → π1 x = π x) ∧ KLV w ∧ Rr w ∧ (gA w 39 = gA t 39 ∧ ∀ k, 42 ≤ k → k ≤ 44 → gA w k = gA t k) ∧ gI w 55 = 0 ∧ LV w r ∧ (hM w).2.1 r = 1 ∧ (hM w).1 r = (hM t).1 b + 1 ∧ (b ≠ r ∧ LV w b ∧ (hM w).2.1 b = (hM t).2.1 b ∧ (hM w).1 b = (hM t).1 b) ∧ ((hM w).2.2 r 0 = (b : Int) ∧ ¬ LV t r ∧ (∀ x, x ≠ r → ROW t x w x) ∧ ∀ x, x < 48 → LV w x → x = r ∨ LV t x) ∧ m_x12_half (r : Int) 0 (b : Int) key w = some o) := by
  have hP := h.1.1
  have Kb := hK.2.1 b hb lb
  have Bb := sim_b h hb lb
  have lev : gA s 56 (π b) = (hM t).1 b := Bb.1
  have pb48 := (hP b hb).1.1
  have tpb : ((π b : Nat) : Int).toNat = π b := Int.toNat_natCast _
  obtain ⟨o1, eo1, O⟩ := m_root o e2
  obtain ⟨q1, eq1, Qc⟩ := s_root hr q e1
  rw [lev] at eq1
  have l0 := Kb.1.1.1
  obtain ⟨R1, F1, W1⟩ := wp_det (ts_take hR S0 hD hE1 (p0 := (hM t).1 b + 1) ⟨by omega, by omega⟩ (p1 := (π b : Int)) ⟨by omega, by omega⟩) eq1
  obtain ⟨Ro, _, W2⟩ := wp_det (w_x12_taken hRt hN hC (p0 := (hM t).1 b + 1) (p1 := 48) ⟨by omega, by omega⟩ ⟨by omega, by omega⟩) eo1
  have Fo : F_x12_taken t o1.2 := fr_x12_taken eo1
  have Y := y_take h hK (by rw [h.2.1]; exact hN.2) h0 eq1 eo1 (W1.imp id (fun w => ⟨w.1, w.2.1, w.2.2.1⟩)) W2
  rcases Y with ⟨y1, y2⟩ | ⟨y1, y2, y3, y3', y4, TK, π1, σ1, H1, y5, y6⟩
  · rcases Qc with ⟨_, z⟩ | ⟨z, _⟩
    · rcases O with ⟨_, rfl⟩ | ⟨z2, _⟩
      · exact Or.inl ⟨z, y2⟩
      · omega
    · exact absurd y1 z
  rcases Qc with ⟨z, _⟩ | ⟨_, s14, e14, e16, qa⟩
  · omega
  rcases O with ⟨z2, _⟩ | ⟨_, u, w, eu, ew, eh⟩
  · exact absurd y1 z2
  obtain ⟨r, hrr⟩ : ∃ r, r = o1.1.toNat := ⟨_, rfl⟩
  rw [← hrr] at TK y4 y5
  have ri : o1.1 = (r : Int) := by omega
  rw [ri] at eu ew eh
  rw [y5] at e14 e16 qa
  have r48 : r < 48 := by omega
  have P1 := H1.1.1
  have pr48 := (P1 r r48).1.1
  have tr : ((r : Nat) : Int).toNat = r := Int.toNat_natCast _
  have kb : π1 b = π b := y6 b hb lb
  have nbr : b ≠ r := fun e => y4 (by rw [← e]; exact lb)
  have K1 := KLV_take hK TK y4 ⟨by omega, by omega⟩ (Fo.2.1 39 (by decide))
  have sb1 : (hM o1.2).1 b = (hM t).1 b ∧ (hM o1.2).2.1 b = (hM t).2.1 b ∧ cM o1.2 b = cM t b ∧ vM o1.2 b = vM t b := ⟨TK.1 (19 + 16 * b) (by omega), TK.1 (20 + 16 * b) (by omega), TK.1 (17 + 16 * b) (by omega), TK.1 (18 + 16 * b) (by omega)⟩
  have lb1 : LV o1.2 b := by
    unfold LV at lb ⊢
    rw [sb1.2.2.1, sb1.2.2.2]; exact lb
  have lr1 : LV o1.2 r := Or.inl (by rw [TK.2.1.1]; decide)
  have k0 := ((sim_b H1 hb lb1).2.2 0 (by rw [sb1.2.1]; omega)).1
  rw [kb] at k0
  have k0' : gA q1.2 58 (6 * π b) = kM o1.2 b 0 := k0
  have rk : (-257 : Int) ≤ gA q1.2 58 (6 * π b) ∧ gA q1.2 58 (6 * π b) ≤ 65535 := R1.2.1 58 _ (by show _ < 288; omega)
  rw [k0'] at e14 rk
  have rb : LV o1.2 ((b : Nat) : Int).toNat := by rw [Int.toNat_natCast]; exact lb1
  have bN : (b : Int) < gA o1.2 39 5 := by
    rw [Fo.2.1 39 (by decide), ← h.2.1]
    refine (hP b hb).2.2.1 ?_
    have nl := (S0.1.2.1 (π b) pb48).2.1
    have ns := (S0.1.2.2.1 (π b) pb48).2.1
    have cb := sim_c h hb
    unfold LV at lb
    omega
  have Y2 := y_ins H1 (fun x hx hl => (K1.2.1 x hx hl).1.1.2.1) R1 Ro r48 lr1 (p1 := 0) (key := kM o1.2 b 0) (v1 := (π b : Int)) (v2 := (b : Int)) ⟨Int.le_refl 0, by rw [TK.2.2.2]; decide⟩ (by rw [TK.2.2.2]; decide) rk ⟨by omega, by omega⟩ ⟨by omega, by omega⟩ ⟨fun _ => by rw [Int.toNat_natCast, kb], fun w => by rw [TK.2.2.1] at w; omega⟩ e14 eu
  obtain ⟨H2, BXu, zu⟩ := Y2
  have WI := wp_det (w_x12_inserts Ro (p0 := (r : Int)) (p1 := 0) (p2 := kM o1.2 b 0) (p3 := (b : Int)) ⟨by omega, by omega⟩ ⟨Int.le_refl 0, by rw [tr, TK.2.2.2]; decide⟩ (by rw [tr, TK.2.2.2]; decide) ⟨by omega, by omega⟩ ⟨by omega, by omega⟩) eu
  rw [tr] at WI
  obtain ⟨Ru, Fu, Iu⟩ := WI
  have K2 := KLV_ins K1 Iu (Fu.2.1 39 (by decide)) (by rw [TK.2.2.2]; decide) (by rw [TK.2.2.2]; decide) (fun _ => ⟨⟨⟨by omega, bN⟩, by omega⟩, by rw [Int.toNat_natCast, sb1.1, TK.2.2.1]; omega, rb⟩)
  have lru : LV u r := by unfold LV; rw [BX_c BXu, BX_v BXu]; exact lr1
  have lbu : LV u b := by unfold LV; rw [BX_c BXu, BX_v BXu]; exact lb1
  have w49 : gA w 49 = upZ (gA u 49) v (r : Int) := q_AA ew
  have wA : ∀ k, k ≠ 49 → gA w k = gA u k := fun k hk => q_Aa ew hk
  have K3 : KLV w := KLV_root K2 hv w49 (wA 39 (by decide)) (fun _ _ => by rw [tr]; exact lru)
  obtain ⟨⟨m1, m2⟩, ⟨m3, m4⟩, _⟩ := M_root hv w49
  have Rw : Rr w := ew ▸ Rr.uAu Ru (by show (-2147483648 : Int) ≤ (r : Int) ∧ (r : Int) ≤ 2147483647; omega)
  have H3 : SIM π1 σ1 q.2 w := sim_root H2 hv (fun k k1 k2 k3 => q_Aa e16 k3) (q_AA e16) (q_Ai e16) (q_Al e16) w49 (by rw [wA 39 (by decide)]) (wA 54 (by decide)) (Or.inr (Or.inr ⟨by omega, by omega, by rw [tr]⟩))
  have LVw : ∀ x, LV u x → LV w x := fun x hl => by unfold LV at hl ⊢; rw [m3, m4]; exact hl
  refine Or.inr ⟨by rw [qa]; omega, r, w, π1, σ1, r48, H3, qa, y6, K3, Rw, ⟨?_, fun k k1 k2 => ?_⟩, ?_, LVw r lru, ?_, ?_, ⟨nbr, LVw b lbu, ?_, ?_⟩, ⟨?_, y4, fun x hx => ?_, fun x hx hl => ?_⟩, eh⟩
  · rw [wA 39 (by decide), Fu.2.1 39 (by decide)]; exact Fo.2.1 39 (by decide)
  · rw [wA k (by omega), Fu.2.1 k (by simp; omega)]; exact Fo.2.1 k (by simp; omega)
  · rw [(q_Ai ew : gI w 55 = gI u 55), Fu.1 55 (by decide)]; exact y1
  · rw [m1, zu, TK.2.2.2]; decide
  · rw [m1, BX_l BXu, TK.2.2.1]
  · rw [m1, BX_z BXu nbr]; exact sb1.2.1
  · rw [m1, BX_l BXu]; exact sb1.1
  · rw [m1]; exact Iu.2.2.2.1.1
  · exact ROW_t (ROW_t (ROW_tk TK hx) (ROW_bx BXu hx)) ⟨by rw [m1], by rw [m1], fun k => by rw [m1, m2]; exact ⟨rfl, rfl⟩⟩
  · by_cases e : x = r
    · exact Or.inl e
    · refine Or.inr ?_
      unfold LV at hl ⊢
      rw [m3, m4, BX_c BXu, BX_v BXu] at hl
      have c1 : cM o1.2 x = cM t x := TK.1 (17 + 16 * x) (by omega)
      have c2 : vM o1.2 x = vM t x := TK.1 (18 + 16 * x) (by omega)
      rw [← c1, ← c2]; exact hl
