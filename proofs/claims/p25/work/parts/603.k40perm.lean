/-! ===== blocks under other names ===== -/
def PNM (π σ : Nat → Nat) (N : Int) : Prop := ∀ b, b < 48 → (π b < 48 ∧ σ b < 48) ∧ (σ (π b) = b ∧ π (σ b) = b) ∧ ((π b : Int) < N ↔ (b : Int) < N)
theorem PB_i {π σ : Nat → Nat} {N : Int} (h : PNM π σ N) {a b : Nat} (ha : a < 48) (hb : b < 48) (e : π a = π b) : a = b := by
  rw [← (h a ha).2.1.1, ← (h b hb).2.1.1, e]
theorem PB_id (N : Int) : PNM (fun b => b) (fun b => b) N := fun b hb => ⟨⟨hb, hb⟩, ⟨rfl, rfl⟩, Iff.rfl⟩
theorem PB_s {π σ : Nat → Nat} {N : Int} (h : PNM π σ N) {b : Nat} (hb : b < 48) : (σ b : Int) < N ↔ (b : Int) < N := by
  have := (h (σ b) (h b hb).1.2).2.2
  rw [(h b hb).2.1.2] at this
  exact this.symm
def tw (a b x : Nat) : Nat := if x = a then b else if x = b then a else x
theorem tw_a (a b : Nat) : tw a b a = b := if_pos rfl
theorem tw_b (a b : Nat) : tw a b b = a := by
  unfold tw
  by_cases h : b = a
  · rw [if_pos h, h]
  · rw [if_neg h, if_pos rfl]
theorem tw_n {a b x : Nat} (h1 : x ≠ a) (h2 : x ≠ b) : tw a b x = x := by
  unfold tw
  rw [if_neg h1, if_neg h2]
theorem tw_tw (a b x : Nat) : tw a b (tw a b x) = x := by
  by_cases h1 : x = a
  · rw [h1, tw_a, tw_b]
  · by_cases h2 : x = b
    · rw [h2, tw_b, tw_a]
    · rw [tw_n h1 h2, tw_n h1 h2]
theorem tw_lt {a b x : Nat} (ha : a < 48) (hb : b < 48) (hx : x < 48) : tw a b x < 48 := by
  unfold tw
  split
  · exact hb
  · split
    · exact ha
    · exact hx
/-- two that lie idle change names -/
theorem PB_tw {π σ : Nat → Nat} {N : Int} (h : PNM π σ N) {a b : Nat} (ha : a < 48) (hb : b < 48) (hn : (a : Int) < N ↔ (b : Int) < N) : PNM (fun x => tw a b (π x)) (fun x => σ (tw a b x)) N := fun x hx => by
  have q := h x hx
  have hw := tw_lt ha hb hx
  have q2 := h (tw a b x) hw
  refine ⟨⟨tw_lt ha hb q.1.1, q2.1.2⟩, ⟨?_, ?_⟩, ?_⟩
  · show σ (tw a b (tw a b (π x))) = x
    rw [tw_tw]; exact q.2.1.1
  · show tw a b (π (σ (tw a b x))) = x
    rw [q2.2.1.2, tw_tw]
  · show ((tw a b (π x) : Nat) : Int) < N ↔ (x : Int) < N
    rw [← q.2.2]
    by_cases h1 : π x = a
    · rw [h1, tw_a]; exact hn.symm
    · by_cases h2 : π x = b
      · rw [h2, tw_b]; exact hn
      · rw [tw_n h1 h2]
theorem sm_pick {n i : Nat} {f : Nat → Int} (hi : i < n) : sm n (fun q => if q = i then f q else 0) = f i := by
  have h := sm_one (f := fun _ => 0) (g := fun q => if q = i then f q else 0) hi (fun j _ hn => if_neg hn)
  rw [sm_0 (fun _ _ => rfl), if_pos rfl] at h
  omega
/-- a sum under other names -/
theorem sm_pm {π σ : Nat → Nat} {N : Int} (h : PNM π σ N) (f : Nat → Int) : sm 48 f = sm 48 (fun p => f (π p)) := by
  have a : sm 48 (fun p => sm 48 (fun q => if q = π p then f q else 0)) = sm 48 (fun p => f (π p)) := sm_c (fun p hp => sm_pick (h p hp).1.1)
  have b : sm 48 (fun q => sm 48 (fun p => if q = π p then f q else 0)) = sm 48 f := sm_c (fun q hq => by
    rw [sm_c (n := 48) (g := fun p => if p = σ q then f q else 0) (fun p hp => by
      show (if q = π p then f q else 0) = if p = σ q then f q else 0
      by_cases e : q = π p
      · rw [if_pos e, if_pos (by rw [e]; exact (h p hp).2.1.1.symm)]
      · rw [if_neg e, if_neg (fun z => e (by rw [z]; exact (h q hq).2.1.2.symm))])]
    exact sm_pick (f := fun _ => f q) (h q hq).1.2)
  rw [← b, ← a, sm_sw]
/-! ===== a block on both sides ===== -/
def BR1 (π : Nat → Nat) (h1 h2 : SH) (k1 k2 : Nat → Nat → Int) (b : Nat) : Prop := h1.1 (π b) = h2.1 b ∧ h1.2.1 (π b) = h2.2.1 b ∧ ∀ k : Nat, (k : Int) < h2.2.1 b → k1 (π b) k = k2 b k ∧ (0 < h2.1 b → h1.2.2 (π b) k = (π (h2.2.2 b k).toNat : Int)) ∧ (h2.1 b ≤ 0 → h1.2.2 (π b) k = h2.2.2 b k)
/-- a root on both sides: 254 empty, 255 none -/
def rtr (π : Nat → Nat) (r1 r2 : Int) : Prop := (r2 = 254 ∧ r1 = -1) ∨ (r2 = 255 ∧ r1 = -2) ∨ (0 ≤ r2 ∧ r2 < 48 ∧ r1 = (π r2.toNat : Int))
theorem rtr_e {π : Nat → Nat} {r1 r2 : Int} (h : rtr π r1 r2) : (r1 = -2 ↔ r2 = 255) ∧ (r1 = -1 ↔ r2 = 254) ∧ (0 ≤ r1 ↔ r2 < 254) := by
  rcases h with ⟨a, b⟩ | ⟨a, b⟩ | ⟨a, b, c⟩ <;> omega
/-- how often a block's entries name another, under other names -/
theorem en_pm {π σ : Nat → Nat} {N : Int} {h1 h2 : SH} {k1 k2 : Nat → Nat → Int} {b x : Nat} (h : PNM π σ N) (hN : N ≤ 48) (hb : BR1 π h1 h2 k1 k2 b) (hn : Nd h2 N b) (hx : x < 48) : en h1 (π b) (π x : Int) = en h2 b (x : Int) := by
  have h6 := hn.2.1
  rw [en_sm (by rw [hb.2.1]; exact h6), en_sm h6, hb.1, hb.2.1]
  by_cases e : 0 < h2.1 b
  · rw [if_pos e, if_pos e]
    refine sm_c (fun k hk => ?_)
    have hk' : (k : Int) < h2.2.1 b := by omega
    have c := (hb.2.2 k hk').2.1 e
    have r := (hn.2.2 e k hk').1
    by_cases z : h2.2.2 b k = (x : Int)
    · rw [if_pos z, c, z, if_pos (by rw [Int.toNat_natCast])]
    · rw [if_neg z, c, if_neg (fun w => z ?_)]
      have w2 : π (h2.2.2 b k).toNat = π x := by omega
      have := PB_i h (by omega) hx w2
      omega
  · rw [if_neg e, if_neg e]
theorem rr_pm {π σ : Nat → Nat} {N : Int} {r1 r2 : Nat → Int} {x : Nat} (h : PNM π σ N) (hr : ∀ v, v < 8 → rtr π (r1 v) (r2 v)) (hx : x < 48) : rr r1 (π x : Int) = rr r2 (x : Int) := by
  unfold rr
  refine sm_c (fun v hv => ?_)
  rcases hr v hv with ⟨a, b⟩ | ⟨a, b⟩ | ⟨a, b, c⟩
  · rw [if_neg (by omega), if_neg (by omega)]
  · rw [if_neg (by omega), if_neg (by omega)]
  · by_cases z : r2 v = (x : Int)
    · rw [if_pos z, c, z, if_pos (by rw [Int.toNat_natCast])]
    · rw [if_neg z, c, if_neg (fun w => z ?_)]
      have w2 : π (r2 v).toNat = π x := by omega
      have := PB_i h (by omega) hx w2
      omega
/-- counts are what refers: they are alike where blocks and roots are -/
theorem cnt_det {π σ : Nat → Nat} {N : Int} {h1 h2 : SH} {k1 k2 : Nat → Nat → Int} {c1 c2 r1 r2 E1 E2 : Nat → Int} {L : Nat → Prop} (h : PNM π σ N) (hN : N ≤ 48)
    (hL : ∀ b, b < 48 → L b → BR1 π h1 h2 k1 k2 b ∧ Nd h2 N b ∧ h2.1 b ≤ 48)
    (n1 : ∀ b, b < 48 → 0 ≤ c1 b) (n2 : ∀ b, b < 48 → 0 ≤ c2 b) (l1 : ∀ b, b < 48 → 0 < c1 (π b) → L b) (l2 : ∀ b, b < 48 → 0 < c2 b → L b)
    (d1 : ∀ x, x < 48 → df h1 c1 r1 (π x) = E1 x) (d2 : ∀ x, x < 48 → df h2 c2 r2 x = E2 x) (hE : ∀ x, x < 48 → E1 x = E2 x) (hr : ∀ v, v < 8 → rtr π (r1 v) (r2 v)) : ∀ b, b < 48 → c1 (π b) = c2 b := by
  have main : ∀ n : Nat, ∀ b, b < 48 → L b → (49 : Int) - h2.1 b ≤ (n : Int) → c1 (π b) = c2 b := by
    intro n
    induction n with
    | zero => intro b hb lb hl; have := (hL b hb lb).2.2; omega
    | succ n ih =>
      intro b hb lb hl
      have a1 := d1 b hb
      have a2 := d2 b hb
      unfold df rf at a1 a2
      rw [rr_pm h hr hb] at a1
      have e : sm 48 (fun p => if 0 < c1 p then en h1 p ((π b : Nat) : Int) else 0) = sm 48 (fun p => if 0 < c2 p then en h2 p (b : Int) else 0) := by
        rw [sm_pm h]
        refine sm_c (fun p hp => ?_)
        show (if 0 < c1 (π p) then en h1 (π p) (π b : Int) else 0) = if 0 < c2 p then en h2 p (b : Int) else 0
        by_cases lp : L p
        · obtain ⟨bp, np, _⟩ := hL p hp lp
          rw [en_pm h hN bp np hb]
          by_cases z : en h2 p (b : Int) = 0
          · rw [z]; split <;> split <;> rfl
          · have q : 0 < en h2 p (b : Int) := by have := en_nn h2 p (b : Int); omega
            have up : 0 < h2.1 p ∧ ∃ k : Nat, (k : Int) < h2.2.1 p ∧ h2.2.2 p k = (b : Int) := by
              have q' := q
              unfold en enf at q'
              by_cases w : 0 < h2.1 p
              · rw [if_pos w] at q'
                obtain ⟨k, _, hk2⟩ := sm_ex q'
                refine ⟨w, k, ?_⟩
                by_cases v : (0 : Int) ≤ (k : Int) ∧ (k : Int) < h2.2.1 p ∧ h2.2.2 p k = (b : Int)
                · exact ⟨v.2.1, v.2.2⟩
                · rw [if_neg v] at hk2; omega
              · rw [if_neg w] at q'; omega
            obtain ⟨w, k, hk, hv⟩ := up
            have lv := (np.2.2 w k hk).2
            rw [hv, Int.toNat_natCast] at lv
            rw [ih p hp lp (by omega)]
        · have z1 : ¬ 0 < c1 (π p) := fun z => lp (l1 p hp z)
          have z2 : ¬ 0 < c2 p := fun z => lp (l2 p hp z)
          rw [if_neg z1, if_neg z2]
      have := hE b hb
      omega
  intro b hb
  by_cases lb : L b
  · have := (hL b hb lb).2.1.1
    exact main 49 b hb lb (by omega)
  · have z1 : ¬ 0 < c1 (π b) := fun z => lb (l1 b hb z)
    have z2 : ¬ 0 < c2 b := fun z => lb (l2 b hb z)
    have a := n1 (π b) (h b hb).1.1
    have b' := n2 b hb
    omega
