/-! ===== a bit for each block ===== -/
def bW (w : Int) (x : Nat) : Prop := andL (ushrLZ w (x : Int)) 1 ≠ 0
theorem bs_sh : ∀ x : Nat, x < 64 → ((((i2 (x : Int)).toInt64.toUInt64 &&& Int64.toUInt64 63).toBitVec % 64#64).toNat = x) := by decide +kernel
theorem bs_one : ∀ c : Nat, c < 48 → (shlL (i8 1) (i2 (c : Int))).toBitVec.toNat = 2 ^ c := by decide +kernel
theorem bW_t {w : Int} {x : Nat} (hx : x < 48) : bW w x ↔ Nat.testBit (i8 w).toBitVec.toNat x = true := by
  unfold bW andL
  have a : i8 (ushrLZ w (x : Int)) = ushrL (i8 w) (i2 (x : Int)) := Int64.ofInt_toInt _
  rw [a]
  have b : (ushrL (i8 w) (i2 (x : Int)) &&& i8 1).toInt = ((i8 w).toBitVec >>> (((i2 (x : Int)).toInt64.toUInt64 &&& Int64.toUInt64 63).toBitVec % 64#64) &&& 1#64).toInt := rfl
  rw [b]
  generalize hz : ((i8 w).toBitVec >>> (((i2 (x : Int)).toInt64.toUInt64 &&& Int64.toUInt64 63).toBitVec % 64#64) &&& 1#64) = z
  have n : z.toNat = (i8 w).toBitVec.toNat >>> x &&& 1 := by
    rw [← hz, BitVec.toNat_and, BitVec.ushiftRight_eq', BitVec.toNat_ushiftRight, bs_sh x (by omega)]
    rfl
  have m : (i8 w).toBitVec.toNat >>> x &&& 1 = (i8 w).toBitVec.toNat >>> x % 2 := Nat.and_one_is_mod _
  have t : Nat.testBit (i8 w).toBitVec.toNat x = (1 &&& ((i8 w).toBitVec.toNat >>> x) != 0) := rfl
  rw [t, Nat.and_comm 1, m]
  have c := BitVec.toInt_eq_toNat_cond z
  generalize (i8 w).toBitVec.toNat >>> x = q at n m ⊢
  have r : z.toInt = (z.toNat : Int) := by
    rw [c, if_pos (by omega)]
  rw [r, n, m]
  constructor
  · intro h
    have : q % 2 ≠ 0 := by omega
    exact bne_iff_ne.mpr this
  · intro h
    have := bne_iff_ne.mp h
    omega
theorem bW_or {w : Int} {c x : Nat} (hc : c < 48) (hx : x < 48) : bW (orL w (shlLZ 1 (c : Int))) x ↔ (x = c ∨ bW w x) := by
  rw [bW_t hx, bW_t hx]
  have a : i8 (orL w (shlLZ 1 (c : Int))) = i8 w ||| i8 (shlLZ 1 (c : Int)) := Int64.ofInt_toInt _
  have b : i8 (shlLZ 1 (c : Int)) = shlL (i8 1) (i2 (c : Int)) := Int64.ofInt_toInt _
  rw [a, b]
  have d : (i8 w ||| shlL (i8 1) (i2 (c : Int))).toBitVec = (i8 w).toBitVec ||| (shlL (i8 1) (i2 (c : Int))).toBitVec := rfl
  rw [d, BitVec.toNat_or, bs_one c hc, Nat.testBit_or, Nat.testBit_two_pow, Bool.or_eq_true, decide_eq_true_iff]
  constructor
  · rintro (h | h)
    · exact Or.inr h
    · exact Or.inl h.symm
  · rintro (h | h)
    · exact Or.inr h.symm
    · exact Or.inl h
theorem bW_0 {x : Nat} (hx : x < 48) : ¬ bW 0 x := by
  rw [bW_t hx]
  have : (i8 0).toBitVec.toNat = 0 := by decide +kernel
  rw [this, Nat.zero_testBit]
  exact Bool.false_ne_true
