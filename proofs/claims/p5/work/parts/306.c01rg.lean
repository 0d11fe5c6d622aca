/-! ===== ranges of the class ===== -/
def LO (k : Nat) : Int := if k = 12 then 0 else if k = 61 then 0 else if k = 100 then 0 else if k = 105 then 0 else if k = 106 then 0 else if k = 107 then 0 else if k = 108 then 0 else if k = 109 then 0 else if k = 110 then (-1) else if k = 111 then (-1) else if k = 143 then 0 else if k = 145 then 0 else if k = 220 then 0 else if k = 224 then 0 else if k = 321 then 0 else if k = 322 then 0 else if k = 421 then 0 else if k = 501 then 0 else if k = 580 then 0 else if k = 581 then 0 else if k = 582 then 0 else if k = 583 then 0 else if k = 584 then 0 else if k = 585 then 0 else if k = 741 then 0 else if k = 780 then 0 else if k = 781 then 0 else if k = 782 then 0 else if k = 783 then 0 else if k = 784 then 0 else if k = 785 then 0 else if k = 941 then 0 else if k = 983 then 0 else if k = 1060 then 0 else if k = 1061 then (-70000) else if k = 1240 then 0 else if k = 1241 then (-70000) else if k = 1420 then 0 else if k = 1421 then (-70000) else if k = 1601 then 0 else if k = 1602 then (-1000000) else if k = 1603 then (-1000000) else if k = 1604 then (-1000000) else if k = 1605 then (-1000000) else if k = 1606 then (-1000000) else if k = 1607 then (-1000000) else if k = 1608 then (-1000000) else if k = 9999 then 0 else (-2147483648)
def HI (k : Nat) : Int := if k = 12 then 1 else if k = 61 then 1600 else if k = 100 then 5 else if k = 105 then 3 else if k = 106 then 6 else if k = 107 then 4 else if k = 108 then 1600 else if k = 109 then 1600 else if k = 110 then 179 else if k = 111 then 255 else if k = 143 then 60 else if k = 145 then 20 else if k = 220 then 12 else if k = 224 then 8 else if k = 321 then 1364 else if k = 322 then 100000 else if k = 421 then 48 else if k = 501 then 48 else if k = 580 then 48 else if k = 581 then 6 else if k = 582 then 100 else if k = 583 then 60 else if k = 584 then 8 else if k = 585 then 60 else if k = 741 then 1600 else if k = 780 then 48 else if k = 781 then 6 else if k = 782 then 100 else if k = 783 then 60 else if k = 784 then 8 else if k = 785 then 60 else if k = 941 then 1600 else if k = 983 then 2147483647 else if k = 1060 then 48 else if k = 1061 then 999999 else if k = 1240 then 48 else if k = 1241 then 999999 else if k = 1420 then 48 else if k = 1421 then 16777215 else if k = 1601 then 64 else if k = 1602 then 1000000 else if k = 1603 then 1000000 else if k = 1604 then 1000000 else if k = 1605 then 1000000 else if k = 1606 then 1000000 else if k = 1607 then 1000000 else if k = 1608 then 1000000 else if k = 9999 then 2 else 2147483647
def LOA (k : Nat) : Int := if k = 4 then 0 else if k = 14 then 0 else if k = 17 then 0 else if k = 22 then 0 else if k = 26 then 0 else if k = 32 then (-1) else if k = 38 then (-300) else if k = 42 then (-1) else if k = 48 then (-300) else if k = 50 then 0 else if k = 51 then 0 else if k = 54 then (-1) else if k = 55 then (-1) else if k = 56 then (-1) else if k = 57 then (-1) else if k = 58 then (-257) else if k = 59 then (-257) else if k = 60 then (-2) else if k = 61 then (-2) else if k = 63 then (-1) else if k = 64 then (-1) else if k = 65 then (-1) else if k = 66 then (-1) else if k = 67 then (-257) else if k = 68 then (-257) else if k = 69 then (-2) else if k = 70 then (-2) else if k = 72 then (-1) else if k = 73 then (-1) else if k = 74 then (-1) else if k = 75 then (-1) else if k = 76 then (-257) else if k = 77 then (-257) else if k = 78 then (-2) else if k = 79 then (-2) else if k = 81 then (-1000000) else (-2147483648)
def HIA (k : Nat) : Int := if k = 4 then 255 else if k = 14 then 7 else if k = 17 then 255 else if k = 22 then 47 else if k = 26 then 47 else if k = 32 then 7 else if k = 38 then 1000000 else if k = 42 then 7 else if k = 48 then 1000000 else if k = 50 then 47 else if k = 51 then 5 else if k = 54 then 100000 else if k = 55 then 100000 else if k = 56 then 1000 else if k = 57 then 255 else if k = 58 then 65535 else if k = 59 then 65535 else if k = 60 then 253 else if k = 61 then 253 else if k = 63 then 100000 else if k = 64 then 100000 else if k = 65 then 1000 else if k = 66 then 255 else if k = 67 then 65535 else if k = 68 then 65535 else if k = 69 then 253 else if k = 70 then 253 else if k = 72 then 100000 else if k = 73 then 100000 else if k = 74 then 1000 else if k = 75 then 255 else if k = 76 then 65535 else if k = 77 then 65535 else if k = 78 then 253 else if k = 79 then 253 else if k = 81 then 1000001 else 2147483647
def LNA (k : Nat) : Nat := if k = 4 then 1600 else if k = 6 then 179 else if k = 8 then 60 else if k = 9 then 60 else if k = 10 then 60 else if k = 12 then 12 else if k = 13 then 12 else if k = 14 then 8 else if k = 15 then 8 else if k = 17 then 1364 else if k = 18 then 48 else if k = 19 then 48 else if k = 20 then 48 else if k = 22 then 48 else if k = 23 then 288 else if k = 24 then 288 else if k = 26 then 48 else if k = 27 then 288 else if k = 28 then 288 else if k = 30 then 48 else if k = 31 then 60 else if k = 32 then 60 else if k = 33 then 60 else if k = 34 then 60 else if k = 35 then 3 else if k = 36 then 3 else if k = 38 then 1600 else if k = 40 then 48 else if k = 41 then 60 else if k = 42 then 60 else if k = 43 then 60 else if k = 44 then 60 else if k = 45 then 3 else if k = 46 then 3 else if k = 48 then 1600 else if k = 50 then 48 else if k = 51 then 48 else if k = 52 then 48 else if k = 54 then 48 else if k = 55 then 48 else if k = 56 then 48 else if k = 57 then 48 else if k = 58 then 288 else if k = 59 then 288 else if k = 60 then 8 else if k = 61 then 8 else if k = 63 then 48 else if k = 64 then 48 else if k = 65 then 48 else if k = 66 then 48 else if k = 67 then 288 else if k = 68 then 288 else if k = 69 then 8 else if k = 70 then 8 else if k = 72 then 48 else if k = 73 then 48 else if k = 74 then 48 else if k = 75 then 48 else if k = 76 then 288 else if k = 77 then 288 else if k = 78 then 8 else if k = 79 then 8 else if k = 81 then 64 else 0
def Rg (s : MS) : Prop := (∀ k, LO k ≤ gI s k ∧ gI s k ≤ HI k) ∧ (∀ k j, j < LNA k → LOA k ≤ gA s k j ∧ gA s k j ≤ HIA k) ∧ (∀ k, R8 (gL s k)) ∧ (∀ k j, R8 (gB s k j))
theorem Rg.uI {s : MS} {k : Nat} {v : Int} (h : Rg s) (hv : LO k ≤ v ∧ v ≤ HI k) : Rg (sI s k v) := by
  refine ⟨fun j => ?_, h.2.1, h.2.2.1, h.2.2.2⟩
  rw [gI_sI]
  by_cases e : j = k
  · rw [if_pos e, e]; exact hv
  · rw [if_neg e]; exact h.1 j
theorem Rg.uA {s : MS} {k : Nat} {f : Nat → Int} (h : Rg s) (hv : ∀ j, j < LNA k → LOA k ≤ f j ∧ f j ≤ HIA k) : Rg (sA s k f) := by
  refine ⟨h.1, fun j i hi => ?_, h.2.2.1, h.2.2.2⟩
  rw [gA_sA]
  by_cases e : j = k
  · rw [if_pos e]; subst e; exact hv i hi
  · rw [if_neg e]; exact h.2.1 j i hi
theorem Rg.uAu {s : MS} {k : Nat} {i : Nat} {v : Int} (h : Rg s) (hv : LOA k ≤ v ∧ v ≤ HIA k) : Rg (sA s k (upZ (gA s k) i v)) := by
  refine h.uA (fun j hj => ?_)
  by_cases e : j = i
  · rw [e, upZ_s]; exact hv
  · rw [upZ_n e]; exact h.2.1 k j hj
theorem Rg.uL {s : MS} {k : Nat} {v : Int} (h : Rg s) (hv : R8 v) : Rg (sL s k v) := by
  refine ⟨h.1, h.2.1, fun j => ?_, h.2.2.2⟩
  rw [gL_sL]
  by_cases e : j = k
  · rw [if_pos e]; exact hv
  · rw [if_neg e]; exact h.2.2.1 j
theorem Rg.uB {s : MS} {k : Nat} {f : Nat → Int} (h : Rg s) (hv : ∀ j, R8 (f j)) : Rg (sB s k f) := by
  refine ⟨h.1, h.2.1, h.2.2.1, fun j i => ?_⟩
  rw [gB_sB]
  by_cases e : j = k
  · rw [if_pos e]; exact hv i
  · rw [if_neg e]; exact h.2.2.2 j i
theorem Rg.uBu {s : MS} {k : Nat} {i : Nat} {v : Int} (h : Rg s) (hv : R8 v) : Rg (sB s k (upZ (gB s k) i v)) := by
  refine h.uB (fun j => ?_)
  by_cases e : j = i
  · rw [e, upZ_s]; exact hv
  · rw [upZ_n e]; exact h.2.2.2 k j
theorem and_b (x : Int) : 0 ≤ andZ x 255 ∧ andZ x 255 ≤ 255 := by
  have h : (i2 x &&& i2 255) = Int32.ofBitVec ((i2 x).toBitVec &&& 255#32) := rfl
  unfold andZ
  rw [h]
  have h2 : (Int32.ofBitVec ((i2 x).toBitVec &&& 255#32)).toInt = ((i2 x).toBitVec &&& 255#32).toInt := rfl
  rw [h2]
  have h3 : ((i2 x).toBitVec &&& 255#32).toNat ≤ 255 := by
    rw [BitVec.toNat_and]
    exact Nat.and_le_right
  rw [BitVec.toInt_eq_toNat_of_lt (by omega)]
  omega
