set_option maxRecDepth 100000 in
/-- a State's cells, those of the one ahead of an ACT -/
def SB (D : va_G) (a : Nat → Nat) (s : MS) : va_W :=
  ((a 62), .inr (8, [.int (i2 (gI s 1240)), .int (i2 (gI s 1241)), .long (i8 (gL s 1242)), .ref (a 63), .ref (a 64), .ref (a 65), .ref (a 66), .ref (a 67), .ref (a 68), .ref (a 69), .ref (a 70)])) ::
  ((a 63), .inl (D.1 13, 48, .inl (fun j => i2 (gA s 63 j)))) ::
  ((a 64), .inl (D.1 13, 48, .inl (fun j => i2 (gA s 64 j)))) ::
  ((a 65), .inl (D.1 13, 48, .inl (fun j => i2 (gA s 65 j)))) ::
  ((a 66), .inl (D.1 13, 48, .inl (fun j => i2 (gA s 66 j)))) ::
  ((a 67), .inl (D.1 13, 288, .inl (fun j => i2 (gA s 67 j)))) ::
  ((a 68), .inl (D.1 13, 288, .inl (fun j => i2 (gA s 68 j)))) ::
  ((a 69), .inl (D.1 13, 8, .inl (fun j => i2 (gA s 69 j)))) ::
  ((a 70), .inl (D.1 13, 8, .inl (fun j => i2 (gA s 70 j)))) :: []
set_option maxRecDepth 100000 in
def CWl (D : va_G) (a : Nat → Nat) (c1 c2 c3 c4 : Value) (s : MS) : va_W :=
  ((a 0), .inr (11, [.ref (a 3), .ref (a 5), .ref (a 7), .ref (a 11), .ref (a 16), .ref (a 21), .ref (a 25), .ref (a 1), .ref (a 2), c2, c3, .ref (a 49), .int (i2 (gI s 12))])) ::
  ((a 1), .inl (D.1 15, 8, .inr (.inl (fun j => i8 (gB s 1 j))))) ::
  ((a 2), .inl (D.1 13, 6, .inl (fun j => i2 (gA s 2 j)))) ::
  ((a 3), .inr (9, [.ref (a 4), .int (i2 (gI s 61))])) ::
  ((a 4), .inl (D.1 13, 1600, .inl (fun j => i2 (gA s 4 j)))) ::
  ((a 5), .inr (6, [.int (i2 (gI s 100)), .int (i2 (gI s 101)), .ref (a 3), .ref (a 6), rcv a (gI s 9999), .int (i2 (gI s 105)), .int (i2 (gI s 106)), .int (i2 (gI s 107)), .int (i2 (gI s 108)), .int (i2 (gI s 109)), .int (i2 (gI s 110)), .int (i2 (gI s 111))])) ::
  ((a 6), .inl (D.1 14, 179, .inl (fun j => i2 (gA s 6 j)))) ::
  ((a 7), .inr (2, [.ref (a 8), .ref (a 9), .ref (a 10), .int (i2 (gI s 143)), .ref (a 90), .int (i2 (gI s 145))])) ::
  ((a 8), .inl (D.1 13, 60, .inl (fun j => i2 (gA s 8 j)))) ::
  ((a 9), .inl (D.1 13, 60, .inl (fun j => i2 (gA s 9 j)))) ::
  ((a 10), .inl (D.1 13, 60, .inl (fun j => i2 (gA s 10 j)))) ::
  ((a 11), .inr (7, [.int (i2 (gI s 220)), .ref (a 12), .ref (a 13), .ref (a 14), .int (i2 (gI s 224)), .ref (a 15)])) ::
  ((a 12), .inl (D.1 13, 12, .inl (fun j => i2 (gA s 12 j)))) ::
  ((a 13), .inl (D.1 13, 12, .inl (fun j => i2 (gA s 13 j)))) ::
  ((a 14), .inl (D.1 13, 8, .inl (fun j => i2 (gA s 14 j)))) ::
  ((a 15), .inl (D.1 13, 8, .inl (fun j => i2 (gA s 15 j)))) ::
  ((a 16), .inr (4, [.ref (a 17), .int (i2 (gI s 321)), .int (i2 (gI s 322)), .ref (a 18), .ref (a 19), .ref (a 20)])) ::
  ((a 17), .inl (D.1 13, 1364, .inl (fun j => i2 (gA s 17 j)))) ::
  ((a 18), .inl (D.1 13, 48, .inl (fun j => i2 (gA s 18 j)))) ::
  ((a 19), .inl (D.1 13, 48, .inl (fun j => i2 (gA s 19 j)))) ::
  ((a 20), .inl (D.1 13, 48, .inl (fun j => i2 (gA s 20 j)))) ::
  ((a 21), .inr (10, [.ref (a 22), .int (i2 (gI s 421)), .ref (a 23), .ref (a 24)])) ::
  ((a 22), .inl (D.1 13, 48, .inl (fun j => i2 (gA s 22 j)))) ::
  ((a 23), .inl (D.1 13, 288, .inl (fun j => i2 (gA s 23 j)))) ::
  ((a 24), .inl (D.1 13, 288, .inl (fun j => i2 (gA s 24 j)))) ::
  ((a 25), .inr (10, [.ref (a 26), .int (i2 (gI s 501)), .ref (a 27), .ref (a 28)])) ::
  ((a 26), .inl (D.1 13, 48, .inl (fun j => i2 (gA s 26 j)))) ::
  ((a 27), .inl (D.1 13, 288, .inl (fun j => i2 (gA s 27 j)))) ::
  ((a 28), .inl (D.1 13, 288, .inl (fun j => i2 (gA s 28 j)))) ::
  ((a 29), .inr (5, [.int (i2 (gI s 580)), .int (i2 (gI s 581)), .int (i2 (gI s 582)), .int (i2 (gI s 583)), .int (i2 (gI s 584)), .int (i2 (gI s 585)), .ref (a 30), .ref (a 31), .ref (a 32), .ref (a 33), .ref (a 34), .ref (a 37), .ref (a 35), .ref (a 36)])) ::
  ((a 30), .inl (D.1 13, 48, .inl (fun j => i2 (gA s 30 j)))) ::
  ((a 31), .inl (D.1 13, 60, .inl (fun j => i2 (gA s 31 j)))) ::
  ((a 32), .inl (D.1 13, 60, .inl (fun j => i2 (gA s 32 j)))) ::
  ((a 33), .inl (D.1 13, 60, .inl (fun j => i2 (gA s 33 j)))) ::
  ((a 34), .inl (D.1 13, 60, .inl (fun j => i2 (gA s 34 j)))) ::
  ((a 35), .inl (D.1 13, 3, .inl (fun j => i2 (gA s 35 j)))) ::
  ((a 36), .inl (D.1 13, 3, .inl (fun j => i2 (gA s 36 j)))) ::
  ((a 37), .inr (0, [.ref (a 38), .int (i2 (gI s 741))])) ::
  ((a 38), .inl (D.1 13, 1600, .inl (fun j => i2 (gA s 38 j)))) ::
  ((a 39), .inr (5, [.int (i2 (gI s 780)), .int (i2 (gI s 781)), .int (i2 (gI s 782)), .int (i2 (gI s 783)), .int (i2 (gI s 784)), .int (i2 (gI s 785)), .ref (a 40), .ref (a 41), .ref (a 42), .ref (a 43), .ref (a 44), .ref (a 47), .ref (a 45), .ref (a 46)])) ::
  ((a 40), .inl (D.1 13, 48, .inl (fun j => i2 (gA s 40 j)))) ::
  ((a 41), .inl (D.1 13, 60, .inl (fun j => i2 (gA s 41 j)))) ::
  ((a 42), .inl (D.1 13, 60, .inl (fun j => i2 (gA s 42 j)))) ::
  ((a 43), .inl (D.1 13, 60, .inl (fun j => i2 (gA s 43 j)))) ::
  ((a 44), .inl (D.1 13, 60, .inl (fun j => i2 (gA s 44 j)))) ::
  ((a 45), .inl (D.1 13, 3, .inl (fun j => i2 (gA s 45 j)))) ::
  ((a 46), .inl (D.1 13, 3, .inl (fun j => i2 (gA s 46 j)))) ::
  ((a 47), .inr (0, [.ref (a 48), .int (i2 (gI s 941))])) ::
  ((a 48), .inl (D.1 13, 1600, .inl (fun j => i2 (gA s 48 j)))) ::
  ((a 49), .inr (1, [.ref (a 53), c4, .ref (a 71), .int (i2 (gI s 983)), c1, .ref (a 80), .ref (a 50), .ref (a 51), .ref (a 52)])) ::
  ((a 50), .inl (D.1 13, 48, .inl (fun j => i2 (gA s 50 j)))) ::
  ((a 51), .inl (D.1 13, 48, .inl (fun j => i2 (gA s 51 j)))) ::
  ((a 52), .inl (D.1 13, 48, .inl (fun j => i2 (gA s 52 j)))) ::
  ((a 53), .inr (8, [.int (i2 (gI s 1060)), .int (i2 (gI s 1061)), .long (i8 (gL s 1062)), .ref (a 54), .ref (a 55), .ref (a 56), .ref (a 57), .ref (a 58), .ref (a 59), .ref (a 60), .ref (a 61)])) ::
  ((a 54), .inl (D.1 13, 48, .inl (fun j => i2 (gA s 54 j)))) ::
  ((a 55), .inl (D.1 13, 48, .inl (fun j => i2 (gA s 55 j)))) ::
  ((a 56), .inl (D.1 13, 48, .inl (fun j => i2 (gA s 56 j)))) ::
  ((a 57), .inl (D.1 13, 48, .inl (fun j => i2 (gA s 57 j)))) ::
  ((a 58), .inl (D.1 13, 288, .inl (fun j => i2 (gA s 58 j)))) ::
  ((a 59), .inl (D.1 13, 288, .inl (fun j => i2 (gA s 59 j)))) ::
  ((a 60), .inl (D.1 13, 8, .inl (fun j => i2 (gA s 60 j)))) ::
  ((a 61), .inl (D.1 13, 8, .inl (fun j => i2 (gA s 61 j)))) :: []
set_option maxRecDepth 100000 in
def CWr (D : va_G) (a : Nat → Nat) (c1 c2 c3 c4 : Value) (s : MS) : va_W :=
  ((a 71), .inr (8, [.int (i2 (gI s 1420)), .int (i2 (gI s 1421)), .long (i8 (gL s 1422)), .ref (a 72), .ref (a 73), .ref (a 74), .ref (a 75), .ref (a 76), .ref (a 77), .ref (a 78), .ref (a 79)])) ::
  ((a 72), .inl (D.1 13, 48, .inl (fun j => i2 (gA s 72 j)))) ::
  ((a 73), .inl (D.1 13, 48, .inl (fun j => i2 (gA s 73 j)))) ::
  ((a 74), .inl (D.1 13, 48, .inl (fun j => i2 (gA s 74 j)))) ::
  ((a 75), .inl (D.1 13, 48, .inl (fun j => i2 (gA s 75 j)))) ::
  ((a 76), .inl (D.1 13, 288, .inl (fun j => i2 (gA s 76 j)))) ::
  ((a 77), .inl (D.1 13, 288, .inl (fun j => i2 (gA s 77 j)))) ::
  ((a 78), .inl (D.1 13, 8, .inl (fun j => i2 (gA s 78 j)))) ::
  ((a 79), .inl (D.1 13, 8, .inl (fun j => i2 (gA s 79 j)))) ::
  ((a 80), .inr (3, [.ref (a 81), .int (i2 (gI s 1601)), .int (i2 (gI s 1602)), .int (i2 (gI s 1603)), .int (i2 (gI s 1604)), .int (i2 (gI s 1605)), .int (i2 (gI s 1606)), .int (i2 (gI s 1607)), .int (i2 (gI s 1608)), .ref (a 53)])) ::
  ((a 81), .inl (D.1 13, 64, .inl (fun j => i2 (gA s 81 j)))) :: []
set_option maxRecDepth 100000 in
theorem CW_split {D : va_G} {a : Nat → Nat} {c1 c2 c3 c4 : Value} {s : MS} : CW D a c1 c2 c3 c4 s = CWl D a c1 c2 c3 c4 s ++ (SB D a s ++ CWr D a c1 c2 c3 c4 s) := rfl
def setP (a b : Nat → Nat) : Nat → Nat := fun k => if 62 ≤ k ∧ k ≤ 70 then b k else a k
theorem setP_out {a b : Nat → Nat} {k : Nat} (h : k < 62 ∨ 70 < k) : setP a b k = a k := by unfold setP; rw [if_neg (by omega)]
set_option maxRecDepth 100000 in
theorem SB_set {D : va_G} {a b : Nat → Nat} {s t : MS} : SB D (setP a b) (setB s t) = SB D b t := rfl
set_option maxRecDepth 100000 in
theorem CWl_set {D : va_G} {a b : Nat → Nat} {c1 c2 c3 c4 : Value} {s t : MS} : CWl D (setP a b) c1 c2 c3 c4 (setB s t) = CWl D a c1 c2 c3 c4 s := rfl
set_option maxRecDepth 100000 in
theorem CWr_set {D : va_G} {a b : Nat → Nat} {c1 c2 c3 c4 : Value} {s t : MS} : CWr D (setP a b) c1 c2 c3 c4 (setB s t) = CWr D a c1 c2 c3 c4 s := rfl
/-- the row of past States, and the States -/
def PC (D : va_G) (p : Nat) (f : Nat → Option Nat) : Nat × va_E := (p, .inl (D.1 17, 20, .inr (.inr (.inr (.inr f)))))
def PLs (D : va_G) (ps : List ((Nat → Nat) × MS)) : va_W := ps.flatMap (fun q => SB D q.1 q.2)
def pf (ps : List ((Nat → Nat) × MS)) : Nat → Option Nat := fun i => (ps[i]?).map (fun q => q.1 62)
def PT (D : va_G) (p : Nat) (ps : List ((Nat → Nat) × MS)) : va_W := PC D p (pf ps) :: PLs D ps
/-- the class's whole world -/
abbrev XW (D : va_G) (a : Nat → Nat) (s : MS) (ps : List ((Nat → Nat) × MS)) : va_W := CS D a s ++ PT D (a 90) ps
theorem PLs_app {D : va_G} {p q : List ((Nat → Nat) × MS)} : PLs D (p ++ q) = PLs D p ++ PLs D q := List.flatMap_append
theorem PLs_one {D : va_G} {b : Nat → Nat} {t : MS} : PLs D [(b, t)] = SB D b t := by unfold PLs; simp
theorem pf_some {ps : List ((Nat → Nat) × MS)} {i : Nat} {q : (Nat → Nat) × MS} (h : ps[i]? = some q) : pf ps i = some (q.1 62) := by unfold pf; rw [h]; rfl
theorem pf_none {ps : List ((Nat → Nat) × MS)} {i : Nat} (h : ps.length ≤ i) : pf ps i = none := by unfold pf; rw [List.getElem?_eq_none h]; rfl
theorem pf_up {ps : List ((Nat → Nat) × MS)} {i : Nat} {q : (Nat → Nat) × MS} (h : i < ps.length) : va_up (pf ps) i (some (q.1 62)) = pf (ps.set i q) := by
  funext k
  by_cases e : k = i
  · subst e
    rw [va_up_self]
    unfold pf
    rw [List.getElem?_set_self h]
    rfl
  · rw [va_up_ne _ _ e]
    unfold pf
    rw [List.getElem?_set_ne (fun q => e q.symm)]
theorem pf_push {ps : List ((Nat → Nat) × MS)} {q : (Nat → Nat) × MS} : va_up (pf ps) ps.length (some (q.1 62)) = pf (ps ++ [q]) := by
  funext k
  by_cases e : k = ps.length
  · subst e
    rw [va_up_self]
    unfold pf
    rw [List.getElem?_append_right (Nat.le_refl _)]
    simp
  · rw [va_up_ne _ _ e]
    unfold pf
    by_cases h : k < ps.length
    · rw [List.getElem?_append_left h]
    · rw [List.getElem?_eq_none (by omega), List.getElem?_eq_none (by simp; omega)]
