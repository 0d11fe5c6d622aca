/-- what the reader's code is: 0 nothing, 1 the plan's, 2 the spare's -/
def rcv (a : Nat → Nat) (x : Int) : Value := if x = 2 then .ref (a 47) else if x = 1 then .ref (a 37) else .null
theorem rcv_2 {a : Nat → Nat} {x : Int} (h : x = 2) : rcv a x = .ref (a 47) := by rw [h]; rfl
set_option maxRecDepth 100000 in
/-- the class's cells -/
def CW (D : va_G) (a : Nat → Nat) (c1 c2 c3 c4 : Value) (s : MS) : va_W :=
  ((a 0), .inr (11, [.ref (a 3), .ref (a 5), .ref (a 7), .ref (a 11), .ref (a 16), .ref (a 21), .ref (a 25), .ref (a 1), .ref (a 2), c2, c3, .ref (a 49), .int (i2 (gI s 12))])) ::
  ((a 1), .inl (D.1 15, 8, .inr (.inl (fun j => i8 (gB s 1 j))))) ::
  ((a 2), .inl (D.1 13, 6, .inl (fun j => i2 (gA s 2 j)))) ::
  ((a 3), .inr (9, [.ref (a 4), .int (i2 (gI s 61))])) ::
  ((a 4), .inl (D.1 13, 1600, .inl (fun j => i2 (gA s 4 j)))) ::
  ((a 5), .inr (6, [.int (i2 (gI s 100)), .int (i2 (gI s 101)), .ref (a 3), .ref (a 6), rcv a (gI s 9999), .int (i2 (gI s 105)), .int (i2 (gI s 106)), .int (i2 (gI s 107)), .int (i2 (gI s 108)), .int (i2 (gI s 109)), .int (i2 (gI s 110)), .int (i2 (gI s 111))])) ::
  ((a 6), .inl (D.1 14, 179, .inl (fun j => i2 (gA s 6 j)))) ::
  ((a 7), .inr (2, [.ref (a 8), .ref (a 9), .ref (a 10), .int (i2 (gI s 143)), .ref (a 90), .int (i2 (gI s 145))])) ::
  ((a 8), .inl (D.1 13, 60, .inl (fun j => i2 (gA s 8 j)))) ::
  ((a 9), .inl (D.1 13, 60, .inl (fun j => i2 (gA s 9 j)))) ::
  ((a 10), .inl (D.1 13, 60, .inl (fun j => i2 (gA s 10 j)))) ::
  ((a 11), .inr (7, [.int (i2 (gI s 220)), .ref (a 12), .ref (a 13), .ref (a 14), .int (i2 (gI s 224)), .ref (a 15)])) ::
  ((a 12), .inl (D.1 13, 12, .inl (fun j => i2 (gA s 12 j)))) ::
  ((a 13), .inl (D.1 13, 12, .inl (fun j => i2 (gA s 13 j)))) ::
  ((a 14), .inl (D.1 13, 8, .inl (fun j => i2 (gA s 14 j)))) ::
  ((a 15), .inl (D.1 13, 8, .inl (fun j => i2 (gA s 15 j)))) ::
  ((a 16), .inr (4, [.ref (a 17), .int (i2 (gI s 321)), .int (i2 (gI s 322)), .ref (a 18), .ref (a 19), .ref (a 20)])) ::
  ((a 17), .inl (D.1 13, 1364, .inl (fun j => i2 (gA s 17 j)))) ::
  ((a 18), .inl (D.1 13, 48, .inl (fun j => i2 (gA s 18 j)))) ::
  ((a 19), .inl (D.1 13, 48, .inl (fun j => i2 (gA s 19 j)))) ::
  ((a 20), .inl (D.1 13, 48, .inl (fun j => i2 (gA s 20 j)))) ::
  ((a 21), .inr (10, [.ref (a 22), .int (i2 (gI s 421)), .ref (a 23), .ref (a 24)])) ::
  ((a 22), .inl (D.1 13, 48, .inl (fun j => i2 (gA s 22 j)))) ::
  ((a 23), .inl (D.1 13, 288, .inl (fun j => i2 (gA s 23 j)))) ::
  ((a 24), .inl (D.1 13, 288, .inl (fun j => i2 (gA s 24 j)))) ::
  ((a 25), .inr (10, [.ref (a 26), .int (i2 (gI s 501)), .ref (a 27), .ref (a 28)])) ::
  ((a 26), .inl (D.1 13, 48, .inl (fun j => i2 (gA s 26 j)))) ::
  ((a 27), .inl (D.1 13, 288, .inl (fun j => i2 (gA s 27 j)))) ::
  ((a 28), .inl (D.1 13, 288, .inl (fun j => i2 (gA s 28 j)))) ::
  ((a 29), .inr (5, [.int (i2 (gI s 580)), .int (i2 (gI s 581)), .int (i2 (gI s 582)), .int (i2 (gI s 583)), .int (i2 (gI s 584)), .int (i2 (gI s 585)), .ref (a 30), .ref (a 31), .ref (a 32), .ref (a 33), .ref (a 34), .ref (a 37), .ref (a 35), .ref (a 36)])) ::
  ((a 30), .inl (D.1 13, 48, .inl (fun j => i2 (gA s 30 j)))) ::
  ((a 31), .inl (D.1 13, 60, .inl (fun j => i2 (gA s 31 j)))) ::
  ((a 32), .inl (D.1 13, 60, .inl (fun j => i2 (gA s 32 j)))) ::
  ((a 33), .inl (D.1 13, 60, .inl (fun j => i2 (gA s 33 j)))) ::
  ((a 34), .inl (D.1 13, 60, .inl (fun j => i2 (gA s 34 j)))) ::
  ((a 35), .inl (D.1 13, 3, .inl (fun j => i2 (gA s 35 j)))) ::
  ((a 36), .inl (D.1 13, 3, .inl (fun j => i2 (gA s 36 j)))) ::
  ((a 37), .inr (0, [.ref (a 38), .int (i2 (gI s 741))])) ::
  ((a 38), .inl (D.1 13, 1600, .inl (fun j => i2 (gA s 38 j)))) ::
  ((a 39), .inr (5, [.int (i2 (gI s 780)), .int (i2 (gI s 781)), .int (i2 (gI s 782)), .int (i2 (gI s 783)), .int (i2 (gI s 784)), .int (i2 (gI s 785)), .ref (a 40), .ref (a 41), .ref (a 42), .ref (a 43), .ref (a 44), .ref (a 47), .ref (a 45), .ref (a 46)])) ::
  ((a 40), .inl (D.1 13, 48, .inl (fun j => i2 (gA s 40 j)))) ::
  ((a 41), .inl (D.1 13, 60, .inl (fun j => i2 (gA s 41 j)))) ::
  ((a 42), .inl (D.1 13, 60, .inl (fun j => i2 (gA s 42 j)))) ::
  ((a 43), .inl (D.1 13, 60, .inl (fun j => i2 (gA s 43 j)))) ::
  ((a 44), .inl (D.1 13, 60, .inl (fun j => i2 (gA s 44 j)))) ::
  ((a 45), .inl (D.1 13, 3, .inl (fun j => i2 (gA s 45 j)))) ::
  ((a 46), .inl (D.1 13, 3, .inl (fun j => i2 (gA s 46 j)))) ::
  ((a 47), .inr (0, [.ref (a 48), .int (i2 (gI s 941))])) ::
  ((a 48), .inl (D.1 13, 1600, .inl (fun j => i2 (gA s 48 j)))) ::
  ((a 49), .inr (1, [.ref (a 53), c4, .ref (a 71), .int (i2 (gI s 983)), c1, .ref (a 80), .ref (a 50), .ref (a 51), .ref (a 52)])) ::
  ((a 50), .inl (D.1 13, 48, .inl (fun j => i2 (gA s 50 j)))) ::
  ((a 51), .inl (D.1 13, 48, .inl (fun j => i2 (gA s 51 j)))) ::
  ((a 52), .inl (D.1 13, 48, .inl (fun j => i2 (gA s 52 j)))) ::
  ((a 53), .inr (8, [.int (i2 (gI s 1060)), .int (i2 (gI s 1061)), .long (i8 (gL s 1062)), .ref (a 54), .ref (a 55), .ref (a 56), .ref (a 57), .ref (a 58), .ref (a 59), .ref (a 60), .ref (a 61)])) ::
  ((a 54), .inl (D.1 13, 48, .inl (fun j => i2 (gA s 54 j)))) ::
  ((a 55), .inl (D.1 13, 48, .inl (fun j => i2 (gA s 55 j)))) ::
  ((a 56), .inl (D.1 13, 48, .inl (fun j => i2 (gA s 56 j)))) ::
  ((a 57), .inl (D.1 13, 48, .inl (fun j => i2 (gA s 57 j)))) ::
  ((a 58), .inl (D.1 13, 288, .inl (fun j => i2 (gA s 58 j)))) ::
  ((a 59), .inl (D.1 13, 288, .inl (fun j => i2 (gA s 59 j)))) ::
  ((a 60), .inl (D.1 13, 8, .inl (fun j => i2 (gA s 60 j)))) ::
  ((a 61), .inl (D.1 13, 8, .inl (fun j => i2 (gA s 61 j)))) ::
  ((a 62), .inr (8, [.int (i2 (gI s 1240)), .int (i2 (gI s 1241)), .long (i8 (gL s 1242)), .ref (a 63), .ref (a 64), .ref (a 65), .ref (a 66), .ref (a 67), .ref (a 68), .ref (a 69), .ref (a 70)])) ::
  ((a 63), .inl (D.1 13, 48, .inl (fun j => i2 (gA s 63 j)))) ::
  ((a 64), .inl (D.1 13, 48, .inl (fun j => i2 (gA s 64 j)))) ::
  ((a 65), .inl (D.1 13, 48, .inl (fun j => i2 (gA s 65 j)))) ::
  ((a 66), .inl (D.1 13, 48, .inl (fun j => i2 (gA s 66 j)))) ::
  ((a 67), .inl (D.1 13, 288, .inl (fun j => i2 (gA s 67 j)))) ::
  ((a 68), .inl (D.1 13, 288, .inl (fun j => i2 (gA s 68 j)))) ::
  ((a 69), .inl (D.1 13, 8, .inl (fun j => i2 (gA s 69 j)))) ::
  ((a 70), .inl (D.1 13, 8, .inl (fun j => i2 (gA s 70 j)))) ::
  ((a 71), .inr (8, [.int (i2 (gI s 1420)), .int (i2 (gI s 1421)), .long (i8 (gL s 1422)), .ref (a 72), .ref (a 73), .ref (a 74), .ref (a 75), .ref (a 76), .ref (a 77), .ref (a 78), .ref (a 79)])) ::
  ((a 72), .inl (D.1 13, 48, .inl (fun j => i2 (gA s 72 j)))) ::
  ((a 73), .inl (D.1 13, 48, .inl (fun j => i2 (gA s 73 j)))) ::
  ((a 74), .inl (D.1 13, 48, .inl (fun j => i2 (gA s 74 j)))) ::
  ((a 75), .inl (D.1 13, 48, .inl (fun j => i2 (gA s 75 j)))) ::
  ((a 76), .inl (D.1 13, 288, .inl (fun j => i2 (gA s 76 j)))) ::
  ((a 77), .inl (D.1 13, 288, .inl (fun j => i2 (gA s 77 j)))) ::
  ((a 78), .inl (D.1 13, 8, .inl (fun j => i2 (gA s 78 j)))) ::
  ((a 79), .inl (D.1 13, 8, .inl (fun j => i2 (gA s 79 j)))) ::
  ((a 80), .inr (3, [.ref (a 81), .int (i2 (gI s 1601)), .int (i2 (gI s 1602)), .int (i2 (gI s 1603)), .int (i2 (gI s 1604)), .int (i2 (gI s 1605)), .int (i2 (gI s 1606)), .int (i2 (gI s 1607)), .int (i2 (gI s 1608)), .ref (a 53)])) ::
  ((a 81), .inl (D.1 13, 64, .inl (fun j => i2 (gA s 81 j)))) :: []
abbrev CS (D : va_G) (a : Nat → Nat) (s : MS) : va_W := CW D a (.ref (a 29)) (.ref (a 29)) (.ref (a 39)) (.ref (a 62)) s
section WC
variable {D : va_G} {a : Nat → Nat} {c1 c2 c3 c4 : Value} {s : MS} {A : Nat → Prop}
set_option maxRecDepth 100000 in
theorem CW_D {d1 d2 d3 d4 : Value} (t : MS) (h : va_D A (CW D a c1 c2 c3 c4 s)) : va_D A (CW D a d1 d2 d3 d4 t) := va_D_same h rfl
set_option maxRecDepth 100000 in
theorem CW_A {d1 d2 d3 d4 : Value} {sz : Nat} (t : MS) : va_A (CW D a d1 d2 d3 d4 t) sz = va_A (CW D a c1 c2 c3 c4 s) sz := va_A_same rfl
set_option maxRecDepth 100000 in
theorem CW_0 : (CW D a c1 c2 c3 c4 s)[0]? = some ((a 0), .inr (11, [.ref (a 3), .ref (a 5), .ref (a 7), .ref (a 11), .ref (a 16), .ref (a 21), .ref (a 25), .ref (a 1), .ref (a 2), c2, c3, .ref (a 49), .int (i2 (gI s 12))])) := rfl
set_option maxRecDepth 100000 in
theorem CW_w0_9 (v : Value) : (CW D a c1 c2 c3 c4 s).set 0 ((a 0), .inr (11, ([.ref (a 3), .ref (a 5), .ref (a 7), .ref (a 11), .ref (a 16), .ref (a 21), .ref (a 25), .ref (a 1), .ref (a 2), c2, c3, .ref (a 49), .int (i2 (gI s 12))] : List Value).set 9 v)) = CW D a c1 v c3 c4 s := rfl
set_option maxRecDepth 100000 in
theorem CW_w0_10 (v : Value) : (CW D a c1 c2 c3 c4 s).set 0 ((a 0), .inr (11, ([.ref (a 3), .ref (a 5), .ref (a 7), .ref (a 11), .ref (a 16), .ref (a 21), .ref (a 25), .ref (a 1), .ref (a 2), c2, c3, .ref (a 49), .int (i2 (gI s 12))] : List Value).set 10 v)) = CW D a c1 c2 v c4 s := rfl
set_option maxRecDepth 100000 in
theorem CW_w0_12 (v : Int) : (CW D a c1 c2 c3 c4 s).set 0 ((a 0), .inr (11, ([.ref (a 3), .ref (a 5), .ref (a 7), .ref (a 11), .ref (a 16), .ref (a 21), .ref (a 25), .ref (a 1), .ref (a 2), c2, c3, .ref (a 49), .int (i2 (gI s 12))] : List Value).set 12 (.int (i2 v)))) = CW D a c1 c2 c3 c4 (sI s 12 v) := rfl
set_option maxRecDepth 100000 in
theorem CW_1 : (CW D a c1 c2 c3 c4 s)[1]? = some ((a 1), .inl (D.1 15, 8, .inr (.inl (fun j => i8 (gB s 1 j))))) := rfl
set_option maxRecDepth 100000 in
theorem CW_w1 (g : Nat → Int) : (CW D a c1 c2 c3 c4 s).set 1 ((a 1), .inl (D.1 15, 8, .inr (.inl (fun j => i8 (g j))))) = CW D a c1 c2 c3 c4 (sB s 1 g) := rfl
set_option maxRecDepth 100000 in
theorem CW_2 : (CW D a c1 c2 c3 c4 s)[2]? = some ((a 2), .inl (D.1 13, 6, .inl (fun j => i2 (gA s 2 j)))) := rfl
set_option maxRecDepth 100000 in
theorem CW_w2 (g : Nat → Int) : (CW D a c1 c2 c3 c4 s).set 2 ((a 2), .inl (D.1 13, 6, .inl (fun j => i2 (g j)))) = CW D a c1 c2 c3 c4 (sA s 2 g) := rfl
set_option maxRecDepth 100000 in
theorem CW_3 : (CW D a c1 c2 c3 c4 s)[3]? = some ((a 3), .inr (9, [.ref (a 4), .int (i2 (gI s 61))])) := rfl
set_option maxRecDepth 100000 in
theorem CW_w3_1 (v : Int) : (CW D a c1 c2 c3 c4 s).set 3 ((a 3), .inr (9, ([.ref (a 4), .int (i2 (gI s 61))] : List Value).set 1 (.int (i2 v)))) = CW D a c1 c2 c3 c4 (sI s 61 v) := rfl
set_option maxRecDepth 100000 in
theorem CW_4 : (CW D a c1 c2 c3 c4 s)[4]? = some ((a 4), .inl (D.1 13, 1600, .inl (fun j => i2 (gA s 4 j)))) := rfl
set_option maxRecDepth 100000 in
theorem CW_w4 (g : Nat → Int) : (CW D a c1 c2 c3 c4 s).set 4 ((a 4), .inl (D.1 13, 1600, .inl (fun j => i2 (g j)))) = CW D a c1 c2 c3 c4 (sA s 4 g) := rfl
set_option maxRecDepth 100000 in
theorem CW_5 : (CW D a c1 c2 c3 c4 s)[5]? = some ((a 5), .inr (6, [.int (i2 (gI s 100)), .int (i2 (gI s 101)), .ref (a 3), .ref (a 6), rcv a (gI s 9999), .int (i2 (gI s 105)), .int (i2 (gI s 106)), .int (i2 (gI s 107)), .int (i2 (gI s 108)), .int (i2 (gI s 109)), .int (i2 (gI s 110)), .int (i2 (gI s 111))])) := rfl
set_option maxRecDepth 100000 in
theorem CW_w5_0 (v : Int) : (CW D a c1 c2 c3 c4 s).set 5 ((a 5), .inr (6, ([.int (i2 (gI s 100)), .int (i2 (gI s 101)), .ref (a 3), .ref (a 6), rcv a (gI s 9999), .int (i2 (gI s 105)), .int (i2 (gI s 106)), .int (i2 (gI s 107)), .int (i2 (gI s 108)), .int (i2 (gI s 109)), .int (i2 (gI s 110)), .int (i2 (gI s 111))] : List Value).set 0 (.int (i2 v)))) = CW D a c1 c2 c3 c4 (sI s 100 v) := rfl
set_option maxRecDepth 100000 in
theorem CW_w5_1 (v : Int) : (CW D a c1 c2 c3 c4 s).set 5 ((a 5), .inr (6, ([.int (i2 (gI s 100)), .int (i2 (gI s 101)), .ref (a 3), .ref (a 6), rcv a (gI s 9999), .int (i2 (gI s 105)), .int (i2 (gI s 106)), .int (i2 (gI s 107)), .int (i2 (gI s 108)), .int (i2 (gI s 109)), .int (i2 (gI s 110)), .int (i2 (gI s 111))] : List Value).set 1 (.int (i2 v)))) = CW D a c1 c2 c3 c4 (sI s 101 v) := rfl
set_option maxRecDepth 100000 in
theorem CW_w5_4 : (CW D a c1 c2 c3 c4 s).set 5 ((a 5), .inr (6, ([.int (i2 (gI s 100)), .int (i2 (gI s 101)), .ref (a 3), .ref (a 6), rcv a (gI s 9999), .int (i2 (gI s 105)), .int (i2 (gI s 106)), .int (i2 (gI s 107)), .int (i2 (gI s 108)), .int (i2 (gI s 109)), .int (i2 (gI s 110)), .int (i2 (gI s 111))] : List Value).set 4 (.ref (a 47)))) = CW D a c1 c2 c3 c4 (sI s 9999 2) := rfl
set_option maxRecDepth 100000 in
theorem CW_w5_5 (v : Int) : (CW D a c1 c2 c3 c4 s).set 5 ((a 5), .inr (6, ([.int (i2 (gI s 100)), .int (i2 (gI s 101)), .ref (a 3), .ref (a 6), rcv a (gI s 9999), .int (i2 (gI s 105)), .int (i2 (gI s 106)), .int (i2 (gI s 107)), .int (i2 (gI s 108)), .int (i2 (gI s 109)), .int (i2 (gI s 110)), .int (i2 (gI s 111))] : List Value).set 5 (.int (i2 v)))) = CW D a c1 c2 c3 c4 (sI s 105 v) := rfl
set_option maxRecDepth 100000 in
theorem CW_w5_6 (v : Int) : (CW D a c1 c2 c3 c4 s).set 5 ((a 5), .inr (6, ([.int (i2 (gI s 100)), .int (i2 (gI s 101)), .ref (a 3), .ref (a 6), rcv a (gI s 9999), .int (i2 (gI s 105)), .int (i2 (gI s 106)), .int (i2 (gI s 107)), .int (i2 (gI s 108)), .int (i2 (gI s 109)), .int (i2 (gI s 110)), .int (i2 (gI s 111))] : List Value).set 6 (.int (i2 v)))) = CW D a c1 c2 c3 c4 (sI s 106 v) := rfl
set_option maxRecDepth 100000 in
theorem CW_w5_7 (v : Int) : (CW D a c1 c2 c3 c4 s).set 5 ((a 5), .inr (6, ([.int (i2 (gI s 100)), .int (i2 (gI s 101)), .ref (a 3), .ref (a 6), rcv a (gI s 9999), .int (i2 (gI s 105)), .int (i2 (gI s 106)), .int (i2 (gI s 107)), .int (i2 (gI s 108)), .int (i2 (gI s 109)), .int (i2 (gI s 110)), .int (i2 (gI s 111))] : List Value).set 7 (.int (i2 v)))) = CW D a c1 c2 c3 c4 (sI s 107 v) := rfl
set_option maxRecDepth 100000 in
theorem CW_w5_8 (v : Int) : (CW D a c1 c2 c3 c4 s).set 5 ((a 5), .inr (6, ([.int (i2 (gI s 100)), .int (i2 (gI s 101)), .ref (a 3), .ref (a 6), rcv a (gI s 9999), .int (i2 (gI s 105)), .int (i2 (gI s 106)), .int (i2 (gI s 107)), .int (i2 (gI s 108)), .int (i2 (gI s 109)), .int (i2 (gI s 110)), .int (i2 (gI s 111))] : List Value).set 8 (.int (i2 v)))) = CW D a c1 c2 c3 c4 (sI s 108 v) := rfl
set_option maxRecDepth 100000 in
theorem CW_w5_9 (v : Int) : (CW D a c1 c2 c3 c4 s).set 5 ((a 5), .inr (6, ([.int (i2 (gI s 100)), .int (i2 (gI s 101)), .ref (a 3), .ref (a 6), rcv a (gI s 9999), .int (i2 (gI s 105)), .int (i2 (gI s 106)), .int (i2 (gI s 107)), .int (i2 (gI s 108)), .int (i2 (gI s 109)), .int (i2 (gI s 110)), .int (i2 (gI s 111))] : List Value).set 9 (.int (i2 v)))) = CW D a c1 c2 c3 c4 (sI s 109 v) := rfl
set_option maxRecDepth 100000 in
theorem CW_w5_10 (v : Int) : (CW D a c1 c2 c3 c4 s).set 5 ((a 5), .inr (6, ([.int (i2 (gI s 100)), .int (i2 (gI s 101)), .ref (a 3), .ref (a 6), rcv a (gI s 9999), .int (i2 (gI s 105)), .int (i2 (gI s 106)), .int (i2 (gI s 107)), .int (i2 (gI s 108)), .int (i2 (gI s 109)), .int (i2 (gI s 110)), .int (i2 (gI s 111))] : List Value).set 10 (.int (i2 v)))) = CW D a c1 c2 c3 c4 (sI s 110 v) := rfl
set_option maxRecDepth 100000 in
theorem CW_w5_11 (v : Int) : (CW D a c1 c2 c3 c4 s).set 5 ((a 5), .inr (6, ([.int (i2 (gI s 100)), .int (i2 (gI s 101)), .ref (a 3), .ref (a 6), rcv a (gI s 9999), .int (i2 (gI s 105)), .int (i2 (gI s 106)), .int (i2 (gI s 107)), .int (i2 (gI s 108)), .int (i2 (gI s 109)), .int (i2 (gI s 110)), .int (i2 (gI s 111))] : List Value).set 11 (.int (i2 v)))) = CW D a c1 c2 c3 c4 (sI s 111 v) := rfl
set_option maxRecDepth 100000 in
theorem CW_6 : (CW D a c1 c2 c3 c4 s)[6]? = some ((a 6), .inl (D.1 14, 179, .inl (fun j => i2 (gA s 6 j)))) := rfl
set_option maxRecDepth 100000 in
theorem CW_7 : (CW D a c1 c2 c3 c4 s)[7]? = some ((a 7), .inr (2, [.ref (a 8), .ref (a 9), .ref (a 10), .int (i2 (gI s 143)), .ref (a 90), .int (i2 (gI s 145))])) := rfl
set_option maxRecDepth 100000 in
theorem CW_w7_3 (v : Int) : (CW D a c1 c2 c3 c4 s).set 7 ((a 7), .inr (2, ([.ref (a 8), .ref (a 9), .ref (a 10), .int (i2 (gI s 143)), .ref (a 90), .int (i2 (gI s 145))] : List Value).set 3 (.int (i2 v)))) = CW D a c1 c2 c3 c4 (sI s 143 v) := rfl
set_option maxRecDepth 100000 in
theorem CW_w7_5 (v : Int) : (CW D a c1 c2 c3 c4 s).set 7 ((a 7), .inr (2, ([.ref (a 8), .ref (a 9), .ref (a 10), .int (i2 (gI s 143)), .ref (a 90), .int (i2 (gI s 145))] : List Value).set 5 (.int (i2 v)))) = CW D a c1 c2 c3 c4 (sI s 145 v) := rfl
set_option maxRecDepth 100000 in
theorem CW_8 : (CW D a c1 c2 c3 c4 s)[8]? = some ((a 8), .inl (D.1 13, 60, .inl (fun j => i2 (gA s 8 j)))) := rfl
set_option maxRecDepth 100000 in
theorem CW_w8 (g : Nat → Int) : (CW D a c1 c2 c3 c4 s).set 8 ((a 8), .inl (D.1 13, 60, .inl (fun j => i2 (g j)))) = CW D a c1 c2 c3 c4 (sA s 8 g) := rfl
set_option maxRecDepth 100000 in
theorem CW_9 : (CW D a c1 c2 c3 c4 s)[9]? = some ((a 9), .inl (D.1 13, 60, .inl (fun j => i2 (gA s 9 j)))) := rfl
set_option maxRecDepth 100000 in
theorem CW_w9 (g : Nat → Int) : (CW D a c1 c2 c3 c4 s).set 9 ((a 9), .inl (D.1 13, 60, .inl (fun j => i2 (g j)))) = CW D a c1 c2 c3 c4 (sA s 9 g) := rfl
set_option maxRecDepth 100000 in
theorem CW_10 : (CW D a c1 c2 c3 c4 s)[10]? = some ((a 10), .inl (D.1 13, 60, .inl (fun j => i2 (gA s 10 j)))) := rfl
set_option maxRecDepth 100000 in
theorem CW_w10 (g : Nat → Int) : (CW D a c1 c2 c3 c4 s).set 10 ((a 10), .inl (D.1 13, 60, .inl (fun j => i2 (g j)))) = CW D a c1 c2 c3 c4 (sA s 10 g) := rfl
set_option maxRecDepth 100000 in
theorem CW_11 : (CW D a c1 c2 c3 c4 s)[11]? = some ((a 11), .inr (7, [.int (i2 (gI s 220)), .ref (a 12), .ref (a 13), .ref (a 14), .int (i2 (gI s 224)), .ref (a 15)])) := rfl
set_option maxRecDepth 100000 in
theorem CW_w11_0 (v : Int) : (CW D a c1 c2 c3 c4 s).set 11 ((a 11), .inr (7, ([.int (i2 (gI s 220)), .ref (a 12), .ref (a 13), .ref (a 14), .int (i2 (gI s 224)), .ref (a 15)] : List Value).set 0 (.int (i2 v)))) = CW D a c1 c2 c3 c4 (sI s 220 v) := rfl
set_option maxRecDepth 100000 in
theorem CW_w11_4 (v : Int) : (CW D a c1 c2 c3 c4 s).set 11 ((a 11), .inr (7, ([.int (i2 (gI s 220)), .ref (a 12), .ref (a 13), .ref (a 14), .int (i2 (gI s 224)), .ref (a 15)] : List Value).set 4 (.int (i2 v)))) = CW D a c1 c2 c3 c4 (sI s 224 v) := rfl
set_option maxRecDepth 100000 in
theorem CW_12 : (CW D a c1 c2 c3 c4 s)[12]? = some ((a 12), .inl (D.1 13, 12, .inl (fun j => i2 (gA s 12 j)))) := rfl
set_option maxRecDepth 100000 in
theorem CW_w12 (g : Nat → Int) : (CW D a c1 c2 c3 c4 s).set 12 ((a 12), .inl (D.1 13, 12, .inl (fun j => i2 (g j)))) = CW D a c1 c2 c3 c4 (sA s 12 g) := rfl
set_option maxRecDepth 100000 in
theorem CW_13 : (CW D a c1 c2 c3 c4 s)[13]? = some ((a 13), .inl (D.1 13, 12, .inl (fun j => i2 (gA s 13 j)))) := rfl
set_option maxRecDepth 100000 in
theorem CW_w13 (g : Nat → Int) : (CW D a c1 c2 c3 c4 s).set 13 ((a 13), .inl (D.1 13, 12, .inl (fun j => i2 (g j)))) = CW D a c1 c2 c3 c4 (sA s 13 g) := rfl
set_option maxRecDepth 100000 in
theorem CW_14 : (CW D a c1 c2 c3 c4 s)[14]? = some ((a 14), .inl (D.1 13, 8, .inl (fun j => i2 (gA s 14 j)))) := rfl
set_option maxRecDepth 100000 in
theorem CW_w14 (g : Nat → Int) : (CW D a c1 c2 c3 c4 s).set 14 ((a 14), .inl (D.1 13, 8, .inl (fun j => i2 (g j)))) = CW D a c1 c2 c3 c4 (sA s 14 g) := rfl
set_option maxRecDepth 100000 in
theorem CW_15 : (CW D a c1 c2 c3 c4 s)[15]? = some ((a 15), .inl (D.1 13, 8, .inl (fun j => i2 (gA s 15 j)))) := rfl
set_option maxRecDepth 100000 in
theorem CW_w15 (g : Nat → Int) : (CW D a c1 c2 c3 c4 s).set 15 ((a 15), .inl (D.1 13, 8, .inl (fun j => i2 (g j)))) = CW D a c1 c2 c3 c4 (sA s 15 g) := rfl
set_option maxRecDepth 100000 in
theorem CW_16 : (CW D a c1 c2 c3 c4 s)[16]? = some ((a 16), .inr (4, [.ref (a 17), .int (i2 (gI s 321)), .int (i2 (gI s 322)), .ref (a 18), .ref (a 19), .ref (a 20)])) := rfl
set_option maxRecDepth 100000 in
theorem CW_w16_1 (v : Int) : (CW D a c1 c2 c3 c4 s).set 16 ((a 16), .inr (4, ([.ref (a 17), .int (i2 (gI s 321)), .int (i2 (gI s 322)), .ref (a 18), .ref (a 19), .ref (a 20)] : List Value).set 1 (.int (i2 v)))) = CW D a c1 c2 c3 c4 (sI s 321 v) := rfl
set_option maxRecDepth 100000 in
theorem CW_w16_2 (v : Int) : (CW D a c1 c2 c3 c4 s).set 16 ((a 16), .inr (4, ([.ref (a 17), .int (i2 (gI s 321)), .int (i2 (gI s 322)), .ref (a 18), .ref (a 19), .ref (a 20)] : List Value).set 2 (.int (i2 v)))) = CW D a c1 c2 c3 c4 (sI s 322 v) := rfl
set_option maxRecDepth 100000 in
theorem CW_17 : (CW D a c1 c2 c3 c4 s)[17]? = some ((a 17), .inl (D.1 13, 1364, .inl (fun j => i2 (gA s 17 j)))) := rfl
set_option maxRecDepth 100000 in
theorem CW_w17 (g : Nat → Int) : (CW D a c1 c2 c3 c4 s).set 17 ((a 17), .inl (D.1 13, 1364, .inl (fun j => i2 (g j)))) = CW D a c1 c2 c3 c4 (sA s 17 g) := rfl
set_option maxRecDepth 100000 in
theorem CW_18 : (CW D a c1 c2 c3 c4 s)[18]? = some ((a 18), .inl (D.1 13, 48, .inl (fun j => i2 (gA s 18 j)))) := rfl
set_option maxRecDepth 100000 in
theorem CW_w18 (g : Nat → Int) : (CW D a c1 c2 c3 c4 s).set 18 ((a 18), .inl (D.1 13, 48, .inl (fun j => i2 (g j)))) = CW D a c1 c2 c3 c4 (sA s 18 g) := rfl
set_option maxRecDepth 100000 in
theorem CW_19 : (CW D a c1 c2 c3 c4 s)[19]? = some ((a 19), .inl (D.1 13, 48, .inl (fun j => i2 (gA s 19 j)))) := rfl
set_option maxRecDepth 100000 in
theorem CW_w19 (g : Nat → Int) : (CW D a c1 c2 c3 c4 s).set 19 ((a 19), .inl (D.1 13, 48, .inl (fun j => i2 (g j)))) = CW D a c1 c2 c3 c4 (sA s 19 g) := rfl
set_option maxRecDepth 100000 in
theorem CW_20 : (CW D a c1 c2 c3 c4 s)[20]? = some ((a 20), .inl (D.1 13, 48, .inl (fun j => i2 (gA s 20 j)))) := rfl
set_option maxRecDepth 100000 in
theorem CW_w20 (g : Nat → Int) : (CW D a c1 c2 c3 c4 s).set 20 ((a 20), .inl (D.1 13, 48, .inl (fun j => i2 (g j)))) = CW D a c1 c2 c3 c4 (sA s 20 g) := rfl
set_option maxRecDepth 100000 in
theorem CW_21 : (CW D a c1 c2 c3 c4 s)[21]? = some ((a 21), .inr (10, [.ref (a 22), .int (i2 (gI s 421)), .ref (a 23), .ref (a 24)])) := rfl
set_option maxRecDepth 100000 in
theorem CW_w21_1 (v : Int) : (CW D a c1 c2 c3 c4 s).set 21 ((a 21), .inr (10, ([.ref (a 22), .int (i2 (gI s 421)), .ref (a 23), .ref (a 24)] : List Value).set 1 (.int (i2 v)))) = CW D a c1 c2 c3 c4 (sI s 421 v) := rfl
set_option maxRecDepth 100000 in
theorem CW_22 : (CW D a c1 c2 c3 c4 s)[22]? = some ((a 22), .inl (D.1 13, 48, .inl (fun j => i2 (gA s 22 j)))) := rfl
set_option maxRecDepth 100000 in
theorem CW_w22 (g : Nat → Int) : (CW D a c1 c2 c3 c4 s).set 22 ((a 22), .inl (D.1 13, 48, .inl (fun j => i2 (g j)))) = CW D a c1 c2 c3 c4 (sA s 22 g) := rfl
set_option maxRecDepth 100000 in
theorem CW_23 : (CW D a c1 c2 c3 c4 s)[23]? = some ((a 23), .inl (D.1 13, 288, .inl (fun j => i2 (gA s 23 j)))) := rfl
set_option maxRecDepth 100000 in
theorem CW_w23 (g : Nat → Int) : (CW D a c1 c2 c3 c4 s).set 23 ((a 23), .inl (D.1 13, 288, .inl (fun j => i2 (g j)))) = CW D a c1 c2 c3 c4 (sA s 23 g) := rfl
set_option maxRecDepth 100000 in
theorem CW_24 : (CW D a c1 c2 c3 c4 s)[24]? = some ((a 24), .inl (D.1 13, 288, .inl (fun j => i2 (gA s 24 j)))) := rfl
set_option maxRecDepth 100000 in
theorem CW_w24 (g : Nat → Int) : (CW D a c1 c2 c3 c4 s).set 24 ((a 24), .inl (D.1 13, 288, .inl (fun j => i2 (g j)))) = CW D a c1 c2 c3 c4 (sA s 24 g) := rfl
set_option maxRecDepth 100000 in
theorem CW_25 : (CW D a c1 c2 c3 c4 s)[25]? = some ((a 25), .inr (10, [.ref (a 26), .int (i2 (gI s 501)), .ref (a 27), .ref (a 28)])) := rfl
set_option maxRecDepth 100000 in
theorem CW_w25_1 (v : Int) : (CW D a c1 c2 c3 c4 s).set 25 ((a 25), .inr (10, ([.ref (a 26), .int (i2 (gI s 501)), .ref (a 27), .ref (a 28)] : List Value).set 1 (.int (i2 v)))) = CW D a c1 c2 c3 c4 (sI s 501 v) := rfl
set_option maxRecDepth 100000 in
theorem CW_26 : (CW D a c1 c2 c3 c4 s)[26]? = some ((a 26), .inl (D.1 13, 48, .inl (fun j => i2 (gA s 26 j)))) := rfl
set_option maxRecDepth 100000 in
theorem CW_w26 (g : Nat → Int) : (CW D a c1 c2 c3 c4 s).set 26 ((a 26), .inl (D.1 13, 48, .inl (fun j => i2 (g j)))) = CW D a c1 c2 c3 c4 (sA s 26 g) := rfl
set_option maxRecDepth 100000 in
theorem CW_27 : (CW D a c1 c2 c3 c4 s)[27]? = some ((a 27), .inl (D.1 13, 288, .inl (fun j => i2 (gA s 27 j)))) := rfl
set_option maxRecDepth 100000 in
theorem CW_w27 (g : Nat → Int) : (CW D a c1 c2 c3 c4 s).set 27 ((a 27), .inl (D.1 13, 288, .inl (fun j => i2 (g j)))) = CW D a c1 c2 c3 c4 (sA s 27 g) := rfl
set_option maxRecDepth 100000 in
theorem CW_28 : (CW D a c1 c2 c3 c4 s)[28]? = some ((a 28), .inl (D.1 13, 288, .inl (fun j => i2 (gA s 28 j)))) := rfl
set_option maxRecDepth 100000 in
theorem CW_w28 (g : Nat → Int) : (CW D a c1 c2 c3 c4 s).set 28 ((a 28), .inl (D.1 13, 288, .inl (fun j => i2 (g j)))) = CW D a c1 c2 c3 c4 (sA s 28 g) := rfl
set_option maxRecDepth 100000 in
theorem CW_29 : (CW D a c1 c2 c3 c4 s)[29]? = some ((a 29), .inr (5, [.int (i2 (gI s 580)), .int (i2 (gI s 581)), .int (i2 (gI s 582)), .int (i2 (gI s 583)), .int (i2 (gI s 584)), .int (i2 (gI s 585)), .ref (a 30), .ref (a 31), .ref (a 32), .ref (a 33), .ref (a 34), .ref (a 37), .ref (a 35), .ref (a 36)])) := rfl
set_option maxRecDepth 100000 in
theorem CW_w29_0 (v : Int) : (CW D a c1 c2 c3 c4 s).set 29 ((a 29), .inr (5, ([.int (i2 (gI s 580)), .int (i2 (gI s 581)), .int (i2 (gI s 582)), .int (i2 (gI s 583)), .int (i2 (gI s 584)), .int (i2 (gI s 585)), .ref (a 30), .ref (a 31), .ref (a 32), .ref (a 33), .ref (a 34), .ref (a 37), .ref (a 35), .ref (a 36)] : List Value).set 0 (.int (i2 v)))) = CW D a c1 c2 c3 c4 (sI s 580 v) := rfl
set_option maxRecDepth 100000 in
theorem CW_w29_1 (v : Int) : (CW D a c1 c2 c3 c4 s).set 29 ((a 29), .inr (5, ([.int (i2 (gI s 580)), .int (i2 (gI s 581)), .int (i2 (gI s 582)), .int (i2 (gI s 583)), .int (i2 (gI s 584)), .int (i2 (gI s 585)), .ref (a 30), .ref (a 31), .ref (a 32), .ref (a 33), .ref (a 34), .ref (a 37), .ref (a 35), .ref (a 36)] : List Value).set 1 (.int (i2 v)))) = CW D a c1 c2 c3 c4 (sI s 581 v) := rfl
set_option maxRecDepth 100000 in
theorem CW_w29_2 (v : Int) : (CW D a c1 c2 c3 c4 s).set 29 ((a 29), .inr (5, ([.int (i2 (gI s 580)), .int (i2 (gI s 581)), .int (i2 (gI s 582)), .int (i2 (gI s 583)), .int (i2 (gI s 584)), .int (i2 (gI s 585)), .ref (a 30), .ref (a 31), .ref (a 32), .ref (a 33), .ref (a 34), .ref (a 37), .ref (a 35), .ref (a 36)] : List Value).set 2 (.int (i2 v)))) = CW D a c1 c2 c3 c4 (sI s 582 v) := rfl
set_option maxRecDepth 100000 in
theorem CW_w29_3 (v : Int) : (CW D a c1 c2 c3 c4 s).set 29 ((a 29), .inr (5, ([.int (i2 (gI s 580)), .int (i2 (gI s 581)), .int (i2 (gI s 582)), .int (i2 (gI s 583)), .int (i2 (gI s 584)), .int (i2 (gI s 585)), .ref (a 30), .ref (a 31), .ref (a 32), .ref (a 33), .ref (a 34), .ref (a 37), .ref (a 35), .ref (a 36)] : List Value).set 3 (.int (i2 v)))) = CW D a c1 c2 c3 c4 (sI s 583 v) := rfl
set_option maxRecDepth 100000 in
theorem CW_w29_4 (v : Int) : (CW D a c1 c2 c3 c4 s).set 29 ((a 29), .inr (5, ([.int (i2 (gI s 580)), .int (i2 (gI s 581)), .int (i2 (gI s 582)), .int (i2 (gI s 583)), .int (i2 (gI s 584)), .int (i2 (gI s 585)), .ref (a 30), .ref (a 31), .ref (a 32), .ref (a 33), .ref (a 34), .ref (a 37), .ref (a 35), .ref (a 36)] : List Value).set 4 (.int (i2 v)))) = CW D a c1 c2 c3 c4 (sI s 584 v) := rfl
set_option maxRecDepth 100000 in
theorem CW_w29_5 (v : Int) : (CW D a c1 c2 c3 c4 s).set 29 ((a 29), .inr (5, ([.int (i2 (gI s 580)), .int (i2 (gI s 581)), .int (i2 (gI s 582)), .int (i2 (gI s 583)), .int (i2 (gI s 584)), .int (i2 (gI s 585)), .ref (a 30), .ref (a 31), .ref (a 32), .ref (a 33), .ref (a 34), .ref (a 37), .ref (a 35), .ref (a 36)] : List Value).set 5 (.int (i2 v)))) = CW D a c1 c2 c3 c4 (sI s 585 v) := rfl
set_option maxRecDepth 100000 in
theorem CW_30 : (CW D a c1 c2 c3 c4 s)[30]? = some ((a 30), .inl (D.1 13, 48, .inl (fun j => i2 (gA s 30 j)))) := rfl
set_option maxRecDepth 100000 in
theorem CW_w30 (g : Nat → Int) : (CW D a c1 c2 c3 c4 s).set 30 ((a 30), .inl (D.1 13, 48, .inl (fun j => i2 (g j)))) = CW D a c1 c2 c3 c4 (sA s 30 g) := rfl
set_option maxRecDepth 100000 in
theorem CW_31 : (CW D a c1 c2 c3 c4 s)[31]? = some ((a 31), .inl (D.1 13, 60, .inl (fun j => i2 (gA s 31 j)))) := rfl
set_option maxRecDepth 100000 in
theorem CW_w31 (g : Nat → Int) : (CW D a c1 c2 c3 c4 s).set 31 ((a 31), .inl (D.1 13, 60, .inl (fun j => i2 (g j)))) = CW D a c1 c2 c3 c4 (sA s 31 g) := rfl
set_option maxRecDepth 100000 in
theorem CW_32 : (CW D a c1 c2 c3 c4 s)[32]? = some ((a 32), .inl (D.1 13, 60, .inl (fun j => i2 (gA s 32 j)))) := rfl
set_option maxRecDepth 100000 in
theorem CW_w32 (g : Nat → Int) : (CW D a c1 c2 c3 c4 s).set 32 ((a 32), .inl (D.1 13, 60, .inl (fun j => i2 (g j)))) = CW D a c1 c2 c3 c4 (sA s 32 g) := rfl
set_option maxRecDepth 100000 in
theorem CW_33 : (CW D a c1 c2 c3 c4 s)[33]? = some ((a 33), .inl (D.1 13, 60, .inl (fun j => i2 (gA s 33 j)))) := rfl
set_option maxRecDepth 100000 in
theorem CW_w33 (g : Nat → Int) : (CW D a c1 c2 c3 c4 s).set 33 ((a 33), .inl (D.1 13, 60, .inl (fun j => i2 (g j)))) = CW D a c1 c2 c3 c4 (sA s 33 g) := rfl
set_option maxRecDepth 100000 in
theorem CW_34 : (CW D a c1 c2 c3 c4 s)[34]? = some ((a 34), .inl (D.1 13, 60, .inl (fun j => i2 (gA s 34 j)))) := rfl
set_option maxRecDepth 100000 in
theorem CW_w34 (g : Nat → Int) : (CW D a c1 c2 c3 c4 s).set 34 ((a 34), .inl (D.1 13, 60, .inl (fun j => i2 (g j)))) = CW D a c1 c2 c3 c4 (sA s 34 g) := rfl
set_option maxRecDepth 100000 in
theorem CW_35 : (CW D a c1 c2 c3 c4 s)[35]? = some ((a 35), .inl (D.1 13, 3, .inl (fun j => i2 (gA s 35 j)))) := rfl
set_option maxRecDepth 100000 in
theorem CW_w35 (g : Nat → Int) : (CW D a c1 c2 c3 c4 s).set 35 ((a 35), .inl (D.1 13, 3, .inl (fun j => i2 (g j)))) = CW D a c1 c2 c3 c4 (sA s 35 g) := rfl
set_option maxRecDepth 100000 in
theorem CW_36 : (CW D a c1 c2 c3 c4 s)[36]? = some ((a 36), .inl (D.1 13, 3, .inl (fun j => i2 (gA s 36 j)))) := rfl
set_option maxRecDepth 100000 in
theorem CW_w36 (g : Nat → Int) : (CW D a c1 c2 c3 c4 s).set 36 ((a 36), .inl (D.1 13, 3, .inl (fun j => i2 (g j)))) = CW D a c1 c2 c3 c4 (sA s 36 g) := rfl
set_option maxRecDepth 100000 in
theorem CW_37 : (CW D a c1 c2 c3 c4 s)[37]? = some ((a 37), .inr (0, [.ref (a 38), .int (i2 (gI s 741))])) := rfl
set_option maxRecDepth 100000 in
theorem CW_w37_1 (v : Int) : (CW D a c1 c2 c3 c4 s).set 37 ((a 37), .inr (0, ([.ref (a 38), .int (i2 (gI s 741))] : List Value).set 1 (.int (i2 v)))) = CW D a c1 c2 c3 c4 (sI s 741 v) := rfl
set_option maxRecDepth 100000 in
theorem CW_38 : (CW D a c1 c2 c3 c4 s)[38]? = some ((a 38), .inl (D.1 13, 1600, .inl (fun j => i2 (gA s 38 j)))) := rfl
set_option maxRecDepth 100000 in
theorem CW_w38 (g : Nat → Int) : (CW D a c1 c2 c3 c4 s).set 38 ((a 38), .inl (D.1 13, 1600, .inl (fun j => i2 (g j)))) = CW D a c1 c2 c3 c4 (sA s 38 g) := rfl
set_option maxRecDepth 100000 in
theorem CW_39 : (CW D a c1 c2 c3 c4 s)[39]? = some ((a 39), .inr (5, [.int (i2 (gI s 780)), .int (i2 (gI s 781)), .int (i2 (gI s 782)), .int (i2 (gI s 783)), .int (i2 (gI s 784)), .int (i2 (gI s 785)), .ref (a 40), .ref (a 41), .ref (a 42), .ref (a 43), .ref (a 44), .ref (a 47), .ref (a 45), .ref (a 46)])) := rfl
set_option maxRecDepth 100000 in
theorem CW_w39_0 (v : Int) : (CW D a c1 c2 c3 c4 s).set 39 ((a 39), .inr (5, ([.int (i2 (gI s 780)), .int (i2 (gI s 781)), .int (i2 (gI s 782)), .int (i2 (gI s 783)), .int (i2 (gI s 784)), .int (i2 (gI s 785)), .ref (a 40), .ref (a 41), .ref (a 42), .ref (a 43), .ref (a 44), .ref (a 47), .ref (a 45), .ref (a 46)] : List Value).set 0 (.int (i2 v)))) = CW D a c1 c2 c3 c4 (sI s 780 v) := rfl
set_option maxRecDepth 100000 in
theorem CW_w39_1 (v : Int) : (CW D a c1 c2 c3 c4 s).set 39 ((a 39), .inr (5, ([.int (i2 (gI s 780)), .int (i2 (gI s 781)), .int (i2 (gI s 782)), .int (i2 (gI s 783)), .int (i2 (gI s 784)), .int (i2 (gI s 785)), .ref (a 40), .ref (a 41), .ref (a 42), .ref (a 43), .ref (a 44), .ref (a 47), .ref (a 45), .ref (a 46)] : List Value).set 1 (.int (i2 v)))) = CW D a c1 c2 c3 c4 (sI s 781 v) := rfl
set_option maxRecDepth 100000 in
theorem CW_w39_2 (v : Int) : (CW D a c1 c2 c3 c4 s).set 39 ((a 39), .inr (5, ([.int (i2 (gI s 780)), .int (i2 (gI s 781)), .int (i2 (gI s 782)), .int (i2 (gI s 783)), .int (i2 (gI s 784)), .int (i2 (gI s 785)), .ref (a 40), .ref (a 41), .ref (a 42), .ref (a 43), .ref (a 44), .ref (a 47), .ref (a 45), .ref (a 46)] : List Value).set 2 (.int (i2 v)))) = CW D a c1 c2 c3 c4 (sI s 782 v) := rfl
set_option maxRecDepth 100000 in
theorem CW_w39_3 (v : Int) : (CW D a c1 c2 c3 c4 s).set 39 ((a 39), .inr (5, ([.int (i2 (gI s 780)), .int (i2 (gI s 781)), .int (i2 (gI s 782)), .int (i2 (gI s 783)), .int (i2 (gI s 784)), .int (i2 (gI s 785)), .ref (a 40), .ref (a 41), .ref (a 42), .ref (a 43), .ref (a 44), .ref (a 47), .ref (a 45), .ref (a 46)] : List Value).set 3 (.int (i2 v)))) = CW D a c1 c2 c3 c4 (sI s 783 v) := rfl
set_option maxRecDepth 100000 in
theorem CW_w39_4 (v : Int) : (CW D a c1 c2 c3 c4 s).set 39 ((a 39), .inr (5, ([.int (i2 (gI s 780)), .int (i2 (gI s 781)), .int (i2 (gI s 782)), .int (i2 (gI s 783)), .int (i2 (gI s 784)), .int (i2 (gI s 785)), .ref (a 40), .ref (a 41), .ref (a 42), .ref (a 43), .ref (a 44), .ref (a 47), .ref (a 45), .ref (a 46)] : List Value).set 4 (.int (i2 v)))) = CW D a c1 c2 c3 c4 (sI s 784 v) := rfl
set_option maxRecDepth 100000 in
theorem CW_w39_5 (v : Int) : (CW D a c1 c2 c3 c4 s).set 39 ((a 39), .inr (5, ([.int (i2 (gI s 780)), .int (i2 (gI s 781)), .int (i2 (gI s 782)), .int (i2 (gI s 783)), .int (i2 (gI s 784)), .int (i2 (gI s 785)), .ref (a 40), .ref (a 41), .ref (a 42), .ref (a 43), .ref (a 44), .ref (a 47), .ref (a 45), .ref (a 46)] : List Value).set 5 (.int (i2 v)))) = CW D a c1 c2 c3 c4 (sI s 785 v) := rfl
set_option maxRecDepth 100000 in
theorem CW_40 : (CW D a c1 c2 c3 c4 s)[40]? = some ((a 40), .inl (D.1 13, 48, .inl (fun j => i2 (gA s 40 j)))) := rfl
set_option maxRecDepth 100000 in
theorem CW_w40 (g : Nat → Int) : (CW D a c1 c2 c3 c4 s).set 40 ((a 40), .inl (D.1 13, 48, .inl (fun j => i2 (g j)))) = CW D a c1 c2 c3 c4 (sA s 40 g) := rfl
set_option maxRecDepth 100000 in
theorem CW_41 : (CW D a c1 c2 c3 c4 s)[41]? = some ((a 41), .inl (D.1 13, 60, .inl (fun j => i2 (gA s 41 j)))) := rfl
set_option maxRecDepth 100000 in
theorem CW_w41 (g : Nat → Int) : (CW D a c1 c2 c3 c4 s).set 41 ((a 41), .inl (D.1 13, 60, .inl (fun j => i2 (g j)))) = CW D a c1 c2 c3 c4 (sA s 41 g) := rfl
set_option maxRecDepth 100000 in
theorem CW_42 : (CW D a c1 c2 c3 c4 s)[42]? = some ((a 42), .inl (D.1 13, 60, .inl (fun j => i2 (gA s 42 j)))) := rfl
set_option maxRecDepth 100000 in
theorem CW_w42 (g : Nat → Int) : (CW D a c1 c2 c3 c4 s).set 42 ((a 42), .inl (D.1 13, 60, .inl (fun j => i2 (g j)))) = CW D a c1 c2 c3 c4 (sA s 42 g) := rfl
set_option maxRecDepth 100000 in
theorem CW_43 : (CW D a c1 c2 c3 c4 s)[43]? = some ((a 43), .inl (D.1 13, 60, .inl (fun j => i2 (gA s 43 j)))) := rfl
set_option maxRecDepth 100000 in
theorem CW_w43 (g : Nat → Int) : (CW D a c1 c2 c3 c4 s).set 43 ((a 43), .inl (D.1 13, 60, .inl (fun j => i2 (g j)))) = CW D a c1 c2 c3 c4 (sA s 43 g) := rfl
set_option maxRecDepth 100000 in
theorem CW_44 : (CW D a c1 c2 c3 c4 s)[44]? = some ((a 44), .inl (D.1 13, 60, .inl (fun j => i2 (gA s 44 j)))) := rfl
set_option maxRecDepth 100000 in
theorem CW_w44 (g : Nat → Int) : (CW D a c1 c2 c3 c4 s).set 44 ((a 44), .inl (D.1 13, 60, .inl (fun j => i2 (g j)))) = CW D a c1 c2 c3 c4 (sA s 44 g) := rfl
set_option maxRecDepth 100000 in
theorem CW_45 : (CW D a c1 c2 c3 c4 s)[45]? = some ((a 45), .inl (D.1 13, 3, .inl (fun j => i2 (gA s 45 j)))) := rfl
set_option maxRecDepth 100000 in
theorem CW_w45 (g : Nat → Int) : (CW D a c1 c2 c3 c4 s).set 45 ((a 45), .inl (D.1 13, 3, .inl (fun j => i2 (g j)))) = CW D a c1 c2 c3 c4 (sA s 45 g) := rfl
set_option maxRecDepth 100000 in
theorem CW_46 : (CW D a c1 c2 c3 c4 s)[46]? = some ((a 46), .inl (D.1 13, 3, .inl (fun j => i2 (gA s 46 j)))) := rfl
set_option maxRecDepth 100000 in
theorem CW_w46 (g : Nat → Int) : (CW D a c1 c2 c3 c4 s).set 46 ((a 46), .inl (D.1 13, 3, .inl (fun j => i2 (g j)))) = CW D a c1 c2 c3 c4 (sA s 46 g) := rfl
set_option maxRecDepth 100000 in
theorem CW_47 : (CW D a c1 c2 c3 c4 s)[47]? = some ((a 47), .inr (0, [.ref (a 48), .int (i2 (gI s 941))])) := rfl
set_option maxRecDepth 100000 in
theorem CW_w47_1 (v : Int) : (CW D a c1 c2 c3 c4 s).set 47 ((a 47), .inr (0, ([.ref (a 48), .int (i2 (gI s 941))] : List Value).set 1 (.int (i2 v)))) = CW D a c1 c2 c3 c4 (sI s 941 v) := rfl
set_option maxRecDepth 100000 in
theorem CW_48 : (CW D a c1 c2 c3 c4 s)[48]? = some ((a 48), .inl (D.1 13, 1600, .inl (fun j => i2 (gA s 48 j)))) := rfl
set_option maxRecDepth 100000 in
theorem CW_w48 (g : Nat → Int) : (CW D a c1 c2 c3 c4 s).set 48 ((a 48), .inl (D.1 13, 1600, .inl (fun j => i2 (g j)))) = CW D a c1 c2 c3 c4 (sA s 48 g) := rfl
set_option maxRecDepth 100000 in
theorem CW_49 : (CW D a c1 c2 c3 c4 s)[49]? = some ((a 49), .inr (1, [.ref (a 53), c4, .ref (a 71), .int (i2 (gI s 983)), c1, .ref (a 80), .ref (a 50), .ref (a 51), .ref (a 52)])) := rfl
set_option maxRecDepth 100000 in
theorem CW_w49_1 (v : Value) : (CW D a c1 c2 c3 c4 s).set 49 ((a 49), .inr (1, ([.ref (a 53), c4, .ref (a 71), .int (i2 (gI s 983)), c1, .ref (a 80), .ref (a 50), .ref (a 51), .ref (a 52)] : List Value).set 1 v)) = CW D a c1 c2 c3 v s := rfl
set_option maxRecDepth 100000 in
theorem CW_w49_3 (v : Int) : (CW D a c1 c2 c3 c4 s).set 49 ((a 49), .inr (1, ([.ref (a 53), c4, .ref (a 71), .int (i2 (gI s 983)), c1, .ref (a 80), .ref (a 50), .ref (a 51), .ref (a 52)] : List Value).set 3 (.int (i2 v)))) = CW D a c1 c2 c3 c4 (sI s 983 v) := rfl
set_option maxRecDepth 100000 in
theorem CW_w49_4 (v : Value) : (CW D a c1 c2 c3 c4 s).set 49 ((a 49), .inr (1, ([.ref (a 53), c4, .ref (a 71), .int (i2 (gI s 983)), c1, .ref (a 80), .ref (a 50), .ref (a 51), .ref (a 52)] : List Value).set 4 v)) = CW D a v c2 c3 c4 s := rfl
set_option maxRecDepth 100000 in
theorem CW_50 : (CW D a c1 c2 c3 c4 s)[50]? = some ((a 50), .inl (D.1 13, 48, .inl (fun j => i2 (gA s 50 j)))) := rfl
set_option maxRecDepth 100000 in
theorem CW_w50 (g : Nat → Int) : (CW D a c1 c2 c3 c4 s).set 50 ((a 50), .inl (D.1 13, 48, .inl (fun j => i2 (g j)))) = CW D a c1 c2 c3 c4 (sA s 50 g) := rfl
set_option maxRecDepth 100000 in
theorem CW_51 : (CW D a c1 c2 c3 c4 s)[51]? = some ((a 51), .inl (D.1 13, 48, .inl (fun j => i2 (gA s 51 j)))) := rfl
set_option maxRecDepth 100000 in
theorem CW_w51 (g : Nat → Int) : (CW D a c1 c2 c3 c4 s).set 51 ((a 51), .inl (D.1 13, 48, .inl (fun j => i2 (g j)))) = CW D a c1 c2 c3 c4 (sA s 51 g) := rfl
set_option maxRecDepth 100000 in
theorem CW_52 : (CW D a c1 c2 c3 c4 s)[52]? = some ((a 52), .inl (D.1 13, 48, .inl (fun j => i2 (gA s 52 j)))) := rfl
set_option maxRecDepth 100000 in
theorem CW_w52 (g : Nat → Int) : (CW D a c1 c2 c3 c4 s).set 52 ((a 52), .inl (D.1 13, 48, .inl (fun j => i2 (g j)))) = CW D a c1 c2 c3 c4 (sA s 52 g) := rfl
set_option maxRecDepth 100000 in
theorem CW_53 : (CW D a c1 c2 c3 c4 s)[53]? = some ((a 53), .inr (8, [.int (i2 (gI s 1060)), .int (i2 (gI s 1061)), .long (i8 (gL s 1062)), .ref (a 54), .ref (a 55), .ref (a 56), .ref (a 57), .ref (a 58), .ref (a 59), .ref (a 60), .ref (a 61)])) := rfl
set_option maxRecDepth 100000 in
theorem CW_w53_0 (v : Int) : (CW D a c1 c2 c3 c4 s).set 53 ((a 53), .inr (8, ([.int (i2 (gI s 1060)), .int (i2 (gI s 1061)), .long (i8 (gL s 1062)), .ref (a 54), .ref (a 55), .ref (a 56), .ref (a 57), .ref (a 58), .ref (a 59), .ref (a 60), .ref (a 61)] : List Value).set 0 (.int (i2 v)))) = CW D a c1 c2 c3 c4 (sI s 1060 v) := rfl
set_option maxRecDepth 100000 in
theorem CW_w53_1 (v : Int) : (CW D a c1 c2 c3 c4 s).set 53 ((a 53), .inr (8, ([.int (i2 (gI s 1060)), .int (i2 (gI s 1061)), .long (i8 (gL s 1062)), .ref (a 54), .ref (a 55), .ref (a 56), .ref (a 57), .ref (a 58), .ref (a 59), .ref (a 60), .ref (a 61)] : List Value).set 1 (.int (i2 v)))) = CW D a c1 c2 c3 c4 (sI s 1061 v) := rfl
set_option maxRecDepth 100000 in
theorem CW_w53_2 (v : Int) : (CW D a c1 c2 c3 c4 s).set 53 ((a 53), .inr (8, ([.int (i2 (gI s 1060)), .int (i2 (gI s 1061)), .long (i8 (gL s 1062)), .ref (a 54), .ref (a 55), .ref (a 56), .ref (a 57), .ref (a 58), .ref (a 59), .ref (a 60), .ref (a 61)] : List Value).set 2 (.long (i8 v)))) = CW D a c1 c2 c3 c4 (sL s 1062 v) := rfl
set_option maxRecDepth 100000 in
theorem CW_54 : (CW D a c1 c2 c3 c4 s)[54]? = some ((a 54), .inl (D.1 13, 48, .inl (fun j => i2 (gA s 54 j)))) := rfl
set_option maxRecDepth 100000 in
theorem CW_w54 (g : Nat → Int) : (CW D a c1 c2 c3 c4 s).set 54 ((a 54), .inl (D.1 13, 48, .inl (fun j => i2 (g j)))) = CW D a c1 c2 c3 c4 (sA s 54 g) := rfl
set_option maxRecDepth 100000 in
theorem CW_55 : (CW D a c1 c2 c3 c4 s)[55]? = some ((a 55), .inl (D.1 13, 48, .inl (fun j => i2 (gA s 55 j)))) := rfl
set_option maxRecDepth 100000 in
theorem CW_w55 (g : Nat → Int) : (CW D a c1 c2 c3 c4 s).set 55 ((a 55), .inl (D.1 13, 48, .inl (fun j => i2 (g j)))) = CW D a c1 c2 c3 c4 (sA s 55 g) := rfl
set_option maxRecDepth 100000 in
theorem CW_56 : (CW D a c1 c2 c3 c4 s)[56]? = some ((a 56), .inl (D.1 13, 48, .inl (fun j => i2 (gA s 56 j)))) := rfl
set_option maxRecDepth 100000 in
theorem CW_w56 (g : Nat → Int) : (CW D a c1 c2 c3 c4 s).set 56 ((a 56), .inl (D.1 13, 48, .inl (fun j => i2 (g j)))) = CW D a c1 c2 c3 c4 (sA s 56 g) := rfl
set_option maxRecDepth 100000 in
theorem CW_57 : (CW D a c1 c2 c3 c4 s)[57]? = some ((a 57), .inl (D.1 13, 48, .inl (fun j => i2 (gA s 57 j)))) := rfl
set_option maxRecDepth 100000 in
theorem CW_w57 (g : Nat → Int) : (CW D a c1 c2 c3 c4 s).set 57 ((a 57), .inl (D.1 13, 48, .inl (fun j => i2 (g j)))) = CW D a c1 c2 c3 c4 (sA s 57 g) := rfl
set_option maxRecDepth 100000 in
theorem CW_58 : (CW D a c1 c2 c3 c4 s)[58]? = some ((a 58), .inl (D.1 13, 288, .inl (fun j => i2 (gA s 58 j)))) := rfl
set_option maxRecDepth 100000 in
theorem CW_w58 (g : Nat → Int) : (CW D a c1 c2 c3 c4 s).set 58 ((a 58), .inl (D.1 13, 288, .inl (fun j => i2 (g j)))) = CW D a c1 c2 c3 c4 (sA s 58 g) := rfl
set_option maxRecDepth 100000 in
theorem CW_59 : (CW D a c1 c2 c3 c4 s)[59]? = some ((a 59), .inl (D.1 13, 288, .inl (fun j => i2 (gA s 59 j)))) := rfl
set_option maxRecDepth 100000 in
theorem CW_w59 (g : Nat → Int) : (CW D a c1 c2 c3 c4 s).set 59 ((a 59), .inl (D.1 13, 288, .inl (fun j => i2 (g j)))) = CW D a c1 c2 c3 c4 (sA s 59 g) := rfl
set_option maxRecDepth 100000 in
theorem CW_60 : (CW D a c1 c2 c3 c4 s)[60]? = some ((a 60), .inl (D.1 13, 8, .inl (fun j => i2 (gA s 60 j)))) := rfl
set_option maxRecDepth 100000 in
theorem CW_w60 (g : Nat → Int) : (CW D a c1 c2 c3 c4 s).set 60 ((a 60), .inl (D.1 13, 8, .inl (fun j => i2 (g j)))) = CW D a c1 c2 c3 c4 (sA s 60 g) := rfl
set_option maxRecDepth 100000 in
theorem CW_61 : (CW D a c1 c2 c3 c4 s)[61]? = some ((a 61), .inl (D.1 13, 8, .inl (fun j => i2 (gA s 61 j)))) := rfl
set_option maxRecDepth 100000 in
theorem CW_w61 (g : Nat → Int) : (CW D a c1 c2 c3 c4 s).set 61 ((a 61), .inl (D.1 13, 8, .inl (fun j => i2 (g j)))) = CW D a c1 c2 c3 c4 (sA s 61 g) := rfl
set_option maxRecDepth 100000 in
theorem CW_62 : (CW D a c1 c2 c3 c4 s)[62]? = some ((a 62), .inr (8, [.int (i2 (gI s 1240)), .int (i2 (gI s 1241)), .long (i8 (gL s 1242)), .ref (a 63), .ref (a 64), .ref (a 65), .ref (a 66), .ref (a 67), .ref (a 68), .ref (a 69), .ref (a 70)])) := rfl
set_option maxRecDepth 100000 in
theorem CW_w62_0 (v : Int) : (CW D a c1 c2 c3 c4 s).set 62 ((a 62), .inr (8, ([.int (i2 (gI s 1240)), .int (i2 (gI s 1241)), .long (i8 (gL s 1242)), .ref (a 63), .ref (a 64), .ref (a 65), .ref (a 66), .ref (a 67), .ref (a 68), .ref (a 69), .ref (a 70)] : List Value).set 0 (.int (i2 v)))) = CW D a c1 c2 c3 c4 (sI s 1240 v) := rfl
set_option maxRecDepth 100000 in
theorem CW_w62_1 (v : Int) : (CW D a c1 c2 c3 c4 s).set 62 ((a 62), .inr (8, ([.int (i2 (gI s 1240)), .int (i2 (gI s 1241)), .long (i8 (gL s 1242)), .ref (a 63), .ref (a 64), .ref (a 65), .ref (a 66), .ref (a 67), .ref (a 68), .ref (a 69), .ref (a 70)] : List Value).set 1 (.int (i2 v)))) = CW D a c1 c2 c3 c4 (sI s 1241 v) := rfl
set_option maxRecDepth 100000 in
theorem CW_w62_2 (v : Int) : (CW D a c1 c2 c3 c4 s).set 62 ((a 62), .inr (8, ([.int (i2 (gI s 1240)), .int (i2 (gI s 1241)), .long (i8 (gL s 1242)), .ref (a 63), .ref (a 64), .ref (a 65), .ref (a 66), .ref (a 67), .ref (a 68), .ref (a 69), .ref (a 70)] : List Value).set 2 (.long (i8 v)))) = CW D a c1 c2 c3 c4 (sL s 1242 v) := rfl
set_option maxRecDepth 100000 in
theorem CW_63 : (CW D a c1 c2 c3 c4 s)[63]? = some ((a 63), .inl (D.1 13, 48, .inl (fun j => i2 (gA s 63 j)))) := rfl
set_option maxRecDepth 100000 in
theorem CW_w63 (g : Nat → Int) : (CW D a c1 c2 c3 c4 s).set 63 ((a 63), .inl (D.1 13, 48, .inl (fun j => i2 (g j)))) = CW D a c1 c2 c3 c4 (sA s 63 g) := rfl
set_option maxRecDepth 100000 in
theorem CW_64 : (CW D a c1 c2 c3 c4 s)[64]? = some ((a 64), .inl (D.1 13, 48, .inl (fun j => i2 (gA s 64 j)))) := rfl
set_option maxRecDepth 100000 in
theorem CW_w64 (g : Nat → Int) : (CW D a c1 c2 c3 c4 s).set 64 ((a 64), .inl (D.1 13, 48, .inl (fun j => i2 (g j)))) = CW D a c1 c2 c3 c4 (sA s 64 g) := rfl
set_option maxRecDepth 100000 in
theorem CW_65 : (CW D a c1 c2 c3 c4 s)[65]? = some ((a 65), .inl (D.1 13, 48, .inl (fun j => i2 (gA s 65 j)))) := rfl
set_option maxRecDepth 100000 in
theorem CW_w65 (g : Nat → Int) : (CW D a c1 c2 c3 c4 s).set 65 ((a 65), .inl (D.1 13, 48, .inl (fun j => i2 (g j)))) = CW D a c1 c2 c3 c4 (sA s 65 g) := rfl
set_option maxRecDepth 100000 in
theorem CW_66 : (CW D a c1 c2 c3 c4 s)[66]? = some ((a 66), .inl (D.1 13, 48, .inl (fun j => i2 (gA s 66 j)))) := rfl
set_option maxRecDepth 100000 in
theorem CW_w66 (g : Nat → Int) : (CW D a c1 c2 c3 c4 s).set 66 ((a 66), .inl (D.1 13, 48, .inl (fun j => i2 (g j)))) = CW D a c1 c2 c3 c4 (sA s 66 g) := rfl
set_option maxRecDepth 100000 in
theorem CW_67 : (CW D a c1 c2 c3 c4 s)[67]? = some ((a 67), .inl (D.1 13, 288, .inl (fun j => i2 (gA s 67 j)))) := rfl
set_option maxRecDepth 100000 in
theorem CW_w67 (g : Nat → Int) : (CW D a c1 c2 c3 c4 s).set 67 ((a 67), .inl (D.1 13, 288, .inl (fun j => i2 (g j)))) = CW D a c1 c2 c3 c4 (sA s 67 g) := rfl
set_option maxRecDepth 100000 in
theorem CW_68 : (CW D a c1 c2 c3 c4 s)[68]? = some ((a 68), .inl (D.1 13, 288, .inl (fun j => i2 (gA s 68 j)))) := rfl
set_option maxRecDepth 100000 in
theorem CW_w68 (g : Nat → Int) : (CW D a c1 c2 c3 c4 s).set 68 ((a 68), .inl (D.1 13, 288, .inl (fun j => i2 (g j)))) = CW D a c1 c2 c3 c4 (sA s 68 g) := rfl
set_option maxRecDepth 100000 in
theorem CW_69 : (CW D a c1 c2 c3 c4 s)[69]? = some ((a 69), .inl (D.1 13, 8, .inl (fun j => i2 (gA s 69 j)))) := rfl
set_option maxRecDepth 100000 in
theorem CW_w69 (g : Nat → Int) : (CW D a c1 c2 c3 c4 s).set 69 ((a 69), .inl (D.1 13, 8, .inl (fun j => i2 (g j)))) = CW D a c1 c2 c3 c4 (sA s 69 g) := rfl
set_option maxRecDepth 100000 in
theorem CW_70 : (CW D a c1 c2 c3 c4 s)[70]? = some ((a 70), .inl (D.1 13, 8, .inl (fun j => i2 (gA s 70 j)))) := rfl
set_option maxRecDepth 100000 in
theorem CW_w70 (g : Nat → Int) : (CW D a c1 c2 c3 c4 s).set 70 ((a 70), .inl (D.1 13, 8, .inl (fun j => i2 (g j)))) = CW D a c1 c2 c3 c4 (sA s 70 g) := rfl
set_option maxRecDepth 100000 in
theorem CW_71 : (CW D a c1 c2 c3 c4 s)[71]? = some ((a 71), .inr (8, [.int (i2 (gI s 1420)), .int (i2 (gI s 1421)), .long (i8 (gL s 1422)), .ref (a 72), .ref (a 73), .ref (a 74), .ref (a 75), .ref (a 76), .ref (a 77), .ref (a 78), .ref (a 79)])) := rfl
set_option maxRecDepth 100000 in
theorem CW_w71_0 (v : Int) : (CW D a c1 c2 c3 c4 s).set 71 ((a 71), .inr (8, ([.int (i2 (gI s 1420)), .int (i2 (gI s 1421)), .long (i8 (gL s 1422)), .ref (a 72), .ref (a 73), .ref (a 74), .ref (a 75), .ref (a 76), .ref (a 77), .ref (a 78), .ref (a 79)] : List Value).set 0 (.int (i2 v)))) = CW D a c1 c2 c3 c4 (sI s 1420 v) := rfl
set_option maxRecDepth 100000 in
theorem CW_w71_1 (v : Int) : (CW D a c1 c2 c3 c4 s).set 71 ((a 71), .inr (8, ([.int (i2 (gI s 1420)), .int (i2 (gI s 1421)), .long (i8 (gL s 1422)), .ref (a 72), .ref (a 73), .ref (a 74), .ref (a 75), .ref (a 76), .ref (a 77), .ref (a 78), .ref (a 79)] : List Value).set 1 (.int (i2 v)))) = CW D a c1 c2 c3 c4 (sI s 1421 v) := rfl
set_option maxRecDepth 100000 in
theorem CW_w71_2 (v : Int) : (CW D a c1 c2 c3 c4 s).set 71 ((a 71), .inr (8, ([.int (i2 (gI s 1420)), .int (i2 (gI s 1421)), .long (i8 (gL s 1422)), .ref (a 72), .ref (a 73), .ref (a 74), .ref (a 75), .ref (a 76), .ref (a 77), .ref (a 78), .ref (a 79)] : List Value).set 2 (.long (i8 v)))) = CW D a c1 c2 c3 c4 (sL s 1422 v) := rfl
set_option maxRecDepth 100000 in
theorem CW_72 : (CW D a c1 c2 c3 c4 s)[72]? = some ((a 72), .inl (D.1 13, 48, .inl (fun j => i2 (gA s 72 j)))) := rfl
set_option maxRecDepth 100000 in
theorem CW_w72 (g : Nat → Int) : (CW D a c1 c2 c3 c4 s).set 72 ((a 72), .inl (D.1 13, 48, .inl (fun j => i2 (g j)))) = CW D a c1 c2 c3 c4 (sA s 72 g) := rfl
set_option maxRecDepth 100000 in
theorem CW_73 : (CW D a c1 c2 c3 c4 s)[73]? = some ((a 73), .inl (D.1 13, 48, .inl (fun j => i2 (gA s 73 j)))) := rfl
set_option maxRecDepth 100000 in
theorem CW_w73 (g : Nat → Int) : (CW D a c1 c2 c3 c4 s).set 73 ((a 73), .inl (D.1 13, 48, .inl (fun j => i2 (g j)))) = CW D a c1 c2 c3 c4 (sA s 73 g) := rfl
set_option maxRecDepth 100000 in
theorem CW_74 : (CW D a c1 c2 c3 c4 s)[74]? = some ((a 74), .inl (D.1 13, 48, .inl (fun j => i2 (gA s 74 j)))) := rfl
set_option maxRecDepth 100000 in
theorem CW_w74 (g : Nat → Int) : (CW D a c1 c2 c3 c4 s).set 74 ((a 74), .inl (D.1 13, 48, .inl (fun j => i2 (g j)))) = CW D a c1 c2 c3 c4 (sA s 74 g) := rfl
set_option maxRecDepth 100000 in
theorem CW_75 : (CW D a c1 c2 c3 c4 s)[75]? = some ((a 75), .inl (D.1 13, 48, .inl (fun j => i2 (gA s 75 j)))) := rfl
set_option maxRecDepth 100000 in
theorem CW_w75 (g : Nat → Int) : (CW D a c1 c2 c3 c4 s).set 75 ((a 75), .inl (D.1 13, 48, .inl (fun j => i2 (g j)))) = CW D a c1 c2 c3 c4 (sA s 75 g) := rfl
set_option maxRecDepth 100000 in
theorem CW_76 : (CW D a c1 c2 c3 c4 s)[76]? = some ((a 76), .inl (D.1 13, 288, .inl (fun j => i2 (gA s 76 j)))) := rfl
set_option maxRecDepth 100000 in
theorem CW_w76 (g : Nat → Int) : (CW D a c1 c2 c3 c4 s).set 76 ((a 76), .inl (D.1 13, 288, .inl (fun j => i2 (g j)))) = CW D a c1 c2 c3 c4 (sA s 76 g) := rfl
set_option maxRecDepth 100000 in
theorem CW_77 : (CW D a c1 c2 c3 c4 s)[77]? = some ((a 77), .inl (D.1 13, 288, .inl (fun j => i2 (gA s 77 j)))) := rfl
set_option maxRecDepth 100000 in
theorem CW_w77 (g : Nat → Int) : (CW D a c1 c2 c3 c4 s).set 77 ((a 77), .inl (D.1 13, 288, .inl (fun j => i2 (g j)))) = CW D a c1 c2 c3 c4 (sA s 77 g) := rfl
set_option maxRecDepth 100000 in
theorem CW_78 : (CW D a c1 c2 c3 c4 s)[78]? = some ((a 78), .inl (D.1 13, 8, .inl (fun j => i2 (gA s 78 j)))) := rfl
set_option maxRecDepth 100000 in
theorem CW_w78 (g : Nat → Int) : (CW D a c1 c2 c3 c4 s).set 78 ((a 78), .inl (D.1 13, 8, .inl (fun j => i2 (g j)))) = CW D a c1 c2 c3 c4 (sA s 78 g) := rfl
set_option maxRecDepth 100000 in
theorem CW_79 : (CW D a c1 c2 c3 c4 s)[79]? = some ((a 79), .inl (D.1 13, 8, .inl (fun j => i2 (gA s 79 j)))) := rfl
set_option maxRecDepth 100000 in
theorem CW_w79 (g : Nat → Int) : (CW D a c1 c2 c3 c4 s).set 79 ((a 79), .inl (D.1 13, 8, .inl (fun j => i2 (g j)))) = CW D a c1 c2 c3 c4 (sA s 79 g) := rfl
set_option maxRecDepth 100000 in
theorem CW_80 : (CW D a c1 c2 c3 c4 s)[80]? = some ((a 80), .inr (3, [.ref (a 81), .int (i2 (gI s 1601)), .int (i2 (gI s 1602)), .int (i2 (gI s 1603)), .int (i2 (gI s 1604)), .int (i2 (gI s 1605)), .int (i2 (gI s 1606)), .int (i2 (gI s 1607)), .int (i2 (gI s 1608)), .ref (a 53)])) := rfl
set_option maxRecDepth 100000 in
theorem CW_w80_1 (v : Int) : (CW D a c1 c2 c3 c4 s).set 80 ((a 80), .inr (3, ([.ref (a 81), .int (i2 (gI s 1601)), .int (i2 (gI s 1602)), .int (i2 (gI s 1603)), .int (i2 (gI s 1604)), .int (i2 (gI s 1605)), .int (i2 (gI s 1606)), .int (i2 (gI s 1607)), .int (i2 (gI s 1608)), .ref (a 53)] : List Value).set 1 (.int (i2 v)))) = CW D a c1 c2 c3 c4 (sI s 1601 v) := rfl
set_option maxRecDepth 100000 in
theorem CW_w80_2 (v : Int) : (CW D a c1 c2 c3 c4 s).set 80 ((a 80), .inr (3, ([.ref (a 81), .int (i2 (gI s 1601)), .int (i2 (gI s 1602)), .int (i2 (gI s 1603)), .int (i2 (gI s 1604)), .int (i2 (gI s 1605)), .int (i2 (gI s 1606)), .int (i2 (gI s 1607)), .int (i2 (gI s 1608)), .ref (a 53)] : List Value).set 2 (.int (i2 v)))) = CW D a c1 c2 c3 c4 (sI s 1602 v) := rfl
set_option maxRecDepth 100000 in
theorem CW_w80_3 (v : Int) : (CW D a c1 c2 c3 c4 s).set 80 ((a 80), .inr (3, ([.ref (a 81), .int (i2 (gI s 1601)), .int (i2 (gI s 1602)), .int (i2 (gI s 1603)), .int (i2 (gI s 1604)), .int (i2 (gI s 1605)), .int (i2 (gI s 1606)), .int (i2 (gI s 1607)), .int (i2 (gI s 1608)), .ref (a 53)] : List Value).set 3 (.int (i2 v)))) = CW D a c1 c2 c3 c4 (sI s 1603 v) := rfl
set_option maxRecDepth 100000 in
theorem CW_w80_4 (v : Int) : (CW D a c1 c2 c3 c4 s).set 80 ((a 80), .inr (3, ([.ref (a 81), .int (i2 (gI s 1601)), .int (i2 (gI s 1602)), .int (i2 (gI s 1603)), .int (i2 (gI s 1604)), .int (i2 (gI s 1605)), .int (i2 (gI s 1606)), .int (i2 (gI s 1607)), .int (i2 (gI s 1608)), .ref (a 53)] : List Value).set 4 (.int (i2 v)))) = CW D a c1 c2 c3 c4 (sI s 1604 v) := rfl
set_option maxRecDepth 100000 in
theorem CW_w80_5 (v : Int) : (CW D a c1 c2 c3 c4 s).set 80 ((a 80), .inr (3, ([.ref (a 81), .int (i2 (gI s 1601)), .int (i2 (gI s 1602)), .int (i2 (gI s 1603)), .int (i2 (gI s 1604)), .int (i2 (gI s 1605)), .int (i2 (gI s 1606)), .int (i2 (gI s 1607)), .int (i2 (gI s 1608)), .ref (a 53)] : List Value).set 5 (.int (i2 v)))) = CW D a c1 c2 c3 c4 (sI s 1605 v) := rfl
set_option maxRecDepth 100000 in
theorem CW_w80_6 (v : Int) : (CW D a c1 c2 c3 c4 s).set 80 ((a 80), .inr (3, ([.ref (a 81), .int (i2 (gI s 1601)), .int (i2 (gI s 1602)), .int (i2 (gI s 1603)), .int (i2 (gI s 1604)), .int (i2 (gI s 1605)), .int (i2 (gI s 1606)), .int (i2 (gI s 1607)), .int (i2 (gI s 1608)), .ref (a 53)] : List Value).set 6 (.int (i2 v)))) = CW D a c1 c2 c3 c4 (sI s 1606 v) := rfl
set_option maxRecDepth 100000 in
theorem CW_w80_7 (v : Int) : (CW D a c1 c2 c3 c4 s).set 80 ((a 80), .inr (3, ([.ref (a 81), .int (i2 (gI s 1601)), .int (i2 (gI s 1602)), .int (i2 (gI s 1603)), .int (i2 (gI s 1604)), .int (i2 (gI s 1605)), .int (i2 (gI s 1606)), .int (i2 (gI s 1607)), .int (i2 (gI s 1608)), .ref (a 53)] : List Value).set 7 (.int (i2 v)))) = CW D a c1 c2 c3 c4 (sI s 1607 v) := rfl
set_option maxRecDepth 100000 in
theorem CW_w80_8 (v : Int) : (CW D a c1 c2 c3 c4 s).set 80 ((a 80), .inr (3, ([.ref (a 81), .int (i2 (gI s 1601)), .int (i2 (gI s 1602)), .int (i2 (gI s 1603)), .int (i2 (gI s 1604)), .int (i2 (gI s 1605)), .int (i2 (gI s 1606)), .int (i2 (gI s 1607)), .int (i2 (gI s 1608)), .ref (a 53)] : List Value).set 8 (.int (i2 v)))) = CW D a c1 c2 c3 c4 (sI s 1608 v) := rfl
set_option maxRecDepth 100000 in
theorem CW_81 : (CW D a c1 c2 c3 c4 s)[81]? = some ((a 81), .inl (D.1 13, 64, .inl (fun j => i2 (gA s 81 j)))) := rfl
set_option maxRecDepth 100000 in
theorem CW_w81 (g : Nat → Int) : (CW D a c1 c2 c3 c4 s).set 81 ((a 81), .inl (D.1 13, 64, .inl (fun j => i2 (g j)))) = CW D a c1 c2 c3 c4 (sA s 81 g) := rfl
end WC
set_option maxRecDepth 100000 in
/-- the fields of the reference -/
def mF (a : Nat → Nat) (s : MS) : List Value :=
  Value.ref (a 0) :: Value.int (i2 (gI s 1)) :: Value.int (i2 (gI s 2)) :: Value.int (i2 (gI s 3)) :: Value.int (i2 (gI s 4)) :: Value.int (i2 (gI s 5)) :: Value.int (i2 (gI s 6)) :: Value.int (i2 (gI s 7)) :: Value.int (i2 (gI s 8)) :: Value.ref (a 9) :: Value.int (i2 (gI s 10)) :: Value.ref (a 11) :: Value.ref (a 12) :: Value.ref (a 13) :: Value.ref (a 14) :: Value.ref (a 15) :: Value.ref (a 16) :: Value.ref (a 17) :: Value.ref (a 18) :: Value.ref (a 19) :: Value.ref (a 20) :: Value.ref (a 21) :: Value.ref (a 22) :: Value.ref (a 23) :: Value.ref (a 24) :: Value.ref (a 25) :: Value.ref (a 26) :: Value.ref (a 27) :: Value.ref (a 28) :: Value.ref (a 29) :: Value.ref (a 30) :: Value.ref (a 31) :: Value.ref (a 32) :: Value.ref (a 33) :: Value.ref (a 34) :: Value.ref (a 35) :: Value.ref (a 36) :: Value.ref (a 37) :: Value.int (i2 (gI s 38)) :: Value.ref (a 39) :: Value.ref (a 40) :: Value.ref (a 41) :: Value.ref (a 42) :: Value.ref (a 43) :: Value.ref (a 44) :: Value.int (i2 (gI s 45)) :: Value.int (i2 (gI s 46)) :: Value.int (i2 (gI s 47)) :: Value.int (i2 (gI s 48)) :: Value.ref (a 49) :: Value.int (i2 (gI s 50)) :: Value.int (i2 (gI s 51)) :: Value.int (i2 (gI s 52)) :: Value.int (i2 (gI s 53)) :: Value.ref (a 54) :: Value.int (i2 (gI s 55)) :: Value.ref (a 56) :: Value.ref (a 57) :: Value.ref (a 58) :: Value.ref (a 59) :: Value.ref (a 60) :: Value.ref (a 61) :: Value.ref (a 62) :: Value.ref (a 63) :: Value.ref (a 64) :: Value.ref (a 65) :: Value.ref (a 66) :: Value.int (i2 (gI s 67)) :: Value.int (i2 (gI s 68)) :: Value.ref (a 69) :: Value.int (i2 (gI s 70)) :: Value.int (i2 (gI s 71)) :: Value.ref (a 72) :: Value.int (i2 (gI s 73)) :: Value.ref (a 74) :: Value.ref (a 75) :: Value.int (i2 (gI s 76)) :: Value.int (i2 (gI s 77)) :: Value.long (i8 (gL s 78)) :: Value.ref (a 79) :: Value.ref (a 80) :: Value.ref (a 81) :: Value.ref (a 82) :: Value.ref (a 83) :: Value.ref (a 84) :: Value.ref (a 85) :: Value.ref (a 86) :: Value.ref (a 87) :: Value.ref (a 88) :: Value.ref (a 89) :: Value.ref (a 90) :: Value.ref (a 91) :: Value.ref (a 92) :: Value.ref (a 93) :: Value.ref (a 94) :: Value.ref (a 95) :: Value.ref (a 96) :: Value.ref (a 97) :: Value.ref (a 98) :: Value.ref (a 99) :: Value.ref (a 100) :: Value.ref (a 101) :: Value.int (i2 (gI s 102)) :: Value.ref (a 103) :: Value.int (i2 (gI s 104)) :: Value.int (i2 (gI s 105)) :: Value.int (i2 (gI s 106)) :: Value.ref (a 107) :: Value.int (i2 (gI s 108)) :: Value.long (i8 (gL s 109)) :: Value.int (i2 (gI s 110)) :: Value.ref (a 111) :: Value.int (i2 (gI s 112)) :: Value.ref (a 113) :: Value.int (i2 (gI s 114)) :: Value.ref (a 115) :: []
set_option maxRecDepth 100000 in
/-- the reference's cells -/
def RW (D : va_G) (a : Nat → Nat) (s : MS) : va_W :=
  ((a 200), .inr (12, mF a s)) ::
  ((a 0), .inl (D.1 13, 1600, .inl (fun j => i2 (gA s 0 j)))) ::
  ((a 9), .inl (D.1 13, 6, .inl (fun j => i2 (gA s 9 j)))) ::
  ((a 11), .inl (D.1 14, 6, .inl (fun j => i2 (gA s 11 j)))) ::
  ((a 12), .inl (D.1 14, 4, .inl (fun j => i2 (gA s 12 j)))) ::
  ((a 13), .inl (D.1 14, 6, .inl (fun j => i2 (gA s 13 j)))) ::
  ((a 14), .inl (D.1 14, 5, .inl (fun j => i2 (gA s 14 j)))) ::
  ((a 15), .inl (D.1 14, 2, .inl (fun j => i2 (gA s 15 j)))) ::
  ((a 16), .inl (D.1 14, 3, .inl (fun j => i2 (gA s 16 j)))) ::
  ((a 17), .inl (D.1 14, 6, .inl (fun j => i2 (gA s 17 j)))) ::
  ((a 18), .inl (D.1 14, 5, .inl (fun j => i2 (gA s 18 j)))) ::
  ((a 19), .inl (D.1 14, 6, .inl (fun j => i2 (gA s 19 j)))) ::
  ((a 20), .inl (D.1 14, 5, .inl (fun j => i2 (gA s 20 j)))) ::
  ((a 21), .inl (D.1 14, 5, .inl (fun j => i2 (gA s 21 j)))) ::
  ((a 22), .inl (D.1 14, 5, .inl (fun j => i2 (gA s 22 j)))) ::
  ((a 23), .inl (D.1 14, 4, .inl (fun j => i2 (gA s 23 j)))) ::
  ((a 24), .inl (D.1 14, 5, .inl (fun j => i2 (gA s 24 j)))) ::
  ((a 25), .inl (D.1 14, 7, .inl (fun j => i2 (gA s 25 j)))) ::
  ((a 26), .inl (D.1 14, 6, .inl (fun j => i2 (gA s 26 j)))) ::
  ((a 27), .inl (D.1 14, 5, .inl (fun j => i2 (gA s 27 j)))) ::
  ((a 28), .inl (D.1 14, 5, .inl (fun j => i2 (gA s 28 j)))) ::
  ((a 29), .inl (D.1 14, 5, .inl (fun j => i2 (gA s 29 j)))) ::
  ((a 30), .inl (D.1 14, 4, .inl (fun j => i2 (gA s 30 j)))) ::
  ((a 31), .inl (D.1 14, 3, .inl (fun j => i2 (gA s 31 j)))) ::
  ((a 32), .inl (D.1 14, 2, .inl (fun j => i2 (gA s 32 j)))) ::
  ((a 33), .inl (D.1 14, 3, .inl (fun j => i2 (gA s 33 j)))) ::
  ((a 34), .inl (D.1 14, 3, .inl (fun j => i2 (gA s 34 j)))) ::
  ((a 35), .inl (D.1 14, 3, .inl (fun j => i2 (gA s 35 j)))) ::
  ((a 36), .inl (D.1 14, 3, .inl (fun j => i2 (gA s 36 j)))) ::
  ((a 37), .inl (D.1 14, 3, .inl (fun j => i2 (gA s 37 j)))) ::
  ((a 39), .inl (D.1 13, 10, .inl (fun j => i2 (gA s 39 j)))) ::
  ((a 40), .inl (D.1 15, 16, .inr (.inl (fun j => i8 (gB s 40 j))))) ::
  ((a 41), .inl (D.1 13, 240, .inl (fun j => i2 (gA s 41 j)))) ::
  ((a 42), .inl (D.1 13, 6, .inl (fun j => i2 (gA s 42 j)))) ::
  ((a 43), .inl (D.1 13, 6, .inl (fun j => i2 (gA s 43 j)))) ::
  ((a 44), .inl (D.1 13, 3200, .inl (fun j => i2 (gA s 44 j)))) ::
  ((a 49), .inl (D.1 13, 906, .inl (fun j => i2 (gA s 49 j)))) ::
  ((a 54), .inl (D.1 16, 48, .inl (fun j => i2 (gA s 54 j)))) ::
  ((a 56), .inl (D.1 13, 300, .inl (fun j => i2 (gA s 56 j)))) ::
  ((a 57), .inl (D.1 13, 48, .inl (fun j => i2 (gA s 57 j)))) ::
  ((a 58), .inl (D.1 13, 48, .inl (fun j => i2 (gA s 58 j)))) ::
  ((a 59), .inl (D.1 13, 785, .inl (fun j => i2 (gA s 59 j)))) ::
  ((a 60), .inl (D.1 16, 48, .inl (fun j => i2 (gA s 60 j)))) ::
  ((a 61), .inl (D.1 13, 785, .inl (fun j => i2 (gA s 61 j)))) ::
  ((a 62), .inl (D.1 13, 300, .inl (fun j => i2 (gA s 62 j)))) ::
  ((a 63), .inl (D.1 16, 48, .inl (fun j => i2 (gA s 63 j)))) ::
  ((a 64), .inl (D.1 13, 300, .inl (fun j => i2 (gA s 64 j)))) ::
  ((a 65), .inl (D.1 13, 300, .inl (fun j => i2 (gA s 65 j)))) ::
  ((a 66), .inl (D.1 13, 300, .inl (fun j => i2 (gA s 66 j)))) ::
  ((a 69), .inl (D.1 16, 48, .inl (fun j => i2 (gA s 69 j)))) ::
  ((a 72), .inl (D.1 13, 48, .inl (fun j => i2 (gA s 72 j)))) ::
  ((a 74), .inl (D.1 13, 24, .inl (fun j => i2 (gA s 74 j)))) ::
  ((a 75), .inl (D.1 13, 18120, .inl (fun j => i2 (gA s 75 j)))) ::
  ((a 79), .inl (D.1 14, 5, .inl (fun j => i2 (gA s 79 j)))) ::
  ((a 80), .inl (D.1 14, 4, .inl (fun j => i2 (gA s 80 j)))) ::
  ((a 81), .inl (D.1 14, 5, .inl (fun j => i2 (gA s 81 j)))) ::
  ((a 82), .inl (D.1 14, 5, .inl (fun j => i2 (gA s 82 j)))) ::
  ((a 83), .inl (D.1 14, 4, .inl (fun j => i2 (gA s 83 j)))) ::
  ((a 84), .inl (D.1 14, 5, .inl (fun j => i2 (gA s 84 j)))) ::
  ((a 85), .inl (D.1 14, 3, .inl (fun j => i2 (gA s 85 j)))) ::
  ((a 86), .inl (D.1 14, 3, .inl (fun j => i2 (gA s 86 j)))) ::
  ((a 87), .inl (D.1 14, 2, .inl (fun j => i2 (gA s 87 j)))) ::
  ((a 88), .inl (D.1 14, 3, .inl (fun j => i2 (gA s 88 j)))) ::
  ((a 89), .inl (D.1 14, 3, .inl (fun j => i2 (gA s 89 j)))) ::
  ((a 90), .inl (D.1 14, 3, .inl (fun j => i2 (gA s 90 j)))) ::
  ((a 91), .inl (D.1 14, 5, .inl (fun j => i2 (gA s 91 j)))) ::
  ((a 92), .inl (D.1 14, 5, .inl (fun j => i2 (gA s 92 j)))) ::
  ((a 93), .inl (D.1 14, 4, .inl (fun j => i2 (gA s 93 j)))) ::
  ((a 94), .inl (D.1 14, 7, .inl (fun j => i2 (gA s 94 j)))) ::
  ((a 95), .inl (D.1 14, 6, .inl (fun j => i2 (gA s 95 j)))) ::
  ((a 96), .inl (D.1 14, 5, .inl (fun j => i2 (gA s 96 j)))) ::
  ((a 97), .inl (D.1 14, 5, .inl (fun j => i2 (gA s 97 j)))) ::
  ((a 98), .inl (D.1 14, 5, .inl (fun j => i2 (gA s 98 j)))) ::
  ((a 99), .inl (D.1 14, 4, .inl (fun j => i2 (gA s 99 j)))) ::
  ((a 100), .inl (D.1 14, 3, .inl (fun j => i2 (gA s 100 j)))) ::
  ((a 101), .inl (D.1 13, 1700, .inl (fun j => i2 (gA s 101 j)))) ::
  ((a 103), .inl (D.1 13, 1700, .inl (fun j => i2 (gA s 103 j)))) ::
  ((a 107), .inl (D.1 15, 1700, .inr (.inl (fun j => i8 (gB s 107 j))))) ::
  ((a 111), .inl (D.1 13, 1364, .inl (fun j => i2 (gA s 111 j)))) ::
  ((a 113), .inl (D.1 13, 785, .inl (fun j => i2 (gA s 113 j)))) ::
  ((a 115), .inl (D.1 13, 48, .inl (fun j => i2 (gA s 115 j)))) :: []
section WR
variable {D : va_G} {a : Nat → Nat} {s : MS} {A : Nat → Prop}
set_option maxRecDepth 100000 in
theorem RW_D (t : MS) (h : va_D A (RW D a s)) : va_D A (RW D a t) := va_D_same h rfl
set_option maxRecDepth 100000 in
theorem RW_A {sz : Nat} (t : MS) : va_A (RW D a t) sz = va_A (RW D a s) sz := va_A_same rfl
set_option maxRecDepth 100000 in
theorem mF_len : (mF a s).length = 116 := rfl
set_option maxRecDepth 100000 in
theorem mF_0 : (mF a s)[0]? = some (.ref (a 0)) := rfl
set_option maxRecDepth 100000 in
theorem mF_1 : (mF a s)[1]? = some (.int (i2 (gI s 1))) := rfl
set_option maxRecDepth 100000 in
theorem RW_f1 (v : Int) : (RW D a s).set 0 ((a 200), .inr (12, (mF a s).set 1 (.int (i2 v)))) = RW D a (sI s 1 v) := rfl
set_option maxRecDepth 100000 in
theorem mF_2 : (mF a s)[2]? = some (.int (i2 (gI s 2))) := rfl
set_option maxRecDepth 100000 in
theorem RW_f2 (v : Int) : (RW D a s).set 0 ((a 200), .inr (12, (mF a s).set 2 (.int (i2 v)))) = RW D a (sI s 2 v) := rfl
set_option maxRecDepth 100000 in
theorem mF_3 : (mF a s)[3]? = some (.int (i2 (gI s 3))) := rfl
set_option maxRecDepth 100000 in
theorem RW_f3 (v : Int) : (RW D a s).set 0 ((a 200), .inr (12, (mF a s).set 3 (.int (i2 v)))) = RW D a (sI s 3 v) := rfl
set_option maxRecDepth 100000 in
theorem mF_4 : (mF a s)[4]? = some (.int (i2 (gI s 4))) := rfl
set_option maxRecDepth 100000 in
theorem RW_f4 (v : Int) : (RW D a s).set 0 ((a 200), .inr (12, (mF a s).set 4 (.int (i2 v)))) = RW D a (sI s 4 v) := rfl
set_option maxRecDepth 100000 in
theorem mF_5 : (mF a s)[5]? = some (.int (i2 (gI s 5))) := rfl
set_option maxRecDepth 100000 in
theorem RW_f5 (v : Int) : (RW D a s).set 0 ((a 200), .inr (12, (mF a s).set 5 (.int (i2 v)))) = RW D a (sI s 5 v) := rfl
set_option maxRecDepth 100000 in
theorem mF_6 : (mF a s)[6]? = some (.int (i2 (gI s 6))) := rfl
set_option maxRecDepth 100000 in
theorem RW_f6 (v : Int) : (RW D a s).set 0 ((a 200), .inr (12, (mF a s).set 6 (.int (i2 v)))) = RW D a (sI s 6 v) := rfl
set_option maxRecDepth 100000 in
theorem mF_7 : (mF a s)[7]? = some (.int (i2 (gI s 7))) := rfl
set_option maxRecDepth 100000 in
theorem RW_f7 (v : Int) : (RW D a s).set 0 ((a 200), .inr (12, (mF a s).set 7 (.int (i2 v)))) = RW D a (sI s 7 v) := rfl
set_option maxRecDepth 100000 in
theorem mF_8 : (mF a s)[8]? = some (.int (i2 (gI s 8))) := rfl
set_option maxRecDepth 100000 in
theorem RW_f8 (v : Int) : (RW D a s).set 0 ((a 200), .inr (12, (mF a s).set 8 (.int (i2 v)))) = RW D a (sI s 8 v) := rfl
set_option maxRecDepth 100000 in
theorem mF_9 : (mF a s)[9]? = some (.ref (a 9)) := rfl
set_option maxRecDepth 100000 in
theorem mF_10 : (mF a s)[10]? = some (.int (i2 (gI s 10))) := rfl
set_option maxRecDepth 100000 in
theorem RW_f10 (v : Int) : (RW D a s).set 0 ((a 200), .inr (12, (mF a s).set 10 (.int (i2 v)))) = RW D a (sI s 10 v) := rfl
set_option maxRecDepth 100000 in
theorem mF_11 : (mF a s)[11]? = some (.ref (a 11)) := rfl
set_option maxRecDepth 100000 in
theorem mF_12 : (mF a s)[12]? = some (.ref (a 12)) := rfl
set_option maxRecDepth 100000 in
theorem mF_13 : (mF a s)[13]? = some (.ref (a 13)) := rfl
set_option maxRecDepth 100000 in
theorem mF_14 : (mF a s)[14]? = some (.ref (a 14)) := rfl
set_option maxRecDepth 100000 in
theorem mF_15 : (mF a s)[15]? = some (.ref (a 15)) := rfl
set_option maxRecDepth 100000 in
theorem mF_16 : (mF a s)[16]? = some (.ref (a 16)) := rfl
set_option maxRecDepth 100000 in
theorem mF_17 : (mF a s)[17]? = some (.ref (a 17)) := rfl
set_option maxRecDepth 100000 in
theorem mF_18 : (mF a s)[18]? = some (.ref (a 18)) := rfl
set_option maxRecDepth 100000 in
theorem mF_19 : (mF a s)[19]? = some (.ref (a 19)) := rfl
set_option maxRecDepth 100000 in
theorem mF_20 : (mF a s)[20]? = some (.ref (a 20)) := rfl
set_option maxRecDepth 100000 in
theorem mF_21 : (mF a s)[21]? = some (.ref (a 21)) := rfl
set_option maxRecDepth 100000 in
theorem mF_22 : (mF a s)[22]? = some (.ref (a 22)) := rfl
set_option maxRecDepth 100000 in
theorem mF_23 : (mF a s)[23]? = some (.ref (a 23)) := rfl
set_option maxRecDepth 100000 in
theorem mF_24 : (mF a s)[24]? = some (.ref (a 24)) := rfl
set_option maxRecDepth 100000 in
theorem mF_25 : (mF a s)[25]? = some (.ref (a 25)) := rfl
set_option maxRecDepth 100000 in
theorem mF_26 : (mF a s)[26]? = some (.ref (a 26)) := rfl
set_option maxRecDepth 100000 in
theorem mF_27 : (mF a s)[27]? = some (.ref (a 27)) := rfl
set_option maxRecDepth 100000 in
theorem mF_28 : (mF a s)[28]? = some (.ref (a 28)) := rfl
set_option maxRecDepth 100000 in
theorem mF_29 : (mF a s)[29]? = some (.ref (a 29)) := rfl
set_option maxRecDepth 100000 in
theorem mF_30 : (mF a s)[30]? = some (.ref (a 30)) := rfl
set_option maxRecDepth 100000 in
theorem mF_31 : (mF a s)[31]? = some (.ref (a 31)) := rfl
set_option maxRecDepth 100000 in
theorem mF_32 : (mF a s)[32]? = some (.ref (a 32)) := rfl
set_option maxRecDepth 100000 in
theorem mF_33 : (mF a s)[33]? = some (.ref (a 33)) := rfl
set_option maxRecDepth 100000 in
theorem mF_34 : (mF a s)[34]? = some (.ref (a 34)) := rfl
set_option maxRecDepth 100000 in
theorem mF_35 : (mF a s)[35]? = some (.ref (a 35)) := rfl
set_option maxRecDepth 100000 in
theorem mF_36 : (mF a s)[36]? = some (.ref (a 36)) := rfl
set_option maxRecDepth 100000 in
theorem mF_37 : (mF a s)[37]? = some (.ref (a 37)) := rfl
set_option maxRecDepth 100000 in
theorem mF_38 : (mF a s)[38]? = some (.int (i2 (gI s 38))) := rfl
set_option maxRecDepth 100000 in
theorem RW_f38 (v : Int) : (RW D a s).set 0 ((a 200), .inr (12, (mF a s).set 38 (.int (i2 v)))) = RW D a (sI s 38 v) := rfl
set_option maxRecDepth 100000 in
theorem mF_39 : (mF a s)[39]? = some (.ref (a 39)) := rfl
set_option maxRecDepth 100000 in
theorem mF_40 : (mF a s)[40]? = some (.ref (a 40)) := rfl
set_option maxRecDepth 100000 in
theorem mF_41 : (mF a s)[41]? = some (.ref (a 41)) := rfl
set_option maxRecDepth 100000 in
theorem mF_42 : (mF a s)[42]? = some (.ref (a 42)) := rfl
set_option maxRecDepth 100000 in
theorem mF_43 : (mF a s)[43]? = some (.ref (a 43)) := rfl
set_option maxRecDepth 100000 in
theorem mF_44 : (mF a s)[44]? = some (.ref (a 44)) := rfl
set_option maxRecDepth 100000 in
theorem mF_45 : (mF a s)[45]? = some (.int (i2 (gI s 45))) := rfl
set_option maxRecDepth 100000 in
theorem RW_f45 (v : Int) : (RW D a s).set 0 ((a 200), .inr (12, (mF a s).set 45 (.int (i2 v)))) = RW D a (sI s 45 v) := rfl
set_option maxRecDepth 100000 in
theorem mF_46 : (mF a s)[46]? = some (.int (i2 (gI s 46))) := rfl
set_option maxRecDepth 100000 in
theorem RW_f46 (v : Int) : (RW D a s).set 0 ((a 200), .inr (12, (mF a s).set 46 (.int (i2 v)))) = RW D a (sI s 46 v) := rfl
set_option maxRecDepth 100000 in
theorem mF_47 : (mF a s)[47]? = some (.int (i2 (gI s 47))) := rfl
set_option maxRecDepth 100000 in
theorem RW_f47 (v : Int) : (RW D a s).set 0 ((a 200), .inr (12, (mF a s).set 47 (.int (i2 v)))) = RW D a (sI s 47 v) := rfl
set_option maxRecDepth 100000 in
theorem mF_48 : (mF a s)[48]? = some (.int (i2 (gI s 48))) := rfl
set_option maxRecDepth 100000 in
theorem RW_f48 (v : Int) : (RW D a s).set 0 ((a 200), .inr (12, (mF a s).set 48 (.int (i2 v)))) = RW D a (sI s 48 v) := rfl
set_option maxRecDepth 100000 in
theorem mF_49 : (mF a s)[49]? = some (.ref (a 49)) := rfl
set_option maxRecDepth 100000 in
theorem mF_50 : (mF a s)[50]? = some (.int (i2 (gI s 50))) := rfl
set_option maxRecDepth 100000 in
theorem RW_f50 (v : Int) : (RW D a s).set 0 ((a 200), .inr (12, (mF a s).set 50 (.int (i2 v)))) = RW D a (sI s 50 v) := rfl
set_option maxRecDepth 100000 in
theorem mF_51 : (mF a s)[51]? = some (.int (i2 (gI s 51))) := rfl
set_option maxRecDepth 100000 in
theorem RW_f51 (v : Int) : (RW D a s).set 0 ((a 200), .inr (12, (mF a s).set 51 (.int (i2 v)))) = RW D a (sI s 51 v) := rfl
set_option maxRecDepth 100000 in
theorem mF_52 : (mF a s)[52]? = some (.int (i2 (gI s 52))) := rfl
set_option maxRecDepth 100000 in
theorem RW_f52 (v : Int) : (RW D a s).set 0 ((a 200), .inr (12, (mF a s).set 52 (.int (i2 v)))) = RW D a (sI s 52 v) := rfl
set_option maxRecDepth 100000 in
theorem mF_53 : (mF a s)[53]? = some (.int (i2 (gI s 53))) := rfl
set_option maxRecDepth 100000 in
theorem RW_f53 (v : Int) : (RW D a s).set 0 ((a 200), .inr (12, (mF a s).set 53 (.int (i2 v)))) = RW D a (sI s 53 v) := rfl
set_option maxRecDepth 100000 in
theorem mF_54 : (mF a s)[54]? = some (.ref (a 54)) := rfl
set_option maxRecDepth 100000 in
theorem mF_55 : (mF a s)[55]? = some (.int (i2 (gI s 55))) := rfl
set_option maxRecDepth 100000 in
theorem RW_f55 (v : Int) : (RW D a s).set 0 ((a 200), .inr (12, (mF a s).set 55 (.int (i2 v)))) = RW D a (sI s 55 v) := rfl
set_option maxRecDepth 100000 in
theorem mF_56 : (mF a s)[56]? = some (.ref (a 56)) := rfl
set_option maxRecDepth 100000 in
theorem mF_57 : (mF a s)[57]? = some (.ref (a 57)) := rfl
set_option maxRecDepth 100000 in
theorem mF_58 : (mF a s)[58]? = some (.ref (a 58)) := rfl
set_option maxRecDepth 100000 in
theorem mF_59 : (mF a s)[59]? = some (.ref (a 59)) := rfl
set_option maxRecDepth 100000 in
theorem mF_60 : (mF a s)[60]? = some (.ref (a 60)) := rfl
set_option maxRecDepth 100000 in
theorem mF_61 : (mF a s)[61]? = some (.ref (a 61)) := rfl
set_option maxRecDepth 100000 in
theorem mF_62 : (mF a s)[62]? = some (.ref (a 62)) := rfl
set_option maxRecDepth 100000 in
theorem mF_63 : (mF a s)[63]? = some (.ref (a 63)) := rfl
set_option maxRecDepth 100000 in
theorem mF_64 : (mF a s)[64]? = some (.ref (a 64)) := rfl
set_option maxRecDepth 100000 in
theorem mF_65 : (mF a s)[65]? = some (.ref (a 65)) := rfl
set_option maxRecDepth 100000 in
theorem mF_66 : (mF a s)[66]? = some (.ref (a 66)) := rfl
set_option maxRecDepth 100000 in
theorem mF_67 : (mF a s)[67]? = some (.int (i2 (gI s 67))) := rfl
set_option maxRecDepth 100000 in
theorem RW_f67 (v : Int) : (RW D a s).set 0 ((a 200), .inr (12, (mF a s).set 67 (.int (i2 v)))) = RW D a (sI s 67 v) := rfl
set_option maxRecDepth 100000 in
theorem mF_68 : (mF a s)[68]? = some (.int (i2 (gI s 68))) := rfl
set_option maxRecDepth 100000 in
theorem RW_f68 (v : Int) : (RW D a s).set 0 ((a 200), .inr (12, (mF a s).set 68 (.int (i2 v)))) = RW D a (sI s 68 v) := rfl
set_option maxRecDepth 100000 in
theorem mF_69 : (mF a s)[69]? = some (.ref (a 69)) := rfl
set_option maxRecDepth 100000 in
theorem mF_70 : (mF a s)[70]? = some (.int (i2 (gI s 70))) := rfl
set_option maxRecDepth 100000 in
theorem RW_f70 (v : Int) : (RW D a s).set 0 ((a 200), .inr (12, (mF a s).set 70 (.int (i2 v)))) = RW D a (sI s 70 v) := rfl
set_option maxRecDepth 100000 in
theorem mF_71 : (mF a s)[71]? = some (.int (i2 (gI s 71))) := rfl
set_option maxRecDepth 100000 in
theorem RW_f71 (v : Int) : (RW D a s).set 0 ((a 200), .inr (12, (mF a s).set 71 (.int (i2 v)))) = RW D a (sI s 71 v) := rfl
set_option maxRecDepth 100000 in
theorem mF_72 : (mF a s)[72]? = some (.ref (a 72)) := rfl
set_option maxRecDepth 100000 in
theorem mF_73 : (mF a s)[73]? = some (.int (i2 (gI s 73))) := rfl
set_option maxRecDepth 100000 in
theorem RW_f73 (v : Int) : (RW D a s).set 0 ((a 200), .inr (12, (mF a s).set 73 (.int (i2 v)))) = RW D a (sI s 73 v) := rfl
set_option maxRecDepth 100000 in
theorem mF_74 : (mF a s)[74]? = some (.ref (a 74)) := rfl
set_option maxRecDepth 100000 in
theorem mF_75 : (mF a s)[75]? = some (.ref (a 75)) := rfl
set_option maxRecDepth 100000 in
theorem mF_76 : (mF a s)[76]? = some (.int (i2 (gI s 76))) := rfl
set_option maxRecDepth 100000 in
theorem RW_f76 (v : Int) : (RW D a s).set 0 ((a 200), .inr (12, (mF a s).set 76 (.int (i2 v)))) = RW D a (sI s 76 v) := rfl
set_option maxRecDepth 100000 in
theorem mF_77 : (mF a s)[77]? = some (.int (i2 (gI s 77))) := rfl
set_option maxRecDepth 100000 in
theorem RW_f77 (v : Int) : (RW D a s).set 0 ((a 200), .inr (12, (mF a s).set 77 (.int (i2 v)))) = RW D a (sI s 77 v) := rfl
set_option maxRecDepth 100000 in
theorem mF_78 : (mF a s)[78]? = some (.long (i8 (gL s 78))) := rfl
set_option maxRecDepth 100000 in
theorem RW_f78 (v : Int) : (RW D a s).set 0 ((a 200), .inr (12, (mF a s).set 78 (.long (i8 v)))) = RW D a (sL s 78 v) := rfl
set_option maxRecDepth 100000 in
theorem mF_79 : (mF a s)[79]? = some (.ref (a 79)) := rfl
set_option maxRecDepth 100000 in
theorem mF_80 : (mF a s)[80]? = some (.ref (a 80)) := rfl
set_option maxRecDepth 100000 in
theorem mF_81 : (mF a s)[81]? = some (.ref (a 81)) := rfl
set_option maxRecDepth 100000 in
theorem mF_82 : (mF a s)[82]? = some (.ref (a 82)) := rfl
set_option maxRecDepth 100000 in
theorem mF_83 : (mF a s)[83]? = some (.ref (a 83)) := rfl
set_option maxRecDepth 100000 in
theorem mF_84 : (mF a s)[84]? = some (.ref (a 84)) := rfl
set_option maxRecDepth 100000 in
theorem mF_85 : (mF a s)[85]? = some (.ref (a 85)) := rfl
set_option maxRecDepth 100000 in
theorem mF_86 : (mF a s)[86]? = some (.ref (a 86)) := rfl
set_option maxRecDepth 100000 in
theorem mF_87 : (mF a s)[87]? = some (.ref (a 87)) := rfl
set_option maxRecDepth 100000 in
theorem mF_88 : (mF a s)[88]? = some (.ref (a 88)) := rfl
set_option maxRecDepth 100000 in
theorem mF_89 : (mF a s)[89]? = some (.ref (a 89)) := rfl
set_option maxRecDepth 100000 in
theorem mF_90 : (mF a s)[90]? = some (.ref (a 90)) := rfl
set_option maxRecDepth 100000 in
theorem mF_91 : (mF a s)[91]? = some (.ref (a 91)) := rfl
set_option maxRecDepth 100000 in
theorem mF_92 : (mF a s)[92]? = some (.ref (a 92)) := rfl
set_option maxRecDepth 100000 in
theorem mF_93 : (mF a s)[93]? = some (.ref (a 93)) := rfl
set_option maxRecDepth 100000 in
theorem mF_94 : (mF a s)[94]? = some (.ref (a 94)) := rfl
set_option maxRecDepth 100000 in
theorem mF_95 : (mF a s)[95]? = some (.ref (a 95)) := rfl
set_option maxRecDepth 100000 in
theorem mF_96 : (mF a s)[96]? = some (.ref (a 96)) := rfl
set_option maxRecDepth 100000 in
theorem mF_97 : (mF a s)[97]? = some (.ref (a 97)) := rfl
set_option maxRecDepth 100000 in
theorem mF_98 : (mF a s)[98]? = some (.ref (a 98)) := rfl
set_option maxRecDepth 100000 in
theorem mF_99 : (mF a s)[99]? = some (.ref (a 99)) := rfl
set_option maxRecDepth 100000 in
theorem mF_100 : (mF a s)[100]? = some (.ref (a 100)) := rfl
set_option maxRecDepth 100000 in
theorem mF_101 : (mF a s)[101]? = some (.ref (a 101)) := rfl
set_option maxRecDepth 100000 in
theorem mF_102 : (mF a s)[102]? = some (.int (i2 (gI s 102))) := rfl
set_option maxRecDepth 100000 in
theorem RW_f102 (v : Int) : (RW D a s).set 0 ((a 200), .inr (12, (mF a s).set 102 (.int (i2 v)))) = RW D a (sI s 102 v) := rfl
set_option maxRecDepth 100000 in
theorem mF_103 : (mF a s)[103]? = some (.ref (a 103)) := rfl
set_option maxRecDepth 100000 in
theorem mF_104 : (mF a s)[104]? = some (.int (i2 (gI s 104))) := rfl
set_option maxRecDepth 100000 in
theorem RW_f104 (v : Int) : (RW D a s).set 0 ((a 200), .inr (12, (mF a s).set 104 (.int (i2 v)))) = RW D a (sI s 104 v) := rfl
set_option maxRecDepth 100000 in
theorem mF_105 : (mF a s)[105]? = some (.int (i2 (gI s 105))) := rfl
set_option maxRecDepth 100000 in
theorem RW_f105 (v : Int) : (RW D a s).set 0 ((a 200), .inr (12, (mF a s).set 105 (.int (i2 v)))) = RW D a (sI s 105 v) := rfl
set_option maxRecDepth 100000 in
theorem mF_106 : (mF a s)[106]? = some (.int (i2 (gI s 106))) := rfl
set_option maxRecDepth 100000 in
theorem RW_f106 (v : Int) : (RW D a s).set 0 ((a 200), .inr (12, (mF a s).set 106 (.int (i2 v)))) = RW D a (sI s 106 v) := rfl
set_option maxRecDepth 100000 in
theorem mF_107 : (mF a s)[107]? = some (.ref (a 107)) := rfl
set_option maxRecDepth 100000 in
theorem mF_108 : (mF a s)[108]? = some (.int (i2 (gI s 108))) := rfl
set_option maxRecDepth 100000 in
theorem RW_f108 (v : Int) : (RW D a s).set 0 ((a 200), .inr (12, (mF a s).set 108 (.int (i2 v)))) = RW D a (sI s 108 v) := rfl
set_option maxRecDepth 100000 in
theorem mF_109 : (mF a s)[109]? = some (.long (i8 (gL s 109))) := rfl
set_option maxRecDepth 100000 in
theorem RW_f109 (v : Int) : (RW D a s).set 0 ((a 200), .inr (12, (mF a s).set 109 (.long (i8 v)))) = RW D a (sL s 109 v) := rfl
set_option maxRecDepth 100000 in
theorem mF_110 : (mF a s)[110]? = some (.int (i2 (gI s 110))) := rfl
set_option maxRecDepth 100000 in
theorem RW_f110 (v : Int) : (RW D a s).set 0 ((a 200), .inr (12, (mF a s).set 110 (.int (i2 v)))) = RW D a (sI s 110 v) := rfl
set_option maxRecDepth 100000 in
theorem mF_111 : (mF a s)[111]? = some (.ref (a 111)) := rfl
set_option maxRecDepth 100000 in
theorem mF_112 : (mF a s)[112]? = some (.int (i2 (gI s 112))) := rfl
set_option maxRecDepth 100000 in
theorem RW_f112 (v : Int) : (RW D a s).set 0 ((a 200), .inr (12, (mF a s).set 112 (.int (i2 v)))) = RW D a (sI s 112 v) := rfl
set_option maxRecDepth 100000 in
theorem mF_113 : (mF a s)[113]? = some (.ref (a 113)) := rfl
set_option maxRecDepth 100000 in
theorem mF_114 : (mF a s)[114]? = some (.int (i2 (gI s 114))) := rfl
set_option maxRecDepth 100000 in
theorem RW_f114 (v : Int) : (RW D a s).set 0 ((a 200), .inr (12, (mF a s).set 114 (.int (i2 v)))) = RW D a (sI s 114 v) := rfl
set_option maxRecDepth 100000 in
theorem mF_115 : (mF a s)[115]? = some (.ref (a 115)) := rfl
set_option maxRecDepth 100000 in
theorem RW_0 : (RW D a s)[0]? = some ((a 200), .inr (12, mF a s)) := rfl
set_option maxRecDepth 100000 in
theorem RW_1 : (RW D a s)[1]? = some ((a 0), .inl (D.1 13, 1600, .inl (fun j => i2 (gA s 0 j)))) := rfl
set_option maxRecDepth 100000 in
theorem RW_w1 (g : Nat → Int) : (RW D a s).set 1 ((a 0), .inl (D.1 13, 1600, .inl (fun j => i2 (g j)))) = RW D a (sA s 0 g) := rfl
set_option maxRecDepth 100000 in
theorem RW_2 : (RW D a s)[2]? = some ((a 9), .inl (D.1 13, 6, .inl (fun j => i2 (gA s 9 j)))) := rfl
set_option maxRecDepth 100000 in
theorem RW_w2 (g : Nat → Int) : (RW D a s).set 2 ((a 9), .inl (D.1 13, 6, .inl (fun j => i2 (g j)))) = RW D a (sA s 9 g) := rfl
set_option maxRecDepth 100000 in
theorem RW_3 : (RW D a s)[3]? = some ((a 11), .inl (D.1 14, 6, .inl (fun j => i2 (gA s 11 j)))) := rfl
set_option maxRecDepth 100000 in
theorem RW_4 : (RW D a s)[4]? = some ((a 12), .inl (D.1 14, 4, .inl (fun j => i2 (gA s 12 j)))) := rfl
set_option maxRecDepth 100000 in
theorem RW_5 : (RW D a s)[5]? = some ((a 13), .inl (D.1 14, 6, .inl (fun j => i2 (gA s 13 j)))) := rfl
set_option maxRecDepth 100000 in
theorem RW_6 : (RW D a s)[6]? = some ((a 14), .inl (D.1 14, 5, .inl (fun j => i2 (gA s 14 j)))) := rfl
set_option maxRecDepth 100000 in
theorem RW_7 : (RW D a s)[7]? = some ((a 15), .inl (D.1 14, 2, .inl (fun j => i2 (gA s 15 j)))) := rfl
set_option maxRecDepth 100000 in
theorem RW_8 : (RW D a s)[8]? = some ((a 16), .inl (D.1 14, 3, .inl (fun j => i2 (gA s 16 j)))) := rfl
set_option maxRecDepth 100000 in
theorem RW_9 : (RW D a s)[9]? = some ((a 17), .inl (D.1 14, 6, .inl (fun j => i2 (gA s 17 j)))) := rfl
set_option maxRecDepth 100000 in
theorem RW_10 : (RW D a s)[10]? = some ((a 18), .inl (D.1 14, 5, .inl (fun j => i2 (gA s 18 j)))) := rfl
set_option maxRecDepth 100000 in
theorem RW_11 : (RW D a s)[11]? = some ((a 19), .inl (D.1 14, 6, .inl (fun j => i2 (gA s 19 j)))) := rfl
set_option maxRecDepth 100000 in
theorem RW_12 : (RW D a s)[12]? = some ((a 20), .inl (D.1 14, 5, .inl (fun j => i2 (gA s 20 j)))) := rfl
set_option maxRecDepth 100000 in
theorem RW_13 : (RW D a s)[13]? = some ((a 21), .inl (D.1 14, 5, .inl (fun j => i2 (gA s 21 j)))) := rfl
set_option maxRecDepth 100000 in
theorem RW_14 : (RW D a s)[14]? = some ((a 22), .inl (D.1 14, 5, .inl (fun j => i2 (gA s 22 j)))) := rfl
set_option maxRecDepth 100000 in
theorem RW_15 : (RW D a s)[15]? = some ((a 23), .inl (D.1 14, 4, .inl (fun j => i2 (gA s 23 j)))) := rfl
set_option maxRecDepth 100000 in
theorem RW_16 : (RW D a s)[16]? = some ((a 24), .inl (D.1 14, 5, .inl (fun j => i2 (gA s 24 j)))) := rfl
set_option maxRecDepth 100000 in
theorem RW_17 : (RW D a s)[17]? = some ((a 25), .inl (D.1 14, 7, .inl (fun j => i2 (gA s 25 j)))) := rfl
set_option maxRecDepth 100000 in
theorem RW_18 : (RW D a s)[18]? = some ((a 26), .inl (D.1 14, 6, .inl (fun j => i2 (gA s 26 j)))) := rfl
set_option maxRecDepth 100000 in
theorem RW_19 : (RW D a s)[19]? = some ((a 27), .inl (D.1 14, 5, .inl (fun j => i2 (gA s 27 j)))) := rfl
set_option maxRecDepth 100000 in
theorem RW_20 : (RW D a s)[20]? = some ((a 28), .inl (D.1 14, 5, .inl (fun j => i2 (gA s 28 j)))) := rfl
set_option maxRecDepth 100000 in
theorem RW_21 : (RW D a s)[21]? = some ((a 29), .inl (D.1 14, 5, .inl (fun j => i2 (gA s 29 j)))) := rfl
set_option maxRecDepth 100000 in
theorem RW_22 : (RW D a s)[22]? = some ((a 30), .inl (D.1 14, 4, .inl (fun j => i2 (gA s 30 j)))) := rfl
set_option maxRecDepth 100000 in
theorem RW_23 : (RW D a s)[23]? = some ((a 31), .inl (D.1 14, 3, .inl (fun j => i2 (gA s 31 j)))) := rfl
set_option maxRecDepth 100000 in
theorem RW_24 : (RW D a s)[24]? = some ((a 32), .inl (D.1 14, 2, .inl (fun j => i2 (gA s 32 j)))) := rfl
set_option maxRecDepth 100000 in
theorem RW_25 : (RW D a s)[25]? = some ((a 33), .inl (D.1 14, 3, .inl (fun j => i2 (gA s 33 j)))) := rfl
set_option maxRecDepth 100000 in
theorem RW_26 : (RW D a s)[26]? = some ((a 34), .inl (D.1 14, 3, .inl (fun j => i2 (gA s 34 j)))) := rfl
set_option maxRecDepth 100000 in
theorem RW_27 : (RW D a s)[27]? = some ((a 35), .inl (D.1 14, 3, .inl (fun j => i2 (gA s 35 j)))) := rfl
set_option maxRecDepth 100000 in
theorem RW_28 : (RW D a s)[28]? = some ((a 36), .inl (D.1 14, 3, .inl (fun j => i2 (gA s 36 j)))) := rfl
set_option maxRecDepth 100000 in
theorem RW_29 : (RW D a s)[29]? = some ((a 37), .inl (D.1 14, 3, .inl (fun j => i2 (gA s 37 j)))) := rfl
set_option maxRecDepth 100000 in
theorem RW_30 : (RW D a s)[30]? = some ((a 39), .inl (D.1 13, 10, .inl (fun j => i2 (gA s 39 j)))) := rfl
set_option maxRecDepth 100000 in
theorem RW_w30 (g : Nat → Int) : (RW D a s).set 30 ((a 39), .inl (D.1 13, 10, .inl (fun j => i2 (g j)))) = RW D a (sA s 39 g) := rfl
set_option maxRecDepth 100000 in
theorem RW_31 : (RW D a s)[31]? = some ((a 40), .inl (D.1 15, 16, .inr (.inl (fun j => i8 (gB s 40 j))))) := rfl
set_option maxRecDepth 100000 in
theorem RW_w31 (g : Nat → Int) : (RW D a s).set 31 ((a 40), .inl (D.1 15, 16, .inr (.inl (fun j => i8 (g j))))) = RW D a (sB s 40 g) := rfl
set_option maxRecDepth 100000 in
theorem RW_32 : (RW D a s)[32]? = some ((a 41), .inl (D.1 13, 240, .inl (fun j => i2 (gA s 41 j)))) := rfl
set_option maxRecDepth 100000 in
theorem RW_w32 (g : Nat → Int) : (RW D a s).set 32 ((a 41), .inl (D.1 13, 240, .inl (fun j => i2 (g j)))) = RW D a (sA s 41 g) := rfl
set_option maxRecDepth 100000 in
theorem RW_33 : (RW D a s)[33]? = some ((a 42), .inl (D.1 13, 6, .inl (fun j => i2 (gA s 42 j)))) := rfl
set_option maxRecDepth 100000 in
theorem RW_w33 (g : Nat → Int) : (RW D a s).set 33 ((a 42), .inl (D.1 13, 6, .inl (fun j => i2 (g j)))) = RW D a (sA s 42 g) := rfl
set_option maxRecDepth 100000 in
theorem RW_34 : (RW D a s)[34]? = some ((a 43), .inl (D.1 13, 6, .inl (fun j => i2 (gA s 43 j)))) := rfl
set_option maxRecDepth 100000 in
theorem RW_w34 (g : Nat → Int) : (RW D a s).set 34 ((a 43), .inl (D.1 13, 6, .inl (fun j => i2 (g j)))) = RW D a (sA s 43 g) := rfl
set_option maxRecDepth 100000 in
theorem RW_35 : (RW D a s)[35]? = some ((a 44), .inl (D.1 13, 3200, .inl (fun j => i2 (gA s 44 j)))) := rfl
set_option maxRecDepth 100000 in
theorem RW_w35 (g : Nat → Int) : (RW D a s).set 35 ((a 44), .inl (D.1 13, 3200, .inl (fun j => i2 (g j)))) = RW D a (sA s 44 g) := rfl
set_option maxRecDepth 100000 in
theorem RW_36 : (RW D a s)[36]? = some ((a 49), .inl (D.1 13, 906, .inl (fun j => i2 (gA s 49 j)))) := rfl
set_option maxRecDepth 100000 in
theorem RW_w36 (g : Nat → Int) : (RW D a s).set 36 ((a 49), .inl (D.1 13, 906, .inl (fun j => i2 (g j)))) = RW D a (sA s 49 g) := rfl
set_option maxRecDepth 100000 in
theorem RW_37 : (RW D a s)[37]? = some ((a 54), .inl (D.1 16, 48, .inl (fun j => i2 (gA s 54 j)))) := rfl
set_option maxRecDepth 100000 in
theorem RW_w37 (g : Nat → Int) : (RW D a s).set 37 ((a 54), .inl (D.1 16, 48, .inl (fun j => i2 (g j)))) = RW D a (sA s 54 g) := rfl
set_option maxRecDepth 100000 in
theorem RW_38 : (RW D a s)[38]? = some ((a 56), .inl (D.1 13, 300, .inl (fun j => i2 (gA s 56 j)))) := rfl
set_option maxRecDepth 100000 in
theorem RW_w38 (g : Nat → Int) : (RW D a s).set 38 ((a 56), .inl (D.1 13, 300, .inl (fun j => i2 (g j)))) = RW D a (sA s 56 g) := rfl
set_option maxRecDepth 100000 in
theorem RW_39 : (RW D a s)[39]? = some ((a 57), .inl (D.1 13, 48, .inl (fun j => i2 (gA s 57 j)))) := rfl
set_option maxRecDepth 100000 in
theorem RW_w39 (g : Nat → Int) : (RW D a s).set 39 ((a 57), .inl (D.1 13, 48, .inl (fun j => i2 (g j)))) = RW D a (sA s 57 g) := rfl
set_option maxRecDepth 100000 in
theorem RW_40 : (RW D a s)[40]? = some ((a 58), .inl (D.1 13, 48, .inl (fun j => i2 (gA s 58 j)))) := rfl
set_option maxRecDepth 100000 in
theorem RW_w40 (g : Nat → Int) : (RW D a s).set 40 ((a 58), .inl (D.1 13, 48, .inl (fun j => i2 (g j)))) = RW D a (sA s 58 g) := rfl
set_option maxRecDepth 100000 in
theorem RW_41 : (RW D a s)[41]? = some ((a 59), .inl (D.1 13, 785, .inl (fun j => i2 (gA s 59 j)))) := rfl
set_option maxRecDepth 100000 in
theorem RW_w41 (g : Nat → Int) : (RW D a s).set 41 ((a 59), .inl (D.1 13, 785, .inl (fun j => i2 (g j)))) = RW D a (sA s 59 g) := rfl
set_option maxRecDepth 100000 in
theorem RW_42 : (RW D a s)[42]? = some ((a 60), .inl (D.1 16, 48, .inl (fun j => i2 (gA s 60 j)))) := rfl
set_option maxRecDepth 100000 in
theorem RW_w42 (g : Nat → Int) : (RW D a s).set 42 ((a 60), .inl (D.1 16, 48, .inl (fun j => i2 (g j)))) = RW D a (sA s 60 g) := rfl
set_option maxRecDepth 100000 in
theorem RW_43 : (RW D a s)[43]? = some ((a 61), .inl (D.1 13, 785, .inl (fun j => i2 (gA s 61 j)))) := rfl
set_option maxRecDepth 100000 in
theorem RW_w43 (g : Nat → Int) : (RW D a s).set 43 ((a 61), .inl (D.1 13, 785, .inl (fun j => i2 (g j)))) = RW D a (sA s 61 g) := rfl
set_option maxRecDepth 100000 in
theorem RW_44 : (RW D a s)[44]? = some ((a 62), .inl (D.1 13, 300, .inl (fun j => i2 (gA s 62 j)))) := rfl
set_option maxRecDepth 100000 in
theorem RW_w44 (g : Nat → Int) : (RW D a s).set 44 ((a 62), .inl (D.1 13, 300, .inl (fun j => i2 (g j)))) = RW D a (sA s 62 g) := rfl
set_option maxRecDepth 100000 in
theorem RW_45 : (RW D a s)[45]? = some ((a 63), .inl (D.1 16, 48, .inl (fun j => i2 (gA s 63 j)))) := rfl
set_option maxRecDepth 100000 in
theorem RW_w45 (g : Nat → Int) : (RW D a s).set 45 ((a 63), .inl (D.1 16, 48, .inl (fun j => i2 (g j)))) = RW D a (sA s 63 g) := rfl
set_option maxRecDepth 100000 in
theorem RW_46 : (RW D a s)[46]? = some ((a 64), .inl (D.1 13, 300, .inl (fun j => i2 (gA s 64 j)))) := rfl
set_option maxRecDepth 100000 in
theorem RW_w46 (g : Nat → Int) : (RW D a s).set 46 ((a 64), .inl (D.1 13, 300, .inl (fun j => i2 (g j)))) = RW D a (sA s 64 g) := rfl
set_option maxRecDepth 100000 in
theorem RW_47 : (RW D a s)[47]? = some ((a 65), .inl (D.1 13, 300, .inl (fun j => i2 (gA s 65 j)))) := rfl
set_option maxRecDepth 100000 in
theorem RW_w47 (g : Nat → Int) : (RW D a s).set 47 ((a 65), .inl (D.1 13, 300, .inl (fun j => i2 (g j)))) = RW D a (sA s 65 g) := rfl
set_option maxRecDepth 100000 in
theorem RW_48 : (RW D a s)[48]? = some ((a 66), .inl (D.1 13, 300, .inl (fun j => i2 (gA s 66 j)))) := rfl
set_option maxRecDepth 100000 in
theorem RW_w48 (g : Nat → Int) : (RW D a s).set 48 ((a 66), .inl (D.1 13, 300, .inl (fun j => i2 (g j)))) = RW D a (sA s 66 g) := rfl
set_option maxRecDepth 100000 in
theorem RW_49 : (RW D a s)[49]? = some ((a 69), .inl (D.1 16, 48, .inl (fun j => i2 (gA s 69 j)))) := rfl
set_option maxRecDepth 100000 in
theorem RW_w49 (g : Nat → Int) : (RW D a s).set 49 ((a 69), .inl (D.1 16, 48, .inl (fun j => i2 (g j)))) = RW D a (sA s 69 g) := rfl
set_option maxRecDepth 100000 in
theorem RW_50 : (RW D a s)[50]? = some ((a 72), .inl (D.1 13, 48, .inl (fun j => i2 (gA s 72 j)))) := rfl
set_option maxRecDepth 100000 in
theorem RW_w50 (g : Nat → Int) : (RW D a s).set 50 ((a 72), .inl (D.1 13, 48, .inl (fun j => i2 (g j)))) = RW D a (sA s 72 g) := rfl
set_option maxRecDepth 100000 in
theorem RW_51 : (RW D a s)[51]? = some ((a 74), .inl (D.1 13, 24, .inl (fun j => i2 (gA s 74 j)))) := rfl
set_option maxRecDepth 100000 in
theorem RW_w51 (g : Nat → Int) : (RW D a s).set 51 ((a 74), .inl (D.1 13, 24, .inl (fun j => i2 (g j)))) = RW D a (sA s 74 g) := rfl
set_option maxRecDepth 100000 in
theorem RW_52 : (RW D a s)[52]? = some ((a 75), .inl (D.1 13, 18120, .inl (fun j => i2 (gA s 75 j)))) := rfl
set_option maxRecDepth 100000 in
theorem RW_w52 (g : Nat → Int) : (RW D a s).set 52 ((a 75), .inl (D.1 13, 18120, .inl (fun j => i2 (g j)))) = RW D a (sA s 75 g) := rfl
set_option maxRecDepth 100000 in
theorem RW_53 : (RW D a s)[53]? = some ((a 79), .inl (D.1 14, 5, .inl (fun j => i2 (gA s 79 j)))) := rfl
set_option maxRecDepth 100000 in
theorem RW_54 : (RW D a s)[54]? = some ((a 80), .inl (D.1 14, 4, .inl (fun j => i2 (gA s 80 j)))) := rfl
set_option maxRecDepth 100000 in
theorem RW_55 : (RW D a s)[55]? = some ((a 81), .inl (D.1 14, 5, .inl (fun j => i2 (gA s 81 j)))) := rfl
set_option maxRecDepth 100000 in
theorem RW_56 : (RW D a s)[56]? = some ((a 82), .inl (D.1 14, 5, .inl (fun j => i2 (gA s 82 j)))) := rfl
set_option maxRecDepth 100000 in
theorem RW_57 : (RW D a s)[57]? = some ((a 83), .inl (D.1 14, 4, .inl (fun j => i2 (gA s 83 j)))) := rfl
set_option maxRecDepth 100000 in
theorem RW_58 : (RW D a s)[58]? = some ((a 84), .inl (D.1 14, 5, .inl (fun j => i2 (gA s 84 j)))) := rfl
set_option maxRecDepth 100000 in
theorem RW_59 : (RW D a s)[59]? = some ((a 85), .inl (D.1 14, 3, .inl (fun j => i2 (gA s 85 j)))) := rfl
set_option maxRecDepth 100000 in
theorem RW_60 : (RW D a s)[60]? = some ((a 86), .inl (D.1 14, 3, .inl (fun j => i2 (gA s 86 j)))) := rfl
set_option maxRecDepth 100000 in
theorem RW_61 : (RW D a s)[61]? = some ((a 87), .inl (D.1 14, 2, .inl (fun j => i2 (gA s 87 j)))) := rfl
set_option maxRecDepth 100000 in
theorem RW_62 : (RW D a s)[62]? = some ((a 88), .inl (D.1 14, 3, .inl (fun j => i2 (gA s 88 j)))) := rfl
set_option maxRecDepth 100000 in
theorem RW_63 : (RW D a s)[63]? = some ((a 89), .inl (D.1 14, 3, .inl (fun j => i2 (gA s 89 j)))) := rfl
set_option maxRecDepth 100000 in
theorem RW_64 : (RW D a s)[64]? = some ((a 90), .inl (D.1 14, 3, .inl (fun j => i2 (gA s 90 j)))) := rfl
set_option maxRecDepth 100000 in
theorem RW_65 : (RW D a s)[65]? = some ((a 91), .inl (D.1 14, 5, .inl (fun j => i2 (gA s 91 j)))) := rfl
set_option maxRecDepth 100000 in
theorem RW_66 : (RW D a s)[66]? = some ((a 92), .inl (D.1 14, 5, .inl (fun j => i2 (gA s 92 j)))) := rfl
set_option maxRecDepth 100000 in
theorem RW_67 : (RW D a s)[67]? = some ((a 93), .inl (D.1 14, 4, .inl (fun j => i2 (gA s 93 j)))) := rfl
set_option maxRecDepth 100000 in
theorem RW_68 : (RW D a s)[68]? = some ((a 94), .inl (D.1 14, 7, .inl (fun j => i2 (gA s 94 j)))) := rfl
set_option maxRecDepth 100000 in
theorem RW_69 : (RW D a s)[69]? = some ((a 95), .inl (D.1 14, 6, .inl (fun j => i2 (gA s 95 j)))) := rfl
set_option maxRecDepth 100000 in
theorem RW_70 : (RW D a s)[70]? = some ((a 96), .inl (D.1 14, 5, .inl (fun j => i2 (gA s 96 j)))) := rfl
set_option maxRecDepth 100000 in
theorem RW_71 : (RW D a s)[71]? = some ((a 97), .inl (D.1 14, 5, .inl (fun j => i2 (gA s 97 j)))) := rfl
set_option maxRecDepth 100000 in
theorem RW_72 : (RW D a s)[72]? = some ((a 98), .inl (D.1 14, 5, .inl (fun j => i2 (gA s 98 j)))) := rfl
set_option maxRecDepth 100000 in
theorem RW_73 : (RW D a s)[73]? = some ((a 99), .inl (D.1 14, 4, .inl (fun j => i2 (gA s 99 j)))) := rfl
set_option maxRecDepth 100000 in
theorem RW_74 : (RW D a s)[74]? = some ((a 100), .inl (D.1 14, 3, .inl (fun j => i2 (gA s 100 j)))) := rfl
set_option maxRecDepth 100000 in
theorem RW_75 : (RW D a s)[75]? = some ((a 101), .inl (D.1 13, 1700, .inl (fun j => i2 (gA s 101 j)))) := rfl
set_option maxRecDepth 100000 in
theorem RW_w75 (g : Nat → Int) : (RW D a s).set 75 ((a 101), .inl (D.1 13, 1700, .inl (fun j => i2 (g j)))) = RW D a (sA s 101 g) := rfl
set_option maxRecDepth 100000 in
theorem RW_76 : (RW D a s)[76]? = some ((a 103), .inl (D.1 13, 1700, .inl (fun j => i2 (gA s 103 j)))) := rfl
set_option maxRecDepth 100000 in
theorem RW_w76 (g : Nat → Int) : (RW D a s).set 76 ((a 103), .inl (D.1 13, 1700, .inl (fun j => i2 (g j)))) = RW D a (sA s 103 g) := rfl
set_option maxRecDepth 100000 in
theorem RW_77 : (RW D a s)[77]? = some ((a 107), .inl (D.1 15, 1700, .inr (.inl (fun j => i8 (gB s 107 j))))) := rfl
set_option maxRecDepth 100000 in
theorem RW_w77 (g : Nat → Int) : (RW D a s).set 77 ((a 107), .inl (D.1 15, 1700, .inr (.inl (fun j => i8 (g j))))) = RW D a (sB s 107 g) := rfl
set_option maxRecDepth 100000 in
theorem RW_78 : (RW D a s)[78]? = some ((a 111), .inl (D.1 13, 1364, .inl (fun j => i2 (gA s 111 j)))) := rfl
set_option maxRecDepth 100000 in
theorem RW_w78 (g : Nat → Int) : (RW D a s).set 78 ((a 111), .inl (D.1 13, 1364, .inl (fun j => i2 (g j)))) = RW D a (sA s 111 g) := rfl
set_option maxRecDepth 100000 in
theorem RW_79 : (RW D a s)[79]? = some ((a 113), .inl (D.1 13, 785, .inl (fun j => i2 (gA s 113 j)))) := rfl
set_option maxRecDepth 100000 in
theorem RW_w79 (g : Nat → Int) : (RW D a s).set 79 ((a 113), .inl (D.1 13, 785, .inl (fun j => i2 (g j)))) = RW D a (sA s 113 g) := rfl
set_option maxRecDepth 100000 in
theorem RW_80 : (RW D a s)[80]? = some ((a 115), .inl (D.1 13, 48, .inl (fun j => i2 (gA s 115 j)))) := rfl
set_option maxRecDepth 100000 in
theorem RW_w80 (g : Nat → Int) : (RW D a s).set 80 ((a 115), .inl (D.1 13, 48, .inl (fun j => i2 (g j)))) = RW D a (sA s 115 g) := rfl
end WR
/-- another State in that place -/
def setB (s t : MS) : MS := (fun k => if 1240 ≤ k ∧ k < 1260 then t.1 k else s.1 k, fun k => if 1240 ≤ k ∧ k < 1260 then t.2.1 k else s.2.1 k, fun k => if 62 ≤ k ∧ k ≤ 70 then t.2.2.1 k else s.2.2.1 k, s.2.2.2)
/-- the class, new -/
def cw0 (fw fb1 fe1 fb2 fe2 : Nat → Int) : MS := (fun k => if k = 101 then (-1) else if k = 983 then 1 else 0, fun _ => 0, fun k => if k = 6 then fw else if k = 35 then fb1 else if k = 36 then fe1 else if k = 45 then fb2 else if k = 46 then fe2 else if k = 60 ∨ k = 61 ∨ k = 69 ∨ k = 70 ∨ k = 78 ∨ k = 79 then fun _ => (-2) else fun _ => 0, fun _ _ => 0)
/-- the reference, new -/
def rw0 : MS := (fun k => if k = 8 then (-1) else 0, fun k => if k = 78 then 1 else 0, fun k => if k = 11 then upZ (upZ (upZ (upZ (upZ (upZ (fun _ => 0) 0 98) 1 108) 2 111) 3 99) 4 107) 5 115 else if k = 12 then upZ (upZ (upZ (upZ (fun _ => 0) 0 114) 1 111) 2 111) 3 109 else if k = 13 then upZ (upZ (upZ (upZ (upZ (upZ (fun _ => 0) 0 118) 1 111) 2 108) 3 117) 4 109) 5 101 else if k = 14 then upZ (upZ (upZ (upZ (upZ (fun _ => 0) 0 99) 1 108) 2 111) 3 110) 4 101 else if k = 15 then upZ (upZ (fun _ => 0) 0 111) 1 102 else if k = 16 then upZ (upZ (upZ (fun _ => 0) 0 112) 1 117) 2 116 else if k = 17 then upZ (upZ (upZ (upZ (upZ (upZ (fun _ => 0) 0 114) 1 101) 2 109) 3 111) 4 118) 5 101 else if k = 18 then upZ (upZ (upZ (upZ (upZ (fun _ => 0) 0 112) 1 105) 2 99) 3 107) 4 115 else if k = 19 then upZ (upZ (upZ (upZ (upZ (upZ (fun _ => 0) 0 115) 1 112) 2 108) 3 105) 4 116) 5 115 else if k = 20 then upZ (upZ (upZ (upZ (upZ (fun _ => 0) 0 99) 1 111) 2 115) 3 116) 4 115 else if k = 21 then upZ (upZ (upZ (upZ (upZ (fun _ => 0) 0 99) 1 104) 2 117) 3 114) 4 110 else if k = 22 then upZ (upZ (upZ (upZ (upZ (fun _ => 0) 0 98) 1 108) 2 111) 3 99) 4 107 else if k = 23 then upZ (upZ (upZ (upZ (fun _ => 0) 0 102) 1 114) 2 111) 3 109 else if k = 24 then upZ (upZ (upZ (upZ (upZ (fun _ => 0) 0 108) 1 101) 2 118) 3 101) 4 108 else if k = 25 then upZ (upZ (upZ (upZ (upZ (upZ (upZ (fun _ => 0) 0 101) 1 110) 2 116) 3 114) 4 105) 5 101) 6 115 else if k = 26 then upZ (upZ (upZ (upZ (upZ (upZ (fun _ => 0) 0 110) 1 117) 2 109) 3 98) 4 101) 5 114 else if k = 27 then upZ (upZ (upZ (upZ (upZ (fun _ => 0) 0 99) 1 111) 2 117) 3 110) 4 116 else if k = 28 then upZ (upZ (upZ (upZ (upZ (fun _ => 0) 0 102) 1 114) 2 101) 3 115) 4 104 else if k = 29 then upZ (upZ (upZ (upZ (upZ (fun _ => 0) 0 115) 1 97) 2 118) 3 101) 4 100 else if k = 30 then upZ (upZ (upZ (upZ (fun _ => 0) 0 114) 1 101) 2 102) 3 115 else if k = 31 then upZ (upZ (upZ (fun _ => 0) 0 107) 1 101) 2 121 else if k = 32 then upZ (upZ (fun _ => 0) 0 111) 1 114 else if k = 33 then upZ (upZ (upZ (fun _ => 0) 0 97) 1 110) 2 100 else if k = 34 then upZ (upZ (upZ (fun _ => 0) 0 110) 1 111) 2 116 else if k = 35 then upZ (upZ (upZ (fun _ => 0) 0 97) 1 108) 2 108 else if k = 36 then upZ (upZ (upZ (fun _ => 0) 0 109) 1 105) 2 110 else if k = 37 then upZ (upZ (upZ (fun _ => 0) 0 109) 1 97) 2 120 else if k = 42 then upZ (upZ (upZ (upZ (upZ (upZ (fun _ => 0) 0 (-1)) 1 (-1)) 2 (-1)) 3 (-1)) 4 (-1)) 5 (-1) else if k = 79 then upZ (upZ (upZ (upZ (upZ (fun _ => 0) 0 102) 1 105) 2 114) 3 115) 4 116 else if k = 80 then upZ (upZ (upZ (upZ (fun _ => 0) 0 108) 1 97) 2 115) 3 116 else if k = 81 then upZ (upZ (upZ (upZ (upZ (fun _ => 0) 0 111) 1 102) 2 116) 3 101) 4 110 else if k = 82 then upZ (upZ (upZ (upZ (upZ (fun _ => 0) 0 116) 1 111) 2 116) 3 97) 4 108 else if k = 83 then upZ (upZ (upZ (upZ (fun _ => 0) 0 109) 1 111) 2 115) 3 116 else if k = 84 then upZ (upZ (upZ (upZ (upZ (fun _ => 0) 0 108) 1 101) 2 97) 3 115) 4 116 else if k = 85 then upZ (upZ (upZ (fun _ => 0) 0 110) 1 111) 2 116 else if k = 86 then upZ (upZ (upZ (fun _ => 0) 0 97) 1 110) 2 100 else if k = 87 then upZ (upZ (fun _ => 0) 0 111) 1 114 else if k = 88 then upZ (upZ (upZ (fun _ => 0) 0 97) 1 108) 2 108 else if k = 89 then upZ (upZ (upZ (fun _ => 0) 0 109) 1 105) 2 110 else if k = 90 then upZ (upZ (upZ (fun _ => 0) 0 109) 1 97) 2 120 else if k = 91 then upZ (upZ (upZ (upZ (upZ (fun _ => 0) 0 108) 1 101) 2 118) 3 101) 4 108 else if k = 92 then upZ (upZ (upZ (upZ (upZ (fun _ => 0) 0 98) 1 108) 2 111) 3 99) 4 107 else if k = 93 then upZ (upZ (upZ (upZ (fun _ => 0) 0 102) 1 114) 2 111) 3 109 else if k = 94 then upZ (upZ (upZ (upZ (upZ (upZ (upZ (fun _ => 0) 0 101) 1 110) 2 116) 3 114) 4 105) 5 101) 6 115 else if k = 95 then upZ (upZ (upZ (upZ (upZ (upZ (fun _ => 0) 0 110) 1 117) 2 109) 3 98) 4 101) 5 114 else if k = 96 then upZ (upZ (upZ (upZ (upZ (fun _ => 0) 0 99) 1 111) 2 117) 3 110) 4 116 else if k = 97 then upZ (upZ (upZ (upZ (upZ (fun _ => 0) 0 102) 1 114) 2 101) 3 115) 4 104 else if k = 98 then upZ (upZ (upZ (upZ (upZ (fun _ => 0) 0 115) 1 97) 2 118) 3 101) 4 100 else if k = 99 then upZ (upZ (upZ (upZ (fun _ => 0) 0 114) 1 101) 2 102) 3 115 else if k = 100 then upZ (upZ (upZ (fun _ => 0) 0 107) 1 101) 2 121 else fun _ => 0, fun _ _ => 0)
def st0 : MS := (fun _ => 0, fun _ => 0, fun k => if k = 69 ∨ k = 70 then fun _ => (-2) else fun _ => 0, fun _ _ => 0)
def m_remember (s : MS) (ts : List MS) : Option (MS × List MS) :=
  rg (gI s 145) (if gI s 145 = 20 then (if ts.length = 20 then some (setB s (ts.headD s), ts.tail ++ [s]) else none)
  else inb 20 (gI s 145) (stn (sI s 145 (gI s 145 + 1)) (fun s1 => if (gI s 145).toNat < ts.length then some (setB s1 (ts.getD (gI s 145).toNat s), ts.set (gI s 145).toNat s1) else if (gI s 145).toNat = ts.length then some (setB s1 st0, ts ++ [s1]) else none)))
def m_x6_fail_J22 (s1 : MS) : Option (Int × MS) :=
  some (0, s1)
def m_x6_fail (p0 : Int) (p1 : Int) (s : MS) : Option (Int × MS) :=
  rg (gI s 100) (if (gI s 100) = 0 then stn (sI s 100 p0) (fun s4 => stn (sI s4 101 p1) (fun s5 => stn (sI s5 107 0) (fun s6 => m_x6_fail_J22 s6))) else m_x6_fail_J22 s)
def m_x6_opens (s : MS) : Option (Int × MS) :=
  rg (gI s 106) (if (gI s 106) < 6 then stn (sI s 106 ((gI s 106) + 1)) (fun s3 => some (1, s3)) else bn (m_x6_fail 4 (gI s 108) s) (fun qr6 => bo qr6.1 (some (qr6.1, qr6.2))))
def m_x6_isLetter_J17 (s : MS) (x1 : Int) : Option Int :=
  bo x1 (some x1)
def m_x6_isLetter_J16 (s : MS) (_u : Unit) : Option Int :=
  m_x6_isLetter_J17 s 0
def m_x6_isLetter (p0 : Int) (s : MS) : Option Int :=
  rg p0 (if p0 < 97 then m_x6_isLetter_J16 s () else rg p0 (if 122 < p0 then m_x6_isLetter_J16 s () else m_x6_isLetter_J17 s 1))
def m_x6_isDigit_J17 (s : MS) (x1 : Int) : Option Int :=
  bo x1 (some x1)
def m_x6_isDigit_J16 (s : MS) (_u : Unit) : Option Int :=
  m_x6_isDigit_J17 s 0
def m_x6_isDigit (p0 : Int) (s : MS) : Option Int :=
  rg p0 (if p0 < 48 then m_x6_isDigit_J16 s () else rg p0 (if 57 < p0 then m_x6_isDigit_J16 s () else m_x6_isDigit_J17 s 1))
def m_x9_at_J22 (s : MS) (x1 : Int) : Option Int :=
  some x1
def m_x9_at_J21 (s : MS) (_u : Unit) : Option Int :=
  m_x9_at_J22 s (-1)
def m_x9_at (p0 : Int) (s : MS) : Option Int :=
  rg p0 (if p0 < 0 then m_x9_at_J21 s () else rg p0 (rg (gI s 61) (if (gI s 61) ≤ p0 then m_x9_at_J21 s () else rdI (gA s 4) 1600 p0 (fun y7 => m_x9_at_J22 s y7))))
def m_x6_wordNumber_J124 (s : MS) (x1 : Int) : Option Int :=
  some x1
def m_x6_wordNumber_J123 (s : MS) (_u : Unit) : Option Int :=
  m_x6_wordNumber_J124 s (-1)
def m_x6_wordNumber_J101 (s : MS) (lr12 : Int → Int → Int → Int → Option Int) (x6 : Int) (x7 : Int) (x8 : Int) (x9 : Int) : Option Int :=
  lr12 x6 x7 x8 (x9 + 1)
def m_x6_wordNumber_J91 (s : MS) (lr12 : Int → Int → Int → Int → Option Int) (x10 : Int) (x11 : Int) : Option Int :=
  m_x6_wordNumber_J101 s lr12 (x10 + 1) (gI s 108) 1 x11
def m_x6_wordNumber_J70 (s : MS) (lr12 : Int → Int → Int → Int → Option Int) (x12 : Int) (x13 : Int) (x14 : Int) (x15 : Int) : Option Int :=
  m_x6_wordNumber_J101 s lr12 x12 (x13 + 1) x15 x14
def m_x6_wordNumber_J69 (s : MS) (lr12 : Int → Int → Int → Int → Option Int) (x16 : Int) (x17 : Int) (x18 : Int) : Option Int :=
  m_x6_wordNumber_J70 s lr12 x16 x17 x18 0
def m_x6_wordNumber_b12 (s : MS) (lr12 : Int → Int → Int → Int → Option Int) (x2 : Int) (x3 : Int) (x4 : Int) (x5 : Int) : Option Int :=
  rg x5 (if 179 ≤ x5 then rg x4 (if x4 = 0 then m_x6_wordNumber_J123 s () else rg x3 (rg (gI s 109) (if x3 = (gI s 109) then m_x6_wordNumber_J124 s x2 else m_x6_wordNumber_J123 s ()))) else rdI (gA s 6) 179 x5 (fun y26 => rg y26 (if y26 = 32 then rg x4 (if x4 = 0 then m_x6_wordNumber_J91 s lr12 x2 x5 else rg x3 (rg (gI s 109) (if x3 = (gI s 109) then some x2 else m_x6_wordNumber_J91 s lr12 x2 x5))) else rg x4 (if x4 = 0 then m_x6_wordNumber_J69 s lr12 x2 x3 x5 else rg x3 (rg (gI s 109) (if (gI s 109) ≤ x3 then m_x6_wordNumber_J69 s lr12 x2 x3 x5 else rdI (gA s 4) 1600 x3 (fun y39 => rdI (gA s 6) 179 x5 (fun y40 => rg y39 (rg y40 (if y39 = y40 then m_x6_wordNumber_J70 s lr12 x2 x3 x5 1 else m_x6_wordNumber_J69 s lr12 x2 x3 x5))))))))))
def m_x6_wordNumber_L12 (s : MS) (n : Nat) : Int → Int → Int → Int → Option Int := lp (fun _ _ _ _ => none) (m_x6_wordNumber_b12 s) n
def m_x6_wordNumber (s : MS) : Option Int :=
  m_x6_wordNumber_L12 s FU 0 (gI s 108) 1 0
def m_x6_isBlank_J17 (s : MS) (x1 : Int) : Option Int :=
  bo x1 (some x1)
def m_x6_isBlank_J12 (s : MS) (_u : Unit) : Option Int :=
  m_x6_isBlank_J17 s 1
def m_x6_isBlank (p0 : Int) (s : MS) : Option Int :=
  rg p0 (if p0 = 10 then m_x6_isBlank_J12 s () else rg p0 (if p0 = 32 then m_x6_isBlank_J12 s () else m_x6_isBlank_J17 s 0))
def m_x6_advance_J300 (s1 : MS) : Option MS :=
  some s1
def m_x6_advance_J295 (s2 : MS) : Option MS :=
  stn (sI s2 107 4) (fun s3 => m_x6_advance_J300 s3)
def m_x6_advance_J281 (x4 : Int) (s5 : MS) : Option MS :=
  bn (m_x6_isLetter x4 s5) (fun r7 => rg r7 (if r7 = 0 then bn (m_x6_isDigit x4 s5) (fun r11 => rg r11 (if r11 = 0 then m_x6_advance_J300 s5 else m_x6_advance_J295 s5)) else m_x6_advance_J295 s5))
def m_x6_advance_J251 (s14 : MS) : Option MS :=
  bn (m_x9_at ((gI s14 108) - 1) s14) (fun r16 => rg (gI s14 107) (if (gI s14 107) = 1 then m_x6_advance_J281 r16 s14 else rg (gI s14 107) (if (gI s14 107) = 2 then m_x6_advance_J281 r16 s14 else m_x6_advance_J300 s14)))
def m_x6_advance_b191 (lr191 : MS → Option MS) (s21 : MS) : Option MS :=
  rg (gI s21 109) (rg (gI s21 61) (if (gI s21 61) ≤ (gI s21 109) then m_x6_advance_J251 s21 else rdI (gA s21 4) 1600 (gI s21 109) (fun y25 => bn (m_x6_isDigit y25 s21) (fun r27 => rg r27 (if r27 = 0 then m_x6_advance_J251 s21 else stn (sI s21 109 ((gI s21 109) + 1)) (fun s30 => lr191 s30))))))
def m_x6_advance_L191 (n : Nat) : MS → Option MS := lp (fun _ => none) (m_x6_advance_b191) n
def m_x6_advance_J165 (s31 : MS) : Option MS :=
  bn (m_x6_wordNumber s31) (fun r33 => stn (sI s31 110 r33) (fun s34 => m_x6_advance_J251 s34))
def m_x6_advance_b120 (lr120 : MS → Option MS) (s35 : MS) : Option MS :=
  rg (gI s35 109) (rg (gI s35 61) (if (gI s35 61) ≤ (gI s35 109) then m_x6_advance_J165 s35 else rdI (gA s35 4) 1600 (gI s35 109) (fun y39 => bn (m_x6_isLetter y39 s35) (fun r41 => rg r41 (if r41 = 0 then m_x6_advance_J165 s35 else stn (sI s35 109 ((gI s35 109) + 1)) (fun s44 => lr120 s44))))))
def m_x6_advance_L120 (n : Nat) : MS → Option MS := lp (fun _ => none) (m_x6_advance_b120) n
def m_x6_advance_J61 (s45 : MS) : Option MS :=
  stn (sI s45 109 (gI s45 108)) (fun s46 => stn (sI s46 110 (-1)) (fun s47 => bn (m_x9_at (gI s47 108) s47) (fun r49 => stn (sI s47 111 r49) (fun s50 => rg (gI s50 111) (if (gI s50 111) = (-1) then stn (sI s50 107 0) (fun s65 => m_x6_advance_J251 s65) else bn (m_x6_isLetter (gI s50 111) s50) (fun r54 => rg r54 (if r54 = 0 then bn (m_x6_isDigit (gI s50 111) s50) (fun r58 => rg r58 (if r58 = 0 then stn (sI s50 107 3) (fun s61 => stn (sI s61 109 ((gI s61 109) + 1)) (fun s62 => m_x6_advance_J251 s62)) else stn (sI s50 107 2) (fun s63 => m_x6_advance_L191 FU s63))) else stn (sI s50 107 1) (fun s64 => m_x6_advance_L120 FU s64))))))))
def m_x6_advance_b16 (lr16 : MS → Option MS) (s66 : MS) : Option MS :=
  rg (gI s66 108) (rg (gI s66 61) (if (gI s66 61) ≤ (gI s66 108) then m_x6_advance_J61 s66 else rdI (gA s66 4) 1600 (gI s66 108) (fun y70 => bn (m_x6_isBlank y70 s66) (fun r72 => rg r72 (if r72 = 0 then m_x6_advance_J61 s66 else stn (sI s66 108 ((gI s66 108) + 1)) (fun s75 => lr16 s75))))))
def m_x6_advance_L16 (n : Nat) : MS → Option MS := lp (fun _ => none) (m_x6_advance_b16) n
def m_x6_advance (s : MS) : Option MS :=
  rg (gI s 100) (if (gI s 100) = 0 then stn (sI s 108 (gI s 109)) (fun s78 => m_x6_advance_L16 FU s78) else some s)
def m_x0_add_J30 (s1 : MS) : Option MS :=
  some s1
def m_x0_add (p0 : Int) (s : MS) : Option MS :=
  rg (gI s 941) (if 1600 ≤ (gI s 941) then m_x0_add_J30 s else inb 1600 (gI s 941) (stn (sA s 48 (upZ (gA s 48) (Int.toNat (gI s 941)) p0)) (fun s5 => stn (sI s5 941 ((gI s5 941) + 1)) (fun s6 => m_x0_add_J30 s6))))
def m_x6_readOther_J33 (rgs : (MS → Option MS) × (MS → Option MS)) (s1 : MS) : Option MS :=
  some s1
def m_x6_readOther (rgs : (MS → Option MS) × (MS → Option MS)) (p0 : Int) (s : MS) : Option MS :=
  bn (m_x6_opens s) (fun qr4 => rg qr4.1 (if qr4.1 = 0 then m_x6_readOther_J33 rgs qr4.2 else bn (m_x6_advance qr4.2) (fun s8 => bn (rgs.2 s8) (fun s10 => eqg (gI s10 9999) 2 (bn (m_x0_add p0 s10) (fun s13 => stn (sI s13 106 ((gI s13 106) - 1)) (fun s14 => m_x6_readOther_J33 rgs s14)))))))
def m_x6_isSign_J21 (s : MS) (x1 : Int) : Option Int :=
  bo x1 (some x1)
def m_x6_isSign_J20 (s : MS) (_u : Unit) : Option Int :=
  m_x6_isSign_J21 s 0
def m_x6_isSign (p0 : Int) (s : MS) : Option Int :=
  rg (gI s 107) (if (gI s 107) = 3 then rg (gI s 111) (rg p0 (if (gI s 111) = p0 then m_x6_isSign_J21 s 1 else m_x6_isSign_J20 s ())) else m_x6_isSign_J20 s ())
def m_x6_expectSign_J25 (s1 : MS) : Option MS :=
  some s1
def m_x6_expectSign (p0 : Int) (s : MS) : Option MS :=
  bn (m_x6_isSign p0 s) (fun r3 => rg r3 (if r3 = 0 then bn (m_x6_fail 1 (gI s 108) s) (fun qr8 => m_x6_expectSign_J25 qr8.2) else bn (m_x6_advance s) (fun s10 => m_x6_expectSign_J25 s10)))
def m_x6_readChoice_J75 (rgs : (MS → Option MS) × (MS → Option MS)) (s1 : MS) : Option MS :=
  some s1
def m_x6_readChoice (rgs : (MS → Option MS) × (MS → Option MS)) (p0 : Int) (s : MS) : Option MS :=
  bn (m_x6_advance s) (fun s3 => bn (m_x6_isSign 40 s3) (fun r5 => rg r5 (if r5 = 0 then bn (m_x6_fail 1 (gI s3 108) s3) (fun qr29 => m_x6_readChoice_J75 rgs qr29.2) else bn (m_x6_opens s3) (fun qr10 => rg qr10.1 (if qr10.1 = 0 then m_x6_readChoice_J75 rgs qr10.2 else bn (m_x6_advance qr10.2) (fun s14 => bn (rgs.1 s14) (fun s16 => bn (m_x6_expectSign 44 s16) (fun s18 => bn (rgs.1 s18) (fun s20 => bn (m_x6_expectSign 41 s20) (fun s22 => stn (sI s22 106 ((gI s22 106) - 1)) (fun s23 => eqg (gI s23 9999) 2 (bn (m_x0_add p0 s23) (fun s26 => m_x6_readChoice_J75 rgs s26)))))))))))))
def m_x6_isFact_J122 (s : MS) (x1 : Int) : Option Int :=
  bo x1 (some x1)
def m_x6_isFact_J109 (s : MS) (_u : Unit) : Option Int :=
  rg (gI s 105) (if (gI s 105) = 3 then m_x6_isFact_J122 s 1 else m_x6_isFact_J122 s 0)
def m_x6_isFact_J108 (s : MS) (x5 : Int) : Option Int :=
  bo x5 (some x5)
def m_x6_isFact_J95 (s : MS) (x7 : Int) : Option Int :=
  bo x7 (some x7)
def m_x6_isFact_J82 (s : MS) (x9 : Int) : Option Int :=
  bo x9 (some x9)
def m_x6_isFact_J77 (s : MS) (_u : Unit) : Option Int :=
  m_x6_isFact_J82 s 1
def m_x6_isFact (s : MS) : Option Int :=
  rg (gI s 107) (if (gI s 107) = 1 then rg (gI s 110) (if (gI s 110) = 11 then rg (gI s 105) (if (gI s 105) = 0 then m_x6_isFact_J77 s () else rg (gI s 105) (if (gI s 105) = 2 then m_x6_isFact_J77 s () else m_x6_isFact_J82 s 0)) else if (gI s 110) = 12 then rg (gI s 105) (if (gI s 105) = 0 then m_x6_isFact_J95 s 1 else m_x6_isFact_J95 s 0) else if (gI s 110) = 13 then some 1 else if (gI s 110) = 14 then rg (gI s 105) (if (gI s 105) = 0 then m_x6_isFact_J108 s 0 else m_x6_isFact_J108 s 1) else if (gI s 110) = 15 then m_x6_isFact_J109 s () else if (gI s 110) = 16 then m_x6_isFact_J109 s () else if (gI s 110) = 17 then m_x6_isFact_J109 s () else if (gI s 110) = 18 then m_x6_isFact_J109 s () else some 0) else some 0)
def m_x6_isWord_J21 (s : MS) (x1 : Int) : Option Int :=
  bo x1 (some x1)
def m_x6_isWord_J20 (s : MS) (_u : Unit) : Option Int :=
  m_x6_isWord_J21 s 0
def m_x6_isWord (p0 : Int) (s : MS) : Option Int :=
  rg (gI s 107) (if (gI s 107) = 1 then rg (gI s 110) (rg p0 (if (gI s 110) = p0 then m_x6_isWord_J21 s 1 else m_x6_isWord_J20 s ())) else m_x6_isWord_J20 s ())
def m_x6_expectNumber_J98 (x1 : Int) (s2 : MS) : Option (Int × MS) :=
  bn (m_x6_fail 2 (gI s2 108) s2) (fun qr5 => some (x1, qr5.2))
def m_x6_expectNumber_b55 (lr55 : Int → Int → Int → Int → MS → Option (Int × MS)) (x6 : Int) (x7 : Int) (x8 : Int) (x9 : Int) (s10 : MS) : Option (Int × MS) :=
  rg x9 (rg (gI s10 109) (if (gI s10 109) ≤ x9 then rg x8 (rg x6 (if x8 < x6 then m_x6_expectNumber_J98 x6 s10 else rg x8 (rg x7 (if x8 ≤ x7 then bn (m_x6_advance s10) (fun s21 => some (x8, s21)) else m_x6_expectNumber_J98 x6 s10)))) else bn (m_x9_at x9 s10) (fun r23 => lr55 x6 x7 (((x8 * 10) + r23) - 48) (x9 + 1) s10)))
def m_x6_expectNumber_L55 (n : Nat) : Int → Int → Int → Int → MS → Option (Int × MS) := lp (fun _ _ _ _ _ => none) (m_x6_expectNumber_b55) n
def m_x6_expectNumber (p0 : Int) (p1 : Int) (s : MS) : Option (Int × MS) :=
  rg (gI s 107) (if (gI s 107) = 2 then rg ((gI s 109) - (gI s 108)) (if ((gI s 109) - (gI s 108)) ≤ 4 then m_x6_expectNumber_L55 FU p0 p1 0 (gI s 108) s else bn (m_x6_fail 1 ((gI s 108) + 4) s) (fun qr30 => some (p0, qr30.2))) else bn (m_x6_fail 1 (gI s 108) s) (fun qr33 => some (p0, qr33.2)))
def m_x6_readPart_J196 (rgs : (MS → Option MS) × (MS → Option MS)) (s1 : MS) : Option MS :=
  some s1
def m_x6_readPart_J158 (rgs : (MS → Option MS) × (MS → Option MS)) (s2 : MS) : Option MS :=
  bn (m_x6_isFact s2) (fun r4 => rg r4 (if r4 = 0 then bn (m_x6_fail 1 (gI s2 108) s2) (fun qr9 => m_x6_readPart_J196 rgs qr9.2) else eqg (gI s2 9999) 2 (bn (m_x0_add ((-100) - (gI s2 110)) s2) (fun s12 => bn (m_x6_advance s12) (fun s14 => m_x6_readPart_J196 rgs s14)))))
def m_x6_readPart_J152 (rgs : (MS → Option MS) × (MS → Option MS)) (x15 : Int) (s16 : MS) : Option MS :=
  bn (m_x6_readOther rgs x15 s16) (fun s18 => m_x6_readPart_J196 rgs s18)
def m_x6_readPart_J135 (rgs : (MS → Option MS) × (MS → Option MS)) (s19 : MS) : Option MS :=
  bn (m_x6_isWord 19 s19) (fun r21 => rg r21 (if r21 = 0 then m_x6_readPart_J152 rgs (-14) s19 else m_x6_readPart_J152 rgs (-13) s19))
def m_x6_readPart_J103 (rgs : (MS → Option MS) × (MS → Option MS)) (x24 : Int) (s25 : MS) : Option MS :=
  bn (m_x6_readChoice rgs x24 s25) (fun s27 => m_x6_readPart_J196 rgs s27)
def m_x6_readPart_J86 (rgs : (MS → Option MS) × (MS → Option MS)) (s28 : MS) : Option MS :=
  bn (m_x6_isWord 25 s28) (fun r30 => rg r30 (if r30 = 0 then m_x6_readPart_J103 rgs (-6) s28 else m_x6_readPart_J103 rgs (-5) s28))
def m_x6_readPart (rgs : (MS → Option MS) × (MS → Option MS)) (s : MS) : Option MS :=
  rg (gI s 107) (if (gI s 107) = 2 then eqg (gI s 9999) 2 (bn (m_x6_expectNumber 0 1000000 s) (fun qr72 => bn (m_x0_add qr72.1 qr72.2) (fun s74 => m_x6_readPart_J196 rgs s74))) else bn (m_x6_isSign 40 s) (fun r36 => rg r36 (if r36 = 0 then bn (m_x6_isWord 25 s) (fun r40 => rg r40 (if r40 = 0 then bn (m_x6_isWord 26 s) (fun r44 => rg r44 (if r44 = 0 then rg (gI s 105) (if (gI s 105) = 3 then bn (m_x6_isWord 19 s) (fun r50 => rg r50 (if r50 = 0 then bn (m_x6_isWord 20 s) (fun r54 => rg r54 (if r54 = 0 then m_x6_readPart_J158 rgs s else m_x6_readPart_J135 rgs s)) else m_x6_readPart_J135 rgs s)) else m_x6_readPart_J158 rgs s) else m_x6_readPart_J86 rgs s)) else m_x6_readPart_J86 rgs s)) else bn (m_x6_opens s) (fun qr59 => rg qr59.1 (if qr59.1 = 0 then m_x6_readPart_J196 rgs qr59.2 else bn (m_x6_advance qr59.2) (fun s63 => bn (rgs.1 s63) (fun s65 => bn (m_x6_expectSign 41 s65) (fun s67 => stn (sI s67 106 ((gI s67 106) - 1)) (fun s68 => m_x6_readPart_J196 rgs s68)))))))))
def m_x6_readProduct_J70 (rgs : (MS → Option MS) × (MS → Option MS)) (s1 : MS) : Option MS :=
  some s1
def m_x6_readProduct_J47 (rgs : (MS → Option MS) × (MS → Option MS)) (lr6 : Int → MS → Option MS) (x4 : Int) (x5 : Int) (s6 : MS) : Option MS :=
  bn (m_x6_advance s6) (fun s8 => bn (m_x6_readPart rgs s8) (fun s10 => eqg (gI s10 9999) 2 (bn (m_x0_add x5 s10) (fun s13 => lr6 (x4 + 1) s13))))
def m_x6_readProduct_J31 (rgs : (MS → Option MS) × (MS → Option MS)) (lr6 : Int → MS → Option MS) (x14 : Int) (s15 : MS) : Option MS :=
  bn (m_x6_isSign 42 s15) (fun r17 => rg r17 (if r17 = 0 then m_x6_readProduct_J47 rgs lr6 x14 (-4) s15 else m_x6_readProduct_J47 rgs lr6 x14 (-3) s15))
def m_x6_readProduct_b6 (rgs : (MS → Option MS) × (MS → Option MS)) (lr6 : Int → MS → Option MS) (x2 : Int) (s3 : MS) : Option MS :=
  rg x2 (if 1600 ≤ x2 then m_x6_readProduct_J70 rgs s3 else bn (m_x6_isSign 42 s3) (fun r23 => rg r23 (if r23 = 0 then bn (m_x6_isSign 47 s3) (fun r27 => rg r27 (if r27 = 0 then m_x6_readProduct_J70 rgs s3 else m_x6_readProduct_J31 rgs lr6 x2 s3)) else m_x6_readProduct_J31 rgs lr6 x2 s3)))
def m_x6_readProduct_L6 (rgs : (MS → Option MS) × (MS → Option MS)) (n : Nat) : Int → MS → Option MS := lp (fun _ _ => none) (m_x6_readProduct_b6 rgs) n
def m_x6_readProduct (rgs : (MS → Option MS) × (MS → Option MS)) (s : MS) : Option MS :=
  bn (m_x6_readPart rgs s) (fun s31 => m_x6_readProduct_L6 rgs FU 0 s31)
def m_x6_readSum_J69 (rgs : (MS → Option MS) × (MS → Option MS)) (s1 : MS) : Option MS :=
  some s1
def m_x6_readSum_J46 (rgs : (MS → Option MS) × (MS → Option MS)) (lr6 : Int → MS → Option MS) (x4 : Int) (x5 : Int) (s6 : MS) : Option MS :=
  bn (m_x6_advance s6) (fun s8 => bn (m_x6_readProduct rgs s8) (fun s10 => eqg (gI s10 9999) 2 (bn (m_x0_add x5 s10) (fun s13 => lr6 (x4 + 1) s13))))
def m_x6_readSum_J31 (rgs : (MS → Option MS) × (MS → Option MS)) (lr6 : Int → MS → Option MS) (x14 : Int) (s15 : MS) : Option MS :=
  bn (m_x6_isSign 43 s15) (fun r17 => rg r17 (if r17 = 0 then m_x6_readSum_J46 rgs lr6 x14 (-2) s15 else m_x6_readSum_J46 rgs lr6 x14 (-1) s15))
def m_x6_readSum_b6 (rgs : (MS → Option MS) × (MS → Option MS)) (lr6 : Int → MS → Option MS) (x2 : Int) (s3 : MS) : Option MS :=
  rg x2 (if 1600 ≤ x2 then m_x6_readSum_J69 rgs s3 else bn (m_x6_isSign 43 s3) (fun r23 => rg r23 (if r23 = 0 then bn (m_x6_isSign 45 s3) (fun r27 => rg r27 (if r27 = 0 then m_x6_readSum_J69 rgs s3 else m_x6_readSum_J31 rgs lr6 x2 s3)) else m_x6_readSum_J31 rgs lr6 x2 s3)))
def m_x6_readSum_L6 (rgs : (MS → Option MS) × (MS → Option MS)) (n : Nat) : Int → MS → Option MS := lp (fun _ _ => none) (m_x6_readSum_b6 rgs) n
def m_x6_readSum (rgs : (MS → Option MS) × (MS → Option MS)) (s : MS) : Option MS :=
  bn (m_x6_readProduct rgs s) (fun s31 => m_x6_readSum_L6 rgs FU 0 s31)
def RG1 : Nat → (MS → Option MS) × (MS → Option MS) := lp (fun _ => none, fun _ => none) (fun rgs => (m_x6_readSum rgs, m_x6_readPart rgs))
def m_x6_readSumC (s : MS) : Option MS := (RG1 8).1 s
def m_x6_comparison_J52 (x1 : Int) (s2 : MS) : Option (Int × MS) :=
  bn (m_x6_advance s2) (fun s4 => some (x1, s4))
def m_x6_comparison (s : MS) : Option (Int × MS) :=
  bn (m_x6_isSign 60 s) (fun r6 => rg r6 (if r6 = 0 then bn (m_x6_isSign 62 s) (fun r10 => rg r10 (if r10 = 0 then bn (m_x6_isSign 61 s) (fun r14 => rg r14 (if r14 = 0 then bn (m_x6_fail 1 (gI s 108) s) (fun qr19 => m_x6_comparison_J52 (-9) qr19.2) else m_x6_comparison_J52 (-9) s)) else m_x6_comparison_J52 (-8) s)) else m_x6_comparison_J52 (-7) s))
def m_x6_readFact_J134 (rgs : (MS → Option MS) × (MS → Option MS)) (s1 : MS) : Option MS :=
  some s1
def m_x6_readFact (rgs : (MS → Option MS) × (MS → Option MS)) (s : MS) : Option MS :=
  bn (m_x6_isWord 23 s) (fun r3 => rg r3 (if r3 = 0 then bn (m_x6_isSign 91 s) (fun r7 => rg r7 (if r7 = 0 then bn (m_x6_isWord 24 s) (fun r11 => rg r11 (if r11 = 0 then bn (m_x6_readSumC s) (fun s15 => bn (m_x6_comparison s15) (fun qr18 => bn (m_x6_readSumC qr18.2) (fun s20 => eqg (gI s20 9999) 2 (bn (m_x0_add qr18.1 s20) (fun s23 => m_x6_readFact_J134 rgs s23))))) else eqg (gI s 9999) 2 (bn (m_x0_add 1 s) (fun s26 => bn (m_x6_advance s26) (fun s28 => m_x6_readFact_J134 rgs s28))))) else bn (m_x6_opens s) (fun qr31 => rg qr31.1 (if qr31.1 = 0 then m_x6_readFact_J134 rgs qr31.2 else bn (m_x6_advance qr31.2) (fun s35 => bn (rgs.2 s35) (fun s37 => bn (m_x6_expectSign 93 s37) (fun s39 => stn (sI s39 106 ((gI s39 106) - 1)) (fun s40 => m_x6_readFact_J134 rgs s40)))))))) else bn (m_x6_opens s) (fun qr43 => rg qr43.1 (if qr43.1 = 0 then m_x6_readFact_J134 rgs qr43.2 else bn (m_x6_advance qr43.2) (fun s47 => bn (rgs.1 s47) (fun s49 => eqg (gI s49 9999) 2 (bn (m_x0_add (-12) s49) (fun s52 => stn (sI s52 106 ((gI s52 106) - 1)) (fun s53 => m_x6_readFact_J134 rgs s53)))))))))
def m_x6_readBoth_J45 (rgs : (MS → Option MS) × (MS → Option MS)) (s1 : MS) : Option MS :=
  some s1
def m_x6_readBoth_b6 (rgs : (MS → Option MS) × (MS → Option MS)) (lr6 : Int → MS → Option MS) (x2 : Int) (s3 : MS) : Option MS :=
  rg x2 (if 1600 ≤ x2 then m_x6_readBoth_J45 rgs s3 else bn (m_x6_isWord 22 s3) (fun r7 => rg r7 (if r7 = 0 then m_x6_readBoth_J45 rgs s3 else bn (m_x6_advance s3) (fun s11 => bn (m_x6_readFact rgs s11) (fun s13 => eqg (gI s13 9999) 2 (bn (m_x0_add (-10) s13) (fun s16 => lr6 (x2 + 1) s16)))))))
def m_x6_readBoth_L6 (rgs : (MS → Option MS) × (MS → Option MS)) (n : Nat) : Int → MS → Option MS := lp (fun _ _ => none) (m_x6_readBoth_b6 rgs) n
def m_x6_readBoth (rgs : (MS → Option MS) × (MS → Option MS)) (s : MS) : Option MS :=
  bn (m_x6_readFact rgs s) (fun s18 => m_x6_readBoth_L6 rgs FU 0 s18)
def m_x6_readTest_J45 (rgs : (MS → Option MS) × (MS → Option MS)) (s1 : MS) : Option MS :=
  some s1
def m_x6_readTest_b6 (rgs : (MS → Option MS) × (MS → Option MS)) (lr6 : Int → MS → Option MS) (x2 : Int) (s3 : MS) : Option MS :=
  rg x2 (if 1600 ≤ x2 then m_x6_readTest_J45 rgs s3 else bn (m_x6_isWord 21 s3) (fun r7 => rg r7 (if r7 = 0 then m_x6_readTest_J45 rgs s3 else bn (m_x6_advance s3) (fun s11 => bn (m_x6_readBoth rgs s11) (fun s13 => eqg (gI s13 9999) 2 (bn (m_x0_add (-11) s13) (fun s16 => lr6 (x2 + 1) s16)))))))
def m_x6_readTest_L6 (rgs : (MS → Option MS) × (MS → Option MS)) (n : Nat) : Int → MS → Option MS := lp (fun _ _ => none) (m_x6_readTest_b6 rgs) n
def m_x6_readTest (rgs : (MS → Option MS) × (MS → Option MS)) (s : MS) : Option MS :=
  bn (m_x6_readBoth rgs s) (fun s18 => m_x6_readTest_L6 rgs FU 0 s18)
def RG2 : Nat → (MS → Option MS) × (MS → Option MS) := lp (fun _ => none, fun _ => none) (fun rgs => (m_x6_readFact rgs, m_x6_readTest rgs))
def m_x6_readTestC (s : MS) : Option MS := (RG2 8).2 s
def m_x9_hasRoom_J18 (s : MS) (x1 : Int) : Option Int :=
  bo x1 (some x1)
def m_x9_hasRoom (s : MS) : Option Int :=
  rg ((gI s 61) + 20) (if 1600 < ((gI s 61) + 20) then m_x9_hasRoom_J18 s 0 else m_x9_hasRoom_J18 s 1)
def m_x9_append_J49 (s1 : MS) : Option MS :=
  some s1
def m_x9_append_b3 (lr3 : Int → Int → MS → Option MS) (x2 : Int) (x3 : Int) (s4 : MS) : Option MS :=
  rg x3 (if x3 < 0 then m_x9_append_J49 s4 else rg (gI s4 61) (if 1600 ≤ (gI s4 61) then m_x9_append_J49 s4 else inb 1600 (gI s4 61) (stn (sA s4 4 (upZ (gA s4 4) (Int.toNat (gI s4 61)) (andZ (ushrZ x2 x3) 255))) (fun s10 => stn (sI s10 61 ((gI s10 61) + 1)) (fun s11 => lr3 x2 (x3 + (-8)) s11)))))
def m_x9_append_L3 (n : Nat) : Int → Int → MS → Option MS := lp (fun _ _ _ => none) (m_x9_append_b3) n
def m_x9_append (p0 : Int) (s : MS) : Option MS :=
  m_x9_append_L3 FU p0 24 s
def m_x11_refuse (p0 : Int) (s : MS) : Option (Int × MS) :=
  rdI (gA s 2) 6 p0 (fun y1 => inb 6 p0 (stn (sA s 2 (upZ (gA s 2) (Int.toNat p0) (y1 + 1))) (fun s3 => some ((-1), s3))))
def m_x11_feed (p0 : Int) (p1 : Int) (p2 : Int) (p3 : Int) (p4 : Int) (s : MS) : Option (Int × MS) :=
  bn (m_x9_hasRoom s) (fun r2 => rg r2 (if r2 = 0 then bn (m_x11_refuse 0 s) (fun qr17 => some (qr17.1, qr17.2)) else bn (m_x9_append p0 s) (fun s6 => bn (m_x9_append p1 s6) (fun s8 => bn (m_x9_append p2 s8) (fun s10 => bn (m_x9_append p3 s10) (fun s12 => bn (m_x9_append p4 s12) (fun s14 => some (gI s14 61, s14))))))))
def m_x11_end_J15 (s1 : MS) : Option (Int × MS) :=
  bn (m_x11_refuse 0 s1) (fun qr4 => some (0, qr4.2))
def m_x11_end (p0 : Int) (s : MS) : Option (Int × MS) :=
  rg p0 (if p0 < 0 then m_x11_end_J15 s else rg p0 (rg (gI s 61) (if p0 ≤ (gI s 61) then stn (sI s 61 p0) (fun s10 => some (1, s10)) else m_x11_end_J15 s)))
def m_x11_fault_J38 (s : MS) (x1 : Int) : Option Int :=
  some x1
def m_x11_fault_J37 (s : MS) (_u : Unit) : Option Int :=
  m_x11_fault_J38 s (-1)
def m_x11_fault (p0 : Int) (s : MS) : Option Int :=
  rg p0 (if p0 = 0 then some (gI s 100) else rg p0 (if p0 = 1 then rg (gI s 100) (if (gI s 100) = 0 then m_x11_fault_J37 s () else m_x11_fault_J38 s (gI s 101)) else m_x11_fault_J37 s ()))
def m_x8_isVolume_J26 (s : MS) (x1 : Int) : Option Int :=
  bo x1 (some x1)
def m_x8_isVolume_J25 (s : MS) (_u : Unit) : Option Int :=
  m_x8_isVolume_J26 s 0
def m_x8_isVolume (p0 : Int) (s : MS) : Option Int :=
  rg p0 (if p0 < 0 then m_x8_isVolume_J25 s () else rg p0 (if 8 ≤ p0 then m_x8_isVolume_J25 s () else rdI (gA s 60) 8 p0 (fun y7 => rg y7 (if y7 = (-2) then m_x8_isVolume_J25 s () else m_x8_isVolume_J26 s 1))))
def m_x8_volumes_J24 (s : MS) (lr4 : Int → Int → Option Int) (x3 : Int) (x4 : Int) (x5 : Int) : Option Int :=
  lr4 (x5 + x4) (x3 + 1)
def m_x8_volumes_b4 (s : MS) (lr4 : Int → Int → Option Int) (x1 : Int) (x2 : Int) : Option Int :=
  rg x2 (if 8 ≤ x2 then some x1 else bn (m_x8_isVolume x2 s) (fun r9 => rg r9 (if r9 = 0 then m_x8_volumes_J24 s lr4 x2 0 x1 else m_x8_volumes_J24 s lr4 x2 1 x1)))
def m_x8_volumes_L4 (s : MS) (n : Nat) : Int → Int → Option Int := lp (fun _ _ => none) (m_x8_volumes_b4 s) n
def m_x8_volumes (s : MS) : Option Int :=
  m_x8_volumes_L4 s FU 0 0
def m_x8_used_J27 (s : MS) (lr4 : Int → Int → Option Int) (x3 : Int) (x4 : Int) (x5 : Int) : Option Int :=
  lr4 (x5 + x4) (x3 + 1)
def m_x8_used_b4 (s : MS) (lr4 : Int → Int → Option Int) (x1 : Int) (x2 : Int) : Option Int :=
  rg x2 (rg (gI s 1060) (if (gI s 1060) ≤ x2 then some x1 else rdI (gA s 54) 48 x2 (fun y9 => rg y9 (if y9 ≤ 0 then m_x8_used_J27 s lr4 x2 0 x1 else m_x8_used_J27 s lr4 x2 1 x1))))
def m_x8_used_L4 (s : MS) (n : Nat) : Int → Int → Option Int := lp (fun _ _ => none) (m_x8_used_b4 s) n
def m_x8_used (s : MS) : Option Int :=
  m_x8_used_L4 s FU 0 0
def m_x8_isBlock_J17 (s : MS) (x1 : Int) : Option Int :=
  bo x1 (some x1)
def m_x8_isBlock_J16 (s : MS) (_u : Unit) : Option Int :=
  m_x8_isBlock_J17 s 0
def m_x8_isBlock (p0 : Int) (s : MS) : Option Int :=
  rg p0 (if p0 < 0 then m_x8_isBlock_J16 s () else rg p0 (rg (gI s 1060) (if (gI s 1060) ≤ p0 then m_x8_isBlock_J16 s () else m_x8_isBlock_J17 s 1)))
def m_x8_isHeld_J31 (s : MS) (x1 : Int) : Option Int :=
  bo x1 (some x1)
def m_x8_isHeld_J30 (s : MS) (_u : Unit) : Option Int :=
  m_x8_isHeld_J31 s 0
def m_x8_isHeld (p0 : Int) (s : MS) : Option Int :=
  bn (m_x8_isBlock p0 s) (fun r4 => rg r4 (if r4 = 0 then m_x8_isHeld_J30 s () else rdI (gA s 54) 48 p0 (fun y7 => rg y7 (if y7 = 0 then rdI (gA s 55) 48 p0 (fun y10 => rg y10 (if y10 ≤ 0 then m_x8_isHeld_J30 s () else m_x8_isHeld_J31 s 1)) else m_x8_isHeld_J30 s ()))))
def m_x8_held_J26 (s : MS) (lr4 : Int → Int → Option Int) (x3 : Int) (x4 : Int) (x5 : Int) : Option Int :=
  lr4 (x5 + x4) (x3 + 1)
def m_x8_held_b4 (s : MS) (lr4 : Int → Int → Option Int) (x1 : Int) (x2 : Int) : Option Int :=
  rg x2 (rg (gI s 1060) (if (gI s 1060) ≤ x2 then some x1 else bn (m_x8_isHeld x2 s) (fun r10 => rg r10 (if r10 = 0 then m_x8_held_J26 s lr4 x2 0 x1 else m_x8_held_J26 s lr4 x2 1 x1))))
def m_x8_held_L4 (s : MS) (n : Nat) : Int → Int → Option Int := lp (fun _ _ => none) (m_x8_held_b4 s) n
def m_x8_held (s : MS) : Option Int :=
  m_x8_held_L4 s FU 0 0
def m_x2_toldRows (s : MS) : Option Int :=
  rg (gI s 143) (some (minZ (gI s 143) 40))
def m_x11_has_J146 (s : MS) (x1 : Int) : Option Int :=
  some x1
def m_x11_has (p0 : Int) (s : MS) : Option Int :=
  rg p0 (if p0 = 0 then some (gI s 1060) else if p0 = 1 then bn (m_x8_volumes s) (fun r6 => some r6) else if p0 = 2 then bn (m_x8_used s) (fun r9 => some r9) else if p0 = 3 then bn (m_x8_held s) (fun r12 => some r12) else if p0 = 4 then bn (m_x8_used s) (fun r15 => bn (m_x8_held s) (fun r17 => some (((gI s 1060) - r15) - r17))) else if p0 = 5 then some (gI s 1061) else if p0 = 6 then bn (m_x2_toldRows s) (fun r21 => some r21) else if p0 = 7 then some (gI s 220) else if p0 = 8 then some (gI s 145) else if p0 = 9 then rg (gI s 12) (if (gI s 12) = 0 then m_x11_has_J146 s 0 else m_x11_has_J146 s (gI s 581)) else some (-1))
def m_x11_letter_J32 (s : MS) (_u : Unit) : Option Int :=
  some (-1)
def m_x11_letter (p0 : Int) (p1 : Int) (s : MS) : Option Int :=
  rg (gI s 12) (if (gI s 12) = 0 then m_x11_letter_J32 s () else rg p0 (if p0 < 0 then m_x11_letter_J32 s () else rg p0 (rg (gI s 584) (if (gI s 584) ≤ p0 then m_x11_letter_J32 s () else rg p1 (if p1 < 0 then m_x11_letter_J32 s () else rg p1 (if p1 < 6 then rdI (gA s 30) 48 ((p0 * 6) + p1) (fun y12 => some y12) else m_x11_letter_J32 s ()))))))
def m_x8_slot (p0 : Int) (p1 : Int) (s : MS) : Option Int :=
  some ((p0 * 6) + p1)
def m_x10_tree_J161 (z1 : Int) (s2 : MS) : Option (Int × MS) :=
  some (z1, s2)
def m_x10_tree_J155 (lr30 : Int → Int → MS → Option (Int × MS)) (z6 : Int) (x7 : Int) (s8 : MS) : Option (Int × MS) :=
  lr30 z6 (x7 + 1) s8
def m_x10_tree_b82 (lr30 : Int → Int → MS → Option (Int × MS)) (lr82 : Int → Int → Int → Int → MS → Option (Int × MS)) (z9 : Int) (x10 : Int) (x11 : Int) (x12 : Int) (s13 : MS) : Option (Int × MS) :=
  rg x12 (rg x11 (if x11 ≤ x12 then m_x10_tree_J155 lr30 z9 x10 s13 else rg (gI s13 421) (if 48 ≤ (gI s13 421) then m_x10_tree_J155 lr30 z9 x10 s13 else rdI (gA s13 22) 48 x10 (fun y19 => bn (m_x8_slot y19 x12 s13) (fun r21 => rdI (gA s13 59) 288 r21 (fun y22 => inb 48 (gI s13 421) (stn (sA s13 22 (upZ (gA s13 22) (Int.toNat (gI s13 421)) y22)) (fun s24 => rdI (gA s24 22) 48 (gI s24 421) (fun y25 => stn (sI s24 421 ((gI s24 421) + 1)) (fun s26 => lr82 (orL z9 (shlLZ 1 y25)) x10 x11 (x12 + 1) s26))))))))))
def m_x10_tree_L82 (lr30 : Int → Int → MS → Option (Int × MS)) (n : Nat) : Int → Int → Int → Int → MS → Option (Int × MS) := lp (fun _ _ _ _ _ => none) (m_x10_tree_b82 lr30) n
def m_x10_tree_J77 (lr30 : Int → Int → MS → Option (Int × MS)) (z27 : Int) (x28 : Int) (x29 : Int) (s30 : MS) : Option (Int × MS) :=
  m_x10_tree_L82 lr30 FU z27 x28 x29 0 s30
def m_x10_tree_b30 (lr30 : Int → Int → MS → Option (Int × MS)) (z3 : Int) (x4 : Int) (s5 : MS) : Option (Int × MS) :=
  rg x4 (rg (gI s5 421) (if (gI s5 421) ≤ x4 then m_x10_tree_J161 z3 s5 else rg x4 (if 48 ≤ x4 then m_x10_tree_J161 z3 s5 else rdI (gA s5 22) 48 x4 (fun y36 => rdI (gA s5 56) 48 y36 (fun y37 => rg y37 (if y37 ≤ 0 then m_x10_tree_J77 lr30 z3 x4 0 s5 else rdI (gA s5 22) 48 x4 (fun y40 => rdI (gA s5 57) 48 y40 (fun y41 => m_x10_tree_J77 lr30 z3 x4 y41 s5))))))))
def m_x10_tree_L30 (n : Nat) : Int → Int → MS → Option (Int × MS) := lp (fun _ _ _ => none) (m_x10_tree_b30) n
def m_x10_tree (p1 : Int) (s : MS) : Option (Int × MS) :=
  stn (sI s 421 0) (fun s42 => rg p1 (if 0 ≤ p1 then inb 48 0 (stn (sA s42 22 (upZ (gA s42 22) (Int.toNat 0) p1)) (fun s46 => stn (sI s46 421 1) (fun s47 => m_x10_tree_L30 FU (shlLZ 1 p1) 0 s47))) else some (0, s42)))
def m_x10_gather_J128 (lr12 : Int → Int → MS → Option (Int × MS)) (x4 : Int) (x5 : Int) (s6 : MS) : Option (Int × MS) :=
  lr12 x4 (x5 + 1) s6
def m_x10_gather_b57 (lr12 : Int → Int → MS → Option (Int × MS)) (lr57 : Int → Int → Int → Int → MS → Option (Int × MS)) (x7 : Int) (x8 : Int) (x9 : Int) (x10 : Int) (s11 : MS) : Option (Int × MS) :=
  rg x10 (rg x9 (if x9 ≤ x10 then m_x10_gather_J128 lr12 x7 x8 s11 else rg x7 (if 288 ≤ x7 then m_x10_gather_J128 lr12 x7 x8 s11 else rdI (gA s11 22) 48 x8 (fun y17 => bn (m_x8_slot y17 x10 s11) (fun r19 => rdI (gA s11 58) 288 r19 (fun y20 => inb 288 x7 (stn (sA s11 23 (upZ (gA s11 23) (Int.toNat x7) y20)) (fun s22 => rdI (gA s22 22) 48 x8 (fun y23 => bn (m_x8_slot y23 x10 s22) (fun r25 => rdI (gA s22 59) 288 r25 (fun y26 => inb 288 x7 (stn (sA s22 24 (upZ (gA s22 24) (Int.toNat x7) y26)) (fun s28 => lr57 (x7 + 1) x8 x9 (x10 + 1) s28)))))))))))))
def m_x10_gather_L57 (lr12 : Int → Int → MS → Option (Int × MS)) (n : Nat) : Int → Int → Int → Int → MS → Option (Int × MS) := lp (fun _ _ _ _ _ => none) (m_x10_gather_b57 lr12) n
def m_x10_gather_J52 (lr12 : Int → Int → MS → Option (Int × MS)) (x29 : Int) (x30 : Int) (x31 : Int) (s32 : MS) : Option (Int × MS) :=
  m_x10_gather_L57 lr12 FU x29 x30 x31 0 s32
def m_x10_gather_b12 (lr12 : Int → Int → MS → Option (Int × MS)) (x1 : Int) (x2 : Int) (s3 : MS) : Option (Int × MS) :=
  rg x2 (rg (gI s3 421) (if (gI s3 421) ≤ x2 then some (x1, s3) else rdI (gA s3 22) 48 x2 (fun y36 => rdI (gA s3 56) 48 y36 (fun y37 => rg y37 (if y37 = 0 then rdI (gA s3 22) 48 x2 (fun y40 => rdI (gA s3 57) 48 y40 (fun y41 => m_x10_gather_J52 lr12 x1 x2 y41 s3)) else m_x10_gather_J52 lr12 x1 x2 0 s3)))))
def m_x10_gather_L12 (n : Nat) : Int → Int → MS → Option (Int × MS) := lp (fun _ _ _ => none) (m_x10_gather_b12) n
def m_x10_gather (p1 : Int) (s : MS) : Option (Int × MS) :=
  bn (m_x10_tree p1 s) (fun qrl44 => m_x10_gather_L12 FU 0 0 qrl44.2)
def m_j13_bitCount_95d88 (p0 : Int) (s : MS) : Option Int :=
  some (andZ ((((andL (((andL (p0 - (andL (ushrLZ p0 1) 6148914691236517205)) 3689348814741910323) + (andL (ushrLZ (p0 - (andL (ushrLZ p0 1) 6148914691236517205)) 2) 3689348814741910323)) + (ushrLZ ((andL (p0 - (andL (ushrLZ p0 1) 6148914691236517205)) 3689348814741910323) + (andL (ushrLZ (p0 - (andL (ushrLZ p0 1) 6148914691236517205)) 2) 3689348814741910323)) 4)) 1085102592571150095) + (ushrLZ (andL (((andL (p0 - (andL (ushrLZ p0 1) 6148914691236517205)) 3689348814741910323) + (andL (ushrLZ (p0 - (andL (ushrLZ p0 1) 6148914691236517205)) 2) 3689348814741910323)) + (ushrLZ ((andL (p0 - (andL (ushrLZ p0 1) 6148914691236517205)) 3689348814741910323) + (andL (ushrLZ (p0 - (andL (ushrLZ p0 1) 6148914691236517205)) 2) 3689348814741910323)) 4)) 1085102592571150095) 8)) + (ushrLZ ((andL (((andL (p0 - (andL (ushrLZ p0 1) 6148914691236517205)) 3689348814741910323) + (andL (ushrLZ (p0 - (andL (ushrLZ p0 1) 6148914691236517205)) 2) 3689348814741910323)) + (ushrLZ ((andL (p0 - (andL (ushrLZ p0 1) 6148914691236517205)) 3689348814741910323) + (andL (ushrLZ (p0 - (andL (ushrLZ p0 1) 6148914691236517205)) 2) 3689348814741910323)) 4)) 1085102592571150095) + (ushrLZ (andL (((andL (p0 - (andL (ushrLZ p0 1) 6148914691236517205)) 3689348814741910323) + (andL (ushrLZ (p0 - (andL (ushrLZ p0 1) 6148914691236517205)) 2) 3689348814741910323)) + (ushrLZ ((andL (p0 - (andL (ushrLZ p0 1) 6148914691236517205)) 3689348814741910323) + (andL (ushrLZ (p0 - (andL (ushrLZ p0 1) 6148914691236517205)) 2) 3689348814741910323)) 4)) 1085102592571150095) 8)) 16)) + (ushrLZ (((andL (((andL (p0 - (andL (ushrLZ p0 1) 6148914691236517205)) 3689348814741910323) + (andL (ushrLZ (p0 - (andL (ushrLZ p0 1) 6148914691236517205)) 2) 3689348814741910323)) + (ushrLZ ((andL (p0 - (andL (ushrLZ p0 1) 6148914691236517205)) 3689348814741910323) + (andL (ushrLZ (p0 - (andL (ushrLZ p0 1) 6148914691236517205)) 2) 3689348814741910323)) 4)) 1085102592571150095) + (ushrLZ (andL (((andL (p0 - (andL (ushrLZ p0 1) 6148914691236517205)) 3689348814741910323) + (andL (ushrLZ (p0 - (andL (ushrLZ p0 1) 6148914691236517205)) 2) 3689348814741910323)) + (ushrLZ ((andL (p0 - (andL (ushrLZ p0 1) 6148914691236517205)) 3689348814741910323) + (andL (ushrLZ (p0 - (andL (ushrLZ p0 1) 6148914691236517205)) 2) 3689348814741910323)) 4)) 1085102592571150095) 8)) + (ushrLZ ((andL (((andL (p0 - (andL (ushrLZ p0 1) 6148914691236517205)) 3689348814741910323) + (andL (ushrLZ (p0 - (andL (ushrLZ p0 1) 6148914691236517205)) 2) 3689348814741910323)) + (ushrLZ ((andL (p0 - (andL (ushrLZ p0 1) 6148914691236517205)) 3689348814741910323) + (andL (ushrLZ (p0 - (andL (ushrLZ p0 1) 6148914691236517205)) 2) 3689348814741910323)) 4)) 1085102592571150095) + (ushrLZ (andL (((andL (p0 - (andL (ushrLZ p0 1) 6148914691236517205)) 3689348814741910323) + (andL (ushrLZ (p0 - (andL (ushrLZ p0 1) 6148914691236517205)) 2) 3689348814741910323)) + (ushrLZ ((andL (p0 - (andL (ushrLZ p0 1) 6148914691236517205)) 3689348814741910323) + (andL (ushrLZ (p0 - (andL (ushrLZ p0 1) 6148914691236517205)) 2) 3689348814741910323)) 4)) 1085102592571150095) 8)) 16)) 32)) 127)
def m_x1_release_J160 (x1 : Int) (s2 : MS) : Option (Int × MS) :=
  some (x1, s2)
def m_x1_release_J148 (lr28 : Int → Int → MS → Option (Int × MS)) (lr83 : Int → Int → Int → Int → MS → Option (Int × MS)) (x11 : Int) (x12 : Int) (x13 : Int) (x14 : Int) (s15 : MS) : Option (Int × MS) :=
  lr83 x11 x12 x13 (x14 + 1) s15
def m_x1_release_b83 (lr28 : Int → Int → MS → Option (Int × MS)) (lr83 : Int → Int → Int → Int → MS → Option (Int × MS)) (x6 : Int) (x7 : Int) (x8 : Int) (x9 : Int) (s10 : MS) : Option (Int × MS) :=
  rg x9 (rg x8 (if x8 ≤ x9 then lr28 x6 (x7 + 1) s10 else rdI (gA s10 50) 48 x7 (fun y19 => bn (m_x8_slot y19 x9 s10) (fun r21 => rdI (gA s10 59) 288 r21 (fun y22 => rdI (gA s10 52) 48 y22 (fun y23 => inb 48 y22 (stn (sA s10 52 (upZ (gA s10 52) (Int.toNat y22) (y23 - 1))) (fun s25 => rdI (gA s25 52) 48 y22 (fun y26 => rg y26 (if y26 = 0 then rg x6 (if 48 ≤ x6 then m_x1_release_J148 lr28 lr83 x6 x7 x8 x9 s25 else inb 48 x6 (stn (sA s25 50 (upZ (gA s25 50) (Int.toNat x6) y22)) (fun s32 => m_x1_release_J148 lr28 lr83 (x6 + 1) x7 x8 x9 s32))) else m_x1_release_J148 lr28 lr83 x6 x7 x8 x9 s25))))))))))
def m_x1_release_L83 (lr28 : Int → Int → MS → Option (Int × MS)) (n : Nat) : Int → Int → Int → Int → MS → Option (Int × MS) := lp (fun _ _ _ _ _ => none) (m_x1_release_b83 lr28) n
def m_x1_release_J78 (lr28 : Int → Int → MS → Option (Int × MS)) (x33 : Int) (x34 : Int) (x35 : Int) (s36 : MS) : Option (Int × MS) :=
  m_x1_release_L83 lr28 FU x33 x34 x35 0 s36
def m_x1_release_b28 (lr28 : Int → Int → MS → Option (Int × MS)) (x3 : Int) (x4 : Int) (s5 : MS) : Option (Int × MS) :=
  rg x4 (rg x3 (if x3 ≤ x4 then m_x1_release_J160 x3 s5 else rg x4 (if 48 ≤ x4 then m_x1_release_J160 x3 s5 else rdI (gA s5 50) 48 x4 (fun y42 => rdI (gA s5 56) 48 y42 (fun y43 => rg y43 (if y43 ≤ 0 then m_x1_release_J78 lr28 x3 x4 0 s5 else rdI (gA s5 50) 48 x4 (fun y46 => rdI (gA s5 57) 48 y46 (fun y47 => m_x1_release_J78 lr28 x3 x4 y47 s5))))))))
def m_x1_release_L28 (n : Nat) : Int → Int → MS → Option (Int × MS) := lp (fun _ _ _ => none) (m_x1_release_b28) n
def m_x1_release_J25 (x48 : Int) (s49 : MS) : Option (Int × MS) :=
  m_x1_release_L28 FU x48 0 s49
def m_x1_release (p0 : Int) (s : MS) : Option (Int × MS) :=
  rdI (gA s 52) 48 p0 (fun y50 => inb 48 p0 (stn (sA s 52 (upZ (gA s 52) (Int.toNat p0) (y50 - 1))) (fun s52 => rdI (gA s52 52) 48 p0 (fun y53 => rg y53 (if y53 = 0 then inb 48 0 (stn (sA s52 50 (upZ (gA s52 50) (Int.toNat 0) p0)) (fun s57 => m_x1_release_J25 1 s57)) else m_x1_release_J25 0 s52)))))
def m_x1_freedWith (p0 : Int) (s : MS) : Option (Int × MS) :=
  rg p0 (if p0 = (-1) then some (0, s) else cpg 0 0 48 48 48 (stn (sA s 52 (va_cpy (gA s 54) (gA s 52) (Int.toNat 0) (Int.toNat 0) (Int.toNat 48))) (fun s4 => bn (m_x1_release p0 s4) (fun qr7 => some (qr7.1, qr7.2)))))
def m_x11_volume_J93 (x1 : Int) (s2 : MS) : Option (Int × MS) :=
  some (x1, s2)
def m_x11_volume (p0 : Int) (p1 : Int) (s : MS) : Option (Int × MS) :=
  bn (m_x8_isVolume p0 s) (fun r4 => rg r4 (if r4 = 0 then some ((-1), s) else rdI (gA s 60) 8 p0 (fun y7 => rg p1 (if p1 = 0 then some (y7, s) else if p1 = 1 then bn (m_x10_gather y7 s) (fun qr13 => some (qr13.1, qr13.2)) else if p1 = 2 then rg y7 (if y7 = (-1) then m_x11_volume_J93 0 s else rdI (gA s 56) 48 y7 (fun y17 => m_x11_volume_J93 (y17 + 1) s)) else if p1 = 3 then bn (m_x10_tree y7 s) (fun qrl21 => bn (m_j13_bitCount_95d88 qrl21.1 qrl21.2) (fun r23 => some (r23, qrl21.2))) else if p1 = 4 then bn (m_x1_freedWith y7 s) (fun qr27 => some (qr27.1, qr27.2)) else some ((-1), s)))))
def m_x8_inUse_J22 (s : MS) (x1 : Int) : Option Int :=
  bo x1 (some x1)
def m_x8_inUse_J21 (s : MS) (_u : Unit) : Option Int :=
  m_x8_inUse_J22 s 0
def m_x8_inUse (p0 : Int) (s : MS) : Option Int :=
  bn (m_x8_isBlock p0 s) (fun r4 => rg r4 (if r4 = 0 then m_x8_inUse_J21 s () else rdI (gA s 54) 48 p0 (fun y7 => rg y7 (if y7 ≤ 0 then m_x8_inUse_J21 s () else m_x8_inUse_J22 s 1))))
def m_x8_levelOf_J26 (s : MS) (x1 : Int) : Option Int :=
  some x1
def m_x8_levelOf_J16 (s : MS) (x2 : Int) : Option Int :=
  rdI (gA s 56) 48 x2 (fun y3 => m_x8_levelOf_J26 s y3)
def m_x8_levelOf (p0 : Int) (s : MS) : Option Int :=
  bn (m_x8_inUse p0 s) (fun r5 => rg r5 (if r5 = 0 then bn (m_x8_isHeld p0 s) (fun r9 => rg r9 (if r9 = 0 then m_x8_levelOf_J26 s 0 else m_x8_levelOf_J16 s p0)) else m_x8_levelOf_J16 s p0))
def m_x8_sizeOf_J26 (s : MS) (x1 : Int) : Option Int :=
  some x1
def m_x8_sizeOf_J16 (s : MS) (x2 : Int) : Option Int :=
  rdI (gA s 57) 48 x2 (fun y3 => m_x8_sizeOf_J26 s y3)
def m_x8_sizeOf (p0 : Int) (s : MS) : Option Int :=
  bn (m_x8_inUse p0 s) (fun r5 => rg r5 (if r5 = 0 then bn (m_x8_isHeld p0 s) (fun r9 => rg r9 (if r9 = 0 then m_x8_sizeOf_J26 s 0 else m_x8_sizeOf_J16 s p0)) else m_x8_sizeOf_J16 s p0))
def m_x8_isFresh_J31 (s : MS) (x1 : Int) : Option Int :=
  bo x1 (some x1)
def m_x8_isFresh_J30 (s : MS) (_u : Unit) : Option Int :=
  m_x8_isFresh_J31 s 0
def m_x8_isFresh (p0 : Int) (s : MS) : Option Int :=
  bn (m_x8_isBlock p0 s) (fun r4 => rg r4 (if r4 = 0 then m_x8_isFresh_J30 s () else rdI (gA s 54) 48 p0 (fun y7 => rg y7 (if y7 ≤ 0 then m_x8_isFresh_J30 s () else rdI (gA s 55) 48 p0 (fun y10 => rg y10 (if y10 = 0 then m_x8_isFresh_J31 s 1 else m_x8_isFresh_J30 s ()))))))
def m_x11_block_J109 (s : MS) (x1 : Int) : Option Int :=
  some x1
def m_x11_block_J95 (s : MS) (x2 : Int) : Option Int :=
  some x2
def m_x11_block (p0 : Int) (p1 : Int) (s : MS) : Option Int :=
  bn (m_x8_isBlock p0 s) (fun r4 => rg r4 (if r4 = 0 then some (-1) else rg p1 (if p1 = 0 then rdI (gA s 54) 48 p0 (fun y9 => some y9) else if p1 = 1 then rdI (gA s 55) 48 p0 (fun y11 => some y11) else if p1 = 2 then bn (m_x8_levelOf p0 s) (fun r14 => some r14) else if p1 = 3 then bn (m_x8_sizeOf p0 s) (fun r17 => some r17) else if p1 = 4 then bn (m_x8_isFresh p0 s) (fun r20 => rg r20 (if r20 = 0 then m_x11_block_J95 s 0 else m_x11_block_J95 s 1)) else if p1 = 5 then bn (m_x8_isHeld p0 s) (fun r25 => rg r25 (if r25 = 0 then m_x11_block_J109 s 0 else m_x11_block_J109 s 1)) else some (-1))))
def m_x11_entry_J73 (s : MS) (x1 : Int) : Option Int :=
  some x1
def m_x11_entry_J32 (s : MS) (_u : Unit) : Option Int :=
  some (-1)
def m_x11_entry (p0 : Int) (p1 : Int) (p2 : Int) (s : MS) : Option Int :=
  bn (m_x8_isBlock p0 s) (fun r3 => rg r3 (if r3 = 0 then m_x11_entry_J32 s () else rg p1 (if p1 < 0 then m_x11_entry_J32 s () else bn (m_x8_sizeOf p0 s) (fun r9 => rg p1 (rg r9 (if p1 < r9 then bn (m_x8_slot p0 p1 s) (fun r14 => rg p2 (if p2 = 0 then rdI (gA s 58) 288 r14 (fun y20 => some y20) else rg p2 (if p2 = 1 then rdI (gA s 59) 288 r14 (fun y19 => m_x11_entry_J73 s y19) else m_x11_entry_J73 s (-1)))) else m_x11_entry_J32 s ()))))))
def m_x2_toldOf_J12 (s : MS) (_u : Unit) : Option Int :=
  some (-1)
def m_x2_toldOf (p0 : Int) (p1 : Int) (s : MS) : Option Int :=
  rg p0 (if p0 < 0 then m_x2_toldOf_J12 s () else bn (m_x2_toldRows s) (fun r4 => rg p0 (rg r4 (if p0 < r4 then bn (m_x2_toldRows s) (fun r9 => rg p1 (if p1 = 0 then rdI (gA s 8) 60 (((gI s 143) - r9) + p0) (fun y12 => some y12) else if p1 = 1 then rdI (gA s 9) 60 (((gI s 143) - r9) + p0) (fun y14 => some y14) else if p1 = 2 then rdI (gA s 10) 60 (((gI s 143) - r9) + p0) (fun y16 => some y16) else some (-1))) else m_x2_toldOf_J12 s ()))))
def m_x11_kept (p0 : Int) (p1 : Int) (s : MS) : Option Int :=
  bn (m_x2_toldOf p0 p1 s) (fun r2 => some r2)
def m_x8_find_b2 (s : MS) (lr2 : Int → Int → Int → Option Int) (x1 : Int) (x2 : Int) (x3 : Int) : Option Int :=
  rdI (gA s 57) 48 x1 (fun y4 => rg x3 (rg y4 (if y4 ≤ x3 then some (-1) else bn (m_x8_slot x1 x3 s) (fun r9 => rdI (gA s 58) 288 r9 (fun y10 => rg y10 (rg x2 (if y10 = x2 then some x3 else lr2 x1 x2 (x3 + 1))))))))
def m_x8_find_L2 (s : MS) (n : Nat) : Int → Int → Int → Option Int := lp (fun _ _ _ => none) (m_x8_find_b2 s) n
def m_x8_find (p0 : Int) (p1 : Int) (s : MS) : Option Int :=
  m_x8_find_L2 s FU p0 p1 0
def m_x8_entryFor_J35 (s : MS) (lr5 : Int → Int → Int → Int → Option Int) (x5 : Int) (x6 : Int) (x7 : Int) (x8 : Int) : Option Int :=
  lr5 x5 x6 x7 (x8 + 1)
def m_x8_entryFor_b5 (s : MS) (lr5 : Int → Int → Int → Int → Option Int) (x1 : Int) (x2 : Int) (x3 : Int) (x4 : Int) : Option Int :=
  rdI (gA s 57) 48 x1 (fun y9 => rg x4 (rg y9 (if y9 ≤ x4 then some x3 else bn (m_x8_slot x1 x4 s) (fun r14 => rdI (gA s 58) 288 r14 (fun y15 => rg y15 (rg x2 (if x2 < y15 then m_x8_entryFor_J35 s lr5 x1 x2 x3 x4 else m_x8_entryFor_J35 s lr5 x1 x2 x4 x4)))))))
def m_x8_entryFor_L5 (s : MS) (n : Nat) : Int → Int → Int → Int → Option Int := lp (fun _ _ _ _ => none) (m_x8_entryFor_b5 s) n
def m_x8_entryFor (p0 : Int) (p1 : Int) (s : MS) : Option Int :=
  m_x8_entryFor_L5 s FU p0 p1 0 1
def m_x8_below (p0 : Int) (p1 : Int) (s : MS) : Option Int :=
  bn (m_x8_entryFor p0 p1 s) (fun r2 => bn (m_x8_slot p0 r2 s) (fun r4 => rdI (gA s 59) 288 r4 (fun y5 => some y5)))
def m_x8_valueAt_J64 (s : MS) (x1 : Int) : Option Int :=
  some x1
def m_x8_valueAt_b16 (s : MS) (lr16 : Int → Int → Int → Option Int) (x2 : Int) (x3 : Int) (x4 : Int) : Option Int :=
  rg x4 (if x4 ≤ 0 then bn (m_x8_find x3 x2 s) (fun r8 => rg r8 (if r8 = (-1) then m_x8_valueAt_J64 s (-1) else bn (m_x8_slot x3 r8 s) (fun r12 => rdI (gA s 59) 288 r12 (fun y13 => m_x8_valueAt_J64 s y13)))) else bn (m_x8_below x3 x2 s) (fun r15 => lr16 x2 r15 (x4 + (-1))))
def m_x8_valueAt_L16 (s : MS) (n : Nat) : Int → Int → Int → Option Int := lp (fun _ _ _ => none) (m_x8_valueAt_b16 s) n
def m_x8_valueAt (p0 : Int) (p1 : Int) (s : MS) : Option Int :=
  rg p0 (if 0 ≤ p0 then rdI (gA s 56) 48 p0 (fun y18 => m_x8_valueAt_L16 s FU p1 p0 y18) else some (-1))
def m_x11_read_J41 (s : MS) (x1 : Int) : Option Int :=
  some x1
def m_x11_read (p0 : Int) (p1 : Int) (s : MS) : Option Int :=
  bn (m_x8_isVolume p0 s) (fun r3 => rg r3 (if r3 = 0 then m_x11_read_J41 s (-1) else rdI (gA s 60) 8 p0 (fun y6 => bn (m_x8_valueAt y6 p1 s) (fun r8 => m_x11_read_J41 s r8))))
def m_x11_key_J38 (s1 : MS) : Option (Int × MS) :=
  some ((-1), s1)
def m_x11_key (p0 : Int) (p1 : Int) (s : MS) : Option (Int × MS) :=
  bn (m_x8_isVolume p0 s) (fun r3 => rg r3 (if r3 = 0 then m_x11_key_J38 s else rg p1 (if p1 < 0 then m_x11_key_J38 s else rdI (gA s 60) 8 p0 (fun y8 => bn (m_x10_gather y8 s) (fun qr11 => rg p1 (rg qr11.1 (if p1 < qr11.1 then rdI (gA qr11.2 23) 288 p1 (fun y15 => some (y15, qr11.2)) else m_x11_key_J38 qr11.2)))))))
def m_x11_total_J94 (lr44 : Int → Int → Int → Int → Int → MS → Option (Int × MS)) (x7 : Int) (x8 : Int) (x9 : Int) (x10 : Int) (x11 : Int) (s12 : MS) : Option (Int × MS) :=
  lr44 x7 x8 x9 x10 (x11 + 1) s12
def m_x11_total_b44 (lr44 : Int → Int → Int → Int → Int → MS → Option (Int × MS)) (x1 : Int) (x2 : Int) (x3 : Int) (x4 : Int) (x5 : Int) (s6 : MS) : Option (Int × MS) :=
  rg x5 (rg x3 (if x3 ≤ x5 then some (x4, s6) else rdI (gA s6 23) 288 x5 (fun y16 => rg y16 (rg x1 (if y16 < x1 then m_x11_total_J94 lr44 x1 x2 x3 x4 x5 s6 else rdI (gA s6 23) 288 x5 (fun y20 => rg y20 (rg x2 (if x2 < y20 then m_x11_total_J94 lr44 x1 x2 x3 x4 x5 s6 else rdI (gA s6 24) 288 x5 (fun y24 => m_x11_total_J94 lr44 x1 x2 x3 (x4 + y24) x5 s6)))))))))
def m_x11_total_L44 (n : Nat) : Int → Int → Int → Int → Int → MS → Option (Int × MS) := lp (fun _ _ _ _ _ _ => none) (m_x11_total_b44) n
def m_x11_total (p0 : Int) (p1 : Int) (p2 : Int) (s : MS) : Option (Int × MS) :=
  bn (m_x8_isVolume p0 s) (fun r26 => rg r26 (if r26 = 0 then some ((-1), s) else rdI (gA s 60) 8 p0 (fun y29 => bn (m_x10_gather y29 s) (fun qr32 => m_x11_total_L44 FU p1 p2 qr32.1 0 0 qr32.2))))
def m_x11_isKey_J16 (s : MS) (x1 : Int) : Option Int :=
  bo x1 (some x1)
def m_x11_isKey_J15 (s : MS) (_u : Unit) : Option Int :=
  m_x11_isKey_J16 s 0
def m_x11_isKey (p0 : Int) (s : MS) : Option Int :=
  rg p0 (if p0 < 0 then m_x11_isKey_J15 s () else rg p0 (if 999 < p0 then m_x11_isKey_J15 s () else m_x11_isKey_J16 s 1))
def m_x11_path_b63 (s : MS) (lr63 : Int → Int → Int → Int → Option Int) (x1 : Int) (x2 : Int) (x3 : Int) (x4 : Int) : Option Int :=
  rg x4 (rg x2 (if x2 ≤ x4 then some x3 else bn (m_x8_below x3 x1 s) (fun r9 => lr63 x1 x2 r9 (x4 + 1))))
def m_x11_path_L63 (s : MS) (n : Nat) : Int → Int → Int → Int → Option Int := lp (fun _ _ _ _ => none) (m_x11_path_b63 s) n
def m_x11_path_J58 (s : MS) (_u : Unit) : Option Int :=
  some (-1)
def m_x11_path_J29 (s : MS) (_u : Unit) : Option Int :=
  some (-1)
def m_x11_path (p0 : Int) (p1 : Int) (p2 : Int) (s : MS) : Option Int :=
  bn (m_x8_isVolume p0 s) (fun r11 => rg r11 (if r11 = 0 then m_x11_path_J29 s () else bn (m_x11_isKey p1 s) (fun r15 => rg r15 (if r15 = 0 then m_x11_path_J29 s () else rg p2 (if 0 ≤ p2 then rdI (gA s 60) 8 p0 (fun y20 => rg y20 (if y20 = (-1) then m_x11_path_J58 s () else rdI (gA s 56) 48 y20 (fun y23 => rg p2 (rg y23 (if p2 ≤ y23 then m_x11_path_L63 s FU p1 p2 y20 0 else m_x11_path_J58 s ()))))) else m_x11_path_J29 s ())))))
def m_x11_shared_J24 (s1 : MS) : Option (Int × MS) :=
  some ((-1), s1)
def m_x11_shared (p0 : Int) (p1 : Int) (s : MS) : Option (Int × MS) :=
  bn (m_x8_isVolume p0 s) (fun r3 => rg r3 (if r3 = 0 then m_x11_shared_J24 s else bn (m_x8_isVolume p1 s) (fun r7 => rg r7 (if r7 = 0 then m_x11_shared_J24 s else rdI (gA s 60) 8 p0 (fun y10 => bn (m_x10_tree y10 s) (fun qrl13 => rdI (gA qrl13.2 60) 8 p1 (fun y14 => bn (m_x10_tree y14 qrl13.2) (fun qrl17 => bn (m_j13_bitCount_95d88 (andL qrl13.1 qrl17.1) qrl17.2) (fun r19 => some (r19, qrl17.2))))))))))
def m_x10_tree_v2_J161 (z1 : Int) (s2 : MS) : Option (Int × MS) :=
  some (z1, s2)
def m_x10_tree_v2_J155 (lr30 : Int → Int → MS → Option (Int × MS)) (z6 : Int) (x7 : Int) (s8 : MS) : Option (Int × MS) :=
  lr30 z6 (x7 + 1) s8
def m_x10_tree_v2_b82 (lr30 : Int → Int → MS → Option (Int × MS)) (lr82 : Int → Int → Int → Int → MS → Option (Int × MS)) (z9 : Int) (x10 : Int) (x11 : Int) (x12 : Int) (s13 : MS) : Option (Int × MS) :=
  rg x12 (rg x11 (if x11 ≤ x12 then m_x10_tree_v2_J155 lr30 z9 x10 s13 else rg (gI s13 501) (if 48 ≤ (gI s13 501) then m_x10_tree_v2_J155 lr30 z9 x10 s13 else rdI (gA s13 26) 48 x10 (fun y19 => bn (m_x8_slot y19 x12 s13) (fun r21 => rdI (gA s13 59) 288 r21 (fun y22 => inb 48 (gI s13 501) (stn (sA s13 26 (upZ (gA s13 26) (Int.toNat (gI s13 501)) y22)) (fun s24 => rdI (gA s24 26) 48 (gI s24 501) (fun y25 => stn (sI s24 501 ((gI s24 501) + 1)) (fun s26 => lr82 (orL z9 (shlLZ 1 y25)) x10 x11 (x12 + 1) s26))))))))))
def m_x10_tree_v2_L82 (lr30 : Int → Int → MS → Option (Int × MS)) (n : Nat) : Int → Int → Int → Int → MS → Option (Int × MS) := lp (fun _ _ _ _ _ => none) (m_x10_tree_v2_b82 lr30) n
def m_x10_tree_v2_J77 (lr30 : Int → Int → MS → Option (Int × MS)) (z27 : Int) (x28 : Int) (x29 : Int) (s30 : MS) : Option (Int × MS) :=
  m_x10_tree_v2_L82 lr30 FU z27 x28 x29 0 s30
def m_x10_tree_v2_b30 (lr30 : Int → Int → MS → Option (Int × MS)) (z3 : Int) (x4 : Int) (s5 : MS) : Option (Int × MS) :=
  rg x4 (rg (gI s5 501) (if (gI s5 501) ≤ x4 then m_x10_tree_v2_J161 z3 s5 else rg x4 (if 48 ≤ x4 then m_x10_tree_v2_J161 z3 s5 else rdI (gA s5 26) 48 x4 (fun y36 => rdI (gA s5 56) 48 y36 (fun y37 => rg y37 (if y37 ≤ 0 then m_x10_tree_v2_J77 lr30 z3 x4 0 s5 else rdI (gA s5 26) 48 x4 (fun y40 => rdI (gA s5 57) 48 y40 (fun y41 => m_x10_tree_v2_J77 lr30 z3 x4 y41 s5))))))))
def m_x10_tree_v2_L30 (n : Nat) : Int → Int → MS → Option (Int × MS) := lp (fun _ _ _ => none) (m_x10_tree_v2_b30) n
def m_x10_tree_v2 (p1 : Int) (s : MS) : Option (Int × MS) :=
  stn (sI s 501 0) (fun s42 => rg p1 (if 0 ≤ p1 then inb 48 0 (stn (sA s42 26 (upZ (gA s42 26) (Int.toNat 0) p1)) (fun s46 => stn (sI s46 501 1) (fun s47 => m_x10_tree_v2_L30 FU (shlLZ 1 p1) 0 s47))) else some (0, s42)))
def m_x10_gather_v2_J128 (lr12 : Int → Int → MS → Option (Int × MS)) (x4 : Int) (x5 : Int) (s6 : MS) : Option (Int × MS) :=
  lr12 x4 (x5 + 1) s6
def m_x10_gather_v2_b57 (lr12 : Int → Int → MS → Option (Int × MS)) (lr57 : Int → Int → Int → Int → MS → Option (Int × MS)) (x7 : Int) (x8 : Int) (x9 : Int) (x10 : Int) (s11 : MS) : Option (Int × MS) :=
  rg x10 (rg x9 (if x9 ≤ x10 then m_x10_gather_v2_J128 lr12 x7 x8 s11 else rg x7 (if 288 ≤ x7 then m_x10_gather_v2_J128 lr12 x7 x8 s11 else rdI (gA s11 26) 48 x8 (fun y17 => bn (m_x8_slot y17 x10 s11) (fun r19 => rdI (gA s11 58) 288 r19 (fun y20 => inb 288 x7 (stn (sA s11 27 (upZ (gA s11 27) (Int.toNat x7) y20)) (fun s22 => rdI (gA s22 26) 48 x8 (fun y23 => bn (m_x8_slot y23 x10 s22) (fun r25 => rdI (gA s22 59) 288 r25 (fun y26 => inb 288 x7 (stn (sA s22 28 (upZ (gA s22 28) (Int.toNat x7) y26)) (fun s28 => lr57 (x7 + 1) x8 x9 (x10 + 1) s28)))))))))))))
def m_x10_gather_v2_L57 (lr12 : Int → Int → MS → Option (Int × MS)) (n : Nat) : Int → Int → Int → Int → MS → Option (Int × MS) := lp (fun _ _ _ _ _ => none) (m_x10_gather_v2_b57 lr12) n
def m_x10_gather_v2_J52 (lr12 : Int → Int → MS → Option (Int × MS)) (x29 : Int) (x30 : Int) (x31 : Int) (s32 : MS) : Option (Int × MS) :=
  m_x10_gather_v2_L57 lr12 FU x29 x30 x31 0 s32
def m_x10_gather_v2_b12 (lr12 : Int → Int → MS → Option (Int × MS)) (x1 : Int) (x2 : Int) (s3 : MS) : Option (Int × MS) :=
  rg x2 (rg (gI s3 501) (if (gI s3 501) ≤ x2 then some (x1, s3) else rdI (gA s3 26) 48 x2 (fun y36 => rdI (gA s3 56) 48 y36 (fun y37 => rg y37 (if y37 = 0 then rdI (gA s3 26) 48 x2 (fun y40 => rdI (gA s3 57) 48 y40 (fun y41 => m_x10_gather_v2_J52 lr12 x1 x2 y41 s3)) else m_x10_gather_v2_J52 lr12 x1 x2 0 s3)))))
def m_x10_gather_v2_L12 (n : Nat) : Int → Int → MS → Option (Int × MS) := lp (fun _ _ _ => none) (m_x10_gather_v2_b12) n
def m_x10_gather_v2 (p1 : Int) (s : MS) : Option (Int × MS) :=
  bn (m_x10_tree_v2 p1 s) (fun qrl44 => m_x10_gather_v2_L12 FU 0 0 qrl44.2)
def m_x11_unlike_J240 (x1 : Int) (s2 : MS) : Option (Int × MS) :=
  some (x1, s2)
def m_x11_unlike_J229 (x3 : Int) (x4 : Int) (s5 : MS) : Option (Int × MS) :=
  rg x3 (if x3 = (-1) then m_x11_unlike_J240 x4 s5 else m_x11_unlike_J240 (-1) s5)
def m_x11_unlike_J220 (lr46 : Int → Int → Int → Int → Int → Int → Int → MS → Option (Int × MS)) (x16 : Int) (x17 : Int) (x18 : Int) (x19 : Int) (x20 : Int) (x21 : Int) (x22 : Int) (x23 : Int) (s24 : MS) : Option (Int × MS) :=
  lr46 x16 x17 x18 x19 x20 (x23 + x22) (x21 + 1) s24
def m_x11_unlike_J203 (lr46 : Int → Int → Int → Int → Int → Int → Int → MS → Option (Int × MS)) (x25 : Int) (x26 : Int) (x27 : Int) (x28 : Int) (x29 : Int) (x30 : Int) (x31 : Int) (x32 : Int) (x33 : Int) (x34 : Int) (s35 : MS) : Option (Int × MS) :=
  rg x32 (rg x31 (if x31 < x32 then m_x11_unlike_J220 lr46 x25 x26 x27 x28 (x34 + x33) x30 0 x29 s35 else m_x11_unlike_J220 lr46 x25 x26 x27 x28 (x34 + x33) x30 1 x29 s35))
def m_x11_unlike_J186 (lr46 : Int → Int → Int → Int → Int → Int → Int → MS → Option (Int × MS)) (x39 : Int) (x40 : Int) (x41 : Int) (x42 : Int) (x43 : Int) (x44 : Int) (x45 : Int) (x46 : Int) (x47 : Int) (x48 : Int) (s49 : MS) : Option (Int × MS) :=
  rg x45 (rg x46 (if x46 < x45 then m_x11_unlike_J203 lr46 x39 x40 x41 (x48 + x47) x43 x44 x45 x46 0 x42 s49 else m_x11_unlike_J203 lr46 x39 x40 x41 (x48 + x47) x43 x44 x45 x46 1 x42 s49))
def m_x11_unlike_J174 (lr46 : Int → Int → Int → Int → Int → Int → Int → MS → Option (Int × MS)) (x53 : Int) (x54 : Int) (x55 : Int) (x56 : Int) (x57 : Int) (x58 : Int) (x59 : Int) (x60 : Int) (x61 : Int) (x62 : Int) (s63 : MS) : Option (Int × MS) :=
  rg x62 (if x62 = 0 then m_x11_unlike_J186 lr46 x53 x54 x55 x57 x58 x59 x60 x61 1 x56 s63 else m_x11_unlike_J186 lr46 x53 x54 x55 x57 x58 x59 x60 x61 0 x56 s63)
def m_x11_unlike_J153 (lr46 : Int → Int → Int → Int → Int → Int → Int → MS → Option (Int × MS)) (x66 : Int) (x67 : Int) (x68 : Int) (x69 : Int) (x70 : Int) (x71 : Int) (x72 : Int) (x73 : Int) (x74 : Int) (x75 : Int) (s76 : MS) : Option (Int × MS) :=
  rg x75 (if x75 = 0 then rg x69 (rg x66 (if x69 = x66 then rg x73 (rg x74 (some (minZ x73 x74, s76))) else m_x11_unlike_J174 lr46 x66 x67 x68 x69 x70 x71 x72 x73 x74 x75 s76)) else m_x11_unlike_J174 lr46 x66 x67 x68 x69 x70 x71 x72 x73 x74 x75 s76)
def m_x11_unlike_J152 (lr46 : Int → Int → Int → Int → Int → Int → Int → MS → Option (Int × MS)) (x84 : Int) (x85 : Int) (x86 : Int) (x87 : Int) (x88 : Int) (x89 : Int) (x90 : Int) (x91 : Int) (x92 : Int) (s93 : MS) : Option (Int × MS) :=
  m_x11_unlike_J153 lr46 x84 x85 x86 x87 x88 x89 x90 x91 x92 0 s93
def m_x11_unlike_J116 (lr46 : Int → Int → Int → Int → Int → Int → Int → MS → Option (Int × MS)) (x94 : Int) (x95 : Int) (x96 : Int) (x97 : Int) (x98 : Int) (x99 : Int) (x100 : Int) (x101 : Int) (x102 : Int) (s103 : MS) : Option (Int × MS) :=
  rg x101 (rg x102 (if x101 = x102 then rdI (gA s103 24) 288 x98 (fun y107 => rdI (gA s103 28) 288 x99 (fun y108 => rg y107 (rg y108 (if y107 = y108 then m_x11_unlike_J153 lr46 x94 x95 x96 x97 x98 x99 x100 x101 x102 1 s103 else m_x11_unlike_J152 lr46 x94 x95 x96 x97 x98 x99 x100 x101 x102 s103)))) else m_x11_unlike_J152 lr46 x94 x95 x96 x97 x98 x99 x100 x101 x102 s103))
def m_x11_unlike_J91 (lr46 : Int → Int → Int → Int → Int → Int → Int → MS → Option (Int × MS)) (x112 : Int) (x113 : Int) (x114 : Int) (x115 : Int) (x116 : Int) (x117 : Int) (x118 : Int) (x119 : Int) (s120 : MS) : Option (Int × MS) :=
  rg x117 (rg x114 (if x114 ≤ x117 then m_x11_unlike_J116 lr46 x112 x113 x114 x115 x116 x117 x118 x119 1000 s120 else rdI (gA s120 27) 288 x117 (fun y124 => m_x11_unlike_J116 lr46 x112 x113 x114 x115 x116 x117 x118 x119 y124 s120)))
def m_x11_unlike_J68 (lr46 : Int → Int → Int → Int → Int → Int → Int → MS → Option (Int × MS)) (x125 : Int) (x126 : Int) (x127 : Int) (x128 : Int) (x129 : Int) (x130 : Int) (x131 : Int) (s132 : MS) : Option (Int × MS) :=
  rg x129 (rg x126 (if x126 ≤ x129 then m_x11_unlike_J91 lr46 x125 x126 x127 x128 x129 x130 x131 1000 s132 else rdI (gA s132 23) 288 x129 (fun y136 => m_x11_unlike_J91 lr46 x125 x126 x127 x128 x129 x130 x131 y136 s132)))
def m_x11_unlike_b46 (lr46 : Int → Int → Int → Int → Int → Int → Int → MS → Option (Int × MS)) (x8 : Int) (x9 : Int) (x10 : Int) (x11 : Int) (x12 : Int) (x13 : Int) (x14 : Int) (s15 : MS) : Option (Int × MS) :=
  rg x14 (if 576 ≤ x14 then m_x11_unlike_J229 x8 x11 s15 else rg x12 (rg x9 (if x12 < x9 then m_x11_unlike_J68 lr46 x8 x9 x10 x11 x12 x13 x14 s15 else rg x13 (rg x10 (if x10 ≤ x13 then m_x11_unlike_J229 x8 x11 s15 else m_x11_unlike_J68 lr46 x8 x9 x10 x11 x12 x13 x14 s15)))))
def m_x11_unlike_L46 (n : Nat) : Int → Int → Int → Int → Int → Int → Int → MS → Option (Int × MS) := lp (fun _ _ _ _ _ _ _ _ => none) (m_x11_unlike_b46) n
def m_x11_unlike (p0 : Int) (p1 : Int) (p2 : Int) (s : MS) : Option (Int × MS) :=
  bn (m_x10_gather p0 s) (fun qr147 => bn (m_x10_gather_v2 p1 qr147.2) (fun qr150 => m_x11_unlike_L46 FU p2 qr147.1 qr150.1 0 0 0 0 qr150.2))
def m_x11_differs_J27 (s1 : MS) : Option (Int × MS) :=
  some ((-1), s1)
def m_x11_differs (p0 : Int) (p1 : Int) (p2 : Int) (s : MS) : Option (Int × MS) :=
  bn (m_x8_isVolume p0 s) (fun r3 => rg r3 (if r3 = 0 then m_x11_differs_J27 s else bn (m_x8_isVolume p1 s) (fun r7 => rg r7 (if r7 = 0 then m_x11_differs_J27 s else rdI (gA s 60) 8 p0 (fun y10 => rdI (gA s 60) 8 p1 (fun y11 => bn (m_x11_unlike y10 y11 p2 s) (fun qr14 => some (qr14.1, qr14.2))))))))
def m_x8_become (s : MS) : Option MS :=
  stn (sI s 1060 (gI s 1240)) (fun s1 => stn (sI s1 1061 (gI s1 1241)) (fun s2 => stn (sL s2 1062 (gL s2 1242)) (fun s3 => cpg 0 0 48 48 48 (stn (sA s3 54 (va_cpy (gA s3 63) (gA s3 54) (Int.toNat 0) (Int.toNat 0) (Int.toNat 48))) (fun s5 => cpg 0 0 48 48 48 (stn (sA s5 55 (va_cpy (gA s5 64) (gA s5 55) (Int.toNat 0) (Int.toNat 0) (Int.toNat 48))) (fun s7 => cpg 0 0 48 48 48 (stn (sA s7 56 (va_cpy (gA s7 65) (gA s7 56) (Int.toNat 0) (Int.toNat 0) (Int.toNat 48))) (fun s9 => cpg 0 0 48 48 48 (stn (sA s9 57 (va_cpy (gA s9 66) (gA s9 57) (Int.toNat 0) (Int.toNat 0) (Int.toNat 48))) (fun s11 => cpg 0 0 288 288 288 (stn (sA s11 58 (va_cpy (gA s11 67) (gA s11 58) (Int.toNat 0) (Int.toNat 0) (Int.toNat 288))) (fun s13 => cpg 0 0 288 288 288 (stn (sA s13 59 (va_cpy (gA s13 68) (gA s13 59) (Int.toNat 0) (Int.toNat 0) (Int.toNat 288))) (fun s15 => cpg 0 0 8 8 8 (stn (sA s15 60 (va_cpy (gA s15 69) (gA s15 60) (Int.toNat 0) (Int.toNat 0) (Int.toNat 8))) (fun s17 => cpg 0 0 8 8 8 (stn (sA s17 61 (va_cpy (gA s17 70) (gA s17 61) (Int.toNat 0) (Int.toNat 0) (Int.toNat 8))) (fun s19 => some s19)))))))))))))))))))
def m_x8_mark (p0 : Int) (s : MS) : Option MS :=
  stn (sL s 1062 (orL (gL s 1062) (shlLZ 1 p0))) (fun s1 => some s1)
def m_x8_insert_b47 (lr47 : Int → Int → Int → Int → Int → MS → Option MS) (x1 : Int) (x2 : Int) (x3 : Int) (x4 : Int) (x5 : Int) (s6 : MS) : Option MS :=
  rg x5 (rg x4 (if x5 ≤ x4 then inb 288 x4 (stn (sA s6 58 (upZ (gA s6 58) (Int.toNat x4) x2)) (fun s11 => inb 288 x4 (stn (sA s11 59 (upZ (gA s11 59) (Int.toNat x4) x3)) (fun s13 => rdI (gA s13 57) 48 x1 (fun y14 => inb 48 x1 (stn (sA s13 57 (upZ (gA s13 57) (Int.toNat x1) (y14 + 1))) (fun s16 => bn (m_x8_mark x1 s16) (fun s18 => some s18)))))))) else rdI (gA s6 58) 288 (x5 - 1) (fun y19 => inb 288 x5 (stn (sA s6 58 (upZ (gA s6 58) (Int.toNat x5) y19)) (fun s21 => rdI (gA s21 59) 288 (x5 - 1) (fun y22 => inb 288 x5 (stn (sA s21 59 (upZ (gA s21 59) (Int.toNat x5) y22)) (fun s24 => lr47 x1 x2 x3 x4 (x5 + (-1)) s24))))))))
def m_x8_insert_L47 (n : Nat) : Int → Int → Int → Int → Int → MS → Option MS := lp (fun _ _ _ _ _ _ => none) (m_x8_insert_b47) n
def m_x8_insert_J25 (s25 : MS) : Option MS :=
  some s25
def m_x8_insert (p0 : Int) (p1 : Int) (p2 : Int) (p3 : Int) (s : MS) : Option MS :=
  rg p1 (if p1 < 0 then m_x8_insert_J25 s else rdI (gA s 57) 48 p0 (fun y28 => rg p1 (rg y28 (if y28 < p1 then m_x8_insert_J25 s else rdI (gA s 57) 48 p0 (fun y32 => rg y32 (if y32 < 6 then bn (m_x8_slot p0 p1 s) (fun r36 => rdI (gA s 57) 48 p0 (fun y37 => bn (m_x8_slot p0 y37 s) (fun r39 => m_x8_insert_L47 FU p0 p2 p3 r36 r39 s))) else m_x8_insert_J25 s))))))
def m_x8_set_J32 (s1 : MS) : Option MS :=
  some s1
def m_x8_set (p0 : Int) (p1 : Int) (p2 : Int) (s : MS) : Option MS :=
  bn (m_x8_slot p0 p1 s) (fun r3 => rdI (gA s 59) 288 r3 (fun y4 => rg y4 (rg p2 (if y4 = p2 then m_x8_set_J32 s else inb 288 r3 (stn (sA s 59 (upZ (gA s 59) (Int.toNat r3) p2)) (fun s9 => bn (m_x8_mark p0 s9) (fun s11 => m_x8_set_J32 s11)))))))
def m_x1_plantLow_J78 (lr35 : Int → Int → Int → Int → Int → MS → Option MS) (x7 : Int) (x8 : Int) (x9 : Int) (x10 : Int) (x11 : Int) (x12 : Int) (s13 : MS) : Option MS :=
  lr35 x7 x8 x9 (x12 + x11) (x10 + 1) s13
def m_x1_plantLow_b35 (lr35 : Int → Int → Int → Int → Int → MS → Option MS) (x1 : Int) (x2 : Int) (x3 : Int) (x4 : Int) (x5 : Int) (s6 : MS) : Option MS :=
  rdI (gA s6 57) 48 x1 (fun y14 => rg x5 (rg y14 (if y14 ≤ x5 then bn (m_x8_insert x1 x4 x2 x3 s6) (fun s19 => some s19) else bn (m_x8_slot x1 x5 s6) (fun r21 => rdI (gA s6 58) 288 r21 (fun y22 => rg y22 (rg x2 (if x2 ≤ y22 then m_x1_plantLow_J78 lr35 x1 x2 x3 x5 0 x4 s6 else m_x1_plantLow_J78 lr35 x1 x2 x3 x5 1 x4 s6)))))))
def m_x1_plantLow_L35 (n : Nat) : Int → Int → Int → Int → Int → MS → Option MS := lp (fun _ _ _ _ _ _ => none) (m_x1_plantLow_b35) n
def m_x1_plantLow (p0 : Int) (p1 : Int) (p2 : Int) (s : MS) : Option MS :=
  bn (m_x8_find p0 p1 s) (fun r27 => rg r27 (if r27 = (-1) then m_x1_plantLow_L35 FU p0 p1 p2 0 0 s else bn (m_x8_set p0 r27 p2 s) (fun s31 => some s31)))
def m_x1_release_v2_J160 (x1 : Int) (s2 : MS) : Option (Int × MS) :=
  some (x1, s2)
def m_x1_release_v2_J148 (lr28 : Int → Int → MS → Option (Int × MS)) (lr83 : Int → Int → Int → Int → MS → Option (Int × MS)) (x11 : Int) (x12 : Int) (x13 : Int) (x14 : Int) (s15 : MS) : Option (Int × MS) :=
  lr83 x11 x12 x13 (x14 + 1) s15
def m_x1_release_v2_b83 (lr28 : Int → Int → MS → Option (Int × MS)) (lr83 : Int → Int → Int → Int → MS → Option (Int × MS)) (x6 : Int) (x7 : Int) (x8 : Int) (x9 : Int) (s10 : MS) : Option (Int × MS) :=
  rg x9 (rg x8 (if x8 ≤ x9 then lr28 x6 (x7 + 1) s10 else rdI (gA s10 50) 48 x7 (fun y19 => bn (m_x8_slot y19 x9 s10) (fun r21 => rdI (gA s10 59) 288 r21 (fun y22 => rdI (gA s10 54) 48 y22 (fun y23 => inb 48 y22 (stn (sA s10 54 (upZ (gA s10 54) (Int.toNat y22) (y23 - 1))) (fun s25 => rdI (gA s25 54) 48 y22 (fun y26 => rg y26 (if y26 = 0 then rg x6 (if 48 ≤ x6 then m_x1_release_v2_J148 lr28 lr83 x6 x7 x8 x9 s25 else inb 48 x6 (stn (sA s25 50 (upZ (gA s25 50) (Int.toNat x6) y22)) (fun s32 => m_x1_release_v2_J148 lr28 lr83 (x6 + 1) x7 x8 x9 s32))) else m_x1_release_v2_J148 lr28 lr83 x6 x7 x8 x9 s25))))))))))
def m_x1_release_v2_L83 (lr28 : Int → Int → MS → Option (Int × MS)) (n : Nat) : Int → Int → Int → Int → MS → Option (Int × MS) := lp (fun _ _ _ _ _ => none) (m_x1_release_v2_b83 lr28) n
def m_x1_release_v2_J78 (lr28 : Int → Int → MS → Option (Int × MS)) (x33 : Int) (x34 : Int) (x35 : Int) (s36 : MS) : Option (Int × MS) :=
  m_x1_release_v2_L83 lr28 FU x33 x34 x35 0 s36
def m_x1_release_v2_b28 (lr28 : Int → Int → MS → Option (Int × MS)) (x3 : Int) (x4 : Int) (s5 : MS) : Option (Int × MS) :=
  rg x4 (rg x3 (if x3 ≤ x4 then m_x1_release_v2_J160 x3 s5 else rg x4 (if 48 ≤ x4 then m_x1_release_v2_J160 x3 s5 else rdI (gA s5 50) 48 x4 (fun y42 => rdI (gA s5 56) 48 y42 (fun y43 => rg y43 (if y43 ≤ 0 then m_x1_release_v2_J78 lr28 x3 x4 0 s5 else rdI (gA s5 50) 48 x4 (fun y46 => rdI (gA s5 57) 48 y46 (fun y47 => m_x1_release_v2_J78 lr28 x3 x4 y47 s5))))))))
def m_x1_release_v2_L28 (n : Nat) : Int → Int → MS → Option (Int × MS) := lp (fun _ _ _ => none) (m_x1_release_v2_b28) n
def m_x1_release_v2_J25 (x48 : Int) (s49 : MS) : Option (Int × MS) :=
  m_x1_release_v2_L28 FU x48 0 s49
def m_x1_release_v2 (p0 : Int) (s : MS) : Option (Int × MS) :=
  rdI (gA s 54) 48 p0 (fun y50 => inb 48 p0 (stn (sA s 54 (upZ (gA s 54) (Int.toNat p0) (y50 - 1))) (fun s52 => rdI (gA s52 54) 48 p0 (fun y53 => rg y53 (if y53 = 0 then inb 48 0 (stn (sA s52 50 (upZ (gA s52 50) (Int.toNat 0) p0)) (fun s57 => m_x1_release_v2_J25 1 s57)) else m_x1_release_v2_J25 0 s52)))))
def m_x8_isFree_J31 (s : MS) (x1 : Int) : Option Int :=
  bo x1 (some x1)
def m_x8_isFree_J30 (s : MS) (_u : Unit) : Option Int :=
  m_x8_isFree_J31 s 0
def m_x8_isFree (p0 : Int) (s : MS) : Option Int :=
  bn (m_x8_isBlock p0 s) (fun r4 => rg r4 (if r4 = 0 then m_x8_isFree_J30 s () else rdI (gA s 54) 48 p0 (fun y7 => rg y7 (if y7 = 0 then rdI (gA s 55) 48 p0 (fun y10 => rg y10 (if y10 = 0 then m_x8_isFree_J31 s 1 else m_x8_isFree_J30 s ())) else m_x8_isFree_J30 s ()))))
def m_x3_pop (s : MS) : Option (Int × MS) :=
  rg (gI s 1601) (if 0 < (gI s 1601) then stn (sI s 1601 ((gI s 1601) - 1)) (fun s3 => rdI (gA s3 81) 64 (gI s3 1601) (fun y4 => some (y4, s3))) else some (0, s))
def m_x3_joined_J225 (s : MS) (x1 : Int) : Option Int :=
  some x1
def m_x3_joined_J199 (s : MS) (z2 : Int) : Option Int :=
  rgL z2 (if z2 ≤ 1000000 then rgL z2 (if (-1000000) ≤ z2 then m_x3_joined_J225 s z2 else m_x3_joined_J225 s (-1000000)) else some 1000000)
def m_x3_joined_J179 (s : MS) (z7 : Int) : Option Int :=
  m_x3_joined_J199 s z7
def m_x3_joined_J165 (s : MS) (z8 : Int) : Option Int :=
  m_x3_joined_J199 s z8
def m_x3_joined_J151 (s : MS) (z9 : Int) : Option Int :=
  m_x3_joined_J199 s z9
def m_x3_joined_J137 (s : MS) (z10 : Int) : Option Int :=
  m_x3_joined_J199 s z10
def m_x3_joined_J121 (s : MS) (z11 : Int) : Option Int :=
  m_x3_joined_J199 s z11
def m_x3_joined_J105 (s : MS) (z12 : Int) : Option Int :=
  m_x3_joined_J199 s z12
def m_x3_joined (p0 : Int) (p1 : Int) (p2 : Int) (s : MS) : Option Int :=
  rg p0 (if p0 = (-11) then rg (orZ p1 p2) (m_x3_joined_J199 s (orZ p1 p2)) else if p0 = (-10) then rg (andZ p1 p2) (m_x3_joined_J199 s (andZ p1 p2)) else if p0 = (-9) then rg p1 (rg p2 (if p1 = p2 then m_x3_joined_J179 s 1 else m_x3_joined_J179 s 0)) else if p0 = (-8) then rg p1 (rg p2 (if p1 ≤ p2 then m_x3_joined_J165 s 0 else m_x3_joined_J165 s 1)) else if p0 = (-7) then rg p1 (rg p2 (if p2 ≤ p1 then m_x3_joined_J151 s 0 else m_x3_joined_J151 s 1)) else if p0 = (-6) then rg p1 (rg p2 (if p1 ≤ p2 then rg p2 (m_x3_joined_J137 s p2) else rg p1 (m_x3_joined_J137 s p1))) else if p0 = (-5) then rg p1 (rg p2 (if p2 ≤ p1 then rg p2 (m_x3_joined_J121 s p2) else rg p1 (m_x3_joined_J121 s p1))) else if p0 = (-4) then rg p2 (if p2 = 0 then m_x3_joined_J105 s 0 else dv p1 p2 (dv ((Int.tmod p1 p2) + p2) p2 (dv (p1 - (Int.tmod ((Int.tmod p1 p2) + p2) p2)) p2 (rg (Int.tdiv (p1 - (Int.tmod ((Int.tmod p1 p2) + p2) p2)) p2) (m_x3_joined_J105 s (Int.tdiv (p1 - (Int.tmod ((Int.tmod p1 p2) + p2) p2)) p2)))))) else if p0 = (-3) then rg p1 (rg p2 (m_x3_joined_J199 s (p1 * p2))) else if p0 = (-2) then rg (p1 - p2) (m_x3_joined_J199 s (p1 - p2)) else if p0 = (-1) then rg (p1 + p2) (m_x3_joined_J199 s (p1 + p2)) else m_x3_joined_J199 s 0)
def m_x3_push_J29 (s1 : MS) : Option MS :=
  some s1
def m_x3_push (p0 : Int) (s : MS) : Option MS :=
  rg (gI s 1601) (if 64 ≤ (gI s 1601) then m_x3_push_J29 s else inb 64 (gI s 1601) (stn (sA s 81 (upZ (gA s 81) (Int.toNat (gI s 1601)) p0)) (fun s5 => stn (sI s5 1601 ((gI s5 1601) + 1)) (fun s6 => m_x3_push_J29 s6))))
def m_x3_changed_J69 (s : MS) (x1 : Int) : Option Int :=
  some x1
def m_x3_changed_J37 (s : MS) (_u : Unit) : Option Int :=
  some 0
def m_x3_changed (p0 : Int) (p1 : Int) (s : MS) : Option Int :=
  rg p0 (if p0 = (-12) then some (1 - p1) else rg p1 (if p1 < 0 then m_x3_changed_J37 s () else rg p1 (rg (gI s 1060) (if (gI s 1060) ≤ p1 then m_x3_changed_J37 s () else rdI (gA s 54) 48 p1 (fun y9 => rg y9 (if y9 = 0 then m_x3_changed_J37 s () else rg p0 (if p0 = (-13) then rdI (gA s 54) 48 p1 (fun y15 => m_x3_changed_J69 s y15) else rdI (gA s 58) 288 (p1 * 6) (fun y14 => m_x3_changed_J69 s y14))))))))
def m_x3_fact_J48 (s : MS) (_u : Unit) : Option Int :=
  some (gI s 1602)
def m_x3_fact (p0 : Int) (s : MS) : Option Int :=
  rg p0 (if p0 = 11 then m_x3_fact_J48 s () else if p0 = 12 then some (gI s 1603) else if p0 = 13 then some (gI s 1604) else if p0 = 14 then some (gI s 1605) else if p0 = 15 then m_x3_fact_J48 s () else if p0 = 16 then some (gI s 1606) else if p0 = 17 then some (gI s 1607) else if p0 = 18 then some (gI s 1608) else some 0)
def m_x3_value_J125 (s1 : MS) : Option (Int × MS) :=
  bn (m_x3_pop s1) (fun qr4 => some (qr4.1, qr4.2))
def m_x3_value_J119 (lr8 : Int → Int → MS → Option (Int × MS)) (x8 : Int) (x9 : Int) (s10 : MS) : Option (Int × MS) :=
  lr8 x8 (x9 + 1) s10
def m_x3_value_b8 (lr8 : Int → Int → MS → Option (Int × MS)) (x5 : Int) (x6 : Int) (s7 : MS) : Option (Int × MS) :=
  rg x6 (if x6 < 0 then m_x3_value_J125 s7 else rg x6 (rg x5 (if x5 ≤ x6 then m_x3_value_J125 s7 else rg x6 (rg (gI s7 741) (if (gI s7 741) ≤ x6 then m_x3_value_J125 s7 else rdI (gA s7 38) 1600 x6 (fun y19 => rg y19 (if y19 < 0 then rg y19 (if (-100) < y19 then rg y19 (if (-12) < y19 then bn (m_x3_pop s7) (fun qr28 => bn (m_x3_pop qr28.2) (fun qr31 => bn (m_x3_joined y19 qr31.1 qr28.1 qr31.2) (fun r33 => bn (m_x3_push r33 qr31.2) (fun s35 => m_x3_value_J119 lr8 x5 x6 s35)))) else bn (m_x3_pop s7) (fun qr38 => bn (m_x3_changed y19 qr38.1 qr38.2) (fun r40 => bn (m_x3_push r40 qr38.2) (fun s42 => m_x3_value_J119 lr8 x5 x6 s42)))) else bn (m_x3_fact ((-100) - y19) s7) (fun r44 => bn (m_x3_push r44 s7) (fun s46 => m_x3_value_J119 lr8 x5 x6 s46))) else bn (m_x3_push y19 s7) (fun s48 => m_x3_value_J119 lr8 x5 x6 s48))))))))
def m_x3_value_L8 (n : Nat) : Int → Int → MS → Option (Int × MS) := lp (fun _ _ _ => none) (m_x3_value_b8) n
def m_x3_value (p1 : Int) (p2 : Int) (s : MS) : Option (Int × MS) :=
  stn (sI s 1601 0) (fun s49 => m_x3_value_L8 FU p2 p1 s49)
def m_x1_take_J189 (x1 : Int) (s2 : MS) : Option (Int × MS) :=
  some (x1, s2)
def m_x1_take_J140 (lr44 : Int → Int → Int → Int → Int → MS → Option (Int × MS)) (x9 : Int) (x10 : Int) (x11 : Int) (x12 : Int) (x13 : Int) (s14 : MS) : Option (Int × MS) :=
  lr44 x9 x10 x11 x12 (x13 + 1) s14
def m_x1_take_J133 (lr44 : Int → Int → Int → Int → Int → MS → Option (Int × MS)) (x15 : Int) (x16 : Int) (x17 : Int) (x18 : Int) (s19 : MS) : Option (Int × MS) :=
  m_x1_take_J140 lr44 x15 x17 x18 x16 x17 s19
def m_x1_take_J119 (lr44 : Int → Int → Int → Int → Int → MS → Option (Int × MS)) (x20 : Int) (x21 : Int) (x22 : Int) (x23 : Int) (x24 : Int) (x25 : Int) (s26 : MS) : Option (Int × MS) :=
  rg x21 (if x21 = (-1) then m_x1_take_J133 lr44 x20 x23 x24 x25 s26 else rg x25 (rg x22 (if x22 ≤ x25 then m_x1_take_J140 lr44 x20 x21 x22 x23 x24 s26 else m_x1_take_J133 lr44 x20 x23 x24 x25 s26)))
def m_x1_take_b44 (lr44 : Int → Int → Int → Int → Int → MS → Option (Int × MS)) (x3 : Int) (x4 : Int) (x5 : Int) (x6 : Int) (x7 : Int) (s8 : MS) : Option (Int × MS) :=
  rg x7 (rg (gI s8 1060) (if (gI s8 1060) ≤ x7 then rg x4 (if x4 = (-1) then m_x1_take_J189 x4 s8 else inb 48 x4 (stn (sA s8 54 (upZ (gA s8 54) (Int.toNat x4) 1)) (fun s38 => inb 48 x4 (stn (sA s38 56 (upZ (gA s38 56) (Int.toNat x4) x3)) (fun s40 => inb 48 x4 (stn (sA s40 57 (upZ (gA s40 57) (Int.toNat x4) 0)) (fun s42 => bn (m_x8_mark x4 s42) (fun s44 => m_x1_take_J189 x4 s44)))))))) else bn (m_x8_isFree x7 s8) (fun r46 => rg r46 (if r46 = 0 then m_x1_take_J140 lr44 x3 x4 x5 x6 x7 s8 else stn (sI s8 1602 x7) (fun s49 => rg x6 (if x6 = 0 then m_x1_take_J119 lr44 x3 x4 x5 x6 x7 x7 s49 else rdI (gA s49 35) 3 0 (fun y52 => rdI (gA s49 36) 3 0 (fun y53 => bn (m_x3_value y52 y53 s49) (fun qr56 => m_x1_take_J119 lr44 x3 x4 x5 x6 x7 qr56.1 qr56.2)))))))))
def m_x1_take_L44 (n : Nat) : Int → Int → Int → Int → Int → MS → Option (Int × MS) := lp (fun _ _ _ _ _ _ => none) (m_x1_take_b44) n
def m_x1_take_J23 (x57 : Int) (x58 : Int) (x59 : Int) (x60 : Int) (x61 : Int) (s62 : MS) : Option (Int × MS) :=
  stn (sI s62 1604 x57) (fun s63 => stn (sI s63 1603 x58) (fun s64 => m_x1_take_L44 FU x57 x59 x60 x61 0 s64))
def m_x1_take (p0 : Int) (p1 : Int) (s : MS) : Option (Int × MS) :=
  rdI (gA s 35) 3 0 (fun y65 => rg y65 (if y65 = (-1) then m_x1_take_J23 p0 p1 (-1) 0 0 s else m_x1_take_J23 p0 p1 (-1) 0 1 s))
def m_x1_layEntries (p0 : Int) (p1 : Int) (p2 : Int) (s : MS) : Option MS :=
  rdI (gA s 57) 48 p0 (fun y1 => bn (m_x8_slot p0 p1 s) (fun r3 => bn (m_x8_slot p2 0 s) (fun r5 => cpg r3 r5 (y1 - p1) 288 288 (stn (sA s 58 (va_cpy (gA s 58) (gA s 58) (Int.toNat r3) (Int.toNat r5) (Int.toNat (y1 - p1)))) (fun s7 => bn (m_x8_slot p0 p1 s7) (fun r9 => bn (m_x8_slot p2 0 s7) (fun r11 => cpg r9 r11 (y1 - p1) 288 288 (stn (sA s7 59 (va_cpy (gA s7 59) (gA s7 59) (Int.toNat r9) (Int.toNat r11) (Int.toNat (y1 - p1)))) (fun s13 => inb 48 p2 (stn (sA s13 57 (upZ (gA s13 57) (Int.toNat p2) (y1 - p1))) (fun s15 => some s15)))))))))))
def m_x1_owned_J117 (x1 : Int) (x2 : Int) (s3 : MS) : Option (Int × MS) :=
  bn (m_x1_release_v2 x1 s3) (fun qr6 => some (x2, qr6.2))
def m_x1_owned_b69 (lr69 : Int → Int → Int → MS → Option (Int × MS)) (x7 : Int) (x8 : Int) (x9 : Int) (s10 : MS) : Option (Int × MS) :=
  rdI (gA s10 57) 48 x8 (fun y11 => rg x9 (rg y11 (if y11 ≤ x9 then m_x1_owned_J117 x7 x8 s10 else bn (m_x8_slot x8 x9 s10) (fun r16 => rdI (gA s10 59) 288 r16 (fun y17 => rdI (gA s10 54) 48 y17 (fun y18 => inb 48 y17 (stn (sA s10 54 (upZ (gA s10 54) (Int.toNat y17) (y18 + 1))) (fun s20 => lr69 x7 x8 (x9 + 1) s20))))))))
def m_x1_owned_L69 (n : Nat) : Int → Int → Int → MS → Option (Int × MS) := lp (fun _ _ _ _ => none) (m_x1_owned_b69) n
def m_x1_owned_J26 (x21 : Int) (s22 : MS) : Option (Int × MS) :=
  rdI (gA s22 56) 48 x21 (fun y23 => bn (m_x1_take y23 x21 s22) (fun qr26 => rg qr26.1 (if qr26.1 = (-1) then some ((-1), qr26.2) else bn (m_x1_layEntries x21 0 qr26.1 qr26.2) (fun s30 => rdI (gA s30 56) 48 qr26.1 (fun y31 => rg y31 (if y31 ≤ 0 then m_x1_owned_J117 x21 qr26.1 s30 else m_x1_owned_L69 FU x21 qr26.1 0 s30))))))
def m_x1_owned (p0 : Int) (s : MS) : Option (Int × MS) :=
  bn (m_x8_isFresh p0 s) (fun r35 => rg r35 (if r35 = 0 then m_x1_owned_J26 p0 s else rdI (gA s 54) 48 p0 (fun y38 => rg y38 (if y38 = 1 then some (p0, s) else m_x1_owned_J26 p0 s))))
def m_x1_splits_J121 (x1 : Int) (s2 : MS) : Option (Int × MS) :=
  bo x1 (some (x1, s2))
def m_x1_splits_J47 (s4 : MS) : Option (Int × MS) :=
  some (0, s4)
def m_x1_splits (p0 : Int) (s : MS) : Option (Int × MS) :=
  rdI (gA s 57) 48 p0 (fun y5 => rg y5 (rg (gI s 581) (if y5 < (gI s 581) then rdI (gA s 57) 48 p0 (fun y9 => rg y9 (if y9 < 2 then m_x1_splits_J47 s else rdI (gA s 35) 3 1 (fun y12 => rg y12 (if y12 = (-1) then m_x1_splits_J47 s else rdI (gA s 56) 48 p0 (fun y15 => stn (sI s 1604 y15) (fun s16 => rdI (gA s16 57) 48 p0 (fun y17 => stn (sI s16 1605 y17) (fun s18 => rdI (gA s18 35) 3 1 (fun y19 => rdI (gA s18 36) 3 1 (fun y20 => bn (m_x3_value y19 y20 s18) (fun qr23 => rg qr23.1 (if qr23.1 = 0 then m_x1_splits_J121 0 qr23.2 else m_x1_splits_J121 1 qr23.2)))))))))))) else some (1, s))))
def m_x1_split_J123 (x1 : Int) (s2 : MS) : Option (Int × MS) :=
  some (x1, s2)
def m_x1_split (p0 : Int) (p1 : Int) (p2 : Int) (p3 : Int) (s : MS) : Option (Int × MS) :=
  rdI (gA s 56) 48 p2 (fun y3 => bn (m_x1_take y3 p2 s) (fun qr6 => rg qr6.1 (if qr6.1 = (-1) then some ((-1), qr6.2) else rdI (gA qr6.2 57) 48 p2 (fun y9 => rdI (gA qr6.2 57) 48 p2 (fun y10 => dv y10 2 (bn (m_x1_layEntries p2 (y9 - (Int.tdiv y10 2)) qr6.1 qr6.2) (fun s13 => inb 48 p2 (stn (sA s13 57 (upZ (gA s13 57) (Int.toNat p2) (y9 - (Int.tdiv y10 2)))) (fun s15 => bn (m_x8_mark p2 s15) (fun s17 => bn (m_x8_slot qr6.1 0 s17) (fun r19 => rdI (gA s17 58) 288 r19 (fun y20 => bn (m_x8_insert p0 (p1 + 1) y20 qr6.1 s17) (fun s22 => rg y20 (rg p3 (if p3 < y20 then m_x1_split_J123 p2 s22 else m_x1_split_J123 qr6.1 s22)))))))))))))))
def m_x1_raiseRoot_J69 (x1 : Int) (s2 : MS) : Option (Int × MS) :=
  some (x1, s2)
def m_x1_raiseRoot (p0 : Int) (s : MS) : Option (Int × MS) :=
  rdI (gA s 60) 8 p0 (fun y3 => rdI (gA s 56) 48 y3 (fun y4 => bn (m_x1_take (y4 + 1) y3 s) (fun qr7 => rg qr7.1 (if qr7.1 = (-1) then m_x1_raiseRoot_J69 qr7.1 qr7.2 else bn (m_x8_slot y3 0 qr7.2) (fun r11 => rdI (gA qr7.2 58) 288 r11 (fun y12 => bn (m_x8_insert qr7.1 0 y12 y3 qr7.2) (fun s14 => inb 8 p0 (stn (sA s14 60 (upZ (gA s14 60) (Int.toNat p0) qr7.1)) (fun s16 => m_x1_raiseRoot_J69 qr7.1 s16)))))))))
def m_x1_plant_J219 (x1 : Int) (x2 : Int) (x3 : Int) (s4 : MS) : Option (Int × MS) :=
  rg x3 (if x3 = (-1) then some (0, s4) else bn (m_x1_plantLow x3 x1 x2 s4) (fun s8 => some (1, s8)))
def m_x1_plant_J211 (lr117 : Int → Int → Int → Int → MS → Option (Int × MS)) (x14 : Int) (x15 : Int) (x16 : Int) (x17 : Int) (s18 : MS) : Option (Int × MS) :=
  lr117 x14 x15 x17 (x16 + (-1)) s18
def m_x1_plant_b117 (lr117 : Int → Int → Int → Int → MS → Option (Int × MS)) (x9 : Int) (x10 : Int) (x11 : Int) (x12 : Int) (s13 : MS) : Option (Int × MS) :=
  rg x12 (if x12 ≤ 0 then m_x1_plant_J219 x9 x10 x11 s13 else rg x11 (if x11 = (-1) then m_x1_plant_J219 x9 x10 x11 s13 else bn (m_x8_entryFor x11 x9 s13) (fun r24 => bn (m_x8_slot x11 r24 s13) (fun r26 => rdI (gA s13 59) 288 r26 (fun y27 => bn (m_x1_owned y27 s13) (fun qr30 => rg qr30.1 (if qr30.1 = (-1) then some (0, qr30.2) else bn (m_x8_set x11 r24 qr30.1 qr30.2) (fun s34 => bn (m_x1_splits qr30.1 s34) (fun qr37 => rg qr37.1 (if qr37.1 = 0 then m_x1_plant_J211 lr117 x9 x10 x12 qr30.1 qr37.2 else bn (m_x1_split x11 r24 qr30.1 x9 qr37.2) (fun qr42 => m_x1_plant_J211 lr117 x9 x10 x12 qr42.1 qr42.2)))))))))))
def m_x1_plant_L117 (n : Nat) : Int → Int → Int → Int → MS → Option (Int × MS) := lp (fun _ _ _ _ _ => none) (m_x1_plant_b117) n
def m_x1_plant_J115 (x43 : Int) (x44 : Int) (x45 : Int) (x46 : Int) (s47 : MS) : Option (Int × MS) :=
  m_x1_plant_L117 FU x43 x44 x45 x46 s47
def m_x1_plant_J95 (x48 : Int) (x49 : Int) (x50 : Int) (s51 : MS) : Option (Int × MS) :=
  rg x50 (if x50 = (-1) then m_x1_plant_J115 x48 x49 x50 0 s51 else rdI (gA s51 56) 48 x50 (fun y54 => m_x1_plant_J115 x48 x49 x50 y54 s51))
def m_x1_plant_J93 (x55 : Int) (x56 : Int) (x57 : Int) (s58 : MS) : Option (Int × MS) :=
  m_x1_plant_J95 x55 x56 x57 s58
def m_x1_plant_J36 (x59 : Int) (x60 : Int) (x61 : Int) (x62 : Int) (s63 : MS) : Option (Int × MS) :=
  rg x62 (if x62 = (-1) then some (0, s63) else inb 8 x59 (stn (sA s63 60 (upZ (gA s63 60) (Int.toNat x59) x62)) (fun s67 => bn (m_x1_splits x62 s67) (fun qr70 => rg qr70.1 (if qr70.1 = 0 then m_x1_plant_J95 x60 x61 x62 qr70.2 else bn (m_x1_raiseRoot x59 qr70.2) (fun qr75 => rg qr75.1 (if qr75.1 = (-1) then m_x1_plant_J93 x60 x61 (-1) qr75.2 else bn (m_x1_split qr75.1 0 x62 x60 qr75.2) (fun qr80 => m_x1_plant_J93 x60 x61 qr80.1 qr80.2))))))))
def m_x1_plant (p0 : Int) (p1 : Int) (p2 : Int) (s : MS) : Option (Int × MS) :=
  rdI (gA s 60) 8 p0 (fun y81 => rg y81 (if y81 = (-1) then bn (m_x1_take 0 48 s) (fun qr90 => m_x1_plant_J36 p0 p1 p2 qr90.1 qr90.2) else rdI (gA s 60) 8 p0 (fun y84 => bn (m_x1_owned y84 s) (fun qr87 => m_x1_plant_J36 p0 p1 p2 qr87.1 qr87.2))))
def m_x8_become_v2 (s : MS) : Option MS :=
  stn (sI s 1240 (gI s 1060)) (fun s1 => stn (sI s1 1241 (gI s1 1061)) (fun s2 => stn (sL s2 1242 (gL s2 1062)) (fun s3 => cpg 0 0 48 48 48 (stn (sA s3 63 (va_cpy (gA s3 54) (gA s3 63) (Int.toNat 0) (Int.toNat 0) (Int.toNat 48))) (fun s5 => cpg 0 0 48 48 48 (stn (sA s5 64 (va_cpy (gA s5 55) (gA s5 64) (Int.toNat 0) (Int.toNat 0) (Int.toNat 48))) (fun s7 => cpg 0 0 48 48 48 (stn (sA s7 65 (va_cpy (gA s7 56) (gA s7 65) (Int.toNat 0) (Int.toNat 0) (Int.toNat 48))) (fun s9 => cpg 0 0 48 48 48 (stn (sA s9 66 (va_cpy (gA s9 57) (gA s9 66) (Int.toNat 0) (Int.toNat 0) (Int.toNat 48))) (fun s11 => cpg 0 0 288 288 288 (stn (sA s11 67 (va_cpy (gA s11 58) (gA s11 67) (Int.toNat 0) (Int.toNat 0) (Int.toNat 288))) (fun s13 => cpg 0 0 288 288 288 (stn (sA s13 68 (va_cpy (gA s13 59) (gA s13 68) (Int.toNat 0) (Int.toNat 0) (Int.toNat 288))) (fun s15 => cpg 0 0 8 8 8 (stn (sA s15 69 (va_cpy (gA s15 60) (gA s15 69) (Int.toNat 0) (Int.toNat 0) (Int.toNat 8))) (fun s17 => cpg 0 0 8 8 8 (stn (sA s17 70 (va_cpy (gA s17 61) (gA s17 70) (Int.toNat 0) (Int.toNat 0) (Int.toNat 8))) (fun s19 => some s19)))))))))))))))))))
def m_x1_begin (s : MS) : Option MS :=
  bn (m_x8_become_v2 s) (fun s2 => stn (sL s2 1062 0) (fun s3 => some s3))
def m_x1_rehearse_J29 (x1 : Int) (x2 : Int) (x3 : Int) (s4 : MS) : Option (Int × MS) :=
  bn (m_x1_plant x1 x2 x3 s4) (fun qr7 => bo qr7.1 (some (qr7.1, qr7.2)))
def m_x1_rehearse (p0 : Int) (p1 : Int) (s : MS) : Option (Int × MS) :=
  bn (m_x1_begin s) (fun s10 => rdI (gA s10 60) 8 p0 (fun y11 => bn (m_x8_valueAt y11 p1 s10) (fun r13 => rg r13 (if r13 = 0 then m_x1_rehearse_J29 p0 p1 1 s10 else m_x1_rehearse_J29 p0 p1 0 s10))))
def m_x1_isWritten_J32 (s : MS) (x1 : Int) : Option Int :=
  bo x1 (some x1)
def m_x1_isWritten_J31 (s : MS) (_u : Unit) : Option Int :=
  m_x1_isWritten_J32 s 0
def m_x1_isWritten (p0 : Int) (s : MS) : Option Int :=
  bn (m_x8_inUse p0 s) (fun r4 => rg r4 (if r4 = 0 then m_x1_isWritten_J31 s () else rgL (andL (ushrLZ (gL s 1062) p0) 1) (if (andL (ushrLZ (gL s 1062) p0) 1) = 0 then m_x1_isWritten_J31 s () else m_x1_isWritten_J32 s 1)))
def m_x1_costOf (p0 : Int) (s : MS) : Option (Int × MS) :=
  rdI (gA s 35) 3 2 (fun y1 => rg y1 (if y1 = (-1) then some (1, s) else stn (sI s 1602 p0) (fun s4 => rdI (gA s4 56) 48 p0 (fun y5 => stn (sI s4 1604 y5) (fun s6 => rdI (gA s6 57) 48 p0 (fun y7 => stn (sI s6 1605 y7) (fun s8 => rdI (gA s8 35) 3 2 (fun y9 => rdI (gA s8 36) 3 2 (fun y10 => bn (m_x3_value y9 y10 s8) (fun qr13 => some (qr13.1, qr13.2)))))))))))
def m_x1_price_J42 (lr4 : Int → Int → MS → Option (Int × MS)) (x4 : Int) (x5 : Int) (x6 : Int) (s7 : MS) : Option (Int × MS) :=
  lr4 (x6 + x5) (x4 + 1) s7
def m_x1_price_b4 (lr4 : Int → Int → MS → Option (Int × MS)) (x1 : Int) (x2 : Int) (s3 : MS) : Option (Int × MS) :=
  rg x2 (rg (gI s3 1060) (if (gI s3 1060) ≤ x2 then some (x1, s3) else bn (m_x1_isWritten x2 s3) (fun r12 => rg r12 (if r12 = 0 then m_x1_price_J42 lr4 x2 0 x1 s3 else bn (m_x1_costOf x2 s3) (fun qr17 => rg qr17.1 (rg (minZ 99 qr17.1) (m_x1_price_J42 lr4 x2 (maxZ 0 (minZ 99 qr17.1)) x1 qr17.2)))))))
def m_x1_price_L4 (n : Nat) : Int → Int → MS → Option (Int × MS) := lp (fun _ _ _ => none) (m_x1_price_b4) n
def m_x1_price (s : MS) : Option (Int × MS) :=
  m_x1_price_L4 FU 0 0 s
def m_x1_wouldCost_J19 (x1 : Int) (s2 : MS) : Option (Int × MS) :=
  bn (m_x8_become s2) (fun s4 => some (x1, s4))
def m_x1_wouldCost (p0 : Int) (p1 : Int) (s : MS) : Option (Int × MS) :=
  bn (m_x1_rehearse p0 p1 s) (fun qr7 => rg qr7.1 (if qr7.1 = 0 then m_x1_wouldCost_J19 (-1) qr7.2 else bn (m_x1_price qr7.2) (fun qr12 => m_x1_wouldCost_J19 qr12.1 qr12.2)))
def m_x1_wrote_J29 (s : MS) (lr4 : Int → Int → Option Int) (x3 : Int) (x4 : Int) (x5 : Int) : Option Int :=
  lr4 (x5 + x4) (x3 + 1)
def m_x1_wrote_b4 (s : MS) (lr4 : Int → Int → Option Int) (x1 : Int) (x2 : Int) : Option Int :=
  rg x2 (rg (gI s 1060) (if (gI s 1060) ≤ x2 then some x1 else bn (m_x1_isWritten x2 s) (fun r10 => rg r10 (if r10 = 0 then m_x1_wrote_J29 s lr4 x2 0 x1 else m_x1_wrote_J29 s lr4 x2 1 x1))))
def m_x1_wrote_L4 (s : MS) (n : Nat) : Int → Int → Option Int := lp (fun _ _ => none) (m_x1_wrote_b4 s) n
def m_x1_wrote (s : MS) : Option Int :=
  m_x1_wrote_L4 s FU 0 0
def m_x1_wouldWrite_J19 (x1 : Int) (s2 : MS) : Option (Int × MS) :=
  bn (m_x8_become s2) (fun s4 => some (x1, s4))
def m_x1_wouldWrite (p0 : Int) (p1 : Int) (s : MS) : Option (Int × MS) :=
  bn (m_x1_rehearse p0 p1 s) (fun qr7 => rg qr7.1 (if qr7.1 = 0 then m_x1_wouldWrite_J19 (-1) qr7.2 else bn (m_x1_wrote qr7.2) (fun r11 => m_x1_wouldWrite_J19 r11 qr7.2)))
def m_x11_writes_J55 (x1 : Int) (s2 : MS) : Option (Int × MS) :=
  some (x1, s2)
def m_x11_writes_J21 (s3 : MS) : Option (Int × MS) :=
  some ((-1), s3)
def m_x11_writes (p0 : Int) (p1 : Int) (p2 : Int) (s : MS) : Option (Int × MS) :=
  bn (m_x8_isVolume p0 s) (fun r5 => rg r5 (if r5 = 0 then m_x11_writes_J21 s else bn (m_x11_isKey p1 s) (fun r9 => rg r9 (if r9 = 0 then m_x11_writes_J21 s else rg p2 (if p2 = 0 then bn (m_x1_wouldWrite p0 p1 s) (fun qr21 => some (qr21.1, qr21.2)) else rg p2 (if p2 = 1 then bn (m_x1_wouldCost p0 p1 s) (fun qr18 => m_x11_writes_J55 qr18.1 qr18.2) else m_x11_writes_J55 (-1) s))))))
def m_x11_spread_J50 (lr26 : Int → Int → Int → Int → MS → Option (Int × MS)) (x6 : Int) (x7 : Int) (x8 : Int) (x9 : Int) (s10 : MS) : Option (Int × MS) :=
  lr26 x6 x7 x8 (x9 + 1) s10
def m_x11_spread_b26 (lr26 : Int → Int → Int → Int → MS → Option (Int × MS)) (x1 : Int) (x2 : Int) (x3 : Int) (x4 : Int) (s5 : MS) : Option (Int × MS) :=
  rg x4 (if 100 ≤ x4 then some (x3, s5) else bn (m_x1_wouldWrite x1 x4 s5) (fun qr15 => rg qr15.1 (rg x2 (if qr15.1 = x2 then m_x11_spread_J50 lr26 x1 x2 (x3 + 1) x4 qr15.2 else m_x11_spread_J50 lr26 x1 x2 x3 x4 qr15.2))))
def m_x11_spread_L26 (n : Nat) : Int → Int → Int → Int → MS → Option (Int × MS) := lp (fun _ _ _ _ _ => none) (m_x11_spread_b26) n
def m_x11_spread_J19 (s19 : MS) : Option (Int × MS) :=
  some ((-1), s19)
def m_x11_spread (p0 : Int) (p1 : Int) (s : MS) : Option (Int × MS) :=
  bn (m_x8_isVolume p0 s) (fun r21 => rg r21 (if r21 = 0 then m_x11_spread_J19 s else rg p1 (if (-1) ≤ p1 then m_x11_spread_L26 FU p0 p1 0 0 s else m_x11_spread_J19 s)))
def m_x11_growTrees_J47 (lr10 : Int → MS → Option MS) (x3 : Int) (z4 : Int) (x5 : Int) (s6 : MS) : Option MS :=
  inb 8 x5 (stn (sB s6 1 (upZ (gB s6 1) (Int.toNat x5) z4)) (fun s8 => lr10 (x3 + 1) s8))
def m_x11_growTrees_b10 (lr10 : Int → MS → Option MS) (x1 : Int) (s2 : MS) : Option MS :=
  rg x1 (if 8 ≤ x1 then some s2 else bn (m_x8_isVolume x1 s2) (fun r12 => rg r12 (if r12 = 0 then m_x11_growTrees_J47 lr10 x1 0 x1 s2 else rdI (gA s2 60) 8 x1 (fun y15 => bn (m_x10_tree y15 s2) (fun qrl18 => m_x11_growTrees_J47 lr10 x1 qrl18.1 x1 qrl18.2)))))
def m_x11_growTrees_L10 (n : Nat) : Int → MS → Option MS := lp (fun _ _ => none) (m_x11_growTrees_b10) n
def m_x11_growTrees (s : MS) : Option MS :=
  m_x11_growTrees_L10 FU 0 s
def m_x11_lostWith_J55 (x1 : Int) (s2 : MS) : Option (Int × MS) :=
  some (x1, s2)
def m_x11_lostWith_b4 (lr4 : Int → Int → Int → MS → Option (Int × MS)) (x3 : Int) (x4 : Int) (x5 : Int) (s6 : MS) : Option (Int × MS) :=
  rg x5 (if 8 ≤ x5 then rg x4 (if x4 = 0 then m_x11_lostWith_J55 0 s6 else bn (m_x10_gather x3 s6) (fun qr13 => m_x11_lostWith_J55 (x4 * qr13.1) qr13.2)) else rdL (gB s6 1) 8 x5 (fun yl14 => lr4 x3 (x4 + (andL (ushrLZ yl14 x3) 1)) (x5 + 1) s6))
def m_x11_lostWith_L4 (n : Nat) : Int → Int → Int → MS → Option (Int × MS) := lp (fun _ _ _ _ => none) (m_x11_lostWith_b4) n
def m_x11_lostWith (p0 : Int) (s : MS) : Option (Int × MS) :=
  m_x11_lostWith_L4 FU p0 0 0 s
def m_x11_lost (p0 : Int) (s : MS) : Option (Int × MS) :=
  bn (m_x8_isBlock p0 s) (fun r2 => rg r2 (if r2 = 0 then some ((-1), s) else bn (m_x11_growTrees s) (fun s6 => bn (m_x11_lostWith p0 s6) (fun qr9 => some (qr9.1, qr9.2)))))
def m_x11_oneOf_J16 (s : MS) (x1 : Int) : Option Int :=
  some x1
def m_x11_oneOf (p0 : Int) (p1 : Int) (p2 : Int) (s : MS) : Option Int :=
  rg p0 (if p0 = 0 then some p1 else rg p0 (if p0 = 1 then m_x11_oneOf_J16 s p2 else m_x11_oneOf_J16 s (-1)))
def m_x11_worst_J46 (lr11 : Int → Int → Int → Int → MS → Option (Int × MS)) (x6 : Int) (x7 : Int) (x8 : Int) (x9 : Int) (s10 : MS) : Option (Int × MS) :=
  lr11 x6 x7 x8 (x9 + 1) s10
def m_x11_worst_b11 (lr11 : Int → Int → Int → Int → MS → Option (Int × MS)) (x1 : Int) (x2 : Int) (x3 : Int) (x4 : Int) (s5 : MS) : Option (Int × MS) :=
  rg x4 (rg (gI s5 1060) (if (gI s5 1060) ≤ x4 then rg x2 (if x2 = (-1) then some ((-1), s5) else bn (m_x11_oneOf x1 x2 x3 s5) (fun r17 => some (r17, s5))) else bn (m_x11_lostWith x4 s5) (fun qr20 => rg qr20.1 (rg x3 (if qr20.1 ≤ x3 then m_x11_worst_J46 lr11 x1 x2 x3 x4 qr20.2 else m_x11_worst_J46 lr11 x1 x4 qr20.1 x4 qr20.2)))))
def m_x11_worst_L11 (n : Nat) : Int → Int → Int → Int → MS → Option (Int × MS) := lp (fun _ _ _ _ _ => none) (m_x11_worst_b11) n
def m_x11_worst (p0 : Int) (s : MS) : Option (Int × MS) :=
  bn (m_x11_growTrees s) (fun s25 => m_x11_worst_L11 FU p0 (-1) 0 0 s25)
def m_x11_victim_J66 (lr16 : Int → Int → Int → Int → MS → Option (Int × MS)) (x6 : Int) (x7 : Int) (x8 : Int) (x9 : Int) (s10 : MS) : Option (Int × MS) :=
  lr16 x6 x7 x8 (x9 + 1) s10
def m_x11_victim_J50 (lr16 : Int → Int → Int → Int → MS → Option (Int × MS)) (x11 : Int) (x12 : Int) (x13 : Int) (x14 : Int) (x15 : Int) (s16 : MS) : Option (Int × MS) :=
  rg x15 (rg x13 (if x15 ≤ x13 then m_x11_victim_J66 lr16 x11 x12 x13 x14 s16 else m_x11_victim_J66 lr16 x11 x14 x15 x14 s16))
def m_x11_victim_b16 (lr16 : Int → Int → Int → Int → MS → Option (Int × MS)) (x1 : Int) (x2 : Int) (x3 : Int) (x4 : Int) (s5 : MS) : Option (Int × MS) :=
  rg x4 (if 8 ≤ x4 then bn (m_x11_oneOf x1 x2 x3 s5) (fun r23 => some (r23, s5)) else bn (m_x8_isVolume x4 s5) (fun r25 => rg r25 (if r25 = 0 then m_x11_victim_J50 lr16 x1 x2 x3 x4 (-1) s5 else rdI (gA s5 60) 8 x4 (fun y28 => bn (m_x1_freedWith y28 s5) (fun qr31 => m_x11_victim_J50 lr16 x1 x2 x3 x4 qr31.1 qr31.2)))))
def m_x11_victim_L16 (n : Nat) : Int → Int → Int → Int → MS → Option (Int × MS) := lp (fun _ _ _ _ _ => none) (m_x11_victim_b16) n
def m_x11_victim (p0 : Int) (s : MS) : Option (Int × MS) :=
  m_x11_victim_L16 FU p0 (-1) (-1) 0 s
def m_x8_keptBlocks_J27 (s : MS) (lr4 : Int → Int → Option Int) (x3 : Int) (x4 : Int) (x5 : Int) : Option Int :=
  lr4 (x5 + x4) (x3 + 1)
def m_x8_keptBlocks_b4 (s : MS) (lr4 : Int → Int → Option Int) (x1 : Int) (x2 : Int) : Option Int :=
  rg x2 (rg (gI s 1060) (if (gI s 1060) ≤ x2 then some x1 else rdI (gA s 55) 48 x2 (fun y9 => rg y9 (if y9 ≤ 0 then m_x8_keptBlocks_J27 s lr4 x2 0 x1 else m_x8_keptBlocks_J27 s lr4 x2 1 x1))))
def m_x8_keptBlocks_L4 (s : MS) (n : Nat) : Int → Int → Option Int := lp (fun _ _ => none) (m_x8_keptBlocks_b4 s) n
def m_x8_keptBlocks (s : MS) : Option Int :=
  m_x8_keptBlocks_L4 s FU 0 0
def m_x11_room (p0 : Int) (s : MS) : Option Int :=
  rg (gI s 12) (if (gI s 12) = 0 then some (-1) else rg p0 (if p0 = 0 then bn (m_x8_used s) (fun r6 => bn (m_x8_held s) (fun r8 => some (((gI s 1060) - r6) - r8))) else if p0 = 1 then bn (m_x8_used s) (fun r11 => some ((gI s 1060) - r11)) else if p0 = 2 then bn (m_x8_keptBlocks s) (fun r14 => some ((gI s 1060) - r14)) else some (-1)))
def m_x11_back_J27 (s1 : MS) : Option (Int × MS) :=
  some ((-1), s1)
def m_x11_back (p0 : Int) (s : MS) : Option (Int × MS) :=
  bn (m_x8_isVolume p0 s) (fun r3 => rg r3 (if r3 = 0 then m_x11_back_J27 s else rdI (gA s 61) 8 p0 (fun y6 => rg y6 (if y6 = (-2) then m_x11_back_J27 s else rdI (gA s 60) 8 p0 (fun y9 => rdI (gA s 61) 8 p0 (fun y10 => bn (m_x11_unlike y9 y10 (-1) s) (fun qr13 => some (qr13.1, qr13.2))))))))
def m_x9_pair (p0 : Int) (s : MS) : Option Int :=
  bn (m_x9_at p0 s) (fun r2 => bn (m_x9_at (p0 + 1) s) (fun r4 => some ((r2 * 256) + r4)))
def m_x7_take_b74 (lr74 : Int → Int → MS → Option (Int × MS)) (x1 : Int) (x2 : Int) (s3 : MS) : Option (Int × MS) :=
  rg x2 (rg x1 (if x1 ≤ x2 then stn (sI s3 220 x1) (fun s7 => some (1, s7)) else bn (m_x9_pair (x2 * 4) s3) (fun r9 => inb 12 x2 (stn (sA s3 12 (upZ (gA s3 12) (Int.toNat x2) r9)) (fun s11 => bn (m_x9_pair ((x2 * 4) + 2) s11) (fun r13 => inb 12 x2 (stn (sA s11 13 (upZ (gA s11 13) (Int.toNat x2) r13)) (fun s15 => lr74 x1 (x2 + 1) s15))))))))
def m_x7_take_L74 (n : Nat) : Int → Int → MS → Option (Int × MS) := lp (fun _ _ _ => none) (m_x7_take_b74) n
def m_x7_take_J64 (s16 : MS) : Option (Int × MS) :=
  some (0, s16)
def m_x7_take_b31 (lr31 : Int → Int → MS → Option (Int × MS)) (x17 : Int) (x18 : Int) (s19 : MS) : Option (Int × MS) :=
  rg x18 (rg x17 (if x17 ≤ x18 then m_x7_take_L74 FU x17 0 s19 else bn (m_x9_pair (x18 * 4) s19) (fun r24 => rg r24 (if 999 < r24 then m_x7_take_J64 s19 else bn (m_x9_pair ((x18 * 4) + 2) s19) (fun r28 => rg r28 (if r28 ≤ 1000 then lr31 x17 (x18 + 1) s19 else m_x7_take_J64 s19))))))
def m_x7_take_L31 (n : Nat) : Int → Int → MS → Option (Int × MS) := lp (fun _ _ _ => none) (m_x7_take_b31) n
def m_x7_take_J27 (s31 : MS) : Option (Int × MS) :=
  some (0, s31)
def m_x7_take (s : MS) : Option (Int × MS) :=
  dv (gI s 61) 4 (dv (gI s 61) 4 (rg (Int.tmod (gI s 61) 4) (if (Int.tmod (gI s 61) 4) = 0 then rg (Int.tdiv (gI s 61) 4) (if (Int.tdiv (gI s 61) 4) < 1 then m_x7_take_J27 s else rg (Int.tdiv (gI s 61) 4) (if (Int.tdiv (gI s 61) 4) ≤ 12 then m_x7_take_L31 FU (Int.tdiv (gI s 61) 4) 0 s else m_x7_take_J27 s)) else m_x7_take_J27 s)))
def m_x11_see_J39 (x1 : Int) (s2 : MS) : Option (Int × MS) :=
  some (x1, s2)
def m_x11_see (s : MS) : Option (Int × MS) :=
  bn (m_x7_take s) (fun qr5 => stn (sI qr5.2 61 0) (fun s6 => rg qr5.1 (if qr5.1 = 0 then bn (m_x11_refuse 1 s6) (fun qr11 => m_x11_see_J39 qr11.1 qr11.2) else m_x11_see_J39 (gI s6 220) s6)))
def m_x7_reading_J24 (s : MS) (x1 : Int) : Option Int :=
  some x1
def m_x7_reading (p1 : Int) (p2 : Int) (s : MS) : Option Int :=
  rdI (gA s 60) 8 p1 (fun y2 => bn (m_x8_valueAt y2 p2 s) (fun r4 => rg r4 (if r4 = (-1) then m_x7_reading_J24 s 1000 else m_x7_reading_J24 s r4)))
def m_x7_agrees_b2 (s : MS) (lr2 : Int → Int → Option Int) (x1 : Int) (x2 : Int) : Option Int :=
  rg x2 (rg (gI s 220) (if (gI s 220) ≤ x2 then some 1 else rdI (gA s 12) 12 x2 (fun y6 => bn (m_x7_reading x1 y6 s) (fun r8 => rdI (gA s 13) 12 x2 (fun y9 => rg r8 (rg y9 (if r8 = y9 then lr2 x1 (x2 + 1) else some 0)))))))
def m_x7_agrees_L2 (s : MS) (n : Nat) : Int → Int → Option Int := lp (fun _ _ => none) (m_x7_agrees_b2 s) n
def m_x7_agrees (p1 : Int) (s : MS) : Option Int :=
  m_x7_agrees_L2 s FU p1 0
def m_x7_findFits_J50 (lr7 : Int → MS → Option (Int × MS)) (x3 : Int) (s4 : MS) : Option (Int × MS) :=
  lr7 (x3 + 1) s4
def m_x7_findFits_b7 (lr7 : Int → MS → Option (Int × MS)) (x1 : Int) (s2 : MS) : Option (Int × MS) :=
  rg x1 (if 8 ≤ x1 then some (gI s2 224, s2) else bn (m_x8_isVolume x1 s2) (fun r8 => rg r8 (if r8 = 0 then m_x7_findFits_J50 lr7 x1 s2 else bn (m_x7_agrees x1 s2) (fun r12 => rg r12 (if r12 = 0 then m_x7_findFits_J50 lr7 x1 s2 else inb 8 (gI s2 224) (stn (sA s2 14 (upZ (gA s2 14) (Int.toNat (gI s2 224)) x1)) (fun s16 => stn (sI s16 224 ((gI s16 224) + 1)) (fun s17 => m_x7_findFits_J50 lr7 x1 s17))))))))
def m_x7_findFits_L7 (n : Nat) : Int → MS → Option (Int × MS) := lp (fun _ _ => none) (m_x7_findFits_b7) n
def m_x7_findFits (s : MS) : Option (Int × MS) :=
  stn (sI s 224 0) (fun s18 => m_x7_findFits_L7 FU 0 s18)
