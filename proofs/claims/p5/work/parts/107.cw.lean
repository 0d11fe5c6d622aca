/-- what the reader's code is: 0 nothing, 1 the plan's, 2 the spare's -/
def rcv (a : Nat → Nat) (x : Int) : Value := if x = 2 then .ref (a 47) else if x = 1 then .ref (a 37) else .null
theorem rcv_2 {a : Nat → Nat} {x : Int} (h : x = 2) : rcv a x = .ref (a 47) := by rw [h]; rfl
set_option maxRecDepth 100000 in
/-- the class's cells -/
def CW (D : va_G) (a : Nat → Nat) (c1 c2 c3 c4 : Value) (s : MS) : va_W :=
  ((a 0), .inr (11, [.ref (a 3), .ref (a 5), .ref (a 7), .ref (a 11), .ref (a 16), .ref (a 21), .ref (a 25), .ref (a 1), .ref (a 2), c2, c3, .ref (a 49), .int (i2 (gI s 12))])) ::
  ((a 1), .inl (D.1 15, 8, .inr (.inl (fun j => i8 (gB s 1 j))))) ::
  ((a 2), .inl (D.1 13, 6, .inl (fun j => i2 (gA s 2 j)))) ::
  ((a 3), .inr (9, [.ref (a 4), .int (i2 (gI s 61))])) ::
  ((a 4), .inl (D.1 13, 1600, .inl (fun j => i2 (gA s 4 j)))) ::
  ((a 5), .inr (6, [.int (i2 (gI s 100)), .int (i2 (gI s 101)), .ref (a 3), .ref (a 6), rcv a (gI s 9999), .int (i2 (gI s 105)), .int (i2 (gI s 106)), .int (i2 (gI s 107)), .int (i2 (gI s 108)), .int (i2 (gI s 109)), .int (i2 (gI s 110)), .int (i2 (gI s 111))])) ::
  ((a 6), .inl (D.1 14, 179, .inl (fun j => i2 (gA s 6 j)))) ::
  ((a 7), .inr (2, [.ref (a 8), .ref (a 9), .ref (a 10), .int (i2 (gI s 143)), .ref (a 90), .int (i2 (gI s 145))])) ::
  ((a 8), .inl (D.1 13, 60, .inl (fun j => i2 (gA s 8 j)))) ::
  ((a 9), .inl (D.1 13, 60, .inl (fun j => i2 (gA s 9 j)))) ::
  ((a 10), .inl (D.1 13, 60, .inl (fun j => i2 (gA s 10 j)))) ::
  ((a 11), .inr (7, [.int (i2 (gI s 220)), .ref (a 12), .ref (a 13), .ref (a 14), .int (i2 (gI s 224)), .ref (a 15)])) ::
  ((a 12), .inl (D.1 13, 12, .inl (fun j => i2 (gA s 12 j)))) ::
  ((a 13), .inl (D.1 13, 12, .inl (fun j => i2 (gA s 13 j)))) ::
  ((a 14), .inl (D.1 13, 8, .inl (fun j => i2 (gA s 14 j)))) ::
  ((a 15), .inl (D.1 13, 8, .inl (fun j => i2 (gA s 15 j)))) ::
  ((a 16), .inr (4, [.ref (a 17), .int (i2 (gI s 321)), .int (i2 (gI s 322)), .ref (a 18), .ref (a 19), .ref (a 20)])) ::
  ((a 17), .inl (D.1 13, 1364, .inl (fun j => i2 (gA s 17 j)))) ::
  ((a 18), .inl (D.1 13, 48, .inl (fun j => i2 (gA s 18 j)))) ::
  ((a 19), .inl (D.1 13, 48, .inl (fun j => i2 (gA s 19 j)))) ::
  ((a 20), .inl (D.1 13, 48, .inl (fun j => i2 (gA s 20 j)))) ::
  ((a 21), .inr (10, [.ref (a 22), .int (i2 (gI s 421)), .ref (a 23), .ref (a 24)])) ::
  ((a 22), .inl (D.1 13, 48, .inl (fun j => i2 (gA s 22 j)))) ::
  ((a 23), .inl (D.1 13, 288, .inl (fun j => i2 (gA s 23 j)))) ::
  ((a 24), .inl (D.1 13, 288, .inl (fun j => i2 (gA s 24 j)))) ::
  ((a 25), .inr (10, [.ref (a 26), .int (i2 (gI s 501)), .ref (a 27), .ref (a 28)])) ::
  ((a 26), .inl (D.1 13, 48, .inl (fun j => i2 (gA s 26 j)))) ::
  ((a 27), .inl (D.1 13, 288, .inl (fun j => i2 (gA s 27 j)))) ::
  ((a 28), .inl (D.1 13, 288, .inl (fun j => i2 (gA s 28 j)))) ::
  ((a 29), .inr (5, [.int (i2 (gI s 580)), .int (i2 (gI s 581)), .int (i2 (gI s 582)), .int (i2 (gI s 583)), .int (i2 (gI s 584)), .int (i2 (gI s 585)), .ref (a 30), .ref (a 31), .ref (a 32), .ref (a 33), .ref (a 34), .ref (a 37), .ref (a 35), .ref (a 36)])) ::
  ((a 30), .inl (D.1 13, 48, .inl (fun j => i2 (gA s 30 j)))) ::
  ((a 31), .inl (D.1 13, 60, .inl (fun j => i2 (gA s 31 j)))) ::
  ((a 32), .inl (D.1 13, 60, .inl (fun j => i2 (gA s 32 j)))) ::
  ((a 33), .inl (D.1 13, 60, .inl (fun j => i2 (gA s 33 j)))) ::
  ((a 34), .inl (D.1 13, 60, .inl (fun j => i2 (gA s 34 j)))) ::
  ((a 35), .inl (D.1 13, 3, .inl (fun j => i2 (gA s 35 j)))) ::
  ((a 36), .inl (D.1 13, 3, .inl (fun j => i2 (gA s 36 j)))) ::
  ((a 37), .inr (0, [.ref (a 38), .int (i2 (gI s 741))])) ::
  ((a 38), .inl (D.1 13, 1600, .inl (fun j => i2 (gA s 38 j)))) ::
  ((a 39), .inr (5, [.int (i2 (gI s 780)), .int (i2 (gI s 781)), .int (i2 (gI s 782)), .int (i2 (gI s 783)), .int (i2 (gI s 784)), .int (i2 (gI s 785)), .ref (a 40), .ref (a 41), .ref (a 42), .ref (a 43), .ref (a 44), .ref (a 47), .ref (a 45), .ref (a 46)])) ::
  ((a 40), .inl (D.1 13, 48, .inl (fun j => i2 (gA s 40 j)))) ::
  ((a 41), .inl (D.1 13, 60, .inl (fun j => i2 (gA s 41 j)))) ::
  ((a 42), .inl (D.1 13, 60, .inl (fun j => i2 (gA s 42 j)))) ::
  ((a 43), .inl (D.1 13, 60, .inl (fun j => i2 (gA s 43 j)))) ::
  ((a 44), .inl (D.1 13, 60, .inl (fun j => i2 (gA s 44 j)))) ::
  ((a 45), .inl (D.1 13, 3, .inl (fun j => i2 (gA s 45 j)))) ::
  ((a 46), .inl (D.1 13, 3, .inl (fun j => i2 (gA s 46 j)))) ::
  ((a 47), .inr (0, [.ref (a 48), .int (i2 (gI s 941))])) ::
  ((a 48), .inl (D.1 13, 1600, .inl (fun j => i2 (gA s 48 j)))) ::
  ((a 49), .inr (1, [.ref (a 53), c4, .ref (a 71), .int (i2 (gI s 983)), c1, .ref (a 80), .ref (a 50), .ref (a 51), .ref (a 52)])) ::
  ((a 50), .inl (D.1 13, 48, .inl (fun j => i2 (gA s 50 j)))) ::
  ((a 51), .inl (D.1 13, 48, .inl (fun j => i2 (gA s 51 j)))) ::
  ((a 52), .inl (D.1 13, 48, .inl (fun j => i2 (gA s 52 j)))) ::
  ((a 53), .inr (8, [.int (i2 (gI s 1060)), .int (i2 (gI s 1061)), .long (i8 (gL s 1062)), .ref (a 54), .ref (a 55), .ref (a 56), .ref (a 57), .ref (a 58), .ref (a 59), .ref (a 60), .ref (a 61)])) ::
  ((a 54), .inl (D.1 13, 48, .inl (fun j => i2 (gA s 54 j)))) ::
  ((a 55), .inl (D.1 13, 48, .inl (fun j => i2 (gA s 55 j)))) ::
  ((a 56), .inl (D.1 13, 48, .inl (fun j => i2 (gA s 56 j)))) ::
  ((a 57), .inl (D.1 13, 48, .inl (fun j => i2 (gA s 57 j)))) ::
  ((a 58), .inl (D.1 13, 288, .inl (fun j => i2 (gA s 58 j)))) ::
  ((a 59), .inl (D.1 13, 288, .inl (fun j => i2 (gA s 59 j)))) ::
  ((a 60), .inl (D.1 13, 8, .inl (fun j => i2 (gA s 60 j)))) ::
  ((a 61), .inl (D.1 13, 8, .inl (fun j => i2 (gA s 61 j)))) ::
  ((a 62), .inr (8, [.int (i2 (gI s 1240)), .int (i2 (gI s 1241)), .long (i8 (gL s 1242)), .ref (a 63), .ref (a 64), .ref (a 65), .ref (a 66), .ref (a 67), .ref (a 68), .ref (a 69), .ref (a 70)])) ::
  ((a 63), .inl (D.1 13, 48, .inl (fun j => i2 (gA s 63 j)))) ::
  ((a 64), .inl (D.1 13, 48, .inl (fun j => i2 (gA s 64 j)))) ::
  ((a 65), .inl (D.1 13, 48, .inl (fun j => i2 (gA s 65 j)))) ::
  ((a 66), .inl (D.1 13, 48, .inl (fun j => i2 (gA s 66 j)))) ::
  ((a 67), .inl (D.1 13, 288, .inl (fun j => i2 (gA s 67 j)))) ::
  ((a 68), .inl (D.1 13, 288, .inl (fun j => i2 (gA s 68 j)))) ::
  ((a 69), .inl (D.1 13, 8, .inl (fun j => i2 (gA s 69 j)))) ::
  ((a 70), .inl (D.1 13, 8, .inl (fun j => i2 (gA s 70 j)))) ::
  ((a 71), .inr (8, [.int (i2 (gI s 1420)), .int (i2 (gI s 1421)), .long (i8 (gL s 1422)), .ref (a 72), .ref (a 73), .ref (a 74), .ref (a 75), .ref (a 76), .ref (a 77), .ref (a 78), .ref (a 79)])) ::
  ((a 72), .inl (D.1 13, 48, .inl (fun j => i2 (gA s 72 j)))) ::
  ((a 73), .inl (D.1 13, 48, .inl (fun j => i2 (gA s 73 j)))) ::
  ((a 74), .inl (D.1 13, 48, .inl (fun j => i2 (gA s 74 j)))) ::
  ((a 75), .inl (D.1 13, 48, .inl (fun j => i2 (gA s 75 j)))) ::
  ((a 76), .inl (D.1 13, 288, .inl (fun j => i2 (gA s 76 j)))) ::
  ((a 77), .inl (D.1 13, 288, .inl (fun j => i2 (gA s 77 j)))) ::
  ((a 78), .inl (D.1 13, 8, .inl (fun j => i2 (gA s 78 j)))) ::
  ((a 79), .inl (D.1 13, 8, .inl (fun j => i2 (gA s 79 j)))) ::
  ((a 80), .inr (3, [.ref (a 81), .int (i2 (gI s 1601)), .int (i2 (gI s 1602)), .int (i2 (gI s 1603)), .int (i2 (gI s 1604)), .int (i2 (gI s 1605)), .int (i2 (gI s 1606)), .int (i2 (gI s 1607)), .int (i2 (gI s 1608)), .ref (a 53)])) ::
  ((a 81), .inl (D.1 13, 64, .inl (fun j => i2 (gA s 81 j)))) :: []
abbrev CS (D : va_G) (a : Nat → Nat) (s : MS) : va_W := CW D a (.ref (a 29)) (.ref (a 29)) (.ref (a 39)) (.ref (a 62)) s
section WC
variable {D : va_G} {a : Nat → Nat} {c1 c2 c3 c4 : Value} {s : MS} {A : Nat → Prop}
set_option maxRecDepth 100000 in
theorem CW_D {d1 d2 d3 d4 : Value} (t : MS) (h : va_D A (CW D a c1 c2 c3 c4 s)) : va_D A (CW D a d1 d2 d3 d4 t) := va_D_same h rfl
set_option maxRecDepth 100000 in
theorem CW_A {d1 d2 d3 d4 : Value} {sz : Nat} (t : MS) : va_A (CW D a d1 d2 d3 d4 t) sz = va_A (CW D a c1 c2 c3 c4 s) sz := va_A_same rfl
set_option maxRecDepth 100000 in
theorem CW_0 : (CW D a c1 c2 c3 c4 s)[0]? = some ((a 0), .inr (11, [.ref (a 3), .ref (a 5), .ref (a 7), .ref (a 11), .ref (a 16), .ref (a 21), .ref (a 25), .ref (a 1), .ref (a 2), c2, c3, .ref (a 49), .int (i2 (gI s 12))])) := rfl
set_option maxRecDepth 100000 in
theorem CW_w0_9 (v : Value) : (CW D a c1 c2 c3 c4 s).set 0 ((a 0), .inr (11, ([.ref (a 3), .ref (a 5), .ref (a 7), .ref (a 11), .ref (a 16), .ref (a 21), .ref (a 25), .ref (a 1), .ref (a 2), c2, c3, .ref (a 49), .int (i2 (gI s 12))] : List Value).set 9 v)) = CW D a c1 v c3 c4 s := rfl
set_option maxRecDepth 100000 in
theorem CW_w0_10 (v : Value) : (CW D a c1 c2 c3 c4 s).set 0 ((a 0), .inr (11, ([.ref (a 3), .ref (a 5), .ref (a 7), .ref (a 11), .ref (a 16), .ref (a 21), .ref (a 25), .ref (a 1), .ref (a 2), c2, c3, .ref (a 49), .int (i2 (gI s 12))] : List Value).set 10 v)) = CW D a c1 c2 v c4 s := rfl
set_option maxRecDepth 100000 in
theorem CW_w0_12 (v : Int) : (CW D a c1 c2 c3 c4 s).set 0 ((a 0), .inr (11, ([.ref (a 3), .ref (a 5), .ref (a 7), .ref (a 11), .ref (a 16), .ref (a 21), .ref (a 25), .ref (a 1), .ref (a 2), c2, c3, .ref (a 49), .int (i2 (gI s 12))] : List Value).set 12 (.int (i2 v)))) = CW D a c1 c2 c3 c4 (sI s 12 v) := rfl
set_option maxRecDepth 100000 in
theorem CW_1 : (CW D a c1 c2 c3 c4 s)[1]? = some ((a 1), .inl (D.1 15, 8, .inr (.inl (fun j => i8 (gB s 1 j))))) := rfl
set_option maxRecDepth 100000 in
theorem CW_w1 (g : Nat → Int) : (CW D a c1 c2 c3 c4 s).set 1 ((a 1), .inl (D.1 15, 8, .inr (.inl (fun j => i8 (g j))))) = CW D a c1 c2 c3 c4 (sB s 1 g) := rfl
set_option maxRecDepth 100000 in
theorem CW_2 : (CW D a c1 c2 c3 c4 s)[2]? = some ((a 2), .inl (D.1 13, 6, .inl (fun j => i2 (gA s 2 j)))) := rfl
set_option maxRecDepth 100000 in
theorem CW_w2 (g : Nat → Int) : (CW D a c1 c2 c3 c4 s).set 2 ((a 2), .inl (D.1 13, 6, .inl (fun j => i2 (g j)))) = CW D a c1 c2 c3 c4 (sA s 2 g) := rfl
set_option maxRecDepth 100000 in
theorem CW_3 : (CW D a c1 c2 c3 c4 s)[3]? = some ((a 3), .inr (9, [.ref (a 4), .int (i2 (gI s 61))])) := rfl
set_option maxRecDepth 100000 in
theorem CW_w3_1 (v : Int) : (CW D a c1 c2 c3 c4 s).set 3 ((a 3), .inr (9, ([.ref (a 4), .int (i2 (gI s 61))] : List Value).set 1 (.int (i2 v)))) = CW D a c1 c2 c3 c4 (sI s 61 v) := rfl
set_option maxRecDepth 100000 in
theorem CW_4 : (CW D a c1 c2 c3 c4 s)[4]? = some ((a 4), .inl (D.1 13, 1600, .inl (fun j => i2 (gA s 4 j)))) := rfl
set_option maxRecDepth 100000 in
theorem CW_w4 (g : Nat → Int) : (CW D a c1 c2 c3 c4 s).set 4 ((a 4), .inl (D.1 13, 1600, .inl (fun j => i2 (g j)))) = CW D a c1 c2 c3 c4 (sA s 4 g) := rfl
set_option maxRecDepth 100000 in
theorem CW_5 : (CW D a c1 c2 c3 c4 s)[5]? = some ((a 5), .inr (6, [.int (i2 (gI s 100)), .int (i2 (gI s 101)), .ref (a 3), .ref (a 6), rcv a (gI s 9999), .int (i2 (gI s 105)), .int (i2 (gI s 106)), .int (i2 (gI s 107)), .int (i2 (gI s 108)), .int (i2 (gI s 109)), .int (i2 (gI s 110)), .int (i2 (gI s 111))])) := rfl
set_option maxRecDepth 100000 in
theorem CW_w5_0 (v : Int) : (CW D a c1 c2 c3 c4 s).set 5 ((a 5), .inr (6, ([.int (i2 (gI s 100)), .int (i2 (gI s 101)), .ref (a 3), .ref (a 6), rcv a (gI s 9999), .int (i2 (gI s 105)), .int (i2 (gI s 106)), .int (i2 (gI s 107)), .int (i2 (gI s 108)), .int (i2 (gI s 109)), .int (i2 (gI s 110)), .int (i2 (gI s 111))] : List Value).set 0 (.int (i2 v)))) = CW D a c1 c2 c3 c4 (sI s 100 v) := rfl
set_option maxRecDepth 100000 in
theorem CW_w5_1 (v : Int) : (CW D a c1 c2 c3 c4 s).set 5 ((a 5), .inr (6, ([.int (i2 (gI s 100)), .int (i2 (gI s 101)), .ref (a 3), .ref (a 6), rcv a (gI s 9999), .int (i2 (gI s 105)), .int (i2 (gI s 106)), .int (i2 (gI s 107)), .int (i2 (gI s 108)), .int (i2 (gI s 109)), .int (i2 (gI s 110)), .int (i2 (gI s 111))] : List Value).set 1 (.int (i2 v)))) = CW D a c1 c2 c3 c4 (sI s 101 v) := rfl
set_option maxRecDepth 100000 in
theorem CW_w5_4 : (CW D a c1 c2 c3 c4 s).set 5 ((a 5), .inr (6, ([.int (i2 (gI s 100)), .int (i2 (gI s 101)), .ref (a 3), .ref (a 6), rcv a (gI s 9999), .int (i2 (gI s 105)), .int (i2 (gI s 106)), .int (i2 (gI s 107)), .int (i2 (gI s 108)), .int (i2 (gI s 109)), .int (i2 (gI s 110)), .int (i2 (gI s 111))] : List Value).set 4 (.ref (a 47)))) = CW D a c1 c2 c3 c4 (sI s 9999 2) := rfl
set_option maxRecDepth 100000 in
theorem CW_w5_5 (v : Int) : (CW D a c1 c2 c3 c4 s).set 5 ((a 5), .inr (6, ([.int (i2 (gI s 100)), .int (i2 (gI s 101)), .ref (a 3), .ref (a 6), rcv a (gI s 9999), .int (i2 (gI s 105)), .int (i2 (gI s 106)), .int (i2 (gI s 107)), .int (i2 (gI s 108)), .int (i2 (gI s 109)), .int (i2 (gI s 110)), .int (i2 (gI s 111))] : List Value).set 5 (.int (i2 v)))) = CW D a c1 c2 c3 c4 (sI s 105 v) := rfl
set_option maxRecDepth 100000 in
theorem CW_w5_6 (v : Int) : (CW D a c1 c2 c3 c4 s).set 5 ((a 5), .inr (6, ([.int (i2 (gI s 100)), .int (i2 (gI s 101)), .ref (a 3), .ref (a 6), rcv a (gI s 9999), .int (i2 (gI s 105)), .int (i2 (gI s 106)), .int (i2 (gI s 107)), .int (i2 (gI s 108)), .int (i2 (gI s 109)), .int (i2 (gI s 110)), .int (i2 (gI s 111))] : List Value).set 6 (.int (i2 v)))) = CW D a c1 c2 c3 c4 (sI s 106 v) := rfl
set_option maxRecDepth 100000 in
theorem CW_w5_7 (v : Int) : (CW D a c1 c2 c3 c4 s).set 5 ((a 5), .inr (6, ([.int (i2 (gI s 100)), .int (i2 (gI s 101)), .ref (a 3), .ref (a 6), rcv a (gI s 9999), .int (i2 (gI s 105)), .int (i2 (gI s 106)), .int (i2 (gI s 107)), .int (i2 (gI s 108)), .int (i2 (gI s 109)), .int (i2 (gI s 110)), .int (i2 (gI s 111))] : List Value).set 7 (.int (i2 v)))) = CW D a c1 c2 c3 c4 (sI s 107 v) := rfl
set_option maxRecDepth 100000 in
theorem CW_w5_8 (v : Int) : (CW D a c1 c2 c3 c4 s).set 5 ((a 5), .inr (6, ([.int (i2 (gI s 100)), .int (i2 (gI s 101)), .ref (a 3), .ref (a 6), rcv a (gI s 9999), .int (i2 (gI s 105)), .int (i2 (gI s 106)), .int (i2 (gI s 107)), .int (i2 (gI s 108)), .int (i2 (gI s 109)), .int (i2 (gI s 110)), .int (i2 (gI s 111))] : List Value).set 8 (.int (i2 v)))) = CW D a c1 c2 c3 c4 (sI s 108 v) := rfl
set_option maxRecDepth 100000 in
theorem CW_w5_9 (v : Int) : (CW D a c1 c2 c3 c4 s).set 5 ((a 5), .inr (6, ([.int (i2 (gI s 100)), .int (i2 (gI s 101)), .ref (a 3), .ref (a 6), rcv a (gI s 9999), .int (i2 (gI s 105)), .int (i2 (gI s 106)), .int (i2 (gI s 107)), .int (i2 (gI s 108)), .int (i2 (gI s 109)), .int (i2 (gI s 110)), .int (i2 (gI s 111))] : List Value).set 9 (.int (i2 v)))) = CW D a c1 c2 c3 c4 (sI s 109 v) := rfl
set_option maxRecDepth 100000 in
theorem CW_w5_10 (v : Int) : (CW D a c1 c2 c3 c4 s).set 5 ((a 5), .inr (6, ([.int (i2 (gI s 100)), .int (i2 (gI s 101)), .ref (a 3), .ref (a 6), rcv a (gI s 9999), .int (i2 (gI s 105)), .int (i2 (gI s 106)), .int (i2 (gI s 107)), .int (i2 (gI s 108)), .int (i2 (gI s 109)), .int (i2 (gI s 110)), .int (i2 (gI s 111))] : List Value).set 10 (.int (i2 v)))) = CW D a c1 c2 c3 c4 (sI s 110 v) := rfl
set_option maxRecDepth 100000 in
theorem CW_w5_11 (v : Int) : (CW D a c1 c2 c3 c4 s).set 5 ((a 5), .inr (6, ([.int (i2 (gI s 100)), .int (i2 (gI s 101)), .ref (a 3), .ref (a 6), rcv a (gI s 9999), .int (i2 (gI s 105)), .int (i2 (gI s 106)), .int (i2 (gI s 107)), .int (i2 (gI s 108)), .int (i2 (gI s 109)), .int (i2 (gI s 110)), .int (i2 (gI s 111))] : List Value).set 11 (.int (i2 v)))) = CW D a c1 c2 c3 c4 (sI s 111 v) := rfl
set_option maxRecDepth 100000 in
theorem CW_6 : (CW D a c1 c2 c3 c4 s)[6]? = some ((a 6), .inl (D.1 14, 179, .inl (fun j => i2 (gA s 6 j)))) := rfl
set_option maxRecDepth 100000 in
theorem CW_7 : (CW D a c1 c2 c3 c4 s)[7]? = some ((a 7), .inr (2, [.ref (a 8), .ref (a 9), .ref (a 10), .int (i2 (gI s 143)), .ref (a 90), .int (i2 (gI s 145))])) := rfl
set_option maxRecDepth 100000 in
theorem CW_w7_3 (v : Int) : (CW D a c1 c2 c3 c4 s).set 7 ((a 7), .inr (2, ([.ref (a 8), .ref (a 9), .ref (a 10), .int (i2 (gI s 143)), .ref (a 90), .int (i2 (gI s 145))] : List Value).set 3 (.int (i2 v)))) = CW D a c1 c2 c3 c4 (sI s 143 v) := rfl
set_option maxRecDepth 100000 in
theorem CW_w7_5 (v : Int) : (CW D a c1 c2 c3 c4 s).set 7 ((a 7), .inr (2, ([.ref (a 8), .ref (a 9), .ref (a 10), .int (i2 (gI s 143)), .ref (a 90), .int (i2 (gI s 145))] : List Value).set 5 (.int (i2 v)))) = CW D a c1 c2 c3 c4 (sI s 145 v) := rfl
set_option maxRecDepth 100000 in
theorem CW_8 : (CW D a c1 c2 c3 c4 s)[8]? = some ((a 8), .inl (D.1 13, 60, .inl (fun j => i2 (gA s 8 j)))) := rfl
set_option maxRecDepth 100000 in
theorem CW_w8 (g : Nat → Int) : (CW D a c1 c2 c3 c4 s).set 8 ((a 8), .inl (D.1 13, 60, .inl (fun j => i2 (g j)))) = CW D a c1 c2 c3 c4 (sA s 8 g) := rfl
set_option maxRecDepth 100000 in
theorem CW_9 : (CW D a c1 c2 c3 c4 s)[9]? = some ((a 9), .inl (D.1 13, 60, .inl (fun j => i2 (gA s 9 j)))) := rfl
set_option maxRecDepth 100000 in
theorem CW_w9 (g : Nat → Int) : (CW D a c1 c2 c3 c4 s).set 9 ((a 9), .inl (D.1 13, 60, .inl (fun j => i2 (g j)))) = CW D a c1 c2 c3 c4 (sA s 9 g) := rfl
set_option maxRecDepth 100000 in
theorem CW_10 : (CW D a c1 c2 c3 c4 s)[10]? = some ((a 10), .inl (D.1 13, 60, .inl (fun j => i2 (gA s 10 j)))) := rfl
set_option maxRecDepth 100000 in
theorem CW_w10 (g : Nat → Int) : (CW D a c1 c2 c3 c4 s).set 10 ((a 10), .inl (D.1 13, 60, .inl (fun j => i2 (g j)))) = CW D a c1 c2 c3 c4 (sA s 10 g) := rfl
set_option maxRecDepth 100000 in
theorem CW_11 : (CW D a c1 c2 c3 c4 s)[11]? = some ((a 11), .inr (7, [.int (i2 (gI s 220)), .ref (a 12), .ref (a 13), .ref (a 14), .int (i2 (gI s 224)), .ref (a 15)])) := rfl
set_option maxRecDepth 100000 in
theorem CW_w11_0 (v : Int) : (CW D a c1 c2 c3 c4 s).set 11 ((a 11), .inr (7, ([.int (i2 (gI s 220)), .ref (a 12), .ref (a 13), .ref (a 14), .int (i2 (gI s 224)), .ref (a 15)] : List Value).set 0 (.int (i2 v)))) = CW D a c1 c2 c3 c4 (sI s 220 v) := rfl
set_option maxRecDepth 100000 in
theorem CW_w11_4 (v : Int) : (CW D a c1 c2 c3 c4 s).set 11 ((a 11), .inr (7, ([.int (i2 (gI s 220)), .ref (a 12), .ref (a 13), .ref (a 14), .int (i2 (gI s 224)), .ref (a 15)] : List Value).set 4 (.int (i2 v)))) = CW D a c1 c2 c3 c4 (sI s 224 v) := rfl
set_option maxRecDepth 100000 in
theorem CW_12 : (CW D a c1 c2 c3 c4 s)[12]? = some ((a 12), .inl (D.1 13, 12, .inl (fun j => i2 (gA s 12 j)))) := rfl
set_option maxRecDepth 100000 in
theorem CW_w12 (g : Nat → Int) : (CW D a c1 c2 c3 c4 s).set 12 ((a 12), .inl (D.1 13, 12, .inl (fun j => i2 (g j)))) = CW D a c1 c2 c3 c4 (sA s 12 g) := rfl
set_option maxRecDepth 100000 in
theorem CW_13 : (CW D a c1 c2 c3 c4 s)[13]? = some ((a 13), .inl (D.1 13, 12, .inl (fun j => i2 (gA s 13 j)))) := rfl
set_option maxRecDepth 100000 in
theorem CW_w13 (g : Nat → Int) : (CW D a c1 c2 c3 c4 s).set 13 ((a 13), .inl (D.1 13, 12, .inl (fun j => i2 (g j)))) = CW D a c1 c2 c3 c4 (sA s 13 g) := rfl
set_option maxRecDepth 100000 in
theorem CW_14 : (CW D a c1 c2 c3 c4 s)[14]? = some ((a 14), .inl (D.1 13, 8, .inl (fun j => i2 (gA s 14 j)))) := rfl
set_option maxRecDepth 100000 in
theorem CW_w14 (g : Nat → Int) : (CW D a c1 c2 c3 c4 s).set 14 ((a 14), .inl (D.1 13, 8, .inl (fun j => i2 (g j)))) = CW D a c1 c2 c3 c4 (sA s 14 g) := rfl
set_option maxRecDepth 100000 in
theorem CW_15 : (CW D a c1 c2 c3 c4 s)[15]? = some ((a 15), .inl (D.1 13, 8, .inl (fun j => i2 (gA s 15 j)))) := rfl
set_option maxRecDepth 100000 in
theorem CW_w15 (g : Nat → Int) : (CW D a c1 c2 c3 c4 s).set 15 ((a 15), .inl (D.1 13, 8, .inl (fun j => i2 (g j)))) = CW D a c1 c2 c3 c4 (sA s 15 g) := rfl
set_option maxRecDepth 100000 in
theorem CW_16 : (CW D a c1 c2 c3 c4 s)[16]? = some ((a 16), .inr (4, [.ref (a 17), .int (i2 (gI s 321)), .int (i2 (gI s 322)), .ref (a 18), .ref (a 19), .ref (a 20)])) := rfl
set_option maxRecDepth 100000 in
theorem CW_w16_1 (v : Int) : (CW D a c1 c2 c3 c4 s).set 16 ((a 16), .inr (4, ([.ref (a 17), .int (i2 (gI s 321)), .int (i2 (gI s 322)), .ref (a 18), .ref (a 19), .ref (a 20)] : List Value).set 1 (.int (i2 v)))) = CW D a c1 c2 c3 c4 (sI s 321 v) := rfl
set_option maxRecDepth 100000 in
theorem CW_w16_2 (v : Int) : (CW D a c1 c2 c3 c4 s).set 16 ((a 16), .inr (4, ([.ref (a 17), .int (i2 (gI s 321)), .int (i2 (gI s 322)), .ref (a 18), .ref (a 19), .ref (a 20)] : List Value).set 2 (.int (i2 v)))) = CW D a c1 c2 c3 c4 (sI s 322 v) := rfl
set_option maxRecDepth 100000 in
theorem CW_17 : (CW D a c1 c2 c3 c4 s)[17]? = some ((a 17), .inl (D.1 13, 1364, .inl (fun j => i2 (gA s 17 j)))) := rfl
set_option maxRecDepth 100000 in
theorem CW_w17 (g : Nat → Int) : (CW D a c1 c2 c3 c4 s).set 17 ((a 17), .inl (D.1 13, 1364, .inl (fun j => i2 (g j)))) = CW D a c1 c2 c3 c4 (sA s 17 g) := rfl
set_option maxRecDepth 100000 in
theorem CW_18 : (CW D a c1 c2 c3 c4 s)[18]? = some ((a 18), .inl (D.1 13, 48, .inl (fun j => i2 (gA s 18 j)))) := rfl
set_option maxRecDepth 100000 in
theorem CW_w18 (g : Nat → Int) : (CW D a c1 c2 c3 c4 s).set 18 ((a 18), .inl (D.1 13, 48, .inl (fun j => i2 (g j)))) = CW D a c1 c2 c3 c4 (sA s 18 g) := rfl
set_option maxRecDepth 100000 in
theorem CW_19 : (CW D a c1 c2 c3 c4 s)[19]? = some ((a 19), .inl (D.1 13, 48, .inl (fun j => i2 (gA s 19 j)))) := rfl
set_option maxRecDepth 100000 in
theorem CW_w19 (g : Nat → Int) : (CW D a c1 c2 c3 c4 s).set 19 ((a 19), .inl (D.1 13, 48, .inl (fun j => i2 (g j)))) = CW D a c1 c2 c3 c4 (sA s 19 g) := rfl
set_option maxRecDepth 100000 in
theorem CW_20 : (CW D a c1 c2 c3 c4 s)[20]? = some ((a 20), .inl (D.1 13, 48, .inl (fun j => i2 (gA s 20 j)))) := rfl
set_option maxRecDepth 100000 in
theorem CW_w20 (g : Nat → Int) : (CW D a c1 c2 c3 c4 s).set 20 ((a 20), .inl (D.1 13, 48, .inl (fun j => i2 (g j)))) = CW D a c1 c2 c3 c4 (sA s 20 g) := rfl
set_option maxRecDepth 100000 in
theorem CW_21 : (CW D a c1 c2 c3 c4 s)[21]? = some ((a 21), .inr (10, [.ref (a 22), .int (i2 (gI s 421)), .ref (a 23), .ref (a 24)])) := rfl
set_option maxRecDepth 100000 in
theorem CW_w21_1 (v : Int) : (CW D a c1 c2 c3 c4 s).set 21 ((a 21), .inr (10, ([.ref (a 22), .int (i2 (gI s 421)), .ref (a 23), .ref (a 24)] : List Value).set 1 (.int (i2 v)))) = CW D a c1 c2 c3 c4 (sI s 421 v) := rfl
set_option maxRecDepth 100000 in
theorem CW_22 : (CW D a c1 c2 c3 c4 s)[22]? = some ((a 22), .inl (D.1 13, 48, .inl (fun j => i2 (gA s 22 j)))) := rfl
set_option maxRecDepth 100000 in
theorem CW_w22 (g : Nat → Int) : (CW D a c1 c2 c3 c4 s).set 22 ((a 22), .inl (D.1 13, 48, .inl (fun j => i2 (g j)))) = CW D a c1 c2 c3 c4 (sA s 22 g) := rfl
set_option maxRecDepth 100000 in
theorem CW_23 : (CW D a c1 c2 c3 c4 s)[23]? = some ((a 23), .inl (D.1 13, 288, .inl (fun j => i2 (gA s 23 j)))) := rfl
set_option maxRecDepth 100000 in
theorem CW_w23 (g : Nat → Int) : (CW D a c1 c2 c3 c4 s).set 23 ((a 23), .inl (D.1 13, 288, .inl (fun j => i2 (g j)))) = CW D a c1 c2 c3 c4 (sA s 23 g) := rfl
set_option maxRecDepth 100000 in
theorem CW_24 : (CW D a c1 c2 c3 c4 s)[24]? = some ((a 24), .inl (D.1 13, 288, .inl (fun j => i2 (gA s 24 j)))) := rfl
set_option maxRecDepth 100000 in
theorem CW_w24 (g : Nat → Int) : (CW D a c1 c2 c3 c4 s).set 24 ((a 24), .inl (D.1 13, 288, .inl (fun j => i2 (g j)))) = CW D a c1 c2 c3 c4 (sA s 24 g) := rfl
set_option maxRecDepth 100000 in
theorem CW_25 : (CW D a c1 c2 c3 c4 s)[25]? = some ((a 25), .inr (10, [.ref (a 26), .int (i2 (gI s 501)), .ref (a 27), .ref (a 28)])) := rfl
set_option maxRecDepth 100000 in
theorem CW_w25_1 (v : Int) : (CW D a c1 c2 c3 c4 s).set 25 ((a 25), .inr (10, ([.ref (a 26), .int (i2 (gI s 501)), .ref (a 27), .ref (a 28)] : List Value).set 1 (.int (i2 v)))) = CW D a c1 c2 c3 c4 (sI s 501 v) := rfl
set_option maxRecDepth 100000 in
theorem CW_26 : (CW D a c1 c2 c3 c4 s)[26]? = some ((a 26), .inl (D.1 13, 48, .inl (fun j => i2 (gA s 26 j)))) := rfl
set_option maxRecDepth 100000 in
theorem CW_w26 (g : Nat → Int) : (CW D a c1 c2 c3 c4 s).set 26 ((a 26), .inl (D.1 13, 48, .inl (fun j => i2 (g j)))) = CW D a c1 c2 c3 c4 (sA s 26 g) := rfl
set_option maxRecDepth 100000 in
theorem CW_27 : (CW D a c1 c2 c3 c4 s)[27]? = some ((a 27), .inl (D.1 13, 288, .inl (fun j => i2 (gA s 27 j)))) := rfl
set_option maxRecDepth 100000 in
theorem CW_w27 (g : Nat → Int) : (CW D a c1 c2 c3 c4 s).set 27 ((a 27), .inl (D.1 13, 288, .inl (fun j => i2 (g j)))) = CW D a c1 c2 c3 c4 (sA s 27 g) := rfl
set_option maxRecDepth 100000 in
theorem CW_28 : (CW D a c1 c2 c3 c4 s)[28]? = some ((a 28), .inl (D.1 13, 288, .inl (fun j => i2 (gA s 28 j)))) := rfl
set_option maxRecDepth 100000 in
theorem CW_w28 (g : Nat → Int) : (CW D a c1 c2 c3 c4 s).set 28 ((a 28), .inl (D.1 13, 288, .inl (fun j => i2 (g j)))) = CW D a c1 c2 c3 c4 (sA s 28 g) := rfl
set_option maxRecDepth 100000 in
theorem CW_29 : (CW D a c1 c2 c3 c4 s)[29]? = some ((a 29), .inr (5, [.int (i2 (gI s 580)), .int (i2 (gI s 581)), .int (i2 (gI s 582)), .int (i2 (gI s 583)), .int (i2 (gI s 584)), .int (i2 (gI s 585)), .ref (a 30), .ref (a 31), .ref (a 32), .ref (a 33), .ref (a 34), .ref (a 37), .ref (a 35), .ref (a 36)])) := rfl
set_option maxRecDepth 100000 in
theorem CW_w29_0 (v : Int) : (CW D a c1 c2 c3 c4 s).set 29 ((a 29), .inr (5, ([.int (i2 (gI s 580)), .int (i2 (gI s 581)), .int (i2 (gI s 582)), .int (i2 (gI s 583)), .int (i2 (gI s 584)), .int (i2 (gI s 585)), .ref (a 30), .ref (a 31), .ref (a 32), .ref (a 33), .ref (a 34), .ref (a 37), .ref (a 35), .ref (a 36)] : List Value).set 0 (.int (i2 v)))) = CW D a c1 c2 c3 c4 (sI s 580 v) := rfl
set_option maxRecDepth 100000 in
theorem CW_w29_1 (v : Int) : (CW D a c1 c2 c3 c4 s).set 29 ((a 29), .inr (5, ([.int (i2 (gI s 580)), .int (i2 (gI s 581)), .int (i2 (gI s 582)), .int (i2 (gI s 583)), .int (i2 (gI s 584)), .int (i2 (gI s 585)), .ref (a 30), .ref (a 31), .ref (a 32), .ref (a 33), .ref (a 34), .ref (a 37), .ref (a 35), .ref (a 36)] : List Value).set 1 (.int (i2 v)))) = CW D a c1 c2 c3 c4 (sI s 581 v) := rfl
set_option maxRecDepth 100000 in
theorem CW_w29_2 (v : Int) : (CW D a c1 c2 c3 c4 s).set 29 ((a 29), .inr (5, ([.int (i2 (gI s 580)), .int (i2 (gI s 581)), .int (i2 (gI s 582)), .int (i2 (gI s 583)), .int (i2 (gI s 584)), .int (i2 (gI s 585)), .ref (a 30), .ref (a 31), .ref (a 32), .ref (a 33), .ref (a 34), .ref (a 37), .ref (a 35), .ref (a 36)] : List Value).set 2 (.int (i2 v)))) = CW D a c1 c2 c3 c4 (sI s 582 v) := rfl
set_option maxRecDepth 100000 in
theorem CW_w29_3 (v : Int) : (CW D a c1 c2 c3 c4 s).set 29 ((a 29), .inr (5, ([.int (i2 (gI s 580)), .int (i2 (gI s 581)), .int (i2 (gI s 582)), .int (i2 (gI s 583)), .int (i2 (gI s 584)), .int (i2 (gI s 585)), .ref (a 30), .ref (a 31), .ref (a 32), .ref (a 33), .ref (a 34), .ref (a 37), .ref (a 35), .ref (a 36)] : List Value).set 3 (.int (i2 v)))) = CW D a c1 c2 c3 c4 (sI s 583 v) := rfl
set_option maxRecDepth 100000 in
theorem CW_w29_4 (v : Int) : (CW D a c1 c2 c3 c4 s).set 29 ((a 29), .inr (5, ([.int (i2 (gI s 580)), .int (i2 (gI s 581)), .int (i2 (gI s 582)), .int (i2 (gI s 583)), .int (i2 (gI s 584)), .int (i2 (gI s 585)), .ref (a 30), .ref (a 31), .ref (a 32), .ref (a 33), .ref (a 34), .ref (a 37), .ref (a 35), .ref (a 36)] : List Value).set 4 (.int (i2 v)))) = CW D a c1 c2 c3 c4 (sI s 584 v) := rfl
set_option maxRecDepth 100000 in
theorem CW_w29_5 (v : Int) : (CW D a c1 c2 c3 c4 s).set 29 ((a 29), .inr (5, ([.int (i2 (gI s 580)), .int (i2 (gI s 581)), .int (i2 (gI s 582)), .int (i2 (gI s 583)), .int (i2 (gI s 584)), .int (i2 (gI s 585)), .ref (a 30), .ref (a 31), .ref (a 32), .ref (a 33), .ref (a 34), .ref (a 37), .ref (a 35), .ref (a 36)] : List Value).set 5 (.int (i2 v)))) = CW D a c1 c2 c3 c4 (sI s 585 v) := rfl
set_option maxRecDepth 100000 in
theorem CW_30 : (CW D a c1 c2 c3 c4 s)[30]? = some ((a 30), .inl (D.1 13, 48, .inl (fun j => i2 (gA s 30 j)))) := rfl
set_option maxRecDepth 100000 in
theorem CW_w30 (g : Nat → Int) : (CW D a c1 c2 c3 c4 s).set 30 ((a 30), .inl (D.1 13, 48, .inl (fun j => i2 (g j)))) = CW D a c1 c2 c3 c4 (sA s 30 g) := rfl
set_option maxRecDepth 100000 in
theorem CW_31 : (CW D a c1 c2 c3 c4 s)[31]? = some ((a 31), .inl (D.1 13, 60, .inl (fun j => i2 (gA s 31 j)))) := rfl
set_option maxRecDepth 100000 in
theorem CW_w31 (g : Nat → Int) : (CW D a c1 c2 c3 c4 s).set 31 ((a 31), .inl (D.1 13, 60, .inl (fun j => i2 (g j)))) = CW D a c1 c2 c3 c4 (sA s 31 g) := rfl
set_option maxRecDepth 100000 in
theorem CW_32 : (CW D a c1 c2 c3 c4 s)[32]? = some ((a 32), .inl (D.1 13, 60, .inl (fun j => i2 (gA s 32 j)))) := rfl
set_option maxRecDepth 100000 in
theorem CW_w32 (g : Nat → Int) : (CW D a c1 c2 c3 c4 s).set 32 ((a 32), .inl (D.1 13, 60, .inl (fun j => i2 (g j)))) = CW D a c1 c2 c3 c4 (sA s 32 g) := rfl
set_option maxRecDepth 100000 in
theorem CW_33 : (CW D a c1 c2 c3 c4 s)[33]? = some ((a 33), .inl (D.1 13, 60, .inl (fun j => i2 (gA s 33 j)))) := rfl
set_option maxRecDepth 100000 in
theorem CW_w33 (g : Nat → Int) : (CW D a c1 c2 c3 c4 s).set 33 ((a 33), .inl (D.1 13, 60, .inl (fun j => i2 (g j)))) = CW D a c1 c2 c3 c4 (sA s 33 g) := rfl
set_option maxRecDepth 100000 in
theorem CW_34 : (CW D a c1 c2 c3 c4 s)[34]? = some ((a 34), .inl (D.1 13, 60, .inl (fun j => i2 (gA s 34 j)))) := rfl
set_option maxRecDepth 100000 in
theorem CW_w34 (g : Nat → Int) : (CW D a c1 c2 c3 c4 s).set 34 ((a 34), .inl (D.1 13, 60, .inl (fun j => i2 (g j)))) = CW D a c1 c2 c3 c4 (sA s 34 g) := rfl
set_option maxRecDepth 100000 in
theorem CW_35 : (CW D a c1 c2 c3 c4 s)[35]? = some ((a 35), .inl (D.1 13, 3, .inl (fun j => i2 (gA s 35 j)))) := rfl
set_option maxRecDepth 100000 in
theorem CW_w35 (g : Nat → Int) : (CW D a c1 c2 c3 c4 s).set 35 ((a 35), .inl (D.1 13, 3, .inl (fun j => i2 (g j)))) = CW D a c1 c2 c3 c4 (sA s 35 g) := rfl
set_option maxRecDepth 100000 in
theorem CW_36 : (CW D a c1 c2 c3 c4 s)[36]? = some ((a 36), .inl (D.1 13, 3, .inl (fun j => i2 (gA s 36 j)))) := rfl
set_option maxRecDepth 100000 in
theorem CW_w36 (g : Nat → Int) : (CW D a c1 c2 c3 c4 s).set 36 ((a 36), .inl (D.1 13, 3, .inl (fun j => i2 (g j)))) = CW D a c1 c2 c3 c4 (sA s 36 g) := rfl
set_option maxRecDepth 100000 in
theorem CW_37 : (CW D a c1 c2 c3 c4 s)[37]? = some ((a 37), .inr (0, [.ref (a 38), .int (i2 (gI s 741))])) := rfl
set_option maxRecDepth 100000 in
theorem CW_w37_1 (v : Int) : (CW D a c1 c2 c3 c4 s).set 37 ((a 37), .inr (0, ([.ref (a 38), .int (i2 (gI s 741))] : List Value).set 1 (.int (i2 v)))) = CW D a c1 c2 c3 c4 (sI s 741 v) := rfl
set_option maxRecDepth 100000 in
theorem CW_38 : (CW D a c1 c2 c3 c4 s)[38]? = some ((a 38), .inl (D.1 13, 1600, .inl (fun j => i2 (gA s 38 j)))) := rfl
set_option maxRecDepth 100000 in
theorem CW_w38 (g : Nat → Int) : (CW D a c1 c2 c3 c4 s).set 38 ((a 38), .inl (D.1 13, 1600, .inl (fun j => i2 (g j)))) = CW D a c1 c2 c3 c4 (sA s 38 g) := rfl
set_option maxRecDepth 100000 in
theorem CW_39 : (CW D a c1 c2 c3 c4 s)[39]? = some ((a 39), .inr (5, [.int (i2 (gI s 780)), .int (i2 (gI s 781)), .int (i2 (gI s 782)), .int (i2 (gI s 783)), .int (i2 (gI s 784)), .int (i2 (gI s 785)), .ref (a 40), .ref (a 41), .ref (a 42), .ref (a 43), .ref (a 44), .ref (a 47), .ref (a 45), .ref (a 46)])) := rfl
set_option maxRecDepth 100000 in
theorem CW_w39_0 (v : Int) : (CW D a c1 c2 c3 c4 s).set 39 ((a 39), .inr (5, ([.int (i2 (gI s 780)), .int (i2 (gI s 781)), .int (i2 (gI s 782)), .int (i2 (gI s 783)), .int (i2 (gI s 784)), .int (i2 (gI s 785)), .ref (a 40), .ref (a 41), .ref (a 42), .ref (a 43), .ref (a 44), .ref (a 47), .ref (a 45), .ref (a 46)] : List Value).set 0 (.int (i2 v)))) = CW D a c1 c2 c3 c4 (sI s 780 v) := rfl
set_option maxRecDepth 100000 in
theorem CW_w39_1 (v : Int) : (CW D a c1 c2 c3 c4 s).set 39 ((a 39), .inr (5, ([.int (i2 (gI s 780)), .int (i2 (gI s 781)), .int (i2 (gI s 782)), .int (i2 (gI s 783)), .int (i2 (gI s 784)), .int (i2 (gI s 785)), .ref (a 40), .ref (a 41), .ref (a 42), .ref (a 43), .ref (a 44), .ref (a 47), .ref (a 45), .ref (a 46)] : List Value).set 1 (.int (i2 v)))) = CW D a c1 c2 c3 c4 (sI s 781 v) := rfl
set_option maxRecDepth 100000 in
theorem CW_w39_2 (v : Int) : (CW D a c1 c2 c3 c4 s).set 39 ((a 39), .inr (5, ([.int (i2 (gI s 780)), .int (i2 (gI s 781)), .int (i2 (gI s 782)), .int (i2 (gI s 783)), .int (i2 (gI s 784)), .int (i2 (gI s 785)), .ref (a 40), .ref (a 41), .ref (a 42), .ref (a 43), .ref (a 44), .ref (a 47), .ref (a 45), .ref (a 46)] : List Value).set 2 (.int (i2 v)))) = CW D a c1 c2 c3 c4 (sI s 782 v) := rfl
set_option maxRecDepth 100000 in
theorem CW_w39_3 (v : Int) : (CW D a c1 c2 c3 c4 s).set 39 ((a 39), .inr (5, ([.int (i2 (gI s 780)), .int (i2 (gI s 781)), .int (i2 (gI s 782)), .int (i2 (gI s 783)), .int (i2 (gI s 784)), .int (i2 (gI s 785)), .ref (a 40), .ref (a 41), .ref (a 42), .ref (a 43), .ref (a 44), .ref (a 47), .ref (a 45), .ref (a 46)] : List Value).set 3 (.int (i2 v)))) = CW D a c1 c2 c3 c4 (sI s 783 v) := rfl
set_option maxRecDepth 100000 in
theorem CW_w39_4 (v : Int) : (CW D a c1 c2 c3 c4 s).set 39 ((a 39), .inr (5, ([.int (i2 (gI s 780)), .int (i2 (gI s 781)), .int (i2 (gI s 782)), .int (i2 (gI s 783)), .int (i2 (gI s 784)), .int (i2 (gI s 785)), .ref (a 40), .ref (a 41), .ref (a 42), .ref (a 43), .ref (a 44), .ref (a 47), .ref (a 45), .ref (a 46)] : List Value).set 4 (.int (i2 v)))) = CW D a c1 c2 c3 c4 (sI s 784 v) := rfl
set_option maxRecDepth 100000 in
theorem CW_w39_5 (v : Int) : (CW D a c1 c2 c3 c4 s).set 39 ((a 39), .inr (5, ([.int (i2 (gI s 780)), .int (i2 (gI s 781)), .int (i2 (gI s 782)), .int (i2 (gI s 783)), .int (i2 (gI s 784)), .int (i2 (gI s 785)), .ref (a 40), .ref (a 41), .ref (a 42), .ref (a 43), .ref (a 44), .ref (a 47), .ref (a 45), .ref (a 46)] : List Value).set 5 (.int (i2 v)))) = CW D a c1 c2 c3 c4 (sI s 785 v) := rfl
set_option maxRecDepth 100000 in
theorem CW_40 : (CW D a c1 c2 c3 c4 s)[40]? = some ((a 40), .inl (D.1 13, 48, .inl (fun j => i2 (gA s 40 j)))) := rfl
set_option maxRecDepth 100000 in
theorem CW_w40 (g : Nat → Int) : (CW D a c1 c2 c3 c4 s).set 40 ((a 40), .inl (D.1 13, 48, .inl (fun j => i2 (g j)))) = CW D a c1 c2 c3 c4 (sA s 40 g) := rfl
set_option maxRecDepth 100000 in
theorem CW_41 : (CW D a c1 c2 c3 c4 s)[41]? = some ((a 41), .inl (D.1 13, 60, .inl (fun j => i2 (gA s 41 j)))) := rfl
set_option maxRecDepth 100000 in
theorem CW_w41 (g : Nat → Int) : (CW D a c1 c2 c3 c4 s).set 41 ((a 41), .inl (D.1 13, 60, .inl (fun j => i2 (g j)))) = CW D a c1 c2 c3 c4 (sA s 41 g) := rfl
set_option maxRecDepth 100000 in
theorem CW_42 : (CW D a c1 c2 c3 c4 s)[42]? = some ((a 42), .inl (D.1 13, 60, .inl (fun j => i2 (gA s 42 j)))) := rfl
set_option maxRecDepth 100000 in
theorem CW_w42 (g : Nat → Int) : (CW D a c1 c2 c3 c4 s).set 42 ((a 42), .inl (D.1 13, 60, .inl (fun j => i2 (g j)))) = CW D a c1 c2 c3 c4 (sA s 42 g) := rfl
set_option maxRecDepth 100000 in
theorem CW_43 : (CW D a c1 c2 c3 c4 s)[43]? = some ((a 43), .inl (D.1 13, 60, .inl (fun j => i2 (gA s 43 j)))) := rfl
set_option maxRecDepth 100000 in
theorem CW_w43 (g : Nat → Int) : (CW D a c1 c2 c3 c4 s).set 43 ((a 43), .inl (D.1 13, 60, .inl (fun j => i2 (g j)))) = CW D a c1 c2 c3 c4 (sA s 43 g) := rfl
set_option maxRecDepth 100000 in
theorem CW_44 : (CW D a c1 c2 c3 c4 s)[44]? = some ((a 44), .inl (D.1 13, 60, .inl (fun j => i2 (gA s 44 j)))) := rfl
set_option maxRecDepth 100000 in
theorem CW_w44 (g : Nat → Int) : (CW D a c1 c2 c3 c4 s).set 44 ((a 44), .inl (D.1 13, 60, .inl (fun j => i2 (g j)))) = CW D a c1 c2 c3 c4 (sA s 44 g) := rfl
set_option maxRecDepth 100000 in
theorem CW_45 : (CW D a c1 c2 c3 c4 s)[45]? = some ((a 45), .inl (D.1 13, 3, .inl (fun j => i2 (gA s 45 j)))) := rfl
set_option maxRecDepth 100000 in
theorem CW_w45 (g : Nat → Int) : (CW D a c1 c2 c3 c4 s).set 45 ((a 45), .inl (D.1 13, 3, .inl (fun j => i2 (g j)))) = CW D a c1 c2 c3 c4 (sA s 45 g) := rfl
set_option maxRecDepth 100000 in
theorem CW_46 : (CW D a c1 c2 c3 c4 s)[46]? = some ((a 46), .inl (D.1 13, 3, .inl (fun j => i2 (gA s 46 j)))) := rfl
set_option maxRecDepth 100000 in
theorem CW_w46 (g : Nat → Int) : (CW D a c1 c2 c3 c4 s).set 46 ((a 46), .inl (D.1 13, 3, .inl (fun j => i2 (g j)))) = CW D a c1 c2 c3 c4 (sA s 46 g) := rfl
set_option maxRecDepth 100000 in
theorem CW_47 : (CW D a c1 c2 c3 c4 s)[47]? = some ((a 47), .inr (0, [.ref (a 48), .int (i2 (gI s 941))])) := rfl
set_option maxRecDepth 100000 in
theorem CW_w47_1 (v : Int) : (CW D a c1 c2 c3 c4 s).set 47 ((a 47), .inr (0, ([.ref (a 48), .int (i2 (gI s 941))] : List Value).set 1 (.int (i2 v)))) = CW D a c1 c2 c3 c4 (sI s 941 v) := rfl
set_option maxRecDepth 100000 in
theorem CW_48 : (CW D a c1 c2 c3 c4 s)[48]? = some ((a 48), .inl (D.1 13, 1600, .inl (fun j => i2 (gA s 48 j)))) := rfl
set_option maxRecDepth 100000 in
theorem CW_w48 (g : Nat → Int) : (CW D a c1 c2 c3 c4 s).set 48 ((a 48), .inl (D.1 13, 1600, .inl (fun j => i2 (g j)))) = CW D a c1 c2 c3 c4 (sA s 48 g) := rfl
set_option maxRecDepth 100000 in
theorem CW_49 : (CW D a c1 c2 c3 c4 s)[49]? = some ((a 49), .inr (1, [.ref (a 53), c4, .ref (a 71), .int (i2 (gI s 983)), c1, .ref (a 80), .ref (a 50), .ref (a 51), .ref (a 52)])) := rfl
set_option maxRecDepth 100000 in
theorem CW_w49_1 (v : Value) : (CW D a c1 c2 c3 c4 s).set 49 ((a 49), .inr (1, ([.ref (a 53), c4, .ref (a 71), .int (i2 (gI s 983)), c1, .ref (a 80), .ref (a 50), .ref (a 51), .ref (a 52)] : List Value).set 1 v)) = CW D a c1 c2 c3 v s := rfl
set_option maxRecDepth 100000 in
theorem CW_w49_3 (v : Int) : (CW D a c1 c2 c3 c4 s).set 49 ((a 49), .inr (1, ([.ref (a 53), c4, .ref (a 71), .int (i2 (gI s 983)), c1, .ref (a 80), .ref (a 50), .ref (a 51), .ref (a 52)] : List Value).set 3 (.int (i2 v)))) = CW D a c1 c2 c3 c4 (sI s 983 v) := rfl
set_option maxRecDepth 100000 in
theorem CW_w49_4 (v : Value) : (CW D a c1 c2 c3 c4 s).set 49 ((a 49), .inr (1, ([.ref (a 53), c4, .ref (a 71), .int (i2 (gI s 983)), c1, .ref (a 80), .ref (a 50), .ref (a 51), .ref (a 52)] : List Value).set 4 v)) = CW D a v c2 c3 c4 s := rfl
set_option maxRecDepth 100000 in
theorem CW_50 : (CW D a c1 c2 c3 c4 s)[50]? = some ((a 50), .inl (D.1 13, 48, .inl (fun j => i2 (gA s 50 j)))) := rfl
set_option maxRecDepth 100000 in
theorem CW_w50 (g : Nat → Int) : (CW D a c1 c2 c3 c4 s).set 50 ((a 50), .inl (D.1 13, 48, .inl (fun j => i2 (g j)))) = CW D a c1 c2 c3 c4 (sA s 50 g) := rfl
set_option maxRecDepth 100000 in
theorem CW_51 : (CW D a c1 c2 c3 c4 s)[51]? = some ((a 51), .inl (D.1 13, 48, .inl (fun j => i2 (gA s 51 j)))) := rfl
set_option maxRecDepth 100000 in
theorem CW_w51 (g : Nat → Int) : (CW D a c1 c2 c3 c4 s).set 51 ((a 51), .inl (D.1 13, 48, .inl (fun j => i2 (g j)))) = CW D a c1 c2 c3 c4 (sA s 51 g) := rfl
set_option maxRecDepth 100000 in
theorem CW_52 : (CW D a c1 c2 c3 c4 s)[52]? = some ((a 52), .inl (D.1 13, 48, .inl (fun j => i2 (gA s 52 j)))) := rfl
set_option maxRecDepth 100000 in
theorem CW_w52 (g : Nat → Int) : (CW D a c1 c2 c3 c4 s).set 52 ((a 52), .inl (D.1 13, 48, .inl (fun j => i2 (g j)))) = CW D a c1 c2 c3 c4 (sA s 52 g) := rfl
set_option maxRecDepth 100000 in
theorem CW_53 : (CW D a c1 c2 c3 c4 s)[53]? = some ((a 53), .inr (8, [.int (i2 (gI s 1060)), .int (i2 (gI s 1061)), .long (i8 (gL s 1062)), .ref (a 54), .ref (a 55), .ref (a 56), .ref (a 57), .ref (a 58), .ref (a 59), .ref (a 60), .ref (a 61)])) := rfl
set_option maxRecDepth 100000 in
theorem CW_w53_0 (v : Int) : (CW D a c1 c2 c3 c4 s).set 53 ((a 53), .inr (8, ([.int (i2 (gI s 1060)), .int (i2 (gI s 1061)), .long (i8 (gL s 1062)), .ref (a 54), .ref (a 55), .ref (a 56), .ref (a 57), .ref (a 58), .ref (a 59), .ref (a 60), .ref (a 61)] : List Value).set 0 (.int (i2 v)))) = CW D a c1 c2 c3 c4 (sI s 1060 v) := rfl
set_option maxRecDepth 100000 in
theorem CW_w53_1 (v : Int) : (CW D a c1 c2 c3 c4 s).set 53 ((a 53), .inr (8, ([.int (i2 (gI s 1060)), .int (i2 (gI s 1061)), .long (i8 (gL s 1062)), .ref (a 54), .ref (a 55), .ref (a 56), .ref (a 57), .ref (a 58), .ref (a 59), .ref (a 60), .ref (a 61)] : List Value).set 1 (.int (i2 v)))) = CW D a c1 c2 c3 c4 (sI s 1061 v) := rfl
set_option maxRecDepth 100000 in
theorem CW_w53_2 (v : Int) : (CW D a c1 c2 c3 c4 s).set 53 ((a 53), .inr (8, ([.int (i2 (gI s 1060)), .int (i2 (gI s 1061)), .long (i8 (gL s 1062)), .ref (a 54), .ref (a 55), .ref (a 56), .ref (a 57), .ref (a 58), .ref (a 59), .ref (a 60), .ref (a 61)] : List Value).set 2 (.long (i8 v)))) = CW D a c1 c2 c3 c4 (sL s 1062 v) := rfl
set_option maxRecDepth 100000 in
theorem CW_54 : (CW D a c1 c2 c3 c4 s)[54]? = some ((a 54), .inl (D.1 13, 48, .inl (fun j => i2 (gA s 54 j)))) := rfl
set_option maxRecDepth 100000 in
theorem CW_w54 (g : Nat → Int) : (CW D a c1 c2 c3 c4 s).set 54 ((a 54), .inl (D.1 13, 48, .inl (fun j => i2 (g j)))) = CW D a c1 c2 c3 c4 (sA s 54 g) := rfl
set_option maxRecDepth 100000 in
theorem CW_55 : (CW D a c1 c2 c3 c4 s)[55]? = some ((a 55), .inl (D.1 13, 48, .inl (fun j => i2 (gA s 55 j)))) := rfl
set_option maxRecDepth 100000 in
theorem CW_w55 (g : Nat → Int) : (CW D a c1 c2 c3 c4 s).set 55 ((a 55), .inl (D.1 13, 48, .inl (fun j => i2 (g j)))) = CW D a c1 c2 c3 c4 (sA s 55 g) := rfl
set_option maxRecDepth 100000 in
theorem CW_56 : (CW D a c1 c2 c3 c4 s)[56]? = some ((a 56), .inl (D.1 13, 48, .inl (fun j => i2 (gA s 56 j)))) := rfl
set_option maxRecDepth 100000 in
theorem CW_w56 (g : Nat → Int) : (CW D a c1 c2 c3 c4 s).set 56 ((a 56), .inl (D.1 13, 48, .inl (fun j => i2 (g j)))) = CW D a c1 c2 c3 c4 (sA s 56 g) := rfl
set_option maxRecDepth 100000 in
theorem CW_57 : (CW D a c1 c2 c3 c4 s)[57]? = some ((a 57), .inl (D.1 13, 48, .inl (fun j => i2 (gA s 57 j)))) := rfl
set_option maxRecDepth 100000 in
theorem CW_w57 (g : Nat → Int) : (CW D a c1 c2 c3 c4 s).set 57 ((a 57), .inl (D.1 13, 48, .inl (fun j => i2 (g j)))) = CW D a c1 c2 c3 c4 (sA s 57 g) := rfl
set_option maxRecDepth 100000 in
theorem CW_58 : (CW D a c1 c2 c3 c4 s)[58]? = some ((a 58), .inl (D.1 13, 288, .inl (fun j => i2 (gA s 58 j)))) := rfl
set_option maxRecDepth 100000 in
theorem CW_w58 (g : Nat → Int) : (CW D a c1 c2 c3 c4 s).set 58 ((a 58), .inl (D.1 13, 288, .inl (fun j => i2 (g j)))) = CW D a c1 c2 c3 c4 (sA s 58 g) := rfl
set_option maxRecDepth 100000 in
theorem CW_59 : (CW D a c1 c2 c3 c4 s)[59]? = some ((a 59), .inl (D.1 13, 288, .inl (fun j => i2 (gA s 59 j)))) := rfl
set_option maxRecDepth 100000 in
theorem CW_w59 (g : Nat → Int) : (CW D a c1 c2 c3 c4 s).set 59 ((a 59), .inl (D.1 13, 288, .inl (fun j => i2 (g j)))) = CW D a c1 c2 c3 c4 (sA s 59 g) := rfl
set_option maxRecDepth 100000 in
theorem CW_60 : (CW D a c1 c2 c3 c4 s)[60]? = some ((a 60), .inl (D.1 13, 8, .inl (fun j => i2 (gA s 60 j)))) := rfl
set_option maxRecDepth 100000 in
theorem CW_w60 (g : Nat → Int) : (CW D a c1 c2 c3 c4 s).set 60 ((a 60), .inl (D.1 13, 8, .inl (fun j => i2 (g j)))) = CW D a c1 c2 c3 c4 (sA s 60 g) := rfl
set_option maxRecDepth 100000 in
theorem CW_61 : (CW D a c1 c2 c3 c4 s)[61]? = some ((a 61), .inl (D.1 13, 8, .inl (fun j => i2 (gA s 61 j)))) := rfl
set_option maxRecDepth 100000 in
theorem CW_w61 (g : Nat → Int) : (CW D a c1 c2 c3 c4 s).set 61 ((a 61), .inl (D.1 13, 8, .inl (fun j => i2 (g j)))) = CW D a c1 c2 c3 c4 (sA s 61 g) := rfl
set_option maxRecDepth 100000 in
theorem CW_62 : (CW D a c1 c2 c3 c4 s)[62]? = some ((a 62), .inr (8, [.int (i2 (gI s 1240)), .int (i2 (gI s 1241)), .long (i8 (gL s 1242)), .ref (a 63), .ref (a 64), .ref (a 65), .ref (a 66), .ref (a 67), .ref (a 68), .ref (a 69), .ref (a 70)])) := rfl
set_option maxRecDepth 100000 in
theorem CW_w62_0 (v : Int) : (CW D a c1 c2 c3 c4 s).set 62 ((a 62), .inr (8, ([.int (i2 (gI s 1240)), .int (i2 (gI s 1241)), .long (i8 (gL s 1242)), .ref (a 63), .ref (a 64), .ref (a 65), .ref (a 66), .ref (a 67), .ref (a 68), .ref (a 69), .ref (a 70)] : List Value).set 0 (.int (i2 v)))) = CW D a c1 c2 c3 c4 (sI s 1240 v) := rfl
set_option maxRecDepth 100000 in
theorem CW_w62_1 (v : Int) : (CW D a c1 c2 c3 c4 s).set 62 ((a 62), .inr (8, ([.int (i2 (gI s 1240)), .int (i2 (gI s 1241)), .long (i8 (gL s 1242)), .ref (a 63), .ref (a 64), .ref (a 65), .ref (a 66), .ref (a 67), .ref (a 68), .ref (a 69), .ref (a 70)] : List Value).set 1 (.int (i2 v)))) = CW D a c1 c2 c3 c4 (sI s 1241 v) := rfl
set_option maxRecDepth 100000 in
theorem CW_w62_2 (v : Int) : (CW D a c1 c2 c3 c4 s).set 62 ((a 62), .inr (8, ([.int (i2 (gI s 1240)), .int (i2 (gI s 1241)), .long (i8 (gL s 1242)), .ref (a 63), .ref (a 64), .ref (a 65), .ref (a 66), .ref (a 67), .ref (a 68), .ref (a 69), .ref (a 70)] : List Value).set 2 (.long (i8 v)))) = CW D a c1 c2 c3 c4 (sL s 1242 v) := rfl
set_option maxRecDepth 100000 in
theorem CW_63 : (CW D a c1 c2 c3 c4 s)[63]? = some ((a 63), .inl (D.1 13, 48, .inl (fun j => i2 (gA s 63 j)))) := rfl
set_option maxRecDepth 100000 in
theorem CW_w63 (g : Nat → Int) : (CW D a c1 c2 c3 c4 s).set 63 ((a 63), .inl (D.1 13, 48, .inl (fun j => i2 (g j)))) = CW D a c1 c2 c3 c4 (sA s 63 g) := rfl
set_option maxRecDepth 100000 in
theorem CW_64 : (CW D a c1 c2 c3 c4 s)[64]? = some ((a 64), .inl (D.1 13, 48, .inl (fun j => i2 (gA s 64 j)))) := rfl
set_option maxRecDepth 100000 in
theorem CW_w64 (g : Nat → Int) : (CW D a c1 c2 c3 c4 s).set 64 ((a 64), .inl (D.1 13, 48, .inl (fun j => i2 (g j)))) = CW D a c1 c2 c3 c4 (sA s 64 g) := rfl
set_option maxRecDepth 100000 in
theorem CW_65 : (CW D a c1 c2 c3 c4 s)[65]? = some ((a 65), .inl (D.1 13, 48, .inl (fun j => i2 (gA s 65 j)))) := rfl
set_option maxRecDepth 100000 in
theorem CW_w65 (g : Nat → Int) : (CW D a c1 c2 c3 c4 s).set 65 ((a 65), .inl (D.1 13, 48, .inl (fun j => i2 (g j)))) = CW D a c1 c2 c3 c4 (sA s 65 g) := rfl
set_option maxRecDepth 100000 in
theorem CW_66 : (CW D a c1 c2 c3 c4 s)[66]? = some ((a 66), .inl (D.1 13, 48, .inl (fun j => i2 (gA s 66 j)))) := rfl
set_option maxRecDepth 100000 in
theorem CW_w66 (g : Nat → Int) : (CW D a c1 c2 c3 c4 s).set 66 ((a 66), .inl (D.1 13, 48, .inl (fun j => i2 (g j)))) = CW D a c1 c2 c3 c4 (sA s 66 g) := rfl
set_option maxRecDepth 100000 in
theorem CW_67 : (CW D a c1 c2 c3 c4 s)[67]? = some ((a 67), .inl (D.1 13, 288, .inl (fun j => i2 (gA s 67 j)))) := rfl
set_option maxRecDepth 100000 in
theorem CW_w67 (g : Nat → Int) : (CW D a c1 c2 c3 c4 s).set 67 ((a 67), .inl (D.1 13, 288, .inl (fun j => i2 (g j)))) = CW D a c1 c2 c3 c4 (sA s 67 g) := rfl
set_option maxRecDepth 100000 in
theorem CW_68 : (CW D a c1 c2 c3 c4 s)[68]? = some ((a 68), .inl (D.1 13, 288, .inl (fun j => i2 (gA s 68 j)))) := rfl
set_option maxRecDepth 100000 in
theorem CW_w68 (g : Nat → Int) : (CW D a c1 c2 c3 c4 s).set 68 ((a 68), .inl (D.1 13, 288, .inl (fun j => i2 (g j)))) = CW D a c1 c2 c3 c4 (sA s 68 g) := rfl
set_option maxRecDepth 100000 in
theorem CW_69 : (CW D a c1 c2 c3 c4 s)[69]? = some ((a 69), .inl (D.1 13, 8, .inl (fun j => i2 (gA s 69 j)))) := rfl
set_option maxRecDepth 100000 in
theorem CW_w69 (g : Nat → Int) : (CW D a c1 c2 c3 c4 s).set 69 ((a 69), .inl (D.1 13, 8, .inl (fun j => i2 (g j)))) = CW D a c1 c2 c3 c4 (sA s 69 g) := rfl
set_option maxRecDepth 100000 in
theorem CW_70 : (CW D a c1 c2 c3 c4 s)[70]? = some ((a 70), .inl (D.1 13, 8, .inl (fun j => i2 (gA s 70 j)))) := rfl
set_option maxRecDepth 100000 in
theorem CW_w70 (g : Nat → Int) : (CW D a c1 c2 c3 c4 s).set 70 ((a 70), .inl (D.1 13, 8, .inl (fun j => i2 (g j)))) = CW D a c1 c2 c3 c4 (sA s 70 g) := rfl
set_option maxRecDepth 100000 in
theorem CW_71 : (CW D a c1 c2 c3 c4 s)[71]? = some ((a 71), .inr (8, [.int (i2 (gI s 1420)), .int (i2 (gI s 1421)), .long (i8 (gL s 1422)), .ref (a 72), .ref (a 73), .ref (a 74), .ref (a 75), .ref (a 76), .ref (a 77), .ref (a 78), .ref (a 79)])) := rfl
set_option maxRecDepth 100000 in
theorem CW_w71_0 (v : Int) : (CW D a c1 c2 c3 c4 s).set 71 ((a 71), .inr (8, ([.int (i2 (gI s 1420)), .int (i2 (gI s 1421)), .long (i8 (gL s 1422)), .ref (a 72), .ref (a 73), .ref (a 74), .ref (a 75), .ref (a 76), .ref (a 77), .ref (a 78), .ref (a 79)] : List Value).set 0 (.int (i2 v)))) = CW D a c1 c2 c3 c4 (sI s 1420 v) := rfl
set_option maxRecDepth 100000 in
theorem CW_w71_1 (v : Int) : (CW D a c1 c2 c3 c4 s).set 71 ((a 71), .inr (8, ([.int (i2 (gI s 1420)), .int (i2 (gI s 1421)), .long (i8 (gL s 1422)), .ref (a 72), .ref (a 73), .ref (a 74), .ref (a 75), .ref (a 76), .ref (a 77), .ref (a 78), .ref (a 79)] : List Value).set 1 (.int (i2 v)))) = CW D a c1 c2 c3 c4 (sI s 1421 v) := rfl
set_option maxRecDepth 100000 in
theorem CW_w71_2 (v : Int) : (CW D a c1 c2 c3 c4 s).set 71 ((a 71), .inr (8, ([.int (i2 (gI s 1420)), .int (i2 (gI s 1421)), .long (i8 (gL s 1422)), .ref (a 72), .ref (a 73), .ref (a 74), .ref (a 75), .ref (a 76), .ref (a 77), .ref (a 78), .ref (a 79)] : List Value).set 2 (.long (i8 v)))) = CW D a c1 c2 c3 c4 (sL s 1422 v) := rfl
set_option maxRecDepth 100000 in
theorem CW_72 : (CW D a c1 c2 c3 c4 s)[72]? = some ((a 72), .inl (D.1 13, 48, .inl (fun j => i2 (gA s 72 j)))) := rfl
set_option maxRecDepth 100000 in
theorem CW_w72 (g : Nat → Int) : (CW D a c1 c2 c3 c4 s).set 72 ((a 72), .inl (D.1 13, 48, .inl (fun j => i2 (g j)))) = CW D a c1 c2 c3 c4 (sA s 72 g) := rfl
set_option maxRecDepth 100000 in
theorem CW_73 : (CW D a c1 c2 c3 c4 s)[73]? = some ((a 73), .inl (D.1 13, 48, .inl (fun j => i2 (gA s 73 j)))) := rfl
set_option maxRecDepth 100000 in
theorem CW_w73 (g : Nat → Int) : (CW D a c1 c2 c3 c4 s).set 73 ((a 73), .inl (D.1 13, 48, .inl (fun j => i2 (g j)))) = CW D a c1 c2 c3 c4 (sA s 73 g) := rfl
set_option maxRecDepth 100000 in
theorem CW_74 : (CW D a c1 c2 c3 c4 s)[74]? = some ((a 74), .inl (D.1 13, 48, .inl (fun j => i2 (gA s 74 j)))) := rfl
set_option maxRecDepth 100000 in
theorem CW_w74 (g : Nat → Int) : (CW D a c1 c2 c3 c4 s).set 74 ((a 74), .inl (D.1 13, 48, .inl (fun j => i2 (g j)))) = CW D a c1 c2 c3 c4 (sA s 74 g) := rfl
set_option maxRecDepth 100000 in
theorem CW_75 : (CW D a c1 c2 c3 c4 s)[75]? = some ((a 75), .inl (D.1 13, 48, .inl (fun j => i2 (gA s 75 j)))) := rfl
set_option maxRecDepth 100000 in
theorem CW_w75 (g : Nat → Int) : (CW D a c1 c2 c3 c4 s).set 75 ((a 75), .inl (D.1 13, 48, .inl (fun j => i2 (g j)))) = CW D a c1 c2 c3 c4 (sA s 75 g) := rfl
set_option maxRecDepth 100000 in
theorem CW_76 : (CW D a c1 c2 c3 c4 s)[76]? = some ((a 76), .inl (D.1 13, 288, .inl (fun j => i2 (gA s 76 j)))) := rfl
set_option maxRecDepth 100000 in
theorem CW_w76 (g : Nat → Int) : (CW D a c1 c2 c3 c4 s).set 76 ((a 76), .inl (D.1 13, 288, .inl (fun j => i2 (g j)))) = CW D a c1 c2 c3 c4 (sA s 76 g) := rfl
set_option maxRecDepth 100000 in
theorem CW_77 : (CW D a c1 c2 c3 c4 s)[77]? = some ((a 77), .inl (D.1 13, 288, .inl (fun j => i2 (gA s 77 j)))) := rfl
set_option maxRecDepth 100000 in
theorem CW_w77 (g : Nat → Int) : (CW D a c1 c2 c3 c4 s).set 77 ((a 77), .inl (D.1 13, 288, .inl (fun j => i2 (g j)))) = CW D a c1 c2 c3 c4 (sA s 77 g) := rfl
set_option maxRecDepth 100000 in
theorem CW_78 : (CW D a c1 c2 c3 c4 s)[78]? = some ((a 78), .inl (D.1 13, 8, .inl (fun j => i2 (gA s 78 j)))) := rfl
set_option maxRecDepth 100000 in
theorem CW_w78 (g : Nat → Int) : (CW D a c1 c2 c3 c4 s).set 78 ((a 78), .inl (D.1 13, 8, .inl (fun j => i2 (g j)))) = CW D a c1 c2 c3 c4 (sA s 78 g) := rfl
set_option maxRecDepth 100000 in
theorem CW_79 : (CW D a c1 c2 c3 c4 s)[79]? = some ((a 79), .inl (D.1 13, 8, .inl (fun j => i2 (gA s 79 j)))) := rfl
set_option maxRecDepth 100000 in
theorem CW_w79 (g : Nat → Int) : (CW D a c1 c2 c3 c4 s).set 79 ((a 79), .inl (D.1 13, 8, .inl (fun j => i2 (g j)))) = CW D a c1 c2 c3 c4 (sA s 79 g) := rfl
set_option maxRecDepth 100000 in
theorem CW_80 : (CW D a c1 c2 c3 c4 s)[80]? = some ((a 80), .inr (3, [.ref (a 81), .int (i2 (gI s 1601)), .int (i2 (gI s 1602)), .int (i2 (gI s 1603)), .int (i2 (gI s 1604)), .int (i2 (gI s 1605)), .int (i2 (gI s 1606)), .int (i2 (gI s 1607)), .int (i2 (gI s 1608)), .ref (a 53)])) := rfl
set_option maxRecDepth 100000 in
theorem CW_w80_1 (v : Int) : (CW D a c1 c2 c3 c4 s).set 80 ((a 80), .inr (3, ([.ref (a 81), .int (i2 (gI s 1601)), .int (i2 (gI s 1602)), .int (i2 (gI s 1603)), .int (i2 (gI s 1604)), .int (i2 (gI s 1605)), .int (i2 (gI s 1606)), .int (i2 (gI s 1607)), .int (i2 (gI s 1608)), .ref (a 53)] : List Value).set 1 (.int (i2 v)))) = CW D a c1 c2 c3 c4 (sI s 1601 v) := rfl
set_option maxRecDepth 100000 in
theorem CW_w80_2 (v : Int) : (CW D a c1 c2 c3 c4 s).set 80 ((a 80), .inr (3, ([.ref (a 81), .int (i2 (gI s 1601)), .int (i2 (gI s 1602)), .int (i2 (gI s 1603)), .int (i2 (gI s 1604)), .int (i2 (gI s 1605)), .int (i2 (gI s 1606)), .int (i2 (gI s 1607)), .int (i2 (gI s 1608)), .ref (a 53)] : List Value).set 2 (.int (i2 v)))) = CW D a c1 c2 c3 c4 (sI s 1602 v) := rfl
set_option maxRecDepth 100000 in
theorem CW_w80_3 (v : Int) : (CW D a c1 c2 c3 c4 s).set 80 ((a 80), .inr (3, ([.ref (a 81), .int (i2 (gI s 1601)), .int (i2 (gI s 1602)), .int (i2 (gI s 1603)), .int (i2 (gI s 1604)), .int (i2 (gI s 1605)), .int (i2 (gI s 1606)), .int (i2 (gI s 1607)), .int (i2 (gI s 1608)), .ref (a 53)] : List Value).set 3 (.int (i2 v)))) = CW D a c1 c2 c3 c4 (sI s 1603 v) := rfl
set_option maxRecDepth 100000 in
theorem CW_w80_4 (v : Int) : (CW D a c1 c2 c3 c4 s).set 80 ((a 80), .inr (3, ([.ref (a 81), .int (i2 (gI s 1601)), .int (i2 (gI s 1602)), .int (i2 (gI s 1603)), .int (i2 (gI s 1604)), .int (i2 (gI s 1605)), .int (i2 (gI s 1606)), .int (i2 (gI s 1607)), .int (i2 (gI s 1608)), .ref (a 53)] : List Value).set 4 (.int (i2 v)))) = CW D a c1 c2 c3 c4 (sI s 1604 v) := rfl
set_option maxRecDepth 100000 in
theorem CW_w80_5 (v : Int) : (CW D a c1 c2 c3 c4 s).set 80 ((a 80), .inr (3, ([.ref (a 81), .int (i2 (gI s 1601)), .int (i2 (gI s 1602)), .int (i2 (gI s 1603)), .int (i2 (gI s 1604)), .int (i2 (gI s 1605)), .int (i2 (gI s 1606)), .int (i2 (gI s 1607)), .int (i2 (gI s 1608)), .ref (a 53)] : List Value).set 5 (.int (i2 v)))) = CW D a c1 c2 c3 c4 (sI s 1605 v) := rfl
set_option maxRecDepth 100000 in
theorem CW_w80_6 (v : Int) : (CW D a c1 c2 c3 c4 s).set 80 ((a 80), .inr (3, ([.ref (a 81), .int (i2 (gI s 1601)), .int (i2 (gI s 1602)), .int (i2 (gI s 1603)), .int (i2 (gI s 1604)), .int (i2 (gI s 1605)), .int (i2 (gI s 1606)), .int (i2 (gI s 1607)), .int (i2 (gI s 1608)), .ref (a 53)] : List Value).set 6 (.int (i2 v)))) = CW D a c1 c2 c3 c4 (sI s 1606 v) := rfl
set_option maxRecDepth 100000 in
theorem CW_w80_7 (v : Int) : (CW D a c1 c2 c3 c4 s).set 80 ((a 80), .inr (3, ([.ref (a 81), .int (i2 (gI s 1601)), .int (i2 (gI s 1602)), .int (i2 (gI s 1603)), .int (i2 (gI s 1604)), .int (i2 (gI s 1605)), .int (i2 (gI s 1606)), .int (i2 (gI s 1607)), .int (i2 (gI s 1608)), .ref (a 53)] : List Value).set 7 (.int (i2 v)))) = CW D a c1 c2 c3 c4 (sI s 1607 v) := rfl
set_option maxRecDepth 100000 in
theorem CW_w80_8 (v : Int) : (CW D a c1 c2 c3 c4 s).set 80 ((a 80), .inr (3, ([.ref (a 81), .int (i2 (gI s 1601)), .int (i2 (gI s 1602)), .int (i2 (gI s 1603)), .int (i2 (gI s 1604)), .int (i2 (gI s 1605)), .int (i2 (gI s 1606)), .int (i2 (gI s 1607)), .int (i2 (gI s 1608)), .ref (a 53)] : List Value).set 8 (.int (i2 v)))) = CW D a c1 c2 c3 c4 (sI s 1608 v) := rfl
set_option maxRecDepth 100000 in
theorem CW_81 : (CW D a c1 c2 c3 c4 s)[81]? = some ((a 81), .inl (D.1 13, 64, .inl (fun j => i2 (gA s 81 j)))) := rfl
set_option maxRecDepth 100000 in
theorem CW_w81 (g : Nat → Int) : (CW D a c1 c2 c3 c4 s).set 81 ((a 81), .inl (D.1 13, 64, .inl (fun j => i2 (g j)))) = CW D a c1 c2 c3 c4 (sA s 81 g) := rfl
end WC
