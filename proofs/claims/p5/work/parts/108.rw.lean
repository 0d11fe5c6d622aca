set_option maxRecDepth 100000 in
/-- the fields of the reference -/
def mF (a : Nat → Nat) (s : MS) : List Value :=
  Value.ref (a 0) :: Value.int (i2 (gI s 1)) :: Value.int (i2 (gI s 2)) :: Value.int (i2 (gI s 3)) :: Value.int (i2 (gI s 4)) :: Value.int (i2 (gI s 5)) :: Value.int (i2 (gI s 6)) :: Value.int (i2 (gI s 7)) :: Value.int (i2 (gI s 8)) :: Value.ref (a 9) :: Value.int (i2 (gI s 10)) :: Value.ref (a 11) :: Value.ref (a 12) :: Value.ref (a 13) :: Value.ref (a 14) :: Value.ref (a 15) :: Value.ref (a 16) :: Value.ref (a 17) :: Value.ref (a 18) :: Value.ref (a 19) :: Value.ref (a 20) :: Value.ref (a 21) :: Value.ref (a 22) :: Value.ref (a 23) :: Value.ref (a 24) :: Value.ref (a 25) :: Value.ref (a 26) :: Value.ref (a 27) :: Value.ref (a 28) :: Value.ref (a 29) :: Value.ref (a 30) :: Value.ref (a 31) :: Value.ref (a 32) :: Value.ref (a 33) :: Value.ref (a 34) :: Value.ref (a 35) :: Value.ref (a 36) :: Value.ref (a 37) :: Value.int (i2 (gI s 38)) :: Value.ref (a 39) :: Value.ref (a 40) :: Value.ref (a 41) :: Value.ref (a 42) :: Value.ref (a 43) :: Value.ref (a 44) :: Value.int (i2 (gI s 45)) :: Value.int (i2 (gI s 46)) :: Value.int (i2 (gI s 47)) :: Value.int (i2 (gI s 48)) :: Value.ref (a 49) :: Value.int (i2 (gI s 50)) :: Value.int (i2 (gI s 51)) :: Value.int (i2 (gI s 52)) :: Value.int (i2 (gI s 53)) :: Value.ref (a 54) :: Value.int (i2 (gI s 55)) :: Value.ref (a 56) :: Value.ref (a 57) :: Value.ref (a 58) :: Value.ref (a 59) :: Value.ref (a 60) :: Value.ref (a 61) :: Value.ref (a 62) :: Value.ref (a 63) :: Value.ref (a 64) :: Value.ref (a 65) :: Value.ref (a 66) :: Value.int (i2 (gI s 67)) :: Value.int (i2 (gI s 68)) :: Value.ref (a 69) :: Value.int (i2 (gI s 70)) :: Value.int (i2 (gI s 71)) :: Value.ref (a 72) :: Value.int (i2 (gI s 73)) :: Value.ref (a 74) :: Value.ref (a 75) :: Value.int (i2 (gI s 76)) :: Value.int (i2 (gI s 77)) :: Value.long (i8 (gL s 78)) :: Value.ref (a 79) :: Value.ref (a 80) :: Value.ref (a 81) :: Value.ref (a 82) :: Value.ref (a 83) :: Value.ref (a 84) :: Value.ref (a 85) :: Value.ref (a 86) :: Value.ref (a 87) :: Value.ref (a 88) :: Value.ref (a 89) :: Value.ref (a 90) :: Value.ref (a 91) :: Value.ref (a 92) :: Value.ref (a 93) :: Value.ref (a 94) :: Value.ref (a 95) :: Value.ref (a 96) :: Value.ref (a 97) :: Value.ref (a 98) :: Value.ref (a 99) :: Value.ref (a 100) :: Value.ref (a 101) :: Value.int (i2 (gI s 102)) :: Value.ref (a 103) :: Value.int (i2 (gI s 104)) :: Value.int (i2 (gI s 105)) :: Value.int (i2 (gI s 106)) :: Value.ref (a 107) :: Value.int (i2 (gI s 108)) :: Value.long (i8 (gL s 109)) :: Value.int (i2 (gI s 110)) :: Value.ref (a 111) :: Value.int (i2 (gI s 112)) :: Value.ref (a 113) :: Value.int (i2 (gI s 114)) :: Value.ref (a 115) :: []
set_option maxRecDepth 100000 in
/-- the reference's cells -/
def RW (D : va_G) (a : Nat → Nat) (s : MS) : va_W :=
  ((a 200), .inr (12, mF a s)) ::
  ((a 0), .inl (D.1 13, 1600, .inl (fun j => i2 (gA s 0 j)))) ::
  ((a 9), .inl (D.1 13, 6, .inl (fun j => i2 (gA s 9 j)))) ::
  ((a 11), .inl (D.1 14, 6, .inl (fun j => i2 (gA s 11 j)))) ::
  ((a 12), .inl (D.1 14, 4, .inl (fun j => i2 (gA s 12 j)))) ::
  ((a 13), .inl (D.1 14, 6, .inl (fun j => i2 (gA s 13 j)))) ::
  ((a 14), .inl (D.1 14, 5, .inl (fun j => i2 (gA s 14 j)))) ::
  ((a 15), .inl (D.1 14, 2, .inl (fun j => i2 (gA s 15 j)))) ::
  ((a 16), .inl (D.1 14, 3, .inl (fun j => i2 (gA s 16 j)))) ::
  ((a 17), .inl (D.1 14, 6, .inl (fun j => i2 (gA s 17 j)))) ::
  ((a 18), .inl (D.1 14, 5, .inl (fun j => i2 (gA s 18 j)))) ::
  ((a 19), .inl (D.1 14, 6, .inl (fun j => i2 (gA s 19 j)))) ::
  ((a 20), .inl (D.1 14, 5, .inl (fun j => i2 (gA s 20 j)))) ::
  ((a 21), .inl (D.1 14, 5, .inl (fun j => i2 (gA s 21 j)))) ::
  ((a 22), .inl (D.1 14, 5, .inl (fun j => i2 (gA s 22 j)))) ::
  ((a 23), .inl (D.1 14, 4, .inl (fun j => i2 (gA s 23 j)))) ::
  ((a 24), .inl (D.1 14, 5, .inl (fun j => i2 (gA s 24 j)))) ::
  ((a 25), .inl (D.1 14, 7, .inl (fun j => i2 (gA s 25 j)))) ::
  ((a 26), .inl (D.1 14, 6, .inl (fun j => i2 (gA s 26 j)))) ::
  ((a 27), .inl (D.1 14, 5, .inl (fun j => i2 (gA s 27 j)))) ::
  ((a 28), .inl (D.1 14, 5, .inl (fun j => i2 (gA s 28 j)))) ::
  ((a 29), .inl (D.1 14, 5, .inl (fun j => i2 (gA s 29 j)))) ::
  ((a 30), .inl (D.1 14, 4, .inl (fun j => i2 (gA s 30 j)))) ::
  ((a 31), .inl (D.1 14, 3, .inl (fun j => i2 (gA s 31 j)))) ::
  ((a 32), .inl (D.1 14, 2, .inl (fun j => i2 (gA s 32 j)))) ::
  ((a 33), .inl (D.1 14, 3, .inl (fun j => i2 (gA s 33 j)))) ::
  ((a 34), .inl (D.1 14, 3, .inl (fun j => i2 (gA s 34 j)))) ::
  ((a 35), .inl (D.1 14, 3, .inl (fun j => i2 (gA s 35 j)))) ::
  ((a 36), .inl (D.1 14, 3, .inl (fun j => i2 (gA s 36 j)))) ::
  ((a 37), .inl (D.1 14, 3, .inl (fun j => i2 (gA s 37 j)))) ::
  ((a 39), .inl (D.1 13, 10, .inl (fun j => i2 (gA s 39 j)))) ::
  ((a 40), .inl (D.1 15, 16, .inr (.inl (fun j => i8 (gB s 40 j))))) ::
  ((a 41), .inl (D.1 13, 240, .inl (fun j => i2 (gA s 41 j)))) ::
  ((a 42), .inl (D.1 13, 6, .inl (fun j => i2 (gA s 42 j)))) ::
  ((a 43), .inl (D.1 13, 6, .inl (fun j => i2 (gA s 43 j)))) ::
  ((a 44), .inl (D.1 13, 3200, .inl (fun j => i2 (gA s 44 j)))) ::
  ((a 49), .inl (D.1 13, 906, .inl (fun j => i2 (gA s 49 j)))) ::
  ((a 54), .inl (D.1 16, 48, .inl (fun j => i2 (gA s 54 j)))) ::
  ((a 56), .inl (D.1 13, 300, .inl (fun j => i2 (gA s 56 j)))) ::
  ((a 57), .inl (D.1 13, 48, .inl (fun j => i2 (gA s 57 j)))) ::
  ((a 58), .inl (D.1 13, 48, .inl (fun j => i2 (gA s 58 j)))) ::
  ((a 59), .inl (D.1 13, 785, .inl (fun j => i2 (gA s 59 j)))) ::
  ((a 60), .inl (D.1 16, 48, .inl (fun j => i2 (gA s 60 j)))) ::
  ((a 61), .inl (D.1 13, 785, .inl (fun j => i2 (gA s 61 j)))) ::
  ((a 62), .inl (D.1 13, 300, .inl (fun j => i2 (gA s 62 j)))) ::
  ((a 63), .inl (D.1 16, 48, .inl (fun j => i2 (gA s 63 j)))) ::
  ((a 64), .inl (D.1 13, 300, .inl (fun j => i2 (gA s 64 j)))) ::
  ((a 65), .inl (D.1 13, 300, .inl (fun j => i2 (gA s 65 j)))) ::
  ((a 66), .inl (D.1 13, 300, .inl (fun j => i2 (gA s 66 j)))) ::
  ((a 69), .inl (D.1 16, 48, .inl (fun j => i2 (gA s 69 j)))) ::
  ((a 72), .inl (D.1 13, 48, .inl (fun j => i2 (gA s 72 j)))) ::
  ((a 74), .inl (D.1 13, 24, .inl (fun j => i2 (gA s 74 j)))) ::
  ((a 75), .inl (D.1 13, 18120, .inl (fun j => i2 (gA s 75 j)))) ::
  ((a 79), .inl (D.1 14, 5, .inl (fun j => i2 (gA s 79 j)))) ::
  ((a 80), .inl (D.1 14, 4, .inl (fun j => i2 (gA s 80 j)))) ::
  ((a 81), .inl (D.1 14, 5, .inl (fun j => i2 (gA s 81 j)))) ::
  ((a 82), .inl (D.1 14, 5, .inl (fun j => i2 (gA s 82 j)))) ::
  ((a 83), .inl (D.1 14, 4, .inl (fun j => i2 (gA s 83 j)))) ::
  ((a 84), .inl (D.1 14, 5, .inl (fun j => i2 (gA s 84 j)))) ::
  ((a 85), .inl (D.1 14, 3, .inl (fun j => i2 (gA s 85 j)))) ::
  ((a 86), .inl (D.1 14, 3, .inl (fun j => i2 (gA s 86 j)))) ::
  ((a 87), .inl (D.1 14, 2, .inl (fun j => i2 (gA s 87 j)))) ::
  ((a 88), .inl (D.1 14, 3, .inl (fun j => i2 (gA s 88 j)))) ::
  ((a 89), .inl (D.1 14, 3, .inl (fun j => i2 (gA s 89 j)))) ::
  ((a 90), .inl (D.1 14, 3, .inl (fun j => i2 (gA s 90 j)))) ::
  ((a 91), .inl (D.1 14, 5, .inl (fun j => i2 (gA s 91 j)))) ::
  ((a 92), .inl (D.1 14, 5, .inl (fun j => i2 (gA s 92 j)))) ::
  ((a 93), .inl (D.1 14, 4, .inl (fun j => i2 (gA s 93 j)))) ::
  ((a 94), .inl (D.1 14, 7, .inl (fun j => i2 (gA s 94 j)))) ::
  ((a 95), .inl (D.1 14, 6, .inl (fun j => i2 (gA s 95 j)))) ::
  ((a 96), .inl (D.1 14, 5, .inl (fun j => i2 (gA s 96 j)))) ::
  ((a 97), .inl (D.1 14, 5, .inl (fun j => i2 (gA s 97 j)))) ::
  ((a 98), .inl (D.1 14, 5, .inl (fun j => i2 (gA s 98 j)))) ::
  ((a 99), .inl (D.1 14, 4, .inl (fun j => i2 (gA s 99 j)))) ::
  ((a 100), .inl (D.1 14, 3, .inl (fun j => i2 (gA s 100 j)))) ::
  ((a 101), .inl (D.1 13, 1700, .inl (fun j => i2 (gA s 101 j)))) ::
  ((a 103), .inl (D.1 13, 1700, .inl (fun j => i2 (gA s 103 j)))) ::
  ((a 107), .inl (D.1 15, 1700, .inr (.inl (fun j => i8 (gB s 107 j))))) ::
  ((a 111), .inl (D.1 13, 1364, .inl (fun j => i2 (gA s 111 j)))) ::
  ((a 113), .inl (D.1 13, 785, .inl (fun j => i2 (gA s 113 j)))) ::
  ((a 115), .inl (D.1 13, 48, .inl (fun j => i2 (gA s 115 j)))) :: []
section WR
variable {D : va_G} {a : Nat → Nat} {s : MS} {A : Nat → Prop}
set_option maxRecDepth 100000 in
theorem RW_D (t : MS) (h : va_D A (RW D a s)) : va_D A (RW D a t) := va_D_same h rfl
set_option maxRecDepth 100000 in
theorem RW_A {sz : Nat} (t : MS) : va_A (RW D a t) sz = va_A (RW D a s) sz := va_A_same rfl
set_option maxRecDepth 100000 in
theorem mF_len : (mF a s).length = 116 := rfl
set_option maxRecDepth 100000 in
theorem mF_0 : (mF a s)[0]? = some (.ref (a 0)) := rfl
set_option maxRecDepth 100000 in
theorem mF_1 : (mF a s)[1]? = some (.int (i2 (gI s 1))) := rfl
set_option maxRecDepth 100000 in
theorem RW_f1 (v : Int) : (RW D a s).set 0 ((a 200), .inr (12, (mF a s).set 1 (.int (i2 v)))) = RW D a (sI s 1 v) := rfl
set_option maxRecDepth 100000 in
theorem mF_2 : (mF a s)[2]? = some (.int (i2 (gI s 2))) := rfl
set_option maxRecDepth 100000 in
theorem RW_f2 (v : Int) : (RW D a s).set 0 ((a 200), .inr (12, (mF a s).set 2 (.int (i2 v)))) = RW D a (sI s 2 v) := rfl
set_option maxRecDepth 100000 in
theorem mF_3 : (mF a s)[3]? = some (.int (i2 (gI s 3))) := rfl
set_option maxRecDepth 100000 in
theorem RW_f3 (v : Int) : (RW D a s).set 0 ((a 200), .inr (12, (mF a s).set 3 (.int (i2 v)))) = RW D a (sI s 3 v) := rfl
set_option maxRecDepth 100000 in
theorem mF_4 : (mF a s)[4]? = some (.int (i2 (gI s 4))) := rfl
set_option maxRecDepth 100000 in
theorem RW_f4 (v : Int) : (RW D a s).set 0 ((a 200), .inr (12, (mF a s).set 4 (.int (i2 v)))) = RW D a (sI s 4 v) := rfl
set_option maxRecDepth 100000 in
theorem mF_5 : (mF a s)[5]? = some (.int (i2 (gI s 5))) := rfl
set_option maxRecDepth 100000 in
theorem RW_f5 (v : Int) : (RW D a s).set 0 ((a 200), .inr (12, (mF a s).set 5 (.int (i2 v)))) = RW D a (sI s 5 v) := rfl
set_option maxRecDepth 100000 in
theorem mF_6 : (mF a s)[6]? = some (.int (i2 (gI s 6))) := rfl
set_option maxRecDepth 100000 in
theorem RW_f6 (v : Int) : (RW D a s).set 0 ((a 200), .inr (12, (mF a s).set 6 (.int (i2 v)))) = RW D a (sI s 6 v) := rfl
set_option maxRecDepth 100000 in
theorem mF_7 : (mF a s)[7]? = some (.int (i2 (gI s 7))) := rfl
set_option maxRecDepth 100000 in
theorem RW_f7 (v : Int) : (RW D a s).set 0 ((a 200), .inr (12, (mF a s).set 7 (.int (i2 v)))) = RW D a (sI s 7 v) := rfl
set_option maxRecDepth 100000 in
theorem mF_8 : (mF a s)[8]? = some (.int (i2 (gI s 8))) := rfl
set_option maxRecDepth 100000 in
theorem RW_f8 (v : Int) : (RW D a s).set 0 ((a 200), .inr (12, (mF a s).set 8 (.int (i2 v)))) = RW D a (sI s 8 v) := rfl
set_option maxRecDepth 100000 in
theorem mF_9 : (mF a s)[9]? = some (.ref (a 9)) := rfl
set_option maxRecDepth 100000 in
theorem mF_10 : (mF a s)[10]? = some (.int (i2 (gI s 10))) := rfl
set_option maxRecDepth 100000 in
theorem RW_f10 (v : Int) : (RW D a s).set 0 ((a 200), .inr (12, (mF a s).set 10 (.int (i2 v)))) = RW D a (sI s 10 v) := rfl
set_option maxRecDepth 100000 in
theorem mF_11 : (mF a s)[11]? = some (.ref (a 11)) := rfl
set_option maxRecDepth 100000 in
theorem mF_12 : (mF a s)[12]? = some (.ref (a 12)) := rfl
set_option maxRecDepth 100000 in
theorem mF_13 : (mF a s)[13]? = some (.ref (a 13)) := rfl
set_option maxRecDepth 100000 in
theorem mF_14 : (mF a s)[14]? = some (.ref (a 14)) := rfl
set_option maxRecDepth 100000 in
theorem mF_15 : (mF a s)[15]? = some (.ref (a 15)) := rfl
set_option maxRecDepth 100000 in
theorem mF_16 : (mF a s)[16]? = some (.ref (a 16)) := rfl
set_option maxRecDepth 100000 in
theorem mF_17 : (mF a s)[17]? = some (.ref (a 17)) := rfl
set_option maxRecDepth 100000 in
theorem mF_18 : (mF a s)[18]? = some (.ref (a 18)) := rfl
set_option maxRecDepth 100000 in
theorem mF_19 : (mF a s)[19]? = some (.ref (a 19)) := rfl
set_option maxRecDepth 100000 in
theorem mF_20 : (mF a s)[20]? = some (.ref (a 20)) := rfl
set_option maxRecDepth 100000 in
theorem mF_21 : (mF a s)[21]? = some (.ref (a 21)) := rfl
set_option maxRecDepth 100000 in
theorem mF_22 : (mF a s)[22]? = some (.ref (a 22)) := rfl
set_option maxRecDepth 100000 in
theorem mF_23 : (mF a s)[23]? = some (.ref (a 23)) := rfl
set_option maxRecDepth 100000 in
theorem mF_24 : (mF a s)[24]? = some (.ref (a 24)) := rfl
set_option maxRecDepth 100000 in
theorem mF_25 : (mF a s)[25]? = some (.ref (a 25)) := rfl
set_option maxRecDepth 100000 in
theorem mF_26 : (mF a s)[26]? = some (.ref (a 26)) := rfl
set_option maxRecDepth 100000 in
theorem mF_27 : (mF a s)[27]? = some (.ref (a 27)) := rfl
set_option maxRecDepth 100000 in
theorem mF_28 : (mF a s)[28]? = some (.ref (a 28)) := rfl
set_option maxRecDepth 100000 in
theorem mF_29 : (mF a s)[29]? = some (.ref (a 29)) := rfl
set_option maxRecDepth 100000 in
theorem mF_30 : (mF a s)[30]? = some (.ref (a 30)) := rfl
set_option maxRecDepth 100000 in
theorem mF_31 : (mF a s)[31]? = some (.ref (a 31)) := rfl
set_option maxRecDepth 100000 in
theorem mF_32 : (mF a s)[32]? = some (.ref (a 32)) := rfl
set_option maxRecDepth 100000 in
theorem mF_33 : (mF a s)[33]? = some (.ref (a 33)) := rfl
set_option maxRecDepth 100000 in
theorem mF_34 : (mF a s)[34]? = some (.ref (a 34)) := rfl
set_option maxRecDepth 100000 in
theorem mF_35 : (mF a s)[35]? = some (.ref (a 35)) := rfl
set_option maxRecDepth 100000 in
theorem mF_36 : (mF a s)[36]? = some (.ref (a 36)) := rfl
set_option maxRecDepth 100000 in
theorem mF_37 : (mF a s)[37]? = some (.ref (a 37)) := rfl
set_option maxRecDepth 100000 in
theorem mF_38 : (mF a s)[38]? = some (.int (i2 (gI s 38))) := rfl
set_option maxRecDepth 100000 in
theorem RW_f38 (v : Int) : (RW D a s).set 0 ((a 200), .inr (12, (mF a s).set 38 (.int (i2 v)))) = RW D a (sI s 38 v) := rfl
set_option maxRecDepth 100000 in
theorem mF_39 : (mF a s)[39]? = some (.ref (a 39)) := rfl
set_option maxRecDepth 100000 in
theorem mF_40 : (mF a s)[40]? = some (.ref (a 40)) := rfl
set_option maxRecDepth 100000 in
theorem mF_41 : (mF a s)[41]? = some (.ref (a 41)) := rfl
set_option maxRecDepth 100000 in
theorem mF_42 : (mF a s)[42]? = some (.ref (a 42)) := rfl
set_option maxRecDepth 100000 in
theorem mF_43 : (mF a s)[43]? = some (.ref (a 43)) := rfl
set_option maxRecDepth 100000 in
theorem mF_44 : (mF a s)[44]? = some (.ref (a 44)) := rfl
set_option maxRecDepth 100000 in
theorem mF_45 : (mF a s)[45]? = some (.int (i2 (gI s 45))) := rfl
set_option maxRecDepth 100000 in
theorem RW_f45 (v : Int) : (RW D a s).set 0 ((a 200), .inr (12, (mF a s).set 45 (.int (i2 v)))) = RW D a (sI s 45 v) := rfl
set_option maxRecDepth 100000 in
theorem mF_46 : (mF a s)[46]? = some (.int (i2 (gI s 46))) := rfl
set_option maxRecDepth 100000 in
theorem RW_f46 (v : Int) : (RW D a s).set 0 ((a 200), .inr (12, (mF a s).set 46 (.int (i2 v)))) = RW D a (sI s 46 v) := rfl
set_option maxRecDepth 100000 in
theorem mF_47 : (mF a s)[47]? = some (.int (i2 (gI s 47))) := rfl
set_option maxRecDepth 100000 in
theorem RW_f47 (v : Int) : (RW D a s).set 0 ((a 200), .inr (12, (mF a s).set 47 (.int (i2 v)))) = RW D a (sI s 47 v) := rfl
set_option maxRecDepth 100000 in
theorem mF_48 : (mF a s)[48]? = some (.int (i2 (gI s 48))) := rfl
set_option maxRecDepth 100000 in
theorem RW_f48 (v : Int) : (RW D a s).set 0 ((a 200), .inr (12, (mF a s).set 48 (.int (i2 v)))) = RW D a (sI s 48 v) := rfl
set_option maxRecDepth 100000 in
theorem mF_49 : (mF a s)[49]? = some (.ref (a 49)) := rfl
set_option maxRecDepth 100000 in
theorem mF_50 : (mF a s)[50]? = some (.int (i2 (gI s 50))) := rfl
set_option maxRecDepth 100000 in
theorem RW_f50 (v : Int) : (RW D a s).set 0 ((a 200), .inr (12, (mF a s).set 50 (.int (i2 v)))) = RW D a (sI s 50 v) := rfl
set_option maxRecDepth 100000 in
theorem mF_51 : (mF a s)[51]? = some (.int (i2 (gI s 51))) := rfl
set_option maxRecDepth 100000 in
theorem RW_f51 (v : Int) : (RW D a s).set 0 ((a 200), .inr (12, (mF a s).set 51 (.int (i2 v)))) = RW D a (sI s 51 v) := rfl
set_option maxRecDepth 100000 in
theorem mF_52 : (mF a s)[52]? = some (.int (i2 (gI s 52))) := rfl
set_option maxRecDepth 100000 in
theorem RW_f52 (v : Int) : (RW D a s).set 0 ((a 200), .inr (12, (mF a s).set 52 (.int (i2 v)))) = RW D a (sI s 52 v) := rfl
set_option maxRecDepth 100000 in
theorem mF_53 : (mF a s)[53]? = some (.int (i2 (gI s 53))) := rfl
set_option maxRecDepth 100000 in
theorem RW_f53 (v : Int) : (RW D a s).set 0 ((a 200), .inr (12, (mF a s).set 53 (.int (i2 v)))) = RW D a (sI s 53 v) := rfl
set_option maxRecDepth 100000 in
theorem mF_54 : (mF a s)[54]? = some (.ref (a 54)) := rfl
set_option maxRecDepth 100000 in
theorem mF_55 : (mF a s)[55]? = some (.int (i2 (gI s 55))) := rfl
set_option maxRecDepth 100000 in
theorem RW_f55 (v : Int) : (RW D a s).set 0 ((a 200), .inr (12, (mF a s).set 55 (.int (i2 v)))) = RW D a (sI s 55 v) := rfl
set_option maxRecDepth 100000 in
theorem mF_56 : (mF a s)[56]? = some (.ref (a 56)) := rfl
set_option maxRecDepth 100000 in
theorem mF_57 : (mF a s)[57]? = some (.ref (a 57)) := rfl
set_option maxRecDepth 100000 in
theorem mF_58 : (mF a s)[58]? = some (.ref (a 58)) := rfl
set_option maxRecDepth 100000 in
theorem mF_59 : (mF a s)[59]? = some (.ref (a 59)) := rfl
set_option maxRecDepth 100000 in
theorem mF_60 : (mF a s)[60]? = some (.ref (a 60)) := rfl
set_option maxRecDepth 100000 in
theorem mF_61 : (mF a s)[61]? = some (.ref (a 61)) := rfl
set_option maxRecDepth 100000 in
theorem mF_62 : (mF a s)[62]? = some (.ref (a 62)) := rfl
set_option maxRecDepth 100000 in
theorem mF_63 : (mF a s)[63]? = some (.ref (a 63)) := rfl
set_option maxRecDepth 100000 in
theorem mF_64 : (mF a s)[64]? = some (.ref (a 64)) := rfl
set_option maxRecDepth 100000 in
theorem mF_65 : (mF a s)[65]? = some (.ref (a 65)) := rfl
set_option maxRecDepth 100000 in
theorem mF_66 : (mF a s)[66]? = some (.ref (a 66)) := rfl
set_option maxRecDepth 100000 in
theorem mF_67 : (mF a s)[67]? = some (.int (i2 (gI s 67))) := rfl
set_option maxRecDepth 100000 in
theorem RW_f67 (v : Int) : (RW D a s).set 0 ((a 200), .inr (12, (mF a s).set 67 (.int (i2 v)))) = RW D a (sI s 67 v) := rfl
set_option maxRecDepth 100000 in
theorem mF_68 : (mF a s)[68]? = some (.int (i2 (gI s 68))) := rfl
set_option maxRecDepth 100000 in
theorem RW_f68 (v : Int) : (RW D a s).set 0 ((a 200), .inr (12, (mF a s).set 68 (.int (i2 v)))) = RW D a (sI s 68 v) := rfl
set_option maxRecDepth 100000 in
theorem mF_69 : (mF a s)[69]? = some (.ref (a 69)) := rfl
set_option maxRecDepth 100000 in
theorem mF_70 : (mF a s)[70]? = some (.int (i2 (gI s 70))) := rfl
set_option maxRecDepth 100000 in
theorem RW_f70 (v : Int) : (RW D a s).set 0 ((a 200), .inr (12, (mF a s).set 70 (.int (i2 v)))) = RW D a (sI s 70 v) := rfl
set_option maxRecDepth 100000 in
theorem mF_71 : (mF a s)[71]? = some (.int (i2 (gI s 71))) := rfl
set_option maxRecDepth 100000 in
theorem RW_f71 (v : Int) : (RW D a s).set 0 ((a 200), .inr (12, (mF a s).set 71 (.int (i2 v)))) = RW D a (sI s 71 v) := rfl
set_option maxRecDepth 100000 in
theorem mF_72 : (mF a s)[72]? = some (.ref (a 72)) := rfl
set_option maxRecDepth 100000 in
theorem mF_73 : (mF a s)[73]? = some (.int (i2 (gI s 73))) := rfl
set_option maxRecDepth 100000 in
theorem RW_f73 (v : Int) : (RW D a s).set 0 ((a 200), .inr (12, (mF a s).set 73 (.int (i2 v)))) = RW D a (sI s 73 v) := rfl
set_option maxRecDepth 100000 in
theorem mF_74 : (mF a s)[74]? = some (.ref (a 74)) := rfl
set_option maxRecDepth 100000 in
theorem mF_75 : (mF a s)[75]? = some (.ref (a 75)) := rfl
set_option maxRecDepth 100000 in
theorem mF_76 : (mF a s)[76]? = some (.int (i2 (gI s 76))) := rfl
set_option maxRecDepth 100000 in
theorem RW_f76 (v : Int) : (RW D a s).set 0 ((a 200), .inr (12, (mF a s).set 76 (.int (i2 v)))) = RW D a (sI s 76 v) := rfl
set_option maxRecDepth 100000 in
theorem mF_77 : (mF a s)[77]? = some (.int (i2 (gI s 77))) := rfl
set_option maxRecDepth 100000 in
theorem RW_f77 (v : Int) : (RW D a s).set 0 ((a 200), .inr (12, (mF a s).set 77 (.int (i2 v)))) = RW D a (sI s 77 v) := rfl
set_option maxRecDepth 100000 in
theorem mF_78 : (mF a s)[78]? = some (.long (i8 (gL s 78))) := rfl
set_option maxRecDepth 100000 in
theorem RW_f78 (v : Int) : (RW D a s).set 0 ((a 200), .inr (12, (mF a s).set 78 (.long (i8 v)))) = RW D a (sL s 78 v) := rfl
set_option maxRecDepth 100000 in
theorem mF_79 : (mF a s)[79]? = some (.ref (a 79)) := rfl
set_option maxRecDepth 100000 in
theorem mF_80 : (mF a s)[80]? = some (.ref (a 80)) := rfl
set_option maxRecDepth 100000 in
theorem mF_81 : (mF a s)[81]? = some (.ref (a 81)) := rfl
set_option maxRecDepth 100000 in
theorem mF_82 : (mF a s)[82]? = some (.ref (a 82)) := rfl
set_option maxRecDepth 100000 in
theorem mF_83 : (mF a s)[83]? = some (.ref (a 83)) := rfl
set_option maxRecDepth 100000 in
theorem mF_84 : (mF a s)[84]? = some (.ref (a 84)) := rfl
set_option maxRecDepth 100000 in
theorem mF_85 : (mF a s)[85]? = some (.ref (a 85)) := rfl
set_option maxRecDepth 100000 in
theorem mF_86 : (mF a s)[86]? = some (.ref (a 86)) := rfl
set_option maxRecDepth 100000 in
theorem mF_87 : (mF a s)[87]? = some (.ref (a 87)) := rfl
set_option maxRecDepth 100000 in
theorem mF_88 : (mF a s)[88]? = some (.ref (a 88)) := rfl
set_option maxRecDepth 100000 in
theorem mF_89 : (mF a s)[89]? = some (.ref (a 89)) := rfl
set_option maxRecDepth 100000 in
theorem mF_90 : (mF a s)[90]? = some (.ref (a 90)) := rfl
set_option maxRecDepth 100000 in
theorem mF_91 : (mF a s)[91]? = some (.ref (a 91)) := rfl
set_option maxRecDepth 100000 in
theorem mF_92 : (mF a s)[92]? = some (.ref (a 92)) := rfl
set_option maxRecDepth 100000 in
theorem mF_93 : (mF a s)[93]? = some (.ref (a 93)) := rfl
set_option maxRecDepth 100000 in
theorem mF_94 : (mF a s)[94]? = some (.ref (a 94)) := rfl
set_option maxRecDepth 100000 in
theorem mF_95 : (mF a s)[95]? = some (.ref (a 95)) := rfl
set_option maxRecDepth 100000 in
theorem mF_96 : (mF a s)[96]? = some (.ref (a 96)) := rfl
set_option maxRecDepth 100000 in
theorem mF_97 : (mF a s)[97]? = some (.ref (a 97)) := rfl
set_option maxRecDepth 100000 in
theorem mF_98 : (mF a s)[98]? = some (.ref (a 98)) := rfl
set_option maxRecDepth 100000 in
theorem mF_99 : (mF a s)[99]? = some (.ref (a 99)) := rfl
set_option maxRecDepth 100000 in
theorem mF_100 : (mF a s)[100]? = some (.ref (a 100)) := rfl
set_option maxRecDepth 100000 in
theorem mF_101 : (mF a s)[101]? = some (.ref (a 101)) := rfl
set_option maxRecDepth 100000 in
theorem mF_102 : (mF a s)[102]? = some (.int (i2 (gI s 102))) := rfl
set_option maxRecDepth 100000 in
theorem RW_f102 (v : Int) : (RW D a s).set 0 ((a 200), .inr (12, (mF a s).set 102 (.int (i2 v)))) = RW D a (sI s 102 v) := rfl
set_option maxRecDepth 100000 in
theorem mF_103 : (mF a s)[103]? = some (.ref (a 103)) := rfl
set_option maxRecDepth 100000 in
theorem mF_104 : (mF a s)[104]? = some (.int (i2 (gI s 104))) := rfl
set_option maxRecDepth 100000 in
theorem RW_f104 (v : Int) : (RW D a s).set 0 ((a 200), .inr (12, (mF a s).set 104 (.int (i2 v)))) = RW D a (sI s 104 v) := rfl
set_option maxRecDepth 100000 in
theorem mF_105 : (mF a s)[105]? = some (.int (i2 (gI s 105))) := rfl
set_option maxRecDepth 100000 in
theorem RW_f105 (v : Int) : (RW D a s).set 0 ((a 200), .inr (12, (mF a s).set 105 (.int (i2 v)))) = RW D a (sI s 105 v) := rfl
set_option maxRecDepth 100000 in
theorem mF_106 : (mF a s)[106]? = some (.int (i2 (gI s 106))) := rfl
set_option maxRecDepth 100000 in
theorem RW_f106 (v : Int) : (RW D a s).set 0 ((a 200), .inr (12, (mF a s).set 106 (.int (i2 v)))) = RW D a (sI s 106 v) := rfl
set_option maxRecDepth 100000 in
theorem mF_107 : (mF a s)[107]? = some (.ref (a 107)) := rfl
set_option maxRecDepth 100000 in
theorem mF_108 : (mF a s)[108]? = some (.int (i2 (gI s 108))) := rfl
set_option maxRecDepth 100000 in
theorem RW_f108 (v : Int) : (RW D a s).set 0 ((a 200), .inr (12, (mF a s).set 108 (.int (i2 v)))) = RW D a (sI s 108 v) := rfl
set_option maxRecDepth 100000 in
theorem mF_109 : (mF a s)[109]? = some (.long (i8 (gL s 109))) := rfl
set_option maxRecDepth 100000 in
theorem RW_f109 (v : Int) : (RW D a s).set 0 ((a 200), .inr (12, (mF a s).set 109 (.long (i8 v)))) = RW D a (sL s 109 v) := rfl
set_option maxRecDepth 100000 in
theorem mF_110 : (mF a s)[110]? = some (.int (i2 (gI s 110))) := rfl
set_option maxRecDepth 100000 in
theorem RW_f110 (v : Int) : (RW D a s).set 0 ((a 200), .inr (12, (mF a s).set 110 (.int (i2 v)))) = RW D a (sI s 110 v) := rfl
set_option maxRecDepth 100000 in
theorem mF_111 : (mF a s)[111]? = some (.ref (a 111)) := rfl
set_option maxRecDepth 100000 in
theorem mF_112 : (mF a s)[112]? = some (.int (i2 (gI s 112))) := rfl
set_option maxRecDepth 100000 in
theorem RW_f112 (v : Int) : (RW D a s).set 0 ((a 200), .inr (12, (mF a s).set 112 (.int (i2 v)))) = RW D a (sI s 112 v) := rfl
set_option maxRecDepth 100000 in
theorem mF_113 : (mF a s)[113]? = some (.ref (a 113)) := rfl
set_option maxRecDepth 100000 in
theorem mF_114 : (mF a s)[114]? = some (.int (i2 (gI s 114))) := rfl
set_option maxRecDepth 100000 in
theorem RW_f114 (v : Int) : (RW D a s).set 0 ((a 200), .inr (12, (mF a s).set 114 (.int (i2 v)))) = RW D a (sI s 114 v) := rfl
set_option maxRecDepth 100000 in
theorem mF_115 : (mF a s)[115]? = some (.ref (a 115)) := rfl
set_option maxRecDepth 100000 in
theorem RW_0 : (RW D a s)[0]? = some ((a 200), .inr (12, mF a s)) := rfl
set_option maxRecDepth 100000 in
theorem RW_1 : (RW D a s)[1]? = some ((a 0), .inl (D.1 13, 1600, .inl (fun j => i2 (gA s 0 j)))) := rfl
set_option maxRecDepth 100000 in
theorem RW_w1 (g : Nat → Int) : (RW D a s).set 1 ((a 0), .inl (D.1 13, 1600, .inl (fun j => i2 (g j)))) = RW D a (sA s 0 g) := rfl
set_option maxRecDepth 100000 in
theorem RW_2 : (RW D a s)[2]? = some ((a 9), .inl (D.1 13, 6, .inl (fun j => i2 (gA s 9 j)))) := rfl
set_option maxRecDepth 100000 in
theorem RW_w2 (g : Nat → Int) : (RW D a s).set 2 ((a 9), .inl (D.1 13, 6, .inl (fun j => i2 (g j)))) = RW D a (sA s 9 g) := rfl
set_option maxRecDepth 100000 in
theorem RW_3 : (RW D a s)[3]? = some ((a 11), .inl (D.1 14, 6, .inl (fun j => i2 (gA s 11 j)))) := rfl
set_option maxRecDepth 100000 in
theorem RW_4 : (RW D a s)[4]? = some ((a 12), .inl (D.1 14, 4, .inl (fun j => i2 (gA s 12 j)))) := rfl
set_option maxRecDepth 100000 in
theorem RW_5 : (RW D a s)[5]? = some ((a 13), .inl (D.1 14, 6, .inl (fun j => i2 (gA s 13 j)))) := rfl
set_option maxRecDepth 100000 in
theorem RW_6 : (RW D a s)[6]? = some ((a 14), .inl (D.1 14, 5, .inl (fun j => i2 (gA s 14 j)))) := rfl
set_option maxRecDepth 100000 in
theorem RW_7 : (RW D a s)[7]? = some ((a 15), .inl (D.1 14, 2, .inl (fun j => i2 (gA s 15 j)))) := rfl
set_option maxRecDepth 100000 in
theorem RW_8 : (RW D a s)[8]? = some ((a 16), .inl (D.1 14, 3, .inl (fun j => i2 (gA s 16 j)))) := rfl
set_option maxRecDepth 100000 in
theorem RW_9 : (RW D a s)[9]? = some ((a 17), .inl (D.1 14, 6, .inl (fun j => i2 (gA s 17 j)))) := rfl
set_option maxRecDepth 100000 in
theorem RW_10 : (RW D a s)[10]? = some ((a 18), .inl (D.1 14, 5, .inl (fun j => i2 (gA s 18 j)))) := rfl
set_option maxRecDepth 100000 in
theorem RW_11 : (RW D a s)[11]? = some ((a 19), .inl (D.1 14, 6, .inl (fun j => i2 (gA s 19 j)))) := rfl
set_option maxRecDepth 100000 in
theorem RW_12 : (RW D a s)[12]? = some ((a 20), .inl (D.1 14, 5, .inl (fun j => i2 (gA s 20 j)))) := rfl
set_option maxRecDepth 100000 in
theorem RW_13 : (RW D a s)[13]? = some ((a 21), .inl (D.1 14, 5, .inl (fun j => i2 (gA s 21 j)))) := rfl
set_option maxRecDepth 100000 in
theorem RW_14 : (RW D a s)[14]? = some ((a 22), .inl (D.1 14, 5, .inl (fun j => i2 (gA s 22 j)))) := rfl
set_option maxRecDepth 100000 in
theorem RW_15 : (RW D a s)[15]? = some ((a 23), .inl (D.1 14, 4, .inl (fun j => i2 (gA s 23 j)))) := rfl
set_option maxRecDepth 100000 in
theorem RW_16 : (RW D a s)[16]? = some ((a 24), .inl (D.1 14, 5, .inl (fun j => i2 (gA s 24 j)))) := rfl
set_option maxRecDepth 100000 in
theorem RW_17 : (RW D a s)[17]? = some ((a 25), .inl (D.1 14, 7, .inl (fun j => i2 (gA s 25 j)))) := rfl
set_option maxRecDepth 100000 in
theorem RW_18 : (RW D a s)[18]? = some ((a 26), .inl (D.1 14, 6, .inl (fun j => i2 (gA s 26 j)))) := rfl
set_option maxRecDepth 100000 in
theorem RW_19 : (RW D a s)[19]? = some ((a 27), .inl (D.1 14, 5, .inl (fun j => i2 (gA s 27 j)))) := rfl
set_option maxRecDepth 100000 in
theorem RW_20 : (RW D a s)[20]? = some ((a 28), .inl (D.1 14, 5, .inl (fun j => i2 (gA s 28 j)))) := rfl
set_option maxRecDepth 100000 in
theorem RW_21 : (RW D a s)[21]? = some ((a 29), .inl (D.1 14, 5, .inl (fun j => i2 (gA s 29 j)))) := rfl
set_option maxRecDepth 100000 in
theorem RW_22 : (RW D a s)[22]? = some ((a 30), .inl (D.1 14, 4, .inl (fun j => i2 (gA s 30 j)))) := rfl
set_option maxRecDepth 100000 in
theorem RW_23 : (RW D a s)[23]? = some ((a 31), .inl (D.1 14, 3, .inl (fun j => i2 (gA s 31 j)))) := rfl
set_option maxRecDepth 100000 in
theorem RW_24 : (RW D a s)[24]? = some ((a 32), .inl (D.1 14, 2, .inl (fun j => i2 (gA s 32 j)))) := rfl
set_option maxRecDepth 100000 in
theorem RW_25 : (RW D a s)[25]? = some ((a 33), .inl (D.1 14, 3, .inl (fun j => i2 (gA s 33 j)))) := rfl
set_option maxRecDepth 100000 in
theorem RW_26 : (RW D a s)[26]? = some ((a 34), .inl (D.1 14, 3, .inl (fun j => i2 (gA s 34 j)))) := rfl
set_option maxRecDepth 100000 in
theorem RW_27 : (RW D a s)[27]? = some ((a 35), .inl (D.1 14, 3, .inl (fun j => i2 (gA s 35 j)))) := rfl
set_option maxRecDepth 100000 in
theorem RW_28 : (RW D a s)[28]? = some ((a 36), .inl (D.1 14, 3, .inl (fun j => i2 (gA s 36 j)))) := rfl
set_option maxRecDepth 100000 in
theorem RW_29 : (RW D a s)[29]? = some ((a 37), .inl (D.1 14, 3, .inl (fun j => i2 (gA s 37 j)))) := rfl
set_option maxRecDepth 100000 in
theorem RW_30 : (RW D a s)[30]? = some ((a 39), .inl (D.1 13, 10, .inl (fun j => i2 (gA s 39 j)))) := rfl
set_option maxRecDepth 100000 in
theorem RW_w30 (g : Nat → Int) : (RW D a s).set 30 ((a 39), .inl (D.1 13, 10, .inl (fun j => i2 (g j)))) = RW D a (sA s 39 g) := rfl
set_option maxRecDepth 100000 in
theorem RW_31 : (RW D a s)[31]? = some ((a 40), .inl (D.1 15, 16, .inr (.inl (fun j => i8 (gB s 40 j))))) := rfl
set_option maxRecDepth 100000 in
theorem RW_w31 (g : Nat → Int) : (RW D a s).set 31 ((a 40), .inl (D.1 15, 16, .inr (.inl (fun j => i8 (g j))))) = RW D a (sB s 40 g) := rfl
set_option maxRecDepth 100000 in
theorem RW_32 : (RW D a s)[32]? = some ((a 41), .inl (D.1 13, 240, .inl (fun j => i2 (gA s 41 j)))) := rfl
set_option maxRecDepth 100000 in
theorem RW_w32 (g : Nat → Int) : (RW D a s).set 32 ((a 41), .inl (D.1 13, 240, .inl (fun j => i2 (g j)))) = RW D a (sA s 41 g) := rfl
set_option maxRecDepth 100000 in
theorem RW_33 : (RW D a s)[33]? = some ((a 42), .inl (D.1 13, 6, .inl (fun j => i2 (gA s 42 j)))) := rfl
set_option maxRecDepth 100000 in
theorem RW_w33 (g : Nat → Int) : (RW D a s).set 33 ((a 42), .inl (D.1 13, 6, .inl (fun j => i2 (g j)))) = RW D a (sA s 42 g) := rfl
set_option maxRecDepth 100000 in
theorem RW_34 : (RW D a s)[34]? = some ((a 43), .inl (D.1 13, 6, .inl (fun j => i2 (gA s 43 j)))) := rfl
set_option maxRecDepth 100000 in
theorem RW_w34 (g : Nat → Int) : (RW D a s).set 34 ((a 43), .inl (D.1 13, 6, .inl (fun j => i2 (g j)))) = RW D a (sA s 43 g) := rfl
set_option maxRecDepth 100000 in
theorem RW_35 : (RW D a s)[35]? = some ((a 44), .inl (D.1 13, 3200, .inl (fun j => i2 (gA s 44 j)))) := rfl
set_option maxRecDepth 100000 in
theorem RW_w35 (g : Nat → Int) : (RW D a s).set 35 ((a 44), .inl (D.1 13, 3200, .inl (fun j => i2 (g j)))) = RW D a (sA s 44 g) := rfl
set_option maxRecDepth 100000 in
theorem RW_36 : (RW D a s)[36]? = some ((a 49), .inl (D.1 13, 906, .inl (fun j => i2 (gA s 49 j)))) := rfl
set_option maxRecDepth 100000 in
theorem RW_w36 (g : Nat → Int) : (RW D a s).set 36 ((a 49), .inl (D.1 13, 906, .inl (fun j => i2 (g j)))) = RW D a (sA s 49 g) := rfl
set_option maxRecDepth 100000 in
theorem RW_37 : (RW D a s)[37]? = some ((a 54), .inl (D.1 16, 48, .inl (fun j => i2 (gA s 54 j)))) := rfl
set_option maxRecDepth 100000 in
theorem RW_w37 (g : Nat → Int) : (RW D a s).set 37 ((a 54), .inl (D.1 16, 48, .inl (fun j => i2 (g j)))) = RW D a (sA s 54 g) := rfl
set_option maxRecDepth 100000 in
theorem RW_38 : (RW D a s)[38]? = some ((a 56), .inl (D.1 13, 300, .inl (fun j => i2 (gA s 56 j)))) := rfl
set_option maxRecDepth 100000 in
theorem RW_w38 (g : Nat → Int) : (RW D a s).set 38 ((a 56), .inl (D.1 13, 300, .inl (fun j => i2 (g j)))) = RW D a (sA s 56 g) := rfl
set_option maxRecDepth 100000 in
theorem RW_39 : (RW D a s)[39]? = some ((a 57), .inl (D.1 13, 48, .inl (fun j => i2 (gA s 57 j)))) := rfl
set_option maxRecDepth 100000 in
theorem RW_w39 (g : Nat → Int) : (RW D a s).set 39 ((a 57), .inl (D.1 13, 48, .inl (fun j => i2 (g j)))) = RW D a (sA s 57 g) := rfl
set_option maxRecDepth 100000 in
theorem RW_40 : (RW D a s)[40]? = some ((a 58), .inl (D.1 13, 48, .inl (fun j => i2 (gA s 58 j)))) := rfl
set_option maxRecDepth 100000 in
theorem RW_w40 (g : Nat → Int) : (RW D a s).set 40 ((a 58), .inl (D.1 13, 48, .inl (fun j => i2 (g j)))) = RW D a (sA s 58 g) := rfl
set_option maxRecDepth 100000 in
theorem RW_41 : (RW D a s)[41]? = some ((a 59), .inl (D.1 13, 785, .inl (fun j => i2 (gA s 59 j)))) := rfl
set_option maxRecDepth 100000 in
theorem RW_w41 (g : Nat → Int) : (RW D a s).set 41 ((a 59), .inl (D.1 13, 785, .inl (fun j => i2 (g j)))) = RW D a (sA s 59 g) := rfl
set_option maxRecDepth 100000 in
theorem RW_42 : (RW D a s)[42]? = some ((a 60), .inl (D.1 16, 48, .inl (fun j => i2 (gA s 60 j)))) := rfl
set_option maxRecDepth 100000 in
theorem RW_w42 (g : Nat → Int) : (RW D a s).set 42 ((a 60), .inl (D.1 16, 48, .inl (fun j => i2 (g j)))) = RW D a (sA s 60 g) := rfl
set_option maxRecDepth 100000 in
theorem RW_43 : (RW D a s)[43]? = some ((a 61), .inl (D.1 13, 785, .inl (fun j => i2 (gA s 61 j)))) := rfl
set_option maxRecDepth 100000 in
theorem RW_w43 (g : Nat → Int) : (RW D a s).set 43 ((a 61), .inl (D.1 13, 785, .inl (fun j => i2 (g j)))) = RW D a (sA s 61 g) := rfl
set_option maxRecDepth 100000 in
theorem RW_44 : (RW D a s)[44]? = some ((a 62), .inl (D.1 13, 300, .inl (fun j => i2 (gA s 62 j)))) := rfl
set_option maxRecDepth 100000 in
theorem RW_w44 (g : Nat → Int) : (RW D a s).set 44 ((a 62), .inl (D.1 13, 300, .inl (fun j => i2 (g j)))) = RW D a (sA s 62 g) := rfl
set_option maxRecDepth 100000 in
theorem RW_45 : (RW D a s)[45]? = some ((a 63), .inl (D.1 16, 48, .inl (fun j => i2 (gA s 63 j)))) := rfl
set_option maxRecDepth 100000 in
theorem RW_w45 (g : Nat → Int) : (RW D a s).set 45 ((a 63), .inl (D.1 16, 48, .inl (fun j => i2 (g j)))) = RW D a (sA s 63 g) := rfl
set_option maxRecDepth 100000 in
theorem RW_46 : (RW D a s)[46]? = some ((a 64), .inl (D.1 13, 300, .inl (fun j => i2 (gA s 64 j)))) := rfl
set_option maxRecDepth 100000 in
theorem RW_w46 (g : Nat → Int) : (RW D a s).set 46 ((a 64), .inl (D.1 13, 300, .inl (fun j => i2 (g j)))) = RW D a (sA s 64 g) := rfl
set_option maxRecDepth 100000 in
theorem RW_47 : (RW D a s)[47]? = some ((a 65), .inl (D.1 13, 300, .inl (fun j => i2 (gA s 65 j)))) := rfl
set_option maxRecDepth 100000 in
theorem RW_w47 (g : Nat → Int) : (RW D a s).set 47 ((a 65), .inl (D.1 13, 300, .inl (fun j => i2 (g j)))) = RW D a (sA s 65 g) := rfl
set_option maxRecDepth 100000 in
theorem RW_48 : (RW D a s)[48]? = some ((a 66), .inl (D.1 13, 300, .inl (fun j => i2 (gA s 66 j)))) := rfl
set_option maxRecDepth 100000 in
theorem RW_w48 (g : Nat → Int) : (RW D a s).set 48 ((a 66), .inl (D.1 13, 300, .inl (fun j => i2 (g j)))) = RW D a (sA s 66 g) := rfl
set_option maxRecDepth 100000 in
theorem RW_49 : (RW D a s)[49]? = some ((a 69), .inl (D.1 16, 48, .inl (fun j => i2 (gA s 69 j)))) := rfl
set_option maxRecDepth 100000 in
theorem RW_w49 (g : Nat → Int) : (RW D a s).set 49 ((a 69), .inl (D.1 16, 48, .inl (fun j => i2 (g j)))) = RW D a (sA s 69 g) := rfl
set_option maxRecDepth 100000 in
theorem RW_50 : (RW D a s)[50]? = some ((a 72), .inl (D.1 13, 48, .inl (fun j => i2 (gA s 72 j)))) := rfl
set_option maxRecDepth 100000 in
theorem RW_w50 (g : Nat → Int) : (RW D a s).set 50 ((a 72), .inl (D.1 13, 48, .inl (fun j => i2 (g j)))) = RW D a (sA s 72 g) := rfl
set_option maxRecDepth 100000 in
theorem RW_51 : (RW D a s)[51]? = some ((a 74), .inl (D.1 13, 24, .inl (fun j => i2 (gA s 74 j)))) := rfl
set_option maxRecDepth 100000 in
theorem RW_w51 (g : Nat → Int) : (RW D a s).set 51 ((a 74), .inl (D.1 13, 24, .inl (fun j => i2 (g j)))) = RW D a (sA s 74 g) := rfl
set_option maxRecDepth 100000 in
theorem RW_52 : (RW D a s)[52]? = some ((a 75), .inl (D.1 13, 18120, .inl (fun j => i2 (gA s 75 j)))) := rfl
set_option maxRecDepth 100000 in
theorem RW_w52 (g : Nat → Int) : (RW D a s).set 52 ((a 75), .inl (D.1 13, 18120, .inl (fun j => i2 (g j)))) = RW D a (sA s 75 g) := rfl
set_option maxRecDepth 100000 in
theorem RW_53 : (RW D a s)[53]? = some ((a 79), .inl (D.1 14, 5, .inl (fun j => i2 (gA s 79 j)))) := rfl
set_option maxRecDepth 100000 in
theorem RW_54 : (RW D a s)[54]? = some ((a 80), .inl (D.1 14, 4, .inl (fun j => i2 (gA s 80 j)))) := rfl
set_option maxRecDepth 100000 in
theorem RW_55 : (RW D a s)[55]? = some ((a 81), .inl (D.1 14, 5, .inl (fun j => i2 (gA s 81 j)))) := rfl
set_option maxRecDepth 100000 in
theorem RW_56 : (RW D a s)[56]? = some ((a 82), .inl (D.1 14, 5, .inl (fun j => i2 (gA s 82 j)))) := rfl
set_option maxRecDepth 100000 in
theorem RW_57 : (RW D a s)[57]? = some ((a 83), .inl (D.1 14, 4, .inl (fun j => i2 (gA s 83 j)))) := rfl
set_option maxRecDepth 100000 in
theorem RW_58 : (RW D a s)[58]? = some ((a 84), .inl (D.1 14, 5, .inl (fun j => i2 (gA s 84 j)))) := rfl
set_option maxRecDepth 100000 in
theorem RW_59 : (RW D a s)[59]? = some ((a 85), .inl (D.1 14, 3, .inl (fun j => i2 (gA s 85 j)))) := rfl
set_option maxRecDepth 100000 in
theorem RW_60 : (RW D a s)[60]? = some ((a 86), .inl (D.1 14, 3, .inl (fun j => i2 (gA s 86 j)))) := rfl
set_option maxRecDepth 100000 in
theorem RW_61 : (RW D a s)[61]? = some ((a 87), .inl (D.1 14, 2, .inl (fun j => i2 (gA s 87 j)))) := rfl
set_option maxRecDepth 100000 in
theorem RW_62 : (RW D a s)[62]? = some ((a 88), .inl (D.1 14, 3, .inl (fun j => i2 (gA s 88 j)))) := rfl
set_option maxRecDepth 100000 in
theorem RW_63 : (RW D a s)[63]? = some ((a 89), .inl (D.1 14, 3, .inl (fun j => i2 (gA s 89 j)))) := rfl
set_option maxRecDepth 100000 in
theorem RW_64 : (RW D a s)[64]? = some ((a 90), .inl (D.1 14, 3, .inl (fun j => i2 (gA s 90 j)))) := rfl
set_option maxRecDepth 100000 in
theorem RW_65 : (RW D a s)[65]? = some ((a 91), .inl (D.1 14, 5, .inl (fun j => i2 (gA s 91 j)))) := rfl
set_option maxRecDepth 100000 in
theorem RW_66 : (RW D a s)[66]? = some ((a 92), .inl (D.1 14, 5, .inl (fun j => i2 (gA s 92 j)))) := rfl
set_option maxRecDepth 100000 in
theorem RW_67 : (RW D a s)[67]? = some ((a 93), .inl (D.1 14, 4, .inl (fun j => i2 (gA s 93 j)))) := rfl
set_option maxRecDepth 100000 in
theorem RW_68 : (RW D a s)[68]? = some ((a 94), .inl (D.1 14, 7, .inl (fun j => i2 (gA s 94 j)))) := rfl
set_option maxRecDepth 100000 in
theorem RW_69 : (RW D a s)[69]? = some ((a 95), .inl (D.1 14, 6, .inl (fun j => i2 (gA s 95 j)))) := rfl
set_option maxRecDepth 100000 in
theorem RW_70 : (RW D a s)[70]? = some ((a 96), .inl (D.1 14, 5, .inl (fun j => i2 (gA s 96 j)))) := rfl
set_option maxRecDepth 100000 in
theorem RW_71 : (RW D a s)[71]? = some ((a 97), .inl (D.1 14, 5, .inl (fun j => i2 (gA s 97 j)))) := rfl
set_option maxRecDepth 100000 in
theorem RW_72 : (RW D a s)[72]? = some ((a 98), .inl (D.1 14, 5, .inl (fun j => i2 (gA s 98 j)))) := rfl
set_option maxRecDepth 100000 in
theorem RW_73 : (RW D a s)[73]? = some ((a 99), .inl (D.1 14, 4, .inl (fun j => i2 (gA s 99 j)))) := rfl
set_option maxRecDepth 100000 in
theorem RW_74 : (RW D a s)[74]? = some ((a 100), .inl (D.1 14, 3, .inl (fun j => i2 (gA s 100 j)))) := rfl
set_option maxRecDepth 100000 in
theorem RW_75 : (RW D a s)[75]? = some ((a 101), .inl (D.1 13, 1700, .inl (fun j => i2 (gA s 101 j)))) := rfl
set_option maxRecDepth 100000 in
theorem RW_w75 (g : Nat → Int) : (RW D a s).set 75 ((a 101), .inl (D.1 13, 1700, .inl (fun j => i2 (g j)))) = RW D a (sA s 101 g) := rfl
set_option maxRecDepth 100000 in
theorem RW_76 : (RW D a s)[76]? = some ((a 103), .inl (D.1 13, 1700, .inl (fun j => i2 (gA s 103 j)))) := rfl
set_option maxRecDepth 100000 in
theorem RW_w76 (g : Nat → Int) : (RW D a s).set 76 ((a 103), .inl (D.1 13, 1700, .inl (fun j => i2 (g j)))) = RW D a (sA s 103 g) := rfl
set_option maxRecDepth 100000 in
theorem RW_77 : (RW D a s)[77]? = some ((a 107), .inl (D.1 15, 1700, .inr (.inl (fun j => i8 (gB s 107 j))))) := rfl
set_option maxRecDepth 100000 in
theorem RW_w77 (g : Nat → Int) : (RW D a s).set 77 ((a 107), .inl (D.1 15, 1700, .inr (.inl (fun j => i8 (g j))))) = RW D a (sB s 107 g) := rfl
set_option maxRecDepth 100000 in
theorem RW_78 : (RW D a s)[78]? = some ((a 111), .inl (D.1 13, 1364, .inl (fun j => i2 (gA s 111 j)))) := rfl
set_option maxRecDepth 100000 in
theorem RW_w78 (g : Nat → Int) : (RW D a s).set 78 ((a 111), .inl (D.1 13, 1364, .inl (fun j => i2 (g j)))) = RW D a (sA s 111 g) := rfl
set_option maxRecDepth 100000 in
theorem RW_79 : (RW D a s)[79]? = some ((a 113), .inl (D.1 13, 785, .inl (fun j => i2 (gA s 113 j)))) := rfl
set_option maxRecDepth 100000 in
theorem RW_w79 (g : Nat → Int) : (RW D a s).set 79 ((a 113), .inl (D.1 13, 785, .inl (fun j => i2 (g j)))) = RW D a (sA s 113 g) := rfl
set_option maxRecDepth 100000 in
theorem RW_80 : (RW D a s)[80]? = some ((a 115), .inl (D.1 13, 48, .inl (fun j => i2 (gA s 115 j)))) := rfl
set_option maxRecDepth 100000 in
theorem RW_w80 (g : Nat → Int) : (RW D a s).set 80 ((a 115), .inl (D.1 13, 48, .inl (fun j => i2 (g j)))) = RW D a (sA s 115 g) := rfl
end WR
