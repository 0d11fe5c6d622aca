def m_x12_ask_J109 (x50 : Int) (s51 : MS) : Option (Int × MS) :=
  rg (gI s51 5) (if (gI s51 5) = 0 then bn (m_x12_look s51) (fun qr56 => rg qr56.1 (if qr56.1 = (-1) then m_x12_ask_J133 x50 qr56.2 else bn (m_x12_fail 1 (gI qr56.2 2) qr56.2) (fun s60 => m_x12_ask_J133 x50 s60))) else m_x12_ask_J133 x50 s51)
def m_x12_ask_J98 (x61 : Int) (s62 : MS) : Option (Int × MS) :=
  rg (gI s62 5) (if (gI s62 5) = 0 then bn (m_x12_qSums s62) (fun s66 => m_x12_ask_J109 x61 s66) else m_x12_ask_J109 x61 s62)
def m_x12_ask (s : MS) : Option (Int × MS) :=
  rg (gI s 47) (if (gI s 47) = 0 then stn (sI s 1 0) (fun s89 => some ((-1000000000000000), s89)) else stn (sI s 3 (gI s 1)) (fun s69 => stn (sI s69 1 0) (fun s70 => stn (sI s70 2 0) (fun s71 => stn (sI s71 4 (-1)) (fun s72 => stn (sI s72 5 0) (fun s73 => stn (sI s73 6 (-1)) (fun s74 => stn (sI s74 48 3) (fun s75 => stn (sI s75 102 0) (fun s76 => stn (sI s76 104 0) (fun s77 => stn (sI s77 105 0) (fun s78 => stn (sI s78 106 0) (fun s79 => bn (m_x12_qKind s79) (fun qr82 => rg (gI qr82.2 5) (if (gI qr82.2 5) = 0 then rg qr82.1 (if 3 ≤ qr82.1 then m_x12_ask_J98 qr82.1 qr82.2 else bn (m_x12_qTest qr82.2) (fun s88 => m_x12_ask_J109 qr82.1 s88)) else m_x12_ask_J98 qr82.1 qr82.2))))))))))))))
def m_x12_tellsByte (p0 : Int) (s : MS) : Option MS :=
  inb 1364 (gI s 112) (stn (sA s 111 (upZ (gA s 111) (Int.toNat (gI s 112)) p0)) (fun s2 => stn (sI s2 112 ((gI s2 112) + 1)) (fun s3 => some s3)))
def m_x12_tellsTwo (p0 : Int) (s : MS) : Option MS :=
  dv p0 256 (bn (m_x12_tellsByte (Int.tdiv p0 256) s) (fun s3 => dv p0 256 (bn (m_x12_tellsByte (Int.tmod p0 256) s3) (fun s6 => some s6))))
def m_x12_octet_J22 (s : MS) (x1 : Int) : Option Int :=
  some x1
def m_x12_octet_J21 (s : MS) (_u : Unit) : Option Int :=
  m_x12_octet_J22 s (-1)
def m_x12_octet (p0 : Int) (s : MS) : Option Int :=
  rg p0 (if p0 < 0 then m_x12_octet_J21 s () else rg p0 (rg (gI s 112) (if (gI s 112) ≤ p0 then m_x12_octet_J21 s () else rdI (gA s 111) 1364 p0 (fun y7 => m_x12_octet_J22 s y7))))
def m_x12_status_J22 (s : MS) (x1 : Int) : Option Int :=
  some x1
def m_x12_status (p0 : Int) (s : MS) : Option Int :=
  rg p0 (bn (m_x12_isIn p0 0 5 s) (fun r4 => rg r4 (if r4 = 0 then m_x12_status_J22 s (-1) else rdI (gA s 9) 6 p0 (fun y7 => m_x12_status_J22 s y7))))
def m_x12_writesBlock_b47 (lr47 : Int → Int → MS → Option MS) (x1 : Int) (x2 : Int) (s3 : MS) : Option MS :=
  bn (m_x12_entriesOf x1 s3) (fun r5 => rg x2 (rg r5 (if r5 ≤ x2 then some s3 else bn (m_x12_keyAt x1 x2 s3) (fun r10 => bn (m_x12_tellsTwo r10 s3) (fun s12 => bn (m_x12_valueAt x1 x2 s12) (fun r14 => bn (m_x12_tellsTwo r14 s12) (fun s16 => lr47 x1 (x2 + 1) s16)))))))
def m_x12_writesBlock_L47 (n : Nat) : Int → Int → MS → Option MS := lp (fun _ _ _ => none) (m_x12_writesBlock_b47) n
def m_x12_writesBlock (p0 : Int) (s : MS) : Option MS :=
  bn (m_x12_countOf p0 s) (fun r18 => bn (m_x12_tellsByte r18 s) (fun s20 => bn (m_x12_savedOf p0 s20) (fun r22 => bn (m_x12_tellsByte r22 s20) (fun s24 => bn (m_x12_isThere p0 s24) (fun r26 => rg r26 (if r26 = 0 then some s24 else bn (m_x12_levelOf p0 s24) (fun r30 => bn (m_x12_tellsByte r30 s24) (fun s32 => bn (m_x12_entriesOf p0 s32) (fun r34 => bn (m_x12_tellsByte r34 s32) (fun s36 => m_x12_writesBlock_L47 FU p0 0 s36))))))))))
def m_x12_rootTold_J19 (s : MS) (x1 : Int) : Option Int :=
  some x1
def m_x12_rootTold (p0 : Int) (s : MS) : Option Int :=
  rg (gI s 47) (if (gI s 47) = 0 then m_x12_rootTold_J19 s 255 else rdI (gA s 49) 906 p0 (fun y4 => m_x12_rootTold_J19 s y4))
def m_x12_checked_b6 (s : MS) (lr6 : Int → Int → Int → Option Int) (x1 : Int) (x2 : Int) (x3 : Int) : Option Int :=
  rg x3 (rg x1 (if x1 ≤ x3 then some x2 else rdI (gA s 111) 1364 x3 (fun y7 => dv ((3 * x2) + y7) 251 (lr6 x1 (Int.tmod ((3 * x2) + y7) 251) (x3 + 1)))))
def m_x12_checked_L6 (s : MS) (n : Nat) : Int → Int → Int → Option Int := lp (fun _ _ _ => none) (m_x12_checked_b6 s) n
def m_x12_checked (p1 : Int) (s : MS) : Option Int :=
  m_x12_checked_L6 s FU p1 157 0
def m_x12_image_b72 (lr72 : Int → MS → Option (Int × MS)) (x1 : Int) (s2 : MS) : Option (Int × MS) :=
  bn (m_x12_blockMany s2) (fun r4 => rg x1 (rg r4 (if r4 ≤ x1 then bn (m_x12_checked (gI s2 112) s2) (fun r9 => bn (m_x12_tellsByte r9 s2) (fun s11 => some (gI s11 112, s11))) else bn (m_x12_writesBlock x1 s2) (fun s13 => lr72 (x1 + 1) s13))))
def m_x12_image_L72 (n : Nat) : Int → MS → Option (Int × MS) := lp (fun _ _ => none) (m_x12_image_b72) n
def m_x12_image_b37 (lr37 : Int → MS → Option (Int × MS)) (x14 : Int) (s15 : MS) : Option (Int × MS) :=
  rg x14 (if 8 ≤ x14 then m_x12_image_L72 FU 0 s15 else bn (m_x12_rootTold x14 s15) (fun r19 => bn (m_x12_tellsByte r19 s15) (fun s21 => bn (m_x12_rootTold (8 + x14) s21) (fun r23 => bn (m_x12_tellsByte r23 s21) (fun s25 => lr37 (x14 + 1) s25)))))
def m_x12_image_L37 (n : Nat) : Int → MS → Option (Int × MS) := lp (fun _ _ => none) (m_x12_image_b37) n
def m_x12_image (s : MS) : Option (Int × MS) :=
  stn (sI s 112 0) (fun s26 => rdI (gA s26 49) 906 16 (fun y27 => dv y27 65536 (bn (m_x12_tellsByte (Int.tdiv y27 65536) s26) (fun s30 => rdI (gA s30 49) 906 16 (fun y31 => dv y31 65536 (bn (m_x12_tellsTwo (Int.tmod y31 65536) s30) (fun s34 => m_x12_image_L37 FU 0 s34)))))))
def m_x12_byteRead_J33 (x1 : Int) (s2 : MS) : Option (Int × MS) :=
  some (x1, s2)
def m_x12_byteRead (p0 : Int) (s : MS) : Option (Int × MS) :=
  stn (sI s 114 ((gI s 114) + 1)) (fun s3 => rg (gI s3 114) (rg p0 (if p0 < (gI s3 114) then m_x12_byteRead_J33 (-1) s3 else rdI (gA s3 0) 1600 ((gI s3 114) - 1) (fun y7 => m_x12_byteRead_J33 y7 s3))))
def m_x12_twoRead_J33 (x1 : Int) (s2 : MS) : Option (Int × MS) :=
  some (x1, s2)
def m_x12_twoRead_J22 (s3 : MS) : Option (Int × MS) :=
  m_x12_twoRead_J33 (-1) s3
def m_x12_twoRead (p0 : Int) (s : MS) : Option (Int × MS) :=
  bn (m_x12_byteRead p0 s) (fun qr6 => bn (m_x12_byteRead p0 qr6.2) (fun qr9 => rg qr6.1 (if qr6.1 = (-1) then m_x12_twoRead_J22 qr9.2 else rg qr9.1 (if qr9.1 = (-1) then m_x12_twoRead_J22 qr9.2 else m_x12_twoRead_J33 ((256 * qr6.1) + qr9.1) qr9.2))))
def m_x12_laidOf (p0 : Int) (p1 : Int) (s : MS) : Option Int :=
  rdI (gA s 113) 785 ((17 + (16 * p0)) + p1) (fun y1 => some y1)
def m_x12_isLaidBlock_J262 (x1 : Int) (s2 : MS) : Option (Int × MS) :=
  bo x1 (some (x1, s2))
def m_x12_isLaidBlock_J215 (lr130 : Int → Int → Int → MS → Option (Int × MS)) (x8 : Int) (x9 : Int) (x10 : Int) (x11 : Int) (s12 : MS) : Option (Int × MS) :=
  rdI (gA s12 113) 785 ((x9 + 4) + x10) (fun y13 => rg y13 (rg x11 (bn (m_x12_isIn y13 x11 999 s12) (fun r17 => rg r17 (if r17 = 0 then some (0, s12) else lr130 x8 x9 (x10 + 1) s12)))))
def m_x12_isLaidBlock_J202 (lr130 : Int → Int → Int → MS → Option (Int × MS)) (x20 : Int) (x21 : Int) (x22 : Int) (s23 : MS) : Option (Int × MS) :=
  rdI (gA s23 113) 785 ((x21 + 3) + x22) (fun y24 => m_x12_isLaidBlock_J215 lr130 x20 x21 x22 (y24 + 1) s23)
def m_x12_isLaidBlock_J198 (lr130 : Int → Int → Int → MS → Option (Int × MS)) (x25 : Int) (x26 : Int) (x27 : Int) (s28 : MS) : Option (Int × MS) :=
  m_x12_isLaidBlock_J215 lr130 x25 x26 x27 0 s28
def m_x12_isLaidBlock_b130 (lr130 : Int → Int → Int → MS → Option (Int × MS)) (x4 : Int) (x5 : Int) (x6 : Int) (s7 : MS) : Option (Int × MS) :=
  rdI (gA s7 113) 785 (x5 + 3) (fun y29 => rg x6 (rg y29 (if y29 ≤ x6 then rg (gI s7 114) (rg x4 (if x4 < (gI s7 114) then m_x12_isLaidBlock_J262 0 s7 else m_x12_isLaidBlock_J262 1 s7)) else bn (m_x12_twoRead x4 s7) (fun qr38 => inb 785 ((x5 + 4) + x6) (stn (sA qr38.2 113 (upZ (gA qr38.2 113) (Int.toNat ((x5 + 4) + x6)) qr38.1)) (fun s40 => bn (m_x12_twoRead x4 s40) (fun qr43 => inb 785 ((x5 + 10) + x6) (stn (sA qr43.2 113 (upZ (gA qr43.2 113) (Int.toNat ((x5 + 10) + x6)) qr43.1)) (fun s45 => rg x6 (if x6 = 0 then m_x12_isLaidBlock_J198 lr130 x4 x5 x6 s45 else rg x6 (if x6 = 1 then rdI (gA s45 113) 785 (x5 + 2) (fun y50 => rg y50 (if y50 ≤ 0 then m_x12_isLaidBlock_J202 lr130 x4 x5 x6 s45 else m_x12_isLaidBlock_J198 lr130 x4 x5 x6 s45)) else m_x12_isLaidBlock_J202 lr130 x4 x5 x6 s45)))))))))))
def m_x12_isLaidBlock_L130 (n : Nat) : Int → Int → Int → MS → Option (Int × MS) := lp (fun _ _ _ _ => none) (m_x12_isLaidBlock_b130) n
def m_x12_isLaidBlock_b11 (lr11 : Int → Int → Int → MS → Option (Int × MS)) (x53 : Int) (x54 : Int) (x55 : Int) (s56 : MS) : Option (Int × MS) :=
  rg x55 (if 16 ≤ x55 then bn (m_x12_byteRead x53 s56) (fun qr61 => inb 785 x54 (stn (sA qr61.2 113 (upZ (gA qr61.2 113) (Int.toNat x54) qr61.1)) (fun s63 => bn (m_x12_byteRead x53 s63) (fun qr66 => inb 785 (x54 + 1) (stn (sA qr66.2 113 (upZ (gA qr66.2 113) (Int.toNat (x54 + 1)) qr66.1)) (fun s68 => rdI (gA s68 113) 785 x54 (fun y69 => rdI (gA s68 113) 785 (x54 + 1) (fun y70 => rg (y69 + y70) (if (y69 + y70) = 0 then some (1, s68) else bn (m_x12_byteRead x53 s68) (fun qr75 => inb 785 (x54 + 2) (stn (sA qr75.2 113 (upZ (gA qr75.2 113) (Int.toNat (x54 + 2)) qr75.1)) (fun s77 => bn (m_x12_byteRead x53 s77) (fun qr80 => inb 785 (x54 + 3) (stn (sA qr80.2 113 (upZ (gA qr80.2 113) (Int.toNat (x54 + 3)) qr80.1)) (fun s82 => rdI (gA s82 113) 785 (x54 + 3) (fun y83 => rg y83 (bn (m_x12_roomOf s82) (fun r86 => rg r86 (bn (m_x12_isIn y83 1 r86 s82) (fun r89 => rg r89 (if r89 = 0 then some (0, s82) else m_x12_isLaidBlock_L130 FU x53 x54 0 s82))))))))))))))))))))) else inb 785 (x54 + x55) (stn (sA s56 113 (upZ (gA s56 113) (Int.toNat (x54 + x55)) 0)) (fun s93 => lr11 x53 x54 (x55 + 1) s93)))
def m_x12_isLaidBlock_L11 (n : Nat) : Int → Int → Int → MS → Option (Int × MS) := lp (fun _ _ _ _ => none) (m_x12_isLaidBlock_b11) n
def m_x12_isLaidBlock (p0 : Int) (p1 : Int) (s : MS) : Option (Int × MS) :=
  m_x12_isLaidBlock_L11 FU p1 (17 + (16 * p0)) 0 s
def m_x12_isLaid_J194 (x1 : Int) (s2 : MS) : Option (Int × MS) :=
  bo x1 (some (x1, s2))
def m_x12_isLaid_b145 (lr135 : Int → Int → MS → Option (Int × MS)) (lr145 : Int → Int → Int → MS → Option (Int × MS)) (x7 : Int) (x8 : Int) (x9 : Int) (s10 : MS) : Option (Int × MS) :=
  rg x9 (if 16 ≤ x9 then lr135 x7 (x8 + 1) s10 else inb 785 ((17 + (16 * x8)) + x9) (stn (sA s10 113 (upZ (gA s10 113) (Int.toNat ((17 + (16 * x8)) + x9)) 0)) (fun s14 => lr145 x7 x8 (x9 + 1) s14)))
def m_x12_isLaid_L145 (lr135 : Int → Int → MS → Option (Int × MS)) (n : Nat) : Int → Int → Int → MS → Option (Int × MS) := lp (fun _ _ _ _ => none) (m_x12_isLaid_b145 lr135) n
def m_x12_isLaid_b135 (lr135 : Int → Int → MS → Option (Int × MS)) (x4 : Int) (x5 : Int) (s6 : MS) : Option (Int × MS) :=
  rg x5 (if 48 ≤ x5 then rg (gI s6 114) (rg x4 (if (gI s6 114) = x4 then m_x12_isLaid_J194 1 s6 else m_x12_isLaid_J194 0 s6)) else m_x12_isLaid_L145 lr135 FU x4 x5 0 s6)
def m_x12_isLaid_L135 (n : Nat) : Int → Int → MS → Option (Int × MS) := lp (fun _ _ _ => none) (m_x12_isLaid_b135) n
def m_x12_isLaid_b102 (lr102 : Int → Int → MS → Option (Int × MS)) (x20 : Int) (x21 : Int) (s22 : MS) : Option (Int × MS) :=
  bn (m_x12_blockMany s22) (fun r24 => rg x21 (rg r24 (if r24 ≤ x21 then bn (m_x12_blockMany s22) (fun r29 => m_x12_isLaid_L135 FU x20 r29 s22) else bn (m_x12_isLaidBlock x21 x20 s22) (fun qr32 => rg qr32.1 (if qr32.1 = 0 then some (0, qr32.2) else lr102 x20 (x21 + 1) qr32.2)))))
def m_x12_isLaid_L102 (n : Nat) : Int → Int → MS → Option (Int × MS) := lp (fun _ _ _ => none) (m_x12_isLaid_b102) n
def m_x12_isLaid_b59 (lr59 : Int → Int → MS → Option (Int × MS)) (x35 : Int) (x36 : Int) (s37 : MS) : Option (Int × MS) :=
  rg x36 (if 8 ≤ x36 then m_x12_isLaid_L102 FU x35 0 s37 else bn (m_x12_byteRead x35 s37) (fun qr42 => inb 785 x36 (stn (sA qr42.2 113 (upZ (gA qr42.2 113) (Int.toNat x36) qr42.1)) (fun s44 => bn (m_x12_byteRead x35 s44) (fun qr47 => inb 785 (8 + x36) (stn (sA qr47.2 113 (upZ (gA qr47.2 113) (Int.toNat (8 + x36)) qr47.1)) (fun s49 => lr59 x35 (x36 + 1) s49)))))))
def m_x12_isLaid_L59 (n : Nat) : Int → Int → MS → Option (Int × MS) := lp (fun _ _ _ => none) (m_x12_isLaid_b59) n
def m_x12_isLaid_J54 (s50 : MS) : Option (Int × MS) :=
  some (0, s50)
def m_x12_isLaid (p0 : Int) (s : MS) : Option (Int × MS) :=
  stn (sI s 114 0) (fun s51 => bn (m_x12_byteRead p0 s51) (fun qr54 => bn (m_x12_twoRead p0 qr54.2) (fun qr57 => inb 785 16 (stn (sA qr57.2 113 (upZ (gA qr57.2 113) (Int.toNat 16) ((65536 * qr54.1) + qr57.1))) (fun s59 => rg qr54.1 (if qr54.1 = (-1) then m_x12_isLaid_J54 s59 else rg qr57.1 (if qr57.1 = (-1) then m_x12_isLaid_J54 s59 else rdI (gA s59 113) 785 16 (fun y64 => rg y64 (if y64 ≤ 999999 then m_x12_isLaid_L59 FU p0 0 s59 else m_x12_isLaid_J54 s59)))))))))
def m_x12_areValues_J88 (s : MS) (_u : Unit) : Option Int :=
  some 0
def m_x12_areValues_J90 (s : MS) (lr2 : Int → Int → Option Int) (x3 : Int) (x4 : Int) : Option Int :=
  lr2 x3 (x4 + 1)
def m_x12_areValues_b2 (s : MS) (lr2 : Int → Int → Option Int) (x1 : Int) (x2 : Int) : Option Int :=
  bn (m_x12_laidOf x1 3 s) (fun r6 => rg x2 (rg r6 (if r6 ≤ x2 then some 1 else bn (m_x12_laidOf x1 (10 + x2) s) (fun r11 => bn (m_x12_laidOf x1 2 s) (fun r13 => rg r13 (if r13 = 0 then rg r11 (bn (m_x12_isIn r11 0 999 s) (fun r36 => rg r36 (if r36 = 0 then m_x12_areValues_J88 s () else m_x12_areValues_J90 s lr2 x1 x2))) else rg r11 (bn (m_x12_isBlock r11 s) (fun r18 => rg r18 (if r18 = 0 then m_x12_areValues_J88 s () else bn (m_x12_laidOf r11 0 s) (fun r22 => bn (m_x12_laidOf r11 1 s) (fun r24 => rg (r22 + r24) (if (r22 + r24) = 0 then m_x12_areValues_J88 s () else bn (m_x12_laidOf r11 2 s) (fun r28 => bn (m_x12_laidOf x1 2 s) (fun r30 => rg r28 (rg (r30 - 1) (if r28 = (r30 - 1) then m_x12_areValues_J90 s lr2 x1 x2 else m_x12_areValues_J88 s ()))))))))))))))))
def m_x12_areValues_L2 (s : MS) (n : Nat) : Int → Int → Option Int := lp (fun _ _ => none) (m_x12_areValues_b2 s) n
def m_x12_areValues (p0 : Int) (s : MS) : Option Int :=
  m_x12_areValues_L2 s FU p0 0
def m_x12_areCounts_b153 (lr153 : Int → Int → MS → Option (Int × MS)) (x1 : Int) (x2 : Int) (s3 : MS) : Option (Int × MS) :=
  bn (m_x12_blockMany s3) (fun r5 => rg x2 (rg r5 (if r5 ≤ x2 then some (1, s3) else rdI (gA s3 115) 48 x2 (fun y9 => bn (m_x12_laidOf x2 x1 s3) (fun r11 => rg y9 (rg r11 (if y9 = r11 then lr153 x1 (x2 + 1) s3 else some (0, s3))))))))
def m_x12_areCounts_L153 (n : Nat) : Int → Int → MS → Option (Int × MS) := lp (fun _ _ _ => none) (m_x12_areCounts_b153) n
def m_x12_areCounts_J145 (lr80 : Int → Int → MS → Option (Int × MS)) (x18 : Int) (x19 : Int) (s20 : MS) : Option (Int × MS) :=
  lr80 x18 (x19 + 1) s20
def m_x12_areCounts_b111 (lr80 : Int → Int → MS → Option (Int × MS)) (lr111 : Int → Int → Int → MS → Option (Int × MS)) (x21 : Int) (x22 : Int) (x23 : Int) (s24 : MS) : Option (Int × MS) :=
  bn (m_x12_laidOf x22 3 s24) (fun r26 => rg x23 (rg r26 (if r26 ≤ x23 then m_x12_areCounts_J145 lr80 x21 x22 s24 else bn (m_x12_laidOf x22 (10 + x23) s24) (fun r31 => rdI (gA s24 115) 48 r31 (fun y32 => inb 48 r31 (stn (sA s24 115 (upZ (gA s24 115) (Int.toNat r31) (y32 + 1))) (fun s34 => lr111 x21 x22 (x23 + 1) s34)))))))
def m_x12_areCounts_L111 (lr80 : Int → Int → MS → Option (Int × MS)) (n : Nat) : Int → Int → Int → MS → Option (Int × MS) := lp (fun _ _ _ _ => none) (m_x12_areCounts_b111 lr80) n
def m_x12_areCounts_b80 (lr80 : Int → Int → MS → Option (Int × MS)) (x15 : Int) (x16 : Int) (s17 : MS) : Option (Int × MS) :=
  bn (m_x12_blockMany s17) (fun r36 => rg x16 (rg r36 (if r36 ≤ x16 then m_x12_areCounts_L153 FU x15 0 s17 else bn (m_x12_laidOf x16 x15 s17) (fun r41 => rg r41 (if r41 = 0 then m_x12_areCounts_J145 lr80 x15 x16 s17 else bn (m_x12_laidOf x16 2 s17) (fun r45 => rg r45 (if r45 = 0 then m_x12_areCounts_J145 lr80 x15 x16 s17 else m_x12_areCounts_L111 lr80 FU x15 x16 0 s17)))))))
def m_x12_areCounts_L80 (n : Nat) : Int → Int → MS → Option (Int × MS) := lp (fun _ _ _ => none) (m_x12_areCounts_b80) n
def m_x12_areCounts_J72 (lr23 : Int → Int → MS → Option (Int × MS)) (x51 : Int) (x52 : Int) (s53 : MS) : Option (Int × MS) :=
  lr23 x51 (x52 + 1) s53
def m_x12_areCounts_b23 (lr23 : Int → Int → MS → Option (Int × MS)) (x48 : Int) (x49 : Int) (s50 : MS) : Option (Int × MS) :=
  rg x49 (if 8 ≤ x49 then m_x12_areCounts_L80 FU x48 0 s50 else rdI (gA s50 113) 785 ((8 * x48) + x49) (fun y56 => rg y56 (if y56 < 254 then rg y56 (bn (m_x12_isBlock y56 s50) (fun r61 => rg r61 (if r61 = 0 then some (0, s50) else rdI (gA s50 115) 48 y56 (fun y64 => inb 48 y56 (stn (sA s50 115 (upZ (gA s50 115) (Int.toNat y56) (y64 + 1))) (fun s66 => m_x12_areCounts_J72 lr23 x48 x49 s66)))))) else m_x12_areCounts_J72 lr23 x48 x49 s50)))
def m_x12_areCounts_L23 (n : Nat) : Int → Int → MS → Option (Int × MS) := lp (fun _ _ _ => none) (m_x12_areCounts_b23) n
def m_x12_areCounts_b2 (lr2 : Int → Int → MS → Option (Int × MS)) (x67 : Int) (x68 : Int) (s69 : MS) : Option (Int × MS) :=
  rg x68 (if 48 ≤ x68 then m_x12_areCounts_L23 FU x67 0 s69 else inb 48 x68 (stn (sA s69 115 (upZ (gA s69 115) (Int.toNat x68) 0)) (fun s73 => lr2 x67 (x68 + 1) s73)))
def m_x12_areCounts_L2 (n : Nat) : Int → Int → MS → Option (Int × MS) := lp (fun _ _ _ => none) (m_x12_areCounts_b2) n
def m_x12_areCounts (p0 : Int) (s : MS) : Option (Int × MS) :=
  m_x12_areCounts_L2 FU p0 0 s
def m_x12_areBetween_J96 (lr10 : Int → Int → Int → MS → Option (Int × MS)) (lr30 : Int → Int → Int → Int → Int → MS → Option (Int × MS)) (x11 : Int) (x12 : Int) (x13 : Int) (x14 : Int) (x15 : Int) (s16 : MS) : Option (Int × MS) :=
  lr30 x11 x12 x13 x14 (x15 + 1) s16
def m_x12_areBetween_b30 (lr10 : Int → Int → Int → MS → Option (Int × MS)) (lr30 : Int → Int → Int → Int → Int → MS → Option (Int × MS)) (x5 : Int) (x6 : Int) (x7 : Int) (x8 : Int) (x9 : Int) (s10 : MS) : Option (Int × MS) :=
  bn (m_x12_laidOf x8 3 s10) (fun r18 => rg x9 (rg r18 (if r18 ≤ x9 then lr10 x5 x6 x7 s10 else bn (m_x12_laidOf x8 2 s10) (fun r23 => rg r23 (if r23 = 0 then bn (m_x12_laidOf x8 (4 + x9) s10) (fun r31 => rg r31 (rg x5 (rg x6 (bn (m_x12_isIn r31 x5 x6 s10) (fun r36 => rg r36 (if r36 = 0 then some (0, s10) else m_x12_areBetween_J96 lr10 lr30 x5 x6 x7 x8 x9 s10)))))) else bn (m_x12_laidOf x8 (10 + x9) s10) (fun r27 => inb 300 x7 (stn (sA s10 62 (upZ (gA s10 62) (Int.toNat x7) r27)) (fun s29 => m_x12_areBetween_J96 lr10 lr30 x5 x6 (x7 + 1) x8 x9 s29))))))))
def m_x12_areBetween_L30 (lr10 : Int → Int → Int → MS → Option (Int × MS)) (n : Nat) : Int → Int → Int → Int → Int → MS → Option (Int × MS) := lp (fun _ _ _ _ _ _ => none) (m_x12_areBetween_b30 lr10) n
def m_x12_areBetween_b10 (lr10 : Int → Int → Int → MS → Option (Int × MS)) (x1 : Int) (x2 : Int) (x3 : Int) (s4 : MS) : Option (Int × MS) :=
  rg x3 (if x3 ≤ 0 then some (1, s4) else rdI (gA s4 62) 300 (x3 + (-1)) (fun y41 => m_x12_areBetween_L30 lr10 FU x1 x2 (x3 + (-1)) y41 0 s4))
def m_x12_areBetween_L10 (n : Nat) : Int → Int → Int → MS → Option (Int × MS) := lp (fun _ _ _ _ => none) (m_x12_areBetween_b10) n
def m_x12_areBetween (p0 : Int) (p1 : Int) (p2 : Int) (s : MS) : Option (Int × MS) :=
  inb 300 0 (stn (sA s 62 (upZ (gA s 62) (Int.toNat 0) p0)) (fun s43 => m_x12_areBetween_L10 FU p1 p2 1 s43))
def m_x12_areKeys_J86 (s1 : MS) : Option (Int × MS) :=
  some (1, s1)
def m_x12_areKeys_J72 (lr9 : Int → Int → Int → MS → Option (Int × MS)) (x6 : Int) (x7 : Int) (x8 : Int) (x9 : Int) (x10 : Int) (x11 : Int) (s12 : MS) : Option (Int × MS) :=
  bn (m_x12_areBetween x11 x10 x9 s12) (fun qr15 => rg qr15.1 (if qr15.1 = 0 then some (0, qr15.2) else lr9 x6 x7 (x8 + 1) qr15.2))
def m_x12_areKeys_J49 (lr9 : Int → Int → Int → MS → Option (Int × MS)) (x18 : Int) (x19 : Int) (x20 : Int) (x21 : Int) (x22 : Int) (s23 : MS) : Option (Int × MS) :=
  rg (x20 + 1) (rg x19 (if x19 ≤ (x20 + 1) then m_x12_areKeys_J72 lr9 x18 x19 x20 999 x21 x22 s23 else bn (m_x12_laidOf x18 (5 + x20) s23) (fun r28 => m_x12_areKeys_J72 lr9 x18 x19 x20 (r28 - 1) x21 x22 s23)))
def m_x12_areKeys_b9 (lr9 : Int → Int → Int → MS → Option (Int × MS)) (x2 : Int) (x3 : Int) (x4 : Int) (s5 : MS) : Option (Int × MS) :=
  rg x4 (rg x3 (if x3 ≤ x4 then m_x12_areKeys_J86 s5 else bn (m_x12_laidOf x2 2 s5) (fun r33 => rg r33 (if r33 ≤ 0 then m_x12_areKeys_J86 s5 else bn (m_x12_laidOf x2 (10 + x4) s5) (fun r37 => rg x4 (if x4 = 0 then m_x12_areKeys_J49 lr9 x2 x3 x4 0 r37 s5 else bn (m_x12_laidOf x2 (4 + x4) s5) (fun r41 => m_x12_areKeys_J49 lr9 x2 x3 x4 r41 r37 s5)))))))
def m_x12_areKeys_L9 (n : Nat) : Int → Int → Int → MS → Option (Int × MS) := lp (fun _ _ _ _ => none) (m_x12_areKeys_b9) n
def m_x12_areKeys (p0 : Int) (s : MS) : Option (Int × MS) :=
  bn (m_x12_laidOf p0 3 s) (fun r43 => m_x12_areKeys_L9 FU p0 r43 0 s)
def m_x12_checked_v2_b6 (s : MS) (lr6 : Int → Int → Int → Option Int) (x1 : Int) (x2 : Int) (x3 : Int) : Option Int :=
  rg x3 (rg x1 (if x1 ≤ x3 then some x2 else rdI (gA s 0) 1600 x3 (fun y7 => dv ((3 * x2) + y7) 251 (lr6 x1 (Int.tmod ((3 * x2) + y7) 251) (x3 + 1)))))
def m_x12_checked_v2_L6 (s : MS) (n : Nat) : Int → Int → Int → Option Int := lp (fun _ _ _ => none) (m_x12_checked_v2_b6 s) n
def m_x12_checked_v2 (p1 : Int) (s : MS) : Option Int :=
  m_x12_checked_v2_L6 s FU p1 157 0
def m_x12_isImage_J129 (lr92 : Int → MS → Option (Int × MS)) (lr101 : Int → Int → MS → Option (Int × MS)) (x6 : Int) (x7 : Int) (s8 : MS) : Option (Int × MS) :=
  lr101 x6 (x7 + 1) s8
def m_x12_isImage_b101 (lr92 : Int → MS → Option (Int × MS)) (lr101 : Int → Int → MS → Option (Int × MS)) (x3 : Int) (x4 : Int) (s5 : MS) : Option (Int × MS) :=
  bn (m_x12_blockMany s5) (fun r10 => rg x4 (rg r10 (if r10 ≤ x4 then lr92 (x3 + 1) s5 else bn (m_x12_laidOf x4 2 s5) (fun r15 => rg r15 (rg x3 (if r15 = x3 then bn (m_x12_areKeys x4 s5) (fun qr21 => rg qr21.1 (if qr21.1 = 0 then some (0, qr21.2) else m_x12_isImage_J129 lr92 lr101 x3 x4 qr21.2)) else m_x12_isImage_J129 lr92 lr101 x3 x4 s5))))))
def m_x12_isImage_L101 (lr92 : Int → MS → Option (Int × MS)) (n : Nat) : Int → Int → MS → Option (Int × MS) := lp (fun _ _ _ => none) (m_x12_isImage_b101 lr92) n
def m_x12_isImage_b92 (lr92 : Int → MS → Option (Int × MS)) (x1 : Int) (s2 : MS) : Option (Int × MS) :=
  rg x1 (if 256 ≤ x1 then some (1, s2) else m_x12_isImage_L101 lr92 FU x1 0 s2)
def m_x12_isImage_L92 (n : Nat) : Int → MS → Option (Int × MS) := lp (fun _ _ => none) (m_x12_isImage_b92) n
def m_x12_isImage_J88 (s26 : MS) : Option (Int × MS) :=
  some (0, s26)
def m_x12_isImage_b48 (lr48 : Int → MS → Option (Int × MS)) (x27 : Int) (s28 : MS) : Option (Int × MS) :=
  bn (m_x12_blockMany s28) (fun r30 => rg x27 (rg r30 (if r30 ≤ x27 then bn (m_x12_areCounts 0 s28) (fun qr36 => rg qr36.1 (if qr36.1 = 0 then m_x12_isImage_J88 qr36.2 else bn (m_x12_areCounts 1 qr36.2) (fun qr41 => rg qr41.1 (if qr41.1 = 0 then m_x12_isImage_J88 qr41.2 else m_x12_isImage_L92 FU 1 qr41.2)))) else bn (m_x12_areValues x27 s28) (fun r45 => rg r45 (if r45 = 0 then some (0, s28) else lr48 (x27 + 1) s28)))))
def m_x12_isImage_L48 (n : Nat) : Int → MS → Option (Int × MS) := lp (fun _ _ => none) (m_x12_isImage_b48) n
def m_x12_isImage_J44 (s48 : MS) : Option (Int × MS) :=
  some (0, s48)
def m_x12_isImage (p0 : Int) (s : MS) : Option (Int × MS) :=
  rg (gI s 47) (if (gI s 47) = 0 then m_x12_isImage_J44 s else rg p0 (if p0 < 20 then m_x12_isImage_J44 s else rdI (gA s 0) 1600 (p0 - 1) (fun y53 => bn (m_x12_checked_v2 (p0 - 1) s) (fun r55 => rg y53 (rg r55 (if y53 = r55 then bn (m_x12_isLaid (p0 - 1) s) (fun qr61 => rg qr61.1 (if qr61.1 = 0 then m_x12_isImage_J44 qr61.2 else m_x12_isImage_L48 FU 0 qr61.2)) else m_x12_isImage_J44 s))))))
def m_x12_on_b26 (lr26 : Int → MS → Option (Int × MS)) (x1 : Int) (s2 : MS) : Option (Int × MS) :=
  rg x1 (if 785 ≤ x1 then inb 906 785 (stn (sA s2 49 (upZ (gA s2 49) (Int.toNat 785) 0)) (fun s6 => stn (sI s6 76 0) (fun s7 => some (1, s7)))) else rdI (gA s2 113) 785 x1 (fun y8 => inb 906 x1 (stn (sA s2 49 (upZ (gA s2 49) (Int.toNat x1) y8)) (fun s10 => lr26 (x1 + 1) s10))))
def m_x12_on_L26 (n : Nat) : Int → MS → Option (Int × MS) := lp (fun _ _ => none) (m_x12_on_b26) n
def m_x12_on (s : MS) : Option (Int × MS) :=
  stn (sI s 1 0) (fun s11 => bn (m_x12_isImage (gI s 1) s11) (fun qr14 => rg qr14.1 (if qr14.1 = 0 then bn (m_x12_isRefused 5 qr14.2) (fun qr19 => bo qr19.1 (some (qr19.1, qr19.2))) else m_x12_on_L26 FU 0 qr14.2)))
def m_x1_settle (s : MS) : Option (Int × MS) :=
  bn (m_x1_price s) (fun qr3 => rg ((gI s 1061) + qr3.1) (stn (sI qr3.2 1061 (minZ 999999 ((gI s 1061) + qr3.1))) (fun s5 => bn (m_x1_wrote s5) (fun r7 => some (r7, s5)))))
def m_x2_keep_J70 (x1 : Int) (x2 : Int) (x3 : Int) (s4 : MS) : Option MS :=
  inb 60 (gI s4 143) (stn (sA s4 8 (upZ (gA s4 8) (Int.toNat (gI s4 143)) x1)) (fun s6 => inb 60 (gI s6 143) (stn (sA s6 9 (upZ (gA s6 9) (Int.toNat (gI s6 143)) x2)) (fun s8 => inb 60 (gI s8 143) (stn (sA s8 10 (upZ (gA s8 10) (Int.toNat (gI s8 143)) x3)) (fun s10 => stn (sI s10 143 ((gI s10 143) + 1)) (fun s11 => some s11)))))))
def m_x2_keep (p0 : Int) (p1 : Int) (p2 : Int) (s : MS) : Option MS :=
  rg (gI s 143) (if (gI s 143) = 60 then stn (sI s 143 ((gI s 143) - 1)) (fun s14 => cpg 1 0 (gI s14 143) 60 60 (stn (sA s14 8 (va_cpy (gA s14 8) (gA s14 8) (Int.toNat 1) (Int.toNat 0) (Int.toNat (gI s14 143)))) (fun s16 => cpg 1 0 (gI s16 143) 60 60 (stn (sA s16 9 (va_cpy (gA s16 9) (gA s16 9) (Int.toNat 1) (Int.toNat 0) (Int.toNat (gI s16 143)))) (fun s18 => cpg 1 0 (gI s18 143) 60 60 (stn (sA s18 10 (va_cpy (gA s18 10) (gA s18 10) (Int.toNat 1) (Int.toNat 0) (Int.toNat (gI s18 143)))) (fun s20 => m_x2_keep_J70 p0 p1 p2 s20))))))) else m_x2_keep_J70 p0 p1 p2 s)
def m_finish (p0 p1 : Int) (s : MS) (ts : List MS) : Option (Int × MS × List MS) :=
  bn (m_x1_settle s) (fun q => bn (m_x2_keep p0 p1 q.1 q.2) (fun s2 => bn (m_remember s2 ts) (fun w => some (q.1, w.1, w.2))))
def m_x11_put_J28 (ts : List MS) (s1 : MS) : Option (Int × MS × List MS) :=
  bn (m_x11_refuse 2 s1) (fun qr4 => some (qr4.1, qr4.2, ts))
def m_x11_put (ts : List MS) (p0 : Int) (p1 : Int) (p2 : Int) (s : MS) : Option (Int × MS × List MS) :=
  bn (m_x8_isVolume p0 s) (fun r6 => rg r6 (if r6 = 0 then m_x11_put_J28 ts s else bn (m_x11_isKey p1 s) (fun r10 => rg r10 (if r10 = 0 then m_x11_put_J28 ts s else bn (m_x11_isKey p2 s) (fun r14 => rg r14 (if r14 = 0 then m_x11_put_J28 ts s else bn (m_x1_begin s) (fun s18 => bn (m_x1_tryPlant p0 p1 p2 s18) (fun qr21 => rg qr21.1 (if qr21.1 = 0 then bn (m_x11_refuse 2 qr21.2) (fun qr30 => some (qr30.1, qr30.2, ts)) else bn (m_finish 0 p0 qr21.2 ts) (fun qr25 => some (qr25.1, qr25.2.1, qr25.2.2)))))))))))
def m_x11_remove (ts : List MS) (p0 : Int) (p1 : Int) (s : MS) : Option (Int × MS × List MS) :=
  bn (m_x8_isVolume p0 s) (fun r2 => rg r2 (if r2 = 0 then bn (m_x11_refuse 2 s) (fun qr21 => some (qr21.1, qr21.2, ts)) else bn (m_x1_begin s) (fun s6 => bn (m_x1_tryUproot p0 p1 s6) (fun qr9 => rg qr9.1 (if qr9.1 = 0 then bn (m_x11_refuse 2 qr9.2) (fun qr18 => some (qr18.1, qr18.2, ts)) else bn (m_finish 1 p0 qr9.2 ts) (fun qr13 => some (qr13.1, qr13.2.1, qr13.2.2)))))))
def m_x11_copy_J30 (ts : List MS) (s1 : MS) : Option (Int × MS × List MS) :=
  bn (m_x11_refuse 2 s1) (fun qr4 => some (qr4.1, qr4.2, ts))
def m_x11_copy (ts : List MS) (p0 : Int) (s : MS) : Option (Int × MS × List MS) :=
  bn (m_x8_freeNumber s) (fun r6 => bn (m_x8_isVolume p0 s) (fun r8 => rg r8 (if r8 = 0 then m_x11_copy_J30 ts s else rg r6 (if r6 = (-1) then m_x11_copy_J30 ts s else bn (m_x1_begin s) (fun s14 => bn (m_x1_share p0 r6 s14) (fun s16 => bn (m_finish 2 r6 s16 ts) (fun qr18 => some (r6, qr18.2.1, qr18.2.2))))))))
def m_x11_drop (ts : List MS) (p0 : Int) (s : MS) : Option (Int × MS × List MS) :=
  bn (m_x8_isVolume p0 s) (fun r2 => rg r2 (if r2 = 0 then bn (m_x11_refuse 2 s) (fun qr19 => some (qr19.1, qr19.2, ts)) else bn (m_x1_begin s) (fun s6 => bn (m_x8_used s6) (fun r8 => bn (m_x1_letGo p0 s6) (fun s10 => bn (m_finish 3 p0 s10 ts) (fun qr12 => bn (m_x8_used qr12.2.1) (fun r16 => some (r8 - r16, qr12.2.1, qr12.2.2))))))))
def m_x11_checkpoint (ts : List MS) (s : MS) : Option (Int × MS × List MS) :=
  rg (gI s 12) (if (gI s 12) = 0 then bn (m_x11_refuse 3 s) (fun qr15 => some (qr15.1, qr15.2, ts)) else bn (m_x1_begin s) (fun s4 => bn (m_x8_held s4) (fun r6 => bn (m_x8_save s4) (fun s8 => bn (m_finish 4 255 s8 ts) (fun qr10 => some (r6, qr10.2.1, qr10.2.2))))))
def m_x11_crash (ts : List MS) (s : MS) : Option (Int × MS × List MS) :=
  rg (gI s 12) (if (gI s 12) = 0 then bn (m_x11_refuse 3 s) (fun qr15 => some (qr15.1, qr15.2, ts)) else bn (m_x1_begin s) (fun s4 => bn (m_x8_freshBlocks s4) (fun r6 => bn (m_x8_fallBack s4) (fun s8 => bn (m_finish 5 255 s8 ts) (fun qr10 => some (r6, qr10.2.1, qr10.2.2))))))
def m_x1_draw_J39 (x1 : Int) (s2 : MS) : Option (Int × MS) :=
  some (x1, s2)
def m_x1_draw (p0 : Int) (s : MS) : Option (Int × MS) :=
  rg (gI s 983) (stn (sI s 983 (andL ((1103515245 * (gI s 983)) + 12345) 2147483647)) (fun s4 => rg p0 (if p0 ≤ 0 then m_x1_draw_J39 0 s4 else dv (gI s4 983) 64 (dv (Int.tdiv (gI s4 983) 64) p0 (m_x1_draw_J39 (Int.tmod (Int.tdiv (gI s4 983) 64) p0) s4)))))
def m_x1_volumeAt_J30 (s : MS) (lr4 : Int → Int → Option Int) (x3 : Int) (x4 : Int) : Option Int :=
  lr4 x3 (x4 + 1)
def m_x1_volumeAt_b4 (s : MS) (lr4 : Int → Int → Option Int) (x1 : Int) (x2 : Int) : Option Int :=
  rg x2 (if 8 ≤ x2 then some 0 else bn (m_x8_isVolume x2 s) (fun r8 => rg r8 (if r8 = 0 then m_x1_volumeAt_J30 s lr4 x1 x2 else rg x1 (if x1 = 0 then some x2 else m_x1_volumeAt_J30 s lr4 (x1 + (-1)) x2))))
def m_x1_volumeAt_L4 (s : MS) (n : Nat) : Int → Int → Option Int := lp (fun _ _ => none) (m_x1_volumeAt_b4 s) n
def m_x1_volumeAt (p0 : Int) (s : MS) : Option Int :=
  m_x1_volumeAt_L4 s FU p0 0
def m_x1_actBySeed_J23 (s1 : MS) : Option (Int × MS) :=
  bn (m_x8_volumes s1) (fun r3 => rg r3 (if r3 = 0 then some (0, s1) else bn (m_x1_draw r3 s1) (fun qr8 => bn (m_x1_volumeAt qr8.1 qr8.2) (fun r10 => bn (m_x1_draw 3 qr8.2) (fun qr13 => bn (m_x1_draw 40 qr13.2) (fun qr16 => rg qr13.1 (if qr13.1 = 2 then bn (m_x1_tryUproot r10 qr16.1 qr16.2) (fun qr28 => bo qr28.1 (some (qr28.1, qr28.2))) else bn (m_x1_draw 100 qr16.2) (fun qr21 => bn (m_x1_tryPlant r10 qr16.1 qr21.1 qr21.2) (fun qr24 => bo qr24.1 (some (qr24.1, qr24.2)))))))))))
def m_x1_actBySeed (s : MS) : Option (Int × MS) :=
  bn (m_x1_draw 100 s) (fun qr32 => rg qr32.1 (rg (gI qr32.2 582) (if (gI qr32.2 582) ≤ qr32.1 then m_x1_actBySeed_J23 qr32.2 else bn (m_x8_save qr32.2) (fun s37 => m_x1_actBySeed_J23 s37))))
def m_x11_chance_J53 (ts : List MS) (lr35 : Int → Int → Int → MS → Option (Int × MS × List MS)) (x5 : Int) (x6 : Int) (x7 : Int) (s8 : MS) : Option (Int × MS × List MS) :=
  lr35 x5 x6 (x7 + 1) s8
def m_x11_chance_b35 (ts : List MS) (lr35 : Int → Int → Int → MS → Option (Int × MS × List MS)) (x1 : Int) (x2 : Int) (x3 : Int) (s4 : MS) : Option (Int × MS × List MS) :=
  rg x3 (rg x1 (if x1 ≤ x3 then bn (m_finish 6 255 s4 ts) (fun qr13 => some (x2, qr13.2.1, qr13.2.2)) else bn (m_x1_actBySeed s4) (fun qr18 => rg qr18.1 (if qr18.1 = 0 then m_x11_chance_J53 ts lr35 x1 x2 x3 qr18.2 else m_x11_chance_J53 ts lr35 x1 (x2 + 1) x3 qr18.2))))
def m_x11_chance_L35 (ts : List MS) (n : Nat) : Int → Int → Int → MS → Option (Int × MS × List MS) := lp (fun _ _ _ _ => none) (m_x11_chance_b35 ts) n
def m_x11_chance_J18 (ts : List MS) (s21 : MS) : Option (Int × MS × List MS) :=
  bn (m_x11_refuse 3 s21) (fun qr24 => some (qr24.1, qr24.2, ts))
def m_x11_chance (ts : List MS) (p0 : Int) (s : MS) : Option (Int × MS × List MS) :=
  rg (gI s 12) (if (gI s 12) = 0 then m_x11_chance_J18 ts s else rg p0 (if p0 < 1 then m_x11_chance_J18 ts s else rg p0 (if p0 ≤ 40 then bn (m_x1_begin s) (fun s32 => m_x11_chance_L35 ts FU p0 0 0 s32) else m_x11_chance_J18 ts s)))
def m_x8_becomeP (s : MS) : Option MS :=
  stn (sI s 1060 (gI s 1240)) (fun s1 => stn (sI s1 1061 (gI s1 1241)) (fun s2 => stn (sL s2 1062 (gL s2 1242)) (fun s3 => cpg 0 0 48 48 48 (stn (sA s3 54 (va_cpy (gA s3 63) (gA s3 54) (Int.toNat 0) (Int.toNat 0) (Int.toNat 48))) (fun s5 => cpg 0 0 48 48 48 (stn (sA s5 55 (va_cpy (gA s5 64) (gA s5 55) (Int.toNat 0) (Int.toNat 0) (Int.toNat 48))) (fun s7 => cpg 0 0 48 48 48 (stn (sA s7 56 (va_cpy (gA s7 65) (gA s7 56) (Int.toNat 0) (Int.toNat 0) (Int.toNat 48))) (fun s9 => cpg 0 0 48 48 48 (stn (sA s9 57 (va_cpy (gA s9 66) (gA s9 57) (Int.toNat 0) (Int.toNat 0) (Int.toNat 48))) (fun s11 => cpg 0 0 288 288 288 (stn (sA s11 58 (va_cpy (gA s11 67) (gA s11 58) (Int.toNat 0) (Int.toNat 0) (Int.toNat 288))) (fun s13 => cpg 0 0 288 288 288 (stn (sA s13 59 (va_cpy (gA s13 68) (gA s13 59) (Int.toNat 0) (Int.toNat 0) (Int.toNat 288))) (fun s15 => cpg 0 0 8 8 8 (stn (sA s15 60 (va_cpy (gA s15 69) (gA s15 60) (Int.toNat 0) (Int.toNat 0) (Int.toNat 8))) (fun s17 => cpg 0 0 8 8 8 (stn (sA s17 61 (va_cpy (gA s17 70) (gA s17 61) (Int.toNat 0) (Int.toNat 0) (Int.toNat 8))) (fun s19 => some s19)))))))))))))))))))
def m_x11_undo (ts : List MS) (s : MS) : Option (Int × MS × List MS) :=
  rg (gI s 145) (rg (gI s 143) (if gI s 145 = 0 ∨ gI s 143 = 0 then bn (m_x11_refuse 4 s) (fun q => some (0, q.2, ts))
  else stn (sI (sI s 145 (gI s 145 - 1)) 143 (gI s 143 - 1)) (fun s2 => inb 20 (gI s2 145) (if (gI s2 145).toNat < ts.length then bn (m_x8_becomeP (setB s2 (ts.getD (gI s2 145).toNat s2))) (fun s3 => some (1, setB s3 s2, ts.set (gI s2 145).toNat s3)) else none))))
def swS (s : MS) : MS := (fun k => if 580 ≤ k ∧ k ≤ 779 then s.1 (k + 200) else if 780 ≤ k ∧ k ≤ 979 then s.1 (k - 200) else s.1 k, s.2.1, fun k => if 29 ≤ k ∧ k ≤ 38 then s.2.2.1 (k + 10) else if 39 ≤ k ∧ k ≤ 48 then s.2.2.1 (k - 10) else s.2.2.1 k, s.2.2.2)
def m_x8_clear_v2_b59 (lr59 : Int → MS → Option MS) (x1 : Int) (s2 : MS) : Option MS :=
  rg x1 (if 8 ≤ x1 then some s2 else inb 8 x1 (stn (sA s2 60 (upZ (gA s2 60) (Int.toNat x1) (-2))) (fun s6 => inb 8 x1 (stn (sA s6 61 (upZ (gA s6 61) (Int.toNat x1) (-2))) (fun s8 => lr59 (x1 + 1) s8)))))
def m_x8_clear_v2_L59 (n : Nat) : Int → MS → Option MS := lp (fun _ _ => none) (m_x8_clear_v2_b59) n
def m_x8_clear_v2_b17 (lr17 : Int → MS → Option MS) (x9 : Int) (s10 : MS) : Option MS :=
  rg x9 (if 48 ≤ x9 then m_x8_clear_v2_L59 FU 0 s10 else inb 48 x9 (stn (sA s10 54 (upZ (gA s10 54) (Int.toNat x9) 0)) (fun s14 => inb 48 x9 (stn (sA s14 55 (upZ (gA s14 55) (Int.toNat x9) 0)) (fun s16 => inb 48 x9 (stn (sA s16 56 (upZ (gA s16 56) (Int.toNat x9) 0)) (fun s18 => inb 48 x9 (stn (sA s18 57 (upZ (gA s18 57) (Int.toNat x9) 0)) (fun s20 => lr17 (x9 + 1) s20)))))))))
def m_x8_clear_v2_L17 (n : Nat) : Int → MS → Option MS := lp (fun _ _ => none) (m_x8_clear_v2_b17) n
def m_x8_clear_v2 (p0 : Int) (s : MS) : Option MS :=
  stn (sI s 1060 p0) (fun s21 => stn (sI s21 1061 0) (fun s22 => stn (sL s22 1062 0) (fun s23 => m_x8_clear_v2_L17 FU 0 s23)))
def m_x1_build_J135 (lr18 : Int → MS → Option MS) (x3 : Int) (s4 : MS) : Option MS :=
  lr18 (x3 + 1) s4
def m_x1_build_b18 (lr18 : Int → MS → Option MS) (x1 : Int) (s2 : MS) : Option MS :=
  rg x1 (rg (gI s2 585) (if (gI s2 585) ≤ x1 then bn (m_x8_save s2) (fun s9 => stn (sI s9 1061 0) (fun s10 => stn (sL s10 1062 0) (fun s11 => some s11))) else rdI (gA s2 32) 60 x1 (fun y12 => rdI (gA s2 31) 60 x1 (fun y13 => rg y13 (if y13 = 2 then inb 8 y12 (stn (sA s2 60 (upZ (gA s2 60) (Int.toNat y12) (-1))) (fun s17 => m_x1_build_J135 lr18 x1 s17)) else if y13 = 3 then rdI (gA s2 33) 60 x1 (fun y19 => bn (m_x1_share y19 y12 s2) (fun s21 => m_x1_build_J135 lr18 x1 s21)) else if y13 = 4 then m_x1_build_J135 lr18 x1 s2 else if y13 = 5 then rdI (gA s2 33) 60 x1 (fun y24 => rdI (gA s2 34) 60 x1 (fun y25 => bn (m_x1_tryPlant y12 y24 y25 s2) (fun qr28 => m_x1_build_J135 lr18 x1 qr28.2))) else if y13 = 6 then rdI (gA s2 33) 60 x1 (fun y30 => bn (m_x1_tryUproot y12 y30 s2) (fun qr33 => m_x1_build_J135 lr18 x1 qr33.2)) else m_x1_build_J135 lr18 x1 s2)))))
def m_x1_build_L18 (n : Nat) : Int → MS → Option MS := lp (fun _ _ => none) (m_x1_build_b18) n
def m_x1_build (s : MS) : Option MS :=
  bn (m_x8_clear_v2 (gI s 580) s) (fun s35 => m_x1_build_L18 FU 0 s35)
def m_x11_store (s : MS) : Option (Int × MS) :=
  bn (m_x6_readStore s) (fun qr3 => stn (sI qr3.2 61 0) (fun s4 => rg qr3.1 (if qr3.1 = 0 then bn (m_x11_refuse 1 s4) (fun qr17 => some (qr17.1, qr17.2)) else eqg (gI s4 9999) 2 (stn (sI (swS s4) 9999 1) (fun s8 => bn (m_x1_build s8) (fun s10 => bn (m_x2_clear s10) (fun s12 => stn (sI s12 220 0) (fun s13 => stn (sI s13 12 1) (fun s14 => some (gI s14 583, s14))))))))))
/-- what holds between calls is kept by each call of both sides, and the answers that the law compares are alike -/
def LSt (Iv : MS → List MS → MS → Prop) : Prop :=
  (∀ (x : MS) (ts : List MS) (t : MS) (p1 : Int) (p2 : Int) (p3 : Int) (p4 : Int) (p5 : Int), R2 p1 → R2 p2 → R2 p3 → R2 p4 → R2 p5 → Iv x ts t → ∃ (x1 : MS) (r : Int) (t1 : MS) (r2 : Int), m_x11_feed p1 p2 p3 p4 p5 x = some (r, x1) ∧ m_x12_feed p1 p2 p3 p4 p5 t = some (r2, t1) ∧ Iv x1 ts t1) ∧
  (∀ (x : MS) (ts : List MS) (t : MS) (p1 : Int), R2 p1 → Iv x ts t → ∃ (x1 : MS) (r : Int) (t1 : MS) (r2 : Int), m_x11_end p1 x = some (r, x1) ∧ m_x12_end p1 t = some (r2, t1) ∧ Iv x1 ts t1) ∧
  (∀ (x : MS) (ts : List MS) (t : MS), Iv x ts t → ∃ (x1 : MS) (r : Int) (t1 : MS) (r2 : Int), m_x11_store x = some (r, x1) ∧ m_x12_store t = some (r2, t1) ∧ Iv x1 ts t1) ∧
  (∀ (x : MS) (ts : List MS) (t : MS) (p1 : Int), R2 p1 → Iv x ts t → ∃ (r : Int) (r2 : Int), m_x11_fault p1 x = some r ∧ m_x12_fault p1 t = some r2 ∧ r = r2 ∧ Iv x ts t) ∧
  (∀ (x : MS) (ts : List MS) (t : MS) (p1 : Int), R2 p1 → Iv x ts t → ∃ (r : Int) (r2 : Int), m_x11_has p1 x = some r ∧ m_x12_has p1 t = some r2 ∧ Iv x ts t) ∧
  (∀ (x : MS) (ts : List MS) (t : MS) (p1 : Int) (p2 : Int), R2 p1 → R2 p2 → Iv x ts t → ∃ (r : Int) (r2 : Int), m_x11_letter p1 p2 x = some r ∧ m_x12_letter p1 p2 t = some r2 ∧ Iv x ts t) ∧
  (∀ (x : MS) (ts : List MS) (t : MS) (p1 : Int) (p2 : Int), R2 p1 → R2 p2 → Iv x ts t → ∃ (x1 : MS) (r : Int) (t1 : MS) (r2 : Int), m_x11_volume p1 p2 x = some (r, x1) ∧ m_x12_volume p1 p2 t = some (r2, t1) ∧ Iv x1 ts t1) ∧
  (∀ (x : MS) (ts : List MS) (t : MS) (p1 : Int) (p2 : Int), R2 p1 → R2 p2 → Iv x ts t → ∃ (r : Int) (r2 : Int), m_x11_block p1 p2 x = some r ∧ m_x12_block p1 p2 t = some r2 ∧ Iv x ts t) ∧
  (∀ (x : MS) (ts : List MS) (t : MS) (p1 : Int) (p2 : Int) (p3 : Int), R2 p1 → R2 p2 → R2 p3 → Iv x ts t → ∃ (r : Int) (r2 : Int), m_x11_entry p1 p2 p3 x = some r ∧ m_x12_entry p1 p2 p3 t = some r2 ∧ Iv x ts t) ∧
  (∀ (x : MS) (ts : List MS) (t : MS) (p1 : Int) (p2 : Int), R2 p1 → R2 p2 → Iv x ts t → ∃ (r : Int) (r2 : Int), m_x11_kept p1 p2 x = some r ∧ m_x12_kept p1 p2 t = some r2 ∧ Iv x ts t) ∧
  (∀ (x : MS) (ts : List MS) (t : MS) (p1 : Int) (p2 : Int), R2 p1 → R2 p2 → Iv x ts t → ∃ (r : Int) (r2 : Int), m_x11_read p1 p2 x = some r ∧ m_x12_read p1 p2 t = some r2 ∧ Iv x ts t) ∧
  (∀ (x : MS) (ts : List MS) (t : MS) (p1 : Int) (p2 : Int), R2 p1 → R2 p2 → Iv x ts t → ∃ (x1 : MS) (r : Int) (t1 : MS) (r2 : Int), m_x11_key p1 p2 x = some (r, x1) ∧ m_x12_key p1 p2 t = some (r2, t1) ∧ Iv x1 ts t1) ∧
  (∀ (x : MS) (ts : List MS) (t : MS) (p1 : Int) (p2 : Int) (p3 : Int), R2 p1 → R2 p2 → R2 p3 → Iv x ts t → ∃ (x1 : MS) (r : Int) (t1 : MS) (r2 : Int), m_x11_total p1 p2 p3 x = some (r, x1) ∧ m_x12_total p1 p2 p3 t = some (r2, t1) ∧ Iv x1 ts t1) ∧
  (∀ (x : MS) (ts : List MS) (t : MS) (p1 : Int) (p2 : Int) (p3 : Int), R2 p1 → R2 p2 → R2 p3 → Iv x ts t → ∃ (r : Int) (r2 : Int), m_x11_path p1 p2 p3 x = some r ∧ m_x12_path p1 p2 p3 t = some r2 ∧ Iv x ts t) ∧
  (∀ (x : MS) (ts : List MS) (t : MS) (p1 : Int) (p2 : Int), R2 p1 → R2 p2 → Iv x ts t → ∃ (x1 : MS) (r : Int) (t1 : MS) (r2 : Int), m_x11_shared p1 p2 x = some (r, x1) ∧ m_x12_shared p1 p2 t = some (r2, t1) ∧ Iv x1 ts t1) ∧
  (∀ (x : MS) (ts : List MS) (t : MS) (p1 : Int) (p2 : Int) (p3 : Int), R2 p1 → R2 p2 → R2 p3 → Iv x ts t → ∃ (x1 : MS) (r : Int) (r2 : Int), m_x11_differs p1 p2 p3 x = some (r, x1) ∧ m_x12_differs p1 p2 p3 t = some r2 ∧ Iv x1 ts t) ∧
  (∀ (x : MS) (ts : List MS) (t : MS) (p1 : Int) (p2 : Int) (p3 : Int), R2 p1 → R2 p2 → R2 p3 → Iv x ts t → ∃ (x1 : MS) (r : Int) (t1 : MS) (r2 : Int), m_x11_writes p1 p2 p3 x = some (r, x1) ∧ m_x12_writes p1 p2 p3 t = some (r2, t1) ∧ Iv x1 ts t1) ∧
  (∀ (x : MS) (ts : List MS) (t : MS) (p1 : Int) (p2 : Int), R2 p1 → R2 p2 → Iv x ts t → ∃ (x1 : MS) (r : Int) (t1 : MS) (r2 : Int), m_x11_spread p1 p2 x = some (r, x1) ∧ m_x12_spread p1 p2 t = some (r2, t1) ∧ Iv x1 ts t1) ∧
  (∀ (x : MS) (ts : List MS) (t : MS) (p1 : Int), R2 p1 → Iv x ts t → ∃ (x1 : MS) (r : Int) (t1 : MS) (r2 : Int), m_x11_lost p1 x = some (r, x1) ∧ m_x12_lost p1 t = some (r2, t1) ∧ Iv x1 ts t1) ∧
  (∀ (x : MS) (ts : List MS) (t : MS) (p1 : Int), R2 p1 → Iv x ts t → ∃ (x1 : MS) (r : Int) (t1 : MS) (r2 : Int), m_x11_worst p1 x = some (r, x1) ∧ m_x12_worst p1 t = some (r2, t1) ∧ Iv x1 ts t1) ∧
  (∀ (x : MS) (ts : List MS) (t : MS) (p1 : Int), R2 p1 → Iv x ts t → ∃ (x1 : MS) (r : Int) (t1 : MS) (r2 : Int), m_x11_victim p1 x = some (r, x1) ∧ m_x12_victim p1 t = some (r2, t1) ∧ Iv x1 ts t1) ∧
  (∀ (x : MS) (ts : List MS) (t : MS) (p1 : Int), R2 p1 → Iv x ts t → ∃ (r : Int) (r2 : Int), m_x11_room p1 x = some r ∧ m_x12_room p1 t = some r2 ∧ Iv x ts t) ∧
  (∀ (x : MS) (ts : List MS) (t : MS) (p1 : Int), R2 p1 → Iv x ts t → ∃ (x1 : MS) (r : Int) (r2 : Int), m_x11_back p1 x = some (r, x1) ∧ m_x12_back p1 t = some r2 ∧ Iv x1 ts t) ∧
  (∀ (x : MS) (ts : List MS) (t : MS), Iv x ts t → ∃ (x1 : MS) (r : Int) (t1 : MS) (r2 : Int), m_x11_see x = some (r, x1) ∧ m_x12_see t = some (r2, t1) ∧ Iv x1 ts t1) ∧
  (∀ (x : MS) (ts : List MS) (t : MS) (p1 : Int), R2 p1 → Iv x ts t → ∃ (x1 : MS) (r : Int) (r2 : Int), m_x11_fits p1 x = some (r, x1) ∧ m_x12_fits p1 t = some r2 ∧ Iv x1 ts t) ∧
  (∀ (x : MS) (ts : List MS) (t : MS) (p1 : Int), R2 p1 → Iv x ts t → ∃ (x1 : MS) (r : Int) (r2 : Int), m_x11_tells p1 x = some (r, x1) ∧ m_x12_tells p1 t = some r2 ∧ Iv x1 ts t) ∧
  (∀ (x : MS) (ts : List MS) (t : MS) (p1 : Int) (p2 : Int) (p3 : Int), R2 p1 → R2 p2 → R2 p3 → Iv x ts t → ∃ (x1 : MS) (ts1 : List MS) (r : Int) (t1 : MS) (r2 : Int), m_x11_put ts p1 p2 p3 x = some (r, x1, ts1) ∧ m_x12_put p1 p2 p3 t = some (r2, t1) ∧ Iv x1 ts1 t1) ∧
  (∀ (x : MS) (ts : List MS) (t : MS) (p1 : Int) (p2 : Int), R2 p1 → R2 p2 → Iv x ts t → ∃ (x1 : MS) (ts1 : List MS) (r : Int) (t1 : MS) (r2 : Int), m_x11_remove ts p1 p2 x = some (r, x1, ts1) ∧ m_x12_remove p1 p2 t = some (r2, t1) ∧ Iv x1 ts1 t1) ∧
  (∀ (x : MS) (ts : List MS) (t : MS) (p1 : Int), R2 p1 → Iv x ts t → ∃ (x1 : MS) (ts1 : List MS) (r : Int) (t1 : MS) (r2 : Int), m_x11_copy ts p1 x = some (r, x1, ts1) ∧ m_x12_copy p1 t = some (r2, t1) ∧ Iv x1 ts1 t1) ∧
  (∀ (x : MS) (ts : List MS) (t : MS) (p1 : Int), R2 p1 → Iv x ts t → ∃ (x1 : MS) (ts1 : List MS) (r : Int) (t1 : MS) (r2 : Int), m_x11_drop ts p1 x = some (r, x1, ts1) ∧ m_x12_drop p1 t = some (r2, t1) ∧ Iv x1 ts1 t1) ∧
  (∀ (x : MS) (ts : List MS) (t : MS), Iv x ts t → ∃ (x1 : MS) (ts1 : List MS) (r : Int) (t1 : MS) (r2 : Int), m_x11_checkpoint ts x = some (r, x1, ts1) ∧ m_x12_checkpoint t = some (r2, t1) ∧ Iv x1 ts1 t1) ∧
  (∀ (x : MS) (ts : List MS) (t : MS), Iv x ts t → ∃ (x1 : MS) (ts1 : List MS) (r : Int) (t1 : MS) (r2 : Int), m_x11_crash ts x = some (r, x1, ts1) ∧ m_x12_crash t = some (r2, t1) ∧ Iv x1 ts1 t1) ∧
  (∀ (x : MS) (ts : List MS) (t : MS) (p1 : Int), R2 p1 → Iv x ts t → ∃ (x1 : MS) (ts1 : List MS) (r : Int) (t1 : MS) (r2 : Int), m_x11_chance ts p1 x = some (r, x1, ts1) ∧ m_x12_chance p1 t = some (r2, t1) ∧ Iv x1 ts1 t1) ∧
  (∀ (x : MS) (ts : List MS) (t : MS), Iv x ts t → ∃ (x1 : MS) (ts1 : List MS) (r : Int) (t1 : MS) (r2 : Int), m_x11_undo ts x = some (r, x1, ts1) ∧ m_x12_undo t = some (r2, t1) ∧ Iv x1 ts1 t1) ∧
  (∀ (x : MS) (ts : List MS) (t : MS) (p1 : Int), R2 p1 → Iv x ts t → ∃ (x1 : MS) (r : Int) (t1 : MS) (r2 : Int), m_x11_seed p1 x = some (r, x1) ∧ m_x12_seed p1 t = some (r2, t1) ∧ Iv x1 ts t1) ∧
  (∀ (x : MS) (ts : List MS) (t : MS), Iv x ts t → ∃ (x1 : MS) (r : Int) (t1 : MS) (r2 : Int), m_x11_ask x = some (r, x1) ∧ m_x12_ask t = some (r2, t1) ∧ Iv x1 ts t1) ∧
  (∀ (x : MS) (ts : List MS) (t : MS), Iv x ts t → ∃ (x1 : MS) (r : Int) (t1 : MS) (r2 : Int), m_x11_image x = some (r, x1) ∧ m_x12_image t = some (r2, t1) ∧ Iv x1 ts t1) ∧
  (∀ (x : MS) (ts : List MS) (t : MS) (p1 : Int), R2 p1 → Iv x ts t → ∃ (r : Int) (r2 : Int), m_x11_octet p1 x = some r ∧ m_x12_octet p1 t = some r2 ∧ Iv x ts t) ∧
  (∀ (x : MS) (ts : List MS) (t : MS), Iv x ts t → ∃ (x1 : MS) (r : Int) (t1 : MS) (r2 : Int), m_x11_on x = some (r, x1) ∧ m_x12_on t = some (r2, t1) ∧ Iv x1 ts t1) ∧
  (∀ (x : MS) (ts : List MS) (t : MS) (p1 : Int), R2 p1 → Iv x ts t → ∃ (r : Int) (r2 : Int), m_x11_status p1 x = some r ∧ m_x12_status p1 t = some r2 ∧ Iv x ts t)
