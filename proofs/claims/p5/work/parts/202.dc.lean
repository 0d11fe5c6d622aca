def m_x12_qTest_L2 (n : Nat) : Int → MS → Option MS := lp (fun _ _ => none) (m_x12_qTest_b2) n
def m_x12_qTest (s : MS) : Option MS :=
  m_x12_qTest_L2 FU 1 s
def m_x12_codesTold_b92 (lr92 : Int → Int → MS → Option MS) (x1 : Int) (x2 : Int) (s3 : MS) : Option MS :=
  rg x2 (rg (gI s3 102) (if (gI s3 102) ≤ x2 then inb 6 x1 (stn (sA s3 43 (upZ (gA s3 43) (Int.toNat x1) (gI s3 45))) (fun s8 => some s8)) else rdI (gA s3 101) 1700 x2 (fun y9 => inb 3200 (gI s3 45) (stn (sA s3 44 (upZ (gA s3 44) (Int.toNat (gI s3 45)) y9)) (fun s11 => stn (sI s11 45 ((gI s11 45) + 1)) (fun s12 => lr92 x1 (x2 + 1) s12))))))
def m_x12_codesTold_L92 (n : Nat) : Int → Int → MS → Option MS := lp (fun _ _ _ => none) (m_x12_codesTold_b92) n
def m_x12_codesTold_J72 (x13 : Int) (s14 : MS) : Option MS :=
  rg (gI s14 5) (if (gI s14 5) = 0 then inb 6 x13 (stn (sA s14 42 (upZ (gA s14 42) (Int.toNat x13) (gI s14 45))) (fun s18 => m_x12_codesTold_L92 FU x13 0 s18)) else some s14)
def m_x12_codesTold_J23 (x19 : Int) (s20 : MS) : Option MS :=
  rg (gI s20 5) (if (gI s20 5) = 0 then stn (sI s20 48 x19) (fun s23 => stn (sI s23 102 0) (fun s24 => stn (sI s24 104 0) (fun s25 => stn (sI s25 105 0) (fun s26 => stn (sI s26 106 0) (fun s27 => rg x19 (if x19 = 1 then bn (m_x12_qTest s27) (fun s33 => m_x12_codesTold_J72 x19 s33) else bn (m_x12_qSums s27) (fun s31 => m_x12_codesTold_J72 x19 s31))))))) else some s20)
def m_x12_codesTold (p0 : Int) (p1 : Int) (s : MS) : Option MS :=
  rg (gI s 5) (if (gI s 5) = 0 then rdI (gA s 42) 6 p0 (fun y36 => rg y36 (if y36 = (-1) then m_x12_codesTold_J23 p0 s else bn (m_x12_fail 5 p1 s) (fun s40 => m_x12_codesTold_J23 p0 s40))) else m_x12_codesTold_J23 p0 s)
def m_x12_statementTold_J178 (s1 : MS) : Option MS :=
  bn (m_x12_asksSign 59 s1) (fun s3 => stn (sI s3 46 ((gI s3 46) + 1)) (fun s4 => some s4))
def m_x12_statementTold (s : MS) : Option MS :=
  rg (gI s 46) (if (gI s 46) = 60 then bn (m_x12_fail 5 (gI s 2) s) (fun s64 => some s64) else bn (m_x12_takes 13 6 s) (fun qr9 => rg qr9.1 (if qr9.1 = 0 then bn (m_x12_takes 14 5 qr9.2) (fun qr14 => rg qr14.1 (if qr14.1 = 0 then bn (m_x12_takes 16 3 qr14.2) (fun qr19 => rg qr19.1 (if qr19.1 = 0 then bn (m_x12_takes 17 6 qr19.2) (fun qr24 => rg qr24.1 (if qr24.1 = 0 then bn (m_x12_takes 18 5 qr24.2) (fun qr29 => rg qr29.1 (if qr29.1 = 0 then bn (m_x12_takes 19 6 qr29.2) (fun qr34 => rg qr34.1 (if qr34.1 = 0 then bn (m_x12_takes 20 5 qr34.2) (fun qr39 => rg qr39.1 (if qr39.1 = 0 then bn (m_x12_asks 21 5 qr39.2) (fun s43 => bn (m_x12_number 0 100 s43) (fun qr46 => inb 10 4 (stn (sA qr46.2 39 (upZ (gA qr46.2 39) (Int.toNat 4) qr46.1)) (fun s48 => m_x12_statementTold_J178 s48)))) else bn (m_x12_codesTold 2 (gI s 2) qr39.2) (fun s50 => m_x12_statementTold_J178 s50))) else bn (m_x12_codesTold 1 (gI s 2) qr34.2) (fun s52 => m_x12_statementTold_J178 s52))) else bn (m_x12_codesTold 0 (gI s 2) qr29.2) (fun s54 => m_x12_statementTold_J178 s54))) else bn (m_x12_removeTold qr24.2) (fun s56 => m_x12_statementTold_J178 s56))) else bn (m_x12_putTold qr19.2) (fun s58 => m_x12_statementTold_J178 s58))) else bn (m_x12_volumeTold 1 (gI s 2) qr14.2) (fun s60 => m_x12_statementTold_J178 s60))) else bn (m_x12_volumeTold 0 (gI s 2) qr9.2) (fun s62 => m_x12_statementTold_J178 s62))))
def m_x12_countOf (p0 : Int) (s : MS) : Option Int :=
  rdI (gA s 49) 906 (17 + (16 * p0)) (fun y1 => some y1)
def m_x12_checks_b31 (lr31 : Int → MS → Option MS) (x1 : Int) (s2 : MS) : Option MS :=
  rg x1 (if 48 ≤ x1 then some s2 else bn (m_x12_countOf x1 s2) (fun r6 => inb 906 ((17 + (16 * x1)) + 1) (stn (sA s2 49 (upZ (gA s2 49) (Int.toNat ((17 + (16 * x1)) + 1)) r6)) (fun s8 => lr31 (x1 + 1) s8))))
def m_x12_checks_L31 (n : Nat) : Int → MS → Option MS := lp (fun _ _ => none) (m_x12_checks_b31) n
def m_x12_checks_b2 (lr2 : Int → MS → Option MS) (x9 : Int) (s10 : MS) : Option MS :=
  rg x9 (if 8 ≤ x9 then m_x12_checks_L31 FU 0 s10 else rdI (gA s10 49) 906 x9 (fun y13 => inb 906 (8 + x9) (stn (sA s10 49 (upZ (gA s10 49) (Int.toNat (8 + x9)) y13)) (fun s15 => lr2 (x9 + 1) s15))))
def m_x12_checks_L2 (n : Nat) : Int → MS → Option MS := lp (fun _ _ => none) (m_x12_checks_b2) n
def m_x12_checks (s : MS) : Option MS :=
  m_x12_checks_L2 FU 0 s
def m_x12_entriesOf (p0 : Int) (s : MS) : Option Int :=
  rdI (gA s 49) 906 ((17 + (16 * p0)) + 3) (fun y1 => some y1)
def m_x12_levelOf (p0 : Int) (s : MS) : Option Int :=
  rdI (gA s 49) 906 ((17 + (16 * p0)) + 2) (fun y1 => some y1)
def m_x12_valueAt (p0 : Int) (p1 : Int) (s : MS) : Option Int :=
  rdI (gA s 49) 906 (((17 + (16 * p0)) + 10) + p1) (fun y1 => some y1)
def m_x12_counts (p0 : Int) (p1 : Int) (s : MS) : Option MS :=
  rdI (gA s 49) 906 (17 + (16 * p0)) (fun y1 => inb 906 (17 + (16 * p0)) (stn (sA s 49 (upZ (gA s 49) (Int.toNat (17 + (16 * p0))) (y1 + p1))) (fun s3 => some s3)))
def m_x12_lowers_J63 (s1 : MS) : Option MS :=
  some s1
def m_x12_lowers_J51 (lr7 : Int → Int → MS → Option MS) (x5 : Int) (x6 : Int) (s7 : MS) : Option MS :=
  inb 906 x5 (stn (sA s7 49 (upZ (gA s7 49) (Int.toNat x5) x6)) (fun s9 => lr7 x5 x6 s9))
def m_x12_lowers_b7 (lr7 : Int → Int → MS → Option MS) (x2 : Int) (x3 : Int) (s4 : MS) : Option MS :=
  bn (m_x12_levelOf x3 s4) (fun r11 => rg r11 (if r11 ≤ 0 then m_x12_lowers_J63 s4 else bn (m_x12_entriesOf x3 s4) (fun r15 => rg r15 (if r15 = 1 then bn (m_x12_valueAt x3 0 s4) (fun r19 => bn (m_x12_counts x3 (-1) s4) (fun s21 => bn (m_x12_countOf x3 s21) (fun r23 => rg r23 (if r23 ≤ 0 then m_x12_lowers_J51 lr7 x2 r19 s21 else bn (m_x12_counts r19 1 s21) (fun s27 => m_x12_lowers_J51 lr7 x2 r19 s27))))) else m_x12_lowers_J63 s4))))
def m_x12_lowers_L7 (n : Nat) : Int → Int → MS → Option MS := lp (fun _ _ _ => none) (m_x12_lowers_b7) n
def m_x12_lowers (p0 : Int) (s : MS) : Option MS :=
  rdI (gA s 49) 906 p0 (fun y28 => m_x12_lowers_L7 FU p0 y28 s)
def m_x12_keyAt (p0 : Int) (p1 : Int) (s : MS) : Option Int :=
  rdI (gA s 49) 906 (((17 + (16 * p0)) + 4) + p1) (fun y1 => some y1)
def m_x12_setsEntry (p0 : Int) (p1 : Int) (p2 : Int) (p3 : Int) (s : MS) : Option MS :=
  inb 906 (((17 + (16 * p0)) + 4) + p1) (stn (sA s 49 (upZ (gA s 49) (Int.toNat (((17 + (16 * p0)) + 4) + p1)) p2)) (fun s2 => inb 906 (((17 + (16 * p0)) + 10) + p1) (stn (sA s2 49 (upZ (gA s2 49) (Int.toNat (((17 + (16 * p0)) + 10) + p1)) p3)) (fun s4 => inb 48 p0 (bo 1 (stn (sA s4 54 (upZ (gA s4 54) (Int.toNat p0) 1)) (fun s7 => some s7)))))))
def m_x12_cutsEntry_b2 (lr2 : Int → Int → MS → Option MS) (x1 : Int) (x2 : Int) (s3 : MS) : Option MS :=
  bn (m_x12_entriesOf x1 s3) (fun r5 => rg x2 (rg (r5 - 1) (if (r5 - 1) ≤ x2 then rdI (gA s3 49) 906 ((17 + (16 * x1)) + 3) (fun y9 => inb 906 ((17 + (16 * x1)) + 3) (stn (sA s3 49 (upZ (gA s3 49) (Int.toNat ((17 + (16 * x1)) + 3)) (y9 - 1))) (fun s11 => inb 48 x1 (bo 1 (stn (sA s11 54 (upZ (gA s11 54) (Int.toNat x1) 1)) (fun s14 => some s14)))))) else bn (m_x12_keyAt x1 (x2 + 1) s3) (fun r16 => bn (m_x12_valueAt x1 (x2 + 1) s3) (fun r18 => bn (m_x12_setsEntry x1 x2 r16 r18 s3) (fun s20 => lr2 x1 (x2 + 1) s20))))))
def m_x12_cutsEntry_L2 (n : Nat) : Int → Int → MS → Option MS := lp (fun _ _ _ => none) (m_x12_cutsEntry_b2) n
def m_x12_cutsEntry (p0 : Int) (p1 : Int) (s : MS) : Option MS :=
  m_x12_cutsEntry_L2 FU p0 p1 s
def m_x12_placeIn_J27 (s : MS) (x1 : Int) : Option Int :=
  some x1
def m_x12_placeIn_b2 (s : MS) (lr2 : Int → Int → Int → Option Int) (x2 : Int) (x3 : Int) (x4 : Int) : Option Int :=
  bn (m_x12_entriesOf x2 s) (fun r6 => rg x4 (rg r6 (if r6 ≤ x4 then m_x12_placeIn_J27 s x4 else bn (m_x12_keyAt x2 x4 s) (fun r11 => rg r11 (rg x3 (if x3 ≤ r11 then m_x12_placeIn_J27 s x4 else lr2 x2 x3 (x4 + 1)))))))
def m_x12_placeIn_L2 (s : MS) (n : Nat) : Int → Int → Int → Option Int := lp (fun _ _ _ => none) (m_x12_placeIn_b2 s) n
def m_x12_placeIn (p0 : Int) (p1 : Int) (s : MS) : Option Int :=
  m_x12_placeIn_L2 s FU p0 p1 0
def m_x12_placeFor_J31 (s : MS) (x1 : Int) : Option Int :=
  some x1
def m_x12_placeFor_b2 (s : MS) (lr2 : Int → Int → Int → Option Int) (x2 : Int) (x3 : Int) (x4 : Int) : Option Int :=
  bn (m_x12_entriesOf x2 s) (fun r6 => rg (x4 + 1) (rg r6 (if r6 ≤ (x4 + 1) then m_x12_placeFor_J31 s x4 else bn (m_x12_keyAt x2 (x4 + 1) s) (fun r11 => rg r11 (rg x3 (if x3 < r11 then m_x12_placeFor_J31 s x4 else lr2 x2 x3 (x4 + 1)))))))
def m_x12_placeFor_L2 (s : MS) (n : Nat) : Int → Int → Int → Option Int := lp (fun _ _ _ => none) (m_x12_placeFor_b2 s) n
def m_x12_placeFor (p0 : Int) (p1 : Int) (s : MS) : Option Int :=
  m_x12_placeFor_L2 s FU p0 p1 0
def m_x12_isUsed_J13 (s : MS) (x1 : Int) : Option Int :=
  bo x1 (some x1)
def m_x12_isUsed (p0 : Int) (s : MS) : Option Int :=
  bn (m_x12_countOf p0 s) (fun r4 => rg r4 (if r4 ≤ 0 then m_x12_isUsed_J13 s 0 else m_x12_isUsed_J13 s 1))
def m_x12_falls_b51 (lr9 : Int → MS → Option MS) (lr51 : Int → Int → Int → MS → Option MS) (x3 : Int) (x4 : Int) (x5 : Int) (s6 : MS) : Option MS :=
  bn (m_x12_entriesOf x4 s6) (fun r8 => rg x5 (rg r8 (if r8 ≤ x5 then lr9 x3 s6 else bn (m_x12_valueAt x4 x5 s6) (fun r13 => inb 300 x3 (stn (sA s6 56 (upZ (gA s6 56) (Int.toNat x3) r13)) (fun s15 => lr51 (x3 + 1) x4 (x5 + 1) s15))))))
def m_x12_falls_L51 (lr9 : Int → MS → Option MS) (n : Nat) : Int → Int → Int → MS → Option MS := lp (fun _ _ _ _ => none) (m_x12_falls_b51 lr9) n
def m_x12_falls_b9 (lr9 : Int → MS → Option MS) (x1 : Int) (s2 : MS) : Option MS :=
  rg x1 (if x1 ≤ 0 then some s2 else rdI (gA s2 56) 300 (x1 + (-1)) (fun y18 => bn (m_x12_counts y18 (-1) s2) (fun s20 => bn (m_x12_isUsed y18 s20) (fun r22 => rg r22 (if r22 = 0 then bn (m_x12_levelOf y18 s20) (fun r26 => rg r26 (if r26 = 0 then lr9 (x1 + (-1)) s20 else m_x12_falls_L51 lr9 FU (x1 + (-1)) y18 0 s20)) else lr9 (x1 + (-1)) s20)))))
def m_x12_falls_L9 (n : Nat) : Int → MS → Option MS := lp (fun _ _ => none) (m_x12_falls_b9) n
def m_x12_falls (p0 : Int) (s : MS) : Option MS :=
  inb 300 0 (stn (sA s 56 (upZ (gA s 56) (Int.toNat 0) p0)) (fun s30 => m_x12_falls_L9 FU 1 s30))
def m_x12_blockMany (s : MS) : Option Int :=
  rdI (gA s 39) 10 5 (fun y1 => some y1)
def m_x12_savedOf (p0 : Int) (s : MS) : Option Int :=
  rdI (gA s 49) 906 ((17 + (16 * p0)) + 1) (fun y1 => some y1)
def m_x12_isThere_J21 (s : MS) (x1 : Int) : Option Int :=
  bo x1 (some x1)
def m_x12_isThere_J16 (s : MS) (_u : Unit) : Option Int :=
  m_x12_isThere_J21 s 1
def m_x12_isThere (p0 : Int) (s : MS) : Option Int :=
  bn (m_x12_isUsed p0 s) (fun r4 => rg r4 (if r4 = 0 then bn (m_x12_savedOf p0 s) (fun r8 => rg r8 (if r8 ≤ 0 then m_x12_isThere_J21 s 0 else m_x12_isThere_J16 s ())) else m_x12_isThere_J16 s ()))
def m_x12_isCoded_J17 (s : MS) (x1 : Int) : Option Int :=
  bo x1 (some x1)
def m_x12_isCoded (p0 : Int) (s : MS) : Option Int :=
  rdI (gA s 42) 6 (3 + p0) (fun y3 => rg y3 (if y3 = (-1) then m_x12_isCoded_J17 s 0 else m_x12_isCoded_J17 s 1))
def m_x12_qPuts (p0 : Int) (s : MS) : Option MS :=
  inb 1700 (gI s 108) (stn (sB s 107 (upZ (gB s 107) (Int.toNat (gI s 108)) p0)) (fun s2 => stn (sI s2 108 ((gI s2 108) + 1)) (fun s3 => some s3)))
def m_x12_qClip_J29 (s : MS) (z1 : Int) : Option Int :=
  some z1
def m_x12_qClip (p0 : Int) (s : MS) : Option Int :=
  rgL p0 (if p0 ≤ 1000000 then rgL p0 (if (-1000000) ≤ p0 then m_x12_qClip_J29 s p0 else m_x12_qClip_J29 s (-1000000)) else m_x12_qClip_J29 s 1000000)
def m_x12_qFloor_J55 (s : MS) (z1 : Int) : Option Int :=
  some z1
def m_x12_qFloor_J53 (s : MS) (z2 : Int) : Option Int :=
  m_x12_qFloor_J55 s z2
def m_x12_qFloor_J43 (s : MS) (z3 : Int) (x4 : Int) (x5 : Int) : Option Int :=
  rg x5 (rg x4 (if x5 = x4 then m_x12_qFloor_J53 s z3 else m_x12_qFloor_J55 s (z3 - 1)))
def m_x12_qFloor_J32 (s : MS) (z9 : Int) (z10 : Int) (x11 : Int) : Option Int :=
  rgL z9 (if 0 ≤ z9 then m_x12_qFloor_J43 s z10 0 x11 else m_x12_qFloor_J43 s z10 1 x11)
def m_x12_qFloor (p0 : Int) (p1 : Int) (s : MS) : Option Int :=
  rgL p1 (if p1 = 0 then some 0 else dvL p0 p1 (dvL p0 p1 (rgL (Int.tmod p0 p1) (if (Int.tmod p0 p1) = 0 then m_x12_qFloor_J53 s (Int.tdiv p0 p1) else rgL p0 (if 0 ≤ p0 then m_x12_qFloor_J32 s p1 (Int.tdiv p0 p1) 0 else m_x12_qFloor_J32 s p1 (Int.tdiv p0 p1) 1)))))
def m_x12_qJoins_J273 (s1 : MS) : Option MS :=
  some s1
def m_x12_qJoins_J270 (z2 : Int) (s3 : MS) : Option MS :=
  bn (m_x12_qPuts z2 s3) (fun s5 => m_x12_qJoins_J273 s5)
def m_x12_qJoins_J238 (z6 : Int) (s7 : MS) : Option MS :=
  bn (m_x12_qPuts z6 s7) (fun s9 => m_x12_qJoins_J273 s9)
def m_x12_qJoins_J219 (z10 : Int) (s11 : MS) : Option MS :=
  bn (m_x12_qPuts z10 s11) (fun s13 => m_x12_qJoins_J273 s13)
def m_x12_qJoins_J200 (z14 : Int) (s15 : MS) : Option MS :=
  bn (m_x12_qPuts z14 s15) (fun s17 => m_x12_qJoins_J273 s17)
def m_x12_qJoins_J181 (z18 : Int) (s19 : MS) : Option MS :=
  bn (m_x12_qPuts z18 s19) (fun s21 => m_x12_qJoins_J273 s21)
def m_x12_qJoins_J161 (z22 : Int) (s23 : MS) : Option MS :=
  bn (m_x12_qPuts z22 s23) (fun s25 => m_x12_qJoins_J273 s25)
def m_x12_qJoins (p0 : Int) (s : MS) : Option MS :=
  rdL (gB s 107) 1700 ((gI s 108) - 1) (fun yl26 => rdL (gB s 107) 1700 ((gI s 108) - 2) (fun yl27 => stn (sI s 108 ((gI s 108) - 2)) (fun s28 => rg p0 (if p0 = 1 then bn (m_x12_qClip (yl27 + yl26) s28) (fun rl32 => bn (m_x12_qPuts rl32 s28) (fun s34 => m_x12_qJoins_J273 s34)) else if p0 = 2 then bn (m_x12_qClip (yl27 - yl26) s28) (fun rl37 => bn (m_x12_qPuts rl37 s28) (fun s39 => m_x12_qJoins_J273 s39)) else if p0 = 3 then bn (m_x12_qClip (yl27 * yl26) s28) (fun rl42 => bn (m_x12_qPuts rl42 s28) (fun s44 => m_x12_qJoins_J273 s44)) else if p0 = 4 then bn (m_x12_qFloor yl27 yl26 s28) (fun rl47 => bn (m_x12_qPuts rl47 s28) (fun s49 => m_x12_qJoins_J273 s49)) else if p0 = 5 then rgL yl27 (rgL yl26 (if yl26 ≤ yl27 then m_x12_qJoins_J161 yl26 s28 else m_x12_qJoins_J161 yl27 s28)) else if p0 = 6 then rgL yl27 (rgL yl26 (if yl27 ≤ yl26 then m_x12_qJoins_J181 yl26 s28 else m_x12_qJoins_J181 yl27 s28)) else if p0 = 7 then rgL yl27 (rgL yl26 (if yl26 ≤ yl27 then m_x12_qJoins_J200 0 s28 else m_x12_qJoins_J200 1 s28)) else if p0 = 8 then rgL yl27 (rgL yl26 (if yl27 ≤ yl26 then m_x12_qJoins_J219 0 s28 else m_x12_qJoins_J219 1 s28)) else if p0 = 9 then rgL yl27 (rgL yl26 (if yl27 = yl26 then m_x12_qJoins_J238 1 s28 else m_x12_qJoins_J238 0 s28)) else if p0 = 10 then bn (m_x12_qPuts (yl27 * yl26) s28) (fun s72 => m_x12_qJoins_J273 s72) else rgL (yl27 + yl26) (if (yl27 + yl26) ≤ 0 then m_x12_qJoins_J270 0 s28 else m_x12_qJoins_J270 1 s28)))))
def m_x12_isFresh_J21 (s : MS) (x1 : Int) : Option Int :=
  bo x1 (some x1)
def m_x12_isFresh_J20 (s : MS) (_u : Unit) : Option Int :=
  m_x12_isFresh_J21 s 0
def m_x12_isFresh (p0 : Int) (s : MS) : Option Int :=
  bn (m_x12_isUsed p0 s) (fun r4 => rg r4 (if r4 = 0 then m_x12_isFresh_J20 s () else bn (m_x12_savedOf p0 s) (fun r8 => rg r8 (if r8 = 0 then m_x12_isFresh_J21 s 1 else m_x12_isFresh_J20 s ()))))
def m_x12_qPartOf_J100 (s : MS) (z1 : Int) : Option Int :=
  some z1
def m_x12_qPartOf (p0 : Int) (p1 : Int) (s : MS) : Option Int :=
  rg p0 (if p0 = 0 then rg (gI s 52) (some (gI s 52)) else if p0 = 1 then rg (gI s 50) (some (gI s 50)) else if p0 = 2 then rg (gI s 51) (some (gI s 51)) else if p0 = 3 then rg (gI s 53) (some (gI s 53)) else if p0 = 4 then rg (gI s 50) (some (gI s 50)) else if p0 = 5 then bn (m_x12_countOf (gI s 50) s) (fun r15 => rg r15 (some r15)) else if p0 = 6 then bn (m_x12_isFresh (gI s 50) s) (fun r19 => rg r19 (if r19 = 0 then m_x12_qPartOf_J100 s 0 else m_x12_qPartOf_J100 s 1)) else bn (m_x12_savedOf (gI s 50) s) (fun r23 => rg r23 (some r23)))
def m_x12_codesTell_J136 (lr19 : Int → Int → MS → Option (Int × MS)) (x4 : Int) (x5 : Int) (s6 : MS) : Option (Int × MS) :=
  lr19 x4 (x5 + 1) s6
def m_x12_codesTell_b19 (lr19 : Int → Int → MS → Option (Int × MS)) (x1 : Int) (x2 : Int) (s3 : MS) : Option (Int × MS) :=
  rdI (gA s3 43) 6 (3 + x1) (fun y7 => rg x2 (rg y7 (if y7 ≤ x2 then rdL (gB s3 107) 1700 0 (fun yl11 => some (yl11, s3)) else rdI (gA s3 44) 3200 (1600 + x2) (fun y12 => rg y12 (if y12 < 1000 then rg y12 (if y12 < 40 then rg y12 (if y12 = 13 then bn (m_x12_qPuts 1 s3) (fun s27 => m_x12_codesTell_J136 lr19 x1 x2 s27) else rg y12 (if y12 = 12 then rdL (gB s3 107) 1700 ((gI s3 108) - 1) (fun yl23 => inb 1700 ((gI s3 108) - 1) (stn (sB s3 107 (upZ (gB s3 107) (Int.toNat ((gI s3 108) - 1)) (1 - yl23))) (fun s25 => m_x12_codesTell_J136 lr19 x1 x2 s25))) else bn (m_x12_qJoins y12 s3) (fun s22 => m_x12_codesTell_J136 lr19 x1 x2 s22))) else bn (m_x12_qPartOf (y12 - 40) 0 s3) (fun rl29 => bn (m_x12_qPuts rl29 s3) (fun s31 => m_x12_codesTell_J136 lr19 x1 x2 s31))) else rg (y12 - 1000) (bn (m_x12_qPuts (y12 - 1000) s3) (fun s34 => m_x12_codesTell_J136 lr19 x1 x2 s34)))))))
def m_x12_codesTell_L19 (n : Nat) : Int → Int → MS → Option (Int × MS) := lp (fun _ _ _ => none) (m_x12_codesTell_b19) n
def m_x12_codesTell (p0 : Int) (s : MS) : Option (Int × MS) :=
  stn (sI s 48 p0) (fun s35 => stn (sI s35 108 0) (fun s36 => rdI (gA s36 42) 6 (3 + p0) (fun y37 => m_x12_codesTell_L19 FU p0 y37 s36)))
def m_x12_taken_b126 (lr126 : Int → Int → Int → Int → MS → Option (Int × MS)) (x1 : Int) (x2 : Int) (x3 : Int) (x4 : Int) (s5 : MS) : Option (Int × MS) :=
  rg x4 (if 16 ≤ x4 then inb 906 x3 (stn (sA s5 49 (upZ (gA s5 49) (Int.toNat x3) 1)) (fun s9 => inb 906 (x3 + 2) (stn (sA s9 49 (upZ (gA s9 49) (Int.toNat (x3 + 2)) x1)) (fun s11 => inb 48 x2 (bo 1 (stn (sA s11 54 (upZ (gA s11 54) (Int.toNat x2) 1)) (fun s14 => some (x2, s14)))))))) else inb 906 (x3 + x4) (stn (sA s5 49 (upZ (gA s5 49) (Int.toNat (x3 + x4)) 0)) (fun s16 => lr126 x1 x2 x3 (x4 + 1) s16)))
def m_x12_taken_L126 (n : Nat) : Int → Int → Int → Int → MS → Option (Int × MS) := lp (fun _ _ _ _ _ => none) (m_x12_taken_b126) n
def m_x12_taken_J102 (x17 : Int) (x18 : Int) (s19 : MS) : Option (Int × MS) :=
  rg x18 (if x18 = (-1) then stn (sI s19 55 1) (fun s22 => some (0, s22)) else m_x12_taken_L126 FU x17 x18 (17 + (16 * x18)) 0 s19)
def m_x12_taken_J96 (lr8 : Int → Int → Int → Int → Int → MS → Option (Int × MS)) (x29 : Int) (x30 : Int) (x31 : Int) (z32 : Int) (x33 : Int) (s34 : MS) : Option (Int × MS) :=
  lr8 x29 x30 x31 z32 (x33 + 1) s34
def m_x12_taken_J89 (lr8 : Int → Int → Int → Int → Int → MS → Option (Int × MS)) (x35 : Int) (x36 : Int) (x37 : Int) (z38 : Int) (s39 : MS) : Option (Int × MS) :=
  m_x12_taken_J96 lr8 x35 x36 x37 z38 x37 s39
def m_x12_taken_J71 (lr8 : Int → Int → Int → Int → Int → MS → Option (Int × MS)) (x40 : Int) (x41 : Int) (x42 : Int) (z43 : Int) (x44 : Int) (z45 : Int) (s46 : MS) : Option (Int × MS) :=
  rg x42 (if x42 = (-1) then m_x12_taken_J89 lr8 x40 x41 x44 z45 s46 else rgL z45 (rgL z43 (if z45 < z43 then m_x12_taken_J89 lr8 x40 x41 x44 z45 s46 else m_x12_taken_J96 lr8 x40 x41 x42 z43 x44 s46)))
def m_x12_taken_b8 (lr8 : Int → Int → Int → Int → Int → MS → Option (Int × MS)) (x23 : Int) (x24 : Int) (x25 : Int) (z26 : Int) (x27 : Int) (s28 : MS) : Option (Int × MS) :=
  bn (m_x12_blockMany s28) (fun r53 => rg x27 (rg r53 (if r53 ≤ x27 then m_x12_taken_J102 x23 x25 s28 else rg (gI s28 55) (if (gI s28 55) = 0 then bn (m_x12_isThere x27 s28) (fun r60 => rg r60 (if r60 = 0 then stn (sI s28 50 x27) (fun s63 => stn (sI s63 51 x24) (fun s64 => stn (sI s64 52 x23) (fun s65 => bn (m_x12_isCoded 0 s65) (fun r67 => rg r67 (if r67 = 0 then rg x27 (m_x12_taken_J71 lr8 x23 x24 x25 z26 x27 x27 s65) else bn (m_x12_codesTell 0 s65) (fun qrl73 => m_x12_taken_J71 lr8 x23 x24 x25 z26 x27 qrl73.1 qrl73.2)))))) else m_x12_taken_J96 lr8 x23 x24 x25 z26 x27 s28)) else m_x12_taken_J102 x23 x25 s28))))
def m_x12_taken_L8 (n : Nat) : Int → Int → Int → Int → Int → MS → Option (Int × MS) := lp (fun _ _ _ _ _ _ => none) (m_x12_taken_b8) n
def m_x12_taken (p0 : Int) (p1 : Int) (s : MS) : Option (Int × MS) :=
  m_x12_taken_L8 FU p0 p1 (-1) 0 0 s
def m_x12_owned_J117 (x1 : Int) (x2 : Int) (s3 : MS) : Option (Int × MS) :=
  bn (m_x12_falls x1 s3) (fun s5 => some (x2, s5))
def m_x12_owned_b91 (lr91 : Int → Int → Int → MS → Option (Int × MS)) (x6 : Int) (x7 : Int) (x8 : Int) (s9 : MS) : Option (Int × MS) :=
  bn (m_x12_entriesOf x6 s9) (fun r11 => rg x8 (rg r11 (if r11 ≤ x8 then m_x12_owned_J117 x6 x7 s9 else bn (m_x12_valueAt x6 x8 s9) (fun r16 => bn (m_x12_counts r16 1 s9) (fun s18 => lr91 x6 x7 (x8 + 1) s18)))))
def m_x12_owned_L91 (n : Nat) : Int → Int → Int → MS → Option (Int × MS) := lp (fun _ _ _ _ => none) (m_x12_owned_b91) n
def m_x12_owned_b41 (lr41 : Int → Int → Int → MS → Option (Int × MS)) (x19 : Int) (x20 : Int) (x21 : Int) (s22 : MS) : Option (Int × MS) :=
  rg x21 (if 16 ≤ x21 then bn (m_x12_levelOf x19 s22) (fun r26 => rg r26 (if r26 ≤ 0 then m_x12_owned_J117 x19 x20 s22 else m_x12_owned_L91 FU x19 x20 0 s22)) else rdI (gA s22 49) 906 ((17 + (16 * x19)) + x21) (fun y29 => inb 906 ((17 + (16 * x20)) + x21) (stn (sA s22 49 (upZ (gA s22 49) (Int.toNat ((17 + (16 * x20)) + x21)) y29)) (fun s31 => lr41 x19 x20 (x21 + 1) s31))))
def m_x12_owned_L41 (n : Nat) : Int → Int → Int → MS → Option (Int × MS) := lp (fun _ _ _ _ => none) (m_x12_owned_b41) n
def m_x12_owned_J19 (x32 : Int) (s33 : MS) : Option (Int × MS) :=
  bn (m_x12_levelOf x32 s33) (fun r35 => bn (m_x12_taken r35 x32 s33) (fun qr38 => rg (gI qr38.2 55) (if (gI qr38.2 55) = 0 then m_x12_owned_L41 FU x32 qr38.1 3 qr38.2 else some (x32, qr38.2))))
def m_x12_owned (p0 : Int) (s : MS) : Option (Int × MS) :=
  bn (m_x12_isFresh p0 s) (fun r42 => rg r42 (if r42 = 0 then m_x12_owned_J19 p0 s else bn (m_x12_countOf p0 s) (fun r46 => rg r46 (if r46 = 1 then some (p0, s) else m_x12_owned_J19 p0 s))))
def m_x12_removes_J182 (x1 : Int) (x2 : Int) (s3 : MS) : Option MS :=
  bn (m_x12_entriesOf x2 s3) (fun r5 => rg r5 (if r5 = 0 then bn (m_x12_counts x2 (-1) s3) (fun s11 => inb 906 x1 (stn (sA s11 49 (upZ (gA s11 49) (Int.toNat x1) 254)) (fun s13 => some s13))) else bn (m_x12_lowers x1 s3) (fun s9 => some s9)))
def m_x12_removes_b137 (lr137 : Int → Int → Int → MS → Option MS) (x14 : Int) (x15 : Int) (x16 : Int) (s17 : MS) : Option MS :=
  bn (m_x12_entriesOf x15 s17) (fun r19 => rg r19 (if r19 = 0 then rg x16 (if x16 ≤ 0 then m_x12_removes_J182 x14 x15 s17 else bn (m_x12_counts x15 (-1) s17) (fun s25 => rdI (gA s25 57) 48 (x16 + (-1)) (fun y26 => rdI (gA s25 58) 48 (x16 + (-1)) (fun y27 => bn (m_x12_cutsEntry y26 y27 s25) (fun s29 => lr137 x14 y26 (x16 + (-1)) s29))))) else m_x12_removes_J182 x14 x15 s17))
def m_x12_removes_L137 (n : Nat) : Int → Int → Int → MS → Option MS := lp (fun _ _ _ _ => none) (m_x12_removes_b137) n
def m_x12_removes_J118 (x30 : Int) (x31 : Int) (x32 : Int) (x33 : Int) (s34 : MS) : Option MS :=
  rg (gI s34 55) (if (gI s34 55) = 0 then bn (m_x12_placeIn x32 x31 s34) (fun r38 => bn (m_x12_cutsEntry x32 r38 s34) (fun s40 => m_x12_removes_L137 FU x30 x32 x33 s40)) else some s34)
def m_x12_removes_J92 (lr29 : Int → Int → Int → Int → MS → Option MS) (x46 : Int) (x47 : Int) (x48 : Int) (x49 : Int) (x50 : Int) (x51 : Int) (s52 : MS) : Option MS :=
  inb 48 x49 (stn (sA s52 57 (upZ (gA s52 57) (Int.toNat x49) x48)) (fun s54 => inb 48 x49 (stn (sA s54 58 (upZ (gA s54 58) (Int.toNat x49) x50)) (fun s56 => lr29 x46 x47 x51 (x49 + 1) s56))))
def m_x12_removes_b29 (lr29 : Int → Int → Int → Int → MS → Option MS) (x41 : Int) (x42 : Int) (x43 : Int) (x44 : Int) (s45 : MS) : Option MS :=
  rg (gI s45 55) (if (gI s45 55) = 0 then bn (m_x12_levelOf x43 s45) (fun r60 => rg r60 (if r60 ≤ 0 then m_x12_removes_J118 x41 x42 x43 x44 s45 else bn (m_x12_placeFor x43 x42 s45) (fun r64 => bn (m_x12_valueAt x43 r64 s45) (fun r66 => bn (m_x12_owned r66 s45) (fun qr69 => rg qr69.1 (rg r66 (if qr69.1 = r66 then m_x12_removes_J92 lr29 x41 x42 x43 x44 r64 qr69.1 qr69.2 else bn (m_x12_keyAt x43 r64 qr69.2) (fun r74 => bn (m_x12_setsEntry x43 r64 r74 qr69.1 qr69.2) (fun s76 => m_x12_removes_J92 lr29 x41 x42 x43 x44 r64 qr69.1 s76))))))))) else m_x12_removes_J118 x41 x42 x43 x44 s45)
def m_x12_removes_L29 (n : Nat) : Int → Int → Int → Int → MS → Option MS := lp (fun _ _ _ _ _ => none) (m_x12_removes_b29) n
def m_x12_removes (p0 : Int) (p1 : Int) (s : MS) : Option MS :=
  rdI (gA s 49) 906 p0 (fun y77 => bn (m_x12_owned y77 s) (fun qr80 => rg (gI qr80.2 55) (if (gI qr80.2 55) = 0 then inb 906 p0 (stn (sA qr80.2 49 (upZ (gA qr80.2 49) (Int.toNat p0) qr80.1)) (fun s84 => m_x12_removes_L29 FU p0 p1 qr80.1 0 s84)) else some qr80.2)))
def m_x12_inserts_b7 (lr7 : Int → Int → Int → Int → Int → MS → Option MS) (x1 : Int) (x2 : Int) (x3 : Int) (x4 : Int) (x5 : Int) (s6 : MS) : Option MS :=
  rg x5 (rg x2 (if x5 ≤ x2 then bn (m_x12_setsEntry x1 x2 x3 x4 s6) (fun s11 => rdI (gA s11 49) 906 ((17 + (16 * x1)) + 3) (fun y12 => inb 906 ((17 + (16 * x1)) + 3) (stn (sA s11 49 (upZ (gA s11 49) (Int.toNat ((17 + (16 * x1)) + 3)) (y12 + 1))) (fun s14 => some s14)))) else bn (m_x12_keyAt x1 (x5 - 1) s6) (fun r16 => bn (m_x12_valueAt x1 (x5 - 1) s6) (fun r18 => bn (m_x12_setsEntry x1 x5 r16 r18 s6) (fun s20 => lr7 x1 x2 x3 x4 (x5 + (-1)) s20)))))
def m_x12_inserts_L7 (n : Nat) : Int → Int → Int → Int → Int → MS → Option MS := lp (fun _ _ _ _ _ _ => none) (m_x12_inserts_b7) n
def m_x12_inserts (p0 : Int) (p1 : Int) (p2 : Int) (p3 : Int) (s : MS) : Option MS :=
  bn (m_x12_entriesOf p0 s) (fun r22 => m_x12_inserts_L7 FU p0 p1 p2 p3 r22 s)
def m_x12_putsIn_J73 (s1 : MS) : Option MS :=
  some s1
def m_x12_putsIn_J34 (x2 : Int) (x3 : Int) (x4 : Int) (x5 : Int) (x6 : Int) (s7 : MS) : Option MS :=
  rg x6 (if x6 = 0 then bn (m_x12_inserts x2 x5 x3 x4 s7) (fun s18 => m_x12_putsIn_J73 s18) else bn (m_x12_valueAt x2 x5 s7) (fun r11 => rg r11 (rg x4 (if r11 = x4 then m_x12_putsIn_J73 s7 else bn (m_x12_setsEntry x2 x5 x3 x4 s7) (fun s16 => m_x12_putsIn_J73 s16)))))
def m_x12_putsIn_J33 (x19 : Int) (x20 : Int) (x21 : Int) (x22 : Int) (s23 : MS) : Option MS :=
  m_x12_putsIn_J34 x19 x20 x21 x22 0 s23
def m_x12_putsIn (p0 : Int) (p1 : Int) (p2 : Int) (s : MS) : Option MS :=
  bn (m_x12_placeIn p0 p1 s) (fun r25 => bn (m_x12_entriesOf p0 s) (fun r27 => rg r25 (rg r27 (if r27 ≤ r25 then m_x12_putsIn_J33 p0 p1 p2 r25 s else bn (m_x12_keyAt p0 r25 s) (fun r32 => rg r32 (rg p1 (if r32 = p1 then m_x12_putsIn_J34 p0 p1 p2 r25 1 s else m_x12_putsIn_J33 p0 p1 p2 r25 s)))))))
def m_x12_roomOf (s : MS) : Option Int :=
  rdI (gA s 39) 10 6 (fun y1 => some y1)
def m_x12_doesSplit_J60 (x1 : Int) (s2 : MS) : Option (Int × MS) :=
  bo x1 (some (x1, s2))
def m_x12_doesSplit_J29 (s4 : MS) : Option (Int × MS) :=
  some (0, s4)
def m_x12_doesSplit (p0 : Int) (s : MS) : Option (Int × MS) :=
  bn (m_x12_entriesOf p0 s) (fun r6 => bn (m_x12_roomOf s) (fun r8 => rg r6 (rg r8 (if r6 < r8 then rg r6 (if r6 < 2 then m_x12_doesSplit_J29 s else bn (m_x12_isCoded 1 s) (fun r15 => rg r15 (if r15 = 0 then m_x12_doesSplit_J29 s else bn (m_x12_levelOf p0 s) (fun r19 => stn (sI s 52 r19) (fun s20 => stn (sI s20 53 r6) (fun s21 => bn (m_x12_codesTell 1 s21) (fun qrl24 => rgL qrl24.1 (if qrl24.1 = 1 then m_x12_doesSplit_J60 1 qrl24.2 else m_x12_doesSplit_J60 0 qrl24.2)))))))) else some (1, s)))))
def m_x12_half_J142 (x1 : Int) (s2 : MS) : Option (Int × MS) :=
  some (x1, s2)
def m_x12_half_b43 (lr43 : Int → Int → Int → Int → Int → Int → Int → Int → MS → Option (Int × MS)) (x3 : Int) (x4 : Int) (x5 : Int) (x6 : Int) (x7 : Int) (x8 : Int) (x9 : Int) (x10 : Int) (s11 : MS) : Option (Int × MS) :=
  rg x10 (rg x8 (if x8 ≤ x10 then inb 906 ((17 + (16 * x5)) + 3) (stn (sA s11 49 (upZ (gA s11 49) (Int.toNat ((17 + (16 * x5)) + 3)) x9)) (fun s16 => inb 48 x5 (bo 1 (stn (sA s16 54 (upZ (gA s16 54) (Int.toNat x5) 1)) (fun s19 => bn (m_x12_keyAt x7 0 s19) (fun r21 => bn (m_x12_inserts x3 (x4 + 1) r21 x7 s19) (fun s23 => bn (m_x12_keyAt x7 0 s23) (fun r25 => rg r25 (rg x6 (if x6 < r25 then m_x12_half_J142 x5 s23 else m_x12_half_J142 x7 s23)))))))))) else bn (m_x12_keyAt x5 (x9 + x10) s11) (fun r30 => bn (m_x12_valueAt x5 (x9 + x10) s11) (fun r32 => bn (m_x12_inserts x7 x10 r30 r32 s11) (fun s34 => lr43 x3 x4 x5 x6 x7 x8 x9 (x10 + 1) s34)))))
def m_x12_half_L43 (n : Nat) : Int → Int → Int → Int → Int → Int → Int → Int → MS → Option (Int × MS) := lp (fun _ _ _ _ _ _ _ _ _ => none) (m_x12_half_b43) n
def m_x12_half (p0 : Int) (p1 : Int) (p2 : Int) (p3 : Int) (s : MS) : Option (Int × MS) :=
  bn (m_x12_levelOf p2 s) (fun r36 => bn (m_x12_taken r36 p2 s) (fun qr39 => rg (gI qr39.2 55) (if (gI qr39.2 55) = 0 then bn (m_x12_entriesOf p2 qr39.2) (fun r43 => dv r43 2 (bn (m_x12_entriesOf p2 qr39.2) (fun r46 => m_x12_half_L43 FU p0 p1 p2 p3 qr39.1 (Int.tdiv r43 2) (r46 - (Int.tdiv r43 2)) 0 qr39.2))) else some (p2, qr39.2))))
def m_x12_rootSplit (p0 : Int) (p1 : Int) (p2 : Int) (s : MS) : Option (Int × MS) :=
  bn (m_x12_levelOf p1 s) (fun r2 => bn (m_x12_taken (r2 + 1) 48 s) (fun qr5 => rg (gI qr5.2 55) (if (gI qr5.2 55) = 0 then bn (m_x12_keyAt p1 0 qr5.2) (fun r9 => bn (m_x12_inserts qr5.1 0 r9 p1 qr5.2) (fun s11 => inb 906 p0 (stn (sA s11 49 (upZ (gA s11 49) (Int.toNat p0) qr5.1)) (fun s13 => bn (m_x12_half qr5.1 0 p1 p2 s13) (fun qr16 => some (qr16.1, qr16.2)))))) else some (p1, qr5.2))))
def m_x12_puts_J213 (s1 : MS) : Option MS :=
  some s1
def m_x12_puts_J198 (x2 : Int) (x3 : Int) (x4 : Int) (s5 : MS) : Option MS :=
  rg (gI s5 55) (if (gI s5 55) = 0 then bn (m_x12_putsIn x4 x2 x3 s5) (fun s9 => m_x12_puts_J213 s9) else m_x12_puts_J213 s5)
def m_x12_puts_J191 (lr94 : Int → Int → Int → MS → Option MS) (x14 : Int) (x15 : Int) (x16 : Int) (s17 : MS) : Option MS :=
  lr94 x14 x15 x16 s17
def m_x12_puts_J162 (lr94 : Int → Int → Int → MS → Option MS) (x18 : Int) (x19 : Int) (x20 : Int) (x21 : Int) (x22 : Int) (s23 : MS) : Option MS :=
  rg (gI s23 55) (if (gI s23 55) = 0 then bn (m_x12_doesSplit x22 s23) (fun qr28 => rg qr28.1 (if qr28.1 = 0 then m_x12_puts_J191 lr94 x18 x19 x22 qr28.2 else bn (m_x12_half x20 x21 x22 x18 qr28.2) (fun qr33 => m_x12_puts_J191 lr94 x18 x19 qr33.1 qr33.2))) else m_x12_puts_J191 lr94 x18 x19 x22 s23)
def m_x12_puts_b94 (lr94 : Int → Int → Int → MS → Option MS) (x10 : Int) (x11 : Int) (x12 : Int) (s13 : MS) : Option MS :=
  rg (gI s13 55) (if (gI s13 55) = 0 then bn (m_x12_levelOf x12 s13) (fun r37 => rg r37 (if r37 ≤ 0 then m_x12_puts_J198 x10 x11 x12 s13 else bn (m_x12_placeFor x12 x10 s13) (fun r41 => bn (m_x12_valueAt x12 r41 s13) (fun r43 => bn (m_x12_owned r43 s13) (fun qr46 => rg qr46.1 (rg r43 (if qr46.1 = r43 then m_x12_puts_J162 lr94 x10 x11 x12 r41 qr46.1 qr46.2 else bn (m_x12_keyAt x12 r41 qr46.2) (fun r51 => bn (m_x12_setsEntry x12 r41 r51 qr46.1 qr46.2) (fun s53 => m_x12_puts_J162 lr94 x10 x11 x12 r41 qr46.1 s53))))))))) else m_x12_puts_J198 x10 x11 x12 s13)
def m_x12_puts_L94 (n : Nat) : Int → Int → Int → MS → Option MS := lp (fun _ _ _ _ => none) (m_x12_puts_b94) n
def m_x12_puts (p0 : Int) (p1 : Int) (p2 : Int) (s : MS) : Option MS :=
  rdI (gA s 49) 906 p0 (fun y54 => rg y54 (if y54 = 254 then bn (m_x12_taken 0 48 s) (fun qr75 => rg (gI qr75.2 55) (if (gI qr75.2 55) = 0 then bn (m_x12_inserts qr75.1 0 p1 p2 qr75.2) (fun s79 => inb 906 p0 (stn (sA s79 49 (upZ (gA s79 49) (Int.toNat p0) qr75.1)) (fun s81 => some s81))) else some qr75.2)) else rdI (gA s 49) 906 p0 (fun y57 => bn (m_x12_owned y57 s) (fun qr60 => rg (gI qr60.2 55) (if (gI qr60.2 55) = 0 then inb 906 p0 (stn (sA qr60.2 49 (upZ (gA qr60.2 49) (Int.toNat p0) qr60.1)) (fun s64 => bn (m_x12_doesSplit qr60.1 s64) (fun qr67 => rg qr67.1 (if qr67.1 = 0 then m_x12_puts_L94 FU p1 p2 qr60.1 qr67.2 else bn (m_x12_rootSplit p0 qr60.1 p1 qr67.2) (fun qr72 => m_x12_puts_L94 FU p1 p2 qr72.1 qr72.2))))) else some qr60.2)))))
def m_x12_valueFrom_J74 (s : MS) (x1 : Int) : Option Int :=
  some x1
def m_x12_valueFrom_J73 (s : MS) (_u : Unit) : Option Int :=
  m_x12_valueFrom_J74 s (-1)
def m_x12_valueFrom_b11 (s : MS) (lr11 : Int → Int → Option Int) (x2 : Int) (x3 : Int) : Option Int :=
  bn (m_x12_levelOf x3 s) (fun r5 => rg r5 (if r5 ≤ 0 then bn (m_x12_placeIn x3 x2 s) (fun r9 => bn (m_x12_entriesOf x3 s) (fun r11 => rg r9 (rg r11 (if r11 ≤ r9 then m_x12_valueFrom_J73 s () else bn (m_x12_keyAt x3 r9 s) (fun r16 => rg r16 (rg x2 (if r16 = x2 then bn (m_x12_valueAt x3 r9 s) (fun r21 => m_x12_valueFrom_J74 s r21) else m_x12_valueFrom_J73 s ()))))))) else bn (m_x12_placeFor x3 x2 s) (fun r23 => bn (m_x12_valueAt x3 r23 s) (fun r25 => lr11 x2 r25))))
def m_x12_valueFrom_L11 (s : MS) (n : Nat) : Int → Int → Option Int := lp (fun _ _ => none) (m_x12_valueFrom_b11 s) n
def m_x12_valueFrom (p0 : Int) (p1 : Int) (s : MS) : Option Int :=
  rg p0 (if p0 < 254 then m_x12_valueFrom_L11 s FU p1 p0 else some (-1))
def m_x12_valueOf (p0 : Int) (p1 : Int) (s : MS) : Option Int :=
  rdI (gA s 49) 906 p0 (fun y1 => bn (m_x12_valueFrom y1 p1 s) (fun r3 => some r3))
def m_x12_tries_b164 (lr164 : Int → MS → Option (Int × MS)) (x1 : Int) (s2 : MS) : Option (Int × MS) :=
  rg x1 (if 48 ≤ x1 then stn (sI s2 55 0) (fun s5 => some (0, s5)) else rdI (gA s2 60) 48 x1 (fun y6 => inb 48 x1 (bo y6 (stn (sA s2 54 (upZ (gA s2 54) (Int.toNat x1) y6)) (fun s9 => lr164 (x1 + 1) s9)))))
def m_x12_tries_L164 (n : Nat) : Int → MS → Option (Int × MS) := lp (fun _ _ => none) (m_x12_tries_b164) n
def m_x12_tries_b133 (lr133 : Int → MS → Option (Int × MS)) (x10 : Int) (s11 : MS) : Option (Int × MS) :=
  rg x10 (if 785 ≤ x10 then m_x12_tries_L164 FU 0 s11 else rdI (gA s11 59) 785 x10 (fun y14 => inb 906 x10 (stn (sA s11 49 (upZ (gA s11 49) (Int.toNat x10) y14)) (fun s16 => lr133 (x10 + 1) s16))))
def m_x12_tries_L133 (n : Nat) : Int → MS → Option (Int × MS) := lp (fun _ _ => none) (m_x12_tries_b133) n
def m_x12_tries_J121 (s17 : MS) : Option (Int × MS) :=
  rg (gI s17 55) (if (gI s17 55) = 0 then some (1, s17) else m_x12_tries_L133 FU 0 s17)
def m_x12_tries_J108 (x20 : Int) (x21 : Int) (s22 : MS) : Option (Int × MS) :=
  rg (gI s22 55) (if (gI s22 55) = 0 then bn (m_x12_removes x20 x21 s22) (fun s26 => m_x12_tries_J121 s26) else m_x12_tries_J121 s22)
def m_x12_tries_J82 (x27 : Int) (x28 : Int) (x29 : Int) (x30 : Int) (x31 : Int) (s32 : MS) : Option (Int × MS) :=
  bo x31 (stn (sI s32 55 x31) (fun s34 => rg (gI s34 55) (if (gI s34 55) = 0 then rg x27 (if x27 = 2 then bn (m_x12_puts x28 x29 x30 s34) (fun s40 => m_x12_tries_J121 s40) else m_x12_tries_J108 x28 x29 s34) else m_x12_tries_J108 x28 x29 s34)))
def m_x12_tries_J81 (x41 : Int) (x42 : Int) (x43 : Int) (x44 : Int) (s45 : MS) : Option (Int × MS) :=
  m_x12_tries_J82 x41 x42 x43 x44 0 s45
def m_x12_tries_b34 (lr34 : Int → Int → Int → Int → Int → MS → Option (Int × MS)) (x46 : Int) (x47 : Int) (x48 : Int) (x49 : Int) (x50 : Int) (s51 : MS) : Option (Int × MS) :=
  rg x50 (if 48 ≤ x50 then rg x46 (if x46 = 3 then bn (m_x12_valueOf x47 x48 s51) (fun r57 => rg r57 (if r57 = (-1) then m_x12_tries_J82 x46 x47 x48 x49 1 s51 else m_x12_tries_J81 x46 x47 x48 x49 s51)) else m_x12_tries_J81 x46 x47 x48 x49 s51) else rdI (gA s51 54) 48 x50 (fun y60 => inb 48 x50 (bo y60 (stn (sA s51 60 (upZ (gA s51 60) (Int.toNat x50) y60)) (fun s63 => lr34 x46 x47 x48 x49 (x50 + 1) s63)))))
def m_x12_tries_L34 (n : Nat) : Int → Int → Int → Int → Int → MS → Option (Int × MS) := lp (fun _ _ _ _ _ _ => none) (m_x12_tries_b34) n
def m_x12_tries_b3 (lr3 : Int → Int → Int → Int → Int → MS → Option (Int × MS)) (x64 : Int) (x65 : Int) (x66 : Int) (x67 : Int) (x68 : Int) (s69 : MS) : Option (Int × MS) :=
  rg x68 (if 785 ≤ x68 then m_x12_tries_L34 FU x64 x65 x66 x67 0 s69 else rdI (gA s69 49) 906 x68 (fun y72 => inb 785 x68 (stn (sA s69 59 (upZ (gA s69 59) (Int.toNat x68) y72)) (fun s74 => lr3 x64 x65 x66 x67 (x68 + 1) s74))))
def m_x12_tries_L3 (n : Nat) : Int → Int → Int → Int → Int → MS → Option (Int × MS) := lp (fun _ _ _ _ _ _ => none) (m_x12_tries_b3) n
def m_x12_tries (p0 : Int) (p1 : Int) (p2 : Int) (p3 : Int) (s : MS) : Option (Int × MS) :=
  m_x12_tries_L3 FU p0 p1 p2 p3 0 s
def m_x12_copies_J35 (s1 : MS) : Option MS :=
  some s1
def m_x12_copies (p0 : Int) (p1 : Int) (s : MS) : Option MS :=
  rdI (gA s 49) 906 p0 (fun y2 => inb 906 p1 (stn (sA s 49 (upZ (gA s 49) (Int.toNat p1) y2)) (fun s4 => rdI (gA s4 49) 906 p1 (fun y5 => rg y5 (if y5 = 254 then m_x12_copies_J35 s4 else rdI (gA s4 49) 906 p1 (fun y8 => bn (m_x12_counts y8 1 s4) (fun s10 => m_x12_copies_J35 s10)))))))
def m_x12_actGoes_J40 (s1 : MS) : Option MS :=
  some s1
def m_x12_actGoes (p0 : Int) (p1 : Int) (p2 : Int) (p3 : Int) (s : MS) : Option MS :=
  rg p0 (if p0 = 0 then inb 906 p1 (stn (sA s 49 (upZ (gA s 49) (Int.toNat p1) 254)) (fun s12 => m_x12_actGoes_J40 s12)) else rg p0 (if p0 = 1 then bn (m_x12_copies p1 p2 s) (fun s10 => m_x12_actGoes_J40 s10) else bn (m_x12_tries p0 p1 p2 p3 s) (fun qr8 => m_x12_actGoes_J40 qr8.2)))
def m_x12_stands_b193 (lr193 : Int → MS → Option MS) (x1 : Int) (s2 : MS) : Option MS :=
  rdI (gA s2 39) 10 3 (fun y3 => rg x1 (rg y3 (if y3 ≤ x1 then bn (m_x12_checks s2) (fun s8 => inb 906 16 (stn (sA s8 49 (upZ (gA s8 49) (Int.toNat 16) 0)) (fun s10 => stn (sI s10 76 0) (fun s11 => stn (sI s11 73 0) (fun s12 => some s12))))) else rdI (gA s2 41) 240 (4 * x1) (fun y13 => rdI (gA s2 41) 240 ((4 * x1) + 1) (fun y14 => rdI (gA s2 41) 240 ((4 * x1) + 2) (fun y15 => rdI (gA s2 41) 240 ((4 * x1) + 3) (fun y16 => bn (m_x12_actGoes y13 y14 y15 y16 s2) (fun s18 => lr193 (x1 + 1) s18))))))))
def m_x12_stands_L193 (n : Nat) : Int → MS → Option MS := lp (fun _ _ => none) (m_x12_stands_b193) n
def m_x12_stands_b158 (lr158 : Int → MS → Option MS) (x19 : Int) (s20 : MS) : Option MS :=
  rg x19 (if 8 ≤ x19 then m_x12_stands_L193 FU 0 s20 else inb 906 x19 (stn (sA s20 49 (upZ (gA s20 49) (Int.toNat x19) 255)) (fun s24 => inb 906 (8 + x19) (stn (sA s24 49 (upZ (gA s24 49) (Int.toNat (8 + x19)) 255)) (fun s26 => lr158 (x19 + 1) s26)))))
def m_x12_stands_L158 (n : Nat) : Int → MS → Option MS := lp (fun _ _ => none) (m_x12_stands_b158) n
def m_x12_stands_b136 (lr136 : Int → MS → Option MS) (x27 : Int) (s28 : MS) : Option MS :=
  rg x27 (if 906 ≤ x27 then m_x12_stands_L158 FU 0 s28 else inb 906 x27 (stn (sA s28 49 (upZ (gA s28 49) (Int.toNat x27) 0)) (fun s32 => lr136 (x27 + 1) s32)))
def m_x12_stands_L136 (n : Nat) : Int → MS → Option MS := lp (fun _ _ => none) (m_x12_stands_b136) n
def m_x12_stands_b104 (lr104 : Int → MS → Option MS) (x33 : Int) (s34 : MS) : Option MS :=
  rg x33 (rg (gI s34 45) (if (gI s34 45) ≤ x33 then m_x12_stands_L136 FU 0 s34 else rdI (gA s34 44) 3200 x33 (fun y38 => inb 3200 (1600 + x33) (stn (sA s34 44 (upZ (gA s34 44) (Int.toNat (1600 + x33)) y38)) (fun s40 => lr104 (x33 + 1) s40)))))
def m_x12_stands_L104 (n : Nat) : Int → MS → Option MS := lp (fun _ _ => none) (m_x12_stands_b104) n
def m_x12_stands_b75 (lr75 : Int → MS → Option MS) (x41 : Int) (s42 : MS) : Option MS :=
  rg x41 (if 8 ≤ x41 then m_x12_stands_L104 FU 0 s42 else rdL (gB s42 40) 16 x41 (fun yl45 => inb 16 (8 + x41) (stn (sB s42 40 (upZ (gB s42 40) (Int.toNat (8 + x41)) yl45)) (fun s47 => lr75 (x41 + 1) s47))))
def m_x12_stands_L75 (n : Nat) : Int → MS → Option MS := lp (fun _ _ => none) (m_x12_stands_b75) n
def m_x12_stands_b34 (lr34 : Int → MS → Option MS) (x48 : Int) (s49 : MS) : Option MS :=
  rg x48 (if 3 ≤ x48 then m_x12_stands_L75 FU 0 s49 else rdI (gA s49 42) 6 x48 (fun y52 => inb 6 (3 + x48) (stn (sA s49 42 (upZ (gA s49 42) (Int.toNat (3 + x48)) y52)) (fun s54 => rdI (gA s54 43) 6 x48 (fun y55 => inb 6 (3 + x48) (stn (sA s54 43 (upZ (gA s54 43) (Int.toNat (3 + x48)) y55)) (fun s57 => lr34 (x48 + 1) s57)))))))
def m_x12_stands_L34 (n : Nat) : Int → MS → Option MS := lp (fun _ _ => none) (m_x12_stands_b34) n
def m_x12_stands_b7 (lr7 : Int → MS → Option MS) (x58 : Int) (s59 : MS) : Option MS :=
  rg x58 (if 5 ≤ x58 then m_x12_stands_L34 FU 0 s59 else rdI (gA s59 39) 10 x58 (fun y62 => inb 10 (5 + x58) (stn (sA s59 39 (upZ (gA s59 39) (Int.toNat (5 + x58)) y62)) (fun s64 => lr7 (x58 + 1) s64))))
def m_x12_stands_L7 (n : Nat) : Int → MS → Option MS := lp (fun _ _ => none) (m_x12_stands_b7) n
def m_x12_stands (s : MS) : Option MS :=
  stn (sI s 47 1) (fun s65 => m_x12_stands_L7 FU 0 s65)
def m_x12_refuses (p0 : Int) (s : MS) : Option (Int × MS) :=
  rdI (gA s 9) 6 p0 (fun y1 => inb 6 p0 (stn (sA s 9 (upZ (gA s 9) (Int.toNat p0) (y1 + 1))) (fun s3 => some ((-1), s3))))
def m_x12_store_J109 (s1 : MS) : Option (Int × MS) :=
  stn (sI s1 7 (gI s1 5)) (fun s2 => stn (sI s2 8 (gI s2 6)) (fun s3 => rg (gI s3 5) (if (gI s3 5) = 0 then bn (m_x12_stands s3) (fun s7 => some (gI s7 46, s7)) else bn (m_x12_refuses 1 s3) (fun qr10 => some (qr10.1, qr10.2)))))
def m_x12_store_b87 (lr87 : MS → Option (Int × MS)) (s11 : MS) : Option (Int × MS) :=
  rg (gI s11 5) (if (gI s11 5) = 0 then bn (m_x12_look s11) (fun qr16 => rg qr16.1 (if qr16.1 = (-1) then m_x12_store_J109 qr16.2 else bn (m_x12_statementTold qr16.2) (fun s20 => lr87 s20))) else m_x12_store_J109 s11)
def m_x12_store_L87 (n : Nat) : MS → Option (Int × MS) := lp (fun _ => none) (m_x12_store_b87) n
def m_x12_store_b60 (lr60 : Int → MS → Option (Int × MS)) (x21 : Int) (s22 : MS) : Option (Int × MS) :=
  rg x21 (if 3 ≤ x21 then bn (m_x12_storeTold s22) (fun s26 => stn (sI s26 46 1) (fun s27 => m_x12_store_L87 FU s27)) else inb 6 x21 (stn (sA s22 42 (upZ (gA s22 42) (Int.toNat x21) (-1))) (fun s29 => lr60 (x21 + 1) s29)))
def m_x12_store_L60 (n : Nat) : Int → MS → Option (Int × MS) := lp (fun _ _ => none) (m_x12_store_b60) n
def m_x12_store_b40 (lr40 : Int → MS → Option (Int × MS)) (x30 : Int) (s31 : MS) : Option (Int × MS) :=
  rg x30 (if 5 ≤ x30 then m_x12_store_L60 FU 0 s31 else inb 10 x30 (stn (sA s31 39 (upZ (gA s31 39) (Int.toNat x30) 0)) (fun s35 => lr40 (x30 + 1) s35)))
def m_x12_store_L40 (n : Nat) : Int → MS → Option (Int × MS) := lp (fun _ _ => none) (m_x12_store_b40) n
def m_x12_store (s : MS) : Option (Int × MS) :=
  stn (sI s 3 (gI s 1)) (fun s36 => stn (sI s36 1 0) (fun s37 => stn (sI s37 2 0) (fun s38 => stn (sI s38 4 (-1)) (fun s39 => stn (sI s39 5 0) (fun s40 => stn (sI s40 6 (-1)) (fun s41 => stn (sI s41 45 0) (fun s42 => m_x12_store_L40 FU 0 s42)))))))
def m_x12_fault_J24 (s : MS) (x1 : Int) : Option Int :=
  some x1
def m_x12_fault (p0 : Int) (s : MS) : Option Int :=
  rg p0 (if p0 = 0 then m_x12_fault_J24 s (gI s 7) else rg p0 (if p0 = 1 then m_x12_fault_J24 s (gI s 8) else m_x12_fault_J24 s (-1)))
def m_x12_isBlock (p0 : Int) (s : MS) : Option Int :=
  bn (m_x12_blockMany s) (fun r2 => rg (r2 - 1) (bn (m_x12_isIn p0 0 (r2 - 1) s) (fun r5 => bo r5 (some r5))))
def m_x12_isHeld_J21 (s : MS) (x1 : Int) : Option Int :=
  bo x1 (some x1)
def m_x12_isHeld_J20 (s : MS) (_u : Unit) : Option Int :=
  m_x12_isHeld_J21 s 0
def m_x12_isHeld (p0 : Int) (s : MS) : Option Int :=
  bn (m_x12_isUsed p0 s) (fun r4 => rg r4 (if r4 = 0 then bn (m_x12_savedOf p0 s) (fun r8 => rg r8 (if r8 ≤ 0 then m_x12_isHeld_J20 s () else m_x12_isHeld_J21 s 1)) else m_x12_isHeld_J20 s ()))
def m_x12_isVolume_J36 (s : MS) (x1 : Int) : Option Int :=
  bo x1 (some x1)
def m_x12_isVolume_J35 (s : MS) (_u : Unit) : Option Int :=
  m_x12_isVolume_J36 s 0
def m_x12_isVolume (p0 : Int) (s : MS) : Option Int :=
  bn (m_x12_isIn p0 0 7 s) (fun r4 => rg r4 (if r4 = 0 then m_x12_isVolume_J35 s () else rg (gI s 47) (if (gI s 47) = 0 then m_x12_isVolume_J35 s () else rdI (gA s 49) 906 p0 (fun y9 => rg y9 (if y9 = 255 then m_x12_isVolume_J35 s () else m_x12_isVolume_J36 s 1)))))
def m_x12_clearsTouched_b2 (lr2 : Int → MS → Option MS) (x1 : Int) (s2 : MS) : Option MS :=
  rg x1 (if 48 ≤ x1 then some s2 else inb 48 x1 (bo 0 (stn (sA s2 54 (upZ (gA s2 54) (Int.toNat x1) 0)) (fun s7 => lr2 (x1 + 1) s7))))
def m_x12_clearsTouched_L2 (n : Nat) : Int → MS → Option MS := lp (fun _ _ => none) (m_x12_clearsTouched_b2) n
def m_x12_clearsTouched (s : MS) : Option MS :=
  m_x12_clearsTouched_L2 FU 0 s
def m_x12_costOf_J43 (x1 : Int) (s2 : MS) : Option (Int × MS) :=
  some (x1, s2)
def m_x12_costOf (p0 : Int) (s : MS) : Option (Int × MS) :=
  stn (sI s 50 p0) (fun s3 => bn (m_x12_levelOf p0 s3) (fun r5 => stn (sI s3 52 r5) (fun s6 => bn (m_x12_entriesOf p0 s6) (fun r8 => stn (sI s6 53 r8) (fun s9 => bn (m_x12_isCoded 2 s9) (fun r11 => rg r11 (if r11 = 0 then m_x12_costOf_J43 1 s9 else bn (m_x12_codesTell 2 s9) (fun qrl16 => bn (m_x12_clamp qrl16.1 qrl16.2) (fun r18 => m_x12_costOf_J43 r18 qrl16.2)))))))))
def m_x12_writtenMany_J32 (s : MS) (lr4 : Int → Int → Option Int) (x3 : Int) (x4 : Int) : Option Int :=
  lr4 x3 (x4 + 1)
def m_x12_writtenMany_b4 (s : MS) (lr4 : Int → Int → Option Int) (x1 : Int) (x2 : Int) : Option Int :=
  bn (m_x12_blockMany s) (fun r6 => rg x2 (rg r6 (if r6 ≤ x2 then some x1 else rdI (gA s 54) 48 x2 (fun y10 => rg y10 (if y10 = 0 then m_x12_writtenMany_J32 s lr4 x1 x2 else bn (m_x12_isUsed x2 s) (fun r14 => rg r14 (if r14 = 0 then m_x12_writtenMany_J32 s lr4 x1 x2 else m_x12_writtenMany_J32 s lr4 (x1 + 1) x2)))))))
def m_x12_writtenMany_L4 (s : MS) (n : Nat) : Int → Int → Option Int := lp (fun _ _ => none) (m_x12_writtenMany_b4 s) n
def m_x12_writtenMany (s : MS) : Option Int :=
  m_x12_writtenMany_L4 s FU 0 0
def m_x12_writtenCost_J37 (lr4 : Int → Int → MS → Option (Int × MS)) (x4 : Int) (x5 : Int) (s6 : MS) : Option (Int × MS) :=
  lr4 x4 (x5 + 1) s6
def m_x12_writtenCost_b4 (lr4 : Int → Int → MS → Option (Int × MS)) (x1 : Int) (x2 : Int) (s3 : MS) : Option (Int × MS) :=
  bn (m_x12_blockMany s3) (fun r8 => rg x2 (rg r8 (if r8 ≤ x2 then some (x1, s3) else rdI (gA s3 54) 48 x2 (fun y12 => rg y12 (if y12 = 0 then m_x12_writtenCost_J37 lr4 x1 x2 s3 else bn (m_x12_isUsed x2 s3) (fun r16 => rg r16 (if r16 = 0 then m_x12_writtenCost_J37 lr4 x1 x2 s3 else bn (m_x12_costOf x2 s3) (fun qr21 => m_x12_writtenCost_J37 lr4 (x1 + qr21.1) x2 qr21.2))))))))
def m_x12_writtenCost_L4 (n : Nat) : Int → Int → MS → Option (Int × MS) := lp (fun _ _ _ => none) (m_x12_writtenCost_b4) n
def m_x12_writtenCost (s : MS) : Option (Int × MS) :=
  m_x12_writtenCost_L4 FU 0 0 s
def m_x12_isKept_J105 (x1 : Int) (x2 : Int) (x3 : Int) (s4 : MS) : Option MS :=
  rdI (gA s4 49) 906 785 (fun y5 => inb 906 ((786 + (3 * y5)) - 3) (stn (sA s4 49 (upZ (gA s4 49) (Int.toNat ((786 + (3 * y5)) - 3)) x1)) (fun s7 => inb 906 (((786 + (3 * y5)) - 3) + 1) (stn (sA s7 49 (upZ (gA s7 49) (Int.toNat (((786 + (3 * y5)) - 3) + 1)) x2)) (fun s9 => inb 906 (((786 + (3 * y5)) - 3) + 2) (stn (sA s9 49 (upZ (gA s9 49) (Int.toNat (((786 + (3 * y5)) - 3) + 2)) x3)) (fun s11 => some s11)))))))
def m_x12_isKept_b60 (lr60 : Int → Int → Int → Int → MS → Option MS) (x12 : Int) (x13 : Int) (x14 : Int) (x15 : Int) (s16 : MS) : Option MS :=
  rg x15 (if 903 ≤ x15 then m_x12_isKept_J105 x12 x13 x14 s16 else rdI (gA s16 49) 906 (x15 + 3) (fun y19 => inb 906 x15 (stn (sA s16 49 (upZ (gA s16 49) (Int.toNat x15) y19)) (fun s21 => lr60 x12 x13 x14 (x15 + 1) s21))))
def m_x12_isKept_L60 (n : Nat) : Int → Int → Int → Int → MS → Option MS := lp (fun _ _ _ _ _ => none) (m_x12_isKept_b60) n
def m_x12_isKept_J42 (x22 : Int) (x23 : Int) (x24 : Int) (s25 : MS) : Option MS :=
  rdI (gA s25 49) 906 785 (fun y26 => rg y26 (if y26 = 40 then m_x12_isKept_L60 FU x22 x23 x24 786 s25 else rdI (gA s25 49) 906 785 (fun y29 => inb 906 785 (stn (sA s25 49 (upZ (gA s25 49) (Int.toNat 785) (y29 + 1))) (fun s31 => m_x12_isKept_J105 x22 x23 x24 s31)))))
def m_x12_isKept (p0 : Int) (p1 : Int) (s : MS) : Option MS :=
  bn (m_x12_writtenMany s) (fun r33 => rdI (gA s 49) 906 16 (fun y34 => bn (m_x12_writtenCost s) (fun qr37 => inb 906 16 (stn (sA qr37.2 49 (upZ (gA qr37.2 49) (Int.toNat 16) (y34 + qr37.1))) (fun s39 => rdI (gA s39 49) 906 16 (fun y40 => rg y40 (if y40 ≤ 999999 then m_x12_isKept_J42 p0 p1 r33 s39 else inb 906 16 (stn (sA s39 49 (upZ (gA s39 49) (Int.toNat 16) 999999)) (fun s44 => m_x12_isKept_J42 p0 p1 r33 s44)))))))))
def m_x12_drops_J22 (x1 : Int) (s2 : MS) : Option MS :=
  inb 906 x1 (stn (sA s2 49 (upZ (gA s2 49) (Int.toNat x1) 255)) (fun s4 => some s4))
def m_x12_drops (p0 : Int) (s : MS) : Option MS :=
  rdI (gA s 49) 906 p0 (fun y5 => rg y5 (if y5 = 254 then m_x12_drops_J22 p0 s else rdI (gA s 49) 906 p0 (fun y8 => bn (m_x12_falls y8 s) (fun s10 => m_x12_drops_J22 p0 s10))))
def m_x12_crashes_b31 (lr31 : Int → MS → Option MS) (x1 : Int) (s2 : MS) : Option MS :=
  rg x1 (if 48 ≤ x1 then some s2 else bn (m_x12_savedOf x1 s2) (fun r6 => inb 906 (17 + (16 * x1)) (stn (sA s2 49 (upZ (gA s2 49) (Int.toNat (17 + (16 * x1))) r6)) (fun s8 => lr31 (x1 + 1) s8))))
def m_x12_crashes_L31 (n : Nat) : Int → MS → Option MS := lp (fun _ _ => none) (m_x12_crashes_b31) n
def m_x12_crashes_b2 (lr2 : Int → MS → Option MS) (x9 : Int) (s10 : MS) : Option MS :=
  rg x9 (if 8 ≤ x9 then m_x12_crashes_L31 FU 0 s10 else rdI (gA s10 49) 906 (8 + x9) (fun y13 => inb 906 x9 (stn (sA s10 49 (upZ (gA s10 49) (Int.toNat x9) y13)) (fun s15 => lr2 (x9 + 1) s15))))
def m_x12_crashes_L2 (n : Nat) : Int → MS → Option MS := lp (fun _ _ => none) (m_x12_crashes_b2) n
def m_x12_crashes (s : MS) : Option MS :=
  m_x12_crashes_L2 FU 0 s
def m_x12_putsAside_b2 (lr2 : Int → MS → Option MS) (x1 : Int) (s2 : MS) : Option MS :=
  rg x1 (if 785 ≤ x1 then bn (m_x12_clearsTouched s2) (fun s6 => some s6) else rdI (gA s2 49) 906 x1 (fun y7 => inb 785 x1 (stn (sA s2 61 (upZ (gA s2 61) (Int.toNat x1) y7)) (fun s9 => lr2 (x1 + 1) s9))))
def m_x12_putsAside_L2 (n : Nat) : Int → MS → Option MS := lp (fun _ _ => none) (m_x12_putsAside_b2) n
def m_x12_putsAside (s : MS) : Option MS :=
  m_x12_putsAside_L2 FU 0 s
def m_x12_takesBack_b2 (lr2 : Int → MS → Option MS) (x1 : Int) (s2 : MS) : Option MS :=
  rg x1 (if 785 ≤ x1 then some s2 else rdI (gA s2 61) 785 x1 (fun y5 => inb 906 x1 (stn (sA s2 49 (upZ (gA s2 49) (Int.toNat x1) y5)) (fun s7 => lr2 (x1 + 1) s7))))
def m_x12_takesBack_L2 (n : Nat) : Int → MS → Option MS := lp (fun _ _ => none) (m_x12_takesBack_b2) n
def m_x12_takesBack (s : MS) : Option MS :=
  m_x12_takesBack_L2 FU 0 s
def m_x12_volumeMany_J22 (s : MS) (lr4 : Int → Int → Option Int) (x3 : Int) (x4 : Int) : Option Int :=
  lr4 x3 (x4 + 1)
def m_x12_volumeMany_b4 (s : MS) (lr4 : Int → Int → Option Int) (x1 : Int) (x2 : Int) : Option Int :=
  rg x2 (if 8 ≤ x2 then some x1 else rg x2 (bn (m_x12_isVolume x2 s) (fun r9 => rg r9 (if r9 = 0 then m_x12_volumeMany_J22 s lr4 x1 x2 else m_x12_volumeMany_J22 s lr4 (x1 + 1) x2))))
def m_x12_volumeMany_L4 (s : MS) (n : Nat) : Int → Int → Option Int := lp (fun _ _ => none) (m_x12_volumeMany_b4 s) n
def m_x12_volumeMany (s : MS) : Option Int :=
  m_x12_volumeMany_L4 s FU 0 0
def m_x12_usedMany_J23 (s : MS) (lr4 : Int → Int → Option Int) (x3 : Int) (x4 : Int) : Option Int :=
  lr4 x3 (x4 + 1)
def m_x12_usedMany_b4 (s : MS) (lr4 : Int → Int → Option Int) (x1 : Int) (x2 : Int) : Option Int :=
  bn (m_x12_blockMany s) (fun r6 => rg x2 (rg r6 (if r6 ≤ x2 then some x1 else bn (m_x12_isUsed x2 s) (fun r11 => rg r11 (if r11 = 0 then m_x12_usedMany_J23 s lr4 x1 x2 else m_x12_usedMany_J23 s lr4 (x1 + 1) x2)))))
def m_x12_usedMany_L4 (s : MS) (n : Nat) : Int → Int → Option Int := lp (fun _ _ => none) (m_x12_usedMany_b4 s) n
def m_x12_usedMany (s : MS) : Option Int :=
  m_x12_usedMany_L4 s FU 0 0
def m_x12_heldMany_J23 (s : MS) (lr4 : Int → Int → Option Int) (x3 : Int) (x4 : Int) : Option Int :=
  lr4 x3 (x4 + 1)
def m_x12_heldMany_b4 (s : MS) (lr4 : Int → Int → Option Int) (x1 : Int) (x2 : Int) : Option Int :=
  bn (m_x12_blockMany s) (fun r6 => rg x2 (rg r6 (if r6 ≤ x2 then some x1 else bn (m_x12_isHeld x2 s) (fun r11 => rg r11 (if r11 = 0 then m_x12_heldMany_J23 s lr4 x1 x2 else m_x12_heldMany_J23 s lr4 (x1 + 1) x2)))))
def m_x12_heldMany_L4 (s : MS) (n : Nat) : Int → Int → Option Int := lp (fun _ _ => none) (m_x12_heldMany_b4 s) n
def m_x12_heldMany (s : MS) : Option Int :=
  m_x12_heldMany_L4 s FU 0 0
def m_x12_freeMany (s : MS) : Option Int :=
  bn (m_x12_blockMany s) (fun r2 => bn (m_x12_usedMany s) (fun r4 => bn (m_x12_heldMany s) (fun r6 => some ((r2 - r4) - r6))))
def m_x12_has (p0 : Int) (s : MS) : Option Int :=
  rg p0 (if p0 = 0 then bn (m_x12_blockMany s) (fun r4 => some r4) else if p0 = 1 then bn (m_x12_volumeMany s) (fun r7 => some r7) else if p0 = 2 then bn (m_x12_usedMany s) (fun r10 => some r10) else if p0 = 3 then bn (m_x12_heldMany s) (fun r13 => some r13) else if p0 = 4 then bn (m_x12_freeMany s) (fun r16 => some r16) else if p0 = 5 then rdI (gA s 49) 906 16 (fun y18 => some y18) else if p0 = 6 then rdI (gA s 49) 906 785 (fun y20 => some y20) else if p0 = 7 then some (gI s 73) else if p0 = 8 then some (gI s 76) else if p0 = 9 then bn (m_x12_roomOf s) (fun r25 => some r25) else some (-1))
def m_x12_letter_b84 (s : MS) (lr84 : Int → Int → Int → Option Int) (x1 : Int) (z2 : Int) (x3 : Int) : Option Int :=
  rg x3 (rg x1 (if x3 ≤ x1 then dvL z2 27 (some (Int.tmod z2 27)) else dvL z2 27 (lr84 x1 (Int.tdiv z2 27) (x3 + (-1)))))
def m_x12_letter_L84 (s : MS) (n : Nat) : Int → Int → Int → Option Int := lp (fun _ _ _ => none) (m_x12_letter_b84 s) n
def m_x12_letter_b49 (s : MS) (lr49 : Int → Int → Int → Int → Option Int) (x9 : Int) (z10 : Int) (x11 : Int) (z12 : Int) : Option Int :=
  rgL z12 (if z12 ≤ 0 then rg x9 (rg x11 (if x9 < x11 then m_x12_letter_L84 s FU x9 z10 (x11 - 1) else some 0)) else dvL z12 27 (lr49 x9 z10 (x11 + 1) (Int.tdiv z12 27)))
def m_x12_letter_L49 (s : MS) (n : Nat) : Int → Int → Int → Int → Option Int := lp (fun _ _ _ _ => none) (m_x12_letter_b49 s) n
def m_x12_letter_J31 (s : MS) (_u : Unit) : Option Int :=
  some (-1)
def m_x12_letter (p0 : Int) (p1 : Int) (s : MS) : Option Int :=
  rg p0 (rdI (gA s 39) 10 7 (fun y20 => rg (y20 - 1) (bn (m_x12_isIn p0 0 (y20 - 1) s) (fun r23 => rg r23 (if r23 = 0 then m_x12_letter_J31 s () else rg p1 (bn (m_x12_isIn p1 0 5 s) (fun r28 => rg r28 (if r28 = 0 then m_x12_letter_J31 s () else rdL (gB s 40) 16 (8 + p0) (fun yl31 => m_x12_letter_L49 s FU p1 yl31 0 yl31)))))))))
def m_x12_laysLeaf_b2 (lr2 : Int → Int → MS → Option MS) (x1 : Int) (x2 : Int) (s3 : MS) : Option MS :=
  bn (m_x12_entriesOf x1 s3) (fun r5 => rg x2 (rg r5 (if r5 ≤ x2 then some s3 else bn (m_x12_keyAt x1 x2 s3) (fun r10 => inb 300 (gI s3 67) (stn (sA s3 64 (upZ (gA s3 64) (Int.toNat (gI s3 67)) r10)) (fun s12 => bn (m_x12_valueAt x1 x2 s12) (fun r14 => inb 300 (gI s12 67) (stn (sA s12 65 (upZ (gA s12 65) (Int.toNat (gI s12 67)) r14)) (fun s16 => inb 300 (gI s16 67) (stn (sA s16 66 (upZ (gA s16 66) (Int.toNat (gI s16 67)) x1)) (fun s18 => stn (sI s18 67 ((gI s18 67) + 1)) (fun s19 => lr2 x1 (x2 + 1) s19))))))))))))
def m_x12_laysLeaf_L2 (n : Nat) : Int → Int → MS → Option MS := lp (fun _ _ _ => none) (m_x12_laysLeaf_b2) n
def m_x12_laysLeaf (p0 : Int) (s : MS) : Option MS :=
  m_x12_laysLeaf_L2 FU p0 0 s
def m_x12_laysTree_J140 (lr48 : Int → MS → Option MS) (x3 : Int) (s4 : MS) : Option MS :=
  lr48 x3 s4
def m_x12_laysTree_b113 (lr48 : Int → MS → Option MS) (lr113 : Int → Int → Int → MS → Option MS) (x5 : Int) (x6 : Int) (x7 : Int) (s8 : MS) : Option MS :=
  rg x7 (if x7 < 0 then m_x12_laysTree_J140 lr48 x5 s8 else bn (m_x12_valueAt x6 x7 s8) (fun r12 => inb 300 x5 (stn (sA s8 62 (upZ (gA s8 62) (Int.toNat x5) r12)) (fun s14 => lr113 (x5 + 1) x6 (x7 + (-1)) s14))))
def m_x12_laysTree_L113 (lr48 : Int → MS → Option MS) (n : Nat) : Int → Int → Int → MS → Option MS := lp (fun _ _ _ _ => none) (m_x12_laysTree_b113 lr48) n
def m_x12_laysTree_J81 (lr48 : Int → MS → Option MS) (x15 : Int) (x16 : Int) (s17 : MS) : Option MS :=
  inb 48 x16 (bo 1 (stn (sA s17 63 (upZ (gA s17 63) (Int.toNat x16) 1)) (fun s20 => bn (m_x12_levelOf x16 s20) (fun r22 => rg r22 (if r22 = 0 then bn (m_x12_laysLeaf x16 s20) (fun s28 => m_x12_laysTree_J140 lr48 x15 s28) else bn (m_x12_entriesOf x16 s20) (fun r26 => m_x12_laysTree_L113 lr48 FU x15 x16 (r26 - 1) s20))))))
def m_x12_laysTree_b48 (lr48 : Int → MS → Option MS) (x1 : Int) (s2 : MS) : Option MS :=
  rg x1 (if x1 ≤ 0 then some s2 else rdI (gA s2 62) 300 (x1 + (-1)) (fun y31 => rdI (gA s2 63) 48 y31 (fun y32 => rg y32 (if y32 = 0 then stn (sI s2 68 ((gI s2 68) + 1)) (fun s35 => m_x12_laysTree_J81 lr48 (x1 + (-1)) y31 s35) else m_x12_laysTree_J81 lr48 (x1 + (-1)) y31 s2))))
def m_x12_laysTree_L48 (n : Nat) : Int → MS → Option MS := lp (fun _ _ => none) (m_x12_laysTree_b48) n
def m_x12_laysTree_b12 (lr12 : Int → Int → MS → Option MS) (x36 : Int) (x37 : Int) (s38 : MS) : Option MS :=
  rg x37 (if 48 ≤ x37 then rg x36 (if x36 < 254 then inb 300 0 (stn (sA s38 62 (upZ (gA s38 62) (Int.toNat 0) x36)) (fun s44 => m_x12_laysTree_L48 FU 1 s44)) else some s38) else inb 48 x37 (bo 0 (stn (sA s38 63 (upZ (gA s38 63) (Int.toNat x37) 0)) (fun s47 => lr12 x36 (x37 + 1) s47))))
def m_x12_laysTree_L12 (n : Nat) : Int → Int → MS → Option MS := lp (fun _ _ _ => none) (m_x12_laysTree_b12) n
def m_x12_laysTree (p0 : Int) (s : MS) : Option MS :=
  stn (sI s 67 0) (fun s48 => stn (sI s48 68 0) (fun s49 => m_x12_laysTree_L12 FU p0 0 s49))
def m_x12_dropsMany (p0 : Int) (s : MS) : Option (Int × MS) :=
  bn (m_x12_putsAside s) (fun s2 => bn (m_x12_usedMany s2) (fun r4 => bn (m_x12_drops p0 s2) (fun s6 => bn (m_x12_usedMany s6) (fun r8 => bn (m_x12_takesBack s6) (fun s10 => some (r4 - r8, s10))))))
def m_x12_volume_J96 (x1 : Int) (s2 : MS) : Option (Int × MS) :=
  some (x1, s2)
def m_x12_volume_J72 (x3 : Int) (s4 : MS) : Option (Int × MS) :=
  some (x3, s4)
def m_x12_volume (p0 : Int) (p1 : Int) (s : MS) : Option (Int × MS) :=
  rg p0 (bn (m_x12_isVolume p0 s) (fun r7 => rg r7 (if r7 = 0 then some ((-1), s) else rdI (gA s 49) 906 p0 (fun y10 => bn (m_x12_laysTree y10 s) (fun s12 => rg p1 (if p1 = 0 then rg y10 (if y10 = 254 then m_x12_volume_J72 (-1) s12 else m_x12_volume_J72 y10 s12) else if p1 = 1 then some (gI s12 67, s12) else if p1 = 2 then rg y10 (if y10 = 254 then m_x12_volume_J96 0 s12 else bn (m_x12_levelOf y10 s12) (fun r22 => m_x12_volume_J96 (r22 + 1) s12)) else if p1 = 3 then some (gI s12 68, s12) else if p1 = 4 then bn (m_x12_dropsMany p0 s12) (fun qr27 => some (qr27.1, qr27.2)) else some ((-1), s12)))))))
def m_x12_block_J127 (s : MS) (x1 : Int) : Option Int :=
  some x1
def m_x12_block_J113 (s : MS) (x2 : Int) : Option Int :=
  some x2
def m_x12_block_J99 (s : MS) (x3 : Int) : Option Int :=
  some x3
def m_x12_block_J81 (s : MS) (x4 : Int) : Option Int :=
  some x4
def m_x12_block (p0 : Int) (p1 : Int) (s : MS) : Option Int :=
  rg p0 (bn (m_x12_isBlock p0 s) (fun r7 => rg r7 (if r7 = 0 then some (-1) else rg p1 (if p1 = 0 then bn (m_x12_countOf p0 s) (fun r13 => some r13) else if p1 = 1 then bn (m_x12_savedOf p0 s) (fun r16 => some r16) else if p1 = 2 then bn (m_x12_isThere p0 s) (fun r19 => rg r19 (if r19 = 0 then m_x12_block_J81 s 0 else bn (m_x12_levelOf p0 s) (fun r23 => m_x12_block_J81 s r23))) else if p1 = 3 then bn (m_x12_isThere p0 s) (fun r26 => rg r26 (if r26 = 0 then m_x12_block_J99 s 0 else bn (m_x12_entriesOf p0 s) (fun r30 => m_x12_block_J99 s r30))) else if p1 = 4 then bn (m_x12_isFresh p0 s) (fun r33 => rg r33 (if r33 = 0 then m_x12_block_J113 s 0 else m_x12_block_J113 s 1)) else if p1 = 5 then bn (m_x12_isHeld p0 s) (fun r38 => rg r38 (if r38 = 0 then m_x12_block_J127 s 0 else m_x12_block_J127 s 1)) else some (-1)))))
def m_x12_entry_J65 (s : MS) (x1 : Int) : Option Int :=
  some x1
def m_x12_entry_J44 (s : MS) (_u : Unit) : Option Int :=
  some (-1)
def m_x12_entry (p0 : Int) (p1 : Int) (p2 : Int) (s : MS) : Option Int :=
  rg p0 (bn (m_x12_isBlock p0 s) (fun r4 => rg r4 (if r4 = 0 then m_x12_entry_J44 s () else bn (m_x12_isThere p0 s) (fun r8 => rg r8 (if r8 = 0 then m_x12_entry_J44 s () else rg p1 (bn (m_x12_entriesOf p0 s) (fun r13 => rg (r13 - 1) (bn (m_x12_isIn p1 0 (r13 - 1) s) (fun r16 => rg r16 (if r16 = 0 then m_x12_entry_J44 s () else rg p2 (bn (m_x12_isIn p2 0 1 s) (fun r21 => rg r21 (if r21 = 0 then m_x12_entry_J44 s () else rg p2 (if p2 = 0 then bn (m_x12_keyAt p0 p1 s) (fun r29 => m_x12_entry_J65 s r29) else bn (m_x12_valueAt p0 p1 s) (fun r27 => m_x12_entry_J65 s r27)))))))))))))))
def m_x12_kept_J50 (s : MS) (x1 : Int) : Option Int :=
  some x1
def m_x12_kept_J49 (s : MS) (_u : Unit) : Option Int :=
  m_x12_kept_J50 s (-1)
def m_x12_kept (p0 : Int) (p1 : Int) (s : MS) : Option Int :=
  rg p0 (rdI (gA s 49) 906 785 (fun y3 => rg (y3 - 1) (bn (m_x12_isIn p0 0 (y3 - 1) s) (fun r6 => rg r6 (if r6 = 0 then m_x12_kept_J49 s () else rg p1 (bn (m_x12_isIn p1 0 2 s) (fun r11 => rg r11 (if r11 = 0 then m_x12_kept_J49 s () else rdI (gA s 49) 906 ((786 + (3 * p0)) + p1) (fun y14 => m_x12_kept_J50 s y14)))))))))
def m_x12_read_J19 (s : MS) (x1 : Int) : Option Int :=
  some x1
def m_x12_read (p0 : Int) (p1 : Int) (s : MS) : Option Int :=
  rg p0 (bn (m_x12_isVolume p0 s) (fun r4 => rg r4 (if r4 = 0 then m_x12_read_J19 s (-1) else bn (m_x12_valueOf p0 p1 s) (fun r8 => m_x12_read_J19 s r8))))
def m_x12_key_J47 (x1 : Int) (s2 : MS) : Option (Int × MS) :=
  some (x1, s2)
def m_x12_key (p0 : Int) (p1 : Int) (s : MS) : Option (Int × MS) :=
  rg p0 (bn (m_x12_isVolume p0 s) (fun r5 => rg r5 (if r5 = 0 then some ((-1), s) else rdI (gA s 49) 906 p0 (fun y8 => bn (m_x12_laysTree y8 s) (fun s10 => rg p1 (rg ((gI s10 67) - 1) (bn (m_x12_isIn p1 0 ((gI s10 67) - 1) s10) (fun r14 => rg r14 (if r14 = 0 then m_x12_key_J47 (-1) s10 else rdI (gA s10 64) 300 p1 (fun y17 => m_x12_key_J47 y17 s10))))))))))
def m_x12_total_J66 (lr27 : Int → Int → Int → Int → MS → Option (Int × MS)) (x6 : Int) (x7 : Int) (x8 : Int) (x9 : Int) (s10 : MS) : Option (Int × MS) :=
  lr27 x6 x7 x8 (x9 + 1) s10
def m_x12_total_b27 (lr27 : Int → Int → Int → Int → MS → Option (Int × MS)) (x1 : Int) (x2 : Int) (x3 : Int) (x4 : Int) (s5 : MS) : Option (Int × MS) :=
  rg x4 (rg (gI s5 67) (if (gI s5 67) ≤ x4 then some (x3, s5) else rdI (gA s5 64) 300 x4 (fun y14 => rg y14 (rg x1 (rg x2 (bn (m_x12_isIn y14 x1 x2 s5) (fun r19 => rg r19 (if r19 = 0 then m_x12_total_J66 lr27 x1 x2 x3 x4 s5 else rdI (gA s5 65) 300 x4 (fun y22 => m_x12_total_J66 lr27 x1 x2 (x3 + y22) x4 s5)))))))))
def m_x12_total_L27 (n : Nat) : Int → Int → Int → Int → MS → Option (Int × MS) := lp (fun _ _ _ _ _ => none) (m_x12_total_b27) n
def m_x12_total (p0 : Int) (p1 : Int) (p2 : Int) (s : MS) : Option (Int × MS) :=
  rg p0 (bn (m_x12_isVolume p0 s) (fun r25 => rg r25 (if r25 = 0 then some ((-1), s) else rdI (gA s 49) 906 p0 (fun y28 => bn (m_x12_laysTree y28 s) (fun s30 => m_x12_total_L27 FU p1 p2 0 0 s30)))))
def m_x12_path_b50 (s : MS) (lr50 : Int → Int → Int → Int → Option Int) (x1 : Int) (x2 : Int) (x3 : Int) (x4 : Int) : Option Int :=
  rg x4 (rg x2 (if x2 ≤ x4 then some x3 else bn (m_x12_levelOf x3 s) (fun r9 => rg r9 (if r9 = 0 then some (-1) else bn (m_x12_placeFor x3 x1 s) (fun r13 => bn (m_x12_valueAt x3 r13 s) (fun r15 => lr50 x1 x2 r15 (x4 + 1)))))))
def m_x12_path_L50 (s : MS) (n : Nat) : Int → Int → Int → Int → Option Int := lp (fun _ _ _ _ => none) (m_x12_path_b50 s) n
def m_x12_path_J37 (s : MS) (_u : Unit) : Option Int :=
  some (-1)
def m_x12_path (p0 : Int) (p1 : Int) (p2 : Int) (s : MS) : Option Int :=
  rg p0 (bn (m_x12_isVolume p0 s) (fun r18 => rg r18 (if r18 = 0 then m_x12_path_J37 s () else rg p1 (bn (m_x12_isIn p1 0 999 s) (fun r23 => rg r23 (if r23 = 0 then m_x12_path_J37 s () else rdI (gA s 49) 906 p0 (fun y26 => rg y26 (if y26 = 254 then m_x12_path_J37 s () else rg p2 (if 0 ≤ p2 then rdI (gA s 49) 906 p0 (fun y31 => m_x12_path_L50 s FU p1 p2 y31 0) else m_x12_path_J37 s ())))))))))
def m_x12_shared_J101 (lr71 : Int → Int → MS → Option (Int × MS)) (x4 : Int) (x5 : Int) (s6 : MS) : Option (Int × MS) :=
  lr71 x4 (x5 + 1) s6
def m_x12_shared_b71 (lr71 : Int → Int → MS → Option (Int × MS)) (x1 : Int) (x2 : Int) (s3 : MS) : Option (Int × MS) :=
  rg x2 (if 48 ≤ x2 then some (x1, s3) else rdI (gA s3 69) 48 x2 (fun y9 => rg y9 (if y9 = 0 then m_x12_shared_J101 lr71 x1 x2 s3 else rdI (gA s3 63) 48 x2 (fun y12 => rg y12 (if y12 = 0 then m_x12_shared_J101 lr71 x1 x2 s3 else m_x12_shared_J101 lr71 (x1 + 1) x2 s3)))))
def m_x12_shared_L71 (n : Nat) : Int → Int → MS → Option (Int × MS) := lp (fun _ _ _ => none) (m_x12_shared_b71) n
def m_x12_shared_b32 (lr32 : Int → Int → MS → Option (Int × MS)) (x15 : Int) (x16 : Int) (s17 : MS) : Option (Int × MS) :=
  rg x16 (if 48 ≤ x16 then rdI (gA s17 49) 906 x15 (fun y20 => bn (m_x12_laysTree y20 s17) (fun s22 => m_x12_shared_L71 FU 0 0 s22)) else rdI (gA s17 63) 48 x16 (fun y23 => inb 48 x16 (bo y23 (stn (sA s17 69 (upZ (gA s17 69) (Int.toNat x16) y23)) (fun s26 => lr32 x15 (x16 + 1) s26)))))
def m_x12_shared_L32 (n : Nat) : Int → Int → MS → Option (Int × MS) := lp (fun _ _ _ => none) (m_x12_shared_b32) n
def m_x12_shared_J18 (s27 : MS) : Option (Int × MS) :=
  some ((-1), s27)
def m_x12_shared (p0 : Int) (p1 : Int) (s : MS) : Option (Int × MS) :=
  rg p0 (bn (m_x12_isVolume p0 s) (fun r30 => rg r30 (if r30 = 0 then m_x12_shared_J18 s else rg p1 (bn (m_x12_isVolume p1 s) (fun r35 => rg r35 (if r35 = 0 then m_x12_shared_J18 s else rdI (gA s 49) 906 p0 (fun y38 => bn (m_x12_laysTree y38 s) (fun s40 => m_x12_shared_L32 FU p1 0 s40))))))))
def m_x12_unlike_J63 (s : MS) (x1 : Int) : Option Int :=
  some x1
def m_x12_unlike_J46 (s : MS) (lr6 : Int → Int → Int → Int → Int → Option Int) (x7 : Int) (x8 : Int) (x9 : Int) (x10 : Int) (x11 : Int) : Option Int :=
  lr6 x7 x8 x9 x10 (x11 + 1)
def m_x12_unlike_b6 (s : MS) (lr6 : Int → Int → Int → Int → Int → Option Int) (x2 : Int) (x3 : Int) (x4 : Int) (x5 : Int) (x6 : Int) : Option Int :=
  rg x6 (if 999 < x6 then rg x4 (if x4 = (-1) then m_x12_unlike_J63 s x5 else m_x12_unlike_J63 s (-1)) else bn (m_x12_valueFrom x2 x6 s) (fun r17 => bn (m_x12_valueFrom x3 x6 s) (fun r19 => rg r17 (rg r19 (if r17 = r19 then m_x12_unlike_J46 s lr6 x2 x3 x4 x5 x6 else rg x5 (rg x4 (if x5 = x4 then some x6 else m_x12_unlike_J46 s lr6 x2 x3 x4 (x5 + 1) x6)))))))
def m_x12_unlike_L6 (s : MS) (n : Nat) : Int → Int → Int → Int → Int → Option Int := lp (fun _ _ _ _ _ => none) (m_x12_unlike_b6 s) n
def m_x12_unlike (p0 : Int) (p1 : Int) (p2 : Int) (s : MS) : Option Int :=
  m_x12_unlike_L6 s FU p0 p1 p2 0 0
def m_x12_differs_J44 (s : MS) (x1 : Int) : Option Int :=
  some x1
def m_x12_differs_J43 (s : MS) (_u : Unit) : Option Int :=
  m_x12_differs_J44 s (-1)
def m_x12_differs (p0 : Int) (p1 : Int) (p2 : Int) (s : MS) : Option Int :=
  rg p0 (bn (m_x12_isVolume p0 s) (fun r4 => rg r4 (if r4 = 0 then m_x12_differs_J43 s () else rg p1 (bn (m_x12_isVolume p1 s) (fun r9 => rg r9 (if r9 = 0 then m_x12_differs_J43 s () else rg p2 (if p2 < (-1) then m_x12_differs_J43 s () else rdI (gA s 49) 906 p0 (fun y14 => rdI (gA s 49) 906 p1 (fun y15 => bn (m_x12_unlike y14 y15 p2 s) (fun r17 => m_x12_differs_J44 s r17))))))))))
def m_x12_laysWrites_J56 (s1 : MS) : Option MS :=
  bn (m_x12_takesBack s1) (fun s3 => some s3)
def m_x12_laysWrites_J34 (x4 : Int) (x5 : Int) (x6 : Int) (x7 : Int) (s8 : MS) : Option MS :=
  bn (m_x12_tries x7 x6 x5 x4 s8) (fun qr11 => rg qr11.1 (if qr11.1 = 0 then m_x12_laysWrites_J56 qr11.2 else bn (m_x12_writtenMany qr11.2) (fun r15 => stn (sI qr11.2 70 r15) (fun s16 => bn (m_x12_writtenCost s16) (fun qr19 => stn (sI qr19.2 71 qr19.1) (fun s20 => m_x12_laysWrites_J56 s20))))))
def m_x12_laysWrites (p0 : Int) (p1 : Int) (s : MS) : Option MS :=
  stn (sI s 70 (-1)) (fun s21 => stn (sI s21 71 (-1)) (fun s22 => bn (m_x12_valueOf p0 p1 s22) (fun r24 => bn (m_x12_putsAside s22) (fun s26 => rg r24 (if r24 = 0 then m_x12_laysWrites_J34 1 p1 p0 2 s26 else m_x12_laysWrites_J34 0 p1 p0 2 s26)))))
def m_x12_writes_J54 (x1 : Int) (s2 : MS) : Option (Int × MS) :=
  some (x1, s2)
def m_x12_writes_J31 (s3 : MS) : Option (Int × MS) :=
  some ((-1), s3)
def m_x12_writes (p0 : Int) (p1 : Int) (p2 : Int) (s : MS) : Option (Int × MS) :=
  rg p0 (bn (m_x12_isVolume p0 s) (fun r6 => rg r6 (if r6 = 0 then m_x12_writes_J31 s else rg p1 (bn (m_x12_isIn p1 0 999 s) (fun r11 => rg r11 (if r11 = 0 then m_x12_writes_J31 s else rg p2 (bn (m_x12_isIn p2 0 1 s) (fun r16 => rg r16 (if r16 = 0 then m_x12_writes_J31 s else bn (m_x12_laysWrites p0 p1 s) (fun s20 => rg p2 (if p2 = 0 then m_x12_writes_J54 (gI s20 70) s20 else m_x12_writes_J54 (gI s20 71) s20)))))))))))
def m_x12_spread_J46 (lr21 : Int → Int → Int → Int → MS → Option (Int × MS)) (x6 : Int) (x7 : Int) (x8 : Int) (x9 : Int) (s10 : MS) : Option (Int × MS) :=
  lr21 x6 x7 x8 (x9 + 1) s10
def m_x12_spread_b21 (lr21 : Int → Int → Int → Int → MS → Option (Int × MS)) (x1 : Int) (x2 : Int) (x3 : Int) (x4 : Int) (s5 : MS) : Option (Int × MS) :=
  rg x4 (if 100 ≤ x4 then some (x3, s5) else bn (m_x12_laysWrites x1 x4 s5) (fun s14 => rg (gI s14 70) (rg x2 (if (gI s14 70) = x2 then m_x12_spread_J46 lr21 x1 x2 (x3 + 1) x4 s14 else m_x12_spread_J46 lr21 x1 x2 x3 x4 s14))))
def m_x12_spread_L21 (n : Nat) : Int → Int → Int → Int → MS → Option (Int × MS) := lp (fun _ _ _ _ _ => none) (m_x12_spread_b21) n
def m_x12_spread_J14 (s18 : MS) : Option (Int × MS) :=
  some ((-1), s18)
def m_x12_spread (p0 : Int) (p1 : Int) (s : MS) : Option (Int × MS) :=
  rg p0 (bn (m_x12_isVolume p0 s) (fun r21 => rg r21 (if r21 = 0 then m_x12_spread_J14 s else rg p1 (if (-1) ≤ p1 then m_x12_spread_L21 FU p0 p1 0 0 s else m_x12_spread_J14 s))))
def m_x12_laysLost_J122 (lr23 : Int → MS → Option MS) (x3 : Int) (s4 : MS) : Option MS :=
  lr23 (x3 + 1) s4
def m_x12_laysLost_b68 (lr23 : Int → MS → Option MS) (lr53 : Int → Int → MS → Option MS) (lr68 : Int → Int → Int → MS → Option MS) (x8 : Int) (x9 : Int) (x10 : Int) (s11 : MS) : Option MS :=
  bn (m_x12_levelOf x10 s11) (fun r13 => rg r13 (if r13 ≤ 0 then rdI (gA s11 72) 48 x10 (fun y16 => inb 48 x10 (stn (sA s11 72 (upZ (gA s11 72) (Int.toNat x10) (y16 + 1))) (fun s18 => lr53 x8 (x9 + 1) s18))) else rdI (gA s11 72) 48 x10 (fun y19 => inb 48 x10 (stn (sA s11 72 (upZ (gA s11 72) (Int.toNat x10) (y19 + 1))) (fun s21 => rdI (gA s21 64) 300 x9 (fun y22 => bn (m_x12_placeFor x10 y22 s21) (fun r24 => bn (m_x12_valueAt x10 r24 s21) (fun r26 => lr68 x8 x9 r26 s21))))))))
def m_x12_laysLost_L68 (lr23 : Int → MS → Option MS) (lr53 : Int → Int → MS → Option MS) (n : Nat) : Int → Int → Int → MS → Option MS := lp (fun _ _ _ _ => none) (m_x12_laysLost_b68 lr23 lr53) n
def m_x12_laysLost_b53 (lr23 : Int → MS → Option MS) (lr53 : Int → Int → MS → Option MS) (x5 : Int) (x6 : Int) (s7 : MS) : Option MS :=
  rg x6 (rg (gI s7 67) (if (gI s7 67) ≤ x6 then m_x12_laysLost_J122 lr23 x5 s7 else rdI (gA s7 49) 906 x5 (fun y30 => m_x12_laysLost_L68 lr23 lr53 FU x5 x6 y30 s7)))
def m_x12_laysLost_L53 (lr23 : Int → MS → Option MS) (n : Nat) : Int → Int → MS → Option MS := lp (fun _ _ _ => none) (m_x12_laysLost_b53 lr23) n
def m_x12_laysLost_b23 (lr23 : Int → MS → Option MS) (x1 : Int) (s2 : MS) : Option MS :=
  rg x1 (if 8 ≤ x1 then some s2 else rg x1 (bn (m_x12_isVolume x1 s2) (fun r35 => rg r35 (if r35 = 0 then m_x12_laysLost_J122 lr23 x1 s2 else rdI (gA s2 49) 906 x1 (fun y38 => bn (m_x12_laysTree y38 s2) (fun s40 => m_x12_laysLost_L53 lr23 FU x1 0 s40))))))
def m_x12_laysLost_L23 (n : Nat) : Int → MS → Option MS := lp (fun _ _ => none) (m_x12_laysLost_b23) n
def m_x12_laysLost_b2 (lr2 : Int → MS → Option MS) (x41 : Int) (s42 : MS) : Option MS :=
  rg x41 (if 48 ≤ x41 then m_x12_laysLost_L23 FU 0 s42 else inb 48 x41 (stn (sA s42 72 (upZ (gA s42 72) (Int.toNat x41) 0)) (fun s46 => lr2 (x41 + 1) s46)))
def m_x12_laysLost_L2 (n : Nat) : Int → MS → Option MS := lp (fun _ _ => none) (m_x12_laysLost_b2) n
def m_x12_laysLost (s : MS) : Option MS :=
  m_x12_laysLost_L2 FU 0 s
def m_x12_lost (p0 : Int) (s : MS) : Option (Int × MS) :=
  rg p0 (bn (m_x12_isBlock p0 s) (fun r3 => rg r3 (if r3 = 0 then some ((-1), s) else bn (m_x12_laysLost s) (fun s7 => rdI (gA s7 72) 48 p0 (fun y8 => some (y8, s7))))))
def m_x12_worst_J76 (x1 : Int) (s2 : MS) : Option (Int × MS) :=
  some (x1, s2)
def m_x12_worst_J43 (lr20 : Int → Int → Int → MS → Option (Int × MS)) (x7 : Int) (x8 : Int) (x9 : Int) (s10 : MS) : Option (Int × MS) :=
  lr20 x7 x8 (x9 + 1) s10
def m_x12_worst_b20 (lr20 : Int → Int → Int → MS → Option (Int × MS)) (x3 : Int) (x4 : Int) (x5 : Int) (s6 : MS) : Option (Int × MS) :=
  rg x5 (if 48 ≤ x5 then rdI (gA s6 72) 48 x4 (fun y13 => rg y13 (if y13 = 0 then m_x12_worst_J76 (-1) s6 else rg x3 (if x3 = 0 then m_x12_worst_J76 x4 s6 else rdI (gA s6 72) 48 x4 (fun y18 => m_x12_worst_J76 y18 s6)))) else rdI (gA s6 72) 48 x5 (fun y19 => rdI (gA s6 72) 48 x4 (fun y20 => rg y19 (rg y20 (if y19 ≤ y20 then m_x12_worst_J43 lr20 x3 x4 x5 s6 else m_x12_worst_J43 lr20 x3 x5 x5 s6)))))
def m_x12_worst_L20 (n : Nat) : Int → Int → Int → MS → Option (Int × MS) := lp (fun _ _ _ _ => none) (m_x12_worst_b20) n
def m_x12_worst (p0 : Int) (s : MS) : Option (Int × MS) :=
  rg p0 (bn (m_x12_isIn p0 0 1 s) (fun r26 => rg r26 (if r26 = 0 then some ((-1), s) else bn (m_x12_laysLost s) (fun s30 => m_x12_worst_L20 FU p0 0 1 s30))))
def m_x12_victim_J78 (x1 : Int) (s2 : MS) : Option (Int × MS) :=
  some (x1, s2)
def m_x12_victim_J63 (lr19 : Int → Int → Int → Int → MS → Option (Int × MS)) (x8 : Int) (x9 : Int) (x10 : Int) (x11 : Int) (s12 : MS) : Option (Int × MS) :=
  lr19 x8 x9 x10 (x11 + 1) s12
def m_x12_victim_J46 (lr19 : Int → Int → Int → Int → MS → Option (Int × MS)) (x13 : Int) (x14 : Int) (x15 : Int) (x16 : Int) (x17 : Int) (s18 : MS) : Option (Int × MS) :=
  rg x17 (rg x15 (if x15 < x17 then m_x12_victim_J63 lr19 x13 x16 x17 x16 s18 else m_x12_victim_J63 lr19 x13 x14 x15 x16 s18))
def m_x12_victim_b19 (lr19 : Int → Int → Int → Int → MS → Option (Int × MS)) (x3 : Int) (x4 : Int) (x5 : Int) (x6 : Int) (s7 : MS) : Option (Int × MS) :=
  rg x6 (if 8 ≤ x6 then rg x3 (if x3 = 0 then m_x12_victim_J78 x4 s7 else m_x12_victim_J78 x5 s7) else rg x6 (bn (m_x12_isVolume x6 s7) (fun r28 => rg r28 (if r28 = 0 then m_x12_victim_J46 lr19 x3 x4 x5 x6 (-1) s7 else bn (m_x12_dropsMany x6 s7) (fun qr33 => m_x12_victim_J46 lr19 x3 x4 x5 x6 qr33.1 qr33.2)))))
def m_x12_victim_L19 (n : Nat) : Int → Int → Int → Int → MS → Option (Int × MS) := lp (fun _ _ _ _ _ => none) (m_x12_victim_b19) n
def m_x12_victim (p0 : Int) (s : MS) : Option (Int × MS) :=
  rg p0 (bn (m_x12_isIn p0 0 1 s) (fun r36 => rg r36 (if r36 = 0 then some ((-1), s) else m_x12_victim_L19 FU p0 (-1) (-1) 0 s)))
def m_x12_room_J67 (s : MS) (lr48 : Int → Int → Option Int) (x3 : Int) (x4 : Int) : Option Int :=
  lr48 x3 (x4 + 1)
def m_x12_room_b48 (s : MS) (lr48 : Int → Int → Option Int) (x1 : Int) (x2 : Int) : Option Int :=
  bn (m_x12_blockMany s) (fun r6 => rg x2 (rg r6 (if r6 ≤ x2 then some x1 else bn (m_x12_savedOf x2 s) (fun r11 => rg r11 (if r11 = 0 then m_x12_room_J67 s lr48 (x1 + 1) x2 else m_x12_room_J67 s lr48 x1 x2)))))
def m_x12_room_L48 (s : MS) (n : Nat) : Int → Int → Option Int := lp (fun _ _ => none) (m_x12_room_b48 s) n
def m_x12_room_J42 (s : MS) (x14 : Int) (x15 : Int) : Option Int :=
  some (x15 + x14)
def m_x12_room_J19 (s : MS) (_u : Unit) : Option Int :=
  some (-1)
def m_x12_room (p0 : Int) (s : MS) : Option Int :=
  rg (gI s 47) (if (gI s 47) = 0 then m_x12_room_J19 s () else rg p0 (bn (m_x12_isIn p0 0 2 s) (fun r20 => rg r20 (if r20 = 0 then m_x12_room_J19 s () else rg p0 (if 2 ≤ p0 then m_x12_room_L48 s FU 0 0 else bn (m_x12_freeMany s) (fun r26 => rg p0 (if p0 = 0 then m_x12_room_J42 s 0 r26 else bn (m_x12_heldMany s) (fun r30 => m_x12_room_J42 s r30 r26))))))))
def m_x12_back_J48 (s : MS) (x1 : Int) : Option Int :=
  some x1
def m_x12_back_J47 (s : MS) (_u : Unit) : Option Int :=
  m_x12_back_J48 s (-1)
def m_x12_back (p0 : Int) (s : MS) : Option Int :=
  rg p0 (bn (m_x12_isVolume p0 s) (fun r4 => rg r4 (if r4 = 0 then m_x12_back_J47 s () else rdI (gA s 49) 906 (8 + p0) (fun y7 => rg y7 (if y7 = 255 then m_x12_back_J47 s () else rdI (gA s 49) 906 p0 (fun y10 => rdI (gA s 49) 906 (8 + p0) (fun y11 => bn (m_x12_unlike y10 y11 (-1) s) (fun r13 => m_x12_back_J48 s r13))))))))
def m_x12_see_b121 (lr121 : Int → Int → MS → Option (Int × MS)) (x1 : Int) (x2 : Int) (s3 : MS) : Option (Int × MS) :=
  dv x1 2 (rg x2 (rg (Int.tdiv x1 2) (if (Int.tdiv x1 2) ≤ x2 then dv x1 4 (stn (sI s3 73 (Int.tdiv x1 4)) (fun s9 => some (gI s9 73, s9))) else rdI (gA s3 0) 1600 (2 * x2) (fun y10 => rdI (gA s3 0) 1600 ((2 * x2) + 1) (fun y11 => inb 24 x2 (stn (sA s3 74 (upZ (gA s3 74) (Int.toNat x2) ((256 * y10) + y11))) (fun s13 => lr121 x1 (x2 + 1) s13)))))))
def m_x12_see_L121 (n : Nat) : Int → Int → MS → Option (Int × MS) := lp (fun _ _ _ => none) (m_x12_see_b121) n
def m_x12_see_J109 (x14 : Int) (x15 : Int) (s16 : MS) : Option (Int × MS) :=
  rg x15 (if x15 = 0 then bn (m_x12_refuses 1 s16) (fun qr21 => some (qr21.1, qr21.2)) else m_x12_see_L121 FU x14 0 s16)
def m_x12_see_J102 (lr36 : Int → Int → Int → MS → Option (Int × MS)) (x26 : Int) (x27 : Int) (x28 : Int) (s29 : MS) : Option (Int × MS) :=
  lr36 x26 x28 (x27 + 4) s29
def m_x12_see_J101 (lr36 : Int → Int → Int → MS → Option (Int × MS)) (x30 : Int) (x31 : Int) (s32 : MS) : Option (Int × MS) :=
  m_x12_see_J102 lr36 x30 x31 0 s32
def m_x12_see_b36 (lr36 : Int → Int → Int → MS → Option (Int × MS)) (x22 : Int) (x23 : Int) (x24 : Int) (s25 : MS) : Option (Int × MS) :=
  rg x24 (rg x22 (if x22 ≤ x24 then m_x12_see_J109 x22 x23 s25 else rg x23 (if x23 = 0 then m_x12_see_J109 x22 x23 s25 else rdI (gA s25 0) 1600 x24 (fun y38 => rdI (gA s25 0) 1600 (x24 + 1) (fun y39 => rg ((256 * y38) + y39) (if 999 < ((256 * y38) + y39) then m_x12_see_J101 lr36 x22 x24 s25 else rdI (gA s25 0) 1600 (x24 + 2) (fun y42 => rdI (gA s25 0) 1600 (x24 + 3) (fun y43 => rg ((256 * y42) + y43) (if 1000 < ((256 * y42) + y43) then m_x12_see_J101 lr36 x22 x24 s25 else m_x12_see_J102 lr36 x22 x24 1 s25)))))))))
def m_x12_see_L36 (n : Nat) : Int → Int → Int → MS → Option (Int × MS) := lp (fun _ _ _ _ => none) (m_x12_see_b36) n
def m_x12_see_J33 (x46 : Int) (x47 : Int) (s48 : MS) : Option (Int × MS) :=
  m_x12_see_L36 FU x46 x47 0 s48
def m_x12_see_J32 (x49 : Int) (s50 : MS) : Option (Int × MS) :=
  m_x12_see_J33 x49 0 s50
def m_x12_see (s : MS) : Option (Int × MS) :=
  stn (sI s 1 0) (fun s51 => rg (gI s 1) (if (gI s 1) ≤ 0 then m_x12_see_J32 (gI s 1) s51 else dv (gI s 1) 4 (rg (Int.tmod (gI s 1) 4) (if (Int.tmod (gI s 1) 4) = 0 then dv (gI s 1) 4 (rg (Int.tdiv (gI s 1) 4) (if 12 < (Int.tdiv (gI s 1) 4) then m_x12_see_J32 (gI s 1) s51 else m_x12_see_J33 (gI s 1) 1 s51)) else m_x12_see_J32 (gI s 1) s51))))
def m_x12_toldOf_J19 (s : MS) (x1 : Int) : Option Int :=
  some x1
def m_x12_toldOf (p0 : Int) (p1 : Int) (s : MS) : Option Int :=
  bn (m_x12_valueOf p0 p1 s) (fun r3 => rg r3 (if r3 = (-1) then m_x12_toldOf_J19 s 1000 else m_x12_toldOf_J19 s r3))
def m_x12_doesFit_b13 (s : MS) (lr13 : Int → Int → Option Int) (x1 : Int) (x2 : Int) : Option Int :=
  rg x2 (rg (gI s 73) (if (gI s 73) ≤ x2 then some 1 else rdI (gA s 74) 24 (2 * x2) (fun y6 => bn (m_x12_toldOf x1 y6 s) (fun r8 => rdI (gA s 74) 24 ((2 * x2) + 1) (fun y9 => rg r8 (rg y9 (if r8 = y9 then lr13 x1 (x2 + 1) else some 0)))))))
def m_x12_doesFit_L13 (s : MS) (n : Nat) : Int → Int → Option Int := lp (fun _ _ => none) (m_x12_doesFit_b13 s) n
def m_x12_doesFit (p0 : Int) (s : MS) : Option Int :=
  rg p0 (bn (m_x12_isVolume p0 s) (fun r15 => rg r15 (if r15 = 0 then some 0 else m_x12_doesFit_L13 s FU p0 0)))
def m_x12_fits_J54 (s : MS) (x1 : Int) : Option Int :=
  some x1
def m_x12_fits_J38 (s : MS) (lr11 : Int → Int → Int → Option Int) (x5 : Int) (x6 : Int) (x7 : Int) : Option Int :=
  lr11 x5 x6 (x7 + 1)
def m_x12_fits_b11 (s : MS) (lr11 : Int → Int → Int → Option Int) (x2 : Int) (x3 : Int) (x4 : Int) : Option Int :=
  rg x4 (if 8 ≤ x4 then rg x2 (if x2 = (-1) then m_x12_fits_J54 s x3 else m_x12_fits_J54 s (-1)) else bn (m_x12_doesFit x4 s) (fun r13 => rg r13 (if r13 = 0 then m_x12_fits_J38 s lr11 x2 x3 x4 else rg x3 (rg x2 (if x3 = x2 then some x4 else m_x12_fits_J38 s lr11 x2 (x3 + 1) x4)))))
def m_x12_fits_L11 (s : MS) (n : Nat) : Int → Int → Int → Option Int := lp (fun _ _ _ => none) (m_x12_fits_b11 s) n
def m_x12_fits (p0 : Int) (s : MS) : Option Int :=
  rg p0 (if (-1) ≤ p0 then m_x12_fits_L11 s FU p0 0 0 else some (-1))
def m_x12_mostAlike_J77 (s : MS) (lr4 : Int → Int → Int → Option Int) (x4 : Int) (x5 : Int) (x6 : Int) : Option Int :=
  lr4 x4 x5 (x6 + 1)
def m_x12_mostAlike_J62 (s : MS) (lr4 : Int → Int → Int → Option Int) (lr27 : Int → Int → Int → Int → Int → Option Int) (x12 : Int) (x13 : Int) (x14 : Int) (x15 : Int) (x16 : Int) : Option Int :=
  lr27 x12 x13 x14 x15 (x16 + 1)
def m_x12_mostAlike_b27 (s : MS) (lr4 : Int → Int → Int → Option Int) (lr27 : Int → Int → Int → Int → Int → Option Int) (x7 : Int) (x8 : Int) (x9 : Int) (x10 : Int) (x11 : Int) : Option Int :=
  rg x11 (if 8 ≤ x11 then rg x10 (rg x8 (if x10 ≤ x8 then m_x12_mostAlike_J77 s lr4 x7 x8 x9 else m_x12_mostAlike_J77 s lr4 x7 x10 x9)) else bn (m_x12_doesFit x11 s) (fun r23 => rg r23 (if r23 = 0 then m_x12_mostAlike_J62 s lr4 lr27 x7 x8 x9 x10 x11 else bn (m_x12_toldOf x11 x7 s) (fun r27 => bn (m_x12_toldOf x9 x7 s) (fun r29 => rg r27 (rg r29 (if r27 = r29 then m_x12_mostAlike_J62 s lr4 lr27 x7 x8 x9 (x10 + 1) x11 else m_x12_mostAlike_J62 s lr4 lr27 x7 x8 x9 x10 x11)))))))
def m_x12_mostAlike_L27 (s : MS) (lr4 : Int → Int → Int → Option Int) (n : Nat) : Int → Int → Int → Int → Int → Option Int := lp (fun _ _ _ _ _ => none) (m_x12_mostAlike_b27 s lr4) n
def m_x12_mostAlike_b4 (s : MS) (lr4 : Int → Int → Int → Option Int) (x1 : Int) (x2 : Int) (x3 : Int) : Option Int :=
  rg x3 (if 8 ≤ x3 then some x2 else bn (m_x12_doesFit x3 s) (fun r36 => rg r36 (if r36 = 0 then m_x12_mostAlike_J77 s lr4 x1 x2 x3 else m_x12_mostAlike_L27 s lr4 FU x1 x2 x3 0 0)))
def m_x12_mostAlike_L4 (s : MS) (n : Nat) : Int → Int → Int → Option Int := lp (fun _ _ _ => none) (m_x12_mostAlike_b4 s) n
def m_x12_mostAlike (p0 : Int) (s : MS) : Option Int :=
  m_x12_mostAlike_L4 s FU p0 0 0
def m_x12_tells_J77 (s : MS) (x1 : Int) : Option Int :=
  some x1
def m_x12_tells_J62 (s : MS) (lr27 : Int → Int → Int → Int → Option Int) (x6 : Int) (x7 : Int) (x8 : Int) (x9 : Int) : Option Int :=
  lr27 x6 x7 x8 (x9 + 1)
def m_x12_tells_J56 (s : MS) (lr27 : Int → Int → Int → Int → Option Int) (x10 : Int) (x11 : Int) (x12 : Int) : Option Int :=
  m_x12_tells_J62 s lr27 x10 x11 x12 x11
def m_x12_tells_b27 (s : MS) (lr27 : Int → Int → Int → Int → Option Int) (x2 : Int) (x3 : Int) (x4 : Int) (x5 : Int) : Option Int :=
  rg x5 (if 100 ≤ x5 then rg x2 (if x2 = 0 then m_x12_tells_J77 s x3 else m_x12_tells_J77 s x4) else bn (m_x12_mostAlike x5 s) (fun r18 => rg x3 (if x3 = (-1) then m_x12_tells_J56 s lr27 x2 x5 r18 else rg r18 (rg x4 (if r18 < x4 then m_x12_tells_J56 s lr27 x2 x5 r18 else m_x12_tells_J62 s lr27 x2 x3 x4 x5)))))
def m_x12_tells_L27 (s : MS) (n : Nat) : Int → Int → Int → Int → Option Int := lp (fun _ _ _ _ => none) (m_x12_tells_b27 s) n
def m_x12_tells_J18 (s : MS) (_u : Unit) : Option Int :=
  some (-1)
def m_x12_tells (p0 : Int) (s : MS) : Option Int :=
  rg p0 (bn (m_x12_isIn p0 0 1 s) (fun r26 => rg r26 (if r26 = 0 then m_x12_tells_J18 s () else bn (m_x12_fits (-1) s) (fun r30 => rg r30 (if r30 = 0 then m_x12_tells_J18 s () else m_x12_tells_L27 s FU p0 (-1) (-1) 0)))))
def m_x12_keeps_J68 (s1 : MS) : Option MS :=
  some s1
def m_x12_keeps_b15 (lr15 : Int → MS → Option MS) (x2 : Int) (s3 : MS) : Option MS :=
  rg x2 (if 906 ≤ x2 then rg (gI s3 76) (if 20 ≤ (gI s3 76) then m_x12_keeps_J68 s3 else stn (sI s3 76 ((gI s3 76) + 1)) (fun s8 => m_x12_keeps_J68 s8)) else rdI (gA s3 49) 906 x2 (fun y9 => inb 18120 ((906 * (gI s3 77)) + x2) (stn (sA s3 75 (upZ (gA s3 75) (Int.toNat ((906 * (gI s3 77)) + x2)) y9)) (fun s11 => lr15 (x2 + 1) s11))))
def m_x12_keeps_L15 (n : Nat) : Int → MS → Option MS := lp (fun _ _ => none) (m_x12_keeps_b15) n
def m_x12_keeps (s : MS) : Option MS :=
  dv ((gI s 77) + 1) 20 (stn (sI s 77 (Int.tmod ((gI s 77) + 1) 20)) (fun s13 => m_x12_keeps_L15 FU 0 s13))
def m_x12_undo_b21 (lr21 : Int → MS → Option (Int × MS)) (x1 : Int) (s2 : MS) : Option (Int × MS) :=
  rg x1 (if 906 ≤ x1 then dv (((gI s2 77) + 20) - 1) 20 (stn (sI s2 77 (Int.tmod (((gI s2 77) + 20) - 1) 20)) (fun s6 => stn (sI s6 76 ((gI s6 76) - 1)) (fun s7 => some (1, s7)))) else rdI (gA s2 75) 18120 ((906 * (gI s2 77)) + x1) (fun y8 => inb 906 x1 (stn (sA s2 49 (upZ (gA s2 49) (Int.toNat x1) y8)) (fun s10 => lr21 (x1 + 1) s10))))
def m_x12_undo_L21 (n : Nat) : Int → MS → Option (Int × MS) := lp (fun _ _ => none) (m_x12_undo_b21) n
def m_x12_undo (s : MS) : Option (Int × MS) :=
  rg (gI s 76) (if (gI s 76) = 0 then rdI (gA s 9) 6 4 (fun y13 => inb 6 4 (stn (sA s 9 (upZ (gA s 9) (Int.toNat 4) (y13 + 1))) (fun s15 => some (0, s15)))) else m_x12_undo_L21 FU 0 s)
def m_x12_isRefused (p0 : Int) (s : MS) : Option (Int × MS) :=
  rdI (gA s 9) 6 p0 (fun y1 => inb 6 p0 (stn (sA s 9 (upZ (gA s 9) (Int.toNat p0) (y1 + 1))) (fun s3 => some (0, s3))))
def m_x12_canBe_b101 (lr101 : Int → MS → Option (Int × MS)) (x1 : Int) (s2 : MS) : Option (Int × MS) :=
  rg x1 (if 785 ≤ x1 then some (1, s2) else rdI (gA s2 61) 785 x1 (fun y5 => inb 906 x1 (stn (sA s2 49 (upZ (gA s2 49) (Int.toNat x1) y5)) (fun s7 => lr101 (x1 + 1) s7))))
def m_x12_canBe_L101 (n : Nat) : Int → MS → Option (Int × MS) := lp (fun _ _ => none) (m_x12_canBe_b101) n
def m_x12_canBe_b48 (lr48 : Int → MS → Option (Int × MS)) (x8 : Int) (s9 : MS) : Option (Int × MS) :=
  rg x8 (if 785 ≤ x8 then bn (m_x12_keeps s9) (fun s13 => m_x12_canBe_L101 FU 0 s13) else rdI (gA s9 49) 906 x8 (fun y14 => rdI (gA s9 61) 785 x8 (fun y15 => inb 906 x8 (stn (sA s9 49 (upZ (gA s9 49) (Int.toNat x8) y15)) (fun s17 => inb 785 x8 (stn (sA s17 61 (upZ (gA s17 61) (Int.toNat x8) y14)) (fun s19 => lr48 (x8 + 1) s19)))))))
def m_x12_canBe_L48 (n : Nat) : Int → MS → Option (Int × MS) := lp (fun _ _ => none) (m_x12_canBe_b48) n
def m_x12_canBe_b3 (lr3 : Int → Int → Int → Int → Int → MS → Option (Int × MS)) (x20 : Int) (x21 : Int) (x22 : Int) (x23 : Int) (x24 : Int) (s25 : MS) : Option (Int × MS) :=
  rg x24 (if 785 ≤ x24 then bn (m_x12_tries x20 x21 x22 x23 s25) (fun qr30 => rg qr30.1 (if qr30.1 = 0 then some (0, qr30.2) else m_x12_canBe_L48 FU 0 qr30.2)) else rdI (gA s25 49) 906 x24 (fun y33 => inb 785 x24 (stn (sA s25 61 (upZ (gA s25 61) (Int.toNat x24) y33)) (fun s35 => lr3 x20 x21 x22 x23 (x24 + 1) s35))))
def m_x12_canBe_L3 (n : Nat) : Int → Int → Int → Int → Int → MS → Option (Int × MS) := lp (fun _ _ _ _ _ _ => none) (m_x12_canBe_b3) n
def m_x12_canBe (p0 : Int) (p1 : Int) (p2 : Int) (p3 : Int) (s : MS) : Option (Int × MS) :=
  m_x12_canBe_L3 FU p0 p1 p2 p3 0 s
def m_x12_put_J33 (s1 : MS) : Option (Int × MS) :=
  bn (m_x12_refuses 2 s1) (fun qr4 => some (qr4.1, qr4.2))
def m_x12_put (p0 : Int) (p1 : Int) (p2 : Int) (s : MS) : Option (Int × MS) :=
  rg p0 (bn (m_x12_isVolume p0 s) (fun r7 => rg r7 (if r7 = 0 then m_x12_put_J33 s else rg p1 (bn (m_x12_isIn p1 0 999 s) (fun r12 => rg r12 (if r12 = 0 then m_x12_put_J33 s else rg p2 (bn (m_x12_isIn p2 0 999 s) (fun r17 => rg r17 (if r17 = 0 then m_x12_put_J33 s else bn (m_x12_clearsTouched s) (fun s21 => bn (m_x12_canBe 2 p0 p1 p2 s21) (fun qr24 => rg qr24.1 (if qr24.1 = 0 then bn (m_x12_refuses 2 qr24.2) (fun qr33 => some (qr33.1, qr33.2)) else bn (m_x12_isKept 0 p0 qr24.2) (fun s28 => bn (m_x12_writtenMany s28) (fun r30 => some (r30, s28)))))))))))))))
def m_x12_remove (p0 : Int) (p1 : Int) (s : MS) : Option (Int × MS) :=
  rg p0 (bn (m_x12_isVolume p0 s) (fun r3 => rg r3 (if r3 = 0 then bn (m_x12_refuses 2 s) (fun qr22 => some (qr22.1, qr22.2)) else bn (m_x12_clearsTouched s) (fun s7 => bn (m_x12_canBe 3 p0 p1 0 s7) (fun qr10 => rg qr10.1 (if qr10.1 = 0 then bn (m_x12_refuses 2 qr10.2) (fun qr19 => some (qr19.1, qr19.2)) else bn (m_x12_isKept 1 p0 qr10.2) (fun s14 => bn (m_x12_writtenMany s14) (fun r16 => some (r16, s14)))))))))
def m_x12_freeNumber_J26 (s : MS) (x1 : Int) : Option Int :=
  some x1
def m_x12_freeNumber_b2 (s : MS) (lr2 : Int → Option Int) (x2 : Int) : Option Int :=
  rg x2 (if 8 ≤ x2 then m_x12_freeNumber_J26 s x2 else rdI (gA s 49) 906 x2 (fun y5 => rg y5 (if y5 = 255 then m_x12_freeNumber_J26 s x2 else lr2 (x2 + 1))))
def m_x12_freeNumber_L2 (s : MS) (n : Nat) : Int → Option Int := lp (fun _ => none) (m_x12_freeNumber_b2 s) n
def m_x12_freeNumber (s : MS) : Option Int :=
  m_x12_freeNumber_L2 s FU 0
def m_x12_copy_J20 (s1 : MS) : Option (Int × MS) :=
  bn (m_x12_refuses 2 s1) (fun qr4 => some (qr4.1, qr4.2))
def m_x12_copy (p0 : Int) (s : MS) : Option (Int × MS) :=
  bn (m_x12_freeNumber s) (fun r6 => rg p0 (bn (m_x12_isVolume p0 s) (fun r9 => rg r9 (if r9 = 0 then m_x12_copy_J20 s else rg r6 (if r6 = 8 then m_x12_copy_J20 s else bn (m_x12_keeps s) (fun s15 => bn (m_x12_clearsTouched s15) (fun s17 => bn (m_x12_copies p0 r6 s17) (fun s19 => bn (m_x12_isKept 2 r6 s19) (fun s21 => some (r6, s21))))))))))
def m_x12_drop (p0 : Int) (s : MS) : Option (Int × MS) :=
  rg p0 (bn (m_x12_isVolume p0 s) (fun r3 => rg r3 (if r3 = 0 then bn (m_x12_refuses 2 s) (fun qr20 => some (qr20.1, qr20.2)) else bn (m_x12_keeps s) (fun s7 => bn (m_x12_clearsTouched s7) (fun s9 => bn (m_x12_usedMany s9) (fun r11 => bn (m_x12_drops p0 s9) (fun s13 => bn (m_x12_isKept 3 p0 s13) (fun s15 => bn (m_x12_usedMany s15) (fun r17 => some (r11 - r17, s15))))))))))
def m_x12_checkpoint (s : MS) : Option (Int × MS) :=
  rg (gI s 47) (if (gI s 47) = 0 then bn (m_x12_refuses 3 s) (fun qr15 => some (qr15.1, qr15.2)) else bn (m_x12_keeps s) (fun s4 => bn (m_x12_clearsTouched s4) (fun s6 => bn (m_x12_heldMany s6) (fun r8 => bn (m_x12_checks s6) (fun s10 => bn (m_x12_isKept 4 255 s10) (fun s12 => some (r8, s12)))))))
def m_x12_crash_J44 (lr25 : Int → Int → MS → Option (Int × MS)) (x4 : Int) (x5 : Int) (s6 : MS) : Option (Int × MS) :=
  lr25 x4 (x5 + 1) s6
def m_x12_crash_b25 (lr25 : Int → Int → MS → Option (Int × MS)) (x1 : Int) (x2 : Int) (s3 : MS) : Option (Int × MS) :=
  bn (m_x12_blockMany s3) (fun r8 => rg x2 (rg r8 (if r8 ≤ x2 then bn (m_x12_crashes s3) (fun s13 => bn (m_x12_isKept 5 255 s13) (fun s15 => some (x1, s15))) else bn (m_x12_isFresh x2 s3) (fun r17 => rg r17 (if r17 = 0 then m_x12_crash_J44 lr25 x1 x2 s3 else m_x12_crash_J44 lr25 (x1 + 1) x2 s3)))))
def m_x12_crash_L25 (n : Nat) : Int → Int → MS → Option (Int × MS) := lp (fun _ _ _ => none) (m_x12_crash_b25) n
def m_x12_crash (s : MS) : Option (Int × MS) :=
  rg (gI s 47) (if (gI s 47) = 0 then bn (m_x12_refuses 3 s) (fun qr28 => some (qr28.1, qr28.2)) else bn (m_x12_keeps s) (fun s23 => bn (m_x12_clearsTouched s23) (fun s25 => m_x12_crash_L25 FU 0 0 s25)))
def m_x12_seed (p0 : Int) (s : MS) : Option (Int × MS) :=
  rg p0 (if 0 ≤ p0 then rg p0 (stn (sL s 78 p0) (fun s4 => some (1, s4))) else bn (m_x12_isRefused 5 s) (fun qr7 => bo qr7.1 (some (qr7.1, qr7.2))))
def m_x12_drawOf (p0 : Int) (s : MS) : Option (Int × MS) :=
  dvL ((1103515245 * (gL s 78)) + 12345) 2147483648 (stn (sL s 78 (Int.tmod ((1103515245 * (gL s 78)) + 12345) 2147483648)) (fun s2 => dvL (gL s2 78) 64 (rg p0 (dvL (Int.tdiv (gL s2 78) 64) p0 (some (Int.tmod (Int.tdiv (gL s2 78) 64) p0, s2))))))
def m_x12_volumeAt_J29 (s : MS) (lr4 : Int → Int → Option Int) (x3 : Int) (x4 : Int) : Option Int :=
  lr4 (x3 + 1) x4
def m_x12_volumeAt_J17 (s : MS) (lr4 : Int → Int → Option Int) (x5 : Int) (x6 : Int) : Option Int :=
  rg x5 (bn (m_x12_isVolume x5 s) (fun r9 => rg r9 (if r9 = 0 then m_x12_volumeAt_J29 s lr4 x5 x6 else m_x12_volumeAt_J29 s lr4 x5 (x6 + (-1)))))
def m_x12_volumeAt_b4 (s : MS) (lr4 : Int → Int → Option Int) (x1 : Int) (x2 : Int) : Option Int :=
  rg x2 (if 0 < x2 then m_x12_volumeAt_J17 s lr4 x1 x2 else rg x1 (bn (m_x12_isVolume x1 s) (fun r16 => rg r16 (if r16 = 0 then m_x12_volumeAt_J17 s lr4 x1 x2 else some x1))))
def m_x12_volumeAt_L4 (s : MS) (n : Nat) : Int → Int → Option Int := lp (fun _ _ => none) (m_x12_volumeAt_b4 s) n
def m_x12_volumeAt (p0 : Int) (s : MS) : Option Int :=
  m_x12_volumeAt_L4 s FU 0 p0
def m_x12_isDrawn_J84 (x1 : Int) (s2 : MS) : Option (Int × MS) :=
  bo x1 (some (x1, s2))
def m_x12_isDrawn_J20 (s4 : MS) : Option (Int × MS) :=
  bn (m_x12_volumeMany s4) (fun r6 => rg r6 (if r6 = 0 then some (0, s4) else bn (m_x12_volumeMany s4) (fun r10 => bn (m_x12_drawOf r10 s4) (fun qr13 => bn (m_x12_volumeAt qr13.1 qr13.2) (fun r15 => bn (m_x12_drawOf 3 qr13.2) (fun qr18 => bn (m_x12_drawOf 40 qr18.2) (fun qr21 => rg qr18.1 (if 2 ≤ qr18.1 then bn (m_x12_tries 3 r15 qr21.1 0 qr21.2) (fun qr26 => m_x12_isDrawn_J84 qr26.1 qr26.2) else bn (m_x12_drawOf 100 qr21.2) (fun qr29 => bn (m_x12_tries 2 r15 qr21.1 qr29.1 qr29.2) (fun qr32 => m_x12_isDrawn_J84 qr32.1 qr32.2))))))))))
def m_x12_isDrawn (s : MS) : Option (Int × MS) :=
  bn (m_x12_drawOf 100 s) (fun qr35 => rdI (gA qr35.2 39) 10 9 (fun y36 => rg qr35.1 (rg y36 (if y36 ≤ qr35.1 then m_x12_isDrawn_J20 qr35.2 else bn (m_x12_checks qr35.2) (fun s41 => m_x12_isDrawn_J20 s41)))))
def m_x12_chance_J52 (lr37 : Int → Int → Int → MS → Option (Int × MS)) (x5 : Int) (x6 : Int) (x7 : Int) (s8 : MS) : Option (Int × MS) :=
  lr37 x5 x6 (x7 + 1) s8
def m_x12_chance_b37 (lr37 : Int → Int → Int → MS → Option (Int × MS)) (x1 : Int) (x2 : Int) (x3 : Int) (s4 : MS) : Option (Int × MS) :=
  rg x3 (rg x1 (if x1 ≤ x3 then bn (m_x12_isKept 6 255 s4) (fun s13 => some (x2, s13)) else bn (m_x12_isDrawn s4) (fun qr16 => rg qr16.1 (if qr16.1 = 0 then m_x12_chance_J52 lr37 x1 x2 x3 qr16.2 else m_x12_chance_J52 lr37 x1 (x2 + 1) x3 qr16.2))))
def m_x12_chance_L37 (n : Nat) : Int → Int → Int → MS → Option (Int × MS) := lp (fun _ _ _ _ => none) (m_x12_chance_b37) n
def m_x12_chance_J19 (s19 : MS) : Option (Int × MS) :=
  bn (m_x12_refuses 3 s19) (fun qr22 => some (qr22.1, qr22.2))
def m_x12_chance (p0 : Int) (s : MS) : Option (Int × MS) :=
  rg (gI s 47) (if (gI s 47) = 0 then m_x12_chance_J19 s else rg p0 (bn (m_x12_isIn p0 1 40 s) (fun r27 => rg r27 (if r27 = 0 then m_x12_chance_J19 s else bn (m_x12_keeps s) (fun s31 => bn (m_x12_clearsTouched s31) (fun s33 => m_x12_chance_L37 FU p0 0 0 s33))))))
def m_x12_qOf_J69 (s : MS) (z1 : Int) : Option Int :=
  some z1
def m_x12_qOf_J68 (s : MS) (_u : Unit) : Option Int :=
  m_x12_qOf_J69 s 0
def m_x12_qOf_J39 (s : MS) (z2 : Int) : Option Int :=
  some z2
def m_x12_qOf (p0 : Int) (p1 : Int) (p2 : Int) (s : MS) : Option Int :=
  rg p0 (if p0 = 0 then bn (m_x12_isBlock p1 s) (fun r6 => rg r6 (if r6 = 0 then m_x12_qOf_J39 s 0 else bn (m_x12_countOf p1 s) (fun r10 => rg r10 (m_x12_qOf_J39 s r10)))) else bn (m_x12_isBlock p1 s) (fun r13 => rg r13 (if r13 = 0 then m_x12_qOf_J68 s () else bn (m_x12_isUsed p1 s) (fun r17 => rg r17 (if r17 = 0 then m_x12_qOf_J68 s () else bn (m_x12_keyAt p1 0 s) (fun r21 => rg r21 (m_x12_qOf_J69 s r21)))))))
def m_x12_qTold_J162 (lr7 : Int → Int → MS → Option (Int × MS)) (x4 : Int) (x5 : Int) (s6 : MS) : Option (Int × MS) :=
  lr7 x4 (x5 + 1) s6
def m_x12_qTold_b7 (lr7 : Int → Int → MS → Option (Int × MS)) (x1 : Int) (x2 : Int) (s3 : MS) : Option (Int × MS) :=
  rg x2 (rg (gI s3 102) (if (gI s3 102) ≤ x2 then rdL (gB s3 107) 1700 0 (fun yl10 => some (yl10, s3)) else rdI (gA s3 101) 1700 x2 (fun y11 => rg y11 (if y11 < 1000 then rg y11 (if y11 < 60 then rg y11 (if y11 < 40 then rg y11 (if y11 = 13 then bn (m_x12_qPuts 1 s3) (fun s28 => m_x12_qTold_J162 lr7 x1 x2 s28) else rg y11 (if y11 = 12 then rdL (gB s3 107) 1700 ((gI s3 108) - 1) (fun yl24 => inb 1700 ((gI s3 108) - 1) (stn (sB s3 107 (upZ (gB s3 107) (Int.toNat ((gI s3 108) - 1)) (1 - yl24))) (fun s26 => m_x12_qTold_J162 lr7 x1 x2 s26))) else bn (m_x12_qJoins y11 s3) (fun s23 => m_x12_qTold_J162 lr7 x1 x2 s23))) else bn (m_x12_qPartOf (y11 - 40) x1 s3) (fun rl30 => bn (m_x12_qClip rl30 s3) (fun rl32 => bn (m_x12_qPuts rl32 s3) (fun s34 => m_x12_qTold_J162 lr7 x1 x2 s34)))) else rdL (gB s3 107) 1700 ((gI s3 108) - 1) (fun yl35 => bn (m_x12_qOf (y11 - 60) yl35 x1 s3) (fun rl37 => bn (m_x12_qClip rl37 s3) (fun rl39 => inb 1700 ((gI s3 108) - 1) (stn (sB s3 107 (upZ (gB s3 107) (Int.toNat ((gI s3 108) - 1)) rl39)) (fun s41 => m_x12_qTold_J162 lr7 x1 x2 s41)))))) else rg (y11 - 1000) (bn (m_x12_qPuts (y11 - 1000) s3) (fun s44 => m_x12_qTold_J162 lr7 x1 x2 s44))))))
def m_x12_qTold_L7 (n : Nat) : Int → Int → MS → Option (Int × MS) := lp (fun _ _ _ => none) (m_x12_qTold_b7) n
def m_x12_qTold (p0 : Int) (s : MS) : Option (Int × MS) :=
  stn (sI s 108 0) (fun s45 => m_x12_qTold_L7 FU p0 0 s45)
def m_x12_qKind_J90 (x1 : Int) (s2 : MS) : Option (Int × MS) :=
  some (x1, s2)
def m_x12_qKind_J76 (x3 : Int) (s4 : MS) : Option (Int × MS) :=
  rg x3 (if x3 = 5 then bn (m_x12_asks 84 5 s4) (fun s8 => m_x12_qKind_J90 x3 s8) else m_x12_qKind_J90 x3 s4)
def m_x12_qKind (s : MS) : Option (Int × MS) :=
  bn (m_x12_takes 79 5 s) (fun qr11 => rg qr11.1 (if qr11.1 = 0 then bn (m_x12_takes 80 4 qr11.2) (fun qr16 => rg qr16.1 (if qr16.1 = 0 then bn (m_x12_takes 81 5 qr16.2) (fun qr21 => rg qr21.1 (if qr21.1 = 0 then bn (m_x12_takes 82 5 qr21.2) (fun qr26 => rg qr26.1 (if qr26.1 = 0 then bn (m_x12_takes 83 4 qr26.2) (fun qr31 => rg qr31.1 (if qr31.1 = 0 then m_x12_qKind_J76 5 qr31.2 else m_x12_qKind_J76 4 qr31.2)) else m_x12_qKind_J76 3 qr26.2)) else m_x12_qKind_J76 2 qr21.2)) else m_x12_qKind_J76 1 qr16.2)) else m_x12_qKind_J76 0 qr11.2))
def m_x12_qTakes_J133 (s1 : MS) : Option MS :=
  stn (sI s1 110 0) (fun s2 => some s2)
def m_x12_qTakes_J128 (z3 : Int) (s4 : MS) : Option MS :=
  stn (sL s4 109 z3) (fun s5 => m_x12_qTakes_J133 s5)
def m_x12_qTakes_J90 (x6 : Int) (z7 : Int) (s8 : MS) : Option MS :=
  rg x6 (if x6 ≤ 3 then m_x12_qTakes_J133 s8 else rg (gI s8 110) (if (gI s8 110) = 0 then rg x6 (if x6 = 4 then rgL z7 (rgL (gL s8 109) (if z7 ≤ (gL s8 109) then m_x12_qTakes_J133 s8 else m_x12_qTakes_J128 z7 s8)) else rgL z7 (rgL (gL s8 109) (if (gL s8 109) ≤ z7 then m_x12_qTakes_J133 s8 else m_x12_qTakes_J128 z7 s8))) else m_x12_qTakes_J128 z7 s8))
def m_x12_qTakes_J75 (x21 : Int) (z22 : Int) (s23 : MS) : Option MS :=
  rg x21 (if x21 = 3 then stn (sL s23 109 ((gL s23 109) + z22)) (fun s26 => m_x12_qTakes_J90 x21 z22 s26) else m_x12_qTakes_J90 x21 z22 s23)
def m_x12_qTakes_J55 (x27 : Int) (z28 : Int) (x29 : Int) (s30 : MS) : Option MS :=
  rg x27 (if x27 = 2 then rg x29 (if x29 = 0 then m_x12_qTakes_J75 x27 z28 s30 else stn (sL s30 109 ((gL s30 109) + 1)) (fun s35 => m_x12_qTakes_J75 x27 z28 s35)) else m_x12_qTakes_J75 x27 z28 s30)
def m_x12_qTakes_J48 (x36 : Int) (z37 : Int) (x38 : Int) (x39 : Int) (s40 : MS) : Option MS :=
  rg x38 (stn (sL s40 109 x38) (fun s42 => m_x12_qTakes_J55 x36 z37 x39 s42))
def m_x12_qTakes_J38 (x43 : Int) (z44 : Int) (x45 : Int) (x46 : Int) (s47 : MS) : Option MS :=
  rg x43 (if x43 = 1 then rg x46 (if x46 = 0 then m_x12_qTakes_J55 x43 z44 x46 s47 else m_x12_qTakes_J48 x43 z44 x45 x46 s47) else m_x12_qTakes_J55 x43 z44 x46 s47)
def m_x12_qTakes_J16 (x52 : Int) (z53 : Int) (x54 : Int) (x55 : Int) (s56 : MS) : Option MS :=
  rg x52 (if x52 = 0 then rg x55 (if x55 = 0 then m_x12_qTakes_J38 x52 z53 x54 x55 s56 else rgL (gL s56 109) (if (gL s56 109) = (-1) then m_x12_qTakes_J48 x52 z53 x54 x55 s56 else m_x12_qTakes_J38 x52 z53 x54 x55 s56)) else m_x12_qTakes_J38 x52 z53 x54 x55 s56)
def m_x12_qTakes_J15 (x63 : Int) (z64 : Int) (x65 : Int) (s66 : MS) : Option MS :=
  m_x12_qTakes_J16 x63 z64 x65 0 s66
def m_x12_qTakes (p0 : Int) (p1 : Int) (p2 : Int) (s : MS) : Option MS :=
  rg p0 (if 3 ≤ p0 then m_x12_qTakes_J15 p0 p1 p2 s else rgL p1 (if p1 = 1 then m_x12_qTakes_J16 p0 p1 p2 1 s else m_x12_qTakes_J15 p0 p1 p2 s))
def m_x12_ask_J235 (lr183 : Int → Int → MS → Option (Int × MS)) (x4 : Int) (x5 : Int) (x6 : Int) (s7 : MS) : Option (Int × MS) :=
  stn (sI s7 53 x6) (fun s8 => bn (m_x12_qTold x5 s8) (fun qrl11 => bn (m_x12_qTakes x4 qrl11.1 x5 qrl11.2) (fun s13 => lr183 x4 (x5 + 1) s13)))
def m_x12_ask_J214 (lr183 : Int → Int → MS → Option (Int × MS)) (x14 : Int) (x15 : Int) (x16 : Int) (s17 : MS) : Option (Int × MS) :=
  stn (sI s17 52 x16) (fun s18 => bn (m_x12_isThere x15 s18) (fun r20 => rg r20 (if r20 = 0 then m_x12_ask_J235 lr183 x14 x15 0 s18 else bn (m_x12_entriesOf x15 s18) (fun r24 => m_x12_ask_J235 lr183 x14 x15 r24 s18))))
def m_x12_ask_b183 (lr183 : Int → Int → MS → Option (Int × MS)) (x1 : Int) (x2 : Int) (s3 : MS) : Option (Int × MS) :=
  bn (m_x12_blockMany s3) (fun r26 => rg x2 (rg r26 (if r26 ≤ x2 then some (gL s3 109, s3) else stn (sI s3 50 x2) (fun s30 => bn (m_x12_isThere x2 s30) (fun r32 => rg r32 (if r32 = 0 then m_x12_ask_J214 lr183 x1 x2 0 s30 else bn (m_x12_levelOf x2 s30) (fun r36 => m_x12_ask_J214 lr183 x1 x2 r36 s30)))))))
def m_x12_ask_L183 (n : Nat) : Int → Int → MS → Option (Int × MS) := lp (fun _ _ _ => none) (m_x12_ask_b183) n
def m_x12_ask_J173 (x37 : Int) (z38 : Int) (s39 : MS) : Option (Int × MS) :=
  stn (sL s39 109 z38) (fun s40 => stn (sI s40 110 1) (fun s41 => m_x12_ask_L183 FU x37 0 s41))
def m_x12_ask_J133 (x42 : Int) (s43 : MS) : Option (Int × MS) :=
  stn (sI s43 7 (gI s43 5)) (fun s44 => stn (sI s44 8 (gI s44 6)) (fun s45 => rg (gI s45 5) (if (gI s45 5) = 0 then rg x42 (if 2 ≤ x42 then m_x12_ask_J173 x42 0 s45 else m_x12_ask_J173 x42 (-1) s45) else some ((-1000000000000000), s45))))
