def m_x11_fits_J44 (x1 : Int) (s2 : MS) : Option (Int × MS) :=
  some (x1, s2)
def m_x11_fits_J43 (s3 : MS) : Option (Int × MS) :=
  m_x11_fits_J44 (-1) s3
def m_x11_fits (p0 : Int) (s : MS) : Option (Int × MS) :=
  bn (m_x7_findFits s) (fun qr6 => rg p0 (if p0 = (-1) then some (qr6.1, qr6.2) else rg p0 (if p0 < 0 then m_x11_fits_J43 qr6.2 else rg p0 (rg qr6.1 (if qr6.1 ≤ p0 then m_x11_fits_J43 qr6.2 else rdI (gA qr6.2 14) 8 p0 (fun y14 => m_x11_fits_J44 y14 qr6.2))))))
def m_x7_mostLeft_J70 (lr5 : Int → Int → Int → MS → Option (Int × MS)) (lr39 : Int → Int → Int → Int → Int → MS → Option (Int × MS)) (x11 : Int) (x12 : Int) (x13 : Int) (x14 : Int) (x15 : Int) (x16 : Int) (s17 : MS) : Option (Int × MS) :=
  lr39 x11 x12 x13 (x16 + x15) (x14 + 1) s17
def m_x7_mostLeft_b39 (lr5 : Int → Int → Int → MS → Option (Int × MS)) (lr39 : Int → Int → Int → Int → Int → MS → Option (Int × MS)) (x5 : Int) (x6 : Int) (x7 : Int) (x8 : Int) (x9 : Int) (s10 : MS) : Option (Int × MS) :=
  rg x9 (rg x7 (if x7 < x9 then rg x6 (rg x8 (lr5 x5 (maxZ x6 x8) (x7 + 1) s10)) else rdI (gA s10 15) 8 x9 (fun y23 => rdI (gA s10 15) 8 x7 (fun y24 => rg y23 (rg y24 (if y23 = y24 then m_x7_mostLeft_J70 lr5 lr39 x5 x6 x7 x9 1 x8 s10 else m_x7_mostLeft_J70 lr5 lr39 x5 x6 x7 x9 0 x8 s10))))))
def m_x7_mostLeft_L39 (lr5 : Int → Int → Int → MS → Option (Int × MS)) (n : Nat) : Int → Int → Int → Int → Int → MS → Option (Int × MS) := lp (fun _ _ _ _ _ _ => none) (m_x7_mostLeft_b39 lr5) n
def m_x7_mostLeft_b5 (lr5 : Int → Int → Int → MS → Option (Int × MS)) (x1 : Int) (x2 : Int) (x3 : Int) (s4 : MS) : Option (Int × MS) :=
  rg x3 (rg (gI s4 224) (if (gI s4 224) ≤ x3 then some (x2, s4) else rdI (gA s4 14) 8 x3 (fun y31 => bn (m_x7_reading y31 x1 s4) (fun r33 => inb 8 x3 (stn (sA s4 15 (upZ (gA s4 15) (Int.toNat x3) r33)) (fun s35 => m_x7_mostLeft_L39 lr5 FU x1 x2 x3 0 0 s35))))))
def m_x7_mostLeft_L5 (n : Nat) : Int → Int → Int → MS → Option (Int × MS) := lp (fun _ _ _ _ => none) (m_x7_mostLeft_b5) n
def m_x7_mostLeft (p1 : Int) (s : MS) : Option (Int × MS) :=
  m_x7_mostLeft_L5 FU p1 0 0 s
def m_x11_tells_J64 (lr27 : Int → Int → Int → Int → MS → Option (Int × MS)) (x6 : Int) (x7 : Int) (x8 : Int) (x9 : Int) (s10 : MS) : Option (Int × MS) :=
  lr27 x6 x7 x8 (x9 + 1) s10
def m_x11_tells_b27 (lr27 : Int → Int → Int → Int → MS → Option (Int × MS)) (x1 : Int) (x2 : Int) (x3 : Int) (x4 : Int) (s5 : MS) : Option (Int × MS) :=
  rg x4 (if 100 ≤ x4 then bn (m_x11_oneOf x1 x2 x3 s5) (fun r14 => some (r14, s5)) else bn (m_x7_mostLeft x4 s5) (fun qr17 => rg qr17.1 (rg x3 (if x3 ≤ qr17.1 then m_x11_tells_J64 lr27 x1 x2 x3 x4 qr17.2 else m_x11_tells_J64 lr27 x1 x4 qr17.1 x4 qr17.2))))
def m_x11_tells_L27 (n : Nat) : Int → Int → Int → Int → MS → Option (Int × MS) := lp (fun _ _ _ _ _ => none) (m_x11_tells_b27) n
def m_x11_tells (p0 : Int) (s : MS) : Option (Int × MS) :=
  bn (m_x7_findFits s) (fun qr23 => rg qr23.1 (if qr23.1 = 0 then some ((-1), qr23.2) else m_x11_tells_L27 FU p0 0 9 0 qr23.2))
def m_x8_become_v3 (s : MS) : Option MS :=
  stn (sI s 1420 (gI s 1060)) (fun s1 => stn (sI s1 1421 (gI s1 1061)) (fun s2 => stn (sL s2 1422 (gL s2 1062)) (fun s3 => cpg 0 0 48 48 48 (stn (sA s3 72 (va_cpy (gA s3 54) (gA s3 72) (Int.toNat 0) (Int.toNat 0) (Int.toNat 48))) (fun s5 => cpg 0 0 48 48 48 (stn (sA s5 73 (va_cpy (gA s5 55) (gA s5 73) (Int.toNat 0) (Int.toNat 0) (Int.toNat 48))) (fun s7 => cpg 0 0 48 48 48 (stn (sA s7 74 (va_cpy (gA s7 56) (gA s7 74) (Int.toNat 0) (Int.toNat 0) (Int.toNat 48))) (fun s9 => cpg 0 0 48 48 48 (stn (sA s9 75 (va_cpy (gA s9 57) (gA s9 75) (Int.toNat 0) (Int.toNat 0) (Int.toNat 48))) (fun s11 => cpg 0 0 288 288 288 (stn (sA s11 76 (va_cpy (gA s11 58) (gA s11 76) (Int.toNat 0) (Int.toNat 0) (Int.toNat 288))) (fun s13 => cpg 0 0 288 288 288 (stn (sA s13 77 (va_cpy (gA s13 59) (gA s13 77) (Int.toNat 0) (Int.toNat 0) (Int.toNat 288))) (fun s15 => cpg 0 0 8 8 8 (stn (sA s15 78 (va_cpy (gA s15 60) (gA s15 78) (Int.toNat 0) (Int.toNat 0) (Int.toNat 8))) (fun s17 => cpg 0 0 8 8 8 (stn (sA s17 79 (va_cpy (gA s17 61) (gA s17 79) (Int.toNat 0) (Int.toNat 0) (Int.toNat 8))) (fun s19 => some s19)))))))))))))))))))
def m_x8_become_v4 (s : MS) : Option MS :=
  stn (sI s 1060 (gI s 1420)) (fun s1 => stn (sI s1 1061 (gI s1 1421)) (fun s2 => stn (sL s2 1062 (gL s2 1422)) (fun s3 => cpg 0 0 48 48 48 (stn (sA s3 54 (va_cpy (gA s3 72) (gA s3 54) (Int.toNat 0) (Int.toNat 0) (Int.toNat 48))) (fun s5 => cpg 0 0 48 48 48 (stn (sA s5 55 (va_cpy (gA s5 73) (gA s5 55) (Int.toNat 0) (Int.toNat 0) (Int.toNat 48))) (fun s7 => cpg 0 0 48 48 48 (stn (sA s7 56 (va_cpy (gA s7 74) (gA s7 56) (Int.toNat 0) (Int.toNat 0) (Int.toNat 48))) (fun s9 => cpg 0 0 48 48 48 (stn (sA s9 57 (va_cpy (gA s9 75) (gA s9 57) (Int.toNat 0) (Int.toNat 0) (Int.toNat 48))) (fun s11 => cpg 0 0 288 288 288 (stn (sA s11 58 (va_cpy (gA s11 76) (gA s11 58) (Int.toNat 0) (Int.toNat 0) (Int.toNat 288))) (fun s13 => cpg 0 0 288 288 288 (stn (sA s13 59 (va_cpy (gA s13 77) (gA s13 59) (Int.toNat 0) (Int.toNat 0) (Int.toNat 288))) (fun s15 => cpg 0 0 8 8 8 (stn (sA s15 60 (va_cpy (gA s15 78) (gA s15 60) (Int.toNat 0) (Int.toNat 0) (Int.toNat 8))) (fun s17 => cpg 0 0 8 8 8 (stn (sA s17 61 (va_cpy (gA s17 79) (gA s17 61) (Int.toNat 0) (Int.toNat 0) (Int.toNat 8))) (fun s19 => some s19)))))))))))))))))))
def m_x1_tryPlant_J36 (x1 : Int) (s2 : MS) : Option (Int × MS) :=
  bo x1 (some (x1, s2))
def m_x1_tryPlant (p0 : Int) (p1 : Int) (p2 : Int) (s : MS) : Option (Int × MS) :=
  bn (m_x8_become_v3 s) (fun s5 => bn (m_x1_plant p0 p1 p2 s5) (fun qr8 => rg qr8.1 (if qr8.1 = 0 then bn (m_x8_become_v4 qr8.2) (fun s12 => m_x1_tryPlant_J36 qr8.1 s12) else m_x1_tryPlant_J36 qr8.1 qr8.2)))
def m_x8_delete_b45 (lr45 : Int → Int → Int → MS → Option MS) (x1 : Int) (x2 : Int) (x3 : Int) (s4 : MS) : Option MS :=
  rg x3 (rg x2 (if x2 ≤ x3 then bn (m_x8_mark x1 s4) (fun s9 => some s9) else rdI (gA s4 58) 288 (x3 + 1) (fun y10 => inb 288 x3 (stn (sA s4 58 (upZ (gA s4 58) (Int.toNat x3) y10)) (fun s12 => rdI (gA s12 59) 288 (x3 + 1) (fun y13 => inb 288 x3 (stn (sA s12 59 (upZ (gA s12 59) (Int.toNat x3) y13)) (fun s15 => lr45 x1 x2 (x3 + 1) s15))))))))
def m_x8_delete_L45 (n : Nat) : Int → Int → Int → MS → Option MS := lp (fun _ _ _ _ => none) (m_x8_delete_b45) n
def m_x8_delete_J14 (s16 : MS) : Option MS :=
  some s16
def m_x8_delete (p0 : Int) (p1 : Int) (s : MS) : Option MS :=
  rg p1 (if p1 < 0 then m_x8_delete_J14 s else rdI (gA s 57) 48 p0 (fun y19 => rg p1 (rg y19 (if p1 < y19 then rdI (gA s 57) 48 p0 (fun y23 => inb 48 p0 (stn (sA s 57 (upZ (gA s 57) (Int.toNat p0) (y23 - 1))) (fun s25 => rdI (gA s25 57) 48 p0 (fun y26 => bn (m_x8_slot p0 y26 s25) (fun r28 => bn (m_x8_slot p0 p1 s25) (fun r30 => m_x8_delete_L45 FU p0 r28 r30 s25)))))) else m_x8_delete_J14 s))))
def m_x1_prune_J186 (s1 : MS) : Option MS :=
  some s1
def m_x1_prune_J180 (lr98 : Int → Int → MS → Option MS) (x5 : Int) (x6 : Int) (s7 : MS) : Option MS :=
  lr98 x5 (x6 + (-1)) s7
def m_x1_prune_b98 (lr98 : Int → Int → MS → Option MS) (x2 : Int) (x3 : Int) (s4 : MS) : Option MS :=
  rg x3 (if x3 < 0 then m_x1_prune_J186 s4 else rdI (gA s4 50) 48 x3 (fun y10 => rdI (gA s4 57) 48 y10 (fun y11 => rg y11 (if y11 = 0 then rdI (gA s4 50) 48 x3 (fun y14 => inb 48 y14 (stn (sA s4 54 (upZ (gA s4 54) (Int.toNat y14) 0)) (fun s16 => rg x3 (if x3 ≤ 0 then inb 8 x2 (stn (sA s16 60 (upZ (gA s16 60) (Int.toNat x2) (-1))) (fun s20 => m_x1_prune_J180 lr98 x2 x3 s20)) else rdI (gA s16 50) 48 (x3 - 1) (fun y21 => rdI (gA s16 51) 48 (x3 - 1) (fun y22 => bn (m_x8_delete y21 y22 s16) (fun s24 => m_x1_prune_J180 lr98 x2 x3 s24))))))) else m_x1_prune_J186 s4))))
def m_x1_prune_L98 (n : Nat) : Int → Int → MS → Option MS := lp (fun _ _ _ => none) (m_x1_prune_b98) n
def m_x1_prune_b18 (lr18 : Int → Int → Int → Int → MS → Option MS) (x25 : Int) (x26 : Int) (x27 : Int) (x28 : Int) (s29 : MS) : Option MS :=
  rg x28 (rg x27 (if x27 ≤ x28 then rdI (gA s29 50) 48 x27 (fun y33 => rdI (gA s29 50) 48 x27 (fun y34 => bn (m_x8_find y34 x26 s29) (fun r36 => bn (m_x8_delete y33 r36 s29) (fun s38 => m_x1_prune_L98 FU x25 x27 s38)))) else rdI (gA s29 50) 48 x28 (fun y39 => rdI (gA s29 51) 48 x28 (fun y40 => bn (m_x8_slot y39 y40 s29) (fun r42 => rdI (gA s29 59) 288 r42 (fun y43 => inb 48 (x28 + 1) (stn (sA s29 50 (upZ (gA s29 50) (Int.toNat (x28 + 1)) y43)) (fun s45 => lr18 x25 x26 x27 (x28 + 1) s45))))))))
def m_x1_prune_L18 (n : Nat) : Int → Int → Int → Int → MS → Option MS := lp (fun _ _ _ _ _ => none) (m_x1_prune_b18) n
def m_x1_prune (p0 : Int) (p1 : Int) (p2 : Int) (s : MS) : Option MS :=
  rdI (gA s 60) 8 p0 (fun y46 => inb 48 0 (stn (sA s 50 (upZ (gA s 50) (Int.toNat 0) y46)) (fun s48 => m_x1_prune_L18 FU p0 p1 p2 0 s48)))
def m_x1_lowerRoot_J48 (s1 : MS) : Option MS :=
  some s1
def m_x1_lowerRoot_b2 (lr2 : Int → Int → MS → Option MS) (x2 : Int) (x3 : Int) (s4 : MS) : Option MS :=
  rg x3 (if 48 ≤ x3 then some s4 else rdI (gA s4 60) 8 x2 (fun y7 => rg y7 (if y7 = (-1) then m_x1_lowerRoot_J48 s4 else rdI (gA s4 56) 48 y7 (fun y10 => rg y10 (if y10 = 0 then m_x1_lowerRoot_J48 s4 else rdI (gA s4 57) 48 y7 (fun y13 => rg y13 (if y13 = 1 then bn (m_x8_slot y7 0 s4) (fun r17 => rdI (gA s4 59) 288 r17 (fun y18 => rdI (gA s4 54) 48 y18 (fun y19 => inb 48 y18 (stn (sA s4 54 (upZ (gA s4 54) (Int.toNat y18) (y19 + 1))) (fun s21 => inb 8 x2 (stn (sA s21 60 (upZ (gA s21 60) (Int.toNat x2) y18)) (fun s23 => bn (m_x1_release_v2 y7 s23) (fun qr26 => lr2 x2 (x3 + 1) qr26.2)))))))) else m_x1_lowerRoot_J48 s4)))))))
def m_x1_lowerRoot_L2 (n : Nat) : Int → Int → MS → Option MS := lp (fun _ _ _ => none) (m_x1_lowerRoot_b2) n
def m_x1_lowerRoot (p0 : Int) (s : MS) : Option MS :=
  m_x1_lowerRoot_L2 FU p0 0 s
def m_x1_uproot_b55 (lr55 : Int → Int → Int → Int → Int → MS → Option (Int × MS)) (x1 : Int) (x2 : Int) (x3 : Int) (x4 : Int) (x5 : Int) (s6 : MS) : Option (Int × MS) :=
  rg x5 (rg x3 (if x3 ≤ x5 then bn (m_x1_prune x1 x2 x3 s6) (fun s11 => bn (m_x1_lowerRoot x1 s11) (fun s13 => some (1, s13))) else bn (m_x8_entryFor x4 x2 s6) (fun r15 => bn (m_x8_slot x4 r15 s6) (fun r17 => rdI (gA s6 59) 288 r17 (fun y18 => bn (m_x1_owned y18 s6) (fun qr21 => rg qr21.1 (if qr21.1 = (-1) then some (0, qr21.2) else bn (m_x8_set x4 r15 qr21.1 qr21.2) (fun s25 => inb 48 x5 (stn (sA s25 51 (upZ (gA s25 51) (Int.toNat x5) r15)) (fun s27 => lr55 x1 x2 x3 qr21.1 (x5 + 1) s27))))))))))
def m_x1_uproot_L55 (n : Nat) : Int → Int → Int → Int → Int → MS → Option (Int × MS) := lp (fun _ _ _ _ _ _ => none) (m_x1_uproot_b55) n
def m_x1_uproot (p0 : Int) (p1 : Int) (s : MS) : Option (Int × MS) :=
  rdI (gA s 60) 8 p0 (fun y28 => rdI (gA s 56) 48 y28 (fun y29 => rdI (gA s 60) 8 p0 (fun y30 => bn (m_x1_owned y30 s) (fun qr33 => rg qr33.1 (if qr33.1 = (-1) then some (0, qr33.2) else inb 8 p0 (stn (sA qr33.2 60 (upZ (gA qr33.2 60) (Int.toNat p0) qr33.1)) (fun s37 => m_x1_uproot_L55 FU p0 p1 y29 qr33.1 0 s37)))))))
def m_x1_tryUproot_J56 (x1 : Int) (s2 : MS) : Option (Int × MS) :=
  bo x1 (some (x1, s2))
def m_x1_tryUproot (p0 : Int) (p1 : Int) (s : MS) : Option (Int × MS) :=
  rdI (gA s 60) 8 p0 (fun y4 => bn (m_x8_valueAt y4 p1 s) (fun r6 => rg r6 (if r6 = (-1) then some (0, s) else bn (m_x8_become_v3 s) (fun s10 => bn (m_x1_uproot p0 p1 s10) (fun qr13 => rg qr13.1 (if qr13.1 = 0 then bn (m_x8_become_v4 qr13.2) (fun s17 => m_x1_tryUproot_J56 qr13.1 s17) else m_x1_tryUproot_J56 qr13.1 qr13.2))))))
def m_x8_freeNumber_b2 (s : MS) (lr2 : Int → Option Int) (x1 : Int) : Option Int :=
  rg x1 (if 8 ≤ x1 then some (-1) else bn (m_x8_isVolume x1 s) (fun r5 => rg r5 (if r5 = 0 then some x1 else lr2 (x1 + 1))))
def m_x8_freeNumber_L2 (s : MS) (n : Nat) : Int → Option Int := lp (fun _ => none) (m_x8_freeNumber_b2 s) n
def m_x8_freeNumber (s : MS) : Option Int :=
  m_x8_freeNumber_L2 s FU 0
def m_x1_share_J52 (s1 : MS) : Option MS :=
  some s1
def m_x1_share (p0 : Int) (p1 : Int) (s : MS) : Option MS :=
  rdI (gA s 60) 8 p0 (fun y2 => inb 8 p1 (stn (sA s 60 (upZ (gA s 60) (Int.toNat p1) y2)) (fun s4 => rdI (gA s4 60) 8 p0 (fun y5 => rg y5 (if y5 = (-1) then m_x1_share_J52 s4 else rdI (gA s4 60) 8 p0 (fun y8 => rdI (gA s4 54) 48 y8 (fun y9 => inb 48 y8 (stn (sA s4 54 (upZ (gA s4 54) (Int.toNat y8) (y9 + 1))) (fun s11 => m_x1_share_J52 s11)))))))))
def m_x1_letGo_J34 (x1 : Int) (s2 : MS) : Option MS :=
  inb 8 x1 (stn (sA s2 60 (upZ (gA s2 60) (Int.toNat x1) (-2))) (fun s4 => some s4))
def m_x1_letGo (p0 : Int) (s : MS) : Option MS :=
  rdI (gA s 60) 8 p0 (fun y5 => rg y5 (if y5 = (-1) then m_x1_letGo_J34 p0 s else rdI (gA s 60) 8 p0 (fun y8 => bn (m_x1_release_v2 y8 s) (fun qr11 => m_x1_letGo_J34 p0 qr11.2))))
def m_x8_save (s : MS) : Option MS :=
  cpg 0 0 48 48 48 (stn (sA s 55 (va_cpy (gA s 54) (gA s 55) (Int.toNat 0) (Int.toNat 0) (Int.toNat 48))) (fun s2 => cpg 0 0 8 8 8 (stn (sA s2 61 (va_cpy (gA s2 60) (gA s2 61) (Int.toNat 0) (Int.toNat 0) (Int.toNat 8))) (fun s4 => some s4))))
def m_x8_freshBlocks_J26 (s : MS) (lr4 : Int → Int → Option Int) (x3 : Int) (x4 : Int) (x5 : Int) : Option Int :=
  lr4 (x5 + x4) (x3 + 1)
def m_x8_freshBlocks_b4 (s : MS) (lr4 : Int → Int → Option Int) (x1 : Int) (x2 : Int) : Option Int :=
  rg x2 (rg (gI s 1060) (if (gI s 1060) ≤ x2 then some x1 else bn (m_x8_isFresh x2 s) (fun r10 => rg r10 (if r10 = 0 then m_x8_freshBlocks_J26 s lr4 x2 0 x1 else m_x8_freshBlocks_J26 s lr4 x2 1 x1))))
def m_x8_freshBlocks_L4 (s : MS) (n : Nat) : Int → Int → Option Int := lp (fun _ _ => none) (m_x8_freshBlocks_b4 s) n
def m_x8_freshBlocks (s : MS) : Option Int :=
  m_x8_freshBlocks_L4 s FU 0 0
def m_x8_fallBack (s : MS) : Option MS :=
  cpg 0 0 48 48 48 (stn (sA s 54 (va_cpy (gA s 55) (gA s 54) (Int.toNat 0) (Int.toNat 0) (Int.toNat 48))) (fun s2 => cpg 0 0 8 8 8 (stn (sA s2 60 (va_cpy (gA s2 61) (gA s2 60) (Int.toNat 0) (Int.toNat 0) (Int.toNat 8))) (fun s4 => some s4))))
def m_x11_seed (p0 : Int) (s : MS) : Option (Int × MS) :=
  rg p0 (if 0 ≤ p0 then stn (sI s 983 p0) (fun s3 => some (1, s3)) else bn (m_x11_refuse 5 s) (fun qr6 => some (0, qr6.2)))
def m_x3_value_v2_J125 (s1 : MS) : Option (Int × MS) :=
  bn (m_x3_pop s1) (fun qr4 => some (qr4.1, qr4.2))
def m_x3_value_v2_J119 (lr8 : Int → Int → MS → Option (Int × MS)) (x8 : Int) (x9 : Int) (s10 : MS) : Option (Int × MS) :=
  lr8 x8 (x9 + 1) s10
def m_x3_value_v2_b8 (lr8 : Int → Int → MS → Option (Int × MS)) (x5 : Int) (x6 : Int) (s7 : MS) : Option (Int × MS) :=
  rg x6 (if x6 < 0 then m_x3_value_v2_J125 s7 else rg x6 (rg x5 (if x5 ≤ x6 then m_x3_value_v2_J125 s7 else rg x6 (rg (gI s7 941) (if (gI s7 941) ≤ x6 then m_x3_value_v2_J125 s7 else rdI (gA s7 48) 1600 x6 (fun y19 => rg y19 (if y19 < 0 then rg y19 (if (-100) < y19 then rg y19 (if (-12) < y19 then bn (m_x3_pop s7) (fun qr28 => bn (m_x3_pop qr28.2) (fun qr31 => bn (m_x3_joined y19 qr31.1 qr28.1 qr31.2) (fun r33 => bn (m_x3_push r33 qr31.2) (fun s35 => m_x3_value_v2_J119 lr8 x5 x6 s35)))) else bn (m_x3_pop s7) (fun qr38 => bn (m_x3_changed y19 qr38.1 qr38.2) (fun r40 => bn (m_x3_push r40 qr38.2) (fun s42 => m_x3_value_v2_J119 lr8 x5 x6 s42)))) else bn (m_x3_fact ((-100) - y19) s7) (fun r44 => bn (m_x3_push r44 s7) (fun s46 => m_x3_value_v2_J119 lr8 x5 x6 s46))) else bn (m_x3_push y19 s7) (fun s48 => m_x3_value_v2_J119 lr8 x5 x6 s48))))))))
def m_x3_value_v2_L8 (n : Nat) : Int → Int → MS → Option (Int × MS) := lp (fun _ _ _ => none) (m_x3_value_v2_b8) n
def m_x3_value_v2 (p1 : Int) (p2 : Int) (s : MS) : Option (Int × MS) :=
  stn (sI s 1601 0) (fun s49 => m_x3_value_v2_L8 FU p2 p1 s49)
def m_x1_valueFor_J74 (x1 : Int) (x2 : Int) (s3 : MS) : Option (Int × MS) :=
  stn (sI s3 1607 x2) (fun s4 => rdI (gA s4 55) 48 x1 (fun y5 => stn (sI s4 1608 y5) (fun s6 => bn (m_x3_value_v2 0 (gI s6 941) s6) (fun qr9 => some (qr9.1, qr9.2)))))
def m_x1_valueFor (p0 : Int) (s : MS) : Option (Int × MS) :=
  stn (sI s 1602 p0) (fun s10 => bn (m_x8_levelOf p0 s10) (fun r12 => stn (sI s10 1604 r12) (fun s13 => bn (m_x8_sizeOf p0 s13) (fun r15 => stn (sI s13 1605 r15) (fun s16 => rdI (gA s16 54) 48 p0 (fun y17 => stn (sI s16 1606 y17) (fun s18 => bn (m_x8_isFresh p0 s18) (fun r20 => rg r20 (if r20 = 0 then m_x1_valueFor_J74 p0 0 s18 else m_x1_valueFor_J74 p0 1 s18)))))))))
def m_x11_answerTest_J76 (z1 : Int) (s2 : MS) : Option (Int × MS) :=
  some (z1, s2)
def m_x11_answerTest_J57 (lr7 : Int → Int → Int → Int → MS → Option (Int × MS)) (x8 : Int) (x9 : Int) (x10 : Int) (x11 : Int) (s12 : MS) : Option (Int × MS) :=
  lr7 x8 x9 x10 (x11 + 1) s12
def m_x11_answerTest_b7 (lr7 : Int → Int → Int → Int → MS → Option (Int × MS)) (x3 : Int) (x4 : Int) (x5 : Int) (x6 : Int) (s7 : MS) : Option (Int × MS) :=
  rg x6 (rg (gI s7 1060) (if (gI s7 1060) ≤ x6 then rg x3 (if x3 = 29 then rg x4 (m_x11_answerTest_J76 x4 s7) else rg x5 (m_x11_answerTest_J76 x5 s7)) else bn (m_x1_valueFor x6 s7) (fun qr22 => rg qr22.1 (if qr22.1 = 0 then m_x11_answerTest_J57 lr7 x3 x4 x5 x6 qr22.2 else rg x3 (if x3 = 27 then rg x6 (some (x6, qr22.2)) else m_x11_answerTest_J57 lr7 x3 (x4 + 1) x6 x6 qr22.2)))))
def m_x11_answerTest_L7 (n : Nat) : Int → Int → Int → Int → MS → Option (Int × MS) := lp (fun _ _ _ _ _ => none) (m_x11_answerTest_b7) n
def m_x11_answerTest (p0 : Int) (s : MS) : Option (Int × MS) :=
  m_x11_answerTest_L7 FU p0 0 (-1) 0 s
def m_x6_begin (s : MS) : Option MS :=
  stn (sI s 9999 2) (fun s1 => stn (sI s1 100 0) (fun s2 => stn (sI s2 101 (-1)) (fun s3 => stn (sI s3 106 0) (fun s4 => stn (sI s4 109 0) (fun s5 => bn (m_x6_advance s5) (fun s7 => some s7))))))
def m_x6_readQuestion_J121 (x1 : Int) (s2 : MS) : Option (Int × MS) :=
  some (x1, s2)
def m_x6_readQuestion_J104 (x3 : Int) (s4 : MS) : Option (Int × MS) :=
  rg (gI s4 107) (if (gI s4 107) = 0 then m_x6_readQuestion_J121 x3 s4 else bn (m_x6_fail 1 (gI s4 108) s4) (fun qr9 => m_x6_readQuestion_J121 x3 qr9.2))
def m_x6_readQuestion_J83 (x10 : Int) (s11 : MS) : Option (Int × MS) :=
  bn (m_x6_advance s11) (fun s13 => bn (m_x6_readSumC s13) (fun s15 => m_x6_readQuestion_J104 x10 s15))
def m_x6_readQuestion_J72 (x16 : Int) (s17 : MS) : Option (Int × MS) :=
  bn (m_x6_advance s17) (fun s19 => bn (m_x6_readTestC s19) (fun s21 => m_x6_readQuestion_J104 x16 s21))
def m_x6_readQuestion_J31 (x22 : Int) (s23 : MS) : Option (Int × MS) :=
  rg x22 (if x22 = 27 then m_x6_readQuestion_J72 x22 s23 else if x22 = 28 then m_x6_readQuestion_J72 x22 s23 else if x22 = 29 then m_x6_readQuestion_J72 x22 s23 else if x22 = 30 then m_x6_readQuestion_J83 x22 s23 else if x22 = 31 then m_x6_readQuestion_J83 x22 s23 else if x22 = 32 then m_x6_readQuestion_J83 x22 s23 else bn (m_x6_fail 1 (gI s23 108) s23) (fun qr33 => m_x6_readQuestion_J104 x22 qr33.2))
def m_x6_readQuestion (s : MS) : Option (Int × MS) :=
  stn (sI s 941 0) (fun s34 => bn (m_x6_begin s34) (fun s36 => stn (sI s36 105 3) (fun s37 => rg (gI s37 107) (if (gI s37 107) = 1 then m_x6_readQuestion_J31 (gI s37 110) s37 else m_x6_readQuestion_J31 (-1) s37))))
def m_x11_answerSum_J101 (z1 : Int) (s2 : MS) : Option (Int × MS) :=
  some (z1, s2)
def m_x11_answerSum_b15 (lr15 : Int → Int → Int → Int → Int → MS → Option (Int × MS)) (x3 : Int) (z4 : Int) (x5 : Int) (x6 : Int) (x7 : Int) (s8 : MS) : Option (Int × MS) :=
  rg x7 (rg (gI s8 1060) (if (gI s8 1060) ≤ x7 then rg x3 (if x3 = 30 then some (z4, s8) else rg x3 (if x3 = 31 then rg x5 (m_x11_answerSum_J101 x5 s8) else rg x6 (m_x11_answerSum_J101 x6 s8))) else bn (m_x1_valueFor x7 s8) (fun qr20 => rg qr20.1 (rg x5 (rg qr20.1 (rg x6 (rg qr20.1 (lr15 x3 (z4 + qr20.1) (maxZ x5 qr20.1) (minZ x6 qr20.1) (x7 + 1) qr20.2))))))))
def m_x11_answerSum_L15 (n : Nat) : Int → Int → Int → Int → Int → MS → Option (Int × MS) := lp (fun _ _ _ _ _ _ => none) (m_x11_answerSum_b15) n
def m_x11_answerSum (p0 : Int) (s : MS) : Option (Int × MS) :=
  m_x11_answerSum_L15 FU p0 0 (-1000000) 1000000 0 s
def m_x11_ask_J84 (x1 : Int) (s2 : MS) : Option (Int × MS) :=
  bn (m_x11_answerTest x1 s2) (fun qrl5 => some (qrl5.1, qrl5.2))
def m_x11_ask (s : MS) : Option (Int × MS) :=
  rg (gI s 12) (if (gI s 12) = 0 then stn (sI s 61 0) (fun s21 => some ((-1000000000000000), s21)) else bn (m_x6_readQuestion s) (fun qr10 => stn (sI qr10.2 61 0) (fun s11 => rg (gI s11 100) (if (gI s11 100) = 0 then rg qr10.1 (if qr10.1 = 27 then m_x11_ask_J84 qr10.1 s11 else if qr10.1 = 28 then m_x11_ask_J84 qr10.1 s11 else if qr10.1 = 29 then m_x11_ask_J84 qr10.1 s11 else bn (m_x11_answerSum qr10.1 s11) (fun qrl20 => some (qrl20.1, qrl20.2))) else some ((-1000000000000000), s11)))))
def m_x4_seal_J35 (s : MS) (x1 : Int) : Option Int :=
  some x1
def m_x4_seal_b6 (s : MS) (lr6 : Int → Int → Int → Option Int) (x2 : Int) (x3 : Int) (x4 : Int) : Option Int :=
  rg x4 (rg x2 (if x2 ≤ x4 then m_x4_seal_J35 s x3 else rg x4 (if 1364 ≤ x4 then m_x4_seal_J35 s x3 else rdI (gA s 17) 1364 x4 (fun y10 => dv ((3 * x3) + y10) 251 (lr6 x2 (Int.tmod ((3 * x3) + y10) 251) (x4 + 1))))))
def m_x4_seal_L6 (s : MS) (n : Nat) : Int → Int → Int → Option Int := lp (fun _ _ _ => none) (m_x4_seal_b6 s) n
def m_x4_seal (p1 : Int) (s : MS) : Option Int :=
  m_x4_seal_L6 s FU p1 157 0
def m_x4_add_J36 (s1 : MS) : Option MS :=
  some s1
def m_x4_add (p0 : Int) (s : MS) : Option MS :=
  rg (gI s 321) (if 1364 ≤ (gI s 321) then m_x4_add_J36 s else inb 1364 (gI s 321) (stn (sA s 17 (upZ (gA s 17) (Int.toNat (gI s 321)) (andZ p0 255))) (fun s5 => stn (sI s5 321 ((gI s5 321) + 1)) (fun s6 => m_x4_add_J36 s6))))
def m_x4_addPair (p0 : Int) (s : MS) : Option MS :=
  bn (m_x4_add (ushrZ p0 8) s) (fun s2 => bn (m_x4_add p0 s2) (fun s4 => some s4))
def m_x4_drawBlock_b22 (lr22 : Int → Int → MS → Option MS) (x1 : Int) (x2 : Int) (s3 : MS) : Option MS :=
  rdI (gA s3 57) 48 x1 (fun y4 => rg x2 (rg y4 (if y4 ≤ x2 then some s3 else bn (m_x8_slot x1 x2 s3) (fun r9 => rdI (gA s3 58) 288 r9 (fun y10 => bn (m_x4_addPair y10 s3) (fun s12 => bn (m_x8_slot x1 x2 s12) (fun r14 => rdI (gA s12 59) 288 r14 (fun y15 => bn (m_x4_addPair y15 s12) (fun s17 => lr22 x1 (x2 + 1) s17)))))))))
def m_x4_drawBlock_L22 (n : Nat) : Int → Int → MS → Option MS := lp (fun _ _ _ => none) (m_x4_drawBlock_b22) n
def m_x4_drawBlock (p1 : Int) (s : MS) : Option MS :=
  rdI (gA s 56) 48 p1 (fun y18 => bn (m_x4_add y18 s) (fun s20 => rdI (gA s20 57) 48 p1 (fun y21 => bn (m_x4_add y21 s20) (fun s23 => m_x4_drawBlock_L22 FU p1 0 s23))))
def m_x4_rootByte_J22 (s : MS) (x1 : Int) : Option Int :=
  some x1
def m_x4_rootByte (p0 : Int) (s : MS) : Option Int :=
  rg p0 (if p0 = (-2) then some 255 else rg p0 (if p0 = (-1) then m_x4_rootByte_J22 s 254 else m_x4_rootByte_J22 s p0))
def m_x4_draw_J111 (lr69 : Int → MS → Option (Int × MS)) (x3 : Int) (s4 : MS) : Option (Int × MS) :=
  lr69 (x3 + 1) s4
def m_x4_draw_b69 (lr69 : Int → MS → Option (Int × MS)) (x1 : Int) (s2 : MS) : Option (Int × MS) :=
  rg x1 (rg (gI s2 1060) (if (gI s2 1060) ≤ x1 then bn (m_x4_seal (gI s2 321) s2) (fun r9 => bn (m_x4_add r9 s2) (fun s11 => some (gI s11 321, s11))) else rdI (gA s2 54) 48 x1 (fun y12 => bn (m_x4_add y12 s2) (fun s14 => rdI (gA s14 55) 48 x1 (fun y15 => bn (m_x4_add y15 s14) (fun s17 => bn (m_x8_isFree x1 s17) (fun r19 => rg r19 (if r19 = 0 then bn (m_x4_drawBlock x1 s17) (fun s23 => m_x4_draw_J111 lr69 x1 s23) else m_x4_draw_J111 lr69 x1 s17))))))))
def m_x4_draw_L69 (n : Nat) : Int → MS → Option (Int × MS) := lp (fun _ _ => none) (m_x4_draw_b69) n
def m_x4_draw_b29 (lr29 : Int → MS → Option (Int × MS)) (x24 : Int) (s25 : MS) : Option (Int × MS) :=
  rg x24 (if 8 ≤ x24 then m_x4_draw_L69 FU 0 s25 else rdI (gA s25 60) 8 x24 (fun y28 => bn (m_x4_rootByte y28 s25) (fun r30 => bn (m_x4_add r30 s25) (fun s32 => rdI (gA s32 61) 8 x24 (fun y33 => bn (m_x4_rootByte y33 s32) (fun r35 => bn (m_x4_add r35 s32) (fun s37 => lr29 (x24 + 1) s37)))))))
def m_x4_draw_L29 (n : Nat) : Int → MS → Option (Int × MS) := lp (fun _ _ => none) (m_x4_draw_b29) n
def m_x4_draw (s : MS) : Option (Int × MS) :=
  stn (sI s 321 0) (fun s38 => bn (m_x4_add (ushrZ (gI s38 1061) 16) s38) (fun s40 => bn (m_x4_addPair (andZ (gI s40 1061) 65535) s40) (fun s42 => m_x4_draw_L29 FU 0 s42)))
def m_x11_image (s : MS) : Option (Int × MS) :=
  bn (m_x4_draw s) (fun qr3 => some (qr3.1, qr3.2))
def m_x11_octet_J28 (s : MS) (x1 : Int) : Option Int :=
  some x1
def m_x11_octet_J27 (s : MS) (_u : Unit) : Option Int :=
  m_x11_octet_J28 s (-1)
def m_x11_octet (p0 : Int) (s : MS) : Option Int :=
  rg p0 (if p0 < 0 then m_x11_octet_J27 s () else rg p0 (rg (gI s 321) (if (gI s 321) ≤ p0 then m_x11_octet_J27 s () else rdI (gA s 17) 1364 p0 (fun y7 => m_x11_octet_J28 s y7))))
def m_x2_clear (s : MS) : Option MS :=
  stn (sI s 143 0) (fun s1 => stn (sI s1 145 0) (fun s2 => some s2))
def m_x8_isBlock_v2_J17 (s : MS) (x1 : Int) : Option Int :=
  bo x1 (some x1)
def m_x8_isBlock_v2_J16 (s : MS) (_u : Unit) : Option Int :=
  m_x8_isBlock_v2_J17 s 0
def m_x8_isBlock_v2 (p0 : Int) (s : MS) : Option Int :=
  rg p0 (if p0 < 0 then m_x8_isBlock_v2_J16 s () else rg p0 (rg (gI s 1420) (if (gI s 1420) ≤ p0 then m_x8_isBlock_v2_J16 s () else m_x8_isBlock_v2_J17 s 1)))
def m_x8_isFree_v2_J31 (s : MS) (x1 : Int) : Option Int :=
  bo x1 (some x1)
def m_x8_isFree_v2_J30 (s : MS) (_u : Unit) : Option Int :=
  m_x8_isFree_v2_J31 s 0
def m_x8_isFree_v2 (p0 : Int) (s : MS) : Option Int :=
  bn (m_x8_isBlock_v2 p0 s) (fun r4 => rg r4 (if r4 = 0 then m_x8_isFree_v2_J30 s () else rdI (gA s 72) 48 p0 (fun y7 => rg y7 (if y7 = 0 then rdI (gA s 73) 48 p0 (fun y10 => rg y10 (if y10 = 0 then m_x8_isFree_v2_J31 s 1 else m_x8_isFree_v2_J30 s ())) else m_x8_isFree_v2_J30 s ()))))
def m_x8_slot_v2 (p0 : Int) (p1 : Int) (s : MS) : Option Int :=
  some ((p0 * 6) + p1)
def m_x4_isSoundChild_J118 (s : MS) (x1 : Int) : Option Int :=
  bo x1 (some x1)
def m_x4_isSoundChild_J113 (s : MS) (_u : Unit) : Option Int :=
  m_x4_isSoundChild_J118 s 1
def m_x4_isSoundChild_J78 (s : MS) (x3 : Int) (x4 : Int) (x5 : Int) : Option Int :=
  rdI (gA s 75) 48 x3 (fun y6 => rg (x4 + 1) (rg y6 (if y6 ≤ (x4 + 1) then m_x4_isSoundChild_J113 s () else rdI (gA s 19) 48 x5 (fun y10 => bn (m_x8_slot_v2 x3 (x4 + 1) s) (fun r12 => rdI (gA s 76) 288 r12 (fun y13 => rg y10 (rg y13 (if y13 ≤ y10 then m_x4_isSoundChild_J118 s 0 else m_x4_isSoundChild_J113 s ()))))))))
def m_x4_isSoundChild_J49 (s : MS) (_u : Unit) : Option Int :=
  some 0
def m_x4_isSoundChild (p1 : Int) (p2 : Int) (s : MS) : Option Int :=
  bn (m_x8_slot_v2 p1 p2 s) (fun r18 => rdI (gA s 77) 288 r18 (fun y19 => bn (m_x8_isBlock_v2 y19 s) (fun r21 => rg r21 (if r21 = 0 then m_x4_isSoundChild_J49 s () else bn (m_x8_isFree_v2 y19 s) (fun r25 => rg r25 (if r25 = 0 then rdI (gA s 74) 48 y19 (fun y28 => rdI (gA s 74) 48 p1 (fun y29 => rg y28 (rg (y29 - 1) (if y28 = (y29 - 1) then rg p2 (if p2 ≤ 0 then m_x4_isSoundChild_J78 s p1 p2 y19 else rdI (gA s 18) 48 y19 (fun y35 => bn (m_x8_slot_v2 p1 p2 s) (fun r37 => rdI (gA s 76) 288 r37 (fun y38 => rg y35 (rg y38 (if y38 ≤ y35 then m_x4_isSoundChild_J78 s p1 p2 y19 else some 0)))))) else m_x4_isSoundChild_J49 s ())))) else m_x4_isSoundChild_J49 s ()))))))
def m_x4_isSoundBlock_b120 (lr120 : Int → Int → Int → MS → Option (Int × MS)) (x1 : Int) (x2 : Int) (x3 : Int) (s4 : MS) : Option (Int × MS) :=
  rg x3 (rg x2 (if x2 < x3 then bn (m_x8_slot_v2 x1 0 s4) (fun r9 => rdI (gA s4 77) 288 r9 (fun y10 => rdI (gA s4 18) 48 y10 (fun y11 => inb 48 x1 (stn (sA s4 18 (upZ (gA s4 18) (Int.toNat x1) y11)) (fun s13 => bn (m_x8_slot_v2 x1 x2 s13) (fun r15 => rdI (gA s13 77) 288 r15 (fun y16 => rdI (gA s13 19) 48 y16 (fun y17 => inb 48 x1 (stn (sA s13 19 (upZ (gA s13 19) (Int.toNat x1) y17)) (fun s19 => some (1, s19))))))))))) else bn (m_x4_isSoundChild x1 x3 s4) (fun r21 => rg r21 (if r21 = 0 then some (0, s4) else lr120 x1 x2 (x3 + 1) s4))))
def m_x4_isSoundBlock_L120 (n : Nat) : Int → Int → Int → MS → Option (Int × MS) := lp (fun _ _ _ _ => none) (m_x4_isSoundBlock_b120) n
def m_x4_isSoundBlock_b29 (lr29 : Int → Int → Int → MS → Option (Int × MS)) (x24 : Int) (x25 : Int) (x26 : Int) (s27 : MS) : Option (Int × MS) :=
  rg x26 (rg x25 (if x25 ≤ x26 then rdI (gA s27 74) 48 x24 (fun y31 => rg y31 (if y31 = 0 then bn (m_x8_slot_v2 x24 0 s27) (fun r35 => rdI (gA s27 76) 288 r35 (fun y36 => inb 48 x24 (stn (sA s27 18 (upZ (gA s27 18) (Int.toNat x24) y36)) (fun s38 => bn (m_x8_slot_v2 x24 x25 s38) (fun r40 => rdI (gA s38 76) 288 r40 (fun y41 => inb 48 x24 (stn (sA s38 19 (upZ (gA s38 19) (Int.toNat x24) y41)) (fun s43 => some (1, s43))))))))) else m_x4_isSoundBlock_L120 FU x24 x25 0 s27)) else bn (m_x8_slot_v2 x24 x26 s27) (fun r45 => rdI (gA s27 76) 288 r45 (fun y46 => bn (m_x8_slot_v2 x24 (x26 + 1) s27) (fun r48 => rdI (gA s27 76) 288 r48 (fun y49 => rg y46 (rg y49 (if y46 < y49 then lr29 x24 x25 (x26 + 1) s27 else some (0, s27)))))))))
def m_x4_isSoundBlock_L29 (n : Nat) : Int → Int → Int → MS → Option (Int × MS) := lp (fun _ _ _ _ => none) (m_x4_isSoundBlock_b29) n
def m_x4_isSoundBlock_J23 (x53 : Int) (x54 : Int) (x55 : Int) (s56 : MS) : Option (Int × MS) :=
  m_x4_isSoundBlock_L29 FU x53 x54 x55 s56
def m_x4_isSoundBlock (p1 : Int) (s : MS) : Option (Int × MS) :=
  rdI (gA s 75) 48 p1 (fun y57 => rdI (gA s 74) 48 p1 (fun y58 => rg y58 (if y58 = 0 then m_x4_isSoundBlock_J23 p1 (y57 - 1) 0 s else m_x4_isSoundBlock_J23 p1 (y57 - 1) 1 s)))
def m_x4_refsAre_b151 (lr151 : Int → MS → Option (Int × MS)) (x1 : Int) (s2 : MS) : Option (Int × MS) :=
  rg x1 (rg (gI s2 1420) (if (gI s2 1420) ≤ x1 then some (1, s2) else rdI (gA s2 20) 48 x1 (fun y6 => rdI (gA s2 72) 48 x1 (fun y7 => rg y6 (rg y7 (if y6 = y7 then lr151 (x1 + 1) s2 else some (0, s2)))))))
def m_x4_refsAre_L151 (n : Nat) : Int → MS → Option (Int × MS) := lp (fun _ _ => none) (m_x4_refsAre_b151) n
def m_x4_refsAre_b107 (lr65 : Int → MS → Option (Int × MS)) (lr107 : Int → Int → Int → MS → Option (Int × MS)) (x13 : Int) (x14 : Int) (x15 : Int) (s16 : MS) : Option (Int × MS) :=
  rg x15 (rg x14 (if x14 ≤ x15 then lr65 (x13 + 1) s16 else bn (m_x8_slot_v2 x13 x15 s16) (fun r21 => rdI (gA s16 77) 288 r21 (fun y22 => rdI (gA s16 20) 48 y22 (fun y23 => inb 48 y22 (stn (sA s16 20 (upZ (gA s16 20) (Int.toNat y22) (y23 + 1))) (fun s25 => lr107 x13 x14 (x15 + 1) s25)))))))
def m_x4_refsAre_L107 (lr65 : Int → MS → Option (Int × MS)) (n : Nat) : Int → Int → Int → MS → Option (Int × MS) := lp (fun _ _ _ _ => none) (m_x4_refsAre_b107 lr65) n
def m_x4_refsAre_J102 (lr65 : Int → MS → Option (Int × MS)) (x26 : Int) (x27 : Int) (s28 : MS) : Option (Int × MS) :=
  m_x4_refsAre_L107 lr65 FU x26 x27 0 s28
def m_x4_refsAre_J101 (lr65 : Int → MS → Option (Int × MS)) (x29 : Int) (s30 : MS) : Option (Int × MS) :=
  m_x4_refsAre_J102 lr65 x29 0 s30
def m_x4_refsAre_b65 (lr65 : Int → MS → Option (Int × MS)) (x11 : Int) (s12 : MS) : Option (Int × MS) :=
  rg x11 (rg (gI s12 1420) (if (gI s12 1420) ≤ x11 then m_x4_refsAre_L151 FU 0 s12 else rdI (gA s12 72) 48 x11 (fun y34 => rg y34 (if y34 ≤ 0 then m_x4_refsAre_J101 lr65 x11 s12 else rdI (gA s12 74) 48 x11 (fun y37 => rg y37 (if y37 ≤ 0 then m_x4_refsAre_J101 lr65 x11 s12 else rdI (gA s12 75) 48 x11 (fun y40 => m_x4_refsAre_J102 lr65 x11 y40 s12)))))))
def m_x4_refsAre_L65 (n : Nat) : Int → MS → Option (Int × MS) := lp (fun _ _ => none) (m_x4_refsAre_b65) n
def m_x4_refsAre_J56 (lr29 : Int → MS → Option (Int × MS)) (x43 : Int) (s44 : MS) : Option (Int × MS) :=
  lr29 (x43 + 1) s44
def m_x4_refsAre_b29 (lr29 : Int → MS → Option (Int × MS)) (x41 : Int) (s42 : MS) : Option (Int × MS) :=
  rg x41 (if 8 ≤ x41 then m_x4_refsAre_L65 FU 0 s42 else rdI (gA s42 78) 8 x41 (fun y47 => rg y47 (if y47 < 0 then m_x4_refsAre_J56 lr29 x41 s42 else rdI (gA s42 78) 8 x41 (fun y50 => rdI (gA s42 20) 48 y50 (fun y51 => inb 48 y50 (stn (sA s42 20 (upZ (gA s42 20) (Int.toNat y50) (y51 + 1))) (fun s53 => m_x4_refsAre_J56 lr29 x41 s53)))))))
def m_x4_refsAre_L29 (n : Nat) : Int → MS → Option (Int × MS) := lp (fun _ _ => none) (m_x4_refsAre_b29) n
def m_x4_refsAre_b3 (lr3 : Int → MS → Option (Int × MS)) (x54 : Int) (s55 : MS) : Option (Int × MS) :=
  rg x54 (rg (gI s55 1420) (if (gI s55 1420) ≤ x54 then m_x4_refsAre_L29 FU 0 s55 else inb 48 x54 (stn (sA s55 20 (upZ (gA s55 20) (Int.toNat x54) 0)) (fun s60 => lr3 (x54 + 1) s60))))
def m_x4_refsAre_L3 (n : Nat) : Int → MS → Option (Int × MS) := lp (fun _ _ => none) (m_x4_refsAre_b3) n
def m_x4_refsAre (s : MS) : Option (Int × MS) :=
  m_x4_refsAre_L3 FU 0 s
def m_x4_refsAre_v2_b151 (lr151 : Int → MS → Option (Int × MS)) (x1 : Int) (s2 : MS) : Option (Int × MS) :=
  rg x1 (rg (gI s2 1420) (if (gI s2 1420) ≤ x1 then some (1, s2) else rdI (gA s2 20) 48 x1 (fun y6 => rdI (gA s2 73) 48 x1 (fun y7 => rg y6 (rg y7 (if y6 = y7 then lr151 (x1 + 1) s2 else some (0, s2)))))))
def m_x4_refsAre_v2_L151 (n : Nat) : Int → MS → Option (Int × MS) := lp (fun _ _ => none) (m_x4_refsAre_v2_b151) n
def m_x4_refsAre_v2_b107 (lr65 : Int → MS → Option (Int × MS)) (lr107 : Int → Int → Int → MS → Option (Int × MS)) (x13 : Int) (x14 : Int) (x15 : Int) (s16 : MS) : Option (Int × MS) :=
  rg x15 (rg x14 (if x14 ≤ x15 then lr65 (x13 + 1) s16 else bn (m_x8_slot_v2 x13 x15 s16) (fun r21 => rdI (gA s16 77) 288 r21 (fun y22 => rdI (gA s16 20) 48 y22 (fun y23 => inb 48 y22 (stn (sA s16 20 (upZ (gA s16 20) (Int.toNat y22) (y23 + 1))) (fun s25 => lr107 x13 x14 (x15 + 1) s25)))))))
def m_x4_refsAre_v2_L107 (lr65 : Int → MS → Option (Int × MS)) (n : Nat) : Int → Int → Int → MS → Option (Int × MS) := lp (fun _ _ _ _ => none) (m_x4_refsAre_v2_b107 lr65) n
def m_x4_refsAre_v2_J102 (lr65 : Int → MS → Option (Int × MS)) (x26 : Int) (x27 : Int) (s28 : MS) : Option (Int × MS) :=
  m_x4_refsAre_v2_L107 lr65 FU x26 x27 0 s28
def m_x4_refsAre_v2_J101 (lr65 : Int → MS → Option (Int × MS)) (x29 : Int) (s30 : MS) : Option (Int × MS) :=
  m_x4_refsAre_v2_J102 lr65 x29 0 s30
def m_x4_refsAre_v2_b65 (lr65 : Int → MS → Option (Int × MS)) (x11 : Int) (s12 : MS) : Option (Int × MS) :=
  rg x11 (rg (gI s12 1420) (if (gI s12 1420) ≤ x11 then m_x4_refsAre_v2_L151 FU 0 s12 else rdI (gA s12 73) 48 x11 (fun y34 => rg y34 (if y34 ≤ 0 then m_x4_refsAre_v2_J101 lr65 x11 s12 else rdI (gA s12 74) 48 x11 (fun y37 => rg y37 (if y37 ≤ 0 then m_x4_refsAre_v2_J101 lr65 x11 s12 else rdI (gA s12 75) 48 x11 (fun y40 => m_x4_refsAre_v2_J102 lr65 x11 y40 s12)))))))
def m_x4_refsAre_v2_L65 (n : Nat) : Int → MS → Option (Int × MS) := lp (fun _ _ => none) (m_x4_refsAre_v2_b65) n
def m_x4_refsAre_v2_J56 (lr29 : Int → MS → Option (Int × MS)) (x43 : Int) (s44 : MS) : Option (Int × MS) :=
  lr29 (x43 + 1) s44
def m_x4_refsAre_v2_b29 (lr29 : Int → MS → Option (Int × MS)) (x41 : Int) (s42 : MS) : Option (Int × MS) :=
  rg x41 (if 8 ≤ x41 then m_x4_refsAre_v2_L65 FU 0 s42 else rdI (gA s42 79) 8 x41 (fun y47 => rg y47 (if y47 < 0 then m_x4_refsAre_v2_J56 lr29 x41 s42 else rdI (gA s42 79) 8 x41 (fun y50 => rdI (gA s42 20) 48 y50 (fun y51 => inb 48 y50 (stn (sA s42 20 (upZ (gA s42 20) (Int.toNat y50) (y51 + 1))) (fun s53 => m_x4_refsAre_v2_J56 lr29 x41 s53)))))))
def m_x4_refsAre_v2_L29 (n : Nat) : Int → MS → Option (Int × MS) := lp (fun _ _ => none) (m_x4_refsAre_v2_b29) n
def m_x4_refsAre_v2_b3 (lr3 : Int → MS → Option (Int × MS)) (x54 : Int) (s55 : MS) : Option (Int × MS) :=
  rg x54 (rg (gI s55 1420) (if (gI s55 1420) ≤ x54 then m_x4_refsAre_v2_L29 FU 0 s55 else inb 48 x54 (stn (sA s55 20 (upZ (gA s55 20) (Int.toNat x54) 0)) (fun s60 => lr3 (x54 + 1) s60))))
def m_x4_refsAre_v2_L3 (n : Nat) : Int → MS → Option (Int × MS) := lp (fun _ _ => none) (m_x4_refsAre_v2_b3) n
def m_x4_refsAre_v2 (s : MS) : Option (Int × MS) :=
  m_x4_refsAre_v2_L3 FU 0 s
def m_x4_isSound_J96 (x1 : Int) (s2 : MS) : Option (Int × MS) :=
  bo x1 (some (x1, s2))
def m_x4_isSound_J95 (s4 : MS) : Option (Int × MS) :=
  m_x4_isSound_J96 0 s4
def m_x4_isSound_J47 (lr2 : Int → MS → Option (Int × MS)) (lr10 : Int → Int → MS → Option (Int × MS)) (x10 : Int) (x11 : Int) (s12 : MS) : Option (Int × MS) :=
  lr10 x10 (x11 + 1) s12
def m_x4_isSound_b10 (lr2 : Int → MS → Option (Int × MS)) (lr10 : Int → Int → MS → Option (Int × MS)) (x7 : Int) (x8 : Int) (s9 : MS) : Option (Int × MS) :=
  rg x8 (rg (gI s9 1420) (if (gI s9 1420) ≤ x8 then lr2 (x7 + 1) s9 else bn (m_x8_isFree_v2 x8 s9) (fun r17 => rg r17 (if r17 = 0 then rdI (gA s9 74) 48 x8 (fun y20 => rg y20 (rg x7 (if y20 = x7 then bn (m_x4_isSoundBlock x8 s9) (fun qr26 => rg qr26.1 (if qr26.1 = 0 then some (0, qr26.2) else m_x4_isSound_J47 lr2 lr10 x7 x8 qr26.2)) else m_x4_isSound_J47 lr2 lr10 x7 x8 s9))) else m_x4_isSound_J47 lr2 lr10 x7 x8 s9))))
def m_x4_isSound_L10 (lr2 : Int → MS → Option (Int × MS)) (n : Nat) : Int → Int → MS → Option (Int × MS) := lp (fun _ _ _ => none) (m_x4_isSound_b10 lr2) n
def m_x4_isSound_b2 (lr2 : Int → MS → Option (Int × MS)) (x5 : Int) (s6 : MS) : Option (Int × MS) :=
  rg x5 (if 48 ≤ x5 then bn (m_x4_refsAre s6) (fun qr33 => rg qr33.1 (if qr33.1 = 0 then m_x4_isSound_J95 qr33.2 else bn (m_x4_refsAre_v2 qr33.2) (fun qr38 => rg qr38.1 (if qr38.1 = 0 then m_x4_isSound_J95 qr38.2 else m_x4_isSound_J96 1 qr38.2)))) else m_x4_isSound_L10 lr2 FU x5 0 s6)
def m_x4_isSound_L2 (n : Nat) : Int → MS → Option (Int × MS) := lp (fun _ _ => none) (m_x4_isSound_b2) n
def m_x4_isSound (s : MS) : Option (Int × MS) :=
  m_x4_isSound_L2 FU 0 s
def m_x4_next (s : MS) : Option (Int × MS) :=
  bn (m_x9_at (gI s 322) s) (fun r2 => stn (sI s 322 ((gI s 322) + 1)) (fun s3 => some (r2, s3)))
def m_x4_nextPair (s : MS) : Option (Int × MS) :=
  bn (m_x4_next s) (fun qr3 => bn (m_x4_next qr3.2) (fun qr6 => some ((qr3.1 * 256) + qr6.1, qr6.2)))
def m_x4_loadBlock_J202 (lr123 : Int → Int → Int → MS → Option (Int × MS)) (x5 : Int) (x6 : Int) (x7 : Int) (s8 : MS) : Option (Int × MS) :=
  lr123 x5 x7 (x6 + 1) s8
def m_x4_loadBlock_J201 (lr123 : Int → Int → Int → MS → Option (Int × MS)) (x9 : Int) (x10 : Int) (s11 : MS) : Option (Int × MS) :=
  m_x4_loadBlock_J202 lr123 x9 x10 0 s11
def m_x4_loadBlock_b123 (lr123 : Int → Int → Int → MS → Option (Int × MS)) (x1 : Int) (x2 : Int) (x3 : Int) (s4 : MS) : Option (Int × MS) :=
  rdI (gA s4 75) 48 x1 (fun y12 => rg x3 (rg y12 (if y12 ≤ x3 then bo x2 (some (x2, s4)) else bn (m_x4_nextPair s4) (fun qr19 => bn (m_x4_nextPair qr19.2) (fun qr22 => bn (m_x8_slot_v2 x1 x3 qr22.2) (fun r24 => inb 288 r24 (stn (sA qr22.2 76 (upZ (gA qr22.2 76) (Int.toNat r24) qr19.1)) (fun s26 => bn (m_x8_slot_v2 x1 x3 s26) (fun r28 => inb 288 r28 (stn (sA s26 77 (upZ (gA s26 77) (Int.toNat r28) qr22.1)) (fun s30 => rg x2 (if x2 = 0 then m_x4_loadBlock_J201 lr123 x1 x3 s30 else bn (m_x11_isKey qr19.1 s30) (fun r34 => rg r34 (if r34 = 0 then m_x4_loadBlock_J201 lr123 x1 x3 s30 else bn (m_x11_isKey qr22.1 s30) (fun r38 => rg r38 (if r38 = 0 then m_x4_loadBlock_J201 lr123 x1 x3 s30 else m_x4_loadBlock_J202 lr123 x1 x3 1 s30))))))))))))))))
def m_x4_loadBlock_L123 (n : Nat) : Int → Int → Int → MS → Option (Int × MS) := lp (fun _ _ _ _ => none) (m_x4_loadBlock_b123) n
def m_x4_loadBlock_J115 (s41 : MS) : Option (Int × MS) :=
  some (0, s41)
def m_x4_loadBlock_J40 (s42 : MS) : Option (Int × MS) :=
  some (0, s42)
def m_x4_loadBlock (p2 : Int) (p3 : Int) (s : MS) : Option (Int × MS) :=
  bn (m_x4_next s) (fun qr45 => inb 48 p2 (stn (sA qr45.2 72 (upZ (gA qr45.2 72) (Int.toNat p2) qr45.1)) (fun s47 => bn (m_x4_next s47) (fun qr50 => inb 48 p2 (stn (sA qr50.2 73 (upZ (gA qr50.2 73) (Int.toNat p2) qr50.1)) (fun s52 => rdI (gA s52 72) 48 p2 (fun y53 => rg y53 (if y53 < 0 then m_x4_loadBlock_J40 s52 else rdI (gA s52 73) 48 p2 (fun y56 => rg y56 (if 0 ≤ y56 then bn (m_x8_isFree_v2 p2 s52) (fun r60 => rg r60 (if r60 = 0 then bn (m_x4_next s52) (fun qr65 => inb 48 p2 (stn (sA qr65.2 74 (upZ (gA qr65.2 74) (Int.toNat p2) qr65.1)) (fun s67 => bn (m_x4_next s67) (fun qr70 => inb 48 p2 (stn (sA qr70.2 75 (upZ (gA qr70.2 75) (Int.toNat p2) qr70.1)) (fun s72 => rdI (gA s72 74) 48 p2 (fun y73 => rg y73 (if y73 < 0 then m_x4_loadBlock_J115 s72 else rdI (gA s72 74) 48 p2 (fun y76 => rg y76 (if 48 ≤ y76 then m_x4_loadBlock_J115 s72 else rdI (gA s72 75) 48 p2 (fun y79 => rg y79 (if y79 < 1 then m_x4_loadBlock_J115 s72 else rdI (gA s72 75) 48 p2 (fun y82 => rg y82 (rg p3 (if y82 ≤ p3 then m_x4_loadBlock_L123 FU p2 1 0 s72 else m_x4_loadBlock_J115 s72))))))))))))))) else some (1, s52))) else m_x4_loadBlock_J40 s52))))))))))
def m_x4_seal_v2_J35 (s : MS) (x1 : Int) : Option Int :=
  some x1
def m_x4_seal_v2_b6 (s : MS) (lr6 : Int → Int → Int → Option Int) (x2 : Int) (x3 : Int) (x4 : Int) : Option Int :=
  rg x4 (rg x2 (if x2 ≤ x4 then m_x4_seal_v2_J35 s x3 else rg x4 (if 1600 ≤ x4 then m_x4_seal_v2_J35 s x3 else rdI (gA s 4) 1600 x4 (fun y10 => dv ((3 * x3) + y10) 251 (lr6 x2 (Int.tmod ((3 * x3) + y10) 251) (x4 + 1))))))
def m_x4_seal_v2_L6 (s : MS) (n : Nat) : Int → Int → Int → Option Int := lp (fun _ _ _ => none) (m_x4_seal_v2_b6 s) n
def m_x4_seal_v2 (p1 : Int) (s : MS) : Option Int :=
  m_x4_seal_v2_L6 s FU p1 157 0
def m_x8_clear_b59 (lr59 : Int → MS → Option MS) (x1 : Int) (s2 : MS) : Option MS :=
  rg x1 (if 8 ≤ x1 then some s2 else inb 8 x1 (stn (sA s2 78 (upZ (gA s2 78) (Int.toNat x1) (-2))) (fun s6 => inb 8 x1 (stn (sA s6 79 (upZ (gA s6 79) (Int.toNat x1) (-2))) (fun s8 => lr59 (x1 + 1) s8)))))
def m_x8_clear_L59 (n : Nat) : Int → MS → Option MS := lp (fun _ _ => none) (m_x8_clear_b59) n
def m_x8_clear_b17 (lr17 : Int → MS → Option MS) (x9 : Int) (s10 : MS) : Option MS :=
  rg x9 (if 48 ≤ x9 then m_x8_clear_L59 FU 0 s10 else inb 48 x9 (stn (sA s10 72 (upZ (gA s10 72) (Int.toNat x9) 0)) (fun s14 => inb 48 x9 (stn (sA s14 73 (upZ (gA s14 73) (Int.toNat x9) 0)) (fun s16 => inb 48 x9 (stn (sA s16 74 (upZ (gA s16 74) (Int.toNat x9) 0)) (fun s18 => inb 48 x9 (stn (sA s18 75 (upZ (gA s18 75) (Int.toNat x9) 0)) (fun s20 => lr17 (x9 + 1) s20)))))))))
def m_x8_clear_L17 (n : Nat) : Int → MS → Option MS := lp (fun _ _ => none) (m_x8_clear_b17) n
def m_x8_clear (p0 : Int) (s : MS) : Option MS :=
  stn (sI s 1420 p0) (fun s21 => stn (sI s21 1421 0) (fun s22 => stn (sL s22 1422 0) (fun s23 => m_x8_clear_L17 FU 0 s23)))
def m_x4_rootOf_J22 (s : MS) (x1 : Int) : Option Int :=
  some x1
def m_x4_rootOf (p0 : Int) (s : MS) : Option Int :=
  rg p0 (if p0 = 255 then some (-2) else rg p0 (if p0 = 254 then m_x4_rootOf_J22 s (-1) else m_x4_rootOf_J22 s p0))
def m_x4_loadHead_J114 (lr39 : Int → Int → MS → Option (Int × MS)) (x4 : Int) (x5 : Int) (s6 : MS) : Option (Int × MS) :=
  lr39 x5 (x4 + 1) s6
def m_x4_loadHead_J113 (lr39 : Int → Int → MS → Option (Int × MS)) (x7 : Int) (s8 : MS) : Option (Int × MS) :=
  m_x4_loadHead_J114 lr39 x7 0 s8
def m_x4_loadHead_b39 (lr39 : Int → Int → MS → Option (Int × MS)) (x1 : Int) (x2 : Int) (s3 : MS) : Option (Int × MS) :=
  rg x2 (if 8 ≤ x2 then bo x1 (some (x1, s3)) else bn (m_x4_next s3) (fun qr14 => bn (m_x4_rootOf qr14.1 qr14.2) (fun r16 => inb 8 x2 (stn (sA qr14.2 78 (upZ (gA qr14.2 78) (Int.toNat x2) r16)) (fun s18 => bn (m_x4_next s18) (fun qr21 => bn (m_x4_rootOf qr21.1 qr21.2) (fun r23 => inb 8 x2 (stn (sA qr21.2 79 (upZ (gA qr21.2 79) (Int.toNat x2) r23)) (fun s25 => rg x1 (if x1 = 0 then m_x4_loadHead_J113 lr39 x2 s25 else rdI (gA s25 78) 8 x2 (fun y28 => rg y28 (rg (gI s25 1420) (if (gI s25 1420) ≤ y28 then m_x4_loadHead_J113 lr39 x2 s25 else rdI (gA s25 79) 8 x2 (fun y32 => rg y32 (rg (gI s25 1420) (if (gI s25 1420) ≤ y32 then m_x4_loadHead_J113 lr39 x2 s25 else m_x4_loadHead_J114 lr39 x2 1 s25))))))))))))))))
def m_x4_loadHead_L39 (n : Nat) : Int → Int → MS → Option (Int × MS) := lp (fun _ _ _ => none) (m_x4_loadHead_b39) n
def m_x4_loadHead_J34 (x36 : Int) (s37 : MS) : Option (Int × MS) :=
  m_x4_loadHead_L39 FU x36 0 s37
def m_x4_loadHead (s : MS) : Option (Int × MS) :=
  bn (m_x4_next s) (fun qr40 => bn (m_x4_nextPair qr40.2) (fun qr43 => stn (sI qr43.2 1421 ((qr40.1 * 65536) + qr43.1)) (fun s44 => rg (gI s44 1421) (if 999999 < (gI s44 1421) then m_x4_loadHead_J34 0 s44 else m_x4_loadHead_J34 1 s44))))
def m_x4_load_J108 (x1 : Int) (s2 : MS) : Option (Int × MS) :=
  bo x1 (some (x1, s2))
def m_x4_load_J107 (s4 : MS) : Option (Int × MS) :=
  m_x4_load_J108 0 s4
def m_x4_load_b59 (lr59 : Int → Int → Int → Int → MS → Option (Int × MS)) (x5 : Int) (x6 : Int) (x7 : Int) (x8 : Int) (s9 : MS) : Option (Int × MS) :=
  rg x8 (rg x5 (if x5 ≤ x8 then rg (gI s9 322) (rg x7 (if (gI s9 322) = x7 then bn (m_x4_isSound s9) (fun qr18 => rg qr18.1 (if qr18.1 = 0 then m_x4_load_J107 qr18.2 else m_x4_load_J108 1 qr18.2)) else m_x4_load_J107 s9)) else bn (m_x4_loadBlock x8 x6 s9) (fun qr23 => rg qr23.1 (if qr23.1 = 0 then some (0, qr23.2) else lr59 x5 x6 x7 (x8 + 1) qr23.2))))
def m_x4_load_L59 (n : Nat) : Int → Int → Int → Int → MS → Option (Int × MS) := lp (fun _ _ _ _ _ => none) (m_x4_load_b59) n
def m_x4_load_J33 (s26 : MS) : Option (Int × MS) :=
  some (0, s26)
def m_x4_load (p2 : Int) (p3 : Int) (s : MS) : Option (Int × MS) :=
  rg ((gI s 61) - 1) (if ((gI s 61) - 1) < 19 then m_x4_load_J33 s else bn (m_x9_at ((gI s 61) - 1) s) (fun r30 => bn (m_x4_seal_v2 ((gI s 61) - 1) s) (fun r32 => rg r30 (rg r32 (if r30 = r32 then bn (m_x8_clear p2 s) (fun s37 => stn (sI s37 322 0) (fun s38 => bn (m_x4_loadHead s38) (fun qr41 => rg qr41.1 (if qr41.1 = 0 then some (0, qr41.2) else m_x4_load_L59 FU p2 p3 ((gI s 61) - 1) 0 qr41.2)))) else m_x4_load_J33 s)))))
def m_x11_on_J47 (x1 : Int) (s2 : MS) : Option (Int × MS) :=
  stn (sI s2 61 0) (fun s3 => rg x1 (if x1 = 0 then bn (m_x11_refuse 5 s3) (fun qr12 => some (0, qr12.2)) else bn (m_x8_become_v4 s3) (fun s7 => bn (m_x2_clear s7) (fun s9 => some (1, s9)))))
def m_x11_on_J46 (s13 : MS) : Option (Int × MS) :=
  m_x11_on_J47 0 s13
def m_x11_on (s : MS) : Option (Int × MS) :=
  rg (gI s 12) (if (gI s 12) = 0 then m_x11_on_J46 s else bn (m_x4_load (gI s 580) (gI s 581) s) (fun qr18 => rg qr18.1 (if qr18.1 = 0 then m_x11_on_J46 qr18.2 else m_x11_on_J47 1 qr18.2)))
def m_x11_status_J20 (s : MS) (x1 : Int) : Option Int :=
  some x1
def m_x11_status_J19 (s : MS) (_u : Unit) : Option Int :=
  m_x11_status_J20 s (-1)
def m_x11_status (p0 : Int) (s : MS) : Option Int :=
  rg p0 (if p0 < 0 then m_x11_status_J19 s () else rg p0 (if 6 ≤ p0 then m_x11_status_J19 s () else rdI (gA s 2) 6 p0 (fun y6 => m_x11_status_J20 s y6)))
def m_x5_addChange_J60 (s1 : MS) : Option MS :=
  some s1
def m_x5_addChange (p0 : Int) (p1 : Int) (p2 : Int) (p3 : Int) (s : MS) : Option MS :=
  rg (gI s 785) (if 60 ≤ (gI s 785) then m_x5_addChange_J60 s else inb 60 (gI s 785) (stn (sA s 41 (upZ (gA s 41) (Int.toNat (gI s 785)) p0)) (fun s5 => inb 60 (gI s5 785) (stn (sA s5 42 (upZ (gA s5 42) (Int.toNat (gI s5 785)) p1)) (fun s7 => inb 60 (gI s7 785) (stn (sA s7 43 (upZ (gA s7 43) (Int.toNat (gI s7 785)) p2)) (fun s9 => inb 60 (gI s9 785) (stn (sA s9 44 (upZ (gA s9 44) (Int.toNat (gI s9 785)) p3)) (fun s11 => stn (sI s11 785 ((gI s11 785) + 1)) (fun s12 => m_x5_addChange_J60 s12))))))))))
def m_x6_isName_J69 (x1 : Int) (s2 : MS) : Option (Int × MS) :=
  bo x1 (some (x1, s2))
def m_x6_isName_J64 (s4 : MS) : Option (Int × MS) :=
  m_x6_isName_J69 1 s4
def m_x6_isName_J35 (s5 : MS) : Option (Int × MS) :=
  rg ((gI s5 109) - (gI s5 108)) (if ((gI s5 109) - (gI s5 108)) ≤ 6 then m_x6_isName_J64 s5 else bn (m_x6_fail 1 ((gI s5 108) + 6) s5) (fun qr10 => rg qr10.1 (if qr10.1 = 0 then m_x6_isName_J69 0 qr10.2 else m_x6_isName_J64 qr10.2)))
def m_x6_isName_J25 (s13 : MS) : Option (Int × MS) :=
  bn (m_x6_fail 1 (gI s13 108) s13) (fun qr16 => bo qr16.1 (some (qr16.1, qr16.2)))
def m_x6_isName (s : MS) : Option (Int × MS) :=
  rg (gI s 107) (if (gI s 107) = 1 then rg (gI s 110) (if (gI s 110) = (-1) then m_x6_isName_J35 s else rg (gI s 110) (if 27 ≤ (gI s 110) then m_x6_isName_J35 s else m_x6_isName_J25 s)) else m_x6_isName_J25 s)
def m_x5_letterAt_J19 (s : MS) (x1 : Int) : Option Int :=
  some x1
def m_x5_letterAt (p1 : Int) (p2 : Int) (s : MS) : Option Int :=
  rg p1 (rg p2 (if p2 ≤ p1 then m_x5_letterAt_J19 s 0 else bn (m_x9_at p1 s) (fun r6 => m_x5_letterAt_J19 s ((r6 - 97) + 1))))
def m_x5_volumeNamed_J60 (s : MS) (lr3 : Int → Int → Int → Option Int) (lr18 : Int → Int → Int → Int → Int → Option Int) (x9 : Int) (x10 : Int) (x11 : Int) (x12 : Int) (x13 : Int) : Option Int :=
  lr18 x9 x10 x11 x13 (x12 + 1)
def m_x5_volumeNamed_J59 (s : MS) (lr3 : Int → Int → Int → Option Int) (lr18 : Int → Int → Int → Int → Int → Option Int) (x14 : Int) (x15 : Int) (x16 : Int) (x17 : Int) : Option Int :=
  m_x5_volumeNamed_J60 s lr3 lr18 x14 x15 x16 x17 0
def m_x5_volumeNamed_b18 (s : MS) (lr3 : Int → Int → Int → Option Int) (lr18 : Int → Int → Int → Int → Int → Option Int) (x4 : Int) (x5 : Int) (x6 : Int) (x7 : Int) (x8 : Int) : Option Int :=
  rg x8 (if 6 ≤ x8 then rg x7 (if x7 = 0 then lr3 x4 x5 (x6 + 1) else some x6) else rg x7 (if x7 = 0 then m_x5_volumeNamed_J59 s lr3 lr18 x4 x5 x6 x8 else rdI (gA s 40) 48 ((x6 * 6) + x8) (fun y24 => bn (m_x5_letterAt (x4 + x8) x5 s) (fun r26 => rg y24 (rg r26 (if y24 = r26 then m_x5_volumeNamed_J60 s lr3 lr18 x4 x5 x6 x8 1 else m_x5_volumeNamed_J59 s lr3 lr18 x4 x5 x6 x8))))))
def m_x5_volumeNamed_L18 (s : MS) (lr3 : Int → Int → Int → Option Int) (n : Nat) : Int → Int → Int → Int → Int → Option Int := lp (fun _ _ _ _ _ => none) (m_x5_volumeNamed_b18 s lr3) n
def m_x5_volumeNamed_b3 (s : MS) (lr3 : Int → Int → Int → Option Int) (x1 : Int) (x2 : Int) (x3 : Int) : Option Int :=
  rg x3 (rg (gI s 784) (if (gI s 784) ≤ x3 then some (-1) else m_x5_volumeNamed_L18 s lr3 FU x1 x2 x3 1 0))
def m_x5_volumeNamed_L3 (s : MS) (n : Nat) : Int → Int → Int → Option Int := lp (fun _ _ _ => none) (m_x5_volumeNamed_b3 s) n
def m_x5_volumeNamed (p1 : Int) (p2 : Int) (s : MS) : Option Int :=
  m_x5_volumeNamed_L3 s FU p1 p2 0
def m_x6_expectVolume_J41 (x1 : Int) (s2 : MS) : Option (Int × MS) :=
  bn (m_x6_advance s2) (fun s4 => some (x1, s4))
def m_x6_expectVolume (s : MS) : Option (Int × MS) :=
  bn (m_x6_isName s) (fun qr7 => rg qr7.1 (if qr7.1 = 0 then some ((-1), qr7.2) else bn (m_x5_volumeNamed (gI qr7.2 108) (gI qr7.2 109) qr7.2) (fun r11 => rg r11 (if r11 = (-1) then bn (m_x6_fail 3 (gI qr7.2 108) qr7.2) (fun qr16 => m_x6_expectVolume_J41 r11 qr16.2) else m_x6_expectVolume_J41 r11 qr7.2))))
def m_x6_readChange_J37 (x1 : Int) (x2 : Int) (x3 : Int) (x4 : Int) (s5 : MS) : Option MS :=
  bn (m_x5_addChange x1 x2 x3 x4 s5) (fun s7 => some s7)
def m_x6_readChange (p1 : Int) (s : MS) : Option MS :=
  bn (m_x6_advance s) (fun s9 => bn (m_x6_expectVolume s9) (fun qr12 => bn (m_x6_expectNumber 0 999 qr12.2) (fun qr15 => rg p1 (if p1 = 5 then bn (m_x6_expectNumber 0 999 qr15.2) (fun qr20 => m_x6_readChange_J37 p1 qr12.1 qr15.1 qr20.1 qr20.2) else m_x6_readChange_J37 p1 qr12.1 qr15.1 0 qr15.2))))
def m_x5_addVolume_b14 (lr14 : Int → Int → Int → MS → Option (Int × MS)) (x1 : Int) (x2 : Int) (x3 : Int) (s4 : MS) : Option (Int × MS) :=
  rg x3 (if 6 ≤ x3 then stn (sI s4 784 ((gI s4 784) + 1)) (fun s7 => some ((gI s7 784) - 1, s7)) else bn (m_x5_letterAt (x1 + x3) x2 s4) (fun r9 => inb 48 (((gI s4 784) * 6) + x3) (stn (sA s4 40 (upZ (gA s4 40) (Int.toNat (((gI s4 784) * 6) + x3)) r9)) (fun s11 => lr14 x1 x2 (x3 + 1) s11))))
def m_x5_addVolume_L14 (n : Nat) : Int → Int → Int → MS → Option (Int × MS) := lp (fun _ _ _ _ => none) (m_x5_addVolume_b14) n
def m_x5_addVolume (p1 : Int) (p2 : Int) (s : MS) : Option (Int × MS) :=
  rg (gI s 784) (if (gI s 784) < 8 then m_x5_addVolume_L14 FU p1 p2 0 s else some ((-1), s))
def m_x6_expectWord_J25 (s1 : MS) : Option MS :=
  some s1
def m_x6_expectWord (p0 : Int) (s : MS) : Option MS :=
  bn (m_x6_isWord p0 s) (fun r3 => rg r3 (if r3 = 0 then bn (m_x6_fail 1 (gI s 108) s) (fun qr8 => m_x6_expectWord_J25 qr8.2) else bn (m_x6_advance s) (fun s10 => m_x6_expectWord_J25 s10)))
def m_x6_readVolume_J96 (x1 : Int) (x2 : Int) (x3 : Int) (x4 : Int) (s5 : MS) : Option MS :=
  bn (m_x5_addVolume x2 x3 s5) (fun qr8 => bn (m_x5_addChange x1 qr8.1 x4 0 qr8.2) (fun s10 => some s10))
def m_x6_readVolume_J61 (x11 : Int) (s12 : MS) : Option MS :=
  bn (m_x6_advance s12) (fun s14 => rg x11 (if x11 = 3 then bn (m_x6_expectWord 4 s14) (fun s18 => bn (m_x6_expectVolume s18) (fun qr21 => m_x6_readVolume_J96 x11 (gI s12 108) (gI s12 109) qr21.1 qr21.2)) else m_x6_readVolume_J96 x11 (gI s12 108) (gI s12 109) (-1) s14))
def m_x6_readVolume_J19 (x22 : Int) (s23 : MS) : Option MS :=
  bn (m_x6_advance s23) (fun s25 => bn (m_x6_isName s25) (fun qr28 => rg qr28.1 (if qr28.1 = 0 then some qr28.2 else bn (m_x5_volumeNamed (gI qr28.2 108) (gI qr28.2 109) qr28.2) (fun r32 => rg r32 (if r32 = (-1) then m_x6_readVolume_J61 x22 qr28.2 else bn (m_x6_fail 3 (gI qr28.2 108) qr28.2) (fun qr37 => m_x6_readVolume_J61 x22 qr37.2))))))
def m_x6_readVolume (p1 : Int) (s : MS) : Option MS :=
  rg (gI s 784) (if (gI s 784) = 8 then bn (m_x6_fail 5 (gI s 108) s) (fun qr42 => m_x6_readVolume_J19 p1 qr42.2) else m_x6_readVolume_J19 p1 s)
def m_x6_readBlocks (s : MS) : Option MS :=
  bn (m_x6_advance s) (fun s2 => bn (m_x6_expectNumber 8 48 s2) (fun qr5 => stn (sI qr5.2 780 qr5.1) (fun s6 => bn (m_x6_expectWord 1 s6) (fun s8 => bn (m_x6_expectNumber 3 6 s8) (fun qr11 => stn (sI qr11.2 781 qr11.1) (fun s12 => some s12))))))
def m_x6_beginFormula_J20 (x1 : Int) (s2 : MS) : Option MS :=
  bn (m_x6_advance s2) (fun s4 => stn (sI s4 105 x1) (fun s5 => eqg (gI s5 9999) 2 (inb 3 x1 (stn (sA s5 45 (upZ (gA s5 45) (Int.toNat x1) (gI s5 941))) (fun s8 => some s8)))))
def m_x6_beginFormula (p1 : Int) (s : MS) : Option MS :=
  rdI (gA s 45) 3 p1 (fun y9 => rg y9 (if y9 = (-1) then m_x6_beginFormula_J20 p1 s else bn (m_x6_fail 5 (gI s 108) s) (fun qr14 => m_x6_beginFormula_J20 p1 qr14.2)))
def m_x6_readStatement_J244 (s1 : MS) : Option MS :=
  bn (m_x6_expectSign 59 s1) (fun s3 => stn (sI s3 783 ((gI s3 783) + 1)) (fun s4 => some s4))
def m_x6_readStatement_J234 (s5 : MS) : Option MS :=
  bn (m_x6_fail 1 (gI s5 108) s5) (fun qr8 => m_x6_readStatement_J244 qr8.2)
def m_x6_readStatement_J129 (x9 : Int) (s10 : MS) : Option MS :=
  bn (m_x6_readChange x9 s10) (fun s12 => m_x6_readStatement_J244 s12)
def m_x6_readStatement_J120 (x13 : Int) (s14 : MS) : Option MS :=
  bn (m_x6_readVolume x13 s14) (fun s16 => m_x6_readStatement_J244 s16)
def m_x6_readStatement_J40 (x17 : Int) (x18 : Int) (x19 : Int) (s20 : MS) : Option MS :=
  rg x19 (rg x18 (if x19 = x18 then rg x17 (if x17 = 0 then bn (m_x6_readBlocks s20) (fun s27 => m_x6_readStatement_J244 s27) else if x17 = 1 then m_x6_readStatement_J234 s20 else if x17 = 2 then m_x6_readStatement_J120 x17 s20 else if x17 = 3 then m_x6_readStatement_J120 x17 s20 else if x17 = 4 then m_x6_readStatement_J234 s20 else if x17 = 5 then m_x6_readStatement_J129 x17 s20 else if x17 = 6 then m_x6_readStatement_J129 x17 s20 else if x17 = 7 then bn (m_x6_beginFormula 0 s20) (fun s36 => bn (m_x6_readSumC s36) (fun s38 => eqg (gI s38 9999) 2 (inb 3 0 (stn (sA s38 46 (upZ (gA s38 46) (Int.toNat 0) (gI s38 941))) (fun s41 => m_x6_readStatement_J244 s41))))) else if x17 = 8 then bn (m_x6_beginFormula 1 s20) (fun s44 => bn (m_x6_readTestC s44) (fun s46 => eqg (gI s46 9999) 2 (inb 3 1 (stn (sA s46 46 (upZ (gA s46 46) (Int.toNat 1) (gI s46 941))) (fun s49 => m_x6_readStatement_J244 s49))))) else if x17 = 9 then bn (m_x6_beginFormula 2 s20) (fun s52 => bn (m_x6_readSumC s52) (fun s54 => eqg (gI s54 9999) 2 (inb 3 2 (stn (sA s54 46 (upZ (gA s54 46) (Int.toNat 2) (gI s54 941))) (fun s57 => m_x6_readStatement_J244 s57))))) else if x17 = 10 then bn (m_x6_advance s20) (fun s60 => bn (m_x6_expectNumber 0 100 s60) (fun qr63 => stn (sI qr63.2 782 qr63.1) (fun s64 => m_x6_readStatement_J244 s64))) else m_x6_readStatement_J234 s20) else bn (m_x6_fail 1 (gI s20 108) s20) (fun qr67 => some qr67.2)))
def m_x6_readStatement_J29 (x68 : Int) (x69 : Int) (s70 : MS) : Option MS :=
  rg x68 (if x68 = 0 then m_x6_readStatement_J40 x68 1 x69 s70 else m_x6_readStatement_J40 x68 0 x69 s70)
def m_x6_readStatement_J16 (x73 : Int) (s74 : MS) : Option MS :=
  rg (gI s74 783) (if (gI s74 783) = 0 then m_x6_readStatement_J29 x73 1 s74 else m_x6_readStatement_J29 x73 0 s74)
def m_x6_readStatement (s : MS) : Option MS :=
  rg (gI s 107) (if (gI s 107) = 1 then m_x6_readStatement_J16 (gI s 110) s else m_x6_readStatement_J16 (-1) s)
def m_x5_clear_b30 (lr30 : Int → MS → Option MS) (x1 : Int) (s2 : MS) : Option MS :=
  rg x1 (if 3 ≤ x1 then some s2 else inb 3 x1 (stn (sA s2 45 (upZ (gA s2 45) (Int.toNat x1) (-1))) (fun s6 => inb 3 x1 (stn (sA s6 46 (upZ (gA s6 46) (Int.toNat x1) (-1))) (fun s8 => lr30 (x1 + 1) s8)))))
def m_x5_clear_L30 (n : Nat) : Int → MS → Option MS := lp (fun _ _ => none) (m_x5_clear_b30) n
def m_x5_clear (s : MS) : Option MS :=
  stn (sI s 783 0) (fun s9 => stn (sI s9 784 0) (fun s10 => stn (sI s10 785 0) (fun s11 => stn (sI s11 782 0) (fun s12 => stn (sI s12 941 0) (fun s13 => m_x5_clear_L30 FU 0 s13)))))
def m_x6_readStore_J87 (x1 : Int) (s2 : MS) : Option (Int × MS) :=
  bo x1 (some (x1, s2))
def m_x6_readStore_J75 (s4 : MS) : Option (Int × MS) :=
  rg (gI s4 100) (if (gI s4 100) = 0 then m_x6_readStore_J87 1 s4 else m_x6_readStore_J87 0 s4)
def m_x6_readStore_J38 (s7 : MS) : Option (Int × MS) :=
  rg (gI s7 107) (if (gI s7 107) = 0 then rg (gI s7 783) (if (gI s7 783) = 0 then bn (m_x6_fail 1 (gI s7 108) s7) (fun qr14 => m_x6_readStore_J75 qr14.2) else m_x6_readStore_J75 s7) else bn (m_x6_fail 5 (gI s7 108) s7) (fun qr17 => m_x6_readStore_J75 qr17.2))
def m_x6_readStore_b14 (lr14 : Int → MS → Option (Int × MS)) (x18 : Int) (s19 : MS) : Option (Int × MS) :=
  rg x18 (if 60 ≤ x18 then m_x6_readStore_J38 s19 else rg (gI s19 107) (if (gI s19 107) = 0 then m_x6_readStore_J38 s19 else bn (m_x6_readStatement s19) (fun s25 => lr14 (x18 + 1) s25)))
def m_x6_readStore_L14 (n : Nat) : Int → MS → Option (Int × MS) := lp (fun _ _ => none) (m_x6_readStore_b14) n
def m_x6_readStore (s : MS) : Option (Int × MS) :=
  bn (m_x5_clear s) (fun s27 => bn (m_x6_begin s27) (fun s29 => m_x6_readStore_L14 FU 0 s29))
def m_x12_isIn_J18 (s : MS) (x1 : Int) : Option Int :=
  bo x1 (some x1)
def m_x12_isIn_J17 (s : MS) (_u : Unit) : Option Int :=
  m_x12_isIn_J18 s 0
def m_x12_isIn (p0 : Int) (p1 : Int) (p2 : Int) (s : MS) : Option Int :=
  rgL p0 (rgL p1 (if p0 < p1 then m_x12_isIn_J17 s () else rgL p0 (rgL p2 (if p2 < p0 then m_x12_isIn_J17 s () else m_x12_isIn_J18 s 1))))
def m_x12_clamp_J25 (s : MS) (x1 : Int) : Option Int :=
  some x1
def m_x12_clamp (p0 : Int) (s : MS) : Option Int :=
  rgL p0 (if 0 ≤ p0 then rgL p0 (if p0 ≤ 99 then m_x12_clamp_J25 s p0 else m_x12_clamp_J25 s 99) else m_x12_clamp_J25 s 0)
def m_x12_feed_J81 (lr28 : Int → Int → Int → Int → Int → Int → MS → Option (Int × MS)) (x8 : Int) (x9 : Int) (x10 : Int) (x11 : Int) (x12 : Int) (x13 : Int) (x14 : Int) (s15 : MS) : Option (Int × MS) :=
  dv x13 4 (inb 1600 (gI s15 1) (stn (sA s15 0 (upZ (gA s15 0) (Int.toNat (gI s15 1)) (andZ (shrZ x14 (8 * (3 - (Int.tmod x13 4)))) 255))) (fun s18 => stn (sI s18 1 ((gI s18 1) + 1)) (fun s19 => lr28 x8 x9 x10 x11 x12 (x13 + 1) s19))))
def m_x12_feed_b28 (lr28 : Int → Int → Int → Int → Int → Int → MS → Option (Int × MS)) (x1 : Int) (x2 : Int) (x3 : Int) (x4 : Int) (x5 : Int) (x6 : Int) (s7 : MS) : Option (Int × MS) :=
  rg x6 (if 20 ≤ x6 then some (gI s7 1, s7) else rg x6 (if 4 ≤ x6 then rg x6 (if 8 ≤ x6 then rg x6 (if 12 ≤ x6 then rg x6 (if 16 ≤ x6 then m_x12_feed_J81 lr28 x1 x2 x3 x4 x5 x6 x5 s7 else m_x12_feed_J81 lr28 x1 x2 x3 x4 x5 x6 x4 s7) else m_x12_feed_J81 lr28 x1 x2 x3 x4 x5 x6 x3 s7) else m_x12_feed_J81 lr28 x1 x2 x3 x4 x5 x6 x2 s7) else m_x12_feed_J81 lr28 x1 x2 x3 x4 x5 x6 x1 s7))
def m_x12_feed_L28 (n : Nat) : Int → Int → Int → Int → Int → Int → MS → Option (Int × MS) := lp (fun _ _ _ _ _ _ _ => none) (m_x12_feed_b28) n
def m_x12_feed (p0 : Int) (p1 : Int) (p2 : Int) (p3 : Int) (p4 : Int) (s : MS) : Option (Int × MS) :=
  rg ((gI s 1) + 20) (if ((gI s 1) + 20) ≤ 1600 then m_x12_feed_L28 FU p0 p1 p2 p3 p4 0 s else rdI (gA s 9) 6 0 (fun y32 => inb 6 0 (stn (sA s 9 (upZ (gA s 9) (Int.toNat 0) (y32 + 1))) (fun s34 => some ((-1), s34)))))
def m_x12_end_J12 (s1 : MS) : Option (Int × MS) :=
  rdI (gA s1 9) 6 0 (fun y2 => inb 6 0 (stn (sA s1 9 (upZ (gA s1 9) (Int.toNat 0) (y2 + 1))) (fun s4 => some (0, s4))))
def m_x12_end (p0 : Int) (s : MS) : Option (Int × MS) :=
  rg p0 (if p0 < 0 then m_x12_end_J12 s else rg p0 (rg (gI s 1) (if p0 ≤ (gI s 1) then stn (sI s 1 p0) (fun s10 => some (1, s10)) else m_x12_end_J12 s)))
def m_x12_fail (p0 : Int) (p1 : Int) (s : MS) : Option MS :=
  rg (gI s 5) (if (gI s 5) = 0 then stn (sI s 5 p0) (fun s3 => stn (sI s3 6 p1) (fun s4 => some s4)) else some s)
def m_x12_isLetter_J17 (s : MS) (x1 : Int) : Option Int :=
  bo x1 (some x1)
def m_x12_isLetter_J16 (s : MS) (_u : Unit) : Option Int :=
  m_x12_isLetter_J17 s 0
def m_x12_isLetter (p0 : Int) (s : MS) : Option Int :=
  rg p0 (if p0 < 97 then m_x12_isLetter_J16 s () else rg p0 (if 122 < p0 then m_x12_isLetter_J16 s () else m_x12_isLetter_J17 s 1))
def m_x12_isDigit_J17 (s : MS) (x1 : Int) : Option Int :=
  bo x1 (some x1)
def m_x12_isDigit_J16 (s : MS) (_u : Unit) : Option Int :=
  m_x12_isDigit_J17 s 0
def m_x12_isDigit (p0 : Int) (s : MS) : Option Int :=
  rg p0 (if p0 < 48 then m_x12_isDigit_J16 s () else rg p0 (if 57 < p0 then m_x12_isDigit_J16 s () else m_x12_isDigit_J17 s 1))
def m_x12_look_J76 (x1 : Int) (s2 : MS) : Option (Int × MS) :=
  some (x1, s2)
def m_x12_look_J52 (s3 : MS) : Option (Int × MS) :=
  rg (gI s3 2) (rg (gI s3 3) (if (gI s3 3) ≤ (gI s3 2) then m_x12_look_J76 (-1) s3 else rdI (gA s3 0) 1600 (gI s3 2) (fun y7 => m_x12_look_J76 y7 s3)))
def m_x12_look_J39 (lr0 : MS → Option (Int × MS)) (s9 : MS) : Option (Int × MS) :=
  stn (sI s9 2 ((gI s9 2) + 1)) (fun s10 => lr0 s10)
def m_x12_look_b0 (lr0 : MS → Option (Int × MS)) (s8 : MS) : Option (Int × MS) :=
  rg (gI s8 2) (rg (gI s8 3) (if (gI s8 3) ≤ (gI s8 2) then m_x12_look_J52 s8 else rdI (gA s8 0) 1600 (gI s8 2) (fun y14 => rg y14 (if y14 = 10 then m_x12_look_J39 lr0 s8 else rdI (gA s8 0) 1600 (gI s8 2) (fun y17 => rg y17 (if y17 = 32 then m_x12_look_J39 lr0 s8 else m_x12_look_J52 s8))))))
def m_x12_look_L0 (n : Nat) : MS → Option (Int × MS) := lp (fun _ => none) (m_x12_look_b0) n
def m_x12_look (s : MS) : Option (Int × MS) :=
  m_x12_look_L0 FU s
def m_x12_isHere_b76 (wid wn : Nat) (lr76 : Int → MS → Option (Int × MS)) (x1 : Int) (s2 : MS) : Option (Int × MS) :=
  rg x1 (rg (wn : Int) (if (wn : Int) ≤ x1 then some (1, s2) else rdI (gA s2 0) 1600 ((gI s2 2) + x1) (fun y6 => rdI (gA s2 wid) wn x1 (fun y7 => rg y6 (rg y7 (if y6 = y7 then lr76 (x1 + 1) s2 else some (0, s2)))))))
def m_x12_isHere_L76 (wid wn : Nat) (n : Nat) : Int → MS → Option (Int × MS) := lp (fun _ _ => none) (m_x12_isHere_b76 wid wn) n
def m_x12_isHere_J61 (wid wn : Nat) (x11 : Int) (s12 : MS) : Option (Int × MS) :=
  rg (x11 - (gI s12 2)) (rg (wn : Int) (if (x11 - (gI s12 2)) = (wn : Int) then m_x12_isHere_L76 wid wn FU 0 s12 else some (0, s12)))
def m_x12_isHere_b35 (wid wn : Nat) (lr35 : Int → MS → Option (Int × MS)) (x16 : Int) (s17 : MS) : Option (Int × MS) :=
  rg x16 (rg (gI s17 3) (if (gI s17 3) ≤ x16 then m_x12_isHere_J61 wid wn x16 s17 else rdI (gA s17 0) 1600 x16 (fun y21 => bn (m_x12_isLetter y21 s17) (fun r23 => rg r23 (if r23 = 0 then m_x12_isHere_J61 wid wn x16 s17 else lr35 (x16 + 1) s17)))))
def m_x12_isHere_L35 (wid wn : Nat) (n : Nat) : Int → MS → Option (Int × MS) := lp (fun _ _ => none) (m_x12_isHere_b35 wid wn) n
def m_x12_isHere_J28 (wid wn : Nat) (s26 : MS) : Option (Int × MS) :=
  some (0, s26)
def m_x12_isHere (wid wn : Nat) (s : MS) : Option (Int × MS) :=
  rg (gI s 5) (if (gI s 5) = 0 then bn (m_x12_look s) (fun qr31 => bn (m_x12_isLetter qr31.1 qr31.2) (fun r33 => rg r33 (if r33 = 0 then m_x12_isHere_J28 wid wn qr31.2 else rg (gI qr31.2 2) (rg (gI qr31.2 4) (if (gI qr31.2 2) = (gI qr31.2 4) then m_x12_isHere_J28 wid wn qr31.2 else m_x12_isHere_L35 wid wn FU (gI qr31.2 2) qr31.2))))) else m_x12_isHere_J28 wid wn s)
def m_x12_takes (wid wn : Nat) (s : MS) : Option (Int × MS) :=
  bn (m_x12_isHere wid wn s) (fun qr3 => rg qr3.1 (if qr3.1 = 0 then some (0, qr3.2) else stn (sI qr3.2 2 ((gI qr3.2 2) + (wn : Int))) (fun s6 => stn (sI s6 4 (gI s6 2)) (fun s7 => some (1, s7)))))
def m_x12_asks_J24 (wid wn : Nat) (s1 : MS) : Option MS :=
  some s1
def m_x12_asks (wid wn : Nat) (s : MS) : Option MS :=
  rg (gI s 5) (if (gI s 5) = 0 then bn (m_x12_takes wid wn s) (fun qr6 => rg qr6.1 (if qr6.1 = 0 then bn (m_x12_fail 1 (gI qr6.2 2) qr6.2) (fun s10 => m_x12_asks_J24 wid wn s10) else m_x12_asks_J24 wid wn qr6.2)) else m_x12_asks_J24 wid wn s)
def m_x12_takesSign_J15 (s1 : MS) : Option (Int × MS) :=
  some (0, s1)
def m_x12_takesSign (p0 : Int) (s : MS) : Option (Int × MS) :=
  rg (gI s 5) (if (gI s 5) = 0 then bn (m_x12_look s) (fun qr6 => rg qr6.1 (rg p0 (if qr6.1 = p0 then stn (sI qr6.2 2 ((gI qr6.2 2) + 1)) (fun s10 => some (1, s10)) else m_x12_takesSign_J15 qr6.2))) else m_x12_takesSign_J15 s)
def m_x12_asksSign_J24 (s1 : MS) : Option MS :=
  some s1
def m_x12_asksSign (p0 : Int) (s : MS) : Option MS :=
  rg (gI s 5) (if (gI s 5) = 0 then bn (m_x12_takesSign p0 s) (fun qr6 => rg qr6.1 (if qr6.1 = 0 then bn (m_x12_fail 1 (gI qr6.2 2) qr6.2) (fun s10 => m_x12_asksSign_J24 s10) else m_x12_asksSign_J24 qr6.2)) else m_x12_asksSign_J24 s)
def m_x12_number_J164 (x1 : Int) (s2 : MS) : Option (Int × MS) :=
  some (x1, s2)
def m_x12_number_J129 (x3 : Int) (x4 : Int) (x5 : Int) (x6 : Int) (s7 : MS) : Option (Int × MS) :=
  stn (sI s7 4 (gI s7 2)) (fun s8 => stn (sI s8 10 x5) (fun s9 => rg x6 (rg x3 (rg x4 (bn (m_x12_isIn x6 x3 x4 s9) (fun r14 => rg r14 (if r14 = 0 then bn (m_x12_fail 2 (gI s9 10) s9) (fun s18 => m_x12_number_J164 x6 s18) else m_x12_number_J164 x6 s9)))))))
def m_x12_number_b49 (lr49 : Int → Int → Int → Int → MS → Option (Int × MS)) (x19 : Int) (x20 : Int) (x21 : Int) (x22 : Int) (s23 : MS) : Option (Int × MS) :=
  rg (gI s23 2) (rg (gI s23 3) (if (gI s23 3) ≤ (gI s23 2) then m_x12_number_J129 x19 x20 x21 x22 s23 else rdI (gA s23 0) 1600 (gI s23 2) (fun y27 => bn (m_x12_isDigit y27 s23) (fun r29 => rg r29 (if r29 = 0 then m_x12_number_J129 x19 x20 x21 x22 s23 else rg ((gI s23 2) - x21) (if ((gI s23 2) - x21) = 4 then bn (m_x12_fail 1 (gI s23 2) s23) (fun s37 => some (0, s37)) else rdI (gA s23 0) 1600 (gI s23 2) (fun y34 => stn (sI s23 2 ((gI s23 2) + 1)) (fun s35 => lr49 x19 x20 x21 (((10 * x22) + y34) - 48) s35))))))))
def m_x12_number_L49 (n : Nat) : Int → Int → Int → Int → MS → Option (Int × MS) := lp (fun _ _ _ _ _ => none) (m_x12_number_b49) n
def m_x12_number_J30 (s38 : MS) : Option (Int × MS) :=
  bn (m_x12_fail 1 (gI s38 2) s38) (fun s40 => some (0, s40))
def m_x12_number (p0 : Int) (p1 : Int) (s : MS) : Option (Int × MS) :=
  rg (gI s 5) (if (gI s 5) = 0 then bn (m_x12_look s) (fun qr45 => bn (m_x12_isDigit qr45.1 qr45.2) (fun r47 => rg r47 (if r47 = 0 then m_x12_number_J30 qr45.2 else rg (gI qr45.2 2) (rg (gI qr45.2 4) (if (gI qr45.2 2) = (gI qr45.2 4) then m_x12_number_J30 qr45.2 else m_x12_number_L49 FU p0 p1 (gI qr45.2 2) 0 qr45.2))))) else some (0, s))
def m_x12_isOwnHere_J342 (x1 : Int) (s2 : MS) : Option (Int × MS) :=
  bo x1 (some (x1, s2))
def m_x12_isOwnHere_J337 (s4 : MS) : Option (Int × MS) :=
  m_x12_isOwnHere_J342 1 s4
def m_x12_isOwnHere_J299 (x5 : Int) (s6 : MS) : Option (Int × MS) :=
  rg x5 (if x5 = 0 then bn (m_x12_isHere 35 3 s6) (fun qr11 => rg qr11.1 (if qr11.1 = 0 then bn (m_x12_isHere 36 3 qr11.2) (fun qr16 => rg qr16.1 (if qr16.1 = 0 then bn (m_x12_isHere 37 3 qr16.2) (fun qr21 => rg qr21.1 (if qr21.1 = 0 then m_x12_isOwnHere_J342 0 qr21.2 else m_x12_isOwnHere_J337 qr21.2)) else m_x12_isOwnHere_J337 qr16.2)) else m_x12_isOwnHere_J337 qr11.2)) else m_x12_isOwnHere_J337 s6)
def m_x12_isOwnHere_J294 (s24 : MS) : Option (Int × MS) :=
  m_x12_isOwnHere_J299 1 s24
def m_x12_isOwnHere_J223 (x25 : Int) (s26 : MS) : Option (Int × MS) :=
  rg x25 (if x25 = 0 then bn (m_x12_isHere 29 5 s26) (fun qr31 => rg qr31.1 (if qr31.1 = 0 then bn (m_x12_isHere 30 4 qr31.2) (fun qr36 => rg qr36.1 (if qr36.1 = 0 then bn (m_x12_isHere 31 3 qr36.2) (fun qr41 => rg qr41.1 (if qr41.1 = 0 then bn (m_x12_isHere 32 2 qr41.2) (fun qr46 => rg qr46.1 (if qr46.1 = 0 then bn (m_x12_isHere 33 3 qr46.2) (fun qr51 => rg qr51.1 (if qr51.1 = 0 then bn (m_x12_isHere 34 3 qr51.2) (fun qr56 => rg qr56.1 (if qr56.1 = 0 then m_x12_isOwnHere_J299 0 qr56.2 else m_x12_isOwnHere_J294 qr56.2)) else m_x12_isOwnHere_J294 qr51.2)) else m_x12_isOwnHere_J294 qr46.2)) else m_x12_isOwnHere_J294 qr41.2)) else m_x12_isOwnHere_J294 qr36.2)) else m_x12_isOwnHere_J294 qr31.2)) else m_x12_isOwnHere_J294 s26)
def m_x12_isOwnHere_J218 (s59 : MS) : Option (Int × MS) :=
  m_x12_isOwnHere_J223 1 s59
def m_x12_isOwnHere_J147 (x60 : Int) (s61 : MS) : Option (Int × MS) :=
  rg x60 (if x60 = 0 then bn (m_x12_isHere 23 4 s61) (fun qr66 => rg qr66.1 (if qr66.1 = 0 then bn (m_x12_isHere 24 5 qr66.2) (fun qr71 => rg qr71.1 (if qr71.1 = 0 then bn (m_x12_isHere 25 7 qr71.2) (fun qr76 => rg qr76.1 (if qr76.1 = 0 then bn (m_x12_isHere 26 6 qr76.2) (fun qr81 => rg qr81.1 (if qr81.1 = 0 then bn (m_x12_isHere 27 5 qr81.2) (fun qr86 => rg qr86.1 (if qr86.1 = 0 then bn (m_x12_isHere 28 5 qr86.2) (fun qr91 => rg qr91.1 (if qr91.1 = 0 then m_x12_isOwnHere_J223 0 qr91.2 else m_x12_isOwnHere_J218 qr91.2)) else m_x12_isOwnHere_J218 qr86.2)) else m_x12_isOwnHere_J218 qr81.2)) else m_x12_isOwnHere_J218 qr76.2)) else m_x12_isOwnHere_J218 qr71.2)) else m_x12_isOwnHere_J218 qr66.2)) else m_x12_isOwnHere_J218 s61)
def m_x12_isOwnHere_J142 (s94 : MS) : Option (Int × MS) :=
  m_x12_isOwnHere_J147 1 s94
def m_x12_isOwnHere_J71 (x95 : Int) (s96 : MS) : Option (Int × MS) :=
  rg x95 (if x95 = 0 then bn (m_x12_isHere 17 6 s96) (fun qr101 => rg qr101.1 (if qr101.1 = 0 then bn (m_x12_isHere 18 5 qr101.2) (fun qr106 => rg qr106.1 (if qr106.1 = 0 then bn (m_x12_isHere 19 6 qr106.2) (fun qr111 => rg qr111.1 (if qr111.1 = 0 then bn (m_x12_isHere 20 5 qr111.2) (fun qr116 => rg qr116.1 (if qr116.1 = 0 then bn (m_x12_isHere 21 5 qr116.2) (fun qr121 => rg qr121.1 (if qr121.1 = 0 then bn (m_x12_isHere 22 5 qr121.2) (fun qr126 => rg qr126.1 (if qr126.1 = 0 then m_x12_isOwnHere_J147 0 qr126.2 else m_x12_isOwnHere_J142 qr126.2)) else m_x12_isOwnHere_J142 qr121.2)) else m_x12_isOwnHere_J142 qr116.2)) else m_x12_isOwnHere_J142 qr111.2)) else m_x12_isOwnHere_J142 qr106.2)) else m_x12_isOwnHere_J142 qr101.2)) else m_x12_isOwnHere_J142 s96)
def m_x12_isOwnHere_J66 (s129 : MS) : Option (Int × MS) :=
  m_x12_isOwnHere_J71 1 s129
def m_x12_isOwnHere (s : MS) : Option (Int × MS) :=
  bn (m_x12_isHere 11 6 s) (fun qr132 => rg qr132.1 (if qr132.1 = 0 then bn (m_x12_isHere 12 4 qr132.2) (fun qr137 => rg qr137.1 (if qr137.1 = 0 then bn (m_x12_isHere 13 6 qr137.2) (fun qr142 => rg qr142.1 (if qr142.1 = 0 then bn (m_x12_isHere 14 5 qr142.2) (fun qr147 => rg qr147.1 (if qr147.1 = 0 then bn (m_x12_isHere 15 2 qr147.2) (fun qr152 => rg qr152.1 (if qr152.1 = 0 then bn (m_x12_isHere 16 3 qr152.2) (fun qr157 => rg qr157.1 (if qr157.1 = 0 then m_x12_isOwnHere_J71 0 qr157.2 else m_x12_isOwnHere_J66 qr157.2)) else m_x12_isOwnHere_J66 qr152.2)) else m_x12_isOwnHere_J66 qr147.2)) else m_x12_isOwnHere_J66 qr142.2)) else m_x12_isOwnHere_J66 qr137.2)) else m_x12_isOwnHere_J66 qr132.2))
def m_x12_name_J145 (z1 : Int) (s2 : MS) : Option (Int × MS) :=
  stn (sI s2 4 (gI s2 2)) (fun s3 => some (z1, s3))
def m_x12_name_b58 (lr58 : Int → MS → Option (Int × MS)) (z4 : Int) (s5 : MS) : Option (Int × MS) :=
  rg (gI s5 2) (rg (gI s5 3) (if (gI s5 3) ≤ (gI s5 2) then m_x12_name_J145 z4 s5 else rdI (gA s5 0) 1600 (gI s5 2) (fun y9 => bn (m_x12_isLetter y9 s5) (fun r11 => rg r11 (if r11 = 0 then m_x12_name_J145 z4 s5 else rg ((gI s5 2) - (gI s5 38)) (if ((gI s5 2) - (gI s5 38)) = 6 then bn (m_x12_fail 1 (gI s5 2) s5) (fun s20 => some (0, s20)) else rdI (gA s5 0) 1600 (gI s5 2) (fun y16 => rg y16 (stn (sI s5 2 ((gI s5 2) + 1)) (fun s18 => lr58 ((((27 * z4) + y16) - 97) + 1) s18)))))))))
def m_x12_name_L58 (n : Nat) : Int → MS → Option (Int × MS) := lp (fun _ _ => none) (m_x12_name_b58) n
def m_x12_name_J37 (s21 : MS) : Option (Int × MS) :=
  bn (m_x12_fail 1 (gI s21 2) s21) (fun s23 => some (0, s23))
def m_x12_name (s : MS) : Option (Int × MS) :=
  rg (gI s 5) (if (gI s 5) = 0 then bn (m_x12_look s) (fun qr28 => bn (m_x12_isLetter qr28.1 qr28.2) (fun r30 => rg r30 (if r30 = 0 then m_x12_name_J37 qr28.2 else rg (gI qr28.2 2) (rg (gI qr28.2 4) (if (gI qr28.2 2) = (gI qr28.2 4) then m_x12_name_J37 qr28.2 else bn (m_x12_isOwnHere qr28.2) (fun qr38 => rg qr38.1 (if qr38.1 = 0 then stn (sI qr38.2 38 (gI qr38.2 2)) (fun s41 => m_x12_name_L58 FU 0 s41) else m_x12_name_J37 qr38.2))))))) else some (0, s))
def m_x12_isAllowed_J88 (s : MS) (x1 : Int) : Option Int :=
  bo x1 (some x1)
def m_x12_isAllowed_J83 (s : MS) (_u : Unit) : Option Int :=
  m_x12_isAllowed_J88 s 1
def m_x12_isAllowed_J73 (s : MS) (x3 : Int) : Option Int :=
  bo x3 (some x3)
def m_x12_isAllowed_J68 (s : MS) (_u : Unit) : Option Int :=
  m_x12_isAllowed_J73 s 1
def m_x12_isAllowed_J57 (s : MS) (x5 : Int) : Option Int :=
  bo x5 (some x5)
def m_x12_isAllowed_J52 (s : MS) (_u : Unit) : Option Int :=
  m_x12_isAllowed_J57 s 1
def m_x12_isAllowed_J42 (s : MS) (x7 : Int) : Option Int :=
  bo x7 (some x7)
def m_x12_isAllowed (p0 : Int) (s : MS) : Option Int :=
  rg (gI s 48) (if (gI s 48) = 0 then rg p0 (if 3 ≤ p0 then m_x12_isAllowed_J42 s 0 else m_x12_isAllowed_J42 s 1) else if (gI s 48) = 1 then rg p0 (if p0 = 0 then m_x12_isAllowed_J52 s () else rg p0 (if p0 = 3 then m_x12_isAllowed_J52 s () else m_x12_isAllowed_J57 s 0)) else if (gI s 48) = 2 then rg p0 (if p0 < 2 then m_x12_isAllowed_J68 s () else rg p0 (if p0 = 3 then m_x12_isAllowed_J68 s () else m_x12_isAllowed_J73 s 0)) else rg p0 (if p0 = 0 then m_x12_isAllowed_J83 s () else rg p0 (if p0 ≤ 2 then m_x12_isAllowed_J88 s 0 else m_x12_isAllowed_J83 s ())))
def m_x12_storeTold (s : MS) : Option MS :=
  bn (m_x12_asks 11 6 s) (fun s2 => bn (m_x12_number 8 48 s2) (fun qr5 => inb 10 0 (stn (sA qr5.2 39 (upZ (gA qr5.2 39) (Int.toNat 0) qr5.1)) (fun s7 => bn (m_x12_asks 12 4 s7) (fun s9 => bn (m_x12_number 3 6 s9) (fun qr12 => inb 10 1 (stn (sA qr12.2 39 (upZ (gA qr12.2 39) (Int.toNat 1) qr12.1)) (fun s14 => bn (m_x12_asksSign 59 s14) (fun s16 => some s16)))))))))
def m_x12_actTold (p0 : Int) (p1 : Int) (p2 : Int) (p3 : Int) (s : MS) : Option MS :=
  rg (gI s 5) (if (gI s 5) = 0 then rdI (gA s 39) 10 3 (fun y3 => inb 240 (4 * y3) (stn (sA s 41 (upZ (gA s 41) (Int.toNat (4 * y3)) p0)) (fun s5 => inb 240 ((4 * y3) + 1) (stn (sA s5 41 (upZ (gA s5 41) (Int.toNat ((4 * y3) + 1)) p1)) (fun s7 => inb 240 ((4 * y3) + 2) (stn (sA s7 41 (upZ (gA s7 41) (Int.toNat ((4 * y3) + 2)) p2)) (fun s9 => inb 240 ((4 * y3) + 3) (stn (sA s9 41 (upZ (gA s9 41) (Int.toNat ((4 * y3) + 3)) p3)) (fun s11 => rdI (gA s11 39) 10 3 (fun y12 => inb 10 3 (stn (sA s11 39 (upZ (gA s11 39) (Int.toNat 3) (y12 + 1))) (fun s14 => some s14)))))))))))) else some s)
def m_x12_newName_J44 (lr7 : Int → Int → MS → Option (Int × MS)) (z4 : Int) (x5 : Int) (s6 : MS) : Option (Int × MS) :=
  lr7 z4 (x5 + 1) s6
def m_x12_newName_b7 (lr7 : Int → Int → MS → Option (Int × MS)) (z1 : Int) (x2 : Int) (s3 : MS) : Option (Int × MS) :=
  rdI (gA s3 39) 10 2 (fun y7 => rg x2 (rg y7 (if y7 ≤ x2 then some (z1, s3) else rg (gI s3 5) (if (gI s3 5) = 0 then rdL (gB s3 40) 16 x2 (fun yl13 => rgL yl13 (rgL z1 (if yl13 = z1 then bn (m_x12_fail 3 (gI s3 38) s3) (fun s18 => m_x12_newName_J44 lr7 z1 x2 s18) else m_x12_newName_J44 lr7 z1 x2 s3))) else m_x12_newName_J44 lr7 z1 x2 s3))))
def m_x12_newName_L7 (n : Nat) : Int → Int → MS → Option (Int × MS) := lp (fun _ _ _ => none) (m_x12_newName_b7) n
def m_x12_newName (s : MS) : Option (Int × MS) :=
  bn (m_x12_name s) (fun qrl21 => m_x12_newName_L7 FU qrl21.1 0 qrl21.2)
def m_x12_volumeNamed_J52 (s1 : MS) : Option (Int × MS) :=
  some (0, s1)
def m_x12_volumeNamed_b7 (lr7 : Int → Int → MS → Option (Int × MS)) (z2 : Int) (x3 : Int) (s4 : MS) : Option (Int × MS) :=
  rdI (gA s4 39) 10 2 (fun y5 => rg x3 (rg y5 (if y5 ≤ x3 then rg (gI s4 5) (if (gI s4 5) = 0 then bn (m_x12_fail 3 (gI s4 38) s4) (fun s12 => m_x12_volumeNamed_J52 s12) else m_x12_volumeNamed_J52 s4) else rdL (gB s4 40) 16 x3 (fun yl13 => rgL yl13 (rgL z2 (if yl13 = z2 then some (x3, s4) else lr7 z2 (x3 + 1) s4))))))
def m_x12_volumeNamed_L7 (n : Nat) : Int → Int → MS → Option (Int × MS) := lp (fun _ _ _ => none) (m_x12_volumeNamed_b7) n
def m_x12_volumeNamed (s : MS) : Option (Int × MS) :=
  bn (m_x12_name s) (fun qrl19 => m_x12_volumeNamed_L7 FU qrl19.1 0 qrl19.2)
def m_x12_volumeTold_J83 (z1 : Int) (x2 : Int) (x3 : Int) (s4 : MS) : Option MS :=
  rdI (gA s4 39) 10 2 (fun y5 => bn (m_x12_actTold x3 x2 y5 0 s4) (fun s7 => rdI (gA s7 39) 10 2 (fun y8 => inb 16 y8 (stn (sB s7 40 (upZ (gB s7 40) (Int.toNat y8) z1)) (fun s10 => rdI (gA s10 39) 10 2 (fun y11 => inb 10 2 (stn (sA s10 39 (upZ (gA s10 39) (Int.toNat 2) (y11 + 1))) (fun s13 => some s13))))))))
def m_x12_volumeTold_J68 (x14 : Int) (z15 : Int) (x16 : Int) (x17 : Int) (s18 : MS) : Option MS :=
  rg x14 (if x14 = 0 then rdI (gA s18 39) 10 2 (fun y21 => m_x12_volumeTold_J83 z15 y21 x17 s18) else m_x12_volumeTold_J83 z15 x16 x17 s18)
def m_x12_volumeTold_J50 (x22 : Int) (z23 : Int) (x24 : Int) (s25 : MS) : Option MS :=
  rg (gI s25 5) (if (gI s25 5) = 0 then rg x22 (if x22 = 0 then m_x12_volumeTold_J68 x22 z23 x24 0 s25 else m_x12_volumeTold_J68 x22 z23 x24 1 s25) else some s25)
def m_x12_volumeTold_J24 (x30 : Int) (s31 : MS) : Option MS :=
  bn (m_x12_newName s31) (fun qrl34 => rg x30 (if x30 = 0 then m_x12_volumeTold_J50 x30 qrl34.1 (-1) qrl34.2 else bn (m_x12_asks 15 2 qrl34.2) (fun s38 => bn (m_x12_volumeNamed s38) (fun qr41 => m_x12_volumeTold_J50 x30 qrl34.1 qr41.1 qr41.2))))
def m_x12_volumeTold (p0 : Int) (p1 : Int) (s : MS) : Option MS :=
  rg (gI s 5) (if (gI s 5) = 0 then rdI (gA s 39) 10 2 (fun y44 => rg y44 (if y44 = 8 then bn (m_x12_fail 5 p1 s) (fun s48 => m_x12_volumeTold_J24 p0 s48) else m_x12_volumeTold_J24 p0 s)) else m_x12_volumeTold_J24 p0 s)
def m_x12_putTold (s : MS) : Option MS :=
  bn (m_x12_volumeNamed s) (fun qr3 => bn (m_x12_number 0 999 qr3.2) (fun qr6 => bn (m_x12_number 0 999 qr6.2) (fun qr9 => bn (m_x12_actTold 2 qr3.1 qr6.1 qr9.1 qr9.2) (fun s11 => some s11))))
def m_x12_removeTold (s : MS) : Option MS :=
  bn (m_x12_volumeNamed s) (fun qr3 => bn (m_x12_number 0 999 qr3.2) (fun qr6 => bn (m_x12_actTold 3 qr3.1 qr6.1 0 qr6.2) (fun s8 => some s8)))
def m_x12_qCode (p0 : Int) (s : MS) : Option MS :=
  inb 1700 (gI s 102) (stn (sA s 101 (upZ (gA s 101) (Int.toNat (gI s 102)) p0)) (fun s2 => stn (sI s2 102 ((gI s2 102) + 1)) (fun s3 => some s3)))
def m_x12_qDrops (s : MS) : Option MS :=
  stn (sI s 104 ((gI s 104) - 1)) (fun s1 => rdI (gA s1 103) 1700 (gI s1 104) (fun y2 => bn (m_x12_qCode y2 s1) (fun s4 => some s4)))
def m_x12_qEndsPart_J51 (s1 : MS) : Option MS :=
  some s1
def m_x12_qEndsPart_b0 (lr0 : MS → Option MS) (s2 : MS) : Option MS :=
  rg (gI s2 5) (if (gI s2 5) = 0 then rg (gI s2 104) (rg (gI s2 106) (if (gI s2 104) ≤ (gI s2 106) then m_x12_qEndsPart_J51 s2 else rdI (gA s2 103) 1700 ((gI s2 104) - 1) (fun y8 => rg y8 (if y8 < 60 then m_x12_qEndsPart_J51 s2 else stn (sI s2 105 ((gI s2 105) - 1)) (fun s11 => bn (m_x12_qDrops s11) (fun s13 => lr0 s13)))))) else m_x12_qEndsPart_J51 s2)
def m_x12_qEndsPart_L0 (n : Nat) : MS → Option MS := lp (fun _ => none) (m_x12_qEndsPart_b0) n
def m_x12_qEndsPart (s : MS) : Option MS :=
  m_x12_qEndsPart_L0 FU s
def m_x12_qWordHere (s : MS) : Option (Int × MS) :=
  bn (m_x12_isHere 91 5 s) (fun qr3 => rg qr3.1 (if qr3.1 = 0 then bn (m_x12_isHere 92 5 qr3.2) (fun qr8 => rg qr8.1 (if qr8.1 = 0 then bn (m_x12_isHere 93 4 qr8.2) (fun qr13 => rg qr13.1 (if qr13.1 = 0 then bn (m_x12_isHere 94 7 qr13.2) (fun qr18 => rg qr18.1 (if qr18.1 = 0 then bn (m_x12_isHere 95 6 qr18.2) (fun qr23 => rg qr23.1 (if qr23.1 = 0 then bn (m_x12_isHere 96 5 qr23.2) (fun qr28 => rg qr28.1 (if qr28.1 = 0 then bn (m_x12_isHere 97 5 qr28.2) (fun qr33 => rg qr33.1 (if qr33.1 = 0 then bn (m_x12_isHere 98 5 qr33.2) (fun qr38 => rg qr38.1 (if qr38.1 = 0 then bn (m_x12_isHere 99 4 qr38.2) (fun qr43 => rg qr43.1 (if qr43.1 = 0 then bn (m_x12_isHere 100 3 qr43.2) (fun qr48 => rg qr48.1 (if qr48.1 = 0 then some ((-1), qr48.2) else some (9, qr48.2))) else some (8, qr43.2))) else some (7, qr38.2))) else some (6, qr33.2))) else some (5, qr28.2))) else some (4, qr23.2))) else some (3, qr18.2))) else some (2, qr13.2))) else some (1, qr8.2))) else some (0, qr3.2)))
def m_x12_qWordOf_J28 (x1 : Int) (s2 : MS) : Option (Int × MS) :=
  some (x1, s2)
def m_x12_qWordOf_J27 (s3 : MS) : Option (Int × MS) :=
  m_x12_qWordOf_J28 (-1) s3
def m_x12_qWordOf (p0 : Int) (p1 : Int) (s : MS) : Option (Int × MS) :=
  bn (m_x12_qWordHere s) (fun qr6 => rg qr6.1 (rg p0 (if qr6.1 < p0 then m_x12_qWordOf_J27 qr6.2 else rg qr6.1 (rg p1 (if p1 ≤ qr6.1 then m_x12_qWordOf_J27 qr6.2 else bn (m_x12_isAllowed qr6.1 qr6.2) (fun r14 => rg r14 (if r14 = 0 then m_x12_qWordOf_J27 qr6.2 else m_x12_qWordOf_J28 qr6.1 qr6.2)))))))
def m_x12_qAsksWord_J159 (s1 : MS) : Option MS :=
  some s1
def m_x12_qAsksWord (p0 : Int) (s : MS) : Option MS :=
  rg p0 (if p0 = 0 then bn (m_x12_asks 91 5 s) (fun s5 => m_x12_qAsksWord_J159 s5) else if p0 = 1 then bn (m_x12_asks 92 5 s) (fun s8 => m_x12_qAsksWord_J159 s8) else if p0 = 2 then bn (m_x12_asks 93 4 s) (fun s11 => m_x12_qAsksWord_J159 s11) else if p0 = 3 then bn (m_x12_asks 94 7 s) (fun s14 => m_x12_qAsksWord_J159 s14) else if p0 = 4 then bn (m_x12_asks 95 6 s) (fun s17 => m_x12_qAsksWord_J159 s17) else if p0 = 5 then bn (m_x12_asks 96 5 s) (fun s20 => m_x12_qAsksWord_J159 s20) else if p0 = 6 then bn (m_x12_asks 97 5 s) (fun s23 => m_x12_qAsksWord_J159 s23) else if p0 = 7 then bn (m_x12_asks 98 5 s) (fun s26 => m_x12_qAsksWord_J159 s26) else if p0 = 8 then bn (m_x12_asks 99 4 s) (fun s29 => m_x12_qAsksWord_J159 s29) else bn (m_x12_asks 100 3 s) (fun s31 => m_x12_qAsksWord_J159 s31))
def m_x12_qOpens (p0 : Int) (p1 : Int) (s : MS) : Option MS :=
  rg (gI s 5) (if (gI s 5) = 0 then rg (gI s 105) (if (gI s 105) = 6 then bn (m_x12_fail 4 p1 s) (fun s10 => some s10) else stn (sI s 105 ((gI s 105) + 1)) (fun s5 => inb 1700 (gI s5 104) (stn (sA s5 103 (upZ (gA s5 103) (Int.toNat (gI s5 104)) p0)) (fun s7 => stn (sI s7 104 ((gI s7 104) + 1)) (fun s8 => some s8))))) else some s)
def m_x12_qPartTold_J237 (x1 : Int) (s2 : MS) : Option MS :=
  bn (m_x12_qCode x1 s2) (fun s4 => bn (m_x12_qEndsPart s4) (fun s6 => some s6))
def m_x12_qPartTold_J212 (x7 : Int) (s8 : MS) : Option MS :=
  rg x7 (if x7 = (-1) then bn (m_x12_number 0 9999 s8) (fun qr13 => m_x12_qPartTold_J237 (1000 + qr13.1) qr13.2) else m_x12_qPartTold_J237 (40 + x7) s8)
def m_x12_qPartTold_J186 (s14 : MS) : Option MS :=
  rg (gI s14 5) (if (gI s14 5) = 0 then bn (m_x12_qWordOf 0 8 s14) (fun qr19 => rg qr19.1 (if qr19.1 = (-1) then m_x12_qPartTold_J212 qr19.1 qr19.2 else bn (m_x12_qAsksWord qr19.1 qr19.2) (fun s23 => m_x12_qPartTold_J212 qr19.1 s23))) else some s14)
def m_x12_qPartTold_J183 (lr2 : Int → MS → Option MS) (x26 : Int) (s27 : MS) : Option MS :=
  lr2 x26 s27
def m_x12_qPartTold_J144 (lr2 : Int → MS → Option MS) (x28 : Int) (s29 : MS) : Option MS :=
  bn (m_x12_asksSign 40 s29) (fun s31 => m_x12_qPartTold_J183 lr2 x28 s31)
def m_x12_qPartTold_J139 (lr2 : Int → MS → Option MS) (x32 : Int) (x33 : Int) (x34 : Int) (s35 : MS) : Option MS :=
  bn (m_x12_qOpens x34 x33 s35) (fun s37 => m_x12_qPartTold_J144 lr2 x32 s37)
def m_x12_qPartTold_J118 (lr2 : Int → MS → Option MS) (x38 : Int) (x39 : Int) (x40 : Int) (s41 : MS) : Option MS :=
  rg x40 (if x40 = (-1) then m_x12_qPartTold_J144 lr2 x38 s41 else rg x39 (if x39 = 0 then m_x12_qPartTold_J139 lr2 x38 x40 22 s41 else m_x12_qPartTold_J139 lr2 x38 x40 21 s41))
def m_x12_qPartTold_J101 (lr2 : Int → MS → Option MS) (x46 : Int) (x47 : Int) (s48 : MS) : Option MS :=
  bn (m_x12_look s48) (fun qr51 => rg qr51.1 (if qr51.1 = 40 then m_x12_qPartTold_J118 lr2 x46 x47 (gI qr51.2 2) qr51.2 else m_x12_qPartTold_J118 lr2 x46 x47 (-1) qr51.2))
def m_x12_qPartTold_J78 (lr2 : Int → MS → Option MS) (x54 : Int) (s55 : MS) : Option MS :=
  bn (m_x12_takes 89 3 s55) (fun qr58 => rg qr58.1 (if qr58.1 = 0 then bn (m_x12_asks 90 3 qr58.2) (fun s62 => m_x12_qPartTold_J101 lr2 x54 qr58.1 s62) else m_x12_qPartTold_J101 lr2 x54 qr58.1 qr58.2))
def m_x12_qPartTold_b2 (lr2 : Int → MS → Option MS) (x24 : Int) (s25 : MS) : Option MS :=
  rg x24 (if x24 = 0 then m_x12_qPartTold_J186 s25 else rg (gI s25 5) (if (gI s25 5) = 0 then bn (m_x12_look s25) (fun qr69 => bn (m_x12_qWordOf 8 10 qr69.2) (fun qr72 => rg qr69.1 (if qr69.1 = 40 then bn (m_x12_qOpens 20 (gI qr72.2 2) qr72.2) (fun s92 => stn (sI s92 2 ((gI s92 2) + 1)) (fun s93 => m_x12_qPartTold_J183 lr2 x24 s93)) else bn (m_x12_isHere 89 3 qr72.2) (fun qr77 => rg qr77.1 (if qr77.1 = 0 then bn (m_x12_isHere 90 3 qr77.2) (fun qr82 => rg qr82.1 (if qr82.1 = 0 then rg qr72.1 (if qr72.1 = (-1) then m_x12_qPartTold_J183 lr2 0 qr82.2 else bn (m_x12_qOpens ((60 + qr72.1) - 8) (gI qr82.2 2) qr82.2) (fun s88 => bn (m_x12_qAsksWord qr72.1 s88) (fun s90 => m_x12_qPartTold_J183 lr2 x24 s90))) else m_x12_qPartTold_J78 lr2 x24 qr82.2)) else m_x12_qPartTold_J78 lr2 x24 qr77.2))))) else m_x12_qPartTold_J186 s25))
def m_x12_qPartTold_L2 (n : Nat) : Int → MS → Option MS := lp (fun _ _ => none) (m_x12_qPartTold_b2) n
def m_x12_qPartTold (s : MS) : Option MS :=
  m_x12_qPartTold_L2 FU 1 s
def m_x12_qIsBracket_J17 (s : MS) (x1 : Int) : Option Int :=
  bo x1 (some x1)
def m_x12_qIsBracket_J16 (s : MS) (_u : Unit) : Option Int :=
  m_x12_qIsBracket_J17 s 0
def m_x12_qIsBracket (p0 : Int) (s : MS) : Option Int :=
  rg p0 (if p0 < 20 then m_x12_qIsBracket_J16 s () else rg p0 (if 24 < p0 then m_x12_qIsBracket_J16 s () else m_x12_qIsBracket_J17 s 1))
def m_x12_qDropsToBracket_J35 (s1 : MS) : Option MS :=
  some s1
def m_x12_qDropsToBracket_b0 (lr0 : MS → Option MS) (s2 : MS) : Option MS :=
  rg (gI s2 104) (rg (gI s2 106) (if (gI s2 104) ≤ (gI s2 106) then m_x12_qDropsToBracket_J35 s2 else rdI (gA s2 103) 1700 ((gI s2 104) - 1) (fun y6 => bn (m_x12_qIsBracket y6 s2) (fun r8 => rg r8 (if r8 = 0 then bn (m_x12_qDrops s2) (fun s12 => lr0 s12) else m_x12_qDropsToBracket_J35 s2)))))
def m_x12_qDropsToBracket_L0 (n : Nat) : MS → Option MS := lp (fun _ => none) (m_x12_qDropsToBracket_b0) n
def m_x12_qDropsToBracket (s : MS) : Option MS :=
  m_x12_qDropsToBracket_L0 FU s
def m_x12_qIsOn_J27 (s : MS) (x1 : Int) : Option Int :=
  bo x1 (some x1)
def m_x12_qIsOn_J26 (s : MS) (_u : Unit) : Option Int :=
  m_x12_qIsOn_J27 s 0
def m_x12_qIsOn (p0 : Int) (s : MS) : Option Int :=
  rg (gI s 104) (if (gI s 104) ≤ 0 then m_x12_qIsOn_J26 s () else rdI (gA s 103) 1700 ((gI s 104) - 1) (fun y5 => rg y5 (rg p0 (if y5 = p0 then m_x12_qIsOn_J27 s 1 else m_x12_qIsOn_J26 s ()))))
def m_x12_qBracket_J51 (s : MS) (x1 : Int) : Option Int :=
  some x1
def m_x12_qBracket_J33 (s : MS) (x2 : Int) : Option Int :=
  rg x2 (rg (gI s 106) (if x2 < (gI s 106) then m_x12_qBracket_J51 s (-1) else rdI (gA s 103) 1700 x2 (fun y6 => m_x12_qBracket_J51 s y6)))
def m_x12_qBracket_b7 (s : MS) (lr7 : Int → Option Int) (x7 : Int) : Option Int :=
  rg x7 (rg (gI s 106) (if x7 < (gI s 106) then m_x12_qBracket_J33 s x7 else rdI (gA s 103) 1700 x7 (fun y11 => bn (m_x12_qIsBracket y11 s) (fun r13 => rg r13 (if r13 = 0 then lr7 (x7 + (-1)) else m_x12_qBracket_J33 s x7)))))
def m_x12_qBracket_L7 (s : MS) (n : Nat) : Int → Option Int := lp (fun _ => none) (m_x12_qBracket_b7 s) n
def m_x12_qBracket (s : MS) : Option Int :=
  m_x12_qBracket_L7 s FU ((gI s 104) - 1)
def m_x12_qGoesOn_J386 (s1 : MS) : Option (Int × MS) :=
  some (0, s1)
def m_x12_qGoesOn_J326 (s2 : MS) : Option (Int × MS) :=
  bn (m_x12_asksSign 44 s2) (fun s4 => rg (gI s4 5) (if (gI s4 5) = 0 then bn (m_x12_qDropsToBracket s4) (fun s8 => rdI (gA s8 103) 1700 ((gI s8 104) - 1) (fun y9 => inb 1700 ((gI s8 104) - 1) (stn (sA s8 103 (upZ (gA s8 103) (Int.toNat ((gI s8 104) - 1)) (y9 + 2))) (fun s11 => some (1, s11))))) else some (0, s4)))
def m_x12_qGoesOn_J279 (lr247 : Int → MS → Option (Int × MS)) (x14 : Int) (s15 : MS) : Option (Int × MS) :=
  bn (m_x12_qDrops s15) (fun s17 => lr247 x14 s17)
def m_x12_qGoesOn_b247 (lr247 : Int → MS → Option (Int × MS)) (x12 : Int) (s13 : MS) : Option (Int × MS) :=
  bn (m_x12_qIsOn 3 s13) (fun r19 => rg r19 (if r19 = 0 then bn (m_x12_qIsOn 4 s13) (fun r23 => rg r23 (if r23 = 0 then bn (m_x12_qIsOn 1 s13) (fun r27 => rg r27 (if r27 = 0 then bn (m_x12_qIsOn 2 s13) (fun r31 => rg r31 (if r31 = 0 then inb 1700 (gI s13 104) (stn (sA s13 103 (upZ (gA s13 103) (Int.toNat (gI s13 104)) x12)) (fun s35 => stn (sI s35 104 ((gI s35 104) + 1)) (fun s36 => some (1, s36)))) else m_x12_qGoesOn_J279 lr247 x12 s13)) else m_x12_qGoesOn_J279 lr247 x12 s13)) else m_x12_qGoesOn_J279 lr247 x12 s13)) else m_x12_qGoesOn_J279 lr247 x12 s13))
def m_x12_qGoesOn_L247 (n : Nat) : Int → MS → Option (Int × MS) := lp (fun _ _ => none) (m_x12_qGoesOn_b247) n
def m_x12_qGoesOn_J246 (x37 : Int) (s38 : MS) : Option (Int × MS) :=
  m_x12_qGoesOn_L247 FU x37 s38
def m_x12_qGoesOn_J225 (s39 : MS) : Option (Int × MS) :=
  rdI (gA s39 0) 1600 ((gI s39 2) - 1) (fun y40 => rg y40 (if y40 = 43 then m_x12_qGoesOn_J246 1 s39 else m_x12_qGoesOn_J246 2 s39))
def m_x12_qGoesOn_J178 (lr162 : Int → MS → Option (Int × MS)) (x45 : Int) (s46 : MS) : Option (Int × MS) :=
  bn (m_x12_qDrops s46) (fun s48 => lr162 x45 s48)
def m_x12_qGoesOn_b162 (lr162 : Int → MS → Option (Int × MS)) (x43 : Int) (s44 : MS) : Option (Int × MS) :=
  bn (m_x12_qIsOn 3 s44) (fun r50 => rg r50 (if r50 = 0 then bn (m_x12_qIsOn 4 s44) (fun r54 => rg r54 (if r54 = 0 then inb 1700 (gI s44 104) (stn (sA s44 103 (upZ (gA s44 103) (Int.toNat (gI s44 104)) x43)) (fun s58 => stn (sI s58 104 ((gI s58 104) + 1)) (fun s59 => some (1, s59)))) else m_x12_qGoesOn_J178 lr162 x43 s44)) else m_x12_qGoesOn_J178 lr162 x43 s44))
def m_x12_qGoesOn_L162 (n : Nat) : Int → MS → Option (Int × MS) := lp (fun _ _ => none) (m_x12_qGoesOn_b162) n
def m_x12_qGoesOn_J161 (x60 : Int) (s61 : MS) : Option (Int × MS) :=
  m_x12_qGoesOn_L162 FU x60 s61
def m_x12_qGoesOn_J140 (s62 : MS) : Option (Int × MS) :=
  rdI (gA s62 0) 1600 ((gI s62 2) - 1) (fun y63 => rg y63 (if y63 = 42 then m_x12_qGoesOn_J161 3 s62 else m_x12_qGoesOn_J161 4 s62))
def m_x12_qGoesOn_J122 (s66 : MS) : Option (Int × MS) :=
  bn (m_x12_takesSign 42 s66) (fun qr69 => rg qr69.1 (if qr69.1 = 0 then bn (m_x12_takesSign 47 qr69.2) (fun qr74 => rg qr74.1 (if qr74.1 = 0 then bn (m_x12_takesSign 43 qr74.2) (fun qr79 => rg qr79.1 (if qr79.1 = 0 then bn (m_x12_takesSign 45 qr79.2) (fun qr84 => rg qr84.1 (if qr84.1 = 0 then bn (m_x12_qBracket qr84.2) (fun r88 => rg r88 (if r88 = 21 then m_x12_qGoesOn_J326 qr84.2 else bn (m_x12_qBracket qr84.2) (fun r92 => rg r92 (if r92 = 22 then m_x12_qGoesOn_J326 qr84.2 else bn (m_x12_qBracket qr84.2) (fun r96 => rg r96 (if r96 = (-1) then m_x12_qGoesOn_J386 qr84.2 else rg (gI qr84.2 5) (if (gI qr84.2 5) = 0 then bn (m_x12_fail 1 (gI qr84.2 2) qr84.2) (fun s102 => m_x12_qGoesOn_J386 s102) else m_x12_qGoesOn_J386 qr84.2))))))) else m_x12_qGoesOn_J225 qr84.2)) else m_x12_qGoesOn_J225 qr79.2)) else m_x12_qGoesOn_J140 qr74.2)) else m_x12_qGoesOn_J140 qr69.2))
def m_x12_qGoesOn_J115 (lr0 : MS → Option (Int × MS)) (s104 : MS) : Option (Int × MS) :=
  bn (m_x12_qEndsPart s104) (fun s106 => lr0 s106)
def m_x12_qGoesOn_J112 (lr0 : MS → Option (Int × MS)) (x107 : Int) (s108 : MS) : Option (Int × MS) :=
  bn (m_x12_qCode x107 s108) (fun s110 => m_x12_qGoesOn_J115 lr0 s110)
def m_x12_qGoesOn_J43 (lr0 : MS → Option (Int × MS)) (s111 : MS) : Option (Int × MS) :=
  stn (sI s111 2 ((gI s111 2) + 1)) (fun s112 => bn (m_x12_qDropsToBracket s112) (fun s114 => stn (sI s114 104 ((gI s114 104) - 1)) (fun s115 => stn (sI s115 105 ((gI s115 105) - 1)) (fun s116 => rdI (gA s116 103) 1700 (gI s116 104) (fun y117 => rg y117 (if y117 = 20 then m_x12_qGoesOn_J115 lr0 s116 else rdI (gA s116 103) 1700 (gI s116 104) (fun y120 => rg y120 (if y120 = 23 then m_x12_qGoesOn_J112 lr0 5 s116 else m_x12_qGoesOn_J112 lr0 6 s116))))))))
def m_x12_qGoesOn_b0 (lr0 : MS → Option (Int × MS)) (s103 : MS) : Option (Int × MS) :=
  rg (gI s103 5) (if (gI s103 5) = 0 then bn (m_x12_look s103) (fun qr127 => rg qr127.1 (if qr127.1 = 41 then bn (m_x12_qBracket qr127.2) (fun r131 => rg r131 (if r131 = 20 then m_x12_qGoesOn_J43 lr0 qr127.2 else bn (m_x12_qBracket qr127.2) (fun r135 => rg r135 (if r135 = 23 then m_x12_qGoesOn_J43 lr0 qr127.2 else bn (m_x12_qBracket qr127.2) (fun r139 => rg r139 (if r139 = 24 then m_x12_qGoesOn_J43 lr0 qr127.2 else m_x12_qGoesOn_J122 qr127.2)))))) else m_x12_qGoesOn_J122 qr127.2)) else m_x12_qGoesOn_J122 s103)
def m_x12_qGoesOn_L0 (n : Nat) : MS → Option (Int × MS) := lp (fun _ => none) (m_x12_qGoesOn_b0) n
def m_x12_qGoesOn (s : MS) : Option (Int × MS) :=
  m_x12_qGoesOn_L0 FU s
def m_x12_qSums_J78 (x1 : Int) (s2 : MS) : Option MS :=
  stn (sI s2 106 x1) (fun s3 => some s3)
def m_x12_qSums_b53 (lr53 : Int → MS → Option MS) (x4 : Int) (s5 : MS) : Option MS :=
  rg (gI s5 5) (if (gI s5 5) = 0 then rg (gI s5 104) (rg (gI s5 106) (if (gI s5 104) ≤ (gI s5 106) then m_x12_qSums_J78 x4 s5 else bn (m_x12_qDrops s5) (fun s12 => lr53 x4 s12))) else m_x12_qSums_J78 x4 s5)
def m_x12_qSums_L53 (n : Nat) : Int → MS → Option MS := lp (fun _ _ => none) (m_x12_qSums_b53) n
def m_x12_qSums_J49 (lr15 : Int → Int → MS → Option MS) (x16 : Int) (x17 : Int) (s18 : MS) : Option MS :=
  lr15 x16 x17 s18
def m_x12_qSums_J48 (lr15 : Int → Int → MS → Option MS) (x19 : Int) (s20 : MS) : Option MS :=
  m_x12_qSums_J49 lr15 x19 0 s20
def m_x12_qSums_b15 (lr15 : Int → Int → MS → Option MS) (x13 : Int) (x14 : Int) (s15 : MS) : Option MS :=
  rg x14 (if x14 = 0 then m_x12_qSums_L53 FU x13 s15 else rg (gI s15 5) (if (gI s15 5) = 0 then bn (m_x12_qPartTold s15) (fun s26 => rg (gI s26 5) (if (gI s26 5) = 0 then bn (m_x12_qGoesOn s26) (fun qr31 => rg qr31.1 (if qr31.1 = 0 then m_x12_qSums_J48 lr15 x13 qr31.2 else m_x12_qSums_J49 lr15 x13 1 qr31.2)) else m_x12_qSums_J48 lr15 x13 s26)) else m_x12_qSums_L53 FU x13 s15))
def m_x12_qSums_L15 (n : Nat) : Int → Int → MS → Option MS := lp (fun _ _ _ => none) (m_x12_qSums_b15) n
def m_x12_qSums (s : MS) : Option MS :=
  stn (sI s 106 (gI s 104)) (fun s34 => m_x12_qSums_L15 FU (gI s 106) 1 s34)
def m_x12_qFact_J102 (x1 : Int) (s2 : MS) : Option MS :=
  bn (m_x12_qCode x1 s2) (fun s4 => some s4)
def m_x12_qFact_J63 (x5 : Int) (s6 : MS) : Option MS :=
  stn (sI s6 2 ((gI s6 2) + 1)) (fun s7 => bn (m_x12_qSums s7) (fun s9 => rg x5 (if x5 = 60 then m_x12_qFact_J102 7 s9 else rg x5 (if x5 = 62 then m_x12_qFact_J102 8 s9 else m_x12_qFact_J102 9 s9))))
def m_x12_qFact (s : MS) : Option MS :=
  bn (m_x12_takes 88 3 s) (fun qr16 => rg qr16.1 (if qr16.1 = 0 then bn (m_x12_qSums qr16.2) (fun s20 => rg (gI s20 5) (if (gI s20 5) = 0 then bn (m_x12_look s20) (fun qr25 => rg qr25.1 (if qr25.1 = 60 then m_x12_qFact_J63 qr25.1 qr25.2 else rg qr25.1 (if qr25.1 = 62 then m_x12_qFact_J63 qr25.1 qr25.2 else rg qr25.1 (if qr25.1 = 61 then m_x12_qFact_J63 qr25.1 qr25.2 else bn (m_x12_fail 1 (gI qr25.2 2) qr25.2) (fun s33 => some s33))))) else some s20)) else bn (m_x12_qCode 13 qr16.2) (fun s35 => some s35)))
def m_x12_qDropsNots_J33 (s1 : MS) : Option MS :=
  some s1
def m_x12_qDropsNots_b0 (lr0 : MS → Option MS) (s2 : MS) : Option MS :=
  rg (gI s2 5) (if (gI s2 5) = 0 then bn (m_x12_qIsOn 12 s2) (fun r6 => rg r6 (if r6 = 0 then m_x12_qDropsNots_J33 s2 else stn (sI s2 105 ((gI s2 105) - 1)) (fun s9 => bn (m_x12_qDrops s9) (fun s11 => lr0 s11)))) else m_x12_qDropsNots_J33 s2)
def m_x12_qDropsNots_L0 (n : Nat) : MS → Option MS := lp (fun _ => none) (m_x12_qDropsNots_b0) n
def m_x12_qDropsNots (s : MS) : Option MS :=
  m_x12_qDropsNots_L0 FU s
def m_x12_qHasSquare_b2 (s : MS) (lr2 : Int → Option Int) (x1 : Int) : Option Int :=
  rg x1 (rg (gI s 104) (if (gI s 104) ≤ x1 then some 0 else rdI (gA s 103) 1700 x1 (fun y5 => rg y5 (if y5 = 25 then some 1 else lr2 (x1 + 1)))))
def m_x12_qHasSquare_L2 (s : MS) (n : Nat) : Int → Option Int := lp (fun _ => none) (m_x12_qHasSquare_b2 s) n
def m_x12_qHasSquare (s : MS) : Option Int :=
  m_x12_qHasSquare_L2 s FU 0
def m_x12_qGoesOnTest_J208 (s1 : MS) : Option (Int × MS) :=
  some (0, s1)
def m_x12_qGoesOnTest_J155 (lr137 : MS → Option (Int × MS)) (s3 : MS) : Option (Int × MS) :=
  bn (m_x12_qDrops s3) (fun s5 => lr137 s5)
def m_x12_qGoesOnTest_b137 (lr137 : MS → Option (Int × MS)) (s2 : MS) : Option (Int × MS) :=
  bn (m_x12_qIsOn 10 s2) (fun r7 => rg r7 (if r7 = 0 then bn (m_x12_qIsOn 11 s2) (fun r11 => rg r11 (if r11 = 0 then inb 1700 (gI s2 104) (stn (sA s2 103 (upZ (gA s2 103) (Int.toNat (gI s2 104)) 11)) (fun s15 => stn (sI s15 104 ((gI s15 104) + 1)) (fun s16 => some (1, s16)))) else m_x12_qGoesOnTest_J155 lr137 s2)) else m_x12_qGoesOnTest_J155 lr137 s2))
def m_x12_qGoesOnTest_L137 (n : Nat) : MS → Option (Int × MS) := lp (fun _ => none) (m_x12_qGoesOnTest_b137) n
def m_x12_qGoesOnTest_b87 (lr87 : MS → Option (Int × MS)) (s17 : MS) : Option (Int × MS) :=
  bn (m_x12_qIsOn 10 s17) (fun r19 => rg r19 (if r19 = 0 then inb 1700 (gI s17 104) (stn (sA s17 103 (upZ (gA s17 103) (Int.toNat (gI s17 104)) 10)) (fun s23 => stn (sI s23 104 ((gI s23 104) + 1)) (fun s24 => some (1, s24)))) else bn (m_x12_qDrops s17) (fun s26 => lr87 s26)))
def m_x12_qGoesOnTest_L87 (n : Nat) : MS → Option (Int × MS) := lp (fun _ => none) (m_x12_qGoesOnTest_b87) n
def m_x12_qGoesOnTest_J76 (s27 : MS) : Option (Int × MS) :=
  bn (m_x12_takes 86 3 s27) (fun qr30 => rg qr30.1 (if qr30.1 = 0 then bn (m_x12_takes 87 2 qr30.2) (fun qr35 => rg qr35.1 (if qr35.1 = 0 then rg (gI qr35.2 5) (if (gI qr35.2 5) = 0 then bn (m_x12_qHasSquare qr35.2) (fun r41 => rg r41 (if r41 = 0 then m_x12_qGoesOnTest_J208 qr35.2 else bn (m_x12_fail 1 (gI qr35.2 2) qr35.2) (fun s45 => m_x12_qGoesOnTest_J208 s45))) else m_x12_qGoesOnTest_J208 qr35.2) else m_x12_qGoesOnTest_L137 FU qr35.2)) else m_x12_qGoesOnTest_L87 FU qr30.2))
def m_x12_qGoesOnTest_b33 (lr0 : MS → Option (Int × MS)) (lr33 : MS → Option (Int × MS)) (s47 : MS) : Option (Int × MS) :=
  bn (m_x12_qIsOn 25 s47) (fun r49 => rg r49 (if r49 = 0 then bn (m_x12_qDrops s47) (fun s57 => lr33 s57) else stn (sI s47 104 ((gI s47 104) - 1)) (fun s52 => stn (sI s52 105 ((gI s52 105) - 1)) (fun s53 => bn (m_x12_qDropsNots s53) (fun s55 => lr0 s55)))))
def m_x12_qGoesOnTest_L33 (lr0 : MS → Option (Int × MS)) (n : Nat) : MS → Option (Int × MS) := lp (fun _ => none) (m_x12_qGoesOnTest_b33 lr0) n
def m_x12_qGoesOnTest_b0 (lr0 : MS → Option (Int × MS)) (s46 : MS) : Option (Int × MS) :=
  rg (gI s46 5) (if (gI s46 5) = 0 then bn (m_x12_look s46) (fun qr62 => rg qr62.1 (if qr62.1 = 93 then bn (m_x12_qHasSquare qr62.2) (fun r66 => rg r66 (if r66 = 0 then m_x12_qGoesOnTest_J76 qr62.2 else stn (sI qr62.2 2 ((gI qr62.2 2) + 1)) (fun s69 => m_x12_qGoesOnTest_L33 lr0 FU s69))) else m_x12_qGoesOnTest_J76 qr62.2)) else m_x12_qGoesOnTest_J76 s46)
def m_x12_qGoesOnTest_L0 (n : Nat) : MS → Option (Int × MS) := lp (fun _ => none) (m_x12_qGoesOnTest_b0) n
def m_x12_qGoesOnTest (s : MS) : Option (Int × MS) :=
  m_x12_qGoesOnTest_L0 FU s
def m_x12_qTest_J131 (s1 : MS) : Option MS :=
  some s1
def m_x12_qTest_b110 (lr110 : MS → Option MS) (s2 : MS) : Option MS :=
  rg (gI s2 5) (if (gI s2 5) = 0 then rg (gI s2 104) (if (gI s2 104) ≤ 0 then m_x12_qTest_J131 s2 else bn (m_x12_qDrops s2) (fun s8 => lr110 s8)) else m_x12_qTest_J131 s2)
def m_x12_qTest_L110 (n : Nat) : MS → Option MS := lp (fun _ => none) (m_x12_qTest_b110) n
def m_x12_qTest_J106 (lr2 : Int → MS → Option MS) (x11 : Int) (s12 : MS) : Option MS :=
  lr2 x11 s12
def m_x12_qTest_J105 (lr2 : Int → MS → Option MS) (s13 : MS) : Option MS :=
  m_x12_qTest_J106 lr2 0 s13
def m_x12_qTest_b2 (lr2 : Int → MS → Option MS) (x9 : Int) (s10 : MS) : Option MS :=
  rg x9 (if x9 = 0 then m_x12_qTest_L110 FU s10 else rg (gI s10 5) (if (gI s10 5) = 0 then bn (m_x12_look s10) (fun qr20 => rg qr20.1 (if qr20.1 = 91 then bn (m_x12_qOpens 25 (gI qr20.2 2) qr20.2) (fun s44 => stn (sI s44 2 ((gI s44 2) + 1)) (fun s45 => lr2 x9 s45)) else bn (m_x12_isHere 85 3 qr20.2) (fun qr25 => rg qr25.1 (if qr25.1 = 0 then bn (m_x12_qFact qr25.2) (fun s29 => bn (m_x12_qDropsNots s29) (fun s31 => rg (gI s31 5) (if (gI s31 5) = 0 then bn (m_x12_qGoesOnTest s31) (fun qr36 => rg qr36.1 (if qr36.1 = 0 then m_x12_qTest_J105 lr2 qr36.2 else m_x12_qTest_J106 lr2 1 qr36.2)) else m_x12_qTest_J105 lr2 s31))) else bn (m_x12_qOpens 12 (gI qr25.2 2) qr25.2) (fun s40 => bn (m_x12_asks 85 3 s40) (fun s42 => lr2 x9 s42)))))) else m_x12_qTest_L110 FU s10))
def m_x12_qTest_L2 (n : Nat) : Int → MS → Option MS := lp (fun _ _ => none) (m_x12_qTest_b2) n
def m_x12_qTest (s : MS) : Option MS :=
  m_x12_qTest_L2 FU 1 s
def m_x12_codesTold_b92 (lr92 : Int → Int → MS → Option MS) (x1 : Int) (x2 : Int) (s3 : MS) : Option MS :=
  rg x2 (rg (gI s3 102) (if (gI s3 102) ≤ x2 then inb 6 x1 (stn (sA s3 43 (upZ (gA s3 43) (Int.toNat x1) (gI s3 45))) (fun s8 => some s8)) else rdI (gA s3 101) 1700 x2 (fun y9 => inb 3200 (gI s3 45) (stn (sA s3 44 (upZ (gA s3 44) (Int.toNat (gI s3 45)) y9)) (fun s11 => stn (sI s11 45 ((gI s11 45) + 1)) (fun s12 => lr92 x1 (x2 + 1) s12))))))
def m_x12_codesTold_L92 (n : Nat) : Int → Int → MS → Option MS := lp (fun _ _ _ => none) (m_x12_codesTold_b92) n
def m_x12_codesTold_J72 (x13 : Int) (s14 : MS) : Option MS :=
  rg (gI s14 5) (if (gI s14 5) = 0 then inb 6 x13 (stn (sA s14 42 (upZ (gA s14 42) (Int.toNat x13) (gI s14 45))) (fun s18 => m_x12_codesTold_L92 FU x13 0 s18)) else some s14)
def m_x12_codesTold_J23 (x19 : Int) (s20 : MS) : Option MS :=
  rg (gI s20 5) (if (gI s20 5) = 0 then stn (sI s20 48 x19) (fun s23 => stn (sI s23 102 0) (fun s24 => stn (sI s24 104 0) (fun s25 => stn (sI s25 105 0) (fun s26 => stn (sI s26 106 0) (fun s27 => rg x19 (if x19 = 1 then bn (m_x12_qTest s27) (fun s33 => m_x12_codesTold_J72 x19 s33) else bn (m_x12_qSums s27) (fun s31 => m_x12_codesTold_J72 x19 s31))))))) else some s20)
def m_x12_codesTold (p0 : Int) (p1 : Int) (s : MS) : Option MS :=
  rg (gI s 5) (if (gI s 5) = 0 then rdI (gA s 42) 6 p0 (fun y36 => rg y36 (if y36 = (-1) then m_x12_codesTold_J23 p0 s else bn (m_x12_fail 5 p1 s) (fun s40 => m_x12_codesTold_J23 p0 s40))) else m_x12_codesTold_J23 p0 s)
def m_x12_statementTold_J178 (s1 : MS) : Option MS :=
  bn (m_x12_asksSign 59 s1) (fun s3 => stn (sI s3 46 ((gI s3 46) + 1)) (fun s4 => some s4))
def m_x12_statementTold (s : MS) : Option MS :=
  rg (gI s 46) (if (gI s 46) = 60 then bn (m_x12_fail 5 (gI s 2) s) (fun s64 => some s64) else bn (m_x12_takes 13 6 s) (fun qr9 => rg qr9.1 (if qr9.1 = 0 then bn (m_x12_takes 14 5 qr9.2) (fun qr14 => rg qr14.1 (if qr14.1 = 0 then bn (m_x12_takes 16 3 qr14.2) (fun qr19 => rg qr19.1 (if qr19.1 = 0 then bn (m_x12_takes 17 6 qr19.2) (fun qr24 => rg qr24.1 (if qr24.1 = 0 then bn (m_x12_takes 18 5 qr24.2) (fun qr29 => rg qr29.1 (if qr29.1 = 0 then bn (m_x12_takes 19 6 qr29.2) (fun qr34 => rg qr34.1 (if qr34.1 = 0 then bn (m_x12_takes 20 5 qr34.2) (fun qr39 => rg qr39.1 (if qr39.1 = 0 then bn (m_x12_asks 21 5 qr39.2) (fun s43 => bn (m_x12_number 0 100 s43) (fun qr46 => inb 10 4 (stn (sA qr46.2 39 (upZ (gA qr46.2 39) (Int.toNat 4) qr46.1)) (fun s48 => m_x12_statementTold_J178 s48)))) else bn (m_x12_codesTold 2 (gI s 2) qr39.2) (fun s50 => m_x12_statementTold_J178 s50))) else bn (m_x12_codesTold 1 (gI s 2) qr34.2) (fun s52 => m_x12_statementTold_J178 s52))) else bn (m_x12_codesTold 0 (gI s 2) qr29.2) (fun s54 => m_x12_statementTold_J178 s54))) else bn (m_x12_removeTold qr24.2) (fun s56 => m_x12_statementTold_J178 s56))) else bn (m_x12_putTold qr19.2) (fun s58 => m_x12_statementTold_J178 s58))) else bn (m_x12_volumeTold 1 (gI s 2) qr14.2) (fun s60 => m_x12_statementTold_J178 s60))) else bn (m_x12_volumeTold 0 (gI s 2) qr9.2) (fun s62 => m_x12_statementTold_J178 s62))))
def m_x12_countOf (p0 : Int) (s : MS) : Option Int :=
  rdI (gA s 49) 906 (17 + (16 * p0)) (fun y1 => some y1)
def m_x12_checks_b31 (lr31 : Int → MS → Option MS) (x1 : Int) (s2 : MS) : Option MS :=
  rg x1 (if 48 ≤ x1 then some s2 else bn (m_x12_countOf x1 s2) (fun r6 => inb 906 ((17 + (16 * x1)) + 1) (stn (sA s2 49 (upZ (gA s2 49) (Int.toNat ((17 + (16 * x1)) + 1)) r6)) (fun s8 => lr31 (x1 + 1) s8))))
def m_x12_checks_L31 (n : Nat) : Int → MS → Option MS := lp (fun _ _ => none) (m_x12_checks_b31) n
def m_x12_checks_b2 (lr2 : Int → MS → Option MS) (x9 : Int) (s10 : MS) : Option MS :=
  rg x9 (if 8 ≤ x9 then m_x12_checks_L31 FU 0 s10 else rdI (gA s10 49) 906 x9 (fun y13 => inb 906 (8 + x9) (stn (sA s10 49 (upZ (gA s10 49) (Int.toNat (8 + x9)) y13)) (fun s15 => lr2 (x9 + 1) s15))))
def m_x12_checks_L2 (n : Nat) : Int → MS → Option MS := lp (fun _ _ => none) (m_x12_checks_b2) n
def m_x12_checks (s : MS) : Option MS :=
  m_x12_checks_L2 FU 0 s
def m_x12_entriesOf (p0 : Int) (s : MS) : Option Int :=
  rdI (gA s 49) 906 ((17 + (16 * p0)) + 3) (fun y1 => some y1)
def m_x12_levelOf (p0 : Int) (s : MS) : Option Int :=
  rdI (gA s 49) 906 ((17 + (16 * p0)) + 2) (fun y1 => some y1)
def m_x12_valueAt (p0 : Int) (p1 : Int) (s : MS) : Option Int :=
  rdI (gA s 49) 906 (((17 + (16 * p0)) + 10) + p1) (fun y1 => some y1)
def m_x12_counts (p0 : Int) (p1 : Int) (s : MS) : Option MS :=
  rdI (gA s 49) 906 (17 + (16 * p0)) (fun y1 => inb 906 (17 + (16 * p0)) (stn (sA s 49 (upZ (gA s 49) (Int.toNat (17 + (16 * p0))) (y1 + p1))) (fun s3 => some s3)))
def m_x12_lowers_J63 (s1 : MS) : Option MS :=
  some s1
def m_x12_lowers_J51 (lr7 : Int → Int → MS → Option MS) (x5 : Int) (x6 : Int) (s7 : MS) : Option MS :=
  inb 906 x5 (stn (sA s7 49 (upZ (gA s7 49) (Int.toNat x5) x6)) (fun s9 => lr7 x5 x6 s9))
def m_x12_lowers_b7 (lr7 : Int → Int → MS → Option MS) (x2 : Int) (x3 : Int) (s4 : MS) : Option MS :=
  bn (m_x12_levelOf x3 s4) (fun r11 => rg r11 (if r11 ≤ 0 then m_x12_lowers_J63 s4 else bn (m_x12_entriesOf x3 s4) (fun r15 => rg r15 (if r15 = 1 then bn (m_x12_valueAt x3 0 s4) (fun r19 => bn (m_x12_counts x3 (-1) s4) (fun s21 => bn (m_x12_countOf x3 s21) (fun r23 => rg r23 (if r23 ≤ 0 then m_x12_lowers_J51 lr7 x2 r19 s21 else bn (m_x12_counts r19 1 s21) (fun s27 => m_x12_lowers_J51 lr7 x2 r19 s27))))) else m_x12_lowers_J63 s4))))
def m_x12_lowers_L7 (n : Nat) : Int → Int → MS → Option MS := lp (fun _ _ _ => none) (m_x12_lowers_b7) n
def m_x12_lowers (p0 : Int) (s : MS) : Option MS :=
  rdI (gA s 49) 906 p0 (fun y28 => m_x12_lowers_L7 FU p0 y28 s)
def m_x12_keyAt (p0 : Int) (p1 : Int) (s : MS) : Option Int :=
  rdI (gA s 49) 906 (((17 + (16 * p0)) + 4) + p1) (fun y1 => some y1)
def m_x12_setsEntry (p0 : Int) (p1 : Int) (p2 : Int) (p3 : Int) (s : MS) : Option MS :=
  inb 906 (((17 + (16 * p0)) + 4) + p1) (stn (sA s 49 (upZ (gA s 49) (Int.toNat (((17 + (16 * p0)) + 4) + p1)) p2)) (fun s2 => inb 906 (((17 + (16 * p0)) + 10) + p1) (stn (sA s2 49 (upZ (gA s2 49) (Int.toNat (((17 + (16 * p0)) + 10) + p1)) p3)) (fun s4 => inb 48 p0 (bo 1 (stn (sA s4 54 (upZ (gA s4 54) (Int.toNat p0) 1)) (fun s7 => some s7)))))))
def m_x12_cutsEntry_b2 (lr2 : Int → Int → MS → Option MS) (x1 : Int) (x2 : Int) (s3 : MS) : Option MS :=
  bn (m_x12_entriesOf x1 s3) (fun r5 => rg x2 (rg (r5 - 1) (if (r5 - 1) ≤ x2 then rdI (gA s3 49) 906 ((17 + (16 * x1)) + 3) (fun y9 => inb 906 ((17 + (16 * x1)) + 3) (stn (sA s3 49 (upZ (gA s3 49) (Int.toNat ((17 + (16 * x1)) + 3)) (y9 - 1))) (fun s11 => inb 48 x1 (bo 1 (stn (sA s11 54 (upZ (gA s11 54) (Int.toNat x1) 1)) (fun s14 => some s14)))))) else bn (m_x12_keyAt x1 (x2 + 1) s3) (fun r16 => bn (m_x12_valueAt x1 (x2 + 1) s3) (fun r18 => bn (m_x12_setsEntry x1 x2 r16 r18 s3) (fun s20 => lr2 x1 (x2 + 1) s20))))))
def m_x12_cutsEntry_L2 (n : Nat) : Int → Int → MS → Option MS := lp (fun _ _ _ => none) (m_x12_cutsEntry_b2) n
def m_x12_cutsEntry (p0 : Int) (p1 : Int) (s : MS) : Option MS :=
  m_x12_cutsEntry_L2 FU p0 p1 s
def m_x12_placeIn_J27 (s : MS) (x1 : Int) : Option Int :=
  some x1
def m_x12_placeIn_b2 (s : MS) (lr2 : Int → Int → Int → Option Int) (x2 : Int) (x3 : Int) (x4 : Int) : Option Int :=
  bn (m_x12_entriesOf x2 s) (fun r6 => rg x4 (rg r6 (if r6 ≤ x4 then m_x12_placeIn_J27 s x4 else bn (m_x12_keyAt x2 x4 s) (fun r11 => rg r11 (rg x3 (if x3 ≤ r11 then m_x12_placeIn_J27 s x4 else lr2 x2 x3 (x4 + 1)))))))
def m_x12_placeIn_L2 (s : MS) (n : Nat) : Int → Int → Int → Option Int := lp (fun _ _ _ => none) (m_x12_placeIn_b2 s) n
def m_x12_placeIn (p0 : Int) (p1 : Int) (s : MS) : Option Int :=
  m_x12_placeIn_L2 s FU p0 p1 0
def m_x12_placeFor_J31 (s : MS) (x1 : Int) : Option Int :=
  some x1
def m_x12_placeFor_b2 (s : MS) (lr2 : Int → Int → Int → Option Int) (x2 : Int) (x3 : Int) (x4 : Int) : Option Int :=
  bn (m_x12_entriesOf x2 s) (fun r6 => rg (x4 + 1) (rg r6 (if r6 ≤ (x4 + 1) then m_x12_placeFor_J31 s x4 else bn (m_x12_keyAt x2 (x4 + 1) s) (fun r11 => rg r11 (rg x3 (if x3 < r11 then m_x12_placeFor_J31 s x4 else lr2 x2 x3 (x4 + 1)))))))
def m_x12_placeFor_L2 (s : MS) (n : Nat) : Int → Int → Int → Option Int := lp (fun _ _ _ => none) (m_x12_placeFor_b2 s) n
def m_x12_placeFor (p0 : Int) (p1 : Int) (s : MS) : Option Int :=
  m_x12_placeFor_L2 s FU p0 p1 0
def m_x12_isUsed_J13 (s : MS) (x1 : Int) : Option Int :=
  bo x1 (some x1)
def m_x12_isUsed (p0 : Int) (s : MS) : Option Int :=
  bn (m_x12_countOf p0 s) (fun r4 => rg r4 (if r4 ≤ 0 then m_x12_isUsed_J13 s 0 else m_x12_isUsed_J13 s 1))
def m_x12_falls_b51 (lr9 : Int → MS → Option MS) (lr51 : Int → Int → Int → MS → Option MS) (x3 : Int) (x4 : Int) (x5 : Int) (s6 : MS) : Option MS :=
  bn (m_x12_entriesOf x4 s6) (fun r8 => rg x5 (rg r8 (if r8 ≤ x5 then lr9 x3 s6 else bn (m_x12_valueAt x4 x5 s6) (fun r13 => inb 300 x3 (stn (sA s6 56 (upZ (gA s6 56) (Int.toNat x3) r13)) (fun s15 => lr51 (x3 + 1) x4 (x5 + 1) s15))))))
def m_x12_falls_L51 (lr9 : Int → MS → Option MS) (n : Nat) : Int → Int → Int → MS → Option MS := lp (fun _ _ _ _ => none) (m_x12_falls_b51 lr9) n
def m_x12_falls_b9 (lr9 : Int → MS → Option MS) (x1 : Int) (s2 : MS) : Option MS :=
  rg x1 (if x1 ≤ 0 then some s2 else rdI (gA s2 56) 300 (x1 + (-1)) (fun y18 => bn (m_x12_counts y18 (-1) s2) (fun s20 => bn (m_x12_isUsed y18 s20) (fun r22 => rg r22 (if r22 = 0 then bn (m_x12_levelOf y18 s20) (fun r26 => rg r26 (if r26 = 0 then lr9 (x1 + (-1)) s20 else m_x12_falls_L51 lr9 FU (x1 + (-1)) y18 0 s20)) else lr9 (x1 + (-1)) s20)))))
def m_x12_falls_L9 (n : Nat) : Int → MS → Option MS := lp (fun _ _ => none) (m_x12_falls_b9) n
def m_x12_falls (p0 : Int) (s : MS) : Option MS :=
  inb 300 0 (stn (sA s 56 (upZ (gA s 56) (Int.toNat 0) p0)) (fun s30 => m_x12_falls_L9 FU 1 s30))
def m_x12_blockMany (s : MS) : Option Int :=
  rdI (gA s 39) 10 5 (fun y1 => some y1)
def m_x12_savedOf (p0 : Int) (s : MS) : Option Int :=
  rdI (gA s 49) 906 ((17 + (16 * p0)) + 1) (fun y1 => some y1)
def m_x12_isThere_J21 (s : MS) (x1 : Int) : Option Int :=
  bo x1 (some x1)
def m_x12_isThere_J16 (s : MS) (_u : Unit) : Option Int :=
  m_x12_isThere_J21 s 1
def m_x12_isThere (p0 : Int) (s : MS) : Option Int :=
  bn (m_x12_isUsed p0 s) (fun r4 => rg r4 (if r4 = 0 then bn (m_x12_savedOf p0 s) (fun r8 => rg r8 (if r8 ≤ 0 then m_x12_isThere_J21 s 0 else m_x12_isThere_J16 s ())) else m_x12_isThere_J16 s ()))
def m_x12_isCoded_J17 (s : MS) (x1 : Int) : Option Int :=
  bo x1 (some x1)
def m_x12_isCoded (p0 : Int) (s : MS) : Option Int :=
  rdI (gA s 42) 6 (3 + p0) (fun y3 => rg y3 (if y3 = (-1) then m_x12_isCoded_J17 s 0 else m_x12_isCoded_J17 s 1))
def m_x12_qPuts (p0 : Int) (s : MS) : Option MS :=
  inb 1700 (gI s 108) (stn (sB s 107 (upZ (gB s 107) (Int.toNat (gI s 108)) p0)) (fun s2 => stn (sI s2 108 ((gI s2 108) + 1)) (fun s3 => some s3)))
def m_x12_qClip_J29 (s : MS) (z1 : Int) : Option Int :=
  some z1
def m_x12_qClip (p0 : Int) (s : MS) : Option Int :=
  rgL p0 (if p0 ≤ 1000000 then rgL p0 (if (-1000000) ≤ p0 then m_x12_qClip_J29 s p0 else m_x12_qClip_J29 s (-1000000)) else m_x12_qClip_J29 s 1000000)
def m_x12_qFloor_J55 (s : MS) (z1 : Int) : Option Int :=
  some z1
def m_x12_qFloor_J53 (s : MS) (z2 : Int) : Option Int :=
  m_x12_qFloor_J55 s z2
def m_x12_qFloor_J43 (s : MS) (z3 : Int) (x4 : Int) (x5 : Int) : Option Int :=
  rg x5 (rg x4 (if x5 = x4 then m_x12_qFloor_J53 s z3 else m_x12_qFloor_J55 s (z3 - 1)))
def m_x12_qFloor_J32 (s : MS) (z9 : Int) (z10 : Int) (x11 : Int) : Option Int :=
  rgL z9 (if 0 ≤ z9 then m_x12_qFloor_J43 s z10 0 x11 else m_x12_qFloor_J43 s z10 1 x11)
def m_x12_qFloor (p0 : Int) (p1 : Int) (s : MS) : Option Int :=
  rgL p1 (if p1 = 0 then some 0 else dvL p0 p1 (dvL p0 p1 (rgL (Int.tmod p0 p1) (if (Int.tmod p0 p1) = 0 then m_x12_qFloor_J53 s (Int.tdiv p0 p1) else rgL p0 (if 0 ≤ p0 then m_x12_qFloor_J32 s p1 (Int.tdiv p0 p1) 0 else m_x12_qFloor_J32 s p1 (Int.tdiv p0 p1) 1)))))
def m_x12_qJoins_J273 (s1 : MS) : Option MS :=
  some s1
def m_x12_qJoins_J270 (z2 : Int) (s3 : MS) : Option MS :=
  bn (m_x12_qPuts z2 s3) (fun s5 => m_x12_qJoins_J273 s5)
def m_x12_qJoins_J238 (z6 : Int) (s7 : MS) : Option MS :=
  bn (m_x12_qPuts z6 s7) (fun s9 => m_x12_qJoins_J273 s9)
def m_x12_qJoins_J219 (z10 : Int) (s11 : MS) : Option MS :=
  bn (m_x12_qPuts z10 s11) (fun s13 => m_x12_qJoins_J273 s13)
def m_x12_qJoins_J200 (z14 : Int) (s15 : MS) : Option MS :=
  bn (m_x12_qPuts z14 s15) (fun s17 => m_x12_qJoins_J273 s17)
def m_x12_qJoins_J181 (z18 : Int) (s19 : MS) : Option MS :=
  bn (m_x12_qPuts z18 s19) (fun s21 => m_x12_qJoins_J273 s21)
def m_x12_qJoins_J161 (z22 : Int) (s23 : MS) : Option MS :=
  bn (m_x12_qPuts z22 s23) (fun s25 => m_x12_qJoins_J273 s25)
def m_x12_qJoins (p0 : Int) (s : MS) : Option MS :=
  rdL (gB s 107) 1700 ((gI s 108) - 1) (fun yl26 => rdL (gB s 107) 1700 ((gI s 108) - 2) (fun yl27 => stn (sI s 108 ((gI s 108) - 2)) (fun s28 => rg p0 (if p0 = 1 then bn (m_x12_qClip (yl27 + yl26) s28) (fun rl32 => bn (m_x12_qPuts rl32 s28) (fun s34 => m_x12_qJoins_J273 s34)) else if p0 = 2 then bn (m_x12_qClip (yl27 - yl26) s28) (fun rl37 => bn (m_x12_qPuts rl37 s28) (fun s39 => m_x12_qJoins_J273 s39)) else if p0 = 3 then bn (m_x12_qClip (yl27 * yl26) s28) (fun rl42 => bn (m_x12_qPuts rl42 s28) (fun s44 => m_x12_qJoins_J273 s44)) else if p0 = 4 then bn (m_x12_qFloor yl27 yl26 s28) (fun rl47 => bn (m_x12_qPuts rl47 s28) (fun s49 => m_x12_qJoins_J273 s49)) else if p0 = 5 then rgL yl27 (rgL yl26 (if yl26 ≤ yl27 then m_x12_qJoins_J161 yl26 s28 else m_x12_qJoins_J161 yl27 s28)) else if p0 = 6 then rgL yl27 (rgL yl26 (if yl27 ≤ yl26 then m_x12_qJoins_J181 yl26 s28 else m_x12_qJoins_J181 yl27 s28)) else if p0 = 7 then rgL yl27 (rgL yl26 (if yl26 ≤ yl27 then m_x12_qJoins_J200 0 s28 else m_x12_qJoins_J200 1 s28)) else if p0 = 8 then rgL yl27 (rgL yl26 (if yl27 ≤ yl26 then m_x12_qJoins_J219 0 s28 else m_x12_qJoins_J219 1 s28)) else if p0 = 9 then rgL yl27 (rgL yl26 (if yl27 = yl26 then m_x12_qJoins_J238 1 s28 else m_x12_qJoins_J238 0 s28)) else if p0 = 10 then bn (m_x12_qPuts (yl27 * yl26) s28) (fun s72 => m_x12_qJoins_J273 s72) else rgL (yl27 + yl26) (if (yl27 + yl26) ≤ 0 then m_x12_qJoins_J270 0 s28 else m_x12_qJoins_J270 1 s28)))))
def m_x12_isFresh_J21 (s : MS) (x1 : Int) : Option Int :=
  bo x1 (some x1)
def m_x12_isFresh_J20 (s : MS) (_u : Unit) : Option Int :=
  m_x12_isFresh_J21 s 0
def m_x12_isFresh (p0 : Int) (s : MS) : Option Int :=
  bn (m_x12_isUsed p0 s) (fun r4 => rg r4 (if r4 = 0 then m_x12_isFresh_J20 s () else bn (m_x12_savedOf p0 s) (fun r8 => rg r8 (if r8 = 0 then m_x12_isFresh_J21 s 1 else m_x12_isFresh_J20 s ()))))
def m_x12_qPartOf_J100 (s : MS) (z1 : Int) : Option Int :=
  some z1
def m_x12_qPartOf (p0 : Int) (p1 : Int) (s : MS) : Option Int :=
  rg p0 (if p0 = 0 then rg (gI s 52) (some (gI s 52)) else if p0 = 1 then rg (gI s 50) (some (gI s 50)) else if p0 = 2 then rg (gI s 51) (some (gI s 51)) else if p0 = 3 then rg (gI s 53) (some (gI s 53)) else if p0 = 4 then rg (gI s 50) (some (gI s 50)) else if p0 = 5 then bn (m_x12_countOf (gI s 50) s) (fun r15 => rg r15 (some r15)) else if p0 = 6 then bn (m_x12_isFresh (gI s 50) s) (fun r19 => rg r19 (if r19 = 0 then m_x12_qPartOf_J100 s 0 else m_x12_qPartOf_J100 s 1)) else bn (m_x12_savedOf (gI s 50) s) (fun r23 => rg r23 (some r23)))
def m_x12_codesTell_J136 (lr19 : Int → Int → MS → Option (Int × MS)) (x4 : Int) (x5 : Int) (s6 : MS) : Option (Int × MS) :=
  lr19 x4 (x5 + 1) s6
def m_x12_codesTell_b19 (lr19 : Int → Int → MS → Option (Int × MS)) (x1 : Int) (x2 : Int) (s3 : MS) : Option (Int × MS) :=
  rdI (gA s3 43) 6 (3 + x1) (fun y7 => rg x2 (rg y7 (if y7 ≤ x2 then rdL (gB s3 107) 1700 0 (fun yl11 => some (yl11, s3)) else rdI (gA s3 44) 3200 (1600 + x2) (fun y12 => rg y12 (if y12 < 1000 then rg y12 (if y12 < 40 then rg y12 (if y12 = 13 then bn (m_x12_qPuts 1 s3) (fun s27 => m_x12_codesTell_J136 lr19 x1 x2 s27) else rg y12 (if y12 = 12 then rdL (gB s3 107) 1700 ((gI s3 108) - 1) (fun yl23 => inb 1700 ((gI s3 108) - 1) (stn (sB s3 107 (upZ (gB s3 107) (Int.toNat ((gI s3 108) - 1)) (1 - yl23))) (fun s25 => m_x12_codesTell_J136 lr19 x1 x2 s25))) else bn (m_x12_qJoins y12 s3) (fun s22 => m_x12_codesTell_J136 lr19 x1 x2 s22))) else bn (m_x12_qPartOf (y12 - 40) 0 s3) (fun rl29 => bn (m_x12_qPuts rl29 s3) (fun s31 => m_x12_codesTell_J136 lr19 x1 x2 s31))) else rg (y12 - 1000) (bn (m_x12_qPuts (y12 - 1000) s3) (fun s34 => m_x12_codesTell_J136 lr19 x1 x2 s34)))))))
def m_x12_codesTell_L19 (n : Nat) : Int → Int → MS → Option (Int × MS) := lp (fun _ _ _ => none) (m_x12_codesTell_b19) n
def m_x12_codesTell (p0 : Int) (s : MS) : Option (Int × MS) :=
  stn (sI s 48 p0) (fun s35 => stn (sI s35 108 0) (fun s36 => rdI (gA s36 42) 6 (3 + p0) (fun y37 => m_x12_codesTell_L19 FU p0 y37 s36)))
def m_x12_taken_b126 (lr126 : Int → Int → Int → Int → MS → Option (Int × MS)) (x1 : Int) (x2 : Int) (x3 : Int) (x4 : Int) (s5 : MS) : Option (Int × MS) :=
  rg x4 (if 16 ≤ x4 then inb 906 x3 (stn (sA s5 49 (upZ (gA s5 49) (Int.toNat x3) 1)) (fun s9 => inb 906 (x3 + 2) (stn (sA s9 49 (upZ (gA s9 49) (Int.toNat (x3 + 2)) x1)) (fun s11 => inb 48 x2 (bo 1 (stn (sA s11 54 (upZ (gA s11 54) (Int.toNat x2) 1)) (fun s14 => some (x2, s14)))))))) else inb 906 (x3 + x4) (stn (sA s5 49 (upZ (gA s5 49) (Int.toNat (x3 + x4)) 0)) (fun s16 => lr126 x1 x2 x3 (x4 + 1) s16)))
def m_x12_taken_L126 (n : Nat) : Int → Int → Int → Int → MS → Option (Int × MS) := lp (fun _ _ _ _ _ => none) (m_x12_taken_b126) n
def m_x12_taken_J102 (x17 : Int) (x18 : Int) (s19 : MS) : Option (Int × MS) :=
  rg x18 (if x18 = (-1) then stn (sI s19 55 1) (fun s22 => some (0, s22)) else m_x12_taken_L126 FU x17 x18 (17 + (16 * x18)) 0 s19)
def m_x12_taken_J96 (lr8 : Int → Int → Int → Int → Int → MS → Option (Int × MS)) (x29 : Int) (x30 : Int) (x31 : Int) (z32 : Int) (x33 : Int) (s34 : MS) : Option (Int × MS) :=
  lr8 x29 x30 x31 z32 (x33 + 1) s34
def m_x12_taken_J89 (lr8 : Int → Int → Int → Int → Int → MS → Option (Int × MS)) (x35 : Int) (x36 : Int) (x37 : Int) (z38 : Int) (s39 : MS) : Option (Int × MS) :=
  m_x12_taken_J96 lr8 x35 x36 x37 z38 x37 s39
def m_x12_taken_J71 (lr8 : Int → Int → Int → Int → Int → MS → Option (Int × MS)) (x40 : Int) (x41 : Int) (x42 : Int) (z43 : Int) (x44 : Int) (z45 : Int) (s46 : MS) : Option (Int × MS) :=
  rg x42 (if x42 = (-1) then m_x12_taken_J89 lr8 x40 x41 x44 z45 s46 else rgL z45 (rgL z43 (if z45 < z43 then m_x12_taken_J89 lr8 x40 x41 x44 z45 s46 else m_x12_taken_J96 lr8 x40 x41 x42 z43 x44 s46)))
def m_x12_taken_b8 (lr8 : Int → Int → Int → Int → Int → MS → Option (Int × MS)) (x23 : Int) (x24 : Int) (x25 : Int) (z26 : Int) (x27 : Int) (s28 : MS) : Option (Int × MS) :=
  bn (m_x12_blockMany s28) (fun r53 => rg x27 (rg r53 (if r53 ≤ x27 then m_x12_taken_J102 x23 x25 s28 else rg (gI s28 55) (if (gI s28 55) = 0 then bn (m_x12_isThere x27 s28) (fun r60 => rg r60 (if r60 = 0 then stn (sI s28 50 x27) (fun s63 => stn (sI s63 51 x24) (fun s64 => stn (sI s64 52 x23) (fun s65 => bn (m_x12_isCoded 0 s65) (fun r67 => rg r67 (if r67 = 0 then rg x27 (m_x12_taken_J71 lr8 x23 x24 x25 z26 x27 x27 s65) else bn (m_x12_codesTell 0 s65) (fun qrl73 => m_x12_taken_J71 lr8 x23 x24 x25 z26 x27 qrl73.1 qrl73.2)))))) else m_x12_taken_J96 lr8 x23 x24 x25 z26 x27 s28)) else m_x12_taken_J102 x23 x25 s28))))
def m_x12_taken_L8 (n : Nat) : Int → Int → Int → Int → Int → MS → Option (Int × MS) := lp (fun _ _ _ _ _ _ => none) (m_x12_taken_b8) n
def m_x12_taken (p0 : Int) (p1 : Int) (s : MS) : Option (Int × MS) :=
  m_x12_taken_L8 FU p0 p1 (-1) 0 0 s
def m_x12_owned_J117 (x1 : Int) (x2 : Int) (s3 : MS) : Option (Int × MS) :=
  bn (m_x12_falls x1 s3) (fun s5 => some (x2, s5))
def m_x12_owned_b91 (lr91 : Int → Int → Int → MS → Option (Int × MS)) (x6 : Int) (x7 : Int) (x8 : Int) (s9 : MS) : Option (Int × MS) :=
  bn (m_x12_entriesOf x6 s9) (fun r11 => rg x8 (rg r11 (if r11 ≤ x8 then m_x12_owned_J117 x6 x7 s9 else bn (m_x12_valueAt x6 x8 s9) (fun r16 => bn (m_x12_counts r16 1 s9) (fun s18 => lr91 x6 x7 (x8 + 1) s18)))))
def m_x12_owned_L91 (n : Nat) : Int → Int → Int → MS → Option (Int × MS) := lp (fun _ _ _ _ => none) (m_x12_owned_b91) n
def m_x12_owned_b41 (lr41 : Int → Int → Int → MS → Option (Int × MS)) (x19 : Int) (x20 : Int) (x21 : Int) (s22 : MS) : Option (Int × MS) :=
  rg x21 (if 16 ≤ x21 then bn (m_x12_levelOf x19 s22) (fun r26 => rg r26 (if r26 ≤ 0 then m_x12_owned_J117 x19 x20 s22 else m_x12_owned_L91 FU x19 x20 0 s22)) else rdI (gA s22 49) 906 ((17 + (16 * x19)) + x21) (fun y29 => inb 906 ((17 + (16 * x20)) + x21) (stn (sA s22 49 (upZ (gA s22 49) (Int.toNat ((17 + (16 * x20)) + x21)) y29)) (fun s31 => lr41 x19 x20 (x21 + 1) s31))))
def m_x12_owned_L41 (n : Nat) : Int → Int → Int → MS → Option (Int × MS) := lp (fun _ _ _ _ => none) (m_x12_owned_b41) n
def m_x12_owned_J19 (x32 : Int) (s33 : MS) : Option (Int × MS) :=
  bn (m_x12_levelOf x32 s33) (fun r35 => bn (m_x12_taken r35 x32 s33) (fun qr38 => rg (gI qr38.2 55) (if (gI qr38.2 55) = 0 then m_x12_owned_L41 FU x32 qr38.1 3 qr38.2 else some (x32, qr38.2))))
def m_x12_owned (p0 : Int) (s : MS) : Option (Int × MS) :=
  bn (m_x12_isFresh p0 s) (fun r42 => rg r42 (if r42 = 0 then m_x12_owned_J19 p0 s else bn (m_x12_countOf p0 s) (fun r46 => rg r46 (if r46 = 1 then some (p0, s) else m_x12_owned_J19 p0 s))))
def m_x12_removes_J182 (x1 : Int) (x2 : Int) (s3 : MS) : Option MS :=
  bn (m_x12_entriesOf x2 s3) (fun r5 => rg r5 (if r5 = 0 then bn (m_x12_counts x2 (-1) s3) (fun s11 => inb 906 x1 (stn (sA s11 49 (upZ (gA s11 49) (Int.toNat x1) 254)) (fun s13 => some s13))) else bn (m_x12_lowers x1 s3) (fun s9 => some s9)))
def m_x12_removes_b137 (lr137 : Int → Int → Int → MS → Option MS) (x14 : Int) (x15 : Int) (x16 : Int) (s17 : MS) : Option MS :=
  bn (m_x12_entriesOf x15 s17) (fun r19 => rg r19 (if r19 = 0 then rg x16 (if x16 ≤ 0 then m_x12_removes_J182 x14 x15 s17 else bn (m_x12_counts x15 (-1) s17) (fun s25 => rdI (gA s25 57) 48 (x16 + (-1)) (fun y26 => rdI (gA s25 58) 48 (x16 + (-1)) (fun y27 => bn (m_x12_cutsEntry y26 y27 s25) (fun s29 => lr137 x14 y26 (x16 + (-1)) s29))))) else m_x12_removes_J182 x14 x15 s17))
def m_x12_removes_L137 (n : Nat) : Int → Int → Int → MS → Option MS := lp (fun _ _ _ _ => none) (m_x12_removes_b137) n
def m_x12_removes_J118 (x30 : Int) (x31 : Int) (x32 : Int) (x33 : Int) (s34 : MS) : Option MS :=
  rg (gI s34 55) (if (gI s34 55) = 0 then bn (m_x12_placeIn x32 x31 s34) (fun r38 => bn (m_x12_cutsEntry x32 r38 s34) (fun s40 => m_x12_removes_L137 FU x30 x32 x33 s40)) else some s34)
def m_x12_removes_J92 (lr29 : Int → Int → Int → Int → MS → Option MS) (x46 : Int) (x47 : Int) (x48 : Int) (x49 : Int) (x50 : Int) (x51 : Int) (s52 : MS) : Option MS :=
  inb 48 x49 (stn (sA s52 57 (upZ (gA s52 57) (Int.toNat x49) x48)) (fun s54 => inb 48 x49 (stn (sA s54 58 (upZ (gA s54 58) (Int.toNat x49) x50)) (fun s56 => lr29 x46 x47 x51 (x49 + 1) s56))))
def m_x12_removes_b29 (lr29 : Int → Int → Int → Int → MS → Option MS) (x41 : Int) (x42 : Int) (x43 : Int) (x44 : Int) (s45 : MS) : Option MS :=
  rg (gI s45 55) (if (gI s45 55) = 0 then bn (m_x12_levelOf x43 s45) (fun r60 => rg r60 (if r60 ≤ 0 then m_x12_removes_J118 x41 x42 x43 x44 s45 else bn (m_x12_placeFor x43 x42 s45) (fun r64 => bn (m_x12_valueAt x43 r64 s45) (fun r66 => bn (m_x12_owned r66 s45) (fun qr69 => rg qr69.1 (rg r66 (if qr69.1 = r66 then m_x12_removes_J92 lr29 x41 x42 x43 x44 r64 qr69.1 qr69.2 else bn (m_x12_keyAt x43 r64 qr69.2) (fun r74 => bn (m_x12_setsEntry x43 r64 r74 qr69.1 qr69.2) (fun s76 => m_x12_removes_J92 lr29 x41 x42 x43 x44 r64 qr69.1 s76))))))))) else m_x12_removes_J118 x41 x42 x43 x44 s45)
def m_x12_removes_L29 (n : Nat) : Int → Int → Int → Int → MS → Option MS := lp (fun _ _ _ _ _ => none) (m_x12_removes_b29) n
def m_x12_removes (p0 : Int) (p1 : Int) (s : MS) : Option MS :=
  rdI (gA s 49) 906 p0 (fun y77 => bn (m_x12_owned y77 s) (fun qr80 => rg (gI qr80.2 55) (if (gI qr80.2 55) = 0 then inb 906 p0 (stn (sA qr80.2 49 (upZ (gA qr80.2 49) (Int.toNat p0) qr80.1)) (fun s84 => m_x12_removes_L29 FU p0 p1 qr80.1 0 s84)) else some qr80.2)))
def m_x12_inserts_b7 (lr7 : Int → Int → Int → Int → Int → MS → Option MS) (x1 : Int) (x2 : Int) (x3 : Int) (x4 : Int) (x5 : Int) (s6 : MS) : Option MS :=
  rg x5 (rg x2 (if x5 ≤ x2 then bn (m_x12_setsEntry x1 x2 x3 x4 s6) (fun s11 => rdI (gA s11 49) 906 ((17 + (16 * x1)) + 3) (fun y12 => inb 906 ((17 + (16 * x1)) + 3) (stn (sA s11 49 (upZ (gA s11 49) (Int.toNat ((17 + (16 * x1)) + 3)) (y12 + 1))) (fun s14 => some s14)))) else bn (m_x12_keyAt x1 (x5 - 1) s6) (fun r16 => bn (m_x12_valueAt x1 (x5 - 1) s6) (fun r18 => bn (m_x12_setsEntry x1 x5 r16 r18 s6) (fun s20 => lr7 x1 x2 x3 x4 (x5 + (-1)) s20)))))
def m_x12_inserts_L7 (n : Nat) : Int → Int → Int → Int → Int → MS → Option MS := lp (fun _ _ _ _ _ _ => none) (m_x12_inserts_b7) n
def m_x12_inserts (p0 : Int) (p1 : Int) (p2 : Int) (p3 : Int) (s : MS) : Option MS :=
  bn (m_x12_entriesOf p0 s) (fun r22 => m_x12_inserts_L7 FU p0 p1 p2 p3 r22 s)
def m_x12_putsIn_J73 (s1 : MS) : Option MS :=
  some s1
def m_x12_putsIn_J34 (x2 : Int) (x3 : Int) (x4 : Int) (x5 : Int) (x6 : Int) (s7 : MS) : Option MS :=
  rg x6 (if x6 = 0 then bn (m_x12_inserts x2 x5 x3 x4 s7) (fun s18 => m_x12_putsIn_J73 s18) else bn (m_x12_valueAt x2 x5 s7) (fun r11 => rg r11 (rg x4 (if r11 = x4 then m_x12_putsIn_J73 s7 else bn (m_x12_setsEntry x2 x5 x3 x4 s7) (fun s16 => m_x12_putsIn_J73 s16)))))
def m_x12_putsIn_J33 (x19 : Int) (x20 : Int) (x21 : Int) (x22 : Int) (s23 : MS) : Option MS :=
  m_x12_putsIn_J34 x19 x20 x21 x22 0 s23
def m_x12_putsIn (p0 : Int) (p1 : Int) (p2 : Int) (s : MS) : Option MS :=
  bn (m_x12_placeIn p0 p1 s) (fun r25 => bn (m_x12_entriesOf p0 s) (fun r27 => rg r25 (rg r27 (if r27 ≤ r25 then m_x12_putsIn_J33 p0 p1 p2 r25 s else bn (m_x12_keyAt p0 r25 s) (fun r32 => rg r32 (rg p1 (if r32 = p1 then m_x12_putsIn_J34 p0 p1 p2 r25 1 s else m_x12_putsIn_J33 p0 p1 p2 r25 s)))))))
def m_x12_roomOf (s : MS) : Option Int :=
  rdI (gA s 39) 10 6 (fun y1 => some y1)
def m_x12_doesSplit_J60 (x1 : Int) (s2 : MS) : Option (Int × MS) :=
  bo x1 (some (x1, s2))
def m_x12_doesSplit_J29 (s4 : MS) : Option (Int × MS) :=
  some (0, s4)
def m_x12_doesSplit (p0 : Int) (s : MS) : Option (Int × MS) :=
  bn (m_x12_entriesOf p0 s) (fun r6 => bn (m_x12_roomOf s) (fun r8 => rg r6 (rg r8 (if r6 < r8 then rg r6 (if r6 < 2 then m_x12_doesSplit_J29 s else bn (m_x12_isCoded 1 s) (fun r15 => rg r15 (if r15 = 0 then m_x12_doesSplit_J29 s else bn (m_x12_levelOf p0 s) (fun r19 => stn (sI s 52 r19) (fun s20 => stn (sI s20 53 r6) (fun s21 => bn (m_x12_codesTell 1 s21) (fun qrl24 => rgL qrl24.1 (if qrl24.1 = 1 then m_x12_doesSplit_J60 1 qrl24.2 else m_x12_doesSplit_J60 0 qrl24.2)))))))) else some (1, s)))))
def m_x12_half_J142 (x1 : Int) (s2 : MS) : Option (Int × MS) :=
  some (x1, s2)
def m_x12_half_b43 (lr43 : Int → Int → Int → Int → Int → Int → Int → Int → MS → Option (Int × MS)) (x3 : Int) (x4 : Int) (x5 : Int) (x6 : Int) (x7 : Int) (x8 : Int) (x9 : Int) (x10 : Int) (s11 : MS) : Option (Int × MS) :=
  rg x10 (rg x8 (if x8 ≤ x10 then inb 906 ((17 + (16 * x5)) + 3) (stn (sA s11 49 (upZ (gA s11 49) (Int.toNat ((17 + (16 * x5)) + 3)) x9)) (fun s16 => inb 48 x5 (bo 1 (stn (sA s16 54 (upZ (gA s16 54) (Int.toNat x5) 1)) (fun s19 => bn (m_x12_keyAt x7 0 s19) (fun r21 => bn (m_x12_inserts x3 (x4 + 1) r21 x7 s19) (fun s23 => bn (m_x12_keyAt x7 0 s23) (fun r25 => rg r25 (rg x6 (if x6 < r25 then m_x12_half_J142 x5 s23 else m_x12_half_J142 x7 s23)))))))))) else bn (m_x12_keyAt x5 (x9 + x10) s11) (fun r30 => bn (m_x12_valueAt x5 (x9 + x10) s11) (fun r32 => bn (m_x12_inserts x7 x10 r30 r32 s11) (fun s34 => lr43 x3 x4 x5 x6 x7 x8 x9 (x10 + 1) s34)))))
def m_x12_half_L43 (n : Nat) : Int → Int → Int → Int → Int → Int → Int → Int → MS → Option (Int × MS) := lp (fun _ _ _ _ _ _ _ _ _ => none) (m_x12_half_b43) n
def m_x12_half (p0 : Int) (p1 : Int) (p2 : Int) (p3 : Int) (s : MS) : Option (Int × MS) :=
  bn (m_x12_levelOf p2 s) (fun r36 => bn (m_x12_taken r36 p2 s) (fun qr39 => rg (gI qr39.2 55) (if (gI qr39.2 55) = 0 then bn (m_x12_entriesOf p2 qr39.2) (fun r43 => dv r43 2 (bn (m_x12_entriesOf p2 qr39.2) (fun r46 => m_x12_half_L43 FU p0 p1 p2 p3 qr39.1 (Int.tdiv r43 2) (r46 - (Int.tdiv r43 2)) 0 qr39.2))) else some (p2, qr39.2))))
def m_x12_rootSplit (p0 : Int) (p1 : Int) (p2 : Int) (s : MS) : Option (Int × MS) :=
  bn (m_x12_levelOf p1 s) (fun r2 => bn (m_x12_taken (r2 + 1) 48 s) (fun qr5 => rg (gI qr5.2 55) (if (gI qr5.2 55) = 0 then bn (m_x12_keyAt p1 0 qr5.2) (fun r9 => bn (m_x12_inserts qr5.1 0 r9 p1 qr5.2) (fun s11 => inb 906 p0 (stn (sA s11 49 (upZ (gA s11 49) (Int.toNat p0) qr5.1)) (fun s13 => bn (m_x12_half qr5.1 0 p1 p2 s13) (fun qr16 => some (qr16.1, qr16.2)))))) else some (p1, qr5.2))))
def m_x12_puts_J213 (s1 : MS) : Option MS :=
  some s1
def m_x12_puts_J198 (x2 : Int) (x3 : Int) (x4 : Int) (s5 : MS) : Option MS :=
  rg (gI s5 55) (if (gI s5 55) = 0 then bn (m_x12_putsIn x4 x2 x3 s5) (fun s9 => m_x12_puts_J213 s9) else m_x12_puts_J213 s5)
def m_x12_puts_J191 (lr94 : Int → Int → Int → MS → Option MS) (x14 : Int) (x15 : Int) (x16 : Int) (s17 : MS) : Option MS :=
  lr94 x14 x15 x16 s17
def m_x12_puts_J162 (lr94 : Int → Int → Int → MS → Option MS) (x18 : Int) (x19 : Int) (x20 : Int) (x21 : Int) (x22 : Int) (s23 : MS) : Option MS :=
  rg (gI s23 55) (if (gI s23 55) = 0 then bn (m_x12_doesSplit x22 s23) (fun qr28 => rg qr28.1 (if qr28.1 = 0 then m_x12_puts_J191 lr94 x18 x19 x22 qr28.2 else bn (m_x12_half x20 x21 x22 x18 qr28.2) (fun qr33 => m_x12_puts_J191 lr94 x18 x19 qr33.1 qr33.2))) else m_x12_puts_J191 lr94 x18 x19 x22 s23)
def m_x12_puts_b94 (lr94 : Int → Int → Int → MS → Option MS) (x10 : Int) (x11 : Int) (x12 : Int) (s13 : MS) : Option MS :=
  rg (gI s13 55) (if (gI s13 55) = 0 then bn (m_x12_levelOf x12 s13) (fun r37 => rg r37 (if r37 ≤ 0 then m_x12_puts_J198 x10 x11 x12 s13 else bn (m_x12_placeFor x12 x10 s13) (fun r41 => bn (m_x12_valueAt x12 r41 s13) (fun r43 => bn (m_x12_owned r43 s13) (fun qr46 => rg qr46.1 (rg r43 (if qr46.1 = r43 then m_x12_puts_J162 lr94 x10 x11 x12 r41 qr46.1 qr46.2 else bn (m_x12_keyAt x12 r41 qr46.2) (fun r51 => bn (m_x12_setsEntry x12 r41 r51 qr46.1 qr46.2) (fun s53 => m_x12_puts_J162 lr94 x10 x11 x12 r41 qr46.1 s53))))))))) else m_x12_puts_J198 x10 x11 x12 s13)
def m_x12_puts_L94 (n : Nat) : Int → Int → Int → MS → Option MS := lp (fun _ _ _ _ => none) (m_x12_puts_b94) n
def m_x12_puts (p0 : Int) (p1 : Int) (p2 : Int) (s : MS) : Option MS :=
  rdI (gA s 49) 906 p0 (fun y54 => rg y54 (if y54 = 254 then bn (m_x12_taken 0 48 s) (fun qr75 => rg (gI qr75.2 55) (if (gI qr75.2 55) = 0 then bn (m_x12_inserts qr75.1 0 p1 p2 qr75.2) (fun s79 => inb 906 p0 (stn (sA s79 49 (upZ (gA s79 49) (Int.toNat p0) qr75.1)) (fun s81 => some s81))) else some qr75.2)) else rdI (gA s 49) 906 p0 (fun y57 => bn (m_x12_owned y57 s) (fun qr60 => rg (gI qr60.2 55) (if (gI qr60.2 55) = 0 then inb 906 p0 (stn (sA qr60.2 49 (upZ (gA qr60.2 49) (Int.toNat p0) qr60.1)) (fun s64 => bn (m_x12_doesSplit qr60.1 s64) (fun qr67 => rg qr67.1 (if qr67.1 = 0 then m_x12_puts_L94 FU p1 p2 qr60.1 qr67.2 else bn (m_x12_rootSplit p0 qr60.1 p1 qr67.2) (fun qr72 => m_x12_puts_L94 FU p1 p2 qr72.1 qr72.2))))) else some qr60.2)))))
def m_x12_valueFrom_J74 (s : MS) (x1 : Int) : Option Int :=
  some x1
def m_x12_valueFrom_J73 (s : MS) (_u : Unit) : Option Int :=
  m_x12_valueFrom_J74 s (-1)
def m_x12_valueFrom_b11 (s : MS) (lr11 : Int → Int → Option Int) (x2 : Int) (x3 : Int) : Option Int :=
  bn (m_x12_levelOf x3 s) (fun r5 => rg r5 (if r5 ≤ 0 then bn (m_x12_placeIn x3 x2 s) (fun r9 => bn (m_x12_entriesOf x3 s) (fun r11 => rg r9 (rg r11 (if r11 ≤ r9 then m_x12_valueFrom_J73 s () else bn (m_x12_keyAt x3 r9 s) (fun r16 => rg r16 (rg x2 (if r16 = x2 then bn (m_x12_valueAt x3 r9 s) (fun r21 => m_x12_valueFrom_J74 s r21) else m_x12_valueFrom_J73 s ()))))))) else bn (m_x12_placeFor x3 x2 s) (fun r23 => bn (m_x12_valueAt x3 r23 s) (fun r25 => lr11 x2 r25))))
def m_x12_valueFrom_L11 (s : MS) (n : Nat) : Int → Int → Option Int := lp (fun _ _ => none) (m_x12_valueFrom_b11 s) n
def m_x12_valueFrom (p0 : Int) (p1 : Int) (s : MS) : Option Int :=
  rg p0 (if p0 < 254 then m_x12_valueFrom_L11 s FU p1 p0 else some (-1))
def m_x12_valueOf (p0 : Int) (p1 : Int) (s : MS) : Option Int :=
  rdI (gA s 49) 906 p0 (fun y1 => bn (m_x12_valueFrom y1 p1 s) (fun r3 => some r3))
def m_x12_tries_b164 (lr164 : Int → MS → Option (Int × MS)) (x1 : Int) (s2 : MS) : Option (Int × MS) :=
  rg x1 (if 48 ≤ x1 then stn (sI s2 55 0) (fun s5 => some (0, s5)) else rdI (gA s2 60) 48 x1 (fun y6 => inb 48 x1 (bo y6 (stn (sA s2 54 (upZ (gA s2 54) (Int.toNat x1) y6)) (fun s9 => lr164 (x1 + 1) s9)))))
def m_x12_tries_L164 (n : Nat) : Int → MS → Option (Int × MS) := lp (fun _ _ => none) (m_x12_tries_b164) n
def m_x12_tries_b133 (lr133 : Int → MS → Option (Int × MS)) (x10 : Int) (s11 : MS) : Option (Int × MS) :=
  rg x10 (if 785 ≤ x10 then m_x12_tries_L164 FU 0 s11 else rdI (gA s11 59) 785 x10 (fun y14 => inb 906 x10 (stn (sA s11 49 (upZ (gA s11 49) (Int.toNat x10) y14)) (fun s16 => lr133 (x10 + 1) s16))))
def m_x12_tries_L133 (n : Nat) : Int → MS → Option (Int × MS) := lp (fun _ _ => none) (m_x12_tries_b133) n
def m_x12_tries_J121 (s17 : MS) : Option (Int × MS) :=
  rg (gI s17 55) (if (gI s17 55) = 0 then some (1, s17) else m_x12_tries_L133 FU 0 s17)
def m_x12_tries_J108 (x20 : Int) (x21 : Int) (s22 : MS) : Option (Int × MS) :=
  rg (gI s22 55) (if (gI s22 55) = 0 then bn (m_x12_removes x20 x21 s22) (fun s26 => m_x12_tries_J121 s26) else m_x12_tries_J121 s22)
def m_x12_tries_J82 (x27 : Int) (x28 : Int) (x29 : Int) (x30 : Int) (x31 : Int) (s32 : MS) : Option (Int × MS) :=
  bo x31 (stn (sI s32 55 x31) (fun s34 => rg (gI s34 55) (if (gI s34 55) = 0 then rg x27 (if x27 = 2 then bn (m_x12_puts x28 x29 x30 s34) (fun s40 => m_x12_tries_J121 s40) else m_x12_tries_J108 x28 x29 s34) else m_x12_tries_J108 x28 x29 s34)))
def m_x12_tries_J81 (x41 : Int) (x42 : Int) (x43 : Int) (x44 : Int) (s45 : MS) : Option (Int × MS) :=
  m_x12_tries_J82 x41 x42 x43 x44 0 s45
def m_x12_tries_b34 (lr34 : Int → Int → Int → Int → Int → MS → Option (Int × MS)) (x46 : Int) (x47 : Int) (x48 : Int) (x49 : Int) (x50 : Int) (s51 : MS) : Option (Int × MS) :=
  rg x50 (if 48 ≤ x50 then rg x46 (if x46 = 3 then bn (m_x12_valueOf x47 x48 s51) (fun r57 => rg r57 (if r57 = (-1) then m_x12_tries_J82 x46 x47 x48 x49 1 s51 else m_x12_tries_J81 x46 x47 x48 x49 s51)) else m_x12_tries_J81 x46 x47 x48 x49 s51) else rdI (gA s51 54) 48 x50 (fun y60 => inb 48 x50 (bo y60 (stn (sA s51 60 (upZ (gA s51 60) (Int.toNat x50) y60)) (fun s63 => lr34 x46 x47 x48 x49 (x50 + 1) s63)))))
def m_x12_tries_L34 (n : Nat) : Int → Int → Int → Int → Int → MS → Option (Int × MS) := lp (fun _ _ _ _ _ _ => none) (m_x12_tries_b34) n
def m_x12_tries_b3 (lr3 : Int → Int → Int → Int → Int → MS → Option (Int × MS)) (x64 : Int) (x65 : Int) (x66 : Int) (x67 : Int) (x68 : Int) (s69 : MS) : Option (Int × MS) :=
  rg x68 (if 785 ≤ x68 then m_x12_tries_L34 FU x64 x65 x66 x67 0 s69 else rdI (gA s69 49) 906 x68 (fun y72 => inb 785 x68 (stn (sA s69 59 (upZ (gA s69 59) (Int.toNat x68) y72)) (fun s74 => lr3 x64 x65 x66 x67 (x68 + 1) s74))))
def m_x12_tries_L3 (n : Nat) : Int → Int → Int → Int → Int → MS → Option (Int × MS) := lp (fun _ _ _ _ _ _ => none) (m_x12_tries_b3) n
def m_x12_tries (p0 : Int) (p1 : Int) (p2 : Int) (p3 : Int) (s : MS) : Option (Int × MS) :=
  m_x12_tries_L3 FU p0 p1 p2 p3 0 s
def m_x12_copies_J35 (s1 : MS) : Option MS :=
  some s1
def m_x12_copies (p0 : Int) (p1 : Int) (s : MS) : Option MS :=
  rdI (gA s 49) 906 p0 (fun y2 => inb 906 p1 (stn (sA s 49 (upZ (gA s 49) (Int.toNat p1) y2)) (fun s4 => rdI (gA s4 49) 906 p1 (fun y5 => rg y5 (if y5 = 254 then m_x12_copies_J35 s4 else rdI (gA s4 49) 906 p1 (fun y8 => bn (m_x12_counts y8 1 s4) (fun s10 => m_x12_copies_J35 s10)))))))
def m_x12_actGoes_J40 (s1 : MS) : Option MS :=
  some s1
def m_x12_actGoes (p0 : Int) (p1 : Int) (p2 : Int) (p3 : Int) (s : MS) : Option MS :=
  rg p0 (if p0 = 0 then inb 906 p1 (stn (sA s 49 (upZ (gA s 49) (Int.toNat p1) 254)) (fun s12 => m_x12_actGoes_J40 s12)) else rg p0 (if p0 = 1 then bn (m_x12_copies p1 p2 s) (fun s10 => m_x12_actGoes_J40 s10) else bn (m_x12_tries p0 p1 p2 p3 s) (fun qr8 => m_x12_actGoes_J40 qr8.2)))
def m_x12_stands_b193 (lr193 : Int → MS → Option MS) (x1 : Int) (s2 : MS) : Option MS :=
  rdI (gA s2 39) 10 3 (fun y3 => rg x1 (rg y3 (if y3 ≤ x1 then bn (m_x12_checks s2) (fun s8 => inb 906 16 (stn (sA s8 49 (upZ (gA s8 49) (Int.toNat 16) 0)) (fun s10 => stn (sI s10 76 0) (fun s11 => stn (sI s11 73 0) (fun s12 => some s12))))) else rdI (gA s2 41) 240 (4 * x1) (fun y13 => rdI (gA s2 41) 240 ((4 * x1) + 1) (fun y14 => rdI (gA s2 41) 240 ((4 * x1) + 2) (fun y15 => rdI (gA s2 41) 240 ((4 * x1) + 3) (fun y16 => bn (m_x12_actGoes y13 y14 y15 y16 s2) (fun s18 => lr193 (x1 + 1) s18))))))))
def m_x12_stands_L193 (n : Nat) : Int → MS → Option MS := lp (fun _ _ => none) (m_x12_stands_b193) n
def m_x12_stands_b158 (lr158 : Int → MS → Option MS) (x19 : Int) (s20 : MS) : Option MS :=
  rg x19 (if 8 ≤ x19 then m_x12_stands_L193 FU 0 s20 else inb 906 x19 (stn (sA s20 49 (upZ (gA s20 49) (Int.toNat x19) 255)) (fun s24 => inb 906 (8 + x19) (stn (sA s24 49 (upZ (gA s24 49) (Int.toNat (8 + x19)) 255)) (fun s26 => lr158 (x19 + 1) s26)))))
def m_x12_stands_L158 (n : Nat) : Int → MS → Option MS := lp (fun _ _ => none) (m_x12_stands_b158) n
def m_x12_stands_b136 (lr136 : Int → MS → Option MS) (x27 : Int) (s28 : MS) : Option MS :=
  rg x27 (if 906 ≤ x27 then m_x12_stands_L158 FU 0 s28 else inb 906 x27 (stn (sA s28 49 (upZ (gA s28 49) (Int.toNat x27) 0)) (fun s32 => lr136 (x27 + 1) s32)))
def m_x12_stands_L136 (n : Nat) : Int → MS → Option MS := lp (fun _ _ => none) (m_x12_stands_b136) n
def m_x12_stands_b104 (lr104 : Int → MS → Option MS) (x33 : Int) (s34 : MS) : Option MS :=
  rg x33 (rg (gI s34 45) (if (gI s34 45) ≤ x33 then m_x12_stands_L136 FU 0 s34 else rdI (gA s34 44) 3200 x33 (fun y38 => inb 3200 (1600 + x33) (stn (sA s34 44 (upZ (gA s34 44) (Int.toNat (1600 + x33)) y38)) (fun s40 => lr104 (x33 + 1) s40)))))
def m_x12_stands_L104 (n : Nat) : Int → MS → Option MS := lp (fun _ _ => none) (m_x12_stands_b104) n
def m_x12_stands_b75 (lr75 : Int → MS → Option MS) (x41 : Int) (s42 : MS) : Option MS :=
  rg x41 (if 8 ≤ x41 then m_x12_stands_L104 FU 0 s42 else rdL (gB s42 40) 16 x41 (fun yl45 => inb 16 (8 + x41) (stn (sB s42 40 (upZ (gB s42 40) (Int.toNat (8 + x41)) yl45)) (fun s47 => lr75 (x41 + 1) s47))))
def m_x12_stands_L75 (n : Nat) : Int → MS → Option MS := lp (fun _ _ => none) (m_x12_stands_b75) n
def m_x12_stands_b34 (lr34 : Int → MS → Option MS) (x48 : Int) (s49 : MS) : Option MS :=
  rg x48 (if 3 ≤ x48 then m_x12_stands_L75 FU 0 s49 else rdI (gA s49 42) 6 x48 (fun y52 => inb 6 (3 + x48) (stn (sA s49 42 (upZ (gA s49 42) (Int.toNat (3 + x48)) y52)) (fun s54 => rdI (gA s54 43) 6 x48 (fun y55 => inb 6 (3 + x48) (stn (sA s54 43 (upZ (gA s54 43) (Int.toNat (3 + x48)) y55)) (fun s57 => lr34 (x48 + 1) s57)))))))
def m_x12_stands_L34 (n : Nat) : Int → MS → Option MS := lp (fun _ _ => none) (m_x12_stands_b34) n
def m_x12_stands_b7 (lr7 : Int → MS → Option MS) (x58 : Int) (s59 : MS) : Option MS :=
  rg x58 (if 5 ≤ x58 then m_x12_stands_L34 FU 0 s59 else rdI (gA s59 39) 10 x58 (fun y62 => inb 10 (5 + x58) (stn (sA s59 39 (upZ (gA s59 39) (Int.toNat (5 + x58)) y62)) (fun s64 => lr7 (x58 + 1) s64))))
def m_x12_stands_L7 (n : Nat) : Int → MS → Option MS := lp (fun _ _ => none) (m_x12_stands_b7) n
def m_x12_stands (s : MS) : Option MS :=
  stn (sI s 47 1) (fun s65 => m_x12_stands_L7 FU 0 s65)
def m_x12_refuses (p0 : Int) (s : MS) : Option (Int × MS) :=
  rdI (gA s 9) 6 p0 (fun y1 => inb 6 p0 (stn (sA s 9 (upZ (gA s 9) (Int.toNat p0) (y1 + 1))) (fun s3 => some ((-1), s3))))
def m_x12_store_J109 (s1 : MS) : Option (Int × MS) :=
  stn (sI s1 7 (gI s1 5)) (fun s2 => stn (sI s2 8 (gI s2 6)) (fun s3 => rg (gI s3 5) (if (gI s3 5) = 0 then bn (m_x12_stands s3) (fun s7 => some (gI s7 46, s7)) else bn (m_x12_refuses 1 s3) (fun qr10 => some (qr10.1, qr10.2)))))
def m_x12_store_b87 (lr87 : MS → Option (Int × MS)) (s11 : MS) : Option (Int × MS) :=
  rg (gI s11 5) (if (gI s11 5) = 0 then bn (m_x12_look s11) (fun qr16 => rg qr16.1 (if qr16.1 = (-1) then m_x12_store_J109 qr16.2 else bn (m_x12_statementTold qr16.2) (fun s20 => lr87 s20))) else m_x12_store_J109 s11)
def m_x12_store_L87 (n : Nat) : MS → Option (Int × MS) := lp (fun _ => none) (m_x12_store_b87) n
def m_x12_store_b60 (lr60 : Int → MS → Option (Int × MS)) (x21 : Int) (s22 : MS) : Option (Int × MS) :=
  rg x21 (if 3 ≤ x21 then bn (m_x12_storeTold s22) (fun s26 => stn (sI s26 46 1) (fun s27 => m_x12_store_L87 FU s27)) else inb 6 x21 (stn (sA s22 42 (upZ (gA s22 42) (Int.toNat x21) (-1))) (fun s29 => lr60 (x21 + 1) s29)))
def m_x12_store_L60 (n : Nat) : Int → MS → Option (Int × MS) := lp (fun _ _ => none) (m_x12_store_b60) n
def m_x12_store_b40 (lr40 : Int → MS → Option (Int × MS)) (x30 : Int) (s31 : MS) : Option (Int × MS) :=
  rg x30 (if 5 ≤ x30 then m_x12_store_L60 FU 0 s31 else inb 10 x30 (stn (sA s31 39 (upZ (gA s31 39) (Int.toNat x30) 0)) (fun s35 => lr40 (x30 + 1) s35)))
def m_x12_store_L40 (n : Nat) : Int → MS → Option (Int × MS) := lp (fun _ _ => none) (m_x12_store_b40) n
def m_x12_store (s : MS) : Option (Int × MS) :=
  stn (sI s 3 (gI s 1)) (fun s36 => stn (sI s36 1 0) (fun s37 => stn (sI s37 2 0) (fun s38 => stn (sI s38 4 (-1)) (fun s39 => stn (sI s39 5 0) (fun s40 => stn (sI s40 6 (-1)) (fun s41 => stn (sI s41 45 0) (fun s42 => m_x12_store_L40 FU 0 s42)))))))
def m_x12_fault_J24 (s : MS) (x1 : Int) : Option Int :=
  some x1
def m_x12_fault (p0 : Int) (s : MS) : Option Int :=
  rg p0 (if p0 = 0 then m_x12_fault_J24 s (gI s 7) else rg p0 (if p0 = 1 then m_x12_fault_J24 s (gI s 8) else m_x12_fault_J24 s (-1)))
def m_x12_isBlock (p0 : Int) (s : MS) : Option Int :=
  bn (m_x12_blockMany s) (fun r2 => rg (r2 - 1) (bn (m_x12_isIn p0 0 (r2 - 1) s) (fun r5 => bo r5 (some r5))))
def m_x12_isHeld_J21 (s : MS) (x1 : Int) : Option Int :=
  bo x1 (some x1)
def m_x12_isHeld_J20 (s : MS) (_u : Unit) : Option Int :=
  m_x12_isHeld_J21 s 0
def m_x12_isHeld (p0 : Int) (s : MS) : Option Int :=
  bn (m_x12_isUsed p0 s) (fun r4 => rg r4 (if r4 = 0 then bn (m_x12_savedOf p0 s) (fun r8 => rg r8 (if r8 ≤ 0 then m_x12_isHeld_J20 s () else m_x12_isHeld_J21 s 1)) else m_x12_isHeld_J20 s ()))
def m_x12_isVolume_J36 (s : MS) (x1 : Int) : Option Int :=
  bo x1 (some x1)
def m_x12_isVolume_J35 (s : MS) (_u : Unit) : Option Int :=
  m_x12_isVolume_J36 s 0
def m_x12_isVolume (p0 : Int) (s : MS) : Option Int :=
  bn (m_x12_isIn p0 0 7 s) (fun r4 => rg r4 (if r4 = 0 then m_x12_isVolume_J35 s () else rg (gI s 47) (if (gI s 47) = 0 then m_x12_isVolume_J35 s () else rdI (gA s 49) 906 p0 (fun y9 => rg y9 (if y9 = 255 then m_x12_isVolume_J35 s () else m_x12_isVolume_J36 s 1)))))
def m_x12_clearsTouched_b2 (lr2 : Int → MS → Option MS) (x1 : Int) (s2 : MS) : Option MS :=
  rg x1 (if 48 ≤ x1 then some s2 else inb 48 x1 (bo 0 (stn (sA s2 54 (upZ (gA s2 54) (Int.toNat x1) 0)) (fun s7 => lr2 (x1 + 1) s7))))
def m_x12_clearsTouched_L2 (n : Nat) : Int → MS → Option MS := lp (fun _ _ => none) (m_x12_clearsTouched_b2) n
def m_x12_clearsTouched (s : MS) : Option MS :=
  m_x12_clearsTouched_L2 FU 0 s
def m_x12_costOf_J43 (x1 : Int) (s2 : MS) : Option (Int × MS) :=
  some (x1, s2)
def m_x12_costOf (p0 : Int) (s : MS) : Option (Int × MS) :=
  stn (sI s 50 p0) (fun s3 => bn (m_x12_levelOf p0 s3) (fun r5 => stn (sI s3 52 r5) (fun s6 => bn (m_x12_entriesOf p0 s6) (fun r8 => stn (sI s6 53 r8) (fun s9 => bn (m_x12_isCoded 2 s9) (fun r11 => rg r11 (if r11 = 0 then m_x12_costOf_J43 1 s9 else bn (m_x12_codesTell 2 s9) (fun qrl16 => bn (m_x12_clamp qrl16.1 qrl16.2) (fun r18 => m_x12_costOf_J43 r18 qrl16.2)))))))))
def m_x12_writtenMany_J32 (s : MS) (lr4 : Int → Int → Option Int) (x3 : Int) (x4 : Int) : Option Int :=
  lr4 x3 (x4 + 1)
def m_x12_writtenMany_b4 (s : MS) (lr4 : Int → Int → Option Int) (x1 : Int) (x2 : Int) : Option Int :=
  bn (m_x12_blockMany s) (fun r6 => rg x2 (rg r6 (if r6 ≤ x2 then some x1 else rdI (gA s 54) 48 x2 (fun y10 => rg y10 (if y10 = 0 then m_x12_writtenMany_J32 s lr4 x1 x2 else bn (m_x12_isUsed x2 s) (fun r14 => rg r14 (if r14 = 0 then m_x12_writtenMany_J32 s lr4 x1 x2 else m_x12_writtenMany_J32 s lr4 (x1 + 1) x2)))))))
def m_x12_writtenMany_L4 (s : MS) (n : Nat) : Int → Int → Option Int := lp (fun _ _ => none) (m_x12_writtenMany_b4 s) n
def m_x12_writtenMany (s : MS) : Option Int :=
  m_x12_writtenMany_L4 s FU 0 0
def m_x12_writtenCost_J37 (lr4 : Int → Int → MS → Option (Int × MS)) (x4 : Int) (x5 : Int) (s6 : MS) : Option (Int × MS) :=
  lr4 x4 (x5 + 1) s6
def m_x12_writtenCost_b4 (lr4 : Int → Int → MS → Option (Int × MS)) (x1 : Int) (x2 : Int) (s3 : MS) : Option (Int × MS) :=
  bn (m_x12_blockMany s3) (fun r8 => rg x2 (rg r8 (if r8 ≤ x2 then some (x1, s3) else rdI (gA s3 54) 48 x2 (fun y12 => rg y12 (if y12 = 0 then m_x12_writtenCost_J37 lr4 x1 x2 s3 else bn (m_x12_isUsed x2 s3) (fun r16 => rg r16 (if r16 = 0 then m_x12_writtenCost_J37 lr4 x1 x2 s3 else bn (m_x12_costOf x2 s3) (fun qr21 => m_x12_writtenCost_J37 lr4 (x1 + qr21.1) x2 qr21.2))))))))
def m_x12_writtenCost_L4 (n : Nat) : Int → Int → MS → Option (Int × MS) := lp (fun _ _ _ => none) (m_x12_writtenCost_b4) n
def m_x12_writtenCost (s : MS) : Option (Int × MS) :=
  m_x12_writtenCost_L4 FU 0 0 s
def m_x12_isKept_J105 (x1 : Int) (x2 : Int) (x3 : Int) (s4 : MS) : Option MS :=
  rdI (gA s4 49) 906 785 (fun y5 => inb 906 ((786 + (3 * y5)) - 3) (stn (sA s4 49 (upZ (gA s4 49) (Int.toNat ((786 + (3 * y5)) - 3)) x1)) (fun s7 => inb 906 (((786 + (3 * y5)) - 3) + 1) (stn (sA s7 49 (upZ (gA s7 49) (Int.toNat (((786 + (3 * y5)) - 3) + 1)) x2)) (fun s9 => inb 906 (((786 + (3 * y5)) - 3) + 2) (stn (sA s9 49 (upZ (gA s9 49) (Int.toNat (((786 + (3 * y5)) - 3) + 2)) x3)) (fun s11 => some s11)))))))
def m_x12_isKept_b60 (lr60 : Int → Int → Int → Int → MS → Option MS) (x12 : Int) (x13 : Int) (x14 : Int) (x15 : Int) (s16 : MS) : Option MS :=
  rg x15 (if 903 ≤ x15 then m_x12_isKept_J105 x12 x13 x14 s16 else rdI (gA s16 49) 906 (x15 + 3) (fun y19 => inb 906 x15 (stn (sA s16 49 (upZ (gA s16 49) (Int.toNat x15) y19)) (fun s21 => lr60 x12 x13 x14 (x15 + 1) s21))))
def m_x12_isKept_L60 (n : Nat) : Int → Int → Int → Int → MS → Option MS := lp (fun _ _ _ _ _ => none) (m_x12_isKept_b60) n
def m_x12_isKept_J42 (x22 : Int) (x23 : Int) (x24 : Int) (s25 : MS) : Option MS :=
  rdI (gA s25 49) 906 785 (fun y26 => rg y26 (if y26 = 40 then m_x12_isKept_L60 FU x22 x23 x24 786 s25 else rdI (gA s25 49) 906 785 (fun y29 => inb 906 785 (stn (sA s25 49 (upZ (gA s25 49) (Int.toNat 785) (y29 + 1))) (fun s31 => m_x12_isKept_J105 x22 x23 x24 s31)))))
def m_x12_isKept (p0 : Int) (p1 : Int) (s : MS) : Option MS :=
  bn (m_x12_writtenMany s) (fun r33 => rdI (gA s 49) 906 16 (fun y34 => bn (m_x12_writtenCost s) (fun qr37 => inb 906 16 (stn (sA qr37.2 49 (upZ (gA qr37.2 49) (Int.toNat 16) (y34 + qr37.1))) (fun s39 => rdI (gA s39 49) 906 16 (fun y40 => rg y40 (if y40 ≤ 999999 then m_x12_isKept_J42 p0 p1 r33 s39 else inb 906 16 (stn (sA s39 49 (upZ (gA s39 49) (Int.toNat 16) 999999)) (fun s44 => m_x12_isKept_J42 p0 p1 r33 s44)))))))))
def m_x12_drops_J22 (x1 : Int) (s2 : MS) : Option MS :=
  inb 906 x1 (stn (sA s2 49 (upZ (gA s2 49) (Int.toNat x1) 255)) (fun s4 => some s4))
def m_x12_drops (p0 : Int) (s : MS) : Option MS :=
  rdI (gA s 49) 906 p0 (fun y5 => rg y5 (if y5 = 254 then m_x12_drops_J22 p0 s else rdI (gA s 49) 906 p0 (fun y8 => bn (m_x12_falls y8 s) (fun s10 => m_x12_drops_J22 p0 s10))))
def m_x12_crashes_b31 (lr31 : Int → MS → Option MS) (x1 : Int) (s2 : MS) : Option MS :=
  rg x1 (if 48 ≤ x1 then some s2 else bn (m_x12_savedOf x1 s2) (fun r6 => inb 906 (17 + (16 * x1)) (stn (sA s2 49 (upZ (gA s2 49) (Int.toNat (17 + (16 * x1))) r6)) (fun s8 => lr31 (x1 + 1) s8))))
def m_x12_crashes_L31 (n : Nat) : Int → MS → Option MS := lp (fun _ _ => none) (m_x12_crashes_b31) n
def m_x12_crashes_b2 (lr2 : Int → MS → Option MS) (x9 : Int) (s10 : MS) : Option MS :=
  rg x9 (if 8 ≤ x9 then m_x12_crashes_L31 FU 0 s10 else rdI (gA s10 49) 906 (8 + x9) (fun y13 => inb 906 x9 (stn (sA s10 49 (upZ (gA s10 49) (Int.toNat x9) y13)) (fun s15 => lr2 (x9 + 1) s15))))
def m_x12_crashes_L2 (n : Nat) : Int → MS → Option MS := lp (fun _ _ => none) (m_x12_crashes_b2) n
def m_x12_crashes (s : MS) : Option MS :=
  m_x12_crashes_L2 FU 0 s
def m_x12_putsAside_b2 (lr2 : Int → MS → Option MS) (x1 : Int) (s2 : MS) : Option MS :=
  rg x1 (if 785 ≤ x1 then bn (m_x12_clearsTouched s2) (fun s6 => some s6) else rdI (gA s2 49) 906 x1 (fun y7 => inb 785 x1 (stn (sA s2 61 (upZ (gA s2 61) (Int.toNat x1) y7)) (fun s9 => lr2 (x1 + 1) s9))))
def m_x12_putsAside_L2 (n : Nat) : Int → MS → Option MS := lp (fun _ _ => none) (m_x12_putsAside_b2) n
def m_x12_putsAside (s : MS) : Option MS :=
  m_x12_putsAside_L2 FU 0 s
def m_x12_takesBack_b2 (lr2 : Int → MS → Option MS) (x1 : Int) (s2 : MS) : Option MS :=
  rg x1 (if 785 ≤ x1 then some s2 else rdI (gA s2 61) 785 x1 (fun y5 => inb 906 x1 (stn (sA s2 49 (upZ (gA s2 49) (Int.toNat x1) y5)) (fun s7 => lr2 (x1 + 1) s7))))
def m_x12_takesBack_L2 (n : Nat) : Int → MS → Option MS := lp (fun _ _ => none) (m_x12_takesBack_b2) n
def m_x12_takesBack (s : MS) : Option MS :=
  m_x12_takesBack_L2 FU 0 s
def m_x12_volumeMany_J22 (s : MS) (lr4 : Int → Int → Option Int) (x3 : Int) (x4 : Int) : Option Int :=
  lr4 x3 (x4 + 1)
def m_x12_volumeMany_b4 (s : MS) (lr4 : Int → Int → Option Int) (x1 : Int) (x2 : Int) : Option Int :=
  rg x2 (if 8 ≤ x2 then some x1 else rg x2 (bn (m_x12_isVolume x2 s) (fun r9 => rg r9 (if r9 = 0 then m_x12_volumeMany_J22 s lr4 x1 x2 else m_x12_volumeMany_J22 s lr4 (x1 + 1) x2))))
def m_x12_volumeMany_L4 (s : MS) (n : Nat) : Int → Int → Option Int := lp (fun _ _ => none) (m_x12_volumeMany_b4 s) n
def m_x12_volumeMany (s : MS) : Option Int :=
  m_x12_volumeMany_L4 s FU 0 0
def m_x12_usedMany_J23 (s : MS) (lr4 : Int → Int → Option Int) (x3 : Int) (x4 : Int) : Option Int :=
  lr4 x3 (x4 + 1)
def m_x12_usedMany_b4 (s : MS) (lr4 : Int → Int → Option Int) (x1 : Int) (x2 : Int) : Option Int :=
  bn (m_x12_blockMany s) (fun r6 => rg x2 (rg r6 (if r6 ≤ x2 then some x1 else bn (m_x12_isUsed x2 s) (fun r11 => rg r11 (if r11 = 0 then m_x12_usedMany_J23 s lr4 x1 x2 else m_x12_usedMany_J23 s lr4 (x1 + 1) x2)))))
def m_x12_usedMany_L4 (s : MS) (n : Nat) : Int → Int → Option Int := lp (fun _ _ => none) (m_x12_usedMany_b4 s) n
def m_x12_usedMany (s : MS) : Option Int :=
  m_x12_usedMany_L4 s FU 0 0
def m_x12_heldMany_J23 (s : MS) (lr4 : Int → Int → Option Int) (x3 : Int) (x4 : Int) : Option Int :=
  lr4 x3 (x4 + 1)
def m_x12_heldMany_b4 (s : MS) (lr4 : Int → Int → Option Int) (x1 : Int) (x2 : Int) : Option Int :=
  bn (m_x12_blockMany s) (fun r6 => rg x2 (rg r6 (if r6 ≤ x2 then some x1 else bn (m_x12_isHeld x2 s) (fun r11 => rg r11 (if r11 = 0 then m_x12_heldMany_J23 s lr4 x1 x2 else m_x12_heldMany_J23 s lr4 (x1 + 1) x2)))))
def m_x12_heldMany_L4 (s : MS) (n : Nat) : Int → Int → Option Int := lp (fun _ _ => none) (m_x12_heldMany_b4 s) n
def m_x12_heldMany (s : MS) : Option Int :=
  m_x12_heldMany_L4 s FU 0 0
def m_x12_freeMany (s : MS) : Option Int :=
  bn (m_x12_blockMany s) (fun r2 => bn (m_x12_usedMany s) (fun r4 => bn (m_x12_heldMany s) (fun r6 => some ((r2 - r4) - r6))))
def m_x12_has (p0 : Int) (s : MS) : Option Int :=
  rg p0 (if p0 = 0 then bn (m_x12_blockMany s) (fun r4 => some r4) else if p0 = 1 then bn (m_x12_volumeMany s) (fun r7 => some r7) else if p0 = 2 then bn (m_x12_usedMany s) (fun r10 => some r10) else if p0 = 3 then bn (m_x12_heldMany s) (fun r13 => some r13) else if p0 = 4 then bn (m_x12_freeMany s) (fun r16 => some r16) else if p0 = 5 then rdI (gA s 49) 906 16 (fun y18 => some y18) else if p0 = 6 then rdI (gA s 49) 906 785 (fun y20 => some y20) else if p0 = 7 then some (gI s 73) else if p0 = 8 then some (gI s 76) else if p0 = 9 then bn (m_x12_roomOf s) (fun r25 => some r25) else some (-1))
def m_x12_letter_b84 (s : MS) (lr84 : Int → Int → Int → Option Int) (x1 : Int) (z2 : Int) (x3 : Int) : Option Int :=
  rg x3 (rg x1 (if x3 ≤ x1 then dvL z2 27 (some (Int.tmod z2 27)) else dvL z2 27 (lr84 x1 (Int.tdiv z2 27) (x3 + (-1)))))
def m_x12_letter_L84 (s : MS) (n : Nat) : Int → Int → Int → Option Int := lp (fun _ _ _ => none) (m_x12_letter_b84 s) n
def m_x12_letter_b49 (s : MS) (lr49 : Int → Int → Int → Int → Option Int) (x9 : Int) (z10 : Int) (x11 : Int) (z12 : Int) : Option Int :=
  rgL z12 (if z12 ≤ 0 then rg x9 (rg x11 (if x9 < x11 then m_x12_letter_L84 s FU x9 z10 (x11 - 1) else some 0)) else dvL z12 27 (lr49 x9 z10 (x11 + 1) (Int.tdiv z12 27)))
def m_x12_letter_L49 (s : MS) (n : Nat) : Int → Int → Int → Int → Option Int := lp (fun _ _ _ _ => none) (m_x12_letter_b49 s) n
def m_x12_letter_J31 (s : MS) (_u : Unit) : Option Int :=
  some (-1)
def m_x12_letter (p0 : Int) (p1 : Int) (s : MS) : Option Int :=
  rg p0 (rdI (gA s 39) 10 7 (fun y20 => rg (y20 - 1) (bn (m_x12_isIn p0 0 (y20 - 1) s) (fun r23 => rg r23 (if r23 = 0 then m_x12_letter_J31 s () else rg p1 (bn (m_x12_isIn p1 0 5 s) (fun r28 => rg r28 (if r28 = 0 then m_x12_letter_J31 s () else rdL (gB s 40) 16 (8 + p0) (fun yl31 => m_x12_letter_L49 s FU p1 yl31 0 yl31)))))))))
def m_x12_laysLeaf_b2 (lr2 : Int → Int → MS → Option MS) (x1 : Int) (x2 : Int) (s3 : MS) : Option MS :=
  bn (m_x12_entriesOf x1 s3) (fun r5 => rg x2 (rg r5 (if r5 ≤ x2 then some s3 else bn (m_x12_keyAt x1 x2 s3) (fun r10 => inb 300 (gI s3 67) (stn (sA s3 64 (upZ (gA s3 64) (Int.toNat (gI s3 67)) r10)) (fun s12 => bn (m_x12_valueAt x1 x2 s12) (fun r14 => inb 300 (gI s12 67) (stn (sA s12 65 (upZ (gA s12 65) (Int.toNat (gI s12 67)) r14)) (fun s16 => inb 300 (gI s16 67) (stn (sA s16 66 (upZ (gA s16 66) (Int.toNat (gI s16 67)) x1)) (fun s18 => stn (sI s18 67 ((gI s18 67) + 1)) (fun s19 => lr2 x1 (x2 + 1) s19))))))))))))
def m_x12_laysLeaf_L2 (n : Nat) : Int → Int → MS → Option MS := lp (fun _ _ _ => none) (m_x12_laysLeaf_b2) n
def m_x12_laysLeaf (p0 : Int) (s : MS) : Option MS :=
  m_x12_laysLeaf_L2 FU p0 0 s
def m_x12_laysTree_J140 (lr48 : Int → MS → Option MS) (x3 : Int) (s4 : MS) : Option MS :=
  lr48 x3 s4
def m_x12_laysTree_b113 (lr48 : Int → MS → Option MS) (lr113 : Int → Int → Int → MS → Option MS) (x5 : Int) (x6 : Int) (x7 : Int) (s8 : MS) : Option MS :=
  rg x7 (if x7 < 0 then m_x12_laysTree_J140 lr48 x5 s8 else bn (m_x12_valueAt x6 x7 s8) (fun r12 => inb 300 x5 (stn (sA s8 62 (upZ (gA s8 62) (Int.toNat x5) r12)) (fun s14 => lr113 (x5 + 1) x6 (x7 + (-1)) s14))))
def m_x12_laysTree_L113 (lr48 : Int → MS → Option MS) (n : Nat) : Int → Int → Int → MS → Option MS := lp (fun _ _ _ _ => none) (m_x12_laysTree_b113 lr48) n
def m_x12_laysTree_J81 (lr48 : Int → MS → Option MS) (x15 : Int) (x16 : Int) (s17 : MS) : Option MS :=
  inb 48 x16 (bo 1 (stn (sA s17 63 (upZ (gA s17 63) (Int.toNat x16) 1)) (fun s20 => bn (m_x12_levelOf x16 s20) (fun r22 => rg r22 (if r22 = 0 then bn (m_x12_laysLeaf x16 s20) (fun s28 => m_x12_laysTree_J140 lr48 x15 s28) else bn (m_x12_entriesOf x16 s20) (fun r26 => m_x12_laysTree_L113 lr48 FU x15 x16 (r26 - 1) s20))))))
def m_x12_laysTree_b48 (lr48 : Int → MS → Option MS) (x1 : Int) (s2 : MS) : Option MS :=
  rg x1 (if x1 ≤ 0 then some s2 else rdI (gA s2 62) 300 (x1 + (-1)) (fun y31 => rdI (gA s2 63) 48 y31 (fun y32 => rg y32 (if y32 = 0 then stn (sI s2 68 ((gI s2 68) + 1)) (fun s35 => m_x12_laysTree_J81 lr48 (x1 + (-1)) y31 s35) else m_x12_laysTree_J81 lr48 (x1 + (-1)) y31 s2))))
def m_x12_laysTree_L48 (n : Nat) : Int → MS → Option MS := lp (fun _ _ => none) (m_x12_laysTree_b48) n
def m_x12_laysTree_b12 (lr12 : Int → Int → MS → Option MS) (x36 : Int) (x37 : Int) (s38 : MS) : Option MS :=
  rg x37 (if 48 ≤ x37 then rg x36 (if x36 < 254 then inb 300 0 (stn (sA s38 62 (upZ (gA s38 62) (Int.toNat 0) x36)) (fun s44 => m_x12_laysTree_L48 FU 1 s44)) else some s38) else inb 48 x37 (bo 0 (stn (sA s38 63 (upZ (gA s38 63) (Int.toNat x37) 0)) (fun s47 => lr12 x36 (x37 + 1) s47))))
def m_x12_laysTree_L12 (n : Nat) : Int → Int → MS → Option MS := lp (fun _ _ _ => none) (m_x12_laysTree_b12) n
def m_x12_laysTree (p0 : Int) (s : MS) : Option MS :=
  stn (sI s 67 0) (fun s48 => stn (sI s48 68 0) (fun s49 => m_x12_laysTree_L12 FU p0 0 s49))
def m_x12_dropsMany (p0 : Int) (s : MS) : Option (Int × MS) :=
  bn (m_x12_putsAside s) (fun s2 => bn (m_x12_usedMany s2) (fun r4 => bn (m_x12_drops p0 s2) (fun s6 => bn (m_x12_usedMany s6) (fun r8 => bn (m_x12_takesBack s6) (fun s10 => some (r4 - r8, s10))))))
def m_x12_volume_J96 (x1 : Int) (s2 : MS) : Option (Int × MS) :=
  some (x1, s2)
def m_x12_volume_J72 (x3 : Int) (s4 : MS) : Option (Int × MS) :=
  some (x3, s4)
def m_x12_volume (p0 : Int) (p1 : Int) (s : MS) : Option (Int × MS) :=
  rg p0 (bn (m_x12_isVolume p0 s) (fun r7 => rg r7 (if r7 = 0 then some ((-1), s) else rdI (gA s 49) 906 p0 (fun y10 => bn (m_x12_laysTree y10 s) (fun s12 => rg p1 (if p1 = 0 then rg y10 (if y10 = 254 then m_x12_volume_J72 (-1) s12 else m_x12_volume_J72 y10 s12) else if p1 = 1 then some (gI s12 67, s12) else if p1 = 2 then rg y10 (if y10 = 254 then m_x12_volume_J96 0 s12 else bn (m_x12_levelOf y10 s12) (fun r22 => m_x12_volume_J96 (r22 + 1) s12)) else if p1 = 3 then some (gI s12 68, s12) else if p1 = 4 then bn (m_x12_dropsMany p0 s12) (fun qr27 => some (qr27.1, qr27.2)) else some ((-1), s12)))))))
def m_x12_block_J127 (s : MS) (x1 : Int) : Option Int :=
  some x1
def m_x12_block_J113 (s : MS) (x2 : Int) : Option Int :=
  some x2
def m_x12_block_J99 (s : MS) (x3 : Int) : Option Int :=
  some x3
def m_x12_block_J81 (s : MS) (x4 : Int) : Option Int :=
  some x4
def m_x12_block (p0 : Int) (p1 : Int) (s : MS) : Option Int :=
  rg p0 (bn (m_x12_isBlock p0 s) (fun r7 => rg r7 (if r7 = 0 then some (-1) else rg p1 (if p1 = 0 then bn (m_x12_countOf p0 s) (fun r13 => some r13) else if p1 = 1 then bn (m_x12_savedOf p0 s) (fun r16 => some r16) else if p1 = 2 then bn (m_x12_isThere p0 s) (fun r19 => rg r19 (if r19 = 0 then m_x12_block_J81 s 0 else bn (m_x12_levelOf p0 s) (fun r23 => m_x12_block_J81 s r23))) else if p1 = 3 then bn (m_x12_isThere p0 s) (fun r26 => rg r26 (if r26 = 0 then m_x12_block_J99 s 0 else bn (m_x12_entriesOf p0 s) (fun r30 => m_x12_block_J99 s r30))) else if p1 = 4 then bn (m_x12_isFresh p0 s) (fun r33 => rg r33 (if r33 = 0 then m_x12_block_J113 s 0 else m_x12_block_J113 s 1)) else if p1 = 5 then bn (m_x12_isHeld p0 s) (fun r38 => rg r38 (if r38 = 0 then m_x12_block_J127 s 0 else m_x12_block_J127 s 1)) else some (-1)))))
def m_x12_entry_J65 (s : MS) (x1 : Int) : Option Int :=
  some x1
def m_x12_entry_J44 (s : MS) (_u : Unit) : Option Int :=
  some (-1)
def m_x12_entry (p0 : Int) (p1 : Int) (p2 : Int) (s : MS) : Option Int :=
  rg p0 (bn (m_x12_isBlock p0 s) (fun r4 => rg r4 (if r4 = 0 then m_x12_entry_J44 s () else bn (m_x12_isThere p0 s) (fun r8 => rg r8 (if r8 = 0 then m_x12_entry_J44 s () else rg p1 (bn (m_x12_entriesOf p0 s) (fun r13 => rg (r13 - 1) (bn (m_x12_isIn p1 0 (r13 - 1) s) (fun r16 => rg r16 (if r16 = 0 then m_x12_entry_J44 s () else rg p2 (bn (m_x12_isIn p2 0 1 s) (fun r21 => rg r21 (if r21 = 0 then m_x12_entry_J44 s () else rg p2 (if p2 = 0 then bn (m_x12_keyAt p0 p1 s) (fun r29 => m_x12_entry_J65 s r29) else bn (m_x12_valueAt p0 p1 s) (fun r27 => m_x12_entry_J65 s r27)))))))))))))))
def m_x12_kept_J50 (s : MS) (x1 : Int) : Option Int :=
  some x1
def m_x12_kept_J49 (s : MS) (_u : Unit) : Option Int :=
  m_x12_kept_J50 s (-1)
def m_x12_kept (p0 : Int) (p1 : Int) (s : MS) : Option Int :=
  rg p0 (rdI (gA s 49) 906 785 (fun y3 => rg (y3 - 1) (bn (m_x12_isIn p0 0 (y3 - 1) s) (fun r6 => rg r6 (if r6 = 0 then m_x12_kept_J49 s () else rg p1 (bn (m_x12_isIn p1 0 2 s) (fun r11 => rg r11 (if r11 = 0 then m_x12_kept_J49 s () else rdI (gA s 49) 906 ((786 + (3 * p0)) + p1) (fun y14 => m_x12_kept_J50 s y14)))))))))
def m_x12_read_J19 (s : MS) (x1 : Int) : Option Int :=
  some x1
def m_x12_read (p0 : Int) (p1 : Int) (s : MS) : Option Int :=
  rg p0 (bn (m_x12_isVolume p0 s) (fun r4 => rg r4 (if r4 = 0 then m_x12_read_J19 s (-1) else bn (m_x12_valueOf p0 p1 s) (fun r8 => m_x12_read_J19 s r8))))
def m_x12_key_J47 (x1 : Int) (s2 : MS) : Option (Int × MS) :=
  some (x1, s2)
def m_x12_key (p0 : Int) (p1 : Int) (s : MS) : Option (Int × MS) :=
  rg p0 (bn (m_x12_isVolume p0 s) (fun r5 => rg r5 (if r5 = 0 then some ((-1), s) else rdI (gA s 49) 906 p0 (fun y8 => bn (m_x12_laysTree y8 s) (fun s10 => rg p1 (rg ((gI s10 67) - 1) (bn (m_x12_isIn p1 0 ((gI s10 67) - 1) s10) (fun r14 => rg r14 (if r14 = 0 then m_x12_key_J47 (-1) s10 else rdI (gA s10 64) 300 p1 (fun y17 => m_x12_key_J47 y17 s10))))))))))
def m_x12_total_J66 (lr27 : Int → Int → Int → Int → MS → Option (Int × MS)) (x6 : Int) (x7 : Int) (x8 : Int) (x9 : Int) (s10 : MS) : Option (Int × MS) :=
  lr27 x6 x7 x8 (x9 + 1) s10
def m_x12_total_b27 (lr27 : Int → Int → Int → Int → MS → Option (Int × MS)) (x1 : Int) (x2 : Int) (x3 : Int) (x4 : Int) (s5 : MS) : Option (Int × MS) :=
  rg x4 (rg (gI s5 67) (if (gI s5 67) ≤ x4 then some (x3, s5) else rdI (gA s5 64) 300 x4 (fun y14 => rg y14 (rg x1 (rg x2 (bn (m_x12_isIn y14 x1 x2 s5) (fun r19 => rg r19 (if r19 = 0 then m_x12_total_J66 lr27 x1 x2 x3 x4 s5 else rdI (gA s5 65) 300 x4 (fun y22 => m_x12_total_J66 lr27 x1 x2 (x3 + y22) x4 s5)))))))))
def m_x12_total_L27 (n : Nat) : Int → Int → Int → Int → MS → Option (Int × MS) := lp (fun _ _ _ _ _ => none) (m_x12_total_b27) n
def m_x12_total (p0 : Int) (p1 : Int) (p2 : Int) (s : MS) : Option (Int × MS) :=
  rg p0 (bn (m_x12_isVolume p0 s) (fun r25 => rg r25 (if r25 = 0 then some ((-1), s) else rdI (gA s 49) 906 p0 (fun y28 => bn (m_x12_laysTree y28 s) (fun s30 => m_x12_total_L27 FU p1 p2 0 0 s30)))))
def m_x12_path_b50 (s : MS) (lr50 : Int → Int → Int → Int → Option Int) (x1 : Int) (x2 : Int) (x3 : Int) (x4 : Int) : Option Int :=
  rg x4 (rg x2 (if x2 ≤ x4 then some x3 else bn (m_x12_levelOf x3 s) (fun r9 => rg r9 (if r9 = 0 then some (-1) else bn (m_x12_placeFor x3 x1 s) (fun r13 => bn (m_x12_valueAt x3 r13 s) (fun r15 => lr50 x1 x2 r15 (x4 + 1)))))))
def m_x12_path_L50 (s : MS) (n : Nat) : Int → Int → Int → Int → Option Int := lp (fun _ _ _ _ => none) (m_x12_path_b50 s) n
def m_x12_path_J37 (s : MS) (_u : Unit) : Option Int :=
  some (-1)
def m_x12_path (p0 : Int) (p1 : Int) (p2 : Int) (s : MS) : Option Int :=
  rg p0 (bn (m_x12_isVolume p0 s) (fun r18 => rg r18 (if r18 = 0 then m_x12_path_J37 s () else rg p1 (bn (m_x12_isIn p1 0 999 s) (fun r23 => rg r23 (if r23 = 0 then m_x12_path_J37 s () else rdI (gA s 49) 906 p0 (fun y26 => rg y26 (if y26 = 254 then m_x12_path_J37 s () else rg p2 (if 0 ≤ p2 then rdI (gA s 49) 906 p0 (fun y31 => m_x12_path_L50 s FU p1 p2 y31 0) else m_x12_path_J37 s ())))))))))
def m_x12_shared_J101 (lr71 : Int → Int → MS → Option (Int × MS)) (x4 : Int) (x5 : Int) (s6 : MS) : Option (Int × MS) :=
  lr71 x4 (x5 + 1) s6
def m_x12_shared_b71 (lr71 : Int → Int → MS → Option (Int × MS)) (x1 : Int) (x2 : Int) (s3 : MS) : Option (Int × MS) :=
  rg x2 (if 48 ≤ x2 then some (x1, s3) else rdI (gA s3 69) 48 x2 (fun y9 => rg y9 (if y9 = 0 then m_x12_shared_J101 lr71 x1 x2 s3 else rdI (gA s3 63) 48 x2 (fun y12 => rg y12 (if y12 = 0 then m_x12_shared_J101 lr71 x1 x2 s3 else m_x12_shared_J101 lr71 (x1 + 1) x2 s3)))))
def m_x12_shared_L71 (n : Nat) : Int → Int → MS → Option (Int × MS) := lp (fun _ _ _ => none) (m_x12_shared_b71) n
def m_x12_shared_b32 (lr32 : Int → Int → MS → Option (Int × MS)) (x15 : Int) (x16 : Int) (s17 : MS) : Option (Int × MS) :=
  rg x16 (if 48 ≤ x16 then rdI (gA s17 49) 906 x15 (fun y20 => bn (m_x12_laysTree y20 s17) (fun s22 => m_x12_shared_L71 FU 0 0 s22)) else rdI (gA s17 63) 48 x16 (fun y23 => inb 48 x16 (bo y23 (stn (sA s17 69 (upZ (gA s17 69) (Int.toNat x16) y23)) (fun s26 => lr32 x15 (x16 + 1) s26)))))
def m_x12_shared_L32 (n : Nat) : Int → Int → MS → Option (Int × MS) := lp (fun _ _ _ => none) (m_x12_shared_b32) n
def m_x12_shared_J18 (s27 : MS) : Option (Int × MS) :=
  some ((-1), s27)
def m_x12_shared (p0 : Int) (p1 : Int) (s : MS) : Option (Int × MS) :=
  rg p0 (bn (m_x12_isVolume p0 s) (fun r30 => rg r30 (if r30 = 0 then m_x12_shared_J18 s else rg p1 (bn (m_x12_isVolume p1 s) (fun r35 => rg r35 (if r35 = 0 then m_x12_shared_J18 s else rdI (gA s 49) 906 p0 (fun y38 => bn (m_x12_laysTree y38 s) (fun s40 => m_x12_shared_L32 FU p1 0 s40))))))))
def m_x12_unlike_J63 (s : MS) (x1 : Int) : Option Int :=
  some x1
def m_x12_unlike_J46 (s : MS) (lr6 : Int → Int → Int → Int → Int → Option Int) (x7 : Int) (x8 : Int) (x9 : Int) (x10 : Int) (x11 : Int) : Option Int :=
  lr6 x7 x8 x9 x10 (x11 + 1)
def m_x12_unlike_b6 (s : MS) (lr6 : Int → Int → Int → Int → Int → Option Int) (x2 : Int) (x3 : Int) (x4 : Int) (x5 : Int) (x6 : Int) : Option Int :=
  rg x6 (if 999 < x6 then rg x4 (if x4 = (-1) then m_x12_unlike_J63 s x5 else m_x12_unlike_J63 s (-1)) else bn (m_x12_valueFrom x2 x6 s) (fun r17 => bn (m_x12_valueFrom x3 x6 s) (fun r19 => rg r17 (rg r19 (if r17 = r19 then m_x12_unlike_J46 s lr6 x2 x3 x4 x5 x6 else rg x5 (rg x4 (if x5 = x4 then some x6 else m_x12_unlike_J46 s lr6 x2 x3 x4 (x5 + 1) x6)))))))
def m_x12_unlike_L6 (s : MS) (n : Nat) : Int → Int → Int → Int → Int → Option Int := lp (fun _ _ _ _ _ => none) (m_x12_unlike_b6 s) n
def m_x12_unlike (p0 : Int) (p1 : Int) (p2 : Int) (s : MS) : Option Int :=
  m_x12_unlike_L6 s FU p0 p1 p2 0 0
def m_x12_differs_J44 (s : MS) (x1 : Int) : Option Int :=
  some x1
def m_x12_differs_J43 (s : MS) (_u : Unit) : Option Int :=
  m_x12_differs_J44 s (-1)
def m_x12_differs (p0 : Int) (p1 : Int) (p2 : Int) (s : MS) : Option Int :=
  rg p0 (bn (m_x12_isVolume p0 s) (fun r4 => rg r4 (if r4 = 0 then m_x12_differs_J43 s () else rg p1 (bn (m_x12_isVolume p1 s) (fun r9 => rg r9 (if r9 = 0 then m_x12_differs_J43 s () else rg p2 (if p2 < (-1) then m_x12_differs_J43 s () else rdI (gA s 49) 906 p0 (fun y14 => rdI (gA s 49) 906 p1 (fun y15 => bn (m_x12_unlike y14 y15 p2 s) (fun r17 => m_x12_differs_J44 s r17))))))))))
def m_x12_laysWrites_J56 (s1 : MS) : Option MS :=
  bn (m_x12_takesBack s1) (fun s3 => some s3)
def m_x12_laysWrites_J34 (x4 : Int) (x5 : Int) (x6 : Int) (x7 : Int) (s8 : MS) : Option MS :=
  bn (m_x12_tries x7 x6 x5 x4 s8) (fun qr11 => rg qr11.1 (if qr11.1 = 0 then m_x12_laysWrites_J56 qr11.2 else bn (m_x12_writtenMany qr11.2) (fun r15 => stn (sI qr11.2 70 r15) (fun s16 => bn (m_x12_writtenCost s16) (fun qr19 => stn (sI qr19.2 71 qr19.1) (fun s20 => m_x12_laysWrites_J56 s20))))))
def m_x12_laysWrites (p0 : Int) (p1 : Int) (s : MS) : Option MS :=
  stn (sI s 70 (-1)) (fun s21 => stn (sI s21 71 (-1)) (fun s22 => bn (m_x12_valueOf p0 p1 s22) (fun r24 => bn (m_x12_putsAside s22) (fun s26 => rg r24 (if r24 = 0 then m_x12_laysWrites_J34 1 p1 p0 2 s26 else m_x12_laysWrites_J34 0 p1 p0 2 s26)))))
def m_x12_writes_J54 (x1 : Int) (s2 : MS) : Option (Int × MS) :=
  some (x1, s2)
def m_x12_writes_J31 (s3 : MS) : Option (Int × MS) :=
  some ((-1), s3)
def m_x12_writes (p0 : Int) (p1 : Int) (p2 : Int) (s : MS) : Option (Int × MS) :=
  rg p0 (bn (m_x12_isVolume p0 s) (fun r6 => rg r6 (if r6 = 0 then m_x12_writes_J31 s else rg p1 (bn (m_x12_isIn p1 0 999 s) (fun r11 => rg r11 (if r11 = 0 then m_x12_writes_J31 s else rg p2 (bn (m_x12_isIn p2 0 1 s) (fun r16 => rg r16 (if r16 = 0 then m_x12_writes_J31 s else bn (m_x12_laysWrites p0 p1 s) (fun s20 => rg p2 (if p2 = 0 then m_x12_writes_J54 (gI s20 70) s20 else m_x12_writes_J54 (gI s20 71) s20)))))))))))
def m_x12_spread_J46 (lr21 : Int → Int → Int → Int → MS → Option (Int × MS)) (x6 : Int) (x7 : Int) (x8 : Int) (x9 : Int) (s10 : MS) : Option (Int × MS) :=
  lr21 x6 x7 x8 (x9 + 1) s10
def m_x12_spread_b21 (lr21 : Int → Int → Int → Int → MS → Option (Int × MS)) (x1 : Int) (x2 : Int) (x3 : Int) (x4 : Int) (s5 : MS) : Option (Int × MS) :=
  rg x4 (if 100 ≤ x4 then some (x3, s5) else bn (m_x12_laysWrites x1 x4 s5) (fun s14 => rg (gI s14 70) (rg x2 (if (gI s14 70) = x2 then m_x12_spread_J46 lr21 x1 x2 (x3 + 1) x4 s14 else m_x12_spread_J46 lr21 x1 x2 x3 x4 s14))))
def m_x12_spread_L21 (n : Nat) : Int → Int → Int → Int → MS → Option (Int × MS) := lp (fun _ _ _ _ _ => none) (m_x12_spread_b21) n
def m_x12_spread_J14 (s18 : MS) : Option (Int × MS) :=
  some ((-1), s18)
def m_x12_spread (p0 : Int) (p1 : Int) (s : MS) : Option (Int × MS) :=
  rg p0 (bn (m_x12_isVolume p0 s) (fun r21 => rg r21 (if r21 = 0 then m_x12_spread_J14 s else rg p1 (if (-1) ≤ p1 then m_x12_spread_L21 FU p0 p1 0 0 s else m_x12_spread_J14 s))))
def m_x12_laysLost_J122 (lr23 : Int → MS → Option MS) (x3 : Int) (s4 : MS) : Option MS :=
  lr23 (x3 + 1) s4
def m_x12_laysLost_b68 (lr23 : Int → MS → Option MS) (lr53 : Int → Int → MS → Option MS) (lr68 : Int → Int → Int → MS → Option MS) (x8 : Int) (x9 : Int) (x10 : Int) (s11 : MS) : Option MS :=
  bn (m_x12_levelOf x10 s11) (fun r13 => rg r13 (if r13 ≤ 0 then rdI (gA s11 72) 48 x10 (fun y16 => inb 48 x10 (stn (sA s11 72 (upZ (gA s11 72) (Int.toNat x10) (y16 + 1))) (fun s18 => lr53 x8 (x9 + 1) s18))) else rdI (gA s11 72) 48 x10 (fun y19 => inb 48 x10 (stn (sA s11 72 (upZ (gA s11 72) (Int.toNat x10) (y19 + 1))) (fun s21 => rdI (gA s21 64) 300 x9 (fun y22 => bn (m_x12_placeFor x10 y22 s21) (fun r24 => bn (m_x12_valueAt x10 r24 s21) (fun r26 => lr68 x8 x9 r26 s21))))))))
def m_x12_laysLost_L68 (lr23 : Int → MS → Option MS) (lr53 : Int → Int → MS → Option MS) (n : Nat) : Int → Int → Int → MS → Option MS := lp (fun _ _ _ _ => none) (m_x12_laysLost_b68 lr23 lr53) n
def m_x12_laysLost_b53 (lr23 : Int → MS → Option MS) (lr53 : Int → Int → MS → Option MS) (x5 : Int) (x6 : Int) (s7 : MS) : Option MS :=
  rg x6 (rg (gI s7 67) (if (gI s7 67) ≤ x6 then m_x12_laysLost_J122 lr23 x5 s7 else rdI (gA s7 49) 906 x5 (fun y30 => m_x12_laysLost_L68 lr23 lr53 FU x5 x6 y30 s7)))
def m_x12_laysLost_L53 (lr23 : Int → MS → Option MS) (n : Nat) : Int → Int → MS → Option MS := lp (fun _ _ _ => none) (m_x12_laysLost_b53 lr23) n
def m_x12_laysLost_b23 (lr23 : Int → MS → Option MS) (x1 : Int) (s2 : MS) : Option MS :=
  rg x1 (if 8 ≤ x1 then some s2 else rg x1 (bn (m_x12_isVolume x1 s2) (fun r35 => rg r35 (if r35 = 0 then m_x12_laysLost_J122 lr23 x1 s2 else rdI (gA s2 49) 906 x1 (fun y38 => bn (m_x12_laysTree y38 s2) (fun s40 => m_x12_laysLost_L53 lr23 FU x1 0 s40))))))
def m_x12_laysLost_L23 (n : Nat) : Int → MS → Option MS := lp (fun _ _ => none) (m_x12_laysLost_b23) n
def m_x12_laysLost_b2 (lr2 : Int → MS → Option MS) (x41 : Int) (s42 : MS) : Option MS :=
  rg x41 (if 48 ≤ x41 then m_x12_laysLost_L23 FU 0 s42 else inb 48 x41 (stn (sA s42 72 (upZ (gA s42 72) (Int.toNat x41) 0)) (fun s46 => lr2 (x41 + 1) s46)))
def m_x12_laysLost_L2 (n : Nat) : Int → MS → Option MS := lp (fun _ _ => none) (m_x12_laysLost_b2) n
def m_x12_laysLost (s : MS) : Option MS :=
  m_x12_laysLost_L2 FU 0 s
def m_x12_lost (p0 : Int) (s : MS) : Option (Int × MS) :=
  rg p0 (bn (m_x12_isBlock p0 s) (fun r3 => rg r3 (if r3 = 0 then some ((-1), s) else bn (m_x12_laysLost s) (fun s7 => rdI (gA s7 72) 48 p0 (fun y8 => some (y8, s7))))))
def m_x12_worst_J76 (x1 : Int) (s2 : MS) : Option (Int × MS) :=
  some (x1, s2)
def m_x12_worst_J43 (lr20 : Int → Int → Int → MS → Option (Int × MS)) (x7 : Int) (x8 : Int) (x9 : Int) (s10 : MS) : Option (Int × MS) :=
  lr20 x7 x8 (x9 + 1) s10
def m_x12_worst_b20 (lr20 : Int → Int → Int → MS → Option (Int × MS)) (x3 : Int) (x4 : Int) (x5 : Int) (s6 : MS) : Option (Int × MS) :=
  rg x5 (if 48 ≤ x5 then rdI (gA s6 72) 48 x4 (fun y13 => rg y13 (if y13 = 0 then m_x12_worst_J76 (-1) s6 else rg x3 (if x3 = 0 then m_x12_worst_J76 x4 s6 else rdI (gA s6 72) 48 x4 (fun y18 => m_x12_worst_J76 y18 s6)))) else rdI (gA s6 72) 48 x5 (fun y19 => rdI (gA s6 72) 48 x4 (fun y20 => rg y19 (rg y20 (if y19 ≤ y20 then m_x12_worst_J43 lr20 x3 x4 x5 s6 else m_x12_worst_J43 lr20 x3 x5 x5 s6)))))
def m_x12_worst_L20 (n : Nat) : Int → Int → Int → MS → Option (Int × MS) := lp (fun _ _ _ _ => none) (m_x12_worst_b20) n
def m_x12_worst (p0 : Int) (s : MS) : Option (Int × MS) :=
  rg p0 (bn (m_x12_isIn p0 0 1 s) (fun r26 => rg r26 (if r26 = 0 then some ((-1), s) else bn (m_x12_laysLost s) (fun s30 => m_x12_worst_L20 FU p0 0 1 s30))))
def m_x12_victim_J78 (x1 : Int) (s2 : MS) : Option (Int × MS) :=
  some (x1, s2)
def m_x12_victim_J63 (lr19 : Int → Int → Int → Int → MS → Option (Int × MS)) (x8 : Int) (x9 : Int) (x10 : Int) (x11 : Int) (s12 : MS) : Option (Int × MS) :=
  lr19 x8 x9 x10 (x11 + 1) s12
def m_x12_victim_J46 (lr19 : Int → Int → Int → Int → MS → Option (Int × MS)) (x13 : Int) (x14 : Int) (x15 : Int) (x16 : Int) (x17 : Int) (s18 : MS) : Option (Int × MS) :=
  rg x17 (rg x15 (if x15 < x17 then m_x12_victim_J63 lr19 x13 x16 x17 x16 s18 else m_x12_victim_J63 lr19 x13 x14 x15 x16 s18))
def m_x12_victim_b19 (lr19 : Int → Int → Int → Int → MS → Option (Int × MS)) (x3 : Int) (x4 : Int) (x5 : Int) (x6 : Int) (s7 : MS) : Option (Int × MS) :=
  rg x6 (if 8 ≤ x6 then rg x3 (if x3 = 0 then m_x12_victim_J78 x4 s7 else m_x12_victim_J78 x5 s7) else rg x6 (bn (m_x12_isVolume x6 s7) (fun r28 => rg r28 (if r28 = 0 then m_x12_victim_J46 lr19 x3 x4 x5 x6 (-1) s7 else bn (m_x12_dropsMany x6 s7) (fun qr33 => m_x12_victim_J46 lr19 x3 x4 x5 x6 qr33.1 qr33.2)))))
def m_x12_victim_L19 (n : Nat) : Int → Int → Int → Int → MS → Option (Int × MS) := lp (fun _ _ _ _ _ => none) (m_x12_victim_b19) n
def m_x12_victim (p0 : Int) (s : MS) : Option (Int × MS) :=
  rg p0 (bn (m_x12_isIn p0 0 1 s) (fun r36 => rg r36 (if r36 = 0 then some ((-1), s) else m_x12_victim_L19 FU p0 (-1) (-1) 0 s)))
def m_x12_room_J67 (s : MS) (lr48 : Int → Int → Option Int) (x3 : Int) (x4 : Int) : Option Int :=
  lr48 x3 (x4 + 1)
def m_x12_room_b48 (s : MS) (lr48 : Int → Int → Option Int) (x1 : Int) (x2 : Int) : Option Int :=
  bn (m_x12_blockMany s) (fun r6 => rg x2 (rg r6 (if r6 ≤ x2 then some x1 else bn (m_x12_savedOf x2 s) (fun r11 => rg r11 (if r11 = 0 then m_x12_room_J67 s lr48 (x1 + 1) x2 else m_x12_room_J67 s lr48 x1 x2)))))
def m_x12_room_L48 (s : MS) (n : Nat) : Int → Int → Option Int := lp (fun _ _ => none) (m_x12_room_b48 s) n
def m_x12_room_J42 (s : MS) (x14 : Int) (x15 : Int) : Option Int :=
  some (x15 + x14)
def m_x12_room_J19 (s : MS) (_u : Unit) : Option Int :=
  some (-1)
def m_x12_room (p0 : Int) (s : MS) : Option Int :=
  rg (gI s 47) (if (gI s 47) = 0 then m_x12_room_J19 s () else rg p0 (bn (m_x12_isIn p0 0 2 s) (fun r20 => rg r20 (if r20 = 0 then m_x12_room_J19 s () else rg p0 (if 2 ≤ p0 then m_x12_room_L48 s FU 0 0 else bn (m_x12_freeMany s) (fun r26 => rg p0 (if p0 = 0 then m_x12_room_J42 s 0 r26 else bn (m_x12_heldMany s) (fun r30 => m_x12_room_J42 s r30 r26))))))))
def m_x12_back_J48 (s : MS) (x1 : Int) : Option Int :=
  some x1
def m_x12_back_J47 (s : MS) (_u : Unit) : Option Int :=
  m_x12_back_J48 s (-1)
def m_x12_back (p0 : Int) (s : MS) : Option Int :=
  rg p0 (bn (m_x12_isVolume p0 s) (fun r4 => rg r4 (if r4 = 0 then m_x12_back_J47 s () else rdI (gA s 49) 906 (8 + p0) (fun y7 => rg y7 (if y7 = 255 then m_x12_back_J47 s () else rdI (gA s 49) 906 p0 (fun y10 => rdI (gA s 49) 906 (8 + p0) (fun y11 => bn (m_x12_unlike y10 y11 (-1) s) (fun r13 => m_x12_back_J48 s r13))))))))
def m_x12_see_b121 (lr121 : Int → Int → MS → Option (Int × MS)) (x1 : Int) (x2 : Int) (s3 : MS) : Option (Int × MS) :=
  dv x1 2 (rg x2 (rg (Int.tdiv x1 2) (if (Int.tdiv x1 2) ≤ x2 then dv x1 4 (stn (sI s3 73 (Int.tdiv x1 4)) (fun s9 => some (gI s9 73, s9))) else rdI (gA s3 0) 1600 (2 * x2) (fun y10 => rdI (gA s3 0) 1600 ((2 * x2) + 1) (fun y11 => inb 24 x2 (stn (sA s3 74 (upZ (gA s3 74) (Int.toNat x2) ((256 * y10) + y11))) (fun s13 => lr121 x1 (x2 + 1) s13)))))))
def m_x12_see_L121 (n : Nat) : Int → Int → MS → Option (Int × MS) := lp (fun _ _ _ => none) (m_x12_see_b121) n
def m_x12_see_J109 (x14 : Int) (x15 : Int) (s16 : MS) : Option (Int × MS) :=
  rg x15 (if x15 = 0 then bn (m_x12_refuses 1 s16) (fun qr21 => some (qr21.1, qr21.2)) else m_x12_see_L121 FU x14 0 s16)
def m_x12_see_J102 (lr36 : Int → Int → Int → MS → Option (Int × MS)) (x26 : Int) (x27 : Int) (x28 : Int) (s29 : MS) : Option (Int × MS) :=
  lr36 x26 x28 (x27 + 4) s29
def m_x12_see_J101 (lr36 : Int → Int → Int → MS → Option (Int × MS)) (x30 : Int) (x31 : Int) (s32 : MS) : Option (Int × MS) :=
  m_x12_see_J102 lr36 x30 x31 0 s32
def m_x12_see_b36 (lr36 : Int → Int → Int → MS → Option (Int × MS)) (x22 : Int) (x23 : Int) (x24 : Int) (s25 : MS) : Option (Int × MS) :=
  rg x24 (rg x22 (if x22 ≤ x24 then m_x12_see_J109 x22 x23 s25 else rg x23 (if x23 = 0 then m_x12_see_J109 x22 x23 s25 else rdI (gA s25 0) 1600 x24 (fun y38 => rdI (gA s25 0) 1600 (x24 + 1) (fun y39 => rg ((256 * y38) + y39) (if 999 < ((256 * y38) + y39) then m_x12_see_J101 lr36 x22 x24 s25 else rdI (gA s25 0) 1600 (x24 + 2) (fun y42 => rdI (gA s25 0) 1600 (x24 + 3) (fun y43 => rg ((256 * y42) + y43) (if 1000 < ((256 * y42) + y43) then m_x12_see_J101 lr36 x22 x24 s25 else m_x12_see_J102 lr36 x22 x24 1 s25)))))))))
def m_x12_see_L36 (n : Nat) : Int → Int → Int → MS → Option (Int × MS) := lp (fun _ _ _ _ => none) (m_x12_see_b36) n
def m_x12_see_J33 (x46 : Int) (x47 : Int) (s48 : MS) : Option (Int × MS) :=
  m_x12_see_L36 FU x46 x47 0 s48
def m_x12_see_J32 (x49 : Int) (s50 : MS) : Option (Int × MS) :=
  m_x12_see_J33 x49 0 s50
def m_x12_see (s : MS) : Option (Int × MS) :=
  stn (sI s 1 0) (fun s51 => rg (gI s 1) (if (gI s 1) ≤ 0 then m_x12_see_J32 (gI s 1) s51 else dv (gI s 1) 4 (rg (Int.tmod (gI s 1) 4) (if (Int.tmod (gI s 1) 4) = 0 then dv (gI s 1) 4 (rg (Int.tdiv (gI s 1) 4) (if 12 < (Int.tdiv (gI s 1) 4) then m_x12_see_J32 (gI s 1) s51 else m_x12_see_J33 (gI s 1) 1 s51)) else m_x12_see_J32 (gI s 1) s51))))
def m_x12_toldOf_J19 (s : MS) (x1 : Int) : Option Int :=
  some x1
def m_x12_toldOf (p0 : Int) (p1 : Int) (s : MS) : Option Int :=
  bn (m_x12_valueOf p0 p1 s) (fun r3 => rg r3 (if r3 = (-1) then m_x12_toldOf_J19 s 1000 else m_x12_toldOf_J19 s r3))
def m_x12_doesFit_b13 (s : MS) (lr13 : Int → Int → Option Int) (x1 : Int) (x2 : Int) : Option Int :=
  rg x2 (rg (gI s 73) (if (gI s 73) ≤ x2 then some 1 else rdI (gA s 74) 24 (2 * x2) (fun y6 => bn (m_x12_toldOf x1 y6 s) (fun r8 => rdI (gA s 74) 24 ((2 * x2) + 1) (fun y9 => rg r8 (rg y9 (if r8 = y9 then lr13 x1 (x2 + 1) else some 0)))))))
def m_x12_doesFit_L13 (s : MS) (n : Nat) : Int → Int → Option Int := lp (fun _ _ => none) (m_x12_doesFit_b13 s) n
def m_x12_doesFit (p0 : Int) (s : MS) : Option Int :=
  rg p0 (bn (m_x12_isVolume p0 s) (fun r15 => rg r15 (if r15 = 0 then some 0 else m_x12_doesFit_L13 s FU p0 0)))
def m_x12_fits_J54 (s : MS) (x1 : Int) : Option Int :=
  some x1
def m_x12_fits_J38 (s : MS) (lr11 : Int → Int → Int → Option Int) (x5 : Int) (x6 : Int) (x7 : Int) : Option Int :=
  lr11 x5 x6 (x7 + 1)
def m_x12_fits_b11 (s : MS) (lr11 : Int → Int → Int → Option Int) (x2 : Int) (x3 : Int) (x4 : Int) : Option Int :=
  rg x4 (if 8 ≤ x4 then rg x2 (if x2 = (-1) then m_x12_fits_J54 s x3 else m_x12_fits_J54 s (-1)) else bn (m_x12_doesFit x4 s) (fun r13 => rg r13 (if r13 = 0 then m_x12_fits_J38 s lr11 x2 x3 x4 else rg x3 (rg x2 (if x3 = x2 then some x4 else m_x12_fits_J38 s lr11 x2 (x3 + 1) x4)))))
def m_x12_fits_L11 (s : MS) (n : Nat) : Int → Int → Int → Option Int := lp (fun _ _ _ => none) (m_x12_fits_b11 s) n
def m_x12_fits (p0 : Int) (s : MS) : Option Int :=
  rg p0 (if (-1) ≤ p0 then m_x12_fits_L11 s FU p0 0 0 else some (-1))
def m_x12_mostAlike_J77 (s : MS) (lr4 : Int → Int → Int → Option Int) (x4 : Int) (x5 : Int) (x6 : Int) : Option Int :=
  lr4 x4 x5 (x6 + 1)
def m_x12_mostAlike_J62 (s : MS) (lr4 : Int → Int → Int → Option Int) (lr27 : Int → Int → Int → Int → Int → Option Int) (x12 : Int) (x13 : Int) (x14 : Int) (x15 : Int) (x16 : Int) : Option Int :=
  lr27 x12 x13 x14 x15 (x16 + 1)
def m_x12_mostAlike_b27 (s : MS) (lr4 : Int → Int → Int → Option Int) (lr27 : Int → Int → Int → Int → Int → Option Int) (x7 : Int) (x8 : Int) (x9 : Int) (x10 : Int) (x11 : Int) : Option Int :=
  rg x11 (if 8 ≤ x11 then rg x10 (rg x8 (if x10 ≤ x8 then m_x12_mostAlike_J77 s lr4 x7 x8 x9 else m_x12_mostAlike_J77 s lr4 x7 x10 x9)) else bn (m_x12_doesFit x11 s) (fun r23 => rg r23 (if r23 = 0 then m_x12_mostAlike_J62 s lr4 lr27 x7 x8 x9 x10 x11 else bn (m_x12_toldOf x11 x7 s) (fun r27 => bn (m_x12_toldOf x9 x7 s) (fun r29 => rg r27 (rg r29 (if r27 = r29 then m_x12_mostAlike_J62 s lr4 lr27 x7 x8 x9 (x10 + 1) x11 else m_x12_mostAlike_J62 s lr4 lr27 x7 x8 x9 x10 x11)))))))
def m_x12_mostAlike_L27 (s : MS) (lr4 : Int → Int → Int → Option Int) (n : Nat) : Int → Int → Int → Int → Int → Option Int := lp (fun _ _ _ _ _ => none) (m_x12_mostAlike_b27 s lr4) n
def m_x12_mostAlike_b4 (s : MS) (lr4 : Int → Int → Int → Option Int) (x1 : Int) (x2 : Int) (x3 : Int) : Option Int :=
  rg x3 (if 8 ≤ x3 then some x2 else bn (m_x12_doesFit x3 s) (fun r36 => rg r36 (if r36 = 0 then m_x12_mostAlike_J77 s lr4 x1 x2 x3 else m_x12_mostAlike_L27 s lr4 FU x1 x2 x3 0 0)))
def m_x12_mostAlike_L4 (s : MS) (n : Nat) : Int → Int → Int → Option Int := lp (fun _ _ _ => none) (m_x12_mostAlike_b4 s) n
def m_x12_mostAlike (p0 : Int) (s : MS) : Option Int :=
  m_x12_mostAlike_L4 s FU p0 0 0
def m_x12_tells_J77 (s : MS) (x1 : Int) : Option Int :=
  some x1
def m_x12_tells_J62 (s : MS) (lr27 : Int → Int → Int → Int → Option Int) (x6 : Int) (x7 : Int) (x8 : Int) (x9 : Int) : Option Int :=
  lr27 x6 x7 x8 (x9 + 1)
def m_x12_tells_J56 (s : MS) (lr27 : Int → Int → Int → Int → Option Int) (x10 : Int) (x11 : Int) (x12 : Int) : Option Int :=
  m_x12_tells_J62 s lr27 x10 x11 x12 x11
def m_x12_tells_b27 (s : MS) (lr27 : Int → Int → Int → Int → Option Int) (x2 : Int) (x3 : Int) (x4 : Int) (x5 : Int) : Option Int :=
  rg x5 (if 100 ≤ x5 then rg x2 (if x2 = 0 then m_x12_tells_J77 s x3 else m_x12_tells_J77 s x4) else bn (m_x12_mostAlike x5 s) (fun r18 => rg x3 (if x3 = (-1) then m_x12_tells_J56 s lr27 x2 x5 r18 else rg r18 (rg x4 (if r18 < x4 then m_x12_tells_J56 s lr27 x2 x5 r18 else m_x12_tells_J62 s lr27 x2 x3 x4 x5)))))
def m_x12_tells_L27 (s : MS) (n : Nat) : Int → Int → Int → Int → Option Int := lp (fun _ _ _ _ => none) (m_x12_tells_b27 s) n
def m_x12_tells_J18 (s : MS) (_u : Unit) : Option Int :=
  some (-1)
def m_x12_tells (p0 : Int) (s : MS) : Option Int :=
  rg p0 (bn (m_x12_isIn p0 0 1 s) (fun r26 => rg r26 (if r26 = 0 then m_x12_tells_J18 s () else bn (m_x12_fits (-1) s) (fun r30 => rg r30 (if r30 = 0 then m_x12_tells_J18 s () else m_x12_tells_L27 s FU p0 (-1) (-1) 0)))))
def m_x12_keeps_J68 (s1 : MS) : Option MS :=
  some s1
def m_x12_keeps_b15 (lr15 : Int → MS → Option MS) (x2 : Int) (s3 : MS) : Option MS :=
  rg x2 (if 906 ≤ x2 then rg (gI s3 76) (if 20 ≤ (gI s3 76) then m_x12_keeps_J68 s3 else stn (sI s3 76 ((gI s3 76) + 1)) (fun s8 => m_x12_keeps_J68 s8)) else rdI (gA s3 49) 906 x2 (fun y9 => inb 18120 ((906 * (gI s3 77)) + x2) (stn (sA s3 75 (upZ (gA s3 75) (Int.toNat ((906 * (gI s3 77)) + x2)) y9)) (fun s11 => lr15 (x2 + 1) s11))))
def m_x12_keeps_L15 (n : Nat) : Int → MS → Option MS := lp (fun _ _ => none) (m_x12_keeps_b15) n
def m_x12_keeps (s : MS) : Option MS :=
  dv ((gI s 77) + 1) 20 (stn (sI s 77 (Int.tmod ((gI s 77) + 1) 20)) (fun s13 => m_x12_keeps_L15 FU 0 s13))
def m_x12_undo_b21 (lr21 : Int → MS → Option (Int × MS)) (x1 : Int) (s2 : MS) : Option (Int × MS) :=
  rg x1 (if 906 ≤ x1 then dv (((gI s2 77) + 20) - 1) 20 (stn (sI s2 77 (Int.tmod (((gI s2 77) + 20) - 1) 20)) (fun s6 => stn (sI s6 76 ((gI s6 76) - 1)) (fun s7 => some (1, s7)))) else rdI (gA s2 75) 18120 ((906 * (gI s2 77)) + x1) (fun y8 => inb 906 x1 (stn (sA s2 49 (upZ (gA s2 49) (Int.toNat x1) y8)) (fun s10 => lr21 (x1 + 1) s10))))
def m_x12_undo_L21 (n : Nat) : Int → MS → Option (Int × MS) := lp (fun _ _ => none) (m_x12_undo_b21) n
def m_x12_undo (s : MS) : Option (Int × MS) :=
  rg (gI s 76) (if (gI s 76) = 0 then rdI (gA s 9) 6 4 (fun y13 => inb 6 4 (stn (sA s 9 (upZ (gA s 9) (Int.toNat 4) (y13 + 1))) (fun s15 => some (0, s15)))) else m_x12_undo_L21 FU 0 s)
def m_x12_isRefused (p0 : Int) (s : MS) : Option (Int × MS) :=
  rdI (gA s 9) 6 p0 (fun y1 => inb 6 p0 (stn (sA s 9 (upZ (gA s 9) (Int.toNat p0) (y1 + 1))) (fun s3 => some (0, s3))))
def m_x12_canBe_b101 (lr101 : Int → MS → Option (Int × MS)) (x1 : Int) (s2 : MS) : Option (Int × MS) :=
  rg x1 (if 785 ≤ x1 then some (1, s2) else rdI (gA s2 61) 785 x1 (fun y5 => inb 906 x1 (stn (sA s2 49 (upZ (gA s2 49) (Int.toNat x1) y5)) (fun s7 => lr101 (x1 + 1) s7))))
def m_x12_canBe_L101 (n : Nat) : Int → MS → Option (Int × MS) := lp (fun _ _ => none) (m_x12_canBe_b101) n
def m_x12_canBe_b48 (lr48 : Int → MS → Option (Int × MS)) (x8 : Int) (s9 : MS) : Option (Int × MS) :=
  rg x8 (if 785 ≤ x8 then bn (m_x12_keeps s9) (fun s13 => m_x12_canBe_L101 FU 0 s13) else rdI (gA s9 49) 906 x8 (fun y14 => rdI (gA s9 61) 785 x8 (fun y15 => inb 906 x8 (stn (sA s9 49 (upZ (gA s9 49) (Int.toNat x8) y15)) (fun s17 => inb 785 x8 (stn (sA s17 61 (upZ (gA s17 61) (Int.toNat x8) y14)) (fun s19 => lr48 (x8 + 1) s19)))))))
def m_x12_canBe_L48 (n : Nat) : Int → MS → Option (Int × MS) := lp (fun _ _ => none) (m_x12_canBe_b48) n
def m_x12_canBe_b3 (lr3 : Int → Int → Int → Int → Int → MS → Option (Int × MS)) (x20 : Int) (x21 : Int) (x22 : Int) (x23 : Int) (x24 : Int) (s25 : MS) : Option (Int × MS) :=
  rg x24 (if 785 ≤ x24 then bn (m_x12_tries x20 x21 x22 x23 s25) (fun qr30 => rg qr30.1 (if qr30.1 = 0 then some (0, qr30.2) else m_x12_canBe_L48 FU 0 qr30.2)) else rdI (gA s25 49) 906 x24 (fun y33 => inb 785 x24 (stn (sA s25 61 (upZ (gA s25 61) (Int.toNat x24) y33)) (fun s35 => lr3 x20 x21 x22 x23 (x24 + 1) s35))))
def m_x12_canBe_L3 (n : Nat) : Int → Int → Int → Int → Int → MS → Option (Int × MS) := lp (fun _ _ _ _ _ _ => none) (m_x12_canBe_b3) n
def m_x12_canBe (p0 : Int) (p1 : Int) (p2 : Int) (p3 : Int) (s : MS) : Option (Int × MS) :=
  m_x12_canBe_L3 FU p0 p1 p2 p3 0 s
def m_x12_put_J33 (s1 : MS) : Option (Int × MS) :=
  bn (m_x12_refuses 2 s1) (fun qr4 => some (qr4.1, qr4.2))
def m_x12_put (p0 : Int) (p1 : Int) (p2 : Int) (s : MS) : Option (Int × MS) :=
  rg p0 (bn (m_x12_isVolume p0 s) (fun r7 => rg r7 (if r7 = 0 then m_x12_put_J33 s else rg p1 (bn (m_x12_isIn p1 0 999 s) (fun r12 => rg r12 (if r12 = 0 then m_x12_put_J33 s else rg p2 (bn (m_x12_isIn p2 0 999 s) (fun r17 => rg r17 (if r17 = 0 then m_x12_put_J33 s else bn (m_x12_clearsTouched s) (fun s21 => bn (m_x12_canBe 2 p0 p1 p2 s21) (fun qr24 => rg qr24.1 (if qr24.1 = 0 then bn (m_x12_refuses 2 qr24.2) (fun qr33 => some (qr33.1, qr33.2)) else bn (m_x12_isKept 0 p0 qr24.2) (fun s28 => bn (m_x12_writtenMany s28) (fun r30 => some (r30, s28)))))))))))))))
def m_x12_remove (p0 : Int) (p1 : Int) (s : MS) : Option (Int × MS) :=
  rg p0 (bn (m_x12_isVolume p0 s) (fun r3 => rg r3 (if r3 = 0 then bn (m_x12_refuses 2 s) (fun qr22 => some (qr22.1, qr22.2)) else bn (m_x12_clearsTouched s) (fun s7 => bn (m_x12_canBe 3 p0 p1 0 s7) (fun qr10 => rg qr10.1 (if qr10.1 = 0 then bn (m_x12_refuses 2 qr10.2) (fun qr19 => some (qr19.1, qr19.2)) else bn (m_x12_isKept 1 p0 qr10.2) (fun s14 => bn (m_x12_writtenMany s14) (fun r16 => some (r16, s14)))))))))
def m_x12_freeNumber_J26 (s : MS) (x1 : Int) : Option Int :=
  some x1
def m_x12_freeNumber_b2 (s : MS) (lr2 : Int → Option Int) (x2 : Int) : Option Int :=
  rg x2 (if 8 ≤ x2 then m_x12_freeNumber_J26 s x2 else rdI (gA s 49) 906 x2 (fun y5 => rg y5 (if y5 = 255 then m_x12_freeNumber_J26 s x2 else lr2 (x2 + 1))))
def m_x12_freeNumber_L2 (s : MS) (n : Nat) : Int → Option Int := lp (fun _ => none) (m_x12_freeNumber_b2 s) n
def m_x12_freeNumber (s : MS) : Option Int :=
  m_x12_freeNumber_L2 s FU 0
def m_x12_copy_J20 (s1 : MS) : Option (Int × MS) :=
  bn (m_x12_refuses 2 s1) (fun qr4 => some (qr4.1, qr4.2))
def m_x12_copy (p0 : Int) (s : MS) : Option (Int × MS) :=
  bn (m_x12_freeNumber s) (fun r6 => rg p0 (bn (m_x12_isVolume p0 s) (fun r9 => rg r9 (if r9 = 0 then m_x12_copy_J20 s else rg r6 (if r6 = 8 then m_x12_copy_J20 s else bn (m_x12_keeps s) (fun s15 => bn (m_x12_clearsTouched s15) (fun s17 => bn (m_x12_copies p0 r6 s17) (fun s19 => bn (m_x12_isKept 2 r6 s19) (fun s21 => some (r6, s21))))))))))
def m_x12_drop (p0 : Int) (s : MS) : Option (Int × MS) :=
  rg p0 (bn (m_x12_isVolume p0 s) (fun r3 => rg r3 (if r3 = 0 then bn (m_x12_refuses 2 s) (fun qr20 => some (qr20.1, qr20.2)) else bn (m_x12_keeps s) (fun s7 => bn (m_x12_clearsTouched s7) (fun s9 => bn (m_x12_usedMany s9) (fun r11 => bn (m_x12_drops p0 s9) (fun s13 => bn (m_x12_isKept 3 p0 s13) (fun s15 => bn (m_x12_usedMany s15) (fun r17 => some (r11 - r17, s15))))))))))
def m_x12_checkpoint (s : MS) : Option (Int × MS) :=
  rg (gI s 47) (if (gI s 47) = 0 then bn (m_x12_refuses 3 s) (fun qr15 => some (qr15.1, qr15.2)) else bn (m_x12_keeps s) (fun s4 => bn (m_x12_clearsTouched s4) (fun s6 => bn (m_x12_heldMany s6) (fun r8 => bn (m_x12_checks s6) (fun s10 => bn (m_x12_isKept 4 255 s10) (fun s12 => some (r8, s12)))))))
def m_x12_crash_J44 (lr25 : Int → Int → MS → Option (Int × MS)) (x4 : Int) (x5 : Int) (s6 : MS) : Option (Int × MS) :=
  lr25 x4 (x5 + 1) s6
def m_x12_crash_b25 (lr25 : Int → Int → MS → Option (Int × MS)) (x1 : Int) (x2 : Int) (s3 : MS) : Option (Int × MS) :=
  bn (m_x12_blockMany s3) (fun r8 => rg x2 (rg r8 (if r8 ≤ x2 then bn (m_x12_crashes s3) (fun s13 => bn (m_x12_isKept 5 255 s13) (fun s15 => some (x1, s15))) else bn (m_x12_isFresh x2 s3) (fun r17 => rg r17 (if r17 = 0 then m_x12_crash_J44 lr25 x1 x2 s3 else m_x12_crash_J44 lr25 (x1 + 1) x2 s3)))))
def m_x12_crash_L25 (n : Nat) : Int → Int → MS → Option (Int × MS) := lp (fun _ _ _ => none) (m_x12_crash_b25) n
def m_x12_crash (s : MS) : Option (Int × MS) :=
  rg (gI s 47) (if (gI s 47) = 0 then bn (m_x12_refuses 3 s) (fun qr28 => some (qr28.1, qr28.2)) else bn (m_x12_keeps s) (fun s23 => bn (m_x12_clearsTouched s23) (fun s25 => m_x12_crash_L25 FU 0 0 s25)))
def m_x12_seed (p0 : Int) (s : MS) : Option (Int × MS) :=
  rg p0 (if 0 ≤ p0 then rg p0 (stn (sL s 78 p0) (fun s4 => some (1, s4))) else bn (m_x12_isRefused 5 s) (fun qr7 => bo qr7.1 (some (qr7.1, qr7.2))))
def m_x12_drawOf (p0 : Int) (s : MS) : Option (Int × MS) :=
  dvL ((1103515245 * (gL s 78)) + 12345) 2147483648 (stn (sL s 78 (Int.tmod ((1103515245 * (gL s 78)) + 12345) 2147483648)) (fun s2 => dvL (gL s2 78) 64 (rg p0 (dvL (Int.tdiv (gL s2 78) 64) p0 (some (Int.tmod (Int.tdiv (gL s2 78) 64) p0, s2))))))
def m_x12_volumeAt_J29 (s : MS) (lr4 : Int → Int → Option Int) (x3 : Int) (x4 : Int) : Option Int :=
  lr4 (x3 + 1) x4
def m_x12_volumeAt_J17 (s : MS) (lr4 : Int → Int → Option Int) (x5 : Int) (x6 : Int) : Option Int :=
  rg x5 (bn (m_x12_isVolume x5 s) (fun r9 => rg r9 (if r9 = 0 then m_x12_volumeAt_J29 s lr4 x5 x6 else m_x12_volumeAt_J29 s lr4 x5 (x6 + (-1)))))
def m_x12_volumeAt_b4 (s : MS) (lr4 : Int → Int → Option Int) (x1 : Int) (x2 : Int) : Option Int :=
  rg x2 (if 0 < x2 then m_x12_volumeAt_J17 s lr4 x1 x2 else rg x1 (bn (m_x12_isVolume x1 s) (fun r16 => rg r16 (if r16 = 0 then m_x12_volumeAt_J17 s lr4 x1 x2 else some x1))))
def m_x12_volumeAt_L4 (s : MS) (n : Nat) : Int → Int → Option Int := lp (fun _ _ => none) (m_x12_volumeAt_b4 s) n
def m_x12_volumeAt (p0 : Int) (s : MS) : Option Int :=
  m_x12_volumeAt_L4 s FU 0 p0
def m_x12_isDrawn_J84 (x1 : Int) (s2 : MS) : Option (Int × MS) :=
  bo x1 (some (x1, s2))
def m_x12_isDrawn_J20 (s4 : MS) : Option (Int × MS) :=
  bn (m_x12_volumeMany s4) (fun r6 => rg r6 (if r6 = 0 then some (0, s4) else bn (m_x12_volumeMany s4) (fun r10 => bn (m_x12_drawOf r10 s4) (fun qr13 => bn (m_x12_volumeAt qr13.1 qr13.2) (fun r15 => bn (m_x12_drawOf 3 qr13.2) (fun qr18 => bn (m_x12_drawOf 40 qr18.2) (fun qr21 => rg qr18.1 (if 2 ≤ qr18.1 then bn (m_x12_tries 3 r15 qr21.1 0 qr21.2) (fun qr26 => m_x12_isDrawn_J84 qr26.1 qr26.2) else bn (m_x12_drawOf 100 qr21.2) (fun qr29 => bn (m_x12_tries 2 r15 qr21.1 qr29.1 qr29.2) (fun qr32 => m_x12_isDrawn_J84 qr32.1 qr32.2))))))))))
def m_x12_isDrawn (s : MS) : Option (Int × MS) :=
  bn (m_x12_drawOf 100 s) (fun qr35 => rdI (gA qr35.2 39) 10 9 (fun y36 => rg qr35.1 (rg y36 (if y36 ≤ qr35.1 then m_x12_isDrawn_J20 qr35.2 else bn (m_x12_checks qr35.2) (fun s41 => m_x12_isDrawn_J20 s41)))))
def m_x12_chance_J52 (lr37 : Int → Int → Int → MS → Option (Int × MS)) (x5 : Int) (x6 : Int) (x7 : Int) (s8 : MS) : Option (Int × MS) :=
  lr37 x5 x6 (x7 + 1) s8
def m_x12_chance_b37 (lr37 : Int → Int → Int → MS → Option (Int × MS)) (x1 : Int) (x2 : Int) (x3 : Int) (s4 : MS) : Option (Int × MS) :=
  rg x3 (rg x1 (if x1 ≤ x3 then bn (m_x12_isKept 6 255 s4) (fun s13 => some (x2, s13)) else bn (m_x12_isDrawn s4) (fun qr16 => rg qr16.1 (if qr16.1 = 0 then m_x12_chance_J52 lr37 x1 x2 x3 qr16.2 else m_x12_chance_J52 lr37 x1 (x2 + 1) x3 qr16.2))))
def m_x12_chance_L37 (n : Nat) : Int → Int → Int → MS → Option (Int × MS) := lp (fun _ _ _ _ => none) (m_x12_chance_b37) n
def m_x12_chance_J19 (s19 : MS) : Option (Int × MS) :=
  bn (m_x12_refuses 3 s19) (fun qr22 => some (qr22.1, qr22.2))
def m_x12_chance (p0 : Int) (s : MS) : Option (Int × MS) :=
  rg (gI s 47) (if (gI s 47) = 0 then m_x12_chance_J19 s else rg p0 (bn (m_x12_isIn p0 1 40 s) (fun r27 => rg r27 (if r27 = 0 then m_x12_chance_J19 s else bn (m_x12_keeps s) (fun s31 => bn (m_x12_clearsTouched s31) (fun s33 => m_x12_chance_L37 FU p0 0 0 s33))))))
def m_x12_qOf_J69 (s : MS) (z1 : Int) : Option Int :=
  some z1
def m_x12_qOf_J68 (s : MS) (_u : Unit) : Option Int :=
  m_x12_qOf_J69 s 0
def m_x12_qOf_J39 (s : MS) (z2 : Int) : Option Int :=
  some z2
def m_x12_qOf (p0 : Int) (p1 : Int) (p2 : Int) (s : MS) : Option Int :=
  rg p0 (if p0 = 0 then bn (m_x12_isBlock p1 s) (fun r6 => rg r6 (if r6 = 0 then m_x12_qOf_J39 s 0 else bn (m_x12_countOf p1 s) (fun r10 => rg r10 (m_x12_qOf_J39 s r10)))) else bn (m_x12_isBlock p1 s) (fun r13 => rg r13 (if r13 = 0 then m_x12_qOf_J68 s () else bn (m_x12_isUsed p1 s) (fun r17 => rg r17 (if r17 = 0 then m_x12_qOf_J68 s () else bn (m_x12_keyAt p1 0 s) (fun r21 => rg r21 (m_x12_qOf_J69 s r21)))))))
def m_x12_qTold_J162 (lr7 : Int → Int → MS → Option (Int × MS)) (x4 : Int) (x5 : Int) (s6 : MS) : Option (Int × MS) :=
  lr7 x4 (x5 + 1) s6
def m_x12_qTold_b7 (lr7 : Int → Int → MS → Option (Int × MS)) (x1 : Int) (x2 : Int) (s3 : MS) : Option (Int × MS) :=
  rg x2 (rg (gI s3 102) (if (gI s3 102) ≤ x2 then rdL (gB s3 107) 1700 0 (fun yl10 => some (yl10, s3)) else rdI (gA s3 101) 1700 x2 (fun y11 => rg y11 (if y11 < 1000 then rg y11 (if y11 < 60 then rg y11 (if y11 < 40 then rg y11 (if y11 = 13 then bn (m_x12_qPuts 1 s3) (fun s28 => m_x12_qTold_J162 lr7 x1 x2 s28) else rg y11 (if y11 = 12 then rdL (gB s3 107) 1700 ((gI s3 108) - 1) (fun yl24 => inb 1700 ((gI s3 108) - 1) (stn (sB s3 107 (upZ (gB s3 107) (Int.toNat ((gI s3 108) - 1)) (1 - yl24))) (fun s26 => m_x12_qTold_J162 lr7 x1 x2 s26))) else bn (m_x12_qJoins y11 s3) (fun s23 => m_x12_qTold_J162 lr7 x1 x2 s23))) else bn (m_x12_qPartOf (y11 - 40) x1 s3) (fun rl30 => bn (m_x12_qClip rl30 s3) (fun rl32 => bn (m_x12_qPuts rl32 s3) (fun s34 => m_x12_qTold_J162 lr7 x1 x2 s34)))) else rdL (gB s3 107) 1700 ((gI s3 108) - 1) (fun yl35 => bn (m_x12_qOf (y11 - 60) yl35 x1 s3) (fun rl37 => bn (m_x12_qClip rl37 s3) (fun rl39 => inb 1700 ((gI s3 108) - 1) (stn (sB s3 107 (upZ (gB s3 107) (Int.toNat ((gI s3 108) - 1)) rl39)) (fun s41 => m_x12_qTold_J162 lr7 x1 x2 s41)))))) else rg (y11 - 1000) (bn (m_x12_qPuts (y11 - 1000) s3) (fun s44 => m_x12_qTold_J162 lr7 x1 x2 s44))))))
def m_x12_qTold_L7 (n : Nat) : Int → Int → MS → Option (Int × MS) := lp (fun _ _ _ => none) (m_x12_qTold_b7) n
def m_x12_qTold (p0 : Int) (s : MS) : Option (Int × MS) :=
  stn (sI s 108 0) (fun s45 => m_x12_qTold_L7 FU p0 0 s45)
def m_x12_qKind_J90 (x1 : Int) (s2 : MS) : Option (Int × MS) :=
  some (x1, s2)
def m_x12_qKind_J76 (x3 : Int) (s4 : MS) : Option (Int × MS) :=
  rg x3 (if x3 = 5 then bn (m_x12_asks 84 5 s4) (fun s8 => m_x12_qKind_J90 x3 s8) else m_x12_qKind_J90 x3 s4)
def m_x12_qKind (s : MS) : Option (Int × MS) :=
  bn (m_x12_takes 79 5 s) (fun qr11 => rg qr11.1 (if qr11.1 = 0 then bn (m_x12_takes 80 4 qr11.2) (fun qr16 => rg qr16.1 (if qr16.1 = 0 then bn (m_x12_takes 81 5 qr16.2) (fun qr21 => rg qr21.1 (if qr21.1 = 0 then bn (m_x12_takes 82 5 qr21.2) (fun qr26 => rg qr26.1 (if qr26.1 = 0 then bn (m_x12_takes 83 4 qr26.2) (fun qr31 => rg qr31.1 (if qr31.1 = 0 then m_x12_qKind_J76 5 qr31.2 else m_x12_qKind_J76 4 qr31.2)) else m_x12_qKind_J76 3 qr26.2)) else m_x12_qKind_J76 2 qr21.2)) else m_x12_qKind_J76 1 qr16.2)) else m_x12_qKind_J76 0 qr11.2))
def m_x12_qTakes_J133 (s1 : MS) : Option MS :=
  stn (sI s1 110 0) (fun s2 => some s2)
def m_x12_qTakes_J128 (z3 : Int) (s4 : MS) : Option MS :=
  stn (sL s4 109 z3) (fun s5 => m_x12_qTakes_J133 s5)
def m_x12_qTakes_J90 (x6 : Int) (z7 : Int) (s8 : MS) : Option MS :=
  rg x6 (if x6 ≤ 3 then m_x12_qTakes_J133 s8 else rg (gI s8 110) (if (gI s8 110) = 0 then rg x6 (if x6 = 4 then rgL z7 (rgL (gL s8 109) (if z7 ≤ (gL s8 109) then m_x12_qTakes_J133 s8 else m_x12_qTakes_J128 z7 s8)) else rgL z7 (rgL (gL s8 109) (if (gL s8 109) ≤ z7 then m_x12_qTakes_J133 s8 else m_x12_qTakes_J128 z7 s8))) else m_x12_qTakes_J128 z7 s8))
def m_x12_qTakes_J75 (x21 : Int) (z22 : Int) (s23 : MS) : Option MS :=
  rg x21 (if x21 = 3 then stn (sL s23 109 ((gL s23 109) + z22)) (fun s26 => m_x12_qTakes_J90 x21 z22 s26) else m_x12_qTakes_J90 x21 z22 s23)
def m_x12_qTakes_J55 (x27 : Int) (z28 : Int) (x29 : Int) (s30 : MS) : Option MS :=
  rg x27 (if x27 = 2 then rg x29 (if x29 = 0 then m_x12_qTakes_J75 x27 z28 s30 else stn (sL s30 109 ((gL s30 109) + 1)) (fun s35 => m_x12_qTakes_J75 x27 z28 s35)) else m_x12_qTakes_J75 x27 z28 s30)
def m_x12_qTakes_J48 (x36 : Int) (z37 : Int) (x38 : Int) (x39 : Int) (s40 : MS) : Option MS :=
  rg x38 (stn (sL s40 109 x38) (fun s42 => m_x12_qTakes_J55 x36 z37 x39 s42))
def m_x12_qTakes_J38 (x43 : Int) (z44 : Int) (x45 : Int) (x46 : Int) (s47 : MS) : Option MS :=
  rg x43 (if x43 = 1 then rg x46 (if x46 = 0 then m_x12_qTakes_J55 x43 z44 x46 s47 else m_x12_qTakes_J48 x43 z44 x45 x46 s47) else m_x12_qTakes_J55 x43 z44 x46 s47)
def m_x12_qTakes_J16 (x52 : Int) (z53 : Int) (x54 : Int) (x55 : Int) (s56 : MS) : Option MS :=
  rg x52 (if x52 = 0 then rg x55 (if x55 = 0 then m_x12_qTakes_J38 x52 z53 x54 x55 s56 else rgL (gL s56 109) (if (gL s56 109) = (-1) then m_x12_qTakes_J48 x52 z53 x54 x55 s56 else m_x12_qTakes_J38 x52 z53 x54 x55 s56)) else m_x12_qTakes_J38 x52 z53 x54 x55 s56)
def m_x12_qTakes_J15 (x63 : Int) (z64 : Int) (x65 : Int) (s66 : MS) : Option MS :=
  m_x12_qTakes_J16 x63 z64 x65 0 s66
def m_x12_qTakes (p0 : Int) (p1 : Int) (p2 : Int) (s : MS) : Option MS :=
  rg p0 (if 3 ≤ p0 then m_x12_qTakes_J15 p0 p1 p2 s else rgL p1 (if p1 = 1 then m_x12_qTakes_J16 p0 p1 p2 1 s else m_x12_qTakes_J15 p0 p1 p2 s))
def m_x12_ask_J235 (lr183 : Int → Int → MS → Option (Int × MS)) (x4 : Int) (x5 : Int) (x6 : Int) (s7 : MS) : Option (Int × MS) :=
  stn (sI s7 53 x6) (fun s8 => bn (m_x12_qTold x5 s8) (fun qrl11 => bn (m_x12_qTakes x4 qrl11.1 x5 qrl11.2) (fun s13 => lr183 x4 (x5 + 1) s13)))
def m_x12_ask_J214 (lr183 : Int → Int → MS → Option (Int × MS)) (x14 : Int) (x15 : Int) (x16 : Int) (s17 : MS) : Option (Int × MS) :=
  stn (sI s17 52 x16) (fun s18 => bn (m_x12_isThere x15 s18) (fun r20 => rg r20 (if r20 = 0 then m_x12_ask_J235 lr183 x14 x15 0 s18 else bn (m_x12_entriesOf x15 s18) (fun r24 => m_x12_ask_J235 lr183 x14 x15 r24 s18))))
def m_x12_ask_b183 (lr183 : Int → Int → MS → Option (Int × MS)) (x1 : Int) (x2 : Int) (s3 : MS) : Option (Int × MS) :=
  bn (m_x12_blockMany s3) (fun r26 => rg x2 (rg r26 (if r26 ≤ x2 then some (gL s3 109, s3) else stn (sI s3 50 x2) (fun s30 => bn (m_x12_isThere x2 s30) (fun r32 => rg r32 (if r32 = 0 then m_x12_ask_J214 lr183 x1 x2 0 s30 else bn (m_x12_levelOf x2 s30) (fun r36 => m_x12_ask_J214 lr183 x1 x2 r36 s30)))))))
def m_x12_ask_L183 (n : Nat) : Int → Int → MS → Option (Int × MS) := lp (fun _ _ _ => none) (m_x12_ask_b183) n
def m_x12_ask_J173 (x37 : Int) (z38 : Int) (s39 : MS) : Option (Int × MS) :=
  stn (sL s39 109 z38) (fun s40 => stn (sI s40 110 1) (fun s41 => m_x12_ask_L183 FU x37 0 s41))
def m_x12_ask_J133 (x42 : Int) (s43 : MS) : Option (Int × MS) :=
  stn (sI s43 7 (gI s43 5)) (fun s44 => stn (sI s44 8 (gI s44 6)) (fun s45 => rg (gI s45 5) (if (gI s45 5) = 0 then rg x42 (if 2 ≤ x42 then m_x12_ask_J173 x42 0 s45 else m_x12_ask_J173 x42 (-1) s45) else some ((-1000000000000000), s45))))
def m_x12_ask_J109 (x50 : Int) (s51 : MS) : Option (Int × MS) :=
  rg (gI s51 5) (if (gI s51 5) = 0 then bn (m_x12_look s51) (fun qr56 => rg qr56.1 (if qr56.1 = (-1) then m_x12_ask_J133 x50 qr56.2 else bn (m_x12_fail 1 (gI qr56.2 2) qr56.2) (fun s60 => m_x12_ask_J133 x50 s60))) else m_x12_ask_J133 x50 s51)
def m_x12_ask_J98 (x61 : Int) (s62 : MS) : Option (Int × MS) :=
  rg (gI s62 5) (if (gI s62 5) = 0 then bn (m_x12_qSums s62) (fun s66 => m_x12_ask_J109 x61 s66) else m_x12_ask_J109 x61 s62)
def m_x12_ask (s : MS) : Option (Int × MS) :=
  rg (gI s 47) (if (gI s 47) = 0 then stn (sI s 1 0) (fun s89 => some ((-1000000000000000), s89)) else stn (sI s 3 (gI s 1)) (fun s69 => stn (sI s69 1 0) (fun s70 => stn (sI s70 2 0) (fun s71 => stn (sI s71 4 (-1)) (fun s72 => stn (sI s72 5 0) (fun s73 => stn (sI s73 6 (-1)) (fun s74 => stn (sI s74 48 3) (fun s75 => stn (sI s75 102 0) (fun s76 => stn (sI s76 104 0) (fun s77 => stn (sI s77 105 0) (fun s78 => stn (sI s78 106 0) (fun s79 => bn (m_x12_qKind s79) (fun qr82 => rg (gI qr82.2 5) (if (gI qr82.2 5) = 0 then rg qr82.1 (if 3 ≤ qr82.1 then m_x12_ask_J98 qr82.1 qr82.2 else bn (m_x12_qTest qr82.2) (fun s88 => m_x12_ask_J109 qr82.1 s88)) else m_x12_ask_J98 qr82.1 qr82.2))))))))))))))
def m_x12_tellsByte (p0 : Int) (s : MS) : Option MS :=
  inb 1364 (gI s 112) (stn (sA s 111 (upZ (gA s 111) (Int.toNat (gI s 112)) p0)) (fun s2 => stn (sI s2 112 ((gI s2 112) + 1)) (fun s3 => some s3)))
def m_x12_tellsTwo (p0 : Int) (s : MS) : Option MS :=
  dv p0 256 (bn (m_x12_tellsByte (Int.tdiv p0 256) s) (fun s3 => dv p0 256 (bn (m_x12_tellsByte (Int.tmod p0 256) s3) (fun s6 => some s6))))
def m_x12_octet_J22 (s : MS) (x1 : Int) : Option Int :=
  some x1
def m_x12_octet_J21 (s : MS) (_u : Unit) : Option Int :=
  m_x12_octet_J22 s (-1)
def m_x12_octet (p0 : Int) (s : MS) : Option Int :=
  rg p0 (if p0 < 0 then m_x12_octet_J21 s () else rg p0 (rg (gI s 112) (if (gI s 112) ≤ p0 then m_x12_octet_J21 s () else rdI (gA s 111) 1364 p0 (fun y7 => m_x12_octet_J22 s y7))))
def m_x12_status_J22 (s : MS) (x1 : Int) : Option Int :=
  some x1
def m_x12_status (p0 : Int) (s : MS) : Option Int :=
  rg p0 (bn (m_x12_isIn p0 0 5 s) (fun r4 => rg r4 (if r4 = 0 then m_x12_status_J22 s (-1) else rdI (gA s 9) 6 p0 (fun y7 => m_x12_status_J22 s y7))))
def m_x12_writesBlock_b47 (lr47 : Int → Int → MS → Option MS) (x1 : Int) (x2 : Int) (s3 : MS) : Option MS :=
  bn (m_x12_entriesOf x1 s3) (fun r5 => rg x2 (rg r5 (if r5 ≤ x2 then some s3 else bn (m_x12_keyAt x1 x2 s3) (fun r10 => bn (m_x12_tellsTwo r10 s3) (fun s12 => bn (m_x12_valueAt x1 x2 s12) (fun r14 => bn (m_x12_tellsTwo r14 s12) (fun s16 => lr47 x1 (x2 + 1) s16)))))))
def m_x12_writesBlock_L47 (n : Nat) : Int → Int → MS → Option MS := lp (fun _ _ _ => none) (m_x12_writesBlock_b47) n
def m_x12_writesBlock (p0 : Int) (s : MS) : Option MS :=
  bn (m_x12_countOf p0 s) (fun r18 => bn (m_x12_tellsByte r18 s) (fun s20 => bn (m_x12_savedOf p0 s20) (fun r22 => bn (m_x12_tellsByte r22 s20) (fun s24 => bn (m_x12_isThere p0 s24) (fun r26 => rg r26 (if r26 = 0 then some s24 else bn (m_x12_levelOf p0 s24) (fun r30 => bn (m_x12_tellsByte r30 s24) (fun s32 => bn (m_x12_entriesOf p0 s32) (fun r34 => bn (m_x12_tellsByte r34 s32) (fun s36 => m_x12_writesBlock_L47 FU p0 0 s36))))))))))
def m_x12_rootTold_J19 (s : MS) (x1 : Int) : Option Int :=
  some x1
def m_x12_rootTold (p0 : Int) (s : MS) : Option Int :=
  rg (gI s 47) (if (gI s 47) = 0 then m_x12_rootTold_J19 s 255 else rdI (gA s 49) 906 p0 (fun y4 => m_x12_rootTold_J19 s y4))
def m_x12_checked_b6 (s : MS) (lr6 : Int → Int → Int → Option Int) (x1 : Int) (x2 : Int) (x3 : Int) : Option Int :=
  rg x3 (rg x1 (if x1 ≤ x3 then some x2 else rdI (gA s 111) 1364 x3 (fun y7 => dv ((3 * x2) + y7) 251 (lr6 x1 (Int.tmod ((3 * x2) + y7) 251) (x3 + 1)))))
def m_x12_checked_L6 (s : MS) (n : Nat) : Int → Int → Int → Option Int := lp (fun _ _ _ => none) (m_x12_checked_b6 s) n
def m_x12_checked (p1 : Int) (s : MS) : Option Int :=
  m_x12_checked_L6 s FU p1 157 0
def m_x12_image_b72 (lr72 : Int → MS → Option (Int × MS)) (x1 : Int) (s2 : MS) : Option (Int × MS) :=
  bn (m_x12_blockMany s2) (fun r4 => rg x1 (rg r4 (if r4 ≤ x1 then bn (m_x12_checked (gI s2 112) s2) (fun r9 => bn (m_x12_tellsByte r9 s2) (fun s11 => some (gI s11 112, s11))) else bn (m_x12_writesBlock x1 s2) (fun s13 => lr72 (x1 + 1) s13))))
def m_x12_image_L72 (n : Nat) : Int → MS → Option (Int × MS) := lp (fun _ _ => none) (m_x12_image_b72) n
def m_x12_image_b37 (lr37 : Int → MS → Option (Int × MS)) (x14 : Int) (s15 : MS) : Option (Int × MS) :=
  rg x14 (if 8 ≤ x14 then m_x12_image_L72 FU 0 s15 else bn (m_x12_rootTold x14 s15) (fun r19 => bn (m_x12_tellsByte r19 s15) (fun s21 => bn (m_x12_rootTold (8 + x14) s21) (fun r23 => bn (m_x12_tellsByte r23 s21) (fun s25 => lr37 (x14 + 1) s25)))))
def m_x12_image_L37 (n : Nat) : Int → MS → Option (Int × MS) := lp (fun _ _ => none) (m_x12_image_b37) n
def m_x12_image (s : MS) : Option (Int × MS) :=
  stn (sI s 112 0) (fun s26 => rdI (gA s26 49) 906 16 (fun y27 => dv y27 65536 (bn (m_x12_tellsByte (Int.tdiv y27 65536) s26) (fun s30 => rdI (gA s30 49) 906 16 (fun y31 => dv y31 65536 (bn (m_x12_tellsTwo (Int.tmod y31 65536) s30) (fun s34 => m_x12_image_L37 FU 0 s34)))))))
def m_x12_byteRead_J33 (x1 : Int) (s2 : MS) : Option (Int × MS) :=
  some (x1, s2)
def m_x12_byteRead (p0 : Int) (s : MS) : Option (Int × MS) :=
  stn (sI s 114 ((gI s 114) + 1)) (fun s3 => rg (gI s3 114) (rg p0 (if p0 < (gI s3 114) then m_x12_byteRead_J33 (-1) s3 else rdI (gA s3 0) 1600 ((gI s3 114) - 1) (fun y7 => m_x12_byteRead_J33 y7 s3))))
def m_x12_twoRead_J33 (x1 : Int) (s2 : MS) : Option (Int × MS) :=
  some (x1, s2)
def m_x12_twoRead_J22 (s3 : MS) : Option (Int × MS) :=
  m_x12_twoRead_J33 (-1) s3
def m_x12_twoRead (p0 : Int) (s : MS) : Option (Int × MS) :=
  bn (m_x12_byteRead p0 s) (fun qr6 => bn (m_x12_byteRead p0 qr6.2) (fun qr9 => rg qr6.1 (if qr6.1 = (-1) then m_x12_twoRead_J22 qr9.2 else rg qr9.1 (if qr9.1 = (-1) then m_x12_twoRead_J22 qr9.2 else m_x12_twoRead_J33 ((256 * qr6.1) + qr9.1) qr9.2))))
def m_x12_laidOf (p0 : Int) (p1 : Int) (s : MS) : Option Int :=
  rdI (gA s 113) 785 ((17 + (16 * p0)) + p1) (fun y1 => some y1)
def m_x12_isLaidBlock_J262 (x1 : Int) (s2 : MS) : Option (Int × MS) :=
  bo x1 (some (x1, s2))
def m_x12_isLaidBlock_J215 (lr130 : Int → Int → Int → MS → Option (Int × MS)) (x8 : Int) (x9 : Int) (x10 : Int) (x11 : Int) (s12 : MS) : Option (Int × MS) :=
  rdI (gA s12 113) 785 ((x9 + 4) + x10) (fun y13 => rg y13 (rg x11 (bn (m_x12_isIn y13 x11 999 s12) (fun r17 => rg r17 (if r17 = 0 then some (0, s12) else lr130 x8 x9 (x10 + 1) s12)))))
def m_x12_isLaidBlock_J202 (lr130 : Int → Int → Int → MS → Option (Int × MS)) (x20 : Int) (x21 : Int) (x22 : Int) (s23 : MS) : Option (Int × MS) :=
  rdI (gA s23 113) 785 ((x21 + 3) + x22) (fun y24 => m_x12_isLaidBlock_J215 lr130 x20 x21 x22 (y24 + 1) s23)
def m_x12_isLaidBlock_J198 (lr130 : Int → Int → Int → MS → Option (Int × MS)) (x25 : Int) (x26 : Int) (x27 : Int) (s28 : MS) : Option (Int × MS) :=
  m_x12_isLaidBlock_J215 lr130 x25 x26 x27 0 s28
def m_x12_isLaidBlock_b130 (lr130 : Int → Int → Int → MS → Option (Int × MS)) (x4 : Int) (x5 : Int) (x6 : Int) (s7 : MS) : Option (Int × MS) :=
  rdI (gA s7 113) 785 (x5 + 3) (fun y29 => rg x6 (rg y29 (if y29 ≤ x6 then rg (gI s7 114) (rg x4 (if x4 < (gI s7 114) then m_x12_isLaidBlock_J262 0 s7 else m_x12_isLaidBlock_J262 1 s7)) else bn (m_x12_twoRead x4 s7) (fun qr38 => inb 785 ((x5 + 4) + x6) (stn (sA qr38.2 113 (upZ (gA qr38.2 113) (Int.toNat ((x5 + 4) + x6)) qr38.1)) (fun s40 => bn (m_x12_twoRead x4 s40) (fun qr43 => inb 785 ((x5 + 10) + x6) (stn (sA qr43.2 113 (upZ (gA qr43.2 113) (Int.toNat ((x5 + 10) + x6)) qr43.1)) (fun s45 => rg x6 (if x6 = 0 then m_x12_isLaidBlock_J198 lr130 x4 x5 x6 s45 else rg x6 (if x6 = 1 then rdI (gA s45 113) 785 (x5 + 2) (fun y50 => rg y50 (if y50 ≤ 0 then m_x12_isLaidBlock_J202 lr130 x4 x5 x6 s45 else m_x12_isLaidBlock_J198 lr130 x4 x5 x6 s45)) else m_x12_isLaidBlock_J202 lr130 x4 x5 x6 s45)))))))))))
def m_x12_isLaidBlock_L130 (n : Nat) : Int → Int → Int → MS → Option (Int × MS) := lp (fun _ _ _ _ => none) (m_x12_isLaidBlock_b130) n
def m_x12_isLaidBlock_b11 (lr11 : Int → Int → Int → MS → Option (Int × MS)) (x53 : Int) (x54 : Int) (x55 : Int) (s56 : MS) : Option (Int × MS) :=
  rg x55 (if 16 ≤ x55 then bn (m_x12_byteRead x53 s56) (fun qr61 => inb 785 x54 (stn (sA qr61.2 113 (upZ (gA qr61.2 113) (Int.toNat x54) qr61.1)) (fun s63 => bn (m_x12_byteRead x53 s63) (fun qr66 => inb 785 (x54 + 1) (stn (sA qr66.2 113 (upZ (gA qr66.2 113) (Int.toNat (x54 + 1)) qr66.1)) (fun s68 => rdI (gA s68 113) 785 x54 (fun y69 => rdI (gA s68 113) 785 (x54 + 1) (fun y70 => rg (y69 + y70) (if (y69 + y70) = 0 then some (1, s68) else bn (m_x12_byteRead x53 s68) (fun qr75 => inb 785 (x54 + 2) (stn (sA qr75.2 113 (upZ (gA qr75.2 113) (Int.toNat (x54 + 2)) qr75.1)) (fun s77 => bn (m_x12_byteRead x53 s77) (fun qr80 => inb 785 (x54 + 3) (stn (sA qr80.2 113 (upZ (gA qr80.2 113) (Int.toNat (x54 + 3)) qr80.1)) (fun s82 => rdI (gA s82 113) 785 (x54 + 3) (fun y83 => rg y83 (bn (m_x12_roomOf s82) (fun r86 => rg r86 (bn (m_x12_isIn y83 1 r86 s82) (fun r89 => rg r89 (if r89 = 0 then some (0, s82) else m_x12_isLaidBlock_L130 FU x53 x54 0 s82))))))))))))))))))))) else inb 785 (x54 + x55) (stn (sA s56 113 (upZ (gA s56 113) (Int.toNat (x54 + x55)) 0)) (fun s93 => lr11 x53 x54 (x55 + 1) s93)))
def m_x12_isLaidBlock_L11 (n : Nat) : Int → Int → Int → MS → Option (Int × MS) := lp (fun _ _ _ _ => none) (m_x12_isLaidBlock_b11) n
def m_x12_isLaidBlock (p0 : Int) (p1 : Int) (s : MS) : Option (Int × MS) :=
  m_x12_isLaidBlock_L11 FU p1 (17 + (16 * p0)) 0 s
def m_x12_isLaid_J194 (x1 : Int) (s2 : MS) : Option (Int × MS) :=
  bo x1 (some (x1, s2))
def m_x12_isLaid_b145 (lr135 : Int → Int → MS → Option (Int × MS)) (lr145 : Int → Int → Int → MS → Option (Int × MS)) (x7 : Int) (x8 : Int) (x9 : Int) (s10 : MS) : Option (Int × MS) :=
  rg x9 (if 16 ≤ x9 then lr135 x7 (x8 + 1) s10 else inb 785 ((17 + (16 * x8)) + x9) (stn (sA s10 113 (upZ (gA s10 113) (Int.toNat ((17 + (16 * x8)) + x9)) 0)) (fun s14 => lr145 x7 x8 (x9 + 1) s14)))
def m_x12_isLaid_L145 (lr135 : Int → Int → MS → Option (Int × MS)) (n : Nat) : Int → Int → Int → MS → Option (Int × MS) := lp (fun _ _ _ _ => none) (m_x12_isLaid_b145 lr135) n
def m_x12_isLaid_b135 (lr135 : Int → Int → MS → Option (Int × MS)) (x4 : Int) (x5 : Int) (s6 : MS) : Option (Int × MS) :=
  rg x5 (if 48 ≤ x5 then rg (gI s6 114) (rg x4 (if (gI s6 114) = x4 then m_x12_isLaid_J194 1 s6 else m_x12_isLaid_J194 0 s6)) else m_x12_isLaid_L145 lr135 FU x4 x5 0 s6)
def m_x12_isLaid_L135 (n : Nat) : Int → Int → MS → Option (Int × MS) := lp (fun _ _ _ => none) (m_x12_isLaid_b135) n
def m_x12_isLaid_b102 (lr102 : Int → Int → MS → Option (Int × MS)) (x20 : Int) (x21 : Int) (s22 : MS) : Option (Int × MS) :=
  bn (m_x12_blockMany s22) (fun r24 => rg x21 (rg r24 (if r24 ≤ x21 then bn (m_x12_blockMany s22) (fun r29 => m_x12_isLaid_L135 FU x20 r29 s22) else bn (m_x12_isLaidBlock x21 x20 s22) (fun qr32 => rg qr32.1 (if qr32.1 = 0 then some (0, qr32.2) else lr102 x20 (x21 + 1) qr32.2)))))
def m_x12_isLaid_L102 (n : Nat) : Int → Int → MS → Option (Int × MS) := lp (fun _ _ _ => none) (m_x12_isLaid_b102) n
def m_x12_isLaid_b59 (lr59 : Int → Int → MS → Option (Int × MS)) (x35 : Int) (x36 : Int) (s37 : MS) : Option (Int × MS) :=
  rg x36 (if 8 ≤ x36 then m_x12_isLaid_L102 FU x35 0 s37 else bn (m_x12_byteRead x35 s37) (fun qr42 => inb 785 x36 (stn (sA qr42.2 113 (upZ (gA qr42.2 113) (Int.toNat x36) qr42.1)) (fun s44 => bn (m_x12_byteRead x35 s44) (fun qr47 => inb 785 (8 + x36) (stn (sA qr47.2 113 (upZ (gA qr47.2 113) (Int.toNat (8 + x36)) qr47.1)) (fun s49 => lr59 x35 (x36 + 1) s49)))))))
def m_x12_isLaid_L59 (n : Nat) : Int → Int → MS → Option (Int × MS) := lp (fun _ _ _ => none) (m_x12_isLaid_b59) n
def m_x12_isLaid_J54 (s50 : MS) : Option (Int × MS) :=
  some (0, s50)
def m_x12_isLaid (p0 : Int) (s : MS) : Option (Int × MS) :=
  stn (sI s 114 0) (fun s51 => bn (m_x12_byteRead p0 s51) (fun qr54 => bn (m_x12_twoRead p0 qr54.2) (fun qr57 => inb 785 16 (stn (sA qr57.2 113 (upZ (gA qr57.2 113) (Int.toNat 16) ((65536 * qr54.1) + qr57.1))) (fun s59 => rg qr54.1 (if qr54.1 = (-1) then m_x12_isLaid_J54 s59 else rg qr57.1 (if qr57.1 = (-1) then m_x12_isLaid_J54 s59 else rdI (gA s59 113) 785 16 (fun y64 => rg y64 (if y64 ≤ 999999 then m_x12_isLaid_L59 FU p0 0 s59 else m_x12_isLaid_J54 s59)))))))))
def m_x12_areValues_J88 (s : MS) (_u : Unit) : Option Int :=
  some 0
def m_x12_areValues_J90 (s : MS) (lr2 : Int → Int → Option Int) (x3 : Int) (x4 : Int) : Option Int :=
  lr2 x3 (x4 + 1)
def m_x12_areValues_b2 (s : MS) (lr2 : Int → Int → Option Int) (x1 : Int) (x2 : Int) : Option Int :=
  bn (m_x12_laidOf x1 3 s) (fun r6 => rg x2 (rg r6 (if r6 ≤ x2 then some 1 else bn (m_x12_laidOf x1 (10 + x2) s) (fun r11 => bn (m_x12_laidOf x1 2 s) (fun r13 => rg r13 (if r13 = 0 then rg r11 (bn (m_x12_isIn r11 0 999 s) (fun r36 => rg r36 (if r36 = 0 then m_x12_areValues_J88 s () else m_x12_areValues_J90 s lr2 x1 x2))) else rg r11 (bn (m_x12_isBlock r11 s) (fun r18 => rg r18 (if r18 = 0 then m_x12_areValues_J88 s () else bn (m_x12_laidOf r11 0 s) (fun r22 => bn (m_x12_laidOf r11 1 s) (fun r24 => rg (r22 + r24) (if (r22 + r24) = 0 then m_x12_areValues_J88 s () else bn (m_x12_laidOf r11 2 s) (fun r28 => bn (m_x12_laidOf x1 2 s) (fun r30 => rg r28 (rg (r30 - 1) (if r28 = (r30 - 1) then m_x12_areValues_J90 s lr2 x1 x2 else m_x12_areValues_J88 s ()))))))))))))))))
def m_x12_areValues_L2 (s : MS) (n : Nat) : Int → Int → Option Int := lp (fun _ _ => none) (m_x12_areValues_b2 s) n
def m_x12_areValues (p0 : Int) (s : MS) : Option Int :=
  m_x12_areValues_L2 s FU p0 0
def m_x12_areCounts_b153 (lr153 : Int → Int → MS → Option (Int × MS)) (x1 : Int) (x2 : Int) (s3 : MS) : Option (Int × MS) :=
  bn (m_x12_blockMany s3) (fun r5 => rg x2 (rg r5 (if r5 ≤ x2 then some (1, s3) else rdI (gA s3 115) 48 x2 (fun y9 => bn (m_x12_laidOf x2 x1 s3) (fun r11 => rg y9 (rg r11 (if y9 = r11 then lr153 x1 (x2 + 1) s3 else some (0, s3))))))))
def m_x12_areCounts_L153 (n : Nat) : Int → Int → MS → Option (Int × MS) := lp (fun _ _ _ => none) (m_x12_areCounts_b153) n
def m_x12_areCounts_J145 (lr80 : Int → Int → MS → Option (Int × MS)) (x18 : Int) (x19 : Int) (s20 : MS) : Option (Int × MS) :=
  lr80 x18 (x19 + 1) s20
def m_x12_areCounts_b111 (lr80 : Int → Int → MS → Option (Int × MS)) (lr111 : Int → Int → Int → MS → Option (Int × MS)) (x21 : Int) (x22 : Int) (x23 : Int) (s24 : MS) : Option (Int × MS) :=
  bn (m_x12_laidOf x22 3 s24) (fun r26 => rg x23 (rg r26 (if r26 ≤ x23 then m_x12_areCounts_J145 lr80 x21 x22 s24 else bn (m_x12_laidOf x22 (10 + x23) s24) (fun r31 => rdI (gA s24 115) 48 r31 (fun y32 => inb 48 r31 (stn (sA s24 115 (upZ (gA s24 115) (Int.toNat r31) (y32 + 1))) (fun s34 => lr111 x21 x22 (x23 + 1) s34)))))))
def m_x12_areCounts_L111 (lr80 : Int → Int → MS → Option (Int × MS)) (n : Nat) : Int → Int → Int → MS → Option (Int × MS) := lp (fun _ _ _ _ => none) (m_x12_areCounts_b111 lr80) n
def m_x12_areCounts_b80 (lr80 : Int → Int → MS → Option (Int × MS)) (x15 : Int) (x16 : Int) (s17 : MS) : Option (Int × MS) :=
  bn (m_x12_blockMany s17) (fun r36 => rg x16 (rg r36 (if r36 ≤ x16 then m_x12_areCounts_L153 FU x15 0 s17 else bn (m_x12_laidOf x16 x15 s17) (fun r41 => rg r41 (if r41 = 0 then m_x12_areCounts_J145 lr80 x15 x16 s17 else bn (m_x12_laidOf x16 2 s17) (fun r45 => rg r45 (if r45 = 0 then m_x12_areCounts_J145 lr80 x15 x16 s17 else m_x12_areCounts_L111 lr80 FU x15 x16 0 s17)))))))
def m_x12_areCounts_L80 (n : Nat) : Int → Int → MS → Option (Int × MS) := lp (fun _ _ _ => none) (m_x12_areCounts_b80) n
def m_x12_areCounts_J72 (lr23 : Int → Int → MS → Option (Int × MS)) (x51 : Int) (x52 : Int) (s53 : MS) : Option (Int × MS) :=
  lr23 x51 (x52 + 1) s53
def m_x12_areCounts_b23 (lr23 : Int → Int → MS → Option (Int × MS)) (x48 : Int) (x49 : Int) (s50 : MS) : Option (Int × MS) :=
  rg x49 (if 8 ≤ x49 then m_x12_areCounts_L80 FU x48 0 s50 else rdI (gA s50 113) 785 ((8 * x48) + x49) (fun y56 => rg y56 (if y56 < 254 then rg y56 (bn (m_x12_isBlock y56 s50) (fun r61 => rg r61 (if r61 = 0 then some (0, s50) else rdI (gA s50 115) 48 y56 (fun y64 => inb 48 y56 (stn (sA s50 115 (upZ (gA s50 115) (Int.toNat y56) (y64 + 1))) (fun s66 => m_x12_areCounts_J72 lr23 x48 x49 s66)))))) else m_x12_areCounts_J72 lr23 x48 x49 s50)))
def m_x12_areCounts_L23 (n : Nat) : Int → Int → MS → Option (Int × MS) := lp (fun _ _ _ => none) (m_x12_areCounts_b23) n
def m_x12_areCounts_b2 (lr2 : Int → Int → MS → Option (Int × MS)) (x67 : Int) (x68 : Int) (s69 : MS) : Option (Int × MS) :=
  rg x68 (if 48 ≤ x68 then m_x12_areCounts_L23 FU x67 0 s69 else inb 48 x68 (stn (sA s69 115 (upZ (gA s69 115) (Int.toNat x68) 0)) (fun s73 => lr2 x67 (x68 + 1) s73)))
def m_x12_areCounts_L2 (n : Nat) : Int → Int → MS → Option (Int × MS) := lp (fun _ _ _ => none) (m_x12_areCounts_b2) n
def m_x12_areCounts (p0 : Int) (s : MS) : Option (Int × MS) :=
  m_x12_areCounts_L2 FU p0 0 s
def m_x12_areBetween_J96 (lr10 : Int → Int → Int → MS → Option (Int × MS)) (lr30 : Int → Int → Int → Int → Int → MS → Option (Int × MS)) (x11 : Int) (x12 : Int) (x13 : Int) (x14 : Int) (x15 : Int) (s16 : MS) : Option (Int × MS) :=
  lr30 x11 x12 x13 x14 (x15 + 1) s16
def m_x12_areBetween_b30 (lr10 : Int → Int → Int → MS → Option (Int × MS)) (lr30 : Int → Int → Int → Int → Int → MS → Option (Int × MS)) (x5 : Int) (x6 : Int) (x7 : Int) (x8 : Int) (x9 : Int) (s10 : MS) : Option (Int × MS) :=
  bn (m_x12_laidOf x8 3 s10) (fun r18 => rg x9 (rg r18 (if r18 ≤ x9 then lr10 x5 x6 x7 s10 else bn (m_x12_laidOf x8 2 s10) (fun r23 => rg r23 (if r23 = 0 then bn (m_x12_laidOf x8 (4 + x9) s10) (fun r31 => rg r31 (rg x5 (rg x6 (bn (m_x12_isIn r31 x5 x6 s10) (fun r36 => rg r36 (if r36 = 0 then some (0, s10) else m_x12_areBetween_J96 lr10 lr30 x5 x6 x7 x8 x9 s10)))))) else bn (m_x12_laidOf x8 (10 + x9) s10) (fun r27 => inb 300 x7 (stn (sA s10 62 (upZ (gA s10 62) (Int.toNat x7) r27)) (fun s29 => m_x12_areBetween_J96 lr10 lr30 x5 x6 (x7 + 1) x8 x9 s29))))))))
def m_x12_areBetween_L30 (lr10 : Int → Int → Int → MS → Option (Int × MS)) (n : Nat) : Int → Int → Int → Int → Int → MS → Option (Int × MS) := lp (fun _ _ _ _ _ _ => none) (m_x12_areBetween_b30 lr10) n
def m_x12_areBetween_b10 (lr10 : Int → Int → Int → MS → Option (Int × MS)) (x1 : Int) (x2 : Int) (x3 : Int) (s4 : MS) : Option (Int × MS) :=
  rg x3 (if x3 ≤ 0 then some (1, s4) else rdI (gA s4 62) 300 (x3 + (-1)) (fun y41 => m_x12_areBetween_L30 lr10 FU x1 x2 (x3 + (-1)) y41 0 s4))
def m_x12_areBetween_L10 (n : Nat) : Int → Int → Int → MS → Option (Int × MS) := lp (fun _ _ _ _ => none) (m_x12_areBetween_b10) n
def m_x12_areBetween (p0 : Int) (p1 : Int) (p2 : Int) (s : MS) : Option (Int × MS) :=
  inb 300 0 (stn (sA s 62 (upZ (gA s 62) (Int.toNat 0) p0)) (fun s43 => m_x12_areBetween_L10 FU p1 p2 1 s43))
def m_x12_areKeys_J86 (s1 : MS) : Option (Int × MS) :=
  some (1, s1)
def m_x12_areKeys_J72 (lr9 : Int → Int → Int → MS → Option (Int × MS)) (x6 : Int) (x7 : Int) (x8 : Int) (x9 : Int) (x10 : Int) (x11 : Int) (s12 : MS) : Option (Int × MS) :=
  bn (m_x12_areBetween x11 x10 x9 s12) (fun qr15 => rg qr15.1 (if qr15.1 = 0 then some (0, qr15.2) else lr9 x6 x7 (x8 + 1) qr15.2))
def m_x12_areKeys_J49 (lr9 : Int → Int → Int → MS → Option (Int × MS)) (x18 : Int) (x19 : Int) (x20 : Int) (x21 : Int) (x22 : Int) (s23 : MS) : Option (Int × MS) :=
  rg (x20 + 1) (rg x19 (if x19 ≤ (x20 + 1) then m_x12_areKeys_J72 lr9 x18 x19 x20 999 x21 x22 s23 else bn (m_x12_laidOf x18 (5 + x20) s23) (fun r28 => m_x12_areKeys_J72 lr9 x18 x19 x20 (r28 - 1) x21 x22 s23)))
def m_x12_areKeys_b9 (lr9 : Int → Int → Int → MS → Option (Int × MS)) (x2 : Int) (x3 : Int) (x4 : Int) (s5 : MS) : Option (Int × MS) :=
  rg x4 (rg x3 (if x3 ≤ x4 then m_x12_areKeys_J86 s5 else bn (m_x12_laidOf x2 2 s5) (fun r33 => rg r33 (if r33 ≤ 0 then m_x12_areKeys_J86 s5 else bn (m_x12_laidOf x2 (10 + x4) s5) (fun r37 => rg x4 (if x4 = 0 then m_x12_areKeys_J49 lr9 x2 x3 x4 0 r37 s5 else bn (m_x12_laidOf x2 (4 + x4) s5) (fun r41 => m_x12_areKeys_J49 lr9 x2 x3 x4 r41 r37 s5)))))))
def m_x12_areKeys_L9 (n : Nat) : Int → Int → Int → MS → Option (Int × MS) := lp (fun _ _ _ _ => none) (m_x12_areKeys_b9) n
def m_x12_areKeys (p0 : Int) (s : MS) : Option (Int × MS) :=
  bn (m_x12_laidOf p0 3 s) (fun r43 => m_x12_areKeys_L9 FU p0 r43 0 s)
def m_x12_checked_v2_b6 (s : MS) (lr6 : Int → Int → Int → Option Int) (x1 : Int) (x2 : Int) (x3 : Int) : Option Int :=
  rg x3 (rg x1 (if x1 ≤ x3 then some x2 else rdI (gA s 0) 1600 x3 (fun y7 => dv ((3 * x2) + y7) 251 (lr6 x1 (Int.tmod ((3 * x2) + y7) 251) (x3 + 1)))))
def m_x12_checked_v2_L6 (s : MS) (n : Nat) : Int → Int → Int → Option Int := lp (fun _ _ _ => none) (m_x12_checked_v2_b6 s) n
def m_x12_checked_v2 (p1 : Int) (s : MS) : Option Int :=
  m_x12_checked_v2_L6 s FU p1 157 0
def m_x12_isImage_J129 (lr92 : Int → MS → Option (Int × MS)) (lr101 : Int → Int → MS → Option (Int × MS)) (x6 : Int) (x7 : Int) (s8 : MS) : Option (Int × MS) :=
  lr101 x6 (x7 + 1) s8
def m_x12_isImage_b101 (lr92 : Int → MS → Option (Int × MS)) (lr101 : Int → Int → MS → Option (Int × MS)) (x3 : Int) (x4 : Int) (s5 : MS) : Option (Int × MS) :=
  bn (m_x12_blockMany s5) (fun r10 => rg x4 (rg r10 (if r10 ≤ x4 then lr92 (x3 + 1) s5 else bn (m_x12_laidOf x4 2 s5) (fun r15 => rg r15 (rg x3 (if r15 = x3 then bn (m_x12_areKeys x4 s5) (fun qr21 => rg qr21.1 (if qr21.1 = 0 then some (0, qr21.2) else m_x12_isImage_J129 lr92 lr101 x3 x4 qr21.2)) else m_x12_isImage_J129 lr92 lr101 x3 x4 s5))))))
def m_x12_isImage_L101 (lr92 : Int → MS → Option (Int × MS)) (n : Nat) : Int → Int → MS → Option (Int × MS) := lp (fun _ _ _ => none) (m_x12_isImage_b101 lr92) n
def m_x12_isImage_b92 (lr92 : Int → MS → Option (Int × MS)) (x1 : Int) (s2 : MS) : Option (Int × MS) :=
  rg x1 (if 256 ≤ x1 then some (1, s2) else m_x12_isImage_L101 lr92 FU x1 0 s2)
def m_x12_isImage_L92 (n : Nat) : Int → MS → Option (Int × MS) := lp (fun _ _ => none) (m_x12_isImage_b92) n
def m_x12_isImage_J88 (s26 : MS) : Option (Int × MS) :=
  some (0, s26)
def m_x12_isImage_b48 (lr48 : Int → MS → Option (Int × MS)) (x27 : Int) (s28 : MS) : Option (Int × MS) :=
  bn (m_x12_blockMany s28) (fun r30 => rg x27 (rg r30 (if r30 ≤ x27 then bn (m_x12_areCounts 0 s28) (fun qr36 => rg qr36.1 (if qr36.1 = 0 then m_x12_isImage_J88 qr36.2 else bn (m_x12_areCounts 1 qr36.2) (fun qr41 => rg qr41.1 (if qr41.1 = 0 then m_x12_isImage_J88 qr41.2 else m_x12_isImage_L92 FU 1 qr41.2)))) else bn (m_x12_areValues x27 s28) (fun r45 => rg r45 (if r45 = 0 then some (0, s28) else lr48 (x27 + 1) s28)))))
def m_x12_isImage_L48 (n : Nat) : Int → MS → Option (Int × MS) := lp (fun _ _ => none) (m_x12_isImage_b48) n
def m_x12_isImage_J44 (s48 : MS) : Option (Int × MS) :=
  some (0, s48)
def m_x12_isImage (p0 : Int) (s : MS) : Option (Int × MS) :=
  rg (gI s 47) (if (gI s 47) = 0 then m_x12_isImage_J44 s else rg p0 (if p0 < 20 then m_x12_isImage_J44 s else rdI (gA s 0) 1600 (p0 - 1) (fun y53 => bn (m_x12_checked_v2 (p0 - 1) s) (fun r55 => rg y53 (rg r55 (if y53 = r55 then bn (m_x12_isLaid (p0 - 1) s) (fun qr61 => rg qr61.1 (if qr61.1 = 0 then m_x12_isImage_J44 qr61.2 else m_x12_isImage_L48 FU 0 qr61.2)) else m_x12_isImage_J44 s))))))
def m_x12_on_b26 (lr26 : Int → MS → Option (Int × MS)) (x1 : Int) (s2 : MS) : Option (Int × MS) :=
  rg x1 (if 785 ≤ x1 then inb 906 785 (stn (sA s2 49 (upZ (gA s2 49) (Int.toNat 785) 0)) (fun s6 => stn (sI s6 76 0) (fun s7 => some (1, s7)))) else rdI (gA s2 113) 785 x1 (fun y8 => inb 906 x1 (stn (sA s2 49 (upZ (gA s2 49) (Int.toNat x1) y8)) (fun s10 => lr26 (x1 + 1) s10))))
def m_x12_on_L26 (n : Nat) : Int → MS → Option (Int × MS) := lp (fun _ _ => none) (m_x12_on_b26) n
def m_x12_on (s : MS) : Option (Int × MS) :=
  stn (sI s 1 0) (fun s11 => bn (m_x12_isImage (gI s 1) s11) (fun qr14 => rg qr14.1 (if qr14.1 = 0 then bn (m_x12_isRefused 5 qr14.2) (fun qr19 => bo qr19.1 (some (qr19.1, qr19.2))) else m_x12_on_L26 FU 0 qr14.2)))
def m_x1_settle (s : MS) : Option (Int × MS) :=
  bn (m_x1_price s) (fun qr3 => rg ((gI s 1061) + qr3.1) (stn (sI qr3.2 1061 (minZ 999999 ((gI s 1061) + qr3.1))) (fun s5 => bn (m_x1_wrote s5) (fun r7 => some (r7, s5)))))
def m_x2_keep_J70 (x1 : Int) (x2 : Int) (x3 : Int) (s4 : MS) : Option MS :=
  inb 60 (gI s4 143) (stn (sA s4 8 (upZ (gA s4 8) (Int.toNat (gI s4 143)) x1)) (fun s6 => inb 60 (gI s6 143) (stn (sA s6 9 (upZ (gA s6 9) (Int.toNat (gI s6 143)) x2)) (fun s8 => inb 60 (gI s8 143) (stn (sA s8 10 (upZ (gA s8 10) (Int.toNat (gI s8 143)) x3)) (fun s10 => stn (sI s10 143 ((gI s10 143) + 1)) (fun s11 => some s11)))))))
def m_x2_keep (p0 : Int) (p1 : Int) (p2 : Int) (s : MS) : Option MS :=
  rg (gI s 143) (if (gI s 143) = 60 then stn (sI s 143 ((gI s 143) - 1)) (fun s14 => cpg 1 0 (gI s14 143) 60 60 (stn (sA s14 8 (va_cpy (gA s14 8) (gA s14 8) (Int.toNat 1) (Int.toNat 0) (Int.toNat (gI s14 143)))) (fun s16 => cpg 1 0 (gI s16 143) 60 60 (stn (sA s16 9 (va_cpy (gA s16 9) (gA s16 9) (Int.toNat 1) (Int.toNat 0) (Int.toNat (gI s16 143)))) (fun s18 => cpg 1 0 (gI s18 143) 60 60 (stn (sA s18 10 (va_cpy (gA s18 10) (gA s18 10) (Int.toNat 1) (Int.toNat 0) (Int.toNat (gI s18 143)))) (fun s20 => m_x2_keep_J70 p0 p1 p2 s20))))))) else m_x2_keep_J70 p0 p1 p2 s)
def m_finish (p0 p1 : Int) (s : MS) (ts : List MS) : Option (Int × MS × List MS) :=
  bn (m_x1_settle s) (fun q => bn (m_x2_keep p0 p1 q.1 q.2) (fun s2 => bn (m_remember s2 ts) (fun w => some (q.1, w.1, w.2))))
def m_x11_put_J28 (ts : List MS) (s1 : MS) : Option (Int × MS × List MS) :=
  bn (m_x11_refuse 2 s1) (fun qr4 => some (qr4.1, qr4.2, ts))
def m_x11_put (ts : List MS) (p0 : Int) (p1 : Int) (p2 : Int) (s : MS) : Option (Int × MS × List MS) :=
  bn (m_x8_isVolume p0 s) (fun r6 => rg r6 (if r6 = 0 then m_x11_put_J28 ts s else bn (m_x11_isKey p1 s) (fun r10 => rg r10 (if r10 = 0 then m_x11_put_J28 ts s else bn (m_x11_isKey p2 s) (fun r14 => rg r14 (if r14 = 0 then m_x11_put_J28 ts s else bn (m_x1_begin s) (fun s18 => bn (m_x1_tryPlant p0 p1 p2 s18) (fun qr21 => rg qr21.1 (if qr21.1 = 0 then bn (m_x11_refuse 2 qr21.2) (fun qr30 => some (qr30.1, qr30.2, ts)) else bn (m_finish 0 p0 qr21.2 ts) (fun qr25 => some (qr25.1, qr25.2.1, qr25.2.2)))))))))))
def m_x11_remove (ts : List MS) (p0 : Int) (p1 : Int) (s : MS) : Option (Int × MS × List MS) :=
  bn (m_x8_isVolume p0 s) (fun r2 => rg r2 (if r2 = 0 then bn (m_x11_refuse 2 s) (fun qr21 => some (qr21.1, qr21.2, ts)) else bn (m_x1_begin s) (fun s6 => bn (m_x1_tryUproot p0 p1 s6) (fun qr9 => rg qr9.1 (if qr9.1 = 0 then bn (m_x11_refuse 2 qr9.2) (fun qr18 => some (qr18.1, qr18.2, ts)) else bn (m_finish 1 p0 qr9.2 ts) (fun qr13 => some (qr13.1, qr13.2.1, qr13.2.2)))))))
def m_x11_copy_J30 (ts : List MS) (s1 : MS) : Option (Int × MS × List MS) :=
  bn (m_x11_refuse 2 s1) (fun qr4 => some (qr4.1, qr4.2, ts))
def m_x11_copy (ts : List MS) (p0 : Int) (s : MS) : Option (Int × MS × List MS) :=
  bn (m_x8_freeNumber s) (fun r6 => bn (m_x8_isVolume p0 s) (fun r8 => rg r8 (if r8 = 0 then m_x11_copy_J30 ts s else rg r6 (if r6 = (-1) then m_x11_copy_J30 ts s else bn (m_x1_begin s) (fun s14 => bn (m_x1_share p0 r6 s14) (fun s16 => bn (m_finish 2 r6 s16 ts) (fun qr18 => some (r6, qr18.2.1, qr18.2.2))))))))
def m_x11_drop (ts : List MS) (p0 : Int) (s : MS) : Option (Int × MS × List MS) :=
  bn (m_x8_isVolume p0 s) (fun r2 => rg r2 (if r2 = 0 then bn (m_x11_refuse 2 s) (fun qr19 => some (qr19.1, qr19.2, ts)) else bn (m_x1_begin s) (fun s6 => bn (m_x8_used s6) (fun r8 => bn (m_x1_letGo p0 s6) (fun s10 => bn (m_finish 3 p0 s10 ts) (fun qr12 => bn (m_x8_used qr12.2.1) (fun r16 => some (r8 - r16, qr12.2.1, qr12.2.2))))))))
def m_x11_checkpoint (ts : List MS) (s : MS) : Option (Int × MS × List MS) :=
  rg (gI s 12) (if (gI s 12) = 0 then bn (m_x11_refuse 3 s) (fun qr15 => some (qr15.1, qr15.2, ts)) else bn (m_x1_begin s) (fun s4 => bn (m_x8_held s4) (fun r6 => bn (m_x8_save s4) (fun s8 => bn (m_finish 4 255 s8 ts) (fun qr10 => some (r6, qr10.2.1, qr10.2.2))))))
def m_x11_crash (ts : List MS) (s : MS) : Option (Int × MS × List MS) :=
  rg (gI s 12) (if (gI s 12) = 0 then bn (m_x11_refuse 3 s) (fun qr15 => some (qr15.1, qr15.2, ts)) else bn (m_x1_begin s) (fun s4 => bn (m_x8_freshBlocks s4) (fun r6 => bn (m_x8_fallBack s4) (fun s8 => bn (m_finish 5 255 s8 ts) (fun qr10 => some (r6, qr10.2.1, qr10.2.2))))))
def m_x1_draw_J39 (x1 : Int) (s2 : MS) : Option (Int × MS) :=
  some (x1, s2)
def m_x1_draw (p0 : Int) (s : MS) : Option (Int × MS) :=
  rg (gI s 983) (stn (sI s 983 (andL ((1103515245 * (gI s 983)) + 12345) 2147483647)) (fun s4 => rg p0 (if p0 ≤ 0 then m_x1_draw_J39 0 s4 else dv (gI s4 983) 64 (dv (Int.tdiv (gI s4 983) 64) p0 (m_x1_draw_J39 (Int.tmod (Int.tdiv (gI s4 983) 64) p0) s4)))))
def m_x1_volumeAt_J30 (s : MS) (lr4 : Int → Int → Option Int) (x3 : Int) (x4 : Int) : Option Int :=
  lr4 x3 (x4 + 1)
def m_x1_volumeAt_b4 (s : MS) (lr4 : Int → Int → Option Int) (x1 : Int) (x2 : Int) : Option Int :=
  rg x2 (if 8 ≤ x2 then some 0 else bn (m_x8_isVolume x2 s) (fun r8 => rg r8 (if r8 = 0 then m_x1_volumeAt_J30 s lr4 x1 x2 else rg x1 (if x1 = 0 then some x2 else m_x1_volumeAt_J30 s lr4 (x1 + (-1)) x2))))
def m_x1_volumeAt_L4 (s : MS) (n : Nat) : Int → Int → Option Int := lp (fun _ _ => none) (m_x1_volumeAt_b4 s) n
def m_x1_volumeAt (p0 : Int) (s : MS) : Option Int :=
  m_x1_volumeAt_L4 s FU p0 0
def m_x1_actBySeed_J23 (s1 : MS) : Option (Int × MS) :=
  bn (m_x8_volumes s1) (fun r3 => rg r3 (if r3 = 0 then some (0, s1) else bn (m_x1_draw r3 s1) (fun qr8 => bn (m_x1_volumeAt qr8.1 qr8.2) (fun r10 => bn (m_x1_draw 3 qr8.2) (fun qr13 => bn (m_x1_draw 40 qr13.2) (fun qr16 => rg qr13.1 (if qr13.1 = 2 then bn (m_x1_tryUproot r10 qr16.1 qr16.2) (fun qr28 => bo qr28.1 (some (qr28.1, qr28.2))) else bn (m_x1_draw 100 qr16.2) (fun qr21 => bn (m_x1_tryPlant r10 qr16.1 qr21.1 qr21.2) (fun qr24 => bo qr24.1 (some (qr24.1, qr24.2)))))))))))
def m_x1_actBySeed (s : MS) : Option (Int × MS) :=
  bn (m_x1_draw 100 s) (fun qr32 => rg qr32.1 (rg (gI qr32.2 582) (if (gI qr32.2 582) ≤ qr32.1 then m_x1_actBySeed_J23 qr32.2 else bn (m_x8_save qr32.2) (fun s37 => m_x1_actBySeed_J23 s37))))
def m_x11_chance_J53 (ts : List MS) (lr35 : Int → Int → Int → MS → Option (Int × MS × List MS)) (x5 : Int) (x6 : Int) (x7 : Int) (s8 : MS) : Option (Int × MS × List MS) :=
  lr35 x5 x6 (x7 + 1) s8
def m_x11_chance_b35 (ts : List MS) (lr35 : Int → Int → Int → MS → Option (Int × MS × List MS)) (x1 : Int) (x2 : Int) (x3 : Int) (s4 : MS) : Option (Int × MS × List MS) :=
  rg x3 (rg x1 (if x1 ≤ x3 then bn (m_finish 6 255 s4 ts) (fun qr13 => some (x2, qr13.2.1, qr13.2.2)) else bn (m_x1_actBySeed s4) (fun qr18 => rg qr18.1 (if qr18.1 = 0 then m_x11_chance_J53 ts lr35 x1 x2 x3 qr18.2 else m_x11_chance_J53 ts lr35 x1 (x2 + 1) x3 qr18.2))))
def m_x11_chance_L35 (ts : List MS) (n : Nat) : Int → Int → Int → MS → Option (Int × MS × List MS) := lp (fun _ _ _ _ => none) (m_x11_chance_b35 ts) n
def m_x11_chance_J18 (ts : List MS) (s21 : MS) : Option (Int × MS × List MS) :=
  bn (m_x11_refuse 3 s21) (fun qr24 => some (qr24.1, qr24.2, ts))
def m_x11_chance (ts : List MS) (p0 : Int) (s : MS) : Option (Int × MS × List MS) :=
  rg (gI s 12) (if (gI s 12) = 0 then m_x11_chance_J18 ts s else rg p0 (if p0 < 1 then m_x11_chance_J18 ts s else rg p0 (if p0 ≤ 40 then bn (m_x1_begin s) (fun s32 => m_x11_chance_L35 ts FU p0 0 0 s32) else m_x11_chance_J18 ts s)))
def m_x8_becomeP (s : MS) : Option MS :=
  stn (sI s 1060 (gI s 1240)) (fun s1 => stn (sI s1 1061 (gI s1 1241)) (fun s2 => stn (sL s2 1062 (gL s2 1242)) (fun s3 => cpg 0 0 48 48 48 (stn (sA s3 54 (va_cpy (gA s3 63) (gA s3 54) (Int.toNat 0) (Int.toNat 0) (Int.toNat 48))) (fun s5 => cpg 0 0 48 48 48 (stn (sA s5 55 (va_cpy (gA s5 64) (gA s5 55) (Int.toNat 0) (Int.toNat 0) (Int.toNat 48))) (fun s7 => cpg 0 0 48 48 48 (stn (sA s7 56 (va_cpy (gA s7 65) (gA s7 56) (Int.toNat 0) (Int.toNat 0) (Int.toNat 48))) (fun s9 => cpg 0 0 48 48 48 (stn (sA s9 57 (va_cpy (gA s9 66) (gA s9 57) (Int.toNat 0) (Int.toNat 0) (Int.toNat 48))) (fun s11 => cpg 0 0 288 288 288 (stn (sA s11 58 (va_cpy (gA s11 67) (gA s11 58) (Int.toNat 0) (Int.toNat 0) (Int.toNat 288))) (fun s13 => cpg 0 0 288 288 288 (stn (sA s13 59 (va_cpy (gA s13 68) (gA s13 59) (Int.toNat 0) (Int.toNat 0) (Int.toNat 288))) (fun s15 => cpg 0 0 8 8 8 (stn (sA s15 60 (va_cpy (gA s15 69) (gA s15 60) (Int.toNat 0) (Int.toNat 0) (Int.toNat 8))) (fun s17 => cpg 0 0 8 8 8 (stn (sA s17 61 (va_cpy (gA s17 70) (gA s17 61) (Int.toNat 0) (Int.toNat 0) (Int.toNat 8))) (fun s19 => some s19)))))))))))))))))))
def m_x11_undo (ts : List MS) (s : MS) : Option (Int × MS × List MS) :=
  rg (gI s 145) (rg (gI s 143) (if gI s 145 = 0 ∨ gI s 143 = 0 then bn (m_x11_refuse 4 s) (fun q => some (0, q.2, ts))
  else stn (sI (sI s 145 (gI s 145 - 1)) 143 (gI s 143 - 1)) (fun s2 => inb 20 (gI s2 145) (if (gI s2 145).toNat < ts.length then bn (m_x8_becomeP (setB s2 (ts.getD (gI s2 145).toNat s2))) (fun s3 => some (1, setB s3 s2, ts.set (gI s2 145).toNat s3)) else none))))
def swS (s : MS) : MS := (fun k => if 580 ≤ k ∧ k ≤ 779 then s.1 (k + 200) else if 780 ≤ k ∧ k ≤ 979 then s.1 (k - 200) else s.1 k, s.2.1, fun k => if 29 ≤ k ∧ k ≤ 38 then s.2.2.1 (k + 10) else if 39 ≤ k ∧ k ≤ 48 then s.2.2.1 (k - 10) else s.2.2.1 k, s.2.2.2)
def m_x8_clear_v2_b59 (lr59 : Int → MS → Option MS) (x1 : Int) (s2 : MS) : Option MS :=
  rg x1 (if 8 ≤ x1 then some s2 else inb 8 x1 (stn (sA s2 60 (upZ (gA s2 60) (Int.toNat x1) (-2))) (fun s6 => inb 8 x1 (stn (sA s6 61 (upZ (gA s6 61) (Int.toNat x1) (-2))) (fun s8 => lr59 (x1 + 1) s8)))))
def m_x8_clear_v2_L59 (n : Nat) : Int → MS → Option MS := lp (fun _ _ => none) (m_x8_clear_v2_b59) n
def m_x8_clear_v2_b17 (lr17 : Int → MS → Option MS) (x9 : Int) (s10 : MS) : Option MS :=
  rg x9 (if 48 ≤ x9 then m_x8_clear_v2_L59 FU 0 s10 else inb 48 x9 (stn (sA s10 54 (upZ (gA s10 54) (Int.toNat x9) 0)) (fun s14 => inb 48 x9 (stn (sA s14 55 (upZ (gA s14 55) (Int.toNat x9) 0)) (fun s16 => inb 48 x9 (stn (sA s16 56 (upZ (gA s16 56) (Int.toNat x9) 0)) (fun s18 => inb 48 x9 (stn (sA s18 57 (upZ (gA s18 57) (Int.toNat x9) 0)) (fun s20 => lr17 (x9 + 1) s20)))))))))
def m_x8_clear_v2_L17 (n : Nat) : Int → MS → Option MS := lp (fun _ _ => none) (m_x8_clear_v2_b17) n
def m_x8_clear_v2 (p0 : Int) (s : MS) : Option MS :=
  stn (sI s 1060 p0) (fun s21 => stn (sI s21 1061 0) (fun s22 => stn (sL s22 1062 0) (fun s23 => m_x8_clear_v2_L17 FU 0 s23)))
def m_x1_build_J135 (lr18 : Int → MS → Option MS) (x3 : Int) (s4 : MS) : Option MS :=
  lr18 (x3 + 1) s4
def m_x1_build_b18 (lr18 : Int → MS → Option MS) (x1 : Int) (s2 : MS) : Option MS :=
  rg x1 (rg (gI s2 585) (if (gI s2 585) ≤ x1 then bn (m_x8_save s2) (fun s9 => stn (sI s9 1061 0) (fun s10 => stn (sL s10 1062 0) (fun s11 => some s11))) else rdI (gA s2 32) 60 x1 (fun y12 => rdI (gA s2 31) 60 x1 (fun y13 => rg y13 (if y13 = 2 then inb 8 y12 (stn (sA s2 60 (upZ (gA s2 60) (Int.toNat y12) (-1))) (fun s17 => m_x1_build_J135 lr18 x1 s17)) else if y13 = 3 then rdI (gA s2 33) 60 x1 (fun y19 => bn (m_x1_share y19 y12 s2) (fun s21 => m_x1_build_J135 lr18 x1 s21)) else if y13 = 4 then m_x1_build_J135 lr18 x1 s2 else if y13 = 5 then rdI (gA s2 33) 60 x1 (fun y24 => rdI (gA s2 34) 60 x1 (fun y25 => bn (m_x1_tryPlant y12 y24 y25 s2) (fun qr28 => m_x1_build_J135 lr18 x1 qr28.2))) else if y13 = 6 then rdI (gA s2 33) 60 x1 (fun y30 => bn (m_x1_tryUproot y12 y30 s2) (fun qr33 => m_x1_build_J135 lr18 x1 qr33.2)) else m_x1_build_J135 lr18 x1 s2)))))
def m_x1_build_L18 (n : Nat) : Int → MS → Option MS := lp (fun _ _ => none) (m_x1_build_b18) n
def m_x1_build (s : MS) : Option MS :=
  bn (m_x8_clear_v2 (gI s 580) s) (fun s35 => m_x1_build_L18 FU 0 s35)
def m_x11_store (s : MS) : Option (Int × MS) :=
  bn (m_x6_readStore s) (fun qr3 => stn (sI qr3.2 61 0) (fun s4 => rg qr3.1 (if qr3.1 = 0 then bn (m_x11_refuse 1 s4) (fun qr17 => some (qr17.1, qr17.2)) else eqg (gI s4 9999) 2 (stn (sI (swS s4) 9999 1) (fun s8 => bn (m_x1_build s8) (fun s10 => bn (m_x2_clear s10) (fun s12 => stn (sI s12 220 0) (fun s13 => stn (sI s13 12 1) (fun s14 => some (gI s14 583, s14))))))))))
/-- what holds between calls is kept by each call of both sides, and the answers that the law compares are alike -/
def LSt (Iv : MS → List MS → MS → Prop) : Prop :=
  (∀ (x : MS) (ts : List MS) (t : MS) (p1 : Int) (p2 : Int) (p3 : Int) (p4 : Int) (p5 : Int), R2 p1 → R2 p2 → R2 p3 → R2 p4 → R2 p5 → Iv x ts t → ∃ (x1 : MS) (r : Int) (t1 : MS) (r2 : Int), m_x11_feed p1 p2 p3 p4 p5 x = some (r, x1) ∧ m_x12_feed p1 p2 p3 p4 p5 t = some (r2, t1) ∧ Iv x1 ts t1) ∧
  (∀ (x : MS) (ts : List MS) (t : MS) (p1 : Int), R2 p1 → Iv x ts t → ∃ (x1 : MS) (r : Int) (t1 : MS) (r2 : Int), m_x11_end p1 x = some (r, x1) ∧ m_x12_end p1 t = some (r2, t1) ∧ Iv x1 ts t1) ∧
  (∀ (x : MS) (ts : List MS) (t : MS), Iv x ts t → ∃ (x1 : MS) (r : Int) (t1 : MS) (r2 : Int), m_x11_store x = some (r, x1) ∧ m_x12_store t = some (r2, t1) ∧ Iv x1 ts t1) ∧
  (∀ (x : MS) (ts : List MS) (t : MS) (p1 : Int), R2 p1 → Iv x ts t → ∃ (r : Int) (r2 : Int), m_x11_fault p1 x = some r ∧ m_x12_fault p1 t = some r2 ∧ Iv x ts t) ∧
  (∀ (x : MS) (ts : List MS) (t : MS) (p1 : Int), R2 p1 → Iv x ts t → ∃ (r : Int) (r2 : Int), m_x11_has p1 x = some r ∧ m_x12_has p1 t = some r2 ∧ Iv x ts t) ∧
  (∀ (x : MS) (ts : List MS) (t : MS) (p1 : Int) (p2 : Int), R2 p1 → R2 p2 → Iv x ts t → ∃ (r : Int) (r2 : Int), m_x11_letter p1 p2 x = some r ∧ m_x12_letter p1 p2 t = some r2 ∧ Iv x ts t) ∧
  (∀ (x : MS) (ts : List MS) (t : MS) (p1 : Int) (p2 : Int), R2 p1 → R2 p2 → Iv x ts t → ∃ (x1 : MS) (r : Int) (t1 : MS) (r2 : Int), m_x11_volume p1 p2 x = some (r, x1) ∧ m_x12_volume p1 p2 t = some (r2, t1) ∧ Iv x1 ts t1) ∧
  (∀ (x : MS) (ts : List MS) (t : MS) (p1 : Int) (p2 : Int), R2 p1 → R2 p2 → Iv x ts t → ∃ (r : Int) (r2 : Int), m_x11_block p1 p2 x = some r ∧ m_x12_block p1 p2 t = some r2 ∧ Iv x ts t) ∧
  (∀ (x : MS) (ts : List MS) (t : MS) (p1 : Int) (p2 : Int) (p3 : Int), R2 p1 → R2 p2 → R2 p3 → Iv x ts t → ∃ (r : Int) (r2 : Int), m_x11_entry p1 p2 p3 x = some r ∧ m_x12_entry p1 p2 p3 t = some r2 ∧ Iv x ts t) ∧
  (∀ (x : MS) (ts : List MS) (t : MS) (p1 : Int) (p2 : Int), R2 p1 → R2 p2 → Iv x ts t → ∃ (r : Int) (r2 : Int), m_x11_kept p1 p2 x = some r ∧ m_x12_kept p1 p2 t = some r2 ∧ Iv x ts t) ∧
  (∀ (x : MS) (ts : List MS) (t : MS) (p1 : Int) (p2 : Int), R2 p1 → R2 p2 → Iv x ts t → ∃ (r : Int) (r2 : Int), m_x11_read p1 p2 x = some r ∧ m_x12_read p1 p2 t = some r2 ∧ Iv x ts t) ∧
  (∀ (x : MS) (ts : List MS) (t : MS) (p1 : Int) (p2 : Int), R2 p1 → R2 p2 → Iv x ts t → ∃ (x1 : MS) (r : Int) (t1 : MS) (r2 : Int), m_x11_key p1 p2 x = some (r, x1) ∧ m_x12_key p1 p2 t = some (r2, t1) ∧ Iv x1 ts t1) ∧
  (∀ (x : MS) (ts : List MS) (t : MS) (p1 : Int) (p2 : Int) (p3 : Int), R2 p1 → R2 p2 → R2 p3 → Iv x ts t → ∃ (x1 : MS) (r : Int) (t1 : MS) (r2 : Int), m_x11_total p1 p2 p3 x = some (r, x1) ∧ m_x12_total p1 p2 p3 t = some (r2, t1) ∧ Iv x1 ts t1) ∧
  (∀ (x : MS) (ts : List MS) (t : MS) (p1 : Int) (p2 : Int) (p3 : Int), R2 p1 → R2 p2 → R2 p3 → Iv x ts t → ∃ (r : Int) (r2 : Int), m_x11_path p1 p2 p3 x = some r ∧ m_x12_path p1 p2 p3 t = some r2 ∧ Iv x ts t) ∧
  (∀ (x : MS) (ts : List MS) (t : MS) (p1 : Int) (p2 : Int), R2 p1 → R2 p2 → Iv x ts t → ∃ (x1 : MS) (r : Int) (t1 : MS) (r2 : Int), m_x11_shared p1 p2 x = some (r, x1) ∧ m_x12_shared p1 p2 t = some (r2, t1) ∧ Iv x1 ts t1) ∧
  (∀ (x : MS) (ts : List MS) (t : MS) (p1 : Int) (p2 : Int) (p3 : Int), R2 p1 → R2 p2 → R2 p3 → Iv x ts t → ∃ (x1 : MS) (r : Int) (r2 : Int), m_x11_differs p1 p2 p3 x = some (r, x1) ∧ m_x12_differs p1 p2 p3 t = some r2 ∧ Iv x1 ts t) ∧
  (∀ (x : MS) (ts : List MS) (t : MS) (p1 : Int) (p2 : Int) (p3 : Int), R2 p1 → R2 p2 → R2 p3 → Iv x ts t → ∃ (x1 : MS) (r : Int) (t1 : MS) (r2 : Int), m_x11_writes p1 p2 p3 x = some (r, x1) ∧ m_x12_writes p1 p2 p3 t = some (r2, t1) ∧ Iv x1 ts t1) ∧
  (∀ (x : MS) (ts : List MS) (t : MS) (p1 : Int) (p2 : Int), R2 p1 → R2 p2 → Iv x ts t → ∃ (x1 : MS) (r : Int) (t1 : MS) (r2 : Int), m_x11_spread p1 p2 x = some (r, x1) ∧ m_x12_spread p1 p2 t = some (r2, t1) ∧ Iv x1 ts t1) ∧
  (∀ (x : MS) (ts : List MS) (t : MS) (p1 : Int), R2 p1 → Iv x ts t → ∃ (x1 : MS) (r : Int) (t1 : MS) (r2 : Int), m_x11_lost p1 x = some (r, x1) ∧ m_x12_lost p1 t = some (r2, t1) ∧ Iv x1 ts t1) ∧
  (∀ (x : MS) (ts : List MS) (t : MS) (p1 : Int), R2 p1 → Iv x ts t → ∃ (x1 : MS) (r : Int) (t1 : MS) (r2 : Int), m_x11_worst p1 x = some (r, x1) ∧ m_x12_worst p1 t = some (r2, t1) ∧ Iv x1 ts t1) ∧
  (∀ (x : MS) (ts : List MS) (t : MS) (p1 : Int), R2 p1 → Iv x ts t → ∃ (x1 : MS) (r : Int) (t1 : MS) (r2 : Int), m_x11_victim p1 x = some (r, x1) ∧ m_x12_victim p1 t = some (r2, t1) ∧ Iv x1 ts t1) ∧
  (∀ (x : MS) (ts : List MS) (t : MS) (p1 : Int), R2 p1 → Iv x ts t → ∃ (r : Int) (r2 : Int), m_x11_room p1 x = some r ∧ m_x12_room p1 t = some r2 ∧ Iv x ts t) ∧
  (∀ (x : MS) (ts : List MS) (t : MS) (p1 : Int), R2 p1 → Iv x ts t → ∃ (x1 : MS) (r : Int) (r2 : Int), m_x11_back p1 x = some (r, x1) ∧ m_x12_back p1 t = some r2 ∧ Iv x1 ts t) ∧
  (∀ (x : MS) (ts : List MS) (t : MS), Iv x ts t → ∃ (x1 : MS) (r : Int) (t1 : MS) (r2 : Int), m_x11_see x = some (r, x1) ∧ m_x12_see t = some (r2, t1) ∧ Iv x1 ts t1) ∧
  (∀ (x : MS) (ts : List MS) (t : MS) (p1 : Int), R2 p1 → Iv x ts t → ∃ (x1 : MS) (r : Int) (r2 : Int), m_x11_fits p1 x = some (r, x1) ∧ m_x12_fits p1 t = some r2 ∧ Iv x1 ts t) ∧
  (∀ (x : MS) (ts : List MS) (t : MS) (p1 : Int), R2 p1 → Iv x ts t → ∃ (x1 : MS) (r : Int) (r2 : Int), m_x11_tells p1 x = some (r, x1) ∧ m_x12_tells p1 t = some r2 ∧ Iv x1 ts t) ∧
  (∀ (x : MS) (ts : List MS) (t : MS) (p1 : Int) (p2 : Int) (p3 : Int), R2 p1 → R2 p2 → R2 p3 → Iv x ts t → ∃ (x1 : MS) (ts1 : List MS) (r : Int) (t1 : MS) (r2 : Int), m_x11_put ts p1 p2 p3 x = some (r, x1, ts1) ∧ m_x12_put p1 p2 p3 t = some (r2, t1) ∧ Iv x1 ts1 t1) ∧
  (∀ (x : MS) (ts : List MS) (t : MS) (p1 : Int) (p2 : Int), R2 p1 → R2 p2 → Iv x ts t → ∃ (x1 : MS) (ts1 : List MS) (r : Int) (t1 : MS) (r2 : Int), m_x11_remove ts p1 p2 x = some (r, x1, ts1) ∧ m_x12_remove p1 p2 t = some (r2, t1) ∧ r = r2 ∧ Iv x1 ts1 t1) ∧
  (∀ (x : MS) (ts : List MS) (t : MS) (p1 : Int), R2 p1 → Iv x ts t → ∃ (x1 : MS) (ts1 : List MS) (r : Int) (t1 : MS) (r2 : Int), m_x11_copy ts p1 x = some (r, x1, ts1) ∧ m_x12_copy p1 t = some (r2, t1) ∧ Iv x1 ts1 t1) ∧
  (∀ (x : MS) (ts : List MS) (t : MS) (p1 : Int), R2 p1 → Iv x ts t → ∃ (x1 : MS) (ts1 : List MS) (r : Int) (t1 : MS) (r2 : Int), m_x11_drop ts p1 x = some (r, x1, ts1) ∧ m_x12_drop p1 t = some (r2, t1) ∧ Iv x1 ts1 t1) ∧
  (∀ (x : MS) (ts : List MS) (t : MS), Iv x ts t → ∃ (x1 : MS) (ts1 : List MS) (r : Int) (t1 : MS) (r2 : Int), m_x11_checkpoint ts x = some (r, x1, ts1) ∧ m_x12_checkpoint t = some (r2, t1) ∧ Iv x1 ts1 t1) ∧
  (∀ (x : MS) (ts : List MS) (t : MS), Iv x ts t → ∃ (x1 : MS) (ts1 : List MS) (r : Int) (t1 : MS) (r2 : Int), m_x11_crash ts x = some (r, x1, ts1) ∧ m_x12_crash t = some (r2, t1) ∧ Iv x1 ts1 t1) ∧
  (∀ (x : MS) (ts : List MS) (t : MS) (p1 : Int), R2 p1 → Iv x ts t → ∃ (x1 : MS) (ts1 : List MS) (r : Int) (t1 : MS) (r2 : Int), m_x11_chance ts p1 x = some (r, x1, ts1) ∧ m_x12_chance p1 t = some (r2, t1) ∧ Iv x1 ts1 t1) ∧
  (∀ (x : MS) (ts : List MS) (t : MS), Iv x ts t → ∃ (x1 : MS) (ts1 : List MS) (r : Int) (t1 : MS) (r2 : Int), m_x11_undo ts x = some (r, x1, ts1) ∧ m_x12_undo t = some (r2, t1) ∧ Iv x1 ts1 t1) ∧
  (∀ (x : MS) (ts : List MS) (t : MS) (p1 : Int), R2 p1 → Iv x ts t → ∃ (x1 : MS) (r : Int) (t1 : MS) (r2 : Int), m_x11_seed p1 x = some (r, x1) ∧ m_x12_seed p1 t = some (r2, t1) ∧ Iv x1 ts t1) ∧
  (∀ (x : MS) (ts : List MS) (t : MS), Iv x ts t → ∃ (x1 : MS) (r : Int) (t1 : MS) (r2 : Int), m_x11_ask x = some (r, x1) ∧ m_x12_ask t = some (r2, t1) ∧ Iv x1 ts t1) ∧
  (∀ (x : MS) (ts : List MS) (t : MS), Iv x ts t → ∃ (x1 : MS) (r : Int) (t1 : MS) (r2 : Int), m_x11_image x = some (r, x1) ∧ m_x12_image t = some (r2, t1) ∧ Iv x1 ts t1) ∧
  (∀ (x : MS) (ts : List MS) (t : MS) (p1 : Int), R2 p1 → Iv x ts t → ∃ (r : Int) (r2 : Int), m_x11_octet p1 x = some r ∧ m_x12_octet p1 t = some r2 ∧ Iv x ts t) ∧
  (∀ (x : MS) (ts : List MS) (t : MS), Iv x ts t → ∃ (x1 : MS) (r : Int) (t1 : MS) (r2 : Int), m_x11_on x = some (r, x1) ∧ m_x12_on t = some (r2, t1) ∧ Iv x1 ts t1) ∧
  (∀ (x : MS) (ts : List MS) (t : MS) (p1 : Int), R2 p1 → Iv x ts t → ∃ (r : Int) (r2 : Int), m_x11_status p1 x = some r ∧ m_x12_status p1 t = some r2 ∧ Iv x ts t)
