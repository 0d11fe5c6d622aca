def m_x11_fits_J44 (x1 : Int) (s2 : MS) : Option (Int × MS) :=
  some (x1, s2)
def m_x11_fits_J43 (s3 : MS) : Option (Int × MS) :=
  m_x11_fits_J44 (-1) s3
def m_x11_fits (p0 : Int) (s : MS) : Option (Int × MS) :=
  bn (m_x7_findFits s) (fun qr6 => rg p0 (if p0 = (-1) then some (qr6.1, qr6.2) else rg p0 (if p0 < 0 then m_x11_fits_J43 qr6.2 else rg p0 (rg qr6.1 (if qr6.1 ≤ p0 then m_x11_fits_J43 qr6.2 else rdI (gA qr6.2 14) 8 p0 (fun y14 => m_x11_fits_J44 y14 qr6.2))))))
def m_x7_mostLeft_J70 (lr5 : Int → Int → Int → MS → Option (Int × MS)) (lr39 : Int → Int → Int → Int → Int → MS → Option (Int × MS)) (x11 : Int) (x12 : Int) (x13 : Int) (x14 : Int) (x15 : Int) (x16 : Int) (s17 : MS) : Option (Int × MS) :=
  lr39 x11 x12 x13 (x16 + x15) (x14 + 1) s17
def m_x7_mostLeft_b39 (lr5 : Int → Int → Int → MS → Option (Int × MS)) (lr39 : Int → Int → Int → Int → Int → MS → Option (Int × MS)) (x5 : Int) (x6 : Int) (x7 : Int) (x8 : Int) (x9 : Int) (s10 : MS) : Option (Int × MS) :=
  rg x9 (rg x7 (if x7 < x9 then rg x6 (rg x8 (lr5 x5 (maxZ x6 x8) (x7 + 1) s10)) else rdI (gA s10 15) 8 x9 (fun y23 => rdI (gA s10 15) 8 x7 (fun y24 => rg y23 (rg y24 (if y23 = y24 then m_x7_mostLeft_J70 lr5 lr39 x5 x6 x7 x9 1 x8 s10 else m_x7_mostLeft_J70 lr5 lr39 x5 x6 x7 x9 0 x8 s10))))))
def m_x7_mostLeft_L39 (lr5 : Int → Int → Int → MS → Option (Int × MS)) (n : Nat) : Int → Int → Int → Int → Int → MS → Option (Int × MS) := lp (fun _ _ _ _ _ _ => none) (m_x7_mostLeft_b39 lr5) n
def m_x7_mostLeft_b5 (lr5 : Int → Int → Int → MS → Option (Int × MS)) (x1 : Int) (x2 : Int) (x3 : Int) (s4 : MS) : Option (Int × MS) :=
  rg x3 (rg (gI s4 224) (if (gI s4 224) ≤ x3 then some (x2, s4) else rdI (gA s4 14) 8 x3 (fun y31 => bn (m_x7_reading y31 x1 s4) (fun r33 => inb 8 x3 (stn (sA s4 15 (upZ (gA s4 15) (Int.toNat x3) r33)) (fun s35 => m_x7_mostLeft_L39 lr5 FU x1 x2 x3 0 0 s35))))))
def m_x7_mostLeft_L5 (n : Nat) : Int → Int → Int → MS → Option (Int × MS) := lp (fun _ _ _ _ => none) (m_x7_mostLeft_b5) n
def m_x7_mostLeft (p1 : Int) (s : MS) : Option (Int × MS) :=
  m_x7_mostLeft_L5 FU p1 0 0 s
def m_x11_tells_J64 (lr27 : Int → Int → Int → Int → MS → Option (Int × MS)) (x6 : Int) (x7 : Int) (x8 : Int) (x9 : Int) (s10 : MS) : Option (Int × MS) :=
  lr27 x6 x7 x8 (x9 + 1) s10
def m_x11_tells_b27 (lr27 : Int → Int → Int → Int → MS → Option (Int × MS)) (x1 : Int) (x2 : Int) (x3 : Int) (x4 : Int) (s5 : MS) : Option (Int × MS) :=
  rg x4 (if 100 ≤ x4 then bn (m_x11_oneOf x1 x2 x3 s5) (fun r14 => some (r14, s5)) else bn (m_x7_mostLeft x4 s5) (fun qr17 => rg qr17.1 (rg x3 (if x3 ≤ qr17.1 then m_x11_tells_J64 lr27 x1 x2 x3 x4 qr17.2 else m_x11_tells_J64 lr27 x1 x4 qr17.1 x4 qr17.2))))
def m_x11_tells_L27 (n : Nat) : Int → Int → Int → Int → MS → Option (Int × MS) := lp (fun _ _ _ _ _ => none) (m_x11_tells_b27) n
def m_x11_tells (p0 : Int) (s : MS) : Option (Int × MS) :=
  bn (m_x7_findFits s) (fun qr23 => rg qr23.1 (if qr23.1 = 0 then some ((-1), qr23.2) else m_x11_tells_L27 FU p0 0 9 0 qr23.2))
def m_x8_become_v3 (s : MS) : Option MS :=
  stn (sI s 1420 (gI s 1060)) (fun s1 => stn (sI s1 1421 (gI s1 1061)) (fun s2 => stn (sL s2 1422 (gL s2 1062)) (fun s3 => cpg 0 0 48 48 48 (stn (sA s3 72 (va_cpy (gA s3 54) (gA s3 72) (Int.toNat 0) (Int.toNat 0) (Int.toNat 48))) (fun s5 => cpg 0 0 48 48 48 (stn (sA s5 73 (va_cpy (gA s5 55) (gA s5 73) (Int.toNat 0) (Int.toNat 0) (Int.toNat 48))) (fun s7 => cpg 0 0 48 48 48 (stn (sA s7 74 (va_cpy (gA s7 56) (gA s7 74) (Int.toNat 0) (Int.toNat 0) (Int.toNat 48))) (fun s9 => cpg 0 0 48 48 48 (stn (sA s9 75 (va_cpy (gA s9 57) (gA s9 75) (Int.toNat 0) (Int.toNat 0) (Int.toNat 48))) (fun s11 => cpg 0 0 288 288 288 (stn (sA s11 76 (va_cpy (gA s11 58) (gA s11 76) (Int.toNat 0) (Int.toNat 0) (Int.toNat 288))) (fun s13 => cpg 0 0 288 288 288 (stn (sA s13 77 (va_cpy (gA s13 59) (gA s13 77) (Int.toNat 0) (Int.toNat 0) (Int.toNat 288))) (fun s15 => cpg 0 0 8 8 8 (stn (sA s15 78 (va_cpy (gA s15 60) (gA s15 78) (Int.toNat 0) (Int.toNat 0) (Int.toNat 8))) (fun s17 => cpg 0 0 8 8 8 (stn (sA s17 79 (va_cpy (gA s17 61) (gA s17 79) (Int.toNat 0) (Int.toNat 0) (Int.toNat 8))) (fun s19 => some s19)))))))))))))))))))
def m_x8_become_v4 (s : MS) : Option MS :=
  stn (sI s 1060 (gI s 1420)) (fun s1 => stn (sI s1 1061 (gI s1 1421)) (fun s2 => stn (sL s2 1062 (gL s2 1422)) (fun s3 => cpg 0 0 48 48 48 (stn (sA s3 54 (va_cpy (gA s3 72) (gA s3 54) (Int.toNat 0) (Int.toNat 0) (Int.toNat 48))) (fun s5 => cpg 0 0 48 48 48 (stn (sA s5 55 (va_cpy (gA s5 73) (gA s5 55) (Int.toNat 0) (Int.toNat 0) (Int.toNat 48))) (fun s7 => cpg 0 0 48 48 48 (stn (sA s7 56 (va_cpy (gA s7 74) (gA s7 56) (Int.toNat 0) (Int.toNat 0) (Int.toNat 48))) (fun s9 => cpg 0 0 48 48 48 (stn (sA s9 57 (va_cpy (gA s9 75) (gA s9 57) (Int.toNat 0) (Int.toNat 0) (Int.toNat 48))) (fun s11 => cpg 0 0 288 288 288 (stn (sA s11 58 (va_cpy (gA s11 76) (gA s11 58) (Int.toNat 0) (Int.toNat 0) (Int.toNat 288))) (fun s13 => cpg 0 0 288 288 288 (stn (sA s13 59 (va_cpy (gA s13 77) (gA s13 59) (Int.toNat 0) (Int.toNat 0) (Int.toNat 288))) (fun s15 => cpg 0 0 8 8 8 (stn (sA s15 60 (va_cpy (gA s15 78) (gA s15 60) (Int.toNat 0) (Int.toNat 0) (Int.toNat 8))) (fun s17 => cpg 0 0 8 8 8 (stn (sA s17 61 (va_cpy (gA s17 79) (gA s17 61) (Int.toNat 0) (Int.toNat 0) (Int.toNat 8))) (fun s19 => some s19)))))))))))))))))))
def m_x1_tryPlant_J36 (x1 : Int) (s2 : MS) : Option (Int × MS) :=
  bo x1 (some (x1, s2))
def m_x1_tryPlant (p0 : Int) (p1 : Int) (p2 : Int) (s : MS) : Option (Int × MS) :=
  bn (m_x8_become_v3 s) (fun s5 => bn (m_x1_plant p0 p1 p2 s5) (fun qr8 => rg qr8.1 (if qr8.1 = 0 then bn (m_x8_become_v4 qr8.2) (fun s12 => m_x1_tryPlant_J36 qr8.1 s12) else m_x1_tryPlant_J36 qr8.1 qr8.2)))
def m_x8_delete_b45 (lr45 : Int → Int → Int → MS → Option MS) (x1 : Int) (x2 : Int) (x3 : Int) (s4 : MS) : Option MS :=
  rg x3 (rg x2 (if x2 ≤ x3 then bn (m_x8_mark x1 s4) (fun s9 => some s9) else rdI (gA s4 58) 288 (x3 + 1) (fun y10 => inb 288 x3 (stn (sA s4 58 (upZ (gA s4 58) (Int.toNat x3) y10)) (fun s12 => rdI (gA s12 59) 288 (x3 + 1) (fun y13 => inb 288 x3 (stn (sA s12 59 (upZ (gA s12 59) (Int.toNat x3) y13)) (fun s15 => lr45 x1 x2 (x3 + 1) s15))))))))
def m_x8_delete_L45 (n : Nat) : Int → Int → Int → MS → Option MS := lp (fun _ _ _ _ => none) (m_x8_delete_b45) n
def m_x8_delete_J14 (s16 : MS) : Option MS :=
  some s16
def m_x8_delete (p0 : Int) (p1 : Int) (s : MS) : Option MS :=
  rg p1 (if p1 < 0 then m_x8_delete_J14 s else rdI (gA s 57) 48 p0 (fun y19 => rg p1 (rg y19 (if p1 < y19 then rdI (gA s 57) 48 p0 (fun y23 => inb 48 p0 (stn (sA s 57 (upZ (gA s 57) (Int.toNat p0) (y23 - 1))) (fun s25 => rdI (gA s25 57) 48 p0 (fun y26 => bn (m_x8_slot p0 y26 s25) (fun r28 => bn (m_x8_slot p0 p1 s25) (fun r30 => m_x8_delete_L45 FU p0 r28 r30 s25)))))) else m_x8_delete_J14 s))))
def m_x1_prune_J186 (s1 : MS) : Option MS :=
  some s1
def m_x1_prune_J180 (lr98 : Int → Int → MS → Option MS) (x5 : Int) (x6 : Int) (s7 : MS) : Option MS :=
  lr98 x5 (x6 + (-1)) s7
def m_x1_prune_b98 (lr98 : Int → Int → MS → Option MS) (x2 : Int) (x3 : Int) (s4 : MS) : Option MS :=
  rg x3 (if x3 < 0 then m_x1_prune_J186 s4 else rdI (gA s4 50) 48 x3 (fun y10 => rdI (gA s4 57) 48 y10 (fun y11 => rg y11 (if y11 = 0 then rdI (gA s4 50) 48 x3 (fun y14 => inb 48 y14 (stn (sA s4 54 (upZ (gA s4 54) (Int.toNat y14) 0)) (fun s16 => rg x3 (if x3 ≤ 0 then inb 8 x2 (stn (sA s16 60 (upZ (gA s16 60) (Int.toNat x2) (-1))) (fun s20 => m_x1_prune_J180 lr98 x2 x3 s20)) else rdI (gA s16 50) 48 (x3 - 1) (fun y21 => rdI (gA s16 51) 48 (x3 - 1) (fun y22 => bn (m_x8_delete y21 y22 s16) (fun s24 => m_x1_prune_J180 lr98 x2 x3 s24))))))) else m_x1_prune_J186 s4))))
def m_x1_prune_L98 (n : Nat) : Int → Int → MS → Option MS := lp (fun _ _ _ => none) (m_x1_prune_b98) n
def m_x1_prune_b18 (lr18 : Int → Int → Int → Int → MS → Option MS) (x25 : Int) (x26 : Int) (x27 : Int) (x28 : Int) (s29 : MS) : Option MS :=
  rg x28 (rg x27 (if x27 ≤ x28 then rdI (gA s29 50) 48 x27 (fun y33 => rdI (gA s29 50) 48 x27 (fun y34 => bn (m_x8_find y34 x26 s29) (fun r36 => bn (m_x8_delete y33 r36 s29) (fun s38 => m_x1_prune_L98 FU x25 x27 s38)))) else rdI (gA s29 50) 48 x28 (fun y39 => rdI (gA s29 51) 48 x28 (fun y40 => bn (m_x8_slot y39 y40 s29) (fun r42 => rdI (gA s29 59) 288 r42 (fun y43 => inb 48 (x28 + 1) (stn (sA s29 50 (upZ (gA s29 50) (Int.toNat (x28 + 1)) y43)) (fun s45 => lr18 x25 x26 x27 (x28 + 1) s45))))))))
def m_x1_prune_L18 (n : Nat) : Int → Int → Int → Int → MS → Option MS := lp (fun _ _ _ _ _ => none) (m_x1_prune_b18) n
def m_x1_prune (p0 : Int) (p1 : Int) (p2 : Int) (s : MS) : Option MS :=
  rdI (gA s 60) 8 p0 (fun y46 => inb 48 0 (stn (sA s 50 (upZ (gA s 50) (Int.toNat 0) y46)) (fun s48 => m_x1_prune_L18 FU p0 p1 p2 0 s48)))
def m_x1_lowerRoot_J48 (s1 : MS) : Option MS :=
  some s1
def m_x1_lowerRoot_b2 (lr2 : Int → Int → MS → Option MS) (x2 : Int) (x3 : Int) (s4 : MS) : Option MS :=
  rg x3 (if 48 ≤ x3 then some s4 else rdI (gA s4 60) 8 x2 (fun y7 => rg y7 (if y7 = (-1) then m_x1_lowerRoot_J48 s4 else rdI (gA s4 56) 48 y7 (fun y10 => rg y10 (if y10 = 0 then m_x1_lowerRoot_J48 s4 else rdI (gA s4 57) 48 y7 (fun y13 => rg y13 (if y13 = 1 then bn (m_x8_slot y7 0 s4) (fun r17 => rdI (gA s4 59) 288 r17 (fun y18 => rdI (gA s4 54) 48 y18 (fun y19 => inb 48 y18 (stn (sA s4 54 (upZ (gA s4 54) (Int.toNat y18) (y19 + 1))) (fun s21 => inb 8 x2 (stn (sA s21 60 (upZ (gA s21 60) (Int.toNat x2) y18)) (fun s23 => bn (m_x1_release_v2 y7 s23) (fun qr26 => lr2 x2 (x3 + 1) qr26.2)))))))) else m_x1_lowerRoot_J48 s4)))))))
def m_x1_lowerRoot_L2 (n : Nat) : Int → Int → MS → Option MS := lp (fun _ _ _ => none) (m_x1_lowerRoot_b2) n
def m_x1_lowerRoot (p0 : Int) (s : MS) : Option MS :=
  m_x1_lowerRoot_L2 FU p0 0 s
def m_x1_uproot_b55 (lr55 : Int → Int → Int → Int → Int → MS → Option (Int × MS)) (x1 : Int) (x2 : Int) (x3 : Int) (x4 : Int) (x5 : Int) (s6 : MS) : Option (Int × MS) :=
  rg x5 (rg x3 (if x3 ≤ x5 then bn (m_x1_prune x1 x2 x3 s6) (fun s11 => bn (m_x1_lowerRoot x1 s11) (fun s13 => some (1, s13))) else bn (m_x8_entryFor x4 x2 s6) (fun r15 => bn (m_x8_slot x4 r15 s6) (fun r17 => rdI (gA s6 59) 288 r17 (fun y18 => bn (m_x1_owned y18 s6) (fun qr21 => rg qr21.1 (if qr21.1 = (-1) then some (0, qr21.2) else bn (m_x8_set x4 r15 qr21.1 qr21.2) (fun s25 => inb 48 x5 (stn (sA s25 51 (upZ (gA s25 51) (Int.toNat x5) r15)) (fun s27 => lr55 x1 x2 x3 qr21.1 (x5 + 1) s27))))))))))
def m_x1_uproot_L55 (n : Nat) : Int → Int → Int → Int → Int → MS → Option (Int × MS) := lp (fun _ _ _ _ _ _ => none) (m_x1_uproot_b55) n
def m_x1_uproot (p0 : Int) (p1 : Int) (s : MS) : Option (Int × MS) :=
  rdI (gA s 60) 8 p0 (fun y28 => rdI (gA s 56) 48 y28 (fun y29 => rdI (gA s 60) 8 p0 (fun y30 => bn (m_x1_owned y30 s) (fun qr33 => rg qr33.1 (if qr33.1 = (-1) then some (0, qr33.2) else inb 8 p0 (stn (sA qr33.2 60 (upZ (gA qr33.2 60) (Int.toNat p0) qr33.1)) (fun s37 => m_x1_uproot_L55 FU p0 p1 y29 qr33.1 0 s37)))))))
def m_x1_tryUproot_J56 (x1 : Int) (s2 : MS) : Option (Int × MS) :=
  bo x1 (some (x1, s2))
def m_x1_tryUproot (p0 : Int) (p1 : Int) (s : MS) : Option (Int × MS) :=
  rdI (gA s 60) 8 p0 (fun y4 => bn (m_x8_valueAt y4 p1 s) (fun r6 => rg r6 (if r6 = (-1) then some (0, s) else bn (m_x8_become_v3 s) (fun s10 => bn (m_x1_uproot p0 p1 s10) (fun qr13 => rg qr13.1 (if qr13.1 = 0 then bn (m_x8_become_v4 qr13.2) (fun s17 => m_x1_tryUproot_J56 qr13.1 s17) else m_x1_tryUproot_J56 qr13.1 qr13.2))))))
def m_x8_freeNumber_b2 (s : MS) (lr2 : Int → Option Int) (x1 : Int) : Option Int :=
  rg x1 (if 8 ≤ x1 then some (-1) else bn (m_x8_isVolume x1 s) (fun r5 => rg r5 (if r5 = 0 then some x1 else lr2 (x1 + 1))))
def m_x8_freeNumber_L2 (s : MS) (n : Nat) : Int → Option Int := lp (fun _ => none) (m_x8_freeNumber_b2 s) n
def m_x8_freeNumber (s : MS) : Option Int :=
  m_x8_freeNumber_L2 s FU 0
def m_x1_share_J52 (s1 : MS) : Option MS :=
  some s1
def m_x1_share (p0 : Int) (p1 : Int) (s : MS) : Option MS :=
  rdI (gA s 60) 8 p0 (fun y2 => inb 8 p1 (stn (sA s 60 (upZ (gA s 60) (Int.toNat p1) y2)) (fun s4 => rdI (gA s4 60) 8 p0 (fun y5 => rg y5 (if y5 = (-1) then m_x1_share_J52 s4 else rdI (gA s4 60) 8 p0 (fun y8 => rdI (gA s4 54) 48 y8 (fun y9 => inb 48 y8 (stn (sA s4 54 (upZ (gA s4 54) (Int.toNat y8) (y9 + 1))) (fun s11 => m_x1_share_J52 s11)))))))))
def m_x1_letGo_J34 (x1 : Int) (s2 : MS) : Option MS :=
  inb 8 x1 (stn (sA s2 60 (upZ (gA s2 60) (Int.toNat x1) (-2))) (fun s4 => some s4))
def m_x1_letGo (p0 : Int) (s : MS) : Option MS :=
  rdI (gA s 60) 8 p0 (fun y5 => rg y5 (if y5 = (-1) then m_x1_letGo_J34 p0 s else rdI (gA s 60) 8 p0 (fun y8 => bn (m_x1_release_v2 y8 s) (fun qr11 => m_x1_letGo_J34 p0 qr11.2))))
def m_x8_save (s : MS) : Option MS :=
  cpg 0 0 48 48 48 (stn (sA s 55 (va_cpy (gA s 54) (gA s 55) (Int.toNat 0) (Int.toNat 0) (Int.toNat 48))) (fun s2 => cpg 0 0 8 8 8 (stn (sA s2 61 (va_cpy (gA s2 60) (gA s2 61) (Int.toNat 0) (Int.toNat 0) (Int.toNat 8))) (fun s4 => some s4))))
def m_x8_freshBlocks_J26 (s : MS) (lr4 : Int → Int → Option Int) (x3 : Int) (x4 : Int) (x5 : Int) : Option Int :=
  lr4 (x5 + x4) (x3 + 1)
def m_x8_freshBlocks_b4 (s : MS) (lr4 : Int → Int → Option Int) (x1 : Int) (x2 : Int) : Option Int :=
  rg x2 (rg (gI s 1060) (if (gI s 1060) ≤ x2 then some x1 else bn (m_x8_isFresh x2 s) (fun r10 => rg r10 (if r10 = 0 then m_x8_freshBlocks_J26 s lr4 x2 0 x1 else m_x8_freshBlocks_J26 s lr4 x2 1 x1))))
def m_x8_freshBlocks_L4 (s : MS) (n : Nat) : Int → Int → Option Int := lp (fun _ _ => none) (m_x8_freshBlocks_b4 s) n
def m_x8_freshBlocks (s : MS) : Option Int :=
  m_x8_freshBlocks_L4 s FU 0 0
def m_x8_fallBack (s : MS) : Option MS :=
  cpg 0 0 48 48 48 (stn (sA s 54 (va_cpy (gA s 55) (gA s 54) (Int.toNat 0) (Int.toNat 0) (Int.toNat 48))) (fun s2 => cpg 0 0 8 8 8 (stn (sA s2 60 (va_cpy (gA s2 61) (gA s2 60) (Int.toNat 0) (Int.toNat 0) (Int.toNat 8))) (fun s4 => some s4))))
def m_x11_seed (p0 : Int) (s : MS) : Option (Int × MS) :=
  rg p0 (if 0 ≤ p0 then stn (sI s 983 p0) (fun s3 => some (1, s3)) else bn (m_x11_refuse 5 s) (fun qr6 => some (0, qr6.2)))
def m_x3_value_v2_J125 (s1 : MS) : Option (Int × MS) :=
  bn (m_x3_pop s1) (fun qr4 => some (qr4.1, qr4.2))
def m_x3_value_v2_J119 (lr8 : Int → Int → MS → Option (Int × MS)) (x8 : Int) (x9 : Int) (s10 : MS) : Option (Int × MS) :=
  lr8 x8 (x9 + 1) s10
def m_x3_value_v2_b8 (lr8 : Int → Int → MS → Option (Int × MS)) (x5 : Int) (x6 : Int) (s7 : MS) : Option (Int × MS) :=
  rg x6 (if x6 < 0 then m_x3_value_v2_J125 s7 else rg x6 (rg x5 (if x5 ≤ x6 then m_x3_value_v2_J125 s7 else rg x6 (rg (gI s7 941) (if (gI s7 941) ≤ x6 then m_x3_value_v2_J125 s7 else rdI (gA s7 48) 1600 x6 (fun y19 => rg y19 (if y19 < 0 then rg y19 (if (-100) < y19 then rg y19 (if (-12) < y19 then bn (m_x3_pop s7) (fun qr28 => bn (m_x3_pop qr28.2) (fun qr31 => bn (m_x3_joined y19 qr31.1 qr28.1 qr31.2) (fun r33 => bn (m_x3_push r33 qr31.2) (fun s35 => m_x3_value_v2_J119 lr8 x5 x6 s35)))) else bn (m_x3_pop s7) (fun qr38 => bn (m_x3_changed y19 qr38.1 qr38.2) (fun r40 => bn (m_x3_push r40 qr38.2) (fun s42 => m_x3_value_v2_J119 lr8 x5 x6 s42)))) else bn (m_x3_fact ((-100) - y19) s7) (fun r44 => bn (m_x3_push r44 s7) (fun s46 => m_x3_value_v2_J119 lr8 x5 x6 s46))) else bn (m_x3_push y19 s7) (fun s48 => m_x3_value_v2_J119 lr8 x5 x6 s48))))))))
def m_x3_value_v2_L8 (n : Nat) : Int → Int → MS → Option (Int × MS) := lp (fun _ _ _ => none) (m_x3_value_v2_b8) n
def m_x3_value_v2 (p1 : Int) (p2 : Int) (s : MS) : Option (Int × MS) :=
  stn (sI s 1601 0) (fun s49 => m_x3_value_v2_L8 FU p2 p1 s49)
def m_x1_valueFor_J74 (x1 : Int) (x2 : Int) (s3 : MS) : Option (Int × MS) :=
  stn (sI s3 1607 x2) (fun s4 => rdI (gA s4 55) 48 x1 (fun y5 => stn (sI s4 1608 y5) (fun s6 => bn (m_x3_value_v2 0 (gI s6 941) s6) (fun qr9 => some (qr9.1, qr9.2)))))
def m_x1_valueFor (p0 : Int) (s : MS) : Option (Int × MS) :=
  stn (sI s 1602 p0) (fun s10 => bn (m_x8_levelOf p0 s10) (fun r12 => stn (sI s10 1604 r12) (fun s13 => bn (m_x8_sizeOf p0 s13) (fun r15 => stn (sI s13 1605 r15) (fun s16 => rdI (gA s16 54) 48 p0 (fun y17 => stn (sI s16 1606 y17) (fun s18 => bn (m_x8_isFresh p0 s18) (fun r20 => rg r20 (if r20 = 0 then m_x1_valueFor_J74 p0 0 s18 else m_x1_valueFor_J74 p0 1 s18)))))))))
def m_x11_answerTest_J76 (z1 : Int) (s2 : MS) : Option (Int × MS) :=
  some (z1, s2)
def m_x11_answerTest_J57 (lr7 : Int → Int → Int → Int → MS → Option (Int × MS)) (x8 : Int) (x9 : Int) (x10 : Int) (x11 : Int) (s12 : MS) : Option (Int × MS) :=
  lr7 x8 x9 x10 (x11 + 1) s12
def m_x11_answerTest_b7 (lr7 : Int → Int → Int → Int → MS → Option (Int × MS)) (x3 : Int) (x4 : Int) (x5 : Int) (x6 : Int) (s7 : MS) : Option (Int × MS) :=
  rg x6 (rg (gI s7 1060) (if (gI s7 1060) ≤ x6 then rg x3 (if x3 = 29 then rg x4 (m_x11_answerTest_J76 x4 s7) else rg x5 (m_x11_answerTest_J76 x5 s7)) else bn (m_x1_valueFor x6 s7) (fun qr22 => rg qr22.1 (if qr22.1 = 0 then m_x11_answerTest_J57 lr7 x3 x4 x5 x6 qr22.2 else rg x3 (if x3 = 27 then rg x6 (some (x6, qr22.2)) else m_x11_answerTest_J57 lr7 x3 (x4 + 1) x6 x6 qr22.2)))))
def m_x11_answerTest_L7 (n : Nat) : Int → Int → Int → Int → MS → Option (Int × MS) := lp (fun _ _ _ _ _ => none) (m_x11_answerTest_b7) n
def m_x11_answerTest (p0 : Int) (s : MS) : Option (Int × MS) :=
  m_x11_answerTest_L7 FU p0 0 (-1) 0 s
def m_x6_begin (s : MS) : Option MS :=
  stn (sI s 9999 2) (fun s1 => stn (sI s1 100 0) (fun s2 => stn (sI s2 101 (-1)) (fun s3 => stn (sI s3 106 0) (fun s4 => stn (sI s4 109 0) (fun s5 => bn (m_x6_advance s5) (fun s7 => some s7))))))
def m_x6_readQuestion_J121 (x1 : Int) (s2 : MS) : Option (Int × MS) :=
  some (x1, s2)
def m_x6_readQuestion_J104 (x3 : Int) (s4 : MS) : Option (Int × MS) :=
  rg (gI s4 107) (if (gI s4 107) = 0 then m_x6_readQuestion_J121 x3 s4 else bn (m_x6_fail 1 (gI s4 108) s4) (fun qr9 => m_x6_readQuestion_J121 x3 qr9.2))
def m_x6_readQuestion_J83 (x10 : Int) (s11 : MS) : Option (Int × MS) :=
  bn (m_x6_advance s11) (fun s13 => bn (m_x6_readSumC s13) (fun s15 => m_x6_readQuestion_J104 x10 s15))
def m_x6_readQuestion_J72 (x16 : Int) (s17 : MS) : Option (Int × MS) :=
  bn (m_x6_advance s17) (fun s19 => bn (m_x6_readTestC s19) (fun s21 => m_x6_readQuestion_J104 x16 s21))
def m_x6_readQuestion_J31 (x22 : Int) (s23 : MS) : Option (Int × MS) :=
  rg x22 (if x22 = 27 then m_x6_readQuestion_J72 x22 s23 else if x22 = 28 then m_x6_readQuestion_J72 x22 s23 else if x22 = 29 then m_x6_readQuestion_J72 x22 s23 else if x22 = 30 then m_x6_readQuestion_J83 x22 s23 else if x22 = 31 then m_x6_readQuestion_J83 x22 s23 else if x22 = 32 then m_x6_readQuestion_J83 x22 s23 else bn (m_x6_fail 1 (gI s23 108) s23) (fun qr33 => m_x6_readQuestion_J104 x22 qr33.2))
def m_x6_readQuestion (s : MS) : Option (Int × MS) :=
  stn (sI s 941 0) (fun s34 => bn (m_x6_begin s34) (fun s36 => stn (sI s36 105 3) (fun s37 => rg (gI s37 107) (if (gI s37 107) = 1 then m_x6_readQuestion_J31 (gI s37 110) s37 else m_x6_readQuestion_J31 (-1) s37))))
def m_x11_answerSum_J101 (z1 : Int) (s2 : MS) : Option (Int × MS) :=
  some (z1, s2)
def m_x11_answerSum_b15 (lr15 : Int → Int → Int → Int → Int → MS → Option (Int × MS)) (x3 : Int) (z4 : Int) (x5 : Int) (x6 : Int) (x7 : Int) (s8 : MS) : Option (Int × MS) :=
  rg x7 (rg (gI s8 1060) (if (gI s8 1060) ≤ x7 then rg x3 (if x3 = 30 then some (z4, s8) else rg x3 (if x3 = 31 then rg x5 (m_x11_answerSum_J101 x5 s8) else rg x6 (m_x11_answerSum_J101 x6 s8))) else bn (m_x1_valueFor x7 s8) (fun qr20 => rg qr20.1 (rg x5 (rg qr20.1 (rg x6 (rg qr20.1 (lr15 x3 (z4 + qr20.1) (maxZ x5 qr20.1) (minZ x6 qr20.1) (x7 + 1) qr20.2))))))))
def m_x11_answerSum_L15 (n : Nat) : Int → Int → Int → Int → Int → MS → Option (Int × MS) := lp (fun _ _ _ _ _ _ => none) (m_x11_answerSum_b15) n
def m_x11_answerSum (p0 : Int) (s : MS) : Option (Int × MS) :=
  m_x11_answerSum_L15 FU p0 0 (-1000000) 1000000 0 s
def m_x11_ask_J84 (x1 : Int) (s2 : MS) : Option (Int × MS) :=
  bn (m_x11_answerTest x1 s2) (fun qrl5 => some (qrl5.1, qrl5.2))
def m_x11_ask (s : MS) : Option (Int × MS) :=
  rg (gI s 12) (if (gI s 12) = 0 then stn (sI s 61 0) (fun s21 => some ((-1000000000000000), s21)) else bn (m_x6_readQuestion s) (fun qr10 => stn (sI qr10.2 61 0) (fun s11 => rg (gI s11 100) (if (gI s11 100) = 0 then rg qr10.1 (if qr10.1 = 27 then m_x11_ask_J84 qr10.1 s11 else if qr10.1 = 28 then m_x11_ask_J84 qr10.1 s11 else if qr10.1 = 29 then m_x11_ask_J84 qr10.1 s11 else bn (m_x11_answerSum qr10.1 s11) (fun qrl20 => some (qrl20.1, qrl20.2))) else some ((-1000000000000000), s11)))))
def m_x4_seal_J35 (s : MS) (x1 : Int) : Option Int :=
  some x1
def m_x4_seal_b6 (s : MS) (lr6 : Int → Int → Int → Option Int) (x2 : Int) (x3 : Int) (x4 : Int) : Option Int :=
  rg x4 (rg x2 (if x2 ≤ x4 then m_x4_seal_J35 s x3 else rg x4 (if 1364 ≤ x4 then m_x4_seal_J35 s x3 else rdI (gA s 17) 1364 x4 (fun y10 => dv ((3 * x3) + y10) 251 (lr6 x2 (Int.tmod ((3 * x3) + y10) 251) (x4 + 1))))))
def m_x4_seal_L6 (s : MS) (n : Nat) : Int → Int → Int → Option Int := lp (fun _ _ _ => none) (m_x4_seal_b6 s) n
def m_x4_seal (p1 : Int) (s : MS) : Option Int :=
  m_x4_seal_L6 s FU p1 157 0
def m_x4_add_J36 (s1 : MS) : Option MS :=
  some s1
def m_x4_add (p0 : Int) (s : MS) : Option MS :=
  rg (gI s 321) (if 1364 ≤ (gI s 321) then m_x4_add_J36 s else inb 1364 (gI s 321) (stn (sA s 17 (upZ (gA s 17) (Int.toNat (gI s 321)) (andZ p0 255))) (fun s5 => stn (sI s5 321 ((gI s5 321) + 1)) (fun s6 => m_x4_add_J36 s6))))
def m_x4_addPair (p0 : Int) (s : MS) : Option MS :=
  bn (m_x4_add (ushrZ p0 8) s) (fun s2 => bn (m_x4_add p0 s2) (fun s4 => some s4))
def m_x4_drawBlock_b22 (lr22 : Int → Int → MS → Option MS) (x1 : Int) (x2 : Int) (s3 : MS) : Option MS :=
  rdI (gA s3 57) 48 x1 (fun y4 => rg x2 (rg y4 (if y4 ≤ x2 then some s3 else bn (m_x8_slot x1 x2 s3) (fun r9 => rdI (gA s3 58) 288 r9 (fun y10 => bn (m_x4_addPair y10 s3) (fun s12 => bn (m_x8_slot x1 x2 s12) (fun r14 => rdI (gA s12 59) 288 r14 (fun y15 => bn (m_x4_addPair y15 s12) (fun s17 => lr22 x1 (x2 + 1) s17)))))))))
def m_x4_drawBlock_L22 (n : Nat) : Int → Int → MS → Option MS := lp (fun _ _ _ => none) (m_x4_drawBlock_b22) n
def m_x4_drawBlock (p1 : Int) (s : MS) : Option MS :=
  rdI (gA s 56) 48 p1 (fun y18 => bn (m_x4_add y18 s) (fun s20 => rdI (gA s20 57) 48 p1 (fun y21 => bn (m_x4_add y21 s20) (fun s23 => m_x4_drawBlock_L22 FU p1 0 s23))))
def m_x4_rootByte_J22 (s : MS) (x1 : Int) : Option Int :=
  some x1
def m_x4_rootByte (p0 : Int) (s : MS) : Option Int :=
  rg p0 (if p0 = (-2) then some 255 else rg p0 (if p0 = (-1) then m_x4_rootByte_J22 s 254 else m_x4_rootByte_J22 s p0))
def m_x4_draw_J111 (lr69 : Int → MS → Option (Int × MS)) (x3 : Int) (s4 : MS) : Option (Int × MS) :=
  lr69 (x3 + 1) s4
def m_x4_draw_b69 (lr69 : Int → MS → Option (Int × MS)) (x1 : Int) (s2 : MS) : Option (Int × MS) :=
  rg x1 (rg (gI s2 1060) (if (gI s2 1060) ≤ x1 then bn (m_x4_seal (gI s2 321) s2) (fun r9 => bn (m_x4_add r9 s2) (fun s11 => some (gI s11 321, s11))) else rdI (gA s2 54) 48 x1 (fun y12 => bn (m_x4_add y12 s2) (fun s14 => rdI (gA s14 55) 48 x1 (fun y15 => bn (m_x4_add y15 s14) (fun s17 => bn (m_x8_isFree x1 s17) (fun r19 => rg r19 (if r19 = 0 then bn (m_x4_drawBlock x1 s17) (fun s23 => m_x4_draw_J111 lr69 x1 s23) else m_x4_draw_J111 lr69 x1 s17))))))))
def m_x4_draw_L69 (n : Nat) : Int → MS → Option (Int × MS) := lp (fun _ _ => none) (m_x4_draw_b69) n
def m_x4_draw_b29 (lr29 : Int → MS → Option (Int × MS)) (x24 : Int) (s25 : MS) : Option (Int × MS) :=
  rg x24 (if 8 ≤ x24 then m_x4_draw_L69 FU 0 s25 else rdI (gA s25 60) 8 x24 (fun y28 => bn (m_x4_rootByte y28 s25) (fun r30 => bn (m_x4_add r30 s25) (fun s32 => rdI (gA s32 61) 8 x24 (fun y33 => bn (m_x4_rootByte y33 s32) (fun r35 => bn (m_x4_add r35 s32) (fun s37 => lr29 (x24 + 1) s37)))))))
def m_x4_draw_L29 (n : Nat) : Int → MS → Option (Int × MS) := lp (fun _ _ => none) (m_x4_draw_b29) n
def m_x4_draw (s : MS) : Option (Int × MS) :=
  stn (sI s 321 0) (fun s38 => bn (m_x4_add (ushrZ (gI s38 1061) 16) s38) (fun s40 => bn (m_x4_addPair (andZ (gI s40 1061) 65535) s40) (fun s42 => m_x4_draw_L29 FU 0 s42)))
def m_x11_image (s : MS) : Option (Int × MS) :=
  bn (m_x4_draw s) (fun qr3 => some (qr3.1, qr3.2))
def m_x11_octet_J28 (s : MS) (x1 : Int) : Option Int :=
  some x1
def m_x11_octet_J27 (s : MS) (_u : Unit) : Option Int :=
  m_x11_octet_J28 s (-1)
def m_x11_octet (p0 : Int) (s : MS) : Option Int :=
  rg p0 (if p0 < 0 then m_x11_octet_J27 s () else rg p0 (rg (gI s 321) (if (gI s 321) ≤ p0 then m_x11_octet_J27 s () else rdI (gA s 17) 1364 p0 (fun y7 => m_x11_octet_J28 s y7))))
def m_x2_clear (s : MS) : Option MS :=
  stn (sI s 143 0) (fun s1 => stn (sI s1 145 0) (fun s2 => some s2))
def m_x8_isBlock_v2_J17 (s : MS) (x1 : Int) : Option Int :=
  bo x1 (some x1)
def m_x8_isBlock_v2_J16 (s : MS) (_u : Unit) : Option Int :=
  m_x8_isBlock_v2_J17 s 0
def m_x8_isBlock_v2 (p0 : Int) (s : MS) : Option Int :=
  rg p0 (if p0 < 0 then m_x8_isBlock_v2_J16 s () else rg p0 (rg (gI s 1420) (if (gI s 1420) ≤ p0 then m_x8_isBlock_v2_J16 s () else m_x8_isBlock_v2_J17 s 1)))
def m_x8_isFree_v2_J31 (s : MS) (x1 : Int) : Option Int :=
  bo x1 (some x1)
def m_x8_isFree_v2_J30 (s : MS) (_u : Unit) : Option Int :=
  m_x8_isFree_v2_J31 s 0
def m_x8_isFree_v2 (p0 : Int) (s : MS) : Option Int :=
  bn (m_x8_isBlock_v2 p0 s) (fun r4 => rg r4 (if r4 = 0 then m_x8_isFree_v2_J30 s () else rdI (gA s 72) 48 p0 (fun y7 => rg y7 (if y7 = 0 then rdI (gA s 73) 48 p0 (fun y10 => rg y10 (if y10 = 0 then m_x8_isFree_v2_J31 s 1 else m_x8_isFree_v2_J30 s ())) else m_x8_isFree_v2_J30 s ()))))
def m_x8_slot_v2 (p0 : Int) (p1 : Int) (s : MS) : Option Int :=
  some ((p0 * 6) + p1)
def m_x4_isSoundChild_J118 (s : MS) (x1 : Int) : Option Int :=
  bo x1 (some x1)
def m_x4_isSoundChild_J113 (s : MS) (_u : Unit) : Option Int :=
  m_x4_isSoundChild_J118 s 1
def m_x4_isSoundChild_J78 (s : MS) (x3 : Int) (x4 : Int) (x5 : Int) : Option Int :=
  rdI (gA s 75) 48 x3 (fun y6 => rg (x4 + 1) (rg y6 (if y6 ≤ (x4 + 1) then m_x4_isSoundChild_J113 s () else rdI (gA s 19) 48 x5 (fun y10 => bn (m_x8_slot_v2 x3 (x4 + 1) s) (fun r12 => rdI (gA s 76) 288 r12 (fun y13 => rg y10 (rg y13 (if y13 ≤ y10 then m_x4_isSoundChild_J118 s 0 else m_x4_isSoundChild_J113 s ()))))))))
def m_x4_isSoundChild_J49 (s : MS) (_u : Unit) : Option Int :=
  some 0
def m_x4_isSoundChild (p1 : Int) (p2 : Int) (s : MS) : Option Int :=
  bn (m_x8_slot_v2 p1 p2 s) (fun r18 => rdI (gA s 77) 288 r18 (fun y19 => bn (m_x8_isBlock_v2 y19 s) (fun r21 => rg r21 (if r21 = 0 then m_x4_isSoundChild_J49 s () else bn (m_x8_isFree_v2 y19 s) (fun r25 => rg r25 (if r25 = 0 then rdI (gA s 74) 48 y19 (fun y28 => rdI (gA s 74) 48 p1 (fun y29 => rg y28 (rg (y29 - 1) (if y28 = (y29 - 1) then rg p2 (if p2 ≤ 0 then m_x4_isSoundChild_J78 s p1 p2 y19 else rdI (gA s 18) 48 y19 (fun y35 => bn (m_x8_slot_v2 p1 p2 s) (fun r37 => rdI (gA s 76) 288 r37 (fun y38 => rg y35 (rg y38 (if y38 ≤ y35 then m_x4_isSoundChild_J78 s p1 p2 y19 else some 0)))))) else m_x4_isSoundChild_J49 s ())))) else m_x4_isSoundChild_J49 s ()))))))
def m_x4_isSoundBlock_b120 (lr120 : Int → Int → Int → MS → Option (Int × MS)) (x1 : Int) (x2 : Int) (x3 : Int) (s4 : MS) : Option (Int × MS) :=
  rg x3 (rg x2 (if x2 < x3 then bn (m_x8_slot_v2 x1 0 s4) (fun r9 => rdI (gA s4 77) 288 r9 (fun y10 => rdI (gA s4 18) 48 y10 (fun y11 => inb 48 x1 (stn (sA s4 18 (upZ (gA s4 18) (Int.toNat x1) y11)) (fun s13 => bn (m_x8_slot_v2 x1 x2 s13) (fun r15 => rdI (gA s13 77) 288 r15 (fun y16 => rdI (gA s13 19) 48 y16 (fun y17 => inb 48 x1 (stn (sA s13 19 (upZ (gA s13 19) (Int.toNat x1) y17)) (fun s19 => some (1, s19))))))))))) else bn (m_x4_isSoundChild x1 x3 s4) (fun r21 => rg r21 (if r21 = 0 then some (0, s4) else lr120 x1 x2 (x3 + 1) s4))))
def m_x4_isSoundBlock_L120 (n : Nat) : Int → Int → Int → MS → Option (Int × MS) := lp (fun _ _ _ _ => none) (m_x4_isSoundBlock_b120) n
def m_x4_isSoundBlock_b29 (lr29 : Int → Int → Int → MS → Option (Int × MS)) (x24 : Int) (x25 : Int) (x26 : Int) (s27 : MS) : Option (Int × MS) :=
  rg x26 (rg x25 (if x25 ≤ x26 then rdI (gA s27 74) 48 x24 (fun y31 => rg y31 (if y31 = 0 then bn (m_x8_slot_v2 x24 0 s27) (fun r35 => rdI (gA s27 76) 288 r35 (fun y36 => inb 48 x24 (stn (sA s27 18 (upZ (gA s27 18) (Int.toNat x24) y36)) (fun s38 => bn (m_x8_slot_v2 x24 x25 s38) (fun r40 => rdI (gA s38 76) 288 r40 (fun y41 => inb 48 x24 (stn (sA s38 19 (upZ (gA s38 19) (Int.toNat x24) y41)) (fun s43 => some (1, s43))))))))) else m_x4_isSoundBlock_L120 FU x24 x25 0 s27)) else bn (m_x8_slot_v2 x24 x26 s27) (fun r45 => rdI (gA s27 76) 288 r45 (fun y46 => bn (m_x8_slot_v2 x24 (x26 + 1) s27) (fun r48 => rdI (gA s27 76) 288 r48 (fun y49 => rg y46 (rg y49 (if y46 < y49 then lr29 x24 x25 (x26 + 1) s27 else some (0, s27)))))))))
def m_x4_isSoundBlock_L29 (n : Nat) : Int → Int → Int → MS → Option (Int × MS) := lp (fun _ _ _ _ => none) (m_x4_isSoundBlock_b29) n
def m_x4_isSoundBlock_J23 (x53 : Int) (x54 : Int) (x55 : Int) (s56 : MS) : Option (Int × MS) :=
  m_x4_isSoundBlock_L29 FU x53 x54 x55 s56
def m_x4_isSoundBlock (p1 : Int) (s : MS) : Option (Int × MS) :=
  rdI (gA s 75) 48 p1 (fun y57 => rdI (gA s 74) 48 p1 (fun y58 => rg y58 (if y58 = 0 then m_x4_isSoundBlock_J23 p1 (y57 - 1) 0 s else m_x4_isSoundBlock_J23 p1 (y57 - 1) 1 s)))
def m_x4_refsAre_b151 (lr151 : Int → MS → Option (Int × MS)) (x1 : Int) (s2 : MS) : Option (Int × MS) :=
  rg x1 (rg (gI s2 1420) (if (gI s2 1420) ≤ x1 then some (1, s2) else rdI (gA s2 20) 48 x1 (fun y6 => rdI (gA s2 72) 48 x1 (fun y7 => rg y6 (rg y7 (if y6 = y7 then lr151 (x1 + 1) s2 else some (0, s2)))))))
def m_x4_refsAre_L151 (n : Nat) : Int → MS → Option (Int × MS) := lp (fun _ _ => none) (m_x4_refsAre_b151) n
def m_x4_refsAre_b107 (lr65 : Int → MS → Option (Int × MS)) (lr107 : Int → Int → Int → MS → Option (Int × MS)) (x13 : Int) (x14 : Int) (x15 : Int) (s16 : MS) : Option (Int × MS) :=
  rg x15 (rg x14 (if x14 ≤ x15 then lr65 (x13 + 1) s16 else bn (m_x8_slot_v2 x13 x15 s16) (fun r21 => rdI (gA s16 77) 288 r21 (fun y22 => rdI (gA s16 20) 48 y22 (fun y23 => inb 48 y22 (stn (sA s16 20 (upZ (gA s16 20) (Int.toNat y22) (y23 + 1))) (fun s25 => lr107 x13 x14 (x15 + 1) s25)))))))
def m_x4_refsAre_L107 (lr65 : Int → MS → Option (Int × MS)) (n : Nat) : Int → Int → Int → MS → Option (Int × MS) := lp (fun _ _ _ _ => none) (m_x4_refsAre_b107 lr65) n
def m_x4_refsAre_J102 (lr65 : Int → MS → Option (Int × MS)) (x26 : Int) (x27 : Int) (s28 : MS) : Option (Int × MS) :=
  m_x4_refsAre_L107 lr65 FU x26 x27 0 s28
def m_x4_refsAre_J101 (lr65 : Int → MS → Option (Int × MS)) (x29 : Int) (s30 : MS) : Option (Int × MS) :=
  m_x4_refsAre_J102 lr65 x29 0 s30
def m_x4_refsAre_b65 (lr65 : Int → MS → Option (Int × MS)) (x11 : Int) (s12 : MS) : Option (Int × MS) :=
  rg x11 (rg (gI s12 1420) (if (gI s12 1420) ≤ x11 then m_x4_refsAre_L151 FU 0 s12 else rdI (gA s12 72) 48 x11 (fun y34 => rg y34 (if y34 ≤ 0 then m_x4_refsAre_J101 lr65 x11 s12 else rdI (gA s12 74) 48 x11 (fun y37 => rg y37 (if y37 ≤ 0 then m_x4_refsAre_J101 lr65 x11 s12 else rdI (gA s12 75) 48 x11 (fun y40 => m_x4_refsAre_J102 lr65 x11 y40 s12)))))))
def m_x4_refsAre_L65 (n : Nat) : Int → MS → Option (Int × MS) := lp (fun _ _ => none) (m_x4_refsAre_b65) n
def m_x4_refsAre_J56 (lr29 : Int → MS → Option (Int × MS)) (x43 : Int) (s44 : MS) : Option (Int × MS) :=
  lr29 (x43 + 1) s44
def m_x4_refsAre_b29 (lr29 : Int → MS → Option (Int × MS)) (x41 : Int) (s42 : MS) : Option (Int × MS) :=
  rg x41 (if 8 ≤ x41 then m_x4_refsAre_L65 FU 0 s42 else rdI (gA s42 78) 8 x41 (fun y47 => rg y47 (if y47 < 0 then m_x4_refsAre_J56 lr29 x41 s42 else rdI (gA s42 78) 8 x41 (fun y50 => rdI (gA s42 20) 48 y50 (fun y51 => inb 48 y50 (stn (sA s42 20 (upZ (gA s42 20) (Int.toNat y50) (y51 + 1))) (fun s53 => m_x4_refsAre_J56 lr29 x41 s53)))))))
def m_x4_refsAre_L29 (n : Nat) : Int → MS → Option (Int × MS) := lp (fun _ _ => none) (m_x4_refsAre_b29) n
def m_x4_refsAre_b3 (lr3 : Int → MS → Option (Int × MS)) (x54 : Int) (s55 : MS) : Option (Int × MS) :=
  rg x54 (rg (gI s55 1420) (if (gI s55 1420) ≤ x54 then m_x4_refsAre_L29 FU 0 s55 else inb 48 x54 (stn (sA s55 20 (upZ (gA s55 20) (Int.toNat x54) 0)) (fun s60 => lr3 (x54 + 1) s60))))
def m_x4_refsAre_L3 (n : Nat) : Int → MS → Option (Int × MS) := lp (fun _ _ => none) (m_x4_refsAre_b3) n
def m_x4_refsAre (s : MS) : Option (Int × MS) :=
  m_x4_refsAre_L3 FU 0 s
def m_x4_refsAre_v2_b151 (lr151 : Int → MS → Option (Int × MS)) (x1 : Int) (s2 : MS) : Option (Int × MS) :=
  rg x1 (rg (gI s2 1420) (if (gI s2 1420) ≤ x1 then some (1, s2) else rdI (gA s2 20) 48 x1 (fun y6 => rdI (gA s2 73) 48 x1 (fun y7 => rg y6 (rg y7 (if y6 = y7 then lr151 (x1 + 1) s2 else some (0, s2)))))))
def m_x4_refsAre_v2_L151 (n : Nat) : Int → MS → Option (Int × MS) := lp (fun _ _ => none) (m_x4_refsAre_v2_b151) n
def m_x4_refsAre_v2_b107 (lr65 : Int → MS → Option (Int × MS)) (lr107 : Int → Int → Int → MS → Option (Int × MS)) (x13 : Int) (x14 : Int) (x15 : Int) (s16 : MS) : Option (Int × MS) :=
  rg x15 (rg x14 (if x14 ≤ x15 then lr65 (x13 + 1) s16 else bn (m_x8_slot_v2 x13 x15 s16) (fun r21 => rdI (gA s16 77) 288 r21 (fun y22 => rdI (gA s16 20) 48 y22 (fun y23 => inb 48 y22 (stn (sA s16 20 (upZ (gA s16 20) (Int.toNat y22) (y23 + 1))) (fun s25 => lr107 x13 x14 (x15 + 1) s25)))))))
def m_x4_refsAre_v2_L107 (lr65 : Int → MS → Option (Int × MS)) (n : Nat) : Int → Int → Int → MS → Option (Int × MS) := lp (fun _ _ _ _ => none) (m_x4_refsAre_v2_b107 lr65) n
def m_x4_refsAre_v2_J102 (lr65 : Int → MS → Option (Int × MS)) (x26 : Int) (x27 : Int) (s28 : MS) : Option (Int × MS) :=
  m_x4_refsAre_v2_L107 lr65 FU x26 x27 0 s28
def m_x4_refsAre_v2_J101 (lr65 : Int → MS → Option (Int × MS)) (x29 : Int) (s30 : MS) : Option (Int × MS) :=
  m_x4_refsAre_v2_J102 lr65 x29 0 s30
def m_x4_refsAre_v2_b65 (lr65 : Int → MS → Option (Int × MS)) (x11 : Int) (s12 : MS) : Option (Int × MS) :=
  rg x11 (rg (gI s12 1420) (if (gI s12 1420) ≤ x11 then m_x4_refsAre_v2_L151 FU 0 s12 else rdI (gA s12 73) 48 x11 (fun y34 => rg y34 (if y34 ≤ 0 then m_x4_refsAre_v2_J101 lr65 x11 s12 else rdI (gA s12 74) 48 x11 (fun y37 => rg y37 (if y37 ≤ 0 then m_x4_refsAre_v2_J101 lr65 x11 s12 else rdI (gA s12 75) 48 x11 (fun y40 => m_x4_refsAre_v2_J102 lr65 x11 y40 s12)))))))
def m_x4_refsAre_v2_L65 (n : Nat) : Int → MS → Option (Int × MS) := lp (fun _ _ => none) (m_x4_refsAre_v2_b65) n
def m_x4_refsAre_v2_J56 (lr29 : Int → MS → Option (Int × MS)) (x43 : Int) (s44 : MS) : Option (Int × MS) :=
  lr29 (x43 + 1) s44
def m_x4_refsAre_v2_b29 (lr29 : Int → MS → Option (Int × MS)) (x41 : Int) (s42 : MS) : Option (Int × MS) :=
  rg x41 (if 8 ≤ x41 then m_x4_refsAre_v2_L65 FU 0 s42 else rdI (gA s42 79) 8 x41 (fun y47 => rg y47 (if y47 < 0 then m_x4_refsAre_v2_J56 lr29 x41 s42 else rdI (gA s42 79) 8 x41 (fun y50 => rdI (gA s42 20) 48 y50 (fun y51 => inb 48 y50 (stn (sA s42 20 (upZ (gA s42 20) (Int.toNat y50) (y51 + 1))) (fun s53 => m_x4_refsAre_v2_J56 lr29 x41 s53)))))))
def m_x4_refsAre_v2_L29 (n : Nat) : Int → MS → Option (Int × MS) := lp (fun _ _ => none) (m_x4_refsAre_v2_b29) n
def m_x4_refsAre_v2_b3 (lr3 : Int → MS → Option (Int × MS)) (x54 : Int) (s55 : MS) : Option (Int × MS) :=
  rg x54 (rg (gI s55 1420) (if (gI s55 1420) ≤ x54 then m_x4_refsAre_v2_L29 FU 0 s55 else inb 48 x54 (stn (sA s55 20 (upZ (gA s55 20) (Int.toNat x54) 0)) (fun s60 => lr3 (x54 + 1) s60))))
def m_x4_refsAre_v2_L3 (n : Nat) : Int → MS → Option (Int × MS) := lp (fun _ _ => none) (m_x4_refsAre_v2_b3) n
def m_x4_refsAre_v2 (s : MS) : Option (Int × MS) :=
  m_x4_refsAre_v2_L3 FU 0 s
def m_x4_isSound_J96 (x1 : Int) (s2 : MS) : Option (Int × MS) :=
  bo x1 (some (x1, s2))
def m_x4_isSound_J95 (s4 : MS) : Option (Int × MS) :=
  m_x4_isSound_J96 0 s4
def m_x4_isSound_J47 (lr2 : Int → MS → Option (Int × MS)) (lr10 : Int → Int → MS → Option (Int × MS)) (x10 : Int) (x11 : Int) (s12 : MS) : Option (Int × MS) :=
  lr10 x10 (x11 + 1) s12
def m_x4_isSound_b10 (lr2 : Int → MS → Option (Int × MS)) (lr10 : Int → Int → MS → Option (Int × MS)) (x7 : Int) (x8 : Int) (s9 : MS) : Option (Int × MS) :=
  rg x8 (rg (gI s9 1420) (if (gI s9 1420) ≤ x8 then lr2 (x7 + 1) s9 else bn (m_x8_isFree_v2 x8 s9) (fun r17 => rg r17 (if r17 = 0 then rdI (gA s9 74) 48 x8 (fun y20 => rg y20 (rg x7 (if y20 = x7 then bn (m_x4_isSoundBlock x8 s9) (fun qr26 => rg qr26.1 (if qr26.1 = 0 then some (0, qr26.2) else m_x4_isSound_J47 lr2 lr10 x7 x8 qr26.2)) else m_x4_isSound_J47 lr2 lr10 x7 x8 s9))) else m_x4_isSound_J47 lr2 lr10 x7 x8 s9))))
def m_x4_isSound_L10 (lr2 : Int → MS → Option (Int × MS)) (n : Nat) : Int → Int → MS → Option (Int × MS) := lp (fun _ _ _ => none) (m_x4_isSound_b10 lr2) n
def m_x4_isSound_b2 (lr2 : Int → MS → Option (Int × MS)) (x5 : Int) (s6 : MS) : Option (Int × MS) :=
  rg x5 (if 48 ≤ x5 then bn (m_x4_refsAre s6) (fun qr33 => rg qr33.1 (if qr33.1 = 0 then m_x4_isSound_J95 qr33.2 else bn (m_x4_refsAre_v2 qr33.2) (fun qr38 => rg qr38.1 (if qr38.1 = 0 then m_x4_isSound_J95 qr38.2 else m_x4_isSound_J96 1 qr38.2)))) else m_x4_isSound_L10 lr2 FU x5 0 s6)
def m_x4_isSound_L2 (n : Nat) : Int → MS → Option (Int × MS) := lp (fun _ _ => none) (m_x4_isSound_b2) n
def m_x4_isSound (s : MS) : Option (Int × MS) :=
  m_x4_isSound_L2 FU 0 s
def m_x4_next (s : MS) : Option (Int × MS) :=
  bn (m_x9_at (gI s 322) s) (fun r2 => stn (sI s 322 ((gI s 322) + 1)) (fun s3 => some (r2, s3)))
def m_x4_nextPair (s : MS) : Option (Int × MS) :=
  bn (m_x4_next s) (fun qr3 => bn (m_x4_next qr3.2) (fun qr6 => some ((qr3.1 * 256) + qr6.1, qr6.2)))
def m_x4_loadBlock_J202 (lr123 : Int → Int → Int → MS → Option (Int × MS)) (x5 : Int) (x6 : Int) (x7 : Int) (s8 : MS) : Option (Int × MS) :=
  lr123 x5 x7 (x6 + 1) s8
def m_x4_loadBlock_J201 (lr123 : Int → Int → Int → MS → Option (Int × MS)) (x9 : Int) (x10 : Int) (s11 : MS) : Option (Int × MS) :=
  m_x4_loadBlock_J202 lr123 x9 x10 0 s11
def m_x4_loadBlock_b123 (lr123 : Int → Int → Int → MS → Option (Int × MS)) (x1 : Int) (x2 : Int) (x3 : Int) (s4 : MS) : Option (Int × MS) :=
  rdI (gA s4 75) 48 x1 (fun y12 => rg x3 (rg y12 (if y12 ≤ x3 then bo x2 (some (x2, s4)) else bn (m_x4_nextPair s4) (fun qr19 => bn (m_x4_nextPair qr19.2) (fun qr22 => bn (m_x8_slot_v2 x1 x3 qr22.2) (fun r24 => inb 288 r24 (stn (sA qr22.2 76 (upZ (gA qr22.2 76) (Int.toNat r24) qr19.1)) (fun s26 => bn (m_x8_slot_v2 x1 x3 s26) (fun r28 => inb 288 r28 (stn (sA s26 77 (upZ (gA s26 77) (Int.toNat r28) qr22.1)) (fun s30 => rg x2 (if x2 = 0 then m_x4_loadBlock_J201 lr123 x1 x3 s30 else bn (m_x11_isKey qr19.1 s30) (fun r34 => rg r34 (if r34 = 0 then m_x4_loadBlock_J201 lr123 x1 x3 s30 else bn (m_x11_isKey qr22.1 s30) (fun r38 => rg r38 (if r38 = 0 then m_x4_loadBlock_J201 lr123 x1 x3 s30 else m_x4_loadBlock_J202 lr123 x1 x3 1 s30))))))))))))))))
def m_x4_loadBlock_L123 (n : Nat) : Int → Int → Int → MS → Option (Int × MS) := lp (fun _ _ _ _ => none) (m_x4_loadBlock_b123) n
def m_x4_loadBlock_J115 (s41 : MS) : Option (Int × MS) :=
  some (0, s41)
def m_x4_loadBlock_J40 (s42 : MS) : Option (Int × MS) :=
  some (0, s42)
def m_x4_loadBlock (p2 : Int) (p3 : Int) (s : MS) : Option (Int × MS) :=
  bn (m_x4_next s) (fun qr45 => inb 48 p2 (stn (sA qr45.2 72 (upZ (gA qr45.2 72) (Int.toNat p2) qr45.1)) (fun s47 => bn (m_x4_next s47) (fun qr50 => inb 48 p2 (stn (sA qr50.2 73 (upZ (gA qr50.2 73) (Int.toNat p2) qr50.1)) (fun s52 => rdI (gA s52 72) 48 p2 (fun y53 => rg y53 (if y53 < 0 then m_x4_loadBlock_J40 s52 else rdI (gA s52 73) 48 p2 (fun y56 => rg y56 (if 0 ≤ y56 then bn (m_x8_isFree_v2 p2 s52) (fun r60 => rg r60 (if r60 = 0 then bn (m_x4_next s52) (fun qr65 => inb 48 p2 (stn (sA qr65.2 74 (upZ (gA qr65.2 74) (Int.toNat p2) qr65.1)) (fun s67 => bn (m_x4_next s67) (fun qr70 => inb 48 p2 (stn (sA qr70.2 75 (upZ (gA qr70.2 75) (Int.toNat p2) qr70.1)) (fun s72 => rdI (gA s72 74) 48 p2 (fun y73 => rg y73 (if y73 < 0 then m_x4_loadBlock_J115 s72 else rdI (gA s72 74) 48 p2 (fun y76 => rg y76 (if 48 ≤ y76 then m_x4_loadBlock_J115 s72 else rdI (gA s72 75) 48 p2 (fun y79 => rg y79 (if y79 < 1 then m_x4_loadBlock_J115 s72 else rdI (gA s72 75) 48 p2 (fun y82 => rg y82 (rg p3 (if y82 ≤ p3 then m_x4_loadBlock_L123 FU p2 1 0 s72 else m_x4_loadBlock_J115 s72))))))))))))))) else some (1, s52))) else m_x4_loadBlock_J40 s52))))))))))
def m_x4_seal_v2_J35 (s : MS) (x1 : Int) : Option Int :=
  some x1
def m_x4_seal_v2_b6 (s : MS) (lr6 : Int → Int → Int → Option Int) (x2 : Int) (x3 : Int) (x4 : Int) : Option Int :=
  rg x4 (rg x2 (if x2 ≤ x4 then m_x4_seal_v2_J35 s x3 else rg x4 (if 1600 ≤ x4 then m_x4_seal_v2_J35 s x3 else rdI (gA s 4) 1600 x4 (fun y10 => dv ((3 * x3) + y10) 251 (lr6 x2 (Int.tmod ((3 * x3) + y10) 251) (x4 + 1))))))
def m_x4_seal_v2_L6 (s : MS) (n : Nat) : Int → Int → Int → Option Int := lp (fun _ _ _ => none) (m_x4_seal_v2_b6 s) n
def m_x4_seal_v2 (p1 : Int) (s : MS) : Option Int :=
  m_x4_seal_v2_L6 s FU p1 157 0
def m_x8_clear_b59 (lr59 : Int → MS → Option MS) (x1 : Int) (s2 : MS) : Option MS :=
  rg x1 (if 8 ≤ x1 then some s2 else inb 8 x1 (stn (sA s2 78 (upZ (gA s2 78) (Int.toNat x1) (-2))) (fun s6 => inb 8 x1 (stn (sA s6 79 (upZ (gA s6 79) (Int.toNat x1) (-2))) (fun s8 => lr59 (x1 + 1) s8)))))
def m_x8_clear_L59 (n : Nat) : Int → MS → Option MS := lp (fun _ _ => none) (m_x8_clear_b59) n
def m_x8_clear_b17 (lr17 : Int → MS → Option MS) (x9 : Int) (s10 : MS) : Option MS :=
  rg x9 (if 48 ≤ x9 then m_x8_clear_L59 FU 0 s10 else inb 48 x9 (stn (sA s10 72 (upZ (gA s10 72) (Int.toNat x9) 0)) (fun s14 => inb 48 x9 (stn (sA s14 73 (upZ (gA s14 73) (Int.toNat x9) 0)) (fun s16 => inb 48 x9 (stn (sA s16 74 (upZ (gA s16 74) (Int.toNat x9) 0)) (fun s18 => inb 48 x9 (stn (sA s18 75 (upZ (gA s18 75) (Int.toNat x9) 0)) (fun s20 => lr17 (x9 + 1) s20)))))))))
def m_x8_clear_L17 (n : Nat) : Int → MS → Option MS := lp (fun _ _ => none) (m_x8_clear_b17) n
def m_x8_clear (p0 : Int) (s : MS) : Option MS :=
  stn (sI s 1420 p0) (fun s21 => stn (sI s21 1421 0) (fun s22 => stn (sL s22 1422 0) (fun s23 => m_x8_clear_L17 FU 0 s23)))
def m_x4_rootOf_J22 (s : MS) (x1 : Int) : Option Int :=
  some x1
def m_x4_rootOf (p0 : Int) (s : MS) : Option Int :=
  rg p0 (if p0 = 255 then some (-2) else rg p0 (if p0 = 254 then m_x4_rootOf_J22 s (-1) else m_x4_rootOf_J22 s p0))
def m_x4_loadHead_J114 (lr39 : Int → Int → MS → Option (Int × MS)) (x4 : Int) (x5 : Int) (s6 : MS) : Option (Int × MS) :=
  lr39 x5 (x4 + 1) s6
def m_x4_loadHead_J113 (lr39 : Int → Int → MS → Option (Int × MS)) (x7 : Int) (s8 : MS) : Option (Int × MS) :=
  m_x4_loadHead_J114 lr39 x7 0 s8
def m_x4_loadHead_b39 (lr39 : Int → Int → MS → Option (Int × MS)) (x1 : Int) (x2 : Int) (s3 : MS) : Option (Int × MS) :=
  rg x2 (if 8 ≤ x2 then bo x1 (some (x1, s3)) else bn (m_x4_next s3) (fun qr14 => bn (m_x4_rootOf qr14.1 qr14.2) (fun r16 => inb 8 x2 (stn (sA qr14.2 78 (upZ (gA qr14.2 78) (Int.toNat x2) r16)) (fun s18 => bn (m_x4_next s18) (fun qr21 => bn (m_x4_rootOf qr21.1 qr21.2) (fun r23 => inb 8 x2 (stn (sA qr21.2 79 (upZ (gA qr21.2 79) (Int.toNat x2) r23)) (fun s25 => rg x1 (if x1 = 0 then m_x4_loadHead_J113 lr39 x2 s25 else rdI (gA s25 78) 8 x2 (fun y28 => rg y28 (rg (gI s25 1420) (if (gI s25 1420) ≤ y28 then m_x4_loadHead_J113 lr39 x2 s25 else rdI (gA s25 79) 8 x2 (fun y32 => rg y32 (rg (gI s25 1420) (if (gI s25 1420) ≤ y32 then m_x4_loadHead_J113 lr39 x2 s25 else m_x4_loadHead_J114 lr39 x2 1 s25))))))))))))))))
def m_x4_loadHead_L39 (n : Nat) : Int → Int → MS → Option (Int × MS) := lp (fun _ _ _ => none) (m_x4_loadHead_b39) n
def m_x4_loadHead_J34 (x36 : Int) (s37 : MS) : Option (Int × MS) :=
  m_x4_loadHead_L39 FU x36 0 s37
def m_x4_loadHead (s : MS) : Option (Int × MS) :=
  bn (m_x4_next s) (fun qr40 => bn (m_x4_nextPair qr40.2) (fun qr43 => stn (sI qr43.2 1421 ((qr40.1 * 65536) + qr43.1)) (fun s44 => rg (gI s44 1421) (if 999999 < (gI s44 1421) then m_x4_loadHead_J34 0 s44 else m_x4_loadHead_J34 1 s44))))
def m_x4_load_J108 (x1 : Int) (s2 : MS) : Option (Int × MS) :=
  bo x1 (some (x1, s2))
def m_x4_load_J107 (s4 : MS) : Option (Int × MS) :=
  m_x4_load_J108 0 s4
def m_x4_load_b59 (lr59 : Int → Int → Int → Int → MS → Option (Int × MS)) (x5 : Int) (x6 : Int) (x7 : Int) (x8 : Int) (s9 : MS) : Option (Int × MS) :=
  rg x8 (rg x5 (if x5 ≤ x8 then rg (gI s9 322) (rg x7 (if (gI s9 322) = x7 then bn (m_x4_isSound s9) (fun qr18 => rg qr18.1 (if qr18.1 = 0 then m_x4_load_J107 qr18.2 else m_x4_load_J108 1 qr18.2)) else m_x4_load_J107 s9)) else bn (m_x4_loadBlock x8 x6 s9) (fun qr23 => rg qr23.1 (if qr23.1 = 0 then some (0, qr23.2) else lr59 x5 x6 x7 (x8 + 1) qr23.2))))
def m_x4_load_L59 (n : Nat) : Int → Int → Int → Int → MS → Option (Int × MS) := lp (fun _ _ _ _ _ => none) (m_x4_load_b59) n
def m_x4_load_J33 (s26 : MS) : Option (Int × MS) :=
  some (0, s26)
def m_x4_load (p2 : Int) (p3 : Int) (s : MS) : Option (Int × MS) :=
  rg ((gI s 61) - 1) (if ((gI s 61) - 1) < 19 then m_x4_load_J33 s else bn (m_x9_at ((gI s 61) - 1) s) (fun r30 => bn (m_x4_seal_v2 ((gI s 61) - 1) s) (fun r32 => rg r30 (rg r32 (if r30 = r32 then bn (m_x8_clear p2 s) (fun s37 => stn (sI s37 322 0) (fun s38 => bn (m_x4_loadHead s38) (fun qr41 => rg qr41.1 (if qr41.1 = 0 then some (0, qr41.2) else m_x4_load_L59 FU p2 p3 ((gI s 61) - 1) 0 qr41.2)))) else m_x4_load_J33 s)))))
def m_x11_on_J47 (x1 : Int) (s2 : MS) : Option (Int × MS) :=
  stn (sI s2 61 0) (fun s3 => rg x1 (if x1 = 0 then bn (m_x11_refuse 5 s3) (fun qr12 => some (0, qr12.2)) else bn (m_x8_become_v4 s3) (fun s7 => bn (m_x2_clear s7) (fun s9 => some (1, s9)))))
def m_x11_on_J46 (s13 : MS) : Option (Int × MS) :=
  m_x11_on_J47 0 s13
def m_x11_on (s : MS) : Option (Int × MS) :=
  rg (gI s 12) (if (gI s 12) = 0 then m_x11_on_J46 s else bn (m_x4_load (gI s 580) (gI s 581) s) (fun qr18 => rg qr18.1 (if qr18.1 = 0 then m_x11_on_J46 qr18.2 else m_x11_on_J47 1 qr18.2)))
def m_x11_status_J20 (s : MS) (x1 : Int) : Option Int :=
  some x1
def m_x11_status_J19 (s : MS) (_u : Unit) : Option Int :=
  m_x11_status_J20 s (-1)
def m_x11_status (p0 : Int) (s : MS) : Option Int :=
  rg p0 (if p0 < 0 then m_x11_status_J19 s () else rg p0 (if 6 ≤ p0 then m_x11_status_J19 s () else rdI (gA s 2) 6 p0 (fun y6 => m_x11_status_J20 s y6)))
def m_x5_addChange_J60 (s1 : MS) : Option MS :=
  some s1
def m_x5_addChange (p0 : Int) (p1 : Int) (p2 : Int) (p3 : Int) (s : MS) : Option MS :=
  rg (gI s 785) (if 60 ≤ (gI s 785) then m_x5_addChange_J60 s else inb 60 (gI s 785) (stn (sA s 41 (upZ (gA s 41) (Int.toNat (gI s 785)) p0)) (fun s5 => inb 60 (gI s5 785) (stn (sA s5 42 (upZ (gA s5 42) (Int.toNat (gI s5 785)) p1)) (fun s7 => inb 60 (gI s7 785) (stn (sA s7 43 (upZ (gA s7 43) (Int.toNat (gI s7 785)) p2)) (fun s9 => inb 60 (gI s9 785) (stn (sA s9 44 (upZ (gA s9 44) (Int.toNat (gI s9 785)) p3)) (fun s11 => stn (sI s11 785 ((gI s11 785) + 1)) (fun s12 => m_x5_addChange_J60 s12))))))))))
def m_x6_isName_J69 (x1 : Int) (s2 : MS) : Option (Int × MS) :=
  bo x1 (some (x1, s2))
def m_x6_isName_J64 (s4 : MS) : Option (Int × MS) :=
  m_x6_isName_J69 1 s4
def m_x6_isName_J35 (s5 : MS) : Option (Int × MS) :=
  rg ((gI s5 109) - (gI s5 108)) (if ((gI s5 109) - (gI s5 108)) ≤ 6 then m_x6_isName_J64 s5 else bn (m_x6_fail 1 ((gI s5 108) + 6) s5) (fun qr10 => rg qr10.1 (if qr10.1 = 0 then m_x6_isName_J69 0 qr10.2 else m_x6_isName_J64 qr10.2)))
def m_x6_isName_J25 (s13 : MS) : Option (Int × MS) :=
  bn (m_x6_fail 1 (gI s13 108) s13) (fun qr16 => bo qr16.1 (some (qr16.1, qr16.2)))
def m_x6_isName (s : MS) : Option (Int × MS) :=
  rg (gI s 107) (if (gI s 107) = 1 then rg (gI s 110) (if (gI s 110) = (-1) then m_x6_isName_J35 s else rg (gI s 110) (if 27 ≤ (gI s 110) then m_x6_isName_J35 s else m_x6_isName_J25 s)) else m_x6_isName_J25 s)
def m_x5_letterAt_J19 (s : MS) (x1 : Int) : Option Int :=
  some x1
def m_x5_letterAt (p1 : Int) (p2 : Int) (s : MS) : Option Int :=
  rg p1 (rg p2 (if p2 ≤ p1 then m_x5_letterAt_J19 s 0 else bn (m_x9_at p1 s) (fun r6 => m_x5_letterAt_J19 s ((r6 - 97) + 1))))
def m_x5_volumeNamed_J60 (s : MS) (lr3 : Int → Int → Int → Option Int) (lr18 : Int → Int → Int → Int → Int → Option Int) (x9 : Int) (x10 : Int) (x11 : Int) (x12 : Int) (x13 : Int) : Option Int :=
  lr18 x9 x10 x11 x13 (x12 + 1)
def m_x5_volumeNamed_J59 (s : MS) (lr3 : Int → Int → Int → Option Int) (lr18 : Int → Int → Int → Int → Int → Option Int) (x14 : Int) (x15 : Int) (x16 : Int) (x17 : Int) : Option Int :=
  m_x5_volumeNamed_J60 s lr3 lr18 x14 x15 x16 x17 0
def m_x5_volumeNamed_b18 (s : MS) (lr3 : Int → Int → Int → Option Int) (lr18 : Int → Int → Int → Int → Int → Option Int) (x4 : Int) (x5 : Int) (x6 : Int) (x7 : Int) (x8 : Int) : Option Int :=
  rg x8 (if 6 ≤ x8 then rg x7 (if x7 = 0 then lr3 x4 x5 (x6 + 1) else some x6) else rg x7 (if x7 = 0 then m_x5_volumeNamed_J59 s lr3 lr18 x4 x5 x6 x8 else rdI (gA s 40) 48 ((x6 * 6) + x8) (fun y24 => bn (m_x5_letterAt (x4 + x8) x5 s) (fun r26 => rg y24 (rg r26 (if y24 = r26 then m_x5_volumeNamed_J60 s lr3 lr18 x4 x5 x6 x8 1 else m_x5_volumeNamed_J59 s lr3 lr18 x4 x5 x6 x8))))))
def m_x5_volumeNamed_L18 (s : MS) (lr3 : Int → Int → Int → Option Int) (n : Nat) : Int → Int → Int → Int → Int → Option Int := lp (fun _ _ _ _ _ => none) (m_x5_volumeNamed_b18 s lr3) n
def m_x5_volumeNamed_b3 (s : MS) (lr3 : Int → Int → Int → Option Int) (x1 : Int) (x2 : Int) (x3 : Int) : Option Int :=
  rg x3 (rg (gI s 784) (if (gI s 784) ≤ x3 then some (-1) else m_x5_volumeNamed_L18 s lr3 FU x1 x2 x3 1 0))
def m_x5_volumeNamed_L3 (s : MS) (n : Nat) : Int → Int → Int → Option Int := lp (fun _ _ _ => none) (m_x5_volumeNamed_b3 s) n
def m_x5_volumeNamed (p1 : Int) (p2 : Int) (s : MS) : Option Int :=
  m_x5_volumeNamed_L3 s FU p1 p2 0
def m_x6_expectVolume_J41 (x1 : Int) (s2 : MS) : Option (Int × MS) :=
  bn (m_x6_advance s2) (fun s4 => some (x1, s4))
def m_x6_expectVolume (s : MS) : Option (Int × MS) :=
  bn (m_x6_isName s) (fun qr7 => rg qr7.1 (if qr7.1 = 0 then some ((-1), qr7.2) else bn (m_x5_volumeNamed (gI qr7.2 108) (gI qr7.2 109) qr7.2) (fun r11 => rg r11 (if r11 = (-1) then bn (m_x6_fail 3 (gI qr7.2 108) qr7.2) (fun qr16 => m_x6_expectVolume_J41 r11 qr16.2) else m_x6_expectVolume_J41 r11 qr7.2))))
def m_x6_readChange_J37 (x1 : Int) (x2 : Int) (x3 : Int) (x4 : Int) (s5 : MS) : Option MS :=
  bn (m_x5_addChange x1 x2 x3 x4 s5) (fun s7 => some s7)
def m_x6_readChange (p1 : Int) (s : MS) : Option MS :=
  bn (m_x6_advance s) (fun s9 => bn (m_x6_expectVolume s9) (fun qr12 => bn (m_x6_expectNumber 0 999 qr12.2) (fun qr15 => rg p1 (if p1 = 5 then bn (m_x6_expectNumber 0 999 qr15.2) (fun qr20 => m_x6_readChange_J37 p1 qr12.1 qr15.1 qr20.1 qr20.2) else m_x6_readChange_J37 p1 qr12.1 qr15.1 0 qr15.2))))
def m_x5_addVolume_b14 (lr14 : Int → Int → Int → MS → Option (Int × MS)) (x1 : Int) (x2 : Int) (x3 : Int) (s4 : MS) : Option (Int × MS) :=
  rg x3 (if 6 ≤ x3 then stn (sI s4 784 ((gI s4 784) + 1)) (fun s7 => some ((gI s7 784) - 1, s7)) else bn (m_x5_letterAt (x1 + x3) x2 s4) (fun r9 => inb 48 (((gI s4 784) * 6) + x3) (stn (sA s4 40 (upZ (gA s4 40) (Int.toNat (((gI s4 784) * 6) + x3)) r9)) (fun s11 => lr14 x1 x2 (x3 + 1) s11))))
def m_x5_addVolume_L14 (n : Nat) : Int → Int → Int → MS → Option (Int × MS) := lp (fun _ _ _ _ => none) (m_x5_addVolume_b14) n
def m_x5_addVolume (p1 : Int) (p2 : Int) (s : MS) : Option (Int × MS) :=
  rg (gI s 784) (if (gI s 784) < 8 then m_x5_addVolume_L14 FU p1 p2 0 s else some ((-1), s))
def m_x6_expectWord_J25 (s1 : MS) : Option MS :=
  some s1
def m_x6_expectWord (p0 : Int) (s : MS) : Option MS :=
  bn (m_x6_isWord p0 s) (fun r3 => rg r3 (if r3 = 0 then bn (m_x6_fail 1 (gI s 108) s) (fun qr8 => m_x6_expectWord_J25 qr8.2) else bn (m_x6_advance s) (fun s10 => m_x6_expectWord_J25 s10)))
def m_x6_readVolume_J96 (x1 : Int) (x2 : Int) (x3 : Int) (x4 : Int) (s5 : MS) : Option MS :=
  bn (m_x5_addVolume x2 x3 s5) (fun qr8 => bn (m_x5_addChange x1 qr8.1 x4 0 qr8.2) (fun s10 => some s10))
def m_x6_readVolume_J61 (x11 : Int) (s12 : MS) : Option MS :=
  bn (m_x6_advance s12) (fun s14 => rg x11 (if x11 = 3 then bn (m_x6_expectWord 4 s14) (fun s18 => bn (m_x6_expectVolume s18) (fun qr21 => m_x6_readVolume_J96 x11 (gI s12 108) (gI s12 109) qr21.1 qr21.2)) else m_x6_readVolume_J96 x11 (gI s12 108) (gI s12 109) (-1) s14))
def m_x6_readVolume_J19 (x22 : Int) (s23 : MS) : Option MS :=
  bn (m_x6_advance s23) (fun s25 => bn (m_x6_isName s25) (fun qr28 => rg qr28.1 (if qr28.1 = 0 then some qr28.2 else bn (m_x5_volumeNamed (gI qr28.2 108) (gI qr28.2 109) qr28.2) (fun r32 => rg r32 (if r32 = (-1) then m_x6_readVolume_J61 x22 qr28.2 else bn (m_x6_fail 3 (gI qr28.2 108) qr28.2) (fun qr37 => m_x6_readVolume_J61 x22 qr37.2))))))
def m_x6_readVolume (p1 : Int) (s : MS) : Option MS :=
  rg (gI s 784) (if (gI s 784) = 8 then bn (m_x6_fail 5 (gI s 108) s) (fun qr42 => m_x6_readVolume_J19 p1 qr42.2) else m_x6_readVolume_J19 p1 s)
def m_x6_readBlocks (s : MS) : Option MS :=
  bn (m_x6_advance s) (fun s2 => bn (m_x6_expectNumber 8 48 s2) (fun qr5 => stn (sI qr5.2 780 qr5.1) (fun s6 => bn (m_x6_expectWord 1 s6) (fun s8 => bn (m_x6_expectNumber 3 6 s8) (fun qr11 => stn (sI qr11.2 781 qr11.1) (fun s12 => some s12))))))
def m_x6_beginFormula_J20 (x1 : Int) (s2 : MS) : Option MS :=
  bn (m_x6_advance s2) (fun s4 => stn (sI s4 105 x1) (fun s5 => eqg (gI s5 9999) 2 (inb 3 x1 (stn (sA s5 45 (upZ (gA s5 45) (Int.toNat x1) (gI s5 941))) (fun s8 => some s8)))))
def m_x6_beginFormula (p1 : Int) (s : MS) : Option MS :=
  rdI (gA s 45) 3 p1 (fun y9 => rg y9 (if y9 = (-1) then m_x6_beginFormula_J20 p1 s else bn (m_x6_fail 5 (gI s 108) s) (fun qr14 => m_x6_beginFormula_J20 p1 qr14.2)))
def m_x6_readStatement_J244 (s1 : MS) : Option MS :=
  bn (m_x6_expectSign 59 s1) (fun s3 => stn (sI s3 783 ((gI s3 783) + 1)) (fun s4 => some s4))
def m_x6_readStatement_J234 (s5 : MS) : Option MS :=
  bn (m_x6_fail 1 (gI s5 108) s5) (fun qr8 => m_x6_readStatement_J244 qr8.2)
def m_x6_readStatement_J129 (x9 : Int) (s10 : MS) : Option MS :=
  bn (m_x6_readChange x9 s10) (fun s12 => m_x6_readStatement_J244 s12)
def m_x6_readStatement_J120 (x13 : Int) (s14 : MS) : Option MS :=
  bn (m_x6_readVolume x13 s14) (fun s16 => m_x6_readStatement_J244 s16)
def m_x6_readStatement_J40 (x17 : Int) (x18 : Int) (x19 : Int) (s20 : MS) : Option MS :=
  rg x19 (rg x18 (if x19 = x18 then rg x17 (if x17 = 0 then bn (m_x6_readBlocks s20) (fun s27 => m_x6_readStatement_J244 s27) else if x17 = 1 then m_x6_readStatement_J234 s20 else if x17 = 2 then m_x6_readStatement_J120 x17 s20 else if x17 = 3 then m_x6_readStatement_J120 x17 s20 else if x17 = 4 then m_x6_readStatement_J234 s20 else if x17 = 5 then m_x6_readStatement_J129 x17 s20 else if x17 = 6 then m_x6_readStatement_J129 x17 s20 else if x17 = 7 then bn (m_x6_beginFormula 0 s20) (fun s36 => bn (m_x6_readSumC s36) (fun s38 => eqg (gI s38 9999) 2 (inb 3 0 (stn (sA s38 46 (upZ (gA s38 46) (Int.toNat 0) (gI s38 941))) (fun s41 => m_x6_readStatement_J244 s41))))) else if x17 = 8 then bn (m_x6_beginFormula 1 s20) (fun s44 => bn (m_x6_readTestC s44) (fun s46 => eqg (gI s46 9999) 2 (inb 3 1 (stn (sA s46 46 (upZ (gA s46 46) (Int.toNat 1) (gI s46 941))) (fun s49 => m_x6_readStatement_J244 s49))))) else if x17 = 9 then bn (m_x6_beginFormula 2 s20) (fun s52 => bn (m_x6_readSumC s52) (fun s54 => eqg (gI s54 9999) 2 (inb 3 2 (stn (sA s54 46 (upZ (gA s54 46) (Int.toNat 2) (gI s54 941))) (fun s57 => m_x6_readStatement_J244 s57))))) else if x17 = 10 then bn (m_x6_advance s20) (fun s60 => bn (m_x6_expectNumber 0 100 s60) (fun qr63 => stn (sI qr63.2 782 qr63.1) (fun s64 => m_x6_readStatement_J244 s64))) else m_x6_readStatement_J234 s20) else bn (m_x6_fail 1 (gI s20 108) s20) (fun qr67 => some qr67.2)))
def m_x6_readStatement_J29 (x68 : Int) (x69 : Int) (s70 : MS) : Option MS :=
  rg x68 (if x68 = 0 then m_x6_readStatement_J40 x68 1 x69 s70 else m_x6_readStatement_J40 x68 0 x69 s70)
def m_x6_readStatement_J16 (x73 : Int) (s74 : MS) : Option MS :=
  rg (gI s74 783) (if (gI s74 783) = 0 then m_x6_readStatement_J29 x73 1 s74 else m_x6_readStatement_J29 x73 0 s74)
def m_x6_readStatement (s : MS) : Option MS :=
  rg (gI s 107) (if (gI s 107) = 1 then m_x6_readStatement_J16 (gI s 110) s else m_x6_readStatement_J16 (-1) s)
def m_x5_clear_b30 (lr30 : Int → MS → Option MS) (x1 : Int) (s2 : MS) : Option MS :=
  rg x1 (if 3 ≤ x1 then some s2 else inb 3 x1 (stn (sA s2 45 (upZ (gA s2 45) (Int.toNat x1) (-1))) (fun s6 => inb 3 x1 (stn (sA s6 46 (upZ (gA s6 46) (Int.toNat x1) (-1))) (fun s8 => lr30 (x1 + 1) s8)))))
def m_x5_clear_L30 (n : Nat) : Int → MS → Option MS := lp (fun _ _ => none) (m_x5_clear_b30) n
def m_x5_clear (s : MS) : Option MS :=
  stn (sI s 783 0) (fun s9 => stn (sI s9 784 0) (fun s10 => stn (sI s10 785 0) (fun s11 => stn (sI s11 782 0) (fun s12 => stn (sI s12 941 0) (fun s13 => m_x5_clear_L30 FU 0 s13)))))
def m_x6_readStore_J87 (x1 : Int) (s2 : MS) : Option (Int × MS) :=
  bo x1 (some (x1, s2))
def m_x6_readStore_J75 (s4 : MS) : Option (Int × MS) :=
  rg (gI s4 100) (if (gI s4 100) = 0 then m_x6_readStore_J87 1 s4 else m_x6_readStore_J87 0 s4)
def m_x6_readStore_J38 (s7 : MS) : Option (Int × MS) :=
  rg (gI s7 107) (if (gI s7 107) = 0 then rg (gI s7 783) (if (gI s7 783) = 0 then bn (m_x6_fail 1 (gI s7 108) s7) (fun qr14 => m_x6_readStore_J75 qr14.2) else m_x6_readStore_J75 s7) else bn (m_x6_fail 5 (gI s7 108) s7) (fun qr17 => m_x6_readStore_J75 qr17.2))
def m_x6_readStore_b14 (lr14 : Int → MS → Option (Int × MS)) (x18 : Int) (s19 : MS) : Option (Int × MS) :=
  rg x18 (if 60 ≤ x18 then m_x6_readStore_J38 s19 else rg (gI s19 107) (if (gI s19 107) = 0 then m_x6_readStore_J38 s19 else bn (m_x6_readStatement s19) (fun s25 => lr14 (x18 + 1) s25)))
def m_x6_readStore_L14 (n : Nat) : Int → MS → Option (Int × MS) := lp (fun _ _ => none) (m_x6_readStore_b14) n
def m_x6_readStore (s : MS) : Option (Int × MS) :=
  bn (m_x5_clear s) (fun s27 => bn (m_x6_begin s27) (fun s29 => m_x6_readStore_L14 FU 0 s29))
def m_x12_isIn_J18 (s : MS) (x1 : Int) : Option Int :=
  bo x1 (some x1)
def m_x12_isIn_J17 (s : MS) (_u : Unit) : Option Int :=
  m_x12_isIn_J18 s 0
def m_x12_isIn (p0 : Int) (p1 : Int) (p2 : Int) (s : MS) : Option Int :=
  rgL p0 (rgL p1 (if p0 < p1 then m_x12_isIn_J17 s () else rgL p0 (rgL p2 (if p2 < p0 then m_x12_isIn_J17 s () else m_x12_isIn_J18 s 1))))
def m_x12_clamp_J25 (s : MS) (x1 : Int) : Option Int :=
  some x1
def m_x12_clamp (p0 : Int) (s : MS) : Option Int :=
  rgL p0 (if 0 ≤ p0 then rgL p0 (if p0 ≤ 99 then m_x12_clamp_J25 s p0 else m_x12_clamp_J25 s 99) else m_x12_clamp_J25 s 0)
def m_x12_feed_J81 (lr28 : Int → Int → Int → Int → Int → Int → MS → Option (Int × MS)) (x8 : Int) (x9 : Int) (x10 : Int) (x11 : Int) (x12 : Int) (x13 : Int) (x14 : Int) (s15 : MS) : Option (Int × MS) :=
  dv x13 4 (inb 1600 (gI s15 1) (stn (sA s15 0 (upZ (gA s15 0) (Int.toNat (gI s15 1)) (andZ (shrZ x14 (8 * (3 - (Int.tmod x13 4)))) 255))) (fun s18 => stn (sI s18 1 ((gI s18 1) + 1)) (fun s19 => lr28 x8 x9 x10 x11 x12 (x13 + 1) s19))))
def m_x12_feed_b28 (lr28 : Int → Int → Int → Int → Int → Int → MS → Option (Int × MS)) (x1 : Int) (x2 : Int) (x3 : Int) (x4 : Int) (x5 : Int) (x6 : Int) (s7 : MS) : Option (Int × MS) :=
  rg x6 (if 20 ≤ x6 then some (gI s7 1, s7) else rg x6 (if 4 ≤ x6 then rg x6 (if 8 ≤ x6 then rg x6 (if 12 ≤ x6 then rg x6 (if 16 ≤ x6 then m_x12_feed_J81 lr28 x1 x2 x3 x4 x5 x6 x5 s7 else m_x12_feed_J81 lr28 x1 x2 x3 x4 x5 x6 x4 s7) else m_x12_feed_J81 lr28 x1 x2 x3 x4 x5 x6 x3 s7) else m_x12_feed_J81 lr28 x1 x2 x3 x4 x5 x6 x2 s7) else m_x12_feed_J81 lr28 x1 x2 x3 x4 x5 x6 x1 s7))
def m_x12_feed_L28 (n : Nat) : Int → Int → Int → Int → Int → Int → MS → Option (Int × MS) := lp (fun _ _ _ _ _ _ _ => none) (m_x12_feed_b28) n
def m_x12_feed (p0 : Int) (p1 : Int) (p2 : Int) (p3 : Int) (p4 : Int) (s : MS) : Option (Int × MS) :=
  rg ((gI s 1) + 20) (if ((gI s 1) + 20) ≤ 1600 then m_x12_feed_L28 FU p0 p1 p2 p3 p4 0 s else rdI (gA s 9) 6 0 (fun y32 => inb 6 0 (stn (sA s 9 (upZ (gA s 9) (Int.toNat 0) (y32 + 1))) (fun s34 => some ((-1), s34)))))
def m_x12_end_J12 (s1 : MS) : Option (Int × MS) :=
  rdI (gA s1 9) 6 0 (fun y2 => inb 6 0 (stn (sA s1 9 (upZ (gA s1 9) (Int.toNat 0) (y2 + 1))) (fun s4 => some (0, s4))))
def m_x12_end (p0 : Int) (s : MS) : Option (Int × MS) :=
  rg p0 (if p0 < 0 then m_x12_end_J12 s else rg p0 (rg (gI s 1) (if p0 ≤ (gI s 1) then stn (sI s 1 p0) (fun s10 => some (1, s10)) else m_x12_end_J12 s)))
def m_x12_fail (p0 : Int) (p1 : Int) (s : MS) : Option MS :=
  rg (gI s 5) (if (gI s 5) = 0 then stn (sI s 5 p0) (fun s3 => stn (sI s3 6 p1) (fun s4 => some s4)) else some s)
def m_x12_isLetter_J17 (s : MS) (x1 : Int) : Option Int :=
  bo x1 (some x1)
def m_x12_isLetter_J16 (s : MS) (_u : Unit) : Option Int :=
  m_x12_isLetter_J17 s 0
def m_x12_isLetter (p0 : Int) (s : MS) : Option Int :=
  rg p0 (if p0 < 97 then m_x12_isLetter_J16 s () else rg p0 (if 122 < p0 then m_x12_isLetter_J16 s () else m_x12_isLetter_J17 s 1))
def m_x12_isDigit_J17 (s : MS) (x1 : Int) : Option Int :=
  bo x1 (some x1)
def m_x12_isDigit_J16 (s : MS) (_u : Unit) : Option Int :=
  m_x12_isDigit_J17 s 0
def m_x12_isDigit (p0 : Int) (s : MS) : Option Int :=
  rg p0 (if p0 < 48 then m_x12_isDigit_J16 s () else rg p0 (if 57 < p0 then m_x12_isDigit_J16 s () else m_x12_isDigit_J17 s 1))
def m_x12_look_J76 (x1 : Int) (s2 : MS) : Option (Int × MS) :=
  some (x1, s2)
def m_x12_look_J52 (s3 : MS) : Option (Int × MS) :=
  rg (gI s3 2) (rg (gI s3 3) (if (gI s3 3) ≤ (gI s3 2) then m_x12_look_J76 (-1) s3 else rdI (gA s3 0) 1600 (gI s3 2) (fun y7 => m_x12_look_J76 y7 s3)))
def m_x12_look_J39 (lr0 : MS → Option (Int × MS)) (s9 : MS) : Option (Int × MS) :=
  stn (sI s9 2 ((gI s9 2) + 1)) (fun s10 => lr0 s10)
def m_x12_look_b0 (lr0 : MS → Option (Int × MS)) (s8 : MS) : Option (Int × MS) :=
  rg (gI s8 2) (rg (gI s8 3) (if (gI s8 3) ≤ (gI s8 2) then m_x12_look_J52 s8 else rdI (gA s8 0) 1600 (gI s8 2) (fun y14 => rg y14 (if y14 = 10 then m_x12_look_J39 lr0 s8 else rdI (gA s8 0) 1600 (gI s8 2) (fun y17 => rg y17 (if y17 = 32 then m_x12_look_J39 lr0 s8 else m_x12_look_J52 s8))))))
def m_x12_look_L0 (n : Nat) : MS → Option (Int × MS) := lp (fun _ => none) (m_x12_look_b0) n
def m_x12_look (s : MS) : Option (Int × MS) :=
  m_x12_look_L0 FU s
def m_x12_isHere_b76 (wid wn : Nat) (lr76 : Int → MS → Option (Int × MS)) (x1 : Int) (s2 : MS) : Option (Int × MS) :=
  rg x1 (rg (wn : Int) (if (wn : Int) ≤ x1 then some (1, s2) else rdI (gA s2 0) 1600 ((gI s2 2) + x1) (fun y6 => rdI (gA s2 wid) wn x1 (fun y7 => rg y6 (rg y7 (if y6 = y7 then lr76 (x1 + 1) s2 else some (0, s2)))))))
def m_x12_isHere_L76 (wid wn : Nat) (n : Nat) : Int → MS → Option (Int × MS) := lp (fun _ _ => none) (m_x12_isHere_b76 wid wn) n
def m_x12_isHere_J61 (wid wn : Nat) (x11 : Int) (s12 : MS) : Option (Int × MS) :=
  rg (x11 - (gI s12 2)) (rg (wn : Int) (if (x11 - (gI s12 2)) = (wn : Int) then m_x12_isHere_L76 wid wn FU 0 s12 else some (0, s12)))
def m_x12_isHere_b35 (wid wn : Nat) (lr35 : Int → MS → Option (Int × MS)) (x16 : Int) (s17 : MS) : Option (Int × MS) :=
  rg x16 (rg (gI s17 3) (if (gI s17 3) ≤ x16 then m_x12_isHere_J61 wid wn x16 s17 else rdI (gA s17 0) 1600 x16 (fun y21 => bn (m_x12_isLetter y21 s17) (fun r23 => rg r23 (if r23 = 0 then m_x12_isHere_J61 wid wn x16 s17 else lr35 (x16 + 1) s17)))))
def m_x12_isHere_L35 (wid wn : Nat) (n : Nat) : Int → MS → Option (Int × MS) := lp (fun _ _ => none) (m_x12_isHere_b35 wid wn) n
def m_x12_isHere_J28 (wid wn : Nat) (s26 : MS) : Option (Int × MS) :=
  some (0, s26)
def m_x12_isHere (wid wn : Nat) (s : MS) : Option (Int × MS) :=
  rg (gI s 5) (if (gI s 5) = 0 then bn (m_x12_look s) (fun qr31 => bn (m_x12_isLetter qr31.1 qr31.2) (fun r33 => rg r33 (if r33 = 0 then m_x12_isHere_J28 wid wn qr31.2 else rg (gI qr31.2 2) (rg (gI qr31.2 4) (if (gI qr31.2 2) = (gI qr31.2 4) then m_x12_isHere_J28 wid wn qr31.2 else m_x12_isHere_L35 wid wn FU (gI qr31.2 2) qr31.2))))) else m_x12_isHere_J28 wid wn s)
def m_x12_takes (wid wn : Nat) (s : MS) : Option (Int × MS) :=
  bn (m_x12_isHere wid wn s) (fun qr3 => rg qr3.1 (if qr3.1 = 0 then some (0, qr3.2) else stn (sI qr3.2 2 ((gI qr3.2 2) + (wn : Int))) (fun s6 => stn (sI s6 4 (gI s6 2)) (fun s7 => some (1, s7)))))
def m_x12_asks_J24 (wid wn : Nat) (s1 : MS) : Option MS :=
  some s1
def m_x12_asks (wid wn : Nat) (s : MS) : Option MS :=
  rg (gI s 5) (if (gI s 5) = 0 then bn (m_x12_takes wid wn s) (fun qr6 => rg qr6.1 (if qr6.1 = 0 then bn (m_x12_fail 1 (gI qr6.2 2) qr6.2) (fun s10 => m_x12_asks_J24 wid wn s10) else m_x12_asks_J24 wid wn qr6.2)) else m_x12_asks_J24 wid wn s)
def m_x12_takesSign_J15 (s1 : MS) : Option (Int × MS) :=
  some (0, s1)
def m_x12_takesSign (p0 : Int) (s : MS) : Option (Int × MS) :=
  rg (gI s 5) (if (gI s 5) = 0 then bn (m_x12_look s) (fun qr6 => rg qr6.1 (rg p0 (if qr6.1 = p0 then stn (sI qr6.2 2 ((gI qr6.2 2) + 1)) (fun s10 => some (1, s10)) else m_x12_takesSign_J15 qr6.2))) else m_x12_takesSign_J15 s)
def m_x12_asksSign_J24 (s1 : MS) : Option MS :=
  some s1
def m_x12_asksSign (p0 : Int) (s : MS) : Option MS :=
  rg (gI s 5) (if (gI s 5) = 0 then bn (m_x12_takesSign p0 s) (fun qr6 => rg qr6.1 (if qr6.1 = 0 then bn (m_x12_fail 1 (gI qr6.2 2) qr6.2) (fun s10 => m_x12_asksSign_J24 s10) else m_x12_asksSign_J24 qr6.2)) else m_x12_asksSign_J24 s)
def m_x12_number_J164 (x1 : Int) (s2 : MS) : Option (Int × MS) :=
  some (x1, s2)
def m_x12_number_J129 (x3 : Int) (x4 : Int) (x5 : Int) (x6 : Int) (s7 : MS) : Option (Int × MS) :=
  stn (sI s7 4 (gI s7 2)) (fun s8 => stn (sI s8 10 x5) (fun s9 => rg x6 (rg x3 (rg x4 (bn (m_x12_isIn x6 x3 x4 s9) (fun r14 => rg r14 (if r14 = 0 then bn (m_x12_fail 2 (gI s9 10) s9) (fun s18 => m_x12_number_J164 x6 s18) else m_x12_number_J164 x6 s9)))))))
def m_x12_number_b49 (lr49 : Int → Int → Int → Int → MS → Option (Int × MS)) (x19 : Int) (x20 : Int) (x21 : Int) (x22 : Int) (s23 : MS) : Option (Int × MS) :=
  rg (gI s23 2) (rg (gI s23 3) (if (gI s23 3) ≤ (gI s23 2) then m_x12_number_J129 x19 x20 x21 x22 s23 else rdI (gA s23 0) 1600 (gI s23 2) (fun y27 => bn (m_x12_isDigit y27 s23) (fun r29 => rg r29 (if r29 = 0 then m_x12_number_J129 x19 x20 x21 x22 s23 else rg ((gI s23 2) - x21) (if ((gI s23 2) - x21) = 4 then bn (m_x12_fail 1 (gI s23 2) s23) (fun s37 => some (0, s37)) else rdI (gA s23 0) 1600 (gI s23 2) (fun y34 => stn (sI s23 2 ((gI s23 2) + 1)) (fun s35 => lr49 x19 x20 x21 (((10 * x22) + y34) - 48) s35))))))))
def m_x12_number_L49 (n : Nat) : Int → Int → Int → Int → MS → Option (Int × MS) := lp (fun _ _ _ _ _ => none) (m_x12_number_b49) n
def m_x12_number_J30 (s38 : MS) : Option (Int × MS) :=
  bn (m_x12_fail 1 (gI s38 2) s38) (fun s40 => some (0, s40))
def m_x12_number (p0 : Int) (p1 : Int) (s : MS) : Option (Int × MS) :=
  rg (gI s 5) (if (gI s 5) = 0 then bn (m_x12_look s) (fun qr45 => bn (m_x12_isDigit qr45.1 qr45.2) (fun r47 => rg r47 (if r47 = 0 then m_x12_number_J30 qr45.2 else rg (gI qr45.2 2) (rg (gI qr45.2 4) (if (gI qr45.2 2) = (gI qr45.2 4) then m_x12_number_J30 qr45.2 else m_x12_number_L49 FU p0 p1 (gI qr45.2 2) 0 qr45.2))))) else some (0, s))
def m_x12_isOwnHere_J342 (x1 : Int) (s2 : MS) : Option (Int × MS) :=
  bo x1 (some (x1, s2))
def m_x12_isOwnHere_J337 (s4 : MS) : Option (Int × MS) :=
  m_x12_isOwnHere_J342 1 s4
def m_x12_isOwnHere_J299 (x5 : Int) (s6 : MS) : Option (Int × MS) :=
  rg x5 (if x5 = 0 then bn (m_x12_isHere 35 3 s6) (fun qr11 => rg qr11.1 (if qr11.1 = 0 then bn (m_x12_isHere 36 3 qr11.2) (fun qr16 => rg qr16.1 (if qr16.1 = 0 then bn (m_x12_isHere 37 3 qr16.2) (fun qr21 => rg qr21.1 (if qr21.1 = 0 then m_x12_isOwnHere_J342 0 qr21.2 else m_x12_isOwnHere_J337 qr21.2)) else m_x12_isOwnHere_J337 qr16.2)) else m_x12_isOwnHere_J337 qr11.2)) else m_x12_isOwnHere_J337 s6)
def m_x12_isOwnHere_J294 (s24 : MS) : Option (Int × MS) :=
  m_x12_isOwnHere_J299 1 s24
def m_x12_isOwnHere_J223 (x25 : Int) (s26 : MS) : Option (Int × MS) :=
  rg x25 (if x25 = 0 then bn (m_x12_isHere 29 5 s26) (fun qr31 => rg qr31.1 (if qr31.1 = 0 then bn (m_x12_isHere 30 4 qr31.2) (fun qr36 => rg qr36.1 (if qr36.1 = 0 then bn (m_x12_isHere 31 3 qr36.2) (fun qr41 => rg qr41.1 (if qr41.1 = 0 then bn (m_x12_isHere 32 2 qr41.2) (fun qr46 => rg qr46.1 (if qr46.1 = 0 then bn (m_x12_isHere 33 3 qr46.2) (fun qr51 => rg qr51.1 (if qr51.1 = 0 then bn (m_x12_isHere 34 3 qr51.2) (fun qr56 => rg qr56.1 (if qr56.1 = 0 then m_x12_isOwnHere_J299 0 qr56.2 else m_x12_isOwnHere_J294 qr56.2)) else m_x12_isOwnHere_J294 qr51.2)) else m_x12_isOwnHere_J294 qr46.2)) else m_x12_isOwnHere_J294 qr41.2)) else m_x12_isOwnHere_J294 qr36.2)) else m_x12_isOwnHere_J294 qr31.2)) else m_x12_isOwnHere_J294 s26)
def m_x12_isOwnHere_J218 (s59 : MS) : Option (Int × MS) :=
  m_x12_isOwnHere_J223 1 s59
def m_x12_isOwnHere_J147 (x60 : Int) (s61 : MS) : Option (Int × MS) :=
  rg x60 (if x60 = 0 then bn (m_x12_isHere 23 4 s61) (fun qr66 => rg qr66.1 (if qr66.1 = 0 then bn (m_x12_isHere 24 5 qr66.2) (fun qr71 => rg qr71.1 (if qr71.1 = 0 then bn (m_x12_isHere 25 7 qr71.2) (fun qr76 => rg qr76.1 (if qr76.1 = 0 then bn (m_x12_isHere 26 6 qr76.2) (fun qr81 => rg qr81.1 (if qr81.1 = 0 then bn (m_x12_isHere 27 5 qr81.2) (fun qr86 => rg qr86.1 (if qr86.1 = 0 then bn (m_x12_isHere 28 5 qr86.2) (fun qr91 => rg qr91.1 (if qr91.1 = 0 then m_x12_isOwnHere_J223 0 qr91.2 else m_x12_isOwnHere_J218 qr91.2)) else m_x12_isOwnHere_J218 qr86.2)) else m_x12_isOwnHere_J218 qr81.2)) else m_x12_isOwnHere_J218 qr76.2)) else m_x12_isOwnHere_J218 qr71.2)) else m_x12_isOwnHere_J218 qr66.2)) else m_x12_isOwnHere_J218 s61)
def m_x12_isOwnHere_J142 (s94 : MS) : Option (Int × MS) :=
  m_x12_isOwnHere_J147 1 s94
def m_x12_isOwnHere_J71 (x95 : Int) (s96 : MS) : Option (Int × MS) :=
  rg x95 (if x95 = 0 then bn (m_x12_isHere 17 6 s96) (fun qr101 => rg qr101.1 (if qr101.1 = 0 then bn (m_x12_isHere 18 5 qr101.2) (fun qr106 => rg qr106.1 (if qr106.1 = 0 then bn (m_x12_isHere 19 6 qr106.2) (fun qr111 => rg qr111.1 (if qr111.1 = 0 then bn (m_x12_isHere 20 5 qr111.2) (fun qr116 => rg qr116.1 (if qr116.1 = 0 then bn (m_x12_isHere 21 5 qr116.2) (fun qr121 => rg qr121.1 (if qr121.1 = 0 then bn (m_x12_isHere 22 5 qr121.2) (fun qr126 => rg qr126.1 (if qr126.1 = 0 then m_x12_isOwnHere_J147 0 qr126.2 else m_x12_isOwnHere_J142 qr126.2)) else m_x12_isOwnHere_J142 qr121.2)) else m_x12_isOwnHere_J142 qr116.2)) else m_x12_isOwnHere_J142 qr111.2)) else m_x12_isOwnHere_J142 qr106.2)) else m_x12_isOwnHere_J142 qr101.2)) else m_x12_isOwnHere_J142 s96)
def m_x12_isOwnHere_J66 (s129 : MS) : Option (Int × MS) :=
  m_x12_isOwnHere_J71 1 s129
def m_x12_isOwnHere (s : MS) : Option (Int × MS) :=
  bn (m_x12_isHere 11 6 s) (fun qr132 => rg qr132.1 (if qr132.1 = 0 then bn (m_x12_isHere 12 4 qr132.2) (fun qr137 => rg qr137.1 (if qr137.1 = 0 then bn (m_x12_isHere 13 6 qr137.2) (fun qr142 => rg qr142.1 (if qr142.1 = 0 then bn (m_x12_isHere 14 5 qr142.2) (fun qr147 => rg qr147.1 (if qr147.1 = 0 then bn (m_x12_isHere 15 2 qr147.2) (fun qr152 => rg qr152.1 (if qr152.1 = 0 then bn (m_x12_isHere 16 3 qr152.2) (fun qr157 => rg qr157.1 (if qr157.1 = 0 then m_x12_isOwnHere_J71 0 qr157.2 else m_x12_isOwnHere_J66 qr157.2)) else m_x12_isOwnHere_J66 qr152.2)) else m_x12_isOwnHere_J66 qr147.2)) else m_x12_isOwnHere_J66 qr142.2)) else m_x12_isOwnHere_J66 qr137.2)) else m_x12_isOwnHere_J66 qr132.2))
def m_x12_name_J145 (z1 : Int) (s2 : MS) : Option (Int × MS) :=
  stn (sI s2 4 (gI s2 2)) (fun s3 => some (z1, s3))
def m_x12_name_b58 (lr58 : Int → MS → Option (Int × MS)) (z4 : Int) (s5 : MS) : Option (Int × MS) :=
  rg (gI s5 2) (rg (gI s5 3) (if (gI s5 3) ≤ (gI s5 2) then m_x12_name_J145 z4 s5 else rdI (gA s5 0) 1600 (gI s5 2) (fun y9 => bn (m_x12_isLetter y9 s5) (fun r11 => rg r11 (if r11 = 0 then m_x12_name_J145 z4 s5 else rg ((gI s5 2) - (gI s5 38)) (if ((gI s5 2) - (gI s5 38)) = 6 then bn (m_x12_fail 1 (gI s5 2) s5) (fun s20 => some (0, s20)) else rdI (gA s5 0) 1600 (gI s5 2) (fun y16 => rg y16 (stn (sI s5 2 ((gI s5 2) + 1)) (fun s18 => lr58 ((((27 * z4) + y16) - 97) + 1) s18)))))))))
def m_x12_name_L58 (n : Nat) : Int → MS → Option (Int × MS) := lp (fun _ _ => none) (m_x12_name_b58) n
def m_x12_name_J37 (s21 : MS) : Option (Int × MS) :=
  bn (m_x12_fail 1 (gI s21 2) s21) (fun s23 => some (0, s23))
def m_x12_name (s : MS) : Option (Int × MS) :=
  rg (gI s 5) (if (gI s 5) = 0 then bn (m_x12_look s) (fun qr28 => bn (m_x12_isLetter qr28.1 qr28.2) (fun r30 => rg r30 (if r30 = 0 then m_x12_name_J37 qr28.2 else rg (gI qr28.2 2) (rg (gI qr28.2 4) (if (gI qr28.2 2) = (gI qr28.2 4) then m_x12_name_J37 qr28.2 else bn (m_x12_isOwnHere qr28.2) (fun qr38 => rg qr38.1 (if qr38.1 = 0 then stn (sI qr38.2 38 (gI qr38.2 2)) (fun s41 => m_x12_name_L58 FU 0 s41) else m_x12_name_J37 qr38.2))))))) else some (0, s))
def m_x12_isAllowed_J88 (s : MS) (x1 : Int) : Option Int :=
  bo x1 (some x1)
def m_x12_isAllowed_J83 (s : MS) (_u : Unit) : Option Int :=
  m_x12_isAllowed_J88 s 1
def m_x12_isAllowed_J73 (s : MS) (x3 : Int) : Option Int :=
  bo x3 (some x3)
def m_x12_isAllowed_J68 (s : MS) (_u : Unit) : Option Int :=
  m_x12_isAllowed_J73 s 1
def m_x12_isAllowed_J57 (s : MS) (x5 : Int) : Option Int :=
  bo x5 (some x5)
def m_x12_isAllowed_J52 (s : MS) (_u : Unit) : Option Int :=
  m_x12_isAllowed_J57 s 1
def m_x12_isAllowed_J42 (s : MS) (x7 : Int) : Option Int :=
  bo x7 (some x7)
def m_x12_isAllowed (p0 : Int) (s : MS) : Option Int :=
  rg (gI s 48) (if (gI s 48) = 0 then rg p0 (if 3 ≤ p0 then m_x12_isAllowed_J42 s 0 else m_x12_isAllowed_J42 s 1) else if (gI s 48) = 1 then rg p0 (if p0 = 0 then m_x12_isAllowed_J52 s () else rg p0 (if p0 = 3 then m_x12_isAllowed_J52 s () else m_x12_isAllowed_J57 s 0)) else if (gI s 48) = 2 then rg p0 (if p0 < 2 then m_x12_isAllowed_J68 s () else rg p0 (if p0 = 3 then m_x12_isAllowed_J68 s () else m_x12_isAllowed_J73 s 0)) else rg p0 (if p0 = 0 then m_x12_isAllowed_J83 s () else rg p0 (if p0 ≤ 2 then m_x12_isAllowed_J88 s 0 else m_x12_isAllowed_J83 s ())))
def m_x12_storeTold (s : MS) : Option MS :=
  bn (m_x12_asks 11 6 s) (fun s2 => bn (m_x12_number 8 48 s2) (fun qr5 => inb 10 0 (stn (sA qr5.2 39 (upZ (gA qr5.2 39) (Int.toNat 0) qr5.1)) (fun s7 => bn (m_x12_asks 12 4 s7) (fun s9 => bn (m_x12_number 3 6 s9) (fun qr12 => inb 10 1 (stn (sA qr12.2 39 (upZ (gA qr12.2 39) (Int.toNat 1) qr12.1)) (fun s14 => bn (m_x12_asksSign 59 s14) (fun s16 => some s16)))))))))
def m_x12_actTold (p0 : Int) (p1 : Int) (p2 : Int) (p3 : Int) (s : MS) : Option MS :=
  rg (gI s 5) (if (gI s 5) = 0 then rdI (gA s 39) 10 3 (fun y3 => inb 240 (4 * y3) (stn (sA s 41 (upZ (gA s 41) (Int.toNat (4 * y3)) p0)) (fun s5 => inb 240 ((4 * y3) + 1) (stn (sA s5 41 (upZ (gA s5 41) (Int.toNat ((4 * y3) + 1)) p1)) (fun s7 => inb 240 ((4 * y3) + 2) (stn (sA s7 41 (upZ (gA s7 41) (Int.toNat ((4 * y3) + 2)) p2)) (fun s9 => inb 240 ((4 * y3) + 3) (stn (sA s9 41 (upZ (gA s9 41) (Int.toNat ((4 * y3) + 3)) p3)) (fun s11 => rdI (gA s11 39) 10 3 (fun y12 => inb 10 3 (stn (sA s11 39 (upZ (gA s11 39) (Int.toNat 3) (y12 + 1))) (fun s14 => some s14)))))))))))) else some s)
def m_x12_newName_J44 (lr7 : Int → Int → MS → Option (Int × MS)) (z4 : Int) (x5 : Int) (s6 : MS) : Option (Int × MS) :=
  lr7 z4 (x5 + 1) s6
def m_x12_newName_b7 (lr7 : Int → Int → MS → Option (Int × MS)) (z1 : Int) (x2 : Int) (s3 : MS) : Option (Int × MS) :=
  rdI (gA s3 39) 10 2 (fun y7 => rg x2 (rg y7 (if y7 ≤ x2 then some (z1, s3) else rg (gI s3 5) (if (gI s3 5) = 0 then rdL (gB s3 40) 16 x2 (fun yl13 => rgL yl13 (rgL z1 (if yl13 = z1 then bn (m_x12_fail 3 (gI s3 38) s3) (fun s18 => m_x12_newName_J44 lr7 z1 x2 s18) else m_x12_newName_J44 lr7 z1 x2 s3))) else m_x12_newName_J44 lr7 z1 x2 s3))))
def m_x12_newName_L7 (n : Nat) : Int → Int → MS → Option (Int × MS) := lp (fun _ _ _ => none) (m_x12_newName_b7) n
def m_x12_newName (s : MS) : Option (Int × MS) :=
  bn (m_x12_name s) (fun qrl21 => m_x12_newName_L7 FU qrl21.1 0 qrl21.2)
def m_x12_volumeNamed_J52 (s1 : MS) : Option (Int × MS) :=
  some (0, s1)
def m_x12_volumeNamed_b7 (lr7 : Int → Int → MS → Option (Int × MS)) (z2 : Int) (x3 : Int) (s4 : MS) : Option (Int × MS) :=
  rdI (gA s4 39) 10 2 (fun y5 => rg x3 (rg y5 (if y5 ≤ x3 then rg (gI s4 5) (if (gI s4 5) = 0 then bn (m_x12_fail 3 (gI s4 38) s4) (fun s12 => m_x12_volumeNamed_J52 s12) else m_x12_volumeNamed_J52 s4) else rdL (gB s4 40) 16 x3 (fun yl13 => rgL yl13 (rgL z2 (if yl13 = z2 then some (x3, s4) else lr7 z2 (x3 + 1) s4))))))
def m_x12_volumeNamed_L7 (n : Nat) : Int → Int → MS → Option (Int × MS) := lp (fun _ _ _ => none) (m_x12_volumeNamed_b7) n
def m_x12_volumeNamed (s : MS) : Option (Int × MS) :=
  bn (m_x12_name s) (fun qrl19 => m_x12_volumeNamed_L7 FU qrl19.1 0 qrl19.2)
def m_x12_volumeTold_J83 (z1 : Int) (x2 : Int) (x3 : Int) (s4 : MS) : Option MS :=
  rdI (gA s4 39) 10 2 (fun y5 => bn (m_x12_actTold x3 x2 y5 0 s4) (fun s7 => rdI (gA s7 39) 10 2 (fun y8 => inb 16 y8 (stn (sB s7 40 (upZ (gB s7 40) (Int.toNat y8) z1)) (fun s10 => rdI (gA s10 39) 10 2 (fun y11 => inb 10 2 (stn (sA s10 39 (upZ (gA s10 39) (Int.toNat 2) (y11 + 1))) (fun s13 => some s13))))))))
def m_x12_volumeTold_J68 (x14 : Int) (z15 : Int) (x16 : Int) (x17 : Int) (s18 : MS) : Option MS :=
  rg x14 (if x14 = 0 then rdI (gA s18 39) 10 2 (fun y21 => m_x12_volumeTold_J83 z15 y21 x17 s18) else m_x12_volumeTold_J83 z15 x16 x17 s18)
def m_x12_volumeTold_J50 (x22 : Int) (z23 : Int) (x24 : Int) (s25 : MS) : Option MS :=
  rg (gI s25 5) (if (gI s25 5) = 0 then rg x22 (if x22 = 0 then m_x12_volumeTold_J68 x22 z23 x24 0 s25 else m_x12_volumeTold_J68 x22 z23 x24 1 s25) else some s25)
def m_x12_volumeTold_J24 (x30 : Int) (s31 : MS) : Option MS :=
  bn (m_x12_newName s31) (fun qrl34 => rg x30 (if x30 = 0 then m_x12_volumeTold_J50 x30 qrl34.1 (-1) qrl34.2 else bn (m_x12_asks 15 2 qrl34.2) (fun s38 => bn (m_x12_volumeNamed s38) (fun qr41 => m_x12_volumeTold_J50 x30 qrl34.1 qr41.1 qr41.2))))
def m_x12_volumeTold (p0 : Int) (p1 : Int) (s : MS) : Option MS :=
  rg (gI s 5) (if (gI s 5) = 0 then rdI (gA s 39) 10 2 (fun y44 => rg y44 (if y44 = 8 then bn (m_x12_fail 5 p1 s) (fun s48 => m_x12_volumeTold_J24 p0 s48) else m_x12_volumeTold_J24 p0 s)) else m_x12_volumeTold_J24 p0 s)
def m_x12_putTold (s : MS) : Option MS :=
  bn (m_x12_volumeNamed s) (fun qr3 => bn (m_x12_number 0 999 qr3.2) (fun qr6 => bn (m_x12_number 0 999 qr6.2) (fun qr9 => bn (m_x12_actTold 2 qr3.1 qr6.1 qr9.1 qr9.2) (fun s11 => some s11))))
def m_x12_removeTold (s : MS) : Option MS :=
  bn (m_x12_volumeNamed s) (fun qr3 => bn (m_x12_number 0 999 qr3.2) (fun qr6 => bn (m_x12_actTold 3 qr3.1 qr6.1 0 qr6.2) (fun s8 => some s8)))
def m_x12_qCode (p0 : Int) (s : MS) : Option MS :=
  inb 1700 (gI s 102) (stn (sA s 101 (upZ (gA s 101) (Int.toNat (gI s 102)) p0)) (fun s2 => stn (sI s2 102 ((gI s2 102) + 1)) (fun s3 => some s3)))
def m_x12_qDrops (s : MS) : Option MS :=
  stn (sI s 104 ((gI s 104) - 1)) (fun s1 => rdI (gA s1 103) 1700 (gI s1 104) (fun y2 => bn (m_x12_qCode y2 s1) (fun s4 => some s4)))
def m_x12_qEndsPart_J51 (s1 : MS) : Option MS :=
  some s1
def m_x12_qEndsPart_b0 (lr0 : MS → Option MS) (s2 : MS) : Option MS :=
  rg (gI s2 5) (if (gI s2 5) = 0 then rg (gI s2 104) (rg (gI s2 106) (if (gI s2 104) ≤ (gI s2 106) then m_x12_qEndsPart_J51 s2 else rdI (gA s2 103) 1700 ((gI s2 104) - 1) (fun y8 => rg y8 (if y8 < 60 then m_x12_qEndsPart_J51 s2 else stn (sI s2 105 ((gI s2 105) - 1)) (fun s11 => bn (m_x12_qDrops s11) (fun s13 => lr0 s13)))))) else m_x12_qEndsPart_J51 s2)
def m_x12_qEndsPart_L0 (n : Nat) : MS → Option MS := lp (fun _ => none) (m_x12_qEndsPart_b0) n
def m_x12_qEndsPart (s : MS) : Option MS :=
  m_x12_qEndsPart_L0 FU s
def m_x12_qWordHere (s : MS) : Option (Int × MS) :=
  bn (m_x12_isHere 91 5 s) (fun qr3 => rg qr3.1 (if qr3.1 = 0 then bn (m_x12_isHere 92 5 qr3.2) (fun qr8 => rg qr8.1 (if qr8.1 = 0 then bn (m_x12_isHere 93 4 qr8.2) (fun qr13 => rg qr13.1 (if qr13.1 = 0 then bn (m_x12_isHere 94 7 qr13.2) (fun qr18 => rg qr18.1 (if qr18.1 = 0 then bn (m_x12_isHere 95 6 qr18.2) (fun qr23 => rg qr23.1 (if qr23.1 = 0 then bn (m_x12_isHere 96 5 qr23.2) (fun qr28 => rg qr28.1 (if qr28.1 = 0 then bn (m_x12_isHere 97 5 qr28.2) (fun qr33 => rg qr33.1 (if qr33.1 = 0 then bn (m_x12_isHere 98 5 qr33.2) (fun qr38 => rg qr38.1 (if qr38.1 = 0 then bn (m_x12_isHere 99 4 qr38.2) (fun qr43 => rg qr43.1 (if qr43.1 = 0 then bn (m_x12_isHere 100 3 qr43.2) (fun qr48 => rg qr48.1 (if qr48.1 = 0 then some ((-1), qr48.2) else some (9, qr48.2))) else some (8, qr43.2))) else some (7, qr38.2))) else some (6, qr33.2))) else some (5, qr28.2))) else some (4, qr23.2))) else some (3, qr18.2))) else some (2, qr13.2))) else some (1, qr8.2))) else some (0, qr3.2)))
def m_x12_qWordOf_J28 (x1 : Int) (s2 : MS) : Option (Int × MS) :=
  some (x1, s2)
def m_x12_qWordOf_J27 (s3 : MS) : Option (Int × MS) :=
  m_x12_qWordOf_J28 (-1) s3
def m_x12_qWordOf (p0 : Int) (p1 : Int) (s : MS) : Option (Int × MS) :=
  bn (m_x12_qWordHere s) (fun qr6 => rg qr6.1 (rg p0 (if qr6.1 < p0 then m_x12_qWordOf_J27 qr6.2 else rg qr6.1 (rg p1 (if p1 ≤ qr6.1 then m_x12_qWordOf_J27 qr6.2 else bn (m_x12_isAllowed qr6.1 qr6.2) (fun r14 => rg r14 (if r14 = 0 then m_x12_qWordOf_J27 qr6.2 else m_x12_qWordOf_J28 qr6.1 qr6.2)))))))
def m_x12_qAsksWord_J159 (s1 : MS) : Option MS :=
  some s1
def m_x12_qAsksWord (p0 : Int) (s : MS) : Option MS :=
  rg p0 (if p0 = 0 then bn (m_x12_asks 91 5 s) (fun s5 => m_x12_qAsksWord_J159 s5) else if p0 = 1 then bn (m_x12_asks 92 5 s) (fun s8 => m_x12_qAsksWord_J159 s8) else if p0 = 2 then bn (m_x12_asks 93 4 s) (fun s11 => m_x12_qAsksWord_J159 s11) else if p0 = 3 then bn (m_x12_asks 94 7 s) (fun s14 => m_x12_qAsksWord_J159 s14) else if p0 = 4 then bn (m_x12_asks 95 6 s) (fun s17 => m_x12_qAsksWord_J159 s17) else if p0 = 5 then bn (m_x12_asks 96 5 s) (fun s20 => m_x12_qAsksWord_J159 s20) else if p0 = 6 then bn (m_x12_asks 97 5 s) (fun s23 => m_x12_qAsksWord_J159 s23) else if p0 = 7 then bn (m_x12_asks 98 5 s) (fun s26 => m_x12_qAsksWord_J159 s26) else if p0 = 8 then bn (m_x12_asks 99 4 s) (fun s29 => m_x12_qAsksWord_J159 s29) else bn (m_x12_asks 100 3 s) (fun s31 => m_x12_qAsksWord_J159 s31))
def m_x12_qOpens (p0 : Int) (p1 : Int) (s : MS) : Option MS :=
  rg (gI s 5) (if (gI s 5) = 0 then rg (gI s 105) (if (gI s 105) = 6 then bn (m_x12_fail 4 p1 s) (fun s10 => some s10) else stn (sI s 105 ((gI s 105) + 1)) (fun s5 => inb 1700 (gI s5 104) (stn (sA s5 103 (upZ (gA s5 103) (Int.toNat (gI s5 104)) p0)) (fun s7 => stn (sI s7 104 ((gI s7 104) + 1)) (fun s8 => some s8))))) else some s)
def m_x12_qPartTold_J237 (x1 : Int) (s2 : MS) : Option MS :=
  bn (m_x12_qCode x1 s2) (fun s4 => bn (m_x12_qEndsPart s4) (fun s6 => some s6))
def m_x12_qPartTold_J212 (x7 : Int) (s8 : MS) : Option MS :=
  rg x7 (if x7 = (-1) then bn (m_x12_number 0 9999 s8) (fun qr13 => m_x12_qPartTold_J237 (1000 + qr13.1) qr13.2) else m_x12_qPartTold_J237 (40 + x7) s8)
def m_x12_qPartTold_J186 (s14 : MS) : Option MS :=
  rg (gI s14 5) (if (gI s14 5) = 0 then bn (m_x12_qWordOf 0 8 s14) (fun qr19 => rg qr19.1 (if qr19.1 = (-1) then m_x12_qPartTold_J212 qr19.1 qr19.2 else bn (m_x12_qAsksWord qr19.1 qr19.2) (fun s23 => m_x12_qPartTold_J212 qr19.1 s23))) else some s14)
def m_x12_qPartTold_J183 (lr2 : Int → MS → Option MS) (x26 : Int) (s27 : MS) : Option MS :=
  lr2 x26 s27
def m_x12_qPartTold_J144 (lr2 : Int → MS → Option MS) (x28 : Int) (s29 : MS) : Option MS :=
  bn (m_x12_asksSign 40 s29) (fun s31 => m_x12_qPartTold_J183 lr2 x28 s31)
def m_x12_qPartTold_J139 (lr2 : Int → MS → Option MS) (x32 : Int) (x33 : Int) (x34 : Int) (s35 : MS) : Option MS :=
  bn (m_x12_qOpens x34 x33 s35) (fun s37 => m_x12_qPartTold_J144 lr2 x32 s37)
def m_x12_qPartTold_J118 (lr2 : Int → MS → Option MS) (x38 : Int) (x39 : Int) (x40 : Int) (s41 : MS) : Option MS :=
  rg x40 (if x40 = (-1) then m_x12_qPartTold_J144 lr2 x38 s41 else rg x39 (if x39 = 0 then m_x12_qPartTold_J139 lr2 x38 x40 22 s41 else m_x12_qPartTold_J139 lr2 x38 x40 21 s41))
def m_x12_qPartTold_J101 (lr2 : Int → MS → Option MS) (x46 : Int) (x47 : Int) (s48 : MS) : Option MS :=
  bn (m_x12_look s48) (fun qr51 => rg qr51.1 (if qr51.1 = 40 then m_x12_qPartTold_J118 lr2 x46 x47 (gI qr51.2 2) qr51.2 else m_x12_qPartTold_J118 lr2 x46 x47 (-1) qr51.2))
def m_x12_qPartTold_J78 (lr2 : Int → MS → Option MS) (x54 : Int) (s55 : MS) : Option MS :=
  bn (m_x12_takes 89 3 s55) (fun qr58 => rg qr58.1 (if qr58.1 = 0 then bn (m_x12_asks 90 3 qr58.2) (fun s62 => m_x12_qPartTold_J101 lr2 x54 qr58.1 s62) else m_x12_qPartTold_J101 lr2 x54 qr58.1 qr58.2))
def m_x12_qPartTold_b2 (lr2 : Int → MS → Option MS) (x24 : Int) (s25 : MS) : Option MS :=
  rg x24 (if x24 = 0 then m_x12_qPartTold_J186 s25 else rg (gI s25 5) (if (gI s25 5) = 0 then bn (m_x12_look s25) (fun qr69 => bn (m_x12_qWordOf 8 10 qr69.2) (fun qr72 => rg qr69.1 (if qr69.1 = 40 then bn (m_x12_qOpens 20 (gI qr72.2 2) qr72.2) (fun s92 => stn (sI s92 2 ((gI s92 2) + 1)) (fun s93 => m_x12_qPartTold_J183 lr2 x24 s93)) else bn (m_x12_isHere 89 3 qr72.2) (fun qr77 => rg qr77.1 (if qr77.1 = 0 then bn (m_x12_isHere 90 3 qr77.2) (fun qr82 => rg qr82.1 (if qr82.1 = 0 then rg qr72.1 (if qr72.1 = (-1) then m_x12_qPartTold_J183 lr2 0 qr82.2 else bn (m_x12_qOpens ((60 + qr72.1) - 8) (gI qr82.2 2) qr82.2) (fun s88 => bn (m_x12_qAsksWord qr72.1 s88) (fun s90 => m_x12_qPartTold_J183 lr2 x24 s90))) else m_x12_qPartTold_J78 lr2 x24 qr82.2)) else m_x12_qPartTold_J78 lr2 x24 qr77.2))))) else m_x12_qPartTold_J186 s25))
def m_x12_qPartTold_L2 (n : Nat) : Int → MS → Option MS := lp (fun _ _ => none) (m_x12_qPartTold_b2) n
def m_x12_qPartTold (s : MS) : Option MS :=
  m_x12_qPartTold_L2 FU 1 s
def m_x12_qIsBracket_J17 (s : MS) (x1 : Int) : Option Int :=
  bo x1 (some x1)
def m_x12_qIsBracket_J16 (s : MS) (_u : Unit) : Option Int :=
  m_x12_qIsBracket_J17 s 0
def m_x12_qIsBracket (p0 : Int) (s : MS) : Option Int :=
  rg p0 (if p0 < 20 then m_x12_qIsBracket_J16 s () else rg p0 (if 24 < p0 then m_x12_qIsBracket_J16 s () else m_x12_qIsBracket_J17 s 1))
def m_x12_qDropsToBracket_J35 (s1 : MS) : Option MS :=
  some s1
def m_x12_qDropsToBracket_b0 (lr0 : MS → Option MS) (s2 : MS) : Option MS :=
  rg (gI s2 104) (rg (gI s2 106) (if (gI s2 104) ≤ (gI s2 106) then m_x12_qDropsToBracket_J35 s2 else rdI (gA s2 103) 1700 ((gI s2 104) - 1) (fun y6 => bn (m_x12_qIsBracket y6 s2) (fun r8 => rg r8 (if r8 = 0 then bn (m_x12_qDrops s2) (fun s12 => lr0 s12) else m_x12_qDropsToBracket_J35 s2)))))
def m_x12_qDropsToBracket_L0 (n : Nat) : MS → Option MS := lp (fun _ => none) (m_x12_qDropsToBracket_b0) n
def m_x12_qDropsToBracket (s : MS) : Option MS :=
  m_x12_qDropsToBracket_L0 FU s
def m_x12_qIsOn_J27 (s : MS) (x1 : Int) : Option Int :=
  bo x1 (some x1)
def m_x12_qIsOn_J26 (s : MS) (_u : Unit) : Option Int :=
  m_x12_qIsOn_J27 s 0
def m_x12_qIsOn (p0 : Int) (s : MS) : Option Int :=
  rg (gI s 104) (if (gI s 104) ≤ 0 then m_x12_qIsOn_J26 s () else rdI (gA s 103) 1700 ((gI s 104) - 1) (fun y5 => rg y5 (rg p0 (if y5 = p0 then m_x12_qIsOn_J27 s 1 else m_x12_qIsOn_J26 s ()))))
def m_x12_qBracket_J51 (s : MS) (x1 : Int) : Option Int :=
  some x1
def m_x12_qBracket_J33 (s : MS) (x2 : Int) : Option Int :=
  rg x2 (rg (gI s 106) (if x2 < (gI s 106) then m_x12_qBracket_J51 s (-1) else rdI (gA s 103) 1700 x2 (fun y6 => m_x12_qBracket_J51 s y6)))
def m_x12_qBracket_b7 (s : MS) (lr7 : Int → Option Int) (x7 : Int) : Option Int :=
  rg x7 (rg (gI s 106) (if x7 < (gI s 106) then m_x12_qBracket_J33 s x7 else rdI (gA s 103) 1700 x7 (fun y11 => bn (m_x12_qIsBracket y11 s) (fun r13 => rg r13 (if r13 = 0 then lr7 (x7 + (-1)) else m_x12_qBracket_J33 s x7)))))
def m_x12_qBracket_L7 (s : MS) (n : Nat) : Int → Option Int := lp (fun _ => none) (m_x12_qBracket_b7 s) n
def m_x12_qBracket (s : MS) : Option Int :=
  m_x12_qBracket_L7 s FU ((gI s 104) - 1)
def m_x12_qGoesOn_J386 (s1 : MS) : Option (Int × MS) :=
  some (0, s1)
def m_x12_qGoesOn_J326 (s2 : MS) : Option (Int × MS) :=
  bn (m_x12_asksSign 44 s2) (fun s4 => rg (gI s4 5) (if (gI s4 5) = 0 then bn (m_x12_qDropsToBracket s4) (fun s8 => rdI (gA s8 103) 1700 ((gI s8 104) - 1) (fun y9 => inb 1700 ((gI s8 104) - 1) (stn (sA s8 103 (upZ (gA s8 103) (Int.toNat ((gI s8 104) - 1)) (y9 + 2))) (fun s11 => some (1, s11))))) else some (0, s4)))
def m_x12_qGoesOn_J279 (lr247 : Int → MS → Option (Int × MS)) (x14 : Int) (s15 : MS) : Option (Int × MS) :=
  bn (m_x12_qDrops s15) (fun s17 => lr247 x14 s17)
def m_x12_qGoesOn_b247 (lr247 : Int → MS → Option (Int × MS)) (x12 : Int) (s13 : MS) : Option (Int × MS) :=
  bn (m_x12_qIsOn 3 s13) (fun r19 => rg r19 (if r19 = 0 then bn (m_x12_qIsOn 4 s13) (fun r23 => rg r23 (if r23 = 0 then bn (m_x12_qIsOn 1 s13) (fun r27 => rg r27 (if r27 = 0 then bn (m_x12_qIsOn 2 s13) (fun r31 => rg r31 (if r31 = 0 then inb 1700 (gI s13 104) (stn (sA s13 103 (upZ (gA s13 103) (Int.toNat (gI s13 104)) x12)) (fun s35 => stn (sI s35 104 ((gI s35 104) + 1)) (fun s36 => some (1, s36)))) else m_x12_qGoesOn_J279 lr247 x12 s13)) else m_x12_qGoesOn_J279 lr247 x12 s13)) else m_x12_qGoesOn_J279 lr247 x12 s13)) else m_x12_qGoesOn_J279 lr247 x12 s13))
def m_x12_qGoesOn_L247 (n : Nat) : Int → MS → Option (Int × MS) := lp (fun _ _ => none) (m_x12_qGoesOn_b247) n
def m_x12_qGoesOn_J246 (x37 : Int) (s38 : MS) : Option (Int × MS) :=
  m_x12_qGoesOn_L247 FU x37 s38
def m_x12_qGoesOn_J225 (s39 : MS) : Option (Int × MS) :=
  rdI (gA s39 0) 1600 ((gI s39 2) - 1) (fun y40 => rg y40 (if y40 = 43 then m_x12_qGoesOn_J246 1 s39 else m_x12_qGoesOn_J246 2 s39))
def m_x12_qGoesOn_J178 (lr162 : Int → MS → Option (Int × MS)) (x45 : Int) (s46 : MS) : Option (Int × MS) :=
  bn (m_x12_qDrops s46) (fun s48 => lr162 x45 s48)
def m_x12_qGoesOn_b162 (lr162 : Int → MS → Option (Int × MS)) (x43 : Int) (s44 : MS) : Option (Int × MS) :=
  bn (m_x12_qIsOn 3 s44) (fun r50 => rg r50 (if r50 = 0 then bn (m_x12_qIsOn 4 s44) (fun r54 => rg r54 (if r54 = 0 then inb 1700 (gI s44 104) (stn (sA s44 103 (upZ (gA s44 103) (Int.toNat (gI s44 104)) x43)) (fun s58 => stn (sI s58 104 ((gI s58 104) + 1)) (fun s59 => some (1, s59)))) else m_x12_qGoesOn_J178 lr162 x43 s44)) else m_x12_qGoesOn_J178 lr162 x43 s44))
def m_x12_qGoesOn_L162 (n : Nat) : Int → MS → Option (Int × MS) := lp (fun _ _ => none) (m_x12_qGoesOn_b162) n
def m_x12_qGoesOn_J161 (x60 : Int) (s61 : MS) : Option (Int × MS) :=
  m_x12_qGoesOn_L162 FU x60 s61
def m_x12_qGoesOn_J140 (s62 : MS) : Option (Int × MS) :=
  rdI (gA s62 0) 1600 ((gI s62 2) - 1) (fun y63 => rg y63 (if y63 = 42 then m_x12_qGoesOn_J161 3 s62 else m_x12_qGoesOn_J161 4 s62))
def m_x12_qGoesOn_J122 (s66 : MS) : Option (Int × MS) :=
  bn (m_x12_takesSign 42 s66) (fun qr69 => rg qr69.1 (if qr69.1 = 0 then bn (m_x12_takesSign 47 qr69.2) (fun qr74 => rg qr74.1 (if qr74.1 = 0 then bn (m_x12_takesSign 43 qr74.2) (fun qr79 => rg qr79.1 (if qr79.1 = 0 then bn (m_x12_takesSign 45 qr79.2) (fun qr84 => rg qr84.1 (if qr84.1 = 0 then bn (m_x12_qBracket qr84.2) (fun r88 => rg r88 (if r88 = 21 then m_x12_qGoesOn_J326 qr84.2 else bn (m_x12_qBracket qr84.2) (fun r92 => rg r92 (if r92 = 22 then m_x12_qGoesOn_J326 qr84.2 else bn (m_x12_qBracket qr84.2) (fun r96 => rg r96 (if r96 = (-1) then m_x12_qGoesOn_J386 qr84.2 else rg (gI qr84.2 5) (if (gI qr84.2 5) = 0 then bn (m_x12_fail 1 (gI qr84.2 2) qr84.2) (fun s102 => m_x12_qGoesOn_J386 s102) else m_x12_qGoesOn_J386 qr84.2))))))) else m_x12_qGoesOn_J225 qr84.2)) else m_x12_qGoesOn_J225 qr79.2)) else m_x12_qGoesOn_J140 qr74.2)) else m_x12_qGoesOn_J140 qr69.2))
def m_x12_qGoesOn_J115 (lr0 : MS → Option (Int × MS)) (s104 : MS) : Option (Int × MS) :=
  bn (m_x12_qEndsPart s104) (fun s106 => lr0 s106)
def m_x12_qGoesOn_J112 (lr0 : MS → Option (Int × MS)) (x107 : Int) (s108 : MS) : Option (Int × MS) :=
  bn (m_x12_qCode x107 s108) (fun s110 => m_x12_qGoesOn_J115 lr0 s110)
def m_x12_qGoesOn_J43 (lr0 : MS → Option (Int × MS)) (s111 : MS) : Option (Int × MS) :=
  stn (sI s111 2 ((gI s111 2) + 1)) (fun s112 => bn (m_x12_qDropsToBracket s112) (fun s114 => stn (sI s114 104 ((gI s114 104) - 1)) (fun s115 => stn (sI s115 105 ((gI s115 105) - 1)) (fun s116 => rdI (gA s116 103) 1700 (gI s116 104) (fun y117 => rg y117 (if y117 = 20 then m_x12_qGoesOn_J115 lr0 s116 else rdI (gA s116 103) 1700 (gI s116 104) (fun y120 => rg y120 (if y120 = 23 then m_x12_qGoesOn_J112 lr0 5 s116 else m_x12_qGoesOn_J112 lr0 6 s116))))))))
def m_x12_qGoesOn_b0 (lr0 : MS → Option (Int × MS)) (s103 : MS) : Option (Int × MS) :=
  rg (gI s103 5) (if (gI s103 5) = 0 then bn (m_x12_look s103) (fun qr127 => rg qr127.1 (if qr127.1 = 41 then bn (m_x12_qBracket qr127.2) (fun r131 => rg r131 (if r131 = 20 then m_x12_qGoesOn_J43 lr0 qr127.2 else bn (m_x12_qBracket qr127.2) (fun r135 => rg r135 (if r135 = 23 then m_x12_qGoesOn_J43 lr0 qr127.2 else bn (m_x12_qBracket qr127.2) (fun r139 => rg r139 (if r139 = 24 then m_x12_qGoesOn_J43 lr0 qr127.2 else m_x12_qGoesOn_J122 qr127.2)))))) else m_x12_qGoesOn_J122 qr127.2)) else m_x12_qGoesOn_J122 s103)
def m_x12_qGoesOn_L0 (n : Nat) : MS → Option (Int × MS) := lp (fun _ => none) (m_x12_qGoesOn_b0) n
def m_x12_qGoesOn (s : MS) : Option (Int × MS) :=
  m_x12_qGoesOn_L0 FU s
def m_x12_qSums_J78 (x1 : Int) (s2 : MS) : Option MS :=
  stn (sI s2 106 x1) (fun s3 => some s3)
def m_x12_qSums_b53 (lr53 : Int → MS → Option MS) (x4 : Int) (s5 : MS) : Option MS :=
  rg (gI s5 5) (if (gI s5 5) = 0 then rg (gI s5 104) (rg (gI s5 106) (if (gI s5 104) ≤ (gI s5 106) then m_x12_qSums_J78 x4 s5 else bn (m_x12_qDrops s5) (fun s12 => lr53 x4 s12))) else m_x12_qSums_J78 x4 s5)
def m_x12_qSums_L53 (n : Nat) : Int → MS → Option MS := lp (fun _ _ => none) (m_x12_qSums_b53) n
def m_x12_qSums_J49 (lr15 : Int → Int → MS → Option MS) (x16 : Int) (x17 : Int) (s18 : MS) : Option MS :=
  lr15 x16 x17 s18
def m_x12_qSums_J48 (lr15 : Int → Int → MS → Option MS) (x19 : Int) (s20 : MS) : Option MS :=
  m_x12_qSums_J49 lr15 x19 0 s20
def m_x12_qSums_b15 (lr15 : Int → Int → MS → Option MS) (x13 : Int) (x14 : Int) (s15 : MS) : Option MS :=
  rg x14 (if x14 = 0 then m_x12_qSums_L53 FU x13 s15 else rg (gI s15 5) (if (gI s15 5) = 0 then bn (m_x12_qPartTold s15) (fun s26 => rg (gI s26 5) (if (gI s26 5) = 0 then bn (m_x12_qGoesOn s26) (fun qr31 => rg qr31.1 (if qr31.1 = 0 then m_x12_qSums_J48 lr15 x13 qr31.2 else m_x12_qSums_J49 lr15 x13 1 qr31.2)) else m_x12_qSums_J48 lr15 x13 s26)) else m_x12_qSums_L53 FU x13 s15))
def m_x12_qSums_L15 (n : Nat) : Int → Int → MS → Option MS := lp (fun _ _ _ => none) (m_x12_qSums_b15) n
def m_x12_qSums (s : MS) : Option MS :=
  stn (sI s 106 (gI s 104)) (fun s34 => m_x12_qSums_L15 FU (gI s 106) 1 s34)
def m_x12_qFact_J102 (x1 : Int) (s2 : MS) : Option MS :=
  bn (m_x12_qCode x1 s2) (fun s4 => some s4)
def m_x12_qFact_J63 (x5 : Int) (s6 : MS) : Option MS :=
  stn (sI s6 2 ((gI s6 2) + 1)) (fun s7 => bn (m_x12_qSums s7) (fun s9 => rg x5 (if x5 = 60 then m_x12_qFact_J102 7 s9 else rg x5 (if x5 = 62 then m_x12_qFact_J102 8 s9 else m_x12_qFact_J102 9 s9))))
def m_x12_qFact (s : MS) : Option MS :=
  bn (m_x12_takes 88 3 s) (fun qr16 => rg qr16.1 (if qr16.1 = 0 then bn (m_x12_qSums qr16.2) (fun s20 => rg (gI s20 5) (if (gI s20 5) = 0 then bn (m_x12_look s20) (fun qr25 => rg qr25.1 (if qr25.1 = 60 then m_x12_qFact_J63 qr25.1 qr25.2 else rg qr25.1 (if qr25.1 = 62 then m_x12_qFact_J63 qr25.1 qr25.2 else rg qr25.1 (if qr25.1 = 61 then m_x12_qFact_J63 qr25.1 qr25.2 else bn (m_x12_fail 1 (gI qr25.2 2) qr25.2) (fun s33 => some s33))))) else some s20)) else bn (m_x12_qCode 13 qr16.2) (fun s35 => some s35)))
def m_x12_qDropsNots_J33 (s1 : MS) : Option MS :=
  some s1
def m_x12_qDropsNots_b0 (lr0 : MS → Option MS) (s2 : MS) : Option MS :=
  rg (gI s2 5) (if (gI s2 5) = 0 then bn (m_x12_qIsOn 12 s2) (fun r6 => rg r6 (if r6 = 0 then m_x12_qDropsNots_J33 s2 else stn (sI s2 105 ((gI s2 105) - 1)) (fun s9 => bn (m_x12_qDrops s9) (fun s11 => lr0 s11)))) else m_x12_qDropsNots_J33 s2)
def m_x12_qDropsNots_L0 (n : Nat) : MS → Option MS := lp (fun _ => none) (m_x12_qDropsNots_b0) n
def m_x12_qDropsNots (s : MS) : Option MS :=
  m_x12_qDropsNots_L0 FU s
def m_x12_qHasSquare_b2 (s : MS) (lr2 : Int → Option Int) (x1 : Int) : Option Int :=
  rg x1 (rg (gI s 104) (if (gI s 104) ≤ x1 then some 0 else rdI (gA s 103) 1700 x1 (fun y5 => rg y5 (if y5 = 25 then some 1 else lr2 (x1 + 1)))))
def m_x12_qHasSquare_L2 (s : MS) (n : Nat) : Int → Option Int := lp (fun _ => none) (m_x12_qHasSquare_b2 s) n
def m_x12_qHasSquare (s : MS) : Option Int :=
  m_x12_qHasSquare_L2 s FU 0
def m_x12_qGoesOnTest_J208 (s1 : MS) : Option (Int × MS) :=
  some (0, s1)
def m_x12_qGoesOnTest_J155 (lr137 : MS → Option (Int × MS)) (s3 : MS) : Option (Int × MS) :=
  bn (m_x12_qDrops s3) (fun s5 => lr137 s5)
def m_x12_qGoesOnTest_b137 (lr137 : MS → Option (Int × MS)) (s2 : MS) : Option (Int × MS) :=
  bn (m_x12_qIsOn 10 s2) (fun r7 => rg r7 (if r7 = 0 then bn (m_x12_qIsOn 11 s2) (fun r11 => rg r11 (if r11 = 0 then inb 1700 (gI s2 104) (stn (sA s2 103 (upZ (gA s2 103) (Int.toNat (gI s2 104)) 11)) (fun s15 => stn (sI s15 104 ((gI s15 104) + 1)) (fun s16 => some (1, s16)))) else m_x12_qGoesOnTest_J155 lr137 s2)) else m_x12_qGoesOnTest_J155 lr137 s2))
def m_x12_qGoesOnTest_L137 (n : Nat) : MS → Option (Int × MS) := lp (fun _ => none) (m_x12_qGoesOnTest_b137) n
def m_x12_qGoesOnTest_b87 (lr87 : MS → Option (Int × MS)) (s17 : MS) : Option (Int × MS) :=
  bn (m_x12_qIsOn 10 s17) (fun r19 => rg r19 (if r19 = 0 then inb 1700 (gI s17 104) (stn (sA s17 103 (upZ (gA s17 103) (Int.toNat (gI s17 104)) 10)) (fun s23 => stn (sI s23 104 ((gI s23 104) + 1)) (fun s24 => some (1, s24)))) else bn (m_x12_qDrops s17) (fun s26 => lr87 s26)))
def m_x12_qGoesOnTest_L87 (n : Nat) : MS → Option (Int × MS) := lp (fun _ => none) (m_x12_qGoesOnTest_b87) n
def m_x12_qGoesOnTest_J76 (s27 : MS) : Option (Int × MS) :=
  bn (m_x12_takes 86 3 s27) (fun qr30 => rg qr30.1 (if qr30.1 = 0 then bn (m_x12_takes 87 2 qr30.2) (fun qr35 => rg qr35.1 (if qr35.1 = 0 then rg (gI qr35.2 5) (if (gI qr35.2 5) = 0 then bn (m_x12_qHasSquare qr35.2) (fun r41 => rg r41 (if r41 = 0 then m_x12_qGoesOnTest_J208 qr35.2 else bn (m_x12_fail 1 (gI qr35.2 2) qr35.2) (fun s45 => m_x12_qGoesOnTest_J208 s45))) else m_x12_qGoesOnTest_J208 qr35.2) else m_x12_qGoesOnTest_L137 FU qr35.2)) else m_x12_qGoesOnTest_L87 FU qr30.2))
def m_x12_qGoesOnTest_b33 (lr0 : MS → Option (Int × MS)) (lr33 : MS → Option (Int × MS)) (s47 : MS) : Option (Int × MS) :=
  bn (m_x12_qIsOn 25 s47) (fun r49 => rg r49 (if r49 = 0 then bn (m_x12_qDrops s47) (fun s57 => lr33 s57) else stn (sI s47 104 ((gI s47 104) - 1)) (fun s52 => stn (sI s52 105 ((gI s52 105) - 1)) (fun s53 => bn (m_x12_qDropsNots s53) (fun s55 => lr0 s55)))))
def m_x12_qGoesOnTest_L33 (lr0 : MS → Option (Int × MS)) (n : Nat) : MS → Option (Int × MS) := lp (fun _ => none) (m_x12_qGoesOnTest_b33 lr0) n
def m_x12_qGoesOnTest_b0 (lr0 : MS → Option (Int × MS)) (s46 : MS) : Option (Int × MS) :=
  rg (gI s46 5) (if (gI s46 5) = 0 then bn (m_x12_look s46) (fun qr62 => rg qr62.1 (if qr62.1 = 93 then bn (m_x12_qHasSquare qr62.2) (fun r66 => rg r66 (if r66 = 0 then m_x12_qGoesOnTest_J76 qr62.2 else stn (sI qr62.2 2 ((gI qr62.2 2) + 1)) (fun s69 => m_x12_qGoesOnTest_L33 lr0 FU s69))) else m_x12_qGoesOnTest_J76 qr62.2)) else m_x12_qGoesOnTest_J76 s46)
def m_x12_qGoesOnTest_L0 (n : Nat) : MS → Option (Int × MS) := lp (fun _ => none) (m_x12_qGoesOnTest_b0) n
def m_x12_qGoesOnTest (s : MS) : Option (Int × MS) :=
  m_x12_qGoesOnTest_L0 FU s
def m_x12_qTest_J131 (s1 : MS) : Option MS :=
  some s1
def m_x12_qTest_b110 (lr110 : MS → Option MS) (s2 : MS) : Option MS :=
  rg (gI s2 5) (if (gI s2 5) = 0 then rg (gI s2 104) (if (gI s2 104) ≤ 0 then m_x12_qTest_J131 s2 else bn (m_x12_qDrops s2) (fun s8 => lr110 s8)) else m_x12_qTest_J131 s2)
def m_x12_qTest_L110 (n : Nat) : MS → Option MS := lp (fun _ => none) (m_x12_qTest_b110) n
def m_x12_qTest_J106 (lr2 : Int → MS → Option MS) (x11 : Int) (s12 : MS) : Option MS :=
  lr2 x11 s12
def m_x12_qTest_J105 (lr2 : Int → MS → Option MS) (s13 : MS) : Option MS :=
  m_x12_qTest_J106 lr2 0 s13
def m_x12_qTest_b2 (lr2 : Int → MS → Option MS) (x9 : Int) (s10 : MS) : Option MS :=
  rg x9 (if x9 = 0 then m_x12_qTest_L110 FU s10 else rg (gI s10 5) (if (gI s10 5) = 0 then bn (m_x12_look s10) (fun qr20 => rg qr20.1 (if qr20.1 = 91 then bn (m_x12_qOpens 25 (gI qr20.2 2) qr20.2) (fun s44 => stn (sI s44 2 ((gI s44 2) + 1)) (fun s45 => lr2 x9 s45)) else bn (m_x12_isHere 85 3 qr20.2) (fun qr25 => rg qr25.1 (if qr25.1 = 0 then bn (m_x12_qFact qr25.2) (fun s29 => bn (m_x12_qDropsNots s29) (fun s31 => rg (gI s31 5) (if (gI s31 5) = 0 then bn (m_x12_qGoesOnTest s31) (fun qr36 => rg qr36.1 (if qr36.1 = 0 then m_x12_qTest_J105 lr2 qr36.2 else m_x12_qTest_J106 lr2 1 qr36.2)) else m_x12_qTest_J105 lr2 s31))) else bn (m_x12_qOpens 12 (gI qr25.2 2) qr25.2) (fun s40 => bn (m_x12_asks 85 3 s40) (fun s42 => lr2 x9 s42)))))) else m_x12_qTest_L110 FU s10))
