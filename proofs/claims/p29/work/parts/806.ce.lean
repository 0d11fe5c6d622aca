theorem fl_X12_27 : Cond.fieldLink RX12 27 "CloneVolumesModel" "volumeWord" "[C" ∈ lw_gd := zm (lw_g_6 (List.mem_of_getElem? (i := 154) (by decide +kernel))) rfl
theorem fl_X12_30 : Cond.fieldLink RX12 30 "CloneVolumesModel" "cloneWord" "[C" ∈ lw_gd := zm (lw_g_6 (List.mem_of_getElem? (i := 155) (by decide +kernel))) rfl
theorem fl_X12_33 : Cond.fieldLink RX12 33 "CloneVolumesModel" "ofWord" "[C" ∈ lw_gd := zm (lw_g_6 (List.mem_of_getElem? (i := 156) (by decide +kernel))) rfl
theorem fl_X12_36 : Cond.fieldLink RX12 36 "CloneVolumesModel" "putWord" "[C" ∈ lw_gd := zm (lw_g_6 (List.mem_of_getElem? (i := 157) (by decide +kernel))) rfl
theorem fl_X12_39 : Cond.fieldLink RX12 39 "CloneVolumesModel" "removeWord" "[C" ∈ lw_gd := zm (lw_g_6 (List.mem_of_getElem? (i := 158) (by decide +kernel))) rfl
theorem fl_X12_42 : Cond.fieldLink RX12 42 "CloneVolumesModel" "picksWord" "[C" ∈ lw_gd := zm (lw_g_6 (List.mem_of_getElem? (i := 159) (by decide +kernel))) rfl
theorem fl_X12_45 : Cond.fieldLink RX12 45 "CloneVolumesModel" "splitsWord" "[C" ∈ lw_gd := zm (lw_g_6 (List.mem_of_getElem? (i := 160) (by decide +kernel))) rfl
theorem fl_X12_48 : Cond.fieldLink RX12 48 "CloneVolumesModel" "costsWord" "[C" ∈ lw_gd := zm (lw_g_6 (List.mem_of_getElem? (i := 161) (by decide +kernel))) rfl
theorem fl_X12_51 : Cond.fieldLink RX12 51 "CloneVolumesModel" "churnWord" "[C" ∈ lw_gd := zm (lw_g_6 (List.mem_of_getElem? (i := 162) (by decide +kernel))) rfl
theorem eX12_init_91 : decode cX12_init 91 = .ok (.aload_n 0, 1) ∧ decode cX12_init 92 = .ok (.bipush 6, 2) ∧ decode cX12_init 94 = .ok (.newarray .char, 2) ∧ decode cX12_init 96 = .ok (.dup, 1) ∧ decode cX12_init 97 = .ok (.iconst 0, 1) ∧ decode cX12_init 98 = .ok (.bipush 118, 2) ∧ decode cX12_init 100 = .ok (.castore, 1) ∧ decode cX12_init 101 = .ok (.dup, 1) := by decide +kernel
theorem eX12_init_102 : decode cX12_init 102 = .ok (.iconst 1, 1) ∧ decode cX12_init 103 = .ok (.bipush 111, 2) ∧ decode cX12_init 105 = .ok (.castore, 1) ∧ decode cX12_init 106 = .ok (.dup, 1) ∧ decode cX12_init 107 = .ok (.iconst 2, 1) ∧ decode cX12_init 108 = .ok (.bipush 108, 2) ∧ decode cX12_init 110 = .ok (.castore, 1) ∧ decode cX12_init 111 = .ok (.dup, 1) := by decide +kernel
theorem eX12_init_112 : decode cX12_init 112 = .ok (.iconst 3, 1) ∧ decode cX12_init 113 = .ok (.bipush 117, 2) ∧ decode cX12_init 115 = .ok (.castore, 1) ∧ decode cX12_init 116 = .ok (.dup, 1) ∧ decode cX12_init 117 = .ok (.iconst 4, 1) ∧ decode cX12_init 118 = .ok (.bipush 109, 2) ∧ decode cX12_init 120 = .ok (.castore, 1) ∧ decode cX12_init 121 = .ok (.dup, 1) := by decide +kernel
theorem eX12_init_122 : decode cX12_init 122 = .ok (.iconst 5, 1) ∧ decode cX12_init 123 = .ok (.bipush 101, 2) ∧ decode cX12_init 125 = .ok (.castore, 1) ∧ decode cX12_init 126 = .ok (.putfield 27, 3) ∧ decode cX12_init 129 = .ok (.aload_n 0, 1) ∧ decode cX12_init 130 = .ok (.iconst 5, 1) ∧ decode cX12_init 131 = .ok (.newarray .char, 2) ∧ decode cX12_init 133 = .ok (.dup, 1) := by decide +kernel
theorem eX12_init_134 : decode cX12_init 134 = .ok (.iconst 0, 1) ∧ decode cX12_init 135 = .ok (.bipush 99, 2) ∧ decode cX12_init 137 = .ok (.castore, 1) ∧ decode cX12_init 138 = .ok (.dup, 1) ∧ decode cX12_init 139 = .ok (.iconst 1, 1) ∧ decode cX12_init 140 = .ok (.bipush 108, 2) ∧ decode cX12_init 142 = .ok (.castore, 1) ∧ decode cX12_init 143 = .ok (.dup, 1) := by decide +kernel
theorem eX12_init_144 : decode cX12_init 144 = .ok (.iconst 2, 1) ∧ decode cX12_init 145 = .ok (.bipush 111, 2) ∧ decode cX12_init 147 = .ok (.castore, 1) ∧ decode cX12_init 148 = .ok (.dup, 1) ∧ decode cX12_init 149 = .ok (.iconst 3, 1) ∧ decode cX12_init 150 = .ok (.bipush 110, 2) ∧ decode cX12_init 152 = .ok (.castore, 1) ∧ decode cX12_init 153 = .ok (.dup, 1) := by decide +kernel
theorem eX12_init_154 : decode cX12_init 154 = .ok (.iconst 4, 1) ∧ decode cX12_init 155 = .ok (.bipush 101, 2) ∧ decode cX12_init 157 = .ok (.castore, 1) ∧ decode cX12_init 158 = .ok (.putfield 30, 3) ∧ decode cX12_init 161 = .ok (.aload_n 0, 1) ∧ decode cX12_init 162 = .ok (.iconst 2, 1) ∧ decode cX12_init 163 = .ok (.newarray .char, 2) ∧ decode cX12_init 165 = .ok (.dup, 1) := by decide +kernel
theorem eX12_init_166 : decode cX12_init 166 = .ok (.iconst 0, 1) ∧ decode cX12_init 167 = .ok (.bipush 111, 2) ∧ decode cX12_init 169 = .ok (.castore, 1) ∧ decode cX12_init 170 = .ok (.dup, 1) ∧ decode cX12_init 171 = .ok (.iconst 1, 1) ∧ decode cX12_init 172 = .ok (.bipush 102, 2) ∧ decode cX12_init 174 = .ok (.castore, 1) ∧ decode cX12_init 175 = .ok (.putfield 33, 3) := by decide +kernel
theorem eX12_init_178 : decode cX12_init 178 = .ok (.aload_n 0, 1) ∧ decode cX12_init 179 = .ok (.iconst 3, 1) ∧ decode cX12_init 180 = .ok (.newarray .char, 2) ∧ decode cX12_init 182 = .ok (.dup, 1) ∧ decode cX12_init 183 = .ok (.iconst 0, 1) ∧ decode cX12_init 184 = .ok (.bipush 112, 2) ∧ decode cX12_init 186 = .ok (.castore, 1) ∧ decode cX12_init 187 = .ok (.dup, 1) := by decide +kernel
theorem eX12_init_188 : decode cX12_init 188 = .ok (.iconst 1, 1) ∧ decode cX12_init 189 = .ok (.bipush 117, 2) ∧ decode cX12_init 191 = .ok (.castore, 1) ∧ decode cX12_init 192 = .ok (.dup, 1) ∧ decode cX12_init 193 = .ok (.iconst 2, 1) ∧ decode cX12_init 194 = .ok (.bipush 116, 2) ∧ decode cX12_init 196 = .ok (.castore, 1) ∧ decode cX12_init 197 = .ok (.putfield 36, 3) := by decide +kernel
theorem eX12_init_200 : decode cX12_init 200 = .ok (.aload_n 0, 1) ∧ decode cX12_init 201 = .ok (.bipush 6, 2) ∧ decode cX12_init 203 = .ok (.newarray .char, 2) ∧ decode cX12_init 205 = .ok (.dup, 1) ∧ decode cX12_init 206 = .ok (.iconst 0, 1) ∧ decode cX12_init 207 = .ok (.bipush 114, 2) ∧ decode cX12_init 209 = .ok (.castore, 1) ∧ decode cX12_init 210 = .ok (.dup, 1) := by decide +kernel
theorem eX12_init_211 : decode cX12_init 211 = .ok (.iconst 1, 1) ∧ decode cX12_init 212 = .ok (.bipush 101, 2) ∧ decode cX12_init 214 = .ok (.castore, 1) ∧ decode cX12_init 215 = .ok (.dup, 1) ∧ decode cX12_init 216 = .ok (.iconst 2, 1) ∧ decode cX12_init 217 = .ok (.bipush 109, 2) ∧ decode cX12_init 219 = .ok (.castore, 1) ∧ decode cX12_init 220 = .ok (.dup, 1) := by decide +kernel
theorem eX12_init_221 : decode cX12_init 221 = .ok (.iconst 3, 1) ∧ decode cX12_init 222 = .ok (.bipush 111, 2) ∧ decode cX12_init 224 = .ok (.castore, 1) ∧ decode cX12_init 225 = .ok (.dup, 1) ∧ decode cX12_init 226 = .ok (.iconst 4, 1) ∧ decode cX12_init 227 = .ok (.bipush 118, 2) ∧ decode cX12_init 229 = .ok (.castore, 1) ∧ decode cX12_init 230 = .ok (.dup, 1) := by decide +kernel
theorem eX12_init_231 : decode cX12_init 231 = .ok (.iconst 5, 1) ∧ decode cX12_init 232 = .ok (.bipush 101, 2) ∧ decode cX12_init 234 = .ok (.castore, 1) ∧ decode cX12_init 235 = .ok (.putfield 39, 3) ∧ decode cX12_init 238 = .ok (.aload_n 0, 1) ∧ decode cX12_init 239 = .ok (.iconst 5, 1) ∧ decode cX12_init 240 = .ok (.newarray .char, 2) ∧ decode cX12_init 242 = .ok (.dup, 1) := by decide +kernel
theorem eX12_init_243 : decode cX12_init 243 = .ok (.iconst 0, 1) ∧ decode cX12_init 244 = .ok (.bipush 112, 2) ∧ decode cX12_init 246 = .ok (.castore, 1) ∧ decode cX12_init 247 = .ok (.dup, 1) ∧ decode cX12_init 248 = .ok (.iconst 1, 1) ∧ decode cX12_init 249 = .ok (.bipush 105, 2) ∧ decode cX12_init 251 = .ok (.castore, 1) ∧ decode cX12_init 252 = .ok (.dup, 1) := by decide +kernel
theorem eX12_init_253 : decode cX12_init 253 = .ok (.iconst 2, 1) ∧ decode cX12_init 254 = .ok (.bipush 99, 2) ∧ decode cX12_init 256 = .ok (.castore, 1) ∧ decode cX12_init 257 = .ok (.dup, 1) ∧ decode cX12_init 258 = .ok (.iconst 3, 1) ∧ decode cX12_init 259 = .ok (.bipush 107, 2) ∧ decode cX12_init 261 = .ok (.castore, 1) ∧ decode cX12_init 262 = .ok (.dup, 1) := by decide +kernel
theorem eX12_init_263 : decode cX12_init 263 = .ok (.iconst 4, 1) ∧ decode cX12_init 264 = .ok (.bipush 115, 2) ∧ decode cX12_init 266 = .ok (.castore, 1) ∧ decode cX12_init 267 = .ok (.putfield 42, 3) ∧ decode cX12_init 270 = .ok (.aload_n 0, 1) ∧ decode cX12_init 271 = .ok (.bipush 6, 2) ∧ decode cX12_init 273 = .ok (.newarray .char, 2) ∧ decode cX12_init 275 = .ok (.dup, 1) := by decide +kernel
theorem eX12_init_276 : decode cX12_init 276 = .ok (.iconst 0, 1) ∧ decode cX12_init 277 = .ok (.bipush 115, 2) ∧ decode cX12_init 279 = .ok (.castore, 1) ∧ decode cX12_init 280 = .ok (.dup, 1) ∧ decode cX12_init 281 = .ok (.iconst 1, 1) ∧ decode cX12_init 282 = .ok (.bipush 112, 2) ∧ decode cX12_init 284 = .ok (.castore, 1) ∧ decode cX12_init 285 = .ok (.dup, 1) := by decide +kernel
theorem eX12_init_286 : decode cX12_init 286 = .ok (.iconst 2, 1) ∧ decode cX12_init 287 = .ok (.bipush 108, 2) ∧ decode cX12_init 289 = .ok (.castore, 1) ∧ decode cX12_init 290 = .ok (.dup, 1) ∧ decode cX12_init 291 = .ok (.iconst 3, 1) ∧ decode cX12_init 292 = .ok (.bipush 105, 2) ∧ decode cX12_init 294 = .ok (.castore, 1) ∧ decode cX12_init 295 = .ok (.dup, 1) := by decide +kernel
theorem eX12_init_296 : decode cX12_init 296 = .ok (.iconst 4, 1) ∧ decode cX12_init 297 = .ok (.bipush 116, 2) ∧ decode cX12_init 299 = .ok (.castore, 1) ∧ decode cX12_init 300 = .ok (.dup, 1) ∧ decode cX12_init 301 = .ok (.iconst 5, 1) ∧ decode cX12_init 302 = .ok (.bipush 115, 2) ∧ decode cX12_init 304 = .ok (.castore, 1) ∧ decode cX12_init 305 = .ok (.putfield 45, 3) := by decide +kernel
theorem eX12_init_308 : decode cX12_init 308 = .ok (.aload_n 0, 1) ∧ decode cX12_init 309 = .ok (.iconst 5, 1) ∧ decode cX12_init 310 = .ok (.newarray .char, 2) ∧ decode cX12_init 312 = .ok (.dup, 1) ∧ decode cX12_init 313 = .ok (.iconst 0, 1) ∧ decode cX12_init 314 = .ok (.bipush 99, 2) ∧ decode cX12_init 316 = .ok (.castore, 1) ∧ decode cX12_init 317 = .ok (.dup, 1) := by decide +kernel
theorem eX12_init_318 : decode cX12_init 318 = .ok (.iconst 1, 1) ∧ decode cX12_init 319 = .ok (.bipush 111, 2) ∧ decode cX12_init 321 = .ok (.castore, 1) ∧ decode cX12_init 322 = .ok (.dup, 1) ∧ decode cX12_init 323 = .ok (.iconst 2, 1) ∧ decode cX12_init 324 = .ok (.bipush 115, 2) ∧ decode cX12_init 326 = .ok (.castore, 1) ∧ decode cX12_init 327 = .ok (.dup, 1) := by decide +kernel
theorem eX12_init_328 : decode cX12_init 328 = .ok (.iconst 3, 1) ∧ decode cX12_init 329 = .ok (.bipush 116, 2) ∧ decode cX12_init 331 = .ok (.castore, 1) ∧ decode cX12_init 332 = .ok (.dup, 1) ∧ decode cX12_init 333 = .ok (.iconst 4, 1) ∧ decode cX12_init 334 = .ok (.bipush 115, 2) ∧ decode cX12_init 336 = .ok (.castore, 1) ∧ decode cX12_init 337 = .ok (.putfield 48, 3) := by decide +kernel
theorem eX12_init_340 : decode cX12_init 340 = .ok (.aload_n 0, 1) ∧ decode cX12_init 341 = .ok (.iconst 5, 1) ∧ decode cX12_init 342 = .ok (.newarray .char, 2) ∧ decode cX12_init 344 = .ok (.dup, 1) ∧ decode cX12_init 345 = .ok (.iconst 0, 1) ∧ decode cX12_init 346 = .ok (.bipush 99, 2) ∧ decode cX12_init 348 = .ok (.castore, 1) ∧ decode cX12_init 349 = .ok (.dup, 1) := by decide +kernel
theorem eX12_init_350 : decode cX12_init 350 = .ok (.iconst 1, 1) ∧ decode cX12_init 351 = .ok (.bipush 104, 2) ∧ decode cX12_init 353 = .ok (.castore, 1) ∧ decode cX12_init 354 = .ok (.dup, 1) ∧ decode cX12_init 355 = .ok (.iconst 2, 1) ∧ decode cX12_init 356 = .ok (.bipush 117, 2) ∧ decode cX12_init 358 = .ok (.castore, 1) ∧ decode cX12_init 359 = .ok (.dup, 1) := by decide +kernel
theorem eX12_init_360 : decode cX12_init 360 = .ok (.iconst 3, 1) ∧ decode cX12_init 361 = .ok (.bipush 114, 2) ∧ decode cX12_init 363 = .ok (.castore, 1) ∧ decode cX12_init 364 = .ok (.dup, 1) ∧ decode cX12_init 365 = .ok (.iconst 4, 1) ∧ decode cX12_init 366 = .ok (.bipush 110, 2) ∧ decode cX12_init 368 = .ok (.castore, 1) ∧ decode cX12_init 369 = .ok (.putfield 51, 3) := by decide +kernel
set_option maxHeartbeats 4000000 in
set_option maxRecDepth 100000 in
theorem cM_2 {p : Program} {l : Launch} {e : Env} {R : Room} {s : State} {m : MethodId} {args : Array Value} {below : List Frame} {meth : Method} {c : Code} {Q : State → Prop} {D : va_G} {A : Nat → Prop} {ls : Array Slot} {h0 : Nat} {T : va_W} (hx : p.tables.exec = Jvm.exec) (hb : c.code = cX12_init) (ht : ∀ w ∈ lw_gd, w.before args s = true) (hown : s.vm.findClass RX12 = some m.cls) (hin : meth.name = "<init>") (hK : va_K D vwCl (TY D) s) (hA : ∀ q : Nat, s.heap.size ≤ q → A q) (hRc : 80 ≤ R.cells) (hRs : 35050 ≤ R.slots) (hl : lv_has ls 1 [(0, .ref h0)]) {fs : List Value} (hlen : fs.length = 116) {H : Heap} {locs : List Loc} (hP : va_P D vwCl ((h0, .inr (12, fs)) :: T) H) (hD : va_D A ((h0, .inr (12, fs)) :: T)) (hS : va_S A s.heap H locs)
    (kk : ∀ (q_12 : Nat) (q_10 : Nat) (fs' : List Value) (H : Heap) (locs : List Loc), fs' = ((fs.set 13 (.ref q_10)).set 14 (.ref q_12)) → va_P D vwCl ((h0, .inr (12, fs')) :: (q_12, .inl (D.1 14, 5, .inl (fun j => i2 (upZ (upZ (upZ (upZ (upZ (fun _ => 0) 0 99) 1 108) 2 111) 3 110) 4 101 j)))) :: (q_10, .inl (D.1 14, 6, .inl (fun j => i2 (upZ (upZ (upZ (upZ (upZ (upZ (fun _ => 0) 0 118) 1 111) 2 108) 3 117) 4 109) 5 101 j)))) :: T) H → va_D A ((h0, .inr (12, fs')) :: (q_12, .inl (D.1 14, 5, .inl (fun j => i2 (upZ (upZ (upZ (upZ (upZ (fun _ => 0) 0 99) 1 108) 2 111) 3 110) 4 101 j)))) :: (q_10, .inl (D.1 14, 6, .inl (fun j => i2 (upZ (upZ (upZ (upZ (upZ (upZ (fun _ => 0) 0 118) 1 111) 2 108) 3 117) 4 109) 5 101 j)))) :: T) → va_S A s.heap H locs → W p l e R s m args below meth c H locs 6 1627 Q (F0 m 161 ls [])) : W p l e R s m args below meth c H locs 4 1616 Q (F0 m 91 ls []) := by
  refine lv_aload_n hx hb eX12_init_91.1 rfl (lv_at hl 0 rfl) ?_
  refine lv_bipush (v := 6) hx hb eX12_init_91.2.1 (by decide) ?_
  refine va_newa (atype := .char) (a0 := (6, .inl (fun _ => 0))) (ty := .char) (N' := 6) hx hb (ht _ ac_char) rfl hK hP hD hS hA (fun _ => rfl) (by decide) (by decide) (by decide) (Nat.le_trans (Nat.le_of_ble_eq_true rfl) hRc) (Nat.le_trans (Nat.le_of_ble_eq_true rfl) hRs) eX12_init_91.2.2.1 (fun q_10 cA H hK2 hP hD hS => ?_)
  obtain rfl := z_cls_char hK hK2
  refine W.widen (k := 5) (n := 1622) (Nat.le_of_ble_eq_true rfl) (Nat.le_of_ble_eq_true rfl) ?_
  obtain ⟨hP, hD⟩ := z_rot hP hD
  have hP : va_P D vwCl ((h0, .inr (12, fs)) :: (q_10, .inl (D.1 14, 6, .inl (fun _ => i2 0))) :: T) H := hP
  have hD : va_D A ((h0, .inr (12, fs)) :: (q_10, .inl (D.1 14, 6, .inl (fun _ => i2 0))) :: T) := hD
  refine lv_dup hx hb eX12_init_91.2.2.2.1 rfl ?_
  refine lv_iconst (v := 0) hx hb eX12_init_91.2.2.2.2.1 (by decide) ?_
  refine lv_bipush (v := 118) hx hb eX12_init_91.2.2.2.2.2.1 (by decide) ?_
  refine va_cast hx hb hK hP hD hS 1 1 rfl rfl (z_in (by decide) (by decide)) eX12_init_91.2.2.2.2.2.2.1 (fun H locs hP hD hS => ?_)
  rw [c_i2 (k := Int32.toNatClampNeg 0) (c := vp_nar .char 118) (v := 118) (by decide)] at hP hD
  have hP : va_P D vwCl (_ :: (q_10, .inl (_, _, .inl (fun j => i2 (upZ _ 0 118 j)))) :: _) H := hP
  have hD : va_D A (_ :: (q_10, .inl (_, _, .inl (fun j => i2 (upZ _ 0 118 j)))) :: _) := hD
  refine lv_dup hx hb eX12_init_91.2.2.2.2.2.2.2 rfl ?_
  refine lv_iconst (v := 1) hx hb eX12_init_102.1 (by decide) ?_
  refine lv_bipush (v := 111) hx hb eX12_init_102.2.1 (by decide) ?_
  refine va_cast hx hb hK hP hD hS 1 1 rfl rfl (z_in (by decide) (by decide)) eX12_init_102.2.2.1 (fun H locs hP hD hS => ?_)
  rw [c_i2 (k := Int32.toNatClampNeg 1) (c := vp_nar .char 111) (v := 111) (by decide)] at hP hD
  have hP : va_P D vwCl (_ :: (q_10, .inl (_, _, .inl (fun j => i2 (upZ _ 1 111 j)))) :: _) H := hP
  have hD : va_D A (_ :: (q_10, .inl (_, _, .inl (fun j => i2 (upZ _ 1 111 j)))) :: _) := hD
  refine lv_dup hx hb eX12_init_102.2.2.2.1 rfl ?_
  refine lv_iconst (v := 2) hx hb eX12_init_102.2.2.2.2.1 (by decide) ?_
  refine lv_bipush (v := 108) hx hb eX12_init_102.2.2.2.2.2.1 (by decide) ?_
  refine va_cast hx hb hK hP hD hS 1 1 rfl rfl (z_in (by decide) (by decide)) eX12_init_102.2.2.2.2.2.2.1 (fun H locs hP hD hS => ?_)
  rw [c_i2 (k := Int32.toNatClampNeg 2) (c := vp_nar .char 108) (v := 108) (by decide)] at hP hD
  have hP : va_P D vwCl (_ :: (q_10, .inl (_, _, .inl (fun j => i2 (upZ _ 2 108 j)))) :: _) H := hP
  have hD : va_D A (_ :: (q_10, .inl (_, _, .inl (fun j => i2 (upZ _ 2 108 j)))) :: _) := hD
  refine lv_dup hx hb eX12_init_102.2.2.2.2.2.2.2 rfl ?_
  refine lv_iconst (v := 3) hx hb eX12_init_112.1 (by decide) ?_
  refine lv_bipush (v := 117) hx hb eX12_init_112.2.1 (by decide) ?_
  refine va_cast hx hb hK hP hD hS 1 1 rfl rfl (z_in (by decide) (by decide)) eX12_init_112.2.2.1 (fun H locs hP hD hS => ?_)
  rw [c_i2 (k := Int32.toNatClampNeg 3) (c := vp_nar .char 117) (v := 117) (by decide)] at hP hD
  have hP : va_P D vwCl (_ :: (q_10, .inl (_, _, .inl (fun j => i2 (upZ _ 3 117 j)))) :: _) H := hP
  have hD : va_D A (_ :: (q_10, .inl (_, _, .inl (fun j => i2 (upZ _ 3 117 j)))) :: _) := hD
  refine lv_dup hx hb eX12_init_112.2.2.2.1 rfl ?_
  refine lv_iconst (v := 4) hx hb eX12_init_112.2.2.2.2.1 (by decide) ?_
  refine lv_bipush (v := 109) hx hb eX12_init_112.2.2.2.2.2.1 (by decide) ?_
  refine va_cast hx hb hK hP hD hS 1 1 rfl rfl (z_in (by decide) (by decide)) eX12_init_112.2.2.2.2.2.2.1 (fun H locs hP hD hS => ?_)
  rw [c_i2 (k := Int32.toNatClampNeg 4) (c := vp_nar .char 109) (v := 109) (by decide)] at hP hD
  have hP : va_P D vwCl (_ :: (q_10, .inl (_, _, .inl (fun j => i2 (upZ _ 4 109 j)))) :: _) H := hP
  have hD : va_D A (_ :: (q_10, .inl (_, _, .inl (fun j => i2 (upZ _ 4 109 j)))) :: _) := hD
  refine lv_dup hx hb eX12_init_112.2.2.2.2.2.2.2 rfl ?_
  refine lv_iconst (v := 5) hx hb eX12_init_122.1 (by decide) ?_
  refine lv_bipush (v := 101) hx hb eX12_init_122.2.1 (by decide) ?_
  refine va_cast hx hb hK hP hD hS 1 1 rfl rfl (z_in (by decide) (by decide)) eX12_init_122.2.2.1 (fun H locs hP hD hS => ?_)
  rw [c_i2 (k := Int32.toNatClampNeg 5) (c := vp_nar .char 101) (v := 101) (by decide)] at hP hD
  have hP : va_P D vwCl (_ :: (q_10, .inl (_, _, .inl (fun j => i2 (upZ _ 5 101 j)))) :: _) H := hP
  have hD : va_D A (_ :: (q_10, .inl (_, _, .inl (fun j => i2 (upZ _ 5 101 j)))) :: _) := hD
  refine va_putF (D := D) (ci := 12) (v := .ref q_10) (ty := .array .char) (C := RX12) (T := TX12) (N := 116) hx hb ht inX12 tyX12 tyX12_ok nmX12 hown hK hP hD hS 0 rfl rfl 13 (by decide) (ht (.fieldLink RX12 27 "CloneVolumesModel" "volumeWord" "[C") fl_X12_27) (fun _ h9 => h9) rfl hin rfl (by decide +kernel) rfl rfl (by rw [hlen]; decide) eX12_init_122.2.2.2.1 (fun H locs hP hD hS => ?_)
  have hP : va_P D vwCl ((h0, .inr (12, (fs.set 13 (.ref q_10)))) :: _) H := hP
  have hD : va_D A ((h0, .inr (12, (fs.set 13 (.ref q_10)))) :: _) := hD
  generalize hfs_11 : fs.set 13 (.ref q_10) = fs_11 at hP hD
  have hlen : fs_11.length = 116 := by rw [← hfs_11, List.length_set]; exact hlen
  have hP : va_P D vwCl ((h0, .inr (12, fs_11)) :: _) H := hP
  have hD : va_D A ((h0, .inr (12, fs_11)) :: _) := hD
  refine lv_aload_n hx hb eX12_init_122.2.2.2.2.1 rfl (lv_at hl 0 rfl) ?_
  refine lv_iconst (v := 5) hx hb eX12_init_122.2.2.2.2.2.1 (by decide) ?_
  refine va_newa (atype := .char) (a0 := (5, .inl (fun _ => 0))) (ty := .char) (N' := 5) hx hb (ht _ ac_char) rfl hK hP hD hS hA (fun _ => rfl) (by decide) (by decide) (by decide) (Nat.le_trans (Nat.le_of_ble_eq_true rfl) hRc) (Nat.le_trans (Nat.le_of_ble_eq_true rfl) hRs) eX12_init_122.2.2.2.2.2.2.1 (fun q_12 cA H hK2 hP hD hS => ?_)
  obtain rfl := z_cls_char hK hK2
  refine W.widen (k := 6) (n := 1627) (Nat.le_of_ble_eq_true rfl) (Nat.le_of_ble_eq_true rfl) ?_
  obtain ⟨hP, hD⟩ := z_rot hP hD
  have hP : va_P D vwCl ((h0, .inr (12, fs_11)) :: (q_12, .inl (D.1 14, 5, .inl (fun _ => i2 0))) :: _) H := hP
  have hD : va_D A ((h0, .inr (12, fs_11)) :: (q_12, .inl (D.1 14, 5, .inl (fun _ => i2 0))) :: _) := hD
  refine lv_dup hx hb eX12_init_122.2.2.2.2.2.2.2 rfl ?_
  refine lv_iconst (v := 0) hx hb eX12_init_134.1 (by decide) ?_
  refine lv_bipush (v := 99) hx hb eX12_init_134.2.1 (by decide) ?_
  refine va_cast hx hb hK hP hD hS 1 1 rfl rfl (z_in (by decide) (by decide)) eX12_init_134.2.2.1 (fun H locs hP hD hS => ?_)
  rw [c_i2 (k := Int32.toNatClampNeg 0) (c := vp_nar .char 99) (v := 99) (by decide)] at hP hD
  have hP : va_P D vwCl (_ :: (q_12, .inl (_, _, .inl (fun j => i2 (upZ _ 0 99 j)))) :: _) H := hP
  have hD : va_D A (_ :: (q_12, .inl (_, _, .inl (fun j => i2 (upZ _ 0 99 j)))) :: _) := hD
  refine lv_dup hx hb eX12_init_134.2.2.2.1 rfl ?_
  refine lv_iconst (v := 1) hx hb eX12_init_134.2.2.2.2.1 (by decide) ?_
  refine lv_bipush (v := 108) hx hb eX12_init_134.2.2.2.2.2.1 (by decide) ?_
  refine va_cast hx hb hK hP hD hS 1 1 rfl rfl (z_in (by decide) (by decide)) eX12_init_134.2.2.2.2.2.2.1 (fun H locs hP hD hS => ?_)
  rw [c_i2 (k := Int32.toNatClampNeg 1) (c := vp_nar .char 108) (v := 108) (by decide)] at hP hD
  have hP : va_P D vwCl (_ :: (q_12, .inl (_, _, .inl (fun j => i2 (upZ _ 1 108 j)))) :: _) H := hP
  have hD : va_D A (_ :: (q_12, .inl (_, _, .inl (fun j => i2 (upZ _ 1 108 j)))) :: _) := hD
  refine lv_dup hx hb eX12_init_134.2.2.2.2.2.2.2 rfl ?_
  refine lv_iconst (v := 2) hx hb eX12_init_144.1 (by decide) ?_
  refine lv_bipush (v := 111) hx hb eX12_init_144.2.1 (by decide) ?_
  refine va_cast hx hb hK hP hD hS 1 1 rfl rfl (z_in (by decide) (by decide)) eX12_init_144.2.2.1 (fun H locs hP hD hS => ?_)
  rw [c_i2 (k := Int32.toNatClampNeg 2) (c := vp_nar .char 111) (v := 111) (by decide)] at hP hD
  have hP : va_P D vwCl (_ :: (q_12, .inl (_, _, .inl (fun j => i2 (upZ _ 2 111 j)))) :: _) H := hP
  have hD : va_D A (_ :: (q_12, .inl (_, _, .inl (fun j => i2 (upZ _ 2 111 j)))) :: _) := hD
  refine lv_dup hx hb eX12_init_144.2.2.2.1 rfl ?_
  refine lv_iconst (v := 3) hx hb eX12_init_144.2.2.2.2.1 (by decide) ?_
  refine lv_bipush (v := 110) hx hb eX12_init_144.2.2.2.2.2.1 (by decide) ?_
  refine va_cast hx hb hK hP hD hS 1 1 rfl rfl (z_in (by decide) (by decide)) eX12_init_144.2.2.2.2.2.2.1 (fun H locs hP hD hS => ?_)
  rw [c_i2 (k := Int32.toNatClampNeg 3) (c := vp_nar .char 110) (v := 110) (by decide)] at hP hD
  have hP : va_P D vwCl (_ :: (q_12, .inl (_, _, .inl (fun j => i2 (upZ _ 3 110 j)))) :: _) H := hP
  have hD : va_D A (_ :: (q_12, .inl (_, _, .inl (fun j => i2 (upZ _ 3 110 j)))) :: _) := hD
  refine lv_dup hx hb eX12_init_144.2.2.2.2.2.2.2 rfl ?_
  refine lv_iconst (v := 4) hx hb eX12_init_154.1 (by decide) ?_
  refine lv_bipush (v := 101) hx hb eX12_init_154.2.1 (by decide) ?_
  refine va_cast hx hb hK hP hD hS 1 1 rfl rfl (z_in (by decide) (by decide)) eX12_init_154.2.2.1 (fun H locs hP hD hS => ?_)
  rw [c_i2 (k := Int32.toNatClampNeg 4) (c := vp_nar .char 101) (v := 101) (by decide)] at hP hD
  have hP : va_P D vwCl (_ :: (q_12, .inl (_, _, .inl (fun j => i2 (upZ _ 4 101 j)))) :: _) H := hP
  have hD : va_D A (_ :: (q_12, .inl (_, _, .inl (fun j => i2 (upZ _ 4 101 j)))) :: _) := hD
  refine va_putF (D := D) (ci := 12) (v := .ref q_12) (ty := .array .char) (C := RX12) (T := TX12) (N := 116) hx hb ht inX12 tyX12 tyX12_ok nmX12 hown hK hP hD hS 0 rfl rfl 14 (by decide) (ht (.fieldLink RX12 30 "CloneVolumesModel" "cloneWord" "[C") fl_X12_30) (fun _ h9 => h9) rfl hin rfl (by decide +kernel) rfl rfl (by rw [hlen]; decide) eX12_init_154.2.2.2.1 (fun H locs hP hD hS => ?_)
  have hP : va_P D vwCl ((h0, .inr (12, (fs_11.set 14 (.ref q_12)))) :: _) H := hP
  have hD : va_D A ((h0, .inr (12, (fs_11.set 14 (.ref q_12)))) :: _) := hD
  generalize hfs_13 : fs_11.set 14 (.ref q_12) = fs_13 at hP hD
  have hlen : fs_13.length = 116 := by rw [← hfs_13, List.length_set]; exact hlen
  have hP : va_P D vwCl ((h0, .inr (12, fs_13)) :: _) H := hP
  have hD : va_D A ((h0, .inr (12, fs_13)) :: _) := hD
  exact kk q_12 q_10 fs_13 _ _ (by rw [← hfs_13, ← hfs_11]) hP hD hS
set_option maxHeartbeats 4000000 in
set_option maxRecDepth 100000 in
theorem cM_3 {p : Program} {l : Launch} {e : Env} {R : Room} {s : State} {m : MethodId} {args : Array Value} {below : List Frame} {meth : Method} {c : Code} {Q : State → Prop} {D : va_G} {A : Nat → Prop} {ls : Array Slot} {h0 : Nat} {T : va_W} (hx : p.tables.exec = Jvm.exec) (hb : c.code = cX12_init) (ht : ∀ w ∈ lw_gd, w.before args s = true) (hown : s.vm.findClass RX12 = some m.cls) (hin : meth.name = "<init>") (hK : va_K D vwCl (TY D) s) (hA : ∀ q : Nat, s.heap.size ≤ q → A q) (hRc : 80 ≤ R.cells) (hRs : 35050 ≤ R.slots) (hl : lv_has ls 1 [(0, .ref h0)]) {fs : List Value} (hlen : fs.length = 116) {H : Heap} {locs : List Loc} (hP : va_P D vwCl ((h0, .inr (12, fs)) :: T) H) (hD : va_D A ((h0, .inr (12, fs)) :: T)) (hS : va_S A s.heap H locs)
    (kk : ∀ (q_18 : Nat) (q_16 : Nat) (q_14 : Nat) (fs' : List Value) (H : Heap) (locs : List Loc), fs' = (((fs.set 15 (.ref q_14)).set 16 (.ref q_16)).set 17 (.ref q_18)) → va_P D vwCl ((h0, .inr (12, fs')) :: (q_18, .inl (D.1 14, 6, .inl (fun j => i2 (upZ (upZ (upZ (upZ (upZ (upZ (fun _ => 0) 0 114) 1 101) 2 109) 3 111) 4 118) 5 101 j)))) :: (q_16, .inl (D.1 14, 3, .inl (fun j => i2 (upZ (upZ (upZ (fun _ => 0) 0 112) 1 117) 2 116 j)))) :: (q_14, .inl (D.1 14, 2, .inl (fun j => i2 (upZ (upZ (fun _ => 0) 0 111) 1 102 j)))) :: T) H → va_D A ((h0, .inr (12, fs')) :: (q_18, .inl (D.1 14, 6, .inl (fun j => i2 (upZ (upZ (upZ (upZ (upZ (upZ (fun _ => 0) 0 114) 1 101) 2 109) 3 111) 4 118) 5 101 j)))) :: (q_16, .inl (D.1 14, 3, .inl (fun j => i2 (upZ (upZ (upZ (fun _ => 0) 0 112) 1 117) 2 116 j)))) :: (q_14, .inl (D.1 14, 2, .inl (fun j => i2 (upZ (upZ (fun _ => 0) 0 111) 1 102 j)))) :: T) → va_S A s.heap H locs → W p l e R s m args below meth c H locs 9 1638 Q (F0 m 238 ls [])) : W p l e R s m args below meth c H locs 6 1627 Q (F0 m 161 ls []) := by
  refine lv_aload_n hx hb eX12_init_154.2.2.2.2.1 rfl (lv_at hl 0 rfl) ?_
  refine lv_iconst (v := 2) hx hb eX12_init_154.2.2.2.2.2.1 (by decide) ?_
  refine va_newa (atype := .char) (a0 := (2, .inl (fun _ => 0))) (ty := .char) (N' := 2) hx hb (ht _ ac_char) rfl hK hP hD hS hA (fun _ => rfl) (by decide) (by decide) (by decide) (Nat.le_trans (Nat.le_of_ble_eq_true rfl) hRc) (Nat.le_trans (Nat.le_of_ble_eq_true rfl) hRs) eX12_init_154.2.2.2.2.2.2.1 (fun q_14 cA H hK2 hP hD hS => ?_)
  obtain rfl := z_cls_char hK hK2
  refine W.widen (k := 7) (n := 1629) (Nat.le_of_ble_eq_true rfl) (Nat.le_of_ble_eq_true rfl) ?_
  obtain ⟨hP, hD⟩ := z_rot hP hD
  have hP : va_P D vwCl ((h0, .inr (12, fs)) :: (q_14, .inl (D.1 14, 2, .inl (fun _ => i2 0))) :: T) H := hP
  have hD : va_D A ((h0, .inr (12, fs)) :: (q_14, .inl (D.1 14, 2, .inl (fun _ => i2 0))) :: T) := hD
  refine lv_dup hx hb eX12_init_154.2.2.2.2.2.2.2 rfl ?_
  refine lv_iconst (v := 0) hx hb eX12_init_166.1 (by decide) ?_
  refine lv_bipush (v := 111) hx hb eX12_init_166.2.1 (by decide) ?_
  refine va_cast hx hb hK hP hD hS 1 1 rfl rfl (z_in (by decide) (by decide)) eX12_init_166.2.2.1 (fun H locs hP hD hS => ?_)
  rw [c_i2 (k := Int32.toNatClampNeg 0) (c := vp_nar .char 111) (v := 111) (by decide)] at hP hD
  have hP : va_P D vwCl (_ :: (q_14, .inl (_, _, .inl (fun j => i2 (upZ _ 0 111 j)))) :: _) H := hP
  have hD : va_D A (_ :: (q_14, .inl (_, _, .inl (fun j => i2 (upZ _ 0 111 j)))) :: _) := hD
  refine lv_dup hx hb eX12_init_166.2.2.2.1 rfl ?_
  refine lv_iconst (v := 1) hx hb eX12_init_166.2.2.2.2.1 (by decide) ?_
  refine lv_bipush (v := 102) hx hb eX12_init_166.2.2.2.2.2.1 (by decide) ?_
  refine va_cast hx hb hK hP hD hS 1 1 rfl rfl (z_in (by decide) (by decide)) eX12_init_166.2.2.2.2.2.2.1 (fun H locs hP hD hS => ?_)
  rw [c_i2 (k := Int32.toNatClampNeg 1) (c := vp_nar .char 102) (v := 102) (by decide)] at hP hD
  have hP : va_P D vwCl (_ :: (q_14, .inl (_, _, .inl (fun j => i2 (upZ _ 1 102 j)))) :: _) H := hP
  have hD : va_D A (_ :: (q_14, .inl (_, _, .inl (fun j => i2 (upZ _ 1 102 j)))) :: _) := hD
  refine va_putF (D := D) (ci := 12) (v := .ref q_14) (ty := .array .char) (C := RX12) (T := TX12) (N := 116) hx hb ht inX12 tyX12 tyX12_ok nmX12 hown hK hP hD hS 0 rfl rfl 15 (by decide) (ht (.fieldLink RX12 33 "CloneVolumesModel" "ofWord" "[C") fl_X12_33) (fun _ h9 => h9) rfl hin rfl (by decide +kernel) rfl rfl (by rw [hlen]; decide) eX12_init_166.2.2.2.2.2.2.2 (fun H locs hP hD hS => ?_)
  have hP : va_P D vwCl ((h0, .inr (12, (fs.set 15 (.ref q_14)))) :: _) H := hP
  have hD : va_D A ((h0, .inr (12, (fs.set 15 (.ref q_14)))) :: _) := hD
  generalize hfs_15 : fs.set 15 (.ref q_14) = fs_15 at hP hD
  have hlen : fs_15.length = 116 := by rw [← hfs_15, List.length_set]; exact hlen
  have hP : va_P D vwCl ((h0, .inr (12, fs_15)) :: _) H := hP
  have hD : va_D A ((h0, .inr (12, fs_15)) :: _) := hD
  refine lv_aload_n hx hb eX12_init_178.1 rfl (lv_at hl 0 rfl) ?_
  refine lv_iconst (v := 3) hx hb eX12_init_178.2.1 (by decide) ?_
  refine va_newa (atype := .char) (a0 := (3, .inl (fun _ => 0))) (ty := .char) (N' := 3) hx hb (ht _ ac_char) rfl hK hP hD hS hA (fun _ => rfl) (by decide) (by decide) (by decide) (Nat.le_trans (Nat.le_of_ble_eq_true rfl) hRc) (Nat.le_trans (Nat.le_of_ble_eq_true rfl) hRs) eX12_init_178.2.2.1 (fun q_16 cA H hK2 hP hD hS => ?_)
  obtain rfl := z_cls_char hK hK2
  refine W.widen (k := 8) (n := 1632) (Nat.le_of_ble_eq_true rfl) (Nat.le_of_ble_eq_true rfl) ?_
  obtain ⟨hP, hD⟩ := z_rot hP hD
  have hP : va_P D vwCl ((h0, .inr (12, fs_15)) :: (q_16, .inl (D.1 14, 3, .inl (fun _ => i2 0))) :: _) H := hP
  have hD : va_D A ((h0, .inr (12, fs_15)) :: (q_16, .inl (D.1 14, 3, .inl (fun _ => i2 0))) :: _) := hD
  refine lv_dup hx hb eX12_init_178.2.2.2.1 rfl ?_
  refine lv_iconst (v := 0) hx hb eX12_init_178.2.2.2.2.1 (by decide) ?_
  refine lv_bipush (v := 112) hx hb eX12_init_178.2.2.2.2.2.1 (by decide) ?_
  refine va_cast hx hb hK hP hD hS 1 1 rfl rfl (z_in (by decide) (by decide)) eX12_init_178.2.2.2.2.2.2.1 (fun H locs hP hD hS => ?_)
  rw [c_i2 (k := Int32.toNatClampNeg 0) (c := vp_nar .char 112) (v := 112) (by decide)] at hP hD
  have hP : va_P D vwCl (_ :: (q_16, .inl (_, _, .inl (fun j => i2 (upZ _ 0 112 j)))) :: _) H := hP
  have hD : va_D A (_ :: (q_16, .inl (_, _, .inl (fun j => i2 (upZ _ 0 112 j)))) :: _) := hD
  refine lv_dup hx hb eX12_init_178.2.2.2.2.2.2.2 rfl ?_
  refine lv_iconst (v := 1) hx hb eX12_init_188.1 (by decide) ?_
  refine lv_bipush (v := 117) hx hb eX12_init_188.2.1 (by decide) ?_
  refine va_cast hx hb hK hP hD hS 1 1 rfl rfl (z_in (by decide) (by decide)) eX12_init_188.2.2.1 (fun H locs hP hD hS => ?_)
  rw [c_i2 (k := Int32.toNatClampNeg 1) (c := vp_nar .char 117) (v := 117) (by decide)] at hP hD
  have hP : va_P D vwCl (_ :: (q_16, .inl (_, _, .inl (fun j => i2 (upZ _ 1 117 j)))) :: _) H := hP
  have hD : va_D A (_ :: (q_16, .inl (_, _, .inl (fun j => i2 (upZ _ 1 117 j)))) :: _) := hD
  refine lv_dup hx hb eX12_init_188.2.2.2.1 rfl ?_
  refine lv_iconst (v := 2) hx hb eX12_init_188.2.2.2.2.1 (by decide) ?_
  refine lv_bipush (v := 116) hx hb eX12_init_188.2.2.2.2.2.1 (by decide) ?_
  refine va_cast hx hb hK hP hD hS 1 1 rfl rfl (z_in (by decide) (by decide)) eX12_init_188.2.2.2.2.2.2.1 (fun H locs hP hD hS => ?_)
  rw [c_i2 (k := Int32.toNatClampNeg 2) (c := vp_nar .char 116) (v := 116) (by decide)] at hP hD
  have hP : va_P D vwCl (_ :: (q_16, .inl (_, _, .inl (fun j => i2 (upZ _ 2 116 j)))) :: _) H := hP
  have hD : va_D A (_ :: (q_16, .inl (_, _, .inl (fun j => i2 (upZ _ 2 116 j)))) :: _) := hD
  refine va_putF (D := D) (ci := 12) (v := .ref q_16) (ty := .array .char) (C := RX12) (T := TX12) (N := 116) hx hb ht inX12 tyX12 tyX12_ok nmX12 hown hK hP hD hS 0 rfl rfl 16 (by decide) (ht (.fieldLink RX12 36 "CloneVolumesModel" "putWord" "[C") fl_X12_36) (fun _ h9 => h9) rfl hin rfl (by decide +kernel) rfl rfl (by rw [hlen]; decide) eX12_init_188.2.2.2.2.2.2.2 (fun H locs hP hD hS => ?_)
  have hP : va_P D vwCl ((h0, .inr (12, (fs_15.set 16 (.ref q_16)))) :: _) H := hP
  have hD : va_D A ((h0, .inr (12, (fs_15.set 16 (.ref q_16)))) :: _) := hD
  generalize hfs_17 : fs_15.set 16 (.ref q_16) = fs_17 at hP hD
  have hlen : fs_17.length = 116 := by rw [← hfs_17, List.length_set]; exact hlen
  have hP : va_P D vwCl ((h0, .inr (12, fs_17)) :: _) H := hP
  have hD : va_D A ((h0, .inr (12, fs_17)) :: _) := hD
  refine lv_aload_n hx hb eX12_init_200.1 rfl (lv_at hl 0 rfl) ?_
  refine lv_bipush (v := 6) hx hb eX12_init_200.2.1 (by decide) ?_
  refine va_newa (atype := .char) (a0 := (6, .inl (fun _ => 0))) (ty := .char) (N' := 6) hx hb (ht _ ac_char) rfl hK hP hD hS hA (fun _ => rfl) (by decide) (by decide) (by decide) (Nat.le_trans (Nat.le_of_ble_eq_true rfl) hRc) (Nat.le_trans (Nat.le_of_ble_eq_true rfl) hRs) eX12_init_200.2.2.1 (fun q_18 cA H hK2 hP hD hS => ?_)
  obtain rfl := z_cls_char hK hK2
  refine W.widen (k := 9) (n := 1638) (Nat.le_of_ble_eq_true rfl) (Nat.le_of_ble_eq_true rfl) ?_
  obtain ⟨hP, hD⟩ := z_rot hP hD
  have hP : va_P D vwCl ((h0, .inr (12, fs_17)) :: (q_18, .inl (D.1 14, 6, .inl (fun _ => i2 0))) :: _) H := hP
  have hD : va_D A ((h0, .inr (12, fs_17)) :: (q_18, .inl (D.1 14, 6, .inl (fun _ => i2 0))) :: _) := hD
  refine lv_dup hx hb eX12_init_200.2.2.2.1 rfl ?_
  refine lv_iconst (v := 0) hx hb eX12_init_200.2.2.2.2.1 (by decide) ?_
  refine lv_bipush (v := 114) hx hb eX12_init_200.2.2.2.2.2.1 (by decide) ?_
  refine va_cast hx hb hK hP hD hS 1 1 rfl rfl (z_in (by decide) (by decide)) eX12_init_200.2.2.2.2.2.2.1 (fun H locs hP hD hS => ?_)
  rw [c_i2 (k := Int32.toNatClampNeg 0) (c := vp_nar .char 114) (v := 114) (by decide)] at hP hD
  have hP : va_P D vwCl (_ :: (q_18, .inl (_, _, .inl (fun j => i2 (upZ _ 0 114 j)))) :: _) H := hP
  have hD : va_D A (_ :: (q_18, .inl (_, _, .inl (fun j => i2 (upZ _ 0 114 j)))) :: _) := hD
  refine lv_dup hx hb eX12_init_200.2.2.2.2.2.2.2 rfl ?_
  refine lv_iconst (v := 1) hx hb eX12_init_211.1 (by decide) ?_
  refine lv_bipush (v := 101) hx hb eX12_init_211.2.1 (by decide) ?_
  refine va_cast hx hb hK hP hD hS 1 1 rfl rfl (z_in (by decide) (by decide)) eX12_init_211.2.2.1 (fun H locs hP hD hS => ?_)
  rw [c_i2 (k := Int32.toNatClampNeg 1) (c := vp_nar .char 101) (v := 101) (by decide)] at hP hD
  have hP : va_P D vwCl (_ :: (q_18, .inl (_, _, .inl (fun j => i2 (upZ _ 1 101 j)))) :: _) H := hP
  have hD : va_D A (_ :: (q_18, .inl (_, _, .inl (fun j => i2 (upZ _ 1 101 j)))) :: _) := hD
  refine lv_dup hx hb eX12_init_211.2.2.2.1 rfl ?_
  refine lv_iconst (v := 2) hx hb eX12_init_211.2.2.2.2.1 (by decide) ?_
  refine lv_bipush (v := 109) hx hb eX12_init_211.2.2.2.2.2.1 (by decide) ?_
  refine va_cast hx hb hK hP hD hS 1 1 rfl rfl (z_in (by decide) (by decide)) eX12_init_211.2.2.2.2.2.2.1 (fun H locs hP hD hS => ?_)
  rw [c_i2 (k := Int32.toNatClampNeg 2) (c := vp_nar .char 109) (v := 109) (by decide)] at hP hD
  have hP : va_P D vwCl (_ :: (q_18, .inl (_, _, .inl (fun j => i2 (upZ _ 2 109 j)))) :: _) H := hP
  have hD : va_D A (_ :: (q_18, .inl (_, _, .inl (fun j => i2 (upZ _ 2 109 j)))) :: _) := hD
  refine lv_dup hx hb eX12_init_211.2.2.2.2.2.2.2 rfl ?_
  refine lv_iconst (v := 3) hx hb eX12_init_221.1 (by decide) ?_
  refine lv_bipush (v := 111) hx hb eX12_init_221.2.1 (by decide) ?_
  refine va_cast hx hb hK hP hD hS 1 1 rfl rfl (z_in (by decide) (by decide)) eX12_init_221.2.2.1 (fun H locs hP hD hS => ?_)
  rw [c_i2 (k := Int32.toNatClampNeg 3) (c := vp_nar .char 111) (v := 111) (by decide)] at hP hD
  have hP : va_P D vwCl (_ :: (q_18, .inl (_, _, .inl (fun j => i2 (upZ _ 3 111 j)))) :: _) H := hP
  have hD : va_D A (_ :: (q_18, .inl (_, _, .inl (fun j => i2 (upZ _ 3 111 j)))) :: _) := hD
  refine lv_dup hx hb eX12_init_221.2.2.2.1 rfl ?_
  refine lv_iconst (v := 4) hx hb eX12_init_221.2.2.2.2.1 (by decide) ?_
  refine lv_bipush (v := 118) hx hb eX12_init_221.2.2.2.2.2.1 (by decide) ?_
  refine va_cast hx hb hK hP hD hS 1 1 rfl rfl (z_in (by decide) (by decide)) eX12_init_221.2.2.2.2.2.2.1 (fun H locs hP hD hS => ?_)
  rw [c_i2 (k := Int32.toNatClampNeg 4) (c := vp_nar .char 118) (v := 118) (by decide)] at hP hD
  have hP : va_P D vwCl (_ :: (q_18, .inl (_, _, .inl (fun j => i2 (upZ _ 4 118 j)))) :: _) H := hP
  have hD : va_D A (_ :: (q_18, .inl (_, _, .inl (fun j => i2 (upZ _ 4 118 j)))) :: _) := hD
  refine lv_dup hx hb eX12_init_221.2.2.2.2.2.2.2 rfl ?_
  refine lv_iconst (v := 5) hx hb eX12_init_231.1 (by decide) ?_
  refine lv_bipush (v := 101) hx hb eX12_init_231.2.1 (by decide) ?_
  refine va_cast hx hb hK hP hD hS 1 1 rfl rfl (z_in (by decide) (by decide)) eX12_init_231.2.2.1 (fun H locs hP hD hS => ?_)
  rw [c_i2 (k := Int32.toNatClampNeg 5) (c := vp_nar .char 101) (v := 101) (by decide)] at hP hD
  have hP : va_P D vwCl (_ :: (q_18, .inl (_, _, .inl (fun j => i2 (upZ _ 5 101 j)))) :: _) H := hP
  have hD : va_D A (_ :: (q_18, .inl (_, _, .inl (fun j => i2 (upZ _ 5 101 j)))) :: _) := hD
  refine va_putF (D := D) (ci := 12) (v := .ref q_18) (ty := .array .char) (C := RX12) (T := TX12) (N := 116) hx hb ht inX12 tyX12 tyX12_ok nmX12 hown hK hP hD hS 0 rfl rfl 17 (by decide) (ht (.fieldLink RX12 39 "CloneVolumesModel" "removeWord" "[C") fl_X12_39) (fun _ h9 => h9) rfl hin rfl (by decide +kernel) rfl rfl (by rw [hlen]; decide) eX12_init_231.2.2.2.1 (fun H locs hP hD hS => ?_)
  have hP : va_P D vwCl ((h0, .inr (12, (fs_17.set 17 (.ref q_18)))) :: _) H := hP
  have hD : va_D A ((h0, .inr (12, (fs_17.set 17 (.ref q_18)))) :: _) := hD
  generalize hfs_19 : fs_17.set 17 (.ref q_18) = fs_19 at hP hD
  have hlen : fs_19.length = 116 := by rw [← hfs_19, List.length_set]; exact hlen
  have hP : va_P D vwCl ((h0, .inr (12, fs_19)) :: _) H := hP
  have hD : va_D A ((h0, .inr (12, fs_19)) :: _) := hD
  exact kk q_18 q_16 q_14 fs_19 _ _ (by rw [← hfs_19, ← hfs_17, ← hfs_15]) hP hD hS
set_option maxHeartbeats 4000000 in
set_option maxRecDepth 100000 in
theorem cM_4 {p : Program} {l : Launch} {e : Env} {R : Room} {s : State} {m : MethodId} {args : Array Value} {below : List Frame} {meth : Method} {c : Code} {Q : State → Prop} {D : va_G} {A : Nat → Prop} {ls : Array Slot} {h0 : Nat} {T : va_W} (hx : p.tables.exec = Jvm.exec) (hb : c.code = cX12_init) (ht : ∀ w ∈ lw_gd, w.before args s = true) (hown : s.vm.findClass RX12 = some m.cls) (hin : meth.name = "<init>") (hK : va_K D vwCl (TY D) s) (hA : ∀ q : Nat, s.heap.size ≤ q → A q) (hRc : 80 ≤ R.cells) (hRs : 35050 ≤ R.slots) (hl : lv_has ls 1 [(0, .ref h0)]) {fs : List Value} (hlen : fs.length = 116) {H : Heap} {locs : List Loc} (hP : va_P D vwCl ((h0, .inr (12, fs)) :: T) H) (hD : va_D A ((h0, .inr (12, fs)) :: T)) (hS : va_S A s.heap H locs)
    (kk : ∀ (q_22 : Nat) (q_20 : Nat) (fs' : List Value) (H : Heap) (locs : List Loc), fs' = ((fs.set 18 (.ref q_20)).set 19 (.ref q_22)) → va_P D vwCl ((h0, .inr (12, fs')) :: (q_22, .inl (D.1 14, 6, .inl (fun j => i2 (upZ (upZ (upZ (upZ (upZ (upZ (fun _ => 0) 0 115) 1 112) 2 108) 3 105) 4 116) 5 115 j)))) :: (q_20, .inl (D.1 14, 5, .inl (fun j => i2 (upZ (upZ (upZ (upZ (upZ (fun _ => 0) 0 112) 1 105) 2 99) 3 107) 4 115 j)))) :: T) H → va_D A ((h0, .inr (12, fs')) :: (q_22, .inl (D.1 14, 6, .inl (fun j => i2 (upZ (upZ (upZ (upZ (upZ (upZ (fun _ => 0) 0 115) 1 112) 2 108) 3 105) 4 116) 5 115 j)))) :: (q_20, .inl (D.1 14, 5, .inl (fun j => i2 (upZ (upZ (upZ (upZ (upZ (fun _ => 0) 0 112) 1 105) 2 99) 3 107) 4 115 j)))) :: T) → va_S A s.heap H locs → W p l e R s m args below meth c H locs 11 1649 Q (F0 m 308 ls [])) : W p l e R s m args below meth c H locs 9 1638 Q (F0 m 238 ls []) := by
  refine lv_aload_n hx hb eX12_init_231.2.2.2.2.1 rfl (lv_at hl 0 rfl) ?_
  refine lv_iconst (v := 5) hx hb eX12_init_231.2.2.2.2.2.1 (by decide) ?_
  refine va_newa (atype := .char) (a0 := (5, .inl (fun _ => 0))) (ty := .char) (N' := 5) hx hb (ht _ ac_char) rfl hK hP hD hS hA (fun _ => rfl) (by decide) (by decide) (by decide) (Nat.le_trans (Nat.le_of_ble_eq_true rfl) hRc) (Nat.le_trans (Nat.le_of_ble_eq_true rfl) hRs) eX12_init_231.2.2.2.2.2.2.1 (fun q_20 cA H hK2 hP hD hS => ?_)
  obtain rfl := z_cls_char hK hK2
  refine W.widen (k := 10) (n := 1643) (Nat.le_of_ble_eq_true rfl) (Nat.le_of_ble_eq_true rfl) ?_
  obtain ⟨hP, hD⟩ := z_rot hP hD
  have hP : va_P D vwCl ((h0, .inr (12, fs)) :: (q_20, .inl (D.1 14, 5, .inl (fun _ => i2 0))) :: T) H := hP
  have hD : va_D A ((h0, .inr (12, fs)) :: (q_20, .inl (D.1 14, 5, .inl (fun _ => i2 0))) :: T) := hD
  refine lv_dup hx hb eX12_init_231.2.2.2.2.2.2.2 rfl ?_
  refine lv_iconst (v := 0) hx hb eX12_init_243.1 (by decide) ?_
  refine lv_bipush (v := 112) hx hb eX12_init_243.2.1 (by decide) ?_
  refine va_cast hx hb hK hP hD hS 1 1 rfl rfl (z_in (by decide) (by decide)) eX12_init_243.2.2.1 (fun H locs hP hD hS => ?_)
  rw [c_i2 (k := Int32.toNatClampNeg 0) (c := vp_nar .char 112) (v := 112) (by decide)] at hP hD
  have hP : va_P D vwCl (_ :: (q_20, .inl (_, _, .inl (fun j => i2 (upZ _ 0 112 j)))) :: _) H := hP
  have hD : va_D A (_ :: (q_20, .inl (_, _, .inl (fun j => i2 (upZ _ 0 112 j)))) :: _) := hD
  refine lv_dup hx hb eX12_init_243.2.2.2.1 rfl ?_
  refine lv_iconst (v := 1) hx hb eX12_init_243.2.2.2.2.1 (by decide) ?_
  refine lv_bipush (v := 105) hx hb eX12_init_243.2.2.2.2.2.1 (by decide) ?_
  refine va_cast hx hb hK hP hD hS 1 1 rfl rfl (z_in (by decide) (by decide)) eX12_init_243.2.2.2.2.2.2.1 (fun H locs hP hD hS => ?_)
  rw [c_i2 (k := Int32.toNatClampNeg 1) (c := vp_nar .char 105) (v := 105) (by decide)] at hP hD
  have hP : va_P D vwCl (_ :: (q_20, .inl (_, _, .inl (fun j => i2 (upZ _ 1 105 j)))) :: _) H := hP
  have hD : va_D A (_ :: (q_20, .inl (_, _, .inl (fun j => i2 (upZ _ 1 105 j)))) :: _) := hD
  refine lv_dup hx hb eX12_init_243.2.2.2.2.2.2.2 rfl ?_
  refine lv_iconst (v := 2) hx hb eX12_init_253.1 (by decide) ?_
  refine lv_bipush (v := 99) hx hb eX12_init_253.2.1 (by decide) ?_
  refine va_cast hx hb hK hP hD hS 1 1 rfl rfl (z_in (by decide) (by decide)) eX12_init_253.2.2.1 (fun H locs hP hD hS => ?_)
  rw [c_i2 (k := Int32.toNatClampNeg 2) (c := vp_nar .char 99) (v := 99) (by decide)] at hP hD
  have hP : va_P D vwCl (_ :: (q_20, .inl (_, _, .inl (fun j => i2 (upZ _ 2 99 j)))) :: _) H := hP
  have hD : va_D A (_ :: (q_20, .inl (_, _, .inl (fun j => i2 (upZ _ 2 99 j)))) :: _) := hD
  refine lv_dup hx hb eX12_init_253.2.2.2.1 rfl ?_
  refine lv_iconst (v := 3) hx hb eX12_init_253.2.2.2.2.1 (by decide) ?_
  refine lv_bipush (v := 107) hx hb eX12_init_253.2.2.2.2.2.1 (by decide) ?_
  refine va_cast hx hb hK hP hD hS 1 1 rfl rfl (z_in (by decide) (by decide)) eX12_init_253.2.2.2.2.2.2.1 (fun H locs hP hD hS => ?_)
  rw [c_i2 (k := Int32.toNatClampNeg 3) (c := vp_nar .char 107) (v := 107) (by decide)] at hP hD
  have hP : va_P D vwCl (_ :: (q_20, .inl (_, _, .inl (fun j => i2 (upZ _ 3 107 j)))) :: _) H := hP
  have hD : va_D A (_ :: (q_20, .inl (_, _, .inl (fun j => i2 (upZ _ 3 107 j)))) :: _) := hD
  refine lv_dup hx hb eX12_init_253.2.2.2.2.2.2.2 rfl ?_
  refine lv_iconst (v := 4) hx hb eX12_init_263.1 (by decide) ?_
  refine lv_bipush (v := 115) hx hb eX12_init_263.2.1 (by decide) ?_
  refine va_cast hx hb hK hP hD hS 1 1 rfl rfl (z_in (by decide) (by decide)) eX12_init_263.2.2.1 (fun H locs hP hD hS => ?_)
  rw [c_i2 (k := Int32.toNatClampNeg 4) (c := vp_nar .char 115) (v := 115) (by decide)] at hP hD
  have hP : va_P D vwCl (_ :: (q_20, .inl (_, _, .inl (fun j => i2 (upZ _ 4 115 j)))) :: _) H := hP
  have hD : va_D A (_ :: (q_20, .inl (_, _, .inl (fun j => i2 (upZ _ 4 115 j)))) :: _) := hD
  refine va_putF (D := D) (ci := 12) (v := .ref q_20) (ty := .array .char) (C := RX12) (T := TX12) (N := 116) hx hb ht inX12 tyX12 tyX12_ok nmX12 hown hK hP hD hS 0 rfl rfl 18 (by decide) (ht (.fieldLink RX12 42 "CloneVolumesModel" "picksWord" "[C") fl_X12_42) (fun _ h9 => h9) rfl hin rfl (by decide +kernel) rfl rfl (by rw [hlen]; decide) eX12_init_263.2.2.2.1 (fun H locs hP hD hS => ?_)
  have hP : va_P D vwCl ((h0, .inr (12, (fs.set 18 (.ref q_20)))) :: _) H := hP
  have hD : va_D A ((h0, .inr (12, (fs.set 18 (.ref q_20)))) :: _) := hD
  generalize hfs_21 : fs.set 18 (.ref q_20) = fs_21 at hP hD
  have hlen : fs_21.length = 116 := by rw [← hfs_21, List.length_set]; exact hlen
  have hP : va_P D vwCl ((h0, .inr (12, fs_21)) :: _) H := hP
  have hD : va_D A ((h0, .inr (12, fs_21)) :: _) := hD
  refine lv_aload_n hx hb eX12_init_263.2.2.2.2.1 rfl (lv_at hl 0 rfl) ?_
  refine lv_bipush (v := 6) hx hb eX12_init_263.2.2.2.2.2.1 (by decide) ?_
  refine va_newa (atype := .char) (a0 := (6, .inl (fun _ => 0))) (ty := .char) (N' := 6) hx hb (ht _ ac_char) rfl hK hP hD hS hA (fun _ => rfl) (by decide) (by decide) (by decide) (Nat.le_trans (Nat.le_of_ble_eq_true rfl) hRc) (Nat.le_trans (Nat.le_of_ble_eq_true rfl) hRs) eX12_init_263.2.2.2.2.2.2.1 (fun q_22 cA H hK2 hP hD hS => ?_)
  obtain rfl := z_cls_char hK hK2
  refine W.widen (k := 11) (n := 1649) (Nat.le_of_ble_eq_true rfl) (Nat.le_of_ble_eq_true rfl) ?_
  obtain ⟨hP, hD⟩ := z_rot hP hD
  have hP : va_P D vwCl ((h0, .inr (12, fs_21)) :: (q_22, .inl (D.1 14, 6, .inl (fun _ => i2 0))) :: _) H := hP
  have hD : va_D A ((h0, .inr (12, fs_21)) :: (q_22, .inl (D.1 14, 6, .inl (fun _ => i2 0))) :: _) := hD
  refine lv_dup hx hb eX12_init_263.2.2.2.2.2.2.2 rfl ?_
  refine lv_iconst (v := 0) hx hb eX12_init_276.1 (by decide) ?_
  refine lv_bipush (v := 115) hx hb eX12_init_276.2.1 (by decide) ?_
  refine va_cast hx hb hK hP hD hS 1 1 rfl rfl (z_in (by decide) (by decide)) eX12_init_276.2.2.1 (fun H locs hP hD hS => ?_)
  rw [c_i2 (k := Int32.toNatClampNeg 0) (c := vp_nar .char 115) (v := 115) (by decide)] at hP hD
  have hP : va_P D vwCl (_ :: (q_22, .inl (_, _, .inl (fun j => i2 (upZ _ 0 115 j)))) :: _) H := hP
  have hD : va_D A (_ :: (q_22, .inl (_, _, .inl (fun j => i2 (upZ _ 0 115 j)))) :: _) := hD
  refine lv_dup hx hb eX12_init_276.2.2.2.1 rfl ?_
  refine lv_iconst (v := 1) hx hb eX12_init_276.2.2.2.2.1 (by decide) ?_
  refine lv_bipush (v := 112) hx hb eX12_init_276.2.2.2.2.2.1 (by decide) ?_
  refine va_cast hx hb hK hP hD hS 1 1 rfl rfl (z_in (by decide) (by decide)) eX12_init_276.2.2.2.2.2.2.1 (fun H locs hP hD hS => ?_)
  rw [c_i2 (k := Int32.toNatClampNeg 1) (c := vp_nar .char 112) (v := 112) (by decide)] at hP hD
  have hP : va_P D vwCl (_ :: (q_22, .inl (_, _, .inl (fun j => i2 (upZ _ 1 112 j)))) :: _) H := hP
  have hD : va_D A (_ :: (q_22, .inl (_, _, .inl (fun j => i2 (upZ _ 1 112 j)))) :: _) := hD
  refine lv_dup hx hb eX12_init_276.2.2.2.2.2.2.2 rfl ?_
  refine lv_iconst (v := 2) hx hb eX12_init_286.1 (by decide) ?_
  refine lv_bipush (v := 108) hx hb eX12_init_286.2.1 (by decide) ?_
  refine va_cast hx hb hK hP hD hS 1 1 rfl rfl (z_in (by decide) (by decide)) eX12_init_286.2.2.1 (fun H locs hP hD hS => ?_)
  rw [c_i2 (k := Int32.toNatClampNeg 2) (c := vp_nar .char 108) (v := 108) (by decide)] at hP hD
  have hP : va_P D vwCl (_ :: (q_22, .inl (_, _, .inl (fun j => i2 (upZ _ 2 108 j)))) :: _) H := hP
  have hD : va_D A (_ :: (q_22, .inl (_, _, .inl (fun j => i2 (upZ _ 2 108 j)))) :: _) := hD
  refine lv_dup hx hb eX12_init_286.2.2.2.1 rfl ?_
  refine lv_iconst (v := 3) hx hb eX12_init_286.2.2.2.2.1 (by decide) ?_
  refine lv_bipush (v := 105) hx hb eX12_init_286.2.2.2.2.2.1 (by decide) ?_
  refine va_cast hx hb hK hP hD hS 1 1 rfl rfl (z_in (by decide) (by decide)) eX12_init_286.2.2.2.2.2.2.1 (fun H locs hP hD hS => ?_)
  rw [c_i2 (k := Int32.toNatClampNeg 3) (c := vp_nar .char 105) (v := 105) (by decide)] at hP hD
  have hP : va_P D vwCl (_ :: (q_22, .inl (_, _, .inl (fun j => i2 (upZ _ 3 105 j)))) :: _) H := hP
  have hD : va_D A (_ :: (q_22, .inl (_, _, .inl (fun j => i2 (upZ _ 3 105 j)))) :: _) := hD
  refine lv_dup hx hb eX12_init_286.2.2.2.2.2.2.2 rfl ?_
  refine lv_iconst (v := 4) hx hb eX12_init_296.1 (by decide) ?_
  refine lv_bipush (v := 116) hx hb eX12_init_296.2.1 (by decide) ?_
  refine va_cast hx hb hK hP hD hS 1 1 rfl rfl (z_in (by decide) (by decide)) eX12_init_296.2.2.1 (fun H locs hP hD hS => ?_)
  rw [c_i2 (k := Int32.toNatClampNeg 4) (c := vp_nar .char 116) (v := 116) (by decide)] at hP hD
  have hP : va_P D vwCl (_ :: (q_22, .inl (_, _, .inl (fun j => i2 (upZ _ 4 116 j)))) :: _) H := hP
  have hD : va_D A (_ :: (q_22, .inl (_, _, .inl (fun j => i2 (upZ _ 4 116 j)))) :: _) := hD
  refine lv_dup hx hb eX12_init_296.2.2.2.1 rfl ?_
  refine lv_iconst (v := 5) hx hb eX12_init_296.2.2.2.2.1 (by decide) ?_
  refine lv_bipush (v := 115) hx hb eX12_init_296.2.2.2.2.2.1 (by decide) ?_
  refine va_cast hx hb hK hP hD hS 1 1 rfl rfl (z_in (by decide) (by decide)) eX12_init_296.2.2.2.2.2.2.1 (fun H locs hP hD hS => ?_)
  rw [c_i2 (k := Int32.toNatClampNeg 5) (c := vp_nar .char 115) (v := 115) (by decide)] at hP hD
  have hP : va_P D vwCl (_ :: (q_22, .inl (_, _, .inl (fun j => i2 (upZ _ 5 115 j)))) :: _) H := hP
  have hD : va_D A (_ :: (q_22, .inl (_, _, .inl (fun j => i2 (upZ _ 5 115 j)))) :: _) := hD
  refine va_putF (D := D) (ci := 12) (v := .ref q_22) (ty := .array .char) (C := RX12) (T := TX12) (N := 116) hx hb ht inX12 tyX12 tyX12_ok nmX12 hown hK hP hD hS 0 rfl rfl 19 (by decide) (ht (.fieldLink RX12 45 "CloneVolumesModel" "splitsWord" "[C") fl_X12_45) (fun _ h9 => h9) rfl hin rfl (by decide +kernel) rfl rfl (by rw [hlen]; decide) eX12_init_296.2.2.2.2.2.2.2 (fun H locs hP hD hS => ?_)
  have hP : va_P D vwCl ((h0, .inr (12, (fs_21.set 19 (.ref q_22)))) :: _) H := hP
  have hD : va_D A ((h0, .inr (12, (fs_21.set 19 (.ref q_22)))) :: _) := hD
  generalize hfs_23 : fs_21.set 19 (.ref q_22) = fs_23 at hP hD
  have hlen : fs_23.length = 116 := by rw [← hfs_23, List.length_set]; exact hlen
  have hP : va_P D vwCl ((h0, .inr (12, fs_23)) :: _) H := hP
  have hD : va_D A ((h0, .inr (12, fs_23)) :: _) := hD
  exact kk q_22 q_20 fs_23 _ _ (by rw [← hfs_23, ← hfs_21]) hP hD hS
set_option maxHeartbeats 4000000 in
set_option maxRecDepth 100000 in
theorem cM_5 {p : Program} {l : Launch} {e : Env} {R : Room} {s : State} {m : MethodId} {args : Array Value} {below : List Frame} {meth : Method} {c : Code} {Q : State → Prop} {D : va_G} {A : Nat → Prop} {ls : Array Slot} {h0 : Nat} {T : va_W} (hx : p.tables.exec = Jvm.exec) (hb : c.code = cX12_init) (ht : ∀ w ∈ lw_gd, w.before args s = true) (hown : s.vm.findClass RX12 = some m.cls) (hin : meth.name = "<init>") (hK : va_K D vwCl (TY D) s) (hA : ∀ q : Nat, s.heap.size ≤ q → A q) (hRc : 80 ≤ R.cells) (hRs : 35050 ≤ R.slots) (hl : lv_has ls 1 [(0, .ref h0)]) {fs : List Value} (hlen : fs.length = 116) {H : Heap} {locs : List Loc} (hP : va_P D vwCl ((h0, .inr (12, fs)) :: T) H) (hD : va_D A ((h0, .inr (12, fs)) :: T)) (hS : va_S A s.heap H locs)
    (kk : ∀ (q_26 : Nat) (q_24 : Nat) (fs' : List Value) (H : Heap) (locs : List Loc), fs' = ((fs.set 20 (.ref q_24)).set 21 (.ref q_26)) → va_P D vwCl ((h0, .inr (12, fs')) :: (q_26, .inl (D.1 14, 5, .inl (fun j => i2 (upZ (upZ (upZ (upZ (upZ (fun _ => 0) 0 99) 1 104) 2 117) 3 114) 4 110 j)))) :: (q_24, .inl (D.1 14, 5, .inl (fun j => i2 (upZ (upZ (upZ (upZ (upZ (fun _ => 0) 0 99) 1 111) 2 115) 3 116) 4 115 j)))) :: T) H → va_D A ((h0, .inr (12, fs')) :: (q_26, .inl (D.1 14, 5, .inl (fun j => i2 (upZ (upZ (upZ (upZ (upZ (fun _ => 0) 0 99) 1 104) 2 117) 3 114) 4 110 j)))) :: (q_24, .inl (D.1 14, 5, .inl (fun j => i2 (upZ (upZ (upZ (upZ (upZ (fun _ => 0) 0 99) 1 111) 2 115) 3 116) 4 115 j)))) :: T) → va_S A s.heap H locs → W p l e R s m args below meth c H locs 13 1659 Q (F0 m 372 ls [])) : W p l e R s m args below meth c H locs 11 1649 Q (F0 m 308 ls []) := by
  refine lv_aload_n hx hb eX12_init_308.1 rfl (lv_at hl 0 rfl) ?_
  refine lv_iconst (v := 5) hx hb eX12_init_308.2.1 (by decide) ?_
  refine va_newa (atype := .char) (a0 := (5, .inl (fun _ => 0))) (ty := .char) (N' := 5) hx hb (ht _ ac_char) rfl hK hP hD hS hA (fun _ => rfl) (by decide) (by decide) (by decide) (Nat.le_trans (Nat.le_of_ble_eq_true rfl) hRc) (Nat.le_trans (Nat.le_of_ble_eq_true rfl) hRs) eX12_init_308.2.2.1 (fun q_24 cA H hK2 hP hD hS => ?_)
  obtain rfl := z_cls_char hK hK2
  refine W.widen (k := 12) (n := 1654) (Nat.le_of_ble_eq_true rfl) (Nat.le_of_ble_eq_true rfl) ?_
  obtain ⟨hP, hD⟩ := z_rot hP hD
  have hP : va_P D vwCl ((h0, .inr (12, fs)) :: (q_24, .inl (D.1 14, 5, .inl (fun _ => i2 0))) :: T) H := hP
  have hD : va_D A ((h0, .inr (12, fs)) :: (q_24, .inl (D.1 14, 5, .inl (fun _ => i2 0))) :: T) := hD
  refine lv_dup hx hb eX12_init_308.2.2.2.1 rfl ?_
  refine lv_iconst (v := 0) hx hb eX12_init_308.2.2.2.2.1 (by decide) ?_
  refine lv_bipush (v := 99) hx hb eX12_init_308.2.2.2.2.2.1 (by decide) ?_
  refine va_cast hx hb hK hP hD hS 1 1 rfl rfl (z_in (by decide) (by decide)) eX12_init_308.2.2.2.2.2.2.1 (fun H locs hP hD hS => ?_)
  rw [c_i2 (k := Int32.toNatClampNeg 0) (c := vp_nar .char 99) (v := 99) (by decide)] at hP hD
  have hP : va_P D vwCl (_ :: (q_24, .inl (_, _, .inl (fun j => i2 (upZ _ 0 99 j)))) :: _) H := hP
  have hD : va_D A (_ :: (q_24, .inl (_, _, .inl (fun j => i2 (upZ _ 0 99 j)))) :: _) := hD
  refine lv_dup hx hb eX12_init_308.2.2.2.2.2.2.2 rfl ?_
  refine lv_iconst (v := 1) hx hb eX12_init_318.1 (by decide) ?_
  refine lv_bipush (v := 111) hx hb eX12_init_318.2.1 (by decide) ?_
  refine va_cast hx hb hK hP hD hS 1 1 rfl rfl (z_in (by decide) (by decide)) eX12_init_318.2.2.1 (fun H locs hP hD hS => ?_)
  rw [c_i2 (k := Int32.toNatClampNeg 1) (c := vp_nar .char 111) (v := 111) (by decide)] at hP hD
  have hP : va_P D vwCl (_ :: (q_24, .inl (_, _, .inl (fun j => i2 (upZ _ 1 111 j)))) :: _) H := hP
  have hD : va_D A (_ :: (q_24, .inl (_, _, .inl (fun j => i2 (upZ _ 1 111 j)))) :: _) := hD
  refine lv_dup hx hb eX12_init_318.2.2.2.1 rfl ?_
  refine lv_iconst (v := 2) hx hb eX12_init_318.2.2.2.2.1 (by decide) ?_
  refine lv_bipush (v := 115) hx hb eX12_init_318.2.2.2.2.2.1 (by decide) ?_
  refine va_cast hx hb hK hP hD hS 1 1 rfl rfl (z_in (by decide) (by decide)) eX12_init_318.2.2.2.2.2.2.1 (fun H locs hP hD hS => ?_)
  rw [c_i2 (k := Int32.toNatClampNeg 2) (c := vp_nar .char 115) (v := 115) (by decide)] at hP hD
  have hP : va_P D vwCl (_ :: (q_24, .inl (_, _, .inl (fun j => i2 (upZ _ 2 115 j)))) :: _) H := hP
  have hD : va_D A (_ :: (q_24, .inl (_, _, .inl (fun j => i2 (upZ _ 2 115 j)))) :: _) := hD
  refine lv_dup hx hb eX12_init_318.2.2.2.2.2.2.2 rfl ?_
  refine lv_iconst (v := 3) hx hb eX12_init_328.1 (by decide) ?_
  refine lv_bipush (v := 116) hx hb eX12_init_328.2.1 (by decide) ?_
  refine va_cast hx hb hK hP hD hS 1 1 rfl rfl (z_in (by decide) (by decide)) eX12_init_328.2.2.1 (fun H locs hP hD hS => ?_)
  rw [c_i2 (k := Int32.toNatClampNeg 3) (c := vp_nar .char 116) (v := 116) (by decide)] at hP hD
  have hP : va_P D vwCl (_ :: (q_24, .inl (_, _, .inl (fun j => i2 (upZ _ 3 116 j)))) :: _) H := hP
  have hD : va_D A (_ :: (q_24, .inl (_, _, .inl (fun j => i2 (upZ _ 3 116 j)))) :: _) := hD
  refine lv_dup hx hb eX12_init_328.2.2.2.1 rfl ?_
  refine lv_iconst (v := 4) hx hb eX12_init_328.2.2.2.2.1 (by decide) ?_
  refine lv_bipush (v := 115) hx hb eX12_init_328.2.2.2.2.2.1 (by decide) ?_
  refine va_cast hx hb hK hP hD hS 1 1 rfl rfl (z_in (by decide) (by decide)) eX12_init_328.2.2.2.2.2.2.1 (fun H locs hP hD hS => ?_)
  rw [c_i2 (k := Int32.toNatClampNeg 4) (c := vp_nar .char 115) (v := 115) (by decide)] at hP hD
  have hP : va_P D vwCl (_ :: (q_24, .inl (_, _, .inl (fun j => i2 (upZ _ 4 115 j)))) :: _) H := hP
  have hD : va_D A (_ :: (q_24, .inl (_, _, .inl (fun j => i2 (upZ _ 4 115 j)))) :: _) := hD
  refine va_putF (D := D) (ci := 12) (v := .ref q_24) (ty := .array .char) (C := RX12) (T := TX12) (N := 116) hx hb ht inX12 tyX12 tyX12_ok nmX12 hown hK hP hD hS 0 rfl rfl 20 (by decide) (ht (.fieldLink RX12 48 "CloneVolumesModel" "costsWord" "[C") fl_X12_48) (fun _ h9 => h9) rfl hin rfl (by decide +kernel) rfl rfl (by rw [hlen]; decide) eX12_init_328.2.2.2.2.2.2.2 (fun H locs hP hD hS => ?_)
  have hP : va_P D vwCl ((h0, .inr (12, (fs.set 20 (.ref q_24)))) :: _) H := hP
  have hD : va_D A ((h0, .inr (12, (fs.set 20 (.ref q_24)))) :: _) := hD
  generalize hfs_25 : fs.set 20 (.ref q_24) = fs_25 at hP hD
  have hlen : fs_25.length = 116 := by rw [← hfs_25, List.length_set]; exact hlen
  have hP : va_P D vwCl ((h0, .inr (12, fs_25)) :: _) H := hP
  have hD : va_D A ((h0, .inr (12, fs_25)) :: _) := hD
  refine lv_aload_n hx hb eX12_init_340.1 rfl (lv_at hl 0 rfl) ?_
  refine lv_iconst (v := 5) hx hb eX12_init_340.2.1 (by decide) ?_
  refine va_newa (atype := .char) (a0 := (5, .inl (fun _ => 0))) (ty := .char) (N' := 5) hx hb (ht _ ac_char) rfl hK hP hD hS hA (fun _ => rfl) (by decide) (by decide) (by decide) (Nat.le_trans (Nat.le_of_ble_eq_true rfl) hRc) (Nat.le_trans (Nat.le_of_ble_eq_true rfl) hRs) eX12_init_340.2.2.1 (fun q_26 cA H hK2 hP hD hS => ?_)
  obtain rfl := z_cls_char hK hK2
  refine W.widen (k := 13) (n := 1659) (Nat.le_of_ble_eq_true rfl) (Nat.le_of_ble_eq_true rfl) ?_
  obtain ⟨hP, hD⟩ := z_rot hP hD
  have hP : va_P D vwCl ((h0, .inr (12, fs_25)) :: (q_26, .inl (D.1 14, 5, .inl (fun _ => i2 0))) :: _) H := hP
  have hD : va_D A ((h0, .inr (12, fs_25)) :: (q_26, .inl (D.1 14, 5, .inl (fun _ => i2 0))) :: _) := hD
  refine lv_dup hx hb eX12_init_340.2.2.2.1 rfl ?_
  refine lv_iconst (v := 0) hx hb eX12_init_340.2.2.2.2.1 (by decide) ?_
  refine lv_bipush (v := 99) hx hb eX12_init_340.2.2.2.2.2.1 (by decide) ?_
  refine va_cast hx hb hK hP hD hS 1 1 rfl rfl (z_in (by decide) (by decide)) eX12_init_340.2.2.2.2.2.2.1 (fun H locs hP hD hS => ?_)
  rw [c_i2 (k := Int32.toNatClampNeg 0) (c := vp_nar .char 99) (v := 99) (by decide)] at hP hD
  have hP : va_P D vwCl (_ :: (q_26, .inl (_, _, .inl (fun j => i2 (upZ _ 0 99 j)))) :: _) H := hP
  have hD : va_D A (_ :: (q_26, .inl (_, _, .inl (fun j => i2 (upZ _ 0 99 j)))) :: _) := hD
  refine lv_dup hx hb eX12_init_340.2.2.2.2.2.2.2 rfl ?_
  refine lv_iconst (v := 1) hx hb eX12_init_350.1 (by decide) ?_
  refine lv_bipush (v := 104) hx hb eX12_init_350.2.1 (by decide) ?_
  refine va_cast hx hb hK hP hD hS 1 1 rfl rfl (z_in (by decide) (by decide)) eX12_init_350.2.2.1 (fun H locs hP hD hS => ?_)
  rw [c_i2 (k := Int32.toNatClampNeg 1) (c := vp_nar .char 104) (v := 104) (by decide)] at hP hD
  have hP : va_P D vwCl (_ :: (q_26, .inl (_, _, .inl (fun j => i2 (upZ _ 1 104 j)))) :: _) H := hP
  have hD : va_D A (_ :: (q_26, .inl (_, _, .inl (fun j => i2 (upZ _ 1 104 j)))) :: _) := hD
  refine lv_dup hx hb eX12_init_350.2.2.2.1 rfl ?_
  refine lv_iconst (v := 2) hx hb eX12_init_350.2.2.2.2.1 (by decide) ?_
  refine lv_bipush (v := 117) hx hb eX12_init_350.2.2.2.2.2.1 (by decide) ?_
  refine va_cast hx hb hK hP hD hS 1 1 rfl rfl (z_in (by decide) (by decide)) eX12_init_350.2.2.2.2.2.2.1 (fun H locs hP hD hS => ?_)
  rw [c_i2 (k := Int32.toNatClampNeg 2) (c := vp_nar .char 117) (v := 117) (by decide)] at hP hD
  have hP : va_P D vwCl (_ :: (q_26, .inl (_, _, .inl (fun j => i2 (upZ _ 2 117 j)))) :: _) H := hP
  have hD : va_D A (_ :: (q_26, .inl (_, _, .inl (fun j => i2 (upZ _ 2 117 j)))) :: _) := hD
  refine lv_dup hx hb eX12_init_350.2.2.2.2.2.2.2 rfl ?_
  refine lv_iconst (v := 3) hx hb eX12_init_360.1 (by decide) ?_
  refine lv_bipush (v := 114) hx hb eX12_init_360.2.1 (by decide) ?_
  refine va_cast hx hb hK hP hD hS 1 1 rfl rfl (z_in (by decide) (by decide)) eX12_init_360.2.2.1 (fun H locs hP hD hS => ?_)
  rw [c_i2 (k := Int32.toNatClampNeg 3) (c := vp_nar .char 114) (v := 114) (by decide)] at hP hD
  have hP : va_P D vwCl (_ :: (q_26, .inl (_, _, .inl (fun j => i2 (upZ _ 3 114 j)))) :: _) H := hP
  have hD : va_D A (_ :: (q_26, .inl (_, _, .inl (fun j => i2 (upZ _ 3 114 j)))) :: _) := hD
  refine lv_dup hx hb eX12_init_360.2.2.2.1 rfl ?_
  refine lv_iconst (v := 4) hx hb eX12_init_360.2.2.2.2.1 (by decide) ?_
  refine lv_bipush (v := 110) hx hb eX12_init_360.2.2.2.2.2.1 (by decide) ?_
  refine va_cast hx hb hK hP hD hS 1 1 rfl rfl (z_in (by decide) (by decide)) eX12_init_360.2.2.2.2.2.2.1 (fun H locs hP hD hS => ?_)
  rw [c_i2 (k := Int32.toNatClampNeg 4) (c := vp_nar .char 110) (v := 110) (by decide)] at hP hD
  have hP : va_P D vwCl (_ :: (q_26, .inl (_, _, .inl (fun j => i2 (upZ _ 4 110 j)))) :: _) H := hP
  have hD : va_D A (_ :: (q_26, .inl (_, _, .inl (fun j => i2 (upZ _ 4 110 j)))) :: _) := hD
  refine va_putF (D := D) (ci := 12) (v := .ref q_26) (ty := .array .char) (C := RX12) (T := TX12) (N := 116) hx hb ht inX12 tyX12 tyX12_ok nmX12 hown hK hP hD hS 0 rfl rfl 21 (by decide) (ht (.fieldLink RX12 51 "CloneVolumesModel" "churnWord" "[C") fl_X12_51) (fun _ h9 => h9) rfl hin rfl (by decide +kernel) rfl rfl (by rw [hlen]; decide) eX12_init_360.2.2.2.2.2.2.2 (fun H locs hP hD hS => ?_)
  have hP : va_P D vwCl ((h0, .inr (12, (fs_25.set 21 (.ref q_26)))) :: _) H := hP
  have hD : va_D A ((h0, .inr (12, (fs_25.set 21 (.ref q_26)))) :: _) := hD
  generalize hfs_27 : fs_25.set 21 (.ref q_26) = fs_27 at hP hD
  have hlen : fs_27.length = 116 := by rw [← hfs_27, List.length_set]; exact hlen
  have hP : va_P D vwCl ((h0, .inr (12, fs_27)) :: _) H := hP
  have hD : va_D A ((h0, .inr (12, fs_27)) :: _) := hD
  exact kk q_26 q_24 fs_27 _ _ (by rw [← hfs_27, ← hfs_25]) hP hD hS
theorem fl_X12_54 : Cond.fieldLink RX12 54 "CloneVolumesModel" "blockWord" "[C" ∈ lw_gd := zm (lw_g_6 (List.mem_of_getElem? (i := 163) (by decide +kernel))) rfl
theorem fl_X12_57 : Cond.fieldLink RX12 57 "CloneVolumesModel" "fromWord" "[C" ∈ lw_gd := zm (lw_g_6 (List.mem_of_getElem? (i := 164) (by decide +kernel))) rfl
theorem fl_X12_60 : Cond.fieldLink RX12 60 "CloneVolumesModel" "levelWord" "[C" ∈ lw_gd := zm (lw_g_6 (List.mem_of_getElem? (i := 165) (by decide +kernel))) rfl
theorem fl_X12_63 : Cond.fieldLink RX12 63 "CloneVolumesModel" "entriesWord" "[C" ∈ lw_gd := zm (lw_g_6 (List.mem_of_getElem? (i := 166) (by decide +kernel))) rfl
theorem fl_X12_66 : Cond.fieldLink RX12 66 "CloneVolumesModel" "numberWord" "[C" ∈ lw_gd := zm (lw_g_6 (List.mem_of_getElem? (i := 167) (by decide +kernel))) rfl
theorem fl_X12_69 : Cond.fieldLink RX12 69 "CloneVolumesModel" "countWord" "[C" ∈ lw_gd := zm (lw_g_6 (List.mem_of_getElem? (i := 168) (by decide +kernel))) rfl
theorem fl_X12_72 : Cond.fieldLink RX12 72 "CloneVolumesModel" "freshWord" "[C" ∈ lw_gd := zm (lw_g_6 (List.mem_of_getElem? (i := 169) (by decide +kernel))) rfl
theorem fl_X12_75 : Cond.fieldLink RX12 75 "CloneVolumesModel" "savedWord" "[C" ∈ lw_gd := zm (lw_g_6 (List.mem_of_getElem? (i := 170) (by decide +kernel))) rfl
theorem fl_X12_78 : Cond.fieldLink RX12 78 "CloneVolumesModel" "refsWord" "[C" ∈ lw_gd := zm (lw_g_6 (List.mem_of_getElem? (i := 171) (by decide +kernel))) rfl
theorem fl_X12_81 : Cond.fieldLink RX12 81 "CloneVolumesModel" "keyWord" "[C" ∈ lw_gd := zm (lw_g_6 (List.mem_of_getElem? (i := 172) (by decide +kernel))) rfl
theorem eX12_init_372 : decode cX12_init 372 = .ok (.aload_n 0, 1) ∧ decode cX12_init 373 = .ok (.iconst 5, 1) ∧ decode cX12_init 374 = .ok (.newarray .char, 2) ∧ decode cX12_init 376 = .ok (.dup, 1) ∧ decode cX12_init 377 = .ok (.iconst 0, 1) ∧ decode cX12_init 378 = .ok (.bipush 98, 2) ∧ decode cX12_init 380 = .ok (.castore, 1) ∧ decode cX12_init 381 = .ok (.dup, 1) := by decide +kernel
theorem eX12_init_382 : decode cX12_init 382 = .ok (.iconst 1, 1) ∧ decode cX12_init 383 = .ok (.bipush 108, 2) ∧ decode cX12_init 385 = .ok (.castore, 1) ∧ decode cX12_init 386 = .ok (.dup, 1) ∧ decode cX12_init 387 = .ok (.iconst 2, 1) ∧ decode cX12_init 388 = .ok (.bipush 111, 2) ∧ decode cX12_init 390 = .ok (.castore, 1) ∧ decode cX12_init 391 = .ok (.dup, 1) := by decide +kernel
theorem eX12_init_392 : decode cX12_init 392 = .ok (.iconst 3, 1) ∧ decode cX12_init 393 = .ok (.bipush 99, 2) ∧ decode cX12_init 395 = .ok (.castore, 1) ∧ decode cX12_init 396 = .ok (.dup, 1) ∧ decode cX12_init 397 = .ok (.iconst 4, 1) ∧ decode cX12_init 398 = .ok (.bipush 107, 2) ∧ decode cX12_init 400 = .ok (.castore, 1) ∧ decode cX12_init 401 = .ok (.putfield 54, 3) := by decide +kernel
theorem eX12_init_404 : decode cX12_init 404 = .ok (.aload_n 0, 1) ∧ decode cX12_init 405 = .ok (.iconst 4, 1) ∧ decode cX12_init 406 = .ok (.newarray .char, 2) ∧ decode cX12_init 408 = .ok (.dup, 1) ∧ decode cX12_init 409 = .ok (.iconst 0, 1) ∧ decode cX12_init 410 = .ok (.bipush 102, 2) ∧ decode cX12_init 412 = .ok (.castore, 1) ∧ decode cX12_init 413 = .ok (.dup, 1) := by decide +kernel
theorem eX12_init_414 : decode cX12_init 414 = .ok (.iconst 1, 1) ∧ decode cX12_init 415 = .ok (.bipush 114, 2) ∧ decode cX12_init 417 = .ok (.castore, 1) ∧ decode cX12_init 418 = .ok (.dup, 1) ∧ decode cX12_init 419 = .ok (.iconst 2, 1) ∧ decode cX12_init 420 = .ok (.bipush 111, 2) ∧ decode cX12_init 422 = .ok (.castore, 1) ∧ decode cX12_init 423 = .ok (.dup, 1) := by decide +kernel
theorem eX12_init_424 : decode cX12_init 424 = .ok (.iconst 3, 1) ∧ decode cX12_init 425 = .ok (.bipush 109, 2) ∧ decode cX12_init 427 = .ok (.castore, 1) ∧ decode cX12_init 428 = .ok (.putfield 57, 3) ∧ decode cX12_init 431 = .ok (.aload_n 0, 1) ∧ decode cX12_init 432 = .ok (.iconst 5, 1) ∧ decode cX12_init 433 = .ok (.newarray .char, 2) ∧ decode cX12_init 435 = .ok (.dup, 1) := by decide +kernel
theorem eX12_init_436 : decode cX12_init 436 = .ok (.iconst 0, 1) ∧ decode cX12_init 437 = .ok (.bipush 108, 2) ∧ decode cX12_init 439 = .ok (.castore, 1) ∧ decode cX12_init 440 = .ok (.dup, 1) ∧ decode cX12_init 441 = .ok (.iconst 1, 1) ∧ decode cX12_init 442 = .ok (.bipush 101, 2) ∧ decode cX12_init 444 = .ok (.castore, 1) ∧ decode cX12_init 445 = .ok (.dup, 1) := by decide +kernel
theorem eX12_init_446 : decode cX12_init 446 = .ok (.iconst 2, 1) ∧ decode cX12_init 447 = .ok (.bipush 118, 2) ∧ decode cX12_init 449 = .ok (.castore, 1) ∧ decode cX12_init 450 = .ok (.dup, 1) ∧ decode cX12_init 451 = .ok (.iconst 3, 1) ∧ decode cX12_init 452 = .ok (.bipush 101, 2) ∧ decode cX12_init 454 = .ok (.castore, 1) ∧ decode cX12_init 455 = .ok (.dup, 1) := by decide +kernel
theorem eX12_init_456 : decode cX12_init 456 = .ok (.iconst 4, 1) ∧ decode cX12_init 457 = .ok (.bipush 108, 2) ∧ decode cX12_init 459 = .ok (.castore, 1) ∧ decode cX12_init 460 = .ok (.putfield 60, 3) ∧ decode cX12_init 463 = .ok (.aload_n 0, 1) ∧ decode cX12_init 464 = .ok (.bipush 7, 2) ∧ decode cX12_init 466 = .ok (.newarray .char, 2) ∧ decode cX12_init 468 = .ok (.dup, 1) := by decide +kernel
theorem eX12_init_469 : decode cX12_init 469 = .ok (.iconst 0, 1) ∧ decode cX12_init 470 = .ok (.bipush 101, 2) ∧ decode cX12_init 472 = .ok (.castore, 1) ∧ decode cX12_init 473 = .ok (.dup, 1) ∧ decode cX12_init 474 = .ok (.iconst 1, 1) ∧ decode cX12_init 475 = .ok (.bipush 110, 2) ∧ decode cX12_init 477 = .ok (.castore, 1) ∧ decode cX12_init 478 = .ok (.dup, 1) := by decide +kernel
theorem eX12_init_479 : decode cX12_init 479 = .ok (.iconst 2, 1) ∧ decode cX12_init 480 = .ok (.bipush 116, 2) ∧ decode cX12_init 482 = .ok (.castore, 1) ∧ decode cX12_init 483 = .ok (.dup, 1) ∧ decode cX12_init 484 = .ok (.iconst 3, 1) ∧ decode cX12_init 485 = .ok (.bipush 114, 2) ∧ decode cX12_init 487 = .ok (.castore, 1) ∧ decode cX12_init 488 = .ok (.dup, 1) := by decide +kernel
theorem eX12_init_489 : decode cX12_init 489 = .ok (.iconst 4, 1) ∧ decode cX12_init 490 = .ok (.bipush 105, 2) ∧ decode cX12_init 492 = .ok (.castore, 1) ∧ decode cX12_init 493 = .ok (.dup, 1) ∧ decode cX12_init 494 = .ok (.iconst 5, 1) ∧ decode cX12_init 495 = .ok (.bipush 101, 2) ∧ decode cX12_init 497 = .ok (.castore, 1) ∧ decode cX12_init 498 = .ok (.dup, 1) := by decide +kernel
theorem eX12_init_499 : decode cX12_init 499 = .ok (.bipush 6, 2) ∧ decode cX12_init 501 = .ok (.bipush 115, 2) ∧ decode cX12_init 503 = .ok (.castore, 1) ∧ decode cX12_init 504 = .ok (.putfield 63, 3) ∧ decode cX12_init 507 = .ok (.aload_n 0, 1) ∧ decode cX12_init 508 = .ok (.bipush 6, 2) ∧ decode cX12_init 510 = .ok (.newarray .char, 2) ∧ decode cX12_init 512 = .ok (.dup, 1) := by decide +kernel
theorem eX12_init_513 : decode cX12_init 513 = .ok (.iconst 0, 1) ∧ decode cX12_init 514 = .ok (.bipush 110, 2) ∧ decode cX12_init 516 = .ok (.castore, 1) ∧ decode cX12_init 517 = .ok (.dup, 1) ∧ decode cX12_init 518 = .ok (.iconst 1, 1) ∧ decode cX12_init 519 = .ok (.bipush 117, 2) ∧ decode cX12_init 521 = .ok (.castore, 1) ∧ decode cX12_init 522 = .ok (.dup, 1) := by decide +kernel
theorem eX12_init_523 : decode cX12_init 523 = .ok (.iconst 2, 1) ∧ decode cX12_init 524 = .ok (.bipush 109, 2) ∧ decode cX12_init 526 = .ok (.castore, 1) ∧ decode cX12_init 527 = .ok (.dup, 1) ∧ decode cX12_init 528 = .ok (.iconst 3, 1) ∧ decode cX12_init 529 = .ok (.bipush 98, 2) ∧ decode cX12_init 531 = .ok (.castore, 1) ∧ decode cX12_init 532 = .ok (.dup, 1) := by decide +kernel
theorem eX12_init_533 : decode cX12_init 533 = .ok (.iconst 4, 1) ∧ decode cX12_init 534 = .ok (.bipush 101, 2) ∧ decode cX12_init 536 = .ok (.castore, 1) ∧ decode cX12_init 537 = .ok (.dup, 1) ∧ decode cX12_init 538 = .ok (.iconst 5, 1) ∧ decode cX12_init 539 = .ok (.bipush 114, 2) ∧ decode cX12_init 541 = .ok (.castore, 1) ∧ decode cX12_init 542 = .ok (.putfield 66, 3) := by decide +kernel
theorem eX12_init_545 : decode cX12_init 545 = .ok (.aload_n 0, 1) ∧ decode cX12_init 546 = .ok (.iconst 5, 1) ∧ decode cX12_init 547 = .ok (.newarray .char, 2) ∧ decode cX12_init 549 = .ok (.dup, 1) ∧ decode cX12_init 550 = .ok (.iconst 0, 1) ∧ decode cX12_init 551 = .ok (.bipush 99, 2) ∧ decode cX12_init 553 = .ok (.castore, 1) ∧ decode cX12_init 554 = .ok (.dup, 1) := by decide +kernel
theorem eX12_init_555 : decode cX12_init 555 = .ok (.iconst 1, 1) ∧ decode cX12_init 556 = .ok (.bipush 111, 2) ∧ decode cX12_init 558 = .ok (.castore, 1) ∧ decode cX12_init 559 = .ok (.dup, 1) ∧ decode cX12_init 560 = .ok (.iconst 2, 1) ∧ decode cX12_init 561 = .ok (.bipush 117, 2) ∧ decode cX12_init 563 = .ok (.castore, 1) ∧ decode cX12_init 564 = .ok (.dup, 1) := by decide +kernel
theorem eX12_init_565 : decode cX12_init 565 = .ok (.iconst 3, 1) ∧ decode cX12_init 566 = .ok (.bipush 110, 2) ∧ decode cX12_init 568 = .ok (.castore, 1) ∧ decode cX12_init 569 = .ok (.dup, 1) ∧ decode cX12_init 570 = .ok (.iconst 4, 1) ∧ decode cX12_init 571 = .ok (.bipush 116, 2) ∧ decode cX12_init 573 = .ok (.castore, 1) ∧ decode cX12_init 574 = .ok (.putfield 69, 3) := by decide +kernel
theorem eX12_init_577 : decode cX12_init 577 = .ok (.aload_n 0, 1) ∧ decode cX12_init 578 = .ok (.iconst 5, 1) ∧ decode cX12_init 579 = .ok (.newarray .char, 2) ∧ decode cX12_init 581 = .ok (.dup, 1) ∧ decode cX12_init 582 = .ok (.iconst 0, 1) ∧ decode cX12_init 583 = .ok (.bipush 102, 2) ∧ decode cX12_init 585 = .ok (.castore, 1) ∧ decode cX12_init 586 = .ok (.dup, 1) := by decide +kernel
theorem eX12_init_587 : decode cX12_init 587 = .ok (.iconst 1, 1) ∧ decode cX12_init 588 = .ok (.bipush 114, 2) ∧ decode cX12_init 590 = .ok (.castore, 1) ∧ decode cX12_init 591 = .ok (.dup, 1) ∧ decode cX12_init 592 = .ok (.iconst 2, 1) ∧ decode cX12_init 593 = .ok (.bipush 101, 2) ∧ decode cX12_init 595 = .ok (.castore, 1) ∧ decode cX12_init 596 = .ok (.dup, 1) := by decide +kernel
theorem eX12_init_597 : decode cX12_init 597 = .ok (.iconst 3, 1) ∧ decode cX12_init 598 = .ok (.bipush 115, 2) ∧ decode cX12_init 600 = .ok (.castore, 1) ∧ decode cX12_init 601 = .ok (.dup, 1) ∧ decode cX12_init 602 = .ok (.iconst 4, 1) ∧ decode cX12_init 603 = .ok (.bipush 104, 2) ∧ decode cX12_init 605 = .ok (.castore, 1) ∧ decode cX12_init 606 = .ok (.putfield 72, 3) := by decide +kernel
theorem eX12_init_609 : decode cX12_init 609 = .ok (.aload_n 0, 1) ∧ decode cX12_init 610 = .ok (.iconst 5, 1) ∧ decode cX12_init 611 = .ok (.newarray .char, 2) ∧ decode cX12_init 613 = .ok (.dup, 1) ∧ decode cX12_init 614 = .ok (.iconst 0, 1) ∧ decode cX12_init 615 = .ok (.bipush 115, 2) ∧ decode cX12_init 617 = .ok (.castore, 1) ∧ decode cX12_init 618 = .ok (.dup, 1) := by decide +kernel
theorem eX12_init_619 : decode cX12_init 619 = .ok (.iconst 1, 1) ∧ decode cX12_init 620 = .ok (.bipush 97, 2) ∧ decode cX12_init 622 = .ok (.castore, 1) ∧ decode cX12_init 623 = .ok (.dup, 1) ∧ decode cX12_init 624 = .ok (.iconst 2, 1) ∧ decode cX12_init 625 = .ok (.bipush 118, 2) ∧ decode cX12_init 627 = .ok (.castore, 1) ∧ decode cX12_init 628 = .ok (.dup, 1) := by decide +kernel
theorem eX12_init_629 : decode cX12_init 629 = .ok (.iconst 3, 1) ∧ decode cX12_init 630 = .ok (.bipush 101, 2) ∧ decode cX12_init 632 = .ok (.castore, 1) ∧ decode cX12_init 633 = .ok (.dup, 1) ∧ decode cX12_init 634 = .ok (.iconst 4, 1) ∧ decode cX12_init 635 = .ok (.bipush 100, 2) ∧ decode cX12_init 637 = .ok (.castore, 1) ∧ decode cX12_init 638 = .ok (.putfield 75, 3) := by decide +kernel
theorem eX12_init_641 : decode cX12_init 641 = .ok (.aload_n 0, 1) ∧ decode cX12_init 642 = .ok (.iconst 4, 1) ∧ decode cX12_init 643 = .ok (.newarray .char, 2) ∧ decode cX12_init 645 = .ok (.dup, 1) ∧ decode cX12_init 646 = .ok (.iconst 0, 1) ∧ decode cX12_init 647 = .ok (.bipush 114, 2) ∧ decode cX12_init 649 = .ok (.castore, 1) ∧ decode cX12_init 650 = .ok (.dup, 1) := by decide +kernel
theorem eX12_init_651 : decode cX12_init 651 = .ok (.iconst 1, 1) ∧ decode cX12_init 652 = .ok (.bipush 101, 2) ∧ decode cX12_init 654 = .ok (.castore, 1) ∧ decode cX12_init 655 = .ok (.dup, 1) ∧ decode cX12_init 656 = .ok (.iconst 2, 1) ∧ decode cX12_init 657 = .ok (.bipush 102, 2) ∧ decode cX12_init 659 = .ok (.castore, 1) ∧ decode cX12_init 660 = .ok (.dup, 1) := by decide +kernel
theorem eX12_init_661 : decode cX12_init 661 = .ok (.iconst 3, 1) ∧ decode cX12_init 662 = .ok (.bipush 115, 2) ∧ decode cX12_init 664 = .ok (.castore, 1) ∧ decode cX12_init 665 = .ok (.putfield 78, 3) ∧ decode cX12_init 668 = .ok (.aload_n 0, 1) ∧ decode cX12_init 669 = .ok (.iconst 3, 1) ∧ decode cX12_init 670 = .ok (.newarray .char, 2) ∧ decode cX12_init 672 = .ok (.dup, 1) := by decide +kernel
theorem eX12_init_673 : decode cX12_init 673 = .ok (.iconst 0, 1) ∧ decode cX12_init 674 = .ok (.bipush 107, 2) ∧ decode cX12_init 676 = .ok (.castore, 1) ∧ decode cX12_init 677 = .ok (.dup, 1) ∧ decode cX12_init 678 = .ok (.iconst 1, 1) ∧ decode cX12_init 679 = .ok (.bipush 101, 2) ∧ decode cX12_init 681 = .ok (.castore, 1) ∧ decode cX12_init 682 = .ok (.dup, 1) := by decide +kernel
theorem eX12_init_683 : decode cX12_init 683 = .ok (.iconst 2, 1) ∧ decode cX12_init 684 = .ok (.bipush 121, 2) ∧ decode cX12_init 686 = .ok (.castore, 1) ∧ decode cX12_init 687 = .ok (.putfield 81, 3) := by decide +kernel
set_option maxHeartbeats 4000000 in
set_option maxRecDepth 100000 in
theorem cM_6 {p : Program} {l : Launch} {e : Env} {R : Room} {s : State} {m : MethodId} {args : Array Value} {below : List Frame} {meth : Method} {c : Code} {Q : State → Prop} {D : va_G} {A : Nat → Prop} {ls : Array Slot} {h0 : Nat} {T : va_W} (hx : p.tables.exec = Jvm.exec) (hb : c.code = cX12_init) (ht : ∀ w ∈ lw_gd, w.before args s = true) (hown : s.vm.findClass RX12 = some m.cls) (hin : meth.name = "<init>") (hK : va_K D vwCl (TY D) s) (hA : ∀ q : Nat, s.heap.size ≤ q → A q) (hRc : 80 ≤ R.cells) (hRs : 35050 ≤ R.slots) (hl : lv_has ls 1 [(0, .ref h0)]) {fs : List Value} (hlen : fs.length = 116) {H : Heap} {locs : List Loc} (hP : va_P D vwCl ((h0, .inr (12, fs)) :: T) H) (hD : va_D A ((h0, .inr (12, fs)) :: T)) (hS : va_S A s.heap H locs)
    (kk : ∀ (q_32 : Nat) (q_30 : Nat) (q_28 : Nat) (fs' : List Value) (H : Heap) (locs : List Loc), fs' = (((fs.set 22 (.ref q_28)).set 23 (.ref q_30)).set 24 (.ref q_32)) → va_P D vwCl ((h0, .inr (12, fs')) :: (q_32, .inl (D.1 14, 5, .inl (fun j => i2 (upZ (upZ (upZ (upZ (upZ (fun _ => 0) 0 108) 1 101) 2 118) 3 101) 4 108 j)))) :: (q_30, .inl (D.1 14, 4, .inl (fun j => i2 (upZ (upZ (upZ (upZ (fun _ => 0) 0 102) 1 114) 2 111) 3 109 j)))) :: (q_28, .inl (D.1 14, 5, .inl (fun j => i2 (upZ (upZ (upZ (upZ (upZ (fun _ => 0) 0 98) 1 108) 2 111) 3 99) 4 107 j)))) :: T) H → va_D A ((h0, .inr (12, fs')) :: (q_32, .inl (D.1 14, 5, .inl (fun j => i2 (upZ (upZ (upZ (upZ (upZ (fun _ => 0) 0 108) 1 101) 2 118) 3 101) 4 108 j)))) :: (q_30, .inl (D.1 14, 4, .inl (fun j => i2 (upZ (upZ (upZ (upZ (fun _ => 0) 0 102) 1 114) 2 111) 3 109 j)))) :: (q_28, .inl (D.1 14, 5, .inl (fun j => i2 (upZ (upZ (upZ (upZ (upZ (fun _ => 0) 0 98) 1 108) 2 111) 3 99) 4 107 j)))) :: T) → va_S A s.heap H locs → W p l e R s m args below meth c H locs 16 1673 Q (F0 m 463 ls [])) : W p l e R s m args below meth c H locs 13 1659 Q (F0 m 372 ls []) := by
  refine lv_aload_n hx hb eX12_init_372.1 rfl (lv_at hl 0 rfl) ?_
  refine lv_iconst (v := 5) hx hb eX12_init_372.2.1 (by decide) ?_
  refine va_newa (atype := .char) (a0 := (5, .inl (fun _ => 0))) (ty := .char) (N' := 5) hx hb (ht _ ac_char) rfl hK hP hD hS hA (fun _ => rfl) (by decide) (by decide) (by decide) (Nat.le_trans (Nat.le_of_ble_eq_true rfl) hRc) (Nat.le_trans (Nat.le_of_ble_eq_true rfl) hRs) eX12_init_372.2.2.1 (fun q_28 cA H hK2 hP hD hS => ?_)
  obtain rfl := z_cls_char hK hK2
  refine W.widen (k := 14) (n := 1664) (Nat.le_of_ble_eq_true rfl) (Nat.le_of_ble_eq_true rfl) ?_
  obtain ⟨hP, hD⟩ := z_rot hP hD
  have hP : va_P D vwCl ((h0, .inr (12, fs)) :: (q_28, .inl (D.1 14, 5, .inl (fun _ => i2 0))) :: T) H := hP
  have hD : va_D A ((h0, .inr (12, fs)) :: (q_28, .inl (D.1 14, 5, .inl (fun _ => i2 0))) :: T) := hD
  refine lv_dup hx hb eX12_init_372.2.2.2.1 rfl ?_
  refine lv_iconst (v := 0) hx hb eX12_init_372.2.2.2.2.1 (by decide) ?_
  refine lv_bipush (v := 98) hx hb eX12_init_372.2.2.2.2.2.1 (by decide) ?_
  refine va_cast hx hb hK hP hD hS 1 1 rfl rfl (z_in (by decide) (by decide)) eX12_init_372.2.2.2.2.2.2.1 (fun H locs hP hD hS => ?_)
  rw [c_i2 (k := Int32.toNatClampNeg 0) (c := vp_nar .char 98) (v := 98) (by decide)] at hP hD
  have hP : va_P D vwCl (_ :: (q_28, .inl (_, _, .inl (fun j => i2 (upZ _ 0 98 j)))) :: _) H := hP
  have hD : va_D A (_ :: (q_28, .inl (_, _, .inl (fun j => i2 (upZ _ 0 98 j)))) :: _) := hD
  refine lv_dup hx hb eX12_init_372.2.2.2.2.2.2.2 rfl ?_
  refine lv_iconst (v := 1) hx hb eX12_init_382.1 (by decide) ?_
  refine lv_bipush (v := 108) hx hb eX12_init_382.2.1 (by decide) ?_
  refine va_cast hx hb hK hP hD hS 1 1 rfl rfl (z_in (by decide) (by decide)) eX12_init_382.2.2.1 (fun H locs hP hD hS => ?_)
  rw [c_i2 (k := Int32.toNatClampNeg 1) (c := vp_nar .char 108) (v := 108) (by decide)] at hP hD
  have hP : va_P D vwCl (_ :: (q_28, .inl (_, _, .inl (fun j => i2 (upZ _ 1 108 j)))) :: _) H := hP
  have hD : va_D A (_ :: (q_28, .inl (_, _, .inl (fun j => i2 (upZ _ 1 108 j)))) :: _) := hD
  refine lv_dup hx hb eX12_init_382.2.2.2.1 rfl ?_
  refine lv_iconst (v := 2) hx hb eX12_init_382.2.2.2.2.1 (by decide) ?_
  refine lv_bipush (v := 111) hx hb eX12_init_382.2.2.2.2.2.1 (by decide) ?_
  refine va_cast hx hb hK hP hD hS 1 1 rfl rfl (z_in (by decide) (by decide)) eX12_init_382.2.2.2.2.2.2.1 (fun H locs hP hD hS => ?_)
  rw [c_i2 (k := Int32.toNatClampNeg 2) (c := vp_nar .char 111) (v := 111) (by decide)] at hP hD
  have hP : va_P D vwCl (_ :: (q_28, .inl (_, _, .inl (fun j => i2 (upZ _ 2 111 j)))) :: _) H := hP
  have hD : va_D A (_ :: (q_28, .inl (_, _, .inl (fun j => i2 (upZ _ 2 111 j)))) :: _) := hD
  refine lv_dup hx hb eX12_init_382.2.2.2.2.2.2.2 rfl ?_
  refine lv_iconst (v := 3) hx hb eX12_init_392.1 (by decide) ?_
  refine lv_bipush (v := 99) hx hb eX12_init_392.2.1 (by decide) ?_
  refine va_cast hx hb hK hP hD hS 1 1 rfl rfl (z_in (by decide) (by decide)) eX12_init_392.2.2.1 (fun H locs hP hD hS => ?_)
  rw [c_i2 (k := Int32.toNatClampNeg 3) (c := vp_nar .char 99) (v := 99) (by decide)] at hP hD
  have hP : va_P D vwCl (_ :: (q_28, .inl (_, _, .inl (fun j => i2 (upZ _ 3 99 j)))) :: _) H := hP
  have hD : va_D A (_ :: (q_28, .inl (_, _, .inl (fun j => i2 (upZ _ 3 99 j)))) :: _) := hD
  refine lv_dup hx hb eX12_init_392.2.2.2.1 rfl ?_
  refine lv_iconst (v := 4) hx hb eX12_init_392.2.2.2.2.1 (by decide) ?_
  refine lv_bipush (v := 107) hx hb eX12_init_392.2.2.2.2.2.1 (by decide) ?_
  refine va_cast hx hb hK hP hD hS 1 1 rfl rfl (z_in (by decide) (by decide)) eX12_init_392.2.2.2.2.2.2.1 (fun H locs hP hD hS => ?_)
  rw [c_i2 (k := Int32.toNatClampNeg 4) (c := vp_nar .char 107) (v := 107) (by decide)] at hP hD
  have hP : va_P D vwCl (_ :: (q_28, .inl (_, _, .inl (fun j => i2 (upZ _ 4 107 j)))) :: _) H := hP
  have hD : va_D A (_ :: (q_28, .inl (_, _, .inl (fun j => i2 (upZ _ 4 107 j)))) :: _) := hD
  refine va_putF (D := D) (ci := 12) (v := .ref q_28) (ty := .array .char) (C := RX12) (T := TX12) (N := 116) hx hb ht inX12 tyX12 tyX12_ok nmX12 hown hK hP hD hS 0 rfl rfl 22 (by decide) (ht (.fieldLink RX12 54 "CloneVolumesModel" "blockWord" "[C") fl_X12_54) (fun _ h9 => h9) rfl hin rfl (by decide +kernel) rfl rfl (by rw [hlen]; decide) eX12_init_392.2.2.2.2.2.2.2 (fun H locs hP hD hS => ?_)
  have hP : va_P D vwCl ((h0, .inr (12, (fs.set 22 (.ref q_28)))) :: _) H := hP
  have hD : va_D A ((h0, .inr (12, (fs.set 22 (.ref q_28)))) :: _) := hD
  generalize hfs_29 : fs.set 22 (.ref q_28) = fs_29 at hP hD
  have hlen : fs_29.length = 116 := by rw [← hfs_29, List.length_set]; exact hlen
  have hP : va_P D vwCl ((h0, .inr (12, fs_29)) :: _) H := hP
  have hD : va_D A ((h0, .inr (12, fs_29)) :: _) := hD
  refine lv_aload_n hx hb eX12_init_404.1 rfl (lv_at hl 0 rfl) ?_
  refine lv_iconst (v := 4) hx hb eX12_init_404.2.1 (by decide) ?_
  refine va_newa (atype := .char) (a0 := (4, .inl (fun _ => 0))) (ty := .char) (N' := 4) hx hb (ht _ ac_char) rfl hK hP hD hS hA (fun _ => rfl) (by decide) (by decide) (by decide) (Nat.le_trans (Nat.le_of_ble_eq_true rfl) hRc) (Nat.le_trans (Nat.le_of_ble_eq_true rfl) hRs) eX12_init_404.2.2.1 (fun q_30 cA H hK2 hP hD hS => ?_)
  obtain rfl := z_cls_char hK hK2
  refine W.widen (k := 15) (n := 1668) (Nat.le_of_ble_eq_true rfl) (Nat.le_of_ble_eq_true rfl) ?_
  obtain ⟨hP, hD⟩ := z_rot hP hD
  have hP : va_P D vwCl ((h0, .inr (12, fs_29)) :: (q_30, .inl (D.1 14, 4, .inl (fun _ => i2 0))) :: _) H := hP
  have hD : va_D A ((h0, .inr (12, fs_29)) :: (q_30, .inl (D.1 14, 4, .inl (fun _ => i2 0))) :: _) := hD
  refine lv_dup hx hb eX12_init_404.2.2.2.1 rfl ?_
  refine lv_iconst (v := 0) hx hb eX12_init_404.2.2.2.2.1 (by decide) ?_
  refine lv_bipush (v := 102) hx hb eX12_init_404.2.2.2.2.2.1 (by decide) ?_
  refine va_cast hx hb hK hP hD hS 1 1 rfl rfl (z_in (by decide) (by decide)) eX12_init_404.2.2.2.2.2.2.1 (fun H locs hP hD hS => ?_)
  rw [c_i2 (k := Int32.toNatClampNeg 0) (c := vp_nar .char 102) (v := 102) (by decide)] at hP hD
  have hP : va_P D vwCl (_ :: (q_30, .inl (_, _, .inl (fun j => i2 (upZ _ 0 102 j)))) :: _) H := hP
  have hD : va_D A (_ :: (q_30, .inl (_, _, .inl (fun j => i2 (upZ _ 0 102 j)))) :: _) := hD
  refine lv_dup hx hb eX12_init_404.2.2.2.2.2.2.2 rfl ?_
  refine lv_iconst (v := 1) hx hb eX12_init_414.1 (by decide) ?_
  refine lv_bipush (v := 114) hx hb eX12_init_414.2.1 (by decide) ?_
  refine va_cast hx hb hK hP hD hS 1 1 rfl rfl (z_in (by decide) (by decide)) eX12_init_414.2.2.1 (fun H locs hP hD hS => ?_)
  rw [c_i2 (k := Int32.toNatClampNeg 1) (c := vp_nar .char 114) (v := 114) (by decide)] at hP hD
  have hP : va_P D vwCl (_ :: (q_30, .inl (_, _, .inl (fun j => i2 (upZ _ 1 114 j)))) :: _) H := hP
  have hD : va_D A (_ :: (q_30, .inl (_, _, .inl (fun j => i2 (upZ _ 1 114 j)))) :: _) := hD
  refine lv_dup hx hb eX12_init_414.2.2.2.1 rfl ?_
  refine lv_iconst (v := 2) hx hb eX12_init_414.2.2.2.2.1 (by decide) ?_
  refine lv_bipush (v := 111) hx hb eX12_init_414.2.2.2.2.2.1 (by decide) ?_
  refine va_cast hx hb hK hP hD hS 1 1 rfl rfl (z_in (by decide) (by decide)) eX12_init_414.2.2.2.2.2.2.1 (fun H locs hP hD hS => ?_)
  rw [c_i2 (k := Int32.toNatClampNeg 2) (c := vp_nar .char 111) (v := 111) (by decide)] at hP hD
  have hP : va_P D vwCl (_ :: (q_30, .inl (_, _, .inl (fun j => i2 (upZ _ 2 111 j)))) :: _) H := hP
  have hD : va_D A (_ :: (q_30, .inl (_, _, .inl (fun j => i2 (upZ _ 2 111 j)))) :: _) := hD
  refine lv_dup hx hb eX12_init_414.2.2.2.2.2.2.2 rfl ?_
  refine lv_iconst (v := 3) hx hb eX12_init_424.1 (by decide) ?_
  refine lv_bipush (v := 109) hx hb eX12_init_424.2.1 (by decide) ?_
  refine va_cast hx hb hK hP hD hS 1 1 rfl rfl (z_in (by decide) (by decide)) eX12_init_424.2.2.1 (fun H locs hP hD hS => ?_)
  rw [c_i2 (k := Int32.toNatClampNeg 3) (c := vp_nar .char 109) (v := 109) (by decide)] at hP hD
  have hP : va_P D vwCl (_ :: (q_30, .inl (_, _, .inl (fun j => i2 (upZ _ 3 109 j)))) :: _) H := hP
  have hD : va_D A (_ :: (q_30, .inl (_, _, .inl (fun j => i2 (upZ _ 3 109 j)))) :: _) := hD
  refine va_putF (D := D) (ci := 12) (v := .ref q_30) (ty := .array .char) (C := RX12) (T := TX12) (N := 116) hx hb ht inX12 tyX12 tyX12_ok nmX12 hown hK hP hD hS 0 rfl rfl 23 (by decide) (ht (.fieldLink RX12 57 "CloneVolumesModel" "fromWord" "[C") fl_X12_57) (fun _ h9 => h9) rfl hin rfl (by decide +kernel) rfl rfl (by rw [hlen]; decide) eX12_init_424.2.2.2.1 (fun H locs hP hD hS => ?_)
  have hP : va_P D vwCl ((h0, .inr (12, (fs_29.set 23 (.ref q_30)))) :: _) H := hP
  have hD : va_D A ((h0, .inr (12, (fs_29.set 23 (.ref q_30)))) :: _) := hD
  generalize hfs_31 : fs_29.set 23 (.ref q_30) = fs_31 at hP hD
  have hlen : fs_31.length = 116 := by rw [← hfs_31, List.length_set]; exact hlen
  have hP : va_P D vwCl ((h0, .inr (12, fs_31)) :: _) H := hP
  have hD : va_D A ((h0, .inr (12, fs_31)) :: _) := hD
  refine lv_aload_n hx hb eX12_init_424.2.2.2.2.1 rfl (lv_at hl 0 rfl) ?_
  refine lv_iconst (v := 5) hx hb eX12_init_424.2.2.2.2.2.1 (by decide) ?_
  refine va_newa (atype := .char) (a0 := (5, .inl (fun _ => 0))) (ty := .char) (N' := 5) hx hb (ht _ ac_char) rfl hK hP hD hS hA (fun _ => rfl) (by decide) (by decide) (by decide) (Nat.le_trans (Nat.le_of_ble_eq_true rfl) hRc) (Nat.le_trans (Nat.le_of_ble_eq_true rfl) hRs) eX12_init_424.2.2.2.2.2.2.1 (fun q_32 cA H hK2 hP hD hS => ?_)
  obtain rfl := z_cls_char hK hK2
  refine W.widen (k := 16) (n := 1673) (Nat.le_of_ble_eq_true rfl) (Nat.le_of_ble_eq_true rfl) ?_
  obtain ⟨hP, hD⟩ := z_rot hP hD
  have hP : va_P D vwCl ((h0, .inr (12, fs_31)) :: (q_32, .inl (D.1 14, 5, .inl (fun _ => i2 0))) :: _) H := hP
  have hD : va_D A ((h0, .inr (12, fs_31)) :: (q_32, .inl (D.1 14, 5, .inl (fun _ => i2 0))) :: _) := hD
  refine lv_dup hx hb eX12_init_424.2.2.2.2.2.2.2 rfl ?_
  refine lv_iconst (v := 0) hx hb eX12_init_436.1 (by decide) ?_
  refine lv_bipush (v := 108) hx hb eX12_init_436.2.1 (by decide) ?_
  refine va_cast hx hb hK hP hD hS 1 1 rfl rfl (z_in (by decide) (by decide)) eX12_init_436.2.2.1 (fun H locs hP hD hS => ?_)
  rw [c_i2 (k := Int32.toNatClampNeg 0) (c := vp_nar .char 108) (v := 108) (by decide)] at hP hD
  have hP : va_P D vwCl (_ :: (q_32, .inl (_, _, .inl (fun j => i2 (upZ _ 0 108 j)))) :: _) H := hP
  have hD : va_D A (_ :: (q_32, .inl (_, _, .inl (fun j => i2 (upZ _ 0 108 j)))) :: _) := hD
  refine lv_dup hx hb eX12_init_436.2.2.2.1 rfl ?_
  refine lv_iconst (v := 1) hx hb eX12_init_436.2.2.2.2.1 (by decide) ?_
  refine lv_bipush (v := 101) hx hb eX12_init_436.2.2.2.2.2.1 (by decide) ?_
  refine va_cast hx hb hK hP hD hS 1 1 rfl rfl (z_in (by decide) (by decide)) eX12_init_436.2.2.2.2.2.2.1 (fun H locs hP hD hS => ?_)
  rw [c_i2 (k := Int32.toNatClampNeg 1) (c := vp_nar .char 101) (v := 101) (by decide)] at hP hD
  have hP : va_P D vwCl (_ :: (q_32, .inl (_, _, .inl (fun j => i2 (upZ _ 1 101 j)))) :: _) H := hP
  have hD : va_D A (_ :: (q_32, .inl (_, _, .inl (fun j => i2 (upZ _ 1 101 j)))) :: _) := hD
  refine lv_dup hx hb eX12_init_436.2.2.2.2.2.2.2 rfl ?_
  refine lv_iconst (v := 2) hx hb eX12_init_446.1 (by decide) ?_
  refine lv_bipush (v := 118) hx hb eX12_init_446.2.1 (by decide) ?_
  refine va_cast hx hb hK hP hD hS 1 1 rfl rfl (z_in (by decide) (by decide)) eX12_init_446.2.2.1 (fun H locs hP hD hS => ?_)
  rw [c_i2 (k := Int32.toNatClampNeg 2) (c := vp_nar .char 118) (v := 118) (by decide)] at hP hD
  have hP : va_P D vwCl (_ :: (q_32, .inl (_, _, .inl (fun j => i2 (upZ _ 2 118 j)))) :: _) H := hP
  have hD : va_D A (_ :: (q_32, .inl (_, _, .inl (fun j => i2 (upZ _ 2 118 j)))) :: _) := hD
  refine lv_dup hx hb eX12_init_446.2.2.2.1 rfl ?_
  refine lv_iconst (v := 3) hx hb eX12_init_446.2.2.2.2.1 (by decide) ?_
  refine lv_bipush (v := 101) hx hb eX12_init_446.2.2.2.2.2.1 (by decide) ?_
  refine va_cast hx hb hK hP hD hS 1 1 rfl rfl (z_in (by decide) (by decide)) eX12_init_446.2.2.2.2.2.2.1 (fun H locs hP hD hS => ?_)
  rw [c_i2 (k := Int32.toNatClampNeg 3) (c := vp_nar .char 101) (v := 101) (by decide)] at hP hD
  have hP : va_P D vwCl (_ :: (q_32, .inl (_, _, .inl (fun j => i2 (upZ _ 3 101 j)))) :: _) H := hP
  have hD : va_D A (_ :: (q_32, .inl (_, _, .inl (fun j => i2 (upZ _ 3 101 j)))) :: _) := hD
  refine lv_dup hx hb eX12_init_446.2.2.2.2.2.2.2 rfl ?_
  refine lv_iconst (v := 4) hx hb eX12_init_456.1 (by decide) ?_
  refine lv_bipush (v := 108) hx hb eX12_init_456.2.1 (by decide) ?_
  refine va_cast hx hb hK hP hD hS 1 1 rfl rfl (z_in (by decide) (by decide)) eX12_init_456.2.2.1 (fun H locs hP hD hS => ?_)
  rw [c_i2 (k := Int32.toNatClampNeg 4) (c := vp_nar .char 108) (v := 108) (by decide)] at hP hD
  have hP : va_P D vwCl (_ :: (q_32, .inl (_, _, .inl (fun j => i2 (upZ _ 4 108 j)))) :: _) H := hP
  have hD : va_D A (_ :: (q_32, .inl (_, _, .inl (fun j => i2 (upZ _ 4 108 j)))) :: _) := hD
  refine va_putF (D := D) (ci := 12) (v := .ref q_32) (ty := .array .char) (C := RX12) (T := TX12) (N := 116) hx hb ht inX12 tyX12 tyX12_ok nmX12 hown hK hP hD hS 0 rfl rfl 24 (by decide) (ht (.fieldLink RX12 60 "CloneVolumesModel" "levelWord" "[C") fl_X12_60) (fun _ h9 => h9) rfl hin rfl (by decide +kernel) rfl rfl (by rw [hlen]; decide) eX12_init_456.2.2.2.1 (fun H locs hP hD hS => ?_)
  have hP : va_P D vwCl ((h0, .inr (12, (fs_31.set 24 (.ref q_32)))) :: _) H := hP
  have hD : va_D A ((h0, .inr (12, (fs_31.set 24 (.ref q_32)))) :: _) := hD
  generalize hfs_33 : fs_31.set 24 (.ref q_32) = fs_33 at hP hD
  have hlen : fs_33.length = 116 := by rw [← hfs_33, List.length_set]; exact hlen
  have hP : va_P D vwCl ((h0, .inr (12, fs_33)) :: _) H := hP
  have hD : va_D A ((h0, .inr (12, fs_33)) :: _) := hD
  exact kk q_32 q_30 q_28 fs_33 _ _ (by rw [← hfs_33, ← hfs_31, ← hfs_29]) hP hD hS
set_option maxHeartbeats 4000000 in
set_option maxRecDepth 100000 in
theorem cM_7 {p : Program} {l : Launch} {e : Env} {R : Room} {s : State} {m : MethodId} {args : Array Value} {below : List Frame} {meth : Method} {c : Code} {Q : State → Prop} {D : va_G} {A : Nat → Prop} {ls : Array Slot} {h0 : Nat} {T : va_W} (hx : p.tables.exec = Jvm.exec) (hb : c.code = cX12_init) (ht : ∀ w ∈ lw_gd, w.before args s = true) (hown : s.vm.findClass RX12 = some m.cls) (hin : meth.name = "<init>") (hK : va_K D vwCl (TY D) s) (hA : ∀ q : Nat, s.heap.size ≤ q → A q) (hRc : 80 ≤ R.cells) (hRs : 35050 ≤ R.slots) (hl : lv_has ls 1 [(0, .ref h0)]) {fs : List Value} (hlen : fs.length = 116) {H : Heap} {locs : List Loc} (hP : va_P D vwCl ((h0, .inr (12, fs)) :: T) H) (hD : va_D A ((h0, .inr (12, fs)) :: T)) (hS : va_S A s.heap H locs)
    (kk : ∀ (q_36 : Nat) (q_34 : Nat) (fs' : List Value) (H : Heap) (locs : List Loc), fs' = ((fs.set 25 (.ref q_34)).set 26 (.ref q_36)) → va_P D vwCl ((h0, .inr (12, fs')) :: (q_36, .inl (D.1 14, 6, .inl (fun j => i2 (upZ (upZ (upZ (upZ (upZ (upZ (fun _ => 0) 0 110) 1 117) 2 109) 3 98) 4 101) 5 114 j)))) :: (q_34, .inl (D.1 14, 7, .inl (fun j => i2 (upZ (upZ (upZ (upZ (upZ (upZ (upZ (fun _ => 0) 0 101) 1 110) 2 116) 3 114) 4 105) 5 101) 6 115 j)))) :: T) H → va_D A ((h0, .inr (12, fs')) :: (q_36, .inl (D.1 14, 6, .inl (fun j => i2 (upZ (upZ (upZ (upZ (upZ (upZ (fun _ => 0) 0 110) 1 117) 2 109) 3 98) 4 101) 5 114 j)))) :: (q_34, .inl (D.1 14, 7, .inl (fun j => i2 (upZ (upZ (upZ (upZ (upZ (upZ (upZ (fun _ => 0) 0 101) 1 110) 2 116) 3 114) 4 105) 5 101) 6 115 j)))) :: T) → va_S A s.heap H locs → W p l e R s m args below meth c H locs 18 1686 Q (F0 m 545 ls [])) : W p l e R s m args below meth c H locs 16 1673 Q (F0 m 463 ls []) := by
  refine lv_aload_n hx hb eX12_init_456.2.2.2.2.1 rfl (lv_at hl 0 rfl) ?_
  refine lv_bipush (v := 7) hx hb eX12_init_456.2.2.2.2.2.1 (by decide) ?_
  refine va_newa (atype := .char) (a0 := (7, .inl (fun _ => 0))) (ty := .char) (N' := 7) hx hb (ht _ ac_char) rfl hK hP hD hS hA (fun _ => rfl) (by decide) (by decide) (by decide) (Nat.le_trans (Nat.le_of_ble_eq_true rfl) hRc) (Nat.le_trans (Nat.le_of_ble_eq_true rfl) hRs) eX12_init_456.2.2.2.2.2.2.1 (fun q_34 cA H hK2 hP hD hS => ?_)
  obtain rfl := z_cls_char hK hK2
  refine W.widen (k := 17) (n := 1680) (Nat.le_of_ble_eq_true rfl) (Nat.le_of_ble_eq_true rfl) ?_
  obtain ⟨hP, hD⟩ := z_rot hP hD
  have hP : va_P D vwCl ((h0, .inr (12, fs)) :: (q_34, .inl (D.1 14, 7, .inl (fun _ => i2 0))) :: T) H := hP
  have hD : va_D A ((h0, .inr (12, fs)) :: (q_34, .inl (D.1 14, 7, .inl (fun _ => i2 0))) :: T) := hD
  refine lv_dup hx hb eX12_init_456.2.2.2.2.2.2.2 rfl ?_
  refine lv_iconst (v := 0) hx hb eX12_init_469.1 (by decide) ?_
  refine lv_bipush (v := 101) hx hb eX12_init_469.2.1 (by decide) ?_
  refine va_cast hx hb hK hP hD hS 1 1 rfl rfl (z_in (by decide) (by decide)) eX12_init_469.2.2.1 (fun H locs hP hD hS => ?_)
  rw [c_i2 (k := Int32.toNatClampNeg 0) (c := vp_nar .char 101) (v := 101) (by decide)] at hP hD
  have hP : va_P D vwCl (_ :: (q_34, .inl (_, _, .inl (fun j => i2 (upZ _ 0 101 j)))) :: _) H := hP
  have hD : va_D A (_ :: (q_34, .inl (_, _, .inl (fun j => i2 (upZ _ 0 101 j)))) :: _) := hD
  refine lv_dup hx hb eX12_init_469.2.2.2.1 rfl ?_
  refine lv_iconst (v := 1) hx hb eX12_init_469.2.2.2.2.1 (by decide) ?_
  refine lv_bipush (v := 110) hx hb eX12_init_469.2.2.2.2.2.1 (by decide) ?_
  refine va_cast hx hb hK hP hD hS 1 1 rfl rfl (z_in (by decide) (by decide)) eX12_init_469.2.2.2.2.2.2.1 (fun H locs hP hD hS => ?_)
  rw [c_i2 (k := Int32.toNatClampNeg 1) (c := vp_nar .char 110) (v := 110) (by decide)] at hP hD
  have hP : va_P D vwCl (_ :: (q_34, .inl (_, _, .inl (fun j => i2 (upZ _ 1 110 j)))) :: _) H := hP
  have hD : va_D A (_ :: (q_34, .inl (_, _, .inl (fun j => i2 (upZ _ 1 110 j)))) :: _) := hD
  refine lv_dup hx hb eX12_init_469.2.2.2.2.2.2.2 rfl ?_
  refine lv_iconst (v := 2) hx hb eX12_init_479.1 (by decide) ?_
  refine lv_bipush (v := 116) hx hb eX12_init_479.2.1 (by decide) ?_
  refine va_cast hx hb hK hP hD hS 1 1 rfl rfl (z_in (by decide) (by decide)) eX12_init_479.2.2.1 (fun H locs hP hD hS => ?_)
  rw [c_i2 (k := Int32.toNatClampNeg 2) (c := vp_nar .char 116) (v := 116) (by decide)] at hP hD
  have hP : va_P D vwCl (_ :: (q_34, .inl (_, _, .inl (fun j => i2 (upZ _ 2 116 j)))) :: _) H := hP
  have hD : va_D A (_ :: (q_34, .inl (_, _, .inl (fun j => i2 (upZ _ 2 116 j)))) :: _) := hD
  refine lv_dup hx hb eX12_init_479.2.2.2.1 rfl ?_
  refine lv_iconst (v := 3) hx hb eX12_init_479.2.2.2.2.1 (by decide) ?_
  refine lv_bipush (v := 114) hx hb eX12_init_479.2.2.2.2.2.1 (by decide) ?_
  refine va_cast hx hb hK hP hD hS 1 1 rfl rfl (z_in (by decide) (by decide)) eX12_init_479.2.2.2.2.2.2.1 (fun H locs hP hD hS => ?_)
  rw [c_i2 (k := Int32.toNatClampNeg 3) (c := vp_nar .char 114) (v := 114) (by decide)] at hP hD
  have hP : va_P D vwCl (_ :: (q_34, .inl (_, _, .inl (fun j => i2 (upZ _ 3 114 j)))) :: _) H := hP
  have hD : va_D A (_ :: (q_34, .inl (_, _, .inl (fun j => i2 (upZ _ 3 114 j)))) :: _) := hD
  refine lv_dup hx hb eX12_init_479.2.2.2.2.2.2.2 rfl ?_
  refine lv_iconst (v := 4) hx hb eX12_init_489.1 (by decide) ?_
  refine lv_bipush (v := 105) hx hb eX12_init_489.2.1 (by decide) ?_
  refine va_cast hx hb hK hP hD hS 1 1 rfl rfl (z_in (by decide) (by decide)) eX12_init_489.2.2.1 (fun H locs hP hD hS => ?_)
  rw [c_i2 (k := Int32.toNatClampNeg 4) (c := vp_nar .char 105) (v := 105) (by decide)] at hP hD
  have hP : va_P D vwCl (_ :: (q_34, .inl (_, _, .inl (fun j => i2 (upZ _ 4 105 j)))) :: _) H := hP
  have hD : va_D A (_ :: (q_34, .inl (_, _, .inl (fun j => i2 (upZ _ 4 105 j)))) :: _) := hD
  refine lv_dup hx hb eX12_init_489.2.2.2.1 rfl ?_
  refine lv_iconst (v := 5) hx hb eX12_init_489.2.2.2.2.1 (by decide) ?_
  refine lv_bipush (v := 101) hx hb eX12_init_489.2.2.2.2.2.1 (by decide) ?_
  refine va_cast hx hb hK hP hD hS 1 1 rfl rfl (z_in (by decide) (by decide)) eX12_init_489.2.2.2.2.2.2.1 (fun H locs hP hD hS => ?_)
  rw [c_i2 (k := Int32.toNatClampNeg 5) (c := vp_nar .char 101) (v := 101) (by decide)] at hP hD
  have hP : va_P D vwCl (_ :: (q_34, .inl (_, _, .inl (fun j => i2 (upZ _ 5 101 j)))) :: _) H := hP
  have hD : va_D A (_ :: (q_34, .inl (_, _, .inl (fun j => i2 (upZ _ 5 101 j)))) :: _) := hD
  refine lv_dup hx hb eX12_init_489.2.2.2.2.2.2.2 rfl ?_
  refine lv_bipush (v := 6) hx hb eX12_init_499.1 (by decide) ?_
  refine lv_bipush (v := 115) hx hb eX12_init_499.2.1 (by decide) ?_
  refine va_cast hx hb hK hP hD hS 1 1 rfl rfl (z_in (by decide) (by decide)) eX12_init_499.2.2.1 (fun H locs hP hD hS => ?_)
  rw [c_i2 (k := Int32.toNatClampNeg 6) (c := vp_nar .char 115) (v := 115) (by decide)] at hP hD
  have hP : va_P D vwCl (_ :: (q_34, .inl (_, _, .inl (fun j => i2 (upZ _ 6 115 j)))) :: _) H := hP
  have hD : va_D A (_ :: (q_34, .inl (_, _, .inl (fun j => i2 (upZ _ 6 115 j)))) :: _) := hD
  refine va_putF (D := D) (ci := 12) (v := .ref q_34) (ty := .array .char) (C := RX12) (T := TX12) (N := 116) hx hb ht inX12 tyX12 tyX12_ok nmX12 hown hK hP hD hS 0 rfl rfl 25 (by decide) (ht (.fieldLink RX12 63 "CloneVolumesModel" "entriesWord" "[C") fl_X12_63) (fun _ h9 => h9) rfl hin rfl (by decide +kernel) rfl rfl (by rw [hlen]; decide) eX12_init_499.2.2.2.1 (fun H locs hP hD hS => ?_)
  have hP : va_P D vwCl ((h0, .inr (12, (fs.set 25 (.ref q_34)))) :: _) H := hP
  have hD : va_D A ((h0, .inr (12, (fs.set 25 (.ref q_34)))) :: _) := hD
  generalize hfs_35 : fs.set 25 (.ref q_34) = fs_35 at hP hD
  have hlen : fs_35.length = 116 := by rw [← hfs_35, List.length_set]; exact hlen
  have hP : va_P D vwCl ((h0, .inr (12, fs_35)) :: _) H := hP
  have hD : va_D A ((h0, .inr (12, fs_35)) :: _) := hD
  refine lv_aload_n hx hb eX12_init_499.2.2.2.2.1 rfl (lv_at hl 0 rfl) ?_
  refine lv_bipush (v := 6) hx hb eX12_init_499.2.2.2.2.2.1 (by decide) ?_
  refine va_newa (atype := .char) (a0 := (6, .inl (fun _ => 0))) (ty := .char) (N' := 6) hx hb (ht _ ac_char) rfl hK hP hD hS hA (fun _ => rfl) (by decide) (by decide) (by decide) (Nat.le_trans (Nat.le_of_ble_eq_true rfl) hRc) (Nat.le_trans (Nat.le_of_ble_eq_true rfl) hRs) eX12_init_499.2.2.2.2.2.2.1 (fun q_36 cA H hK2 hP hD hS => ?_)
  obtain rfl := z_cls_char hK hK2
  refine W.widen (k := 18) (n := 1686) (Nat.le_of_ble_eq_true rfl) (Nat.le_of_ble_eq_true rfl) ?_
  obtain ⟨hP, hD⟩ := z_rot hP hD
  have hP : va_P D vwCl ((h0, .inr (12, fs_35)) :: (q_36, .inl (D.1 14, 6, .inl (fun _ => i2 0))) :: _) H := hP
  have hD : va_D A ((h0, .inr (12, fs_35)) :: (q_36, .inl (D.1 14, 6, .inl (fun _ => i2 0))) :: _) := hD
  refine lv_dup hx hb eX12_init_499.2.2.2.2.2.2.2 rfl ?_
  refine lv_iconst (v := 0) hx hb eX12_init_513.1 (by decide) ?_
  refine lv_bipush (v := 110) hx hb eX12_init_513.2.1 (by decide) ?_
  refine va_cast hx hb hK hP hD hS 1 1 rfl rfl (z_in (by decide) (by decide)) eX12_init_513.2.2.1 (fun H locs hP hD hS => ?_)
  rw [c_i2 (k := Int32.toNatClampNeg 0) (c := vp_nar .char 110) (v := 110) (by decide)] at hP hD
  have hP : va_P D vwCl (_ :: (q_36, .inl (_, _, .inl (fun j => i2 (upZ _ 0 110 j)))) :: _) H := hP
  have hD : va_D A (_ :: (q_36, .inl (_, _, .inl (fun j => i2 (upZ _ 0 110 j)))) :: _) := hD
  refine lv_dup hx hb eX12_init_513.2.2.2.1 rfl ?_
  refine lv_iconst (v := 1) hx hb eX12_init_513.2.2.2.2.1 (by decide) ?_
  refine lv_bipush (v := 117) hx hb eX12_init_513.2.2.2.2.2.1 (by decide) ?_
  refine va_cast hx hb hK hP hD hS 1 1 rfl rfl (z_in (by decide) (by decide)) eX12_init_513.2.2.2.2.2.2.1 (fun H locs hP hD hS => ?_)
  rw [c_i2 (k := Int32.toNatClampNeg 1) (c := vp_nar .char 117) (v := 117) (by decide)] at hP hD
  have hP : va_P D vwCl (_ :: (q_36, .inl (_, _, .inl (fun j => i2 (upZ _ 1 117 j)))) :: _) H := hP
  have hD : va_D A (_ :: (q_36, .inl (_, _, .inl (fun j => i2 (upZ _ 1 117 j)))) :: _) := hD
  refine lv_dup hx hb eX12_init_513.2.2.2.2.2.2.2 rfl ?_
  refine lv_iconst (v := 2) hx hb eX12_init_523.1 (by decide) ?_
  refine lv_bipush (v := 109) hx hb eX12_init_523.2.1 (by decide) ?_
  refine va_cast hx hb hK hP hD hS 1 1 rfl rfl (z_in (by decide) (by decide)) eX12_init_523.2.2.1 (fun H locs hP hD hS => ?_)
  rw [c_i2 (k := Int32.toNatClampNeg 2) (c := vp_nar .char 109) (v := 109) (by decide)] at hP hD
  have hP : va_P D vwCl (_ :: (q_36, .inl (_, _, .inl (fun j => i2 (upZ _ 2 109 j)))) :: _) H := hP
  have hD : va_D A (_ :: (q_36, .inl (_, _, .inl (fun j => i2 (upZ _ 2 109 j)))) :: _) := hD
  refine lv_dup hx hb eX12_init_523.2.2.2.1 rfl ?_
  refine lv_iconst (v := 3) hx hb eX12_init_523.2.2.2.2.1 (by decide) ?_
  refine lv_bipush (v := 98) hx hb eX12_init_523.2.2.2.2.2.1 (by decide) ?_
  refine va_cast hx hb hK hP hD hS 1 1 rfl rfl (z_in (by decide) (by decide)) eX12_init_523.2.2.2.2.2.2.1 (fun H locs hP hD hS => ?_)
  rw [c_i2 (k := Int32.toNatClampNeg 3) (c := vp_nar .char 98) (v := 98) (by decide)] at hP hD
  have hP : va_P D vwCl (_ :: (q_36, .inl (_, _, .inl (fun j => i2 (upZ _ 3 98 j)))) :: _) H := hP
  have hD : va_D A (_ :: (q_36, .inl (_, _, .inl (fun j => i2 (upZ _ 3 98 j)))) :: _) := hD
  refine lv_dup hx hb eX12_init_523.2.2.2.2.2.2.2 rfl ?_
  refine lv_iconst (v := 4) hx hb eX12_init_533.1 (by decide) ?_
  refine lv_bipush (v := 101) hx hb eX12_init_533.2.1 (by decide) ?_
  refine va_cast hx hb hK hP hD hS 1 1 rfl rfl (z_in (by decide) (by decide)) eX12_init_533.2.2.1 (fun H locs hP hD hS => ?_)
  rw [c_i2 (k := Int32.toNatClampNeg 4) (c := vp_nar .char 101) (v := 101) (by decide)] at hP hD
  have hP : va_P D vwCl (_ :: (q_36, .inl (_, _, .inl (fun j => i2 (upZ _ 4 101 j)))) :: _) H := hP
  have hD : va_D A (_ :: (q_36, .inl (_, _, .inl (fun j => i2 (upZ _ 4 101 j)))) :: _) := hD
  refine lv_dup hx hb eX12_init_533.2.2.2.1 rfl ?_
  refine lv_iconst (v := 5) hx hb eX12_init_533.2.2.2.2.1 (by decide) ?_
  refine lv_bipush (v := 114) hx hb eX12_init_533.2.2.2.2.2.1 (by decide) ?_
  refine va_cast hx hb hK hP hD hS 1 1 rfl rfl (z_in (by decide) (by decide)) eX12_init_533.2.2.2.2.2.2.1 (fun H locs hP hD hS => ?_)
  rw [c_i2 (k := Int32.toNatClampNeg 5) (c := vp_nar .char 114) (v := 114) (by decide)] at hP hD
  have hP : va_P D vwCl (_ :: (q_36, .inl (_, _, .inl (fun j => i2 (upZ _ 5 114 j)))) :: _) H := hP
  have hD : va_D A (_ :: (q_36, .inl (_, _, .inl (fun j => i2 (upZ _ 5 114 j)))) :: _) := hD
  refine va_putF (D := D) (ci := 12) (v := .ref q_36) (ty := .array .char) (C := RX12) (T := TX12) (N := 116) hx hb ht inX12 tyX12 tyX12_ok nmX12 hown hK hP hD hS 0 rfl rfl 26 (by decide) (ht (.fieldLink RX12 66 "CloneVolumesModel" "numberWord" "[C") fl_X12_66) (fun _ h9 => h9) rfl hin rfl (by decide +kernel) rfl rfl (by rw [hlen]; decide) eX12_init_533.2.2.2.2.2.2.2 (fun H locs hP hD hS => ?_)
  have hP : va_P D vwCl ((h0, .inr (12, (fs_35.set 26 (.ref q_36)))) :: _) H := hP
  have hD : va_D A ((h0, .inr (12, (fs_35.set 26 (.ref q_36)))) :: _) := hD
  generalize hfs_37 : fs_35.set 26 (.ref q_36) = fs_37 at hP hD
  have hlen : fs_37.length = 116 := by rw [← hfs_37, List.length_set]; exact hlen
  have hP : va_P D vwCl ((h0, .inr (12, fs_37)) :: _) H := hP
  have hD : va_D A ((h0, .inr (12, fs_37)) :: _) := hD
  exact kk q_36 q_34 fs_37 _ _ (by rw [← hfs_37, ← hfs_35]) hP hD hS
set_option maxHeartbeats 4000000 in
set_option maxRecDepth 100000 in
theorem cM_8 {p : Program} {l : Launch} {e : Env} {R : Room} {s : State} {m : MethodId} {args : Array Value} {below : List Frame} {meth : Method} {c : Code} {Q : State → Prop} {D : va_G} {A : Nat → Prop} {ls : Array Slot} {h0 : Nat} {T : va_W} (hx : p.tables.exec = Jvm.exec) (hb : c.code = cX12_init) (ht : ∀ w ∈ lw_gd, w.before args s = true) (hown : s.vm.findClass RX12 = some m.cls) (hin : meth.name = "<init>") (hK : va_K D vwCl (TY D) s) (hA : ∀ q : Nat, s.heap.size ≤ q → A q) (hRc : 80 ≤ R.cells) (hRs : 35050 ≤ R.slots) (hl : lv_has ls 1 [(0, .ref h0)]) {fs : List Value} (hlen : fs.length = 116) {H : Heap} {locs : List Loc} (hP : va_P D vwCl ((h0, .inr (12, fs)) :: T) H) (hD : va_D A ((h0, .inr (12, fs)) :: T)) (hS : va_S A s.heap H locs)
    (kk : ∀ (q_40 : Nat) (q_38 : Nat) (fs' : List Value) (H : Heap) (locs : List Loc), fs' = ((fs.set 27 (.ref q_38)).set 28 (.ref q_40)) → va_P D vwCl ((h0, .inr (12, fs')) :: (q_40, .inl (D.1 14, 5, .inl (fun j => i2 (upZ (upZ (upZ (upZ (upZ (fun _ => 0) 0 102) 1 114) 2 101) 3 115) 4 104 j)))) :: (q_38, .inl (D.1 14, 5, .inl (fun j => i2 (upZ (upZ (upZ (upZ (upZ (fun _ => 0) 0 99) 1 111) 2 117) 3 110) 4 116 j)))) :: T) H → va_D A ((h0, .inr (12, fs')) :: (q_40, .inl (D.1 14, 5, .inl (fun j => i2 (upZ (upZ (upZ (upZ (upZ (fun _ => 0) 0 102) 1 114) 2 101) 3 115) 4 104 j)))) :: (q_38, .inl (D.1 14, 5, .inl (fun j => i2 (upZ (upZ (upZ (upZ (upZ (fun _ => 0) 0 99) 1 111) 2 117) 3 110) 4 116 j)))) :: T) → va_S A s.heap H locs → W p l e R s m args below meth c H locs 20 1696 Q (F0 m 609 ls [])) : W p l e R s m args below meth c H locs 18 1686 Q (F0 m 545 ls []) := by
  refine lv_aload_n hx hb eX12_init_545.1 rfl (lv_at hl 0 rfl) ?_
  refine lv_iconst (v := 5) hx hb eX12_init_545.2.1 (by decide) ?_
  refine va_newa (atype := .char) (a0 := (5, .inl (fun _ => 0))) (ty := .char) (N' := 5) hx hb (ht _ ac_char) rfl hK hP hD hS hA (fun _ => rfl) (by decide) (by decide) (by decide) (Nat.le_trans (Nat.le_of_ble_eq_true rfl) hRc) (Nat.le_trans (Nat.le_of_ble_eq_true rfl) hRs) eX12_init_545.2.2.1 (fun q_38 cA H hK2 hP hD hS => ?_)
  obtain rfl := z_cls_char hK hK2
  refine W.widen (k := 19) (n := 1691) (Nat.le_of_ble_eq_true rfl) (Nat.le_of_ble_eq_true rfl) ?_
  obtain ⟨hP, hD⟩ := z_rot hP hD
  have hP : va_P D vwCl ((h0, .inr (12, fs)) :: (q_38, .inl (D.1 14, 5, .inl (fun _ => i2 0))) :: T) H := hP
  have hD : va_D A ((h0, .inr (12, fs)) :: (q_38, .inl (D.1 14, 5, .inl (fun _ => i2 0))) :: T) := hD
  refine lv_dup hx hb eX12_init_545.2.2.2.1 rfl ?_
  refine lv_iconst (v := 0) hx hb eX12_init_545.2.2.2.2.1 (by decide) ?_
  refine lv_bipush (v := 99) hx hb eX12_init_545.2.2.2.2.2.1 (by decide) ?_
  refine va_cast hx hb hK hP hD hS 1 1 rfl rfl (z_in (by decide) (by decide)) eX12_init_545.2.2.2.2.2.2.1 (fun H locs hP hD hS => ?_)
  rw [c_i2 (k := Int32.toNatClampNeg 0) (c := vp_nar .char 99) (v := 99) (by decide)] at hP hD
  have hP : va_P D vwCl (_ :: (q_38, .inl (_, _, .inl (fun j => i2 (upZ _ 0 99 j)))) :: _) H := hP
  have hD : va_D A (_ :: (q_38, .inl (_, _, .inl (fun j => i2 (upZ _ 0 99 j)))) :: _) := hD
  refine lv_dup hx hb eX12_init_545.2.2.2.2.2.2.2 rfl ?_
  refine lv_iconst (v := 1) hx hb eX12_init_555.1 (by decide) ?_
  refine lv_bipush (v := 111) hx hb eX12_init_555.2.1 (by decide) ?_
  refine va_cast hx hb hK hP hD hS 1 1 rfl rfl (z_in (by decide) (by decide)) eX12_init_555.2.2.1 (fun H locs hP hD hS => ?_)
  rw [c_i2 (k := Int32.toNatClampNeg 1) (c := vp_nar .char 111) (v := 111) (by decide)] at hP hD
  have hP : va_P D vwCl (_ :: (q_38, .inl (_, _, .inl (fun j => i2 (upZ _ 1 111 j)))) :: _) H := hP
  have hD : va_D A (_ :: (q_38, .inl (_, _, .inl (fun j => i2 (upZ _ 1 111 j)))) :: _) := hD
  refine lv_dup hx hb eX12_init_555.2.2.2.1 rfl ?_
  refine lv_iconst (v := 2) hx hb eX12_init_555.2.2.2.2.1 (by decide) ?_
  refine lv_bipush (v := 117) hx hb eX12_init_555.2.2.2.2.2.1 (by decide) ?_
  refine va_cast hx hb hK hP hD hS 1 1 rfl rfl (z_in (by decide) (by decide)) eX12_init_555.2.2.2.2.2.2.1 (fun H locs hP hD hS => ?_)
  rw [c_i2 (k := Int32.toNatClampNeg 2) (c := vp_nar .char 117) (v := 117) (by decide)] at hP hD
  have hP : va_P D vwCl (_ :: (q_38, .inl (_, _, .inl (fun j => i2 (upZ _ 2 117 j)))) :: _) H := hP
  have hD : va_D A (_ :: (q_38, .inl (_, _, .inl (fun j => i2 (upZ _ 2 117 j)))) :: _) := hD
  refine lv_dup hx hb eX12_init_555.2.2.2.2.2.2.2 rfl ?_
  refine lv_iconst (v := 3) hx hb eX12_init_565.1 (by decide) ?_
  refine lv_bipush (v := 110) hx hb eX12_init_565.2.1 (by decide) ?_
  refine va_cast hx hb hK hP hD hS 1 1 rfl rfl (z_in (by decide) (by decide)) eX12_init_565.2.2.1 (fun H locs hP hD hS => ?_)
  rw [c_i2 (k := Int32.toNatClampNeg 3) (c := vp_nar .char 110) (v := 110) (by decide)] at hP hD
  have hP : va_P D vwCl (_ :: (q_38, .inl (_, _, .inl (fun j => i2 (upZ _ 3 110 j)))) :: _) H := hP
  have hD : va_D A (_ :: (q_38, .inl (_, _, .inl (fun j => i2 (upZ _ 3 110 j)))) :: _) := hD
  refine lv_dup hx hb eX12_init_565.2.2.2.1 rfl ?_
  refine lv_iconst (v := 4) hx hb eX12_init_565.2.2.2.2.1 (by decide) ?_
  refine lv_bipush (v := 116) hx hb eX12_init_565.2.2.2.2.2.1 (by decide) ?_
  refine va_cast hx hb hK hP hD hS 1 1 rfl rfl (z_in (by decide) (by decide)) eX12_init_565.2.2.2.2.2.2.1 (fun H locs hP hD hS => ?_)
  rw [c_i2 (k := Int32.toNatClampNeg 4) (c := vp_nar .char 116) (v := 116) (by decide)] at hP hD
  have hP : va_P D vwCl (_ :: (q_38, .inl (_, _, .inl (fun j => i2 (upZ _ 4 116 j)))) :: _) H := hP
  have hD : va_D A (_ :: (q_38, .inl (_, _, .inl (fun j => i2 (upZ _ 4 116 j)))) :: _) := hD
  refine va_putF (D := D) (ci := 12) (v := .ref q_38) (ty := .array .char) (C := RX12) (T := TX12) (N := 116) hx hb ht inX12 tyX12 tyX12_ok nmX12 hown hK hP hD hS 0 rfl rfl 27 (by decide) (ht (.fieldLink RX12 69 "CloneVolumesModel" "countWord" "[C") fl_X12_69) (fun _ h9 => h9) rfl hin rfl (by decide +kernel) rfl rfl (by rw [hlen]; decide) eX12_init_565.2.2.2.2.2.2.2 (fun H locs hP hD hS => ?_)
  have hP : va_P D vwCl ((h0, .inr (12, (fs.set 27 (.ref q_38)))) :: _) H := hP
  have hD : va_D A ((h0, .inr (12, (fs.set 27 (.ref q_38)))) :: _) := hD
  generalize hfs_39 : fs.set 27 (.ref q_38) = fs_39 at hP hD
  have hlen : fs_39.length = 116 := by rw [← hfs_39, List.length_set]; exact hlen
  have hP : va_P D vwCl ((h0, .inr (12, fs_39)) :: _) H := hP
  have hD : va_D A ((h0, .inr (12, fs_39)) :: _) := hD
  refine lv_aload_n hx hb eX12_init_577.1 rfl (lv_at hl 0 rfl) ?_
  refine lv_iconst (v := 5) hx hb eX12_init_577.2.1 (by decide) ?_
  refine va_newa (atype := .char) (a0 := (5, .inl (fun _ => 0))) (ty := .char) (N' := 5) hx hb (ht _ ac_char) rfl hK hP hD hS hA (fun _ => rfl) (by decide) (by decide) (by decide) (Nat.le_trans (Nat.le_of_ble_eq_true rfl) hRc) (Nat.le_trans (Nat.le_of_ble_eq_true rfl) hRs) eX12_init_577.2.2.1 (fun q_40 cA H hK2 hP hD hS => ?_)
  obtain rfl := z_cls_char hK hK2
  refine W.widen (k := 20) (n := 1696) (Nat.le_of_ble_eq_true rfl) (Nat.le_of_ble_eq_true rfl) ?_
  obtain ⟨hP, hD⟩ := z_rot hP hD
  have hP : va_P D vwCl ((h0, .inr (12, fs_39)) :: (q_40, .inl (D.1 14, 5, .inl (fun _ => i2 0))) :: _) H := hP
  have hD : va_D A ((h0, .inr (12, fs_39)) :: (q_40, .inl (D.1 14, 5, .inl (fun _ => i2 0))) :: _) := hD
  refine lv_dup hx hb eX12_init_577.2.2.2.1 rfl ?_
  refine lv_iconst (v := 0) hx hb eX12_init_577.2.2.2.2.1 (by decide) ?_
  refine lv_bipush (v := 102) hx hb eX12_init_577.2.2.2.2.2.1 (by decide) ?_
  refine va_cast hx hb hK hP hD hS 1 1 rfl rfl (z_in (by decide) (by decide)) eX12_init_577.2.2.2.2.2.2.1 (fun H locs hP hD hS => ?_)
  rw [c_i2 (k := Int32.toNatClampNeg 0) (c := vp_nar .char 102) (v := 102) (by decide)] at hP hD
  have hP : va_P D vwCl (_ :: (q_40, .inl (_, _, .inl (fun j => i2 (upZ _ 0 102 j)))) :: _) H := hP
  have hD : va_D A (_ :: (q_40, .inl (_, _, .inl (fun j => i2 (upZ _ 0 102 j)))) :: _) := hD
  refine lv_dup hx hb eX12_init_577.2.2.2.2.2.2.2 rfl ?_
  refine lv_iconst (v := 1) hx hb eX12_init_587.1 (by decide) ?_
  refine lv_bipush (v := 114) hx hb eX12_init_587.2.1 (by decide) ?_
  refine va_cast hx hb hK hP hD hS 1 1 rfl rfl (z_in (by decide) (by decide)) eX12_init_587.2.2.1 (fun H locs hP hD hS => ?_)
  rw [c_i2 (k := Int32.toNatClampNeg 1) (c := vp_nar .char 114) (v := 114) (by decide)] at hP hD
  have hP : va_P D vwCl (_ :: (q_40, .inl (_, _, .inl (fun j => i2 (upZ _ 1 114 j)))) :: _) H := hP
  have hD : va_D A (_ :: (q_40, .inl (_, _, .inl (fun j => i2 (upZ _ 1 114 j)))) :: _) := hD
  refine lv_dup hx hb eX12_init_587.2.2.2.1 rfl ?_
  refine lv_iconst (v := 2) hx hb eX12_init_587.2.2.2.2.1 (by decide) ?_
  refine lv_bipush (v := 101) hx hb eX12_init_587.2.2.2.2.2.1 (by decide) ?_
  refine va_cast hx hb hK hP hD hS 1 1 rfl rfl (z_in (by decide) (by decide)) eX12_init_587.2.2.2.2.2.2.1 (fun H locs hP hD hS => ?_)
  rw [c_i2 (k := Int32.toNatClampNeg 2) (c := vp_nar .char 101) (v := 101) (by decide)] at hP hD
  have hP : va_P D vwCl (_ :: (q_40, .inl (_, _, .inl (fun j => i2 (upZ _ 2 101 j)))) :: _) H := hP
  have hD : va_D A (_ :: (q_40, .inl (_, _, .inl (fun j => i2 (upZ _ 2 101 j)))) :: _) := hD
  refine lv_dup hx hb eX12_init_587.2.2.2.2.2.2.2 rfl ?_
  refine lv_iconst (v := 3) hx hb eX12_init_597.1 (by decide) ?_
  refine lv_bipush (v := 115) hx hb eX12_init_597.2.1 (by decide) ?_
  refine va_cast hx hb hK hP hD hS 1 1 rfl rfl (z_in (by decide) (by decide)) eX12_init_597.2.2.1 (fun H locs hP hD hS => ?_)
  rw [c_i2 (k := Int32.toNatClampNeg 3) (c := vp_nar .char 115) (v := 115) (by decide)] at hP hD
  have hP : va_P D vwCl (_ :: (q_40, .inl (_, _, .inl (fun j => i2 (upZ _ 3 115 j)))) :: _) H := hP
  have hD : va_D A (_ :: (q_40, .inl (_, _, .inl (fun j => i2 (upZ _ 3 115 j)))) :: _) := hD
  refine lv_dup hx hb eX12_init_597.2.2.2.1 rfl ?_
  refine lv_iconst (v := 4) hx hb eX12_init_597.2.2.2.2.1 (by decide) ?_
  refine lv_bipush (v := 104) hx hb eX12_init_597.2.2.2.2.2.1 (by decide) ?_
  refine va_cast hx hb hK hP hD hS 1 1 rfl rfl (z_in (by decide) (by decide)) eX12_init_597.2.2.2.2.2.2.1 (fun H locs hP hD hS => ?_)
  rw [c_i2 (k := Int32.toNatClampNeg 4) (c := vp_nar .char 104) (v := 104) (by decide)] at hP hD
  have hP : va_P D vwCl (_ :: (q_40, .inl (_, _, .inl (fun j => i2 (upZ _ 4 104 j)))) :: _) H := hP
  have hD : va_D A (_ :: (q_40, .inl (_, _, .inl (fun j => i2 (upZ _ 4 104 j)))) :: _) := hD
  refine va_putF (D := D) (ci := 12) (v := .ref q_40) (ty := .array .char) (C := RX12) (T := TX12) (N := 116) hx hb ht inX12 tyX12 tyX12_ok nmX12 hown hK hP hD hS 0 rfl rfl 28 (by decide) (ht (.fieldLink RX12 72 "CloneVolumesModel" "freshWord" "[C") fl_X12_72) (fun _ h9 => h9) rfl hin rfl (by decide +kernel) rfl rfl (by rw [hlen]; decide) eX12_init_597.2.2.2.2.2.2.2 (fun H locs hP hD hS => ?_)
  have hP : va_P D vwCl ((h0, .inr (12, (fs_39.set 28 (.ref q_40)))) :: _) H := hP
  have hD : va_D A ((h0, .inr (12, (fs_39.set 28 (.ref q_40)))) :: _) := hD
  generalize hfs_41 : fs_39.set 28 (.ref q_40) = fs_41 at hP hD
  have hlen : fs_41.length = 116 := by rw [← hfs_41, List.length_set]; exact hlen
  have hP : va_P D vwCl ((h0, .inr (12, fs_41)) :: _) H := hP
  have hD : va_D A ((h0, .inr (12, fs_41)) :: _) := hD
  exact kk q_40 q_38 fs_41 _ _ (by rw [← hfs_41, ← hfs_39]) hP hD hS
set_option maxHeartbeats 4000000 in
set_option maxRecDepth 100000 in
theorem cM_9 {p : Program} {l : Launch} {e : Env} {R : Room} {s : State} {m : MethodId} {args : Array Value} {below : List Frame} {meth : Method} {c : Code} {Q : State → Prop} {D : va_G} {A : Nat → Prop} {ls : Array Slot} {h0 : Nat} {T : va_W} (hx : p.tables.exec = Jvm.exec) (hb : c.code = cX12_init) (ht : ∀ w ∈ lw_gd, w.before args s = true) (hown : s.vm.findClass RX12 = some m.cls) (hin : meth.name = "<init>") (hK : va_K D vwCl (TY D) s) (hA : ∀ q : Nat, s.heap.size ≤ q → A q) (hRc : 80 ≤ R.cells) (hRs : 35050 ≤ R.slots) (hl : lv_has ls 1 [(0, .ref h0)]) {fs : List Value} (hlen : fs.length = 116) {H : Heap} {locs : List Loc} (hP : va_P D vwCl ((h0, .inr (12, fs)) :: T) H) (hD : va_D A ((h0, .inr (12, fs)) :: T)) (hS : va_S A s.heap H locs)
    (kk : ∀ (q_46 : Nat) (q_44 : Nat) (q_42 : Nat) (fs' : List Value) (H : Heap) (locs : List Loc), fs' = (((fs.set 29 (.ref q_42)).set 30 (.ref q_44)).set 31 (.ref q_46)) → va_P D vwCl ((h0, .inr (12, fs')) :: (q_46, .inl (D.1 14, 3, .inl (fun j => i2 (upZ (upZ (upZ (fun _ => 0) 0 107) 1 101) 2 121 j)))) :: (q_44, .inl (D.1 14, 4, .inl (fun j => i2 (upZ (upZ (upZ (upZ (fun _ => 0) 0 114) 1 101) 2 102) 3 115 j)))) :: (q_42, .inl (D.1 14, 5, .inl (fun j => i2 (upZ (upZ (upZ (upZ (upZ (fun _ => 0) 0 115) 1 97) 2 118) 3 101) 4 100 j)))) :: T) H → va_D A ((h0, .inr (12, fs')) :: (q_46, .inl (D.1 14, 3, .inl (fun j => i2 (upZ (upZ (upZ (fun _ => 0) 0 107) 1 101) 2 121 j)))) :: (q_44, .inl (D.1 14, 4, .inl (fun j => i2 (upZ (upZ (upZ (upZ (fun _ => 0) 0 114) 1 101) 2 102) 3 115 j)))) :: (q_42, .inl (D.1 14, 5, .inl (fun j => i2 (upZ (upZ (upZ (upZ (upZ (fun _ => 0) 0 115) 1 97) 2 118) 3 101) 4 100 j)))) :: T) → va_S A s.heap H locs → W p l e R s m args below meth c H locs 23 1708 Q (F0 m 690 ls [])) : W p l e R s m args below meth c H locs 20 1696 Q (F0 m 609 ls []) := by
  refine lv_aload_n hx hb eX12_init_609.1 rfl (lv_at hl 0 rfl) ?_
  refine lv_iconst (v := 5) hx hb eX12_init_609.2.1 (by decide) ?_
  refine va_newa (atype := .char) (a0 := (5, .inl (fun _ => 0))) (ty := .char) (N' := 5) hx hb (ht _ ac_char) rfl hK hP hD hS hA (fun _ => rfl) (by decide) (by decide) (by decide) (Nat.le_trans (Nat.le_of_ble_eq_true rfl) hRc) (Nat.le_trans (Nat.le_of_ble_eq_true rfl) hRs) eX12_init_609.2.2.1 (fun q_42 cA H hK2 hP hD hS => ?_)
  obtain rfl := z_cls_char hK hK2
  refine W.widen (k := 21) (n := 1701) (Nat.le_of_ble_eq_true rfl) (Nat.le_of_ble_eq_true rfl) ?_
  obtain ⟨hP, hD⟩ := z_rot hP hD
  have hP : va_P D vwCl ((h0, .inr (12, fs)) :: (q_42, .inl (D.1 14, 5, .inl (fun _ => i2 0))) :: T) H := hP
  have hD : va_D A ((h0, .inr (12, fs)) :: (q_42, .inl (D.1 14, 5, .inl (fun _ => i2 0))) :: T) := hD
  refine lv_dup hx hb eX12_init_609.2.2.2.1 rfl ?_
  refine lv_iconst (v := 0) hx hb eX12_init_609.2.2.2.2.1 (by decide) ?_
  refine lv_bipush (v := 115) hx hb eX12_init_609.2.2.2.2.2.1 (by decide) ?_
  refine va_cast hx hb hK hP hD hS 1 1 rfl rfl (z_in (by decide) (by decide)) eX12_init_609.2.2.2.2.2.2.1 (fun H locs hP hD hS => ?_)
  rw [c_i2 (k := Int32.toNatClampNeg 0) (c := vp_nar .char 115) (v := 115) (by decide)] at hP hD
  have hP : va_P D vwCl (_ :: (q_42, .inl (_, _, .inl (fun j => i2 (upZ _ 0 115 j)))) :: _) H := hP
  have hD : va_D A (_ :: (q_42, .inl (_, _, .inl (fun j => i2 (upZ _ 0 115 j)))) :: _) := hD
  refine lv_dup hx hb eX12_init_609.2.2.2.2.2.2.2 rfl ?_
  refine lv_iconst (v := 1) hx hb eX12_init_619.1 (by decide) ?_
  refine lv_bipush (v := 97) hx hb eX12_init_619.2.1 (by decide) ?_
  refine va_cast hx hb hK hP hD hS 1 1 rfl rfl (z_in (by decide) (by decide)) eX12_init_619.2.2.1 (fun H locs hP hD hS => ?_)
  rw [c_i2 (k := Int32.toNatClampNeg 1) (c := vp_nar .char 97) (v := 97) (by decide)] at hP hD
  have hP : va_P D vwCl (_ :: (q_42, .inl (_, _, .inl (fun j => i2 (upZ _ 1 97 j)))) :: _) H := hP
  have hD : va_D A (_ :: (q_42, .inl (_, _, .inl (fun j => i2 (upZ _ 1 97 j)))) :: _) := hD
  refine lv_dup hx hb eX12_init_619.2.2.2.1 rfl ?_
  refine lv_iconst (v := 2) hx hb eX12_init_619.2.2.2.2.1 (by decide) ?_
  refine lv_bipush (v := 118) hx hb eX12_init_619.2.2.2.2.2.1 (by decide) ?_
  refine va_cast hx hb hK hP hD hS 1 1 rfl rfl (z_in (by decide) (by decide)) eX12_init_619.2.2.2.2.2.2.1 (fun H locs hP hD hS => ?_)
  rw [c_i2 (k := Int32.toNatClampNeg 2) (c := vp_nar .char 118) (v := 118) (by decide)] at hP hD
  have hP : va_P D vwCl (_ :: (q_42, .inl (_, _, .inl (fun j => i2 (upZ _ 2 118 j)))) :: _) H := hP
  have hD : va_D A (_ :: (q_42, .inl (_, _, .inl (fun j => i2 (upZ _ 2 118 j)))) :: _) := hD
  refine lv_dup hx hb eX12_init_619.2.2.2.2.2.2.2 rfl ?_
  refine lv_iconst (v := 3) hx hb eX12_init_629.1 (by decide) ?_
  refine lv_bipush (v := 101) hx hb eX12_init_629.2.1 (by decide) ?_
  refine va_cast hx hb hK hP hD hS 1 1 rfl rfl (z_in (by decide) (by decide)) eX12_init_629.2.2.1 (fun H locs hP hD hS => ?_)
  rw [c_i2 (k := Int32.toNatClampNeg 3) (c := vp_nar .char 101) (v := 101) (by decide)] at hP hD
  have hP : va_P D vwCl (_ :: (q_42, .inl (_, _, .inl (fun j => i2 (upZ _ 3 101 j)))) :: _) H := hP
  have hD : va_D A (_ :: (q_42, .inl (_, _, .inl (fun j => i2 (upZ _ 3 101 j)))) :: _) := hD
  refine lv_dup hx hb eX12_init_629.2.2.2.1 rfl ?_
  refine lv_iconst (v := 4) hx hb eX12_init_629.2.2.2.2.1 (by decide) ?_
  refine lv_bipush (v := 100) hx hb eX12_init_629.2.2.2.2.2.1 (by decide) ?_
  refine va_cast hx hb hK hP hD hS 1 1 rfl rfl (z_in (by decide) (by decide)) eX12_init_629.2.2.2.2.2.2.1 (fun H locs hP hD hS => ?_)
  rw [c_i2 (k := Int32.toNatClampNeg 4) (c := vp_nar .char 100) (v := 100) (by decide)] at hP hD
  have hP : va_P D vwCl (_ :: (q_42, .inl (_, _, .inl (fun j => i2 (upZ _ 4 100 j)))) :: _) H := hP
  have hD : va_D A (_ :: (q_42, .inl (_, _, .inl (fun j => i2 (upZ _ 4 100 j)))) :: _) := hD
  refine va_putF (D := D) (ci := 12) (v := .ref q_42) (ty := .array .char) (C := RX12) (T := TX12) (N := 116) hx hb ht inX12 tyX12 tyX12_ok nmX12 hown hK hP hD hS 0 rfl rfl 29 (by decide) (ht (.fieldLink RX12 75 "CloneVolumesModel" "savedWord" "[C") fl_X12_75) (fun _ h9 => h9) rfl hin rfl (by decide +kernel) rfl rfl (by rw [hlen]; decide) eX12_init_629.2.2.2.2.2.2.2 (fun H locs hP hD hS => ?_)
  have hP : va_P D vwCl ((h0, .inr (12, (fs.set 29 (.ref q_42)))) :: _) H := hP
  have hD : va_D A ((h0, .inr (12, (fs.set 29 (.ref q_42)))) :: _) := hD
  generalize hfs_43 : fs.set 29 (.ref q_42) = fs_43 at hP hD
  have hlen : fs_43.length = 116 := by rw [← hfs_43, List.length_set]; exact hlen
  have hP : va_P D vwCl ((h0, .inr (12, fs_43)) :: _) H := hP
  have hD : va_D A ((h0, .inr (12, fs_43)) :: _) := hD
  refine lv_aload_n hx hb eX12_init_641.1 rfl (lv_at hl 0 rfl) ?_
  refine lv_iconst (v := 4) hx hb eX12_init_641.2.1 (by decide) ?_
  refine va_newa (atype := .char) (a0 := (4, .inl (fun _ => 0))) (ty := .char) (N' := 4) hx hb (ht _ ac_char) rfl hK hP hD hS hA (fun _ => rfl) (by decide) (by decide) (by decide) (Nat.le_trans (Nat.le_of_ble_eq_true rfl) hRc) (Nat.le_trans (Nat.le_of_ble_eq_true rfl) hRs) eX12_init_641.2.2.1 (fun q_44 cA H hK2 hP hD hS => ?_)
  obtain rfl := z_cls_char hK hK2
  refine W.widen (k := 22) (n := 1705) (Nat.le_of_ble_eq_true rfl) (Nat.le_of_ble_eq_true rfl) ?_
  obtain ⟨hP, hD⟩ := z_rot hP hD
  have hP : va_P D vwCl ((h0, .inr (12, fs_43)) :: (q_44, .inl (D.1 14, 4, .inl (fun _ => i2 0))) :: _) H := hP
  have hD : va_D A ((h0, .inr (12, fs_43)) :: (q_44, .inl (D.1 14, 4, .inl (fun _ => i2 0))) :: _) := hD
  refine lv_dup hx hb eX12_init_641.2.2.2.1 rfl ?_
  refine lv_iconst (v := 0) hx hb eX12_init_641.2.2.2.2.1 (by decide) ?_
  refine lv_bipush (v := 114) hx hb eX12_init_641.2.2.2.2.2.1 (by decide) ?_
  refine va_cast hx hb hK hP hD hS 1 1 rfl rfl (z_in (by decide) (by decide)) eX12_init_641.2.2.2.2.2.2.1 (fun H locs hP hD hS => ?_)
  rw [c_i2 (k := Int32.toNatClampNeg 0) (c := vp_nar .char 114) (v := 114) (by decide)] at hP hD
  have hP : va_P D vwCl (_ :: (q_44, .inl (_, _, .inl (fun j => i2 (upZ _ 0 114 j)))) :: _) H := hP
  have hD : va_D A (_ :: (q_44, .inl (_, _, .inl (fun j => i2 (upZ _ 0 114 j)))) :: _) := hD
  refine lv_dup hx hb eX12_init_641.2.2.2.2.2.2.2 rfl ?_
  refine lv_iconst (v := 1) hx hb eX12_init_651.1 (by decide) ?_
  refine lv_bipush (v := 101) hx hb eX12_init_651.2.1 (by decide) ?_
  refine va_cast hx hb hK hP hD hS 1 1 rfl rfl (z_in (by decide) (by decide)) eX12_init_651.2.2.1 (fun H locs hP hD hS => ?_)
  rw [c_i2 (k := Int32.toNatClampNeg 1) (c := vp_nar .char 101) (v := 101) (by decide)] at hP hD
  have hP : va_P D vwCl (_ :: (q_44, .inl (_, _, .inl (fun j => i2 (upZ _ 1 101 j)))) :: _) H := hP
  have hD : va_D A (_ :: (q_44, .inl (_, _, .inl (fun j => i2 (upZ _ 1 101 j)))) :: _) := hD
  refine lv_dup hx hb eX12_init_651.2.2.2.1 rfl ?_
  refine lv_iconst (v := 2) hx hb eX12_init_651.2.2.2.2.1 (by decide) ?_
  refine lv_bipush (v := 102) hx hb eX12_init_651.2.2.2.2.2.1 (by decide) ?_
  refine va_cast hx hb hK hP hD hS 1 1 rfl rfl (z_in (by decide) (by decide)) eX12_init_651.2.2.2.2.2.2.1 (fun H locs hP hD hS => ?_)
  rw [c_i2 (k := Int32.toNatClampNeg 2) (c := vp_nar .char 102) (v := 102) (by decide)] at hP hD
  have hP : va_P D vwCl (_ :: (q_44, .inl (_, _, .inl (fun j => i2 (upZ _ 2 102 j)))) :: _) H := hP
  have hD : va_D A (_ :: (q_44, .inl (_, _, .inl (fun j => i2 (upZ _ 2 102 j)))) :: _) := hD
  refine lv_dup hx hb eX12_init_651.2.2.2.2.2.2.2 rfl ?_
  refine lv_iconst (v := 3) hx hb eX12_init_661.1 (by decide) ?_
  refine lv_bipush (v := 115) hx hb eX12_init_661.2.1 (by decide) ?_
  refine va_cast hx hb hK hP hD hS 1 1 rfl rfl (z_in (by decide) (by decide)) eX12_init_661.2.2.1 (fun H locs hP hD hS => ?_)
  rw [c_i2 (k := Int32.toNatClampNeg 3) (c := vp_nar .char 115) (v := 115) (by decide)] at hP hD
  have hP : va_P D vwCl (_ :: (q_44, .inl (_, _, .inl (fun j => i2 (upZ _ 3 115 j)))) :: _) H := hP
  have hD : va_D A (_ :: (q_44, .inl (_, _, .inl (fun j => i2 (upZ _ 3 115 j)))) :: _) := hD
  refine va_putF (D := D) (ci := 12) (v := .ref q_44) (ty := .array .char) (C := RX12) (T := TX12) (N := 116) hx hb ht inX12 tyX12 tyX12_ok nmX12 hown hK hP hD hS 0 rfl rfl 30 (by decide) (ht (.fieldLink RX12 78 "CloneVolumesModel" "refsWord" "[C") fl_X12_78) (fun _ h9 => h9) rfl hin rfl (by decide +kernel) rfl rfl (by rw [hlen]; decide) eX12_init_661.2.2.2.1 (fun H locs hP hD hS => ?_)
  have hP : va_P D vwCl ((h0, .inr (12, (fs_43.set 30 (.ref q_44)))) :: _) H := hP
  have hD : va_D A ((h0, .inr (12, (fs_43.set 30 (.ref q_44)))) :: _) := hD
  generalize hfs_45 : fs_43.set 30 (.ref q_44) = fs_45 at hP hD
  have hlen : fs_45.length = 116 := by rw [← hfs_45, List.length_set]; exact hlen
  have hP : va_P D vwCl ((h0, .inr (12, fs_45)) :: _) H := hP
  have hD : va_D A ((h0, .inr (12, fs_45)) :: _) := hD
  refine lv_aload_n hx hb eX12_init_661.2.2.2.2.1 rfl (lv_at hl 0 rfl) ?_
  refine lv_iconst (v := 3) hx hb eX12_init_661.2.2.2.2.2.1 (by decide) ?_
  refine va_newa (atype := .char) (a0 := (3, .inl (fun _ => 0))) (ty := .char) (N' := 3) hx hb (ht _ ac_char) rfl hK hP hD hS hA (fun _ => rfl) (by decide) (by decide) (by decide) (Nat.le_trans (Nat.le_of_ble_eq_true rfl) hRc) (Nat.le_trans (Nat.le_of_ble_eq_true rfl) hRs) eX12_init_661.2.2.2.2.2.2.1 (fun q_46 cA H hK2 hP hD hS => ?_)
  obtain rfl := z_cls_char hK hK2
  refine W.widen (k := 23) (n := 1708) (Nat.le_of_ble_eq_true rfl) (Nat.le_of_ble_eq_true rfl) ?_
  obtain ⟨hP, hD⟩ := z_rot hP hD
  have hP : va_P D vwCl ((h0, .inr (12, fs_45)) :: (q_46, .inl (D.1 14, 3, .inl (fun _ => i2 0))) :: _) H := hP
  have hD : va_D A ((h0, .inr (12, fs_45)) :: (q_46, .inl (D.1 14, 3, .inl (fun _ => i2 0))) :: _) := hD
  refine lv_dup hx hb eX12_init_661.2.2.2.2.2.2.2 rfl ?_
  refine lv_iconst (v := 0) hx hb eX12_init_673.1 (by decide) ?_
  refine lv_bipush (v := 107) hx hb eX12_init_673.2.1 (by decide) ?_
  refine va_cast hx hb hK hP hD hS 1 1 rfl rfl (z_in (by decide) (by decide)) eX12_init_673.2.2.1 (fun H locs hP hD hS => ?_)
  rw [c_i2 (k := Int32.toNatClampNeg 0) (c := vp_nar .char 107) (v := 107) (by decide)] at hP hD
  have hP : va_P D vwCl (_ :: (q_46, .inl (_, _, .inl (fun j => i2 (upZ _ 0 107 j)))) :: _) H := hP
  have hD : va_D A (_ :: (q_46, .inl (_, _, .inl (fun j => i2 (upZ _ 0 107 j)))) :: _) := hD
  refine lv_dup hx hb eX12_init_673.2.2.2.1 rfl ?_
  refine lv_iconst (v := 1) hx hb eX12_init_673.2.2.2.2.1 (by decide) ?_
  refine lv_bipush (v := 101) hx hb eX12_init_673.2.2.2.2.2.1 (by decide) ?_
  refine va_cast hx hb hK hP hD hS 1 1 rfl rfl (z_in (by decide) (by decide)) eX12_init_673.2.2.2.2.2.2.1 (fun H locs hP hD hS => ?_)
  rw [c_i2 (k := Int32.toNatClampNeg 1) (c := vp_nar .char 101) (v := 101) (by decide)] at hP hD
  have hP : va_P D vwCl (_ :: (q_46, .inl (_, _, .inl (fun j => i2 (upZ _ 1 101 j)))) :: _) H := hP
  have hD : va_D A (_ :: (q_46, .inl (_, _, .inl (fun j => i2 (upZ _ 1 101 j)))) :: _) := hD
  refine lv_dup hx hb eX12_init_673.2.2.2.2.2.2.2 rfl ?_
  refine lv_iconst (v := 2) hx hb eX12_init_683.1 (by decide) ?_
  refine lv_bipush (v := 121) hx hb eX12_init_683.2.1 (by decide) ?_
  refine va_cast hx hb hK hP hD hS 1 1 rfl rfl (z_in (by decide) (by decide)) eX12_init_683.2.2.1 (fun H locs hP hD hS => ?_)
  rw [c_i2 (k := Int32.toNatClampNeg 2) (c := vp_nar .char 121) (v := 121) (by decide)] at hP hD
  have hP : va_P D vwCl (_ :: (q_46, .inl (_, _, .inl (fun j => i2 (upZ _ 2 121 j)))) :: _) H := hP
  have hD : va_D A (_ :: (q_46, .inl (_, _, .inl (fun j => i2 (upZ _ 2 121 j)))) :: _) := hD
  refine va_putF (D := D) (ci := 12) (v := .ref q_46) (ty := .array .char) (C := RX12) (T := TX12) (N := 116) hx hb ht inX12 tyX12 tyX12_ok nmX12 hown hK hP hD hS 0 rfl rfl 31 (by decide) (ht (.fieldLink RX12 81 "CloneVolumesModel" "keyWord" "[C") fl_X12_81) (fun _ h9 => h9) rfl hin rfl (by decide +kernel) rfl rfl (by rw [hlen]; decide) eX12_init_683.2.2.2 (fun H locs hP hD hS => ?_)
  have hP : va_P D vwCl ((h0, .inr (12, (fs_45.set 31 (.ref q_46)))) :: _) H := hP
  have hD : va_D A ((h0, .inr (12, (fs_45.set 31 (.ref q_46)))) :: _) := hD
  generalize hfs_47 : fs_45.set 31 (.ref q_46) = fs_47 at hP hD
  have hlen : fs_47.length = 116 := by rw [← hfs_47, List.length_set]; exact hlen
  have hP : va_P D vwCl ((h0, .inr (12, fs_47)) :: _) H := hP
  have hD : va_D A ((h0, .inr (12, fs_47)) :: _) := hD
  exact kk q_46 q_44 q_42 fs_47 _ _ (by rw [← hfs_47, ← hfs_45, ← hfs_43]) hP hD hS
