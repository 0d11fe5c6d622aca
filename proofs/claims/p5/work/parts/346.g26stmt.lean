/-! ===== a statement ===== -/
/-- nothing is told yet -/
def ST0 (s X : MS) : Prop := Rr X ∧ (SP X 0 ∧ FBk s X) ∧ (gI s 2 ≤ gI X 2 ∧ gI X 2 ≤ gI X 3) ∧ (gI X 46 = gI s 46 ∧ gI X 5 = 0)
theorem st_takes {s X : MS} {wid wn : Nat} (H : ST0 s X) (hw : ∀ j : Nat, j < wn → R2 (gA X wid j)) (h7 : wn ≤ 7) : wp (m_x12_takes wid wn X) (fun q => (0 ≤ q.1 ∧ q.1 ≤ 1) ∧ ST0 s q.2) := by
  obtain ⟨hR, ⟨h1, h2⟩, h3, h4⟩ := H
  refine wp_eq (w_x12_takes hR h3.2 hw h7) (fun q e h => ?_)
  obtain ⟨r, o⟩ := q
  dsimp only at e h ⊢
  obtain ⟨hRo, a, b, _⟩ := h
  have F : F_x12_takes X o := fr_x12_takes e
  have f2 : gI o 3 = gI X 3 := F.1 3 (by decide)
  have f46 : gI o 46 = gI X 46 := F.1 46 (by decide)
  have f5 : gI o 5 = gI X 5 := F.1 5 (by decide)
  exact ⟨by omega, hRo, ⟨SP_eq h1 (F.2.1 39 (by decide)) (F.2.1 41 (by decide)) (F.2.1 42 (by decide)) (F.2.1 43 (by decide)) (F.2.1 44 (by decide)) (F.1 45 (by decide)) (by omega) b.1 (by omega), FB_t h2 (FB_e (F.2.1 39 (by decide)) (F.2.1 42 (by decide)) (F.2.1 43 (by decide)) (F.2.1 44 (by decide)))⟩, by omega, by omega⟩
set_option maxHeartbeats 1000000 in
theorem w_x12_statementTold {s : MS} (hRs : Rr s) (hp0 : gI s 2 ≤ gI s 3) (hp1 : SP s 0) (hp2 : 1 ≤ gI s 46 ∧ gI s 46 ≤ 60) (hp3 : gI s 5 = 0) : wp (m_x12_statementTold s) (fun o => (Rr o) ∧ (SP o 0) ∧ (gI s 2 ≤ gI o 2 ∧ gI o 2 ≤ gI o 3) ∧ (gI o 46 = gI s 46 + 1 ∨ (gI o 5 ≠ 0 ∧ gI o 46 = gI s 46)) ∧ (FBk s o)) := by
  have r2 : (0 : Int) ≤ gI s 2 ∧ gI s 2 ≤ 1600 := hRs.1 2
  have J178 : ∀ X : MS, Rr X → SP X 1 → FBk s X → (gI s 2 ≤ gI X 2 ∧ gI X 2 ≤ gI X 3) → gI X 46 = gI s 46 → gI s 46 < 60 → wp (m_x12_statementTold_J178 X) (fun o => (Rr o) ∧ (SP o 0) ∧ (gI s 2 ≤ gI o 2 ∧ gI o 2 ≤ gI o 3) ∧ (gI o 46 = gI s 46 + 1 ∨ (gI o 5 ≠ 0 ∧ gI o 46 = gI s 46)) ∧ (FBk s o)) := by
    intro X hRX h1 h2 h3 h4 h5
    unfold m_x12_statementTold_J178
    refine wp_bn (w_x12_asksSign hRX h3.2 (by omega)) (fun s3 e3 h => ?_)
    obtain ⟨hR3, a, b, _⟩ := h
    have F : F_x12_asksSign X s3 := fr_x12_asksSign e3
    have f46 : gI s3 46 = gI X 46 := F.1 46 (by decide)
    refine wp_stn (fun s4 e4 => ?_)
    have hR4 : Rr s4 := e4 ▸ Rr.uI hR3 (by show (0 : Int) ≤ gI s3 46 + 1 ∧ gI s3 46 + 1 ≤ 60; omega)
    have g46 : gI s4 46 = gI s3 46 + 1 := q_II e4
    have g2 : gI s4 2 = gI s3 2 := q_Ii e4 (by decide)
    have g3 : gI s4 3 = gI s3 3 := q_Ii e4 (by decide)
    have g5 : gI s4 5 = gI s3 5 := q_Ii e4 (by decide)
    have g45 : gI s4 45 = gI s3 45 := q_Ii e4 (by decide)
    have f45 : gI s3 45 = gI X 45 := F.1 45 (by decide)
    have kA : ∀ k, k ≠ 0 → gA s4 k = gA s3 k := fun k _ => q_Ia e4
    refine wp_some ⟨hR4, SP_eq h1 ((kA 39 (by decide)).trans (F.2.1 39 (by decide))) ((kA 41 (by decide)).trans (F.2.1 41 (by decide))) ((kA 42 (by decide)).trans (F.2.1 42 (by decide))) ((kA 43 (by decide)).trans (F.2.1 43 (by decide))) ((kA 44 (by decide)).trans (F.2.1 44 (by decide))) (by omega) (by omega) (by omega) (by by_cases z : gI X 5 = 0; (left; exact z); (right; have := b z; omega)), by omega, Or.inl (by omega), FB_t h2 (FB_e ((kA 39 (by decide)).trans (F.2.1 39 (by decide))) ((kA 42 (by decide)).trans (F.2.1 42 (by decide))) ((kA 43 (by decide)).trans (F.2.1 43 (by decide))) ((kA 44 (by decide)).trans (F.2.1 44 (by decide))))⟩
  unfold m_x12_statementTold
  refine wp_rg (by omega) (wp_if (fun c0 => ?_) (fun c0 => ?_))
  · refine wp_bn (w_x12_fail hRs (by omega) (by omega)) (fun s64 e64 h64 => ?_)
    obtain ⟨hR64, b5⟩ := h64
    have F : F_x12_fail s s64 := fr_x12_fail e64
    have f2 : gI s64 2 = gI s 2 := F.1 2 (by decide)
    have f3 : gI s64 3 = gI s 3 := F.1 3 (by decide)
    have f46 : gI s64 46 = gI s 46 := F.1 46 (by decide)
    exact wp_some ⟨hR64, SP_eq hp1 (F.2.1 39 (by decide)) (F.2.1 41 (by decide)) (F.2.1 42 (by decide)) (F.2.1 43 (by decide)) (F.2.1 44 (by decide)) (F.1 45 (by decide)) (by omega) (by omega) (Or.inr b5), by omega, Or.inr ⟨b5, f46⟩, FB_e (F.2.1 39 (by decide)) (F.2.1 42 (by decide)) (F.2.1 43 (by decide)) (F.2.1 44 (by decide))⟩
  have S0 : ST0 s s := ⟨hRs, ⟨hp1, FB_e rfl rfl rfl rfl⟩, by omega, rfl, hp3⟩
  refine wp_bn (st_takes (wid := 13) (wn := 6) S0 (fun j hj => S0.1.2.1 13 j hj) (by decide)) (fun qr9 eqr9 hqr9 => ?_)
  obtain ⟨rqr9, sqr9⟩ := qr9
  dsimp only at hqr9 ⊢
  obtain ⟨bqr9, Sqr9⟩ := hqr9
  clear eqr9
  refine wp_rg (by omega) (wp_if (fun cqr9 => ?_) (fun cqr9 => ?_))
  rotate_left
  · refine wp_bn (w_x12_volumeTold Sqr9.1 Sqr9.2.2.1.2 Sqr9.2.1.1 (by omega) (by omega) (by have := Sqr9.2.2.2; omega)) (fun o eo ho => ?_)
    obtain ⟨hRo, a, b, _, d⟩ := ho
    have F : F_x12_volumeTold sqr9 o := fr_x12_volumeTold eo
    have f46 : gI o 46 = gI sqr9 46 := F.1 46 (by decide)
    have z := Sqr9.2.2
    exact J178 o hRo a (FB_t Sqr9.2.1.2 d) (by omega) (by omega) (by omega)
  refine wp_bn (st_takes (wid := 14) (wn := 5) Sqr9 (fun j hj => Sqr9.1.2.1 14 j hj) (by decide)) (fun qr14 eqr14 hqr14 => ?_)
  obtain ⟨rqr14, sqr14⟩ := qr14
  dsimp only at hqr14 ⊢
  obtain ⟨bqr14, Sqr14⟩ := hqr14
  clear eqr14
  refine wp_rg (by omega) (wp_if (fun cqr14 => ?_) (fun cqr14 => ?_))
  rotate_left
  · refine wp_bn (w_x12_volumeTold Sqr14.1 Sqr14.2.2.1.2 Sqr14.2.1.1 (by omega) (by omega) (by have := Sqr14.2.2.2; omega)) (fun o eo ho => ?_)
    obtain ⟨hRo, a, b, _, d⟩ := ho
    have F : F_x12_volumeTold sqr14 o := fr_x12_volumeTold eo
    have f46 : gI o 46 = gI sqr14 46 := F.1 46 (by decide)
    have z := Sqr14.2.2
    exact J178 o hRo a (FB_t Sqr14.2.1.2 d) (by omega) (by omega) (by omega)
  refine wp_bn (st_takes (wid := 16) (wn := 3) Sqr14 (fun j hj => Sqr14.1.2.1 16 j hj) (by decide)) (fun qr19 eqr19 hqr19 => ?_)
  obtain ⟨rqr19, sqr19⟩ := qr19
  dsimp only at hqr19 ⊢
  obtain ⟨bqr19, Sqr19⟩ := hqr19
  clear eqr19
  refine wp_rg (by omega) (wp_if (fun cqr19 => ?_) (fun cqr19 => ?_))
  rotate_left
  · refine wp_bn (w_x12_putTold Sqr19.1 Sqr19.2.2.1.2 Sqr19.2.1.1 (by have := Sqr19.2.2.2; omega)) (fun o eo ho => ?_)
    obtain ⟨hRo, a, b, _, d⟩ := ho
    have F : F_x12_putTold sqr19 o := fr_x12_putTold eo
    have f46 : gI o 46 = gI sqr19 46 := F.1 46 (by decide)
    have z := Sqr19.2.2
    exact J178 o hRo a (FB_t Sqr19.2.1.2 d) (by omega) (by omega) (by omega)
  refine wp_bn (st_takes (wid := 17) (wn := 6) Sqr19 (fun j hj => Sqr19.1.2.1 17 j hj) (by decide)) (fun qr24 eqr24 hqr24 => ?_)
  obtain ⟨rqr24, sqr24⟩ := qr24
  dsimp only at hqr24 ⊢
  obtain ⟨bqr24, Sqr24⟩ := hqr24
  clear eqr24
  refine wp_rg (by omega) (wp_if (fun cqr24 => ?_) (fun cqr24 => ?_))
  rotate_left
  · refine wp_bn (w_x12_removeTold Sqr24.1 Sqr24.2.2.1.2 Sqr24.2.1.1 (by have := Sqr24.2.2.2; omega)) (fun o eo ho => ?_)
    obtain ⟨hRo, a, b, _, d⟩ := ho
    have F : F_x12_removeTold sqr24 o := fr_x12_removeTold eo
    have f46 : gI o 46 = gI sqr24 46 := F.1 46 (by decide)
    have z := Sqr24.2.2
    exact J178 o hRo a (FB_t Sqr24.2.1.2 d) (by omega) (by omega) (by omega)
  refine wp_bn (st_takes (wid := 18) (wn := 5) Sqr24 (fun j hj => Sqr24.1.2.1 18 j hj) (by decide)) (fun qr29 eqr29 hqr29 => ?_)
  obtain ⟨rqr29, sqr29⟩ := qr29
  dsimp only at hqr29 ⊢
  obtain ⟨bqr29, Sqr29⟩ := hqr29
  clear eqr29
  refine wp_rg (by omega) (wp_if (fun cqr29 => ?_) (fun cqr29 => ?_))
  rotate_left
  · refine wp_bn (w_x12_codesTold Sqr29.1 Sqr29.2.2.1.2 Sqr29.2.1.1 (by omega) (by omega) (by have := Sqr29.2.2.2; omega)) (fun o eo ho => ?_)
    obtain ⟨hRo, a, b, _, d⟩ := ho
    have F : F_x12_codesTold sqr29 o := fr_x12_codesTold eo
    have f46 : gI o 46 = gI sqr29 46 := F.1 46 (by decide)
    have z := Sqr29.2.2
    exact J178 o hRo a (FB_t Sqr29.2.1.2 d) (by omega) (by omega) (by omega)
  refine wp_bn (st_takes (wid := 19) (wn := 6) Sqr29 (fun j hj => Sqr29.1.2.1 19 j hj) (by decide)) (fun qr34 eqr34 hqr34 => ?_)
  obtain ⟨rqr34, sqr34⟩ := qr34
  dsimp only at hqr34 ⊢
  obtain ⟨bqr34, Sqr34⟩ := hqr34
  clear eqr34
  refine wp_rg (by omega) (wp_if (fun cqr34 => ?_) (fun cqr34 => ?_))
  rotate_left
  · refine wp_bn (w_x12_codesTold Sqr34.1 Sqr34.2.2.1.2 Sqr34.2.1.1 (by omega) (by omega) (by have := Sqr34.2.2.2; omega)) (fun o eo ho => ?_)
    obtain ⟨hRo, a, b, _, d⟩ := ho
    have F : F_x12_codesTold sqr34 o := fr_x12_codesTold eo
    have f46 : gI o 46 = gI sqr34 46 := F.1 46 (by decide)
    have z := Sqr34.2.2
    exact J178 o hRo a (FB_t Sqr34.2.1.2 d) (by omega) (by omega) (by omega)
  refine wp_bn (st_takes (wid := 20) (wn := 5) Sqr34 (fun j hj => Sqr34.1.2.1 20 j hj) (by decide)) (fun qr39 eqr39 hqr39 => ?_)
  obtain ⟨rqr39, sqr39⟩ := qr39
  dsimp only at hqr39 ⊢
  obtain ⟨bqr39, Sqr39⟩ := hqr39
  clear eqr39
  refine wp_rg (by omega) (wp_if (fun cqr39 => ?_) (fun cqr39 => ?_))
  rotate_left
  · refine wp_bn (w_x12_codesTold Sqr39.1 Sqr39.2.2.1.2 Sqr39.2.1.1 (by omega) (by omega) (by have := Sqr39.2.2.2; omega)) (fun o eo ho => ?_)
    obtain ⟨hRo, a, b, _, d⟩ := ho
    have F : F_x12_codesTold sqr39 o := fr_x12_codesTold eo
    have f46 : gI o 46 = gI sqr39 46 := F.1 46 (by decide)
    have z := Sqr39.2.2
    exact J178 o hRo a (FB_t Sqr39.2.1.2 d) (by omega) (by omega) (by omega)
  refine wp_bn (w_x12_asks (wid := 21) (wn := 5) Sqr39.1 Sqr39.2.2.1.2 (fun j hj => Sqr39.1.2.1 21 j hj) (by decide)) (fun s43 e43 h43 => ?_)
  obtain ⟨hR43, a43, b43, _⟩ := h43
  have F43 : F_x12_asks sqr39 s43 := fr_x12_asks e43
  refine wp_bn (w_x12_number hR43 a43.2 (by omega)) (fun q46 e46 h46 => ?_)
  obtain ⟨r46, s46⟩ := q46
  dsimp only at e46 h46 ⊢
  obtain ⟨hR46, c46, a46, b46, d46⟩ := h46
  have F46 : F_x12_number s43 s46 := fr_x12_number e46
  refine wp_inb (by omega) (wp_stn (fun s48 e48 => ?_))
  have hR48 : Rr s48 := e48 ▸ Rr.uAu hR46 (by show (-2147483648 : Int) ≤ r46 ∧ r46 ≤ 2147483647; omega)
  have u48 : gA s48 39 = upZ (gA s46 39) 4 r46 := q_AA e48
  have kA : ∀ k, k ≠ 39 → gA s48 k = gA s46 k := fun k hk => q_Aa e48 hk
  have kI : ∀ k, gI s48 k = gI s46 k := fun k => q_Ai e48
  have z := Sqr39.2.2
  have f46 : gI s46 46 = gI sqr39 46 := (F46.1 46 (by decide)).trans (F43.1 46 (by decide))
  have f45 : gI s46 45 = gI sqr39 45 := (F46.1 45 (by decide)).trans (F43.1 45 (by decide))
  have q0 : SP s46 0 := SP_eq Sqr39.2.1.1 ((F46.2.1 39 (by decide)).trans (F43.2.1 39 (by decide))) ((F46.2.1 41 (by decide)).trans (F43.2.1 41 (by decide))) ((F46.2.1 42 (by decide)).trans (F43.2.1 42 (by decide))) ((F46.2.1 43 (by decide)).trans (F43.2.1 43 (by decide))) ((F46.2.1 44 (by decide)).trans (F43.2.1 44 (by decide))) f45 (by omega) (by omega) (by left; omega)
  have k2 : gI s48 2 = gI s46 2 := kI 2
  have k3 : gI s48 3 = gI s46 3 := kI 3
  have k46 : gI s48 46 = gI s46 46 := kI 46
  have k45 : gI s48 45 = gI s46 45 := kI 45
  have k5 : gI s48 5 = gI s46 5 := kI 5
  refine J178 s48 hR48 ?_ (FB_t (FB_t Sqr39.2.1.2 (FB_e ((F46.2.1 39 (by decide)).trans (F43.2.1 39 (by decide))) ((F46.2.1 42 (by decide)).trans (F43.2.1 42 (by decide))) ((F46.2.1 43 (by decide)).trans (F43.2.1 43 (by decide))) ((F46.2.1 44 (by decide)).trans (F43.2.1 44 (by decide))))) (FB_39 (fun j hj => by rw [u48, upZ_n (by omega)]) (kA 42 (by decide)) (kA 43 (by decide)) (kA 44 (by decide)))) (by omega) (by omega) (by omega)
  obtain ⟨qa, qb, ⟨qc1, qc2⟩, qd⟩ := q0
  refine ⟨?_, ?_, ⟨by omega, fun w hw => ?_⟩, fun h9 => ?_⟩
  · rw [u48, upZ_n (by decide), upZ_n (by decide)]; exact ⟨qa.1, by have := qa.2; omega⟩
  · rw [u48, upZ_n (by decide), upZ_n (by decide), kA 41 (by decide)]; exact qb
  · rw [kA 42 (by decide), kA 43 (by decide), kA 44 (by decide), k45]; exact qc2 w hw
  · have y := qd (by omega)
    have y2 := d46 (by omega)
    rw [u48, upZ_n (by decide), upZ_n (by decide), upZ_s]; exact ⟨y.1, y.2.1, by omega⟩
set_option maxHeartbeats 1000000 in
theorem w_x12_storeTold {s : MS} (hRs : Rr s) (hp0 : gI s 2 ≤ gI s 3) (hp1 : ((0 ≤ gA s 39 2 ∧ gA s 39 2 ≤ 8) ∧ (0 ≤ gA s 39 3 ∧ gA s 39 3 < 1)) ∧ (gA s 39 2 = vt_r (gA s 41) (gA s 39 3).toNat ∧ AW (gA s 41) (gA s 39 3).toNat) ∧ (gI s 45 ≤ gI s 2 ∧ ∀ w : Nat, w < 3 → CW1 (gA s 42) (gA s 43) (gA s 44) (gI s 45) w)) (hp2 : gA s 39 4 = 0) : wp (m_x12_storeTold s) (fun o => (Rr o) ∧ (SP o (1 - gI s 46)) ∧ (gI s 2 ≤ gI o 2 ∧ gI o 2 ≤ gI o 3) ∧ (FBk s o)) := by
  unfold m_x12_storeTold
  refine wp_bn (w_x12_asks hRs (by show gI s 2 ≤ gI s 3; have : (0 : Int) ≤ gI s 45 ∧ gI s 45 ≤ 1600 := hRs.1 45; have : (0 : Int) ≤ gI s 3 ∧ gI s 3 ≤ 1600 := hRs.1 3; have : (0 : Int) ≤ gI s 2 ∧ gI s 2 ≤ 1600 := hRs.1 2; omega) (fun j hj => hRs.2.1 11 j hj) (by decide)) (fun s2 es2 hs2 => ?_)
  have Fs2 : F_x12_asks s s2 := fr_x12_asks es2
  obtain ⟨hRs2, hs2_0, hs2_1, hs2_2⟩ := hs2
  have hs2_0 : gI s 2 ≤ gI s2 2 ∧ gI s2 2 ≤ gI s2 3 := hs2_0
  have hs2_1 : gI s 5 ≠ 0 → gI s2 5 ≠ 0 := hs2_1
  have hs2_2 : gI s2 5 = 0 → gI s 2 + ((6 : Int) : Int) ≤ gI s2 2 := hs2_2
  refine wp_bn (w_x12_number hRs2 (by show gI s2 2 ≤ gI s2 3; have : (0 : Int) ≤ gI s2 5 ∧ gI s2 5 ≤ 5 := hRs2.1 5; have : (0 : Int) ≤ gI s 5 ∧ gI s 5 ≤ 5 := hRs.1 5; have : (0 : Int) ≤ gI s 45 ∧ gI s 45 ≤ 1600 := hRs.1 45; have : (0 : Int) ≤ gI s 3 ∧ gI s 3 ≤ 1600 := hRs.1 3; have : (0 : Int) ≤ gI s 2 ∧ gI s 2 ≤ 1600 := hRs.1 2; have : gI s2 3 = gI s 3 := Fs2.1 3 (by decide); have : (0 : Int) ≤ gI s2 2 ∧ gI s2 2 ≤ 1600 := hRs2.1 2; omega) (by show 0 ≤ (8 : Int) ∧ (8 : Int) ≤ (48 : Int) ∧ (48 : Int) ≤ 9999; have : (0 : Int) ≤ gI s2 5 ∧ gI s2 5 ≤ 5 := hRs2.1 5; have : (0 : Int) ≤ gI s 5 ∧ gI s 5 ≤ 5 := hRs.1 5; have : gI s2 3 = gI s 3 := Fs2.1 3 (by decide); have : (0 : Int) ≤ gI s2 2 ∧ gI s2 2 ≤ 1600 := hRs2.1 2; have : (0 : Int) ≤ gI s 45 ∧ gI s 45 ≤ 1600 := hRs.1 45; have : (0 : Int) ≤ gI s 3 ∧ gI s 3 ≤ 1600 := hRs.1 3; have : (0 : Int) ≤ gI s 2 ∧ gI s 2 ≤ 1600 := hRs.1 2; omega)) (fun qqr5 eqr5s hqr5s => ?_)
  obtain ⟨qr5r, qr5s⟩ := qqr5
  dsimp only at eqr5s hqr5s ⊢
  have Fqr5s : F_x12_number s2 qr5s := fr_x12_number eqr5s
  obtain ⟨hRqr5s, hqr5s_0, hqr5s_1, hqr5s_2, hqr5s_3⟩ := hqr5s
  have hqr5s_0 : 0 ≤ qr5r ∧ qr5r ≤ 9999 := hqr5s_0
  have hqr5s_1 : gI s2 2 ≤ gI qr5s 2 ∧ gI qr5s 2 ≤ gI qr5s 3 := hqr5s_1
  have hqr5s_2 : gI s2 5 ≠ 0 → gI qr5s 5 ≠ 0 := hqr5s_2
  have hqr5s_3 : gI qr5s 5 = 0 → ((8 : Int) ≤ qr5r ∧ qr5r ≤ (48 : Int)) ∧ gI s2 2 + 1 ≤ gI qr5s 2 := hqr5s_3
  refine wp_inb (by have : (0 : Int) ≤ gI qr5s 5 ∧ gI qr5s 5 ≤ 5 := hRqr5s.1 5; have : gI qr5s 3 = gI s2 3 := Fqr5s.1 3 (by decide); have : (0 : Int) ≤ gI qr5s 2 ∧ gI qr5s 2 ≤ 1600 := hRqr5s.1 2; have : (0 : Int) ≤ gI s2 5 ∧ gI s2 5 ≤ 5 := hRs2.1 5; have : (0 : Int) ≤ gI s 5 ∧ gI s 5 ≤ 5 := hRs.1 5; have : gI s2 3 = gI s 3 := Fs2.1 3 (by decide); have : (0 : Int) ≤ gI s2 2 ∧ gI s2 2 ≤ 1600 := hRs2.1 2; have : (0 : Int) ≤ gI s 45 ∧ gI s 45 ≤ 1600 := hRs.1 45; have : (0 : Int) ≤ gI s 3 ∧ gI s 3 ≤ 1600 := hRs.1 3; have : (0 : Int) ≤ gI s 2 ∧ gI s 2 ≤ 1600 := hRs.1 2; omega) ?_
  refine wp_stn (fun s7 es7 => ?_)
  have hRs7 : Rr s7 := es7 ▸ Rr.uAu hRqr5s (by show (-2147483648 : Int) ≤ qr5r ∧ qr5r ≤ 2147483647; have : (0 : Int) ≤ gI qr5s 5 ∧ gI qr5s 5 ≤ 5 := hRqr5s.1 5; have : gI qr5s 3 = gI s2 3 := Fqr5s.1 3 (by decide); have : (0 : Int) ≤ gI qr5s 2 ∧ gI qr5s 2 ≤ 1600 := hRqr5s.1 2; have : (0 : Int) ≤ gI s2 5 ∧ gI s2 5 ≤ 5 := hRs2.1 5; have : (0 : Int) ≤ gI s 5 ∧ gI s 5 ≤ 5 := hRs.1 5; have : gI s2 3 = gI s 3 := Fs2.1 3 (by decide); have : (0 : Int) ≤ gI s2 2 ∧ gI s2 2 ≤ 1600 := hRs2.1 2; have : (0 : Int) ≤ gI s 45 ∧ gI s 45 ≤ 1600 := hRs.1 45; have : (0 : Int) ≤ gI s 3 ∧ gI s 3 ≤ 1600 := hRs.1 3; have : (0 : Int) ≤ gI s 2 ∧ gI s 2 ≤ 1600 := hRs.1 2; omega)
  refine wp_bn (w_x12_asks hRs7 (by show gI s7 2 ≤ gI s7 3; have : (0 : Int) ≤ gI qr5s 5 ∧ gI qr5s 5 ≤ 5 := hRqr5s.1 5; have : gI qr5s 3 = gI s2 3 := Fqr5s.1 3 (by decide); have : (0 : Int) ≤ gI qr5s 2 ∧ gI qr5s 2 ≤ 1600 := hRqr5s.1 2; have : (0 : Int) ≤ gI s2 5 ∧ gI s2 5 ≤ 5 := hRs2.1 5; have : (0 : Int) ≤ gI s 5 ∧ gI s 5 ≤ 5 := hRs.1 5; have : gI s2 3 = gI s 3 := Fs2.1 3 (by decide); have : (0 : Int) ≤ gI s2 2 ∧ gI s2 2 ≤ 1600 := hRs2.1 2; have : (0 : Int) ≤ gI s 45 ∧ gI s 45 ≤ 1600 := hRs.1 45; have : (0 : Int) ≤ gI s 3 ∧ gI s 3 ≤ 1600 := hRs.1 3; have : (0 : Int) ≤ gI s 2 ∧ gI s 2 ≤ 1600 := hRs.1 2; have : gI s7 3 = gI qr5s 3 := q_Ai es7; have : gI s7 2 = gI qr5s 2 := q_Ai es7; omega) (fun j hj => hRs7.2.1 12 j hj) (by decide)) (fun s9 es9 hs9 => ?_)
  have Fs9 : F_x12_asks s7 s9 := fr_x12_asks es9
  obtain ⟨hRs9, hs9_0, hs9_1, hs9_2⟩ := hs9
  have hs9_0 : gI s7 2 ≤ gI s9 2 ∧ gI s9 2 ≤ gI s9 3 := hs9_0
  have hs9_1 : gI s7 5 ≠ 0 → gI s9 5 ≠ 0 := hs9_1
  have hs9_2 : gI s9 5 = 0 → gI s7 2 + ((4 : Int) : Int) ≤ gI s9 2 := hs9_2
  refine wp_bn (w_x12_number hRs9 (by show gI s9 2 ≤ gI s9 3; have : (0 : Int) ≤ gI s9 5 ∧ gI s9 5 ≤ 5 := hRs9.1 5; have : gI s7 5 = gI qr5s 5 := q_Ai es7; have : gI s7 2 = gI qr5s 2 := q_Ai es7; have : (0 : Int) ≤ gI qr5s 5 ∧ gI qr5s 5 ≤ 5 := hRqr5s.1 5; have : gI qr5s 3 = gI s2 3 := Fqr5s.1 3 (by decide); have : (0 : Int) ≤ gI qr5s 2 ∧ gI qr5s 2 ≤ 1600 := hRqr5s.1 2; have : (0 : Int) ≤ gI s2 5 ∧ gI s2 5 ≤ 5 := hRs2.1 5; have : (0 : Int) ≤ gI s 5 ∧ gI s 5 ≤ 5 := hRs.1 5; have : gI s2 3 = gI s 3 := Fs2.1 3 (by decide); have : (0 : Int) ≤ gI s2 2 ∧ gI s2 2 ≤ 1600 := hRs2.1 2; have : (0 : Int) ≤ gI s 45 ∧ gI s 45 ≤ 1600 := hRs.1 45; have : (0 : Int) ≤ gI s 3 ∧ gI s 3 ≤ 1600 := hRs.1 3; have : (0 : Int) ≤ gI s 2 ∧ gI s 2 ≤ 1600 := hRs.1 2; have : gI s9 3 = gI s7 3 := Fs9.1 3 (by decide); have : gI s7 3 = gI qr5s 3 := q_Ai es7; have : (0 : Int) ≤ gI s9 2 ∧ gI s9 2 ≤ 1600 := hRs9.1 2; omega) (by show 0 ≤ (3 : Int) ∧ (3 : Int) ≤ (6 : Int) ∧ (6 : Int) ≤ 9999; have : (0 : Int) ≤ gI s9 5 ∧ gI s9 5 ≤ 5 := hRs9.1 5; have : gI s7 5 = gI qr5s 5 := q_Ai es7; have : gI s9 3 = gI s7 3 := Fs9.1 3 (by decide); have : gI s7 3 = gI qr5s 3 := q_Ai es7; have : (0 : Int) ≤ gI s9 2 ∧ gI s9 2 ≤ 1600 := hRs9.1 2; have : gI s7 2 = gI qr5s 2 := q_Ai es7; have : (0 : Int) ≤ gI qr5s 5 ∧ gI qr5s 5 ≤ 5 := hRqr5s.1 5; have : gI qr5s 3 = gI s2 3 := Fqr5s.1 3 (by decide); have : (0 : Int) ≤ gI qr5s 2 ∧ gI qr5s 2 ≤ 1600 := hRqr5s.1 2; have : (0 : Int) ≤ gI s2 5 ∧ gI s2 5 ≤ 5 := hRs2.1 5; have : (0 : Int) ≤ gI s 5 ∧ gI s 5 ≤ 5 := hRs.1 5; have : gI s2 3 = gI s 3 := Fs2.1 3 (by decide); have : (0 : Int) ≤ gI s2 2 ∧ gI s2 2 ≤ 1600 := hRs2.1 2; have : (0 : Int) ≤ gI s 45 ∧ gI s 45 ≤ 1600 := hRs.1 45; have : (0 : Int) ≤ gI s 3 ∧ gI s 3 ≤ 1600 := hRs.1 3; have : (0 : Int) ≤ gI s 2 ∧ gI s 2 ≤ 1600 := hRs.1 2; omega)) (fun qqr12 eqr12s hqr12s => ?_)
  obtain ⟨qr12r, qr12s⟩ := qqr12
  dsimp only at eqr12s hqr12s ⊢
  have Fqr12s : F_x12_number s9 qr12s := fr_x12_number eqr12s
  obtain ⟨hRqr12s, hqr12s_0, hqr12s_1, hqr12s_2, hqr12s_3⟩ := hqr12s
  have hqr12s_0 : 0 ≤ qr12r ∧ qr12r ≤ 9999 := hqr12s_0
  have hqr12s_1 : gI s9 2 ≤ gI qr12s 2 ∧ gI qr12s 2 ≤ gI qr12s 3 := hqr12s_1
  have hqr12s_2 : gI s9 5 ≠ 0 → gI qr12s 5 ≠ 0 := hqr12s_2
  have hqr12s_3 : gI qr12s 5 = 0 → ((3 : Int) ≤ qr12r ∧ qr12r ≤ (6 : Int)) ∧ gI s9 2 + 1 ≤ gI qr12s 2 := hqr12s_3
  refine wp_inb (by have : (0 : Int) ≤ gI qr12s 5 ∧ gI qr12s 5 ≤ 5 := hRqr12s.1 5; have : gI qr12s 3 = gI s9 3 := Fqr12s.1 3 (by decide); have : (0 : Int) ≤ gI qr12s 2 ∧ gI qr12s 2 ≤ 1600 := hRqr12s.1 2; have : (0 : Int) ≤ gI s9 5 ∧ gI s9 5 ≤ 5 := hRs9.1 5; have : gI s7 5 = gI qr5s 5 := q_Ai es7; have : gI s9 3 = gI s7 3 := Fs9.1 3 (by decide); have : gI s7 3 = gI qr5s 3 := q_Ai es7; have : (0 : Int) ≤ gI s9 2 ∧ gI s9 2 ≤ 1600 := hRs9.1 2; have : gI s7 2 = gI qr5s 2 := q_Ai es7; have : (0 : Int) ≤ gI qr5s 5 ∧ gI qr5s 5 ≤ 5 := hRqr5s.1 5; have : gI qr5s 3 = gI s2 3 := Fqr5s.1 3 (by decide); have : (0 : Int) ≤ gI qr5s 2 ∧ gI qr5s 2 ≤ 1600 := hRqr5s.1 2; have : (0 : Int) ≤ gI s2 5 ∧ gI s2 5 ≤ 5 := hRs2.1 5; have : (0 : Int) ≤ gI s 5 ∧ gI s 5 ≤ 5 := hRs.1 5; have : gI s2 3 = gI s 3 := Fs2.1 3 (by decide); have : (0 : Int) ≤ gI s2 2 ∧ gI s2 2 ≤ 1600 := hRs2.1 2; have : (0 : Int) ≤ gI s 45 ∧ gI s 45 ≤ 1600 := hRs.1 45; have : (0 : Int) ≤ gI s 3 ∧ gI s 3 ≤ 1600 := hRs.1 3; have : (0 : Int) ≤ gI s 2 ∧ gI s 2 ≤ 1600 := hRs.1 2; omega) ?_
  refine wp_stn (fun s14 es14 => ?_)
  have hRs14 : Rr s14 := es14 ▸ Rr.uAu hRqr12s (by show (-2147483648 : Int) ≤ qr12r ∧ qr12r ≤ 2147483647; have : (0 : Int) ≤ gI qr12s 5 ∧ gI qr12s 5 ≤ 5 := hRqr12s.1 5; have : gI qr12s 3 = gI s9 3 := Fqr12s.1 3 (by decide); have : (0 : Int) ≤ gI qr12s 2 ∧ gI qr12s 2 ≤ 1600 := hRqr12s.1 2; have : (0 : Int) ≤ gI s9 5 ∧ gI s9 5 ≤ 5 := hRs9.1 5; have : gI s7 5 = gI qr5s 5 := q_Ai es7; have : gI s9 3 = gI s7 3 := Fs9.1 3 (by decide); have : gI s7 3 = gI qr5s 3 := q_Ai es7; have : (0 : Int) ≤ gI s9 2 ∧ gI s9 2 ≤ 1600 := hRs9.1 2; have : gI s7 2 = gI qr5s 2 := q_Ai es7; have : (0 : Int) ≤ gI qr5s 5 ∧ gI qr5s 5 ≤ 5 := hRqr5s.1 5; have : gI qr5s 3 = gI s2 3 := Fqr5s.1 3 (by decide); have : (0 : Int) ≤ gI qr5s 2 ∧ gI qr5s 2 ≤ 1600 := hRqr5s.1 2; have : (0 : Int) ≤ gI s2 5 ∧ gI s2 5 ≤ 5 := hRs2.1 5; have : (0 : Int) ≤ gI s 5 ∧ gI s 5 ≤ 5 := hRs.1 5; have : gI s2 3 = gI s 3 := Fs2.1 3 (by decide); have : (0 : Int) ≤ gI s2 2 ∧ gI s2 2 ≤ 1600 := hRs2.1 2; have : (0 : Int) ≤ gI s 45 ∧ gI s 45 ≤ 1600 := hRs.1 45; have : (0 : Int) ≤ gI s 3 ∧ gI s 3 ≤ 1600 := hRs.1 3; have : (0 : Int) ≤ gI s 2 ∧ gI s 2 ≤ 1600 := hRs.1 2; omega)
  refine wp_bn (w_x12_asksSign hRs14 (by show gI s14 2 ≤ gI s14 3; have : (0 : Int) ≤ gI qr12s 5 ∧ gI qr12s 5 ≤ 5 := hRqr12s.1 5; have : gI qr12s 3 = gI s9 3 := Fqr12s.1 3 (by decide); have : (0 : Int) ≤ gI qr12s 2 ∧ gI qr12s 2 ≤ 1600 := hRqr12s.1 2; have : (0 : Int) ≤ gI s9 5 ∧ gI s9 5 ≤ 5 := hRs9.1 5; have : gI s7 5 = gI qr5s 5 := q_Ai es7; have : gI s9 3 = gI s7 3 := Fs9.1 3 (by decide); have : gI s7 3 = gI qr5s 3 := q_Ai es7; have : (0 : Int) ≤ gI s9 2 ∧ gI s9 2 ≤ 1600 := hRs9.1 2; have : gI s7 2 = gI qr5s 2 := q_Ai es7; have : (0 : Int) ≤ gI qr5s 5 ∧ gI qr5s 5 ≤ 5 := hRqr5s.1 5; have : gI qr5s 3 = gI s2 3 := Fqr5s.1 3 (by decide); have : (0 : Int) ≤ gI qr5s 2 ∧ gI qr5s 2 ≤ 1600 := hRqr5s.1 2; have : (0 : Int) ≤ gI s2 5 ∧ gI s2 5 ≤ 5 := hRs2.1 5; have : (0 : Int) ≤ gI s 5 ∧ gI s 5 ≤ 5 := hRs.1 5; have : gI s2 3 = gI s 3 := Fs2.1 3 (by decide); have : (0 : Int) ≤ gI s2 2 ∧ gI s2 2 ≤ 1600 := hRs2.1 2; have : (0 : Int) ≤ gI s 45 ∧ gI s 45 ≤ 1600 := hRs.1 45; have : (0 : Int) ≤ gI s 3 ∧ gI s 3 ≤ 1600 := hRs.1 3; have : (0 : Int) ≤ gI s 2 ∧ gI s 2 ≤ 1600 := hRs.1 2; have : gI s14 3 = gI qr12s 3 := q_Ai es14; have : gI s14 2 = gI qr12s 2 := q_Ai es14; omega) (by show 0 ≤ (59 : Int) ∧ (59 : Int) ≤ 255; have : (0 : Int) ≤ gI qr12s 5 ∧ gI qr12s 5 ≤ 5 := hRqr12s.1 5; have : gI qr12s 3 = gI s9 3 := Fqr12s.1 3 (by decide); have : (0 : Int) ≤ gI qr12s 2 ∧ gI qr12s 2 ≤ 1600 := hRqr12s.1 2; have : (0 : Int) ≤ gI s9 5 ∧ gI s9 5 ≤ 5 := hRs9.1 5; have : gI s7 5 = gI qr5s 5 := q_Ai es7; have : gI s9 3 = gI s7 3 := Fs9.1 3 (by decide); have : gI s7 3 = gI qr5s 3 := q_Ai es7; have : (0 : Int) ≤ gI s9 2 ∧ gI s9 2 ≤ 1600 := hRs9.1 2; have : gI s7 2 = gI qr5s 2 := q_Ai es7; have : (0 : Int) ≤ gI qr5s 5 ∧ gI qr5s 5 ≤ 5 := hRqr5s.1 5; have : gI qr5s 3 = gI s2 3 := Fqr5s.1 3 (by decide); have : (0 : Int) ≤ gI qr5s 2 ∧ gI qr5s 2 ≤ 1600 := hRqr5s.1 2; have : (0 : Int) ≤ gI s2 5 ∧ gI s2 5 ≤ 5 := hRs2.1 5; have : (0 : Int) ≤ gI s 5 ∧ gI s 5 ≤ 5 := hRs.1 5; have : gI s2 3 = gI s 3 := Fs2.1 3 (by decide); have : (0 : Int) ≤ gI s2 2 ∧ gI s2 2 ≤ 1600 := hRs2.1 2; have : (0 : Int) ≤ gI s 45 ∧ gI s 45 ≤ 1600 := hRs.1 45; have : (0 : Int) ≤ gI s 3 ∧ gI s 3 ≤ 1600 := hRs.1 3; have : (0 : Int) ≤ gI s 2 ∧ gI s 2 ≤ 1600 := hRs.1 2; omega)) (fun s16 es16 hs16 => ?_)
  have Fs16 : F_x12_asksSign s14 s16 := fr_x12_asksSign es16
  obtain ⟨hRs16, hs16_0, hs16_1, hs16_2⟩ := hs16
  have hs16_0 : gI s14 2 ≤ gI s16 2 ∧ gI s16 2 ≤ gI s16 3 := hs16_0
  have hs16_1 : gI s14 5 ≠ 0 → gI s16 5 ≠ 0 := hs16_1
  have hs16_2 : gI s16 5 = 0 → gI s14 2 + 1 ≤ gI s16 2 := hs16_2
  exact wp_some ⟨hRs16, by
      have u7 : gA s7 39 = upZ (gA qr5s 39) 0 qr5r := q_AA es7
      have u14 : gA s14 39 = upZ (gA qr12s 39) 1 qr12r := q_AA es14
      have w : gA s16 39 = upZ (upZ (gA s 39) 0 qr5r) 1 qr12r := by rw [((Fs16.2.1 39 (by decide))), u14, (((Fqr12s.2.1 39 (by decide)).trans (Fs9.2.1 39 (by decide)))), u7, (((Fqr5s.2.1 39 (by decide)).trans (Fs2.2.1 39 (by decide))))]
      obtain ⟨qa, qb, ⟨qc1, qc2⟩⟩ := hp1
      refine ⟨?_, ?_, ⟨?_, fun w hw => ?_⟩, fun h9 => ?_⟩
      · rw [w, upZ_n (by decide), upZ_n (by decide), upZ_n (by decide), upZ_n (by decide)]; exact ⟨qa.1, by have : (0 : Int) ≤ gI s16 5 ∧ gI s16 5 ≤ 5 := hRs16.1 5; have : gI s14 5 = gI qr12s 5 := q_Ai es14; have : gI s16 3 = gI s14 3 := Fs16.1 3 (by decide); have : gI s14 3 = gI qr12s 3 := q_Ai es14; have : (0 : Int) ≤ gI s16 2 ∧ gI s16 2 ≤ 1600 := hRs16.1 2; have : gI s14 2 = gI qr12s 2 := q_Ai es14; have : (0 : Int) ≤ gI qr12s 5 ∧ gI qr12s 5 ≤ 5 := hRqr12s.1 5; have : gI qr12s 3 = gI s9 3 := Fqr12s.1 3 (by decide); have : (0 : Int) ≤ gI qr12s 2 ∧ gI qr12s 2 ≤ 1600 := hRqr12s.1 2; have : (0 : Int) ≤ gI s9 5 ∧ gI s9 5 ≤ 5 := hRs9.1 5; have : gI s7 5 = gI qr5s 5 := q_Ai es7; have : gI s9 3 = gI s7 3 := Fs9.1 3 (by decide); have : gI s7 3 = gI qr5s 3 := q_Ai es7; have : (0 : Int) ≤ gI s9 2 ∧ gI s9 2 ≤ 1600 := hRs9.1 2; have : gI s7 2 = gI qr5s 2 := q_Ai es7; have : (0 : Int) ≤ gI qr5s 5 ∧ gI qr5s 5 ≤ 5 := hRqr5s.1 5; have : gI qr5s 3 = gI s2 3 := Fqr5s.1 3 (by decide); have : (0 : Int) ≤ gI qr5s 2 ∧ gI qr5s 2 ≤ 1600 := hRqr5s.1 2; have : (0 : Int) ≤ gI s2 5 ∧ gI s2 5 ≤ 5 := hRs2.1 5; have : (0 : Int) ≤ gI s 5 ∧ gI s 5 ≤ 5 := hRs.1 5; have : gI s2 3 = gI s 3 := Fs2.1 3 (by decide); have : (0 : Int) ≤ gI s2 2 ∧ gI s2 2 ≤ 1600 := hRs2.1 2; have : (0 : Int) ≤ gI s 45 ∧ gI s 45 ≤ 1600 := hRs.1 45; have : (0 : Int) ≤ gI s 3 ∧ gI s 3 ≤ 1600 := hRs.1 3; have : (0 : Int) ≤ gI s 2 ∧ gI s 2 ≤ 1600 := hRs.1 2; have : gI s16 46 = gI s14 46 := Fs16.1 46 (by decide); have : gI s14 46 = gI qr12s 46 := q_Ai es14; have : gI qr12s 46 = gI s9 46 := Fqr12s.1 46 (by decide); have : gI s9 46 = gI s7 46 := Fs9.1 46 (by decide); have : gI s7 46 = gI qr5s 46 := q_Ai es7; have : gI qr5s 46 = gI s2 46 := Fqr5s.1 46 (by decide); have : gI s2 46 = gI s 46 := Fs2.1 46 (by decide); have : (0 : Int) ≤ gI s 46 ∧ gI s 46 ≤ 60 := hRs.1 46; have := qa.2; omega⟩
      · rw [w, upZ_n (by decide), upZ_n (by decide), upZ_n (by decide), upZ_n (by decide), (((Fs16.2.1 41 (by decide)).trans ((q_Aa es14 (by decide) : gA s14 41 = gA qr12s 41).trans ((Fqr12s.2.1 41 (by decide)).trans ((Fs9.2.1 41 (by decide)).trans ((q_Aa es7 (by decide) : gA s7 41 = gA qr5s 41).trans ((Fqr5s.2.1 41 (by decide)).trans (Fs2.2.1 41 (by decide)))))))))]; exact qb
      · have : (0 : Int) ≤ gI s16 5 ∧ gI s16 5 ≤ 5 := hRs16.1 5; have : gI s14 5 = gI qr12s 5 := q_Ai es14; have : gI s16 3 = gI s14 3 := Fs16.1 3 (by decide); have : gI s14 3 = gI qr12s 3 := q_Ai es14; have : gI s14 2 = gI qr12s 2 := q_Ai es14; have : (0 : Int) ≤ gI qr12s 5 ∧ gI qr12s 5 ≤ 5 := hRqr12s.1 5; have : gI qr12s 3 = gI s9 3 := Fqr12s.1 3 (by decide); have : (0 : Int) ≤ gI qr12s 2 ∧ gI qr12s 2 ≤ 1600 := hRqr12s.1 2; have : (0 : Int) ≤ gI s9 5 ∧ gI s9 5 ≤ 5 := hRs9.1 5; have : gI s7 5 = gI qr5s 5 := q_Ai es7; have : gI s9 3 = gI s7 3 := Fs9.1 3 (by decide); have : gI s7 3 = gI qr5s 3 := q_Ai es7; have : (0 : Int) ≤ gI s9 2 ∧ gI s9 2 ≤ 1600 := hRs9.1 2; have : gI s7 2 = gI qr5s 2 := q_Ai es7; have : (0 : Int) ≤ gI qr5s 5 ∧ gI qr5s 5 ≤ 5 := hRqr5s.1 5; have : gI qr5s 3 = gI s2 3 := Fqr5s.1 3 (by decide); have : (0 : Int) ≤ gI qr5s 2 ∧ gI qr5s 2 ≤ 1600 := hRqr5s.1 2; have : (0 : Int) ≤ gI s2 5 ∧ gI s2 5 ≤ 5 := hRs2.1 5; have : (0 : Int) ≤ gI s 5 ∧ gI s 5 ≤ 5 := hRs.1 5; have : gI s2 3 = gI s 3 := Fs2.1 3 (by decide); have : (0 : Int) ≤ gI s2 2 ∧ gI s2 2 ≤ 1600 := hRs2.1 2; have : (0 : Int) ≤ gI s 45 ∧ gI s 45 ≤ 1600 := hRs.1 45; have : (0 : Int) ≤ gI s 3 ∧ gI s 3 ≤ 1600 := hRs.1 3; have : (0 : Int) ≤ gI s 2 ∧ gI s 2 ≤ 1600 := hRs.1 2; have : (0 : Int) ≤ gI s16 2 ∧ gI s16 2 ≤ 1600 := hRs16.1 2; have : gI s16 45 = gI s14 45 := Fs16.1 45 (by decide); have : gI s14 45 = gI qr12s 45 := q_Ai es14; have : gI qr12s 45 = gI s9 45 := Fqr12s.1 45 (by decide); have : gI s9 45 = gI s7 45 := Fs9.1 45 (by decide); have : gI s7 45 = gI qr5s 45 := q_Ai es7; have : gI qr5s 45 = gI s2 45 := Fqr5s.1 45 (by decide); have : gI s2 45 = gI s 45 := Fs2.1 45 (by decide); omega
      · rw [(((Fs16.2.1 42 (by decide)).trans ((q_Aa es14 (by decide) : gA s14 42 = gA qr12s 42).trans ((Fqr12s.2.1 42 (by decide)).trans ((Fs9.2.1 42 (by decide)).trans ((q_Aa es7 (by decide) : gA s7 42 = gA qr5s 42).trans ((Fqr5s.2.1 42 (by decide)).trans (Fs2.2.1 42 (by decide))))))))), (((Fs16.2.1 43 (by decide)).trans ((q_Aa es14 (by decide) : gA s14 43 = gA qr12s 43).trans ((Fqr12s.2.1 43 (by decide)).trans ((Fs9.2.1 43 (by decide)).trans ((q_Aa es7 (by decide) : gA s7 43 = gA qr5s 43).trans ((Fqr5s.2.1 43 (by decide)).trans (Fs2.2.1 43 (by decide))))))))), (((Fs16.2.1 44 (by decide)).trans ((q_Aa es14 (by decide) : gA s14 44 = gA qr12s 44).trans ((Fqr12s.2.1 44 (by decide)).trans ((Fs9.2.1 44 (by decide)).trans ((q_Aa es7 (by decide) : gA s7 44 = gA qr5s 44).trans ((Fqr5s.2.1 44 (by decide)).trans (Fs2.2.1 44 (by decide))))))))), (((Fs16.1 45 (by decide)).trans ((q_Ai es14 : gI s14 45 = gI qr12s 45).trans ((Fqr12s.1 45 (by decide)).trans ((Fs9.1 45 (by decide)).trans ((q_Ai es7 : gI s7 45 = gI qr5s 45).trans ((Fqr5s.1 45 (by decide)).trans (Fs2.1 45 (by decide)))))))))]; exact qc2 w hw
      · have : gI s14 5 = gI qr12s 5 := q_Ai es14; have : gI s16 3 = gI s14 3 := Fs16.1 3 (by decide); have : gI s14 3 = gI qr12s 3 := q_Ai es14; have : (0 : Int) ≤ gI s16 2 ∧ gI s16 2 ≤ 1600 := hRs16.1 2; have : gI s14 2 = gI qr12s 2 := q_Ai es14; have : (0 : Int) ≤ gI qr12s 5 ∧ gI qr12s 5 ≤ 5 := hRqr12s.1 5; have : gI qr12s 3 = gI s9 3 := Fqr12s.1 3 (by decide); have : (0 : Int) ≤ gI qr12s 2 ∧ gI qr12s 2 ≤ 1600 := hRqr12s.1 2; have : (0 : Int) ≤ gI s9 5 ∧ gI s9 5 ≤ 5 := hRs9.1 5; have : gI s7 5 = gI qr5s 5 := q_Ai es7; have : gI s9 3 = gI s7 3 := Fs9.1 3 (by decide); have : gI s7 3 = gI qr5s 3 := q_Ai es7; have : (0 : Int) ≤ gI s9 2 ∧ gI s9 2 ≤ 1600 := hRs9.1 2; have : gI s7 2 = gI qr5s 2 := q_Ai es7; have : (0 : Int) ≤ gI qr5s 5 ∧ gI qr5s 5 ≤ 5 := hRqr5s.1 5; have : gI qr5s 3 = gI s2 3 := Fqr5s.1 3 (by decide); have : (0 : Int) ≤ gI qr5s 2 ∧ gI qr5s 2 ≤ 1600 := hRqr5s.1 2; have : (0 : Int) ≤ gI s2 5 ∧ gI s2 5 ≤ 5 := hRs2.1 5; have : (0 : Int) ≤ gI s 5 ∧ gI s 5 ≤ 5 := hRs.1 5; have : gI s2 3 = gI s 3 := Fs2.1 3 (by decide); have : (0 : Int) ≤ gI s2 2 ∧ gI s2 2 ≤ 1600 := hRs2.1 2; have : (0 : Int) ≤ gI s 45 ∧ gI s 45 ≤ 1600 := hRs.1 45; have : (0 : Int) ≤ gI s 3 ∧ gI s 3 ≤ 1600 := hRs.1 3; have : (0 : Int) ≤ gI s 2 ∧ gI s 2 ≤ 1600 := hRs.1 2; have : (0 : Int) ≤ gI s16 5 ∧ gI s16 5 ≤ 5 := hRs16.1 5; rw [w, upZ_n (by decide), upZ_s, upZ_s, upZ_n (by decide), upZ_n (by decide), hp2]; exact ⟨by omega, by omega, by omega⟩, by show gI s 2 ≤ gI s16 2 ∧ gI s16 2 ≤ gI s16 3; have : (0 : Int) ≤ gI s16 5 ∧ gI s16 5 ≤ 5 := hRs16.1 5; have : gI s14 5 = gI qr12s 5 := q_Ai es14; have : gI s14 2 = gI qr12s 2 := q_Ai es14; have : (0 : Int) ≤ gI qr12s 5 ∧ gI qr12s 5 ≤ 5 := hRqr12s.1 5; have : gI qr12s 3 = gI s9 3 := Fqr12s.1 3 (by decide); have : (0 : Int) ≤ gI qr12s 2 ∧ gI qr12s 2 ≤ 1600 := hRqr12s.1 2; have : (0 : Int) ≤ gI s9 5 ∧ gI s9 5 ≤ 5 := hRs9.1 5; have : gI s7 5 = gI qr5s 5 := q_Ai es7; have : gI s9 3 = gI s7 3 := Fs9.1 3 (by decide); have : gI s7 3 = gI qr5s 3 := q_Ai es7; have : (0 : Int) ≤ gI s9 2 ∧ gI s9 2 ≤ 1600 := hRs9.1 2; have : gI s7 2 = gI qr5s 2 := q_Ai es7; have : (0 : Int) ≤ gI qr5s 5 ∧ gI qr5s 5 ≤ 5 := hRqr5s.1 5; have : gI qr5s 3 = gI s2 3 := Fqr5s.1 3 (by decide); have : (0 : Int) ≤ gI qr5s 2 ∧ gI qr5s 2 ≤ 1600 := hRqr5s.1 2; have : (0 : Int) ≤ gI s2 5 ∧ gI s2 5 ≤ 5 := hRs2.1 5; have : (0 : Int) ≤ gI s 5 ∧ gI s 5 ≤ 5 := hRs.1 5; have : gI s2 3 = gI s 3 := Fs2.1 3 (by decide); have : (0 : Int) ≤ gI s2 2 ∧ gI s2 2 ≤ 1600 := hRs2.1 2; have : (0 : Int) ≤ gI s 45 ∧ gI s 45 ≤ 1600 := hRs.1 45; have : (0 : Int) ≤ gI s 3 ∧ gI s 3 ≤ 1600 := hRs.1 3; have : gI s16 3 = gI s14 3 := Fs16.1 3 (by decide); have : gI s14 3 = gI qr12s 3 := q_Ai es14; have : (0 : Int) ≤ gI s16 2 ∧ gI s16 2 ≤ 1600 := hRs16.1 2; have : (0 : Int) ≤ gI s 2 ∧ gI s 2 ≤ 1600 := hRs.1 2; omega, FB_39 (fun j hj => by rw [((Fs16.2.1 39 (by decide))), (q_AA es14 : gA s14 39 = _), upZ_n (by omega), (((Fqr12s.2.1 39 (by decide)).trans (Fs9.2.1 39 (by decide)))), (q_AA es7 : gA s7 39 = _), upZ_n (by omega), (((Fqr5s.2.1 39 (by decide)).trans (Fs2.2.1 39 (by decide))))]) ((Fs16.2.1 42 (by decide)).trans ((q_Aa es14 (by decide) : gA s14 42 = gA qr12s 42).trans ((Fqr12s.2.1 42 (by decide)).trans ((Fs9.2.1 42 (by decide)).trans ((q_Aa es7 (by decide) : gA s7 42 = gA qr5s 42).trans ((Fqr5s.2.1 42 (by decide)).trans (Fs2.2.1 42 (by decide)))))))) ((Fs16.2.1 43 (by decide)).trans ((q_Aa es14 (by decide) : gA s14 43 = gA qr12s 43).trans ((Fqr12s.2.1 43 (by decide)).trans ((Fs9.2.1 43 (by decide)).trans ((q_Aa es7 (by decide) : gA s7 43 = gA qr5s 43).trans ((Fqr5s.2.1 43 (by decide)).trans (Fs2.2.1 43 (by decide)))))))) ((Fs16.2.1 44 (by decide)).trans ((q_Aa es14 (by decide) : gA s14 44 = gA qr12s 44).trans ((Fqr12s.2.1 44 (by decide)).trans ((Fs9.2.1 44 (by decide)).trans ((q_Aa es7 (by decide) : gA s7 44 = gA qr5s 44).trans ((Fqr5s.2.1 44 (by decide)).trans (Fs2.2.1 44 (by decide))))))))⟩
set_option maxHeartbeats 1000000 in
theorem w_x12_qKind {s : MS} (hRs : Rr s) (hp0 : gI s 2 ≤ gI s 3) : wp (m_x12_qKind s) (fun q => (Rr q.2) ∧ (0 ≤ q.1 ∧ q.1 ≤ 5) ∧ (gI s 2 ≤ gI q.2 2 ∧ gI q.2 2 ≤ gI q.2 3) ∧ (gI s 5 ≠ 0 → gI q.2 5 ≠ 0)) := by
  have J76 : ∀ (x3 : Int) (s4 : MS), Rr s4 → (0 ≤ x3 ∧ x3 ≤ 5) → (gI s 2 ≤ gI s4 2 ∧ gI s4 2 ≤ gI s4 3) → (gI s 5 ≠ 0 → gI s4 5 ≠ 0) → wp (m_x12_qKind_J76 x3 s4) (fun q => (Rr q.2) ∧ (0 ≤ q.1 ∧ q.1 ≤ 5) ∧ (gI s 2 ≤ gI q.2 2 ∧ gI q.2 2 ≤ gI q.2 3) ∧ (gI s 5 ≠ 0 → gI q.2 5 ≠ 0)) := by
    intro x3 s4 hRs4 hj76_0 hj76_1 hj76_2
    unfold m_x12_qKind_J76
    refine wp_rg (by have : (0 : Int) ≤ gI s4 5 ∧ gI s4 5 ≤ 5 := hRs4.1 5; have : (0 : Int) ≤ gI s 5 ∧ gI s 5 ≤ 5 := hRs.1 5; have : (0 : Int) ≤ gI s4 3 ∧ gI s4 3 ≤ 1600 := hRs4.1 3; have : (0 : Int) ≤ gI s4 2 ∧ gI s4 2 ≤ 1600 := hRs4.1 2; have : (0 : Int) ≤ gI s 3 ∧ gI s 3 ≤ 1600 := hRs.1 3; have : (0 : Int) ≤ gI s 2 ∧ gI s 2 ≤ 1600 := hRs.1 2; omega) ?_
    refine wp_if (fun c1 => ?_) (fun c1 => ?_)
    · skip
      refine wp_bn (w_x12_asks hRs4 (by show gI s4 2 ≤ gI s4 3; have : (0 : Int) ≤ gI s4 5 ∧ gI s4 5 ≤ 5 := hRs4.1 5; have : (0 : Int) ≤ gI s 5 ∧ gI s 5 ≤ 5 := hRs.1 5; have : (0 : Int) ≤ gI s 3 ∧ gI s 3 ≤ 1600 := hRs.1 3; have : (0 : Int) ≤ gI s 2 ∧ gI s 2 ≤ 1600 := hRs.1 2; have : (0 : Int) ≤ gI s4 3 ∧ gI s4 3 ≤ 1600 := hRs4.1 3; have : (0 : Int) ≤ gI s4 2 ∧ gI s4 2 ≤ 1600 := hRs4.1 2; omega) (fun j hj => hRs4.2.1 84 j hj) (by decide)) (fun s8 es8 hs8 => ?_)
      have Fs8 : F_x12_asks s4 s8 := fr_x12_asks es8
      obtain ⟨hRs8, hs8_0, hs8_1, hs8_2⟩ := hs8
      have hs8_0 : gI s4 2 ≤ gI s8 2 ∧ gI s8 2 ≤ gI s8 3 := hs8_0
      have hs8_1 : gI s4 5 ≠ 0 → gI s8 5 ≠ 0 := hs8_1
      have hs8_2 : gI s8 5 = 0 → gI s4 2 + ((5 : Int) : Int) ≤ gI s8 2 := hs8_2
      unfold m_x12_qKind_J90
      exact wp_some ⟨hRs8, by show 0 ≤ x3 ∧ x3 ≤ 5; have : (0 : Int) ≤ gI s8 5 ∧ gI s8 5 ≤ 5 := hRs8.1 5; have : gI s8 3 = gI s4 3 := Fs8.1 3 (by decide); have : (0 : Int) ≤ gI s8 2 ∧ gI s8 2 ≤ 1600 := hRs8.1 2; have : (0 : Int) ≤ gI s4 5 ∧ gI s4 5 ≤ 5 := hRs4.1 5; have : (0 : Int) ≤ gI s 5 ∧ gI s 5 ≤ 5 := hRs.1 5; have : (0 : Int) ≤ gI s4 3 ∧ gI s4 3 ≤ 1600 := hRs4.1 3; have : (0 : Int) ≤ gI s4 2 ∧ gI s4 2 ≤ 1600 := hRs4.1 2; have : (0 : Int) ≤ gI s 3 ∧ gI s 3 ≤ 1600 := hRs.1 3; have : (0 : Int) ≤ gI s 2 ∧ gI s 2 ≤ 1600 := hRs.1 2; omega, by show gI s 2 ≤ gI s8 2 ∧ gI s8 2 ≤ gI s8 3; have : (0 : Int) ≤ gI s8 5 ∧ gI s8 5 ≤ 5 := hRs8.1 5; have : (0 : Int) ≤ gI s4 5 ∧ gI s4 5 ≤ 5 := hRs4.1 5; have : (0 : Int) ≤ gI s 5 ∧ gI s 5 ≤ 5 := hRs.1 5; have : (0 : Int) ≤ gI s4 3 ∧ gI s4 3 ≤ 1600 := hRs4.1 3; have : (0 : Int) ≤ gI s4 2 ∧ gI s4 2 ≤ 1600 := hRs4.1 2; have : (0 : Int) ≤ gI s 3 ∧ gI s 3 ≤ 1600 := hRs.1 3; have : gI s8 3 = gI s4 3 := Fs8.1 3 (by decide); have : (0 : Int) ≤ gI s8 2 ∧ gI s8 2 ≤ 1600 := hRs8.1 2; have : (0 : Int) ≤ gI s 2 ∧ gI s 2 ≤ 1600 := hRs.1 2; omega, by show gI s 5 ≠ 0 → gI s8 5 ≠ 0; have : gI s8 3 = gI s4 3 := Fs8.1 3 (by decide); have : (0 : Int) ≤ gI s8 2 ∧ gI s8 2 ≤ 1600 := hRs8.1 2; have : (0 : Int) ≤ gI s4 5 ∧ gI s4 5 ≤ 5 := hRs4.1 5; have : (0 : Int) ≤ gI s4 3 ∧ gI s4 3 ≤ 1600 := hRs4.1 3; have : (0 : Int) ≤ gI s4 2 ∧ gI s4 2 ≤ 1600 := hRs4.1 2; have : (0 : Int) ≤ gI s 3 ∧ gI s 3 ≤ 1600 := hRs.1 3; have : (0 : Int) ≤ gI s 2 ∧ gI s 2 ≤ 1600 := hRs.1 2; have : (0 : Int) ≤ gI s8 5 ∧ gI s8 5 ≤ 5 := hRs8.1 5; have : (0 : Int) ≤ gI s 5 ∧ gI s 5 ≤ 5 := hRs.1 5; omega⟩
    · skip
      unfold m_x12_qKind_J90
      exact wp_some ⟨hRs4, by show 0 ≤ x3 ∧ x3 ≤ 5; have : (0 : Int) ≤ gI s4 5 ∧ gI s4 5 ≤ 5 := hRs4.1 5; have : (0 : Int) ≤ gI s 5 ∧ gI s 5 ≤ 5 := hRs.1 5; have : (0 : Int) ≤ gI s4 3 ∧ gI s4 3 ≤ 1600 := hRs4.1 3; have : (0 : Int) ≤ gI s4 2 ∧ gI s4 2 ≤ 1600 := hRs4.1 2; have : (0 : Int) ≤ gI s 3 ∧ gI s 3 ≤ 1600 := hRs.1 3; have : (0 : Int) ≤ gI s 2 ∧ gI s 2 ≤ 1600 := hRs.1 2; omega, by show gI s 2 ≤ gI s4 2 ∧ gI s4 2 ≤ gI s4 3; have : (0 : Int) ≤ gI s4 5 ∧ gI s4 5 ≤ 5 := hRs4.1 5; have : (0 : Int) ≤ gI s 5 ∧ gI s 5 ≤ 5 := hRs.1 5; have : (0 : Int) ≤ gI s 3 ∧ gI s 3 ≤ 1600 := hRs.1 3; have : (0 : Int) ≤ gI s4 3 ∧ gI s4 3 ≤ 1600 := hRs4.1 3; have : (0 : Int) ≤ gI s4 2 ∧ gI s4 2 ≤ 1600 := hRs4.1 2; have : (0 : Int) ≤ gI s 2 ∧ gI s 2 ≤ 1600 := hRs.1 2; omega, by show gI s 5 ≠ 0 → gI s4 5 ≠ 0; have : (0 : Int) ≤ gI s4 3 ∧ gI s4 3 ≤ 1600 := hRs4.1 3; have : (0 : Int) ≤ gI s4 2 ∧ gI s4 2 ≤ 1600 := hRs4.1 2; have : (0 : Int) ≤ gI s 3 ∧ gI s 3 ≤ 1600 := hRs.1 3; have : (0 : Int) ≤ gI s 2 ∧ gI s 2 ≤ 1600 := hRs.1 2; have : (0 : Int) ≤ gI s4 5 ∧ gI s4 5 ≤ 5 := hRs4.1 5; have : (0 : Int) ≤ gI s 5 ∧ gI s 5 ≤ 5 := hRs.1 5; omega⟩
  unfold m_x12_qKind
  refine wp_bn (w_x12_takes hRs (by show gI s 2 ≤ gI s 3; have : (0 : Int) ≤ gI s 3 ∧ gI s 3 ≤ 1600 := hRs.1 3; have : (0 : Int) ≤ gI s 2 ∧ gI s 2 ≤ 1600 := hRs.1 2; omega) (fun j hj => hRs.2.1 79 j hj) (by decide)) (fun qqr11 eqr11s hqr11s => ?_)
  obtain ⟨qr11r, qr11s⟩ := qqr11
  dsimp only at eqr11s hqr11s ⊢
  have Fqr11s : F_x12_takes s qr11s := fr_x12_takes eqr11s
  obtain ⟨hRqr11s, hqr11s_0, hqr11s_1, hqr11s_2, hqr11s_3⟩ := hqr11s
  have hqr11s_0 : Hid (qr11r = 0 ∨ qr11r = 1) := hqr11s_0
  have hqr11s_1 : gI s 2 ≤ gI qr11s 2 ∧ gI qr11s 2 ≤ gI qr11s 3 := hqr11s_1
  have hqr11s_2 : Hid (qr11r = 1 → gI s 2 + ((5 : Int) : Int) ≤ gI qr11s 2) := hqr11s_2
  have hqr11s_3 : Hid (qr11r = 1 → gI s 5 = 0) := hqr11s_3
  refine wp_rg (by have : gI qr11s 3 = gI s 3 := Fqr11s.1 3 (by decide); have : (0 : Int) ≤ gI qr11s 2 ∧ gI qr11s 2 ≤ 1600 := hRqr11s.1 2; have : (0 : Int) ≤ gI s 3 ∧ gI s 3 ≤ 1600 := hRs.1 3; have : (0 : Int) ≤ gI s 2 ∧ gI s 2 ≤ 1600 := hRs.1 2; omega) ?_
  refine wp_if (fun c2 => ?_) (fun c2 => ?_)
  · skip
    refine wp_bn (w_x12_takes hRqr11s (by show gI qr11s 2 ≤ gI qr11s 3; have : (0 : Int) ≤ gI s 3 ∧ gI s 3 ≤ 1600 := hRs.1 3; have : (0 : Int) ≤ gI s 2 ∧ gI s 2 ≤ 1600 := hRs.1 2; have : gI qr11s 3 = gI s 3 := Fqr11s.1 3 (by decide); have : (0 : Int) ≤ gI qr11s 2 ∧ gI qr11s 2 ≤ 1600 := hRqr11s.1 2; omega) (fun j hj => hRqr11s.2.1 80 j hj) (by decide)) (fun qqr16 eqr16s hqr16s => ?_)
    obtain ⟨qr16r, qr16s⟩ := qqr16
    dsimp only at eqr16s hqr16s ⊢
    have Fqr16s : F_x12_takes qr11s qr16s := fr_x12_takes eqr16s
    obtain ⟨hRqr16s, hqr16s_0, hqr16s_1, hqr16s_2, hqr16s_3⟩ := hqr16s
    have hqr16s_0 : Hid (qr16r = 0 ∨ qr16r = 1) := hqr16s_0
    have hqr16s_1 : gI qr11s 2 ≤ gI qr16s 2 ∧ gI qr16s 2 ≤ gI qr16s 3 := hqr16s_1
    have hqr16s_2 : Hid (qr16r = 1 → gI qr11s 2 + ((4 : Int) : Int) ≤ gI qr16s 2) := hqr16s_2
    have hqr16s_3 : Hid (qr16r = 1 → gI qr11s 5 = 0) := hqr16s_3
    refine wp_rg (by have : gI qr16s 3 = gI qr11s 3 := Fqr16s.1 3 (by decide); have : (0 : Int) ≤ gI qr16s 2 ∧ gI qr16s 2 ≤ 1600 := hRqr16s.1 2; have : gI qr11s 3 = gI s 3 := Fqr11s.1 3 (by decide); have : (0 : Int) ≤ gI qr11s 2 ∧ gI qr11s 2 ≤ 1600 := hRqr11s.1 2; have : (0 : Int) ≤ gI s 3 ∧ gI s 3 ≤ 1600 := hRs.1 3; have : (0 : Int) ≤ gI s 2 ∧ gI s 2 ≤ 1600 := hRs.1 2; omega) ?_
    refine wp_if (fun c3 => ?_) (fun c3 => ?_)
    · skip
      refine wp_bn (w_x12_takes hRqr16s (by show gI qr16s 2 ≤ gI qr16s 3; have : gI qr11s 3 = gI s 3 := Fqr11s.1 3 (by decide); have : (0 : Int) ≤ gI qr11s 2 ∧ gI qr11s 2 ≤ 1600 := hRqr11s.1 2; have : (0 : Int) ≤ gI s 3 ∧ gI s 3 ≤ 1600 := hRs.1 3; have : (0 : Int) ≤ gI s 2 ∧ gI s 2 ≤ 1600 := hRs.1 2; have : gI qr16s 3 = gI qr11s 3 := Fqr16s.1 3 (by decide); have : (0 : Int) ≤ gI qr16s 2 ∧ gI qr16s 2 ≤ 1600 := hRqr16s.1 2; omega) (fun j hj => hRqr16s.2.1 81 j hj) (by decide)) (fun qqr21 eqr21s hqr21s => ?_)
      obtain ⟨qr21r, qr21s⟩ := qqr21
      dsimp only at eqr21s hqr21s ⊢
      have Fqr21s : F_x12_takes qr16s qr21s := fr_x12_takes eqr21s
      obtain ⟨hRqr21s, hqr21s_0, hqr21s_1, hqr21s_2, hqr21s_3⟩ := hqr21s
      have hqr21s_0 : Hid (qr21r = 0 ∨ qr21r = 1) := hqr21s_0
      have hqr21s_1 : gI qr16s 2 ≤ gI qr21s 2 ∧ gI qr21s 2 ≤ gI qr21s 3 := hqr21s_1
      have hqr21s_2 : Hid (qr21r = 1 → gI qr16s 2 + ((5 : Int) : Int) ≤ gI qr21s 2) := hqr21s_2
      have hqr21s_3 : Hid (qr21r = 1 → gI qr16s 5 = 0) := hqr21s_3
      refine wp_rg (by have : gI qr21s 3 = gI qr16s 3 := Fqr21s.1 3 (by decide); have : (0 : Int) ≤ gI qr21s 2 ∧ gI qr21s 2 ≤ 1600 := hRqr21s.1 2; have : gI qr16s 3 = gI qr11s 3 := Fqr16s.1 3 (by decide); have : (0 : Int) ≤ gI qr16s 2 ∧ gI qr16s 2 ≤ 1600 := hRqr16s.1 2; have : gI qr11s 3 = gI s 3 := Fqr11s.1 3 (by decide); have : (0 : Int) ≤ gI qr11s 2 ∧ gI qr11s 2 ≤ 1600 := hRqr11s.1 2; have : (0 : Int) ≤ gI s 3 ∧ gI s 3 ≤ 1600 := hRs.1 3; have : (0 : Int) ≤ gI s 2 ∧ gI s 2 ≤ 1600 := hRs.1 2; omega) ?_
      refine wp_if (fun c4 => ?_) (fun c4 => ?_)
      · skip
        refine wp_bn (w_x12_takes hRqr21s (by show gI qr21s 2 ≤ gI qr21s 3; have : gI qr16s 3 = gI qr11s 3 := Fqr16s.1 3 (by decide); have : (0 : Int) ≤ gI qr16s 2 ∧ gI qr16s 2 ≤ 1600 := hRqr16s.1 2; have : gI qr11s 3 = gI s 3 := Fqr11s.1 3 (by decide); have : (0 : Int) ≤ gI qr11s 2 ∧ gI qr11s 2 ≤ 1600 := hRqr11s.1 2; have : (0 : Int) ≤ gI s 3 ∧ gI s 3 ≤ 1600 := hRs.1 3; have : (0 : Int) ≤ gI s 2 ∧ gI s 2 ≤ 1600 := hRs.1 2; have : gI qr21s 3 = gI qr16s 3 := Fqr21s.1 3 (by decide); have : (0 : Int) ≤ gI qr21s 2 ∧ gI qr21s 2 ≤ 1600 := hRqr21s.1 2; omega) (fun j hj => hRqr21s.2.1 82 j hj) (by decide)) (fun qqr26 eqr26s hqr26s => ?_)
        obtain ⟨qr26r, qr26s⟩ := qqr26
        dsimp only at eqr26s hqr26s ⊢
        have Fqr26s : F_x12_takes qr21s qr26s := fr_x12_takes eqr26s
        obtain ⟨hRqr26s, hqr26s_0, hqr26s_1, hqr26s_2, hqr26s_3⟩ := hqr26s
        have hqr26s_0 : Hid (qr26r = 0 ∨ qr26r = 1) := hqr26s_0
        have hqr26s_1 : gI qr21s 2 ≤ gI qr26s 2 ∧ gI qr26s 2 ≤ gI qr26s 3 := hqr26s_1
        have hqr26s_2 : Hid (qr26r = 1 → gI qr21s 2 + ((5 : Int) : Int) ≤ gI qr26s 2) := hqr26s_2
        have hqr26s_3 : Hid (qr26r = 1 → gI qr21s 5 = 0) := hqr26s_3
        refine wp_rg (by have : gI qr26s 3 = gI qr21s 3 := Fqr26s.1 3 (by decide); have : (0 : Int) ≤ gI qr26s 2 ∧ gI qr26s 2 ≤ 1600 := hRqr26s.1 2; have : gI qr21s 3 = gI qr16s 3 := Fqr21s.1 3 (by decide); have : (0 : Int) ≤ gI qr21s 2 ∧ gI qr21s 2 ≤ 1600 := hRqr21s.1 2; have : gI qr16s 3 = gI qr11s 3 := Fqr16s.1 3 (by decide); have : (0 : Int) ≤ gI qr16s 2 ∧ gI qr16s 2 ≤ 1600 := hRqr16s.1 2; have : gI qr11s 3 = gI s 3 := Fqr11s.1 3 (by decide); have : (0 : Int) ≤ gI qr11s 2 ∧ gI qr11s 2 ≤ 1600 := hRqr11s.1 2; have : (0 : Int) ≤ gI s 3 ∧ gI s 3 ≤ 1600 := hRs.1 3; have : (0 : Int) ≤ gI s 2 ∧ gI s 2 ≤ 1600 := hRs.1 2; omega) ?_
        refine wp_if (fun c5 => ?_) (fun c5 => ?_)
        · skip
          refine wp_bn (w_x12_takes hRqr26s (by show gI qr26s 2 ≤ gI qr26s 3; have : gI qr21s 3 = gI qr16s 3 := Fqr21s.1 3 (by decide); have : (0 : Int) ≤ gI qr21s 2 ∧ gI qr21s 2 ≤ 1600 := hRqr21s.1 2; have : gI qr16s 3 = gI qr11s 3 := Fqr16s.1 3 (by decide); have : (0 : Int) ≤ gI qr16s 2 ∧ gI qr16s 2 ≤ 1600 := hRqr16s.1 2; have : gI qr11s 3 = gI s 3 := Fqr11s.1 3 (by decide); have : (0 : Int) ≤ gI qr11s 2 ∧ gI qr11s 2 ≤ 1600 := hRqr11s.1 2; have : (0 : Int) ≤ gI s 3 ∧ gI s 3 ≤ 1600 := hRs.1 3; have : (0 : Int) ≤ gI s 2 ∧ gI s 2 ≤ 1600 := hRs.1 2; have : gI qr26s 3 = gI qr21s 3 := Fqr26s.1 3 (by decide); have : (0 : Int) ≤ gI qr26s 2 ∧ gI qr26s 2 ≤ 1600 := hRqr26s.1 2; omega) (fun j hj => hRqr26s.2.1 83 j hj) (by decide)) (fun qqr31 eqr31s hqr31s => ?_)
          obtain ⟨qr31r, qr31s⟩ := qqr31
          dsimp only at eqr31s hqr31s ⊢
          have Fqr31s : F_x12_takes qr26s qr31s := fr_x12_takes eqr31s
          obtain ⟨hRqr31s, hqr31s_0, hqr31s_1, hqr31s_2, hqr31s_3⟩ := hqr31s
          have hqr31s_0 : Hid (qr31r = 0 ∨ qr31r = 1) := hqr31s_0
          have hqr31s_1 : gI qr26s 2 ≤ gI qr31s 2 ∧ gI qr31s 2 ≤ gI qr31s 3 := hqr31s_1
          have hqr31s_2 : Hid (qr31r = 1 → gI qr26s 2 + ((4 : Int) : Int) ≤ gI qr31s 2) := hqr31s_2
          have hqr31s_3 : Hid (qr31r = 1 → gI qr26s 5 = 0) := hqr31s_3
          refine wp_rg (by have : gI qr31s 3 = gI qr26s 3 := Fqr31s.1 3 (by decide); have : (0 : Int) ≤ gI qr31s 2 ∧ gI qr31s 2 ≤ 1600 := hRqr31s.1 2; have : gI qr26s 3 = gI qr21s 3 := Fqr26s.1 3 (by decide); have : (0 : Int) ≤ gI qr26s 2 ∧ gI qr26s 2 ≤ 1600 := hRqr26s.1 2; have : gI qr21s 3 = gI qr16s 3 := Fqr21s.1 3 (by decide); have : (0 : Int) ≤ gI qr21s 2 ∧ gI qr21s 2 ≤ 1600 := hRqr21s.1 2; have : gI qr16s 3 = gI qr11s 3 := Fqr16s.1 3 (by decide); have : (0 : Int) ≤ gI qr16s 2 ∧ gI qr16s 2 ≤ 1600 := hRqr16s.1 2; have : gI qr11s 3 = gI s 3 := Fqr11s.1 3 (by decide); have : (0 : Int) ≤ gI qr11s 2 ∧ gI qr11s 2 ≤ 1600 := hRqr11s.1 2; have : (0 : Int) ≤ gI s 3 ∧ gI s 3 ≤ 1600 := hRs.1 3; have : (0 : Int) ≤ gI s 2 ∧ gI s 2 ≤ 1600 := hRs.1 2; omega) ?_
          refine wp_if (fun c6 => ?_) (fun c6 => ?_)
          · skip
            exact J76 5 qr31s hRqr31s (by show 0 ≤ (5 : Int) ∧ (5 : Int) ≤ 5; have : gI qr31s 3 = gI qr26s 3 := Fqr31s.1 3 (by decide); have : (0 : Int) ≤ gI qr31s 2 ∧ gI qr31s 2 ≤ 1600 := hRqr31s.1 2; have : gI qr26s 3 = gI qr21s 3 := Fqr26s.1 3 (by decide); have : (0 : Int) ≤ gI qr26s 2 ∧ gI qr26s 2 ≤ 1600 := hRqr26s.1 2; have : gI qr21s 3 = gI qr16s 3 := Fqr21s.1 3 (by decide); have : (0 : Int) ≤ gI qr21s 2 ∧ gI qr21s 2 ≤ 1600 := hRqr21s.1 2; have : gI qr16s 3 = gI qr11s 3 := Fqr16s.1 3 (by decide); have : (0 : Int) ≤ gI qr16s 2 ∧ gI qr16s 2 ≤ 1600 := hRqr16s.1 2; have : gI qr11s 3 = gI s 3 := Fqr11s.1 3 (by decide); have : (0 : Int) ≤ gI qr11s 2 ∧ gI qr11s 2 ≤ 1600 := hRqr11s.1 2; have : (0 : Int) ≤ gI s 3 ∧ gI s 3 ≤ 1600 := hRs.1 3; have : (0 : Int) ≤ gI s 2 ∧ gI s 2 ≤ 1600 := hRs.1 2; omega) (by show gI s 2 ≤ gI qr31s 2 ∧ gI qr31s 2 ≤ gI qr31s 3; have : gI qr26s 3 = gI qr21s 3 := Fqr26s.1 3 (by decide); have : (0 : Int) ≤ gI qr26s 2 ∧ gI qr26s 2 ≤ 1600 := hRqr26s.1 2; have : gI qr21s 3 = gI qr16s 3 := Fqr21s.1 3 (by decide); have : (0 : Int) ≤ gI qr21s 2 ∧ gI qr21s 2 ≤ 1600 := hRqr21s.1 2; have : gI qr16s 3 = gI qr11s 3 := Fqr16s.1 3 (by decide); have : (0 : Int) ≤ gI qr16s 2 ∧ gI qr16s 2 ≤ 1600 := hRqr16s.1 2; have : gI qr11s 3 = gI s 3 := Fqr11s.1 3 (by decide); have : (0 : Int) ≤ gI qr11s 2 ∧ gI qr11s 2 ≤ 1600 := hRqr11s.1 2; have : (0 : Int) ≤ gI s 3 ∧ gI s 3 ≤ 1600 := hRs.1 3; have : gI qr31s 3 = gI qr26s 3 := Fqr31s.1 3 (by decide); have : (0 : Int) ≤ gI qr31s 2 ∧ gI qr31s 2 ≤ 1600 := hRqr31s.1 2; have : (0 : Int) ≤ gI s 2 ∧ gI s 2 ≤ 1600 := hRs.1 2; omega) (by show gI s 5 ≠ 0 → gI qr31s 5 ≠ 0; have : gI qr31s 3 = gI qr26s 3 := Fqr31s.1 3 (by decide); have : (0 : Int) ≤ gI qr31s 2 ∧ gI qr31s 2 ≤ 1600 := hRqr31s.1 2; have : gI qr26s 3 = gI qr21s 3 := Fqr26s.1 3 (by decide); have : (0 : Int) ≤ gI qr26s 2 ∧ gI qr26s 2 ≤ 1600 := hRqr26s.1 2; have : gI qr21s 3 = gI qr16s 3 := Fqr21s.1 3 (by decide); have : (0 : Int) ≤ gI qr21s 2 ∧ gI qr21s 2 ≤ 1600 := hRqr21s.1 2; have : gI qr16s 3 = gI qr11s 3 := Fqr16s.1 3 (by decide); have : (0 : Int) ≤ gI qr16s 2 ∧ gI qr16s 2 ≤ 1600 := hRqr16s.1 2; have : gI qr11s 3 = gI s 3 := Fqr11s.1 3 (by decide); have : (0 : Int) ≤ gI qr11s 2 ∧ gI qr11s 2 ≤ 1600 := hRqr11s.1 2; have : (0 : Int) ≤ gI s 3 ∧ gI s 3 ≤ 1600 := hRs.1 3; have : (0 : Int) ≤ gI s 2 ∧ gI s 2 ≤ 1600 := hRs.1 2; have : gI qr31s 5 = gI qr26s 5 := Fqr31s.1 5 (by decide); have : gI qr26s 5 = gI qr21s 5 := Fqr26s.1 5 (by decide); have : gI qr21s 5 = gI qr16s 5 := Fqr21s.1 5 (by decide); have : gI qr16s 5 = gI qr11s 5 := Fqr16s.1 5 (by decide); have : gI qr11s 5 = gI s 5 := Fqr11s.1 5 (by decide); have : (0 : Int) ≤ gI s 5 ∧ gI s 5 ≤ 5 := hRs.1 5; omega)
          · skip
            exact J76 4 qr31s hRqr31s (by show 0 ≤ (4 : Int) ∧ (4 : Int) ≤ 5; have : gI qr31s 3 = gI qr26s 3 := Fqr31s.1 3 (by decide); have : (0 : Int) ≤ gI qr31s 2 ∧ gI qr31s 2 ≤ 1600 := hRqr31s.1 2; have : gI qr26s 3 = gI qr21s 3 := Fqr26s.1 3 (by decide); have : (0 : Int) ≤ gI qr26s 2 ∧ gI qr26s 2 ≤ 1600 := hRqr26s.1 2; have : gI qr21s 3 = gI qr16s 3 := Fqr21s.1 3 (by decide); have : (0 : Int) ≤ gI qr21s 2 ∧ gI qr21s 2 ≤ 1600 := hRqr21s.1 2; have : gI qr16s 3 = gI qr11s 3 := Fqr16s.1 3 (by decide); have : (0 : Int) ≤ gI qr16s 2 ∧ gI qr16s 2 ≤ 1600 := hRqr16s.1 2; have : gI qr11s 3 = gI s 3 := Fqr11s.1 3 (by decide); have : (0 : Int) ≤ gI qr11s 2 ∧ gI qr11s 2 ≤ 1600 := hRqr11s.1 2; have : (0 : Int) ≤ gI s 3 ∧ gI s 3 ≤ 1600 := hRs.1 3; have : (0 : Int) ≤ gI s 2 ∧ gI s 2 ≤ 1600 := hRs.1 2; omega) (by show gI s 2 ≤ gI qr31s 2 ∧ gI qr31s 2 ≤ gI qr31s 3; have : gI qr26s 3 = gI qr21s 3 := Fqr26s.1 3 (by decide); have : (0 : Int) ≤ gI qr26s 2 ∧ gI qr26s 2 ≤ 1600 := hRqr26s.1 2; have : gI qr21s 3 = gI qr16s 3 := Fqr21s.1 3 (by decide); have : (0 : Int) ≤ gI qr21s 2 ∧ gI qr21s 2 ≤ 1600 := hRqr21s.1 2; have : gI qr16s 3 = gI qr11s 3 := Fqr16s.1 3 (by decide); have : (0 : Int) ≤ gI qr16s 2 ∧ gI qr16s 2 ≤ 1600 := hRqr16s.1 2; have : gI qr11s 3 = gI s 3 := Fqr11s.1 3 (by decide); have : (0 : Int) ≤ gI qr11s 2 ∧ gI qr11s 2 ≤ 1600 := hRqr11s.1 2; have : (0 : Int) ≤ gI s 3 ∧ gI s 3 ≤ 1600 := hRs.1 3; have : gI qr31s 3 = gI qr26s 3 := Fqr31s.1 3 (by decide); have : (0 : Int) ≤ gI qr31s 2 ∧ gI qr31s 2 ≤ 1600 := hRqr31s.1 2; have : (0 : Int) ≤ gI s 2 ∧ gI s 2 ≤ 1600 := hRs.1 2; omega) (by show gI s 5 ≠ 0 → gI qr31s 5 ≠ 0; have : gI qr31s 3 = gI qr26s 3 := Fqr31s.1 3 (by decide); have : (0 : Int) ≤ gI qr31s 2 ∧ gI qr31s 2 ≤ 1600 := hRqr31s.1 2; have : gI qr26s 3 = gI qr21s 3 := Fqr26s.1 3 (by decide); have : (0 : Int) ≤ gI qr26s 2 ∧ gI qr26s 2 ≤ 1600 := hRqr26s.1 2; have : gI qr21s 3 = gI qr16s 3 := Fqr21s.1 3 (by decide); have : (0 : Int) ≤ gI qr21s 2 ∧ gI qr21s 2 ≤ 1600 := hRqr21s.1 2; have : gI qr16s 3 = gI qr11s 3 := Fqr16s.1 3 (by decide); have : (0 : Int) ≤ gI qr16s 2 ∧ gI qr16s 2 ≤ 1600 := hRqr16s.1 2; have : gI qr11s 3 = gI s 3 := Fqr11s.1 3 (by decide); have : (0 : Int) ≤ gI qr11s 2 ∧ gI qr11s 2 ≤ 1600 := hRqr11s.1 2; have : (0 : Int) ≤ gI s 3 ∧ gI s 3 ≤ 1600 := hRs.1 3; have : (0 : Int) ≤ gI s 2 ∧ gI s 2 ≤ 1600 := hRs.1 2; have : gI qr31s 5 = gI qr26s 5 := Fqr31s.1 5 (by decide); have : gI qr26s 5 = gI qr21s 5 := Fqr26s.1 5 (by decide); have : gI qr21s 5 = gI qr16s 5 := Fqr21s.1 5 (by decide); have : gI qr16s 5 = gI qr11s 5 := Fqr16s.1 5 (by decide); have : gI qr11s 5 = gI s 5 := Fqr11s.1 5 (by decide); have : (0 : Int) ≤ gI s 5 ∧ gI s 5 ≤ 5 := hRs.1 5; omega)
        · skip
          exact J76 3 qr26s hRqr26s (by show 0 ≤ (3 : Int) ∧ (3 : Int) ≤ 5; have : gI qr26s 3 = gI qr21s 3 := Fqr26s.1 3 (by decide); have : (0 : Int) ≤ gI qr26s 2 ∧ gI qr26s 2 ≤ 1600 := hRqr26s.1 2; have : gI qr21s 3 = gI qr16s 3 := Fqr21s.1 3 (by decide); have : (0 : Int) ≤ gI qr21s 2 ∧ gI qr21s 2 ≤ 1600 := hRqr21s.1 2; have : gI qr16s 3 = gI qr11s 3 := Fqr16s.1 3 (by decide); have : (0 : Int) ≤ gI qr16s 2 ∧ gI qr16s 2 ≤ 1600 := hRqr16s.1 2; have : gI qr11s 3 = gI s 3 := Fqr11s.1 3 (by decide); have : (0 : Int) ≤ gI qr11s 2 ∧ gI qr11s 2 ≤ 1600 := hRqr11s.1 2; have : (0 : Int) ≤ gI s 3 ∧ gI s 3 ≤ 1600 := hRs.1 3; have : (0 : Int) ≤ gI s 2 ∧ gI s 2 ≤ 1600 := hRs.1 2; omega) (by show gI s 2 ≤ gI qr26s 2 ∧ gI qr26s 2 ≤ gI qr26s 3; have : gI qr21s 3 = gI qr16s 3 := Fqr21s.1 3 (by decide); have : (0 : Int) ≤ gI qr21s 2 ∧ gI qr21s 2 ≤ 1600 := hRqr21s.1 2; have : gI qr16s 3 = gI qr11s 3 := Fqr16s.1 3 (by decide); have : (0 : Int) ≤ gI qr16s 2 ∧ gI qr16s 2 ≤ 1600 := hRqr16s.1 2; have : gI qr11s 3 = gI s 3 := Fqr11s.1 3 (by decide); have : (0 : Int) ≤ gI qr11s 2 ∧ gI qr11s 2 ≤ 1600 := hRqr11s.1 2; have : (0 : Int) ≤ gI s 3 ∧ gI s 3 ≤ 1600 := hRs.1 3; have : gI qr26s 3 = gI qr21s 3 := Fqr26s.1 3 (by decide); have : (0 : Int) ≤ gI qr26s 2 ∧ gI qr26s 2 ≤ 1600 := hRqr26s.1 2; have : (0 : Int) ≤ gI s 2 ∧ gI s 2 ≤ 1600 := hRs.1 2; omega) (by show gI s 5 ≠ 0 → gI qr26s 5 ≠ 0; have : gI qr26s 3 = gI qr21s 3 := Fqr26s.1 3 (by decide); have : (0 : Int) ≤ gI qr26s 2 ∧ gI qr26s 2 ≤ 1600 := hRqr26s.1 2; have : gI qr21s 3 = gI qr16s 3 := Fqr21s.1 3 (by decide); have : (0 : Int) ≤ gI qr21s 2 ∧ gI qr21s 2 ≤ 1600 := hRqr21s.1 2; have : gI qr16s 3 = gI qr11s 3 := Fqr16s.1 3 (by decide); have : (0 : Int) ≤ gI qr16s 2 ∧ gI qr16s 2 ≤ 1600 := hRqr16s.1 2; have : gI qr11s 3 = gI s 3 := Fqr11s.1 3 (by decide); have : (0 : Int) ≤ gI qr11s 2 ∧ gI qr11s 2 ≤ 1600 := hRqr11s.1 2; have : (0 : Int) ≤ gI s 3 ∧ gI s 3 ≤ 1600 := hRs.1 3; have : (0 : Int) ≤ gI s 2 ∧ gI s 2 ≤ 1600 := hRs.1 2; have : gI qr26s 5 = gI qr21s 5 := Fqr26s.1 5 (by decide); have : gI qr21s 5 = gI qr16s 5 := Fqr21s.1 5 (by decide); have : gI qr16s 5 = gI qr11s 5 := Fqr16s.1 5 (by decide); have : gI qr11s 5 = gI s 5 := Fqr11s.1 5 (by decide); have : (0 : Int) ≤ gI s 5 ∧ gI s 5 ≤ 5 := hRs.1 5; omega)
      · skip
        exact J76 2 qr21s hRqr21s (by show 0 ≤ (2 : Int) ∧ (2 : Int) ≤ 5; have : gI qr21s 3 = gI qr16s 3 := Fqr21s.1 3 (by decide); have : (0 : Int) ≤ gI qr21s 2 ∧ gI qr21s 2 ≤ 1600 := hRqr21s.1 2; have : gI qr16s 3 = gI qr11s 3 := Fqr16s.1 3 (by decide); have : (0 : Int) ≤ gI qr16s 2 ∧ gI qr16s 2 ≤ 1600 := hRqr16s.1 2; have : gI qr11s 3 = gI s 3 := Fqr11s.1 3 (by decide); have : (0 : Int) ≤ gI qr11s 2 ∧ gI qr11s 2 ≤ 1600 := hRqr11s.1 2; have : (0 : Int) ≤ gI s 3 ∧ gI s 3 ≤ 1600 := hRs.1 3; have : (0 : Int) ≤ gI s 2 ∧ gI s 2 ≤ 1600 := hRs.1 2; omega) (by show gI s 2 ≤ gI qr21s 2 ∧ gI qr21s 2 ≤ gI qr21s 3; have : gI qr16s 3 = gI qr11s 3 := Fqr16s.1 3 (by decide); have : (0 : Int) ≤ gI qr16s 2 ∧ gI qr16s 2 ≤ 1600 := hRqr16s.1 2; have : gI qr11s 3 = gI s 3 := Fqr11s.1 3 (by decide); have : (0 : Int) ≤ gI qr11s 2 ∧ gI qr11s 2 ≤ 1600 := hRqr11s.1 2; have : (0 : Int) ≤ gI s 3 ∧ gI s 3 ≤ 1600 := hRs.1 3; have : gI qr21s 3 = gI qr16s 3 := Fqr21s.1 3 (by decide); have : (0 : Int) ≤ gI qr21s 2 ∧ gI qr21s 2 ≤ 1600 := hRqr21s.1 2; have : (0 : Int) ≤ gI s 2 ∧ gI s 2 ≤ 1600 := hRs.1 2; omega) (by show gI s 5 ≠ 0 → gI qr21s 5 ≠ 0; have : gI qr21s 3 = gI qr16s 3 := Fqr21s.1 3 (by decide); have : (0 : Int) ≤ gI qr21s 2 ∧ gI qr21s 2 ≤ 1600 := hRqr21s.1 2; have : gI qr16s 3 = gI qr11s 3 := Fqr16s.1 3 (by decide); have : (0 : Int) ≤ gI qr16s 2 ∧ gI qr16s 2 ≤ 1600 := hRqr16s.1 2; have : gI qr11s 3 = gI s 3 := Fqr11s.1 3 (by decide); have : (0 : Int) ≤ gI qr11s 2 ∧ gI qr11s 2 ≤ 1600 := hRqr11s.1 2; have : (0 : Int) ≤ gI s 3 ∧ gI s 3 ≤ 1600 := hRs.1 3; have : (0 : Int) ≤ gI s 2 ∧ gI s 2 ≤ 1600 := hRs.1 2; have : gI qr21s 5 = gI qr16s 5 := Fqr21s.1 5 (by decide); have : gI qr16s 5 = gI qr11s 5 := Fqr16s.1 5 (by decide); have : gI qr11s 5 = gI s 5 := Fqr11s.1 5 (by decide); have : (0 : Int) ≤ gI s 5 ∧ gI s 5 ≤ 5 := hRs.1 5; omega)
    · skip
      exact J76 1 qr16s hRqr16s (by show 0 ≤ (1 : Int) ∧ (1 : Int) ≤ 5; have : gI qr16s 3 = gI qr11s 3 := Fqr16s.1 3 (by decide); have : (0 : Int) ≤ gI qr16s 2 ∧ gI qr16s 2 ≤ 1600 := hRqr16s.1 2; have : gI qr11s 3 = gI s 3 := Fqr11s.1 3 (by decide); have : (0 : Int) ≤ gI qr11s 2 ∧ gI qr11s 2 ≤ 1600 := hRqr11s.1 2; have : (0 : Int) ≤ gI s 3 ∧ gI s 3 ≤ 1600 := hRs.1 3; have : (0 : Int) ≤ gI s 2 ∧ gI s 2 ≤ 1600 := hRs.1 2; omega) (by show gI s 2 ≤ gI qr16s 2 ∧ gI qr16s 2 ≤ gI qr16s 3; have : gI qr11s 3 = gI s 3 := Fqr11s.1 3 (by decide); have : (0 : Int) ≤ gI qr11s 2 ∧ gI qr11s 2 ≤ 1600 := hRqr11s.1 2; have : (0 : Int) ≤ gI s 3 ∧ gI s 3 ≤ 1600 := hRs.1 3; have : gI qr16s 3 = gI qr11s 3 := Fqr16s.1 3 (by decide); have : (0 : Int) ≤ gI qr16s 2 ∧ gI qr16s 2 ≤ 1600 := hRqr16s.1 2; have : (0 : Int) ≤ gI s 2 ∧ gI s 2 ≤ 1600 := hRs.1 2; omega) (by show gI s 5 ≠ 0 → gI qr16s 5 ≠ 0; have : gI qr16s 3 = gI qr11s 3 := Fqr16s.1 3 (by decide); have : (0 : Int) ≤ gI qr16s 2 ∧ gI qr16s 2 ≤ 1600 := hRqr16s.1 2; have : gI qr11s 3 = gI s 3 := Fqr11s.1 3 (by decide); have : (0 : Int) ≤ gI qr11s 2 ∧ gI qr11s 2 ≤ 1600 := hRqr11s.1 2; have : (0 : Int) ≤ gI s 3 ∧ gI s 3 ≤ 1600 := hRs.1 3; have : (0 : Int) ≤ gI s 2 ∧ gI s 2 ≤ 1600 := hRs.1 2; have : gI qr16s 5 = gI qr11s 5 := Fqr16s.1 5 (by decide); have : gI qr11s 5 = gI s 5 := Fqr11s.1 5 (by decide); have : (0 : Int) ≤ gI s 5 ∧ gI s 5 ≤ 5 := hRs.1 5; omega)
  · skip
    exact J76 0 qr11s hRqr11s (by show 0 ≤ (0 : Int) ∧ (0 : Int) ≤ 5; have : gI qr11s 3 = gI s 3 := Fqr11s.1 3 (by decide); have : (0 : Int) ≤ gI qr11s 2 ∧ gI qr11s 2 ≤ 1600 := hRqr11s.1 2; have : (0 : Int) ≤ gI s 3 ∧ gI s 3 ≤ 1600 := hRs.1 3; have : (0 : Int) ≤ gI s 2 ∧ gI s 2 ≤ 1600 := hRs.1 2; omega) (by show gI s 2 ≤ gI qr11s 2 ∧ gI qr11s 2 ≤ gI qr11s 3; have : (0 : Int) ≤ gI s 3 ∧ gI s 3 ≤ 1600 := hRs.1 3; have : gI qr11s 3 = gI s 3 := Fqr11s.1 3 (by decide); have : (0 : Int) ≤ gI qr11s 2 ∧ gI qr11s 2 ≤ 1600 := hRqr11s.1 2; have : (0 : Int) ≤ gI s 2 ∧ gI s 2 ≤ 1600 := hRs.1 2; omega) (by show gI s 5 ≠ 0 → gI qr11s 5 ≠ 0; have : gI qr11s 3 = gI s 3 := Fqr11s.1 3 (by decide); have : (0 : Int) ≤ gI qr11s 2 ∧ gI qr11s 2 ≤ 1600 := hRqr11s.1 2; have : (0 : Int) ≤ gI s 3 ∧ gI s 3 ≤ 1600 := hRs.1 3; have : (0 : Int) ≤ gI s 2 ∧ gI s 2 ≤ 1600 := hRs.1 2; have : gI qr11s 5 = gI s 5 := Fqr11s.1 5 (by decide); have : (0 : Int) ≤ gI s 5 ∧ gI s 5 ≤ 5 := hRs.1 5; omega)
