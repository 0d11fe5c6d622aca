/-! ===== values and keys of an image, with what a refusal says ===== -/
set_option maxHeartbeats 250000 in theorem m_laid {p i : Int} {S : MS} : pc (m_x12_laidOf p i S) (fun r => r = gA S 113 (17 + 16 * p + i).toNat) := by
  unfold m_x12_laidOf
  exact pc_rdI (fun _ => pc_some rfl)
set_option maxHeartbeats 250000 in theorem m_blkMany {S : MS} : pc (m_x12_blockMany S) (fun r => r = gA S 39 5) := by
  unfold m_x12_blockMany
  exact pc_rdI (fun _ => pc_some rfl)
set_option maxHeartbeats 250000 in theorem m_isBlk {p : Int} {S : MS} : pc (m_x12_isBlock p S) (fun r => (r = 1 ∧ 0 ≤ p ∧ p < gA S 39 5) ∨ (r = 0 ∧ ¬ (0 ≤ p ∧ p < gA S 39 5))) := by
  unfold m_x12_isBlock
  refine pc_bq m_blkMany (fun r2 h2 => pc_rg (pc_bq m_isIn (fun r5 h5 => pc_bo (pc_some ?_))))
  rw [h2] at h5
  rcases h5 with ⟨a, b⟩ | ⟨a, b⟩
  · exact Or.inl ⟨a, by omega⟩
  · exact Or.inr ⟨a, by omega⟩
set_option maxHeartbeats 250000 in theorem m_vals0 {b : Nat} {S : MS} {f : Nat → Int} {N : Int} (h113 : gA S 113 = f) (h5 : gA S 39 5 = N) : ∀ (n k : Nat), pc (m_x12_areValues_L2 S n (b : Int) (k : Int)) (fun r => r = 0 → ∃ j : Nat, (j : Int) < f (20 + 16 * b) ∧ ¬ AV1 f N b j) := by
  refine fr_ind (fun _ => pc_none) (fun n ih k => ?_)
  show pc (m_x12_areValues_b2 S (m_x12_areValues_L2 S n) (b : Int) (k : Int)) _
  unfold m_x12_areValues_b2 m_x12_areValues_J88 m_x12_areValues_J90
  refine pc_bq m_laid (fun r6 h6 => pc_rg (pc_rg (pc_if (fun c => pc_some (fun w => absurd w (by decide))) (fun c => pc_bq m_laid (fun r11 h11 => pc_bq m_laid (fun r13 h13 => ?_))))))
  rw [h113, show (17 + 16 * (b : Int) + 3).toNat = 20 + 16 * b by omega] at h6
  rw [h113, show (17 + 16 * (b : Int) + (10 + (k : Int))).toNat = 27 + 16 * b + k by omega] at h11
  rw [h113, show (17 + 16 * (b : Int) + 2).toNat = 19 + 16 * b by omega] at h13
  have NEXT : pc (m_x12_areValues_L2 S n (b : Int) ((k : Int) + 1)) (fun r => r = 0 → ∃ j : Nat, (j : Int) < f (20 + 16 * b) ∧ ¬ AV1 f N b j) := by
    rw [show ((k : Int) + 1) = ((k + 1 : Nat) : Int) by omega]
    exact ih (k + 1)
  have BAD : ¬ AV1 f N b k → pc (some (0 : Int)) (fun r => r = 0 → ∃ j : Nat, (j : Int) < f (20 + 16 * b) ∧ ¬ AV1 f N b j) := fun w => pc_some (fun _ => ⟨k, by omega, w⟩)
  refine pc_rg (pc_if (fun c2 => pc_rg (pc_bq m_isIn (fun r36 h36 => pc_rg (pc_if (fun c3 => BAD ?_) (fun _ => NEXT))))) (fun c2 => pc_rg (pc_bq m_isBlk (fun r18 h18 => pc_rg (pc_if (fun c3 => BAD ?_) (fun c3 => ?_))))))
  · intro w
    unfold AV1 at w
    rw [← h13, ← h11] at w
    rcases h36 with ⟨a, _⟩ | ⟨_, a⟩
    · exact absurd (a.symm.trans c3) (by decide)
    · rcases w with y | y
      · exact a ⟨y.2.1, y.2.2⟩
      · exact y.1 c2
  · intro w
    unfold AV1 at w
    rw [← h13, ← h11] at w
    rw [h5] at h18
    rcases h18 with ⟨a, _⟩ | ⟨_, a⟩
    · exact absurd (a.symm.trans c3) (by decide)
    · rcases w with y | y
      · exact c2 y.1
      · exact a y.2.1
  · rw [h5] at h18
    have in1 : 0 ≤ r11 ∧ r11 < N := by
      rcases h18 with ⟨_, a⟩ | ⟨a, _⟩
      · exact a
      · exact absurd a c3
    refine pc_bq m_laid (fun r22 h22 => pc_bq m_laid (fun r24 h24 => pc_rg (pc_if (fun c4 => BAD ?_) (fun c4 => pc_bq m_laid (fun r28 h28 => pc_bq m_laid (fun r30 h30 => pc_rg (pc_rg (pc_if (fun _ => NEXT) (fun c6 => BAD ?_)))))))))
    · intro w
      unfold AV1 at w
      rw [← h13, ← h11] at w
      rw [h113, show (17 + 16 * r11 + 0).toNat = 17 + 16 * r11.toNat by omega] at h22
      rw [h113, show (17 + 16 * r11 + 1).toNat = 18 + 16 * r11.toNat by omega] at h24
      rcases w with y | y
      · exact c2 y.1
      · exact y.2.2.1 (by rw [← h22, ← h24]; exact c4)
    · intro w
      unfold AV1 at w
      rw [← h13, ← h11] at w
      rw [h113, show (17 + 16 * r11 + 2).toNat = 19 + 16 * r11.toNat by omega] at h28
      rw [h113, show (17 + 16 * (b : Int) + 2).toNat = 19 + 16 * b by omega, ← h13] at h30
      rcases w with y | y
      · exact c2 y.1
      · exact c6 (by rw [h28, h30]; exact y.2.2.2)
set_option maxHeartbeats 250000 in theorem UK_rng {f : Nat → Int} {N E : Int} (H : IG f N E) : ∀ (L b : Nat), b < 48 → DLa f b → (hLa f).1 b = (L : Int) → ∀ z, Ukey f L b z → 0 ≤ z ∧ z ≤ 999 := by
  have hN := H.1
  intro L
  induction L with
  | zero =>
    intro b hb hd hl z hz
    obtain ⟨k, a, c⟩ := hz
    have t := (IG_there H hb hd).2.2.2 k a
    rw [c] at t; exact t
  | succ L ih =>
    intro b hb hd hl z hz
    obtain ⟨k, a, c⟩ := hz
    have kd := IG_kid (k := k) H hb hd (by omega) a
    exact ih _ (by omega) kd.2.2 (by omega) z c
set_option maxHeartbeats 250000 in theorem UK_up {f : Nat → Int} {N E : Int} {b k : Nat} (H : IG f N E) (hb : b < 48) (hd : DLa f b) (hl : 0 < (hLa f).1 b) (hk : (k : Int) < (hLa f).2.1 b) {z : Int} (h : UK f ((hLa f).2.2 b k).toNat z) : UK f b z := by
  obtain ⟨l, h1, h2⟩ := h
  have kd := IG_kid (k := k) H hb hd hl hk
  exact ⟨l + 1, by omega, k, hk, h2⟩
set_option maxHeartbeats 1000000 in
theorem m_betw0 {f : Nat → Int} {N E p1 p2 : Int} {b0 : Nat} (H : IG f N E) (hb0 : b0 < 48) (hd0 : DLa f b0) {S : MS} (h113 : gA S 113 = f) : pc (m_x12_areBetween (b0 : Int) p1 p2 S) (fun q => q.1 = 0 → ∃ z, UK f b0 z ∧ ¬ (p1 ≤ z ∧ z ≤ p2)) := by
  have hN := H.1
  have L10 : ∀ (n w : Nat) (T : MS), gA T 113 = f → (∀ j, j < w → (0 ≤ gA T 62 j ∧ gA T 62 j < 48) ∧ DLa f (gA T 62 j).toNat ∧ ∀ z, UK f (gA T 62 j).toNat z → UK f b0 z) → pc (m_x12_areBetween_L10 n p1 p2 (w : Int) T) (fun q => q.1 = 0 → ∃ z, UK f b0 z ∧ ¬ (p1 ≤ z ∧ z ≤ p2)) := by
    refine fr_ind (fun _ _ _ _ => pc_none) (fun n ih w T hT hst => ?_)
    show pc (m_x12_areBetween_b10 (m_x12_areBetween_L10 n) p1 p2 (w : Int) T) _
    unfold m_x12_areBetween_b10
    refine pc_rg (pc_if (fun _ => pc_some (fun z => absurd z (show ¬ ((1 : Int) = 0) by decide))) (fun c => pc_rdI (fun _ => ?_)))
    obtain ⟨w', hw'⟩ : ∃ w', w = w' + 1 := ⟨w - 1, by omega⟩
    rw [show ((w : Int) + (-1)) = ((w' : Nat) : Int) by omega, Int.toNat_natCast]
    obtain ⟨c1, c2, c3⟩ := hst w' (by omega)
    obtain ⟨x, hx⟩ : ∃ x : Nat, gA T 62 w' = (x : Int) := ⟨(gA T 62 w').toNat, by omega⟩
    rw [hx, Int.toNat_natCast] at c2 c3
    rw [hx]
    have hx48 : x < 48 := by omega
    have L30 : ∀ (m v k : Nat) (T : MS), gA T 113 = f → (∀ j, j < v → (0 ≤ gA T 62 j ∧ gA T 62 j < 48) ∧ DLa f (gA T 62 j).toNat ∧ ∀ z, UK f (gA T 62 j).toNat z → UK f b0 z) → pc (m_x12_areBetween_L30 (m_x12_areBetween_L10 n) m p1 p2 (v : Int) (x : Int) (k : Int) T) (fun q => q.1 = 0 → ∃ z, UK f b0 z ∧ ¬ (p1 ≤ z ∧ z ≤ p2)) := by
      refine fr_ind (fun _ _ _ _ _ => pc_none) (fun m ihm v k T hT hst => ?_)
      show pc (m_x12_areBetween_b30 (m_x12_areBetween_L10 n) (m_x12_areBetween_L30 (m_x12_areBetween_L10 n) m) p1 p2 (v : Int) (x : Int) (k : Int) T) _
      unfold m_x12_areBetween_b30 m_x12_areBetween_J96
      refine pc_bq m_laid (fun r18 h18 => pc_rg (pc_rg (pc_if (fun _ => ih v T hT hst) (fun c4 => pc_bq m_laid (fun r23 h23 => ?_)))))
      rw [hT, show (17 + 16 * (x : Int) + 3).toNat = 20 + 16 * x by omega] at h18
      rw [hT, show (17 + 16 * (x : Int) + 2).toNat = 19 + 16 * x by omega] at h23
      have hc : (hLa f).2.1 x = r18 := h18.symm
      have hl : (hLa f).1 x = r23 := h23.symm
      have t := IG_there H hx48 c2
      have k6 : k < 6 := by have := H.2.1; omega
      rw [show ((k : Int) + 1) = ((k + 1 : Nat) : Int) by omega]
      refine pc_rg (pc_if (fun c5 => pc_bq m_laid (fun r31 h31 => pc_rg (pc_rg (pc_rg (pc_bq m_isIn (fun r36 h36 => pc_rg (pc_if (fun c6 => pc_some (fun _ => ?_)) (fun _ => ihm v (k + 1) T hT hst)))))))) (fun c5 => pc_bq m_laid (fun r27 h27 => pc_inb (pc_stn (fun s29 e29 => ?_)))))
      · rw [hT, show (17 + 16 * (x : Int) + (4 + (k : Int))).toNat = 21 + 16 * x + k by omega] at h31
        have kz : kLa f x k = r31 := by
          show (if k < 6 then f (21 + 16 * x + k) else 0) = r31
          rw [if_pos k6]; exact h31.symm
        refine ⟨r31, c3 r31 ⟨0, by rw [hl, c5]; rfl, k, by omega, kz⟩, fun w => ?_⟩
        rcases h36 with ⟨a, _⟩ | ⟨_, a⟩
        · exact absurd (a.symm.trans c6) (by decide)
        · exact a w
      · rw [hT, show (17 + 16 * (x : Int) + (10 + (k : Int))).toNat = 27 + 16 * x + k by omega] at h27
        have ez : (hLa f).2.2 x k = r27 := by
          show (if k < 6 then f (27 + 16 * x + k) else 0) = r27
          rw [if_pos k6]; exact h27.symm
        have kd := IG_kid (k := k) H hx48 c2 (by omega) (by omega)
        rw [Int.toNat_natCast] at e29
        have k62 : gA s29 62 = upZ (gA T 62) v r27 := q_AA e29
        rw [show ((v : Int) + 1) = ((v + 1 : Nat) : Int) by omega]
        refine ihm (v + 1) (k + 1) s29 ((q_Aa e29 (by decide)).trans hT) (fun j hj => ?_)
        rw [k62]
        by_cases z : j = v
        · rw [z, upZ_s, ← ez]
          exact ⟨by omega, kd.2.2, fun y hy => c3 y (UK_up H hx48 c2 (by omega) (by omega) hy)⟩
        · rw [upZ_n z]; exact hst j (by omega)
    exact L30 FU w' 0 T hT (fun j hj => hst j (by omega))
  unfold m_x12_areBetween
  refine pc_inb (pc_stn (fun s43 e43 => ?_))
  have k62 : gA s43 62 = upZ (gA S 62) (Int.toNat 0) (b0 : Int) := q_AA e43
  refine L10 FU 1 s43 ((q_Aa e43 (by decide)).trans h113) (fun j hj => ?_)
  rw [k62, show j = Int.toNat 0 by (have : Int.toNat 0 = 0 := rfl); omega, upZ_s, Int.toNat_natCast]
  exact ⟨by omega, hd0, fun z h => h⟩
set_option maxHeartbeats 1000000 in
theorem m_keys0 {f : Nat → Int} {N E : Int} {b : Nat} (H : IG f N E) (hb : b < 48) (hd : DLa f b) {S : MS} (h113 : gA S 113 = f) : pc (m_x12_areKeys (b : Int) S) (fun q => q.1 = 0 → 0 < (hLa f).1 b ∧ ∃ k : Nat, (k : Int) < (hLa f).2.1 b ∧ ¬ KSe f b k) := by
  have hN := H.1
  have t := IG_there H hb hd
  have L9 : ∀ (n k : Nat) (T : MS), gA T 113 = f → pc (m_x12_areKeys_L9 n (b : Int) ((hLa f).2.1 b) (k : Int) T) (fun q => q.1 = 0 → 0 < (hLa f).1 b ∧ ∃ k : Nat, (k : Int) < (hLa f).2.1 b ∧ ¬ KSe f b k) := by
    refine fr_ind (fun _ _ _ => pc_none) (fun n ih k T hT => ?_)
    show pc (m_x12_areKeys_b9 (m_x12_areKeys_L9 n) (b : Int) ((hLa f).2.1 b) (k : Int) T) _
    unfold m_x12_areKeys_b9 m_x12_areKeys_J86
    refine pc_rg (pc_rg (pc_if (fun _ => pc_some (fun z => absurd z (show ¬ ((1 : Int) = 0) by decide))) (fun c => pc_bq m_laid (fun r33 h33 => pc_rg (pc_if (fun _ => pc_some (fun z => absurd z (show ¬ ((1 : Int) = 0) by decide))) (fun c2 => pc_bq m_laid (fun r37 h37 => ?_)))))))
    rw [hT, show (17 + 16 * (b : Int) + 2).toNat = 19 + 16 * b by omega] at h33
    have hl : (hLa f).1 b = r33 := h33.symm
    have k6 : k < 6 := by have := H.2.1; omega
    rw [hT, show (17 + 16 * (b : Int) + (10 + (k : Int))).toNat = 27 + 16 * b + k by omega] at h37
    have ez : (hLa f).2.2 b k = r37 := by
      show (if k < 6 then f (27 + 16 * b + k) else 0) = r37
      rw [if_pos k6]; exact h37.symm
    have kd := IG_kid (k := k) H hb hd (by omega) (by omega)
    rw [ez] at kd
    obtain ⟨x, hx⟩ : ∃ x : Nat, r37 = (x : Int) := ⟨r37.toNat, by omega⟩
    rw [hx, Int.toNat_natCast] at kd
    have kK : ∀ j, j < 6 → kLa f b j = f (21 + 16 * b + j) := fun j hj => if_pos hj
    have rng : ∀ z, UK f x z → 0 ≤ z ∧ z ≤ 999 := fun z hz => by
      obtain ⟨l, h1, h2⟩ := hz
      exact UK_rng H l x (by omega) kd.2.2 h1 z h2
    -- from the lower bound on
    have J49 : ∀ lo : Int, (∀ z, UK f x z → ¬ lo ≤ z → 0 < k ∧ z < kLa f b k) → pc (m_x12_areKeys_J49 (m_x12_areKeys_L9 n) (b : Int) ((hLa f).2.1 b) (k : Int) lo r37 T) (fun q => q.1 = 0 → 0 < (hLa f).1 b ∧ ∃ k : Nat, (k : Int) < (hLa f).2.1 b ∧ ¬ KSe f b k) := fun lo hlo => by
      have J72 : ∀ hi : Int, (∀ z, UK f x z → ¬ z ≤ hi → (k : Int) + 1 < (hLa f).2.1 b ∧ kLa f b (k + 1) ≤ z) → pc (m_x12_areKeys_J72 (m_x12_areKeys_L9 n) (b : Int) ((hLa f).2.1 b) (k : Int) hi lo r37 T) (fun q => q.1 = 0 → 0 < (hLa f).1 b ∧ ∃ k : Nat, (k : Int) < (hLa f).2.1 b ∧ ¬ KSe f b k) := fun hi hhi => by
        unfold m_x12_areKeys_J72
        refine pc_bn (fun q15 e15 => pc_rg (pc_if (fun c3 => pc_some (fun _ => ?_)) (fun _ => ?_)))
        · rw [hx] at e15
          obtain ⟨z, z1, z2⟩ := m_betw0 H (by omega) kd.2.2 hT q15 e15 c3
          refine ⟨by omega, k, by omega, fun w => ?_⟩
          have y := w z (by rw [ez, hx, Int.toNat_natCast]; exact z1)
          by_cases l : lo ≤ z
          · have h := hhi z z1 (fun u => z2 ⟨l, u⟩)
            have := y.2 h.1
            omega
          · have h := hlo z z1 l
            have := y.1 h.1
            omega
        · have F : F_x12_areBetween T q15.2 := fr_x12_areBetween e15
          rw [show ((k : Int) + 1) = ((k + 1 : Nat) : Int) by omega]
          exact ih (k + 1) q15.2 ((F.2.1 113 (by decide)).trans hT)
      unfold m_x12_areKeys_J49
      refine pc_rg (pc_rg (pc_if (fun c3 => J72 999 (fun z hz h => absurd (rng z hz).2 h)) (fun c3 => pc_bq m_laid (fun r28 h28 => J72 (r28 - 1) (fun z hz h => ⟨by omega, ?_⟩)))))
      rw [hT, show (17 + 16 * (b : Int) + (5 + (k : Int))).toNat = 21 + 16 * b + (k + 1) by omega] at h28
      rw [kK (k + 1) (by have := H.2.1; omega), ← h28]; omega
    refine pc_rg (pc_if (fun c3 => J49 0 (fun z hz h => absurd (rng z hz).1 h)) (fun c3 => pc_bq m_laid (fun r41 h41 => J49 r41 (fun z hz h => ⟨by omega, ?_⟩))))
    rw [hT, show (17 + 16 * (b : Int) + (4 + (k : Int))).toNat = 21 + 16 * b + k by omega] at h41
    rw [kK k k6, ← h41]; omega
  unfold m_x12_areKeys
  refine pc_bq m_laid (fun r43 h43 => ?_)
  rw [h113, show (17 + 16 * (b : Int) + 3).toNat = 20 + 16 * b by omega] at h43
  rw [show r43 = (hLa f).2.1 b from h43]
  exact L9 FU 0 S h113
/- it answers 0 or 1 -/
set_option maxHeartbeats 250000 in theorem b_betw {p0 p1 p2 : Int} {S : MS} : pc (m_x12_areBetween p0 p1 p2 S) (fun q => q.1 = 0 ∨ q.1 = 1) := by
  have L10 : ∀ (n : Nat) (a b w : Int) (T : MS), pc (m_x12_areBetween_L10 n a b w T) (fun q => q.1 = 0 ∨ q.1 = 1) := by
    refine fr_ind (fun _ _ _ _ => pc_none) (fun n ih a b w T => ?_)
    show pc (m_x12_areBetween_b10 (m_x12_areBetween_L10 n) a b w T) _
    unfold m_x12_areBetween_b10
    have L30 : ∀ (m : Nat) (a b v x k : Int) (T : MS), pc (m_x12_areBetween_L30 (m_x12_areBetween_L10 n) m a b v x k T) (fun q => q.1 = 0 ∨ q.1 = 1) := by
      refine fr_ind (fun _ _ _ _ _ _ => pc_none) (fun m ihm a b v x k T => ?_)
      show pc (m_x12_areBetween_b30 (m_x12_areBetween_L10 n) (m_x12_areBetween_L30 (m_x12_areBetween_L10 n) m) a b v x k T) _
      unfold m_x12_areBetween_b30 m_x12_areBetween_J96
      exact pc_bn (fun _ _ => pc_rg (pc_rg (pc_if (fun _ => ih _ _ _ _) (fun _ => pc_bn (fun _ _ => pc_rg (pc_if (fun _ => pc_bn (fun _ _ => pc_rg (pc_rg (pc_rg (pc_bn (fun _ _ => pc_rg (pc_if (fun _ => pc_some (Or.inl rfl)) (fun _ => ihm _ _ _ _ _ _)))))))) (fun _ => pc_bn (fun _ _ => pc_inb (pc_stn (fun _ _ => ihm _ _ _ _ _ _))))))))))
    exact pc_rg (pc_if (fun _ => pc_some (Or.inr rfl)) (fun _ => pc_rdI (fun _ => L30 _ _ _ _ _ _ _)))
  unfold m_x12_areBetween
  exact pc_inb (pc_stn (fun _ _ => L10 _ _ _ _ _))
set_option maxHeartbeats 1000000 in
/- all keys below lie between, if it says so -/
theorem m_betw1 {f : Nat → Int} {N E p1 p2 : Int} {b0 : Nat} (H : IG f N E) (hb0 : b0 < 48) (hd0 : DLa f b0) {S : MS} (h113 : gA S 113 = f) : pc (m_x12_areBetween (b0 : Int) p1 p2 S) (fun q => q.1 = 1 → ∀ z, UK f b0 z → p1 ≤ z ∧ z ≤ p2) := by
  have hN := H.1
  have L10 : ∀ (n w : Nat) (T : MS), gA T 113 = f → (∀ j, j < w → (0 ≤ gA T 62 j ∧ gA T 62 j < 48) ∧ DLa f (gA T 62 j).toNat) → (∀ z, UK f b0 z → (p1 ≤ z ∧ z ≤ p2) ∨ UW f (gA T 62) w z) → pc (m_x12_areBetween_L10 n p1 p2 (w : Int) T) (fun q => q.1 = 1 → ∀ z, UK f b0 z → p1 ≤ z ∧ z ≤ p2) := by
    refine fr_ind (fun _ _ _ _ _ => pc_none) (fun n ih w T hT hst hu => ?_)
    show pc (m_x12_areBetween_b10 (m_x12_areBetween_L10 n) p1 p2 (w : Int) T) _
    unfold m_x12_areBetween_b10
    refine pc_rg (pc_if (fun c => pc_some (fun _ z hz => ?_)) (fun c => pc_rdI (fun _ => ?_)))
    · rcases hu z hz with q | ⟨j, a, _⟩
      · exact q
      · exfalso; omega
    obtain ⟨w', hw'⟩ : ∃ w', w = w' + 1 := ⟨w - 1, by omega⟩
    rw [show ((w : Int) + (-1)) = ((w' : Nat) : Int) by omega, Int.toNat_natCast]
    obtain ⟨c1, c2⟩ := hst w' (by omega)
    obtain ⟨x, hx⟩ : ∃ x : Nat, gA T 62 w' = (x : Int) := ⟨(gA T 62 w').toNat, by omega⟩
    rw [hx, Int.toNat_natCast] at c2
    rw [hx]
    have hx48 : x < 48 := by omega
    have L30 : ∀ (m v k : Nat) (T : MS), gA T 113 = f → (∀ j, j < v → (0 ≤ gA T 62 j ∧ gA T 62 j < 48) ∧ DLa f (gA T 62 j).toNat) → (∀ z, UK f b0 z → (p1 ≤ z ∧ z ≤ p2) ∨ UW f (gA T 62) v z ∨ UR f x (k : Int) z) → pc (m_x12_areBetween_L30 (m_x12_areBetween_L10 n) m p1 p2 (v : Int) (x : Int) (k : Int) T) (fun q => q.1 = 1 → ∀ z, UK f b0 z → p1 ≤ z ∧ z ≤ p2) := by
      refine fr_ind (fun _ _ _ _ _ _ => pc_none) (fun m ihm v k T hT hst hu => ?_)
      show pc (m_x12_areBetween_b30 (m_x12_areBetween_L10 n) (m_x12_areBetween_L30 (m_x12_areBetween_L10 n) m) p1 p2 (v : Int) (x : Int) (k : Int) T) _
      unfold m_x12_areBetween_b30 m_x12_areBetween_J96
      refine pc_bq m_laid (fun r18 h18 => ?_)
      rw [hT, show (17 + 16 * (x : Int) + 3).toNat = 20 + 16 * x by omega] at h18
      have hc : (hLa f).2.1 x = r18 := h18.symm
      refine pc_rg (pc_rg (pc_if (fun c4 => ih v T hT hst (fun z hz => ?_)) (fun c4 => pc_bq m_laid (fun r23 h23 => ?_))))
      · rcases hu z hz with q | q | ⟨i, a, b, _⟩
        · exact Or.inl q
        · exact Or.inr q
        · exfalso; omega
      rw [hT, show (17 + 16 * (x : Int) + 2).toNat = 19 + 16 * x by omega] at h23
      have hl : (hLa f).1 x = r23 := h23.symm
      have t := IG_there H hx48 c2
      have k6 : k < 6 := by have := H.2.1; omega
      rw [show ((k : Int) + 1) = ((k + 1 : Nat) : Int) by omega]
      refine pc_rg (pc_if (fun c5 => pc_bq m_laid (fun r31 h31 => pc_rg (pc_rg (pc_rg (pc_bq m_isIn (fun r36 h36 => pc_rg (pc_if (fun c6 => pc_some (fun w => absurd w (show ¬ ((0 : Int) = 1) by decide))) (fun c6 => ihm v (k + 1) T hT hst (fun z hz => ?_)))))))))  (fun c5 => pc_bq m_laid (fun r27 h27 => pc_inb (pc_stn (fun s29 e29 => ?_)))))
      · rw [hT, show (17 + 16 * (x : Int) + (4 + (k : Int))).toNat = 21 + 16 * x + k by omega] at h31
        have kz : kLa f x k = r31 := by
          show (if k < 6 then f (21 + 16 * x + k) else 0) = r31
          rw [if_pos k6]; exact h31.symm
        rcases hu z hz with q | q | q
        · exact Or.inl q
        · exact Or.inr (Or.inl q)
        · rcases UR_step (by omega) q with y | y | y
          · exact Or.inr (Or.inr (by rw [show ((k + 1 : Nat) : Int) = (k : Int) + 1 by omega]; exact y))
          · rw [Int.toNat_natCast, kz] at y
            rcases h36 with ⟨_, a⟩ | ⟨a, _⟩
            · exact Or.inl (by rw [← y.2]; exact a)
            · exact absurd a c6
          · exfalso; omega
      · rw [hT, show (17 + 16 * (x : Int) + (10 + (k : Int))).toNat = 27 + 16 * x + k by omega] at h27
        have ez : (hLa f).2.2 x k = r27 := by
          show (if k < 6 then f (27 + 16 * x + k) else 0) = r27
          rw [if_pos k6]; exact h27.symm
        have kd := IG_kid (k := k) H hx48 c2 (by omega) (by omega)
        rw [Int.toNat_natCast] at e29
        have k62 : gA s29 62 = upZ (gA T 62) v r27 := q_AA e29
        rw [show ((v : Int) + 1) = ((v + 1 : Nat) : Int) by omega]
        refine ihm (v + 1) (k + 1) s29 ((q_Aa e29 (by decide)).trans hT) (fun j hj => ?_) (fun z hz => ?_)
        · rw [k62]
          by_cases z : j = v
          · rw [z, upZ_s, ← ez]
            exact ⟨by omega, kd.2.2⟩
          · rw [upZ_n z]; exact hst j (by omega)
        · rw [k62]
          rcases hu z hz with q | q | q
          · exact Or.inl q
          · exact Or.inr (Or.inl (UW_push (Or.inl q)))
          · rcases UR_step (by omega) q with y | y | y
            · exact Or.inr (Or.inr (by rw [show ((k + 1 : Nat) : Int) = (k : Int) + 1 by omega]; exact y))
            · exfalso; omega
            · rw [Int.toNat_natCast, ez] at y
              exact Or.inr (Or.inl (UW_push (Or.inr y.2)))
    refine L30 FU w' 0 T hT (fun j hj => hst j (by omega)) (fun z hz => ?_)
    rcases hu z hz with q | q
    · exact Or.inl q
    · rw [hw'] at q
      rcases UW_pop q with y | y
      · exact Or.inr (Or.inl y)
      · rw [hx, Int.toNat_natCast] at y
        exact Or.inr (Or.inr (UK_UR H hx48 c2 y))
  unfold m_x12_areBetween
  refine pc_inb (pc_stn (fun s43 e43 => ?_))
  have k62 : gA s43 62 = upZ (gA S 62) (Int.toNat 0) (b0 : Int) := q_AA e43
  have t0 : Int.toNat 0 = 0 := rfl
  rw [t0] at k62
  refine L10 FU 1 s43 ((q_Aa e43 (by decide)).trans h113) (fun j hj => ?_) (fun z hz => Or.inr ⟨0, by omega, ?_⟩)
  · rw [k62, show j = 0 by omega, upZ_s, Int.toNat_natCast]
    exact ⟨by omega, hd0⟩
  · rw [k62, upZ_s, Int.toNat_natCast]; exact hz
set_option maxHeartbeats 1000000 in
theorem m_keys1 {f : Nat → Int} {N E : Int} {b : Nat} (H : IG f N E) (hb : b < 48) (hd : DLa f b) (hlv : 0 < (hLa f).1 b) {S : MS} (h113 : gA S 113 = f) : pc (m_x12_areKeys (b : Int) S) (fun q => q.1 = 1 → ∀ k : Nat, (k : Int) < (hLa f).2.1 b → KSe f b k) := by
  have hN := H.1
  have t := IG_there H hb hd
  have L9 : ∀ (n k : Nat) (T : MS), gA T 113 = f → (∀ j : Nat, j < k → (j : Int) < (hLa f).2.1 b → KSe f b j) → pc (m_x12_areKeys_L9 n (b : Int) ((hLa f).2.1 b) (k : Int) T) (fun q => q.1 = 1 → ∀ k : Nat, (k : Int) < (hLa f).2.1 b → KSe f b k) := by
    refine fr_ind (fun _ _ _ _ => pc_none) (fun n ih k T hT hK => ?_)
    show pc (m_x12_areKeys_b9 (m_x12_areKeys_L9 n) (b : Int) ((hLa f).2.1 b) (k : Int) T) _
    unfold m_x12_areKeys_b9 m_x12_areKeys_J86
    refine pc_rg (pc_rg (pc_if (fun c => pc_some (fun _ j hj => hK j (by omega) hj)) (fun c => pc_bq m_laid (fun r33 h33 => ?_))))
    rw [hT, show (17 + 16 * (b : Int) + 2).toNat = 19 + 16 * b by omega] at h33
    have hl : (hLa f).1 b = r33 := h33.symm
    refine pc_rg (pc_if (fun c2 => absurd c2 (by omega)) (fun c2 => pc_bq m_laid (fun r37 h37 => ?_)))
    have k6 : k < 6 := by have := H.2.1; omega
    rw [hT, show (17 + 16 * (b : Int) + (10 + (k : Int))).toNat = 27 + 16 * b + k by omega] at h37
    have ez : (hLa f).2.2 b k = r37 := by
      show (if k < 6 then f (27 + 16 * b + k) else 0) = r37
      rw [if_pos k6]; exact h37.symm
    have kd := IG_kid (k := k) H hb hd hlv (by omega)
    rw [ez] at kd
    obtain ⟨x, hx⟩ : ∃ x : Nat, r37 = (x : Int) := ⟨r37.toNat, by omega⟩
    rw [hx, Int.toNat_natCast] at kd
    have kK : ∀ j, j < 6 → kLa f b j = f (21 + 16 * b + j) := fun j hj => if_pos hj
    have J49 : ∀ lo : Int, (0 < k → kLa f b k ≤ lo) → pc (m_x12_areKeys_J49 (m_x12_areKeys_L9 n) (b : Int) ((hLa f).2.1 b) (k : Int) lo r37 T) (fun q => q.1 = 1 → ∀ k : Nat, (k : Int) < (hLa f).2.1 b → KSe f b k) := fun lo hlo => by
      have J72 : ∀ hi : Int, ((k : Int) + 1 < (hLa f).2.1 b → hi < kLa f b (k + 1)) → pc (m_x12_areKeys_J72 (m_x12_areKeys_L9 n) (b : Int) ((hLa f).2.1 b) (k : Int) hi lo r37 T) (fun q => q.1 = 1 → ∀ k : Nat, (k : Int) < (hLa f).2.1 b → KSe f b k) := fun hi hhi => by
        unfold m_x12_areKeys_J72
        refine pc_bn (fun q15 e15 => pc_rg (pc_if (fun c3 => pc_some (fun w => absurd w (show ¬ ((0 : Int) = 1) by decide))) (fun c3 => ?_)))
        have F : F_x12_areBetween T q15.2 := fr_x12_areBetween e15
        rw [show ((k : Int) + 1) = ((k + 1 : Nat) : Int) by omega]
        refine ih (k + 1) q15.2 ((F.2.1 113 (by decide)).trans hT) (fun j hj hjc => ?_)
        by_cases z : j = k
        · rw [z]
          rw [hx] at e15
          have q1 : q15.1 = 1 := by
            have w : pc (m_x12_areBetween (x : Int) lo hi T) (fun q => q.1 = 0 ∨ q.1 = 1) := b_betw
            exact (w q15 e15).resolve_left c3
          have y := m_betw1 H (by omega) kd.2.2 hT q15 e15 q1
          intro z hz
          rw [ez, hx, Int.toNat_natCast] at hz
          have w := y z hz
          exact ⟨fun h => by have := hlo h; omega, fun h => by have := hhi h; omega⟩
        · exact hK j (by omega) hjc
      unfold m_x12_areKeys_J49
      refine pc_rg (pc_rg (pc_if (fun c3 => J72 999 (fun w => absurd w (by omega))) (fun c3 => pc_bq m_laid (fun r28 h28 => J72 (r28 - 1) (fun _ => ?_)))))
      rw [hT, show (17 + 16 * (b : Int) + (5 + (k : Int))).toNat = 21 + 16 * b + (k + 1) by omega] at h28
      rw [kK (k + 1) (by have := H.2.1; omega), ← h28]; omega
    refine pc_rg (pc_if (fun c3 => J49 0 (fun w => absurd w (by omega))) (fun c3 => pc_bq m_laid (fun r41 h41 => J49 r41 (fun _ => ?_))))
    rw [hT, show (17 + 16 * (b : Int) + (4 + (k : Int))).toNat = 21 + 16 * b + k by omega] at h41
    rw [kK k k6, ← h41]; exact Int.le_refl _
  unfold m_x12_areKeys
  refine pc_bq m_laid (fun r43 h43 => ?_)
  rw [h113, show (17 + 16 * (b : Int) + 3).toNat = 20 + 16 * b by omega] at h43
  rw [show r43 = (hLa f).2.1 b from h43]
  exact L9 FU 0 S h113 (fun j hj => absurd hj (by omega))
set_option maxHeartbeats 250000 in theorem b_keys {p : Int} {S : MS} : pc (m_x12_areKeys p S) (fun q => q.1 = 0 ∨ q.1 = 1) := by
  have L9 : ∀ (n : Nat) (a b k : Int) (T : MS), pc (m_x12_areKeys_L9 n a b k T) (fun q => q.1 = 0 ∨ q.1 = 1) := by
    refine fr_ind (fun _ _ _ _ => pc_none) (fun n ih a b k T => ?_)
    have J49 : ∀ (lo x : Int), pc (m_x12_areKeys_J49 (m_x12_areKeys_L9 n) a b k lo x T) (fun q => q.1 = 0 ∨ q.1 = 1) := fun lo x => by
      have J72 : ∀ hi : Int, pc (m_x12_areKeys_J72 (m_x12_areKeys_L9 n) a b k hi lo x T) (fun q => q.1 = 0 ∨ q.1 = 1) := fun hi => by
        unfold m_x12_areKeys_J72
        exact pc_bn (fun _ _ => pc_rg (pc_if (fun _ => pc_some (Or.inl rfl)) (fun _ => ih _ _ _ _)))
      unfold m_x12_areKeys_J49
      exact pc_rg (pc_rg (pc_if (fun _ => J72 _) (fun _ => pc_bn (fun _ _ => J72 _))))
    show pc (m_x12_areKeys_b9 (m_x12_areKeys_L9 n) a b k T) _
    unfold m_x12_areKeys_b9 m_x12_areKeys_J86
    exact pc_rg (pc_rg (pc_if (fun _ => pc_some (Or.inr rfl)) (fun _ => pc_bn (fun _ _ => pc_rg (pc_if (fun _ => pc_some (Or.inr rfl)) (fun _ => pc_bn (fun _ _ => pc_rg (pc_if (fun _ => J49 _ _) (fun _ => pc_bn (fun _ _ => J49 _ _))))))))))
  unfold m_x12_areKeys
  exact pc_bn (fun _ _ => L9 _ _ _ _ _)
/-! ===== an image's bytes, as the reference reads them ===== -/
def br (g : Nat → Int) (e p : Nat) : Int := if p < e then g p else -1
set_option maxHeartbeats 250000 in theorem br_in {g : Nat → Int} {e p : Nat} (h : p < e) : br g e p = g p := if_pos h
def tw2 (g : Nat → Int) (e p : Nat) : Int := if p + 2 ≤ e then 256 * g p + g (p + 1) else -1
set_option maxHeartbeats 250000 in theorem tw2_in {g : Nat → Int} {e p : Nat} (h : p + 2 ≤ e) : tw2 g e p = 256 * g p + g (p + 1) := if_pos h
/- the tape, as the reference reads it -/
def TPr (T : MS) (g : Nat → Int) (e : Nat) : Prop := ∀ j, j ≤ e → gA T 0 j = g j
set_option maxHeartbeats 250000 in theorem TPr_k {T o : MS} {g : Nat → Int} {e : Nat} (h : TPr T g e) (a : gA o 0 = gA T 0) : TPr o g e := fun j hj => by rw [a]; exact h j hj
set_option maxHeartbeats 250000 in theorem m_byte {T : MS} {g : Nat → Int} {e p : Nat} (hT : TPr T g e) (hp : gI T 114 = (p : Int)) : pc (m_x12_byteRead (e : Int) T) (fun o => o.1 = br g e p ∧ gI o.2 114 = (p : Int) + 1 ∧ (∀ k, gA o.2 k = gA T k) ∧ ∀ i, i ≠ 114 → gI o.2 i = gI T i) := by
  unfold m_x12_byteRead m_x12_byteRead_J33
  refine pc_stn (fun s3 e3 => ?_)
  have i3 : gI s3 114 = (p : Int) + 1 := by rw [(q_II e3 : gI s3 114 = _), hp]
  have kA : ∀ k, gA s3 k = gA T k := fun k => q_Ia e3
  have kI : ∀ i, i ≠ 114 → gI s3 i = gI T i := fun i hi => q_Ii e3 hi
  rw [i3]
  refine pc_rg (pc_rg (pc_if (fun c => pc_some ⟨?_, i3, kA, kI⟩) (fun c => pc_rdI (fun _ => pc_some ⟨?_, i3, kA, kI⟩))))
  · show (-1 : Int) = br g e p
    unfold br
    rw [if_neg (by omega)]
  · show gA s3 0 ((p : Int) + 1 - 1).toNat = br g e p
    unfold br
    rw [if_pos (by omega), kA, show ((p : Int) + 1 - 1).toNat = p by omega, hT p (by omega)]
set_option maxHeartbeats 250000 in theorem m_two {T : MS} {g : Nat → Int} {e p : Nat} (BY : ∀ j, j ≤ e → 0 ≤ g j ∧ g j ≤ 255) (hT : TPr T g e) (hp : gI T 114 = (p : Int)) : pc (m_x12_twoRead (e : Int) T) (fun o => o.1 = tw2 g e p ∧ gI o.2 114 = (p : Int) + 2 ∧ (∀ k, gA o.2 k = gA T k) ∧ ∀ i, i ≠ 114 → gI o.2 i = gI T i) := by
  unfold m_x12_twoRead m_x12_twoRead_J22 m_x12_twoRead_J33
  refine pc_bq (m_byte (e := e) hT hp) (fun q6 h6 => ?_)
  obtain ⟨a1, a2, a3, a4⟩ := h6
  refine pc_bq (m_byte (e := e) (p := p + 1) (TPr_k hT (a3 0)) (by rw [a2]; omega)) (fun q9 h9 => ?_)
  obtain ⟨b1, b2, b3, b4⟩ := h9
  have kA : ∀ k, gA q9.2 k = gA T k := fun k => (b3 k).trans (a3 k)
  have kI : ∀ i, i ≠ 114 → gI q9.2 i = gI T i := fun i hi => (b4 i hi).trans (a4 i hi)
  have i9 : gI q9.2 114 = (p : Int) + 2 := by rw [b2]; omega
  unfold br at a1 b1
  refine pc_rg (pc_if (fun c => pc_some ⟨?_, i9, kA, kI⟩) (fun c => pc_rg (pc_if (fun c2 => pc_some ⟨?_, i9, kA, kI⟩) (fun c2 => pc_some ⟨?_, i9, kA, kI⟩))))
  · show (-1 : Int) = tw2 g e p
    unfold tw2
    by_cases z : p < e
    · rw [if_pos z] at a1
      have := (BY p (by omega)).1
      omega
    · rw [if_neg (by omega)]
  · show (-1 : Int) = tw2 g e p
    unfold tw2
    by_cases z : p + 1 < e
    · rw [if_pos z] at b1
      have := (BY (p + 1) (by omega)).1
      omega
    · rw [if_neg (by omega)]
  · show 256 * q6.1 + q9.1 = tw2 g e p
    by_cases z : p + 1 < e
    · rw [if_pos z] at b1
      rw [if_pos (by omega)] at a1
      rw [tw2_in (by omega), a1, b1]
    · rw [if_neg z] at b1
      exact absurd b1 c2
/- the least that a key may be -/
def lwk (g : Nat → Int) (p : Nat) (l : Int) (j : Nat) : Int := if j = 0 ∨ (j = 1 ∧ 0 < l) then 0 else ke g p (j - 1) + 1
def LOWk (g : Nat → Int) (p : Nat) (l : Int) (n : Int) : Prop := ∀ j : Nat, (j : Int) < n → lwk g p l j ≤ ke g p j ∧ ke g p j ≤ 999
/- what the reference asks of a block while it reads -/
def ROK (g : Nat → Int) (p : Nat) (E : Int) : Prop := thr g p → (1 ≤ g (p + 3) ∧ g (p + 3) ≤ E) ∧ LOWk g p (g (p + 2)) (g (p + 3))
/- block b as it lies in the reference's row -/
def RRB (f g : Nat → Int) (p b : Nat) : Prop := (f (17 + 16 * b) = g p ∧ f (18 + 16 * b) = g (p + 1)) ∧ (thr g p → f (19 + 16 * b) = g (p + 2) ∧ f (20 + 16 * b) = g (p + 3) ∧ ∀ k : Nat, k < 6 → (k : Int) < g (p + 3) → f (21 + 16 * b + k) = ke g p k ∧ f (27 + 16 * b + k) = ve g p k) ∧ (¬ thr g p → ∀ i, 2 ≤ i → i < 16 → f (17 + 16 * b + i) = 0)
set_option maxHeartbeats 250000 in theorem RRB_x {f f' g : Nat → Int} {p b : Nat} (h : RRB f g p b) (e : ∀ j, 17 + 16 * b ≤ j → j < 33 + 16 * b → f' j = f j) : RRB f' g p b := by
  obtain ⟨⟨a1, a2⟩, a3, a4⟩ := h
  refine ⟨⟨by rw [e _ (by omega) (by omega)]; exact a1, by rw [e _ (by omega) (by omega)]; exact a2⟩, fun ht => ?_, fun hn i i1 i2 => by rw [e _ (by omega) (by omega)]; exact a4 hn i i1 i2⟩
  obtain ⟨b1, b2, b3⟩ := a3 ht
  refine ⟨by rw [e _ (by omega) (by omega)]; exact b1, by rw [e _ (by omega) (by omega)]; exact b2, fun k k6 hk => ?_⟩
  rw [e _ (by omega) (by omega), e _ (by omega) (by omega)]
  exact b3 k k6 hk
def PLb (g : Nat → Int) (e p b : Nat) (E : Int) (T : MS) (q : Int × MS) : Prop := (q.1 = 0 ∨ q.1 = 1) ∧ (q.1 = 1 → gI q.2 114 ≤ (e : Int) → nxp g p ≤ e ∧ gI q.2 114 = (nxp g p : Int) ∧ ROK g p E ∧ RRB (gA q.2 113) g p b) ∧ (nxp g p ≤ e → ROK g p E → q.1 = 1 ∧ gI q.2 114 = (nxp g p : Int)) ∧ ((p : Int) < gI q.2 114) ∧ (∀ j, (j < 17 + 16 * b ∨ 33 + 16 * b ≤ j) → gA q.2 113 j = gA T 113 j) ∧ (∀ k, k ≠ 113 → gA q.2 k = gA T k) ∧ ∀ i, i ≠ 114 → gI q.2 i = gI T i
set_option maxHeartbeats 2000000 in
/- the entries of a block -/
theorem m_entsL {g : Nat → Int} {e p b : Nat} {E : Int} {T0 : MS} (hb : b < 48) (BY : ∀ j, j ≤ e → 0 ≤ g j ∧ g j ≤ 255) (p3 : p + 3 < e) (ht : thr g p) (hn : 1 ≤ g (p + 3) ∧ g (p + 3) ≤ E) (hE : E ≤ 6) : ∀ (m k : Nat) (T : MS), (k : Int) ≤ g (p + 3) → TPr T g e → gI T 114 = ((p + 4 + 4 * k : Nat) : Int) → (gA T 113 (17 + 16 * b) = g p ∧ gA T 113 (18 + 16 * b) = g (p + 1) ∧ gA T 113 (19 + 16 * b) = g (p + 2) ∧ gA T 113 (20 + 16 * b) = g (p + 3)) → (∀ j, j < k → gA T 113 (21 + 16 * b + j) = tw2 g e (p + 4 + 4 * j) ∧ gA T 113 (27 + 16 * b + j) = tw2 g e (p + 6 + 4 * j)) → (p + 4 + 4 * k ≤ e → LOWk g p (g (p + 2)) (k : Int)) → (∀ j, (j < 17 + 16 * b ∨ 33 + 16 * b ≤ j) → gA T 113 j = gA T0 113 j) → (∀ k, k ≠ 113 → gA T k = gA T0 k) → (∀ i, i ≠ 114 → gI T i = gI T0 i) → pc (m_x12_isLaidBlock_L130 m (e : Int) (17 + 16 * (b : Int)) (k : Int) T) (PLb g e p b E T0) := sorry/-! ===== all blocks of an image, as the reference reads them ===== -/
set_option maxHeartbeats 2000000 in
theorem m_block {g : Nat → Int} {e p b : Nat} {E : Int} {T : MS} (hb : b < 48) (BY : ∀ j, j ≤ e → 0 ≤ g j ∧ g j ≤ 255) (hE : E ≤ 6) (h6 : gA T 39 6 = E) (hT : TPr T g e) (hp : gI T 114 = (p : Int)) : pc (m_x12_isLaidBlock (b : Int) (e : Int) T) (PLb g e p b E T) := by
  have L11 : ∀ (n k : Nat) (X : MS), k ≤ 16 → gI X 114 = (p : Int) → (∀ j, j < k → gA X 113 (17 + 16 * b + j) = 0) → (∀ j, (j < 17 + 16 * b ∨ 33 + 16 * b ≤ j) → gA X 113 j = gA T 113 j) → (∀ k, k ≠ 113 → gA X k = gA T k) → (∀ i, i ≠ 114 → gI X i = gI T i) → pc (m_x12_isLaidBlock_L11 n (e : Int) (17 + 16 * (b : Int)) (k : Int) X) (PLb g e p b E T) := by
    refine fr_ind (fun _ _ _ _ _ _ _ _ => pc_none) (fun n ih k X hk hp hz kO kA kI => ?_)
    show pc (m_x12_isLaidBlock_b11 (m_x12_isLaidBlock_L11 n) (e : Int) (17 + 16 * (b : Int)) (k : Int) X) _
    unfold m_x12_isLaidBlock_b11
    refine pc_rg (pc_if (fun c => ?_) (fun c => pc_inb (pc_stn (fun s e1 => ?_))))
    rotate_left
    · rw [show (17 + 16 * (b : Int) + (k : Int)).toNat = 17 + 16 * b + k by omega] at e1
      have k113 : gA s 113 = upZ (gA X 113) (17 + 16 * b + k) 0 := q_AA e1
      rw [show ((k : Int) + 1) = ((k + 1 : Nat) : Int) by omega]
      refine ih (k + 1) s (by omega) ((q_Ai e1).trans hp) (fun j hj => ?_) (fun j hj => by rw [k113, upZ_n (by omega)]; exact kO j hj) (fun j hj => (q_Aa e1 hj).trans (kA j hj)) (fun i hi => (q_Ai e1).trans (kI i hi))
      rw [k113]
      by_cases z : j = k
      · rw [z, upZ_s]
      · rw [upZ_n (by omega)]; exact hz j (by omega)
    have k16 : k = 16 := by omega
    have hX0 : TPr X g e := TPr_k hT (kA 0 (by decide))
    refine pc_bq (m_byte (e := e) hX0 hp) (fun q61 h61 => pc_inb (pc_stn (fun s63 e63 => ?_)))
    obtain ⟨a1, a2, a3, a4⟩ := h61
    rw [show (17 + 16 * (b : Int)).toNat = 17 + 16 * b by omega] at e63
    refine pc_bq (m_byte (e := e) (p := p + 1) (TPr_k hX0 (by rw [(q_Aa e63 (by decide) : gA s63 0 = _), a3])) (by rw [(q_Ai e63 : gI s63 114 = _), a2]; omega)) (fun q66 h66 => pc_inb (pc_stn (fun s68 e68 => pc_rdI (fun _ => pc_rdI (fun _ => ?_)))))
    obtain ⟨b1, b2, b3, b4⟩ := h66
    rw [show (17 + 16 * (b : Int) + 1).toNat = 18 + 16 * b by omega] at e68
    have k68 : gA s68 113 = upZ (upZ (gA X 113) (17 + 16 * b) q61.1) (18 + 16 * b) q66.1 := by
      rw [(q_AA e68 : gA s68 113 = _), b3, (q_AA e63 : gA s63 113 = _), a3]
    have A68 : ∀ j, j ≠ 113 → gA s68 j = gA T j := fun j hj => by rw [(q_Aa e68 hj : gA s68 j = _), b3, (q_Aa e63 hj : gA s63 j = _), a3]; exact kA j hj
    have I68 : ∀ i, i ≠ 114 → gI s68 i = gI T i := fun i hi => by rw [(q_Ai e68 : gI s68 i = _), b4 i hi, (q_Ai e63 : gI s63 i = _), a4 i hi]; exact kI i hi
    have i68 : gI s68 114 = ((p + 2 : Nat) : Int) := by rw [(q_Ai e68 : gI s68 114 = _), b2]; omega
    have v17 : gA s68 113 (17 + 16 * b) = br g e p := by rw [k68, upZ_n (by omega), upZ_s, a1]
    have v18 : gA s68 113 (18 + 16 * b) = br g e (p + 1) := by rw [k68, upZ_s, b1]
    have O68 : ∀ j, (j < 17 + 16 * b ∨ 33 + 16 * b ≤ j) → gA s68 113 j = gA T 113 j := fun j hj => by rw [k68, upZ_n (by omega), upZ_n (by omega)]; exact kO j hj
    have Z68 : ∀ i, 2 ≤ i → i < 16 → gA s68 113 (17 + 16 * b + i) = 0 := fun i i1 i2 => by rw [k68, upZ_n (by omega), upZ_n (by omega)]; exact hz i (by omega)
    rw [show (17 + 16 * (b : Int)).toNat = 17 + 16 * b by omega, show (17 + 16 * (b : Int) + 1).toNat = 18 + 16 * b by omega, v17, v18]
    have FAIL : ∀ X : MS, ¬ (nxp g p ≤ e ∧ ROK g p E) → (p : Int) < gI X 114 → (∀ j, (j < 17 + 16 * b ∨ 33 + 16 * b ≤ j) → gA X 113 j = gA T 113 j) → (∀ k, k ≠ 113 → gA X k = gA T k) → (∀ i, i ≠ 114 → gI X i = gI T i) → PLb g e p b E T (0, X) := fun X w h1 h2 h3 h4 => ⟨Or.inl rfl, fun w => absurd w (show ¬ ((0 : Int) = 1) by decide), fun w1 w2 => absurd ⟨w1, w2⟩ w, h1, h2, h3, h4⟩
    refine pc_rg (pc_if (fun c2 => pc_some ?_) (fun c2 => ?_))
    · -- free, or read beyond
      have IN : p + 2 ≤ e → ¬ thr g p := fun w => by
        rw [br_in (by omega), br_in (by omega)] at c2
        have y1 := (BY p (by omega)).1
        have y2 := (BY (p + 1) (by omega)).1
        exact fun t => t ⟨by omega, by omega⟩
      refine ⟨Or.inr rfl, fun _ w => ?_, fun w w2 => ?_, by show (p : Int) < gI s68 114; rw [i68]; omega, O68, A68, I68⟩
      · have w' : p + 2 ≤ e := by
          have w2 : gI s68 114 ≤ (e : Int) := w
          rw [i68] at w2; omega
        have nt := IN w'
        refine ⟨by rw [nxp_0 nt]; exact w', by show gI s68 114 = _; rw [i68, nxp_0 nt], fun t => absurd t nt, ⟨?_, ?_⟩, fun t => absurd t nt, fun _ => Z68⟩
        · show gA s68 113 (17 + 16 * b) = g p
          rw [v17, br_in (by omega)]
        · show gA s68 113 (18 + 16 * b) = g (p + 1)
          rw [v18, br_in (by omega)]
      · have l := nxp_lt g p
        have nt := IN (by omega)
        exact ⟨rfl, by show gI s68 114 = _; rw [i68, nxp_0 nt]⟩
    -- there
    have hT68 : TPr s68 g e := TPr_k hT (A68 0 (by decide))
    refine pc_bq (m_byte (e := e) (p := p + 2) hT68 i68) (fun q75 h75 => pc_inb (pc_stn (fun s77 e77 => ?_)))
    obtain ⟨d1, d2, d3, d4⟩ := h75
    rw [show (17 + 16 * (b : Int) + 2).toNat = 19 + 16 * b by omega] at e77
    refine pc_bq (m_byte (e := e) (p := p + 3) (TPr_k hT68 (by rw [(q_Aa e77 (by decide) : gA s77 0 = _), d3])) (by rw [(q_Ai e77 : gI s77 114 = _), d2]; omega)) (fun q80 h80 => pc_inb (pc_stn (fun s82 e82 => pc_rdI (fun _ => ?_))))
    obtain ⟨f1, f2, f3, f4⟩ := h80
    rw [show (17 + 16 * (b : Int) + 3).toNat = 20 + 16 * b by omega] at e82
    have k82 : gA s82 113 = upZ (upZ (gA s68 113) (19 + 16 * b) q75.1) (20 + 16 * b) q80.1 := by
      rw [(q_AA e82 : gA s82 113 = _), f3, (q_AA e77 : gA s77 113 = _), d3]
    have A82 : ∀ j, j ≠ 113 → gA s82 j = gA T j := fun j hj => by rw [(q_Aa e82 hj : gA s82 j = _), f3, (q_Aa e77 hj : gA s77 j = _), d3]; exact A68 j hj
    have I82 : ∀ i, i ≠ 114 → gI s82 i = gI T i := fun i hi => by rw [(q_Ai e82 : gI s82 i = _), f4 i hi, (q_Ai e77 : gI s77 i = _), d4 i hi]; exact I68 i hi
    have i82 : gI s82 114 = ((p + 4 + 4 * 0 : Nat) : Int) := by rw [(q_Ai e82 : gI s82 114 = _), f2]; omega
    have O82 : ∀ j, (j < 17 + 16 * b ∨ 33 + 16 * b ≤ j) → gA s82 113 j = gA T 113 j := fun j hj => by rw [k82, upZ_n (by omega), upZ_n (by omega)]; exact O68 j hj
    have w20 : gA s82 113 (20 + 16 * b) = br g e (p + 3) := by rw [k82, upZ_s, f1]
    have w19 : gA s82 113 (19 + 16 * b) = br g e (p + 2) := by rw [k82, upZ_n (by omega), upZ_s, d1]
    have w17 : gA s82 113 (17 + 16 * b) = br g e p := by rw [k82, upZ_n (by omega), upZ_n (by omega)]; exact v17
    have w18 : gA s82 113 (18 + 16 * b) = br g e (p + 1) := by rw [k82, upZ_n (by omega), upZ_n (by omega)]; exact v18
    rw [show (17 + 16 * (b : Int) + 3).toNat = 20 + 16 * b by omega, w20]
    have RM : pc (m_x12_roomOf s82) (fun r => r = E) := by
      unfold m_x12_roomOf
      exact pc_rdI (fun _ => pc_some (by show gA s82 39 6 = E; rw [A82 39 (by decide)]; exact h6))
    have TH : p + 2 ≤ e → thr g p := fun w t => c2 (by rw [br_in (by omega), br_in (by omega), t.1, t.2]; rfl)
    refine pc_rg (pc_bq RM (fun r86 h86 => ?_))
    rw [h86]
    refine pc_rg (pc_bq m_isIn (fun r89 h89 => pc_rg (pc_if (fun c3 => pc_some (FAIL s82 (fun w => ?_) (by rw [i82]; omega) O82 A82 I82)) (fun c3 => ?_))))
    · have l := nxp_lt g p
      have t := TH (by omega)
      have r := (w.2 t).1
      have n := w.1
      rw [nxp_1 t] at n
      rw [br_in (by omega)] at h89
      rcases h89 with ⟨a, _⟩ | ⟨_, a⟩
      · exact absurd (a.symm.trans c3) (by decide)
      · exact a r
    · have r : 1 ≤ br g e (p + 3) ∧ br g e (p + 3) ≤ E := by
        rcases h89 with ⟨_, a⟩ | ⟨a, _⟩
        · exact a
        · exact absurd a c3
      have p3 : p + 3 < e := by
        refine Classical.byContradiction (fun z => ?_)
        unfold br at r
        rw [if_neg z] at r
        omega
      rw [br_in p3] at r w20
      rw [br_in (by omega)] at w17 w18 w19
      exact m_entsL hb BY p3 (TH (by omega)) r hE FU 0 s82 (by omega) (TPr_k hT (A82 0 (by decide))) i82 ⟨w17, w18, w19, w20⟩ (fun j hj => absurd hj (by omega)) (fun _ j hj => absurd hj (by omega)) O82 A82 I82
  unfold m_x12_isLaidBlock
  exact L11 FU 0 T (by omega) hp (fun j hj => absurd hj (by omega)) (fun _ _ => rfl) (fun _ _ => rfl) (fun _ _ => rfl)
def IMR (g : Nat → Int) (e N : Nat) (E : Int) (b p : Nat) : Prop := p ≤ e ∧ PO g N = e ∧ ∀ x, b ≤ x → x < N → ROK g (PO g x) E
/- the rows of all blocks -/
def RRA (f g : Nat → Int) (N : Nat) : Prop := (∀ x, x < N → RRB f g (PO g x) x) ∧ ∀ x i, N ≤ x → x < 48 → i < 16 → f (17 + 16 * x + i) = 0
def PIm (g : Nat → Int) (e N : Nat) (C : Prop) (T : MS) (q : Int × MS) : Prop := (q.1 = 0 ∨ q.1 = 1) ∧ (q.1 = 1 ↔ C) ∧ (q.1 = 1 → RRA (gA q.2 113) g N) ∧ (∀ j, j < 17 → gA q.2 113 j = gA T 113 j) ∧ (∀ k, k ≠ 113 → gA q.2 k = gA T k) ∧ ∀ i, i ≠ 114 → gI q.2 i = gI T i
set_option maxHeartbeats 1000000 in
theorem m_L102 {N e : Nat} {E : Int} {g : Nat → Int} (hN : N ≤ 48) (hE : E ≤ 6) (BY : ∀ j, j ≤ e → 0 ≤ g j ∧ g j ≤ 255) : ∀ (n b p : Nat) (T : MS), b ≤ N → gA T 39 5 = (N : Int) → gA T 39 6 = E → TPr T g e → gI T 114 = (p : Int) → (p ≤ e → p = PO g b ∧ ∀ x, x < b → RRB (gA T 113) g (PO g x) x) → pc (m_x12_isLaid_L102 n (e : Int) (b : Int) T) (PIm g e N (IMR g e N E b p) T) := by
  -- the blocks that the store does not have
  have L135 : ∀ (n x p : Nat) (T X : MS), N ≤ x → x ≤ 48 → gI X 114 = (p : Int) → (p ≤ e → p = PO g N ∧ ∀ x, x < N → RRB (gA T 113) g (PO g x) x) → (∀ y i, N ≤ y → y < x → i < 16 → gA X 113 (17 + 16 * y + i) = 0) → (∀ j, j < 17 + 16 * N → gA X 113 j = gA T 113 j) → (∀ k, k ≠ 113 → gA X k = gA T k) → (∀ i, i ≠ 114 → gI X i = gI T i) → pc (m_x12_isLaid_L135 n (e : Int) (x : Int) X) (PIm g e N (IMR g e N E N p) T) := by
    refine fr_ind (fun _ _ _ _ _ _ _ _ _ _ _ _ => pc_none) (fun n ih x p T X hx h48 hp hr hz kO kA kI => ?_)
    show pc (m_x12_isLaid_b135 (m_x12_isLaid_L135 n) (e : Int) (x : Int) X) _
    unfold m_x12_isLaid_b135 m_x12_isLaid_J194
    refine pc_rg (pc_if (fun c => ?_) (fun c => ?_))
    · have x48 : x = 48 := by omega
      rw [hp]
      refine pc_rg (pc_rg (pc_if (fun c2 => pc_bo (pc_some ⟨Or.inr rfl, ⟨fun _ => ?_, fun _ => rfl⟩, fun _ => ⟨fun y hy => ?_, fun y i y1 y2 i1 => hz y i y1 (by omega) i1⟩, fun j hj => kO j (by omega), kA, kI⟩)) (fun c2 => pc_bo (pc_some ⟨Or.inl rfl, ⟨fun w => absurd w (show ¬ ((0 : Int) = 1) by decide), fun w => ?_⟩, fun w => absurd w (show ¬ ((0 : Int) = 1) by decide), fun j hj => kO j (by omega), kA, kI⟩))))
      · have r := hr (by omega)
        exact ⟨by omega, by rw [← r.1]; omega, fun y y1 y2 => absurd y2 (by omega)⟩
      · have r := hr (by omega)
        exact RRB_x (r.2 y hy) (fun j j1 j2 => kO j (by omega))
      · exfalso
        have r := hr w.1
        have := w.2.1
        omega
    · have L145 : ∀ (m i : Nat) (X : MS), i ≤ 16 → gI X 114 = (p : Int) → (∀ y j, N ≤ y → y < x → j < 16 → gA X 113 (17 + 16 * y + j) = 0) → (∀ j, j < i → gA X 113 (17 + 16 * x + j) = 0) → (∀ j, j < 17 + 16 * N → gA X 113 j = gA T 113 j) → (∀ k, k ≠ 113 → gA X k = gA T k) → (∀ i, i ≠ 114 → gI X i = gI T i) → pc (m_x12_isLaid_L145 (m_x12_isLaid_L135 n) m (e : Int) (x : Int) (i : Int) X) (PIm g e N (IMR g e N E N p) T) := by
        refine fr_ind (fun _ _ _ _ _ _ _ _ _ => pc_none) (fun m ihm i X hi hp hz hz2 kO kA kI => ?_)
        show pc (m_x12_isLaid_b145 (m_x12_isLaid_L135 n) (m_x12_isLaid_L145 (m_x12_isLaid_L135 n) m) (e : Int) (x : Int) (i : Int) X) _
        unfold m_x12_isLaid_b145
        refine pc_rg (pc_if (fun d => ?_) (fun d => pc_inb (pc_stn (fun s14 e14 => ?_))))
        · rw [show ((x : Int) + 1) = ((x + 1 : Nat) : Int) by omega]
          refine ih (x + 1) p T X (by omega) (by omega) hp hr (fun y j y1 y2 j1 => ?_) kO kA kI
          by_cases z : y = x
          · rw [z]; exact hz2 j (by omega)
          · exact hz y j y1 (by omega) j1
        · rw [show (17 + 16 * (x : Int) + (i : Int)).toNat = 17 + 16 * x + i by omega] at e14
          have k113 : gA s14 113 = upZ (gA X 113) (17 + 16 * x + i) 0 := q_AA e14
          rw [show ((i : Int) + 1) = ((i + 1 : Nat) : Int) by omega]
          refine ihm (i + 1) s14 (by omega) ((q_Ai e14).trans hp) (fun y j y1 y2 j1 => by rw [k113, upZ_n (by omega)]; exact hz y j y1 y2 j1) (fun j hj => ?_) (fun j hj => by rw [k113, upZ_n (by omega)]; exact kO j hj) (fun j hj => (q_Aa e14 hj).trans (kA j hj)) (fun j hj => (q_Ai e14).trans (kI j hj))
          rw [k113]
          by_cases z : j = i
          · rw [z, upZ_s]
          · rw [upZ_n (by omega)]; exact hz2 j (by omega)
      exact L145 FU 0 X (by omega) hp hz (fun j hj => absurd hj (by omega)) kO kA kI
  refine fr_ind (fun _ _ _ _ _ _ _ _ _ => pc_none) (fun n ih b p T hb h5 h6 hT hp hr => ?_)
  show pc (m_x12_isLaid_b102 (m_x12_isLaid_L102 n) (e : Int) (b : Int) T) _
  unfold m_x12_isLaid_b102
  refine pc_bq m_blkMany (fun r24 h24 => ?_)
  rw [h24, h5]
  refine pc_rg (pc_rg (pc_if (fun c => pc_bq m_blkMany (fun r29 h29 => ?_)) (fun c => pc_bn (fun q32 e32 => ?_))))
  · rw [h29, h5]
    have bN : b = N := by omega
    rw [bN] at hr ⊢
    exact L135 FU N p T T (Nat.le_refl _) hN hp hr (fun y i y1 y2 _ => absurd y2 (by omega)) (fun _ _ => rfl) (fun _ _ => rfl) (fun _ _ => rfl)
  · have b48 : b < 48 := by omega
    obtain ⟨p1, p2, p3, p4, p5, p6, p7⟩ := m_block b48 BY hE h6 hT hp q32 e32
    have IN : IMR g e N E b p → nxp g p ≤ e ∧ ROK g p E := fun w => by
      have r := (hr w.1).1
      have m := PO_le (g := g) (show b + 1 ≤ N by omega)
      rw [PO_s, ← r, w.2.1] at m
      refine ⟨m, ?_⟩
      have y := w.2.2 b (Nat.le_refl _) (by omega)
      rw [← r] at y
      exact y
    refine pc_rg (pc_if (fun c2 => pc_some ⟨Or.inl rfl, ⟨fun w => absurd w (show ¬ ((0 : Int) = 1) by decide), fun w => ?_⟩, fun w => absurd w (show ¬ ((0 : Int) = 1) by decide), fun j hj => p5 j (by omega), p6, p7⟩) (fun c2 => ?_))
    · exfalso
      have i := IN w
      have y := (p3 i.1 i.2).1
      omega
    · have q1 : q32.1 = 1 := p1.resolve_left c2
      obtain ⟨p', hp'⟩ : ∃ p' : Nat, gI q32.2 114 = (p' : Int) := ⟨(gI q32.2 114).toNat, by omega⟩
      have step := ih (b + 1) p' q32.2 (by omega) (by rw [p6 39 (by decide)]; exact h5) (by rw [p6 39 (by decide)]; exact h6) (TPr_k hT (p6 0 (by decide))) hp' (fun hle => by
        obtain ⟨i1, i2, i3, i4⟩ := p2 q1 (by omega)
        have r := hr (by omega)
        refine ⟨by rw [PO_s, ← r.1]; omega, fun x hx => ?_⟩
        by_cases z : x = b
        · rw [z, ← r.1]; exact i4
        · exact RRB_x (r.2 x (by omega)) (fun j j1 j2 => p5 j (by omega)))
      rw [show ((b : Int) + 1) = ((b + 1 : Nat) : Int) by omega]
      have EQ : IMR g e N E b p ↔ IMR g e N E (b + 1) p' := by
        constructor
        · intro w
          have i := IN w
          have y := (p3 i.1 i.2).2
          exact ⟨by omega, w.2.1, fun x x1 x2 => w.2.2 x (by omega) x2⟩
        · intro w
          have w1 := w.1
          obtain ⟨i1, i2, i3, i4⟩ := p2 q1 (by omega)
          have r := hr (by omega)
          refine ⟨by omega, w.2.1, fun x x1 x2 => ?_⟩
          by_cases z : x = b
          · rw [z, ← r.1]; exact i3
          · exact w.2.2 x (by omega) x2
      refine pc_mono step (fun q hq => ?_)
      obtain ⟨c1, c2, c3, c4, c5, c6⟩ := hq
      exact ⟨c1, c2.trans EQ.symm, c3, fun j hj => (c4 j hj).trans (p5 j (by omega)), fun k hk => (c5 k hk).trans (p6 k hk), fun i hi => (c6 i hi).trans (p7 i hi)⟩
/-! ===== an image, as the reference judges it ===== -/
def HDr (f g : Nat → Int) : Prop := f 16 = cst g ∧ ∀ u, u < 8 → f u = g (3 + 2 * u) ∧ f (8 + u) = g (4 + 2 * u)
def PLd (g : Nat → Int) (e N : Nat) (C : Prop) (T : MS) (q : Int × MS) : Prop := (q.1 = 0 ∨ q.1 = 1) ∧ (q.1 = 1 ↔ C) ∧ (q.1 = 1 → RRA (gA q.2 113) g N ∧ HDr (gA q.2 113) g) ∧ (∀ k, k ≠ 113 → gA q.2 k = gA T k) ∧ ∀ i, i ≠ 114 → gI q.2 i = gI T i
set_option maxHeartbeats 1000000 in
theorem m_isLaid {N e : Nat} {E : Int} {g : Nat → Int} {T : MS} (hN : N ≤ 48) (hE : E ≤ 6) (BY : ∀ j, j ≤ e → 0 ≤ g j ∧ g j ≤ 255) (he : 19 ≤ e) (h5 : gA T 39 5 = (N : Int)) (h6 : gA T 39 6 = E) (hT : TPr T g e) : pc (m_x12_isLaid (e : Int) T) (PLd g e N (cst g ≤ 999999 ∧ IMR g e N E 0 19) T) := by
  unfold m_x12_isLaid m_x12_isLaid_J54
  refine pc_stn (fun s51 e51 => ?_)
  have A51 : ∀ k, gA s51 k = gA T k := fun k => q_Ia e51
  have I51 : ∀ i, i ≠ 114 → gI s51 i = gI T i := fun i hi => q_Ii e51 hi
  refine pc_bq (m_byte (e := e) (p := 0) (TPr_k hT (A51 0)) (q_II e51)) (fun q54 h54 => ?_)
  obtain ⟨a1, a2, a3, a4⟩ := h54
  refine pc_bq (m_two (e := e) (p := 1) BY (TPr_k hT ((a3 0).trans (A51 0))) (by rw [a2]; rfl)) (fun q57 h57 => pc_inb (pc_stn (fun s59 e59 => ?_)))
  obtain ⟨b1, b2, b3, b4⟩ := h57
  rw [br_in (by omega)] at a1
  rw [tw2_in (by omega)] at b1
  have y0 := BY 0 (by omega)
  have y1 := BY 1 (by omega)
  have y2 := BY (1 + 1) (by omega)
  have k113 : gA s59 113 = upZ (gA T 113) 16 (cst g) := by
    rw [(q_AA e59 : gA s59 113 = _), b3, a3, A51, a1, b1]
    rfl
  have A59 : ∀ k, k ≠ 113 → gA s59 k = gA T k := fun k hk => by rw [(q_Aa e59 hk : gA s59 k = _), b3, a3, A51]
  have I59 : ∀ i, i ≠ 114 → gI s59 i = gI T i := fun i hi => by rw [(q_Ai e59 : gI s59 i = _), b4 i hi, a4 i hi, I51 i hi]
  have i59 : gI s59 114 = ((3 + 2 * 0 : Nat) : Int) := by rw [(q_Ai e59 : gI s59 114 = _), b2]; rfl
  have L59 : ∀ (n u : Nat) (X : MS), u ≤ 8 → cst g ≤ 999999 → gI X 114 = ((3 + 2 * u : Nat) : Int) → gA X 113 16 = cst g → (∀ v, v < u → gA X 113 v = g (3 + 2 * v) ∧ gA X 113 (8 + v) = g (4 + 2 * v)) → (∀ k, k ≠ 113 → gA X k = gA T k) → (∀ i, i ≠ 114 → gI X i = gI T i) → pc (m_x12_isLaid_L59 n (e : Int) (u : Int) X) (PLd g e N (cst g ≤ 999999 ∧ IMR g e N E 0 19) T) := by
    refine fr_ind (fun _ _ _ _ _ _ _ _ _ => pc_none) (fun n ih u X hu hC hp h16 hv kA kI => ?_)
    show pc (m_x12_isLaid_b59 (m_x12_isLaid_L59 n) (e : Int) (u : Int) X) _
    unfold m_x12_isLaid_b59
    have hX0 : TPr X g e := TPr_k hT (kA 0 (by decide))
    refine pc_rg (pc_if (fun c => ?_) (fun c => ?_))
    · have u8 : u = 8 := by omega
      rw [u8] at hp hv
      have L := m_L102 hN hE BY FU 0 19 X (by omega) (by rw [kA 39 (by decide)]; exact h5) (by rw [kA 39 (by decide)]; exact h6) hX0 hp (fun _ => ⟨rfl, fun x hx => absurd hx (by omega)⟩)
      refine pc_mono L (fun q hq => ?_)
      obtain ⟨c1, c2, c3, c4, c5, c6⟩ := hq
      exact ⟨c1, c2.trans ⟨fun w => ⟨hC, w⟩, fun w => w.2⟩, fun w => ⟨c3 w, by rw [c4 16 (by omega)]; exact h16, fun v hv8 => by rw [c4 v (by omega), c4 (8 + v) (by omega)]; exact hv v hv8⟩, fun k hk => (c5 k hk).trans (kA k hk), fun i hi => (c6 i hi).trans (kI i hi)⟩
    · refine pc_bq (m_byte (e := e) hX0 hp) (fun q42 h42 => pc_inb (pc_stn (fun s44 e44 => ?_)))
      obtain ⟨d1, d2, d3, d4⟩ := h42
      rw [Int.toNat_natCast] at e44
      refine pc_bq (m_byte (e := e) (p := 4 + 2 * u) (TPr_k hX0 (by rw [(q_Aa e44 (by decide) : gA s44 0 = _), d3])) (by rw [(q_Ai e44 : gI s44 114 = _), d2]; omega)) (fun q47 h47 => pc_inb (pc_stn (fun s49 e49 => ?_)))
      obtain ⟨f1, f2, f3, f4⟩ := h47
      rw [show (8 + (u : Int)).toNat = 8 + u by omega] at e49
      rw [br_in (by omega)] at d1 f1
      have k49 : gA s49 113 = upZ (upZ (gA X 113) u q42.1) (8 + u) q47.1 := by
        rw [(q_AA e49 : gA s49 113 = _), f3, (q_AA e44 : gA s44 113 = _), d3]
      rw [show ((u : Int) + 1) = ((u + 1 : Nat) : Int) by omega]
      refine ih (u + 1) s49 (by omega) hC (by rw [(q_Ai e49 : gI s49 114 = _), f2]; omega) (by rw [k49, upZ_n (by omega), upZ_n (by omega)]; exact h16) (fun v hv1 => ?_) (fun k hk => by rw [(q_Aa e49 hk : gA s49 k = _), f3, (q_Aa e44 hk : gA s44 k = _), d3]; exact kA k hk) (fun i hi => by rw [(q_Ai e49 : gI s49 i = _), f4 i hi, (q_Ai e44 : gI s44 i = _), d4 i hi]; exact kI i hi)
      rw [k49]
      by_cases z : v = u
      · rw [z, upZ_n (show u ≠ 8 + u by omega), upZ_s, upZ_s]; exact ⟨d1, f1⟩
      · rw [upZ_n (show v ≠ 8 + u by omega), upZ_n z, upZ_n (show 8 + v ≠ 8 + u by omega), upZ_n (show 8 + v ≠ u by omega)]; exact hv v (by omega)
  refine pc_rg (pc_if (fun c => absurd (a1.symm.trans c) (by omega)) (fun _ => pc_rg (pc_if (fun c => absurd (b1.symm.trans c) (by omega)) (fun _ => pc_rdI (fun _ => ?_)))))
  rw [show Int.toNat 16 = 16 from rfl, k113, upZ_s]
  refine pc_rg (pc_if (fun c => L59 FU 0 s59 (by omega) c i59 (by rw [k113, upZ_s]) (fun v hv => absurd hv (by omega)) A59 I59) (fun c => pc_some ⟨Or.inl rfl, ⟨fun w => absurd w (show ¬ ((0 : Int) = 1) by decide), fun w => absurd w.1 c⟩, fun w => absurd w (show ¬ ((0 : Int) = 1) by decide), A59, I59⟩))
/- all that the reference asks of an image, behind its bytes -/
def CIM (f : Nat → Int) (N E : Int) : Prop := IG f N E ∧ (CQ f N 0 ∧ CQ f N 1) ∧ ∀ b, b < 48 → DLa f b → 0 < (hLa f).1 b → ∀ k : Nat, (k : Int) < (hLa f).2.1 b → KSe f b k
set_option maxHeartbeats 1000000 in
/- an image that has all of it is none that is refused -/
theorem m_img0 {N e : Nat} {E : Int} {g : Nat → Int} {T : MS} (hR : Rr T) (hN : N ≤ 48) (hE : 3 ≤ E ∧ E ≤ 6) (BY : ∀ j, j ≤ e → 0 ≤ g j ∧ g j ≤ 255) (he : 19 ≤ e ∧ e ≤ 1599) (h47 : gI T 47 ≠ 0) (h5 : gA T 39 5 = (N : Int)) (h6 : gA T 39 6 = E) (hT : TPr T g e) (hK : ∀ r, m_x12_checked_v2 (e : Int) T = some r → g e = r) (hC : cst g ≤ 999999) (hI : IMR g e N E 0 19) (hF : ∀ f, RRA f g N → HDr f g → CIM f (N : Int) E) : pc (m_x12_isImage ((e : Int) + 1) T) (fun q => q.1 = 1 ∧ RRA (gA q.2 113) g N ∧ HDr (gA q.2 113) g) := by
  have E1 : (e : Int) + 1 - 1 = (e : Int) := by omega
  unfold m_x12_isImage m_x12_isImage_J44
  refine pc_rg (pc_if (fun c => absurd c h47) (fun _ => pc_rg (pc_if (fun c => absurd c (by omega)) (fun _ => pc_rdI (fun _ => ?_)))))
  rw [E1, Int.toNat_natCast, hT e (Nat.le_refl _)]
  refine pc_bn (fun r55 e55 => pc_rg (pc_rg (pc_if (fun _ => pc_bn (fun q61 e61 => ?_)) (fun c => absurd (hK r55 e55) c))))
  obtain ⟨p1, p2, p3, p4, p5⟩ := m_isLaid hN hE.2 BY he.1 h5 h6 hT q61 e61
  have q1 := p2.2 ⟨hC, hI⟩
  have R61 : Rr q61.2 := (wp_det (w_x12_isLaid hR (p0 := (e : Int)) ⟨by omega, by omega⟩ ⟨by omega, by omega⟩ (by rw [h6]; exact hE)) e61).1
  obtain ⟨hA, hH⟩ := p3 q1
  obtain ⟨f, hf⟩ : ∃ f, f = gA q61.2 113 := ⟨_, rfl⟩
  rw [← hf] at hA hH
  obtain ⟨IGf, ⟨C0, C1⟩, KS'⟩ := hF f hA hH
  have n5 : ∀ X : MS, gA X 39 = gA T 39 → gA X 39 5 = (N : Int) := fun X h => by rw [h]; exact h5
  have L92 : ∀ (n x : Nat) (X : MS), 1 ≤ x → gA X 113 = f → gA X 39 = gA T 39 → pc (m_x12_isImage_L92 n (x : Int) X) (fun q => q.1 = 1 ∧ RRA (gA q.2 113) g N ∧ HDr (gA q.2 113) g) := by
    refine fr_ind (fun _ _ _ _ _ => pc_none) (fun n ih x X hx h1 h2 => ?_)
    show pc (m_x12_isImage_b92 (m_x12_isImage_L92 n) (x : Int) X) _
    unfold m_x12_isImage_b92
    refine pc_rg (pc_if (fun _ => pc_some ⟨rfl, by rw [h1]; exact hA, by rw [h1]; exact hH⟩) (fun _ => ?_))
    have L101 : ∀ (m y : Nat) (X : MS), gA X 113 = f → gA X 39 = gA T 39 → pc (m_x12_isImage_L101 (m_x12_isImage_L92 n) m (x : Int) (y : Int) X) (fun q => q.1 = 1 ∧ RRA (gA q.2 113) g N ∧ HDr (gA q.2 113) g) := by
      refine fr_ind (fun _ _ _ _ => pc_none) (fun m ihm y X h1 h2 => ?_)
      show pc (m_x12_isImage_b101 (m_x12_isImage_L92 n) (m_x12_isImage_L101 (m_x12_isImage_L92 n) m) (x : Int) (y : Int) X) _
      unfold m_x12_isImage_b101 m_x12_isImage_J129
      refine pc_bq m_blkMany (fun r10 h10 => ?_)
      rw [h10, n5 X h2]
      have NX : ∀ Y : MS, gA Y 113 = f → gA Y 39 = gA T 39 → pc (m_x12_isImage_L101 (m_x12_isImage_L92 n) m (x : Int) ((y : Int) + 1) Y) (fun q => q.1 = 1 ∧ RRA (gA q.2 113) g N ∧ HDr (gA q.2 113) g) := fun Y y1 y2 => by
        rw [show ((y : Int) + 1) = ((y + 1 : Nat) : Int) by omega]
        exact ihm (y + 1) Y y1 y2
      refine pc_rg (pc_rg (pc_if (fun _ => ?_) (fun c2 => pc_bq m_laid (fun r15 h15 => ?_))))
      · rw [show ((x : Int) + 1) = ((x + 1 : Nat) : Int) by omega]
        exact ih (x + 1) X (by omega) h1 h2
      rw [h1, show (17 + 16 * (y : Int) + 2).toNat = 19 + 16 * y by omega] at h15
      have y48 : y < 48 := by omega
      refine pc_rg (pc_rg (pc_if (fun c3 => pc_bn (fun q21 e21 => ?_)) (fun _ => NX X h1 h2)))
      have lv : (hLa f).1 y = (x : Int) := h15.symm.trans c3
      have dl : DLa f y := IG_lev IGf y48 (by omega)
      have F21 : F_x12_areKeys X q21.2 := fr_x12_areKeys e21
      have y0 := m_keys0 IGf y48 dl h1 q21 e21
      refine pc_rg (pc_if (fun c4 => ?_) (fun _ => NX q21.2 ((F21.2.1 113 (by decide)).trans h1) ((F21.2.1 39 (by decide)).trans h2)))
      exfalso
      obtain ⟨_, k, k1, k2⟩ := y0 c4
      exact k2 (KS' y y48 dl (by omega) k k1)
    exact L101 FU 0 X h1 h2
  have L48 : ∀ (n y : Nat), pc (m_x12_isImage_L48 n (y : Int) q61.2) (fun q => q.1 = 1 ∧ RRA (gA q.2 113) g N ∧ HDr (gA q.2 113) g) := by
    refine fr_ind (fun _ => pc_none) (fun n ih y => ?_)
    show pc (m_x12_isImage_b48 (m_x12_isImage_L48 n) (y : Int) q61.2) _
    unfold m_x12_isImage_b48 m_x12_isImage_J88
    have h39 : gA q61.2 39 = gA T 39 := p4 39 (by decide)
    refine pc_bq m_blkMany (fun r30 h30 => ?_)
    rw [h30, n5 q61.2 h39]
    refine pc_rg (pc_rg (pc_if (fun _ => pc_bn (fun q36 e36 => ?_)) (fun c2 => pc_bn (fun r45 e45 => ?_))))
    · have IG61 : IG (gA q61.2 113) (gA q61.2 39 5) E := by rw [← hf, n5 q61.2 h39]; exact IGf
      obtain ⟨R36, F36, w36⟩ := wp_det (mc_areCounts R61 IG61 (Or.inl rfl)) e36
      rw [← hf, n5 q61.2 h39] at w36
      have f36 : gA q36.2 113 = f := (F36.2.1 113 (by decide)).trans hf.symm
      have g36 : gA q36.2 39 = gA T 39 := (F36.2.1 39 (by decide)).trans h39
      refine pc_rg (pc_if (fun c => ?_) (fun _ => pc_bn (fun q41 e41 => ?_)))
      · exfalso
        rcases w36 with ⟨_, a⟩ | ⟨a, _⟩
        · exact a C0
        · exact absurd (a.symm.trans c) (by decide)
      have IG36 : IG (gA q36.2 113) (gA q36.2 39 5) E := by rw [f36, n5 q36.2 g36]; exact IGf
      obtain ⟨R41, F41, w41⟩ := wp_det (mc_areCounts R36 IG36 (Or.inr rfl)) e41
      rw [f36, n5 q36.2 g36] at w41
      refine pc_rg (pc_if (fun c => ?_) (fun _ => L92 FU 1 q41.2 (Nat.le_refl _) ((F41.2.1 113 (by decide)).trans f36) ((F41.2.1 39 (by decide)).trans g36)))
      exfalso
      rcases w41 with ⟨_, a⟩ | ⟨a, _⟩
      · exact a C1
      · exact absurd (a.symm.trans c) (by decide)
    · have v0 := m_vals0 (b := y) hf.symm (n5 q61.2 h39) FU 0
      have v1 : r45 = 0 → ∃ j : Nat, (j : Int) < f (20 + 16 * y) ∧ ¬ AV1 f (N : Int) y j := by
        unfold m_x12_areValues at e45
        exact v0 r45 e45
      refine pc_rg (pc_if (fun c => ?_) (fun _ => ?_))
      · exfalso
        obtain ⟨j, j1, j2⟩ := v1 c
        exact j2 (IGf.2.2.2.2.1 y (by omega) j j1)
      · rw [show ((y : Int) + 1) = ((y + 1 : Nat) : Int) by omega]
        exact ih (y + 1)
  exact pc_rg (pc_if (fun c => absurd (q1.symm.trans c) (by decide)) (fun _ => L48 FU 0))
set_option maxHeartbeats 1000000 in
/- an image that is taken: what its bytes are -/
theorem m_img1 {N e : Nat} {E : Int} {g : Nat → Int} {T : MS} (hN : N ≤ 48) (hE : 3 ≤ E ∧ E ≤ 6) (BY : ∀ j, j ≤ e → 0 ≤ g j ∧ g j ≤ 255) (h5 : gA T 39 5 = (N : Int)) (h6 : gA T 39 6 = E) (hT : TPr T g e) : pc (m_x12_isImage ((e : Int) + 1) T) (fun q => (q.1 = 0 ∨ q.1 = 1) ∧ (q.1 = 1 → 19 ≤ e ∧ (∀ r, m_x12_checked_v2 (e : Int) T = some r → g e = r) ∧ cst g ≤ 999999 ∧ IMR g e N E 0 19 ∧ RRA (gA q.2 113) g N ∧ HDr (gA q.2 113) g ∧ (IG (gA q.2 113) (N : Int) E → ∀ b, b < 48 → DLa (gA q.2 113) b → 0 < (hLa (gA q.2 113)).1 b → ∀ k : Nat, (k : Int) < (hLa (gA q.2 113)).2.1 b → KSe (gA q.2 113) b k))) := by
  have E1 : (e : Int) + 1 - 1 = (e : Int) := by omega
  have ZZ : ∀ (X : MS) (P : Prop), ((0 : Int) = 0 ∨ (0 : Int) = 1) ∧ ((0 : Int) = 1 → P) := fun X P => ⟨Or.inl rfl, fun w => absurd w (by decide)⟩
  unfold m_x12_isImage m_x12_isImage_J44
  refine pc_rg (pc_if (fun _ => pc_some (ZZ T _)) (fun _ => pc_rg (pc_if (fun _ => pc_some (ZZ T _)) (fun c2 => pc_rdI (fun _ => ?_)))))
  rw [E1, Int.toNat_natCast, hT e (Nat.le_refl _)]
  have he : 19 ≤ e := by omega
  refine pc_bn (fun r55 e55 => pc_rg (pc_rg (pc_if (fun ck => pc_bn (fun q61 e61 => ?_)) (fun _ => pc_some (ZZ T _)))))
  obtain ⟨p1, p2, p3, p4, p5⟩ := m_isLaid hN hE.2 BY he h5 h6 hT q61 e61
  refine pc_rg (pc_if (fun _ => pc_some (ZZ q61.2 _)) (fun c3 => ?_))
  have q1 := p1.resolve_left c3
  obtain ⟨hA, hH⟩ := p3 q1
  have cc := p2.1 q1
  have hk : ∀ r, m_x12_checked_v2 (e : Int) T = some r → g e = r := fun r er => by
    rw [e55] at er
    have := Option.some.inj er
    rw [← this]; exact ck
  -- the rest leaves the bytes as they lie
  obtain ⟨f, hf⟩ : ∃ f, f = gA q61.2 113 := ⟨_, rfl⟩
  rw [← hf] at hA hH
  have FIN : ∀ X : MS, gA X 113 = f → (IG f (N : Int) E → ∀ b, b < 48 → DLa f b → 0 < (hLa f).1 b → ∀ k : Nat, (k : Int) < (hLa f).2.1 b → KSe f b k) → 19 ≤ e ∧ (∀ r, m_x12_checked_v2 (e : Int) T = some r → g e = r) ∧ cst g ≤ 999999 ∧ IMR g e N E 0 19 ∧ RRA (gA X 113) g N ∧ HDr (gA X 113) g ∧ (IG (gA X 113) (N : Int) E → ∀ b, b < 48 → DLa (gA X 113) b → 0 < (hLa (gA X 113)).1 b → ∀ k : Nat, (k : Int) < (hLa (gA X 113)).2.1 b → KSe (gA X 113) b k) := fun X h hk2 => ⟨he, hk, cc.1, cc.2, by rw [h]; exact hA, by rw [h]; exact hH, by rw [h]; exact hk2⟩
  have L92 : ∀ (n x : Nat) (X : MS), 1 ≤ x → gA X 113 = f → gA X 39 = gA T 39 → (IG f (N : Int) E → ∀ b, b < 48 → DLa f b → 0 < (hLa f).1 b → ((hLa f).1 b < (x : Int) ∨ ((hLa f).1 b = (x : Int) ∧ b < 0)) → ∀ k : Nat, (k : Int) < (hLa f).2.1 b → KSe f b k) → pc (m_x12_isImage_L92 n (x : Int) X) (fun q => (q.1 = 0 ∨ q.1 = 1) ∧ (q.1 = 1 → 19 ≤ e ∧ (∀ r, m_x12_checked_v2 (e : Int) T = some r → g e = r) ∧ cst g ≤ 999999 ∧ IMR g e N E 0 19 ∧ RRA (gA q.2 113) g N ∧ HDr (gA q.2 113) g ∧ (IG (gA q.2 113) (N : Int) E → ∀ b, b < 48 → DLa (gA q.2 113) b → 0 < (hLa (gA q.2 113)).1 b → ∀ k : Nat, (k : Int) < (hLa (gA q.2 113)).2.1 b → KSe (gA q.2 113) b k))) := by
    refine fr_ind (fun _ _ _ _ _ _ => pc_none) (fun n ih x X hx h1 h39 hD => ?_)
    show pc (m_x12_isImage_b92 (m_x12_isImage_L92 n) (x : Int) X) _
    unfold m_x12_isImage_b92
    refine pc_rg (pc_if (fun c => pc_some ⟨Or.inr rfl, fun _ => FIN X h1 (fun H b hb hd hl k hk => hD H b hb hd hl (Or.inl (by have t := IG_there H hb hd; omega)) k hk)⟩) (fun _ => ?_))
    have L101 : ∀ (m y : Nat) (X : MS), gA X 113 = f → gA X 39 = gA T 39 → (IG f (N : Int) E → ∀ b, b < 48 → DLa f b → 0 < (hLa f).1 b → ((hLa f).1 b < (x : Int) ∨ ((hLa f).1 b = (x : Int) ∧ b < y)) → ∀ k : Nat, (k : Int) < (hLa f).2.1 b → KSe f b k) → pc (m_x12_isImage_L101 (m_x12_isImage_L92 n) m (x : Int) (y : Int) X) (fun q => (q.1 = 0 ∨ q.1 = 1) ∧ (q.1 = 1 → 19 ≤ e ∧ (∀ r, m_x12_checked_v2 (e : Int) T = some r → g e = r) ∧ cst g ≤ 999999 ∧ IMR g e N E 0 19 ∧ RRA (gA q.2 113) g N ∧ HDr (gA q.2 113) g ∧ (IG (gA q.2 113) (N : Int) E → ∀ b, b < 48 → DLa (gA q.2 113) b → 0 < (hLa (gA q.2 113)).1 b → ∀ k : Nat, (k : Int) < (hLa (gA q.2 113)).2.1 b → KSe (gA q.2 113) b k))) := by
      refine fr_ind (fun _ _ _ _ _ => pc_none) (fun m ihm y X h1 h39 hD => ?_)
      show pc (m_x12_isImage_b101 (m_x12_isImage_L92 n) (m_x12_isImage_L101 (m_x12_isImage_L92 n) m) (x : Int) (y : Int) X) _
      unfold m_x12_isImage_b101 m_x12_isImage_J129
      refine pc_bq m_blkMany (fun r10 h10 => ?_)
      rw [h10, h39, h5]
      refine pc_rg (pc_rg (pc_if (fun c2 => ?_) (fun c2 => pc_bq m_laid (fun r15 h15 => ?_))))
      · rw [show ((x : Int) + 1) = ((x + 1 : Nat) : Int) by omega]
        refine ih (x + 1) X (by omega) h1 h39 (fun H b hb hd hl hlv k hk => hD H b hb hd hl ?_ k hk)
        have t := (IG_there H hb hd).1
        omega
      rw [h1, show (17 + 16 * (y : Int) + 2).toNat = 19 + 16 * y by omega] at h15
      have y48 : y < 48 := by omega
      rw [show ((y : Int) + 1) = ((y + 1 : Nat) : Int) by omega]
      refine pc_rg (pc_rg (pc_if (fun c3 => pc_bn (fun q21 e21 => ?_)) (fun c3 => ihm (y + 1) X h1 h39 (fun H b hb hd hl hlv k hk => hD H b hb hd hl ?_ k hk))))
      rotate_left
      · have : b = y → (hLa f).1 b ≠ (x : Int) := fun z w => c3 (by rw [h15]; rw [z] at w; exact w)
        omega
      have F21 : F_x12_areKeys X q21.2 := fr_x12_areKeys e21
      refine pc_rg (pc_if (fun _ => pc_some (ZZ q21.2 _)) (fun c4 => ihm (y + 1) q21.2 ((F21.2.1 113 (by decide)).trans h1) ((F21.2.1 39 (by decide)).trans h39) (fun H b hb hd hl hlv k hk => ?_)))
      by_cases z : b = y
      · rw [z] at hd hl hk ⊢
        have q1 : q21.1 = 1 := (b_keys q21 e21).resolve_left c4
        exact m_keys1 H y48 hd hl h1 q21 e21 q1 k hk
      · exact hD H b hb hd hl (by omega) k hk
    exact L101 FU 0 X h1 h39 (fun H b hb hd hl hlv k hk => hD H b hb hd hl (by omega) k hk)
  have L48 : ∀ (n : Nat) (y : Int), pc (m_x12_isImage_L48 n y q61.2) (fun q => (q.1 = 0 ∨ q.1 = 1) ∧ (q.1 = 1 → 19 ≤ e ∧ (∀ r, m_x12_checked_v2 (e : Int) T = some r → g e = r) ∧ cst g ≤ 999999 ∧ IMR g e N E 0 19 ∧ RRA (gA q.2 113) g N ∧ HDr (gA q.2 113) g ∧ (IG (gA q.2 113) (N : Int) E → ∀ b, b < 48 → DLa (gA q.2 113) b → 0 < (hLa (gA q.2 113)).1 b → ∀ k : Nat, (k : Int) < (hLa (gA q.2 113)).2.1 b → KSe (gA q.2 113) b k))) := by
    refine fr_ind (fun _ => pc_none) (fun n ih y => ?_)
    show pc (m_x12_isImage_b48 (m_x12_isImage_L48 n) y q61.2) _
    unfold m_x12_isImage_b48 m_x12_isImage_J88
    refine pc_bn (fun r30 _ => pc_rg (pc_rg (pc_if (fun _ => pc_bn (fun q36 e36 => pc_rg (pc_if (fun _ => pc_some (ZZ q36.2 _)) (fun _ => pc_bn (fun q41 e41 => pc_rg (pc_if (fun _ => pc_some (ZZ q41.2 _)) (fun _ => ?_))))))) (fun _ => pc_bn (fun r45 _ => pc_rg (pc_if (fun _ => pc_some (ZZ q61.2 _)) (fun _ => ih _)))))))
    have F36 : F_x12_areCounts q61.2 q36.2 := fr_x12_areCounts e36
    have F41 : F_x12_areCounts q36.2 q41.2 := fr_x12_areCounts e41
    exact L92 FU 1 q41.2 (Nat.le_refl _) ((F41.2.1 113 (by decide)).trans ((F36.2.1 113 (by decide)).trans hf.symm)) ((F41.2.1 39 (by decide)).trans ((F36.2.1 39 (by decide)).trans (p4 39 (by decide)))) (fun H b hb hd hl hlv k hk => by exfalso; omega)
  exact L48 FU 0
/-! ===== all blocks of an image, sound as the class sees it ===== -/
def nfr (S : MS) (x : Nat) : Prop := ¬ (gA S 72 x = 0 ∧ gA S 73 x = 0)
/- what is done when the blocks of lower levels, and the first ones of this, were seen -/
def DNE (S : MS) (N l b : Nat) : Prop := ∀ x, x < N → nfr S x → (gA S 74 x < (l : Int) ∨ (gA S 74 x = (l : Int) ∧ x < b)) → SBkI S x ∧ LHk S S x
/- rows that are read only -/
def KRd (S o : MS) : Prop := (∀ k, k ≠ 18 → k ≠ 19 → k ≠ 20 → gA o k = gA S k) ∧ ∀ i, gI o i = gI S i
set_option maxHeartbeats 250000 in theorem KRd_tr {S o q : MS} (h : KRd S o) (g : KRd o q) : KRd S q := ⟨fun k k1 k2 k3 => (g.1 k k1 k2 k3).trans (h.1 k k1 k2 k3), fun i => (g.2 i).trans (h.2 i)⟩
set_option maxHeartbeats 250000 in theorem KRd_rf (S : MS) : KRd S S := ⟨fun _ _ _ _ => rfl, fun _ => rfl⟩
set_option maxHeartbeats 250000 in theorem nfr_k {S o : MS} {x : Nat} (h : KRd S o) : nfr o x ↔ nfr S x := by
  unfold nfr
  rw [h.1 72 (by decide) (by decide) (by decide), h.1 73 (by decide) (by decide) (by decide)]
/- one more block, on the level l -/
set_option maxHeartbeats 250000 in theorem DNE_step {S o : MS} {N l b : Nat} (hN : ∀ x, x < N → nfr S x → 1 ≤ gA S 75 x) (hbN : b < N) (hb : nfr S b) (D : DNE S N l b) (hl : gA S 74 b = (l : Int)) (hs : SBkI S b) (hh : LHk S o b) (K : KLH S o b) : DNE o N l (b + 1) := by
  obtain ⟨k1, k2, k3⟩ := K
  have e72 := k2 72 (by decide) (by decide)
  have e73 := k2 73 (by decide) (by decide)
  have e74 := k2 74 (by decide) (by decide)
  have e75 := k2 75 (by decide) (by decide)
  have e76 := k2 76 (by decide) (by decide)
  have e77 := k2 77 (by decide) (by decide)
  -- a child lies one level below: it is another block
  have CH : ∀ x k : Nat, CHK S x k → gA S 74 x ≤ (l : Int) → (gA S 77 (6 * x + k)).toNat ≠ b := fun x k c hx z => by
    have w := c.1.2.2
    rw [z, hl] at w
    omega
  have SB : ∀ x, SBkI S x → gA S 74 x ≤ (l : Int) → SBkI o x := fun x s hx => by
    refine ⟨fun k h1 h2 => ?_, fun h1 k h2 => ?_⟩
    · rw [e74] at h1
      rw [e75] at h2
      rw [e76]; exact s.1 k h1 h2
    · rw [e74] at h1
      rw [e75] at h2
      have c := s.2 h1 k h2
      have n := CH x k c hx
      have w := k1 _ n
      unfold CHK at c ⊢
      rw [e72, e73, e74, e75, e76, e77, k3 1420, w.1, w.2]
      exact c
  have LHx : ∀ x, SBkI S x → gA S 74 x ≤ (l : Int) → 1 ≤ gA S 75 x → ∀ o1 : MS, LHk S o1 x → LHk o o1 x := fun x s hx hc o1 h => by
    refine ⟨fun h1 => ?_, fun h1 => ?_⟩
    · rw [e74] at h1
      rw [e75, e76]; exact h.1 h1
    · rw [e74] at h1
      have y := h.2 h1
      have c0 := k1 _ (CH x 0 (s.2 h1 0 (by omega)) hx)
      have c1 := k1 _ (CH x (gA S 75 x - 1).toNat (s.2 h1 _ (by omega)) hx)
      rw [Nat.add_zero] at c0
      rw [e75, e77, c0.1, c1.2]
      exact y
  intro x hx nf hlv
  rw [e74] at hlv
  have nf' : nfr S x := by
    unfold nfr at nf ⊢
    rw [e72, e73] at nf; exact nf
  by_cases z : x = b
  · rw [z]
    exact ⟨SB b hs (by omega), LHx b hs (by omega) (hN b hbN hb) o hh⟩
  · obtain ⟨d1, d2⟩ := D x hx nf' (by omega)
    have w := k1 x z
    refine ⟨SB x d1 (by omega), LHx x d1 (by omega) (hN x hx nf') o ?_⟩
    unfold LHk at d2 ⊢
    rw [w.1, w.2]
    exact d2
set_option maxHeartbeats 250000 in theorem s_free3 {b : Nat} {S : MS} (hb : (b : Int) < gI S 1420) : pc (m_x8_isFree_v2 (b : Int) S) (fun r => (r = 1 ∧ ¬ nfr S b) ∨ (r = 0 ∧ nfr S b)) := by
  refine pc_mono (s_free2 hb) (fun r hr => ?_)
  rcases hr with ⟨a, b, c⟩ | ⟨a, b⟩
  · exact Or.inl ⟨a, fun w => w ⟨b, c⟩⟩
  · exact Or.inr ⟨a, b⟩
/- the whole of it: what a yes says, and what brings one -/
def ALLs (S : MS) (N : Nat) : Prop := (∀ x, x < N → nfr S x → SBkI S x ∧ LHk S S x) ∧ (∀ x : Nat, x < N → gA S 72 x = rf (hJ S) (gA S 72) (gA S 78) (x : Int)) ∧ ∀ x : Nat, x < N → gA S 73 x = rf (hJ S) (gA S 73) (gA S 79) (x : Int)
def HYs (S : MS) (N : Nat) : Prop := (∀ (l b : Nat) (Y : MS), KRd S Y → b < N → nfr S b → gA S 74 b = (l : Int) → DNE Y N l b → SBkI Y b) ∧ (∀ x : Nat, x < N → gA S 72 x = rf (hJ S) (gA S 72) (gA S 78) (x : Int)) ∧ ∀ x : Nat, x < N → gA S 73 x = rf (hJ S) (gA S 73) (gA S 79) (x : Int)
set_option maxHeartbeats 250000 in theorem hJ_k {S o : MS} (h : KRd S o) : hJ o = hJ S := by
  unfold hJ
  rw [h.1 74 (by decide) (by decide) (by decide), h.1 75 (by decide) (by decide) (by decide), h.1 77 (by decide) (by decide) (by decide)]
set_option maxHeartbeats 250000 in theorem all_20 {S o : MS} {N x : Nat} (k : ∀ j, j ≠ 20 → gA o j = gA S j) (i : ∀ j, gI o j = gI S j) (h : SBkI S x ∧ LHk S S x) : SBkI o x ∧ LHk o o x := by
  unfold SBkI LHk CHK at h ⊢
  rw [k 18 (by decide), k 19 (by decide), k 72 (by decide), k 73 (by decide), k 74 (by decide), k 75 (by decide), k 76 (by decide), k 77 (by decide), i 1420]
  exact h
def PSn (S0 : MS) (N : Nat) (q : Int × MS) : Prop := (q.1 = 0 ∨ q.1 = 1) ∧ KRd S0 q.2 ∧ (q.1 = 1 → ALLs q.2 N) ∧ (HYs S0 N → q.1 = 1)
set_option maxHeartbeats 250000 in theorem PSn_0 {S0 X : MS} {N : Nat} (h : KRd S0 X) (n : ¬ HYs S0 N) : PSn S0 N (0, X) := ⟨Or.inl rfl, h, fun w => absurd w (show ¬ ((0 : Int) = 1) by decide), fun w => absurd w n⟩
set_option maxHeartbeats 2000000 in
theorem s_isSound {S0 : MS} {N : Nat} (hR : Rg S0) (hN : N ≤ 48) (h20 : gI S0 1420 = (N : Int)) (hc : ∀ x, x < N → nfr S0 x → (1 ≤ gA S0 75 x ∧ gA S0 75 x ≤ 6) ∧ (0 ≤ gA S0 74 x ∧ gA S0 74 x < 48)) (hz : ∀ p, p < 48 → N ≤ p → gA S0 72 p = 0 ∧ gA S0 73 p = 0) (hb0 : ∀ p, p < N → 0 ≤ gA S0 72 p ∧ 0 ≤ gA S0 73 p) (hr : ∀ v, v < 8 → gA S0 78 v < (N : Int) ∧ gA S0 79 v < (N : Int)) : pc (m_x4_isSound S0) (PSn S0 N) := by
  have ar : ∀ {S : MS}, KRd S0 S → ∀ k, 72 ≤ k → k ≤ 79 → gA S k = gA S0 k := fun K k h1 h2 => K.1 k (by omega) (by omega) (by omega)
  have L2 : ∀ (n l : Nat) (S : MS), l ≤ 48 → Rg S → KRd S0 S → DNE S N l 0 → pc (m_x4_isSound_L2 n (l : Int) S) (PSn S0 N) := by
    refine fr_ind (fun _ _ _ _ _ _ => pc_none) (fun n ih l S hl hRS K D => ?_)
    show pc (m_x4_isSound_b2 (m_x4_isSound_L2 n) (l : Int) S) _
    unfold m_x4_isSound_b2 m_x4_isSound_J95 m_x4_isSound_J96
    refine pc_rg (pc_if (fun c => pc_bn (fun q33 e33 => ?_)) (fun c => ?_))
    · have l48 : l = 48 := by omega
      rw [l48] at D
      have all : ∀ x, x < N → nfr S x → SBkI S x ∧ LHk S S x := fun x hx nf => D x hx nf (Or.inl (by
        have y := (hc x hx ((nfr_k K).1 nf)).2
        rw [ar K 74 (by decide) (by decide)]; omega))
      have HYc : ∀ (c r : Nat), (c = 72 ∨ c = 73) → (r = c + 6) → HY S c r := fun c r h1 h2 => by
        have ec : gA S c = gA S0 c := ar K c (by omega) (by omega)
        have er : gA S r = gA S0 r := ar K r (by omega) (by omega)
        unfold HY
        rw [K.2 1420, h20, ec, er]
        refine ⟨fun p hp q => ?_, fun p hp hcp hlp => ?_, fun v hv => ?_⟩
        · have y := hz p hp (by omega)
          rcases h1 with z | z
          · rw [z]; exact y.1
          · rw [z]; exact y.2
        · have pN : p < N := by
            refine Classical.byContradiction (fun w => ?_)
            have y := hz p hp (by omega)
            rcases h1 with z | z
            · rw [z, y.1] at hcp; omega
            · rw [z, y.2] at hcp; omega
          have nf0 : nfr S0 p := fun w => by
            rcases h1 with z | z
            · rw [z, w.1] at hcp; omega
            · rw [z, w.2] at hcp; omega
          have nf : nfr S p := (nfr_k K).2 nf0
          have cc := (hc p pN nf0).1
          have e75 : gA S 75 = gA S0 75 := ar K 75 (by decide) (by decide)
          refine ⟨by rw [e75]; omega, fun k hk => ?_⟩
          have y := ((all p pN nf).1.2 (by omega) k hk).1.1
          rw [K.2 1420, h20] at y
          exact y
        · have y := hr v hv
          rcases h1 with z | z
          · rw [h2, z]; exact y.1
          · rw [h2, z]; exact y.2
      have hJe := hJ_k K
      obtain ⟨R33, w33⟩ := wp_det (wc_refsAre hRS (HYc 72 78 (Or.inl rfl) rfl)) e33
      rw [K.2 1420, h20, hJe, ar K 72 (by decide) (by decide), ar K 78 (by decide) (by decide)] at w33
      have F33 : F_x4_refsAre S q33.2 := fr_x4_refsAre e33
      have K33 : KRd S0 q33.2 := KRd_tr K ⟨fun k _ _ k3 => F33.2.1 k (by simp; omega), fun i => F33.1 i (by simp)⟩
      refine pc_rg (pc_if (fun c2 => pc_bo (pc_some (PSn_0 K33 (fun w => ?_)))) (fun c2 => pc_bn (fun q38 e38 => ?_)))
      · rcases w33 with ⟨_, x, x1, x2⟩ | ⟨a, _⟩
        · exact x2 (w.2.1 x (by omega))
        · exact absurd (a.symm.trans c2) (by decide)
      have HY33 : HY q33.2 73 79 := by
        have y := HYc 73 79 (Or.inr rfl) rfl
        unfold HY at y ⊢
        rw [F33.2.1 73 (by decide), F33.2.1 74 (by decide), F33.2.1 75 (by decide), F33.2.1 77 (by decide), F33.2.1 79 (by decide), F33.1 1420 (by simp)]
        exact y
      obtain ⟨R38, w38⟩ := wp_det (wc_refsAre_v2 R33 HY33) e38
      rw [K33.2 1420, h20, hJ_k K33, ar K33 73 (by decide) (by decide), ar K33 79 (by decide) (by decide)] at w38
      have F38 : F_x4_refsAre_v2 q33.2 q38.2 := fr_x4_refsAre_v2 e38
      have K38 : KRd S0 q38.2 := KRd_tr K33 ⟨fun k _ _ k3 => F38.2.1 k (by simp; omega), fun i => F38.1 i (by simp)⟩
      refine pc_rg (pc_if (fun c3 => pc_bo (pc_some (PSn_0 K38 (fun w => ?_)))) (fun c3 => pc_bo (pc_some ⟨Or.inr rfl, K38, fun _ => ⟨fun x hx nf => ?_, fun x hx => ?_, fun x hx => ?_⟩, fun _ => rfl⟩)))
      · rcases w38 with ⟨_, x, x1, x2⟩ | ⟨a, _⟩
        · exact x2 (w.2.2 x (by omega))
        · exact absurd (a.symm.trans c3) (by decide)
      · exact all_20 (N := N) (fun j hj => (F38.2.1 j (by simp; omega)).trans (F33.2.1 j (by simp; omega))) (fun j => (F38.1 j (by simp)).trans (F33.1 j (by simp))) (all x hx ((nfr_k K).2 ((nfr_k K38).1 nf)))
      · show gA q38.2 72 x = rf (hJ q38.2) (gA q38.2 72) (gA q38.2 78) (x : Int)
        rw [hJ_k K38, ar K38 72 (by decide) (by decide), ar K38 78 (by decide) (by decide)]
        rcases w33 with ⟨a, _⟩ | ⟨_, a⟩
        · exact absurd a c2
        · exact a x (by omega)
      · show gA q38.2 73 x = rf (hJ q38.2) (gA q38.2 73) (gA q38.2 79) (x : Int)
        rw [hJ_k K38, ar K38 73 (by decide) (by decide), ar K38 79 (by decide) (by decide)]
        rcases w38 with ⟨a, _⟩ | ⟨_, a⟩
        · exact absurd a c3
        · exact a x (by omega)
    · have L10 : ∀ (m b : Nat) (S : MS), b ≤ N → Rg S → KRd S0 S → DNE S N l b → pc (m_x4_isSound_L10 (m_x4_isSound_L2 n) m (l : Int) (b : Int) S) (PSn S0 N) := by
        refine fr_ind (fun _ _ _ _ _ _ => pc_none) (fun m ihm b S hb hRS K D => ?_)
        show pc (m_x4_isSound_b10 (m_x4_isSound_L2 n) (m_x4_isSound_L10 (m_x4_isSound_L2 n) m) (l : Int) (b : Int) S) _
        unfold m_x4_isSound_b10 m_x4_isSound_J47
        rw [K.2 1420, h20]
        refine pc_rg (pc_rg (pc_if (fun d => ?_) (fun d => ?_)))
        · rw [show ((l : Int) + 1) = ((l + 1 : Nat) : Int) by omega]
          exact ih (l + 1) S (by omega) hRS K (fun x hx nf hlv => D x hx nf (by omega))
        have bN : b < N := by omega
        have tb : ((b : Nat) : Int).toNat = b := Int.toNat_natCast _
        have NX : ∀ Y : MS, Rg Y → KRd S0 Y → DNE Y N l (b + 1) → pc (m_x4_isSound_L10 (m_x4_isSound_L2 n) m (l : Int) ((b : Int) + 1) Y) (PSn S0 N) := fun Y y1 y2 y3 => by
          rw [show ((b : Int) + 1) = ((b + 1 : Nat) : Int) by omega]
          exact ihm (b + 1) Y (by omega) y1 y2 y3
        refine pc_bq (s_free3 (by rw [K.2 1420, h20]; omega)) (fun r17 h17 => pc_rg (pc_if (fun c2 => pc_rdI (fun _ => ?_)) (fun c2 => NX S hRS K (fun x hx nf hlv => ?_))))
        rotate_left
        · rcases h17 with ⟨_, a⟩ | ⟨a, _⟩
          · refine D x hx nf ?_
            have : x ≠ b := fun z => a (z ▸ nf)
            omega
          · exact absurd a c2
        have nf : nfr S b := by
          rcases h17 with ⟨a, _⟩ | ⟨_, a⟩
          · exact absurd (a.symm.trans c2) (by decide)
          · exact a
        have nf0 := (nfr_k K).1 nf
        rw [tb]
        refine pc_rg (pc_rg (pc_if (fun c3 => pc_bn (fun q26 e26 => ?_)) (fun c3 => NX S hRS K (fun x hx nf hlv => D x hx nf ?_))))
        rotate_left
        · have : x = b → gA S 74 x ≠ (l : Int) := fun z => by rw [z]; exact c3
          omega
        have e75 : gA S 75 = gA S0 75 := ar K 75 (by decide) (by decide)
        have cc := (hc b bN nf0).1
        have F26 : F_x4_isSoundBlock S q26.2 := fr_x4_isSoundBlock e26
        have K26 : KRd S0 q26.2 := KRd_tr K ⟨fun k k1 k2 _ => F26.2.1 k (by simp; omega), fun i => F26.1 i (by simp)⟩
        have R26 := (wp_det (w_x4_isSoundBlock hRS (p1 := (b : Int)) ⟨by omega, by omega⟩ (by rw [tb, e75]; exact cc)) e26).1
        have Y := s_sblock (b := b) (S := S) (by rw [e75]; exact cc) (fun _ k _ w z => by rw [z] at w; omega) q26 e26
        rcases Y with ⟨y1, y2, y3, y4⟩ | ⟨y1, y2⟩
        · refine pc_rg (pc_if (fun c4 => absurd (y1.symm.trans c4) (by decide)) (fun _ => NX q26.2 R26 K26 (DNE_step (fun x hx nf => ?_) bN nf D c3 y2 y3 y4)))
          rw [e75]
          exact (hc x hx ((nfr_k K).1 nf)).1.1
        · refine pc_rg (pc_if (fun _ => pc_some (PSn_0 K26 (fun w => y2 (w.1 l b S K bN nf0 (by rw [← ar K 74 (by decide) (by decide)]; exact c3) D)))) (fun c4 => absurd y1 c4))
      exact L10 FU 0 S (by omega) hRS K D
  unfold m_x4_isSound
  refine L2 FU 0 S0 (by omega) hR (KRd_rf S0) (fun x hx nf hlv => ?_)
  have y := (hc x hx nf).2.1
  omega
/-! ===== an image, as the class judges it ===== -/
set_option maxHeartbeats 250000 in theorem y_seal {S T : MS} {e : Nat} (he : e ≤ 1599) (ht : ∀ j, j < e → gA S 4 j = gA T 0 j) : pc (m_x4_seal_v2 (e : Int) S) (fun r => pc (m_x12_checked_v2 (e : Int) T) (fun r2 => r = r2)) := by
  have L : ∀ (n m : Nat) (acc i : Int), 0 ≤ i → pc (m_x4_seal_v2_L6 S n (e : Int) acc i) (fun r => pc (m_x12_checked_v2_L6 T m (e : Int) acc i) (fun r2 => r = r2)) := by
    refine fr_ind (fun _ _ _ _ => pc_none) (fun n ih m acc i hi => ?_)
    cases m with
    | zero => exact fun q _ => pc_none
    | succ m =>
      show pc (m_x4_seal_v2_b6 S (m_x4_seal_v2_L6 S n) (e : Int) acc i) _
      unfold m_x4_seal_v2_b6 m_x4_seal_v2_J35
      refine pc_rg (pc_rg (pc_if (fun c => pc_some ?_) (fun c => pc_rg (pc_if (fun c2 => absurd c2 (by omega)) (fun _ => pc_rdI (fun _ => pc_dv (fun q eq => ?_)))))))
      · show pc (m_x12_checked_v2_b6 T (m_x12_checked_v2_L6 T m) (e : Int) acc i) _
        unfold m_x12_checked_v2_b6
        exact pc_rg (pc_rg (pc_if (fun _ => pc_some rfl) (fun d => absurd c d)))
      · show pc (m_x12_checked_v2_b6 T (m_x12_checked_v2_L6 T m) (e : Int) acc i) _
        unfold m_x12_checked_v2_b6
        refine pc_rg (pc_rg (pc_if (fun d => absurd d c) (fun _ => pc_rdI (fun _ => pc_dv ?_))))
        rw [← ht i.toNat (by omega)]
        exact ih m _ (i + 1) (by omega) q eq
  unfold m_x4_seal_v2 m_x12_checked_v2
  exact L FU FU 157 0 (Int.le_refl 0)
/- the rows that the class has read -/
def RWs (g : Nat → Int) (N : Nat) (X : MS) : Prop := (∀ x, x < N → CRB X g (PO g x) x) ∧ HRT X g 8 ∧ (gI X 1421 = cst g ∧ gI X 1420 = (N : Int)) ∧ Rg X ∧ ∀ x, N ≤ x → x < 48 → gA X 72 x = 0 ∧ gA X 73 x = 0
def CLc (g : Nat → Int) (e N : Nat) (E : Int) (S : MS) : Prop := 19 ≤ e ∧ (∀ r, m_x4_seal_v2 (e : Int) S = some r → g e = r) ∧ cst g ≤ 999999 ∧ HLT g (N : Int) 8 ∧ IMC g e N E 0 19
set_option maxHeartbeats 1000000 in
theorem s_load {g : Nat → Int} {e N : Nat} {E : Int} {S : MS} (hR : Rg S) (hN : N ≤ 48) (hE : 3 ≤ E ∧ E ≤ 6) (BY : ∀ j, j ≤ e → 0 ≤ g j ∧ g j ≤ 255) (hT : gA S 4 = g) (h61 : gI S 61 = (e : Int) + 1) : pc (m_x4_load (N : Int) E S) (fun q => (q.1 = 0 ∨ q.1 = 1) ∧ (q.1 = 1 → CLc g e N E S ∧ ∃ (X : MS) (q' : Int × MS), m_x4_isSound X = some q' ∧ RWs g N X ∧ q'.1 ≠ 0 ∧ q.2 = q'.2) ∧ (CLc g e N E S → ∃ (X : MS) (q' : Int × MS), m_x4_isSound X = some q' ∧ RWs g N X ∧ (q'.1 ≠ 0 → q.1 = 1))) := by
  have E1 : gI S 61 - 1 = (e : Int) := by omega
  have F0 : ∀ (X : MS), ¬ CLc g e N E S → ((0 : Int) = 0 ∨ (0 : Int) = 1) ∧ ((0 : Int) = 1 → CLc g e N E S ∧ ∃ (X' : MS) (q' : Int × MS), m_x4_isSound X' = some q' ∧ RWs g N X' ∧ q'.1 ≠ 0 ∧ X = q'.2) ∧ (CLc g e N E S → ∃ (X' : MS) (q' : Int × MS), m_x4_isSound X' = some q' ∧ RWs g N X' ∧ (q'.1 ≠ 0 → (0 : Int) = 1)) := fun X w => ⟨Or.inl rfl, fun v => absurd v (by decide), fun v => absurd v w⟩
  unfold m_x4_load m_x4_load_J33
  rw [E1]
  refine pc_rg (pc_if (fun c => pc_some (F0 S (fun w => by have := w.1; omega))) (fun c => pc_bq s_at (fun r30 h30 => pc_bn (fun r32 e32 => pc_rg (pc_rg (pc_if (fun c2 => ?_) (fun c2 => pc_some (F0 S (fun w => c2 ?_)))))))))
  rotate_left
  · rw [hT, h61, Int.toNat_natCast] at h30
    have y := w.2.1 r32 e32
    rcases h30 with ⟨_, a⟩ | ⟨a, _⟩
    · rw [a]; exact y
    · exfalso; omega
  rw [hT, h61, Int.toNat_natCast] at h30
  have r30e : r30 = g e := by
    rcases h30 with ⟨_, a⟩ | ⟨a, _⟩
    · exact a
    · exfalso; omega
  have hk : ∀ r, m_x4_seal_v2 (e : Int) S = some r → g e = r := fun r er => by
    rw [e32] at er
    have := Option.some.inj er
    rw [← this, ← r30e]; exact c2
  have he : 19 ≤ e := by omega
  refine pc_bn (fun s37 e37 => pc_stn (fun s38 e38 => pc_bn (fun q41 e41 => ?_)))
  obtain ⟨R37, n37, z37⟩ := wp_det (w_clear hR (p0 := (N : Int)) ⟨by omega, by omega⟩) e37
  have F37 : F_x8_clear S s37 := fr_x8_clear e37
  have T38 : TPc s38 g e := ⟨((q_Ia e38).trans (F37.2.1 4 (by decide))).trans hT, ((q_Ii e38 (by decide)).trans (F37.1 61 (by decide))).trans h61⟩
  have n38 : gI s38 1420 = (N : Int) := (q_Ii e38 (by decide)).trans n37
  have R38 : Rg s38 := e38 ▸ Rg.uI R37 (by show (0 : Int) ≤ 0 ∧ (0 : Int) ≤ 100000; omega)
  obtain ⟨a1, a2, a3, a4, a5, a6, a7, a8⟩ := s_head he n38 T38 (q_II e38) q41 e41
  have W41 := wp_det (w_x4_loadHead R38 (q_II e38)) e41
  refine pc_rg (pc_if (fun c3 => pc_some (F0 q41.2 (fun w => ?_))) (fun c3 => ?_))
  · have y := a4.2 ⟨w.2.2.1, w.2.2.2.1⟩
    omega
  have q1 : q41.1 = 1 := a1.resolve_left c3
  have hd := a4.1 q1
  have L := s_L59 hN hE BY FU 0 19 q41.2 (by omega) (by rw [a8 1420 (by decide) (by decide)]; exact n38) a2 a3 (fun _ => ⟨rfl, fun x hx => absurd hx (by omega)⟩) W41.1 (by omega) (fun x _ x2 => by
    have y := z37 x x2
    rw [a7 72 (by decide) (by decide), a7 73 (by decide) (by decide), a7 75 (by decide) (by decide), (q_Ia e38 : gA s38 72 = _), (q_Ia e38 : gA s38 73 = _), (q_Ia e38 : gA s38 75 = _)]
    exact ⟨y.1, y.2.1, y.2.2.2⟩)
  refine pc_mono L (fun q hq => ?_)
  have ROW : ∀ (X : MS) (x2 : ∀ x, x < N → CRB X g (PO g x) x) (x3 : FRX q41.2 X) (x6 : Rg X) (x7 : ∀ x, N ≤ x → x < 48 → gA X 72 x = 0 ∧ gA X 73 x = 0), RWs g N X := fun X x2 x3 x6 x7 => by
    refine ⟨x2, fun v hv => ?_, ⟨by rw [x3.2 1421 (by decide)]; exact a6, by rw [x3.2 1420 (by decide), a8 1420 (by decide) (by decide)]; exact n38⟩, x6, x7⟩
    rw [x3.1 78 (by decide), x3.1 79 (by decide)]; exact a5 v hv
  by_cases w : IMC g e N E 0 19
  · obtain ⟨X, q', x1, x2, x3, x4, x5, x6, x7⟩ := hq.1 w
    refine ⟨?_, fun v => ⟨⟨he, hk, hd.1, hd.2, w⟩, X, q', x1, ROW X x2 x3 x6 x7, fun z => ?_, x5⟩, fun _ => ⟨X, q', x1, ROW X x2 x3 x6 x7, fun z => by rw [x4, if_neg z]⟩⟩
    · rw [x4]; split
      · exact Or.inl rfl
      · exact Or.inr rfl
    · rw [x4, if_pos z] at v
      exact absurd v (by decide)
  · have z := hq.2 w
    exact ⟨Or.inl z, fun v => absurd (z.symm.trans v) (by decide), fun v => absurd v.2.2.2.2 w⟩
/-! ===== the least and the greatest key under each block of an image ===== -/
def RLY (Y : MS) (f : Nat → Int) (N : Nat) : Prop := (∀ x, x < N → DLa f x → gA Y 74 x = (hLa f).1 x ∧ gA Y 75 x = (hLa f).2.1 x ∧ ∀ k : Nat, (k : Int) < (hLa f).2.1 x → gA Y 76 (6 * x + k) = kLa f x k ∧ gA Y 77 (6 * x + k) = (hLa f).2.2 x k) ∧ (∀ x, x < N → (nfr Y x ↔ DLa f x)) ∧ gI Y 1420 = (N : Int)
set_option maxHeartbeats 250000 in theorem RLY_k {X Y : MS} {f : Nat → Int} {N : Nat} (h : RLY X f N) (K : KRd X Y) : RLY Y f N := by
  obtain ⟨h1, h2, h3⟩ := h
  refine ⟨?_, fun x hx => (nfr_k K).trans (h2 x hx), (K.2 1420).trans h3⟩
  rw [K.1 74 (by decide) (by decide) (by decide), K.1 75 (by decide) (by decide) (by decide), K.1 76 (by decide) (by decide) (by decide), K.1 77 (by decide) (by decide) (by decide)]
  exact h1
set_option maxHeartbeats 250000 in theorem mono_step {u : Nat → Int} {c : Int} (h : ∀ k : Nat, (k : Int) + 1 < c → u k ≤ u (k + 1)) {i : Nat} : ∀ d : Nat, ((i + d : Nat) : Int) < c → u i ≤ u (i + d) := by
  intro d
  induction d with
  | zero => intro _; exact Int.le_refl _
  | succ d ih =>
    intro hj
    have a := ih (by omega)
    have b := h (i + d) (by omega)
    rw [show i + (d + 1) = i + d + 1 by omega]
    exact Int.le_trans a b
set_option maxHeartbeats 250000 in theorem mono_all {u : Nat → Int} {c : Int} (h : ∀ k : Nat, (k : Int) + 1 < c → u k ≤ u (k + 1)) {i j : Nat} (hij : i ≤ j) (hj : (j : Int) < c) : u i ≤ u j := by
  obtain ⟨d, hd⟩ : ∃ d, j = i + d := ⟨j - i, by omega⟩
  rw [hd] at hj ⊢
  exact mono_step h d hj
/- all blocks up to the level L are seen -/
def SNL (Y : MS) (N : Nat) (L : Int) : Prop := ∀ x, x < N → nfr Y x → gA Y 74 x ≤ L → SBkI Y x ∧ LHk Y Y x
def ITV (Y : MS) (f : Nat → Int) (L x : Nat) : Prop := Ukey f L x (gA Y 18 x) ∧ Ukey f L x (gA Y 19 x) ∧ ∀ z, Ukey f L x z → gA Y 18 x ≤ z ∧ z ≤ gA Y 19 x
/- what the children of a seen block are -/
set_option maxHeartbeats 250000 in theorem SB_kid {f : Nat → Int} {E : Int} {N : Nat} {Y : MS} (H : IG f (N : Int) E) (R : RLY Y f N) {x k : Nat} (hx : x < N) (hd : DLa f x) (hs : SBkI Y x) (hl : 0 < (hLa f).1 x) (hk : (k : Int) < (hLa f).2.1 x) : ∃ y : Nat, (hLa f).2.2 x k = (y : Int) ∧ y < N ∧ nfr Y y ∧ DLa f y ∧ (hLa f).1 y = (hLa f).1 x - 1 ∧ gA Y 74 y = gA Y 74 x - 1 ∧ (0 < k → kLa f x k ≤ gA Y 18 y) ∧ ((k : Int) + 1 < (hLa f).2.1 x → gA Y 19 y < kLa f x (k + 1)) := by
  have n48 := H.1
  obtain ⟨r1, r2, r3⟩ := R.1 x hx hd
  have kd := IG_kid (k := k) H (by omega) hd hl hk
  obtain ⟨y, hy⟩ : ∃ y : Nat, (hLa f).2.2 x k = (y : Int) := ⟨((hLa f).2.2 x k).toNat, by omega⟩
  rw [hy, Int.toNat_natCast] at kd
  have yN : y < N := by omega
  have c := hs.2 (by rw [r1]; omega) k (by rw [r2]; exact hk)
  unfold CHK at c
  rw [(r3 k hk).1, (r3 k hk).2, hy, Int.toNat_natCast] at c
  refine ⟨y, hy, yN, (R.2.1 y yN).2 kd.2.2, kd.2.2, kd.2.1, c.1.2.2, c.2.1, fun h => ?_⟩
  have w := c.2.2 (by rw [r2]; exact h)
  rw [(r3 (k + 1) (by omega)).1] at w
  exact w
set_option maxHeartbeats 250000 in theorem INT_L {f : Nat → Int} {E : Int} {N : Nat} {Y : MS} (H : IG f (N : Int) E) (R : RLY Y f N) : ∀ (L : Nat), SNL Y N (L : Int) → ∀ x, x < N → DLa f x → (hLa f).1 x = (L : Int) → ITV Y f L x := by
  have n48 := H.1
  intro L
  induction L with
  | zero =>
    intro S x hx hd hl
    have t := IG_there H (by omega) hd
    obtain ⟨r1, r2, r3⟩ := R.1 x hx hd
    obtain ⟨s1, s2⟩ := S x hx ((R.2.1 x hx).2 hd) (by rw [r1, hl]; exact Int.le_refl _)
    have z0 : gA Y 74 x = 0 := by rw [r1, hl]; rfl
    obtain ⟨l1, l2⟩ := s2.1 z0
    obtain ⟨c, hc⟩ : ∃ c : Nat, (hLa f).2.1 x = ((c + 1 : Nat) : Int) := ⟨((hLa f).2.1 x - 1).toNat, by omega⟩
    have e0 := (r3 0 (by omega)).1
    rw [Nat.add_zero] at e0
    rw [e0] at l1
    rw [r2, show ((hLa f).2.1 x - 1).toNat = c by omega, (r3 c (by omega)).1] at l2
    have up : ∀ k : Nat, (k : Int) + 1 < (hLa f).2.1 x → kLa f x k ≤ kLa f x (k + 1) := fun k hk => by
      have w := s1.1 k (Or.inl z0) (by rw [r2]; exact hk)
      rw [(r3 k (by omega)).1, (r3 (k + 1) (by omega)).1] at w
      omega
    refine ⟨⟨0, by omega, l1.symm⟩, ⟨c, by omega, l2.symm⟩, fun z hz => ?_⟩
    obtain ⟨k, k1, k2⟩ := hz
    have a := mono_all up (i := 0) (j := k) (by omega) k1
    have b := mono_all up (i := k) (j := c) (by omega) (by omega)
    rw [l1, l2, ← k2]
    exact ⟨a, b⟩
  | succ L ih =>
    intro S x hx hd hl
    have t := IG_there H (by omega) hd
    obtain ⟨r1, r2, r3⟩ := R.1 x hx hd
    obtain ⟨s1, s2⟩ := S x hx ((R.2.1 x hx).2 hd) (by rw [r1, hl]; exact Int.le_refl _)
    have hl0 : 0 < (hLa f).1 x := by omega
    have S' : SNL Y N (L : Int) := fun y hy nf hlv => S y hy nf (by omega)
    obtain ⟨l1, l2⟩ := s2.2 (by rw [r1]; omega)
    obtain ⟨c, hc⟩ : ∃ c : Nat, (hLa f).2.1 x = ((c + 1 : Nat) : Int) := ⟨((hLa f).2.1 x - 1).toNat, by omega⟩
    have e0 := (r3 0 (by omega)).2
    rw [Nat.add_zero] at e0
    rw [e0] at l1
    rw [r2, show ((hLa f).2.1 x - 1).toNat = c by omega, (r3 c (by omega)).2] at l2
    -- each child's interval
    have K : ∀ k : Nat, (k : Int) < (hLa f).2.1 x → ITV Y f L ((hLa f).2.2 x k).toNat ∧ (0 < k → kLa f x k ≤ gA Y 18 ((hLa f).2.2 x k).toNat) ∧ ((k : Int) + 1 < (hLa f).2.1 x → gA Y 19 ((hLa f).2.2 x k).toNat < kLa f x (k + 1)) := fun k hk => by
      obtain ⟨y, y1, y2, y3, y4, y5, y6, y7, y8⟩ := SB_kid H R hx hd s1 hl0 hk
      rw [y1, Int.toNat_natCast]
      exact ⟨ih S' y y2 y4 (by omega), y7, y8⟩
    have le : ∀ k : Nat, (k : Int) < (hLa f).2.1 x → gA Y 18 ((hLa f).2.2 x k).toNat ≤ gA Y 19 ((hLa f).2.2 x k).toNat := fun k hk => ((K k hk).1.2.2 _ (K k hk).1.1).2
    have st : ∀ k : Nat, (k : Int) + 1 < (hLa f).2.1 x → gA Y 19 ((hLa f).2.2 x k).toNat < gA Y 18 ((hLa f).2.2 x (k + 1)).toNat := fun k hk => by
      have a := (K k (by omega)).2.2 hk
      have b := (K (k + 1) (by omega)).2.1 (by omega)
      omega
    have up1 : ∀ k : Nat, (k : Int) + 1 < (hLa f).2.1 x → gA Y 18 ((hLa f).2.2 x k).toNat ≤ gA Y 18 ((hLa f).2.2 x (k + 1)).toNat := fun k hk => by
      have a := st k hk
      have b := le k (by omega)
      omega
    have up2 : ∀ k : Nat, (k : Int) + 1 < (hLa f).2.1 x → gA Y 19 ((hLa f).2.2 x k).toNat ≤ gA Y 19 ((hLa f).2.2 x (k + 1)).toNat := fun k hk => by
      have a := st k hk
      have b := le (k + 1) (by omega)
      omega
    refine ⟨⟨0, by omega, ?_⟩, ⟨c, by omega, ?_⟩, fun z hz => ?_⟩
    · rw [l1]; exact (K 0 (by omega)).1.1
    · rw [l2]; exact (K c (by omega)).1.2.1
    · obtain ⟨k, k1, k2⟩ := hz
      have w := (K k k1).1.2.2 z k2
      have a := mono_all (u := fun k => gA Y 18 ((hLa f).2.2 x k).toNat) up1 (i := 0) (j := k) (by omega) k1
      have b := mono_all (u := fun k => gA Y 19 ((hLa f).2.2 x k).toNat) up2 (i := k) (j := c) (by omega) (by omega)
      (try dsimp only at a b)
      rw [l1, l2]
      omega
/- an image of the reference's is sound for the class -/
set_option maxHeartbeats 250000 in theorem HYs_of {f : Nat → Int} {E : Int} {N : Nat} {X : MS} (C : CIM f (N : Int) E) (R : RLY X f N) (c1 : ∀ x : Nat, x < N → gA X 72 x = rf (hJ X) (gA X 72) (gA X 78) (x : Int)) (c2 : ∀ x : Nat, x < N → gA X 73 x = rf (hJ X) (gA X 73) (gA X 79) (x : Int)) : HYs X N := by
  obtain ⟨H, _, KS'⟩ := C
  have n48 := H.1
  refine ⟨fun l b Y K hb nf hl D => ?_, c1, c2⟩
  have RY := RLY_k R K
  have hd : DLa f b := (R.2.1 b hb).1 nf
  obtain ⟨r1, r2, r3⟩ := RY.1 b hb hd
  have e74 : gA Y 74 = gA X 74 := K.1 74 (by decide) (by decide) (by decide)
  have hlv : (hLa f).1 b = (l : Int) := by rw [← r1, e74]; exact hl
  have lb : b < 48 := by omega
  have t := IG_there H lb hd
  have B := H.2.2.1 b lb
  refine ⟨fun k h1 h2 => ?_, fun h1 k h2 => ?_⟩
  · rw [r1] at h1
    rw [r2] at h2
    rw [(r3 k (by omega)).1, (r3 (k + 1) (by omega)).1]
    have k6 : k + 1 < 6 := by have := H.2.1; omega
    rcases B.2 with q | q
    · exact absurd q.1 hd
    · have w := q.2.2.2.2.2 k h2 (by
        rcases h1 with z | z
        · exact Or.inr z
        · exact Or.inl z)
      show (if k < 6 then f (21 + 16 * b + k) else 0) < if k + 1 < 6 then f (21 + 16 * b + (k + 1)) else 0
      rw [if_pos (by omega), if_pos k6]; exact w
  · rw [r1] at h1
    rw [r2] at h2
    have hl0 : 0 < (hLa f).1 b := by omega
    have kd := IG_kid (k := k) H lb hd hl0 h2
    obtain ⟨y, hy⟩ : ∃ y : Nat, (hLa f).2.2 b k = (y : Int) := ⟨((hLa f).2.2 b k).toNat, by omega⟩
    rw [hy, Int.toNat_natCast] at kd
    have yN : y < N := by omega
    obtain ⟨l', hl'⟩ : ∃ l', l = l' + 1 := ⟨l - 1, by omega⟩
    have S : SNL Y N (l' : Int) := fun x hx nfx hlx => D x hx nfx (Or.inl (by omega))
    have I := INT_L H RY l' S y yN kd.2.2 (by omega)
    have ks := KS' b lb hd hl0 k h2
    unfold KSe at ks
    rw [hy, Int.toNat_natCast] at ks
    have nfy := (RY.2.1 y yN).2 kd.2.2
    obtain ⟨q1, q2, q3⟩ := RY.1 y yN kd.2.2
    unfold CHK
    rw [(r3 k h2).1, (r3 k h2).2, hy, Int.toNat_natCast, RY.2.2, r1, r2, q1]
    refine ⟨⟨⟨by omega, by omega⟩, nfy, kd.2.1⟩, fun h => (ks _ ⟨l', by omega, I.1⟩).1 h, fun h => ?_⟩
    rw [(r3 (k + 1) (by omega)).1]
    exact (ks _ ⟨l', by omega, I.2.1⟩).2 h
/- the order of keys, by the class's least and greatest ones -/
set_option maxHeartbeats 250000 in theorem OI_img {f : Nat → Int} {E : Int} {N : Nat} {Y o : MS} (H : IG f (N : Int) E) (R : RLY Y f N) (S : ∀ x, x < N → nfr Y x → SBkI Y x ∧ LHk Y Y x) (e : ∀ i, i < 785 → gA o 49 i = f i) : OI o (gA Y 18) (gA Y 19) := by
  have n48 := H.1
  have SL : ∀ L, SNL Y N L := fun L x hx nf _ => S x hx nf
  intro x hx hl
  have cE : cM o x = f (17 + 16 * x) := e _ (by omega)
  have vE : vM o x = f (18 + 16 * x) := e _ (by omega)
  have e1 : (hM o).1 x = (hLa f).1 x := e _ (by omega)
  have e2 : (hM o).2.1 x = (hLa f).2.1 x := e _ (by omega)
  have e3 : ∀ k, (hM o).2.2 x k = (hLa f).2.2 x k := fun k => by
    show (if k < 6 then gA o 49 (27 + 16 * x + k) else 0) = if k < 6 then f (27 + 16 * x + k) else 0
    by_cases z : k < 6
    · rw [if_pos z, if_pos z]; exact e _ (by omega)
    · rw [if_neg z, if_neg z]
  have e4 : ∀ k, kM o x k = kLa f x k := fun k => by
    show (if k < 6 then gA o 49 (21 + 16 * x + k) else 0) = if k < 6 then f (21 + 16 * x + k) else 0
    by_cases z : k < 6
    · rw [if_pos z, if_pos z]; exact e _ (by omega)
    · rw [if_neg z, if_neg z]
  have b := (H.2.2.1 x hx).1
  have hd : DLa f x := by
    unfold DLa
    unfold LV at hl
    rw [cE, vE] at hl
    omega
  have hxN : x < N := by have t := (IG_there H hx hd).1; omega
  have t := IG_there H hx hd
  obtain ⟨l, hlv⟩ : ∃ l : Nat, (hLa f).1 x = (l : Int) := ⟨((hLa f).1 x).toNat, by omega⟩
  have I := INT_L H R l (SL _) x hxN hd hlv
  obtain ⟨s1, s2⟩ := S x hxN ((R.2.1 x hxN).2 hd)
  obtain ⟨r1, r2, r3⟩ := R.1 x hxN hd
  unfold OBk
  rw [e1, e2]
  refine ⟨(I.2.2 _ I.1).2, fun h0 => ⟨?_, fun j hj => ?_⟩, fun h0 k hk => ?_⟩
  · have z0 : (hLa f).1 x = 0 := by omega
    rw [show kM o x = kLa f x from funext e4]
    refine SO_step (fun k _ k2 => ?_)
    have w := s1.1 k (Or.inl (r1.trans z0)) (by rw [r2]; exact k2)
    rw [(r3 k (by omega)).1, (r3 (k + 1) (by omega)).1] at w
    exact w
  · have l0 : l = 0 := by omega
    rw [l0] at I
    rw [e4, e3]
    have av := H.2.2.2.2.1 x (by omega) j hj
    exact ⟨(I.2.2 _ ⟨j, hj, rfl⟩).1, (I.2.2 _ ⟨j, hj, rfl⟩).2, by
      show (0 : Int) ≤ if j < 6 then f (27 + 16 * x + j) else 0
      rcases av with w | w
      · have w1 := w.2.1
        split <;> omega
      · have w1 := w.2.1
        split <;> omega⟩
  · obtain ⟨y, y1, y2, y3, y4, y5, y6, y7, y8⟩ := SB_kid H R hxN hd s1 h0 hk
    obtain ⟨l', hl'⟩ : ∃ l', l = l' + 1 := ⟨l - 1, by omega⟩
    have Iy := INT_L H R l' (SL _) y y2 y4 (by omega)
    rw [hl'] at I
    rw [e3, e4, e4, y1, Int.toNat_natCast]
    refine ⟨⟨(I.2.2 _ ⟨k, hk, ?_⟩).1, (I.2.2 _ ⟨k, hk, ?_⟩).2⟩, fun h => y7 h, fun h => y8 h⟩
    · rw [y1, Int.toNat_natCast]; exact Iy.1
    · rw [y1, Int.toNat_natCast]; exact Iy.2.1
/-! ===== ON: an image on both sides ===== -/
set_option maxHeartbeats 250000 in theorem po_in {g : Nat → Int} {e N x : Nat} (P : PO g N = e) (hx : x < N) : nxp g (PO g x) ≤ e := by
  have m := PO_le (g := g) (show x + 1 ≤ N by omega)
  rw [PO_s, P] at m
  exact m
set_option maxHeartbeats 250000 in theorem dl_thr {f g : Nat → Int} {e N x : Nat} (BY : ∀ j, j ≤ e → 0 ≤ g j ∧ g j ≤ 255) (P : PO g N = e) (A : RRA f g N) (hx : x < N) : DLa f x ↔ thr g (PO g x) := by
  have l := po_in P hx
  have l2 := nxp_lt g (PO g x)
  have a := (A.1 x hx).1
  have y1 := (BY (PO g x) (by omega)).1
  have y2 := (BY (PO g x + 1) (by omega)).1
  unfold DLa thr
  rw [a.1, a.2]
  constructor
  · intro w v
    rw [v.1, v.2] at w; exact w rfl
  · intro w v
    exact w ⟨by omega, by omega⟩
set_option maxHeartbeats 250000 in theorem rly_of {f g : Nat → Int} {e N : Nat} {X : MS} (BY : ∀ j, j ≤ e → 0 ≤ g j ∧ g j ≤ 255) (P : PO g N = e) (A : RRA f g N) (W : RWs g N X) (cn : ∀ x, x < N → thr g (PO g x) → g (PO g x + 3) ≤ 6) : RLY X f N := by
  refine ⟨fun x hx hd => ?_, fun x hx => ?_, W.2.2.1.2⟩
  · have t := (dl_thr BY P A hx).1 hd
    obtain ⟨c1, c2, c3⟩ := (W.1 x hx).2 t
    obtain ⟨r1, r2, r3⟩ := (A.1 x hx).2.1 t
    have n6 := cn x hx t
    refine ⟨c1.trans r1.symm, c2.trans r2.symm, fun k hk => ?_⟩
    have hk' : (k : Int) < g (PO g x + 3) := by rw [← r2]; exact hk
    have k6 : k < 6 := by omega
    have a := c3 k k6 hk'
    have b := r3 k k6 hk'
    refine ⟨a.1.trans ?_, a.2.trans ?_⟩
    · show _ = if k < 6 then f (21 + 16 * x + k) else 0
      rw [if_pos k6]; exact b.1.symm
    · show _ = if k < 6 then f (27 + 16 * x + k) else 0
      rw [if_pos k6]; exact b.2.symm
  · rw [dl_thr BY P A hx]
    unfold nfr thr
    rw [(W.1 x hx).1.1, (W.1 x hx).1.2]
set_option maxHeartbeats 250000 in theorem rtr_rto {r : Int} {N : Nat} (h0 : 0 ≤ r) (h : rto r < (N : Int)) (hN : N ≤ 48) : rtr (fun b => b) (rto r) r := by
  unfold rto at h ⊢
  by_cases z : r = 255
  · rw [if_pos z]; exact Or.inr (Or.inl ⟨z, rfl⟩)
  · rw [if_neg z] at h ⊢
    by_cases z2 : r = 254
    · rw [if_pos z2]; exact Or.inl ⟨z2, rfl⟩
    · rw [if_neg z2] at h ⊢
      exact Or.inr (Or.inr ⟨h0, by omega, by show r = ((r.toNat : Nat) : Int); omega⟩)
set_option maxHeartbeats 250000 in theorem trf_of {f g : Nat → Int} {e N : Nat} {E : Int} {X : MS} (H : IG f (N : Int) E) (he : 19 ≤ e) (BY : ∀ j, j ≤ e → 0 ≤ g j ∧ g j ≤ 255) (A : RRA f g N) (Hd : HDr f g) (W : RWs g N X) (R : RLY X f N) (hl : HLT g (N : Int) 8) : TRf (fun b => b) (fun b => b) (N : Int) X 72 f := by
  have n48 := H.1
  refine ⟨PB_id _, fun x hx => ?_, fun x hx l => ?_, fun v hv => ?_⟩
  · by_cases z : x < N
    · have a := (W.1 x z).1
      have b := (A.1 x z).1
      exact ⟨a.1.trans b.1.symm, a.2.trans b.2.symm⟩
    · have a := W.2.2.2.2 x (by omega) hx
      have b0 := A.2 x 0 (by omega) hx (by omega)
      have b1 := A.2 x 1 (by omega) hx (by omega)
      refine ⟨a.1.trans ?_, a.2.trans ?_⟩
      · show (0 : Int) = f (17 + 16 * x); exact b0.symm
      · show (0 : Int) = f (18 + 16 * x)
        rw [show 18 + 16 * x = 17 + 16 * x + 1 by omega]; exact b1.symm
  · have nn := (H.2.2.1 x hx).1
    have hd : DLa f x := by
      unfold DLa
      have l' : 0 < f (17 + 16 * x) ∨ 0 < f (18 + 16 * x) := l
      omega
    have t := (IG_there H hx hd).1
    obtain ⟨r1, r2, r3⟩ := R.1 x (by omega) hd
    refine ⟨r1, r2, fun k hk => ⟨(r3 k hk).1, fun h0 => ?_, fun _ => (r3 k hk).2⟩⟩
    have kd := IG_kid (k := k) H hx hd h0 hk
    have q := (r3 k hk).2
    show gA X 77 (6 * x + k) = ((((hLa f).2.2 x k).toNat : Nat) : Int)
    rw [q]; omega
  · have a := W.2.1 v hv
    have b := Hd.2 v hv
    have c := hl v hv
    refine ⟨?_, ?_⟩
    · show rtr (fun b => b) (gA X 78 v) (f v)
      rw [a.1, b.1]
      exact rtr_rto (BY _ (by omega)).1 c.1 (by omega)
    · show rtr (fun b => b) (gA X 79 v) (f (8 + v))
      rw [a.2, b.2]
      exact rtr_rto (BY _ (by omega)).1 c.2 (by omega)
/- references counted alike -/
set_option maxHeartbeats 250000 in theorem rf_eq {f : Nat → Int} {N : Nat} {E : Int} {X : MS} {c r w : Nat} (H : IG f (N : Int) E) (T : TRf (fun b => b) (fun b => b) (N : Int) X 72 f) (hc : (c = 72 ∧ r = 78 ∧ w = 0) ∨ (c = 73 ∧ r = 79 ∧ w = 1)) {x : Nat} (hx : x < 48) : rf (hJ X) (gA X c) (gA X r) (x : Int) = rf (hLa f) (cLa f w) (rLa f w) (x : Int) := sorry
/- what the class has found sound has all that the reference asks -/
set_option maxHeartbeats 250000 in theorem cim_of {f g : Nat → Int} {e N : Nat} {E : Int} {X Y : MS} (hN : N ≤ 48) (hE : 3 ≤ E ∧ E ≤ 6) (he : 19 ≤ e) (BY : ∀ j, j ≤ e → 0 ≤ g j ∧ g j ≤ 255) (P : PO g N = e) (G : ∀ x, x < N → GOK g (PO g x) E) (A : RRA f g N) (Hd : HDr f g) (W : RWs g N X) (hl : HLT g (N : Int) 8) (K : KRd X Y) (S : ALLs Y N) : CIM f (N : Int) E := sorry/-! ===== ON on both sides ===== -/
set_option maxHeartbeats 250000 in theorem pig : ∀ (m n : Nat) (u : Nat → Int), (∀ i : Nat, i < n → ∃ p, p < m ∧ u p = (i : Int)) → n ≤ m := by
  intro m
  induction m with
  | zero =>
    intro n u h
    refine Classical.byContradiction (fun z => ?_)
    obtain ⟨p, p1, _⟩ := h 0 (by omega)
    omega
  | succ m ih =>
    intro n u h
    by_cases z : ∃ i : Nat, i < n ∧ u m = (i : Int)
    · obtain ⟨i0, i1, i2⟩ := z
      have w := ih (n - 1) (fun p => if u p > (i0 : Int) then u p - 1 else u p) (fun i hi => by
        by_cases y : i < i0
        · obtain ⟨p, p1, p2⟩ := h i (by omega)
          refine ⟨p, ?_, ?_⟩
          · have : p ≠ m := fun q => by rw [q] at p2; omega
            omega
          · (try dsimp only)
            rw [if_neg (by omega)]; exact p2
        · obtain ⟨p, p1, p2⟩ := h (i + 1) (by omega)
          refine ⟨p, ?_, ?_⟩
          · have : p ≠ m := fun q => by rw [q] at p2; omega
            omega
          · (try dsimp only)
            rw [if_pos (by omega), p2]; omega)
      omega
    · have w := ih n u (fun i hi => by
        obtain ⟨p, p1, p2⟩ := h i hi
        refine ⟨p, ?_, p2⟩
        have : p ≠ m := fun q => z ⟨i, hi, by rw [← q]; exact p2⟩
        omega)
      omega
set_option maxHeartbeats 250000 in theorem lev_chn {f : Nat → Int} {N E : Int} (H : IG f N E) : ∀ (l b : Nat), b < 48 → DLa f b → (hLa f).1 b = (l : Int) → ∀ i : Nat, i < l + 1 → ∃ p, p < 48 ∧ (hLa f).1 p = (i : Int) := by
  have n48 := H.1
  intro l
  induction l with
  | zero => intro b hb hd hl i hi; exact ⟨b, hb, by rw [hl]; omega⟩
  | succ l ih =>
    intro b hb hd hl i hi
    by_cases z : i = l + 1
    · exact ⟨b, hb, by rw [hl, z]⟩
    · have t := IG_there H hb hd
      have kd := IG_kid (k := 0) H hb hd (by omega) (by omega)
      exact ih _ (by omega) kd.2.2 (by omega) i (by omega)
set_option maxHeartbeats 250000 in theorem lev47 {f : Nat → Int} {N E : Int} (H : IG f N E) : ∀ b : Nat, b < 48 → DLa f b → f (19 + 16 * b) < 48 := fun b hb hd => by
  have t := IG_there H hb hd
  obtain ⟨l, hl⟩ : ∃ l : Nat, (hLa f).1 b = (l : Int) := ⟨((hLa f).1 b).toNat, by omega⟩
  have w := pig 48 (l + 1) (hLa f).1 (lev_chn H l b hb hd hl)
  have e : (hLa f).1 b = f (19 + 16 * b) := rfl
  omega
set_option maxHeartbeats 2000000 in
theorem y_img {N : Nat} {E len : Int} {x T : MS} (hRx : Rg x) (hRT : Rr T) (hN : N ≤ 48) (hE : 3 ≤ E ∧ E ≤ 6) (h47 : gI T 47 ≠ 0) (h5 : gA T 39 5 = (N : Int)) (h6 : gA T 39 6 = E) (hlen : len = gI x 61) (tape : ∀ j : Nat, (j : Int) < gI x 61 → gA x 4 j = gA T 0 j) : pc (m_x4_load (N : Int) E x) (fun q => pc (m_x12_isImage len T) (fun o => q.1 = o.1 ∧ (q.1 = 0 ∨ q.1 = 1) ∧ (q.1 = 1 → ∃ lo hi : Nat → Int, (gI q.2 1421 ≤ 999999 ∧ gI q.2 1420 = (N : Int)) ∧ IG (gA o.2 113) (N : Int) E ∧ TRf (fun b => b) (fun b => b) (N : Int) q.2 72 (gA o.2 113) ∧ ∀ t' : MS, (∀ i, i < 785 → gA t' 49 i = gA o.2 113 i) → OI t' lo hi))) := sorry
set_option maxHeartbeats 250000 in theorem m_L26 {T : MS} : pc (m_x12_on_L26 FU 0 T) (fun o => o.1 = 1 ∧ (∀ i, i < 785 → gA o.2 49 i = gA T 113 i) ∧ gA o.2 49 785 = 0 ∧ gI o.2 76 = 0 ∧ (∀ k, k ≠ 49 → gA o.2 k = gA T k) ∧ (∀ i, i ≠ 76 → gI o.2 i = gI T i) ∧ ∀ k, gL o.2 k = gL T k) := by
  have L : ∀ (n : Nat) (x : Int) (S : MS), (0 ≤ x ∧ x ≤ 785) → (∀ i : Nat, (i : Int) < x → gA S 49 i = gA T 113 i) → (∀ k, k ≠ 49 → gA S k = gA T k) → (∀ i, gI S i = gI T i) → (∀ k, gL S k = gL T k) → pc (m_x12_on_L26 n x S) (fun o => o.1 = 1 ∧ (∀ i, i < 785 → gA o.2 49 i = gA T 113 i) ∧ gA o.2 49 785 = 0 ∧ gI o.2 76 = 0 ∧ (∀ k, k ≠ 49 → gA o.2 k = gA T k) ∧ (∀ i, i ≠ 76 → gI o.2 i = gI T i) ∧ ∀ k, gL o.2 k = gL T k) := by
    refine fr_ind (fun _ _ _ _ _ _ _ => pc_none) (fun n ih x S hx h1 h2 h3 h4 => ?_)
    show pc (m_x12_on_b26 (m_x12_on_L26 n) x S) _
    unfold m_x12_on_b26
    refine pc_rg (pc_if (fun c => pc_inb (pc_stn (fun s6 e6 => pc_stn (fun s7 e7 => pc_some ⟨rfl, fun i hi => ?_, ?_, q_II e7, fun k hk => ?_, fun i hi => ?_, fun k => ?_⟩)))) (fun c => pc_rdI (fun _ => pc_inb (pc_stn (fun s10 e10 => ih (x + 1) s10 (by omega) (fun i hi => ?_) (fun k hk => (q_Aa e10 hk).trans (h2 k hk)) (fun i => (q_Ai e10).trans (h3 i)) (fun k => (q_Al e10).trans (h4 k)))))))
    · show gA s7 49 i = _
      rw [(q_Ia e7 : gA s7 49 = gA s6 49), (q_AA e6 : gA s6 49 = _), show Int.toNat 785 = 785 from rfl, upZ_n (by omega)]
      exact h1 i (by omega)
    · show gA s7 49 785 = 0
      rw [(q_Ia e7 : gA s7 49 = gA s6 49), (q_AA e6 : gA s6 49 = _), show Int.toNat 785 = 785 from rfl, upZ_s]
    · show gA s7 k = _
      rw [(q_Ia e7 : gA s7 k = gA s6 k), (q_Aa e6 hk : gA s6 k = gA S k)]; exact h2 k hk
    · show gI s7 i = _
      rw [(q_Ii e7 hi : gI s7 i = gI s6 i), (q_Ai e6 : gI s6 i = gI S i)]; exact h3 i
    · show gL s7 k = _
      rw [(q_Il e7 : gL s7 k = gL s6 k), (q_Al e6 : gL s6 k = gL S k)]; exact h4 k
    · rw [(q_AA e10 : gA s10 49 = _)]
      by_cases z : i = x.toNat
      · rw [z, upZ_s, h2 113 (by decide)]
      · rw [upZ_n z]; exact h1 i (by omega)
  exact L FU 0 T (by omega) (fun i hi => absurd hi (by omega)) (fun _ _ => rfl) (fun _ => rfl) (fun _ => rfl)
set_option maxHeartbeats 250000 in theorem s_isRefused {p : Int} {t : MS} : pc (m_x12_isRefused p t) (fun q => q.1 = 0 ∧ gA q.2 9 = upZ (gA t 9) p.toNat (gA t 9 p.toNat + 1)) := by
  unfold m_x12_isRefused
  exact pc_rdI (fun _ => pc_inb (pc_stn (fun s3 e3 => pc_some ⟨rfl, q_AA e3⟩)))
set_option maxHeartbeats 2000000 in
theorem y_on {x t : MS} {ts : List MS} (hC : CI x ts) (hR : Rr t) (hJ : JI t) (hl : gI x 61 = gI t 1) (tape : ∀ j : Nat, (j : Int) < gI x 61 → gA x 4 j = gA t 0 j) (h47 : gI t 47 = gI x 12) (hP : gI x 12 ≠ 0 → gA t 39 5 = gI x 580 ∧ gA t 39 6 = gI x 581) (B : BT x ts t) : pc (m_x11_on x) (fun q => pc (m_x12_on t) (fun o => q.1 = o.1 ∧ BT q.2 ts o.2)) := sorry/-! ===== the calls that touch no tree: what stands between calls ===== -/
/- frames that leave all of it, refusals aside -/
def ZX (s o : MS) : Prop := (∀ k, k = 12 ∨ k = 143 ∨ k = 145 ∨ k = 1060 ∨ k = 1061 → gI o k = gI s k) ∧ ∀ k, k = 8 ∨ k = 9 ∨ k = 10 ∨ (54 ≤ k ∧ k ≤ 61) → gA o k = gA s k
def ZY (t o : MS) : Prop := (∀ k, k = 76 ∨ k = 77 → gI o k = gI t k) ∧ (∀ k, k = 49 ∨ k = 75 → gA o k = gA t k) ∧ gA o 39 5 = gA t 39 5
set_option maxHeartbeats 250000 in theorem ZX_rf (s : MS) : ZX s s := ⟨fun _ _ => rfl, fun _ _ => rfl⟩
set_option maxHeartbeats 250000 in theorem ZY_rf (t : MS) : ZY t t := ⟨fun _ _ => rfl, fun _ _ => rfl, rfl⟩
set_option maxHeartbeats 250000 in theorem BT_z {s s' t t' : MS} {ts : List MS} (h : BT s ts t) (a : ZX s s') (b : ZY t t') (c1 : gI s' 983 = gL t' 78) (c2 : ∀ k, k < 6 → gA s' 2 k = gA t' 9 k) : BT s' ts t' := BT_k5 h a.1 a.2 b.1 b.2.1 b.2.2 c1 c2
/- nothing is refused -/
set_option maxHeartbeats 250000 in theorem BT_n {s s' t t' : MS} {ts : List MS} (h : BT s ts t) (a : ZX s s') (b : ZY t t') (s1 : gI s' 983 = gI s 983) (s2 : gA s' 2 = gA s 2) (t1 : gL t' 78 = gL t 78) (t2 : gA t' 9 = gA t 9) : BT s' ts t' := BT_z h a b (by rw [s1, t1]; exact h.1) (fun k hk => by rw [s2, t2]; exact h.2.1 k hk)
/- both sides refuse -/
set_option maxHeartbeats 250000 in theorem BT_u {s s' t t' : MS} {ts : List MS} {p : Nat} (h : BT s ts t) (hp : p < 6) (a : ZX s s') (b : ZY t t') (s1 : gI s' 983 = gI s 983) (s2 : gA s' 2 = upZ (gA s 2) p (gA s 2 p + 1)) (t1 : gL t' 78 = gL t 78) (t2 : gA t' 9 = upZ (gA t 9) p (gA t 9 p + 1)) : BT s' ts t' := BT_z h a b (by rw [s1, t1]; exact h.1) (fun k hk => by
  rw [s2, t2]
  by_cases z : k = p
  · rw [z, upZ_s, upZ_s, h.2.1 p hp]
  · rw [upZ_n z, upZ_n z]; exact h.2.1 k hk)
set_option maxHeartbeats 250000 in theorem s_room {s : MS} : pc (m_x9_hasRoom s) (fun r => r = 0 ↔ 1600 < gI s 61 + 20) := by
  unfold m_x9_hasRoom m_x9_hasRoom_J18
  exact pc_rg (pc_if (fun c => pc_bo (pc_some ⟨fun _ => c, fun _ => rfl⟩)) (fun c => pc_bo (pc_some ⟨fun w => absurd w (by decide), fun w => absurd w c⟩)))
set_option maxHeartbeats 250000 in theorem s_feed2 {p1 p2 p3 p4 p5 : Int} {s : MS} : pc (m_x11_feed p1 p2 p3 p4 p5 s) (fun q => (1600 < gI s 61 + 20 ∧ gA q.2 2 = upZ (gA s 2) 0 (gA s 2 0 + 1)) ∨ (gI s 61 + 20 ≤ 1600 ∧ gA q.2 2 = gA s 2)) := by
  unfold m_x11_feed
  refine pc_bq s_room (fun r2 h2 => pc_rg (pc_if (fun c => pc_bq s_rf2 (fun q17 h17 => pc_some (Or.inl ⟨h2.1 c, h17⟩))) (fun c => pc_bn (fun s6 e6 => pc_bn (fun s8 e8 => pc_bn (fun s10 e10 => pc_bn (fun s12 e12 => pc_bn (fun s14 e14 => pc_some (Or.inr ⟨?_, ?_⟩)))))))))
  · refine Classical.byContradiction (fun w => c (h2.2 (by omega)))
  · show gA s14 2 = gA s 2
    rw [(fr_x9_append e14).2.1 2 (by decide), (fr_x9_append e12).2.1 2 (by decide), (fr_x9_append e10).2.1 2 (by decide), (fr_x9_append e8).2.1 2 (by decide), (fr_x9_append e6).2.1 2 (by decide)]
set_option maxHeartbeats 250000 in theorem m_feed9 {p1 p2 p3 p4 p5 : Int} {t : MS} : pc (m_x12_feed p1 p2 p3 p4 p5 t) (fun o => (1600 < gI t 1 + 20 ∧ gA o.2 9 = upZ (gA t 9) 0 (gA t 9 0 + 1)) ∨ (gI t 1 + 20 ≤ 1600 ∧ gA o.2 9 = gA t 9)) := by
  have L : ∀ (n : Nat) (x : Int) (S : MS), gA S 9 = gA t 9 → pc (m_x12_feed_L28 n p1 p2 p3 p4 p5 x S) (fun o => gA o.2 9 = gA t 9) := by
    refine fr_ind (fun _ _ _ => pc_none) (fun n ih x S h => ?_)
    have J : ∀ a : Int, pc (m_x12_feed_J81 (m_x12_feed_L28 n) p1 p2 p3 p4 p5 x a S) (fun o => gA o.2 9 = gA t 9) := fun a => by
      unfold m_x12_feed_J81
      exact pc_dv (pc_inb (pc_stn (fun s18 e18 => pc_stn (fun s19 e19 => ih (x + 1) s19 (((q_Ia e19).trans (q_Aa e18 (by decide))).trans h)))))
    show pc (m_x12_feed_b28 (m_x12_feed_L28 n) p1 p2 p3 p4 p5 x S) _
    unfold m_x12_feed_b28
    exact pc_rg (pc_if (fun _ => pc_some h) (fun _ => pc_rg (pc_if (fun _ => pc_rg (pc_if (fun _ => pc_rg (pc_if (fun _ => pc_rg (pc_if (fun _ => J _) (fun _ => J _))) (fun _ => J _))) (fun _ => J _))) (fun _ => J _))))
  unfold m_x12_feed
  exact pc_rg (pc_if (fun c => pc_mono (L FU 0 t rfl) (fun o ho => Or.inr ⟨c, ho⟩)) (fun c => pc_rdI (fun _ => pc_inb (pc_stn (fun s34 e34 => pc_some (Or.inl ⟨by omega, q_AA e34⟩))))))
set_option maxHeartbeats 250000 in theorem y_feedB {x t : MS} {ts : List MS} {p1 p2 p3 p4 p5 : Int} (hl : gI x 61 = gI t 1) (B : BT x ts t) : pc (m_x11_feed p1 p2 p3 p4 p5 x) (fun q => pc (m_x12_feed p1 p2 p3 p4 p5 t) (fun o => BT q.2 ts o.2)) := by
  intro q eq o eo
  have F1 : F_x11_feed x q.2 := fr_x11_feed eq
  have F2 : F_x12_feed t o.2 := fr_x12_feed eo
  have a : ZX x q.2 := ⟨fun k hk => F1.1 k (by simp; omega), fun k hk => F1.2.1 k (by simp; omega)⟩
  have b : ZY t o.2 := ⟨fun k hk => F2.1 k (by simp; omega), fun k hk => F2.2.1 k (by simp; omega), by rw [F2.2.1 39 (by decide)]⟩
  rcases s_feed2 q eq with ⟨c1, c2⟩ | ⟨c1, c2⟩ <;> rcases m_feed9 o eo with ⟨d1, d2⟩ | ⟨d1, d2⟩
  · exact BT_u B (p := 0) (by decide) a b (F1.1 983 (by decide)) c2 (F2.2.2.1 78 (by simp)) d2
  · exfalso; omega
  · exfalso; omega
  · exact BT_n B a b (F1.1 983 (by decide)) c2 (F2.2.2.1 78 (by simp)) d2
set_option maxHeartbeats 250000 in theorem s_end2 {p : Int} {s : MS} : pc (m_x11_end p s) (fun q => ((p < 0 ∨ gI s 61 < p) ∧ gA q.2 2 = upZ (gA s 2) 0 (gA s 2 0 + 1)) ∨ ((0 ≤ p ∧ p ≤ gI s 61) ∧ gA q.2 2 = gA s 2)) := by
  unfold m_x11_end m_x11_end_J15
  exact pc_rg (pc_if (fun c => pc_bq s_rf2 (fun q4 h4 => pc_some (Or.inl ⟨Or.inl c, h4⟩))) (fun c => pc_rg (pc_rg (pc_if (fun c2 => pc_stn (fun s10 e10 => pc_some (Or.inr ⟨by omega, q_Ia e10⟩))) (fun c2 => pc_bq s_rf2 (fun q4 h4 => pc_some (Or.inl ⟨Or.inr (by omega), h4⟩)))))))
set_option maxHeartbeats 250000 in theorem m_end9 {p : Int} {t : MS} : pc (m_x12_end p t) (fun o => ((p < 0 ∨ gI t 1 < p) ∧ gA o.2 9 = upZ (gA t 9) 0 (gA t 9 0 + 1)) ∨ ((0 ≤ p ∧ p ≤ gI t 1) ∧ gA o.2 9 = gA t 9)) := by
  unfold m_x12_end m_x12_end_J12
  exact pc_rg (pc_if (fun c => pc_rdI (fun _ => pc_inb (pc_stn (fun s4 e4 => pc_some (Or.inl ⟨Or.inl c, q_AA e4⟩))))) (fun c => pc_rg (pc_rg (pc_if (fun c2 => pc_stn (fun s10 e10 => pc_some (Or.inr ⟨by omega, q_Ia e10⟩))) (fun c2 => pc_rdI (fun _ => pc_inb (pc_stn (fun s4 e4 => pc_some (Or.inl ⟨Or.inr (by omega), q_AA e4⟩)))))))))
set_option maxHeartbeats 250000 in theorem y_endB {x t : MS} {ts : List MS} {p : Int} (hl : gI x 61 = gI t 1) (B : BT x ts t) : pc (m_x11_end p x) (fun q => pc (m_x12_end p t) (fun o => BT q.2 ts o.2)) := by
  intro q eq o eo
  have F1 : F_x11_end x q.2 := fr_x11_end eq
  have F2 : F_x12_end t o.2 := fr_x12_end eo
  have a : ZX x q.2 := ⟨fun k hk => F1.1 k (by simp; omega), fun k hk => F1.2.1 k (by simp; omega)⟩
  have b : ZY t o.2 := ⟨fun k hk => F2.1 k (by simp; omega), fun k hk => F2.2.1 k (by simp; omega), by rw [F2.2.1 39 (by decide)]⟩
  rcases s_end2 q eq with ⟨c1, c2⟩ | ⟨c1, c2⟩ <;> rcases m_end9 o eo with ⟨d1, d2⟩ | ⟨d1, d2⟩
  · exact BT_u B (p := 0) (by decide) a b (F1.1 983 (by decide)) c2 (F2.2.2.1 78 (by simp)) d2
  · exfalso; omega
  · exfalso; omega
  · exact BT_n B a b (F1.1 983 (by decide)) c2 (F2.2.2.1 78 (by simp)) d2
set_option maxHeartbeats 250000 in theorem y_seedB {x t : MS} {ts : List MS} {p : Int} (B : BT x ts t) : pc (m_x11_seed p x) (fun q => pc (m_x12_seed p t) (fun o => q.1 = o.1 ∧ BT q.2 ts o.2)) := by
  unfold m_x11_seed
  refine pc_rg (pc_if (fun c => pc_stn (fun s3 e3 => pc_some ?_)) (fun c => pc_bn (fun q6 e6 => pc_some ?_)))
  · unfold m_x12_seed
    refine pc_rg (pc_if (fun _ => pc_rg (pc_stn (fun s4 e4 => pc_some ⟨rfl, ?_⟩))) (fun d => absurd c d))
    refine BT_z B ⟨fun k hk => q_Ii e3 (by omega), fun k _ => q_Ia e3⟩ ⟨fun k _ => q_Li e4, fun k _ => q_La e4, by rw [(q_La e4 : gA s4 39 = gA t 39)]⟩ ((q_II e3).trans (q_LL e4).symm) (fun k hk => ?_)
    rw [(q_Ia e3 : gA s3 2 = gA x 2), (q_La e4 : gA s4 9 = gA t 9)]; exact B.2.1 k hk
  · unfold m_x12_seed
    refine pc_rg (pc_if (fun d => absurd d c) (fun _ => pc_bn (fun o7 e7 => pc_bo (pc_some ?_))))
    have F6 : F_x11_refuse x q6.2 := fr_x11_refuse e6
    have F7 : F_x12_isRefused t o7.2 := fr_x12_isRefused e7
    obtain ⟨u3, u2⟩ := s_isRefused o7 e7
    exact ⟨u3.symm, BT_u B (p := 5) (by decide) ⟨fun k hk => F6.1 k (by simp), fun k hk => F6.2.1 k (by simp; omega)⟩ ⟨fun k hk => F7.1 k (by simp), fun k hk => F7.2.1 k (by simp; omega), by rw [F7.2.1 39 (by decide)]⟩ (F6.1 983 (by simp)) (s_rf2 q6 e6) (F7.2.2.1 78 (by simp)) u2⟩
/-! ===== the reads: what stands between calls is kept ===== -/
/- the class's trees as they were, by what they hold -/
def ZB (s o : MS) : Prop := BC s o 54 54 1060 1060 ∧ (∀ k, k = 12 ∨ k = 143 ∨ k = 145 ∨ k = 983 → gI o k = gI s k) ∧ ∀ k, k = 2 ∨ k = 8 ∨ k = 9 ∨ k = 10 → gA o k = gA s k
set_option maxHeartbeats 250000 in theorem ZB_rf (s : MS) : ZB s s := ⟨⟨fun _ _ => ⟨rfl, rfl, rfl, rfl⟩, fun _ _ => ⟨rfl, rfl⟩, fun _ _ => ⟨rfl, rfl⟩, rfl, rfl⟩, fun _ _ => rfl, fun _ _ => rfl⟩
set_option maxHeartbeats 250000 in theorem ZB_tr {s o u : MS} (h : ZB s o) (g : ZB o u) : ZB s u := ⟨BC_tr h.1 g.1, fun k hk => (g.2.1 k hk).trans (h.2.1 k hk), fun k hk => (g.2.2 k hk).trans (h.2.2 k hk)⟩
set_option maxHeartbeats 250000 in theorem BT_c {s s' t t' : MS} {ts : List MS} (hJ : JI t) (h47 : gI t 47 = gI s 12) (h : BT s ts t) (a : ZB s s') (b : ZY t t') (c1 : gL t' 78 = gL t 78) (c2 : gA t' 9 = gA t 9) : BT s' ts t' := by
  obtain ⟨B, aI, aA⟩ := a
  obtain ⟨h1, h2, h3, h4⟩ := h
  have b49 : gA t' 49 = gA t 49 := b.2.1 49 (Or.inl rfl)
  refine ⟨by rw [aI 983 (by omega), c1]; exact h1, fun k hk => by rw [aA 2 (Or.inl rfl), c2]; exact h2 k hk, fun z => ?_, fun z => ?_⟩
  · obtain ⟨u1, u2, u3, u4, u5, u6⟩ := h3 (by rw [← aI 12 (Or.inl rfl)]; exact z)
    exact ⟨B.2.2.2.1.trans u1, B.2.2.2.2.trans u2, (aI 143 (by omega)).trans u3, fun v hv => ((B.2.2.1 v hv).2).trans (u4 v hv), by rw [b49]; exact u5, by rw [b49]; exact u6⟩
  · have z' : gI s 12 ≠ 0 := by rw [← aI 12 (Or.inl rfl)]; exact z
    obtain ⟨g1, ⟨π, σ, lo, hi, g2, g3⟩, g4⟩ := h4 z'
    have G0 := JI_GA hJ (by rw [h47]; exact z')
    have hK : KLV t := KLV_of G0.1.1.1.1 (fun _ _ => Int.le_refl 0)
    have oz : ∀ x, x < 48 → 0 < cR (gA t 49) x ∨ 0 < vR (gA t 49) x → (hR (gA t 49)).2.1 x ≤ 6 := fun x hx l => (hK.2.1 x hx l).1.1.2.1.2
    refine ⟨by rw [B.2.2.2.1, b.2.2]; exact g1, ⟨π, σ, lo, hi, ?_, OI_49 g3 b49⟩, HJ_k5 g4 (aI 145 (by omega)) (aI 143 (by omega)) (fun k hk => aA k (by omega)) (b.1 76 (Or.inl rfl)) (b.1 77 (Or.inr rfl)) (b.2.1 75 (Or.inr rfl)) b.2.2 (fun i _ _ => by rw [b49])⟩
    rw [B.2.2.2.1, b49]
    exact TRf_c g2 B oz
/-! the class puts back what it tried -/
set_option maxHeartbeats 250000 in theorem isVol_y {p : Int} {s : MS} {r : Int} (e : m_x8_isVolume p s = some r) (c : ¬ r = 0) : (0 ≤ p ∧ p < 8) ∧ gA s 60 p.toNat ≠ -2 := by
  rcases s_isVol r e with ⟨_, a⟩ | ⟨a, _⟩
  · exact a
  · exact absurd a c
set_option maxHeartbeats 250000 in theorem z_write {s : MS} {p0 p1 : Int} (hT : TE s) (h0 : 0 ≤ p0 ∧ p0 < 8) (hv : gA s 60 p0.toNat ≠ -2) (h1 : 0 ≤ p1 ∧ p1 ≤ 999) : pc (m_x1_wouldWrite p0 p1 s) (fun q => TE q.2 ∧ ZB s q.2) := fun q e => by
  have g := wp_det (ts_wouldWrite hT h0 hv h1) e
  exact ⟨g.1, g.2.2.2, fun k hk => g.2.1.1 k (by simp; omega), fun k hk => g.2.1.2.1 k (by simp; omega)⟩
set_option maxHeartbeats 250000 in theorem z_cost {s : MS} {p0 p1 : Int} (hT : TE s) (h0 : 0 ≤ p0 ∧ p0 < 8) (hv : gA s 60 p0.toNat ≠ -2) (h1 : 0 ≤ p1 ∧ p1 ≤ 999) : pc (m_x1_wouldCost p0 p1 s) (fun q => TE q.2 ∧ ZB s q.2) := fun q e => by
  have g := wp_det (ts_wouldCost hT h0 hv h1) e
  exact ⟨g.1, g.2.2, fun k hk => g.2.1.1 k (by simp; omega), fun k hk => g.2.1.2.1 k (by simp; omega)⟩
set_option maxHeartbeats 250000 in theorem z_writes {s : MS} {ts : List MS} {p0 p1 p2 : Int} (h : CI s ts) : pc (m_x11_writes p0 p1 p2 s) (fun q => ZB s q.2) := by
  unfold m_x11_writes m_x11_writes_J21 m_x11_writes_J55
  refine pc_bn (fun r6 e6 => pc_rg (pc_if (fun _ => pc_some (ZB_rf s)) (fun c1 => pc_bn (fun r10 e10 => pc_rg (pc_if (fun _ => pc_some (ZB_rf s)) (fun c2 => ?_))))))
  have v0 := isVol_y e6 c1
  have k1 : 0 ≤ p1 ∧ p1 ≤ 999 := by
    rcases s_isKey r10 e10 with ⟨_, a⟩ | ⟨a, _⟩
    · exact a
    · exact absurd a c2
  have hT := CI_TE h (CI_told h (v := p0.toNat) (by omega) v0.2)
  exact pc_rg (pc_if (fun _ => pc_bn (fun q e => pc_some (z_write hT v0.1 v0.2 k1 q e).2)) (fun _ => pc_rg (pc_if (fun _ => pc_bn (fun q e => pc_some (z_cost hT v0.1 v0.2 k1 q e).2)) (fun _ => pc_some (ZB_rf s)))))
set_option maxHeartbeats 250000 in theorem z_spread {s : MS} {ts : List MS} {p0 p1 : Int} (h : CI s ts) : pc (m_x11_spread p0 p1 s) (fun q => ZB s q.2) := by
  unfold m_x11_spread m_x11_spread_J19
  refine pc_bn (fun r6 e6 => pc_rg (pc_if (fun _ => pc_some (ZB_rf s)) (fun c1 => pc_rg (pc_if (fun _ => ?_) (fun _ => pc_some (ZB_rf s))))))
  have v0 := isVol_y e6 c1
  have hT := CI_TE h (CI_told h (v := p0.toNat) (by omega) v0.2)
  have L : ∀ (n : Nat) (f i : Int) (S : MS), TE S → ZB s S → 0 ≤ i → pc (m_x11_spread_L26 n p0 p1 f i S) (fun q => ZB s q.2) := by
    refine fr_ind (fun _ _ _ _ _ _ => pc_none) (fun n ih f i S hS hz hi => ?_)
    show pc (m_x11_spread_b26 (m_x11_spread_L26 n) p0 p1 f i S) _
    unfold m_x11_spread_b26 m_x11_spread_J50
    refine pc_rg (pc_if (fun _ => pc_some hz) (fun c => pc_bn (fun q e => ?_)))
    have g := z_write hS v0.1 (by rw [(hz.1.2.2.1 p0.toNat (by omega)).1]; exact v0.2) (by omega) q e
    have hz2 := ZB_tr hz g.2
    exact pc_rg (pc_rg (pc_if (fun _ => ih _ _ _ g.1 hz2 (by omega)) (fun _ => ih _ _ _ g.1 hz2 (by omega))))
  exact L FU 0 0 s hT (ZB_rf s) (Int.le_refl 0)
/-! the reference puts back what it tried -/
def RS0 (t S : MS) : Prop := Rr S ∧ (∀ k, k = 39 ∨ k = 42 ∨ k = 43 ∨ k = 44 ∨ k = 49 ∨ k = 75 → gA S k = gA t k) ∧ ∀ k, k = 47 ∨ k = 76 ∨ k = 77 → gI S k = gI t k
set_option maxHeartbeats 250000 in theorem RS0_GA {t S : MS} (G : GA t) (h : RS0 t S) : GA S := GA_eq G ⟨h.2.1 39 (by omega), h.2.1 42 (by omega), h.2.1 43 (by omega), h.2.1 44 (by omega)⟩ (h.2.1 49 (by omega)) (h.2.1 75 (by omega)) (h.2.2 76 (by omega)) (h.2.2 77 (by omega))
set_option maxHeartbeats 250000 in theorem rs0_write {t S : MS} {p0 p1 : Int} (G : GA t) (h : RS0 t S) (h0 : 0 ≤ p0 ∧ p0 < 8) (hv : gA t 49 p0.toNat ≠ 255) (h1 : 0 ≤ p1 ∧ p1 ≤ 999) : pc (m_x12_laysWrites p0 p1 S) (fun o => RS0 t o) := fun o e => by
  have GS := RS0_GA G h
  have r := GA_rt G (v := p0.toNat) (by omega) hv
  have g := wp_det (w_x12_laysWrites h.1 h0 h1 GS.1 (by rw [h.2.1 49 (by omega)]; omega)) e
  have F : F_x12_laysWrites S o := fr_x12_laysWrites e
  refine ⟨g.1, fun k hk => ?_, fun k hk => (F.1 k (by simp; omega)).trans (h.2.2 k hk)⟩
  by_cases z : k = 49
  · rw [z, g.2]; exact h.2.1 49 (by omega)
  · exact (F.2.1 k (by simp; omega)).trans (h.2.1 k hk)
set_option maxHeartbeats 250000 in theorem rs0_drop {t S : MS} {p0 : Int} (G : GA t) (h : RS0 t S) (h0 : 0 ≤ p0 ∧ p0 < 8) (hv : gA t 49 p0.toNat ≠ 255) : pc (m_x12_dropsMany p0 S) (fun q => RS0 t q.2) := fun o e => by
  have GS := RS0_GA G h
  have r := GA_rt G (v := p0.toNat) (by omega) hv
  have g := wp_det (w_x12_dropsMany h.1 h0 GS.1.1.1 (by have := GS.1.2.1; omega) (by rw [h.2.1 49 (by omega)]; omega)) e
  have F : F_x12_dropsMany S o.2 := fr_x12_dropsMany e
  refine ⟨g.1, fun k hk => ?_, fun k hk => (F.1 k (by simp)).trans (h.2.2 k hk)⟩
  by_cases z : k = 49
  · rw [z, g.2.2]; exact h.2.1 49 (by omega)
  · exact (F.2.1 k (by simp; omega)).trans (h.2.1 k hk)
set_option maxHeartbeats 250000 in theorem RS0_rf {t : MS} (h : Rr t) : RS0 t t := ⟨h, fun _ _ => rfl, fun _ _ => rfl⟩
set_option maxHeartbeats 250000 in theorem mVol_y {p : Int} {t : MS} {r : Int} (e : m_x12_isVolume p t = some r) (c : ¬ r = 0) : (0 ≤ p ∧ p < 8) ∧ gI t 47 ≠ 0 ∧ gA t 49 p.toNat ≠ 255 := by
  rcases m_isVol r e with ⟨_, a⟩ | ⟨a, _⟩
  · exact a
  · exact absurd a c
set_option maxHeartbeats 250000 in theorem r49_writes {t : MS} {p0 p1 p2 : Int} (hR : Rr t) (hJ : JI t) : pc (m_x12_writes p0 p1 p2 t) (fun o => gA o.2 49 = gA t 49) := by
  unfold m_x12_writes m_x12_writes_J54 m_x12_writes_J31
  refine pc_rg (pc_bn (fun r6 e6 => pc_rg (pc_if (fun _ => pc_some rfl) (fun c1 => pc_rg (pc_bn (fun r11 e11 => pc_rg (pc_if (fun _ => pc_some rfl) (fun c2 => pc_rg (pc_bn (fun r16 _ => pc_rg (pc_if (fun _ => pc_some rfl) (fun _ => pc_bn (fun s20 e20 => ?_)))))))))))))
  have v0 := mVol_y e6 c1
  have k1 : 0 ≤ p1 ∧ p1 ≤ 999 := by
    rcases m_isIn r11 e11 with ⟨_, a⟩ | ⟨a, _⟩
    · exact a
    · exact absurd a c2
  have g := (rs0_write (JI_GA hJ v0.2.1) (RS0_rf hR) v0.1 v0.2.2 k1 s20 e20).2.1 49 (by omega)
  exact pc_rg (pc_if (fun _ => pc_some g) (fun _ => pc_some g))
set_option maxHeartbeats 250000 in theorem r49_spread {t : MS} {p0 p1 : Int} (hR : Rr t) (hJ : JI t) : pc (m_x12_spread p0 p1 t) (fun o => gA o.2 49 = gA t 49) := by
  unfold m_x12_spread m_x12_spread_J14
  refine pc_rg (pc_bn (fun r6 e6 => pc_rg (pc_if (fun _ => pc_some rfl) (fun c1 => pc_rg (pc_if (fun _ => ?_) (fun _ => pc_some rfl))))))
  have v0 := mVol_y e6 c1
  have G := JI_GA hJ v0.2.1
  have L : ∀ (n : Nat) (f i : Int) (S : MS), RS0 t S → 0 ≤ i → pc (m_x12_spread_L21 n p0 p1 f i S) (fun o => gA o.2 49 = gA t 49) := by
    refine fr_ind (fun _ _ _ _ _ => pc_none) (fun n ih f i S hS hi => ?_)
    show pc (m_x12_spread_b21 (m_x12_spread_L21 n) p0 p1 f i S) _
    unfold m_x12_spread_b21 m_x12_spread_J46
    refine pc_rg (pc_if (fun _ => pc_some (hS.2.1 49 (by omega))) (fun c => pc_bn (fun s14 e14 => ?_)))
    have g := rs0_write G hS v0.1 v0.2.2 (p1 := i) (by omega) s14 e14
    exact pc_rg (pc_rg (pc_if (fun _ => ih _ _ _ g (by omega)) (fun _ => ih _ _ _ g (by omega))))
  exact L FU 0 0 t (RS0_rf hR) (Int.le_refl 0)
set_option maxHeartbeats 250000 in theorem r49_volume {t : MS} {p0 p1 : Int} (hR : Rr t) (hJ : JI t) (h1 : R2 p1) : pc (m_x12_volume p0 p1 t) (fun o => gA o.2 49 = gA t 49) := by
  unfold m_x12_volume m_x12_volume_J72 m_x12_volume_J96
  refine pc_rg (pc_bn (fun r7 e7 => pc_rg (pc_if (fun _ => pc_some rfl) (fun c1 => pc_rdI (fun _ => pc_bn (fun s12 e12 => ?_))))))
  obtain ⟨v0, t47, n255⟩ := mVol_y e7 c1
  have G := JI_GA hJ t47
  have r := GA_rt G (v := p0.toNat) (by omega) n255
  have F : F_x12_laysTree t s12 := fr_x12_laysTree e12
  have f : gA s12 49 = gA t 49 := F.2.1 49 (by decide)
  have R12 := (wp_det (mt_laysTree hR G.1.1.1 (by show (-2147483648 : Int) ≤ _ ∧ _ ≤ (2147483647 : Int); omega) (fun h9 => by
    have z := RT_tree (u := p0.toNat) G.1.1.1 (by omega) (by omega) (by omega)
    have z2 := RT_root (u := p0.toNat) G.1.1.1 (by omega) (by omega) (by omega)
    exact ⟨by omega, z⟩)) e12).1
  have S12 : RS0 t s12 := ⟨R12, fun k hk => F.2.1 k (by simp; omega), fun k hk => F.1 k (by simp; omega)⟩
  refine pc_rg (pc_if (fun _ => pc_rg (pc_if (fun _ => pc_some f) (fun _ => pc_some f))) (fun _ => pc_if (fun _ => pc_some f) (fun _ => pc_if (fun _ => pc_rg (pc_if (fun _ => pc_some f) (fun _ => pc_bn (fun r22 _ => pc_some f)))) (fun _ => pc_if (fun _ => pc_some f) (fun _ => pc_if (fun _ => pc_bn (fun q e => pc_some ?_)) (fun _ => pc_some f))))))
  exact (rs0_drop G S12 v0 n255 q e).2.1 49 (by omega)
set_option maxHeartbeats 250000 in theorem r49_victim {t : MS} {p0 : Int} (hR : Rr t) (hJ : JI t) : pc (m_x12_victim p0 t) (fun o => gA o.2 49 = gA t 49) := by
  unfold m_x12_victim
  refine pc_rg (pc_bn (fun r _ => pc_rg (pc_if (fun _ => pc_some rfl) (fun _ => ?_))))
  have L : ∀ (n : Nat) (x3 x4 x5 x6 : Int) (S : MS), RS0 t S → pc (m_x12_victim_L19 n x3 x4 x5 x6 S) (fun o => gA o.2 49 = gA t 49) := by
    refine fr_ind (fun _ _ _ _ _ _ => pc_none) (fun n ih x3 x4 x5 x6 S hS => ?_)
    show pc (m_x12_victim_b19 (m_x12_victim_L19 n) x3 x4 x5 x6 S) _
    unfold m_x12_victim_b19 m_x12_victim_J78
    have f := hS.2.1 49 (by omega)
    have J46 : ∀ (a b c d e : Int) (X : MS), RS0 t X → pc (m_x12_victim_J46 (m_x12_victim_L19 n) a b c d e X) (fun o => gA o.2 49 = gA t 49) := fun a b c d e X hX => by
      unfold m_x12_victim_J46 m_x12_victim_J63
      exact pc_rg (pc_rg (pc_if (fun _ => ih _ _ _ _ _ hX) (fun _ => ih _ _ _ _ _ hX)))
    refine pc_rg (pc_if (fun _ => pc_rg (pc_if (fun _ => pc_some f) (fun _ => pc_some f))) (fun _ => pc_rg (pc_bn (fun r28 e28 => pc_rg (pc_if (fun _ => J46 _ _ _ _ _ S hS) (fun c => pc_bn (fun q e => J46 _ _ _ _ _ q.2 ?_)))))))
    obtain ⟨v0, t47, n255⟩ := mVol_y e28 c
    rw [f] at n255
    exact rs0_drop (JI_GA hJ (by rw [← hS.2.2 47 (by omega)]; exact t47)) hS v0 n255 q e
  exact L FU _ _ _ _ t (RS0_rf hR)
/-! see -/
set_option maxHeartbeats 250000 in theorem s_see3 {s : MS} : pc (m_x11_see s) (fun q => (q.1 = -1 ∧ gA q.2 2 = upZ (gA s 2) 1 (gA s 2 1 + 1)) ∨ (q.1 = gI q.2 220 ∧ gA q.2 2 = gA s 2)) := by
  unfold m_x11_see m_x11_see_J39
  refine pc_bn (fun q5 e5 => pc_stn (fun s6 e6 => pc_rg (pc_if (fun _ => pc_bn (fun q11 e11 => pc_some (Or.inl ?_))) (fun _ => pc_some (Or.inr ?_)))))
  · have F5 : F_x7_take s q5.2 := fr_x7_take e5
    have e : gA s6 2 = gA s 2 := (q_Ia e6 : gA s6 2 = gA q5.2 2).trans (F5.2.1 2 (by decide))
    have g1 : pc (m_x11_refuse 1 s6) (fun q => q.1 = -1) := by
      unfold m_x11_refuse
      exact pc_rdI (fun _ => pc_inb (pc_stn (fun s3 _ => pc_some rfl)))
    have u := s_rf2 q11 e11
    refine ⟨g1 q11 e11, ?_⟩
    rw [e] at u
    exact u
  · have F5 : F_x7_take s q5.2 := fr_x7_take e5
    exact ⟨rfl, (q_Ia e6 : gA s6 2 = gA q5.2 2).trans (F5.2.1 2 (by decide))⟩
set_option maxHeartbeats 250000 in theorem m_see3 {t : MS} : pc (m_x12_see t) (fun o => (o.1 = -1 ∧ gA o.2 9 = upZ (gA t 9) 1 (gA t 9 1 + 1)) ∨ (o.1 = gI o.2 73 ∧ gA o.2 9 = gA t 9)) := by
  have L121 : ∀ (n : Nat) (x1 x2 : Int) (S : MS), gA S 9 = gA t 9 → pc (m_x12_see_L121 n x1 x2 S) (fun o => (o.1 = -1 ∧ gA o.2 9 = upZ (gA t 9) 1 (gA t 9 1 + 1)) ∨ (o.1 = gI o.2 73 ∧ gA o.2 9 = gA t 9)) := by
    refine fr_ind (fun _ _ _ _ => pc_none) (fun n ih x1 x2 S h => ?_)
    show pc (m_x12_see_b121 (m_x12_see_L121 n) x1 x2 S) _
    unfold m_x12_see_b121
    exact pc_dv (pc_rg (pc_rg (pc_if (fun _ => pc_dv (pc_stn (fun s9 e9 => pc_some (Or.inr ⟨rfl, (q_Ia e9 : gA s9 9 = gA S 9).trans h⟩)))) (fun _ => pc_rdI (fun _ => pc_rdI (fun _ => pc_inb (pc_stn (fun s13 e13 => ih _ _ _ ((q_Aa e13 (by decide) : gA s13 9 = gA S 9).trans h)))))))))
  have J109 : ∀ (x14 x15 : Int) (S : MS), gA S 9 = gA t 9 → pc (m_x12_see_J109 x14 x15 S) (fun o => (o.1 = -1 ∧ gA o.2 9 = upZ (gA t 9) 1 (gA t 9 1 + 1)) ∨ (o.1 = gI o.2 73 ∧ gA o.2 9 = gA t 9)) := fun x14 x15 S h => by
    unfold m_x12_see_J109
    refine pc_rg (pc_if (fun _ => pc_bn (fun q21 e21 => pc_some (Or.inl ?_))) (fun _ => L121 _ _ _ _ h))
    have g1 : pc (m_x12_refuses 1 S) (fun q => q.1 = -1) := by
      unfold m_x12_refuses
      exact pc_rdI (fun _ => pc_inb (pc_stn (fun s3 _ => pc_some rfl)))
    have u := m_rf9 q21 e21
    rw [h] at u
    exact ⟨g1 q21 e21, u⟩
  have L36 : ∀ (n : Nat) (x22 x23 x24 : Int) (S : MS), gA S 9 = gA t 9 → pc (m_x12_see_L36 n x22 x23 x24 S) (fun o => (o.1 = -1 ∧ gA o.2 9 = upZ (gA t 9) 1 (gA t 9 1 + 1)) ∨ (o.1 = gI o.2 73 ∧ gA o.2 9 = gA t 9)) := by
    refine fr_ind (fun _ _ _ _ _ => pc_none) (fun n ih x22 x23 x24 S h => ?_)
    show pc (m_x12_see_b36 (m_x12_see_L36 n) x22 x23 x24 S) _
    unfold m_x12_see_b36 m_x12_see_J101 m_x12_see_J102
    exact pc_rg (pc_rg (pc_if (fun _ => J109 _ _ _ h) (fun _ => pc_rg (pc_if (fun _ => J109 _ _ _ h) (fun _ => pc_rdI (fun _ => pc_rdI (fun _ => pc_rg (pc_if (fun _ => ih _ _ _ _ h) (fun _ => pc_rdI (fun _ => pc_rdI (fun _ => pc_rg (pc_if (fun _ => ih _ _ _ _ h) (fun _ => ih _ _ _ _ h)))))))))))))
  unfold m_x12_see m_x12_see_J32 m_x12_see_J33
  exact pc_stn (fun s51 e51 => by
    have h : gA s51 9 = gA t 9 := q_Ia e51
    exact pc_rg (pc_if (fun _ => L36 _ _ _ _ _ h) (fun _ => pc_dv (pc_rg (pc_if (fun _ => pc_dv (pc_rg (pc_if (fun _ => L36 _ _ _ _ _ h) (fun _ => L36 _ _ _ _ _ h)))) (fun _ => L36 _ _ _ _ _ h))))))
set_option maxHeartbeats 250000 in theorem y_seeB {x t : MS} {ts : List MS} (hC : CI x ts) (hR : Rr t) (hJ : JI t) (hl : gI x 61 = gI t 1) (hT : TBJ x t) (B : BT x ts t) : pc (m_x11_see x) (fun q => pc (m_x12_see t) (fun o => q.1 = o.1 ∧ BT q.2 ts o.2)) := by
  intro q eq o eo
  have F1 : F_x11_see x q.2 := fr_x11_see eq
  have F2 : F_x12_see t o.2 := fr_x12_see eo
  have a : ZX x q.2 := ⟨fun k hk => F1.1 k (by simp; omega), fun k hk => F1.2.1 k (by simp; omega)⟩
  have b : ZY t o.2 := ⟨fun k hk => F2.1 k (by simp; omega), fun k hk => F2.2.1 k (by simp; omega), by rw [F2.2.1 39 (by decide)]⟩
  have E := see_alike hl hT (t_see1 hC.1 q eq) (t_see2 hR o eo)
  have g1 := (wp_det (c_see hC) eq).1.1.1 220
  have n1 : (0 : Int) ≤ gI q.2 220 := g1.1
  have g2 := (wp_det (w_x12_see hR hJ) eo).1.1 73
  have n2 : (0 : Int) ≤ gI o.2 73 := g2.1
  refine ⟨E, ?_⟩
  rcases s_see3 q eq with ⟨c1, c2⟩ | ⟨c1, c2⟩ <;> rcases m_see3 o eo with ⟨d1, d2⟩ | ⟨d1, d2⟩
  · exact BT_u B (p := 1) (by decide) a b (F1.1 983 (by decide)) c2 (F2.2.2.1 78 (by simp)) d2
  · exfalso; omega
  · exfalso; omega
  · exact BT_n B a b (F1.1 983 (by decide)) c2 (F2.2.2.1 78 (by simp)) d2
/-! ===== answers of reads: status, kept, room, read ===== -/
set_option maxHeartbeats 250000 in theorem y_status {x t : MS} {ts : List MS} {p : Int} (B : BT x ts t) : pc (m_x11_status p x) (fun r => pc (m_x12_status p t) (fun q => r = q)) := by
  have M : ∀ r : Int, (¬ (0 ≤ p ∧ p ≤ 5) → r = -1) → (0 ≤ p ∧ p ≤ 5 → r = gA x 2 p.toNat) → pc (m_x12_status p t) (fun q => r = q) := fun r h1 h2 => by
    unfold m_x12_status m_x12_status_J22
    refine pc_rg (pc_bn (fun r4 e4 => pc_rg (pc_if (fun c => pc_some ?_) (fun c => pc_rdI (fun hp => pc_some ?_)))))
    · rcases m_isIn r4 e4 with ⟨a, _⟩ | ⟨_, b⟩
      · omega
      · exact h1 b
    · rcases m_isIn r4 e4 with ⟨_, a⟩ | ⟨a, _⟩
      · rw [h2 a]; exact B.2.1 p.toNat (by omega)
      · exact absurd a c
  unfold m_x11_status m_x11_status_J19 m_x11_status_J20
  exact pc_rg (pc_if (fun c => pc_some (M _ (fun _ => rfl) (fun w => absurd w (by omega)))) (fun c => pc_rg (pc_if (fun c2 => pc_some (M _ (fun _ => rfl) (fun w => absurd w (by omega)))) (fun c2 => pc_rdI (fun _ => pc_some (M _ (fun w => absurd (show 0 ≤ p ∧ p ≤ 5 by omega) w) (fun _ => rfl)))))))
/- what was KEPT, by rows -/
set_option maxHeartbeats 250000 in theorem y_kept {x t : MS} {ts : List MS} {p0 p1 : Int} (B : BT x ts t) : pc (m_x11_kept p0 p1 x) (fun r => pc (m_x12_kept p0 p1 t) (fun q => r = q)) := by
  have K : ∃ n m : Nat, gI x 143 = (n : Int) ∧ gA t 49 785 = (m : Int) ∧ (m ≤ n ∧ m ≤ 40 ∧ (m = n ∨ m = 40)) ∧ ∀ k : Nat, k < m → gA t 49 (786 + 3 * k) = gA x 8 (n - m + k) ∧ gA t 49 (787 + 3 * k) = gA x 9 (n - m + k) ∧ gA t 49 (788 + 3 * k) = gA x 10 (n - m + k) := by
    by_cases z : gI x 12 = 0
    · obtain ⟨_, _, u3, _, u5, _⟩ := B.2.2.1 z
      exact ⟨0, 0, u3, u5, ⟨Nat.le_refl 0, by decide, Or.inl rfl⟩, fun k hk => absurd hk (by omega)⟩
    · obtain ⟨_, _, hH⟩ := B.2.2.2 z
      obtain ⟨_, n, d, h2, _, ⟨m, hm, h785, hr⟩, _⟩ := hH
      exact ⟨n, m, h2.1, h785, hm, hr⟩
  obtain ⟨n, m, e143, e785, ⟨m1, m2, m3⟩, KR⟩ := K
  have e785' : gA t 49 (Int.toNat 785) = (m : Int) := e785
  have T : pc (m_x2_toldRows x) (fun r => r = (m : Int)) := by
    unfold m_x2_toldRows
    refine pc_rg (pc_some ?_)
    rw [e143]
    unfold minZ
    split <;> omega
  have C : pc (m_x2_toldOf p0 p1 x) (fun r => (∃ k : Nat, k < m ∧ p0 = (k : Int) ∧ ((p1 = 0 ∧ r = gA x 8 (n - m + k)) ∨ (p1 = 1 ∧ r = gA x 9 (n - m + k)) ∨ (p1 = 2 ∧ r = gA x 10 (n - m + k)))) ∨ (¬ ((0 ≤ p0 ∧ p0 < (m : Int)) ∧ 0 ≤ p1 ∧ p1 ≤ 2) ∧ r = -1)) := by
    have ix : ∀ r9 : Int, r9 = (m : Int) → 0 ≤ p0 → (gI x 143 - r9 + p0).toNat = n - m + p0.toNat := fun r9 h h0 => by omega
    unfold m_x2_toldOf m_x2_toldOf_J12
    refine pc_rg (pc_if (fun c => pc_some (Or.inr ⟨fun w => by omega, rfl⟩)) (fun c => pc_bq T (fun r4 h4 => pc_rg (pc_rg (pc_if (fun c2 => pc_bq T (fun r9 h9 => pc_rg (pc_if (fun c3 => pc_rdI (fun _ => pc_some (Or.inl ⟨p0.toNat, by omega, by omega, Or.inl ⟨c3, ?_⟩⟩))) (fun c3 => pc_if (fun c4 => pc_rdI (fun _ => pc_some (Or.inl ⟨p0.toNat, by omega, by omega, Or.inr (Or.inl ⟨c4, ?_⟩)⟩))) (fun c4 => pc_if (fun c5 => pc_rdI (fun _ => pc_some (Or.inl ⟨p0.toNat, by omega, by omega, Or.inr (Or.inr ⟨c5, ?_⟩)⟩))) (fun c5 => pc_some (Or.inr ⟨fun w => by omega, rfl⟩))))))) (fun c2 => pc_some (Or.inr ⟨fun w => by omega, rfl⟩)))))))
    all_goals rw [ix r9 h9 (by omega)]
  unfold m_x11_kept
  refine pc_bq C (fun r hr => pc_some ?_)
  unfold m_x12_kept m_x12_kept_J49 m_x12_kept_J50
  refine pc_rg (pc_rdI (fun _ => pc_rg (pc_bn (fun r6 e6 => pc_rg (pc_if (fun c => pc_some ?_) (fun c => pc_rg (pc_bn (fun r11 e11 => pc_rg (pc_if (fun c2 => pc_some ?_) (fun c2 => pc_rdI (fun _ => pc_some ?_))))))))))) 
  · rcases m_isIn r6 e6 with ⟨a, _⟩ | ⟨_, b⟩
    · exact absurd c (by omega)
    · rcases hr with ⟨k, hk, hp, _⟩ | ⟨_, h⟩
      · exact absurd (show 0 ≤ p0 ∧ p0 ≤ gA t 49 (Int.toNat 785) - 1 by omega) b
      · exact h
  · rcases m_isIn r11 e11 with ⟨a, _⟩ | ⟨_, b⟩
    · exact absurd c2 (by omega)
    · rcases hr with ⟨k, hk, hp, w⟩ | ⟨_, h⟩
      · exact absurd (show 0 ≤ p1 ∧ p1 ≤ 2 by rcases w with w | w | w <;> have := w.1 <;> omega) b
      · exact h
  · have i6 : 0 ≤ p0 ∧ p0 ≤ gA t 49 (Int.toNat 785) - 1 := by
      rcases m_isIn r6 e6 with ⟨_, a⟩ | ⟨a, _⟩
      · exact a
      · exact absurd a c
    have i11 : 0 ≤ p1 ∧ p1 ≤ 2 := by
      rcases m_isIn r11 e11 with ⟨_, a⟩ | ⟨a, _⟩
      · exact a
      · exact absurd a c2
    rcases hr with ⟨k, hk, hp, w⟩ | ⟨w, _⟩
    · rcases w with ⟨a, b⟩ | ⟨a, b⟩ | ⟨a, b⟩
      · rw [b, ← (KR k hk).1, show (786 + 3 * p0 + p1).toNat = 786 + 3 * k by omega]
      · rw [b, ← (KR k hk).2.1, show (786 + 3 * p0 + p1).toNat = 787 + 3 * k by omega]
      · rw [b, ← (KR k hk).2.2, show (786 + 3 * p0 + p1).toNat = 788 + 3 * k by omega]
    · exact absurd ⟨by omega, i11⟩ w
/- the trees as both sides hold them between calls -/
set_option maxHeartbeats 250000 in theorem BT_T {s t : MS} {ts : List MS} (hJ : JI t) (B : BT s ts t) (h47 : gI t 47 = gI s 12) (z : gI s 12 ≠ 0) : ∃ (π σ : Nat → Nat) (lo hi : Nat → Int), TRf π σ (gI s 1060) s 54 (gA t 49) ∧ OI t lo hi ∧ gI s 1060 = gA t 39 5 ∧ GA t ∧ KLV t ∧ CC π σ s t := by
  obtain ⟨N, ⟨π, σ, lo, hi, H, O⟩, _⟩ := B.2.2.2 z
  have G := JI_GA hJ (by rw [h47]; exact z)
  exact ⟨π, σ, lo, hi, H, O, N, G, KLV_of G.1.1.1.1 (fun _ _ => Int.le_refl 0), CC_of H N G.1.1.1.1⟩
set_option maxHeartbeats 250000 in theorem m_room2 {t : MS} (hN : 0 ≤ gA t 39 5 ∧ gA t 39 5 ≤ 48) : pc (m_x12_room_L48 t FU 0 0) (fun r => r = cn (gA t 39 5) (fun b => if vM t b = 0 then 1 else 0)) := by
  have L : ∀ (n : Nat) (x1 x2 : Int), (0 ≤ x2 ∧ x2 ≤ gA t 39 5) → x1 = sm x2.toNat (fun b => if vM t b = 0 then 1 else 0) → pc (m_x12_room_L48 t n x1 x2) (fun r => r = cn (gA t 39 5) (fun b => if vM t b = 0 then 1 else 0)) := by
    refine fr_ind (fun _ _ _ _ => pc_none) (fun n ih x1 x2 h2 h1 => ?_)
    show pc (m_x12_room_b48 t (m_x12_room_L48 t n) x1 x2) _
    unfold m_x12_room_b48 m_x12_room_J67
    have st : sm (x2 + 1).toNat (fun b => if vM t b = 0 then (1 : Int) else 0) = sm x2.toNat (fun b => if vM t b = 0 then (1 : Int) else 0) + (if vM t x2.toNat = 0 then 1 else 0) := by
      rw [show (x2 + 1).toNat = x2.toNat + 1 by omega]; rfl
    refine pc_bq m_bm (fun r6 h6 => ?_)
    rw [h6]
    refine pc_rg (pc_rg (pc_if (fun c => pc_some ?_) (fun c => pc_bq (m_sav h2.1) (fun r11 h11 => pc_rg (pc_if (fun c2 => ih _ _ (by omega) ?_) (fun c2 => ih _ _ (by omega) ?_))))))
    · rw [h1, show x2 = gA t 39 5 by omega]; exact cn_sm hN.2
    · rw [st, if_pos (h11.symm.trans c2)]; omega
    · rw [st, if_neg (fun w => c2 (h11.trans w))]; omega
  exact L FU 0 0 ⟨Int.le_refl 0, hN.1⟩ rfl
set_option maxHeartbeats 250000 in theorem y_room {x t : MS} {ts : List MS} {p0 : Int} (hC : CI x ts) (hJ : JI t) (B : BT x ts t) (h47 : gI t 47 = gI x 12) : pc (m_x11_room p0 x) (fun r => pc (m_x12_room p0 t) (fun q => r = q)) := by
  unfold m_x11_room
  refine pc_rg (pc_if (fun c => pc_some ?_) (fun c => ?_))
  · unfold m_x12_room m_x12_room_J19
    exact pc_rg (pc_if (fun _ => pc_some rfl) (fun d => absurd (h47.trans c) d))
  obtain ⟨π, σ, lo, hi, H, O, N, G, hK, CCx⟩ := BT_T hJ B h47 c
  have hN : (0 : Int) ≤ gI x 1060 ∧ gI x 1060 ≤ 48 := hC.1.1 1060
  have hM : 0 ≤ gA t 39 5 ∧ gA t 39 5 ≤ 48 := JI_N hJ
  have t47 : ¬ gI t 47 = 0 := by rw [h47]; exact c
  have eU := CC_used CCx
  have eH := CC_held CCx
  have eK := CC_kept CCx
  have eZ : cn (gA t 39 5) (fun b => if vM t b = 0 then 1 else 0) + cn (gA t 39 5) (fun b => if 0 < vM t b then 1 else 0) = gA t 39 5 := by
    have e1 := cn_1 hM
    rw [← cn_add]
    refine (cn_c (fun b hb _ => ?_)).trans e1
    have v0 := (CCx.2.2 b hb).2.2
    show (if vM t b = 0 then (1 : Int) else 0) + (if 0 < vM t b then 1 else 0) = 1
    by_cases z : vM t b = 0
    · rw [if_pos z, if_neg (by omega)]; rfl
    · rw [if_neg z, if_pos (by omega)]; rfl
  have REF : ∀ r : Int, (p0 = 0 → r = gA t 39 5 - cn (gA t 39 5) (fun b => if 0 < cM t b then 1 else 0) - cn (gA t 39 5) (fun b => if cM t b ≤ 0 ∧ 0 < vM t b then 1 else 0)) → (p0 = 1 → r = gA t 39 5 - cn (gA t 39 5) (fun b => if 0 < cM t b then 1 else 0)) → (p0 = 2 → r = gA t 39 5 - cn (gA t 39 5) (fun b => if 0 < vM t b then 1 else 0)) → (¬ (0 ≤ p0 ∧ p0 ≤ 2) → r = -1) → pc (m_x12_room p0 t) (fun q => r = q) := fun r a0 a1 a2 a3 => by
    unfold m_x12_room m_x12_room_J19 m_x12_room_J42
    refine pc_rg (pc_if (fun d => absurd d t47) (fun _ => pc_rg (pc_bn (fun r20 e20 => pc_rg (pc_if (fun c2 => pc_some ?_) (fun c2 => ?_))))))
    · rcases m_isIn r20 e20 with ⟨a, _⟩ | ⟨_, b⟩
      · exact absurd c2 (by omega)
      · exact a3 b
    have i20 : 0 ≤ p0 ∧ p0 ≤ 2 := by
      rcases m_isIn r20 e20 with ⟨_, a⟩ | ⟨a, _⟩
      · exact a
      · exact absurd a c2
    refine pc_rg (pc_if (fun c3 => pc_mono (m_room2 hM) (fun q hq => ?_)) (fun c3 => pc_bq (m_free hM) (fun r26 h26 => pc_rg (pc_if (fun c4 => pc_some ?_) (fun c4 => pc_bq (m_heldN hM) (fun r30 h30 => pc_some ?_))))))
    · rw [a2 (by omega), hq]; omega
    · rw [a0 c4, h26]; omega
    · rw [a1 (by omega), h26, h30]; omega
  refine pc_rg (pc_if (fun c1 => pc_bq (s_used hN) (fun r6 h6 => pc_bq (s_held hN) (fun r8 h8 => pc_some (REF _ (fun _ => ?_) (fun z => ?_) (fun z => ?_) (fun z => ?_))))) (fun c1 => pc_if (fun c2 => pc_bq (s_used hN) (fun r11 h11 => pc_some (REF _ (fun z => ?_) (fun _ => ?_) (fun z => ?_) (fun z => ?_)))) (fun c2 => pc_if (fun c3 => pc_bq (s_kept hN) (fun r14 h14 => pc_some (REF _ (fun z => ?_) (fun z => ?_) (fun _ => ?_) (fun z => ?_)))) (fun c3 => pc_some (REF _ (fun z => absurd z c1) (fun z => absurd z c2) (fun z => absurd z c3) (fun _ => rfl))))))
  · rw [h6, h8, eU, eH, N]
  · omega
  · omega
  · omega
  · exact absurd z c1
  · rw [h11, eU, N]
  · omega
  · omega
  · exact absurd z c1
  · exact absurd z c2
  · rw [h14, eK, N]
  · omega
/- a KEY's VALUE in a VOLUME, between calls -/
set_option maxHeartbeats 250000 in theorem y_valB {s t : MS} {ts : List MS} (hJ : JI t) (B : BT s ts t) (h47 : gI t 47 = gI s 12) (z : gI s 12 ≠ 0) {v : Nat} (hv : v < 8) {key : Int} : pc (m_x8_valueAt (gA s 60 v) key s) (fun r => pc (m_x12_valueFrom (gA t 49 v) key t) (fun o => r = o)) := by
  obtain ⟨π, σ, lo, hi, H, O, N, G, hK, _⟩ := BT_T hJ B h47 z
  have n1 := n1_of G.1.1.1.1
  have lvr : 0 ≤ gA t 49 v → gA t 49 v < 48 → LV t (gA t 49 v).toNat := hK.2.2 v (by omega)
  exact fun r e => pc_mono (y_val (fun x hx l => H.2.2.1 x hx l) hK O n1 (H.2.2.2 v hv).1 lvr r e) (fun o ho => ho.1)
set_option maxHeartbeats 250000 in theorem y_read {x t : MS} {ts : List MS} {p0 p1 : Int} (hC : CI x ts) (hJ : JI t) (B : BT x ts t) (h47 : gI t 47 = gI x 12) : pc (m_x11_read p0 p1 x) (fun r => pc (m_x12_read p0 p1 t) (fun q => r = q)) := by
  have V := BT_V B hC h47
  unfold m_x11_read m_x11_read_J41
  refine pc_bn (fun r3 e3 => pc_rg (pc_if (fun c => pc_some ?_) (fun c => pc_rdI (fun _ => pc_bn (fun r8 e8 => pc_some ?_)))))
  · unfold m_x12_read m_x12_read_J19
    exact pc_rg (pc_bn (fun r4 e4 => pc_rg (pc_if (fun _ => pc_some rfl) (fun d => absurd ((y_isVol V e3 e4).1.symm.trans c) d))))
  · have v0 := isVol_y e3 c
    have ht := CI_told hC (v := p0.toNat) (by omega) v0.2
    have Y := y_valB hJ B h47 ht (v := p0.toNat) (by omega) (key := p1) r8 e8
    unfold m_x12_read m_x12_read_J19
    refine pc_rg (pc_bn (fun r4 e4 => pc_rg (pc_if (fun d => absurd ((y_isVol V e3 e4).1.trans d) c) (fun _ => pc_bn (fun r9 e9 => pc_some ?_)))))
    have g : pc (m_x12_valueOf p0 p1 t) (fun o => r8 = o) := by
      unfold m_x12_valueOf
      exact pc_rdI (fun _ => pc_bq Y (fun r h => pc_some h))
    exact g r9 e9
