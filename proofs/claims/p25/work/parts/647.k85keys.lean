/-! ===== values and keys of an image, with what a refusal says ===== -/
theorem m_laid {p i : Int} {S : MS} : pc (m_x12_laidOf p i S) (fun r => r = gA S 113 (17 + 16 * p + i).toNat) := by
  unfold m_x12_laidOf
  exact pc_rdI (fun _ => pc_some rfl)
theorem m_blkMany {S : MS} : pc (m_x12_blockMany S) (fun r => r = gA S 39 5) := by
  unfold m_x12_blockMany
  exact pc_rdI (fun _ => pc_some rfl)
theorem m_isBlk {p : Int} {S : MS} : pc (m_x12_isBlock p S) (fun r => (r = 1 ∧ 0 ≤ p ∧ p < gA S 39 5) ∨ (r = 0 ∧ ¬ (0 ≤ p ∧ p < gA S 39 5))) := by
  unfold m_x12_isBlock
  refine pc_bq m_blkMany (fun r2 h2 => pc_rg (pc_bq m_isIn (fun r5 h5 => pc_bo (pc_some ?_))))
  rw [h2] at h5
  rcases h5 with ⟨a, b⟩ | ⟨a, b⟩
  · exact Or.inl ⟨a, by omega⟩
  · exact Or.inr ⟨a, by omega⟩
theorem m_vals0 {b : Nat} {S : MS} {f : Nat → Int} {N : Int} (h113 : gA S 113 = f) (h5 : gA S 39 5 = N) : ∀ (n k : Nat), pc (m_x12_areValues_L2 S n (b : Int) (k : Int)) (fun r => r = 0 → ∃ j : Nat, (j : Int) < f (20 + 16 * b) ∧ ¬ AV1 f N b j) := by
  refine fr_ind (fun _ => pc_none) (fun n ih k => ?_)
  show pc (m_x12_areValues_b2 S (m_x12_areValues_L2 S n) (b : Int) (k : Int)) _
  unfold m_x12_areValues_b2 m_x12_areValues_J88 m_x12_areValues_J90
  refine pc_bq m_laid (fun r6 h6 => pc_rg (pc_rg (pc_if (fun c => pc_some (fun w => absurd w (by decide))) (fun c => pc_bq m_laid (fun r11 h11 => pc_bq m_laid (fun r13 h13 => ?_))))))
  rw [h113, show (17 + 16 * (b : Int) + 3).toNat = 20 + 16 * b by omega] at h6
  rw [h113, show (17 + 16 * (b : Int) + (10 + (k : Int))).toNat = 27 + 16 * b + k by omega] at h11
  rw [h113, show (17 + 16 * (b : Int) + 2).toNat = 19 + 16 * b by omega] at h13
  have NEXT : pc (m_x12_areValues_L2 S n (b : Int) ((k : Int) + 1)) (fun r => r = 0 → ∃ j : Nat, (j : Int) < f (20 + 16 * b) ∧ ¬ AV1 f N b j) := by
    rw [show ((k : Int) + 1) = ((k + 1 : Nat) : Int) by omega]
    exact ih (k + 1)
  have BAD : ¬ AV1 f N b k → pc (some (0 : Int)) (fun r => r = 0 → ∃ j : Nat, (j : Int) < f (20 + 16 * b) ∧ ¬ AV1 f N b j) := fun w => pc_some (fun _ => ⟨k, by omega, w⟩)
  refine pc_rg (pc_if (fun c2 => pc_rg (pc_bq m_isIn (fun r36 h36 => pc_rg (pc_if (fun c3 => BAD ?_) (fun _ => NEXT))))) (fun c2 => pc_rg (pc_bq m_isBlk (fun r18 h18 => pc_rg (pc_if (fun c3 => BAD ?_) (fun c3 => ?_))))))
  · intro w
    unfold AV1 at w
    rw [← h13, ← h11] at w
    rcases h36 with ⟨a, _⟩ | ⟨_, a⟩
    · exact absurd (a.symm.trans c3) (by decide)
    · rcases w with y | y
      · exact a ⟨y.2.1, y.2.2⟩
      · exact y.1 c2
  · intro w
    unfold AV1 at w
    rw [← h13, ← h11] at w
    rw [h5] at h18
    rcases h18 with ⟨a, _⟩ | ⟨_, a⟩
    · exact absurd (a.symm.trans c3) (by decide)
    · rcases w with y | y
      · exact c2 y.1
      · exact a y.2.1
  · rw [h5] at h18
    have in1 : 0 ≤ r11 ∧ r11 < N := by
      rcases h18 with ⟨_, a⟩ | ⟨a, _⟩
      · exact a
      · exact absurd a c3
    refine pc_bq m_laid (fun r22 h22 => pc_bq m_laid (fun r24 h24 => pc_rg (pc_if (fun c4 => BAD ?_) (fun c4 => pc_bq m_laid (fun r28 h28 => pc_bq m_laid (fun r30 h30 => pc_rg (pc_rg (pc_if (fun _ => NEXT) (fun c6 => BAD ?_)))))))))
    · intro w
      unfold AV1 at w
      rw [← h13, ← h11] at w
      rw [h113, show (17 + 16 * r11 + 0).toNat = 17 + 16 * r11.toNat by omega] at h22
      rw [h113, show (17 + 16 * r11 + 1).toNat = 18 + 16 * r11.toNat by omega] at h24
      rcases w with y | y
      · exact c2 y.1
      · exact y.2.2.1 (by rw [← h22, ← h24]; exact c4)
    · intro w
      unfold AV1 at w
      rw [← h13, ← h11] at w
      rw [h113, show (17 + 16 * r11 + 2).toNat = 19 + 16 * r11.toNat by omega] at h28
      rw [h113, show (17 + 16 * (b : Int) + 2).toNat = 19 + 16 * b by omega, ← h13] at h30
      rcases w with y | y
      · exact c2 y.1
      · exact c6 (by rw [h28, h30]; exact y.2.2.2)
theorem UK_rng {f : Nat → Int} {N E : Int} (H : IG f N E) : ∀ (L b : Nat), b < 48 → DLa f b → (hLa f).1 b = (L : Int) → ∀ z, Ukey f L b z → 0 ≤ z ∧ z ≤ 999 := by
  have hN := H.1
  intro L
  induction L with
  | zero =>
    intro b hb hd hl z hz
    obtain ⟨k, a, c⟩ := hz
    have t := (IG_there H hb hd).2.2.2 k a
    rw [c] at t; exact t
  | succ L ih =>
    intro b hb hd hl z hz
    obtain ⟨k, a, c⟩ := hz
    have kd := IG_kid (k := k) H hb hd (by omega) a
    exact ih _ (by omega) kd.2.2 (by omega) z c
theorem UK_up {f : Nat → Int} {N E : Int} {b k : Nat} (H : IG f N E) (hb : b < 48) (hd : DLa f b) (hl : 0 < (hLa f).1 b) (hk : (k : Int) < (hLa f).2.1 b) {z : Int} (h : UK f ((hLa f).2.2 b k).toNat z) : UK f b z := by
  obtain ⟨l, h1, h2⟩ := h
  have kd := IG_kid (k := k) H hb hd hl hk
  exact ⟨l + 1, by omega, k, hk, h2⟩
set_option maxHeartbeats 1000000 in
theorem m_betw0 {f : Nat → Int} {N E p1 p2 : Int} {b0 : Nat} (H : IG f N E) (hb0 : b0 < 48) (hd0 : DLa f b0) {S : MS} (h113 : gA S 113 = f) : pc (m_x12_areBetween (b0 : Int) p1 p2 S) (fun q => q.1 = 0 → ∃ z, UK f b0 z ∧ ¬ (p1 ≤ z ∧ z ≤ p2)) := by
  have hN := H.1
  have L10 : ∀ (n w : Nat) (T : MS), gA T 113 = f → (∀ j, j < w → (0 ≤ gA T 62 j ∧ gA T 62 j < 48) ∧ DLa f (gA T 62 j).toNat ∧ ∀ z, UK f (gA T 62 j).toNat z → UK f b0 z) → pc (m_x12_areBetween_L10 n p1 p2 (w : Int) T) (fun q => q.1 = 0 → ∃ z, UK f b0 z ∧ ¬ (p1 ≤ z ∧ z ≤ p2)) := by
    refine fr_ind (fun _ _ _ _ => pc_none) (fun n ih w T hT hst => ?_)
    show pc (m_x12_areBetween_b10 (m_x12_areBetween_L10 n) p1 p2 (w : Int) T) _
    unfold m_x12_areBetween_b10
    refine pc_rg (pc_if (fun _ => pc_some (fun z => absurd z (show ¬ ((1 : Int) = 0) by decide))) (fun c => pc_rdI (fun _ => ?_)))
    obtain ⟨w', hw'⟩ : ∃ w', w = w' + 1 := ⟨w - 1, by omega⟩
    rw [show ((w : Int) + (-1)) = ((w' : Nat) : Int) by omega, Int.toNat_natCast]
    obtain ⟨c1, c2, c3⟩ := hst w' (by omega)
    obtain ⟨x, hx⟩ : ∃ x : Nat, gA T 62 w' = (x : Int) := ⟨(gA T 62 w').toNat, by omega⟩
    rw [hx, Int.toNat_natCast] at c2 c3
    rw [hx]
    have hx48 : x < 48 := by omega
    have L30 : ∀ (m v k : Nat) (T : MS), gA T 113 = f → (∀ j, j < v → (0 ≤ gA T 62 j ∧ gA T 62 j < 48) ∧ DLa f (gA T 62 j).toNat ∧ ∀ z, UK f (gA T 62 j).toNat z → UK f b0 z) → pc (m_x12_areBetween_L30 (m_x12_areBetween_L10 n) m p1 p2 (v : Int) (x : Int) (k : Int) T) (fun q => q.1 = 0 → ∃ z, UK f b0 z ∧ ¬ (p1 ≤ z ∧ z ≤ p2)) := by
      refine fr_ind (fun _ _ _ _ _ => pc_none) (fun m ihm v k T hT hst => ?_)
      show pc (m_x12_areBetween_b30 (m_x12_areBetween_L10 n) (m_x12_areBetween_L30 (m_x12_areBetween_L10 n) m) p1 p2 (v : Int) (x : Int) (k : Int) T) _
      unfold m_x12_areBetween_b30 m_x12_areBetween_J96
      refine pc_bq m_laid (fun r18 h18 => pc_rg (pc_rg (pc_if (fun _ => ih v T hT hst) (fun c4 => pc_bq m_laid (fun r23 h23 => ?_)))))
      rw [hT, show (17 + 16 * (x : Int) + 3).toNat = 20 + 16 * x by omega] at h18
      rw [hT, show (17 + 16 * (x : Int) + 2).toNat = 19 + 16 * x by omega] at h23
      have hc : (hLa f).2.1 x = r18 := h18.symm
      have hl : (hLa f).1 x = r23 := h23.symm
      have t := IG_there H hx48 c2
      have k6 : k < 6 := by have := H.2.1; omega
      rw [show ((k : Int) + 1) = ((k + 1 : Nat) : Int) by omega]
      refine pc_rg (pc_if (fun c5 => pc_bq m_laid (fun r31 h31 => pc_rg (pc_rg (pc_rg (pc_bq m_isIn (fun r36 h36 => pc_rg (pc_if (fun c6 => pc_some (fun _ => ?_)) (fun _ => ihm v (k + 1) T hT hst)))))))) (fun c5 => pc_bq m_laid (fun r27 h27 => pc_inb (pc_stn (fun s29 e29 => ?_)))))
      · rw [hT, show (17 + 16 * (x : Int) + (4 + (k : Int))).toNat = 21 + 16 * x + k by omega] at h31
        have kz : kLa f x k = r31 := by
          show (if k < 6 then f (21 + 16 * x + k) else 0) = r31
          rw [if_pos k6]; exact h31.symm
        refine ⟨r31, c3 r31 ⟨0, by rw [hl, c5]; rfl, k, by omega, kz⟩, fun w => ?_⟩
        rcases h36 with ⟨a, _⟩ | ⟨_, a⟩
        · exact absurd (a.symm.trans c6) (by decide)
        · exact a w
      · rw [hT, show (17 + 16 * (x : Int) + (10 + (k : Int))).toNat = 27 + 16 * x + k by omega] at h27
        have ez : (hLa f).2.2 x k = r27 := by
          show (if k < 6 then f (27 + 16 * x + k) else 0) = r27
          rw [if_pos k6]; exact h27.symm
        have kd := IG_kid (k := k) H hx48 c2 (by omega) (by omega)
        rw [Int.toNat_natCast] at e29
        have k62 : gA s29 62 = upZ (gA T 62) v r27 := q_AA e29
        rw [show ((v : Int) + 1) = ((v + 1 : Nat) : Int) by omega]
        refine ihm (v + 1) (k + 1) s29 ((q_Aa e29 (by decide)).trans hT) (fun j hj => ?_)
        rw [k62]
        by_cases z : j = v
        · rw [z, upZ_s, ← ez]
          exact ⟨by omega, kd.2.2, fun y hy => c3 y (UK_up H hx48 c2 (by omega) (by omega) hy)⟩
        · rw [upZ_n z]; exact hst j (by omega)
    exact L30 FU w' 0 T hT (fun j hj => hst j (by omega))
  unfold m_x12_areBetween
  refine pc_inb (pc_stn (fun s43 e43 => ?_))
  have k62 : gA s43 62 = upZ (gA S 62) (Int.toNat 0) (b0 : Int) := q_AA e43
  refine L10 FU 1 s43 ((q_Aa e43 (by decide)).trans h113) (fun j hj => ?_)
  rw [k62, show j = Int.toNat 0 by (have : Int.toNat 0 = 0 := rfl); omega, upZ_s, Int.toNat_natCast]
  exact ⟨by omega, hd0, fun z h => h⟩
set_option maxHeartbeats 1000000 in
theorem m_keys0 {f : Nat → Int} {N E : Int} {b : Nat} (H : IG f N E) (hb : b < 48) (hd : DLa f b) {S : MS} (h113 : gA S 113 = f) : pc (m_x12_areKeys (b : Int) S) (fun q => q.1 = 0 → 0 < (hLa f).1 b ∧ ∃ k : Nat, (k : Int) < (hLa f).2.1 b ∧ ¬ KSe f b k) := by
  have hN := H.1
  have t := IG_there H hb hd
  have L9 : ∀ (n k : Nat) (T : MS), gA T 113 = f → pc (m_x12_areKeys_L9 n (b : Int) ((hLa f).2.1 b) (k : Int) T) (fun q => q.1 = 0 → 0 < (hLa f).1 b ∧ ∃ k : Nat, (k : Int) < (hLa f).2.1 b ∧ ¬ KSe f b k) := by
    refine fr_ind (fun _ _ _ => pc_none) (fun n ih k T hT => ?_)
    show pc (m_x12_areKeys_b9 (m_x12_areKeys_L9 n) (b : Int) ((hLa f).2.1 b) (k : Int) T) _
    unfold m_x12_areKeys_b9 m_x12_areKeys_J86
    refine pc_rg (pc_rg (pc_if (fun _ => pc_some (fun z => absurd z (show ¬ ((1 : Int) = 0) by decide))) (fun c => pc_bq m_laid (fun r33 h33 => pc_rg (pc_if (fun _ => pc_some (fun z => absurd z (show ¬ ((1 : Int) = 0) by decide))) (fun c2 => pc_bq m_laid (fun r37 h37 => ?_)))))))
    rw [hT, show (17 + 16 * (b : Int) + 2).toNat = 19 + 16 * b by omega] at h33
    have hl : (hLa f).1 b = r33 := h33.symm
    have k6 : k < 6 := by have := H.2.1; omega
    rw [hT, show (17 + 16 * (b : Int) + (10 + (k : Int))).toNat = 27 + 16 * b + k by omega] at h37
    have ez : (hLa f).2.2 b k = r37 := by
      show (if k < 6 then f (27 + 16 * b + k) else 0) = r37
      rw [if_pos k6]; exact h37.symm
    have kd := IG_kid (k := k) H hb hd (by omega) (by omega)
    rw [ez] at kd
    obtain ⟨x, hx⟩ : ∃ x : Nat, r37 = (x : Int) := ⟨r37.toNat, by omega⟩
    rw [hx, Int.toNat_natCast] at kd
    have kK : ∀ j, j < 6 → kLa f b j = f (21 + 16 * b + j) := fun j hj => if_pos hj
    have rng : ∀ z, UK f x z → 0 ≤ z ∧ z ≤ 999 := fun z hz => by
      obtain ⟨l, h1, h2⟩ := hz
      exact UK_rng H l x (by omega) kd.2.2 h1 z h2
    -- from the lower bound on
    have J49 : ∀ lo : Int, (∀ z, UK f x z → ¬ lo ≤ z → 0 < k ∧ z < kLa f b k) → pc (m_x12_areKeys_J49 (m_x12_areKeys_L9 n) (b : Int) ((hLa f).2.1 b) (k : Int) lo r37 T) (fun q => q.1 = 0 → 0 < (hLa f).1 b ∧ ∃ k : Nat, (k : Int) < (hLa f).2.1 b ∧ ¬ KSe f b k) := fun lo hlo => by
      have J72 : ∀ hi : Int, (∀ z, UK f x z → ¬ z ≤ hi → (k : Int) + 1 < (hLa f).2.1 b ∧ kLa f b (k + 1) ≤ z) → pc (m_x12_areKeys_J72 (m_x12_areKeys_L9 n) (b : Int) ((hLa f).2.1 b) (k : Int) hi lo r37 T) (fun q => q.1 = 0 → 0 < (hLa f).1 b ∧ ∃ k : Nat, (k : Int) < (hLa f).2.1 b ∧ ¬ KSe f b k) := fun hi hhi => by
        unfold m_x12_areKeys_J72
        refine pc_bn (fun q15 e15 => pc_rg (pc_if (fun c3 => pc_some (fun _ => ?_)) (fun _ => ?_)))
        · rw [hx] at e15
          obtain ⟨z, z1, z2⟩ := m_betw0 H (by omega) kd.2.2 hT q15 e15 c3
          refine ⟨by omega, k, by omega, fun w => ?_⟩
          have y := w z (by rw [ez, hx, Int.toNat_natCast]; exact z1)
          by_cases l : lo ≤ z
          · have h := hhi z z1 (fun u => z2 ⟨l, u⟩)
            have := y.2 h.1
            omega
          · have h := hlo z z1 l
            have := y.1 h.1
            omega
        · have F : F_x12_areBetween T q15.2 := fr_x12_areBetween e15
          rw [show ((k : Int) + 1) = ((k + 1 : Nat) : Int) by omega]
          exact ih (k + 1) q15.2 ((F.2.1 113 (by decide)).trans hT)
      unfold m_x12_areKeys_J49
      refine pc_rg (pc_rg (pc_if (fun c3 => J72 999 (fun z hz h => absurd (rng z hz).2 h)) (fun c3 => pc_bq m_laid (fun r28 h28 => J72 (r28 - 1) (fun z hz h => ⟨by omega, ?_⟩)))))
      rw [hT, show (17 + 16 * (b : Int) + (5 + (k : Int))).toNat = 21 + 16 * b + (k + 1) by omega] at h28
      rw [kK (k + 1) (by have := H.2.1; omega), ← h28]; omega
    refine pc_rg (pc_if (fun c3 => J49 0 (fun z hz h => absurd (rng z hz).1 h)) (fun c3 => pc_bq m_laid (fun r41 h41 => J49 r41 (fun z hz h => ⟨by omega, ?_⟩))))
    rw [hT, show (17 + 16 * (b : Int) + (4 + (k : Int))).toNat = 21 + 16 * b + k by omega] at h41
    rw [kK k k6, ← h41]; omega
  unfold m_x12_areKeys
  refine pc_bq m_laid (fun r43 h43 => ?_)
  rw [h113, show (17 + 16 * (b : Int) + 3).toNat = 20 + 16 * b by omega] at h43
  rw [show r43 = (hLa f).2.1 b from h43]
  exact L9 FU 0 S h113
/-- it answers 0 or 1 -/
theorem b_betw {p0 p1 p2 : Int} {S : MS} : pc (m_x12_areBetween p0 p1 p2 S) (fun q => q.1 = 0 ∨ q.1 = 1) := by
  have L10 : ∀ (n : Nat) (a b w : Int) (T : MS), pc (m_x12_areBetween_L10 n a b w T) (fun q => q.1 = 0 ∨ q.1 = 1) := by
    refine fr_ind (fun _ _ _ _ => pc_none) (fun n ih a b w T => ?_)
    show pc (m_x12_areBetween_b10 (m_x12_areBetween_L10 n) a b w T) _
    unfold m_x12_areBetween_b10
    have L30 : ∀ (m : Nat) (a b v x k : Int) (T : MS), pc (m_x12_areBetween_L30 (m_x12_areBetween_L10 n) m a b v x k T) (fun q => q.1 = 0 ∨ q.1 = 1) := by
      refine fr_ind (fun _ _ _ _ _ _ => pc_none) (fun m ihm a b v x k T => ?_)
      show pc (m_x12_areBetween_b30 (m_x12_areBetween_L10 n) (m_x12_areBetween_L30 (m_x12_areBetween_L10 n) m) a b v x k T) _
      unfold m_x12_areBetween_b30 m_x12_areBetween_J96
      exact pc_bn (fun _ _ => pc_rg (pc_rg (pc_if (fun _ => ih _ _ _ _) (fun _ => pc_bn (fun _ _ => pc_rg (pc_if (fun _ => pc_bn (fun _ _ => pc_rg (pc_rg (pc_rg (pc_bn (fun _ _ => pc_rg (pc_if (fun _ => pc_some (Or.inl rfl)) (fun _ => ihm _ _ _ _ _ _)))))))) (fun _ => pc_bn (fun _ _ => pc_inb (pc_stn (fun _ _ => ihm _ _ _ _ _ _))))))))))
    exact pc_rg (pc_if (fun _ => pc_some (Or.inr rfl)) (fun _ => pc_rdI (fun _ => L30 _ _ _ _ _ _ _)))
  unfold m_x12_areBetween
  exact pc_inb (pc_stn (fun _ _ => L10 _ _ _ _ _))
set_option maxHeartbeats 1000000 in
/-- all keys below lie between, if it says so -/
theorem m_betw1 {f : Nat → Int} {N E p1 p2 : Int} {b0 : Nat} (H : IG f N E) (hb0 : b0 < 48) (hd0 : DLa f b0) {S : MS} (h113 : gA S 113 = f) : pc (m_x12_areBetween (b0 : Int) p1 p2 S) (fun q => q.1 = 1 → ∀ z, UK f b0 z → p1 ≤ z ∧ z ≤ p2) := by
  have hN := H.1
  have L10 : ∀ (n w : Nat) (T : MS), gA T 113 = f → (∀ j, j < w → (0 ≤ gA T 62 j ∧ gA T 62 j < 48) ∧ DLa f (gA T 62 j).toNat) → (∀ z, UK f b0 z → (p1 ≤ z ∧ z ≤ p2) ∨ UW f (gA T 62) w z) → pc (m_x12_areBetween_L10 n p1 p2 (w : Int) T) (fun q => q.1 = 1 → ∀ z, UK f b0 z → p1 ≤ z ∧ z ≤ p2) := by
    refine fr_ind (fun _ _ _ _ _ => pc_none) (fun n ih w T hT hst hu => ?_)
    show pc (m_x12_areBetween_b10 (m_x12_areBetween_L10 n) p1 p2 (w : Int) T) _
    unfold m_x12_areBetween_b10
    refine pc_rg (pc_if (fun c => pc_some (fun _ z hz => ?_)) (fun c => pc_rdI (fun _ => ?_)))
    · rcases hu z hz with q | ⟨j, a, _⟩
      · exact q
      · exfalso; omega
    obtain ⟨w', hw'⟩ : ∃ w', w = w' + 1 := ⟨w - 1, by omega⟩
    rw [show ((w : Int) + (-1)) = ((w' : Nat) : Int) by omega, Int.toNat_natCast]
    obtain ⟨c1, c2⟩ := hst w' (by omega)
    obtain ⟨x, hx⟩ : ∃ x : Nat, gA T 62 w' = (x : Int) := ⟨(gA T 62 w').toNat, by omega⟩
    rw [hx, Int.toNat_natCast] at c2
    rw [hx]
    have hx48 : x < 48 := by omega
    have L30 : ∀ (m v k : Nat) (T : MS), gA T 113 = f → (∀ j, j < v → (0 ≤ gA T 62 j ∧ gA T 62 j < 48) ∧ DLa f (gA T 62 j).toNat) → (∀ z, UK f b0 z → (p1 ≤ z ∧ z ≤ p2) ∨ UW f (gA T 62) v z ∨ UR f x (k : Int) z) → pc (m_x12_areBetween_L30 (m_x12_areBetween_L10 n) m p1 p2 (v : Int) (x : Int) (k : Int) T) (fun q => q.1 = 1 → ∀ z, UK f b0 z → p1 ≤ z ∧ z ≤ p2) := by
      refine fr_ind (fun _ _ _ _ _ _ => pc_none) (fun m ihm v k T hT hst hu => ?_)
      show pc (m_x12_areBetween_b30 (m_x12_areBetween_L10 n) (m_x12_areBetween_L30 (m_x12_areBetween_L10 n) m) p1 p2 (v : Int) (x : Int) (k : Int) T) _
      unfold m_x12_areBetween_b30 m_x12_areBetween_J96
      refine pc_bq m_laid (fun r18 h18 => ?_)
      rw [hT, show (17 + 16 * (x : Int) + 3).toNat = 20 + 16 * x by omega] at h18
      have hc : (hLa f).2.1 x = r18 := h18.symm
      refine pc_rg (pc_rg (pc_if (fun c4 => ih v T hT hst (fun z hz => ?_)) (fun c4 => pc_bq m_laid (fun r23 h23 => ?_))))
      · rcases hu z hz with q | q | ⟨i, a, b, _⟩
        · exact Or.inl q
        · exact Or.inr q
        · exfalso; omega
      rw [hT, show (17 + 16 * (x : Int) + 2).toNat = 19 + 16 * x by omega] at h23
      have hl : (hLa f).1 x = r23 := h23.symm
      have t := IG_there H hx48 c2
      have k6 : k < 6 := by have := H.2.1; omega
      rw [show ((k : Int) + 1) = ((k + 1 : Nat) : Int) by omega]
      refine pc_rg (pc_if (fun c5 => pc_bq m_laid (fun r31 h31 => pc_rg (pc_rg (pc_rg (pc_bq m_isIn (fun r36 h36 => pc_rg (pc_if (fun c6 => pc_some (fun w => absurd w (show ¬ ((0 : Int) = 1) by decide))) (fun c6 => ihm v (k + 1) T hT hst (fun z hz => ?_)))))))))  (fun c5 => pc_bq m_laid (fun r27 h27 => pc_inb (pc_stn (fun s29 e29 => ?_)))))
      · rw [hT, show (17 + 16 * (x : Int) + (4 + (k : Int))).toNat = 21 + 16 * x + k by omega] at h31
        have kz : kLa f x k = r31 := by
          show (if k < 6 then f (21 + 16 * x + k) else 0) = r31
          rw [if_pos k6]; exact h31.symm
        rcases hu z hz with q | q | q
        · exact Or.inl q
        · exact Or.inr (Or.inl q)
        · rcases UR_step (by omega) q with y | y | y
          · exact Or.inr (Or.inr (by rw [show ((k + 1 : Nat) : Int) = (k : Int) + 1 by omega]; exact y))
          · rw [Int.toNat_natCast, kz] at y
            rcases h36 with ⟨_, a⟩ | ⟨a, _⟩
            · exact Or.inl (by rw [← y.2]; exact a)
            · exact absurd a c6
          · exfalso; omega
      · rw [hT, show (17 + 16 * (x : Int) + (10 + (k : Int))).toNat = 27 + 16 * x + k by omega] at h27
        have ez : (hLa f).2.2 x k = r27 := by
          show (if k < 6 then f (27 + 16 * x + k) else 0) = r27
          rw [if_pos k6]; exact h27.symm
        have kd := IG_kid (k := k) H hx48 c2 (by omega) (by omega)
        rw [Int.toNat_natCast] at e29
        have k62 : gA s29 62 = upZ (gA T 62) v r27 := q_AA e29
        rw [show ((v : Int) + 1) = ((v + 1 : Nat) : Int) by omega]
        refine ihm (v + 1) (k + 1) s29 ((q_Aa e29 (by decide)).trans hT) (fun j hj => ?_) (fun z hz => ?_)
        · rw [k62]
          by_cases z : j = v
          · rw [z, upZ_s, ← ez]
            exact ⟨by omega, kd.2.2⟩
          · rw [upZ_n z]; exact hst j (by omega)
        · rw [k62]
          rcases hu z hz with q | q | q
          · exact Or.inl q
          · exact Or.inr (Or.inl (UW_push (Or.inl q)))
          · rcases UR_step (by omega) q with y | y | y
            · exact Or.inr (Or.inr (by rw [show ((k + 1 : Nat) : Int) = (k : Int) + 1 by omega]; exact y))
            · exfalso; omega
            · rw [Int.toNat_natCast, ez] at y
              exact Or.inr (Or.inl (UW_push (Or.inr y.2)))
    refine L30 FU w' 0 T hT (fun j hj => hst j (by omega)) (fun z hz => ?_)
    rcases hu z hz with q | q
    · exact Or.inl q
    · rw [hw'] at q
      rcases UW_pop q with y | y
      · exact Or.inr (Or.inl y)
      · rw [hx, Int.toNat_natCast] at y
        exact Or.inr (Or.inr (UK_UR H hx48 c2 y))
  unfold m_x12_areBetween
  refine pc_inb (pc_stn (fun s43 e43 => ?_))
  have k62 : gA s43 62 = upZ (gA S 62) (Int.toNat 0) (b0 : Int) := q_AA e43
  have t0 : Int.toNat 0 = 0 := rfl
  rw [t0] at k62
  refine L10 FU 1 s43 ((q_Aa e43 (by decide)).trans h113) (fun j hj => ?_) (fun z hz => Or.inr ⟨0, by omega, ?_⟩)
  · rw [k62, show j = 0 by omega, upZ_s, Int.toNat_natCast]
    exact ⟨by omega, hd0⟩
  · rw [k62, upZ_s, Int.toNat_natCast]; exact hz
set_option maxHeartbeats 1000000 in
theorem m_keys1 {f : Nat → Int} {N E : Int} {b : Nat} (H : IG f N E) (hb : b < 48) (hd : DLa f b) (hlv : 0 < (hLa f).1 b) {S : MS} (h113 : gA S 113 = f) : pc (m_x12_areKeys (b : Int) S) (fun q => q.1 = 1 → ∀ k : Nat, (k : Int) < (hLa f).2.1 b → KSe f b k) := by
  have hN := H.1
  have t := IG_there H hb hd
  have L9 : ∀ (n k : Nat) (T : MS), gA T 113 = f → (∀ j : Nat, j < k → (j : Int) < (hLa f).2.1 b → KSe f b j) → pc (m_x12_areKeys_L9 n (b : Int) ((hLa f).2.1 b) (k : Int) T) (fun q => q.1 = 1 → ∀ k : Nat, (k : Int) < (hLa f).2.1 b → KSe f b k) := by
    refine fr_ind (fun _ _ _ _ => pc_none) (fun n ih k T hT hK => ?_)
    show pc (m_x12_areKeys_b9 (m_x12_areKeys_L9 n) (b : Int) ((hLa f).2.1 b) (k : Int) T) _
    unfold m_x12_areKeys_b9 m_x12_areKeys_J86
    refine pc_rg (pc_rg (pc_if (fun c => pc_some (fun _ j hj => hK j (by omega) hj)) (fun c => pc_bq m_laid (fun r33 h33 => ?_))))
    rw [hT, show (17 + 16 * (b : Int) + 2).toNat = 19 + 16 * b by omega] at h33
    have hl : (hLa f).1 b = r33 := h33.symm
    refine pc_rg (pc_if (fun c2 => absurd c2 (by omega)) (fun c2 => pc_bq m_laid (fun r37 h37 => ?_)))
    have k6 : k < 6 := by have := H.2.1; omega
    rw [hT, show (17 + 16 * (b : Int) + (10 + (k : Int))).toNat = 27 + 16 * b + k by omega] at h37
    have ez : (hLa f).2.2 b k = r37 := by
      show (if k < 6 then f (27 + 16 * b + k) else 0) = r37
      rw [if_pos k6]; exact h37.symm
    have kd := IG_kid (k := k) H hb hd hlv (by omega)
    rw [ez] at kd
    obtain ⟨x, hx⟩ : ∃ x : Nat, r37 = (x : Int) := ⟨r37.toNat, by omega⟩
    rw [hx, Int.toNat_natCast] at kd
    have kK : ∀ j, j < 6 → kLa f b j = f (21 + 16 * b + j) := fun j hj => if_pos hj
    have J49 : ∀ lo : Int, (0 < k → kLa f b k ≤ lo) → pc (m_x12_areKeys_J49 (m_x12_areKeys_L9 n) (b : Int) ((hLa f).2.1 b) (k : Int) lo r37 T) (fun q => q.1 = 1 → ∀ k : Nat, (k : Int) < (hLa f).2.1 b → KSe f b k) := fun lo hlo => by
      have J72 : ∀ hi : Int, ((k : Int) + 1 < (hLa f).2.1 b → hi < kLa f b (k + 1)) → pc (m_x12_areKeys_J72 (m_x12_areKeys_L9 n) (b : Int) ((hLa f).2.1 b) (k : Int) hi lo r37 T) (fun q => q.1 = 1 → ∀ k : Nat, (k : Int) < (hLa f).2.1 b → KSe f b k) := fun hi hhi => by
        unfold m_x12_areKeys_J72
        refine pc_bn (fun q15 e15 => pc_rg (pc_if (fun c3 => pc_some (fun w => absurd w (show ¬ ((0 : Int) = 1) by decide))) (fun c3 => ?_)))
        have F : F_x12_areBetween T q15.2 := fr_x12_areBetween e15
        rw [show ((k : Int) + 1) = ((k + 1 : Nat) : Int) by omega]
        refine ih (k + 1) q15.2 ((F.2.1 113 (by decide)).trans hT) (fun j hj hjc => ?_)
        by_cases z : j = k
        · rw [z]
          rw [hx] at e15
          have q1 : q15.1 = 1 := by
            have w : pc (m_x12_areBetween (x : Int) lo hi T) (fun q => q.1 = 0 ∨ q.1 = 1) := b_betw
            exact (w q15 e15).resolve_left c3
          have y := m_betw1 H (by omega) kd.2.2 hT q15 e15 q1
          intro z hz
          rw [ez, hx, Int.toNat_natCast] at hz
          have w := y z hz
          exact ⟨fun h => by have := hlo h; omega, fun h => by have := hhi h; omega⟩
        · exact hK j (by omega) hjc
      unfold m_x12_areKeys_J49
      refine pc_rg (pc_rg (pc_if (fun c3 => J72 999 (fun w => absurd w (by omega))) (fun c3 => pc_bq m_laid (fun r28 h28 => J72 (r28 - 1) (fun _ => ?_)))))
      rw [hT, show (17 + 16 * (b : Int) + (5 + (k : Int))).toNat = 21 + 16 * b + (k + 1) by omega] at h28
      rw [kK (k + 1) (by have := H.2.1; omega), ← h28]; omega
    refine pc_rg (pc_if (fun c3 => J49 0 (fun w => absurd w (by omega))) (fun c3 => pc_bq m_laid (fun r41 h41 => J49 r41 (fun _ => ?_))))
    rw [hT, show (17 + 16 * (b : Int) + (4 + (k : Int))).toNat = 21 + 16 * b + k by omega] at h41
    rw [kK k k6, ← h41]; exact Int.le_refl _
  unfold m_x12_areKeys
  refine pc_bq m_laid (fun r43 h43 => ?_)
  rw [h113, show (17 + 16 * (b : Int) + 3).toNat = 20 + 16 * b by omega] at h43
  rw [show r43 = (hLa f).2.1 b from h43]
  exact L9 FU 0 S h113 (fun j hj => absurd hj (by omega))
theorem b_keys {p : Int} {S : MS} : pc (m_x12_areKeys p S) (fun q => q.1 = 0 ∨ q.1 = 1) := by
  have L9 : ∀ (n : Nat) (a b k : Int) (T : MS), pc (m_x12_areKeys_L9 n a b k T) (fun q => q.1 = 0 ∨ q.1 = 1) := by
    refine fr_ind (fun _ _ _ _ => pc_none) (fun n ih a b k T => ?_)
    have J49 : ∀ (lo x : Int), pc (m_x12_areKeys_J49 (m_x12_areKeys_L9 n) a b k lo x T) (fun q => q.1 = 0 ∨ q.1 = 1) := fun lo x => by
      have J72 : ∀ hi : Int, pc (m_x12_areKeys_J72 (m_x12_areKeys_L9 n) a b k hi lo x T) (fun q => q.1 = 0 ∨ q.1 = 1) := fun hi => by
        unfold m_x12_areKeys_J72
        exact pc_bn (fun _ _ => pc_rg (pc_if (fun _ => pc_some (Or.inl rfl)) (fun _ => ih _ _ _ _)))
      unfold m_x12_areKeys_J49
      exact pc_rg (pc_rg (pc_if (fun _ => J72 _) (fun _ => pc_bn (fun _ _ => J72 _))))
    show pc (m_x12_areKeys_b9 (m_x12_areKeys_L9 n) a b k T) _
    unfold m_x12_areKeys_b9 m_x12_areKeys_J86
    exact pc_rg (pc_rg (pc_if (fun _ => pc_some (Or.inr rfl)) (fun _ => pc_bn (fun _ _ => pc_rg (pc_if (fun _ => pc_some (Or.inr rfl)) (fun _ => pc_bn (fun _ _ => pc_rg (pc_if (fun _ => J49 _ _) (fun _ => pc_bn (fun _ _ => J49 _ _))))))))))
  unfold m_x12_areKeys
  exact pc_bn (fun _ _ => L9 _ _ _ _ _)
