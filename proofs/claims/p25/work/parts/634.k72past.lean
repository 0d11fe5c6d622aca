/-! ===== past states on both sides ===== -/
theorem TRf_rows {π σ : Nat → Nat} {N : Int} {s o : MS} {b : Nat} {f : Nat → Int} (H : TRf π σ N s b f) (kA : ∀ k, b ≤ k → k ≤ b + 7 → gA o k = gA s k) : TRf π σ N o b f := by
  obtain ⟨p, c, l, r⟩ := H
  have e1 : hB o b = hB s b := by
    unfold hB
    rw [kA (b + 2) (by omega) (by omega), kA (b + 3) (by omega) (by omega), kA (b + 5) (by omega) (by omega)]
  have e2 : kB o b = kB s b := by
    unfold kB
    rw [kA (b + 4) (by omega) (by omega)]
  refine ⟨p, fun x hx => ?_, fun x hx q => ?_, fun v hv => ?_⟩
  · rw [kA b (by omega) (by omega), kA (b + 1) (by omega) (by omega)]; exact c x hx
  · rw [e1, e2]; exact l x hx q
  · rw [kA (b + 6) (by omega) (by omega), kA (b + 7) (by omega) (by omega)]; exact r v hv
/-- the i-th state from the latest on -/
def PSJ (s : MS) (ts : List MS) (t : MS) (n d i : Nat) : Prop := ∃ X : MS, ts[d - 1 - i]? = some X ∧ gI X 1240 = gA t 39 5 ∧ (∃ π σ lo hi, TRf π σ (gI X 1240) X 63 (slot t ((gI t 77 - (i : Int)) % 20).toNat) ∧ OI (sA t 49 (slot t ((gI t 77 - (i : Int)) % 20).toNat)) lo hi) ∧ KP (gA s 8) (gA s 9) (gA s 10) (n - 1 - i) (slot t ((gI t 77 - (i : Int)) % 20).toNat)
def HJ (s : MS) (ts : List MS) (t : MS) : Prop := gI t 76 = gI s 145 ∧ ∃ n d : Nat, (gI s 143 = (n : Int) ∧ n ≤ 60) ∧ (gI s 145 = (d : Int) ∧ d ≤ 20 ∧ d ≤ n) ∧ KP (gA s 8) (gA s 9) (gA s 10) n (gA t 49) ∧ ∀ i : Nat, i < d → PSJ s ts t n d i
theorem HJ_k {s s' t t' : MS} {ts : List MS} (H : HJ s ts t) (a1 : gI s' 145 = gI s 145) (a2 : gI s' 143 = gI s 143) (a3 : ∀ k, k = 8 ∨ k = 9 ∨ k = 10 → gA s' k = gA s k) (b1 : gI t' 76 = gI t 76) (b2 : gI t' 77 = gI t 77) (b3 : gA t' 75 = gA t 75) (b4 : gA t' 39 = gA t 39) (b5 : ∀ i, 785 ≤ i → i < 906 → gA t' 49 i = gA t 49 i) : HJ s' ts t' := by
  obtain ⟨h1, n, d, h2, h3, h4, h5⟩ := H
  have sl : ∀ p, slot t' p = slot t p := fun p => by unfold slot; rw [b3]
  refine ⟨by rw [b1, a1]; exact h1, n, d, by rw [a2]; exact h2, by rw [a1]; exact h3, ?_, fun i hi => ?_⟩
  · rw [a3 8 (Or.inl rfl), a3 9 (by omega), a3 10 (by omega)]; exact KP_f h4 b5
  · obtain ⟨X, x1, x2, ⟨π, σ, lo, hi', x3, x4⟩, x5⟩ := h5 i hi
    refine ⟨X, x1, by rw [b4]; exact x2, ⟨π, σ, lo, hi', by rw [b2, sl]; exact x3, ?_⟩, ?_⟩
    · rw [b2, sl]
      exact OI_49 x4 rfl
    · rw [a3 8 (Or.inl rfl), a3 9 (by omega), a3 10 (by omega), b2, sl]; exact x5
theorem s_settle {s : MS} : pc (m_x1_settle s) (fun q => m_x1_wrote q.2 = some q.1) := by
  unfold m_x1_settle
  exact pc_bn (fun q3 _ => pc_rg (pc_stn (fun s5 _ => pc_bn (fun r7 e7 => pc_some e7))))
set_option maxHeartbeats 2000000 in
/-- an ACT ends on both sides -/
theorem y_fin {s0 s t0 t : MS} {ts : List MS} {a v : Int} {π σ : Nat → Nat} {lo hi f0 : Nat → Int} (hH : HJ s0 ts t0) (C1 : BC s0 s 54 63 1060 1240) (C2 : gI s 143 = gI s0 143 ∧ gI s 145 = gI s0 145) (C3 : ∀ k, k = 8 ∨ k = 9 ∨ k = 10 → gA s k = gA s0 k)
    (M1 : PSTm t0 t f0) (M2 : ∀ i, i < 906 → f0 i = gA t0 49 i) (M3 : ∀ i, 785 ≤ i → i < 906 → gA t 49 i = gA t0 49 i) (M4 : gA t 39 = gA t0 39) (r77 : 0 ≤ gI t0 77 ∧ gI t0 77 ≤ 19)
    (old : ∃ π σ lo hi, TRf π σ (gI s0 1060) s0 54 (gA t0 49) ∧ OI t0 lo hi) (oN : gI s0 1060 = gA t0 39 5) (oz : ∀ x, x < 48 → 0 < cR (gA t0 49) x ∨ 0 < vR (gA t0 49) x → (hR (gA t0 49)).2.1 x ≤ 6)
    (hl : gI s0 145 ≤ (ts.length : Int) ∧ ts.length ≤ 20) (h : SIM π σ s t) (O : OI t lo hi) (hRt : Rr t) (G : GN t) (h16 : 0 ≤ gA t 49 16 ∧ gA t 49 16 ≤ 999999) (h785 : 0 ≤ gA t 49 785 ∧ gA t 49 785 ≤ 40) (ha : R2 a) (hv : R2 v) :
    pc (m_finish a v s ts) (fun w => pc (m_x12_isKept a v t) (fun o => HJ w.2.1 w.2.2 o ∧ SIM π σ w.2.1 o ∧ OI o lo hi ∧ (∀ r, m_x12_writtenMany o = some r → w.1 = r) ∧ (∀ k, k < 1000 → k ≠ 143 → k ≠ 145 → gI w.2.1 k = gI s k) ∧ ∀ k, k < 50 → k ≠ 8 → k ≠ 9 → k ≠ 10 → gA w.2.1 k = gA s k)) := by
  obtain ⟨hd, n, d, ⟨n1, n2⟩, ⟨d1, d2, d3⟩, kp, past⟩ := hH
  unfold m_finish
  refine pc_bn (fun q1 e1 => pc_bn (fun s2 e2 => pc_bn (fun w ew => pc_some (fun o eo => ?_))))
  have F1 : F_x1_settle s q1.2 := fr_x1_settle e1
  have F2 : F_x2_keep q1.2 s2 := fr_x2_keep e2
  have FK : F_x12_isKept t o := fr_x12_isKept eo
  have b5 := G.2.1.1
  obtain ⟨_, K1, _, _⟩ := wp_det (w_x12_isKept hRt G ha hv h16 h785) eo
  obtain ⟨w', ew', KM⟩ := m_kept h785 o eo
  have H1 : SIM π σ q1.2 t := SIM_k h (fun k k1 k2 => F1.2.1 k (by simp; omega)) (F1.1 1060 (by decide)) (F1.2.2.1 1062 (by simp)) rfl rfl rfl
  have N1 : 0 ≤ gI q1.2 1060 ∧ gI q1.2 1060 ≤ 48 := by rw [H1.2.1]; omega
  have wn : q1.1 = w' := by
    rw [s_wrote N1 q1.1 (s_settle q1 e1), m_wroteN (by omega) w' ew']
    exact sim_wrote H1
  have q143 : gI q1.2 143 = (n : Int) := by rw [F1.1 143 (by decide), C2.1]; exact n1
  obtain ⟨n', en', KC⟩ := s_keep (n := n) q143 n2 s2 e2
  have arr : ∀ k, k = 8 ∨ k = 9 ∨ k = 10 → gA q1.2 k = gA s0 k := fun k hk => by rw [F1.2.1 k (by simp; omega)]; exact C3 k hk
  rw [arr 8 (Or.inl rfl), arr 9 (by omega), arr 10 (by omega)] at KC
  have s145 : gI s2 145 = (d : Int) := by rw [F2.1 145 (by decide), F1.1 145 (by decide), C2.2]; exact d1
  obtain ⟨d', ed', dd, kA, kI, kL, ⟨Y, yA, yI, yG⟩, yO⟩ := s_rem (d := d) s145 ⟨by omega, hl.2⟩ w ew
  have wA : ∀ k, k = 8 ∨ k = 9 ∨ k = 10 → gA w.1 k = gA s2 k := fun k hk => kA k (by omega)
  have o75 : gA o 75 = gA t 75 := FK.2.1 75 (by decide)
  have o77 : gI o 77 = gI t 77 := FK.1 77 (by decide)
  have o39 : gA o 39 = gA t0 39 := (FK.2.1 39 (by decide)).trans M4
  obtain ⟨m77, m76, m3, m4⟩ := M1
  have HS1 : SIM π σ w.1 t := SIM_k H1 (fun k k1 k2 => by rw [kA k (by omega), F2.2.1 k (by simp; omega)]) (by rw [kI 1060 (by omega) (by decide), F2.1 1060 (by decide)]) (by rw [kL 1062 (by omega), F2.2.2.1 1062 (by simp)]) rfl rfl rfl
  have o54 : ∀ x, x < 48 → gA o 54 x = gA t 54 x := fun x _ => by rw [FK.2.1 54 (by decide)]
  refine ⟨⟨?_, n', d', ⟨?_, ?_⟩, ⟨ed', ?_, ?_⟩, ?_, fun i hi => ?_⟩, sim_x HS1 K1 o54 (by rw [FK.2.1 39 (by decide)]), OI_16 O K1, fun r er => ?_, fun k k1 k2 k3 => ?_, fun k k1 k2 k3 k4 => ?_⟩
  · rw [FK.1 76 (by decide), m76, hd, d1]
    show (if (20 : Int) ≤ (d : Int) then (d : Int) else (d : Int) + 1) = gI w.1 145
    rw [ed']
    rcases dd with ⟨x, y⟩ | ⟨x, y⟩
    · rw [if_pos (by omega)]; omega
    · rw [if_neg (by omega)]; omega
  · rw [kI 143 (by omega) (by decide)]; exact en'
  · rcases KC with ⟨_, x, _⟩ | ⟨x, y, _⟩ <;> omega
  · rcases dd with ⟨x, y⟩ | ⟨x, y⟩ <;> omega
  · rcases KC with ⟨_, x, _⟩ | ⟨x, y, _⟩ <;> rcases dd with ⟨u, z⟩ | ⟨u, z⟩ <;> omega
  · show KP (gA w.1 8) (gA w.1 9) (gA w.1 10) n' (gA o 49)
    rw [wA 8 (Or.inl rfl), wA 9 (by omega), wA 10 (by omega)]
    rw [← wn] at KM
    exact KP_new (KP_f kp M3) KC KM
  · have KO : ∀ (m m' : Nat) (f : Nat → Int), KP (gA s0 8) (gA s0 9) (gA s0 10) m f → m ≤ n → ((n < 60 ∧ m' = m) ∨ (n = 60 ∧ m = m' + 1 ∧ 40 ≤ m' ∧ m' ≤ 59)) → KP (gA w.1 8) (gA w.1 9) (gA w.1 10) m' f := fun m m' f hk hm hc => by
      rw [wA 8 (Or.inl rfl), wA 9 (by omega), wA 10 (by omega)]
      rcases KC with ⟨c1, c2, c3, _⟩ | ⟨c1, c2, c3, _⟩
      · rcases hc with ⟨x, _⟩ | ⟨_, y, z, u⟩
        · omega
        · rw [y] at hk
          exact KP_sh hk z (fun j hj => c3 j (by omega))
      · rcases hc with ⟨_, x⟩ | ⟨x, _⟩
        · rw [x]
          exact KP_le hk (fun j hj => c3 j (by omega))
        · omega
    cases i with
    | zero =>
      have pos : ((gI o 77 - ((0 : Nat) : Int)) % 20).toNat = (gI t 77).toNat := by rw [o77]; omega
      have sl : ∀ k, k < 906 → slot o (gI t 77).toNat k = gA t0 49 k := fun k hk => by
        show gA o 75 (906 * (gI t 77).toNat + k) = gA t0 49 k
        rw [o75, m3 k hk, M2 k hk]
      obtain ⟨π0, σ0, lo0, hi0, old1, old2⟩ := old
      have y1240 : gI Y 1240 = gI s0 1060 := by rw [yI 1240 (by decide), F2.1 1240 (by decide), F1.1 1240 (by decide)]; exact C1.2.2.2.1
      refine ⟨Y, yG, by rw [y1240, oN, o39], ⟨π0, σ0, lo0, hi0, ?_, ?_⟩, ?_⟩
      · rw [pos, y1240]
        exact TRf_r (TRf_rows (TRf_c old1 C1 oz) (fun k k1 k2 => by rw [yA k, F2.2.1 k (by simp; omega), F1.2.1 k (by simp; omega)])) (fun k hk => sl k (by omega))
      · rw [pos]
        exact OI_785 old2 (fun k hk => sl k (by omega))
      · rw [pos]
        refine KO n (n' - 1 - 0) _ (KP_f kp (fun k _ hk => sl k hk)) (Nat.le_refl n) ?_
        rcases KC with ⟨c1, c2, _⟩ | ⟨c1, c2, _⟩
        · exact Or.inr ⟨c1, by omega, by omega, by omega⟩
        · exact Or.inl ⟨c1, by omega⟩
    | succ i =>
      have i1 : i < d ∧ i ≤ 18 := by rcases dd with ⟨x, y⟩ | ⟨x, y⟩ <;> omega
      obtain ⟨X, x1, x2, ⟨π0, σ0, lo0, hi0, x3, x4⟩, x5⟩ := past i i1.1
      obtain ⟨q, hq⟩ : ∃ q, q = ((gI t0 77 - (i : Int)) % 20).toNat := ⟨_, rfl⟩
      have pos : ((gI o 77 - ((i + 1 : Nat) : Int)) % 20).toNat = q := by rw [o77, m77, hq]; omega
      have qp : q ≠ (gI t 77).toNat := by rw [hq, m77]; omega
      have sl : ∀ k, k < 906 → slot o q k = slot t0 q k := fun k hk => by
        show gA o 75 (906 * q + k) = gA t0 75 (906 * q + k)
        rw [o75, m4 _ (by omega)]
      rw [← hq] at x3 x4 x5
      refine ⟨X, by rw [yO i hi]; exact x1, by rw [x2, o39], ⟨π0, σ0, lo0, hi0, ?_, ?_⟩, ?_⟩
      · rw [pos]; exact TRf_r x3 (fun k hk => sl k (by omega))
      · rw [pos]; exact OI_785 x4 (fun k hk => sl k (by omega))
      · rw [pos]
        refine KO (n - 1 - i) (n' - 1 - (i + 1)) _ (KP_f x5 (fun k _ hk => sl k hk)) (by omega) ?_
        rcases KC with ⟨c1, c2, _⟩ | ⟨c1, c2, _⟩
        · exact Or.inr ⟨c1, by omega, by omega, by omega⟩
        · exact Or.inl ⟨c1, by omega⟩
  · show q1.1 = r
    have cE : ∀ x, x < 48 → cM o x = cM t x := fun x hx => K1 (17 + 16 * x) (by omega) (by omega)
    rw [wn, m_wroteN (by omega) w' ew', m_wroteN (by rw [FK.2.1 39 (by decide)]; omega) r er, FK.2.1 39 (by decide), FK.2.1 54 (by decide)]
    refine cn_c (fun x hx _ => ?_)
    show (if gA t 54 x ≠ 0 ∧ 0 < cM t x then (1 : Int) else 0) = if gA t 54 x ≠ 0 ∧ 0 < cM o x then 1 else 0
    rw [cE x hx]
  · show gI w.1 k = gI s k
    rw [kI k (by omega) k3, F2.1 k (by simp; omega), F1.1 k (by simp; omega)]
  · show gA w.1 k = gA s k
    rw [kA k (by omega), F2.2.1 k (by simp; omega), F1.2.1 k (by simp; omega)]
/-! ===== an act that is tried, and kept ===== -/
def ASm (t X : MS) : Prop := (∀ k, k ≠ 61 → gA X k = gA t k) ∧ (∀ i, i < 785 → gA X 61 i = gA t 49 i) ∧ (∀ k, gI X k = gI t k) ∧ (∀ k, gL X k = gL t k) ∧ (Rr t → Rr X)
def SWm (q Y : MS) : Prop := (∀ i, i < 785 → gA Y 49 i = gA q 61 i ∧ gA Y 61 i = gA q 49 i) ∧ (∀ i, 785 ≤ i → gA Y 49 i = gA q 49 i) ∧ (∀ k, k ≠ 49 → k ≠ 61 → gA Y k = gA q k) ∧ (∀ k, gI Y k = gI q k) ∧ (∀ k, gL Y k = gL q k) ∧ (Rr q → Rr Y)
def RSm (Z o : MS) : Prop := (∀ i, i < 785 → gA o 49 i = gA Z 61 i) ∧ (∀ i, 785 ≤ i → gA o 49 i = gA Z 49 i) ∧ (∀ k, k ≠ 49 → gA o k = gA Z k) ∧ (∀ k, gI o k = gI Z k) ∧ (∀ k, gL o k = gL Z k)
theorem m_canBe {k v key val : Int} {t : MS} : pc (m_x12_canBe k v key val t) (fun o => ∃ X q, ASm t X ∧ m_x12_tries k v key val X = some q ∧ ((q.1 = 0 ∧ o = (0, q.2)) ∨ (q.1 ≠ 0 ∧ o.1 = 1 ∧ ∃ Y Z, SWm q.2 Y ∧ m_x12_keeps Y = some Z ∧ RSm Z o.2))) := by
  have L101 : ∀ (Z : MS) (n : Nat) (x : Int) (S : MS), (0 ≤ x ∧ x ≤ 785) → (∀ i : Nat, (i : Int) < x → gA S 49 i = gA Z 61 i) → (∀ i, 785 ≤ i → gA S 49 i = gA Z 49 i) → (∀ k, k ≠ 49 → gA S k = gA Z k) → (∀ k, gI S k = gI Z k) → (∀ k, gL S k = gL Z k) → pc (m_x12_canBe_L101 n x S) (fun o => o.1 = 1 ∧ RSm Z o.2) := fun Z => by
    refine fr_ind (fun _ _ _ _ _ _ _ _ => pc_none) (fun n ih x S hx h1 h2 h3 h4 h5 => ?_)
    show pc (m_x12_canBe_b101 (m_x12_canBe_L101 n) x S) _
    unfold m_x12_canBe_b101
    refine pc_rg (pc_if (fun c => pc_some ⟨rfl, fun i hi => h1 i (by omega), h2, h3, h4, h5⟩) (fun c => pc_rdI (fun _ => pc_inb (pc_stn (fun s7 e7 => ih (x + 1) s7 (by omega) (fun i hi => ?_) (fun i hi => by rw [(q_AA e7 : gA s7 49 = _), upZ_n (by omega)]; exact h2 i hi) (fun k hk => (q_Aa e7 hk).trans (h3 k hk)) (fun k => (q_Ai e7).trans (h4 k)) (fun k => (q_Al e7).trans (h5 k)))))))
    rw [(q_AA e7 : gA s7 49 = _)]
    by_cases z : i = x.toNat
    · rw [z, upZ_s, h3 61 (by decide)]
    · rw [upZ_n z]; exact h1 i (by omega)
  have L48 : ∀ (q : MS) (n : Nat) (x : Int) (S : MS), (0 ≤ x ∧ x ≤ 785) → (∀ i : Nat, (i : Int) < x → gA S 49 i = gA q 61 i ∧ gA S 61 i = gA q 49 i) → (∀ i : Nat, x ≤ (i : Int) → gA S 49 i = gA q 49 i ∧ gA S 61 i = gA q 61 i) → (∀ k, k ≠ 49 → k ≠ 61 → gA S k = gA q k) → (∀ k, gI S k = gI q k) → (∀ k, gL S k = gL q k) → (Rr q → Rr S) → pc (m_x12_canBe_L48 n x S) (fun o => o.1 = 1 ∧ ∃ Y Z, SWm q Y ∧ m_x12_keeps Y = some Z ∧ RSm Z o.2) := fun q => by
    refine fr_ind (fun _ _ _ _ _ _ _ _ _ => pc_none) (fun n ih x S hx h1 h2 h3 h4 h5 h6 => ?_)
    show pc (m_x12_canBe_b48 (m_x12_canBe_L48 n) x S) _
    unfold m_x12_canBe_b48
    refine pc_rg (pc_if (fun c => pc_bn (fun Z eZ => ?_)) (fun c => pc_rdI (fun _ => pc_rdI (fun _ => pc_inb (pc_stn (fun s17 e17 => pc_inb (pc_stn (fun s19 e19 => ?_))))))))
    · refine pc_mono (L101 Z FU 0 Z (by omega) (fun i hi => absurd hi (by omega)) (fun _ _ => rfl) (fun _ _ => rfl) (fun _ => rfl) (fun _ => rfl)) (fun o ho => ⟨ho.1, S, Z, ⟨fun i hi => h1 i (by omega), fun i hi => (h2 i (by omega)).1, h3, h4, h5, h6⟩, eZ, ho.2⟩)
    · have a17 : gA s17 49 = upZ (gA S 49) x.toNat (gA S 61 x.toNat) := q_AA e17
      have b17 : gA s17 61 = gA S 61 := q_Aa e17 (by decide)
      have a19 : gA s19 49 = gA s17 49 := q_Aa e19 (by decide)
      have b19 : gA s19 61 = upZ (gA S 61) x.toNat (gA S 49 x.toNat) := by rw [(q_AA e19 : gA s19 61 = _), b17]
      refine ih (x + 1) s19 (by omega) (fun i hi => ?_) (fun i hi => ?_) (fun k k1 k2 => (q_Aa e19 k2).trans ((q_Aa e17 k1).trans (h3 k k1 k2))) (fun k => (q_Ai e19).trans ((q_Ai e17).trans (h4 k))) (fun k => (q_Al e19).trans ((q_Al e17).trans (h5 k))) (fun hr => ?_)
      · rw [a19, a17, b19]
        by_cases z : i = x.toNat
        · rw [z, upZ_s, upZ_s]
          have w := h2 x.toNat (by omega)
          exact ⟨w.2, w.1⟩
        · rw [upZ_n z, upZ_n z]; exact h1 i (by omega)
      · rw [a19, a17, b19, upZ_n (by omega), upZ_n (by omega)]; exact h2 i (by omega)
      · have hS := h6 hr
        have r61 : R2 (gA S 61 x.toNat) := hS.2.1 61 x.toNat (by show x.toNat < 785; omega)
        have r49 : R2 (gA S 49 x.toNat) := R49 hS (by omega)
        have h17 : Rr s17 := e17 ▸ Rr.uAu hS (by show R2 (gA S 61 x.toNat); exact r61)
        exact e19 ▸ Rr.uAu h17 (by show R2 (gA S 49 x.toNat); exact r49)
  have L3 : ∀ (n : Nat) (x : Int) (S : MS), (0 ≤ x ∧ x ≤ 785) → (∀ k, k ≠ 61 → gA S k = gA t k) → (∀ i : Nat, (i : Int) < x → gA S 61 i = gA t 49 i) → (∀ k, gI S k = gI t k) → (∀ k, gL S k = gL t k) → (Rr t → Rr S) → pc (m_x12_canBe_L3 n k v key val x S) (fun o => ∃ X q, ASm t X ∧ m_x12_tries k v key val X = some q ∧ ((q.1 = 0 ∧ o = (0, q.2)) ∨ (q.1 ≠ 0 ∧ o.1 = 1 ∧ ∃ Y Z, SWm q.2 Y ∧ m_x12_keeps Y = some Z ∧ RSm Z o.2))) := by
    refine fr_ind (fun _ _ _ _ _ _ _ _ => pc_none) (fun n ih x S hx h1 h2 h4 h5 h6 => ?_)
    show pc (m_x12_canBe_b3 (m_x12_canBe_L3 n) k v key val x S) _
    unfold m_x12_canBe_b3
    refine pc_rg (pc_if (fun c => pc_bn (fun q30 e30 => ?_)) (fun c => pc_rdI (fun _ => pc_inb (pc_stn (fun s35 e35 => ?_)))))
    · have AS : ASm t S := ⟨h1, fun i hi => h2 i (by omega), h4, h5, h6⟩
      refine pc_rg (pc_if (fun c2 => pc_some ⟨S, q30, AS, e30, Or.inl ⟨c2, rfl⟩⟩) (fun c2 => pc_mono (L48 q30.2 FU 0 q30.2 (by omega) (fun i hi => absurd hi (by omega)) (fun _ _ => ⟨rfl, rfl⟩) (fun _ _ _ => rfl) (fun _ => rfl) (fun _ => rfl) id) (fun o ho => ⟨S, q30, AS, e30, Or.inr ⟨c2, ho.1, ho.2⟩⟩)))
    · refine ih (x + 1) s35 (by omega) (fun k hk => (q_Aa e35 hk).trans (h1 k hk)) (fun i hi => ?_) (fun k => (q_Ai e35).trans (h4 k)) (fun k => (q_Al e35).trans (h5 k)) (fun hr => e35 ▸ Rr.uAu (h6 hr) (by show R2 (gA S 49 x.toNat); exact R49 (h6 hr) (by omega)))
      rw [(q_AA e35 : gA s35 61 = _)]
      by_cases z : i = x.toNat
      · rw [z, upZ_s, h1 49 (by decide)]
      · rw [upZ_n z]; exact h2 i (by omega)
  unfold m_x12_canBe
  exact L3 FU 0 t (by omega) (fun _ _ => rfl) (fun i hi => absurd hi (by omega)) (fun _ => rfl) (fun _ => rfl) id
