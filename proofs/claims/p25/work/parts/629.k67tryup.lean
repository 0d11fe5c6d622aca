/-! ===== what a KEY's VALUE is, on both sides ===== -/
theorem m_val0 {m b : Nat} {key : Int} {T : MS} (hl : (hM T).1 b ≤ 0) (hz : 0 ≤ (hM T).2.1 b ∧ (hM T).2.1 b ≤ 6) : pc (m_x12_valueFrom_L11 T (m + 1) key (b : Int)) (fun o => ∃ q, PI (kM T b) ((hM T).2.1 b) key q ∧ ((¬ (q < (hM T).2.1 b ∧ kM T b q.toNat = key) ∧ o = -1) ∨ ((q < (hM T).2.1 b ∧ kM T b q.toNat = key) ∧ o = (hM T).2.2 b q.toNat))) := by
  have tb : ((b : Nat) : Int).toNat = b := Int.toNat_natCast _
  show pc (m_x12_valueFrom_b11 T (m_x12_valueFrom_L11 T m) key (b : Int)) _
  unfold m_x12_valueFrom_b11 m_x12_valueFrom_J73 m_x12_valueFrom_J74
  refine pc_bq (m_lev (by omega)) (fun r5 h5 => ?_)
  try rw [tb] at h5
  refine pc_rg (pc_if (fun _ => pc_bq (m_placeIn (by omega) (by rw [tb]; exact hz)) (fun r9 h9 => pc_bq (m_ents (by omega)) (fun r11 h11 => ?_))) (fun c => absurd (by omega) c))
  try rw [tb] at h9
  try rw [tb] at h11
  rw [h11]
  have p0 := h9.1
  refine pc_rg (pc_rg (pc_if (fun c => pc_some ⟨r9, h9, Or.inl ⟨fun w => by omega, rfl⟩⟩) (fun c => pc_bq (m_key (by omega) ⟨p0.1, by omega⟩) (fun r16 h16 => ?_))))
  try rw [tb] at h16
  refine pc_rg (pc_rg (pc_if (fun c2 => pc_bq (m_val (by omega) ⟨p0.1, by omega⟩) (fun r21 h21 => pc_some ?_)) (fun c2 => pc_some ⟨r9, h9, Or.inl ⟨fun w => c2 (h16.trans w.2), rfl⟩⟩)))
  try rw [tb] at h21
  exact ⟨r9, h9, Or.inr ⟨⟨by omega, h16.symm.trans c2⟩, h21⟩⟩
theorem m_val1 {m b : Nat} {key : Int} {T : MS} {Q : Int → Prop} (hl : 0 < (hM T).1 b) (hz : 1 ≤ (hM T).2.1 b ∧ (hM T).2.1 b ≤ 6) (K : ∀ r, PF (kM T b) ((hM T).2.1 b) key r → pc (m_x12_valueFrom_L11 T m key ((hM T).2.2 b r.toNat)) Q) : pc (m_x12_valueFrom_L11 T (m + 1) key (b : Int)) Q := by
  have tb : ((b : Nat) : Int).toNat = b := Int.toNat_natCast _
  show pc (m_x12_valueFrom_b11 T (m_x12_valueFrom_L11 T m) key (b : Int)) _
  unfold m_x12_valueFrom_b11
  refine pc_bq (m_lev (by omega)) (fun r5 h5 => ?_)
  try rw [tb] at h5
  refine pc_rg (pc_if (fun c => absurd c (by omega)) (fun _ => pc_bq (m_placeFor (by omega) (by rw [tb]; exact hz.2)) (fun r23 h23 => ?_)))
  try rw [tb] at h23
  have r0 := h23.1
  have r1 := h23.2.1
  refine pc_bq (m_val (by omega) ⟨r0, by omega⟩) (fun r25 h25 => ?_)
  try rw [tb] at h25
  rw [h25]
  exact K r23 h23
theorem y_val_L {π σ : Nat → Nat} {s t : MS} {lo hj : Nat → Int} {key : Int} (h : SIM π σ s t) (hK : KLV t) (hO : OI t lo hj) (n1 : ∀ x, x < 48 → LV t x → 0 < (hM t).1 x → 1 ≤ (hM t).2.1 x) : ∀ (n m b i : Nat), b < 48 → LV t b → (hM t).1 b = (i : Int) → pc (m_x8_valueAt_L16 s n key (π b : Int) (i : Int)) (fun r => pc (m_x12_valueFrom_L11 t m key (b : Int)) (fun o => r = o ∧ (o ≠ -1 → HS t key i b))) := by
  refine fr_ind (fun _ _ _ _ _ _ => pc_none) (fun n ih m b i hb lb hl => ?_)
  cases m with
  | zero => exact fun q _ => pc_none
  | succ m =>
    have Bb := sim_b h hb lb
    have Kb := hK.2.1 b hb lb
    have sb := Kb.1.1.2.1
    have tp : ((π b : Nat) : Int).toNat = π b := Int.toNat_natCast _
    have z1 : gA s 57 (π b) = (hM t).2.1 b := Bb.2.1
    show pc (m_x8_valueAt_b16 s (m_x8_valueAt_L16 s n) key (π b : Int) (i : Int)) _
    unfold m_x8_valueAt_b16 m_x8_valueAt_J64 m_x8_below m_x8_slot
    refine pc_rg (pc_if (fun c => ?_) (fun c => ?_))
    · have i0 : i = 0 := by omega
      have so0 := ((hO b hb lb).2.1 (by omega)).1
      have e1 : ∀ k : Nat, (k : Int) < (hM t).2.1 b → kM t b k = gA s 58 (6 * π b + k) := fun k hk => ((Bb.2.2 k hk).1).symm
      have so1 : SO (fun k => gA s 58 (6 * π b + k)) 0 ((hM t).2.1 b) := fun x y _ xy yz => by
        show gA s 58 (6 * π b + x) < gA s 58 (6 * π b + y)
        rw [← e1 x (by omega), ← e1 y yz]
        exact so0 x y (Nat.zero_le _) xy yz
      refine pc_bq (s_find (by omega)) (fun r8 h8 => ?_)
      rw [tp, z1] at h8
      refine pc_rg (pc_if (fun c2 => pc_some (pc_mono (m_val0 (by omega) sb) (fun o ho => ?_))) (fun c2 => pc_bn (fun r12 e12 => ?_)))
      · obtain ⟨q, hq, w⟩ := ho
        rcases w with ⟨_, w2⟩ | ⟨w1, _⟩
        · exact ⟨w2.symm, fun z => absurd w2 z⟩
        · exfalso
          rcases FD_PI so1 e1 h8 hq with ⟨_, u2⟩ | ⟨_, u2, _⟩
          · exact u2 w1
          · omega
      · cases e12
        refine pc_rdI (fun _ => pc_some (pc_mono (m_val0 (by omega) sb) (fun o ho => ?_)))
        obtain ⟨q, hq, w⟩ := ho
        rcases FD_PI so1 e1 h8 hq with ⟨u1, _⟩ | ⟨u1, u2, u3, u4⟩
        · exact absurd u1 c2
        · rcases w with ⟨w1, _⟩ | ⟨w1, w2⟩
          · exact absurd ⟨by omega, u4⟩ w1
          · have ev := (Bb.2.2 q.toNat (by omega)).2.2 (by omega)
            have ev' : gA s 59 (6 * π b + q.toNat) = (hM t).2.2 b q.toNat := ev
            rw [show ((π b : Int) * 6 + r8).toNat = 6 * π b + q.toNat by omega, ev', w2]
            refine ⟨rfl, fun _ => ?_⟩
            rw [i0]
            exact ⟨q.toNat, by omega, u4⟩
    · have lev : 0 < (hM t).1 b := by omega
      have nb := n1 b hb lb lev
      obtain ⟨l, hl'⟩ : ∃ l, i = l + 1 := ⟨i - 1, by omega⟩
      refine pc_bn (fun r15 e15 => ?_)
      obtain ⟨r2, hEF, er⟩ : ∃ r2, EF (fun k => gA s 58 (6 * π b + k)) (gA s 57 (π b)) key r2 ∧ r15 = gA s 59 (6 * π b + r2.toNat) := by
        have g : pc (bn (m_x8_entryFor (π b : Int) key s) (fun r2 => bn (some ((π b : Int) * 6 + r2)) (fun r4 => rdI (gA s 59) 288 r4 (fun y5 => some y5)))) (fun r15 => ∃ r2, EF (fun k => gA s 58 (6 * π b + k)) (gA s 57 (π b)) key r2 ∧ r15 = gA s 59 (6 * π b + r2.toNat)) := by
          refine pc_bq (s_entryFor (by omega)) (fun r2 h2 => pc_bn (fun r4 e4 => ?_))
          cases e4
          try rw [tp] at h2
          have r0 := h2.1
          refine pc_rdI (fun _ => pc_some ⟨r2, h2, ?_⟩)
          rw [show ((π b : Int) * 6 + r2).toNat = 6 * π b + r2.toNat by omega]
        exact g r15 e15
      have r0 := hEF.1
      have r1 : r2 < (hM t).2.1 b := by
        rcases hEF.2.1 with w | w
        · omega
        · rw [← z1]; exact w.1
      have EFT : EF (kM t b) ((hM t).2.1 b) key r2 := by
        have q := EF_c (g := kM t b) (fun k hk => ((Bb.2.2 k (by rw [← z1]; exact hk)).1).symm) hEF
        rw [z1] at q; exact q
      have ev := (Bb.2.2 r2.toNat (by omega)).2.1 lev
      have ev' : gA s 59 (6 * π b + r2.toNat) = (π ((hM t).2.2 b r2.toNat).toNat : Int) := ev
      have kid := Kb.2 lev r2.toNat (by omega)
      have kidN := Kb.1.1.2.2 lev r2.toNat (by omega)
      obtain ⟨y, hy⟩ : ∃ y, y = ((hM t).2.2 b r2.toNat).toNat := ⟨_, rfl⟩
      rw [← hy] at ev' kid kidN
      have yv : (hM t).2.2 b r2.toNat = (y : Int) := by omega
      rw [er, ev', show (i : Int) + (-1) = (l : Int) by omega]
      intro q eq
      refine m_val1 lev ⟨nb, sb.2⟩ (fun r hPF => ?_)
      have rr2 : r = r2 := (EF_PF (OI_SO hO hK hb lb) (fun _ _ => rfl) EFT hPF).symm
      rw [rr2, yv]
      refine pc_mono (ih m y l (by omega) kid.2 (by omega) q eq) (fun o ho => ⟨ho.1, fun z => ?_⟩)
      rw [hl']
      refine ⟨r2.toNat, by omega, ?_, ?_⟩
      · rw [show ((r2.toNat : Nat) : Int) = r2 by omega, ← rr2]; exact hPF
      · rw [← hy]; exact ho.2 z
theorem y_val {π σ : Nat → Nat} {s t : MS} {lo hj : Nat → Int} {key r1 r2 : Int} (h : SIM π σ s t) (hK : KLV t) (hO : OI t lo hj) (n1 : ∀ x, x < 48 → LV t x → 0 < (hM t).1 x → 1 ≤ (hM t).2.1 x) (hr : rtr π r1 r2) (hl : 0 ≤ r2 → r2 < 48 → LV t r2.toNat) : pc (m_x8_valueAt r1 key s) (fun r => pc (m_x12_valueFrom r2 key t) (fun o => r = o ∧ (o ≠ -1 → (0 ≤ r2 ∧ r2 < 254) ∧ HS t key ((hM t).1 r2.toNat).toNat r2.toNat))) := by
  unfold m_x8_valueAt m_x12_valueFrom
  rcases hr with ⟨a, b⟩ | ⟨a, b⟩ | ⟨a, b, c⟩
  · refine pc_rg (pc_if (fun z => absurd z (by omega)) (fun _ => pc_some (pc_rg (pc_if (fun z => absurd z (by omega)) (fun _ => pc_some ⟨rfl, fun z => absurd rfl z⟩)))))
  · refine pc_rg (pc_if (fun z => absurd z (by omega)) (fun _ => pc_some (pc_rg (pc_if (fun z => absurd z (by omega)) (fun _ => pc_some ⟨rfl, fun z => absurd rfl z⟩)))))
  · obtain ⟨y, hy⟩ : ∃ y, y = r2.toNat := ⟨_, rfl⟩
    rw [← hy] at c hl ⊢
    have yi : r2 = (y : Int) := by omega
    have ly := hl a b
    have y48 : y < 48 := by omega
    have Bb := sim_b h y48 ly
    have l0 := (hK.2.1 y y48 ly).1.1.1
    have tp : ((π y : Nat) : Int).toNat = π y := Int.toNat_natCast _
    have e56 : gA s 56 (π y) = (((hM t).1 y).toNat : Int) := by
      have q : gA s 56 (π y) = (hM t).1 y := Bb.1
      omega
    rw [c, yi]
    refine pc_rg (pc_if (fun _ => pc_rdI (fun _ => ?_)) (fun z => absurd (by omega) z))
    rw [tp, e56]
    intro q eq
    refine pc_rg (pc_if (fun _ => ?_) (fun z => absurd (by omega) z))
    exact pc_mono (y_val_L h hK hO n1 FU FU y ((hM t).1 y).toNat y48 ly (by omega) q eq) (fun o ho => ⟨ho.1, fun z => ⟨⟨by omega, by omega⟩, ho.2 z⟩⟩)
/-! ===== to remove, tried ===== -/
theorem sim_785 {π σ : Nat → Nat} {s t o : MS} (h : SIM π σ s t) (e : ∀ i, i < 785 → gA o 49 i = gA t 49 i) (e54 : ∀ x, x < 48 → gA o 54 x = gA t 54 x) (e39 : gA o 39 5 = gA t 39 5) : SIM π σ s o := ⟨TRf_r h.1 e, by rw [e39]; exact h.2.1, fun x hx q => by
  have q' : 0 < cM t x := by
    have e' : cM o x = cM t x := e (17 + 16 * x) (by omega)
    rw [← e']; exact q
  rw [e54 x hx]; exact h.2.2 x hx q'⟩
/-- what was put by; that the key is there -/
def SV0 (t X : MS) : Prop := (∀ k, k ≠ 59 → k ≠ 60 → gA X k = gA t k) ∧ (∀ i, i < 785 → gA X 59 i = gA t 49 i) ∧ (∀ i, i < 48 → gA X 60 i = gA t 54 i) ∧ (∀ i, i ≠ 55 → gI X i = gI t i)
theorem m_tries3 {v : Nat} {key val : Int} {t : MS} : pc (m_x12_tries 3 (v : Int) key val t) (fun o => ∃ Z r, (gA Z 49 = gA t 49 ∧ gA Z 39 = gA t 39 ∧ gA Z 54 = gA t 54) ∧ m_x12_valueOf (v : Int) key Z = some r ∧ ((r = -1 ∧ o.1 = 0 ∧ ∃ X, SV0 t X ∧ BKm X o.2) ∨ (r ≠ -1 ∧ ∃ X Y, SVm t X ∧ m_x12_removes (v : Int) key X = some Y ∧ ((gI Y 55 = 0 ∧ o = (1, Y)) ∨ (gI Y 55 ≠ 0 ∧ o.1 = 0 ∧ BKm Y o.2))))) := by
  have L34 : ∀ (n : Nat) (x : Int) (S : MS), (0 ≤ x ∧ x ≤ 48) → (∀ k, k ≠ 59 → k ≠ 60 → gA S k = gA t k) → (∀ i, i < 785 → gA S 59 i = gA t 49 i) → (∀ i : Nat, (i : Int) < x → gA S 60 i = gA t 54 i) → (∀ i, gI S i = gI t i) → (Rr t → Rr S) → pc (m_x12_tries_L34 n 3 (v : Int) key val x S) (fun o => ∃ Z r, (gA Z 49 = gA t 49 ∧ gA Z 39 = gA t 39 ∧ gA Z 54 = gA t 54) ∧ m_x12_valueOf (v : Int) key Z = some r ∧ ((r = -1 ∧ o.1 = 0 ∧ ∃ X, SV0 t X ∧ BKm X o.2) ∨ (r ≠ -1 ∧ ∃ X Y, SVm t X ∧ m_x12_removes (v : Int) key X = some Y ∧ ((gI Y 55 = 0 ∧ o = (1, Y)) ∨ (gI Y 55 ≠ 0 ∧ o.1 = 0 ∧ BKm Y o.2))))) := by
    refine fr_ind (fun _ _ _ _ _ _ _ _ => pc_none) (fun n ih x S hx h1 h2 h3 h5 h6 => ?_)
    show pc (m_x12_tries_b34 (m_x12_tries_L34 n) 3 (v : Int) key val x S) _
    unfold m_x12_tries_b34 m_x12_tries_J81 m_x12_tries_J82 m_x12_tries_J108 m_x12_tries_J121
    refine pc_rg (pc_if (fun c => pc_rg (pc_if (fun _ => pc_bn (fun r57 e57 => pc_rg (pc_if (fun c2 => pc_bo (pc_stn (fun X eX => pc_rg (pc_if (fun c3 => absurd ((q_II eX).symm.trans c3) (by decide)) (fun _ => pc_rg (pc_if (fun c3 => absurd ((q_II eX).symm.trans c3) (by decide)) (fun _ => pc_rg (pc_if (fun c3 => absurd ((q_II eX).symm.trans c3) (by decide)) (fun _ => ?_)))))))) (fun c2 => pc_bo (pc_stn (fun X eX => pc_rg (pc_if (fun _ => pc_rg (pc_if (fun c4 => absurd c4 (by decide)) (fun _ => pc_rg (pc_if (fun _ => pc_bn (fun Y eY => ?_)) (fun c3 => absurd (q_II eX) c3))))) (fun c3 => absurd (q_II eX) c3)))))))) (fun c2 => absurd rfl c2))) (fun c => pc_rdI (fun _ => pc_inb (pc_bo2 (fun b01 => pc_stn (fun s63 e63 => ih (x + 1) s63 (by omega) (fun k k1 k2 => (q_Aa e63 k2).trans (h1 k k1 k2)) (fun i hi => by rw [(q_Aa e63 (by decide) : gA s63 59 = gA S 59)]; exact h2 i hi) (fun i hi => ?_) (fun i => (q_Ai e63).trans (h5 i)) (fun hr => e63 ▸ Rr.uAu (h6 hr) (by show (0 : Int) ≤ gA S 54 x.toNat ∧ gA S 54 x.toNat ≤ 1; omega)))))))))
    · have SX : SV0 t X := ⟨fun k k1 k2 => (q_Ia eX).trans (h1 k k1 k2), fun i hi => by rw [(q_Ia eX : gA X 59 = gA S 59)]; exact h2 i hi, fun i hi => by rw [(q_Ia eX : gA X 60 = gA S 60)]; exact h3 i (by omega), fun i hi => (q_Ii eX hi).trans (h5 i)⟩
      exact pc_mono m_back (fun o ho => ⟨S, r57, ⟨h1 49 (by decide) (by decide), h1 39 (by decide) (by decide), h1 54 (by decide) (by decide)⟩, e57, Or.inl ⟨c2, ho.1, X, SX, ho.2⟩⟩)
    · have SX : SVm t X := ⟨fun k k1 k2 => (q_Ia eX).trans (h1 k k1 k2), fun i hi => by rw [(q_Ia eX : gA X 59 = gA S 59)]; exact h2 i hi, fun i hi => by rw [(q_Ia eX : gA X 60 = gA S 60)]; exact h3 i (by omega), fun i hi => (q_Ii eX hi).trans (h5 i), q_II eX, fun hr => eX ▸ Rr.uI (h6 hr) (by show (0 : Int) ≤ 0 ∧ (0 : Int) ≤ 1; omega)⟩
      have Z0' : gA S 49 = gA t 49 ∧ gA S 39 = gA t 39 ∧ gA S 54 = gA t 54 := ⟨h1 49 (by decide) (by decide), h1 39 (by decide) (by decide), h1 54 (by decide) (by decide)⟩
      exact pc_rg (pc_if (fun c5 => pc_some ⟨S, r57, Z0', e57, Or.inr ⟨c2, X, Y, SX, eY, Or.inl ⟨c5, rfl⟩⟩⟩) (fun c5 => pc_mono m_back (fun o ho => ⟨S, r57, Z0', e57, Or.inr ⟨c2, X, Y, SX, eY, Or.inr ⟨c5, ho.1, ho.2⟩⟩⟩)))
    · rw [(q_AA e63 : gA s63 60 = _)]
      by_cases z : i = x.toNat
      · rw [z, upZ_s, h1 54 (by decide) (by decide)]
      · rw [upZ_n z]; exact h3 i (by omega)
  have L3 : ∀ (n : Nat) (x : Int) (S : MS), (0 ≤ x ∧ x ≤ 785) → (∀ k, k ≠ 59 → gA S k = gA t k) → (∀ i : Nat, (i : Int) < x → gA S 59 i = gA t 49 i) → (∀ i, gI S i = gI t i) → (Rr t → Rr S) → pc (m_x12_tries_L3 n 3 (v : Int) key val x S) (fun o => ∃ Z r, (gA Z 49 = gA t 49 ∧ gA Z 39 = gA t 39 ∧ gA Z 54 = gA t 54) ∧ m_x12_valueOf (v : Int) key Z = some r ∧ ((r = -1 ∧ o.1 = 0 ∧ ∃ X, SV0 t X ∧ BKm X o.2) ∨ (r ≠ -1 ∧ ∃ X Y, SVm t X ∧ m_x12_removes (v : Int) key X = some Y ∧ ((gI Y 55 = 0 ∧ o = (1, Y)) ∨ (gI Y 55 ≠ 0 ∧ o.1 = 0 ∧ BKm Y o.2))))) := by
    refine fr_ind (fun _ _ _ _ _ _ _ => pc_none) (fun n ih x S hx h1 h2 h5 h6 => ?_)
    show pc (m_x12_tries_b3 (m_x12_tries_L3 n) 3 (v : Int) key val x S) _
    unfold m_x12_tries_b3
    refine pc_rg (pc_if (fun c => L34 FU 0 S (by omega) (fun k k1 _ => h1 k k1) (fun i hi => h2 i (by omega)) (fun i hi => absurd hi (by omega)) h5 h6) (fun c => pc_rdI (fun _ => pc_inb (pc_stn (fun s74 e74 => ih (x + 1) s74 (by omega) (fun k hk => (q_Aa e74 hk).trans (h1 k hk)) (fun i hi => ?_) (fun i => (q_Ai e74).trans (h5 i)) (fun hr => e74 ▸ Rr.uAu (h6 hr) (by show R2 (gA S 49 x.toNat); exact R49 (h6 hr) (by omega))))))))
    rw [(q_AA e74 : gA s74 59 = _)]
    by_cases z : i = x.toNat
    · rw [z, upZ_s, h1 49 (by decide)]
    · rw [upZ_n z]; exact h2 i (by omega)
  unfold m_x12_tries
  exact L3 FU 0 t (by omega) (fun _ _ => rfl) (fun i hi => absurd hi (by omega)) (fun _ => rfl) id
theorem n1_of {t : MS} {D : Nat → Int} (T : TM t D (-1)) : ∀ x, x < 48 → LV t x → 0 < (hM t).1 x → 1 ≤ (hM t).2.1 x := fun x hx hl _ => by
  rcases hl with w | w
  · exact T.2.2.1.1 x hx w (by omega)
  · exact T.2.2.1.2 x hx w
set_option maxHeartbeats 1000000 in
theorem y_tryUproot {π σ : Nat → Nat} {s t : MS} {lo hj : Nat → Int} {v : Nat} {key val : Int} (h : SIM π σ s t) (hZ : ZP s t) (hR : Rg s) (S0 : TS s Z0 (-1)) (H : RT t) (hC0 : CE t 0) (hN0 : 0 ≤ gA t 39 5) (hE : 3 ≤ gA t 39 6 ∧ gA t 39 6 ≤ 6) (h581 : 3 ≤ gI s 581) (hsp : gI s 1061 ≤ 999999) (hv : v < 8) (hO : OI t lo hj) (hkey : R2 key) (hRt : Rr t) : pc (m_x1_tryUproot (v : Int) key s) (fun q => pc (m_x12_tries 3 (v : Int) key val t) (fun o => TRY q o)) := by
  have tv : ((v : Nat) : Int).toNat = v := Int.toNat_natCast _
  have hK : KLV t := KLV_of H.1 (fun _ _ => Int.le_refl 0)
  have n1 := n1_of H.1
  have rts := (h.1.2.2.2 v hv).1
  have lvr : 0 ≤ gA t 49 v → gA t 49 v < 48 → LV t (gA t 49 v).toNat := hK.2.2 v (by omega)
  -- both know whether the key is there
  have VAL : ∀ (r6 : Int) (Z : MS) (r : Int), m_x8_valueAt (gA s 60 v) key s = some r6 → (gA Z 49 = gA t 49 ∧ gA Z 39 = gA t 39 ∧ gA Z 54 = gA t 54) → m_x12_valueOf (v : Int) key Z = some r → r6 = r ∧ (r ≠ -1 → (0 ≤ gA t 49 v ∧ gA t 49 v < 254) ∧ HS t key ((hM t).1 (gA t 49 v).toNat).toNat (gA t 49 v).toNat) := fun r6 Z r e6 hZ' er => by
    obtain ⟨z1, z2, z3⟩ := hZ'
    obtain ⟨m1, m2, m3, m4⟩ := eq49 z1
    have HZ : SIM π σ s Z := SIM_k h (fun _ _ _ => rfl) rfl rfl z1 (by rw [z2]) z3
    have KZ : KLV Z := KLV_of (TM_eq H.1 z1 z2) (fun _ _ => Int.le_refl 0)
    have nZ := n1_of (TM_eq H.1 z1 z2)
    have g : pc (m_x12_valueOf (v : Int) key Z) (fun r => r6 = r ∧ (r ≠ -1 → (0 ≤ gA t 49 v ∧ gA t 49 v < 254) ∧ HS Z key ((hM Z).1 (gA t 49 v).toNat).toNat (gA t 49 v).toNat)) := by
      unfold m_x12_valueOf
      refine pc_rdI (fun _ => ?_)
      rw [tv, z1]
      exact pc_bq (y_val HZ KZ (OI_49 hO z1) nZ rts (fun a b => by have q := lvr a b; unfold LV at q ⊢; rw [m3, m4]; exact q) r6 e6) (fun r3 h3 => pc_some h3)
    obtain ⟨g1, g2⟩ := g r er
    refine ⟨g1, fun z => ?_⟩
    obtain ⟨g3, g4⟩ := g2 z
    refine ⟨g3, ?_⟩
    rw [m1] at g4
    have y48 : (gA t 49 v).toNat < 48 := by
      rcases rts with ⟨a, _⟩ | ⟨a, _⟩ | ⟨a, b, _⟩ <;> omega
    have ly : LV t (gA t 49 v).toNat := lvr g3.1 (by omega)
    have lyZ : LV Z (gA t 49 v).toNat := by unfold LV at ly ⊢; rw [m3, m4]; exact ly
    have l0 := (hK.2.1 _ y48 ly).1.1.1
    exact HS_r KZ _ _ _ y48 lyZ (by rw [m1]; omega) ⟨by rw [m1], by rw [m1], fun j => by rw [m1, m2]; exact ⟨rfl, rfl⟩⟩ (fun z _ _ _ => ⟨by rw [m1], by rw [m1], fun j => by rw [m1, m2]; exact ⟨rfl, rfl⟩⟩) g4
  unfold m_x1_tryUproot m_x1_tryUproot_J56
  refine pc_rdI (fun _ => ?_)
  rw [tv]
  refine pc_bn (fun r6 e6 => pc_rg (pc_if (fun c => pc_some (pc_mono m_tries3 (fun o ho => ?_))) (fun c => pc_bn (fun s5 e5 => pc_bn (fun q8 e8 => ?_)))))
  · obtain ⟨Z, r, hZ', er, w⟩ := ho
    have V := VAL r6 Z r e6 hZ' er
    rcases w with ⟨_, o1, X, SX, B⟩ | ⟨w, _⟩
    · have e49 : ∀ i, i < 785 → gA o.2 49 i = gA t 49 i := fun i hi => by rw [B.2.1 i hi, SX.2.1 i hi]
      refine ⟨o1.symm, B.2.2.2.2.2, π, σ, lo, hj, sim_785 h e49 (fun x hx => by rw [B.2.2.2.1 x hx, SX.2.2.1 x hx]) (by rw [B.1 39 (by decide) (by decide), SX.1 39 (by decide) (by decide)]), ZP_k hZ rfl rfl (fun _ _ _ => rfl) (fun k hk => by rw [B.1 k (by omega) (by omega), SX.1 k (by omega) (by omega)]), OI_785 hO e49⟩
    · exact absurd (V.1.symm.trans c) w
  obtain ⟨R5, b3⟩ := BC_v3 hR e5
  have l3 := s_v3 s5 e5
  have F5 : F_x8_become_v3 s s5 := fr_x8_become_v3 e5
  have F8 : F_x1_uproot s5 q8.2 := fr_x1_uproot e8
  have T5 : TS s5 Z0 (-1) := TS_eq S0 (F5.2.1 54 (by decide)) (F5.2.1 55 (by decide)) (F5.2.1 56 (by decide)) (F5.2.1 57 (by decide)) (F5.2.1 58 (by decide)) (F5.2.1 59 (by decide)) (F5.2.1 60 (by decide)) (F5.2.1 61 (by decide)) (F5.1 1060 (by decide)) (F5.1 581 (by decide))
  have JO : (0 ≤ gA t 49 v ∧ gA t 49 v < 254) → HS t key ((hM t).1 (gA t 49 v).toNat).toNat (gA t 49 v).toNat → ∀ X, SVm t X → pc (m_x12_removes (v : Int) key X) (fun Y => CONu q8 Y) := fun hrt hHS X SX => by
    have x49 : gA X 49 = gA t 49 := SX.1 49 (by decide) (by decide)
    have x39 : gA X 39 = gA t 39 := SX.1 39 (by decide) (by decide)
    obtain ⟨m1, m2, m3, m4⟩ := eq49 x49
    have HX : SIM π σ s5 X := SIM_k h (fun k k1 k2 => F5.2.1 k (by simp; omega)) (F5.1 1060 (by decide)) (F5.2.2.1 1062 (by decide)) x49 (by rw [x39]) (SX.1 54 (by decide) (by decide))
    have y48 : (gA t 49 v).toNat < 48 := by
      rcases rts with ⟨a, _⟩ | ⟨a, _⟩ | ⟨a, b, _⟩ <;> omega
    have ly : LV t (gA t 49 v).toNat := lvr hrt.1 (by omega)
    have l0 := (hK.2.1 _ y48 ly).1.1.1
    have hHX : HS X key ((hM X).1 (gA X 49 v).toNat).toNat (gA X 49 v).toNat := by
      rw [x49, m1]
      exact HS_r hK _ _ _ y48 ly (by omega) ⟨by rw [m1], by rw [m1], fun j => by rw [m1, m2]; exact ⟨rfl, rfl⟩⟩ (fun z _ _ _ => ⟨by rw [m1], by rw [m1], fun j => by rw [m1, m2]; exact ⟨rfl, rfl⟩⟩) hHS
    exact y_uproot HX R5 (SX.2.2.2.2.2 hRt) T5 (RT_x H (fun k _ => by rw [x49]) (by rw [x39]) (by rw [x39])) (CE_eq hC0 (SX.1 42 (by decide) (by decide)) (SX.1 43 (by decide) (by decide)) (SX.1 44 (by decide) (by decide))) (by rw [x39]; exact hN0) (by rw [x39]; exact hE) (by rw [F5.1 581 (by decide)]; exact h581) SX.2.2.2.2.1 hv (by rw [x49]; exact hrt) (OI_49 hO x49) hkey hHX q8 e8
  refine pc_rg (pc_if (fun c0 => pc_bn (fun s12 e12 => pc_bo (pc_some ?_))) (fun c0 => pc_bo (pc_some ?_)))
  · refine pc_mono m_tries3 (fun o ho => ?_)
    obtain ⟨Z, r, hZ', er, w⟩ := ho
    have V := VAL r6 Z r e6 hZ' er
    rcases w with ⟨w, _⟩ | ⟨w, X, Y, SX, eY, hY⟩
    · exact absurd (V.1.trans w) c
    obtain ⟨hrt, hHS⟩ := V.2 w
    rcases JO hrt hHS X SX Y eY with ⟨_, y55⟩ | ⟨z, _⟩
    · rcases hY with ⟨z, _⟩ | ⟨_, o1, B⟩
      · omega
      have FY' : F_x12_removes X Y := fr_x12_removes eY
      have r60 : 0 ≤ gA s5 60 v := by
        rw [F5.2.1 60 (by decide)]
        rcases rts with ⟨a, _⟩ | ⟨a, _⟩ | ⟨_, _, a⟩ <;> omega
      have R8' : Rg q8.2 := (wp_det (ts_uproot R5 T5 (by rw [F5.1 581 (by decide)]; exact h581) (p0 := (v : Int)) ⟨by omega, by omega⟩ (by rw [tv]; exact r60) hkey) e8).1
      have i1421 : gI q8.2 1421 = gI s 1061 := by rw [F8.1 1421 (by decide)]; exact b3.2.2.2.2
      obtain ⟨R12, b4⟩ := BC_v4 R8' (by rw [i1421]; exact hsp) e12
      have F12 : F_x8_become_v4 q8.2 s12 := fr_x8_become_v4 e12
      have K := sim_back h hK b3 l3 (fun k k1 k2 => F8.2.1 k (by simp; omega)) (fun k hk => F8.1 k (by simp; omega)) (F8.2.2.1 1422 (by decide)) b4 (s_v4 s12 e12) SX (FY'.2.1 59 (by decide)) (FY'.2.1 60 (by decide)) (FY'.2.1 39 (by decide)) B
      refine ⟨c0.trans o1.symm, B.2.2.2.2.2, π, σ, lo, hj, K.1, ZP_k hZ ?_ ?_ (fun k k1 k2 => ?_) (fun k hk => ?_), OI_785 hO K.2⟩
      · rw [F12.1 581 (by decide), F8.1 581 (by decide), F5.1 581 (by decide)]
      · rw [F12.1 741 (by decide), F8.1 741 (by decide), F5.1 741 (by decide)]
      · rw [F12.2.1 k (by simp; omega), F8.2.1 k (by simp; omega), F5.2.1 k (by simp; omega)]
      · rw [B.1 k (by omega) (by omega), FY'.2.1 k (by simp; omega), SX.1 k (by omega) (by omega)]
    · omega
  · refine pc_mono m_tries3 (fun o ho => ?_)
    obtain ⟨Z, r, hZ', er, w⟩ := ho
    have V := VAL r6 Z r e6 hZ' er
    rcases w with ⟨w, _⟩ | ⟨w, X, Y, SX, eY, hY⟩
    · exact absurd (V.1.trans w) c
    obtain ⟨hrt, hHS⟩ := V.2 w
    rcases JO hrt hHS X SX Y eY with ⟨z, _⟩ | ⟨z, y55, π', σ', lo', hi', G1, G2⟩
    · exact absurd z c0
    · rcases hY with ⟨_, rfl⟩ | ⟨w, _⟩
      · have FY' : F_x12_removes X Y := fr_x12_removes eY
        refine ⟨z, y55, π', σ', lo', hi', G1, ZP_k hZ ?_ ?_ (fun k k1 k2 => ?_) (fun k hk => ?_), G2⟩
        · rw [F8.1 581 (by decide), F5.1 581 (by decide)]
        · rw [F8.1 741 (by decide), F5.1 741 (by decide)]
        · rw [F8.2.1 k (by simp; omega), F5.2.1 k (by simp; omega)]
        · rw [FY'.2.1 k (by simp; omega), SX.1 k (by omega) (by omega)]
      · exact absurd y55 w
