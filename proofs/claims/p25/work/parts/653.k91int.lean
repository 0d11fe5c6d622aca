/-! ===== the least and the greatest key under each block of an image ===== -/
def RLY (Y : MS) (f : Nat → Int) (N : Nat) : Prop := (∀ x, x < N → DLa f x → gA Y 74 x = (hLa f).1 x ∧ gA Y 75 x = (hLa f).2.1 x ∧ ∀ k : Nat, (k : Int) < (hLa f).2.1 x → gA Y 76 (6 * x + k) = kLa f x k ∧ gA Y 77 (6 * x + k) = (hLa f).2.2 x k) ∧ (∀ x, x < N → (nfr Y x ↔ DLa f x)) ∧ gI Y 1420 = (N : Int)
theorem RLY_k {X Y : MS} {f : Nat → Int} {N : Nat} (h : RLY X f N) (K : KRd X Y) : RLY Y f N := by
  obtain ⟨h1, h2, h3⟩ := h
  refine ⟨?_, fun x hx => (nfr_k K).trans (h2 x hx), (K.2 1420).trans h3⟩
  rw [K.1 74 (by decide) (by decide) (by decide), K.1 75 (by decide) (by decide) (by decide), K.1 76 (by decide) (by decide) (by decide), K.1 77 (by decide) (by decide) (by decide)]
  exact h1
theorem mono_step {u : Nat → Int} {c : Int} (h : ∀ k : Nat, (k : Int) + 1 < c → u k ≤ u (k + 1)) {i : Nat} : ∀ d : Nat, ((i + d : Nat) : Int) < c → u i ≤ u (i + d) := by
  intro d
  induction d with
  | zero => intro _; exact Int.le_refl _
  | succ d ih =>
    intro hj
    have a := ih (by omega)
    have b := h (i + d) (by omega)
    rw [show i + (d + 1) = i + d + 1 by omega]
    exact Int.le_trans a b
theorem mono_all {u : Nat → Int} {c : Int} (h : ∀ k : Nat, (k : Int) + 1 < c → u k ≤ u (k + 1)) {i j : Nat} (hij : i ≤ j) (hj : (j : Int) < c) : u i ≤ u j := by
  obtain ⟨d, hd⟩ : ∃ d, j = i + d := ⟨j - i, by omega⟩
  rw [hd] at hj ⊢
  exact mono_step h d hj
/-- all blocks up to the level L are seen -/
def SNL (Y : MS) (N : Nat) (L : Int) : Prop := ∀ x, x < N → nfr Y x → gA Y 74 x ≤ L → SBkI Y x ∧ LHk Y Y x
def ITV (Y : MS) (f : Nat → Int) (L x : Nat) : Prop := Ukey f L x (gA Y 18 x) ∧ Ukey f L x (gA Y 19 x) ∧ ∀ z, Ukey f L x z → gA Y 18 x ≤ z ∧ z ≤ gA Y 19 x
/-- what the children of a seen block are -/
theorem SB_kid {f : Nat → Int} {E : Int} {N : Nat} {Y : MS} (H : IG f (N : Int) E) (R : RLY Y f N) {x k : Nat} (hx : x < N) (hd : DLa f x) (hs : SBkI Y x) (hl : 0 < (hLa f).1 x) (hk : (k : Int) < (hLa f).2.1 x) : ∃ y : Nat, (hLa f).2.2 x k = (y : Int) ∧ y < N ∧ nfr Y y ∧ DLa f y ∧ (hLa f).1 y = (hLa f).1 x - 1 ∧ gA Y 74 y = gA Y 74 x - 1 ∧ (0 < k → kLa f x k ≤ gA Y 18 y) ∧ ((k : Int) + 1 < (hLa f).2.1 x → gA Y 19 y < kLa f x (k + 1)) := by
  have n48 := H.1
  obtain ⟨r1, r2, r3⟩ := R.1 x hx hd
  have kd := IG_kid (k := k) H (by omega) hd hl hk
  obtain ⟨y, hy⟩ : ∃ y : Nat, (hLa f).2.2 x k = (y : Int) := ⟨((hLa f).2.2 x k).toNat, by omega⟩
  rw [hy, Int.toNat_natCast] at kd
  have yN : y < N := by omega
  have c := hs.2 (by rw [r1]; omega) k (by rw [r2]; exact hk)
  unfold CHK at c
  rw [(r3 k hk).1, (r3 k hk).2, hy, Int.toNat_natCast] at c
  refine ⟨y, hy, yN, (R.2.1 y yN).2 kd.2.2, kd.2.2, kd.2.1, c.1.2.2, c.2.1, fun h => ?_⟩
  have w := c.2.2 (by rw [r2]; exact h)
  rw [(r3 (k + 1) (by omega)).1] at w
  exact w
theorem INT_L {f : Nat → Int} {E : Int} {N : Nat} {Y : MS} (H : IG f (N : Int) E) (R : RLY Y f N) : ∀ (L : Nat), SNL Y N (L : Int) → ∀ x, x < N → DLa f x → (hLa f).1 x = (L : Int) → ITV Y f L x := by
  have n48 := H.1
  intro L
  induction L with
  | zero =>
    intro S x hx hd hl
    have t := IG_there H (by omega) hd
    obtain ⟨r1, r2, r3⟩ := R.1 x hx hd
    obtain ⟨s1, s2⟩ := S x hx ((R.2.1 x hx).2 hd) (by rw [r1, hl]; exact Int.le_refl _)
    have z0 : gA Y 74 x = 0 := by rw [r1, hl]; rfl
    obtain ⟨l1, l2⟩ := s2.1 z0
    obtain ⟨c, hc⟩ : ∃ c : Nat, (hLa f).2.1 x = ((c + 1 : Nat) : Int) := ⟨((hLa f).2.1 x - 1).toNat, by omega⟩
    have e0 := (r3 0 (by omega)).1
    rw [Nat.add_zero] at e0
    rw [e0] at l1
    rw [r2, show ((hLa f).2.1 x - 1).toNat = c by omega, (r3 c (by omega)).1] at l2
    have up : ∀ k : Nat, (k : Int) + 1 < (hLa f).2.1 x → kLa f x k ≤ kLa f x (k + 1) := fun k hk => by
      have w := s1.1 k (Or.inl z0) (by rw [r2]; exact hk)
      rw [(r3 k (by omega)).1, (r3 (k + 1) (by omega)).1] at w
      omega
    refine ⟨⟨0, by omega, l1.symm⟩, ⟨c, by omega, l2.symm⟩, fun z hz => ?_⟩
    obtain ⟨k, k1, k2⟩ := hz
    have a := mono_all up (i := 0) (j := k) (by omega) k1
    have b := mono_all up (i := k) (j := c) (by omega) (by omega)
    rw [l1, l2, ← k2]
    exact ⟨a, b⟩
  | succ L ih =>
    intro S x hx hd hl
    have t := IG_there H (by omega) hd
    obtain ⟨r1, r2, r3⟩ := R.1 x hx hd
    obtain ⟨s1, s2⟩ := S x hx ((R.2.1 x hx).2 hd) (by rw [r1, hl]; exact Int.le_refl _)
    have hl0 : 0 < (hLa f).1 x := by omega
    have S' : SNL Y N (L : Int) := fun y hy nf hlv => S y hy nf (by omega)
    obtain ⟨l1, l2⟩ := s2.2 (by rw [r1]; omega)
    obtain ⟨c, hc⟩ : ∃ c : Nat, (hLa f).2.1 x = ((c + 1 : Nat) : Int) := ⟨((hLa f).2.1 x - 1).toNat, by omega⟩
    have e0 := (r3 0 (by omega)).2
    rw [Nat.add_zero] at e0
    rw [e0] at l1
    rw [r2, show ((hLa f).2.1 x - 1).toNat = c by omega, (r3 c (by omega)).2] at l2
    -- each child's interval
    have K : ∀ k : Nat, (k : Int) < (hLa f).2.1 x → ITV Y f L ((hLa f).2.2 x k).toNat ∧ (0 < k → kLa f x k ≤ gA Y 18 ((hLa f).2.2 x k).toNat) ∧ ((k : Int) + 1 < (hLa f).2.1 x → gA Y 19 ((hLa f).2.2 x k).toNat < kLa f x (k + 1)) := fun k hk => by
      obtain ⟨y, y1, y2, y3, y4, y5, y6, y7, y8⟩ := SB_kid H R hx hd s1 hl0 hk
      rw [y1, Int.toNat_natCast]
      exact ⟨ih S' y y2 y4 (by omega), y7, y8⟩
    have le : ∀ k : Nat, (k : Int) < (hLa f).2.1 x → gA Y 18 ((hLa f).2.2 x k).toNat ≤ gA Y 19 ((hLa f).2.2 x k).toNat := fun k hk => ((K k hk).1.2.2 _ (K k hk).1.1).2
    have st : ∀ k : Nat, (k : Int) + 1 < (hLa f).2.1 x → gA Y 19 ((hLa f).2.2 x k).toNat < gA Y 18 ((hLa f).2.2 x (k + 1)).toNat := fun k hk => by
      have a := (K k (by omega)).2.2 hk
      have b := (K (k + 1) (by omega)).2.1 (by omega)
      omega
    have up1 : ∀ k : Nat, (k : Int) + 1 < (hLa f).2.1 x → gA Y 18 ((hLa f).2.2 x k).toNat ≤ gA Y 18 ((hLa f).2.2 x (k + 1)).toNat := fun k hk => by
      have a := st k hk
      have b := le k (by omega)
      omega
    have up2 : ∀ k : Nat, (k : Int) + 1 < (hLa f).2.1 x → gA Y 19 ((hLa f).2.2 x k).toNat ≤ gA Y 19 ((hLa f).2.2 x (k + 1)).toNat := fun k hk => by
      have a := st k hk
      have b := le (k + 1) (by omega)
      omega
    refine ⟨⟨0, by omega, ?_⟩, ⟨c, by omega, ?_⟩, fun z hz => ?_⟩
    · rw [l1]; exact (K 0 (by omega)).1.1
    · rw [l2]; exact (K c (by omega)).1.2.1
    · obtain ⟨k, k1, k2⟩ := hz
      have w := (K k k1).1.2.2 z k2
      have a := mono_all (u := fun k => gA Y 18 ((hLa f).2.2 x k).toNat) up1 (i := 0) (j := k) (by omega) k1
      have b := mono_all (u := fun k => gA Y 19 ((hLa f).2.2 x k).toNat) up2 (i := k) (j := c) (by omega) (by omega)
      (try dsimp only at a b)
      rw [l1, l2]
      omega
/-- an image of the reference's is sound for the class -/
theorem HYs_of {f : Nat → Int} {E : Int} {N : Nat} {X : MS} (C : CIM f (N : Int) E) (R : RLY X f N) (c1 : ∀ x : Nat, x < N → gA X 72 x = rf (hJ X) (gA X 72) (gA X 78) (x : Int)) (c2 : ∀ x : Nat, x < N → gA X 73 x = rf (hJ X) (gA X 73) (gA X 79) (x : Int)) : HYs X N := by
  obtain ⟨H, _, KS'⟩ := C
  have n48 := H.1
  refine ⟨fun l b Y K hb nf hl D => ?_, c1, c2⟩
  have RY := RLY_k R K
  have hd : DLa f b := (R.2.1 b hb).1 nf
  obtain ⟨r1, r2, r3⟩ := RY.1 b hb hd
  have e74 : gA Y 74 = gA X 74 := K.1 74 (by decide) (by decide) (by decide)
  have hlv : (hLa f).1 b = (l : Int) := by rw [← r1, e74]; exact hl
  have lb : b < 48 := by omega
  have t := IG_there H lb hd
  have B := H.2.2.1 b lb
  refine ⟨fun k h1 h2 => ?_, fun h1 k h2 => ?_⟩
  · rw [r1] at h1
    rw [r2] at h2
    rw [(r3 k (by omega)).1, (r3 (k + 1) (by omega)).1]
    have k6 : k + 1 < 6 := by have := H.2.1; omega
    rcases B.2 with q | q
    · exact absurd q.1 hd
    · have w := q.2.2.2.2.2 k h2 (by
        rcases h1 with z | z
        · exact Or.inr z
        · exact Or.inl z)
      show (if k < 6 then f (21 + 16 * b + k) else 0) < if k + 1 < 6 then f (21 + 16 * b + (k + 1)) else 0
      rw [if_pos (by omega), if_pos k6]; exact w
  · rw [r1] at h1
    rw [r2] at h2
    have hl0 : 0 < (hLa f).1 b := by omega
    have kd := IG_kid (k := k) H lb hd hl0 h2
    obtain ⟨y, hy⟩ : ∃ y : Nat, (hLa f).2.2 b k = (y : Int) := ⟨((hLa f).2.2 b k).toNat, by omega⟩
    rw [hy, Int.toNat_natCast] at kd
    have yN : y < N := by omega
    obtain ⟨l', hl'⟩ : ∃ l', l = l' + 1 := ⟨l - 1, by omega⟩
    have S : SNL Y N (l' : Int) := fun x hx nfx hlx => D x hx nfx (Or.inl (by omega))
    have I := INT_L H RY l' S y yN kd.2.2 (by omega)
    have ks := KS' b lb hd hl0 k h2
    unfold KSe at ks
    rw [hy, Int.toNat_natCast] at ks
    have nfy := (RY.2.1 y yN).2 kd.2.2
    obtain ⟨q1, q2, q3⟩ := RY.1 y yN kd.2.2
    unfold CHK
    rw [(r3 k h2).1, (r3 k h2).2, hy, Int.toNat_natCast, RY.2.2, r1, r2, q1]
    refine ⟨⟨⟨by omega, by omega⟩, nfy, kd.2.1⟩, fun h => (ks _ ⟨l', by omega, I.1⟩).1 h, fun h => ?_⟩
    rw [(r3 (k + 1) (by omega)).1]
    exact (ks _ ⟨l', by omega, I.2.1⟩).2 h
/-- the order of keys, by the class's least and greatest ones -/
theorem OI_img {f : Nat → Int} {E : Int} {N : Nat} {Y o : MS} (H : IG f (N : Int) E) (R : RLY Y f N) (S : ∀ x, x < N → nfr Y x → SBkI Y x ∧ LHk Y Y x) (e : ∀ i, i < 785 → gA o 49 i = f i) : OI o (gA Y 18) (gA Y 19) := by
  have n48 := H.1
  have SL : ∀ L, SNL Y N L := fun L x hx nf _ => S x hx nf
  intro x hx hl
  have cE : cM o x = f (17 + 16 * x) := e _ (by omega)
  have vE : vM o x = f (18 + 16 * x) := e _ (by omega)
  have e1 : (hM o).1 x = (hLa f).1 x := e _ (by omega)
  have e2 : (hM o).2.1 x = (hLa f).2.1 x := e _ (by omega)
  have e3 : ∀ k, (hM o).2.2 x k = (hLa f).2.2 x k := fun k => by
    show (if k < 6 then gA o 49 (27 + 16 * x + k) else 0) = if k < 6 then f (27 + 16 * x + k) else 0
    by_cases z : k < 6
    · rw [if_pos z, if_pos z]; exact e _ (by omega)
    · rw [if_neg z, if_neg z]
  have e4 : ∀ k, kM o x k = kLa f x k := fun k => by
    show (if k < 6 then gA o 49 (21 + 16 * x + k) else 0) = if k < 6 then f (21 + 16 * x + k) else 0
    by_cases z : k < 6
    · rw [if_pos z, if_pos z]; exact e _ (by omega)
    · rw [if_neg z, if_neg z]
  have b := (H.2.2.1 x hx).1
  have hd : DLa f x := by
    unfold DLa
    unfold LV at hl
    rw [cE, vE] at hl
    omega
  have hxN : x < N := by have t := (IG_there H hx hd).1; omega
  have t := IG_there H hx hd
  obtain ⟨l, hlv⟩ : ∃ l : Nat, (hLa f).1 x = (l : Int) := ⟨((hLa f).1 x).toNat, by omega⟩
  have I := INT_L H R l (SL _) x hxN hd hlv
  obtain ⟨s1, s2⟩ := S x hxN ((R.2.1 x hxN).2 hd)
  obtain ⟨r1, r2, r3⟩ := R.1 x hxN hd
  unfold OBk
  rw [e1, e2]
  refine ⟨(I.2.2 _ I.1).2, fun h0 => ⟨?_, fun j hj => ?_⟩, fun h0 k hk => ?_⟩
  · have z0 : (hLa f).1 x = 0 := by omega
    rw [show kM o x = kLa f x from funext e4]
    refine SO_step (fun k _ k2 => ?_)
    have w := s1.1 k (Or.inl (r1.trans z0)) (by rw [r2]; exact k2)
    rw [(r3 k (by omega)).1, (r3 (k + 1) (by omega)).1] at w
    exact w
  · have l0 : l = 0 := by omega
    rw [l0] at I
    rw [e4]
    exact I.2.2 _ ⟨j, hj, rfl⟩
  · obtain ⟨y, y1, y2, y3, y4, y5, y6, y7, y8⟩ := SB_kid H R hxN hd s1 h0 hk
    obtain ⟨l', hl'⟩ : ∃ l', l = l' + 1 := ⟨l - 1, by omega⟩
    have Iy := INT_L H R l' (SL _) y y2 y4 (by omega)
    rw [hl'] at I
    rw [e3, e4, e4, y1, Int.toNat_natCast]
    refine ⟨⟨(I.2.2 _ ⟨k, hk, ?_⟩).1, (I.2.2 _ ⟨k, hk, ?_⟩).2⟩, fun h => y7 h, fun h => y8 h⟩
    · rw [y1, Int.toNat_natCast]; exact Iy.1
    · rw [y1, Int.toNat_natCast]; exact Iy.2.1
