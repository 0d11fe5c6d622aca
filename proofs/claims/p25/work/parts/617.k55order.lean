/-! ===== the order of keys, by an interval a BLOCK ===== -/
theorem SO_step {f : Nat → Int} {a : Nat} {z : Int} (h : ∀ k : Nat, a ≤ k → (k : Int) + 1 < z → f k < f (k + 1)) : SO f a z := by
  intro i j hi hij hj
  obtain ⟨d, hd⟩ : ∃ d, j = i + 1 + d := ⟨j - i - 1, by omega⟩
  subst hd
  induction d with
  | zero => exact h i hi (by omega)
  | succ d ih =>
    have q := ih (by omega) (by omega)
    have r : f (i + 1 + d) < f (i + 1 + (d + 1)) := h (i + 1 + d) (by omega) (by omega)
    exact Int.lt_trans q r
def OBk (t : MS) (lo hi : Nat → Int) (x : Nat) : Prop := lo x ≤ hi x ∧ ((hM t).1 x ≤ 0 → SO (kM t x) 0 ((hM t).2.1 x) ∧ ∀ j : Nat, (j : Int) < (hM t).2.1 x → lo x ≤ kM t x j ∧ kM t x j ≤ hi x) ∧ (0 < (hM t).1 x → ∀ k : Nat, (k : Int) < (hM t).2.1 x → (lo x ≤ lo ((hM t).2.2 x k).toNat ∧ hi ((hM t).2.2 x k).toNat ≤ hi x) ∧ (1 ≤ k → kM t x k ≤ lo ((hM t).2.2 x k).toNat) ∧ ((k : Int) + 1 < (hM t).2.1 x → hi ((hM t).2.2 x k).toNat < kM t x (k + 1)))
def OI (t : MS) (lo hi : Nat → Int) : Prop := ∀ x, x < 48 → LV t x → OBk t lo hi x
theorem OI_SO {t : MS} {lo hi : Nat → Int} (H : OI t lo hi) (hK : KLV t) {x : Nat} (hx : x < 48) (hl : LV t x) : SO (kM t x) 1 ((hM t).2.1 x) := by
  by_cases w : 0 < (hM t).1 x
  · refine SO_step (fun k k1 k2 => ?_)
    have c := (H x hx hl).2.2 w k (by omega)
    have kid := (hK.2.1 x hx hl).2 w k (by omega)
    have y := (H _ (by omega) kid.2).1
    have c1 := c.2.1 k1
    have c2 := c.2.2 k2
    omega
  · have q := ((H x hx hl).2.1 (by omega)).1
    exact fun i j _ hij hj => q i j (Nat.zero_le _) hij hj
/-- who is counted once has one that names it -/
theorem one_par {t : MS} {D : Nat → Int} {e : Int} (T : TM t D e) {a b k : Nat} (hb : b < 48) (hDb : D b = 0) (ha : a < 48) (hca : 0 < cM t a) (hla : 0 < (hM t).1 a) (hk : (k : Int) < (hM t).2.1 a) (hv : (hM t).2.2 a k = (b : Int)) (hcb : cM t b = 1) : ∀ p k' : Nat, p < 48 → 0 < cM t p → 0 < (hM t).1 p → (k' : Int) < (hM t).2.1 p → (hM t).2.2 p k' = (b : Int) → p = a ∧ k' = k := by
  intro p k' hp hcp hlp hk' hv'
  have d := T.2.1.1 b hb
  rw [hDb] at d
  unfold df rf at d
  have r0 := rr_nn (rM t) (b : Int)
  have f0 : ∀ j, j < 48 → (0 : Int) ≤ (fun p => if 0 < cM t p then en (hM t) p (b : Int) else 0) j := fun j _ => by
    show (0 : Int) ≤ if 0 < cM t j then en (hM t) j (b : Int) else 0
    split
    · exact en_nn _ _ _
    · exact Int.le_refl 0
  have za := (TG_nd T ha hca).2.1
  have zp := (TG_nd T hp hcp).2.1
  have ea : 1 ≤ en (hM t) a (b : Int) := by
    have g := enf_pos (h := hM t) (p := a) (k := k) (i := 0) hla hk (by omega) (by omega)
    rw [hv] at g
    exact g
  have ep : 1 ≤ en (hM t) p (b : Int) := by
    have g := enf_pos (h := hM t) (p := p) (k := k') (i := 0) hlp hk' (by omega) (by omega)
    rw [hv'] at g
    exact g
  by_cases z : p = a
  · refine ⟨z, Classical.byContradiction (fun w => ?_)⟩
    rw [z] at hk' hv'
    have two : 2 ≤ en (hM t) a (b : Int) := by
      unfold en enf
      rw [if_pos hla]
      have g := sm_ge2 (n := 6) (i := k) (k := k') (f := fun j => if (0 : Int) ≤ (j : Int) ∧ (j : Int) < (hM t).2.1 a ∧ (hM t).2.2 a j = (b : Int) then (1 : Int) else 0) (by omega) (by omega) (fun e => w e.symm) (fun j _ => by (try dsimp only); split <;> omega)
      have g1 : (if (0 : Int) ≤ (k : Int) ∧ (k : Int) < (hM t).2.1 a ∧ (hM t).2.2 a k = (b : Int) then (1 : Int) else 0) = 1 := if_pos ⟨by omega, hk, hv⟩
      have g2 : (if (0 : Int) ≤ (k' : Int) ∧ (k' : Int) < (hM t).2.1 a ∧ (hM t).2.2 a k' = (b : Int) then (1 : Int) else 0) = 1 := if_pos ⟨by omega, hk', hv'⟩
      (try dsimp only at g)
      rw [g1, g2] at g
      exact g
    have q := sm_ge (n := 48) (i := a) ha f0
    (try dsimp only at q)
    rw [if_pos hca] at q
    omega
  · exfalso
    have q := sm_ge2 (n := 48) (i := a) (k := p) ha hp (fun e => z e.symm) f0
    (try dsimp only at q)
    rw [if_pos hca, if_pos hcp] at q
    omega
/-- a row moved: its own interval wider, those of its children narrower -/
theorem OBk_r {t o : MS} {lo hi lo' hi' : Nat → Int} {x y : Nat} (H : OBk t lo hi y) (r : ROW t y o x) (e : lo' x ≤ lo y ∧ hi y ≤ hi' x) (kids : 0 < (hM t).1 y → ∀ k : Nat, (k : Int) < (hM t).2.1 y → lo ((hM t).2.2 y k).toNat ≤ lo' ((hM t).2.2 y k).toNat ∧ hi' ((hM t).2.2 y k).toNat ≤ hi ((hM t).2.2 y k).toNat) : OBk o lo' hi' x := by
  obtain ⟨a, b, c⟩ := H
  refine ⟨by omega, fun w => ?_, fun w k hk => ?_⟩
  · rw [r.1] at w
    have b' := b w
    refine ⟨fun i j h1 h2 h3 => ?_, fun j hj => ?_⟩
    · rw [r.2.1] at h3
      rw [(r.2.2 i).2, (r.2.2 j).2]
      exact b'.1 i j h1 h2 h3
    · rw [r.2.1] at hj
      rw [(r.2.2 j).2]
      have := b'.2 j hj
      omega
  · rw [r.1] at w
    rw [r.2.1] at hk ⊢
    rw [(r.2.2 k).1, (r.2.2 k).2, (r.2.2 (k + 1)).2]
    have c' := c w k hk
    have kk := kids w k hk
    exact ⟨⟨by omega, by omega⟩, fun z => by have := c'.2.1 z; omega, fun z => by have := c'.2.2 z; omega⟩
/-- a new BLOCK that is empty -/
theorem OI_take {t o : MS} {lo hi : Nat → Int} {r : Nat} {l c : Int} (H : OI t lo hi) (hK : KLV t) (TK : TkE t o r l) (nl : ¬ LV t r) : OI o (upZ lo r c) (upZ hi r c) := fun x hx hl => by
  by_cases e : x = r
  · rw [e]
    refine ⟨by rw [upZ_s, upZ_s]; exact Int.le_refl c, fun _ => ⟨fun i j _ _ hj => ?_, fun j hj => ?_⟩, fun _ k hk => ?_⟩
    · rw [TK.2.2.2] at hj; omega
    · rw [TK.2.2.2] at hj; omega
    · rw [TK.2.2.2] at hk; omega
  · have hl' : LV t x := by
      unfold LV at hl ⊢
      have c1 : cM o x = cM t x := TK.1 (17 + 16 * x) (by omega)
      have c2 : vM o x = vM t x := TK.1 (18 + 16 * x) (by omega)
      rw [← c1, ← c2]; exact hl
    refine OBk_r (H x hx hl') (ROW_tk TK e) (by rw [upZ_n e, upZ_n e]; exact ⟨Int.le_refl _, Int.le_refl _⟩) (fun w k hk => ?_)
    have kid := ((hK.2.1 x hx hl').2 w k hk).2
    have ne : ((hM t).2.2 x k).toNat ≠ r := fun z => nl (by rw [← z]; exact kid)
    rw [upZ_n ne, upZ_n ne]
    exact ⟨Int.le_refl _, Int.le_refl _⟩
/-- the child's own BLOCK: a copy, or itself; its interval takes the key in -/
theorem OI_own {T S : MS} {lo hi : Nat → Int} {b y r k : Nat} {key : Int} (H : OI T lo hi) (hK : KLV T) (hb : b < 48) (lb : LV T b) (hlev : 0 < (hM T).1 b) (hk : (k : Int) < (hM T).2.1 b) (hv : (hM T).2.2 b k = (y : Int)) (hky : lo b ≤ key ∧ key ≤ hi b) (hP : PF (kM T b) ((hM T).2.1 b) key (k : Int))
    (hr : ROW T y S r) (hrb : r ≠ b) (ho : ∀ x, x ≠ r → x ≠ b → ROW T x S x) (hbl : (hM S).1 b = (hM T).1 b ∧ (hM S).2.1 b = (hM T).2.1 b ∧ (∀ j, kM S b j = kM T b j) ∧ (hM S).2.2 b k = (r : Int) ∧ ∀ j, j ≠ k → (hM S).2.2 b j = (hM T).2.2 b j)
    (hl : ∀ x, x < 48 → LV S x → x = r ∨ LV T x) (hc : (r = y ∧ ∀ p k' : Nat, p < 48 → LV T p → 0 < (hM T).1 p → (k' : Int) < (hM T).2.1 p → (hM T).2.2 p k' = (y : Int) → p = b ∧ k' = k) ∨ ¬ LV T r) : OI S (upZ lo r (min (lo y) key)) (upZ hi r (max (hi y) key)) ∧ (upZ lo r (min (lo y) key) r ≤ key ∧ key ≤ upZ hi r (max (hi y) key) r) := by
  have kb := (hK.2.1 b hb lb)
  have ky := kb.2 hlev k hk
  rw [hv, Int.toNat_natCast] at ky
  have y48 : y < 48 := by omega
  have ly := ky.2
  have levy := (kb.1.1.2.2 hlev k hk).2
  rw [hv, Int.toNat_natCast] at levy
  have OBb := (H b hb lb).2.2 hlev
  -- nobody but b names r, and b at k alone
  have nor : ∀ p k' : Nat, p < 48 → LV T p → 0 < (hM T).1 p → (k' : Int) < (hM T).2.1 p → ¬ (p = b ∧ k' = k) → ((hM T).2.2 p k').toNat ≠ r := fun p k' hp lp hlp hk' hn e => by
    have kid := (hK.2.1 p hp lp).2 hlp k' hk'
    rcases hc with ⟨h1, h2⟩ | h2
    · exact hn (h2 p k' hp lp hlp hk' (by rw [← h1, ← e]; omega))
    · rw [e] at kid; exact h2 kid.2
  refine ⟨fun x hx hlx => ?_, by rw [upZ_s, upZ_s]; omega⟩
  by_cases e : x = r
  · rw [e]
    refine OBk_r (H y y48 ly) hr (by rw [upZ_s, upZ_s]; omega) (fun w j hj => ?_)
    have ne : ((hM T).2.2 y j).toNat ≠ r := nor y j y48 ly w hj (fun z => by rw [z.1] at levy; omega)
    rw [upZ_n ne, upZ_n ne]
    exact ⟨Int.le_refl _, Int.le_refl _⟩
  · have lx := (hl x hx hlx).resolve_left e
    by_cases eb : x = b
    · rw [eb]
      refine ⟨by rw [upZ_n (fun z => hrb z.symm), upZ_n (fun z => hrb z.symm)]; exact (H b hb lb).1, fun w => ?_, fun w j hj => ?_⟩
      · rw [hbl.1] at w; omega
      · rw [hbl.2.1] at hj ⊢
        rw [hbl.2.2.1 j, hbl.2.2.1 (j + 1), upZ_n (fun z => hrb z.symm), upZ_n (fun z => hrb z.symm)]
        have c := OBb j hj
        by_cases ej : j = k
        · rw [ej] at c hj ⊢
          rw [hv, Int.toNat_natCast] at c
          rw [hbl.2.2.2.1, Int.toNat_natCast, upZ_s, upZ_s]
          obtain ⟨_, _, p3, p4⟩ := hP
          refine ⟨⟨by omega, by omega⟩, fun w1 => ?_, fun w2 => ?_⟩
          · have q1 := p3 k w1 (Int.le_refl _)
            have q2 := c.2.1 w1
            omega
          · have q1 := p4 w2
            rw [show ((k : Int) + 1).toNat = k + 1 by omega] at q1
            have q2 := c.2.2 w2
            omega
        · rw [hbl.2.2.2.2 j ej]
          have ne : ((hM T).2.2 b j).toNat ≠ r := nor b j hb lb hlev hj (fun z => ej z.2)
          rw [upZ_n ne, upZ_n ne]
          exact c
    · refine OBk_r (H x hx lx) (ho x e eb) (by rw [upZ_n e, upZ_n e]; exact ⟨Int.le_refl _, Int.le_refl _⟩) (fun w j hj => ?_)
      have ne : ((hM T).2.2 x j).toNat ≠ r := nor x j hx lx w hj (fun z => eb z.1)
      rw [upZ_n ne, upZ_n ne]
      exact ⟨Int.le_refl _, Int.le_refl _⟩
/-- a BLOCK parted in two under a -/
theorem OI_half {t v : MS} {lo hi : Nat → Int} {a b r k : Nat} {n m sep : Int} (H : OI t lo hi) (hK : KLV t) (ha : a < 48) (hb : b < 48) (la : LV t a) (lb : LV t b) (hlev : 0 < (hM t).1 a) (hk : (k : Int) < (hM t).2.1 a) (hv : (hM t).2.2 a k = (b : Int)) (hn : (hM t).2.1 b = n) (hm : 1 ≤ m ∧ m < n) (hs : sep = kM t b m.toNat) (nl : ¬ LV t r) (hab : a ≠ b)
    (rr : (hM v).1 r = (hM t).1 b ∧ (hM v).2.1 r = n - m ∧ ∀ j : Nat, (j : Int) < n - m → (hM v).2.2 r j = (hM t).2.2 b (m.toNat + j) ∧ kM v r j = kM t b (m.toNat + j))
    (rb : (hM v).1 b = (hM t).1 b ∧ (hM v).2.1 b = m ∧ ∀ j : Nat, (j : Int) < m → (hM v).2.2 b j = (hM t).2.2 b j ∧ kM v b j = kM t b j)
    (ra : (hM v).1 a = (hM t).1 a ∧ (hM v).2.1 a = (hM t).2.1 a + 1 ∧ (∀ j, j < k + 1 → (hM v).2.2 a j = (hM t).2.2 a j ∧ kM v a j = kM t a j) ∧ ((hM v).2.2 a (k + 1) = (r : Int) ∧ kM v a (k + 1) = sep) ∧ ∀ j, k + 1 ≤ j → (j : Int) < (hM t).2.1 a → (hM v).2.2 a (j + 1) = (hM t).2.2 a j ∧ kM v a (j + 1) = kM t a j)
    (ho : ∀ x, x ≠ r → x ≠ a → x ≠ b → ROW t x v x) (hl : ∀ x, x < 48 → LV v x → x = r ∨ LV t x) : OI v (upZ lo r sep) (upZ (upZ hi b (sep - 1)) r (hi b)) ∧ (lo b ≤ sep - 1 ∧ sep ≤ hi b) := by
  have nar : a ≠ r := fun e => nl (by rw [← e]; exact la)
  have nbr : b ≠ r := fun e => nl (by rw [← e]; exact lb)
  have Hb := H b hb lb
  have Ha := (H a ha la).2.2 hlev
  have Kb := hK.2.1 b hb lb
  have sz := Kb.1.1.2.1
  have sep1 : lo b ≤ sep - 1 ∧ sep ≤ hi b := by
    by_cases w : 0 < (hM t).1 b
    · have c0 := Hb.2.2 w 0 (by omega)
      have k0 := (Kb.2 w 0 (by omega))
      have i0 := (H _ (by omega) k0.2).1
      have c1 := Hb.2.2 w (m.toNat - 1) (by omega)
      have k1 := (Kb.2 w (m.toNat - 1) (by omega))
      have i1 := (H _ (by omega) k1.2).1
      have cm := Hb.2.2 w m.toNat (by omega)
      have km := (Kb.2 w m.toNat (by omega))
      have im := (H _ (by omega) km.2).1
      have c1' := c1.2.2 (by omega)
      rw [show m.toNat - 1 + 1 = m.toNat by omega] at c1'
      have cm' := cm.2.1 (by omega)
      rw [hs]
      omega
    · have c := Hb.2.1 (by omega)
      have q := c.1 0 m.toNat (Nat.le_refl _) (by omega) (by omega)
      have q0 := c.2 0 (by omega)
      have qm := c.2 m.toNat (by omega)
      rw [hs]
      omega
  -- nobody names r
  have nor : ∀ p k' : Nat, p < 48 → LV t p → 0 < (hM t).1 p → (k' : Int) < (hM t).2.1 p → ((hM t).2.2 p k').toNat ≠ r := fun p k' hp lp hlp hk' e => by
    have kid := (hK.2.1 p hp lp).2 hlp k' hk'
    rw [e] at kid; exact nl kid.2
  have LO : ∀ x, x ≠ r → upZ lo r sep x = lo x := fun x hx => upZ_n hx
  have HI : ∀ x, x ≠ r → upZ (upZ hi b (sep - 1)) r (hi b) x ≤ hi x := fun x hx => by
    rw [upZ_n hx]
    by_cases z : x = b
    · rw [z, upZ_s]; omega
    · rw [upZ_n z]; exact Int.le_refl _
  have HIn : ∀ x, x ≠ r → x ≠ b → upZ (upZ hi b (sep - 1)) r (hi b) x = hi x := fun x hx hz => by rw [upZ_n hx, upZ_n hz]
  have HIb : upZ (upZ hi b (sep - 1)) r (hi b) b = sep - 1 := by rw [upZ_n nbr, upZ_s]
  have HIr : upZ (upZ hi b (sep - 1)) r (hi b) r = hi b := by rw [upZ_s]
  have LOr : upZ lo r sep r = sep := by rw [upZ_s]
  generalize upZ (upZ hi b (sep - 1)) r (hi b) = hi' at HI HIn HIb HIr ⊢
  generalize upZ lo r sep = lo' at LO LOr ⊢
  refine ⟨fun x hx hlx => ?_, sep1⟩
  by_cases e : x = r
  · rw [e]
    refine ⟨by omega, fun w => ?_, fun w j hj => ?_⟩
    · rw [rr.1] at w
      have c := Hb.2.1 w
      rw [rr.2.1]
      refine ⟨fun i j _ h2 h3 => ?_, fun j hj => ?_⟩
      · rw [(rr.2.2 i (by omega)).2, (rr.2.2 j h3).2]
        exact c.1 _ _ (Nat.zero_le _) (by omega) (by omega)
      · rw [(rr.2.2 j hj).2]
        have q := c.2 (m.toNat + j) (by omega)
        refine ⟨?_, by omega⟩
        rw [LOr, hs]
        by_cases z : j = 0
        · rw [z, Nat.add_zero]; exact Int.le_refl _
        · have := c.1 m.toNat (m.toNat + j) (Nat.zero_le _) (by omega) (by omega)
          omega
    · rw [rr.1] at w
      rw [rr.2.1] at hj ⊢
      have c := Hb.2.2 w (m.toNat + j) (by omega)
      have ne := nor b (m.toNat + j) hb lb w (by omega)
      have neb : ((hM t).2.2 b (m.toNat + j)).toNat ≠ b := fun z => by
        have := (Kb.1.1.2.2 w (m.toNat + j) (by omega)).2
        rw [z] at this; omega
      rw [(rr.2.2 j hj).1, (rr.2.2 j hj).2, LO _ ne, HIn _ ne neb, LOr, HIr]
      have cm := c.2.1 (by omega)
      have mono : kM t b m.toNat ≤ kM t b (m.toNat + j) := by
        by_cases z : j = 0
        · rw [z, Nat.add_zero]; exact Int.le_refl _
        · exact Int.le_of_lt (OI_SO H hK hb lb m.toNat (m.toNat + j) (by omega) (by omega) (by omega))
      refine ⟨⟨by omega, c.1.2⟩, fun _ => cm, fun z => ?_⟩
      have := c.2.2 (by omega)
      rw [(rr.2.2 (j + 1) (by omega)).2]
      rw [show m.toNat + (j + 1) = m.toNat + j + 1 by omega]
      exact this
  · have lx := (hl x hx hlx).resolve_left e
    by_cases eb : x = b
    · rw [eb]
      refine ⟨by rw [HIb, LO b nbr]; exact sep1.1, fun w => ?_, fun w j hj => ?_⟩
      · rw [rb.1] at w
        have c := Hb.2.1 w
        rw [rb.2.1]
        refine ⟨fun i j h1 h2 h3 => ?_, fun j hj => ?_⟩
        · rw [(rb.2.2 i (by omega)).2, (rb.2.2 j h3).2]
          exact c.1 i j h1 h2 (by omega)
        · rw [(rb.2.2 j hj).2, HIb, LO b nbr]
          have q := c.2 j (by omega)
          have q2 := c.1 j m.toNat (Nat.zero_le _) (by omega) (by omega)
          rw [hs]
          omega
      · rw [rb.1] at w
        rw [rb.2.1] at hj ⊢
        have c := Hb.2.2 w j (by omega)
        have ne := nor b j hb lb w (by omega)
        have neb : ((hM t).2.2 b j).toNat ≠ b := fun z => by
          have := (Kb.1.1.2.2 w j (by omega)).2
          rw [z] at this; omega
        have cj := c.2.2 (by omega)
        have mono : kM t b (j + 1) ≤ kM t b m.toNat := by
          by_cases z : j + 1 = m.toNat
          · rw [z]; exact Int.le_refl _
          · exact Int.le_of_lt (OI_SO H hK hb lb (j + 1) m.toNat (by omega) (by omega) (by omega))
        rw [(rb.2.2 j hj).1, (rb.2.2 j hj).2, LO _ ne, HIn _ ne neb, LO b nbr, HIb]
        refine ⟨⟨c.1.1, by rw [hs]; omega⟩, c.2.1, fun z => ?_⟩
        rw [(rb.2.2 (j + 1) (by omega)).2]
        exact cj
    · by_cases ea : x = a
      · rw [ea]
        obtain ⟨r1, r2, r3, ⟨r4, r5⟩, r6⟩ := ra
        have Kbv := Ha k hk
        rw [hv, Int.toNat_natCast] at Kbv
        refine ⟨by rw [LO a nar, HIn a nar hab]; exact (H a ha la).1, fun w => ?_, fun w j hj => ?_⟩
        · rw [r1] at w; omega
        · rw [r2] at hj ⊢
          rw [LO a nar, HIn a nar hab]
          rcases Nat.lt_trichotomy j (k + 1) with g | g | g
          · rw [(r3 j g).1, (r3 j g).2]
            have c := Ha j (by omega)
            have ne := nor a j ha la hlev (by omega)
            by_cases ej : j = k
            · rw [ej]
              rw [hv, Int.toNat_natCast, LO b nbr, HIb, r5]
              exact ⟨⟨Kbv.1.1, by have := Kbv.1.2; omega⟩, Kbv.2.1, fun _ => by omega⟩
            · have h2 := HI _ ne
              rw [LO _ ne]
              refine ⟨⟨c.1.1, by have := c.1.2; omega⟩, c.2.1, fun z => ?_⟩
              rw [(r3 (j + 1) (by omega)).2]
              have := c.2.2 (by omega)
              omega
          · rw [g, r4, r5, Int.toNat_natCast, LOr, HIr]
            refine ⟨⟨by have := Kbv.1.1; omega, Kbv.1.2⟩, fun _ => Int.le_refl _, fun z => ?_⟩
            rw [(r6 (k + 1) (Nat.le_refl _) (by omega)).2]
            exact Kbv.2.2 (by omega)
          · obtain ⟨i, hi'⟩ : ∃ i, j = i + 1 := ⟨j - 1, by omega⟩
            rw [hi'] at hj ⊢
            rw [(r6 i (by omega) (by omega)).1, (r6 i (by omega) (by omega)).2]
            have c := Ha i (by omega)
            have ne := nor a i ha la hlev (by omega)
            have h2 := HI _ ne
            rw [LO _ ne]
            refine ⟨⟨c.1.1, by have := c.1.2; omega⟩, fun _ => c.2.1 (by omega), fun z => ?_⟩
            rw [(r6 (i + 1) (by omega) (by omega)).2]
            have := c.2.2 (by omega)
            omega
      · refine OBk_r (H x hx lx) (ho x e ea eb) (by rw [LO x e, HIn x e eb]; exact ⟨Int.le_refl _, Int.le_refl _⟩) (fun w j hj => ?_)
        have ne := nor x j hx lx w hj
        rw [LO _ ne]
        exact ⟨Int.le_refl _, HI _ ne⟩
/-- a key comes into a leaf -/
theorem OI_leaf {t o : MS} {lo hi : Nat → Int} {b k : Nat} {key val : Int} (H : OI t lo hi) (hb : b < 48) (lb : LV t b) (hl0 : (hM t).1 b ≤ 0) (I : InsE t o b k key val) (hky : lo b ≤ key ∧ key ≤ hi b) (hz : (hM t).2.1 b ≤ 5) (hP : PI (kM t b) ((hM t).2.1 b) key (k : Int)) (hne : (k : Int) < (hM t).2.1 b → kM t b k ≠ key) (hx6 : ∀ x, x < 48 → LV t x → (hM t).2.1 x ≤ 6) : OI o lo hi := fun x hx hl => by
  obtain ⟨B, z, i1, i2, i3⟩ := I
  have hl' : LV t x := by
    unfold LV at hl ⊢
    rw [← BX_c B, ← BX_v B]; exact hl
  by_cases e : x = b
  · rw [e]
    have c := (H b hb lb).2.1 hl0
    obtain ⟨⟨p1, p2⟩, p3, p4⟩ := hP
    refine ⟨(H b hb lb).1, fun _ => ⟨SO_step (fun j _ hj => ?_), fun j hj => ?_⟩, fun w => ?_⟩
    · rw [z] at hj
      rcases Nat.lt_trichotomy j k with g | g | g
      · rw [(i1 j g).2]
        by_cases g2 : j + 1 < k
        · rw [(i1 (j + 1) g2).2]
          exact c.1 j (j + 1) (Nat.zero_le _) (by omega) (by omega)
        · rw [show j + 1 = k by omega, i2.2]
          exact p3 j (by omega)
      · rw [g, i2.2, (i3 k (Nat.le_refl _) (by omega)).2]
        have q := p4 (by omega)
        rw [Int.toNat_natCast] at q
        have := hne (by omega)
        omega
      · obtain ⟨i, hi'⟩ : ∃ i, j = i + 1 := ⟨j - 1, by omega⟩
        rw [hi'] at hj ⊢
        rw [(i3 i (by omega) (by omega)).2, (i3 (i + 1) (by omega) (by omega)).2]
        exact c.1 i (i + 1) (Nat.zero_le _) (by omega) (by omega)
    · rw [z] at hj
      rcases Nat.lt_trichotomy j k with g | g | g
      · rw [(i1 j g).2]; exact c.2 j (by omega)
      · rw [g, i2.2]; exact hky
      · obtain ⟨i, hi'⟩ : ∃ i, j = i + 1 := ⟨j - 1, by omega⟩
        rw [hi'] at hj ⊢
        rw [(i3 i (by omega) (by omega)).2]; exact c.2 i (by omega)
    · rw [BX_l B] at w; omega
  · exact OBk_r (H x hx hl') (ROW_bx B e) ⟨Int.le_refl _, Int.le_refl _⟩ (fun _ _ _ => ⟨Int.le_refl _, Int.le_refl _⟩)
/-- nothing of the rows changes -/
theorem OI_same {t o : MS} {lo hi : Nat → Int} (H : OI t lo hi) (hr : ∀ x, x < 48 → LV o x → LV t x ∧ (ROW t x o x ∨ ((hM o).1 x ≤ 0 ∧ (hM t).1 x ≤ 0 ∧ (hM o).2.1 x = (hM t).2.1 x ∧ ∀ j, kM o x j = kM t x j))) : OI o lo hi := fun x hx hl => by
  obtain ⟨l, r | ⟨a, a', b, c⟩⟩ := hr x hx hl
  · exact OBk_r (H x hx l) r ⟨Int.le_refl _, Int.le_refl _⟩ (fun _ _ _ => ⟨Int.le_refl _, Int.le_refl _⟩)
  · have h := H x hx l
    refine ⟨h.1, fun _ => ?_, fun w => by omega⟩
    have q := h.2.1 a'
    rw [b]
    exact ⟨fun i j h1 h2 h3 => by rw [c i, c j]; exact q.1 i j h1 h2 h3, fun j hj => by rw [c j]; exact q.2 j hj⟩
