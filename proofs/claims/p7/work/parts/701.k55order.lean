/-! ===== the order of keys, by an interval a BLOCK ===== -/
set_option maxHeartbeats 250000 in theorem SO_step {f : Nat → Int} {a : Nat} {z : Int} (h : ∀ k : Nat, a ≤ k → (k : Int) + 1 < z → f k < f (k + 1)) : SO f a z := by
  intro i j hi hij hj
  obtain ⟨d, hd⟩ : ∃ d, j = i + 1 + d := ⟨j - i - 1, by omega⟩
  subst hd
  induction d with
  | zero => exact h i hi (by omega)
  | succ d ih =>
    have q := ih (by omega) (by omega)
    have r : f (i + 1 + d) < f (i + 1 + (d + 1)) := h (i + 1 + d) (by omega) (by omega)
    exact Int.lt_trans q r
def OBk (t : MS) (lo hi : Nat → Int) (x : Nat) : Prop := lo x ≤ hi x ∧ ((hM t).1 x ≤ 0 → SO (kM t x) 0 ((hM t).2.1 x) ∧ ∀ j : Nat, (j : Int) < (hM t).2.1 x → lo x ≤ kM t x j ∧ kM t x j ≤ hi x ∧ 0 ≤ (hM t).2.2 x j) ∧ (0 < (hM t).1 x → ∀ k : Nat, (k : Int) < (hM t).2.1 x → (lo x ≤ lo ((hM t).2.2 x k).toNat ∧ hi ((hM t).2.2 x k).toNat ≤ hi x) ∧ (1 ≤ k → kM t x k ≤ lo ((hM t).2.2 x k).toNat) ∧ ((k : Int) + 1 < (hM t).2.1 x → hi ((hM t).2.2 x k).toNat < kM t x (k + 1)))
def OI (t : MS) (lo hi : Nat → Int) : Prop := ∀ x, x < 48 → LV t x → OBk t lo hi x
set_option maxHeartbeats 250000 in theorem OI_SO {t : MS} {lo hi : Nat → Int} (H : OI t lo hi) (hK : KLV t) {x : Nat} (hx : x < 48) (hl : LV t x) : SO (kM t x) 1 ((hM t).2.1 x) := by
  by_cases w : 0 < (hM t).1 x
  · refine SO_step (fun k k1 k2 => ?_)
    have c := (H x hx hl).2.2 w k (by omega)
    have kid := (hK.2.1 x hx hl).2 w k (by omega)
    have y := (H _ (by omega) kid.2).1
    have c1 := c.2.1 k1
    have c2 := c.2.2 k2
    omega
  · have q := ((H x hx hl).2.1 (by omega)).1
    exact fun i j _ hij hj => q i j (Nat.zero_le _) hij hj
/- who is counted once has one that names it -/
set_option maxHeartbeats 250000 in theorem one_par {t : MS} {D : Nat → Int} {e : Int} (T : TM t D e) {a b k : Nat} (hb : b < 48) (hDb : D b = 0) (ha : a < 48) (hca : 0 < cM t a) (hla : 0 < (hM t).1 a) (hk : (k : Int) < (hM t).2.1 a) (hv : (hM t).2.2 a k = (b : Int)) (hcb : cM t b = 1) : ∀ p k' : Nat, p < 48 → 0 < cM t p → 0 < (hM t).1 p → (k' : Int) < (hM t).2.1 p → (hM t).2.2 p k' = (b : Int) → p = a ∧ k' = k := by
  intro p k' hp hcp hlp hk' hv'
  have d := T.2.1.1 b hb
  rw [hDb] at d
  unfold df rf at d
  have r0 := rr_nn (rM t) (b : Int)
  have f0 : ∀ j, j < 48 → (0 : Int) ≤ (fun p => if 0 < cM t p then en (hM t) p (b : Int) else 0) j := fun j _ => by
    show (0 : Int) ≤ if 0 < cM t j then en (hM t) j (b : Int) else 0
    split
    · exact en_nn _ _ _
    · exact Int.le_refl 0
  have za := (TG_nd T ha hca).2.1
  have zp := (TG_nd T hp hcp).2.1
  have ea : 1 ≤ en (hM t) a (b : Int) := by
    have g := enf_pos (h := hM t) (p := a) (k := k) (i := 0) hla hk (by omega) (by omega)
    rw [hv] at g
    exact g
  have ep : 1 ≤ en (hM t) p (b : Int) := by
    have g := enf_pos (h := hM t) (p := p) (k := k') (i := 0) hlp hk' (by omega) (by omega)
    rw [hv'] at g
    exact g
  by_cases z : p = a
  · refine ⟨z, Classical.byContradiction (fun w => ?_)⟩
    rw [z] at hk' hv'
    have two : 2 ≤ en (hM t) a (b : Int) := by
      unfold en enf
      rw [if_pos hla]
      have g := sm_ge2 (n := 6) (i := k) (k := k') (f := fun j => if (0 : Int) ≤ (j : Int) ∧ (j : Int) < (hM t).2.1 a ∧ (hM t).2.2 a j = (b : Int) then (1 : Int) else 0) (by omega) (by omega) (fun e => w e.symm) (fun j _ => by (try dsimp only); split <;> omega)
      have g1 : (if (0 : Int) ≤ (k : Int) ∧ (k : Int) < (hM t).2.1 a ∧ (hM t).2.2 a k = (b : Int) then (1 : Int) else 0) = 1 := if_pos ⟨by omega, hk, hv⟩
      have g2 : (if (0 : Int) ≤ (k' : Int) ∧ (k' : Int) < (hM t).2.1 a ∧ (hM t).2.2 a k' = (b : Int) then (1 : Int) else 0) = 1 := if_pos ⟨by omega, hk', hv'⟩
      (try dsimp only at g)
      rw [g1, g2] at g
      exact g
    have q := sm_ge (n := 48) (i := a) ha f0
    (try dsimp only at q)
    rw [if_pos hca] at q
    omega
  · exfalso
    have q := sm_ge2 (n := 48) (i := a) (k := p) ha hp (fun e => z e.symm) f0
    (try dsimp only at q)
    rw [if_pos hca, if_pos hcp] at q
    omega
/- a row moved: its own interval wider, those of its children narrower -/
set_option maxHeartbeats 250000 in theorem OBk_r {t o : MS} {lo hi lo' hi' : Nat → Int} {x y : Nat} (H : OBk t lo hi y) (r : ROW t y o x) (e : lo' x ≤ lo y ∧ hi y ≤ hi' x) (kids : 0 < (hM t).1 y → ∀ k : Nat, (k : Int) < (hM t).2.1 y → lo ((hM t).2.2 y k).toNat ≤ lo' ((hM t).2.2 y k).toNat ∧ hi' ((hM t).2.2 y k).toNat ≤ hi ((hM t).2.2 y k).toNat) : OBk o lo' hi' x := by
  obtain ⟨a, b, c⟩ := H
  refine ⟨by omega, fun w => ?_, fun w k hk => ?_⟩
  · rw [r.1] at w
    have b' := b w
    refine ⟨fun i j h1 h2 h3 => ?_, fun j hj => ?_⟩
    · rw [r.2.1] at h3
      rw [(r.2.2 i).2, (r.2.2 j).2]
      exact b'.1 i j h1 h2 h3
    · rw [r.2.1] at hj
      rw [(r.2.2 j).2, (r.2.2 j).1]
      have := b'.2 j hj
      omega
  · rw [r.1] at w
    rw [r.2.1] at hk ⊢
    rw [(r.2.2 k).1, (r.2.2 k).2, (r.2.2 (k + 1)).2]
    have c' := c w k hk
    have kk := kids w k hk
    exact ⟨⟨by omega, by omega⟩, fun z => by have := c'.2.1 z; omega, fun z => by have := c'.2.2 z; omega⟩
/- a new BLOCK that is empty -/
set_option maxHeartbeats 250000 in theorem OI_take {t o : MS} {lo hi : Nat → Int} {r : Nat} {l c : Int} (H : OI t lo hi) (hK : KLV t) (TK : TkE t o r l) (nl : ¬ LV t r) : OI o (upZ lo r c) (upZ hi r c) := fun x hx hl => by
  by_cases e : x = r
  · rw [e]
    refine ⟨by rw [upZ_s, upZ_s]; exact Int.le_refl c, fun _ => ⟨fun i j _ _ hj => ?_, fun j hj => ?_⟩, fun _ k hk => ?_⟩
    · rw [TK.2.2.2] at hj; omega
    · rw [TK.2.2.2] at hj; omega
    · rw [TK.2.2.2] at hk; omega
  · have hl' : LV t x := by
      unfold LV at hl ⊢
      have c1 : cM o x = cM t x := TK.1 (17 + 16 * x) (by omega)
      have c2 : vM o x = vM t x := TK.1 (18 + 16 * x) (by omega)
      rw [← c1, ← c2]; exact hl
    refine OBk_r (H x hx hl') (ROW_tk TK e) (by rw [upZ_n e, upZ_n e]; exact ⟨Int.le_refl _, Int.le_refl _⟩) (fun w k hk => ?_)
    have kid := ((hK.2.1 x hx hl').2 w k hk).2
    have ne : ((hM t).2.2 x k).toNat ≠ r := fun z => nl (by rw [← z]; exact kid)
    rw [upZ_n ne, upZ_n ne]
    exact ⟨Int.le_refl _, Int.le_refl _⟩
/- the child's own BLOCK: a copy, or itself; its interval takes the key in -/
set_option maxHeartbeats 250000 in theorem OI_own {T S : MS} {lo hi : Nat → Int} {b y r k : Nat} {key : Int} (H : OI T lo hi) (hK : KLV T) (hb : b < 48) (lb : LV T b) (hlev : 0 < (hM T).1 b) (hk : (k : Int) < (hM T).2.1 b) (hv : (hM T).2.2 b k = (y : Int)) (hky : lo b ≤ key ∧ key ≤ hi b) (hP : PF (kM T b) ((hM T).2.1 b) key (k : Int))
    (hr : ROW T y S r) (hrb : r ≠ b) (ho : ∀ x, x ≠ r → x ≠ b → ROW T x S x) (hbl : (hM S).1 b = (hM T).1 b ∧ (hM S).2.1 b = (hM T).2.1 b ∧ (∀ j, kM S b j = kM T b j) ∧ (hM S).2.2 b k = (r : Int) ∧ ∀ j, j ≠ k → (hM S).2.2 b j = (hM T).2.2 b j)
    (hl : ∀ x, x < 48 → LV S x → x = r ∨ LV T x) (hc : (r = y ∧ ∀ p k' : Nat, p < 48 → LV T p → 0 < (hM T).1 p → (k' : Int) < (hM T).2.1 p → (hM T).2.2 p k' = (y : Int) → p = b ∧ k' = k) ∨ ¬ LV T r) : OI S (upZ lo r (min (lo y) key)) (upZ hi r (max (hi y) key)) ∧ (upZ lo r (min (lo y) key) r ≤ key ∧ key ≤ upZ hi r (max (hi y) key) r) := by
  have kb := (hK.2.1 b hb lb)
  have ky := kb.2 hlev k hk
  rw [hv, Int.toNat_natCast] at ky
  have y48 : y < 48 := by omega
  have ly := ky.2
  have levy := (kb.1.1.2.2 hlev k hk).2
  rw [hv, Int.toNat_natCast] at levy
  have OBb := (H b hb lb).2.2 hlev
  -- nobody but b names r, and b at k alone
  have nor : ∀ p k' : Nat, p < 48 → LV T p → 0 < (hM T).1 p → (k' : Int) < (hM T).2.1 p → ¬ (p = b ∧ k' = k) → ((hM T).2.2 p k').toNat ≠ r := fun p k' hp lp hlp hk' hn e => by
    have kid := (hK.2.1 p hp lp).2 hlp k' hk'
    rcases hc with ⟨h1, h2⟩ | h2
    · exact hn (h2 p k' hp lp hlp hk' (by rw [← h1, ← e]; omega))
    · rw [e] at kid; exact h2 kid.2
  refine ⟨fun x hx hlx => ?_, by rw [upZ_s, upZ_s]; omega⟩
  by_cases e : x = r
  · rw [e]
    refine OBk_r (H y y48 ly) hr (by rw [upZ_s, upZ_s]; omega) (fun w j hj => ?_)
    have ne : ((hM T).2.2 y j).toNat ≠ r := nor y j y48 ly w hj (fun z => by rw [z.1] at levy; omega)
    rw [upZ_n ne, upZ_n ne]
    exact ⟨Int.le_refl _, Int.le_refl _⟩
  · have lx := (hl x hx hlx).resolve_left e
    by_cases eb : x = b
    · rw [eb]
      refine ⟨by rw [upZ_n (fun z => hrb z.symm), upZ_n (fun z => hrb z.symm)]; exact (H b hb lb).1, fun w => ?_, fun w j hj => ?_⟩
      · rw [hbl.1] at w; omega
      · rw [hbl.2.1] at hj ⊢
        rw [hbl.2.2.1 j, hbl.2.2.1 (j + 1), upZ_n (fun z => hrb z.symm), upZ_n (fun z => hrb z.symm)]
        have c := OBb j hj
        by_cases ej : j = k
        · rw [ej] at c hj ⊢
          rw [hv, Int.toNat_natCast] at c
          rw [hbl.2.2.2.1, Int.toNat_natCast, upZ_s, upZ_s]
          obtain ⟨_, _, p3, p4⟩ := hP
          refine ⟨⟨by omega, by omega⟩, fun w1 => ?_, fun w2 => ?_⟩
          · have q1 := p3 k w1 (Int.le_refl _)
            have q2 := c.2.1 w1
            omega
          · have q1 := p4 w2
            rw [show ((k : Int) + 1).toNat = k + 1 by omega] at q1
            have q2 := c.2.2 w2
            omega
        · rw [hbl.2.2.2.2 j ej]
          have ne : ((hM T).2.2 b j).toNat ≠ r := nor b j hb lb hlev hj (fun z => ej z.2)
          rw [upZ_n ne, upZ_n ne]
          exact c
    · refine OBk_r (H x hx lx) (ho x e eb) (by rw [upZ_n e, upZ_n e]; exact ⟨Int.le_refl _, Int.le_refl _⟩) (fun w j hj => ?_)
      have ne : ((hM T).2.2 x j).toNat ≠ r := nor x j hx lx w hj (fun z => eb z.1)
      rw [upZ_n ne, upZ_n ne]
      exact ⟨Int.le_refl _, Int.le_refl _⟩
/- a BLOCK parted in two under a -/
set_option maxHeartbeats 250000 in theorem OI_half {t v : MS} {lo hi : Nat → Int} {a b r k : Nat} {n m sep : Int} (H : OI t lo hi) (hK : KLV t) (ha : a < 48) (hb : b < 48) (la : LV t a) (lb : LV t b) (hlev : 0 < (hM t).1 a) (hk : (k : Int) < (hM t).2.1 a) (hv : (hM t).2.2 a k = (b : Int)) (hn : (hM t).2.1 b = n) (hm : 1 ≤ m ∧ m < n) (hs : sep = kM t b m.toNat) (nl : ¬ LV t r) (hab : a ≠ b)
    (rr : (hM v).1 r = (hM t).1 b ∧ (hM v).2.1 r = n - m ∧ ∀ j : Nat, (j : Int) < n - m → (hM v).2.2 r j = (hM t).2.2 b (m.toNat + j) ∧ kM v r j = kM t b (m.toNat + j))
    (rb : (hM v).1 b = (hM t).1 b ∧ (hM v).2.1 b = m ∧ ∀ j : Nat, (j : Int) < m → (hM v).2.2 b j = (hM t).2.2 b j ∧ kM v b j = kM t b j)
    (ra : (hM v).1 a = (hM t).1 a ∧ (hM v).2.1 a = (hM t).2.1 a + 1 ∧ (∀ j, j < k + 1 → (hM v).2.2 a j = (hM t).2.2 a j ∧ kM v a j = kM t a j) ∧ ((hM v).2.2 a (k + 1) = (r : Int) ∧ kM v a (k + 1) = sep) ∧ ∀ j, k + 1 ≤ j → (j : Int) < (hM t).2.1 a → (hM v).2.2 a (j + 1) = (hM t).2.2 a j ∧ kM v a (j + 1) = kM t a j)
    (ho : ∀ x, x ≠ r → x ≠ a → x ≠ b → ROW t x v x) (hl : ∀ x, x < 48 → LV v x → x = r ∨ LV t x) : OI v (upZ lo r sep) (upZ (upZ hi b (sep - 1)) r (hi b)) ∧ (lo b ≤ sep - 1 ∧ sep ≤ hi b) := by
  have nar : a ≠ r := fun e => nl (by rw [← e]; exact la)
  have nbr : b ≠ r := fun e => nl (by rw [← e]; exact lb)
  have Hb := H b hb lb
  have Ha := (H a ha la).2.2 hlev
  have Kb := hK.2.1 b hb lb
  have sz := Kb.1.1.2.1
  have sep1 : lo b ≤ sep - 1 ∧ sep ≤ hi b := by
    by_cases w : 0 < (hM t).1 b
    · have c0 := Hb.2.2 w 0 (by omega)
      have k0 := (Kb.2 w 0 (by omega))
      have i0 := (H _ (by omega) k0.2).1
      have c1 := Hb.2.2 w (m.toNat - 1) (by omega)
      have k1 := (Kb.2 w (m.toNat - 1) (by omega))
      have i1 := (H _ (by omega) k1.2).1
      have cm := Hb.2.2 w m.toNat (by omega)
      have km := (Kb.2 w m.toNat (by omega))
      have im := (H _ (by omega) km.2).1
      have c1' := c1.2.2 (by omega)
      rw [show m.toNat - 1 + 1 = m.toNat by omega] at c1'
      have cm' := cm.2.1 (by omega)
      rw [hs]
      omega
    · have c := Hb.2.1 (by omega)
      have q := c.1 0 m.toNat (Nat.le_refl _) (by omega) (by omega)
      have q0 := c.2 0 (by omega)
      have qm := c.2 m.toNat (by omega)
      rw [hs]
      omega
  -- nobody names r
  have nor : ∀ p k' : Nat, p < 48 → LV t p → 0 < (hM t).1 p → (k' : Int) < (hM t).2.1 p → ((hM t).2.2 p k').toNat ≠ r := fun p k' hp lp hlp hk' e => by
    have kid := (hK.2.1 p hp lp).2 hlp k' hk'
    rw [e] at kid; exact nl kid.2
  have LO : ∀ x, x ≠ r → upZ lo r sep x = lo x := fun x hx => upZ_n hx
  have HI : ∀ x, x ≠ r → upZ (upZ hi b (sep - 1)) r (hi b) x ≤ hi x := fun x hx => by
    rw [upZ_n hx]
    by_cases z : x = b
    · rw [z, upZ_s]; omega
    · rw [upZ_n z]; exact Int.le_refl _
  have HIn : ∀ x, x ≠ r → x ≠ b → upZ (upZ hi b (sep - 1)) r (hi b) x = hi x := fun x hx hz => by rw [upZ_n hx, upZ_n hz]
  have HIb : upZ (upZ hi b (sep - 1)) r (hi b) b = sep - 1 := by rw [upZ_n nbr, upZ_s]
  have HIr : upZ (upZ hi b (sep - 1)) r (hi b) r = hi b := by rw [upZ_s]
  have LOr : upZ lo r sep r = sep := by rw [upZ_s]
  generalize upZ (upZ hi b (sep - 1)) r (hi b) = hi' at HI HIn HIb HIr ⊢
  generalize upZ lo r sep = lo' at LO LOr ⊢
  refine ⟨fun x hx hlx => ?_, sep1⟩
  by_cases e : x = r
  · rw [e]
    refine ⟨by omega, fun w => ?_, fun w j hj => ?_⟩
    · rw [rr.1] at w
      have c := Hb.2.1 w
      rw [rr.2.1]
      refine ⟨fun i j _ h2 h3 => ?_, fun j hj => ?_⟩
      · rw [(rr.2.2 i (by omega)).2, (rr.2.2 j h3).2]
        exact c.1 _ _ (Nat.zero_le _) (by omega) (by omega)
      · rw [(rr.2.2 j hj).2, (rr.2.2 j hj).1]
        have q := c.2 (m.toNat + j) (by omega)
        refine ⟨?_, by omega, q.2.2⟩
        rw [LOr, hs]
        by_cases z : j = 0
        · rw [z, Nat.add_zero]; exact Int.le_refl _
        · have := c.1 m.toNat (m.toNat + j) (Nat.zero_le _) (by omega) (by omega)
          omega
    · rw [rr.1] at w
      rw [rr.2.1] at hj ⊢
      have c := Hb.2.2 w (m.toNat + j) (by omega)
      have ne := nor b (m.toNat + j) hb lb w (by omega)
      have neb : ((hM t).2.2 b (m.toNat + j)).toNat ≠ b := fun z => by
        have := (Kb.1.1.2.2 w (m.toNat + j) (by omega)).2
        rw [z] at this; omega
      rw [(rr.2.2 j hj).1, (rr.2.2 j hj).2, LO _ ne, HIn _ ne neb, LOr, HIr]
      have cm := c.2.1 (by omega)
      have mono : kM t b m.toNat ≤ kM t b (m.toNat + j) := by
        by_cases z : j = 0
        · rw [z, Nat.add_zero]; exact Int.le_refl _
        · exact Int.le_of_lt (OI_SO H hK hb lb m.toNat (m.toNat + j) (by omega) (by omega) (by omega))
      refine ⟨⟨by omega, c.1.2⟩, fun _ => cm, fun z => ?_⟩
      have := c.2.2 (by omega)
      rw [(rr.2.2 (j + 1) (by omega)).2]
      rw [show m.toNat + (j + 1) = m.toNat + j + 1 by omega]
      exact this
  · have lx := (hl x hx hlx).resolve_left e
    by_cases eb : x = b
    · rw [eb]
      refine ⟨by rw [HIb, LO b nbr]; exact sep1.1, fun w => ?_, fun w j hj => ?_⟩
      · rw [rb.1] at w
        have c := Hb.2.1 w
        rw [rb.2.1]
        refine ⟨fun i j h1 h2 h3 => ?_, fun j hj => ?_⟩
        · rw [(rb.2.2 i (by omega)).2, (rb.2.2 j h3).2]
          exact c.1 i j h1 h2 (by omega)
        · rw [(rb.2.2 j hj).2, (rb.2.2 j hj).1, HIb, LO b nbr]
          have q := c.2 j (by omega)
          have q2 := c.1 j m.toNat (Nat.zero_le _) (by omega) (by omega)
          rw [hs]
          omega
      · rw [rb.1] at w
        rw [rb.2.1] at hj ⊢
        have c := Hb.2.2 w j (by omega)
        have ne := nor b j hb lb w (by omega)
        have neb : ((hM t).2.2 b j).toNat ≠ b := fun z => by
          have := (Kb.1.1.2.2 w j (by omega)).2
          rw [z] at this; omega
        have cj := c.2.2 (by omega)
        have mono : kM t b (j + 1) ≤ kM t b m.toNat := by
          by_cases z : j + 1 = m.toNat
          · rw [z]; exact Int.le_refl _
          · exact Int.le_of_lt (OI_SO H hK hb lb (j + 1) m.toNat (by omega) (by omega) (by omega))
        rw [(rb.2.2 j hj).1, (rb.2.2 j hj).2, LO _ ne, HIn _ ne neb, LO b nbr, HIb]
        refine ⟨⟨c.1.1, by rw [hs]; omega⟩, c.2.1, fun z => ?_⟩
        rw [(rb.2.2 (j + 1) (by omega)).2]
        exact cj
    · by_cases ea : x = a
      · rw [ea]
        obtain ⟨r1, r2, r3, ⟨r4, r5⟩, r6⟩ := ra
        have Kbv := Ha k hk
        rw [hv, Int.toNat_natCast] at Kbv
        refine ⟨by rw [LO a nar, HIn a nar hab]; exact (H a ha la).1, fun w => ?_, fun w j hj => ?_⟩
        · rw [r1] at w; omega
        · rw [r2] at hj ⊢
          rw [LO a nar, HIn a nar hab]
          rcases Nat.lt_trichotomy j (k + 1) with g | g | g
          · rw [(r3 j g).1, (r3 j g).2]
            have c := Ha j (by omega)
            have ne := nor a j ha la hlev (by omega)
            by_cases ej : j = k
            · rw [ej]
              rw [hv, Int.toNat_natCast, LO b nbr, HIb, r5]
              exact ⟨⟨Kbv.1.1, by have := Kbv.1.2; omega⟩, Kbv.2.1, fun _ => by omega⟩
            · have h2 := HI _ ne
              rw [LO _ ne]
              refine ⟨⟨c.1.1, by have := c.1.2; omega⟩, c.2.1, fun z => ?_⟩
              rw [(r3 (j + 1) (by omega)).2]
              have := c.2.2 (by omega)
              omega
          · rw [g, r4, r5, Int.toNat_natCast, LOr, HIr]
            refine ⟨⟨by have := Kbv.1.1; omega, Kbv.1.2⟩, fun _ => Int.le_refl _, fun z => ?_⟩
            rw [(r6 (k + 1) (Nat.le_refl _) (by omega)).2]
            exact Kbv.2.2 (by omega)
          · obtain ⟨i, hi'⟩ : ∃ i, j = i + 1 := ⟨j - 1, by omega⟩
            rw [hi'] at hj ⊢
            rw [(r6 i (by omega) (by omega)).1, (r6 i (by omega) (by omega)).2]
            have c := Ha i (by omega)
            have ne := nor a i ha la hlev (by omega)
            have h2 := HI _ ne
            rw [LO _ ne]
            refine ⟨⟨c.1.1, by have := c.1.2; omega⟩, fun _ => c.2.1 (by omega), fun z => ?_⟩
            rw [(r6 (i + 1) (by omega) (by omega)).2]
            have := c.2.2 (by omega)
            omega
      · refine OBk_r (H x hx lx) (ho x e ea eb) (by rw [LO x e, HIn x e eb]; exact ⟨Int.le_refl _, Int.le_refl _⟩) (fun w j hj => ?_)
        have ne := nor x j hx lx w hj
        rw [LO _ ne]
        exact ⟨Int.le_refl _, HI _ ne⟩
/- a key comes into a leaf -/
set_option maxHeartbeats 250000 in theorem OI_leaf {t o : MS} {lo hi : Nat → Int} {b k : Nat} {key val : Int} (H : OI t lo hi) (hb : b < 48) (lb : LV t b) (hl0 : (hM t).1 b ≤ 0) (I : InsE t o b k key val) (hky : lo b ≤ key ∧ key ≤ hi b) (hz : (hM t).2.1 b ≤ 5) (hP : PI (kM t b) ((hM t).2.1 b) key (k : Int)) (hne : (k : Int) < (hM t).2.1 b → kM t b k ≠ key) (hx6 : ∀ x, x < 48 → LV t x → (hM t).2.1 x ≤ 6) (hval : 0 ≤ val) : OI o lo hi := fun x hx hl => by
  obtain ⟨B, z, i1, i2, i3⟩ := I
  have hl' : LV t x := by
    unfold LV at hl ⊢
    rw [← BX_c B, ← BX_v B]; exact hl
  by_cases e : x = b
  · rw [e]
    have c := (H b hb lb).2.1 hl0
    obtain ⟨⟨p1, p2⟩, p3, p4⟩ := hP
    refine ⟨(H b hb lb).1, fun _ => ⟨SO_step (fun j _ hj => ?_), fun j hj => ?_⟩, fun w => ?_⟩
    · rw [z] at hj
      rcases Nat.lt_trichotomy j k with g | g | g
      · rw [(i1 j g).2]
        by_cases g2 : j + 1 < k
        · rw [(i1 (j + 1) g2).2]
          exact c.1 j (j + 1) (Nat.zero_le _) (by omega) (by omega)
        · rw [show j + 1 = k by omega, i2.2]
          exact p3 j (by omega)
      · rw [g, i2.2, (i3 k (Nat.le_refl _) (by omega)).2]
        have q := p4 (by omega)
        rw [Int.toNat_natCast] at q
        have := hne (by omega)
        omega
      · obtain ⟨i, hi'⟩ : ∃ i, j = i + 1 := ⟨j - 1, by omega⟩
        rw [hi'] at hj ⊢
        rw [(i3 i (by omega) (by omega)).2, (i3 (i + 1) (by omega) (by omega)).2]
        exact c.1 i (i + 1) (Nat.zero_le _) (by omega) (by omega)
    · rw [z] at hj
      rcases Nat.lt_trichotomy j k with g | g | g
      · rw [(i1 j g).2, (i1 j g).1]; exact c.2 j (by omega)
      · rw [g, i2.2, i2.1]; exact ⟨hky.1, hky.2, hval⟩
      · obtain ⟨i, hi'⟩ : ∃ i, j = i + 1 := ⟨j - 1, by omega⟩
        rw [hi'] at hj ⊢
        rw [(i3 i (by omega) (by omega)).2, (i3 i (by omega) (by omega)).1]; exact c.2 i (by omega)
    · rw [BX_l B] at w; omega
  · exact OBk_r (H x hx hl') (ROW_bx B e) ⟨Int.le_refl _, Int.le_refl _⟩ (fun _ _ _ => ⟨Int.le_refl _, Int.le_refl _⟩)
/- nothing of the rows changes -/
set_option maxHeartbeats 250000 in theorem OI_same {t o : MS} {lo hi : Nat → Int} (H : OI t lo hi) (hr : ∀ x, x < 48 → LV o x → LV t x ∧ (ROW t x o x ∨ ((hM o).1 x ≤ 0 ∧ (hM t).1 x ≤ 0 ∧ (hM o).2.1 x = (hM t).2.1 x ∧ (∀ j, kM o x j = kM t x j) ∧ ∀ j : Nat, (j : Int) < (hM t).2.1 x → 0 ≤ (hM o).2.2 x j))) : OI o lo hi := fun x hx hl => by
  obtain ⟨l, r | ⟨a, a', b, c, d⟩⟩ := hr x hx hl
  · exact OBk_r (H x hx l) r ⟨Int.le_refl _, Int.le_refl _⟩ (fun _ _ _ => ⟨Int.le_refl _, Int.le_refl _⟩)
  · have h := H x hx l
    refine ⟨h.1, fun _ => ?_, fun w => by omega⟩
    have q := h.2.1 a'
    rw [b]
    exact ⟨fun i j h1 h2 h3 => by rw [c i, c j]; exact q.1 i j h1 h2 h3, fun j hj => by rw [c j]; exact ⟨(q.2 j hj).1, (q.2 j hj).2.1, d j hj⟩⟩
/-! ===== a key is put into a leaf on both sides ===== -/
set_option maxHeartbeats 250000 in theorem s_low {p : Nat} {key val r : Int} {S : MS} (hP : PI (fun k => gA S 58 (6 * p + k)) (gA S 57 p) key r) (so : SO (fun k => gA S 58 (6 * p + k)) 0 (gA S 57 p)) : ∀ (n : Nat) (x4 x5 : Int), 0 ≤ x5 → ((x5 ≤ r ∧ x4 = x5) ∨ (r ≤ x5 ∧ x4 = r)) → x5 ≤ gA S 57 p → pc (m_x1_plantLow_L35 n (p : Int) key val x4 x5 S) (fun o => m_x8_insert (p : Int) r key val S = some o) := by
  have tp : ((p : Nat) : Int).toNat = p := Int.toNat_natCast _
  obtain ⟨⟨p1, p2⟩, p3, p4⟩ := hP
  refine fr_ind (fun _ _ _ _ _ => pc_none) (fun n ih x4 x5 h5 h4 hz => ?_)
  show pc (m_x1_plantLow_b35 (m_x1_plantLow_L35 n) (p : Int) key val x4 x5 S) _
  unfold m_x1_plantLow_b35 m_x1_plantLow_J78 m_x8_slot
  refine pc_rdI (fun _ => ?_)
  rw [tp]
  refine pc_rg (pc_rg (pc_if (fun c => pc_bn (fun s19 e19 => pc_some ?_)) (fun c => pc_bn (fun r21 e21 => ?_))))
  · rw [show r = x4 by omega]; exact e19
  · cases e21
    refine pc_rdI (fun _ => ?_)
    rw [show ((p : Int) * 6 + x5).toNat = 6 * p + x5.toNat by omega]
    refine pc_rg (pc_rg (pc_if (fun c2 => ?_) (fun c2 => ?_)))
    · -- no less
      have h : r ≤ x5 := by
        rcases Int.lt_or_le x5 r with w | w
        · exfalso
          have q : gA S 58 (6 * p + x5.toNat) < key := p3 x5.toNat (by omega)
          omega
        · exact w
      exact ih (x4 + 0) (x5 + 1) (by omega) (Or.inr ⟨by omega, by omega⟩) (by omega)
    · have h : x5 < r := by
        rcases Int.lt_or_le x5 r with w | w
        · exact w
        · exfalso
          have q : key ≤ gA S 58 (6 * p + r.toNat) := p4 (by omega)
          by_cases z : r.toNat = x5.toNat
          · rw [z] at q; omega
          · have q2 : gA S 58 (6 * p + r.toNat) < gA S 58 (6 * p + x5.toNat) := so r.toNat x5.toNat (Nat.zero_le _) (by omega) (by omega)
            omega
      exact ih (x4 + 1) (x5 + 1) (by omega) (Or.inl ⟨by omega, by omega⟩) (by omega)
set_option maxHeartbeats 250000 in theorem m_low {b : Nat} {key val : Int} {t : MS} (hz : 0 ≤ (hM t).2.1 b ∧ (hM t).2.1 b ≤ 6) : pc (m_x12_putsIn (b : Int) key val t) (fun o => ∃ r, PI (kM t b) ((hM t).2.1 b) key r ∧ (((r < (hM t).2.1 b ∧ kM t b r.toNat = key) ∧ (((hM t).2.2 b r.toNat = val ∧ o = t) ∨ ((hM t).2.2 b r.toNat ≠ val ∧ m_x12_setsEntry (b : Int) r key val t = some o))) ∨ (¬ (r < (hM t).2.1 b ∧ kM t b r.toNat = key) ∧ m_x12_inserts (b : Int) r key val t = some o))) := by
  have tb : ((b : Nat) : Int).toNat = b := Int.toNat_natCast _
  unfold m_x12_putsIn m_x12_putsIn_J33 m_x12_putsIn_J34 m_x12_putsIn_J73
  refine pc_bq (m_placeIn (by omega) (by rw [tb]; exact hz)) (fun r25 h25 => pc_bq (m_ents (by omega)) (fun r27 h27 => ?_))
  rw [tb] at h25 h27
  have r0 := h25.1
  refine pc_rg (pc_rg (pc_if (fun c => ?_) (fun c => pc_bq (m_key (by omega) ⟨r0.1, by omega⟩) (fun r32 h32 => pc_rg (pc_rg (pc_if (fun c2 => ?_) (fun c2 => ?_)))))))
  · exact pc_rg (pc_if (fun _ => pc_bn (fun s18 e18 => pc_some ⟨r25, h25, Or.inr ⟨fun w => by omega, e18⟩⟩)) (fun z => absurd rfl z))
  · rw [tb] at h32
    refine pc_rg (pc_if (fun z => absurd z (by decide)) (fun _ => pc_bq (m_val (by omega) ⟨r0.1, by omega⟩) (fun r11 h11 => pc_rg (pc_rg (pc_if (fun c3 => pc_some ?_) (fun c3 => pc_bn (fun s16 e16 => pc_some ?_)))))))
    · rw [tb] at h11
      exact ⟨r25, h25, Or.inl ⟨⟨by omega, by rw [← h32]; exact c2⟩, Or.inl ⟨by rw [← h11]; exact c3, rfl⟩⟩⟩
    · rw [tb] at h11
      exact ⟨r25, h25, Or.inl ⟨⟨by omega, by rw [← h32]; exact c2⟩, Or.inr ⟨by rw [← h11]; exact c3, e16⟩⟩⟩
  · rw [tb] at h32
    exact pc_rg (pc_if (fun _ => pc_bn (fun s18 e18 => pc_some ⟨r25, h25, Or.inr ⟨fun w => c2 (by rw [h32]; exact w.2), e18⟩⟩)) (fun z => absurd rfl z))
set_option maxHeartbeats 250000 in theorem y_low {π σ : Nat → Nat} {s s' t t' : MS} {b : Nat} {key val : Int} (h : SIM π σ s t) (hK : ∀ x, x < 48 → LV t x → 0 ≤ (hM t).2.1 x ∧ (hM t).2.1 x ≤ 6) (hR : Rg s) (hRt : Rr t) (hb : b < 48) (hl : LV t b) (hl0 : (hM t).1 b = 0) (hz : (hM t).2.1 b ≤ 5) (so : SO (kM t b) 0 ((hM t).2.1 b)) (hkey : 0 ≤ key ∧ key ≤ 999) (hval : 0 ≤ val ∧ val ≤ 999)
    (e1 : m_x1_plantLow (π b : Int) key val s = some s') (e2 : m_x12_putsIn (b : Int) key val t = some t') : SIM π σ s' t' ∧ ((∃ k : Nat, InsE t t' b k key val ∧ PI (kM t b) ((hM t).2.1 b) key (k : Int) ∧ ((k : Int) < (hM t).2.1 b → kM t b k ≠ key)) ∨ (BX t t' b ∧ (hM t').2.1 b = (hM t).2.1 b ∧ (∀ j, kM t' b j = kM t b j) ∧ ∀ j, (hM t').2.2 b j = (hM t).2.2 b j ∨ (hM t').2.2 b j = val)) := by
  have hP := h.1.1
  have B := sim_b h hb hl
  have px := (hP b hb).1.1
  have tp : ((π b : Nat) : Int).toNat = π b := Int.toNat_natCast _
  have tb : ((b : Nat) : Int).toNat = b := Int.toNat_natCast _
  have sz := hK b hb hl
  have z1 : gA s 57 (π b) = (hM t).2.1 b := B.2.1
  have ek : ∀ k : Nat, (k : Int) < (hM t).2.1 b → gA s 58 (6 * π b + k) = kM t b k := fun k hk => (B.2.2 k hk).1
  have ev : ∀ k : Nat, (k : Int) < (hM t).2.1 b → gA s 59 (6 * π b + k) = (hM t).2.2 b k := fun k hk => (B.2.2 k hk).2.2 (by omega)
  obtain ⟨r, hPI, M⟩ := m_low sz t' e2
  have r0 := hPI.1
  have hPIs : PI (fun k => gA s 58 (6 * π b + k)) (gA s 57 (π b)) key r := by
    rw [z1]
    exact ⟨r0, fun k hk => by (try dsimp only); rw [ek k (by omega)]; exact hPI.2.1 k hk, fun w => by (try dsimp only); rw [ek r.toNat (by omega)]; exact hPI.2.2 w⟩
  have sos : SO (fun k => gA s 58 (6 * π b + k)) 0 (gA s 57 (π b)) := fun i j hi hij hj => by
    rw [z1] at hj
    show gA s 58 (6 * π b + i) < gA s 58 (6 * π b + j)
    rw [ek i (by omega), ek j hj]; exact so i j hi hij hj
  have C : pc (m_x1_plantLow (π b : Int) key val s) (fun o => ((r < (hM t).2.1 b ∧ kM t b r.toNat = key) ∧ m_x8_set (π b : Int) r val s = some o) ∨ (¬ (r < (hM t).2.1 b ∧ kM t b r.toNat = key) ∧ m_x8_insert (π b : Int) r key val s = some o)) := by
    unfold m_x1_plantLow
    refine pc_bq (s_find (p := (π b : Int)) (by omega)) (fun r27 h27 => ?_)
    rw [tp, z1] at h27
    have F : (r27 = -1 ∧ ¬ (r < (hM t).2.1 b ∧ kM t b r.toNat = key)) ∨ (r27 = r ∧ r < (hM t).2.1 b ∧ kM t b r.toNat = key) := by
      have h27' : FDc (kM t b) ((hM t).2.1 b) key r27 := by
        rcases h27 with ⟨a, c⟩ | ⟨a, a2, c, d⟩
        · exact Or.inl ⟨a, fun k hk => by rw [← ek k hk]; exact c k hk⟩
        · exact Or.inr ⟨a, a2, by rw [← ek r27.toNat (by omega)]; exact c, fun k hk => by rw [← ek k (by omega)]; exact d k hk⟩
      rcases FD_PI (f := kM t b) (g := kM t b) so (fun _ _ => rfl) h27' hPI with ⟨a, c⟩ | ⟨a, _, c, d⟩
      · exact Or.inl ⟨a, c⟩
      · exact Or.inr ⟨a, by omega, d⟩
    refine pc_rg (pc_if (fun c => ?_) (fun c => pc_bn (fun s31 e31 => pc_some ?_)))
    · have F' : ¬ (r < (hM t).2.1 b ∧ kM t b r.toNat = key) := by
        rcases F with ⟨_, f⟩ | ⟨a, f, _⟩
        · exact f
        · omega
      exact pc_mono (s_low hPIs sos FU 0 0 (Int.le_refl 0) (Or.inl ⟨r0.1, rfl⟩) (by rw [z1]; exact sz.1)) (fun o ho => Or.inr ⟨F', ho⟩)
    · rcases F with ⟨a, _⟩ | ⟨a, f⟩
      · exact absurd a c
      · rw [a] at e31
        exact Or.inl ⟨f, e31⟩
  rcases C s' e1 with ⟨f, es⟩ | ⟨f, es⟩
  · rcases M with ⟨_, m⟩ | ⟨m, _⟩
    · have Y := y_set h hK hR hRt hb hl ⟨r0.1, f.1⟩ (v1 := val) (v2 := val) ⟨by omega, by omega⟩ ⟨by omega, by omega⟩ ⟨fun w => by omega, fun _ => rfl⟩ (by rw [ev r.toNat (by omega)]) es (by
        rcases m with ⟨m1, m2⟩ | ⟨m1, m2⟩
        · exact Or.inl ⟨m1, m2⟩
        · exact Or.inr ⟨m1, by rw [f.2]; exact m2⟩)
      have VV : ∀ j, (hM t').2.2 b j = (hM t).2.2 b j ∨ (hM t').2.2 b j = val := fun j => by
        rcases m with ⟨_, m2⟩ | ⟨m1, m2⟩
        · exact Or.inl (by rw [m2])
        · have W2 := (wp_det (w_x12_setsEntry hRt (p0 := (b : Int)) ⟨by omega, by omega⟩ ⟨r0.1, by omega⟩ ⟨by omega, by omega⟩ ⟨by omega, by omega⟩) m2).2
          rw [tb] at W2
          show (if j < 6 then gA t' 49 (27 + 16 * b + j) else 0) = (if j < 6 then gA t 49 (27 + 16 * b + j) else 0) ∨ (if j < 6 then gA t' 49 (27 + 16 * b + j) else 0) = val
          by_cases z : j < 6
          · rw [if_pos z, if_pos z, W2]
            by_cases zz : j = r.toNat
            · rw [zz, upZ_s]; exact Or.inr rfl
            · rw [upZ_n (by omega), upZ_n (by omega)]; exact Or.inl rfl
          · rw [if_neg z, if_neg z]; exact Or.inl rfl
      refine ⟨Y.1, Or.inr ⟨Y.2.1, Y.2.2, fun j => ?_, VV⟩⟩
      rcases m with ⟨_, m2⟩ | ⟨m1, m2⟩
      · rw [m2]
      · have W2 := (wp_det (w_x12_setsEntry hRt (p0 := (b : Int)) ⟨by omega, by omega⟩ ⟨r0.1, by omega⟩ ⟨by omega, by omega⟩ ⟨by omega, by omega⟩) m2).2
        rw [tb] at W2
        show (if j < 6 then gA t' 49 (21 + 16 * b + j) else 0) = if j < 6 then gA t 49 (21 + 16 * b + j) else 0
        by_cases z : j < 6
        · rw [if_pos z, if_pos z, W2, upZ_n (by omega)]
          by_cases zz : j = r.toNat
          · rw [zz, upZ_s]
            have k6 := f.2
            have k7 : kM t b r.toNat = gA t 49 (21 + 16 * b + r.toNat) := if_pos (by omega)
            rw [← k7]; exact k6.symm
          · rw [upZ_n (by omega)]
        · rw [if_neg z, if_neg z]
    · exact absurd f m
  · rcases M with ⟨m, _⟩ | ⟨_, m⟩
    · exact absurd m f
    · have Y := y_ins h hK hR hRt hb hl ⟨r0.1, r0.2⟩ hz ⟨by omega, by omega⟩ (v1 := val) (v2 := val) ⟨by omega, by omega⟩ ⟨by omega, by omega⟩ ⟨fun w => by omega, fun _ => rfl⟩ es m
      have WI := wp_det (w_x12_inserts hRt (p0 := (b : Int)) (p1 := r) (p2 := key) (p3 := val) ⟨by omega, by omega⟩ ⟨r0.1, by rw [tb]; exact r0.2⟩ (by rw [tb]; exact hz) ⟨by omega, by omega⟩ ⟨by omega, by omega⟩) m
      rw [tb] at WI
      refine ⟨Y.1, Or.inl ⟨r.toNat, WI.2.2, ?_, fun w e => f ⟨by omega, e⟩⟩⟩
      rw [show ((r.toNat : Nat) : Int) = r by omega]; exact hPI
/-! ===== one step down a tree, each side by itself ===== -/
set_option maxHeartbeats 250000 in theorem s_step1 {n B : Nat} {key val i : Int} {S : MS} {Q : Int × MS → Prop} (hi : 0 < i) (K : ∀ (r : Int) (q30 : Int × MS), EF (fun k => gA S 58 (6 * B + k)) (gA S 57 B) key r → m_x1_owned (gA S 59 (6 * B + r.toNat)) S = some q30 → (q30.1 = -1 → Q (0, q30.2)) ∧ (q30.1 ≠ -1 → ∀ (s34 : MS) (q37 : Int × MS), m_x8_set (B : Int) r q30.1 q30.2 = some s34 → m_x1_splits q30.1 s34 = some q37 → (q37.1 = 0 → pc (m_x1_plant_L117 n key val q30.1 (i + -1) q37.2) Q) ∧ (q37.1 ≠ 0 → ∀ q42 : Int × MS, m_x1_split (B : Int) r q30.1 key q37.2 = some q42 → pc (m_x1_plant_L117 n key val q42.1 (i + -1) q42.2) Q))) : pc (m_x1_plant_L117 (n + 1) key val (B : Int) i S) Q := by
  have tB : ((B : Nat) : Int).toNat = B := Int.toNat_natCast _
  show pc (m_x1_plant_b117 (m_x1_plant_L117 n) key val (B : Int) i S) Q
  unfold m_x1_plant_b117 m_x1_plant_J211 m_x8_slot
  refine pc_rg (pc_if (fun c => absurd c (by omega)) (fun _ => pc_rg (pc_if (fun c => absurd c (by omega)) (fun _ => pc_bq (s_entryFor (by omega)) (fun r24 h24 => pc_bn (fun r26 e26 => ?_))))))
  cases e26
  rw [tB] at h24
  have r0 := h24.1
  refine pc_rdI (fun _ => ?_)
  rw [show ((B : Int) * 6 + r24).toNat = 6 * B + r24.toNat by omega]
  refine pc_bn (fun q30 e30 => ?_)
  have k := K r24 q30 h24 e30
  exact pc_rg (pc_if (fun c => pc_some (k.1 c)) (fun c => pc_bn (fun s34 e34 => pc_bn (fun q37 e37 => pc_rg (pc_if (fun c2 => ((k.2 c) s34 q37 e34 e37).1 c2) (fun c2 => pc_bn (fun q42 e42 => ((k.2 c) s34 q37 e34 e37).2 c2 q42 e42)))))))
/- nothing was to be had -/
set_option maxHeartbeats 250000 in theorem s_stepF {key val : Int} : ∀ (n : Nat) (i : Int) (S : MS), pc (m_x1_plant_L117 n key val (-1) i S) (fun q => q.1 = 0) := by
  have J : ∀ S : MS, pc (m_x1_plant_J219 key val (-1) S) (fun q => q.1 = 0) := fun S => by
    unfold m_x1_plant_J219
    exact pc_rg (pc_if (fun _ => pc_some rfl) (fun c => absurd rfl c))
  refine fr_ind (fun _ _ => pc_none) (fun n ih i S => ?_)
  show pc (m_x1_plant_b117 (m_x1_plant_L117 n) key val (-1) i S) _
  unfold m_x1_plant_b117
  exact pc_rg (pc_if (fun _ => J S) (fun _ => pc_rg (pc_if (fun _ => J S) (fun c => absurd rfl c))))
/- at a leaf -/
set_option maxHeartbeats 250000 in theorem s_step0 {n B : Nat} {key val i : Int} {S : MS} {Q : Int × MS → Prop} (hi : i ≤ 0) (K : ∀ s8 : MS, m_x1_plantLow (B : Int) key val S = some s8 → Q (1, s8)) : pc (m_x1_plant_L117 (n + 1) key val (B : Int) i S) Q := by
  show pc (m_x1_plant_b117 (m_x1_plant_L117 n) key val (B : Int) i S) Q
  unfold m_x1_plant_b117 m_x1_plant_J219
  exact pc_rg (pc_if (fun _ => pc_rg (pc_if (fun c => absurd c (by omega)) (fun _ => pc_bn (fun s8 e8 => pc_some (K s8 e8))))) (fun c => absurd hi c))
/-! the reference -/
set_option maxHeartbeats 250000 in theorem m_stepF {key val : Int} : ∀ (m : Nat) (b : Int) (T : MS), gI T 55 = 1 → pc (m_x12_puts_L94 m key val b T) (fun o => gI o 55 = 1) := by
  refine fr_ind (fun _ _ _ => pc_none) (fun m ih b T h => ?_)
  show pc (m_x12_puts_b94 (m_x12_puts_L94 m) key val b T) _
  unfold m_x12_puts_b94 m_x12_puts_J198 m_x12_puts_J213
  exact pc_rg (pc_if (fun c => absurd (h.symm.trans c) (by decide)) (fun _ => pc_rg (pc_if (fun c => absurd (h.symm.trans c) (by decide)) (fun _ => pc_some h))))
set_option maxHeartbeats 250000 in theorem m_step0 {m b : Nat} {key val : Int} {T : MS} {Q : MS → Prop} (h55 : gI T 55 = 0) (hl : (hM T).1 b ≤ 0) (K : ∀ s9 : MS, m_x12_putsIn (b : Int) key val T = some s9 → Q s9) : pc (m_x12_puts_L94 (m + 1) key val (b : Int) T) Q := by
  have tb : ((b : Nat) : Int).toNat = b := Int.toNat_natCast _
  show pc (m_x12_puts_b94 (m_x12_puts_L94 m) key val (b : Int) T) Q
  unfold m_x12_puts_b94 m_x12_puts_J198 m_x12_puts_J213
  refine pc_rg (pc_if (fun _ => pc_bq (m_lev (by omega)) (fun r37 h37 => ?_)) (fun c => absurd h55 c))
  rw [tb] at h37
  exact pc_rg (pc_if (fun _ => pc_rg (pc_if (fun _ => pc_bn (fun s9 e9 => pc_some (K s9 e9))) (fun c => absurd h55 c))) (fun c => absurd (by omega) c))
set_option maxHeartbeats 250000 in theorem m_J162 {m b : Nat} {key val r c : Int} {X : MS} {Q : MS → Prop} (h55 : gI X 55 = 0) (K : ∀ q28 : Int × MS, m_x12_doesSplit c X = some q28 → (q28.1 = 0 → pc (m_x12_puts_L94 m key val c q28.2) Q) ∧ (q28.1 ≠ 0 → ∀ q33 : Int × MS, m_x12_half (b : Int) r c key q28.2 = some q33 → pc (m_x12_puts_L94 m key val q33.1 q33.2) Q)) : pc (m_x12_puts_J162 (m_x12_puts_L94 m) key val (b : Int) r c X) Q := by
  unfold m_x12_puts_J162 m_x12_puts_J191
  exact pc_rg (pc_if (fun _ => pc_bn (fun q28 e28 => pc_rg (pc_if (fun c2 => (K q28 e28).1 c2) (fun c2 => pc_bn (fun q33 e33 => (K q28 e28).2 c2 q33 e33))))) (fun z => absurd h55 z))
set_option maxHeartbeats 250000 in theorem m_J162F {m b : Nat} {key val r c : Int} {X : MS} (h55 : gI X 55 = 1) : pc (m_x12_puts_J162 (m_x12_puts_L94 m) key val (b : Int) r c X) (fun o => gI o 55 = 1) := by
  unfold m_x12_puts_J162 m_x12_puts_J191
  exact pc_rg (pc_if (fun z => absurd (h55.symm.trans z) (by decide)) (fun _ => m_stepF m c X h55))
set_option maxHeartbeats 250000 in theorem m_step1 {m b : Nat} {key val : Int} {T : MS} {Q : MS → Prop} (h55 : gI T 55 = 0) (hl : 0 < (hM T).1 b) (hz : 1 ≤ (hM T).2.1 b ∧ (hM T).2.1 b ≤ 6) (K : ∀ (r : Int) (q46 : Int × MS), PF (kM T b) ((hM T).2.1 b) key r → m_x12_owned ((hM T).2.2 b r.toNat) T = some q46 → (q46.1 = (hM T).2.2 b r.toNat → pc (m_x12_puts_J162 (m_x12_puts_L94 m) key val (b : Int) r q46.1 q46.2) Q) ∧ (q46.1 ≠ (hM T).2.2 b r.toNat → ∀ s53 : MS, m_x12_setsEntry (b : Int) r (kM q46.2 b r.toNat) q46.1 q46.2 = some s53 → pc (m_x12_puts_J162 (m_x12_puts_L94 m) key val (b : Int) r q46.1 s53) Q)) : pc (m_x12_puts_L94 (m + 1) key val (b : Int) T) Q := by
  have tb : ((b : Nat) : Int).toNat = b := Int.toNat_natCast _
  show pc (m_x12_puts_b94 (m_x12_puts_L94 m) key val (b : Int) T) Q
  unfold m_x12_puts_b94
  refine pc_rg (pc_if (fun _ => pc_bq (m_lev (by omega)) (fun r37 h37 => ?_)) (fun c => absurd h55 c))
  rw [tb] at h37
  refine pc_rg (pc_if (fun c => absurd c (by omega)) (fun _ => pc_bq (m_placeFor (by omega) (by rw [tb]; exact hz.2)) (fun r41 h41 => ?_)))
  rw [tb] at h41
  have r0 := h41.1
  have r1 := h41.2.1
  refine pc_bq (m_val (by omega) ⟨r0, by omega⟩) (fun r43 h43 => ?_)
  rw [tb] at h43
  rw [h43]
  refine pc_bn (fun q46 e46 => ?_)
  have k := K r41 q46 h41 e46
  refine pc_rg (pc_rg (pc_if (fun c => k.1 c) (fun c => pc_bq (m_key (by omega) ⟨r0, by omega⟩) (fun r51 h51 => ?_))))
  rw [tb] at h51
  rw [h51]
  exact pc_bn (fun s53 e53 => k.2 c s53 e53)
/-! ===== what stands behind one step down: each side ===== -/
def CurO (s : MS) (b i : Int) : Prop := (0 ≤ b ∧ b < 48) ∧ gA s 54 b.toNat = 1 ∧ gA s 55 b.toNat = 0 ∧ gA s 56 b.toNat = i
set_option maxHeartbeats 250000 in theorem CurO_of {s : MS} {b i : Int} (h : Cur s b i) : CurO s b i := ⟨h.1, h.2.1, h.2.2.1, h.2.2.2.1⟩
def CurMo (s : MS) (v : Nat) (M : Nat → Nat → Int) (b i : Int) : Prop := ((0 ≤ b ∧ b < 48) ∧ cM s b.toNat = 1 ∧ vM s b.toNat = 0) ∧ (hM s).1 b.toNat = i ∧ (M v b.toNat = 1 ∧ ∀ u, u < 16 → u ≠ v → M u b.toNat = 0)
def GDo (s S : MS) (v : Nat) (b i : Int) : Prop := RWn s S v ∧ ∃ M, TM S d0 (-1) ∧ PM S v M d0 (-1) ∧ CurMo S v M b i
set_option maxHeartbeats 250000 in theorem GDo_of {s S : MS} {v : Nat} {b i : Int} (h : GD s S v b i) : GDo s S v b i := by
  obtain ⟨w, M, t, p, c⟩ := h
  exact ⟨w, M, t, p, c.1, c.2.1, c.2.2.2⟩
set_option maxHeartbeats 250000 in theorem c_next {S s34 : MS} {B i r : Int} {q30 : Int × MS} (hR : Rg S) (T : TS S Z0 (-1)) (hC : CurO S B i) (hi : 0 < i) (h5 : 0 ≤ gI S 581) (hk : 0 ≤ r ∧ r < gA S 57 B.toNat) (e30 : m_x1_owned (gA S 59 (6 * B.toNat + r.toNat)) S = some q30) (c3 : q30.1 ≠ -1) (e34 : m_x8_set B r q30.1 q30.2 = some s34) : Rg s34 ∧ TS s34 Z0 (-1) ∧ (0 ≤ q30.1 ∧ q30.1 < 48) ∧ (gA s34 54 q30.1.toNat = 1 ∧ gA s34 55 q30.1.toNat = 0 ∧ gA s34 56 q30.1.toNat = i - 1) ∧ CurO s34 B i ∧ gI s34 581 = gI S 581 ∧ gA s34 57 B.toNat = gA S 57 B.toNat := by
  have zD : ∀ x, x < 48 → 0 ≤ Z0 x := fun x _ => Int.le_refl 0
  have zD' : ∀ x, x < 48 → 0 ≤ Z0 x ∧ Z0 x ≤ 10 := fun x _ => ⟨Int.le_refl 0, by show (0 : Int) ≤ 10; omega⟩
  obtain ⟨hb, b54, b55, b56⟩ := hC
  have hb48 : B.toNat < 48 := by omega
  have hN8 : gI S 1060 ≤ 48 := T.1.1
  have hE6 : gI S 581 ≤ 6 := (hR.1 581).2
  obtain ⟨y, ey⟩ : ∃ y, y = gA S 59 (6 * B.toNat + r.toNat) := ⟨_, rfl⟩
  rw [← ey] at e30
  have kid := TG_kid (p := B.toNat) (k := r.toNat) T zD hb48 (by omega) (by show 0 < gA S 56 B.toNat; omega) (by show ((r.toNat : Nat) : Int) < gA S 57 B.toNat; omega)
  have v27 : (hN S).2.2 B.toNat r.toNat = y := ey.symm
  rw [v27] at kid
  obtain ⟨⟨k0, k1⟩, k2, k3⟩ := kid
  have k2' : gA S 56 y.toNat = gA S 56 B.toNat - 1 := k2
  obtain ⟨hRo, Fo, h30⟩ := wp_det (ts_owned hR T zD' h5 (p0 := y) (by omega) k3) e30
  obtain ⟨q, o⟩ := q30
  (try dsimp only at h30 hRo Fo e34 c3 ⊢)
  rcases h30 with h30 | ⟨r0, ⟨rq, rN⟩, ⟨o54, o55⟩, ⟨o56, o57⟩, oc, oh, oq, T1⟩
  · exact absurd h30 c3
  have nb : B.toNat ≠ y.toNat := fun z => by rw [← z] at k2'; omega
  have nq : B.toNat ≠ q.toNat := fun z => by
    rcases oq with oq | oq
    · exact nb (by omega)
    · rw [← z] at oq; omega
  have ob := oh B.toNat hb48 nq
  have c54 : gA o 54 B.toNat = 1 := by rw [oc B.toNat hb48 (by omega) (by omega) nb]; exact b54
  have c55 : gA o 55 B.toNat = 0 := by rw [Fo.2.1 55 (by decide)]; exact b55
  have c56 : gA o 56 B.toNat = i := by rw [ob.1]; exact b56
  have c57 : gA o 57 B.toNat = gA S 57 B.toNat := ob.2.1
  have s6 : gA S 57 B.toNat ≤ 6 := (T.1.2.2.2 B.toNat hb48).1.2
  have c59 : gA o 59 (6 * B.toNat + r.toNat) = y := by rw [(ob.2.2 r.toNat (by omega)).2]; exact ey.symm
  have oe : gI o 581 = gI S 581 := Fo.1 581 (by decide)
  have on : gI o 1060 = gI S 1060 := Fo.1 1060 (by decide)
  obtain ⟨hR34, F34, u59, T2⟩ := wp_det (ts_set (p0 := B) (p1 := r) (p2 := q) hRo T1 hb (by omega) (by omega) (by omega) (fun _ => ⟨by rw [on]; omega, by omega⟩) (by omega)) e34
  have T3 : TS s34 Z0 (-1) := by
    refine TG_D T2 (fun x hx => ?_)
    show (0 : Int) = 0 + (if x = q.toNat then 1 else 0) - (if x = y.toNat then 1 else 0) + (if 0 < gA o 56 B.toNat ∧ gA o 59 (6 * B.toNat + r.toNat) = (x : Int) then 1 else 0) - (if 0 < gA o 56 B.toNat ∧ q = (x : Int) then 1 else 0)
    rw [c59]
    have hl : 0 < gA o 56 B.toNat := by omega
    have e1 : (if 0 < gA o 56 B.toNat ∧ y = (x : Int) then (1 : Int) else 0) = if x = y.toNat then 1 else 0 := by
      by_cases z : x = y.toNat
      · rw [if_pos z, if_pos ⟨hl, by omega⟩]
      · rw [if_neg z, if_neg (fun w => z (by omega))]
    have e2 : (if 0 < gA o 56 B.toNat ∧ q = (x : Int) then (1 : Int) else 0) = if x = q.toNat then 1 else 0 := by
      by_cases z : x = q.toNat
      · rw [if_pos z, if_pos ⟨hl, by omega⟩]
      · rw [if_neg z, if_neg (fun w => z (by omega))]
    rw [e1, e2]; omega
  have g54 : gA s34 54 = gA o 54 := F34.2.1 54 (by decide)
  have g55 : gA s34 55 = gA o 55 := F34.2.1 55 (by decide)
  have g56 : gA s34 56 = gA o 56 := F34.2.1 56 (by decide)
  have g57 : gA s34 57 = gA o 57 := F34.2.1 57 (by decide)
  have ge : gI s34 581 = gI S 581 := (F34.1 581 (by decide)).trans oe
  exact ⟨hR34, T3, ⟨r0, by omega⟩, ⟨by rw [g54]; exact o54, by rw [g55]; exact o55, by rw [g56]; omega⟩, ⟨hb, by rw [g54]; exact c54, by rw [g55]; exact c55, by rw [g56]; exact c56⟩, ge, by rw [g57]; exact c57⟩
/- the reference: X is o itself, or o with the entry set -/
set_option maxHeartbeats 250000 in theorem r_next {t0 T X : MS} {v b : Nat} {i r : Int} {q46 : Int × MS} (hv : v < 8) (hR : Rr T) (hKS : KS t0 T) (hC0 : CE t0 0) (hE : 3 ≤ gA t0 39 6 ∧ gA t0 39 6 ≤ 6) (h55 : gI T 55 = 0) (hG : GDo t0 T v (b : Int) i) (hi : 0 < i) (hk : 0 ≤ r ∧ r < (hM T).2.1 b) (e46 : m_x12_owned ((hM T).2.2 b r.toNat) T = some q46) (z55 : gI q46.2 55 = 0)
    (hX : ((hM q46.2).2.2 b r.toNat = q46.1 ∧ X = q46.2) ∨ ((hM q46.2).2.2 b r.toNat ≠ q46.1 ∧ m_x12_setsEntry (b : Int) r (kM q46.2 b r.toNat) q46.1 q46.2 = some X)) :
    Rr X ∧ KS t0 X ∧ gI X 55 = 0 ∧ RWn t0 X v ∧ (0 ≤ q46.1 ∧ q46.1 < 48) ∧ (0 ≤ (hM T).2.2 b r.toNat ∧ (hM T).2.2 b r.toNat < 48) ∧ (BX q46.2 X b ∧ (hM X).2.1 b = (hM q46.2).2.1 b ∧ ((hM X).2.2 b r.toNat = q46.1 ∧ ∀ j, j ≠ r.toNat → (hM X).2.2 b j = (hM q46.2).2.2 b j) ∧ ∀ j, kM X b j = kM q46.2 b j) ∧ (∃ M', TM X d0 (-1) ∧ PM X v M' d0 (-1) ∧ CurMo X v M' (b : Int) i ∧ ((cM X q46.1.toNat = 1 ∧ vM X q46.1.toNat = 0) ∧ (hM X).1 q46.1.toNat = i - 1 ∧ (M' v q46.1.toNat = 1 ∧ ∀ u, u < 16 → u ≠ v → M' u q46.1.toNat = 0))) ∧ (q46.1.toNat = ((hM T).2.2 b r.toNat).toNat → cM T ((hM T).2.2 b r.toNat).toNat = 1 ∧ vM T ((hM T).2.2 b r.toNat).toNat = 0) := by
  obtain ⟨hW, M, TT, P, hA⟩ := hG
  obtain ⟨⟨ha, a54, a55⟩, a56, am, amu⟩ := hA
  have tb : ((b : Nat) : Int).toNat = b := Int.toNat_natCast _
  rw [tb] at a54 a55 a56 am amu
  have ha48 : b < 48 := by omega
  have S39 := hKS.1.1
  obtain ⟨y, ey⟩ : ∃ y, y = (hM T).2.2 b r.toNat := ⟨_, rfl⟩
  rw [← ey] at e46 ⊢
  have na := (TG_nd TT ha48 (by omega)).2.1
  have kid := TG_kid (p := b) (k := r.toNat) TT (fun _ _ => Int.le_refl 0) ha48 (by omega) (by omega) (by omega)
  have km := kid_mu (k := r.toNat) hv P ha48 (by omega) (by omega) (by omega)
  have ke := enf_pos (h := hM T) (p := b) (k := r.toNat) (i := 0) (by omega) (by omega) (by omega) (by omega)
  rw [← ey] at kid km ke
  obtain ⟨⟨k0, k1⟩, k2, k3⟩ := kid
  have hNS : gA T 39 5 ≤ 48 := TT.1.1
  have y48 : y.toNat < 48 := by omega
  have ke' : 0 < en (hM T) b ((y.toNat : Nat) : Int) := by
    rw [show ((y.toNat : Nat) : Int) = y by omega]
    have : 1 ≤ en (hM T) b y := ke
    omega
  obtain ⟨hRo, Fo, ko, h46⟩ := wp_det (mt_owned (M := M) hR hv TT P (KS_CE hKS hC0) (by rw [S39]; omega) h55 (p0 := y) (by omega) k3 km (own_x hv TT P y48 (Or.inr ⟨b, ha48, by omega, ke', fun u hu hn => by rw [amu u hu hn]; omega⟩))) e46
  obtain ⟨q, o⟩ := q46
  (try dsimp only at hRo Fo ko h46 z55 hX ⊢)
  have KSo : KS T o := ⟨⟨Fo.2.1 39 (by decide), Fo.2.1 42 (by decide), Fo.2.1 43 (by decide), Fo.2.1 44 (by decide)⟩, ko⟩
  have KSo' : KS t0 o := KS_t hKS KSo
  rcases h46 with ⟨h46, _⟩ | ⟨z0, w0, M', ⟨⟨rq, rN⟩, ⟨o54, o55⟩, ⟨o56, o57⟩⟩, oc, oh, oq, ou, ⟨To, Po⟩, om, omu, omn, omx⟩
  · omega
  have nb : b ≠ y.toNat := fun z => by rw [← z] at k2; omega
  have nq : b ≠ q.toNat := fun z => by
    rcases oq with oq | oq
    · exact nb (by omega)
    · rw [← z] at oq; omega
  have ob := oh b nq
  have cb : cM o b = 1 := by rw [oc b ha48 (by omega) (by omega) nb]; exact a54
  have vb : vM o b = 0 := by rw [ob.1]; exact a55
  have lb : (hM o).1 b = i := by rw [ob.2.1]; exact a56
  have eb : (hM o).2.2 b r.toNat = y := by rw [(ob.2.2.2 r.toNat (by omega)).1]; exact ey.symm
  have mb : M' v b = 1 := by rw [omx b nq nb]; exact am
  have mub : ∀ u, u < 16 → u ≠ v → M' u b = 0 := fun u hu hn => by rw [omn u hn]; exact amu u hu hn
  have hWo : RWn t0 o v := ⟨fun u hu hn => by rw [ou u hu]; exact hW.1 u hu hn, by rw [ou v (by omega)]; exact hW.2⟩
  have last : q.toNat = y.toNat → cM T y.toNat = 1 ∧ vM T y.toNat = 0 := fun e => by
    rcases Classical.em (cM T y.toNat = 1 ∧ vM T y.toNat = 0) with w | w
    · exact w
    · exfalso
      -- a copy is another block
      have g2 := m_own (p := y) (t := T) (by omega) h55 (fun o1 eo z => by
        have lvy := (TG_nd TT y48 k3)
        have lvl := (TG_lev TT (fun _ _ => Int.le_refl 0) y48 k3)
        have W := (wp_det (w_x12_taken hR ⟨by omega, hNS⟩ (KS_CE hKS hC0) (p0 := (hM T).1 y.toNat) (p1 := y) ⟨lvl.1, by omega⟩ ⟨by omega, by omega⟩) eo).2.2
        rcases W with W | ⟨_, W2, W3, W4⟩
        · omega
        · have ne : y.toNat ≠ o1.1.toNat := fun e2 => by rw [← e2] at W3; omega
          refine ⟨W2.1, fun e2 => ne e2.symm, ?_⟩
          have := W4.1 (20 + 16 * y.toNat) (by omega)
          show gA o1.2 49 (20 + 16 * y.toNat) ≤ 6
          rw [this]; exact lvy.2.1.2) (q, o) e46
      rcases g2 with ⟨a, _⟩ | ⟨_, o1, eo1, a2⟩
      · exact w ⟨a.2, a.1.2⟩
      · rcases a2 with ⟨x, e2⟩ | ⟨x, e2, _⟩
        · have : o = o1.2 := congrArg Prod.snd e2
          rw [this] at z55; exact x z55
        · have lvl := (TG_lev TT (fun _ _ => Int.le_refl 0) y48 k3)
          have W := (wp_det (w_x12_taken hR ⟨by omega, hNS⟩ (KS_CE hKS hC0) (p0 := (hM T).1 y.toNat) (p1 := y) ⟨lvl.1, by omega⟩ ⟨by omega, by omega⟩) eo1).2.2
          rcases W with W | ⟨_, _, W3, _⟩
          · omega
          · have e3 : q = o1.1 := e2
            rw [← e3, e] at W3; omega
  rcases hX with ⟨x1, x2⟩ | ⟨x1, x2⟩
  · have yq : q = y := x1.symm.trans eb
    subst x2
    exact ⟨hRo, KSo', z0, hWo, ⟨w0, by omega⟩, ⟨k0, by omega⟩, ⟨BX_0 _ _, rfl, ⟨x1, fun _ _ => rfl⟩, fun _ => rfl⟩, ⟨M', TG_D To (dq_0 (by omega)), PM_D Po (dq_0 (by omega)), ⟨⟨ha, by rw [tb]; exact cb, by rw [tb]; exact vb⟩, by rw [tb]; exact lb, by rw [tb]; exact mb, fun u hu hn => by rw [tb]; exact mub u hu hn⟩, ⟨o54, o55⟩, by rw [o56, k2]; omega, om, omu⟩, last⟩
  · have r51 : R2 (kM o b r.toNat) := by
      show R2 (if r.toNat < 6 then gA o 49 (21 + 16 * b + r.toNat) else 0)
      rw [if_pos (by omega)]; exact R49 hRo (by omega)
    obtain ⟨hR53, u53⟩ := wp_det (w_x12_setsEntry hRo ha (p1 := r) ⟨hk.1, by omega⟩ r51 (by omega)) x2
    rw [tb] at u53
    have F53 : F_x12_setsEntry o X := fr_x12_setsEntry x2
    obtain ⟨iB, iz, T2, P2⟩ := MT_set (b := b) (k := r.toNat) To Po (by omega) u53 (F53.2.1 39 (by decide)) (by omega) ha48 (by omega) (by omega) (by omega) (fun u hu hn => by rw [mub u hu hn]; omega) (by rw [ob.2.2.1]; omega) (fun _ => ⟨by rw [KSo.1.1]; omega, by rw [o56, k2, lb]; omega⟩)
    obtain ⟨_, _, g1, g2⟩ := M_set (k := r.toNat) (by omega) u53
    have dd : ∀ x : Nat, x < 48 → d0 x = dq q.toNat x - dq y.toNat x + (if 0 < (hM o).1 b ∧ (hM o).2.2 b r.toNat = (x : Int) then 1 else 0) - (if 0 < (hM o).1 b ∧ q = (x : Int) then 1 else 0) := fun x hx => by
      show (0 : Int) = _
      rw [eb]
      have e1 : (if 0 < (hM o).1 b ∧ y = (x : Int) then (1 : Int) else 0) = dq y.toNat x := by
        rw [← dd_0 k0]
        by_cases z : y = (x : Int)
        · rw [if_pos z, if_pos ⟨by omega, z⟩]
        · rw [if_neg z, if_neg (fun w => z w.2)]
      have e2 : (if 0 < (hM o).1 b ∧ q = (x : Int) then (1 : Int) else 0) = dq q.toNat x := by
        rw [← dd_0 w0]
        by_cases z : q = (x : Int)
        · rw [if_pos z, if_pos ⟨by omega, z⟩]
        · rw [if_neg z, if_neg (fun w => z w.2)]
      rw [e1, e2]; omega
    have K53 : KS t0 X := KS_t KSo' ⟨⟨F53.2.1 39 (by decide), F53.2.1 42 (by decide), F53.2.1 43 (by decide), F53.2.1 44 (by decide)⟩, fun j hj => BX_k iB ha48 hj⟩
    have kk : ∀ j, kM X b j = kM o b j := fun j => by
      by_cases z : j = r.toNat
      · rw [z]; exact g1.2
      · exact (g2 j z).2
    exact ⟨hR53, K53, (F53.1 55 (by decide)).trans z0, ⟨fun u hu hn => by rw [BX_u iB hu]; exact hWo.1 u hu hn, by rw [BX_u iB (by omega)]; exact hWo.2⟩, ⟨w0, by omega⟩, ⟨k0, by omega⟩, ⟨iB, iz, ⟨g1.1, fun j hj => (g2 j hj).1⟩, kk⟩, ⟨M', TG_D T2 dd, PM_D P2 dd, ⟨⟨ha, by rw [tb, BX_c iB]; exact cb, by rw [tb, BX_v iB]; exact vb⟩, by rw [tb, BX_l iB]; exact lb, by rw [tb]; exact mb, fun u hu hn => by rw [tb]; exact mub u hu hn⟩, ⟨by rw [BX_c iB]; exact o54, by rw [BX_v iB]; exact o55⟩, by rw [BX_l iB, o56, k2]; omega, om, omu⟩, last⟩
/-! ===== a put on both sides ===== -/
set_option maxHeartbeats 250000 in theorem EF_c {f g : Nat → Int} {z key r : Int} (e : ∀ k : Nat, (k : Int) < z → g k = f k) (h : EF f z key r) : EF g z key r := by
  obtain ⟨a, b, c⟩ := h
  refine ⟨a, ?_, fun k k1 k2 k3 => by rw [e k k2]; exact c k k1 k2 k3⟩
  rcases b with b | ⟨b1, b2⟩
  · exact Or.inl b
  · exact Or.inr ⟨b1, by rw [e r.toNat (by omega)]; exact b2⟩
def GJ (t0 : MS) (v : Nat) (key : Int) (S T : MS) (π σ : Nat → Nat) (lo hi : Nat → Int) (b : Nat) (i : Int) : Prop := (SIM π σ S T ∧ ZP S T) ∧ (Rg S ∧ Rr T) ∧ KS t0 T ∧ (TS S Z0 (-1) ∧ Cur S (π b : Int) i ∧ 3 ≤ gI S 581) ∧ (gI T 55 = 0 ∧ GD t0 T v (b : Int) i) ∧ OI T lo hi ∧ (lo b ≤ key ∧ key ≤ hi b)
def CON (q : Int × MS) (o : MS) : Prop := (q.1 = 0 ∧ gI o 55 = 1) ∨ (q.1 = 1 ∧ gI o 55 = 0 ∧ ∃ π σ lo hi, SIM π σ q.2 o ∧ ZP q.2 o ∧ OI o lo hi)
/- a block split under another: the order, in the words of m_half -/
set_option maxHeartbeats 250000 in theorem OI_hf {t : MS} {lo hi : Nat → Int} {a b k : Nat} {key : Int} {o1 o : Int × MS} (H : OI t lo hi) (hK : KLV t) (ha : a < 48) (hb : b < 48) (la : LV t a) (lb : LV t b) (hlev : 0 < (hM t).1 a) (hk : (k : Int) < (hM t).2.1 a) (hv : (hM t).2.2 a k = (b : Int)) (hz : 2 ≤ (hM t).2.1 b) (hz5 : (hM t).2.1 a ≤ 5) (hab : a ≠ b) (hky : lo b ≤ key ∧ key ≤ hi b)
    (h55 : gI o.2 55 = 0) (W : (0 ≤ o1.1 ∧ o1.1 < 48) ∧ (cM t o1.1.toNat ≤ 0 ∧ vM t o1.1.toNat ≤ 0) ∧ TkE t o1.2 o1.1.toNat ((hM t).1 b)) (HF : HFm a b (k : Int) key t o1 o) : ∃ lo' hi', OI o.2 lo' hi' ∧ (lo' o.1.toNat ≤ key ∧ key ≤ hi' o.1.toNat) := by
  obtain ⟨⟨w0, w1⟩, ⟨c0, v0⟩, TK⟩ := W
  rcases HF with ⟨z, e⟩ | ⟨_, S, q, s, HL, SZ, hRq, _, ev, oq, oa⟩
  · rw [e] at h55
    have h55' : gI o1.2 55 = 0 := h55
    omega
  obtain ⟨r, hr⟩ : ∃ r, r = o1.1.toNat := ⟨_, rfl⟩
  have ri : o1.1 = (r : Int) := by omega
  rw [← hr] at c0 v0 TK HL ev oa
  rw [ri] at ev oa
  have nl : ¬ LV t r := by unfold LV; omega
  have nar : a ≠ r := fun e => nl (by rw [← e]; exact la)
  have nbr : b ≠ r := fun e => nl (by rw [← e]; exact lb)
  have sz := (hK.2.1 b hb lb).1.1.2.1
  have td := half_b (z := (hM t).2.1 b) (E := 100) hz sz.2 (by omega)
  obtain ⟨⟨t1, _, t2⟩, t3, _, t5⟩ := td
  obtain ⟨hlB, hlz, hlc, hl39, _, _⟩ := HL
  obtain ⟨szB, szz, szr, sz39, _⟩ := SZ
  have tk := fun (x : Nat) (hx : x ≠ r) => ROW_tk TK hx
  have z5 : (hM q).2.1 a = (hM t).2.1 a := by rw [BX_z szB hab, BX_z hlB nar]; exact (tk a nar).2.1
  have ta : ((a : Nat) : Int).toNat = a := Int.toNat_natCast _
  have kq0 : R2 (kM q r 0) := by
    show R2 (if 0 < 6 then gA q 49 (21 + 16 * r + 0) else 0)
    rw [if_pos (by decide)]; exact R49 hRq (by omega)
  have WI := wp_det (w_x12_inserts hRq (p0 := (a : Int)) (p1 := (k : Int) + 1) (p2 := kM q r 0) (p3 := (r : Int)) ⟨by omega, by omega⟩ ⟨by omega, by rw [ta, z5]; omega⟩ (by rw [ta, z5]; exact hz5) kq0 ⟨by omega, by omega⟩) ev
  rw [ta, show ((k : Int) + 1).toNat = k + 1 by omega] at WI
  obtain ⟨_, _, B, iz, i1, i2, i3⟩ := WI
  obtain ⟨n, hn⟩ : ∃ n, n = (hM t).2.1 b := ⟨_, rfl⟩
  rw [← hn] at hlz hlc szz t1 t2 t3 t5 hz sz
  obtain ⟨m, hm⟩ : ∃ m, m = n - Int.tdiv n 2 := ⟨_, rfl⟩
  rw [← hm] at hlc szz t3 t5
  have hgo : Int.tdiv n 2 = n - m := by omega
  rw [hgo] at hlz hlc t1 t2
  -- the key that parts
  have sepq : kM q r 0 = kM t b m.toNat := by
    rw [(BX_e (j := 0) szB (fun e => nbr e.symm)).2, (hlc 0 (by omega)).2, Nat.add_zero]
    exact ((tk b nbr).2.2 m.toNat).2
  have OH := OI_half (v := s) (sep := kM t b m.toNat) H hK ha hb la lb hlev hk hv hn.symm ⟨t3, by omega⟩ rfl nl hab
    (by
      refine ⟨?_, ?_, fun j hj => ?_⟩
      · rw [BX_l B, BX_l szB, BX_l hlB]; exact TK.2.2.1
      · rw [BX_z B (fun e => nar e.symm), BX_z szB (fun e => nbr e.symm), hlz]
      · rw [(BX_e (j := j) B (fun e => nar e.symm)).1, (BX_e (j := j) B (fun e => nar e.symm)).2, (BX_e (j := j) szB (fun e => nbr e.symm)).1, (BX_e (j := j) szB (fun e => nbr e.symm)).2, (hlc j hj).1, (hlc j hj).2]
        exact (tk b nbr).2.2 (m.toNat + j))
    (by
      refine ⟨?_, ?_, fun j hj => ?_⟩
      · rw [BX_l B, BX_l szB, BX_l hlB]; exact (tk b nbr).1
      · rw [BX_z B (fun e => hab e.symm), szz]
      · rw [(BX_e (j := j) B (fun e => hab e.symm)).1, (BX_e (j := j) B (fun e => hab e.symm)).2, (szr j).1, (szr j).2, (BX_e (j := j) hlB nbr).1, (BX_e (j := j) hlB nbr).2]
        exact (tk b nbr).2.2 j)
    (by
      have ea : ∀ j, (hM q).2.2 a j = (hM t).2.2 a j ∧ kM q a j = kM t a j := fun j => by
        rw [(BX_e (j := j) szB hab).1, (BX_e (j := j) szB hab).2, (BX_e (j := j) hlB nar).1, (BX_e (j := j) hlB nar).2]
        exact (tk a nar).2.2 j
      refine ⟨?_, by rw [iz, z5], fun j hj => ?_, ⟨i2.1, by rw [i2.2]; exact sepq⟩, fun j j1 j2 => ?_⟩
      · rw [BX_l B, BX_l szB, BX_l hlB]; exact (tk a nar).1
      · rw [(i1 j hj).1, (i1 j hj).2]; exact ea j
      · rw [(i3 j j1 (by rw [z5]; exact j2)).1, (i3 j j1 (by rw [z5]; exact j2)).2]; exact ea j)
    (fun x x1 x2 x3 => ROW_t (ROW_t (ROW_t (tk x x1) (ROW_bx hlB x1)) (ROW_bx szB x3)) (ROW_bx B x2))
    (fun x hx hl => by
      by_cases e : x = r
      · exact Or.inl e
      · refine Or.inr ?_
        unfold LV at hl ⊢
        rw [BX_c B, BX_c szB, BX_c hlB, BX_v B, BX_v szB, BX_v hlB] at hl
        have c1 : cM o1.2 x = cM t x := TK.1 (17 + 16 * x) (by omega)
        have c2 : vM o1.2 x = vM t x := TK.1 (18 + 16 * x) (by omega)
        rw [← c1, ← c2]; exact hl)
  obtain ⟨O1, o2, o3⟩ := OH
  have kv : kM s r 0 = kM t b m.toNat := ((BX_e (j := 0) B (fun e => nar e.symm)).2).trans sepq
  rw [kv] at oa
  refine ⟨_, _, by rw [oq]; exact O1, ?_⟩
  rcases oa with ⟨x1, x2⟩ | ⟨x1, x2⟩
  · rw [x2, Int.toNat_natCast, upZ_n nbr, upZ_n nbr, upZ_s]; omega
  · rw [x2, Int.toNat_natCast, upZ_s, upZ_s]; omega
set_option maxHeartbeats 250000 in theorem OI_49 {t o : MS} {lo hi : Nat → Int} (H : OI t lo hi) (e : gA o 49 = gA t 49) : OI o lo hi := by
  obtain ⟨e1, e2, e3, e4⟩ := eq49 e
  refine OI_same H (fun x hx hl => ⟨?_, Or.inl ⟨by rw [e1], by rw [e1], fun k => by rw [e1, e2]; exact ⟨rfl, rfl⟩⟩⟩)
  unfold LV at hl ⊢
  rw [← e3, ← e4]; exact hl
set_option maxHeartbeats 4000000 in
theorem y_plant_L {t0 : MS} {v : Nat} {key val : Int} (hv : v < 8) (hkey : 0 ≤ key ∧ key ≤ 999) (hval : 0 ≤ val ∧ val ≤ 999) (hC0 : CE t0 0) (hC1 : CE t0 1) (hE : 3 ≤ gA t0 39 6 ∧ gA t0 39 6 ≤ 6) (hN0 : 0 ≤ gA t0 39 5) : ∀ (n m : Nat) (i : Int) (b : Nat) (S T : MS) (π σ : Nat → Nat) (lo hj : Nat → Int), GJ t0 v key S T π σ lo hj b i → pc (m_x1_plant_L117 n key val (π b : Int) i S) (fun q => pc (m_x12_puts_L94 m key val (b : Int) T) (fun o => CON q o)) := by
  refine fr_ind (fun _ _ _ _ _ _ _ _ _ _ => pc_none) (fun n ih m i b S T π σ lo hj G => ?_)
  cases m with
  | zero => exact fun q _ => pc_none
  | succ m =>
    obtain ⟨⟨h, hZ⟩, ⟨hR, hRt⟩, hKS, ⟨TSs, hCur, h581⟩, ⟨h55, hG⟩, hO, hky⟩ := G
    have hG0 := hG
    obtain ⟨hW, M, TT, P, hA⟩ := hG0
    obtain ⟨⟨ha, a54, a55⟩, a56, a57, am, amu⟩ := hA
    have tb : ((b : Nat) : Int).toNat = b := Int.toNat_natCast _
    have tp : ((π b : Nat) : Int).toNat = π b := Int.toNat_natCast _
    rw [tb] at a54 a55 a56 a57 am amu
    have hb : b < 48 := by omega
    have S39 := hKS.1.1
    have hK : KLV T := KLV_of TT (fun _ _ => Int.le_refl 0)
    have lb : LV T b := Or.inl (by omega)
    have hKs : ∀ x, x < 48 → LV T x → 0 ≤ (hM T).2.1 x ∧ (hM T).2.1 x ≤ 6 := fun x hx l => (hK.2.1 x hx l).1.1.2.1
    have Bb := sim_b h hb lb
    have hP := h.1.1
    have pb48 := (hP b hb).1.1
    have z1 : gA S 57 (π b) = (hM T).2.1 b := Bb.2.1
    have n1 : 1 ≤ (hM T).2.1 b := TT.2.2.1.1 b hb (by omega) (by omega)
    have sb := hKs b hb lb
    have NT : 0 ≤ gA T 39 5 ∧ gA T 39 5 ≤ 48 := ⟨by rw [S39]; exact hN0, TT.1.1⟩
    have l0 := (hK.2.1 b hb lb).1.1.1
    by_cases hi : i ≤ 0
    · refine s_step0 hi (fun s8 e8 => m_step0 h55 (by omega) (fun s9 e9 => ?_))
      have so := ((hO b hb lb).2.1 (by omega)).1
      have Y := y_low h hKs hR hRt hb lb (by omega) (by rw [S39] at a57; omega) so hkey hval e8 e9
      have F8 : F_x1_plantLow S s8 := fr_x1_plantLow e8
      have F9 : F_x12_putsIn T s9 := fr_x12_putsIn e9
      refine Or.inr ⟨rfl, (F9.1 55 (by decide)).trans h55, π, σ, lo, hj, Y.1, ZP_k hZ (F8.1 581 (by decide)) (F8.1 741 (by decide)) (fun k k1 k2 => F8.2.1 k (by simp; omega)) (fun k hk => F9.2.1 k (by simp; omega)), ?_⟩
      rcases Y.2 with ⟨k, I, pI, ne⟩ | ⟨bx, z, kk, vv⟩
      · exact OI_leaf hO hb lb (by omega) I hky (by rw [S39] at a57; omega) pI ne (fun x hx l => (hKs x hx l).2) hval.1
      · refine OI_same hO (fun x hx hl => ⟨?_, ?_⟩)
        · unfold LV at hl ⊢
          rw [← BX_c bx, ← BX_v bx]; exact hl
        · by_cases e : x = b
          · rw [e]; exact Or.inr ⟨by rw [BX_l bx]; omega, by omega, z, kk, fun j hj => by
              rcases vv j with w | w
              · rw [w]; exact (((hO b hb lb).2.1 (by omega)).2 j hj).2.2
              · rw [w]; exact hval.1⟩
          · exact Or.inl (ROW_bx bx e)
    · have ev : ∀ k : Nat, (k : Int) < (hM T).2.1 b → gA S 59 (6 * π b + k) = (π ((hM T).2.2 b k).toNat : Int) := fun k hk => (Bb.2.2 k hk).2.1 (by omega)
      refine s_step1 (by omega) (fun r q30 hEF e30 => ?_)
      have e30o := e30
      have r0 := hEF.1
      have r1 : r < (hM T).2.1 b := by
        rcases hEF.2.1 with w | w
        · omega
        · rw [← z1]; exact w.1
      have EFT : EF (kM T b) ((hM T).2.1 b) key r := by
        have q := EF_c (g := kM T b) (fun k hk => ((Bb.2.2 k (by rw [← z1]; exact hk)).1).symm) hEF
        rw [z1] at q; exact q
      rw [ev r.toNat (by omega)] at e30
      have kid := (hK.2.1 b hb lb).2 (by omega) r.toNat (by omega)
      have kidN := (hK.2.1 b hb lb).1.1.2.2 (by omega) r.toNat (by omega)
      obtain ⟨y, hy⟩ : ∃ y, y = ((hM T).2.2 b r.toNat).toNat := ⟨_, rfl⟩
      rw [← hy] at e30 kid kidN
      have y48 : y < 48 := by omega
      have yv : (hM T).2.2 b r.toNat = (y : Int) := by omega
      have ty : ((y : Nat) : Int).toNat = y := Int.toNat_natCast _
      have tpy : ((π y : Nat) : Int).toNat = π y := Int.toNat_natCast _
      have py48 := (hP y y48).1.1
      have nby : b ≠ y := fun e => by rw [← e] at kidN; omega
      have hcy : 0 < cM T y := by
        have k := TG_kid (p := b) (k := r.toNat) TT (fun _ _ => Int.le_refl 0) hb (by omega) (by omega) (by omega)
        rw [yv, ty] at k; exact k.2.2
      have cy := sim_c h y48
      have zD' : ∀ x, x < 48 → 0 ≤ Z0 x ∧ Z0 x ≤ 10 := fun x _ => ⟨Int.le_refl 0, by show (0 : Int) ≤ 10; omega⟩
      have W30 := wp_det (ts_owned hR TSs zD' (by omega) (p0 := (π y : Int)) ⟨by omega, by omega⟩ (by rw [tpy, cy.1]; exact hcy)) e30
      have km := kid_mu (k := r.toNat) hv P hb (by omega) (by omega) (by omega)
      have ke := enf_pos (h := hM T) (p := b) (k := r.toNat) (i := 0) (by omega) (by omega) (by omega) (by omega)
      rw [yv] at km ke
      have OWN : ∀ q46 : Int × MS, m_x12_owned (y : Int) T = some q46 → (q30.1 = -1 ∧ gI q46.2 55 = 1) ∨ (gI q46.2 55 = 0 ∧ 0 ≤ q30.1 ∧ 0 ≤ q46.1 ∧ ∃ π' σ', SIM π' σ' q30.2 q46.2 ∧ q30.1 = (π' q46.1.toNat : Int) ∧ (∀ x, x < 48 → LV T x → π' x = π x) ∧ CPY T q46.2 y q46.1.toNat) := fun q46 e46 => by
        have W46 := wp_det (mt_owned (M := M) hRt hv TT P (KS_CE hKS hC0) (by rw [S39]; omega) h55 (p0 := (y : Int)) ⟨by omega, by omega⟩ (by rw [ty]; exact hcy) km (own_x hv TT P (by rw [ty]; exact y48) (Or.inr ⟨b, hb, by omega, by
          rw [ty]
          have q : 1 ≤ en (hM T) b (y : Int) := ke
          omega, fun u hu hn => by rw [amu u hu hn]; omega⟩))) e46
        have Y := y_ownB (v := v) (M := M) h hK hR hRt TSs TT (KS_CE hKS hC0) (by omega) (by rw [S39]; omega) h55 (p := (π y : Int)) (p' := (y : Int)) ⟨by omega, by omega⟩ (by rw [ty]) (by rw [ty]; exact hcy) e30 e46 W30.2.2 W46.2.2.2
        rw [ty] at Y; exact Y
      have PFr : ∀ r' : Int, PF (kM T b) ((hM T).2.1 b) key r' → r' = r := fun r' hPF => (EF_PF (OI_SO hO hK hb lb) (fun _ _ => rfl) EFT hPF).symm
      refine ⟨fun c => ?_, fun c s34 q37 e34 e37 => ?_⟩
      · refine m_step1 h55 (by omega) ⟨n1, sb.2⟩ (fun r' q46 hPF e46 => ?_)
        rw [PFr r' hPF, yv] at e46
        rw [PFr r' hPF]
        have f : gI q46.2 55 = 1 := by
          rcases OWN q46 e46 with x | x
          · exact x.2
          · exact absurd c (by have := x.2.1; omega)
        refine ⟨fun _ => pc_mono (m_J162F f) (fun o ho => Or.inl ⟨rfl, ho⟩), fun _ s53 e53 => ?_⟩
        have F53 : F_x12_setsEntry q46.2 s53 := fr_x12_setsEntry e53
        exact pc_mono (m_J162F ((F53.1 55 (by decide)).trans f)) (fun o ho => Or.inl ⟨rfl, ho⟩)
      · -- the child is each side's own
        have C := c_next hR TSs (CurO_of hCur) (by omega) (by omega) (r := r) ⟨r0, by rw [tp, z1]; exact r1⟩ (by rw [tp]; exact e30o) c e34
        rw [tp] at C
        obtain ⟨hR34, T34, q30r, ⟨g54, g55, g56⟩, Cb, ge, g57⟩ := C
        have F30 : F_x1_owned S q30.2 := fr_x1_owned e30
        have F34 : F_x8_set q30.2 s34 := fr_x8_set e34
        have STEP : ∀ (q46 : Int × MS) (X : MS), m_x12_owned (y : Int) T = some q46 → (((hM q46.2).2.2 b r.toNat = q46.1 ∧ X = q46.2) ∨ ((hM q46.2).2.2 b r.toNat ≠ q46.1 ∧ m_x12_setsEntry (b : Int) r (kM q46.2 b r.toNat) q46.1 q46.2 = some X)) → ∃ (cc : Nat) (π1 σ1 : Nat → Nat) (lo1 hj1 : Nat → Int), (q46.1 = (cc : Int) ∧ cc < 48 ∧ q30.1 = (π1 cc : Int) ∧ π1 b = π b) ∧ (SIM π1 σ1 s34 X ∧ ZP s34 X) ∧ (OI X lo1 hj1 ∧ (lo1 cc ≤ key ∧ key ≤ hj1 cc)) ∧ (Rr X ∧ KS t0 X ∧ gI X 55 = 0 ∧ RWn t0 X v) ∧ (∃ M', TM X d0 (-1) ∧ PM X v M' d0 (-1) ∧ CurMo X v M' (b : Int) i ∧ ((cM X cc = 1 ∧ vM X cc = 0) ∧ (hM X).1 cc = i - 1 ∧ (M' v cc = 1 ∧ ∀ u, u < 16 → u ≠ v → M' u cc = 0))) ∧ ((hM X).2.1 b = (hM T).2.1 b ∧ (hM X).2.2 b r.toNat = (cc : Int)) := fun q46 X e46 hX => by
          rcases OWN q46 e46 with x | ⟨x55, x1, x2, π1, σ1, H1, x3, x4, CP⟩
          · exact absurd x.1 c
          obtain ⟨cc, hcc⟩ : ∃ cc, cc = q46.1.toNat := ⟨_, rfl⟩
          have ci : q46.1 = (cc : Int) := by omega
          rw [← hcc] at x3 CP
          obtain ⟨CP1, CP2, CP3, CP4⟩ := CP
          have RN := r_next hv hRt hKS hC0 hE h55 (GDo_of hG) (by omega) ⟨r0, r1⟩ (by rw [yv]; exact e46) x55 hX
          rw [yv, ty, ← hcc] at RN
          obtain ⟨RX, KX, X55, WX, cR, _, ⟨BXx, zX, ⟨vX, vX'⟩, kX⟩, MX, lastX⟩ := RN
          have c48 : cc < 48 := by omega
          have ncb : b ≠ cc := fun e => by
            rcases CP4 with w | w
            · exact nby (e.trans w)
            · exact w (by rw [← e]; exact lb)
          have rb := CP2 b ncb
          have LVb : LV q46.2 b := by
            obtain ⟨M', TX, _, hAX, _⟩ := MX
            have q := hAX.1.2.1
            rw [tb] at q
            rw [BX_c BXx] at q
            exact Or.inl (by omega)
          have K46 : ∀ x, x < 48 → LV q46.2 x → 0 ≤ (hM q46.2).2.1 x ∧ (hM q46.2).2.1 x ≤ 6 := fun x hx hl => by
            rcases CP3 x hx hl with w | w
            · rw [w, CP1.2.1]; exact hKs y y48 kid.2
            · by_cases e : x = cc
              · rw [e, CP1.2.1]; exact hKs y y48 kid.2
              · rw [(CP2 x e).2.1]; exact hKs x hx w
          have eb : (hM q46.2).2.2 b r.toNat = (y : Int) := by rw [(rb.2.2 r.toNat).1]; exact yv
          have B46 := sim_b H1 hb LVb
          have kb : π1 b = π b := x4 b hb lb
          have P1 := H1.1.1
          have R46 : Rr q46.2 := (wp_det (mt_owned (M := M) hRt hv TT P (KS_CE hKS hC0) (by rw [S39]; omega) h55 (p0 := (y : Int)) ⟨by omega, by omega⟩ (by rw [ty]; exact hcy) km (own_x hv TT P (by rw [ty]; exact y48) (Or.inr ⟨b, hb, by omega, by
            rw [ty]
            have q : 1 ≤ en (hM T) b (y : Int) := ke
            omega, fun u hu hn => by rw [amu u hu hn]; omega⟩))) e46).1
          have lev46 : 0 < (hM q46.2).1 b := by rw [rb.1]; omega
          have vc := (B46.2.2 r.toNat (by rw [rb.2.1]; omega)).2.1 lev46
          rw [eb, ty] at vc
          have Y2 := y_set H1 K46 W30.1 R46 hb LVb (p1 := r) (v1 := q30.1) (v2 := q46.1) ⟨r0, by rw [rb.2.1]; exact r1⟩ ⟨by omega, by omega⟩ ⟨by omega, by omega⟩ ⟨fun _ => by rw [← hcc]; exact x3, fun w => by omega⟩ (by
            rw [eb, show gA q30.2 59 (6 * π1 b + r.toNat) = (π1 y : Int) from vc, x3, ci]
            constructor
            · intro e
              rw [show y = cc by omega]
            · intro e
              have := PB_i P1 y48 c48 (by omega)
              omega) (by rw [kb]; exact e34) (by
            rcases hX with w | w
            · exact Or.inl ⟨w.1, w.2⟩
            · exact Or.inr w)
          obtain ⟨H2, _, _⟩ := Y2
          have ZX : ZP s34 X := by
            have F46 : F_x12_owned T q46.2 := fr_x12_owned e46
            have X39 : ∀ k, k = 39 ∨ (42 ≤ k ∧ k ≤ 44) → gA X k = gA T k := fun k hk => by
              rcases hX with w | w
              · rw [w.2]; exact F46.2.1 k (by simp; omega)
              · have F53 : F_x12_setsEntry q46.2 X := fr_x12_setsEntry w.2
                rw [F53.2.1 k (by simp; omega)]; exact F46.2.1 k (by simp; omega)
            exact ZP_k hZ ge (by rw [F34.1 741 (by decide), F30.1 741 (by decide)]) (fun k k1 k2 => by rw [F34.2.1 k (by simp; omega), F30.2.1 k (by simp; omega)]) X39
          have OX := OI_own (S := X) (b := b) (y := y) (r := cc) (k := r.toNat) (key := key) hO hK hb lb (by omega) (by omega) yv hky (by
              rw [show ((r.toNat : Nat) : Int) = r by omega]
              obtain ⟨f1, f2, f3⟩ := EFT
              refine ⟨f1, f2.imp id (fun w => w.1), fun k k1 k2 => ?_, fun w => ?_⟩
              · rcases f2 with w | w
                · omega
                · by_cases e : k = r.toNat
                  · rw [e]; exact w.2
                  · have := OI_SO hO hK hb lb k r.toNat k1 (by omega) (by omega)
                    omega
              · exact f3 (r + 1).toNat (by omega) (by omega) (by omega))
            (ROW_t CP1 (ROW_bx BXx (fun e => ncb e.symm))) (fun e => ncb e.symm) (fun x x1' x2' => ROW_t (CP2 x x1') (ROW_bx BXx x2')) ⟨by rw [BX_l BXx]; exact rb.1, by rw [zX]; exact rb.2.1, fun j => by rw [kX j]; exact (rb.2.2 j).2, vX.trans ci, fun j hj' => by rw [vX' j hj']; exact (rb.2.2 j).1⟩ (fun x hx hl => by
              refine CP3 x hx ?_
              unfold LV at hl ⊢
              rw [← BX_c BXx, ← BX_v BXx]; exact hl) (by
              rcases CP4 with w | w
              · refine Or.inl ⟨w, fun p k' hp lp hlp hk' hv' => ?_⟩
                have cv := lastX w
                have OP := one_par TT y48 rfl hb (by omega) (by omega) (k := r.toNat) (by omega) yv cv.1
                rcases lp with cp | cp
                · exact OP p k' hp cp hlp hk' hv'
                · exfalso
                  have kd := TG_kid (TG_ss TT) (fun _ _ => Int.le_refl 0) hp cp hlp hk'
                  have kd2 := kd.2.2
                  rw [hv', ty] at kd2
                  omega
              · exact Or.inr w)
          obtain ⟨M', TX, PX, hAX, hc1, hc2, hc3⟩ := MX
          exact ⟨cc, π1, σ1, _, _, ⟨ci, c48, x3, kb⟩, ⟨H2, ZX⟩, OX, ⟨RX, KX, X55, WX⟩, ⟨M', TX, PX, hAX, hc1, hc2, hc3⟩, by rw [zX]; exact rb.2.1, vX.trans ci⟩
        -- whether it splits
        have B30 : (0 : Int) ≤ q30.1 ∧ q30.1 < 48 := q30r
        obtain ⟨hR37, h37⟩ := wp_det (w_x1_splits hR34 B30) e37
        have F37 : F_x1_splits s34 q37.2 := fr_x1_splits e37
        have T37 : TS q37.2 Z0 (-1) := TS_eq T34 (F37.2.1 54 (by decide)) (F37.2.1 55 (by decide)) (F37.2.1 56 (by decide)) (F37.2.1 57 (by decide)) (F37.2.1 58 (by decide)) (F37.2.1 59 (by decide)) (F37.2.1 60 (by decide)) (F37.2.1 61 (by decide)) (F37.1 1060 (by decide)) (F37.1 581 (by decide))
        have k54 : gA q37.2 54 = gA s34 54 := F37.2.1 54 (by decide)
        have k55 : gA q37.2 55 = gA s34 55 := F37.2.1 55 (by decide)
        have k56 : gA q37.2 56 = gA s34 56 := F37.2.1 56 (by decide)
        have k57 : gA q37.2 57 = gA s34 57 := F37.2.1 57 (by decide)
        have k581 : gI q37.2 581 = gI S 581 := (F37.1 581 (by decide)).trans ge
        -- what both have behind that
        have SPL : ∀ (q46 : Int × MS) (X : MS), m_x12_owned (y : Int) T = some q46 → (((hM q46.2).2.2 b r.toNat = q46.1 ∧ X = q46.2) ∨ ((hM q46.2).2.2 b r.toNat ≠ q46.1 ∧ m_x12_setsEntry (b : Int) r (kM q46.2 b r.toNat) q46.1 q46.2 = some X)) → ∀ q : Int × MS, ((q37.1 = 0 ∧ m_x1_plant_L117 n key val q30.1 (i + -1) q37.2 = some q) ∨ (q37.1 ≠ 0 ∧ ∃ q42 : Int × MS, m_x1_split (π b : Int) r q30.1 key q37.2 = some q42 ∧ m_x1_plant_L117 n key val q42.1 (i + -1) q42.2 = some q)) → pc (m_x12_puts_J162 (m_x12_puts_L94 m) key val (b : Int) r q46.1 X) (fun o => CON q o) := fun q46 X e46 hX q hq => by
          obtain ⟨cc, π1, σ1, lo1, hj1, ⟨ci, c48, x3, kb⟩, ⟨H2, ZX⟩, ⟨OX, oky⟩, ⟨RX, KX, X55, WX⟩, ⟨M', TX, PX, hAX, hc1, hc2, hc3⟩, zbX, vbX⟩ := STEP q46 X e46 hX
          have tcc : ((cc : Nat) : Int).toNat = cc := Int.toNat_natCast _
          have tpc : ((π1 cc : Nat) : Int).toNat = π1 cc := Int.toNat_natCast _
          have KXv : KLV X := KLV_of TX (fun _ _ => Int.le_refl 0)
          have lc : LV X cc := Or.inl (by omega)
          have nc := (KXv.2.1 cc c48 lc).1
          rw [ci]
          refine m_J162 X55 (fun q28 e28 => ?_)
          have Y4 := y_splits H2 c48 lc ZX RX ⟨nc.1.2.1, nc.2, nc.1.1⟩ (by rw [← x3]; exact e37) e28
          obtain ⟨v1, v2, H5, ZP5⟩ := Y4
          have X39 := KX.1.1
          obtain ⟨R28, h28⟩ := wp_det (w_x12_doesSplit RX (p0 := (cc : Int)) ⟨by omega, by omega⟩ (KS_CE KX hC1) (by rw [tcc]; exact nc.1.2.1) (by rw [tcc]; have := nc.2; have := nc.1.1; omega) (by rw [X39]; omega)) e28
          rw [tcc] at h28
          have F28 : F_x12_doesSplit X q28.2 := fr_x12_doesSplit e28
          have a49 : gA q28.2 49 = gA X 49 := F28.2.1 49 (by decide)
          have a39 : gA q28.2 39 = gA X 39 := F28.2.1 39 (by decide)
          have K28 : KS t0 q28.2 := KS_t KX ⟨⟨a39, F28.2.1 42 (by decide), F28.2.1 43 (by decide), F28.2.1 44 (by decide)⟩, fun j _ => by rw [a49]⟩
          obtain ⟨d1, d2, d3, d4⟩ := eq49 a49
          have T28 : TM q28.2 d0 (-1) := TM_eq TX a49 a39
          have P28 : PM q28.2 v M' d0 (-1) := PM_e PX a49 a39 (by omega)
          have W28 : RWn t0 q28.2 v := ⟨fun u hu hn => by rw [a49]; exact WX.1 u hu hn, by rw [a49]; exact WX.2⟩
          have f55 : gI q28.2 55 = 0 := (F28.1 55 (by decide)).trans X55
          have O28 : OI q28.2 lo1 hj1 := OI_49 OX a49
          refine ⟨fun z => ?_, fun z q33 e33 => ?_⟩
          · rcases hq with ⟨z2, eq⟩ | ⟨z2, _⟩
            · have w57 : gA s34 57 q30.1.toNat < gI s34 581 := by
                rcases h37 with w | w
                · exact w.2
                · omega
              have w28 : (hM X).2.1 cc < gA X 39 6 := by
                rcases h28 with w | w
                · omega
                · exact w.2
              rw [x3] at eq
              refine ih m (i + -1) cc q37.2 q28.2 π1 σ1 lo1 hj1 ⟨⟨H5, ZP5⟩, ⟨hR37, R28⟩, K28, ⟨T37, ?_, by omega⟩, ⟨f55, W28, M', T28, P28, ?_⟩, O28, oky⟩ q eq
              · refine ⟨⟨by omega, by have := (H2.1.1 cc c48).1.1; omega⟩, ?_, ?_, ?_, ?_⟩
                · rw [k54, ← x3]; exact g54
                · rw [k55, ← x3]; exact g55
                · rw [k56, ← x3, g56]; omega
                · rw [k57, ← x3, k581, ← ge]; exact w57
              · refine ⟨⟨⟨by omega, by omega⟩, ?_, ?_⟩, ?_, ?_, ?_, fun u hu hn => ?_⟩
                · rw [tcc, d3]; exact hc1.1
                · rw [tcc, d4]; exact hc1.2
                · rw [tcc, d1, hc2]; omega
                · rw [tcc, d1, a39]; exact w28
                · rw [tcc]; exact hc3.1
                · rw [tcc]; exact hc3.2 u hu hn
            · exact absurd (v1.trans z) z2
          · rcases hq with ⟨z2, _⟩ | ⟨_, q42, e42, eq⟩
            · exact absurd (v1.symm.trans z2) z
            have K28v : KLV q28.2 := KLV_of T28 (fun _ _ => Int.le_refl 0)
            have hAX' := hAX
            obtain ⟨⟨xa, xb, xc⟩, xd, xf⟩ := hAX'
            rw [tb] at xb xc xd xf
            have xe : (hM X).2.1 b < gA X 39 6 := by rw [zbX, X39, ← S39]; exact a57
            have lb28 : LV q28.2 b := Or.inl (by rw [d3]; omega)
            have lc28 : LV q28.2 cc := Or.inl (by rw [d3]; omega)
            have ncb : b ≠ cc := fun e => by rw [← e] at hc2; omega
            have z2 : 2 ≤ (hM X).2.1 cc := by
              rcases h28 with w | w
              · rcases w.2 with u | u
                · rw [X39] at u; omega
                · exact u
              · omega
            have b37 : gA q37.2 57 (π b) = (hM T).2.1 b := by rw [k57, g57]; exact z1
            have E6 : gA X 39 6 = gA t0 39 6 := by rw [X39]
            have N28 : 0 ≤ gA q28.2 39 5 ∧ gA q28.2 39 5 ≤ 48 := ⟨by rw [a39, X39]; exact hN0, T28.1.1⟩
            have Y5 := y_split H5 K28v hR37 R28 T37 (fun x _ => Int.le_refl 0) N28 (KS_CE K28 hC0) (by rw [k581]; omega) f55 hb c48 ncb lb28 lc28 (by rw [d1]; exact z2) (p1 := r) (key := key) ⟨r0, by rw [d1, zbX]; exact r1⟩ (by rw [d1]; omega) (by rw [d1, xd]; omega) (by rw [kb, ← x3]; exact e42) e33
            rcases Y5 with ⟨y1, y2⟩ | ⟨y1, y2, y3, π2, σ2, H6, y4, y5⟩
            · rw [y1] at eq
              exact pc_mono (m_stepF m _ _ y2) (fun o ho => Or.inl ⟨s_stepF n _ _ q eq, ho⟩)
            · have WS := wp_det (ts_split (i := i - 1) hR37 T37 (fun x _ => Int.le_refl 0) (by rw [k581]; exact h581) (p0 := (π b : Int)) (p1 := r) (p2 := q30.1) (p3 := key) ⟨⟨by omega, by omega⟩, by rw [tp, k54]; have q := Cb.2.1; rw [tp] at q; exact q, by rw [tp, k55]; have q := Cb.2.2.1; rw [tp] at q; exact q, by rw [tp, k56]; have q := Cb.2.2.2; rw [tp] at q; omega, by rw [tp, b37, k581]; have q := hCur.2.2.2.2; rw [tp, z1] at q; exact q⟩ ⟨r0, by rw [tp, b37]; exact r1⟩ ⟨B30, by rw [k54]; exact g54, by rw [k55]; exact g55, by rw [k56]; exact g56, by
                have q := (sim_b H5 c48 lc28).2.1
                have q' : gA q37.2 57 (π1 cc) = (hM q28.2).2.1 cc := q
                rw [x3, tpc, q', d1]; exact z2⟩ ⟨by omega, by omega⟩) e42
              obtain ⟨R42, F42, h42⟩ := WS
              have WH := wp_det (mt_half (i := i - 1) (M := M') R28 hv T28 P28 (KS_CE K28 hC0) (by rw [a39, X39]; exact hE) f55 (p0 := (b : Int)) (p1 := r) (p2 := (cc : Int)) (p3 := key) ⟨⟨xa, by rw [tb, d3]; exact xb, by rw [tb, d4]; exact xc⟩, by rw [tb, d1, xd]; omega, by rw [tb, d1, a39]; exact xe, by rw [tb]; exact xf⟩ ⟨r0, by rw [tb, d1, zbX]; exact r1⟩ ⟨⟨⟨by omega, by omega⟩, by rw [tcc, d3]; exact hc1.1, by rw [tcc, d4]; exact hc1.2⟩, by rw [tcc, d1]; exact hc2, by rw [tcc, d1]; exact z2, by rw [tcc]; exact hc3⟩ ⟨by omega, by omega⟩) e33
              obtain ⟨R33, F33, k33, u33, h33⟩ := WH
              have K33 : KS t0 q33.2 := KS_t K28 ⟨⟨F33.2.1 39 (by decide), F33.2.1 42 (by decide), F33.2.1 43 (by decide), F33.2.1 44 (by decide)⟩, k33⟩
              rcases h42 with h42 | ⟨T42, C42⟩
              · omega
              rcases h33 with h33 | ⟨z0, M3, T33, P33, A33⟩
              · omega
              obtain ⟨o1, eo1, HF⟩ := m_half R28 N28 (KS_CE K28 hC0) f55 c48 lc28 ⟨by rw [d1]; exact nc.1.1, by rw [d1]; exact nc.2⟩ ⟨by rw [d1]; exact z2, by rw [d1]; exact nc.1.2.1.2⟩ q33 e33
              have W2 := (wp_det (w_x12_taken R28 N28 (KS_CE K28 hC0) (p0 := (hM q28.2).1 cc) (p1 := (cc : Int)) ⟨by rw [d1]; exact nc.1.1, by rw [d1]; have := nc.2; omega⟩ ⟨by omega, by omega⟩) eo1).2.2
              have O33 : ∃ lo' hi', OI q33.2 lo' hi' ∧ (lo' q33.1.toNat ≤ key ∧ key ≤ hi' q33.1.toNat) := by
                rcases W2 with w | ⟨_, w1, w2, w3⟩
                · exfalso
                  rcases HF with ⟨_, e⟩ | ⟨w', _⟩
                  · rw [e] at z0; have z0' : gI o1.2 55 = 0 := z0; omega
                  · omega
                · have HF' : HFm b cc ((r.toNat : Nat) : Int) key q28.2 o1 q33 := by
                    rw [show ((r.toNat : Nat) : Int) = r by omega]; exact HF
                  exact OI_hf O28 K28v hb c48 lb28 lc28 (by rw [d1, xd]; omega) (k := r.toNat) (by rw [d1, zbX]; omega) (by rw [d1]; exact vbX) (by rw [d1]; exact z2) (by rw [d1]; omega) ncb oky z0 ⟨⟨w1.1, by omega⟩, w2, w3⟩ HF'
              obtain ⟨lo3, hj3, O3, k3⟩ := O33
              have q33i : q33.1 = ((q33.1.toNat : Nat) : Int) := by omega
              rw [y4] at eq
              rw [q33i]
              have ZP6 : ZP q42.2 q33.2 := ZP_k ZP5 (F42.1 581 (by decide)) (F42.1 741 (by decide)) (fun k k1 k2 => F42.2.1 k (by simp; omega)) (fun k hk => F33.2.1 k (by simp; omega))
              refine ih m (i + -1) q33.1.toNat q42.2 q33.2 π2 σ2 lo3 hj3 ⟨⟨H6, ZP6⟩, ⟨R42, R33⟩, K33, ⟨T42, ?_, by rw [F42.1 581 (by decide), k581]; exact h581⟩, ⟨z0, ⟨fun u hu hn => by rw [u33 u hu z0]; exact W28.1 u hu hn, by rw [u33 v (by omega) z0]; exact W28.2⟩, M3, T33, P33, ?_⟩, O3, k3⟩ q eq
              · rw [← y4, show i + -1 = i - 1 by omega]; exact C42
              · rw [← q33i, show i + -1 = i - 1 by omega]; exact A33
        -- the reference's step
        have REF : ∀ q : Int × MS, ((q37.1 = 0 ∧ m_x1_plant_L117 n key val q30.1 (i + -1) q37.2 = some q) ∨ (q37.1 ≠ 0 ∧ ∃ q42 : Int × MS, m_x1_split (π b : Int) r q30.1 key q37.2 = some q42 ∧ m_x1_plant_L117 n key val q42.1 (i + -1) q42.2 = some q)) → pc (m_x12_puts_L94 (m + 1) key val (b : Int) T) (fun o => CON q o) := fun q hq => by
          refine m_step1 h55 (by omega) ⟨n1, sb.2⟩ (fun r' q46 hPF e46 => ?_)
          rw [PFr r' hPF] at e46 ⊢
          rw [yv] at e46 ⊢
          have eb : gI q46.2 55 = 0 ∧ (hM q46.2).2.2 b r.toNat = (y : Int) := by
            rcases OWN q46 e46 with x | ⟨x55, _, x2, π1, σ1, _, _, _, CP⟩
            · exact absurd x.1 c
            · refine ⟨x55, ?_⟩
              have ncb : b ≠ q46.1.toNat := fun e => by
                rcases CP.2.2.2 with w | w
                · exact nby (e.trans w)
                · exact w (by rw [← e]; exact lb)
              rw [((CP.2.1 b ncb).2.2 r.toNat).1]; exact yv
          exact ⟨fun w => SPL q46 q46.2 e46 (Or.inl ⟨by rw [eb.2, w], rfl⟩) q hq, fun w s53 e53 => SPL q46 s53 e46 (Or.inr ⟨fun w2 => w (by rw [← w2, eb.2]), e53⟩) q hq⟩
        exact ⟨fun c2 q eq => REF q (Or.inl ⟨c2, eq⟩), fun c2 q42 e42 q eq => REF q (Or.inr ⟨c2, q42, e42, eq⟩)⟩
/-! ===== a put, whole: both sides ===== -/
set_option maxHeartbeats 250000 in theorem OI_root {t w : MS} {lo hi : Nat → Int} {b r : Nat} (H : OI t lo hi) (hK : KLV t) (hb : b < 48) (lb : LV t b) (nl : ¬ LV t r) (hr : (hM w).1 r = (hM t).1 b + 1 ∧ (hM w).2.1 r = 1 ∧ (hM w).2.2 r 0 = (b : Int)) (ho : ∀ x, x ≠ r → ROW t x w x) (hl : ∀ x, x < 48 → LV w x → x = r ∨ LV t x) : OI w (upZ lo r (lo b)) (upZ hi r (hi b)) := fun x hx hlx => by
  have nbr : b ≠ r := fun e => nl (by rw [← e]; exact lb)
  by_cases e : x = r
  · rw [e]
    have l0 := (hK.2.1 b hb lb).1.1.1
    refine ⟨by rw [upZ_s, upZ_s]; exact (H b hb lb).1, fun w => by rw [hr.1] at w; omega, fun _ k hk => ?_⟩
    rw [hr.2.1] at hk ⊢
    have k0 : k = 0 := by omega
    rw [k0, hr.2.2, Int.toNat_natCast, upZ_s, upZ_s, upZ_n nbr, upZ_n nbr]
    exact ⟨⟨Int.le_refl _, Int.le_refl _⟩, fun z => absurd z (by decide), fun z => absurd z (by decide)⟩
  · have lx := (hl x hx hlx).resolve_left e
    refine OBk_r (H x hx lx) (ho x e) (by rw [upZ_n e, upZ_n e]; exact ⟨Int.le_refl _, Int.le_refl _⟩) (fun w j hj => ?_)
    have kid := ((hK.2.1 x hx lx).2 w j hj).2
    have ne : ((hM t).2.2 x j).toNat ≠ r := fun z => nl (by rw [← z]; exact kid)
    rw [upZ_n ne, upZ_n ne]
    exact ⟨Int.le_refl _, Int.le_refl _⟩
set_option maxHeartbeats 250000 in theorem OI_hfe {t : MS} {lo hi : Nat → Int} {a b k : Nat} {key : Int} {o : Int × MS} (H : OI t lo hi) (hK : KLV t) (hRt : Rr t) (hN : 0 ≤ gA t 39 5 ∧ gA t 39 5 ≤ 48) (hC : CE t 0) (h0 : gI t 55 = 0) (ha : a < 48) (hb : b < 48) (la : LV t a) (lb : LV t b) (hlev : 0 < (hM t).1 a) (hk : (k : Int) < (hM t).2.1 a) (hv : (hM t).2.2 a k = (b : Int)) (hz : 2 ≤ (hM t).2.1 b) (hz5 : (hM t).2.1 a ≤ 5) (hab : a ≠ b) (hky : lo b ≤ key ∧ key ≤ hi b)
    (e : m_x12_half (a : Int) (k : Int) (b : Int) key t = some o) (h55 : gI o.2 55 = 0) : ∃ lo' hi', OI o.2 lo' hi' ∧ (lo' o.1.toNat ≤ key ∧ key ≤ hi' o.1.toNat) := by
  have nc := (hK.2.1 b hb lb).1
  obtain ⟨o1, eo1, HF⟩ := m_half hRt hN hC h0 hb lb ⟨nc.1.1, nc.2⟩ ⟨hz, nc.1.2.1.2⟩ o e
  have W2 := (wp_det (w_x12_taken hRt hN hC (p0 := (hM t).1 b) (p1 := (b : Int)) ⟨nc.1.1, by have := nc.2; omega⟩ ⟨by omega, by omega⟩) eo1).2.2
  rcases W2 with w | ⟨_, w1, w2, w3⟩
  · exfalso
    rcases HF with ⟨_, e⟩ | ⟨w', _⟩
    · rw [e] at h55
      have z0' : gI o1.2 55 = 0 := h55
      omega
    · omega
  · exact OI_hf H hK ha hb la lb hlev hk hv hz hz5 hab hky h55 ⟨⟨w1.1, by omega⟩, w2, w3⟩ HF
/- the root's own interval takes the key in -/
set_option maxHeartbeats 250000 in theorem OI_rt {T S : MS} {lo hi : Nat → Int} {y r : Nat} {key : Int} (H : OI T lo hi) (hK : KLV T) (y48 : y < 48) (ly : LV T y) (hr : ROW T y S r) (ho : ∀ x, x ≠ r → ROW T x S x) (hl : ∀ x, x < 48 → LV S x → x = r ∨ LV T x) (hc : (r = y ∧ ∀ p k' : Nat, p < 48 → LV T p → 0 < (hM T).1 p → (k' : Int) < (hM T).2.1 p → (hM T).2.2 p k' ≠ (y : Int)) ∨ ¬ LV T r) : OI S (upZ lo r (min (lo y) key)) (upZ hi r (max (hi y) key)) ∧ (upZ lo r (min (lo y) key) r ≤ key ∧ key ≤ upZ hi r (max (hi y) key) r) := by
  have nor : ∀ p k' : Nat, p < 48 → LV T p → 0 < (hM T).1 p → (k' : Int) < (hM T).2.1 p → ((hM T).2.2 p k').toNat ≠ r := fun p k' hp lp hlp hk' e => by
    have kid := (hK.2.1 p hp lp).2 hlp k' hk'
    rcases hc with ⟨h1, h2⟩ | h2
    · exact h2 p k' hp lp hlp hk' (by rw [← h1, ← e]; omega)
    · rw [e] at kid; exact h2 kid.2
  refine ⟨fun x hx hlx => ?_, by rw [upZ_s, upZ_s]; omega⟩
  by_cases e : x = r
  · rw [e]
    refine OBk_r (H y y48 ly) hr (by rw [upZ_s, upZ_s]; omega) (fun w j hj => ?_)
    have ne := nor y j y48 ly w hj
    rw [upZ_n ne, upZ_n ne]
    exact ⟨Int.le_refl _, Int.le_refl _⟩
  · have lx := (hl x hx hlx).resolve_left e
    refine OBk_r (H x hx lx) (ho x e) (by rw [upZ_n e, upZ_n e]; exact ⟨Int.le_refl _, Int.le_refl _⟩) (fun w j hj => ?_)
    have ne := nor x j hx lx w hj
    rw [upZ_n ne, upZ_n ne]
    exact ⟨Int.le_refl _, Int.le_refl _⟩
/- a root that is counted once is named by nobody -/
set_option maxHeartbeats 250000 in theorem one_rt {t : MS} {D : Nat → Int} {e : Int} (T : TM t D e) {b v : Nat} (hv : v < 8) (hb : b < 48) (hDb : D b = 0) (hr : gA t 49 v = (b : Int)) (hcb : cM t b = 1) : ∀ p k' : Nat, p < 48 → 0 < cM t p → 0 < (hM t).1 p → (k' : Int) < (hM t).2.1 p → (hM t).2.2 p k' ≠ (b : Int) := by
  intro p k' hp hcp hlp hk' hv'
  have d := T.2.1.1 b hb
  rw [hDb] at d
  unfold df rf at d
  have r1 : 1 ≤ rr (rM t) (b : Int) := by
    have g := rr_pos (r := rM t) hv
    rw [rM_v hv, hr] at g
    exact g
  have f0 : ∀ j, j < 48 → (0 : Int) ≤ (fun p => if 0 < cM t p then en (hM t) p (b : Int) else 0) j := fun j _ => by
    show (0 : Int) ≤ if 0 < cM t j then en (hM t) j (b : Int) else 0
    split
    · exact en_nn _ _ _
    · exact Int.le_refl 0
  have zp := (TG_nd T hp hcp).2.1
  have ep : 1 ≤ en (hM t) p (b : Int) := by
    have g := enf_pos (h := hM t) (p := p) (k := k') (i := 0) hlp hk' (by omega) (by omega)
    rw [hv'] at g
    exact g
  have q := sm_ge (n := 48) (i := p) hp f0
  (try dsimp only at q)
  rw [if_pos hcp] at q
  omega
/-! each side by itself -/
set_option maxHeartbeats 250000 in theorem s_J95 {key val x : Int} {S : MS} {Q : Int × MS → Prop} (K0 : x = -1 → pc (m_x1_plant_L117 FU key val (-1) 0 S) Q) (K : x ≠ -1 → pc (m_x1_plant_L117 FU key val x (gA S 56 x.toNat) S) Q) : pc (m_x1_plant_J95 key val x S) Q := by
  unfold m_x1_plant_J95 m_x1_plant_J115
  refine pc_rg (pc_if (fun c => ?_) (fun c => pc_rdI (fun _ => K c)))
  have k := K0 c
  rw [c]; exact k
set_option maxHeartbeats 250000 in theorem s_J36 {v : Nat} {key val x : Int} {S : MS} {Q : Int × MS → Prop} (K0 : x = -1 → Q (0, S)) (K : x ≠ -1 → ∀ (s67 : MS) (q70 : Int × MS), sA S 60 (upZ (gA S 60) v x) = s67 → m_x1_splits x s67 = some q70 → (q70.1 = 0 → pc (m_x1_plant_J95 key val x q70.2) Q) ∧ (q70.1 ≠ 0 → ∀ q75 : Int × MS, m_x1_raiseRoot (v : Int) q70.2 = some q75 → (q75.1 = -1 → pc (m_x1_plant_J95 key val (-1) q75.2) Q) ∧ (q75.1 ≠ -1 → ∀ q80 : Int × MS, m_x1_split q75.1 0 x key q75.2 = some q80 → pc (m_x1_plant_J95 key val q80.1 q80.2) Q))) : pc (m_x1_plant_J36 (v : Int) key val x S) Q := by
  have tv : ((v : Nat) : Int).toNat = v := Int.toNat_natCast _
  unfold m_x1_plant_J36 m_x1_plant_J93
  refine pc_rg (pc_if (fun c => pc_some (K0 c)) (fun c => pc_inb (pc_stn (fun s67 e67 => pc_bn (fun q70 e70 => ?_)))))
  rw [tv] at e67
  have k := K c s67 q70 e67 e70
  exact pc_rg (pc_if (fun c2 => k.1 c2) (fun c2 => pc_bn (fun q75 e75 => pc_rg (pc_if (fun c3 => (k.2 c2 q75 e75).1 c3) (fun c3 => pc_bn (fun q80 e80 => (k.2 c2 q75 e75).2 c3 q80 e80))))))
set_option maxHeartbeats 250000 in theorem m_put0 {v : Nat} {key val : Int} {t : MS} {Q : MS → Prop} (hr : gA t 49 v = 254) (K : ∀ q75 : Int × MS, m_x12_taken 0 48 t = some q75 → (gI q75.2 55 ≠ 0 → Q q75.2) ∧ (gI q75.2 55 = 0 → ∀ s79 s81 : MS, m_x12_inserts q75.1 0 key val q75.2 = some s79 → sA s79 49 (upZ (gA s79 49) v q75.1) = s81 → Q s81)) : pc (m_x12_puts (v : Int) key val t) Q := by
  have tv : ((v : Nat) : Int).toNat = v := Int.toNat_natCast _
  unfold m_x12_puts
  refine pc_rdI (fun _ => ?_)
  rw [tv]
  refine pc_rg (pc_if (fun _ => pc_bn (fun q75 e75 => pc_rg (pc_if (fun c => pc_bn (fun s79 e79 => pc_inb (pc_stn (fun s81 e81 => pc_some ?_)))) (fun c => pc_some ((K q75 e75).1 c))))) (fun c => absurd hr c))
  exact (K q75 e75).2 c s79 s81 e79 e81
set_option maxHeartbeats 250000 in theorem m_put1 {v : Nat} {key val : Int} {t : MS} {Q : MS → Prop} (hr : gA t 49 v ≠ 254) (K : ∀ q60 : Int × MS, m_x12_owned (gA t 49 v) t = some q60 → (gI q60.2 55 ≠ 0 → Q q60.2) ∧ (gI q60.2 55 = 0 → ∀ (s64 : MS) (q67 : Int × MS), sA q60.2 49 (upZ (gA q60.2 49) v q60.1) = s64 → m_x12_doesSplit q60.1 s64 = some q67 → (q67.1 = 0 → pc (m_x12_puts_L94 FU key val q60.1 q67.2) Q) ∧ (q67.1 ≠ 0 → ∀ q72 : Int × MS, m_x12_rootSplit (v : Int) q60.1 key q67.2 = some q72 → pc (m_x12_puts_L94 FU key val q72.1 q72.2) Q))) : pc (m_x12_puts (v : Int) key val t) Q := by
  have tv : ((v : Nat) : Int).toNat = v := Int.toNat_natCast _
  unfold m_x12_puts
  refine pc_rdI (fun _ => ?_)
  rw [tv]
  refine pc_rg (pc_if (fun c => absurd c hr) (fun _ => pc_rdI (fun _ => pc_bn (fun q60 e60 => pc_rg (pc_if (fun c => pc_inb (pc_stn (fun s64 e64 => pc_bn (fun q67 e67 => ?_)))) (fun c => pc_some ((K q60 e60).1 c)))))))
  have k := (K q60 e60).2 c s64 q67 e64 e67
  exact pc_rg (pc_if (fun c2 => k.1 c2) (fun c2 => pc_bn (fun q72 e72 => k.2 c2 q72 e72)))
set_option maxHeartbeats 250000 in theorem s_low0 {p : Nat} {key val : Int} {S : MS} (hz : gA S 57 p = 0) : pc (m_x1_plantLow (p : Int) key val S) (fun o => m_x8_insert (p : Int) 0 key val S = some o) := by
  have tp : ((p : Nat) : Int).toNat = p := Int.toNat_natCast _
  unfold m_x1_plantLow
  refine pc_bq (s_find (p := (p : Int)) (by omega)) (fun r27 h27 => ?_)
  rw [tp, hz] at h27
  have e : r27 = -1 := by
    rcases h27 with ⟨a, _⟩ | ⟨a, a2, _⟩
    · exact a
    · omega
  refine pc_rg (pc_if (fun _ => ?_) (fun c => absurd e c))
  exact s_low (r := 0) (by rw [hz]; exact ⟨⟨Int.le_refl 0, Int.le_refl 0⟩, fun k hk => by omega, fun w => absurd w (by decide)⟩) (fun i j _ _ hj => by rw [hz] at hj; omega) FU 0 0 (Int.le_refl 0) (Or.inl ⟨Int.le_refl 0, rfl⟩) (by rw [hz]; exact Int.le_refl 0)
set_option maxHeartbeats 4000000 in
/- into an empty volume -/
theorem y_put0 {π σ : Nat → Nat} {s t : MS} {lo hj : Nat → Int} {v : Nat} {key val : Int} (h : SIM π σ s t) (hZ : ZP s t) (hR : Rg s) (hRt : Rr t) (S0 : TS s Z0 (-1)) (T0 : TM t d0 (-1)) (hC0 : CE t 0) (hN0 : 0 ≤ gA t 39 5) (h581 : 3 ≤ gI s 581) (hf : gI t 55 = 0) (hv : v < 8) (hr : gA t 49 v = 254) (hO : OI t lo hj) (hkey : 0 ≤ key ∧ key ≤ 999) (hval : 0 ≤ val ∧ val ≤ 999) : pc (m_x1_plant (v : Int) key val s) (fun q => pc (m_x12_puts (v : Int) key val t) (fun o => CON q o)) := by
  have tv : ((v : Nat) : Int).toNat = v := Int.toNat_natCast _
  have zD : ∀ x, x < 48 → 0 ≤ Z0 x := fun x _ => Int.le_refl 0
  have hK : KLV t := KLV_of T0 (fun _ _ => Int.le_refl 0)
  have hN48 : gA t 39 5 ≤ 48 := T0.1.1
  have s60 : gA s 60 v = -1 := ((rtr_e (h.1.2.2.2 v hv).1).2.1).2 hr
  unfold m_x1_plant
  refine pc_rdI (fun _ => ?_)
  rw [tv]
  refine pc_rg (pc_if (fun _ => pc_bn (fun q90 e90 => ?_)) (fun c => absurd s60 c))
  have W1 := wp_det (ts_take hR S0 zD (by omega) (p0 := 0) (p1 := 48) ⟨by omega, by omega⟩ ⟨by omega, by omega⟩) e90
  obtain ⟨R90, F90, W1⟩ := W1
  have YT : ∀ q75 : Int × MS, m_x12_taken 0 48 t = some q75 → Rr q75.2 ∧ ((q90.1 = -1 ∧ gI q75.2 55 = 1) ∨ (gI q75.2 55 = 0 ∧ 0 ≤ q90.1 ∧ 0 ≤ q75.1 ∧ q75.1 < gA t 39 5 ∧ ¬ LV t q75.1.toNat ∧ TkE t q75.2 q75.1.toNat 0 ∧ ∃ π' σ', SIM π' σ' q90.2 q75.2 ∧ q90.1 = (π' q75.1.toNat : Int) ∧ ∀ x, x < 48 → LV t x → π' x = π x)) := fun q75 e75 => by
    have W2 := wp_det (w_x12_taken hRt ⟨hN0, hN48⟩ hC0 (p0 := 0) (p1 := 48) ⟨by omega, by omega⟩ ⟨by omega, by omega⟩) e75
    exact ⟨W2.1, y_take h hK (by rw [h.2.1]; exact hN48) hf e90 e75 (W1.imp id (fun w => ⟨w.1, w.2.1, w.2.2.1⟩)) W2.2.2⟩
  refine s_J36 (fun c => ?_) (fun c s67 q70 e67 e70 => ⟨fun c2 => ?_, fun c2 => ?_⟩)
  · refine m_put0 hr (fun q75 e75 => ?_)
    rcases (YT q75 e75).2 with x | x
    · exact ⟨fun _ => Or.inl ⟨rfl, x.2⟩, fun w => by omega⟩
    · omega
  · refine s_J95 (fun z => absurd z c) (fun _ => ?_)
    have F70 : F_x1_splits s67 q70.2 := fr_x1_splits e70
    rcases W1 with w | ⟨⟨w0, w1⟩, ⟨f1, f2⟩, ⟨u54, u56, u57⟩, T1⟩
    · exact absurd w c
    have A70 : ∀ k, k ≠ 60 → k ≠ 81 → gA q70.2 k = gA q90.2 k := fun k k1 k2 => (F70.2.1 k (by simp; omega)).trans (q_Aa e67 k1)
    have l0 : gA q70.2 56 q90.1.toNat = 0 := by rw [A70 56 (by decide) (by decide), u56, upZ_s]
    have z0 : gA q70.2 57 q90.1.toNat = 0 := by rw [A70 57 (by decide) (by decide), u57, upZ_s]
    rw [l0]
    have all : ∀ n : Nat, pc (m_x1_plant_L117 n key val q90.1 0 q70.2) (fun q => pc (m_x12_puts (v : Int) key val t) (fun o => CON q o)) := fun n => by
      cases n with
      | zero => exact pc_none
      | succ n =>
        obtain ⟨c', hc'⟩ : ∃ c', c' = q90.1.toNat := ⟨_, rfl⟩
        have ci : q90.1 = (c' : Int) := by omega
        rw [← hc'] at l0 z0
        rw [ci]
        refine s_step0 (Int.le_refl 0) (fun s8 e8 => m_put0 hr (fun q75 e75 => ?_))
        obtain ⟨R75, Y⟩ := YT q75 e75
        rcases Y with x | ⟨y1, y2, y3, y3', y4, TK, π1, σ1, H1, y5, y6⟩
        · omega
        refine ⟨fun w => absurd y1 w, fun _ s79 s81 e79 e81 => ?_⟩
        obtain ⟨r, hrr⟩ : ∃ r, r = q75.1.toNat := ⟨_, rfl⟩
        rw [← hrr] at y4 TK y5
        have ri : q75.1 = (r : Int) := by omega
        rw [ri] at e79 e81
        have r48 : r < 48 := by omega
        have tr : ((r : Nat) : Int).toNat = r := Int.toNat_natCast _
        have cr : π1 r = c' := by omega
        have P1 := H1.1.1
        have Fo : F_x12_taken t q75.2 := fr_x12_taken e75
        have lr : LV q75.2 r := Or.inl (by rw [TK.2.1.1]; decide)
        -- the root, as if it were set there
        obtain ⟨w, hw⟩ : ∃ w, sA q75.2 49 (upZ (gA q75.2 49) v (r : Int)) = w := ⟨_, rfl⟩
        have w49 : gA w 49 = upZ (gA q75.2 49) v (r : Int) := q_AA hw
        obtain ⟨⟨m1, m2⟩, ⟨m3, m4⟩, _⟩ := M_root hv w49
        have H2 : SIM π1 σ1 q70.2 w := sim_root H1 hv (fun k k1 k2 k3 => A70 k k3 (by omega)) (by rw [F70.2.1 60 (by decide), (q_AA e67 : gA s67 60 = _), y5]) ((F70.1 1060 (by decide)).trans (q_Ai e67)) ((F70.2.2.1 1062 (by simp)).trans (q_Al e67)) w49 (by rw [q_Aa hw (by decide)]) (q_Aa hw (by decide)) (Or.inr (Or.inr ⟨by omega, by omega, by rw [tr]⟩))
        have eI := s_low0 z0 s8 e8
        have pr48 : π1 r < 48 := (P1 r r48).1.1
        have hR67 : Rg s67 := e67 ▸ Rg.uAu R90 (by show (-2 : Int) ≤ q90.1 ∧ q90.1 ≤ 253; omega)
        have R70 : Rg q70.2 := (wp_det (w_x1_splits hR67 (p0 := q90.1) ⟨by omega, by omega⟩) e70).1
        have tc : ((c' : Nat) : Int).toNat = c' := Int.toNat_natCast _
        have c48 : c' < 48 := by rw [← cr]; exact (P1 r r48).1.1
        obtain ⟨_, v57, ⟨a1, a2, _⟩, ⟨b1, b2, _⟩⟩ := wp_det (w_x8_insert R70 (p0 := (c' : Int)) (p1 := 0) (p2 := key) (p3 := val) ⟨by omega, by omega⟩ ⟨Int.le_refl 0, by rw [tc, z0]; exact Int.le_refl 0, by rw [tc, z0]; decide⟩ ⟨by omega, by omega⟩ ⟨by omega, by omega⟩) eI
        rw [tc] at v57 a1 a2 b1 b2
        rw [z0] at v57 b1
        obtain ⟨R79, F79, B, iz, i1, i2, i3⟩ := wp_det (w_x12_inserts R75 (p0 := (r : Int)) (p1 := 0) (p2 := key) (p3 := val) ⟨by omega, by omega⟩ ⟨Int.le_refl 0, by rw [tr, TK.2.2.2]; exact Int.le_refl 0⟩ (by rw [tr, TK.2.2.2]; decide) ⟨by omega, by omega⟩ ⟨by omega, by omega⟩) e79
        rw [tr] at B iz i1 i2 i3
        rw [TK.2.2.2] at iz
        have s49 : gA s81 49 = upZ (gA s79 49) v (r : Int) := q_AA e81
        obtain ⟨⟨n1, n2⟩, ⟨n3, n4⟩, _⟩ := M_root hv s49
        have F8 : F_x8_insert q70.2 s8 := fr_x8_insert eI
        have K75 := KLV_take hK TK y4 ⟨Int.le_refl 0, by decide⟩ (Fo.2.1 39 (by decide))
        have LVw : ∀ x, LV w x → LV q75.2 x := fun x hl => by unfold LV at hl ⊢; rw [← m3, ← m4]; exact hl
        have mk := s_insM (p1 := 0) (p2 := key) (p3 := val) (s := q70.2) (p0 := (c' : Int)) ⟨by omega, by omega⟩ ⟨Int.le_refl 0, by rw [tc, z0]; exact Int.le_refl 0, by rw [tc, z0]; decide⟩ s8 eI
        rw [tc] at mk
        have tt := m_insT (p0 := (r : Int)) (by omega) s79 e79
        rw [tr] at tt
        have BXw : BX w s81 r := fun i hi => by
          rw [s49, w49]
          by_cases z : i = v
          · rw [z, upZ_s, upZ_s]
          · rw [upZ_n z, upZ_n z]; exact B i hi
        have H3 : SIM π1 σ1 s8 s81 := by
          refine sim_blk H2 (fun x hx hl => by rw [m1]; exact (K75.2.1 x hx (LVw x hl)).1.1.2.1) r48 (F8.2.1 54 (by decide)) (F8.2.1 55 (by decide)) (F8.2.1 56 (by decide)) (F8.2.1 60 (by decide)) (F8.2.1 61 (by decide)) (F8.1 1060 (by decide)) (fun x hx hn => by rw [v57, upZ_n (by rw [← cr]; exact hn)]) (fun x hx hn k h6 => ?_) BXw (by rw [(q_Aa e81 (by decide) : gA s81 39 = gA s79 39), F79.2.1 39 (by decide)]; exact (q_Aa hw (by decide)).symm) (by rw [v57, cr, upZ_s, n1, iz]) (fun k hk => ?_) (by unfold LV; rw [m3, m4]; exact lr) (Or.inl ⟨by rw [cr]; exact mk, ?_⟩)
          · rw [cr] at hn
            exact ⟨a1 _ (by omega), b1 _ (by omega)⟩
          · rw [n1, iz] at hk
            have k0 : k = 0 := by omega
            have i2' : (hM s79).2.2 r 0 = val ∧ kM s79 r 0 = key := i2
            rw [k0, cr, n1, n2, m1, i2'.1, i2'.2, TK.2.2.1]
            exact ⟨a2, fun z => absurd z (by decide), fun _ => b2⟩
          · refine ⟨by rw [(q_Aa e81 (by decide) : gA s81 54 = gA s79 54)]; exact tt.1, fun x hx => ?_⟩
            rw [(q_Aa e81 (by decide) : gA s81 54 = gA s79 54), tt.2 x hx]; exact (congrFun (q_Aa hw (by decide)) x).symm
        have O1 := OI_take (c := key) hO hK TK y4
        have O2 := OI_leaf (t := q75.2) (o := s79) O1 r48 lr (by rw [TK.2.2.1]; exact Int.le_refl 0) (k := 0) (key := key) (val := val) ⟨B, by rw [iz, TK.2.2.2], i1, i2, i3⟩ (by rw [upZ_s, upZ_s]; exact ⟨Int.le_refl _, Int.le_refl _⟩) (by rw [TK.2.2.2]; decide) (by rw [TK.2.2.2]; exact ⟨⟨Int.le_refl 0, Int.le_refl 0⟩, fun k hk => by omega, fun z => absurd z (by decide)⟩) (fun z => by rw [TK.2.2.2] at z; exact absurd z (by decide)) (fun x hx hl => (K75.2.1 x hx hl).1.1.2.1.2) hval.1
        have O3 : OI s81 (upZ lo r key) (upZ hj r key) := OI_same O2 (fun x hx hl => ⟨by unfold LV at hl ⊢; rw [← n3, ← n4]; exact hl, Or.inl ⟨by rw [n1], by rw [n1], fun k => by rw [n1, n2]; exact ⟨rfl, rfl⟩⟩⟩)
        have ZP3 : ZP s8 s81 := ZP_k hZ (by rw [F8.1 581 (by decide), F70.1 581 (by decide), (q_Ai e67 : gI s67 581 = gI q90.2 581), F90.1 581 (by decide)]) (by rw [F8.1 741 (by decide), F70.1 741 (by decide), (q_Ai e67 : gI s67 741 = gI q90.2 741), F90.1 741 (by decide)]) (fun k k1 k2 => by rw [F8.2.1 k (by simp; omega), A70 k (by omega) (by omega), F90.2.1 k (by simp; omega)]) (fun k hk => by rw [(q_Aa e81 (by omega) : gA s81 k = gA s79 k), F79.2.1 k (by simp; omega), Fo.2.1 k (by simp; omega)])
        exact Or.inr ⟨rfl, (q_Ai e81).trans ((F79.1 55 (by decide)).trans y1), π1, σ1, _, _, H3, ZP3, O3⟩
    exact all FU
  · -- an empty block doesn't split
    exfalso
    rcases W1 with w | ⟨⟨w0, w1⟩, ⟨f1, f2⟩, ⟨u54, u56, u57⟩, T1⟩
    · exact absurd w c
    have hN := S0.1.1
    have hR67 : Rg s67 := e67 ▸ Rg.uAu R90 (by show (-2 : Int) ≤ q90.1 ∧ q90.1 ≤ 253; omega)
    have h70 := (wp_det (w_x1_splits hR67 (p0 := q90.1) ⟨by omega, by omega⟩) e70).2
    have z57 : gA s67 57 q90.1.toNat = 0 := by rw [(q_Aa e67 (by decide) : gA s67 57 = gA q90.2 57), u57, upZ_s]
    have z581 : gI s67 581 = gI s 581 := (q_Ai e67).trans (F90.1 581 (by decide))
    rw [z57, z581] at h70
    omega
set_option maxHeartbeats 4000000 in
/- a put on both sides -/
theorem y_plant {π σ : Nat → Nat} {s t : MS} {lo hj : Nat → Int} {v : Nat} {key val : Int} (h : SIM π σ s t) (hZ : ZP s t) (hR : Rg s) (hRt : Rr t) (S0 : TS s Z0 (-1)) (H : RT t) (hC0 : CE t 0) (hC1 : CE t 1) (hN0 : 0 ≤ gA t 39 5) (hE : 3 ≤ gA t 39 6 ∧ gA t 39 6 ≤ 6) (h581 : 3 ≤ gI s 581) (hf : gI t 55 = 0) (hv : v < 8) (hrt : (0 ≤ gA t 49 v ∧ gA t 49 v < 254) ∨ gA t 49 v = 254) (hO : OI t lo hj) (hkey : 0 ≤ key ∧ key ≤ 999) (hval : 0 ≤ val ∧ val ≤ 999) : pc (m_x1_plant (v : Int) key val s) (fun q => pc (m_x12_puts (v : Int) key val t) (fun o => CON q o)) := by
  obtain ⟨M0, P0⟩ := RT_PM v (by omega) H
  have T0 : TM t d0 (-1) := H.1
  rcases hrt with hrt | hrt
  rotate_left
  · exact y_put0 h hZ hR hRt S0 T0 hC0 hN0 h581 hf hv hrt hO hkey hval
  have tv : ((v : Nat) : Int).toNat = v := Int.toNat_natCast _
  have zD : ∀ x, x < 48 → 0 ≤ Z0 x := fun x _ => Int.le_refl 0
  have zD' : ∀ x, x < 48 → 0 ≤ Z0 x ∧ Z0 x ≤ 10 := fun x _ => ⟨Int.le_refl 0, by show (0 : Int) ≤ 10; omega⟩
  have hK : KLV t := KLV_of T0 (fun _ _ => Int.le_refl 0)
  have hN48 : gA t 39 5 ≤ 48 := T0.1.1
  have rl := TG_root_live (v := v) T0 (fun _ _ => Int.le_refl 0) hv (by rw [rM_v hv]; omega) (by rw [rM_v hv]; omega)
  rw [rM_v hv] at rl
  have rm := root_mu hv P0 hrt.1 hrt.2
  obtain ⟨y, hy⟩ : ∃ y, y = (gA t 49 v).toNat := ⟨_, rfl⟩
  rw [← hy] at rl rm
  have yv : gA t 49 v = (y : Int) := by omega
  have y48 : y < 48 := by omega
  have ty : ((y : Nat) : Int).toNat = y := Int.toNat_natCast _
  have ly : LV t y := Or.inl rl.2
  have lv : 0 ≤ (hM t).1 y ∧ (hM t).1 y ≤ 47 := TG_lev T0 (fun _ _ => Int.le_refl 0) y48 rl.2
  have cy := sim_c h y48
  have py48 := (h.1.1 y y48).1.1
  have tpy : ((π y : Nat) : Int).toNat = π y := Int.toNat_natCast _
  have s60 : gA s 60 v = (π y : Int) := by
    rcases (h.1.2.2.2 v hv).1 with ⟨a, _⟩ | ⟨a, _⟩ | ⟨_, _, a⟩
    · omega
    · omega
    · rw [← hy] at a; exact a
  unfold m_x1_plant
  refine pc_rdI (fun _ => ?_)
  rw [tv]
  refine pc_rg (pc_if (fun c => absurd c (by omega)) (fun _ => pc_rdI (fun _ => ?_)))
  rw [tv, s60]
  refine pc_bn (fun q87 e87 => ?_)
  have W1 := wp_det (ts_owned hR S0 zD' (by omega) (p0 := (π y : Int)) ⟨by omega, by omega⟩ (by rw [tpy, cy.1]; exact rl.2)) e87
  obtain ⟨R87, F87, W1⟩ := W1
  have OWN : ∀ q60 : Int × MS, m_x12_owned (gA t 49 v) t = some q60 → (Rr q60.2 ∧ F_x12_owned t q60.2 ∧ (∀ i, 785 ≤ i → gA q60.2 49 i = gA t 49 i) ∧ ((gI q60.2 55 = 1 ∧ q60.1 = (y : Int)) ∨ (gI q60.2 55 = 0 ∧ 0 ≤ q60.1 ∧ ∃ M', OwnM t q60.2 v M0 M' y q60.1.toNat))) ∧ ((q87.1 = -1 ∧ gI q60.2 55 = 1) ∨ (gI q60.2 55 = 0 ∧ 0 ≤ q87.1 ∧ 0 ≤ q60.1 ∧ ∃ π' σ', SIM π' σ' q87.2 q60.2 ∧ q87.1 = (π' q60.1.toNat : Int) ∧ (∀ x, x < 48 → LV t x → π' x = π x) ∧ CPY t q60.2 y q60.1.toNat)) := fun q60 e60 => by
    rw [yv] at e60
    have W2 := wp_det (mt_owned (M := M0) hRt hv T0 P0 hC0 (by omega) hf (p0 := (y : Int)) ⟨by omega, by omega⟩ (by rw [ty]; exact rl.2) (by rw [ty]; exact rm) (own_x hv T0 P0 (by rw [ty]; exact y48) (Or.inl (by rw [ty]; exact yv)))) e60
    have Y := y_ownB (v := v) (M := M0) h hK hR hRt S0 T0 hC0 (by omega) (by omega) hf (p := (π y : Int)) (p' := (y : Int)) ⟨by omega, by omega⟩ (by rw [ty]) (by rw [ty]; exact rl.2) e87 e60 W1 W2.2.2.2
    rw [ty] at Y W2
    exact ⟨W2, Y⟩
  refine s_J36 (fun c => ?_) (fun c s67 q70 e67 e70 => ?_)
  · refine m_put1 (by omega) (fun q60 e60 => ?_)
    rcases (OWN q60 e60).2 with x | x
    · exact ⟨fun _ => Or.inl ⟨rfl, x.2⟩, fun w => by omega⟩
    · have := x.2.1; omega
  have F70 : F_x1_splits s67 q70.2 := fr_x1_splits e70
  -- the root is each side's own
  have hR67 : 0 ≤ q87.1 → q87.1 < 48 → Rg s67 := fun a b => e67 ▸ Rg.uAu R87 (by show (-2 : Int) ≤ q87.1 ∧ q87.1 ≤ 253; omega)
  have ROOT : ∀ (q60 : Int × MS) (s64 : MS), m_x12_owned (gA t 49 v) t = some q60 → gI q60.2 55 = 0 → sA q60.2 49 (upZ (gA q60.2 49) v q60.1) = s64 → ∃ (cc : Nat) (π1 σ1 : Nat → Nat) (lo1 hj1 : Nat → Int), (q60.1 = (cc : Int) ∧ cc < 48 ∧ q87.1 = (π1 cc : Int)) ∧ (SIM π1 σ1 s67 s64 ∧ ZP s67 s64) ∧ (OI s64 lo1 hj1 ∧ (lo1 cc ≤ key ∧ key ≤ hj1 cc)) ∧ (Rr s64 ∧ KS t s64 ∧ gI s64 55 = 0 ∧ RWn t s64 v) ∧ (gA s64 49 v = (cc : Int) ∧ ∃ M', TM s64 d0 (-1) ∧ PM s64 v M' d0 (-1) ∧ ((cM s64 cc = 1 ∧ vM s64 cc = 0) ∧ (hM s64).1 cc = (hM t).1 y ∧ (M' v cc = 1 ∧ ∀ u, u < 16 → u ≠ v → M' u cc = 0))) := fun q60 s64 e60 x55 e64 => by
    obtain ⟨⟨hRo, Fo, ko, h60⟩, Y⟩ := OWN q60 e60
    rcases Y with x | ⟨_, x1, x2, π1, σ1, H1, x3, x4, CP⟩
    · omega
    rcases h60 with ⟨h60, _⟩ | ⟨z0, w0, M', ⟨⟨rq, rN⟩, ⟨o54, o55⟩, ⟨o56, o57⟩⟩, oc, oh, oq, ou, ⟨To, Po⟩, om, omu, omn, omx⟩
    · omega
    obtain ⟨cc, hcc⟩ : ∃ cc, cc = q60.1.toNat := ⟨_, rfl⟩
    rw [← hcc] at x3 CP rq rN o54 o55 o56 o57
    try rw [← hcc] at oc
    try rw [← hcc] at oh
    try rw [← hcc] at oq
    try rw [← hcc] at om
    try rw [← hcc] at omu
    try rw [← hcc] at omx
    try rw [← hcc] at To
    try rw [← hcc] at Po
    have ci : q60.1 = (cc : Int) := by omega
    rw [ci] at e64
    have tcc : ((cc : Nat) : Int).toNat = cc := Int.toNat_natCast _
    have KSo : KS t q60.2 := ⟨⟨Fo.2.1 39 (by decide), Fo.2.1 42 (by decide), Fo.2.1 43 (by decide), Fo.2.1 44 (by decide)⟩, ko⟩
    have hR64 : Rr s64 := e64 ▸ Rr.uAu hRo (by show (-2147483648 : Int) ≤ (cc : Int) ∧ (cc : Int) ≤ 2147483647; omega)
    have u64 : gA s64 49 = upZ (gA q60.2 49) v (cc : Int) := q_AA e64
    have a39 : gA s64 39 = gA q60.2 39 := q_Aa e64 (by decide)
    obtain ⟨T1, P1⟩ := MT_root (q := (cc : Int)) To Po hv u64 a39 (Or.inl ⟨by omega, by rw [KSo.1.1]; omega⟩)
    obtain ⟨⟨w1, w2⟩, ⟨w3, w4⟩, _⟩ := M_root hv u64
    have dd : ∀ x : Nat, x < 48 → d0 x = dq cc x - dq y x + (if gA q60.2 49 v = (x : Int) then 1 else 0) - (if (cc : Int) = (x : Int) then 1 else 0) := fun x hx => by
      show (0 : Int) = _
      rw [ou v (by omega), yv, dd_0 (r := (cc : Int)) (by omega), dd_0 (r := (y : Int)) (by omega), tcc, ty]; omega
    have K64 : KS t s64 := KS_t KSo ⟨⟨a39, q_Aa e64 (by decide), q_Aa e64 (by decide), q_Aa e64 (by decide)⟩, fun j hj' => by rw [u64, upZ_n (by omega)]⟩
    have H64 : SIM π1 σ1 s67 s64 := sim_root H1 hv (fun k k1 k2 k3 => q_Aa e67 k3) (by rw [(q_AA e67 : gA s67 60 = _), x3]) (q_Ai e67) (q_Al e67) u64 (by rw [a39]) (q_Aa e64 (by decide)) (Or.inr (Or.inr ⟨by omega, by omega, by rw [tcc]⟩))
    have ZP64 : ZP s67 s64 := ZP_k hZ (by rw [(q_Ai e67 : gI s67 581 = gI q87.2 581), F87.1 581 (by decide)]) (by rw [(q_Ai e67 : gI s67 741 = gI q87.2 741), F87.1 741 (by decide)]) (fun k k1 k2 => by rw [(q_Aa e67 (by omega) : gA s67 k = gA q87.2 k), F87.2.1 k (by simp; omega)]) (fun k hk => by rw [(q_Aa e64 (by omega) : gA s64 k = gA q60.2 k), Fo.2.1 k (by simp; omega)])
    have OR := OI_rt (key := key) hO hK y48 ly CP.1 CP.2.1 CP.2.2.1 (by
      rcases CP.2.2.2 with w | w
      · refine Or.inl ⟨w, fun p k' hp lp hlp hk' hv' => ?_⟩
        have cv : cM t y = 1 ∧ vM t y = 0 := by
          rcases Classical.em (cM t y = 1 ∧ vM t y = 0) with u | u
          · exact u
          · exfalso
            have lvy := (TG_nd T0 y48 rl.2)
            have tk : ∀ o1 : Int × MS, m_x12_taken ((hM t).1 y) (y : Int) t = some o1 → gI o1.2 55 = 0 → (0 ≤ o1.1 ∧ o1.1 < gA t 39 5) ∧ (cM t o1.1.toNat ≤ 0 ∧ vM t o1.1.toNat ≤ 0) ∧ TkE t o1.2 o1.1.toNat ((hM t).1 y) := fun o1 eo z => by
              have W := (wp_det (w_x12_taken hRt ⟨hN0, hN48⟩ hC0 (p0 := (hM t).1 y) (p1 := (y : Int)) ⟨lv.1, by omega⟩ ⟨by omega, by omega⟩) eo).2.2
              rcases W with W | ⟨_, W⟩
              · omega
              · exact W
            have e60' := e60
            rw [yv] at e60'
            have g2 := m_own (p := (y : Int)) (t := t) (by omega) hf (fun o1 eo z => by
              rw [ty] at eo ⊢
              obtain ⟨W2, W3, W4⟩ := tk o1 eo z
              have ne : y ≠ o1.1.toNat := fun e2 => by rw [← e2] at W3; omega
              refine ⟨W2.1, fun e2 => ne e2.symm, ?_⟩
              have := W4.1 (20 + 16 * y) (by omega)
              show gA o1.2 49 (20 + 16 * y) ≤ 6
              rw [this]; exact lvy.2.1.2) q60 e60'
            rw [ty] at g2
            rcases g2 with ⟨a, _⟩ | ⟨_, o1, eo1, a2⟩
            · exact u ⟨a.2, a.1.2⟩
            · rcases a2 with ⟨x, e2⟩ | ⟨x, e2, _⟩
              · have : q60.2 = o1.2 := by rw [e2]
                rw [this] at x55; exact x x55
              · obtain ⟨_, W3, _⟩ := tk o1 eo1 x
                rw [← e2, ci, tcc, w] at W3; omega
        rcases lp with cp | cp
        · exact one_rt T0 hv y48 rfl yv cv.1 p k' hp cp hlp hk' hv'
        · have kd := TG_kid (TG_ss T0) (fun _ _ => Int.le_refl 0) hp cp hlp hk'
          have kd2 := kd.2.2
          rw [hv', ty] at kd2
          omega
      · exact Or.inr w)
    refine ⟨cc, π1, σ1, _, _, ⟨ci, rq, x3⟩, ⟨H64, ZP64⟩, ⟨OI_same OR.1 (fun x hx hl => ⟨by unfold LV at hl ⊢; rw [← w3, ← w4]; exact hl, Or.inl ⟨by rw [w1], by rw [w1], fun k => by rw [w1, w2]; exact ⟨rfl, rfl⟩⟩⟩), OR.2⟩, ⟨hR64, K64, (q_Ai e64).trans z0, fun u hu hn => by rw [u64, upZ_n hn]; exact ou u hu, by rw [u64, upZ_s]; omega⟩, by rw [u64, upZ_s], M', TG_D T1 dd, PM_D P1 dd, ⟨by rw [w3]; exact o54, by rw [w4]; exact o55⟩, by rw [w1]; exact o56, om, omu⟩
  -- the class behind the root
  rcases W1 with w | ⟨r0, ⟨rq, rN⟩, ⟨o54, o55⟩, ⟨o56, o57⟩, _, _, _, T1⟩
  · exact absurd w c
  have i67 : gI s67 1060 = gI q87.2 1060 := q_Ai e67
  have g60 : gA s67 60 = upZ (gA q87.2 60) v q87.1 := q_AA e67
  have h60s : gA q87.2 60 = gA s 60 := F87.2.1 60 (by decide)
  have R67 := hR67 r0 (by omega)
  have T1r := TG_root (v := v) (q := q87.1) T1 hv (Or.inl ⟨r0, by show q87.1 < gI q87.2 1060; rw [F87.1 1060 (by decide)]; omega⟩)
  have T67 : TS s67 Z0 (-1) := by
    refine TS_mk (TG_D T1r (fun x hx => ?_)) (hN_eq (q_Aa e67 (by decide)) (q_Aa e67 (by decide)) (q_Aa e67 (by decide))) (kN_eq (q_Aa e67 (by decide))) (q_Ai e67) (q_Ai e67) (q_Aa e67 (by decide)) (q_Aa e67 (by decide)) g60 (q_Aa e67 (by decide))
    show (0 : Int) = 0 + (if x = q87.1.toNat then 1 else 0) - (if x = ((π y : Nat) : Int).toNat then 1 else 0) + (if gA q87.2 60 v = (x : Int) then 1 else 0) - (if q87.1 = (x : Int) then 1 else 0)
    rw [h60s, s60, tpy]
    by_cases z : x = q87.1.toNat
    · rw [if_pos z, if_pos (show q87.1 = (x : Int) by omega)]
      by_cases z2 : x = π y
      · rw [if_pos z2, if_pos (show (π y : Int) = (x : Int) by omega)]; omega
      · rw [if_neg z2, if_neg (show ¬ (π y : Int) = (x : Int) by omega)]; omega
    · rw [if_neg z, if_neg (show ¬ q87.1 = (x : Int) by omega)]
      by_cases z2 : x = π y
      · rw [if_pos z2, if_pos (show (π y : Int) = (x : Int) by omega)]; omega
      · rw [if_neg z2, if_neg (show ¬ (π y : Int) = (x : Int) by omega)]; omega
  obtain ⟨R70, h70⟩ := wp_det (w_x1_splits R67 (p0 := q87.1) ⟨r0, by omega⟩) e70
  have T70 : TS q70.2 Z0 (-1) := TS_eq T67 (F70.2.1 54 (by decide)) (F70.2.1 55 (by decide)) (F70.2.1 56 (by decide)) (F70.2.1 57 (by decide)) (F70.2.1 58 (by decide)) (F70.2.1 59 (by decide)) (F70.2.1 60 (by decide)) (F70.2.1 61 (by decide)) (F70.1 1060 (by decide)) (F70.1 581 (by decide))
  have A70 : ∀ k, k ≠ 60 → k ≠ 81 → gA q70.2 k = gA q87.2 k := fun k k1 k2 => (F70.2.1 k (by simp; omega)).trans (q_Aa e67 k1)
  have l56 : gA s 56 (π y) = (hM t).1 y := (sim_b h y48 ly).1
  rw [tpy, l56] at o56
  have k54 : gA q70.2 54 q87.1.toNat = 1 := by rw [A70 54 (by decide) (by decide)]; exact o54
  have k55 : gA q70.2 55 q87.1.toNat = 0 := by rw [A70 55 (by decide) (by decide)]; exact o55
  have k56 : gA q70.2 56 q87.1.toNat = (hM t).1 y := by rw [A70 56 (by decide) (by decide)]; exact o56
  have k60 : gA q70.2 60 v = q87.1 := by rw [F70.2.1 60 (by decide), g60, upZ_s]
  have k581 : gI q70.2 581 = gI s 581 := by rw [F70.1 581 (by decide), (q_Ai e67 : gI s67 581 = gI q87.2 581), F87.1 581 (by decide)]
  have s581 : gI s67 581 = gI s 581 := by rw [(q_Ai e67 : gI s67 581 = gI q87.2 581), F87.1 581 (by decide)]
  have k57 : gA q70.2 57 q87.1.toNat = gA s67 57 q87.1.toNat := by rw [F70.2.1 57 (by decide)]
  have NT : 0 ≤ gA t 39 5 ∧ gA t 39 5 ≤ 48 := ⟨hN0, hN48⟩
  -- all that follows, the reference beside it
  have ALL : ∀ q : Int × MS, ((q70.1 = 0 ∧ m_x1_plant_L117 FU key val q87.1 (gA q70.2 56 q87.1.toNat) q70.2 = some q) ∨ (q70.1 ≠ 0 ∧ ∃ q75 : Int × MS, m_x1_raiseRoot (v : Int) q70.2 = some q75 ∧ ((q75.1 = -1 ∧ q.1 = 0) ∨ (q75.1 ≠ -1 ∧ ∃ q80 : Int × MS, m_x1_split q75.1 0 q87.1 key q75.2 = some q80 ∧ ((q80.1 = -1 ∧ q.1 = 0) ∨ (q80.1 ≠ -1 ∧ m_x1_plant_L117 FU key val q80.1 (gA q80.2 56 q80.1.toNat) q80.2 = some q)))))) → pc (m_x12_puts (v : Int) key val t) (fun o => CON q o) := fun q hq => by
    refine m_put1 (by omega) (fun q60 e60 => ⟨fun w => ?_, fun x55 s64 q67 e64 e67' => ?_⟩)
    · rcases (OWN q60 e60).2 with x | x
      · exact absurd x.1 c
      · exact absurd x.1 w
    obtain ⟨cc, π1, σ1, lo1, hj1, ⟨ci, c48, x3⟩, ⟨H64, ZP64⟩, ⟨O64, oky⟩, ⟨R64, K64, f64, W64⟩, ⟨rt64, M', T64, P64, hc1, hc2, hc3⟩⟩ := ROOT q60 s64 e60 x55 e64
    have tcc : ((cc : Nat) : Int).toNat = cc := Int.toNat_natCast _
    have KV := KLV_of T64 (fun _ _ => Int.le_refl 0)
    have lc : LV s64 cc := Or.inl (by omega)
    have nc := (KV.2.1 cc c48 lc).1
    rw [ci] at e67' ⊢
    obtain ⟨v1, v2, H5, ZP5⟩ := y_splits H64 c48 lc ZP64 R64 ⟨nc.1.2.1, nc.2, nc.1.1⟩ (by rw [← x3]; exact e70) e67'
    obtain ⟨R28, h28⟩ := wp_det (w_x12_doesSplit R64 (p0 := (cc : Int)) ⟨by omega, by omega⟩ (KS_CE K64 hC1) (by rw [tcc]; exact nc.1.2.1) (by rw [tcc]; have := nc.2; have := nc.1.1; omega) (by rw [K64.1.1]; omega)) e67'
    rw [tcc] at h28
    have F28 : F_x12_doesSplit s64 q67.2 := fr_x12_doesSplit e67'
    have a49 : gA q67.2 49 = gA s64 49 := F28.2.1 49 (by decide)
    have a39 : gA q67.2 39 = gA s64 39 := F28.2.1 39 (by decide)
    have K28 : KS t q67.2 := KS_t K64 ⟨⟨a39, F28.2.1 42 (by decide), F28.2.1 43 (by decide), F28.2.1 44 (by decide)⟩, fun j _ => by rw [a49]⟩
    obtain ⟨d1, d2, d3, d4⟩ := eq49 a49
    have T28 : TM q67.2 d0 (-1) := TM_eq T64 a49 a39
    have P28 : PM q67.2 v M' d0 (-1) := PM_e P64 a49 a39 (by omega)
    have W28 : RWn t q67.2 v := ⟨fun u hu hn => by rw [a49]; exact W64.1 u hu hn, by rw [a49]; exact W64.2⟩
    have f55 : gI q67.2 55 = 0 := (F28.1 55 (by decide)).trans f64
    have O28 : OI q67.2 lo1 hj1 := OI_49 O64 a49
    have K39 : gA s64 39 = gA t 39 := K64.1.1
    refine ⟨fun z => ?_, fun z q72 e72 => ?_⟩
    · rcases hq with ⟨_, eq⟩ | ⟨z2, _⟩
      · have w57 : gA s67 57 q87.1.toNat < gI s 581 := by
          rcases h70 with w | w
          · rw [← s581]; exact w.2
          · omega
        have w28 : (hM s64).2.1 cc < gA s64 39 6 := by
          rcases h28 with w | w
          · omega
          · exact w.2
        rw [k56, x3] at eq
        refine y_plant_L hv hkey hval hC0 hC1 hE hN0 FU FU ((hM t).1 y) cc q70.2 q67.2 π1 σ1 lo1 hj1 ⟨⟨H5, ZP5⟩, ⟨R70, R28⟩, K28, ⟨T70, ?_, by omega⟩, ⟨f55, W28, M', T28, P28, ?_⟩, O28, oky⟩ q eq
        · rw [← x3]
          exact ⟨⟨r0, by omega⟩, k54, k55, k56, by rw [k57, k581]; exact w57⟩
        · exact ⟨⟨⟨by omega, by omega⟩, by rw [tcc, d3]; exact hc1.1, by rw [tcc, d4]; exact hc1.2⟩, by rw [tcc, d1]; exact hc2, by rw [tcc, d1, a39]; exact w28, by rw [tcc]; exact hc3.1, fun u hu hn => by rw [tcc]; exact hc3.2 u hu hn⟩
      · exact absurd (v1.trans z) z2
    · rcases hq with ⟨z2, _⟩ | ⟨_, q75, e75, hq⟩
      · exact absurd (v1.symm.trans z2) z
      have KV28 : KLV q67.2 := KLV_of T28 (fun _ _ => Int.le_refl 0)
      have lc28 : LV q67.2 cc := Or.inl (by rw [d3]; omega)
      have N28 : 0 ≤ gA q67.2 39 5 ∧ gA q67.2 39 5 ≤ 48 := by rw [a39, K39]; exact NT
      have z2 : 2 ≤ (hM s64).2.1 cc := by
        rcases h28 with w | w
        · rcases w.2 with u | u
          · rw [K39] at u; omega
          · exact u
        · omega
      have C28 := KS_CE K28 hC0
      have YR := y_raise H5 KV28 R70 R28 T70 zD N28 C28 (by omega) f55 hv c48 lc28 (by rw [d1, hc2]; exact lv.2) (by rw [d1]; omega) (by rw [k60]; exact x3) e75 e72
      have WR := wp_det (mt_rootSplit (i := (hM t).1 y) (M := M') R28 hv rfl T28 P28 C28 (by rw [a39, K39]; exact hE) f55 (p1 := (cc : Int)) (p2 := key) (by rw [a49]; exact rt64) ⟨⟨⟨by omega, by omega⟩, by rw [tcc, d3]; exact hc1.1, by rw [tcc, d4]; exact hc1.2⟩, by rw [tcc, d1]; exact hc2, by rw [tcc, d1]; exact z2, by rw [tcc]; exact hc3⟩ ⟨by omega, by omega⟩) e72
      obtain ⟨R72, F72, kk72, u72, h72⟩ := WR
      have K72 : KS t q72.2 := KS_t K28 ⟨⟨F72.2.1 39 (by decide), F72.2.1 42 (by decide), F72.2.1 43 (by decide), F72.2.1 44 (by decide)⟩, kk72⟩
      rcases YR with ⟨y1, y2⟩ | ⟨y1, r, w, π2, σ2, r48, H6, y4, y5, KVw, Rw, ⟨w39, wk⟩, w55, lrw, zr, lr, ⟨nbr, lbw, zb, lbl⟩, ⟨vr, nlr, rows, lvs⟩, eh⟩
      · refine pc_mono (m_stepF FU _ _ y2) (fun o ho => Or.inl ⟨?_, ho⟩)
        rcases hq with ⟨_, e⟩ | ⟨e, _⟩
        · exact e
        · exact absurd y1 e
      rcases hq with ⟨e, _⟩ | ⟨_, q80, e80, hq⟩
      · exact absurd e y1
      have W75 := wp_det (ts_raise R70 T70 zD (by omega) (p0 := (v : Int)) ⟨by omega, by omega⟩ (by rw [tv, k60]; omega) (by rw [tv, k60, k54]; decide)) e75
      obtain ⟨R75, F75, W75⟩ := W75
      rcases W75 with e | ⟨T75, C75, z75, u75, st75⟩
      · exact absurd e y1
      rw [tv, k60] at C75
      rw [tv] at u75
      have stb := st75 q87.1.toNat (by omega) (by rw [k54]; decide)
      have cc2 : q87.1 = (π2 cc : Int) := by rw [y5 cc c48 lc28]; exact x3
      have e80' : m_x1_split (π2 r : Int) 0 (π2 cc : Int) key q75.2 = some q80 := by rw [← y4, ← cc2]; exact e80
      have Cw : CE w 0 := CE_eq C28 (wk 42 (by decide) (by decide)) (wk 43 (by decide) (by decide)) (wk 44 (by decide) (by decide))
      have Nw : 0 ≤ gA w 39 5 ∧ gA w 39 5 ≤ 48 := by rw [w39]; exact N28
      have YS := y_split H6 KVw R75 Rw T75 zD Nw Cw (by rw [F75.1 581 (by decide), k581]; omega) w55 r48 c48 (fun e => nbr e.symm) lrw lbw (by rw [zb, d1]; exact z2) (p1 := 0) (key := key) ⟨Int.le_refl 0, by rw [zr]; decide⟩ (by rw [zr]; decide) (by rw [lr]; have := (KV28.2.1 cc c48 lc28).1.1.1; omega) e80' eh
      rcases YS with ⟨s1, s2⟩ | ⟨s1, s2, s3, π3, σ3, H7, s4, s5⟩
      · refine pc_mono (m_stepF FU _ _ s2) (fun o ho => Or.inl ⟨?_, ho⟩)
        rcases hq with ⟨_, e⟩ | ⟨e, _⟩
        · exact e
        · exact absurd s1 e
      rcases hq with ⟨e, _⟩ | ⟨_, eq⟩
      · omega
      have OR := OI_root O28 KV28 c48 lc28 nlr ⟨lr, zr, vr⟩ rows lvs
      have OH := OI_hfe (key := key) (k := 0) OR KVw Rw Nw Cw w55 r48 c48 lrw lbw (by rw [lr]; have := (KV28.2.1 cc c48 lc28).1.1.1; omega) (by rw [zr]; decide) vr (by rw [zb, d1]; exact z2) (by rw [zr]; decide) (fun e => nbr e.symm) (by rw [upZ_n nbr, upZ_n nbr]; exact oky) eh s1
      obtain ⟨lo3, hj3, O3, k3⟩ := OH
      have WS := wp_det (ts_split (p0 := q75.1) (p1 := 0) (p2 := q87.1) (p3 := key) (i := gA q70.2 56 q87.1.toNat) R75 T75 zD (by rw [F75.1 581 (by decide), k581]; exact h581) C75 ⟨Int.le_refl 0, by rw [z75]; decide⟩ ⟨⟨r0, by omega⟩, by rw [stb.1]; exact k54, by rw [F75.2.1 55 (by decide)]; exact k55, stb.2.1, by
        rw [stb.2.2]
        have q := (sim_b H5 c48 lc28).2.1
        have q' : gA q70.2 57 (π1 cc) = (hM q67.2).2.1 cc := q
        rw [show q87.1.toNat = π1 cc by omega, q', d1]; exact z2⟩ ⟨by omega, by omega⟩) e80
      obtain ⟨R80, F80, h80⟩ := WS
      rcases h80 with e | ⟨T80, C80⟩
      · omega
      rcases h72 with e | ⟨f72, rv, M3, T72, P72, A72⟩
      · omega
      have q72i : q72.1 = ((q72.1.toNat : Nat) : Int) := by omega
      have lev80 : gA q80.2 56 q80.1.toNat = (hM t).1 y := C80.2.2.2.1.trans k56
      rw [lev80, s4] at eq
      rw [q72i]
      have ZP7 : ZP q80.2 q72.2 := ZP_k ZP5 (by rw [F80.1 581 (by decide), F75.1 581 (by decide)]) (by rw [F80.1 741 (by decide), F75.1 741 (by decide)]) (fun k k1 k2 => by rw [F80.2.1 k (by simp; omega), F75.2.1 k (by simp; omega)]) (fun k hk => F72.2.1 k (by simp; omega))
      refine y_plant_L hv hkey hval hC0 hC1 hE hN0 FU FU ((hM t).1 y) q72.1.toNat q80.2 q72.2 π3 σ3 lo3 hj3 ⟨⟨H7, ZP7⟩, ⟨R80, R72⟩, K72, ⟨T80, ?_, by rw [F80.1 581 (by decide), F75.1 581 (by decide), k581]; exact h581⟩, ⟨f72, ⟨fun u hu hn => by rw [u72 u hu hn f72]; exact W28.1 u hu hn, rv⟩, M3, T72, P72, ?_⟩, O3, k3⟩ q eq
      · rw [← s4, ← k56]; exact C80
      · rw [← q72i]; exact A72
  refine ⟨fun c2 => s_J95 (fun w => absurd w c) (fun _ => fun q eq => ALL q (Or.inl ⟨c2, eq⟩)), fun c2 q75 e75 => ⟨fun c3 => s_J95 (fun _ => fun q eq => ALL q (Or.inr ⟨c2, q75, e75, Or.inl ⟨c3, s_stepF FU _ _ q eq⟩⟩)) (fun w => absurd rfl w), fun c3 q80 e80 => s_J95 (fun c4 => fun q eq => ALL q (Or.inr ⟨c2, q75, e75, Or.inr ⟨c3, q80, e80, Or.inl ⟨c4, s_stepF FU _ _ q eq⟩⟩⟩)) (fun c4 => fun q eq => ALL q (Or.inr ⟨c2, q75, e75, Or.inr ⟨c3, q80, e80, Or.inr ⟨c4, eq⟩⟩⟩))⟩⟩
/-! ===== counts alone change, and roots: both sides stay alike ===== -/
set_option maxHeartbeats 250000 in theorem sim_fin {π σ : Nat → Nat} {s s' t t' : MS} (h : SIM π σ s t) (hK : KLV t) (a : ∀ k, 55 ≤ k → k ≤ 61 → k ≠ 60 → gA s' k = gA s k) (a2 : gI s' 1060 = gI s 1060) (a3 : gL s' 1062 = gL s 1062) (m1 : hM t' = hM t) (m2 : kM t' = kM t) (m4 : vM t' = vM t) (b2 : gA t' 39 5 = gA t 39 5) (b3 : gA t' 54 = gA t 54) (b8 : ∀ v, v < 8 → gA t' 49 (8 + v) = gA t 49 (8 + v)) (hr : ∀ v, v < 8 → rtr π (gA s' 60 v) (gA t' 49 v)) (l1 : ∀ x, x < 48 → 0 < gA s' 54 (π x) → LV t x) (l2 : ∀ x, x < 48 → 0 < cM t' x → 0 < cM t x) (S : TS s' Z0 (-1)) (T : TM t' d0 (-1)) : SIM π σ s' t' := by
  have hP := h.1.1
  have N := h.2.1
  have nb : hN s' = hN s := by
    unfold hN
    rw [a 56 (by decide) (by decide) (by decide), a 57 (by decide) (by decide) (by decide), a 59 (by decide) (by decide) (by decide)]
  have kb : kN s' = kN s := by
    unfold kN
    rw [a 58 (by decide) (by decide) (by decide)]
  have C : ∀ x, x < 48 → gA s' 54 (π x) = cM t' x := by
    refine cnt_det (h1 := hN s') (h2 := hM t') (k1 := kN s') (k2 := kM t') (r1 := gA s' 60) (r2 := rM t') (L := LV t) (E1 := fun x => Z0 (π x)) (E2 := d0) (by rw [← a2] at hP; exact hP) (by rw [a2, N, ← b2]; exact T.1.1) (fun x hx hl => ?_) (fun x hx => (S.1.2.1 x hx).1) (fun x hx => (T.1.2.1 x hx).1) l1 (fun x hx w => Or.inl (l2 x hx w)) (fun x hx => S.2.1.1 (π x) (hP x hx).1.1) (fun x hx => T.2.1.1 x hx) (fun _ _ => rfl) (fun v hv => by rw [rM_v hv]; exact hr v hv)
    have q := (hK.2.1 x hx hl).1
    rw [nb, kb, m1, m2, a2, N]
    exact ⟨sim_b h hx hl, q.1, q.2⟩
  have lv : ∀ x, x < 48 → (0 < cM t' x ∨ 0 < vM t' x) → LV t x := fun x hx w => by
    rcases w with w | w
    · exact Or.inl (l2 x hx w)
    · rw [m4] at w; exact Or.inr w
  refine ⟨⟨by rw [a2]; exact hP, fun x hx => ?_, fun x hx q => ?_, fun v hv => ?_⟩, by rw [a2, b2]; exact N, fun x hx q => ?_⟩
  · show gA s' 54 (π x) = cM t' x ∧ gA s' 55 (π x) = vM t' x
    rw [a 55 (by decide) (by decide) (by decide), m4]
    exact ⟨C x hx, (sim_c h hx).2⟩
  · show BR1 π (hN s') (hM t') (kN s') (kM t') x
    rw [nb, kb, m1, m2]
    exact sim_b h hx (lv x hx q)
  · show rtr π (gA s' 60 v) (gA t' 49 v) ∧ rtr π (gA s' 61 v) (gA t' 49 (8 + v))
    rw [a 61 (by decide) (by decide) (by decide), b8 v hv]
    exact ⟨hr v hv, (h.1.2.2.2 v hv).2⟩
  · rw [a3, b3]
    exact h.2.2 x hx (l2 x hx q)
/- only counts and one root -/
def CXm (v : Nat) (t T : MS) : Prop := (∀ i, i ≠ v → (i < 17 ∨ i % 16 ≠ 1) → gA T 49 i = gA t 49 i) ∧ (∀ k, k ≠ 49 → gA T k = gA t k)
set_option maxHeartbeats 250000 in theorem CXm_h {v : Nat} {t T : MS} (hv : v < 8) (h : CXm v t T) : hM T = hM t ∧ kM T = kM t ∧ vM T = vM t := by
  have e : ∀ i, 17 < i → i % 16 ≠ 1 → gA T 49 i = gA t 49 i := fun i h1 h2 => h.1 i (by omega) (Or.inr h2)
  refine ⟨?_, ?_, ?_⟩
  · show ((fun p => gA T 49 (19 + 16 * p), fun p => gA T 49 (20 + 16 * p), fun p k => if k < 6 then gA T 49 (27 + 16 * p + k) else 0) : SH) = (fun p => gA t 49 (19 + 16 * p), fun p => gA t 49 (20 + 16 * p), fun p k => if k < 6 then gA t 49 (27 + 16 * p + k) else 0)
    have f1 : (fun p : Nat => gA T 49 (19 + 16 * p)) = fun p => gA t 49 (19 + 16 * p) := by
      funext p; exact e _ (by omega) (by omega)
    have f2 : (fun p : Nat => gA T 49 (20 + 16 * p)) = fun p => gA t 49 (20 + 16 * p) := by
      funext p; exact e _ (by omega) (by omega)
    have f3 : (fun p k : Nat => if k < 6 then gA T 49 (27 + 16 * p + k) else 0) = fun p k => if k < 6 then gA t 49 (27 + 16 * p + k) else 0 := by
      funext p k
      by_cases z : k < 6
      · rw [if_pos z, if_pos z]; exact e _ (by omega) (by omega)
      · rw [if_neg z, if_neg z]
    rw [f1, f2, f3]
  · funext p k
    show (if k < 6 then gA T 49 (21 + 16 * p + k) else 0) = if k < 6 then gA t 49 (21 + 16 * p + k) else 0
    by_cases z : k < 6
    · rw [if_pos z, if_pos z]; exact e _ (by omega) (by omega)
    · rw [if_neg z, if_neg z]
  · funext p
    exact e (18 + 16 * p) (by omega) (by omega)
def CXs (s S : MS) : Prop := (∀ k, k ≠ 54 → k ≠ 50 → k ≠ 60 → gA S k = gA s k) ∧ (∀ k, gI S k = gI s k) ∧ ∀ k, gL S k = gL s k
/- a root with one child goes down: the walk -/
set_option maxHeartbeats 250000 in theorem y_lower_L {π σ : Nat → Nat} {s t : MS} {v : Nat} (h : SIM π σ s t) (hK : KLV t) (hv : v < 8) (hL : ∀ x, x < 48 → 0 < cM t x → 0 < (hM t).1 x → ∀ k : Nat, (k : Int) < (hM t).2.1 x → 0 < cM t ((hM t).2.2 x k).toNat) : ∀ (n m : Nat) (x3 : Int) (b : Nat) (S T : MS), b < 48 → 0 < cM t b → 0 ≤ x3 → x3 + (hM t).1 b ≤ 47 → CXs s S → CXm v t T → (∀ u, u ≠ v → gA S 60 u = gA s 60 u) → gA S 60 v = (π b : Int) → gA T 49 v = (b : Int) → (∀ x, x < 48 → 0 < gA S 54 (π x) → 0 < cM t x) → (∀ x, x < 48 → 0 < cM T x → 0 < cM t x) → pc (m_x1_lowerRoot_L2 n (v : Int) x3 S) (fun s' => pc (m_x12_lowers_L7 m (v : Int) (b : Int) T) (fun t' => ∃ b', b' < 48 ∧ 0 < cM t b' ∧ CXs s s' ∧ CXm v t t' ∧ (∀ u, u ≠ v → gA s' 60 u = gA s 60 u) ∧ gA s' 60 v = (π b' : Int) ∧ gA t' 49 v = (b' : Int) ∧ (∀ x, x < 48 → 0 < gA s' 54 (π x) → 0 < cM t x) ∧ ∀ x, x < 48 → 0 < cM t' x → 0 < cM t x)) := by
  have tv : ((v : Nat) : Int).toNat = v := Int.toNat_natCast _
  refine fr_ind (fun _ _ _ _ _ _ _ _ _ _ _ _ _ _ _ _ => pc_none) (fun n ih m x3 b S T hb hc h3 hl hS hT r60 rS rT s1 s2 => ?_)
  cases m with
  | zero => exact fun q _ => pc_none
  | succ m =>
    have tb : ((b : Nat) : Int).toNat = b := Int.toNat_natCast _
    have lb : LV t b := Or.inl hc
    have Bb := sim_b h hb lb
    have Kb := (hK.2.1 b hb lb).1
    have hP := h.1.1
    have pb48 := (hP b hb).1.1
    have tp : ((π b : Nat) : Int).toNat = π b := Int.toNat_natCast _
    obtain ⟨e1, e2, e3⟩ := CXm_h hv hT
    have l56 : gA S 56 (π b) = (hM t).1 b := by rw [hS.1 56 (by decide) (by decide) (by decide)]; exact Bb.1
    have z57 : gA S 57 (π b) = (hM t).2.1 b := by rw [hS.1 57 (by decide) (by decide) (by decide)]; exact Bb.2.1
    have done : ∀ (T' : MS), T' = T → ∃ b', b' < 48 ∧ 0 < cM t b' ∧ CXs s S ∧ CXm v t T' ∧ (∀ u, u ≠ v → gA S 60 u = gA s 60 u) ∧ gA S 60 v = (π b' : Int) ∧ gA T' 49 v = (b' : Int) ∧ (∀ x, x < 48 → 0 < gA S 54 (π x) → 0 < cM t x) ∧ ∀ x, x < 48 → 0 < cM T' x → 0 < cM t x := fun T' e => by
      rw [e]; exact ⟨b, hb, hc, hS, hT, r60, rS, rT, s1, s2⟩
    -- the reference's step
    have REF : ∀ Q : MS → Prop, (¬ (0 < (hM t).1 b ∧ (hM t).2.1 b = 1) → Q T) → (0 < (hM t).1 b → (hM t).2.1 b = 1 → ∀ T2 : MS, CXm v t T2 → gA T2 49 v = (hM t).2.2 b 0 → (∀ x, x < 48 → 0 < cM T2 x → 0 < cM t x) → pc (m_x12_lowers_L7 m (v : Int) ((hM t).2.2 b 0) T2) Q) → pc (m_x12_lowers_L7 (m + 1) (v : Int) (b : Int) T) Q := fun Q K0 K1 => by
      show pc (m_x12_lowers_b7 (m_x12_lowers_L7 m) (v : Int) (b : Int) T) Q
      unfold m_x12_lowers_b7 m_x12_lowers_J63 m_x12_lowers_J51
      refine pc_bq (m_lev (by omega)) (fun r11 h11 => ?_)
      rw [tb, e1] at h11
      rw [h11]
      refine pc_rg (pc_if (fun c => pc_some (K0 (fun w => by omega))) (fun c => pc_bq (m_ents (by omega)) (fun r15 h15 => ?_)))
      rw [tb, e1] at h15
      rw [h15]
      refine pc_rg (pc_if (fun c1 => pc_bq (m_val (by omega) (by decide)) (fun r19 h19 => ?_)) (fun c1 => pc_some (K0 (fun w => c1 w.2))))
      rw [tb, e1] at h19
      have h19' : r19 = (hM t).2.2 b 0 := h19
      have kid := (hK.2.1 b hb lb).2 (by omega) 0 (by omega)
      have kc := hL b hb hc (by omega) 0 (by omega)
      rw [h19']
      have cnt : ∀ (p : Nat) (d : Int) (X Y : MS), p < 48 → CXm v t X → m_x12_counts (p : Int) d X = some Y → CXm v t Y ∧ gA Y 49 v = gA X 49 v ∧ ∀ x, x ≠ p → cM Y x = cM X x := fun p d X Y hp hX eY => by
        obtain ⟨_, u1, u2, _⟩ := m_cntT Y eY
        rw [show (17 + 16 * (p : Int)).toNat = 17 + 16 * p by omega] at u1
        refine ⟨⟨fun i hi h2 => by rw [u1, upZ_n (by omega)]; exact hX.1 i hi h2, fun k hk => (u2 k hk).trans (hX.2 k hk)⟩, by rw [u1, upZ_n (by omega)], fun x hx => ?_⟩
        show gA Y 49 (17 + 16 * x) = gA X 49 (17 + 16 * x)
        rw [u1, upZ_n (by omega)]
      obtain ⟨y, hy⟩ : ∃ y, y = ((hM t).2.2 b 0).toNat := ⟨_, rfl⟩
      rw [← hy] at kid kc
      have yi : (hM t).2.2 b 0 = (y : Int) := by omega
      rw [yi]
      refine pc_bn (fun s21 e21 => ?_)
      obtain ⟨X1, X2, X3⟩ := cnt b (-1) T s21 hb hT e21
      have p21 : ∀ x, x < 48 → 0 < cM s21 x → 0 < cM t x := fun x hx w => by
        by_cases e : x = b
        · rw [e]; exact hc
        · rw [X3 x e] at w; exact s2 x hx w
      have fin : ∀ Z : MS, CXm v t Z → gA Z 49 v = gA T 49 v → (∀ x, x < 48 → 0 < cM Z x → 0 < cM t x) → pc (inb 906 (v : Int) (stn (sA Z 49 (upZ (gA Z 49) (Int.toNat (v : Int)) (y : Int))) (fun s9 => m_x12_lowers_L7 m (v : Int) (y : Int) s9))) Q := fun Z z1 z2 z3 => by
        refine pc_inb (pc_stn (fun s9 e9 => ?_))
        rw [tv] at e9
        have u9 : gA s9 49 = upZ (gA Z 49) v (y : Int) := q_AA e9
        have k := K1 (by omega) c1 s9 ⟨fun i hi h2 => by rw [u9, upZ_n hi]; exact z1.1 i hi h2, fun k hk => (q_Aa e9 hk).trans (z1.2 k hk)⟩ (by rw [u9, upZ_s, yi]) (fun x hx w => by
          have w' : 0 < gA s9 49 (17 + 16 * x) := w
          rw [u9, upZ_n (by omega)] at w'
          exact z3 x hx w')
        rw [yi] at k; exact k
      refine pc_bq (m_cnt (by omega)) (fun r23 h23 => pc_rg (pc_if (fun c5 => fin s21 X1 X2 p21) (fun c5 => pc_bn (fun s27 e27 => ?_))))
      obtain ⟨Y1, Y2, Y3⟩ := cnt y 1 s21 s27 (by omega) X1 e27
      exact fin s27 Y1 (Y2.trans X2) (fun x hx w => by
        by_cases e : x = y
        · rw [e]; exact kc
        · rw [Y3 x e] at w; exact p21 x hx w)
    show pc (m_x1_lowerRoot_b2 (m_x1_lowerRoot_L2 n) (v : Int) x3 S) _
    unfold m_x1_lowerRoot_b2 m_x1_lowerRoot_J48 m_x8_slot
    refine pc_rg (pc_if (fun c => absurd c (by have := Kb.1.1; omega)) (fun _ => pc_rdI (fun _ => ?_)))
    rw [tv, rS]
    refine pc_rg (pc_if (fun c => absurd c (by omega)) (fun _ => pc_rdI (fun _ => ?_)))
    rw [tp, l56]
    refine pc_rg (pc_if (fun c => pc_some (REF _ (fun _ => done T rfl) (fun w _ => by omega))) (fun c => pc_rdI (fun _ => ?_)))
    rw [tp, z57]
    refine pc_rg (pc_if (fun c1 => pc_bn (fun r17 e17 => ?_)) (fun c1 => pc_some (REF _ (fun _ => done T rfl) (fun _ w => absurd w c1))))
    cases e17
    have l0 := Kb.1.1
    have kid := (hK.2.1 b hb lb).2 (by omega) 0 (by omega)
    have kidN := (Kb.1.2.2 (by omega) 0 (by omega)).2
    have kc := hL b hb hc (by omega) 0 (by omega)
    have ev := (Bb.2.2 0 (by omega)).2.1 (by omega)
    obtain ⟨y, hy⟩ : ∃ y, y = ((hM t).2.2 b 0).toNat := ⟨_, rfl⟩
    rw [← hy] at kid kidN kc ev
    have yi : (hM t).2.2 b 0 = (y : Int) := by omega
    have y48 : y < 48 := by omega
    have tpy : ((π y : Nat) : Int).toNat = π y := Int.toNat_natCast _
    refine pc_rdI (fun _ => ?_)
    have ev' : gA S 59 ((π b : Int) * 6 + 0).toNat = (π y : Int) := by
      rw [show ((π b : Int) * 6 + 0).toNat = 6 * π b + 0 by omega, hS.1 59 (by decide) (by decide) (by decide)]
      exact ev
    rw [ev']
    refine pc_rdI (fun _ => pc_inb (pc_stn (fun s21 e21 => pc_inb (pc_stn (fun s23 e23 => pc_bq s_rel (fun q26 h26 => ?_))))))
    try rw [tpy] at e21
    try rw [tv] at e23
    have a54 : gA s21 54 = upZ (gA S 54) (π y) (gA S 54 (π y) + 1) := by
      have q : gA s21 54 = _ := q_AA e21
      (try rw [tpy] at q); exact q
    have A26 : ∀ k, k ≠ 54 → k ≠ 50 → k ≠ 60 → gA q26.2 k = gA S k := fun k k1 k2 k3 => (h26.2.1 k k1 k2).trans ((q_Aa e23 k3).trans (q_Aa e21 k1))
    have u60 : gA q26.2 60 = upZ (gA S 60) v (π y : Int) := by
      rw [h26.2.1 60 (by decide) (by decide), (q_AA e23 : gA s23 60 = _), (q_Aa e21 (by decide) : gA s21 60 = gA S 60)]
    refine fun q eq => REF _ (fun w => absurd ⟨by omega, c1⟩ w) (fun _ _ T2 X1 X2 X3 => ?_)
    rw [yi]
    rw [yi] at X2
    refine ih m (x3 + 1) y q26.2 T2 y48 kc (by omega) (by omega) ⟨fun k k1 k2 k3 => (A26 k k1 k2 k3).trans (hS.1 k k1 k2 k3), fun k => (h26.2.2.1 k).trans ((q_Ai e23).trans ((q_Ai e21).trans (hS.2.1 k))), fun k => (h26.2.2.2 k).trans ((q_Al e23).trans ((q_Al e21).trans (hS.2.2 k)))⟩ X1 (fun u hu => by rw [u60, upZ_n hu]; exact r60 u hu) (by rw [u60, upZ_s]) X2 (fun x hx w => ?_) X3 q eq
    have le := h26.1 (π x)
    rw [(q_Aa e23 (by decide) : gA s23 54 = gA s21 54), a54] at le
    by_cases e : π x = π y
    · rw [PB_i hP hx y48 e]; exact kc
    · rw [upZ_n e] at le
      exact s1 x hx (by omega)
set_option maxHeartbeats 250000 in theorem y_lower {π σ : Nat → Nat} {s t s0 t0 : MS} {v : Nat} {M : Nat → Nat → Int} (h : SIM π σ s t) (hR : Rg s) (hRt : Rr t) (S0 : TS s Z0 (-1)) (T0 : TM t d0 (-1)) (P : PM t v M d0 (-1)) (hv : v < 8) (hV : RV s0 s v) (hW : RWn t0 t v) : pc (m_x1_lowerRoot (v : Int) s) (fun s' => pc (m_x12_lowers (v : Int) t) (fun t' => SIM π σ s' t' ∧ CXm v t t' ∧ ∀ x, x < 48 → 0 < cM t' x → 0 < cM t x)) := by
  have tv : ((v : Nat) : Int).toNat = v := Int.toNat_natCast _
  have hK : KLV t := KLV_of T0 (fun _ _ => Int.le_refl 0)
  have r2 := hW.2
  obtain ⟨b, hb⟩ : ∃ b, b = (gA t 49 v).toNat := ⟨_, rfl⟩
  have bi : gA t 49 v = (b : Int) := by omega
  have b48 : b < 48 := by omega
  have rl := TG_root_live (v := v) T0 (fun _ _ => Int.le_refl 0) hv (by rw [rM_v hv]; omega) (by rw [rM_v hv]; omega)
  rw [rM_v hv, ← hb] at rl
  have rS : gA s 60 v = (π b : Int) := by
    rcases (h.1.2.2.2 v hv).1 with ⟨a, _⟩ | ⟨a, _⟩ | ⟨_, _, a⟩
    · omega
    · omega
    · rw [← hb] at a; exact a
  have lv := TG_lev T0 (fun _ _ => Int.le_refl 0) b48 rl.2
  have hL : ∀ x, x < 48 → 0 < cM t x → 0 < (hM t).1 x → ∀ k : Nat, (k : Int) < (hM t).2.1 x → 0 < cM t ((hM t).2.2 x k).toNat := fun x hx hc hl k hk => (TG_kid T0 (fun _ _ => Int.le_refl 0) hx hc hl hk).2.2
  have L := y_lower_L h hK hv hL FU FU 0 b s t b48 rl.2 (Int.le_refl 0) (by omega) ⟨fun _ _ _ _ => rfl, fun _ => rfl, fun _ => rfl⟩ ⟨fun _ _ _ => rfl, fun _ _ => rfl⟩ (fun _ _ => rfl) rS bi (fun x hx w => by rw [(sim_c h hx).1] at w; exact w) (fun _ _ w => w)
  intro s' es
  have W1 := wp_det (ts_lower (p0 := (v : Int)) hR S0 (s0 := s0) ⟨by omega, by omega⟩ (by rw [tv]; exact hV)) es
  have L' := L s' es
  have R : pc (m_x12_lowers (v : Int) t) (fun t' => ∃ b', b' < 48 ∧ 0 < cM t b' ∧ CXs s s' ∧ CXm v t t' ∧ (∀ u, u ≠ v → gA s' 60 u = gA s 60 u) ∧ gA s' 60 v = (π b' : Int) ∧ gA t' 49 v = (b' : Int) ∧ (∀ x, x < 48 → 0 < gA s' 54 (π x) → 0 < cM t x) ∧ ∀ x, x < 48 → 0 < cM t' x → 0 < cM t x) := by
    unfold m_x12_lowers
    refine pc_rdI (fun _ => ?_)
    rw [tv, bi]
    exact L'
  intro t' et
  have W2 := wp_det (mt_lowers (s0 := t0) hRt hv rfl T0 P hW) et
  obtain ⟨b', b48', cb', c1, c2, c3, c4, c5, c6, c7⟩ := R t' et
  obtain ⟨e1, e2, e3⟩ := CXm_h hv c2
  refine ⟨?_, c2, c7⟩
  refine sim_fin h hK (fun k k1 k2 k3 => c1.1 k (by omega) (by omega) k3) (c1.2.1 1060) (c1.2.2 1062) e1 e2 e3 (by rw [c2.2 39 (by decide)]) (c2.2 54 (by decide)) (fun u hu => c2.1 (8 + u) (by omega) (Or.inl (by omega))) (fun u hu => ?_) (fun x hx w => Or.inl (c6 x hx w)) c7 W1.2.1 W2.2.2.2.1.1
  by_cases z : u = v
  · rw [z, c4, c5]
    exact Or.inr (Or.inr ⟨by omega, by omega, by rw [Int.toNat_natCast]⟩)
  · rw [c3 u z, c2.1 u z (Or.inl (by omega))]
    exact (h.1.2.2.2 u hu).1
/-! ===== an act is tried on both sides ===== -/
set_option maxHeartbeats 250000 in theorem pc_cpg {α : Type} {sp dp n : Int} {n0 n1 : Nat} {k : Option α} {P : α → Prop} (h : pc k P) : pc (cpg sp dp n n0 n1 k) P := by
  unfold cpg
  split
  · exact h
  · exact pc_none
set_option maxHeartbeats 250000 in theorem s_v3 {s : MS} : pc (m_x8_become_v3 s) (fun o => gL o 1422 = gL s 1062) := by
  unfold m_x8_become_v3
  exact pc_stn (fun s1 e1 => pc_stn (fun s2 e2 => pc_stn (fun s3 e3 => pc_cpg (pc_stn (fun s5 e5 => pc_cpg (pc_stn (fun s7 e7 => pc_cpg (pc_stn (fun s9 e9 => pc_cpg (pc_stn (fun s11 e11 => pc_cpg (pc_stn (fun s13 e13 => pc_cpg (pc_stn (fun s15 e15 => pc_cpg (pc_stn (fun s17 e17 => pc_cpg (pc_stn (fun s19 e19 => pc_some ((q_Al e19).trans ((q_Al e17).trans ((q_Al e15).trans ((q_Al e13).trans ((q_Al e11).trans ((q_Al e9).trans ((q_Al e7).trans ((q_Al e5).trans ((q_LL e3 : gL s3 1422 = _).trans ((q_Il e2).trans (q_Il e1))))))))))))))))))))))))))))))
set_option maxHeartbeats 250000 in theorem s_v4 {s : MS} : pc (m_x8_become_v4 s) (fun o => gL o 1062 = gL s 1422) := by
  unfold m_x8_become_v4
  exact pc_stn (fun s1 e1 => pc_stn (fun s2 e2 => pc_stn (fun s3 e3 => pc_cpg (pc_stn (fun s5 e5 => pc_cpg (pc_stn (fun s7 e7 => pc_cpg (pc_stn (fun s9 e9 => pc_cpg (pc_stn (fun s11 e11 => pc_cpg (pc_stn (fun s13 e13 => pc_cpg (pc_stn (fun s15 e15 => pc_cpg (pc_stn (fun s17 e17 => pc_cpg (pc_stn (fun s19 e19 => pc_some ((q_Al e19).trans ((q_Al e17).trans ((q_Al e15).trans ((q_Al e13).trans ((q_Al e11).trans ((q_Al e9).trans ((q_Al e7).trans ((q_Al e5).trans ((q_LL e3 : gL s3 1062 = _).trans ((q_Il e2).trans (q_Il e1))))))))))))))))))))))))))))))
set_option maxHeartbeats 250000 in theorem pc_bo2 {α : Type} {v : Int} {k : Option α} {P : α → Prop} (h : v = 0 ∨ v = 1 → pc k P) : pc (bo v k) P := by
  unfold bo
  split
  · rename_i q; exact h q
  · exact pc_none
/- what was put by for a try that fails -/
def SVm (t X : MS) : Prop := (∀ k, k ≠ 59 → k ≠ 60 → gA X k = gA t k) ∧ (∀ i, i < 785 → gA X 59 i = gA t 49 i) ∧ (∀ i, i < 48 → gA X 60 i = gA t 54 i) ∧ (∀ i, i ≠ 55 → gI X i = gI t i) ∧ gI X 55 = 0 ∧ (Rr t → Rr X)
def BKm (Y o : MS) : Prop := (∀ k, k ≠ 49 → k ≠ 54 → gA o k = gA Y k) ∧ (∀ i, i < 785 → gA o 49 i = gA Y 59 i) ∧ (∀ i, 785 ≤ i → gA o 49 i = gA Y 49 i) ∧ (∀ i, i < 48 → gA o 54 i = gA Y 60 i) ∧ (∀ i, i ≠ 55 → gI o i = gI Y i) ∧ gI o 55 = 0
set_option maxHeartbeats 250000 in theorem m_back {Y : MS} : pc (m_x12_tries_L133 FU 0 Y) (fun o => o.1 = 0 ∧ BKm Y o.2) := by
  have L164 : ∀ (n : Nat) (x : Int) (S : MS), (0 ≤ x ∧ x ≤ 48) → (∀ k, k ≠ 49 → k ≠ 54 → gA S k = gA Y k) → (∀ i, i < 785 → gA S 49 i = gA Y 59 i) → (∀ i, 785 ≤ i → gA S 49 i = gA Y 49 i) → (∀ i : Nat, (i : Int) < x → gA S 54 i = gA Y 60 i) → (∀ i, gI S i = gI Y i) → pc (m_x12_tries_L164 n x S) (fun o => o.1 = 0 ∧ BKm Y o.2) := by
    refine fr_ind (fun _ _ _ _ _ _ _ _ => pc_none) (fun n ih x S hx h1 h2 h3 h4 h5 => ?_)
    show pc (m_x12_tries_b164 (m_x12_tries_L164 n) x S) _
    unfold m_x12_tries_b164
    refine pc_rg (pc_if (fun c => pc_stn (fun s5 e5 => pc_some ⟨rfl, fun k k1 k2 => (q_Ia e5).trans (h1 k k1 k2), fun i hi => by rw [(q_Ia e5 : gA s5 49 = gA S 49)]; exact h2 i hi, fun i hi => by rw [(q_Ia e5 : gA s5 49 = gA S 49)]; exact h3 i hi, fun i hi => by rw [(q_Ia e5 : gA s5 54 = gA S 54)]; exact h4 i (by omega), fun i hi => (q_Ii e5 hi).trans (h5 i), q_II e5⟩)) (fun c => pc_rdI (fun _ => pc_inb (pc_bo (pc_stn (fun s9 e9 => ih (x + 1) s9 (by omega) (fun k k1 k2 => (q_Aa e9 k2).trans (h1 k k1 k2)) (fun i hi => by rw [(q_Aa e9 (by decide) : gA s9 49 = gA S 49)]; exact h2 i hi) (fun i hi => by rw [(q_Aa e9 (by decide) : gA s9 49 = gA S 49)]; exact h3 i hi) (fun i hi => ?_) (fun i => (q_Ai e9).trans (h5 i))))))))
    rw [(q_AA e9 : gA s9 54 = _)]
    by_cases z : i = x.toNat
    · rw [z, upZ_s, h1 60 (by decide) (by decide)]
    · rw [upZ_n z]; exact h4 i (by omega)
  have L133 : ∀ (n : Nat) (x : Int) (S : MS), (0 ≤ x ∧ x ≤ 785) → (∀ k, k ≠ 49 → gA S k = gA Y k) → (∀ i : Nat, (i : Int) < x → gA S 49 i = gA Y 59 i) → (∀ i, 785 ≤ i → gA S 49 i = gA Y 49 i) → (∀ i, gI S i = gI Y i) → pc (m_x12_tries_L133 n x S) (fun o => o.1 = 0 ∧ BKm Y o.2) := by
    refine fr_ind (fun _ _ _ _ _ _ _ => pc_none) (fun n ih x S hx h1 h2 h3 h5 => ?_)
    show pc (m_x12_tries_b133 (m_x12_tries_L133 n) x S) _
    unfold m_x12_tries_b133
    refine pc_rg (pc_if (fun c => L164 FU 0 S (by omega) (fun k k1 _ => h1 k k1) (fun i hi => h2 i (by omega)) h3 (fun i hi => absurd hi (by omega)) h5) (fun c => pc_rdI (fun _ => pc_inb (pc_stn (fun s16 e16 => ih (x + 1) s16 (by omega) (fun k hk => (q_Aa e16 hk).trans (h1 k hk)) (fun i hi => ?_) (fun i hi => by rw [(q_AA e16 : gA s16 49 = _), upZ_n (by omega)]; exact h3 i hi) (fun i => (q_Ai e16).trans (h5 i)))))))
    rw [(q_AA e16 : gA s16 49 = _)]
    by_cases z : i = x.toNat
    · rw [z, upZ_s, h1 59 (by decide)]
    · rw [upZ_n z]; exact h2 i (by omega)
  exact L133 FU 0 Y (by omega) (fun _ _ => rfl) (fun i hi => absurd hi (by omega)) (fun _ _ => rfl) (fun _ => rfl)
set_option maxHeartbeats 250000 in theorem m_tries2 {v : Nat} {key val : Int} {t : MS} : pc (m_x12_tries 2 (v : Int) key val t) (fun o => ∃ X Y, SVm t X ∧ m_x12_puts (v : Int) key val X = some Y ∧ ((gI Y 55 = 0 ∧ o = (1, Y)) ∨ (gI Y 55 ≠ 0 ∧ o.1 = 0 ∧ BKm Y o.2))) := by
  have L34 : ∀ (n : Nat) (x : Int) (S : MS), (0 ≤ x ∧ x ≤ 48) → (∀ k, k ≠ 59 → k ≠ 60 → gA S k = gA t k) → (∀ i, i < 785 → gA S 59 i = gA t 49 i) → (∀ i : Nat, (i : Int) < x → gA S 60 i = gA t 54 i) → (∀ i, gI S i = gI t i) → (Rr t → Rr S) → pc (m_x12_tries_L34 n 2 (v : Int) key val x S) (fun o => ∃ X Y, SVm t X ∧ m_x12_puts (v : Int) key val X = some Y ∧ ((gI Y 55 = 0 ∧ o = (1, Y)) ∨ (gI Y 55 ≠ 0 ∧ o.1 = 0 ∧ BKm Y o.2))) := by
    refine fr_ind (fun _ _ _ _ _ _ _ _ => pc_none) (fun n ih x S hx h1 h2 h3 h5 h6 => ?_)
    show pc (m_x12_tries_b34 (m_x12_tries_L34 n) 2 (v : Int) key val x S) _
    unfold m_x12_tries_b34 m_x12_tries_J81 m_x12_tries_J82 m_x12_tries_J121
    refine pc_rg (pc_if (fun c => pc_rg (pc_if (fun c2 => absurd c2 (by decide)) (fun _ => pc_bo (pc_stn (fun X eX => pc_rg (pc_if (fun _ => pc_rg (pc_if (fun _ => pc_bn (fun Y eY => ?_)) (fun c4 => absurd rfl c4))) (fun c3 => absurd (q_II eX) c3))))))) (fun c => pc_rdI (fun _ => pc_inb (pc_bo2 (fun b01 => pc_stn (fun s63 e63 => ih (x + 1) s63 (by omega) (fun k k1 k2 => (q_Aa e63 k2).trans (h1 k k1 k2)) (fun i hi => by rw [(q_Aa e63 (by decide) : gA s63 59 = gA S 59)]; exact h2 i hi) (fun i hi => ?_) (fun i => (q_Ai e63).trans (h5 i)) (fun hr => e63 ▸ Rr.uAu (h6 hr) (by show (0 : Int) ≤ gA S 54 x.toNat ∧ gA S 54 x.toNat ≤ 1; omega))))))))
    · have SX : SVm t X := ⟨fun k k1 k2 => (q_Ia eX).trans (h1 k k1 k2), fun i hi => by rw [(q_Ia eX : gA X 59 = gA S 59)]; exact h2 i hi, fun i hi => by rw [(q_Ia eX : gA X 60 = gA S 60)]; exact h3 i (by omega), fun i hi => (q_Ii eX hi).trans (h5 i), q_II eX, fun hr => eX ▸ Rr.uI (h6 hr) (by show (0 : Int) ≤ 0 ∧ (0 : Int) ≤ 1; omega)⟩
      exact pc_rg (pc_if (fun c5 => pc_some ⟨X, Y, SX, eY, Or.inl ⟨c5, rfl⟩⟩) (fun c5 => pc_mono m_back (fun o ho => ⟨X, Y, SX, eY, Or.inr ⟨c5, ho.1, ho.2⟩⟩)))
    · rw [(q_AA e63 : gA s63 60 = _)]
      by_cases z : i = x.toNat
      · rw [z, upZ_s, h1 54 (by decide) (by decide)]
      · rw [upZ_n z]; exact h3 i (by omega)
  have L3 : ∀ (n : Nat) (x : Int) (S : MS), (0 ≤ x ∧ x ≤ 785) → (∀ k, k ≠ 59 → gA S k = gA t k) → (∀ i : Nat, (i : Int) < x → gA S 59 i = gA t 49 i) → (∀ i, gI S i = gI t i) → (Rr t → Rr S) → pc (m_x12_tries_L3 n 2 (v : Int) key val x S) (fun o => ∃ X Y, SVm t X ∧ m_x12_puts (v : Int) key val X = some Y ∧ ((gI Y 55 = 0 ∧ o = (1, Y)) ∨ (gI Y 55 ≠ 0 ∧ o.1 = 0 ∧ BKm Y o.2))) := by
    refine fr_ind (fun _ _ _ _ _ _ _ => pc_none) (fun n ih x S hx h1 h2 h5 h6 => ?_)
    show pc (m_x12_tries_b3 (m_x12_tries_L3 n) 2 (v : Int) key val x S) _
    unfold m_x12_tries_b3
    refine pc_rg (pc_if (fun c => L34 FU 0 S (by omega) (fun k k1 _ => h1 k k1) (fun i hi => h2 i (by omega)) (fun i hi => absurd hi (by omega)) h5 h6) (fun c => pc_rdI (fun _ => pc_inb (pc_stn (fun s74 e74 => ih (x + 1) s74 (by omega) (fun k hk => (q_Aa e74 hk).trans (h1 k hk)) (fun i hi => ?_) (fun i => (q_Ai e74).trans (h5 i)) (fun hr => e74 ▸ Rr.uAu (h6 hr) (by show R2 (gA S 49 x.toNat); exact R49 (h6 hr) (by omega))))))))
    rw [(q_AA e74 : gA s74 59 = _)]
    by_cases z : i = x.toNat
    · rw [z, upZ_s, h1 49 (by decide)]
    · rw [upZ_n z]; exact h2 i (by omega)
  unfold m_x12_tries
  exact L3 FU 0 t (by omega) (fun _ _ => rfl) (fun i hi => absurd hi (by omega)) (fun _ => rfl) id
/- alike below 785 -/
set_option maxHeartbeats 250000 in theorem OI_785 {t o : MS} {lo hi : Nat → Int} (H : OI t lo hi) (e : ∀ i, i < 785 → gA o 49 i = gA t 49 i) : OI o lo hi := by
  refine OI_same H (fun x hx hl => ⟨?_, Or.inl ⟨e (19 + 16 * x) (by omega), e (20 + 16 * x) (by omega), fun k => ?_⟩⟩)
  · have c1 : cM o x = cM t x := e (17 + 16 * x) (by omega)
    have c2 : vM o x = vM t x := e (18 + 16 * x) (by omega)
    unfold LV at hl ⊢
    rw [← c1, ← c2]; exact hl
  · show (if k < 6 then gA o 49 (27 + 16 * x + k) else 0) = (if k < 6 then gA t 49 (27 + 16 * x + k) else 0) ∧ (if k < 6 then gA o 49 (21 + 16 * x + k) else 0) = if k < 6 then gA t 49 (21 + 16 * x + k) else 0
    by_cases z : k < 6
    · rw [if_pos z, if_pos z, if_pos z, if_pos z, e _ (by omega), e _ (by omega)]
      exact ⟨rfl, rfl⟩
    · rw [if_neg z, if_neg z, if_neg z, if_neg z]
      exact ⟨rfl, rfl⟩
set_option maxHeartbeats 250000 in theorem BC_v3 {s o : MS} (hR : Rg s) (e : m_x8_become_v3 s = some o) : Rg o ∧ BC s o 54 72 1060 1420 := by
  obtain ⟨r, h1, h2, h3, h4, h5⟩ := wp_det (w_x8_become_v3 hR) e
  exact ⟨r, h1, h2, h3, h4, h5⟩
set_option maxHeartbeats 250000 in theorem BC_v4 {s o : MS} (hR : Rg s) (hp : gI s 1421 ≤ 999999) (e : m_x8_become_v4 s = some o) : Rg o ∧ BC s o 72 54 1420 1060 := by
  obtain ⟨r, h1, h2, h3, h4, h5⟩ := wp_det (w_x8_become_v4 hR hp) e
  exact ⟨r, h1, h2, h3, h4, h5⟩
/- a try that failed: both sides are as before -/
set_option maxHeartbeats 250000 in theorem sim_back {π σ : Nat → Nat} {s s5 q8 s12 t X Y o : MS} (h : SIM π σ s t) (hK : KLV t) (b3 : BC s s5 54 72 1060 1420) (l3 : gL s5 1422 = gL s 1062) (kA : ∀ k, 72 ≤ k → k ≤ 79 → gA q8 k = gA s5 k) (kI : ∀ k, k = 1420 ∨ k = 1421 → gI q8 k = gI s5 k) (kL : gL q8 1422 = gL s5 1422) (b4 : BC q8 s12 72 54 1420 1060) (l4 : gL s12 1062 = gL q8 1422) (SX : SVm t X) (Y59 : gA Y 59 = gA X 59) (Y60 : gA Y 60 = gA X 60) (Y39 : gA Y 39 = gA X 39) (B : BKm Y o) : SIM π σ s12 o ∧ ∀ i, i < 785 → gA o 49 i = gA t 49 i := by
  have e49 : ∀ i, i < 785 → gA o 49 i = gA t 49 i := fun i hi => by rw [B.2.1 i hi, Y59, SX.2.1 i hi]
  have zz : ∀ x, x < 48 → 0 < cR (gA t 49) x ∨ 0 < vR (gA t 49) x → (hR (gA t 49)).2.1 x ≤ 6 := fun x hx l => (hK.2.1 x hx l).1.1.2.1.2
  have T1 : TRf π σ (gI s 1060) s5 72 (gA t 49) := TRf_c h.1 b3 zz
  have T2 : TRf π σ (gI s 1060) q8 72 (gA t 49) := by
    obtain ⟨p, c, l, r⟩ := T1
    have e1 : hB q8 72 = hB s5 72 := by
      unfold hB
      rw [kA (72 + 2) (by decide) (by decide), kA (72 + 3) (by decide) (by decide), kA (72 + 5) (by decide) (by decide)]
    have e2 : kB q8 72 = kB s5 72 := by
      unfold kB
      rw [kA (72 + 4) (by decide) (by decide)]
    refine ⟨p, fun x hx => ?_, fun x hx q => ?_, fun v hv => ?_⟩
    · rw [kA 72 (by decide) (by decide), kA (72 + 1) (by decide) (by decide)]; exact c x hx
    · rw [e1, e2]; exact l x hx q
    · rw [kA (72 + 6) (by decide) (by decide), kA (72 + 7) (by decide) (by decide)]; exact r v hv
  have T3 : TRf π σ (gI s 1060) s12 54 (gA t 49) := TRf_c T2 b4 zz
  have n12 : gI s12 1060 = gI s 1060 := by rw [b4.2.2.2.1, kI 1420 (Or.inl rfl), b3.2.2.2.1]
  refine ⟨⟨by rw [n12]; exact TRf_r T3 e49, ?_, fun x hx q => ?_⟩, e49⟩
  · rw [n12, B.1 39 (by decide) (by decide), Y39, SX.1 39 (by decide) (by decide)]; exact h.2.1
  · have q' : 0 < cM t x := by
      have e : cM o x = cM t x := e49 (17 + 16 * x) (by omega)
      rw [← e]; exact q
    rw [l4, kL, l3, B.2.2.2.1 (x) hx, Y60, SX.2.2.1 x hx]
    exact h.2.2 x hx q'
def TRY (q o : Int × MS) : Prop := q.1 = o.1 ∧ gI o.2 55 = 0 ∧ ∃ π σ lo hi, SIM π σ q.2 o.2 ∧ ZP q.2 o.2 ∧ OI o.2 lo hi
set_option maxHeartbeats 250000 in theorem y_tryPlant {π σ : Nat → Nat} {s t : MS} {lo hj : Nat → Int} {v : Nat} {key val : Int} (h : SIM π σ s t) (hZ : ZP s t) (hR : Rg s) (hRt : Rr t) (S0 : TS s Z0 (-1)) (H : RT t) (hC0 : CE t 0) (hC1 : CE t 1) (hN0 : 0 ≤ gA t 39 5) (hE : 3 ≤ gA t 39 6 ∧ gA t 39 6 ≤ 6) (h581 : 3 ≤ gI s 581) (hsp : gI s 1061 ≤ 999999) (hv : v < 8) (hrt : (0 ≤ gA t 49 v ∧ gA t 49 v < 254) ∨ gA t 49 v = 254) (hO : OI t lo hj) (hkey : 0 ≤ key ∧ key ≤ 999) (hval : 0 ≤ val ∧ val ≤ 999) : pc (m_x1_tryPlant (v : Int) key val s) (fun q => pc (m_x12_tries 2 (v : Int) key val t) (fun o => TRY q o)) := by
  have hK : KLV t := KLV_of H.1 (fun _ _ => Int.le_refl 0)
  unfold m_x1_tryPlant m_x1_tryPlant_J36
  refine pc_bn (fun s5 e5 => pc_bn (fun q8 e8 => ?_))
  obtain ⟨R5, b3⟩ := BC_v3 hR e5
  have l3 := s_v3 s5 e5
  have F5 : F_x8_become_v3 s s5 := fr_x8_become_v3 e5
  have F8 : F_x1_plant s5 q8.2 := fr_x1_plant e8
  have T5 : TS s5 Z0 (-1) := TS_eq S0 (F5.2.1 54 (by decide)) (F5.2.1 55 (by decide)) (F5.2.1 56 (by decide)) (F5.2.1 57 (by decide)) (F5.2.1 58 (by decide)) (F5.2.1 59 (by decide)) (F5.2.1 60 (by decide)) (F5.2.1 61 (by decide)) (F5.1 1060 (by decide)) (F5.1 581 (by decide))
  have JO : ∀ X, SVm t X → pc (m_x12_puts (v : Int) key val X) (fun Y => CON q8 Y) := fun X SX => by
    have x49 : gA X 49 = gA t 49 := SX.1 49 (by decide) (by decide)
    have x39 : gA X 39 = gA t 39 := SX.1 39 (by decide) (by decide)
    have HX : SIM π σ s5 X := SIM_k h (fun k k1 k2 => F5.2.1 k (by simp; omega)) (F5.1 1060 (by decide)) (F5.2.2.1 1062 (by decide)) x49 (by rw [x39]) (SX.1 54 (by decide) (by decide))
    have ZX : ZP s5 X := ZP_k hZ (F5.1 581 (by decide)) (F5.1 741 (by decide)) (fun k k1 k2 => F5.2.1 k (by simp; omega)) (fun k hk => SX.1 k (by omega) (by omega))
    exact y_plant HX ZX R5 (SX.2.2.2.2.2 hRt) T5 (RT_x H (fun k _ => by rw [x49]) (by rw [x39]) (by rw [x39])) (CE_eq hC0 (SX.1 42 (by decide) (by decide)) (SX.1 43 (by decide) (by decide)) (SX.1 44 (by decide) (by decide))) (CE_eq hC1 (SX.1 42 (by decide) (by decide)) (SX.1 43 (by decide) (by decide)) (SX.1 44 (by decide) (by decide))) (by rw [x39]; exact hN0) (by rw [x39]; exact hE) (by rw [F5.1 581 (by decide)]; exact h581) SX.2.2.2.2.1 hv (by rw [x49]; exact hrt) (OI_49 hO x49) hkey hval q8 e8
  refine pc_rg (pc_if (fun c => pc_bn (fun s12 e12 => pc_bo (pc_some ?_))) (fun c => pc_bo (pc_some ?_)))
  · refine pc_mono m_tries2 (fun o ho => ?_)
    obtain ⟨X, Y, SX, eY, hY⟩ := ho
    rcases JO X SX Y eY with ⟨_, y55⟩ | ⟨z, _⟩
    · rcases hY with ⟨z, _⟩ | ⟨_, o1, B⟩
      · omega
      have FY : F_x12_puts X Y := fr_x12_puts eY
      have R8 : Rg q8.2 := (wp_det (ts_plant R5 T5 (by rw [F5.1 581 (by decide)]; exact h581) (p0 := (v : Int)) ⟨by omega, by omega⟩ (by
        rw [Int.toNat_natCast, F5.2.1 60 (by decide)]
        have q := rtr_e (h.1.2.2.2 v hv).1
        intro w
        have := q.1.1 w
        omega) hkey hval) e8).1
      have i1421 : gI q8.2 1421 = gI s 1061 := by rw [F8.1 1421 (by decide)]; exact b3.2.2.2.2
      obtain ⟨R12, b4⟩ := BC_v4 R8 (by rw [i1421]; exact hsp) e12
      have F12 : F_x8_become_v4 q8.2 s12 := fr_x8_become_v4 e12
      have K := sim_back h hK b3 l3 (fun k k1 k2 => F8.2.1 k (by simp; omega)) (fun k hk => F8.1 k (by simp; omega)) (F8.2.2.1 1422 (by decide)) b4 (s_v4 s12 e12) SX (FY.2.1 59 (by decide)) (FY.2.1 60 (by decide)) (FY.2.1 39 (by decide)) B
      refine ⟨c.trans o1.symm, B.2.2.2.2.2, π, σ, lo, hj, K.1, ZP_k hZ ?_ ?_ (fun k k1 k2 => ?_) (fun k hk => ?_), OI_785 hO K.2⟩
      · rw [F12.1 581 (by decide), F8.1 581 (by decide), F5.1 581 (by decide)]
      · rw [F12.1 741 (by decide), F8.1 741 (by decide), F5.1 741 (by decide)]
      · rw [F12.2.1 k (by simp; omega), F8.2.1 k (by simp; omega), F5.2.1 k (by simp; omega)]
      · rw [B.1 k (by omega) (by omega), FY.2.1 k (by simp; omega), SX.1 k (by omega) (by omega)]
    · omega
  · refine pc_mono m_tries2 (fun o ho => ?_)
    obtain ⟨X, Y, SX, eY, hY⟩ := ho
    rcases JO X SX Y eY with ⟨z, _⟩ | ⟨z, y55, π', σ', lo', hi', G1, G2, G3⟩
    · exact absurd z c
    · rcases hY with ⟨_, rfl⟩ | ⟨w, _⟩
      · exact ⟨z, y55, π', σ', lo', hi', G1, G2, G3⟩
      · exact absurd y55 w
/-! ===== a volume is copied on both sides ===== -/
/- one count more on both sides -/
set_option maxHeartbeats 250000 in theorem sim_inc {π σ : Nat → Nat} {s s' t t' : MS} {y : Nat} (h : SIM π σ s t) (hy : y < 48) (hc : 0 < cM t y) (a : ∀ k, 55 ≤ k → k ≤ 61 → gA s' k = gA s k) (a54 : gA s' 54 = upZ (gA s 54) (π y) (gA s 54 (π y) + 1)) (a2 : gI s' 1060 = gI s 1060) (a3 : gL s' 1062 = gL s 1062) (b : gA t' 49 = upZ (gA t 49) (17 + 16 * y) (gA t 49 (17 + 16 * y) + 1)) (b2 : gA t' 39 5 = gA t 39 5) (b3 : gA t' 54 = gA t 54) : SIM π σ s' t' := by
  obtain ⟨⟨p, c, l, r⟩, n, w⟩ := h
  have e1 : hB s' 54 = hB s 54 := by
    unfold hB
    rw [a (54 + 2) (by decide) (by decide), a (54 + 3) (by decide) (by decide), a (54 + 5) (by decide) (by decide)]
  have e2 : kB s' 54 = kB s 54 := by
    unfold kB
    rw [a (54 + 4) (by decide) (by decide)]
  have ne : ∀ i, i ≠ 17 + 16 * y → gA t' 49 i = gA t 49 i := fun i hi => by rw [b, upZ_n hi]
  have vE : ∀ x, vM t' x = vM t x := fun x => ne (18 + 16 * x) (by omega)
  have cE : ∀ x, x ≠ y → cM t' x = cM t x := fun x hx => ne (17 + 16 * x) (by omega)
  have cy : cM t' y = cM t y + 1 := by
    show gA t' 49 (17 + 16 * y) = gA t 49 (17 + 16 * y) + 1
    rw [b, upZ_s]
  have hE : ∀ x, (hM t').1 x = (hM t).1 x ∧ (hM t').2.1 x = (hM t).2.1 x ∧ ∀ k, (hM t').2.2 x k = (hM t).2.2 x k ∧ kM t' x k = kM t x k := fun x => by
    refine ⟨ne (19 + 16 * x) (by omega), ne (20 + 16 * x) (by omega), fun k => ?_⟩
    show (if k < 6 then gA t' 49 (27 + 16 * x + k) else 0) = (if k < 6 then gA t 49 (27 + 16 * x + k) else 0) ∧ (if k < 6 then gA t' 49 (21 + 16 * x + k) else 0) = if k < 6 then gA t 49 (21 + 16 * x + k) else 0
    by_cases z : k < 6
    · rw [if_pos z, if_pos z, if_pos z, if_pos z, ne _ (by omega), ne _ (by omega)]
      exact ⟨rfl, rfl⟩
    · rw [if_neg z, if_neg z, if_neg z, if_neg z]
      exact ⟨rfl, rfl⟩
  have lv : ∀ x, (0 < cM t' x ∨ 0 < vM t' x) → 0 < cM t x ∨ 0 < vM t x := fun x q => by
    by_cases e : x = y
    · rw [e]; exact Or.inl hc
    · rw [cE x e, vE x] at q; exact q
  refine ⟨⟨by rw [a2]; exact p, fun x hx => ?_, fun x hx q => ?_, fun v hv => ?_⟩, by rw [a2, b2]; exact n, fun x hx q => ?_⟩
  · have cc := c x hx
    show gA s' 54 (π x) = cM t' x ∧ gA s' 55 (π x) = vM t' x
    rw [a54, a 55 (by decide) (by decide), vE]
    refine ⟨?_, cc.2⟩
    by_cases e : x = y
    · rw [e, upZ_s, cy]
      rw [e] at cc
      have q : gA s 54 (π y) = cM t y := cc.1
      rw [q]
    · rw [upZ_n (fun w => e (PB_i p hx hy w)), cE x e]; exact cc.1
  · have B := l x hx (lv x q)
    show BR1 π (hB s' 54) (hM t') (kB s' 54) (kM t') x
    rw [e1, e2]
    obtain ⟨B1, B2, B3⟩ := B
    have g := hE x
    refine ⟨B1.trans g.1.symm, B2.trans g.2.1.symm, fun k hk => ?_⟩
    rw [g.2.1] at hk
    rw [g.1, (g.2.2 k).1, (g.2.2 k).2]
    exact B3 k hk
  · show rtr π (gA s' 60 v) (gA t' 49 v) ∧ rtr π (gA s' 61 v) (gA t' 49 (8 + v))
    rw [a 60 (by decide) (by decide), a 61 (by decide) (by decide), ne v (by omega), ne (8 + v) (by omega)]
    exact r v hv
  · rw [a3, b3]
    refine w x hx ?_
    by_cases e : x = y
    · rw [e]; exact hc
    · rw [← cE x e]; exact q
set_option maxHeartbeats 250000 in theorem y_share {π σ : Nat → Nat} {s t : MS} {u v : Nat} (h : SIM π σ s t) (hu : u < 8) (hv : v < 8) (hl : 0 ≤ gA t 49 u → gA t 49 u < 254 → gA t 49 u < 48 ∧ 0 < cM t (gA t 49 u).toNat) (h5 : gA t 49 u ≠ 255) : pc (m_x1_share (u : Int) (v : Int) s) (fun s' => pc (m_x12_copies (u : Int) (v : Int) t) (fun t' => SIM π σ s' t')) := by
  have tu : ((u : Nat) : Int).toNat = u := Int.toNat_natCast _
  have tv : ((v : Nat) : Int).toNat = v := Int.toNat_natCast _
  have R := (h.1.2.2.2 u hu).1
  have re := rtr_e R
  unfold m_x1_share m_x1_share_J52
  refine pc_rdI (fun _ => pc_inb (pc_stn (fun s4 e4 => pc_rdI (fun _ => ?_))))
  rw [tu, tv] at e4
  have k60 : gA s4 60 = upZ (gA s 60) v (gA s 60 u) := q_AA e4
  have ru : gA s4 60 u = gA s 60 u := by
    rw [k60]
    by_cases z : u = v
    · rw [z, upZ_s]
    · rw [upZ_n z]
  rw [tu, ru]
  have A4 : ∀ k, k ≠ 60 → gA s4 k = gA s k := fun k hk => q_Aa e4 hk
  -- the reference up to its root
  have REF : ∀ Q : MS → Prop, (∀ T4 : MS, sA t 49 (upZ (gA t 49) v (gA t 49 u)) = T4 → (gA t 49 u = 254 → Q T4) ∧ (gA t 49 u ≠ 254 → ∀ T10 : MS, m_x12_counts (gA t 49 u) 1 T4 = some T10 → Q T10)) → pc (m_x12_copies (u : Int) (v : Int) t) Q := fun Q K => by
    unfold m_x12_copies m_x12_copies_J35
    refine pc_rdI (fun _ => pc_inb (pc_stn (fun T4 f4 => pc_rdI (fun _ => ?_))))
    rw [tu, tv] at f4
    have u4 : gA T4 49 v = gA t 49 u := by rw [(q_AA f4 : gA T4 49 = _), upZ_s]
    rw [tv, u4]
    refine pc_rg (pc_if (fun c => pc_some ((K T4 f4).1 c)) (fun c => pc_rdI (fun _ => ?_)))
    rw [tv, u4]
    exact pc_bn (fun T10 f10 => pc_some ((K T4 f4).2 c T10 f10))
  have ROOT : ∀ T4 : MS, sA t 49 (upZ (gA t 49) v (gA t 49 u)) = T4 → SIM π σ s4 T4 := fun T4 f4 => sim_root h hv (fun k _ _ k3 => A4 k k3) k60 (q_Ai e4) (q_Al e4) (q_AA f4) (by rw [q_Aa f4 (by decide)]) (q_Aa f4 (by decide)) R
  refine pc_rg (pc_if (fun c => pc_some (REF _ (fun T4 f4 => ⟨fun _ => ROOT T4 f4, fun w => absurd (re.2.1.1 c) w⟩))) (fun c => pc_rdI (fun _ => ?_)))
  rw [tu, ru]
  rcases R with ⟨a, b⟩ | ⟨a, _⟩ | ⟨a, a', b⟩
  · exact absurd b c
  · exact absurd a h5
  obtain ⟨y, hy⟩ : ∃ y, y = (gA t 49 u).toNat := ⟨_, rfl⟩
  rw [← hy] at b
  have yv : gA t 49 u = (y : Int) := by omega
  have L := hl a (by omega)
  rw [← hy] at L
  have y48 : y < 48 := by omega
  have tpy : ((π y : Nat) : Int).toNat = π y := Int.toNat_natCast _
  rw [b]
  refine pc_rdI (fun _ => pc_inb (pc_stn (fun s11 e11 => pc_some (REF _ (fun T4 f4 => ⟨fun w => by omega, fun _ T10 f10 => ?_⟩)))))
  try rw [tpy] at e11
  obtain ⟨_, u1, u2, u3⟩ := m_cntT T10 f10
  rw [yv, show (17 + 16 * (y : Int)).toNat = 17 + 16 * y by omega] at u1
  have c4 : cM T4 y = cM t y := by
    show gA T4 49 (17 + 16 * y) = gA t 49 (17 + 16 * y)
    rw [(q_AA f4 : gA T4 49 = _), upZ_n (by omega)]
  have a54 : gA s11 54 = upZ (gA s4 54) (π y) (gA s4 54 (π y) + 1) := by
    have q : gA s11 54 = _ := q_AA e11
    try rw [tpy] at q
    exact q
  exact sim_inc (ROOT T4 f4) y48 (by rw [c4]; exact L.2) (fun k k1 k2 => q_Aa e11 (by omega)) a54 (q_Ai e11) (q_Al e11) u1 (by rw [u2 39 (by decide)]) (u2 54 (by decide))
/-! ===== a volume is dropped on both sides ===== -/
set_option maxHeartbeats 250000 in theorem s_drop {v : Nat} {s : MS} : pc (m_x1_letGo (v : Int) s) (fun o => (∀ b, gA o 54 b ≤ gA s 54 b) ∧ (∀ k, k ≠ 54 → k ≠ 50 → k ≠ 60 → gA o k = gA s k) ∧ (∀ k, gI o k = gI s k) ∧ (∀ k, gL o k = gL s k) ∧ gA o 60 = upZ (gA s 60) v (-2)) := by
  have tv : ((v : Nat) : Int).toNat = v := Int.toNat_natCast _
  have J : ∀ S : MS, DCs s S → pc (m_x1_letGo_J34 (v : Int) S) (fun o => (∀ b, gA o 54 b ≤ gA s 54 b) ∧ (∀ k, k ≠ 54 → k ≠ 50 → k ≠ 60 → gA o k = gA s k) ∧ (∀ k, gI o k = gI s k) ∧ (∀ k, gL o k = gL s k) ∧ gA o 60 = upZ (gA s 60) v (-2)) := fun S H => by
    unfold m_x1_letGo_J34
    refine pc_inb (pc_stn (fun s4 e4 => pc_some ?_))
    try rw [tv] at e4
    exact ⟨fun b => by rw [(q_Aa e4 (by decide) : gA s4 54 = gA S 54)]; exact H.1 b, fun k k1 k2 k3 => (q_Aa e4 k3).trans (H.2.1 k k1 k2), fun k => (q_Ai e4).trans (H.2.2.1 k), fun k => (q_Al e4).trans (H.2.2.2 k), by rw [(q_AA e4 : gA s4 60 = _), H.2.1 60 (by decide) (by decide)]⟩
  unfold m_x1_letGo
  exact pc_rdI (fun _ => pc_rg (pc_if (fun _ => J s ⟨fun _ => Int.le_refl _, fun _ _ _ => rfl, fun _ => rfl, fun _ => rfl⟩) (fun _ => pc_rdI (fun _ => pc_bq s_rel (fun q11 h11 => J q11.2 h11)))))
set_option maxHeartbeats 250000 in theorem m_drop {v : Nat} {t : MS} (hv : v < 8) : pc (m_x12_drops (v : Int) t) (fun o => (∀ x, cM o x ≤ cM t x) ∧ (∀ i, 17 < i → i % 16 ≠ 1 → gA o 49 i = gA t 49 i) ∧ (∀ k, k ≠ 49 → k ≠ 56 → gA o k = gA t k) ∧ gA o 49 v = 255) := by
  have tv : ((v : Nat) : Int).toNat = v := Int.toNat_natCast _
  have J : ∀ T : MS, DCm t T → pc (m_x12_drops_J22 (v : Int) T) (fun o => (∀ x, cM o x ≤ cM t x) ∧ (∀ i, 17 < i → i % 16 ≠ 1 → gA o 49 i = gA t 49 i) ∧ (∀ k, k ≠ 49 → k ≠ 56 → gA o k = gA t k) ∧ gA o 49 v = 255) := fun T H => by
    unfold m_x12_drops_J22
    refine pc_inb (pc_stn (fun s4 e4 => pc_some ?_))
    try rw [tv] at e4
    have u : gA s4 49 = upZ (gA T 49) v 255 := q_AA e4
    refine ⟨fun x => ?_, fun i h1 h2 => ?_, fun k k1 k2 => (q_Aa e4 k1).trans (H.2.2.1 k k1 k2), by rw [u, upZ_s]⟩
    · show gA s4 49 (17 + 16 * x) ≤ gA t 49 (17 + 16 * x)
      rw [u, upZ_n (by omega)]; exact H.1 _
    · rw [u, upZ_n (by omega)]; exact H.2.1 i h2
  unfold m_x12_drops
  exact pc_rdI (fun _ => pc_rg (pc_if (fun _ => J t ⟨fun _ => Int.le_refl _, fun _ _ => rfl, fun _ _ _ => rfl, fun _ => rfl⟩) (fun _ => pc_rdI (fun _ => pc_bq m_falls (fun s10 h10 => J s10 h10)))))
set_option maxHeartbeats 250000 in theorem hM_785 {t o : MS} (h : ∀ i, 17 < i → i % 16 ≠ 1 → gA o 49 i = gA t 49 i) : hM o = hM t ∧ kM o = kM t ∧ vM o = vM t := by
  refine ⟨?_, ?_, ?_⟩
  · show ((fun p => gA o 49 (19 + 16 * p), fun p => gA o 49 (20 + 16 * p), fun p k => if k < 6 then gA o 49 (27 + 16 * p + k) else 0) : SH) = (fun p => gA t 49 (19 + 16 * p), fun p => gA t 49 (20 + 16 * p), fun p k => if k < 6 then gA t 49 (27 + 16 * p + k) else 0)
    have f1 : (fun p : Nat => gA o 49 (19 + 16 * p)) = fun p => gA t 49 (19 + 16 * p) := by
      funext p; exact h _ (by omega) (by omega)
    have f2 : (fun p : Nat => gA o 49 (20 + 16 * p)) = fun p => gA t 49 (20 + 16 * p) := by
      funext p; exact h _ (by omega) (by omega)
    have f3 : (fun p k : Nat => if k < 6 then gA o 49 (27 + 16 * p + k) else 0) = fun p k => if k < 6 then gA t 49 (27 + 16 * p + k) else 0 := by
      funext p k
      by_cases z : k < 6
      · rw [if_pos z, if_pos z]; exact h _ (by omega) (by omega)
      · rw [if_neg z, if_neg z]
    rw [f1, f2, f3]
  · funext p k
    show (if k < 6 then gA o 49 (21 + 16 * p + k) else 0) = if k < 6 then gA t 49 (21 + 16 * p + k) else 0
    by_cases z : k < 6
    · rw [if_pos z, if_pos z]; exact h _ (by omega) (by omega)
    · rw [if_neg z, if_neg z]
  · funext p
    exact h (18 + 16 * p) (by omega) (by omega)
set_option maxHeartbeats 250000 in theorem y_dropT {π σ : Nat → Nat} {s s' t t' : MS} {v : Nat} (h : SIM π σ s t) (hK : KLV t) (hv : v < 8) (e1 : m_x1_letGo (v : Int) s = some s') (e2 : m_x12_drops (v : Int) t = some t') (hr : ∀ u, u < 16 → u ≠ v → gA t' 49 u = gA t 49 u) (S : TS s' Z0 (-1)) (T : TM t' d0 (-1)) : SIM π σ s' t' := by
  obtain ⟨a1, a2, a3, a4, a5⟩ := s_drop s' e1
  obtain ⟨b1, b2, b3, b4⟩ := m_drop hv t' e2
  obtain ⟨m1, m2, m3⟩ := hM_785 b2
  refine sim_fin h hK (fun k k1 k2 k3 => a2 k (by omega) (by omega) k3) (a3 1060) (a4 1062) m1 m2 m3 (by rw [b3 39 (by decide) (by decide)]) (b3 54 (by decide) (by decide)) (fun u hu => hr (8 + u) (by omega) (by omega)) (fun u hu => ?_) (fun x hx w => ?_) (fun x hx w => Int.lt_of_lt_of_le w (b1 x)) S T
  · by_cases z : u = v
    · rw [z, a5, upZ_s, b4]
      exact Or.inr (Or.inl ⟨rfl, rfl⟩)
    · rw [a5, upZ_n z, hr u (by omega) z]
      exact (h.1.2.2.2 u hu).1
  · have q := a1 (π x)
    rw [(sim_c h hx).1] at q
    exact Or.inl (by omega)
/-! ===== to remove, on both sides: the way back up ===== -/
set_option maxHeartbeats 250000 in theorem TM_z {t : MS} {D : Nat → Int} {e : Int} (T : TM t D e) {x : Nat} (hx : x < 48) (hl : LV t x) : Nd (hM t) (gA t 39 5) x := by
  rcases hl with hc | hc
  · exact TG_nd T hx hc
  · exact TG_nd (TG_ss T) hx hc
/- keys rise in what is in use -/
set_option maxHeartbeats 250000 in theorem OI_SOk {t : MS} {lo hi D : Nat → Int} {e : Int} (H : OI t lo hi) (T : TM t D e) (hD : ∀ x, x < 48 → 0 ≤ D x) {x : Nat} (hx : x < 48) (hc : 0 < cM t x) : SO (kM t x) 1 ((hM t).2.1 x) := by
  have hN := T.1.1
  by_cases w : 0 < (hM t).1 x
  · refine SO_step (fun k k1 k2 => ?_)
    have c := (H x hx (Or.inl hc)).2.2 w k (by omega)
    have kid := TG_kid T hD hx hc w (k := k) (by omega)
    have y := (H _ (by omega) (Or.inl kid.2.2)).1
    have c1 := c.2.1 k1
    have c2 := c.2.2 k2
    omega
  · have q := ((H x hx (Or.inl hc)).2.1 (by omega)).1
    exact fun i j _ hij hj => q i j (Nat.zero_le _) hij hj
/- an entry goes -/
set_option maxHeartbeats 250000 in theorem OI_del {t o : MS} {lo hi : Nat → Int} {b k : Nat} (H : OI t lo hi) (hb : b < 48) (lb : LV t b) (hs : SO (kM t b) 1 ((hM t).2.1 b)) (hk : (k : Int) < (hM t).2.1 b) (I : DelE t o b k) : OI o lo hi := fun x hx hl => by
  obtain ⟨B, z, i1, i3⟩ := I
  have hl' : LV t x := by
    unfold LV at hl ⊢
    rw [← BX_c B, ← BX_v B]; exact hl
  by_cases e : x = b
  · rw [e]
    have c := H b hb lb
    refine ⟨c.1, fun w => ?_, fun w j hj => ?_⟩
    · rw [BX_l B] at w
      have c2 := c.2.1 w
      rw [z]
      refine ⟨SO_step (fun j _ hj => ?_), fun j hj => ?_⟩
      · by_cases g : j + 1 < k
        · rw [(i1 j (by omega)).2, (i1 (j + 1) g).2]
          exact c2.1 j (j + 1) (Nat.zero_le _) (by omega) (by omega)
        · by_cases g2 : j < k
          · rw [(i1 j g2).2, (i3 (j + 1) (by omega) (by omega)).2]
            exact c2.1 j (j + 1 + 1) (Nat.zero_le _) (by omega) (by omega)
          · rw [(i3 j (by omega) (by omega)).2, (i3 (j + 1) (by omega) (by omega)).2]
            exact c2.1 (j + 1) (j + 1 + 1) (Nat.zero_le _) (by omega) (by omega)
      · by_cases g : j < k
        · rw [(i1 j g).2, (i1 j g).1]; exact c2.2 j (by omega)
        · rw [(i3 j (by omega) (by omega)).2, (i3 j (by omega) (by omega)).1]; exact c2.2 (j + 1) (by omega)
    · rw [BX_l B] at w
      rw [z] at hj ⊢
      have c2 := c.2.2 w
      by_cases g : j + 1 < k
      · rw [(i1 j (by omega)).1, (i1 j (by omega)).2, (i1 (j + 1) g).2]
        have q := c2 j (by omega)
        exact ⟨q.1, q.2.1, fun _ => q.2.2 (by omega)⟩
      · by_cases g2 : j < k
        · rw [(i1 j g2).1, (i1 j g2).2]
          have q := c2 j (by omega)
          refine ⟨q.1, q.2.1, fun u => ?_⟩
          rw [(i3 (j + 1) (by omega) (by omega)).2]
          have q2 := q.2.2 (by omega)
          have r := hs (j + 1) (j + 1 + 1) (by omega) (by omega) (by omega)
          omega
        · rw [(i3 j (by omega) (by omega)).1, (i3 j (by omega) (by omega)).2]
          have q := c2 (j + 1) (by omega)
          refine ⟨q.1, fun _ => q.2.1 (by omega), fun u => ?_⟩
          rw [(i3 (j + 1) (by omega) (by omega)).2]
          exact q.2.2 (by omega)
  · exact OBk_r (H x hx hl') (ROW_bx B e) ⟨Int.le_refl _, Int.le_refl _⟩ (fun _ _ _ => ⟨Int.le_refl _, Int.le_refl _⟩)
/- rows stay, who stands stood -/
set_option maxHeartbeats 250000 in theorem OI_h {t o : MS} {lo hi : Nat → Int} (H : OI t lo hi) (e1 : hM o = hM t) (e2 : kM o = kM t) (l : ∀ x, x < 48 → LV o x → LV t x) : OI o lo hi := OI_same H (fun x hx hl => ⟨l x hx hl, Or.inl ⟨by rw [e1], by rw [e1], fun k => by rw [e1, e2]; exact ⟨rfl, rfl⟩⟩⟩)
/- a count falls to none on both sides -/
set_option maxHeartbeats 250000 in theorem sim_kill {π σ : Nat → Nat} {s s' t t' : MS} {b : Nat} (h : SIM π σ s t) (hb : b < 48) (a : ∀ k, 55 ≤ k → k ≤ 61 → gA s' k = gA s k) (a54 : gA s' 54 = upZ (gA s 54) (π b) 0) (a2 : gI s' 1060 = gI s 1060) (a3 : gL s' 1062 = gL s 1062) (X : CX t t') (c : cM t' = upZ (cM t) b 0) (b2 : gA t' 39 5 = gA t 39 5) (b3 : gA t' 54 = gA t 54) : SIM π σ s' t' := by
  have hP := h.1.1
  have nb : hN s' = hN s := by
    unfold hN
    rw [a 56 (by decide) (by decide), a 57 (by decide) (by decide), a 59 (by decide) (by decide)]
  have kb : kN s' = kN s := by
    unfold kN
    rw [a 58 (by decide) (by decide)]
  refine ⟨⟨by rw [a2]; exact hP, fun x hx => ?_, fun x hx q => ?_, fun v hv => ?_⟩, by rw [a2, b2]; exact h.2.1, fun x hx q => ?_⟩
  · show gA s' 54 (π x) = cM t' x ∧ gA s' 55 (π x) = vM t' x
    rw [a54, a 55 (by decide) (by decide), c, CX_v X]
    refine ⟨?_, (sim_c h hx).2⟩
    by_cases z : x = b
    · rw [z, upZ_s, upZ_s]
    · rw [upZ_n z, upZ_n (fun w => z (PB_i hP hx hb w))]
      exact (sim_c h hx).1
  · show BR1 π (hN s') (hM t') (kN s') (kM t') x
    rw [nb, kb, CX_h X, CX_k X]
    have q' : 0 < cM t' x ∨ 0 < vM t' x := q
    rw [c, CX_v X] at q'
    refine sim_b h hx ?_
    rcases q' with w | w
    · by_cases z : x = b
      · rw [z, upZ_s] at w; exact absurd w (by decide)
      · rw [upZ_n z] at w; exact Or.inl w
    · exact Or.inr w
  · show rtr π (gA s' 60 v) (gA t' 49 v) ∧ rtr π (gA s' 61 v) (gA t' 49 (8 + v))
    rw [a 60 (by decide) (by decide), a 61 (by decide) (by decide), CX_u X (show v < 17 by omega), CX_u X (show 8 + v < 17 by omega)]
    exact h.1.2.2.2 v hv
  · have q' : 0 < cM t' x := q
    rw [c] at q'
    rw [a3, b3]
    have z : x ≠ b := fun z => by rw [z, upZ_s] at q'; omega
    rw [upZ_n z] at q'
    exact h.2.2 x hx q'
/- an empty BLOCK goes, and the entry to it: the reference's trees -/
set_option maxHeartbeats 250000 in theorem r_prune {S s25 s29 : MS} {v b i : Nat} {M : Nat → Nat → Int} {L : Int} (hv : v < 8) (hRS : Rr S) (TS : TM S d0 (b : Int)) (PS : PM S v M d0 (b : Int)) (hO : OB_r S v M (b : Int) (L - (i : Int))) (hY : WY S v M L (b : Int) (i : Int)) (hz : (hM S).2.1 b = 0) (hi : 0 < i) (e25 : m_x12_counts (b : Int) (-1) S = some s25) (e29 : m_x12_cutsEntry (gA s25 57 (i - 1)) (gA s25 58 (i - 1)) s25 = some s29) : ((Rr s25 ∧ F_x12_counts S s25) ∧ CX S s25 ∧ cM s25 = upZ (cM S) b 0) ∧ (Rr s29 ∧ F_x12_cutsEntry s25 s29 ∧ DelE s25 s29 (gA S 57 (i - 1)).toNat (gA S 58 (i - 1)).toNat) ∧ ∃ M', TM s29 d0 (gA S 57 (i - 1)) ∧ PM s29 v M' d0 (gA S 57 (i - 1)) ∧ OB_r s29 v M' (gA S 57 (i - 1)) (L - ((i - 1 : Nat) : Int)) ∧ WY s29 v M' L (gA S 57 (i - 1)) ((i - 1 : Nat) : Int) := by
  have tb : ((b : Nat) : Int).toNat = b := Int.toNat_natCast _
  obtain ⟨⟨hb, bc, bv⟩, bl, bm, bmu⟩ := hO
  try rw [tb] at bc
  try rw [tb] at bv
  try rw [tb] at bl
  try rw [tb] at bm
  try rw [tb] at bmu
  have b48 : b < 48 := by omega
  have W25 := wp_det (w_x12_counts hRS (p0 := (b : Int)) (p1 := -1) hb (by rw [tb]; omega) (by omega)) e25
  try rw [tb] at W25
  obtain ⟨hR25, u25⟩ := W25
  obtain ⟨x25, c25⟩ := M_cnt b48 u25
  have F25 : F_x12_counts S s25 := fr_x12_counts e25
  have c25' : cM s25 = upZ (cM S) b 0 := by rw [c25, bc]; rfl
  obtain ⟨T1, P1⟩ := MT_kill (b := b) TS PS (by omega) b48 bc bm hz x25 c25' (F25.2.1 39 (by decide))
  have a57 : gA s25 57 = gA S 57 := F25.2.1 57 (by decide)
  have a58 : gA s25 58 = gA S 58 := F25.2.1 58 (by decide)
  have U1 : UP S s25 v M (upM M v (upZ (M v) b 0)) (L - (i : Int)) := fun x hx hc hlx => by
    have ne : x ≠ b := fun z => by rw [z] at hlx; omega
    refine ⟨⟨by rw [c25', upZ_n ne], by rw [CX_v x25], by rw [CX_h x25], by rw [CX_h x25], fun k _ => by rw [CX_h x25]⟩, fun u => ?_⟩
    by_cases z : u = v
    · rw [z, upM_s, upZ_n ne]
    · rw [upM_n z]
  have Y1 := WY_up hY (T_6 TS) a57 a58 (CX_u x25 (by omega)) U1 (Int.le_refl _)
  have yl := Y1.1 (i - 1) (by omega)
  rw [if_pos (by omega), a57, a58] at yl
  rw [a57, a58] at e29
  obtain ⟨y, hy⟩ : ∃ y, y = gA S 57 (i - 1) := ⟨_, rfl⟩
  obtain ⟨k, hk⟩ : ∃ k, k = gA S 58 (i - 1) := ⟨_, rfl⟩
  rw [← hy, ← hk] at yl e29 ⊢
  obtain ⟨yo, yk, ye⟩ := yl
  obtain ⟨⟨ya, yc, yv⟩, yL, ym, ymu⟩ := yo
  have y48 : y.toNat < 48 := by omega
  have n6 := T_6 T1 y.toNat y48 yc
  obtain ⟨hR29, F29, k', k1, k2, D29⟩ := wp_det (w_x12_cutsEntry hR25 ya (by omega) (by omega)) e29
  have kk : k' = k.toNat := k2 (by omega)
  rw [kk] at D29
  obtain ⟨T2, P2⟩ := MT_del (b := y.toNat) (k := k.toNat) T1 P1 D29 (F29.2.1 39 (by decide)) (by omega) y48 (by omega) (by omega) (by omega) (fun u hu hn => by rw [ymu u hu hn]; omega) (by omega)
  have dd : ∀ x : Nat, x < 48 → d0 x = 0 - dq b x + (if 0 < (hM s25).1 y.toNat ∧ (hM s25).2.2 y.toNat k.toNat = (x : Int) then 1 else 0) := fun x hx => by
    show (0 : Int) = _
    rw [ye]
    have lp : 0 < (hM s25).1 y.toNat := by
      have := (TG_nd TS b48 (by omega)).1
      omega
    by_cases z : (b : Int) = (x : Int)
    · rw [if_pos ⟨lp, z⟩]; unfold dq; rw [if_pos (by omega)]; omega
    · rw [if_neg (fun w => z w.2)]; unfold dq; rw [if_neg (by omega)]; omega
  have iB := D29.1
  have T3 : TM s29 d0 y := by
    have := TG_D T2 dd
    rw [show ((y.toNat : Nat) : Int) = y by omega] at this
    exact this
  have P3 : PM s29 v (upM M v (upZ (M v) b 0)) d0 y := by
    have := PM_D P2 dd
    rw [show ((y.toNat : Nat) : Int) = y by omega] at this
    exact this
  have Y2 : WY s25 v (upM M v (upZ (M v) b 0)) L y ((i - 1 : Nat) : Int) := by
    refine ⟨fun j hj => ?_, ?_⟩
    · obtain ⟨q1, q2, q3⟩ := Y1.1 j (by omega)
      refine ⟨q1, q2, ?_⟩
      rw [if_neg (by omega)] at q3
      rw [q3]
      by_cases w : (j : Int) + 1 = ((i - 1 : Nat) : Int)
      · rw [if_pos w, show j + 1 = i - 1 by omega, a57]; exact hy.symm
      · rw [if_neg w]
    · rw [Y1.2, if_neg (by omega)]
      by_cases w : ((i - 1 : Nat) : Int) = 0
      · rw [if_pos w, show (0 : Nat) = i - 1 by omega, a57]; exact hy.symm
      · rw [if_neg w]
  have U2 : UP s25 s29 v (upM M v (upZ (M v) b 0)) (upM M v (upZ (M v) b 0)) (L - ((i - 1 : Nat) : Int)) := UP_BX iB (by omega)
  have Y3 := WY_up Y2 (T_6 T1) (F29.2.1 57 (by decide)) (F29.2.1 58 (by decide)) (BX_u iB (by omega)) U2 (Int.le_refl _)
  exact ⟨⟨⟨hR25, F25⟩, x25, c25'⟩, ⟨hR29, F29, D29⟩, _, T3, P3, ⟨⟨ya, by rw [BX_c iB]; exact yc, by rw [BX_v iB]; exact yv⟩, by rw [BX_l iB, yL], ym, ymu⟩, Y3⟩
set_option maxHeartbeats 250000 in theorem s_prEnd {v x : Int} {S : MS} (hx : x < 0) : ∀ n, pc (m_x1_prune_L98 n v x S) (fun o => o = S) := by
  intro n
  cases n with
  | zero => exact pc_none
  | succ n =>
    show pc (m_x1_prune_b98 (m_x1_prune_L98 n) v x S) _
    unfold m_x1_prune_b98 m_x1_prune_J186
    exact pc_rg (pc_if (fun _ => pc_some rfl) (fun c => absurd hx c))
set_option maxHeartbeats 250000 in theorem s_lowE {v : Nat} {S : MS} (hr : gA S 60 v = -1) : pc (m_x1_lowerRoot (v : Int) S) (fun o => o = S) := by
  have tv : ((v : Nat) : Int).toNat = v := Int.toNat_natCast _
  have L : ∀ n, pc (m_x1_lowerRoot_L2 n (v : Int) 0 S) (fun o => o = S) := fun n => by
    cases n with
    | zero => exact pc_none
    | succ n =>
      show pc (m_x1_lowerRoot_b2 (m_x1_lowerRoot_L2 n) (v : Int) 0 S) _
      unfold m_x1_lowerRoot_b2 m_x1_lowerRoot_J48
      refine pc_rg (pc_if (fun _ => pc_some rfl) (fun _ => pc_rdI (fun _ => ?_)))
      rw [tv, hr]
      exact pc_rg (pc_if (fun _ => pc_some rfl) (fun c => absurd rfl c))
  unfold m_x1_lowerRoot
  exact L FU
/- both sides on the way back up -/
def PRJ (t0 : MS) (v : Nat) (L : Int) (π σ : Nat → Nat) (lo hi : Nat → Int) (b i : Nat) (S T : MS) : Prop := SIM π σ S T ∧ (Rg S ∧ Rr T) ∧ KS t0 T ∧ (gI T 55 = 0 ∧ RWn t0 T v ∧ i ≤ 47) ∧ (∃ M, TM T d0 (b : Int) ∧ PM T v M d0 (b : Int) ∧ OB_r T v M (b : Int) (L - (i : Int)) ∧ WY T v M L (b : Int) (i : Int)) ∧ (gA S 50 i = (π b : Int) ∧ ∀ j, j < i → gA S 50 j = (π (gA T 57 j).toNat : Int) ∧ gA S 51 j = gA T 58 j) ∧ OI T lo hi
set_option maxHeartbeats 4000000 in
theorem y_prune_L {s0 t0 : MS} {v : Nat} {L : Int} {π σ : Nat → Nat} {lo hj : Nat → Int} (hv : v < 8) : ∀ (n m i b : Nat) (S T : MS), PRJ t0 v L π σ lo hj b i S T → pc (m_x1_prune_L98 n (v : Int) (i : Int) S) (fun s11 => ∀ s13, Rg s11 → TS s11 Z0 (-1) → RV s0 s11 v → m_x1_lowerRoot (v : Int) s11 = some s13 → pc (m_x12_removes_L137 m (v : Int) (b : Int) (i : Int) T) (fun t' => SIM π σ s13 t' ∧ OI t' lo hj ∧ gI t' 55 = 0)) := by
  have tv : ((v : Nat) : Int).toNat = v := Int.toNat_natCast _
  refine fr_ind (fun _ _ _ _ _ _ => pc_none) (fun n ih m i b S T G => ?_)
  cases m with
  | zero => exact fun q _ s13 _ _ _ _ => pc_none
  | succ m =>
    obtain ⟨h, ⟨hR, hRt⟩, hKS, ⟨h55, hW, hi⟩, ⟨M, TT, P, hO, hY⟩, ⟨c50, cj⟩, hOI⟩ := G
    have hO0 := hO
    obtain ⟨⟨hb, bc, bv⟩, bl, bm, bmu⟩ := hO
    have tb : ((b : Nat) : Int).toNat = b := Int.toNat_natCast _
    have ti : ((i : Nat) : Int).toNat = i := Int.toNat_natCast _
    try rw [tb] at bc
    try rw [tb] at bv
    try rw [tb] at bl
    try rw [tb] at bm
    try rw [tb] at bmu
    have b48 : b < 48 := by omega
    have lb : LV T b := Or.inl (by omega)
    have hP := h.1.1
    have pb48 := (hP b b48).1.1
    have tp : ((π b : Nat) : Int).toNat = π b := Int.toNat_natCast _
    have Bb := sim_b h b48 lb
    have z57 : gA S 57 (π b) = (hM T).2.1 b := Bb.2.1
    have nb := (TM_z TT b48 lb).2.1
    -- the reference's step
    have REF : ∀ Q : MS → Prop, ((hM T).2.1 b ≠ 0 → pc (m_x12_lowers (v : Int) T) Q) → ((hM T).2.1 b = 0 → i = 0 → ∀ s11 s13 : MS, m_x12_counts (b : Int) (-1) T = some s11 → sA s11 49 (upZ (gA s11 49) v 254) = s13 → Q s13) → ((hM T).2.1 b = 0 → 0 < i → ∀ s25 s29 : MS, m_x12_counts (b : Int) (-1) T = some s25 → m_x12_cutsEntry (gA s25 57 (i - 1)) (gA s25 58 (i - 1)) s25 = some s29 → pc (m_x12_removes_L137 m (v : Int) (gA s25 57 (i - 1)) ((i : Int) + (-1)) s29) Q) → pc (m_x12_removes_L137 (m + 1) (v : Int) (b : Int) (i : Int) T) Q := fun Q K1 K2 K3 => by
      show pc (m_x12_removes_b137 (m_x12_removes_L137 m) (v : Int) (b : Int) (i : Int) T) Q
      have J : ((hM T).2.1 b = 0 → i = 0) → pc (m_x12_removes_J182 (v : Int) (b : Int) T) Q := fun w => by
        unfold m_x12_removes_J182
        refine pc_bq (m_ents (by omega)) (fun r5 h5 => ?_)
        try rw [tb] at h5
        rw [h5]
        refine pc_rg (pc_if (fun c => pc_bn (fun s11 e11 => pc_inb (pc_stn (fun s13 e13 => pc_some ?_)))) (fun c => pc_bn (fun s9 e9 => pc_some (K1 c s9 e9))))
        try rw [tv] at e13
        exact K2 c (w c) s11 s13 e11 e13
      unfold m_x12_removes_b137
      refine pc_bq (m_ents (by omega)) (fun r19 h19 => ?_)
      try rw [tb] at h19
      rw [h19]
      refine pc_rg (pc_if (fun c => pc_rg (pc_if (fun c2 => J (fun _ => by omega)) (fun c2 => pc_bn (fun s25 e25 => pc_rdI (fun _ => pc_rdI (fun _ => ?_)))))) (fun c => J (fun z => absurd z c)))
      rw [show ((i : Int) + (-1)).toNat = i - 1 by omega]
      exact pc_bn (fun s29 e29 => K3 c (by omega) s25 s29 e25 e29)
    show pc (m_x1_prune_b98 (m_x1_prune_L98 n) (v : Int) (i : Int) S) _
    unfold m_x1_prune_b98 m_x1_prune_J186 m_x1_prune_J180
    refine pc_rg (pc_if (fun c => absurd c (by omega)) (fun _ => pc_rdI (fun _ => ?_)))
    rw [ti, c50]
    refine pc_rdI (fun _ => ?_)
    rw [tp, z57]
    refine pc_rg (pc_if (fun c => ?_) (fun c => pc_some (fun s13 hR11 T11 V11 e13 => ?_)))
    · refine pc_rdI (fun _ => ?_)
      rw [ti, c50]
      refine pc_inb (pc_stn (fun s16 e16 => ?_))
      try rw [tp] at e16
      have g54 : gA s16 54 = upZ (gA S 54) (π b) 0 := q_AA e16
      have kk : ∀ k, k ≠ 54 → gA s16 k = gA S k := fun k hk => q_Aa e16 hk
      have hR16 : Rg s16 := e16 ▸ Rg.uAu hR (by show (-1 : Int) ≤ 0 ∧ (0 : Int) ≤ 100000; omega)
      have KILL : ∀ s25 : MS, m_x12_counts (b : Int) (-1) T = some s25 → Rr s25 ∧ F_x12_counts T s25 ∧ CX T s25 ∧ cM s25 = upZ (cM T) b 0 ∧ SIM π σ s16 s25 := fun s25 e25 => by
        have W25 := wp_det (w_x12_counts hRt (p0 := (b : Int)) (p1 := -1) hb (by rw [tb]; omega) (by omega)) e25
        try rw [tb] at W25
        obtain ⟨hR25, u25⟩ := W25
        obtain ⟨x25, c25⟩ := M_cnt b48 u25
        have F25 : F_x12_counts T s25 := fr_x12_counts e25
        have c25' : cM s25 = upZ (cM T) b 0 := by rw [c25, bc]; rfl
        exact ⟨hR25, F25, x25, c25', sim_kill h b48 (fun k k1 k2 => kk k (by omega)) g54 (q_Ai e16) (q_Al e16) x25 c25' (by rw [F25.2.1 39 (by decide)]) (F25.2.1 54 (by decide))⟩
      have LVk : ∀ X : MS, CX T X → cM X = upZ (cM T) b 0 → ∀ x, x < 48 → LV X x → LV T x := fun X x1 x2 x hx hl => by
        unfold LV at hl ⊢
        rw [x2, CX_v x1] at hl
        rcases hl with w | w
        · by_cases z : x = b
          · rw [z]; exact lb
          · rw [upZ_n z] at w; exact Or.inl w
        · exact Or.inr w
      refine pc_rg (pc_if (fun c3 => ?_) (fun c3 => ?_))
      · refine pc_inb (pc_stn (fun s20 e20 => ?_))
        try rw [tv] at e20
        refine pc_mono (s_prEnd (by omega) n) (fun o ho => ?_)
        subst ho
        intro s13 hR11 T11 V11 e13
        have u60 : gA o 60 = upZ (gA s16 60) v (-1) := q_AA e20
        have e := s_lowE (v := v) (S := o) (by rw [u60, upZ_s]) s13 e13
        refine REF _ (fun z => absurd c z) (fun _ _ u11 u13 f11 f13 => ?_) (fun _ z => absurd z (by omega))
        obtain ⟨k1, k2, k3, k4, k5⟩ := KILL u11 f11
        have v49 : gA u13 49 = upZ (gA u11 49) v 254 := q_AA f13
        obtain ⟨⟨m1, m2⟩, ⟨m3, m4⟩, _⟩ := M_root hv v49
        rw [e]
        refine ⟨sim_root k5 hv (fun k _ _ z => q_Aa e20 z) u60 (q_Ai e20) (q_Al e20) v49 (by rw [(q_Aa f13 (by decide) : gA u13 39 = gA u11 39)]) (q_Aa f13 (by decide)) (Or.inl ⟨rfl, rfl⟩), OI_h hOI (m1.trans (CX_h k3)) (m2.trans (CX_k k3)) (fun x hx hl => LVk u11 k3 k4 x hx ?_), (q_Ai f13).trans ((k2.1 55 (by decide)).trans h55)⟩
        unfold LV at hl ⊢
        rw [← m3, ← m4]; exact hl
      · obtain ⟨cj1, cj2⟩ := cj (i - 1) (by omega)
        refine pc_rdI (fun _ => pc_rdI (fun _ => ?_))
        rw [show ((i : Int) - 1).toNat = i - 1 by omega, kk 50 (by decide), kk 51 (by decide), cj1, cj2]
        refine pc_bn (fun s24 e24 => ?_)
        intro s11 e11 s13 hR11 T11 V11 e13
        refine REF _ (fun z => absurd c z) (fun _ z => absurd z (by omega)) (fun _ _ s25 s29 e25 e29 => ?_)
        obtain ⟨_, _, _, _, K5⟩ := KILL s25 e25
        obtain ⟨⟨⟨hR25, F25⟩, x25, c25⟩, ⟨hR29, F29, D29⟩, M', T3, P3, O3, Y3⟩ := r_prune hv hRt TT P hO0 hY c (by omega) e25 e29
        obtain ⟨yo, yk, ye⟩ := hY.1 (i - 1) (by omega)
        have a57 : gA s25 57 = gA T 57 := F25.2.1 57 (by decide)
        have a58 : gA s25 58 = gA T 58 := F25.2.1 58 (by decide)
        rw [a57, a58] at e29
        rw [a57]
        have r57 := yo.1.1
        obtain ⟨a, ha⟩ : ∃ a, a = (gA T 57 (i - 1)).toNat := ⟨_, rfl⟩
        have ai : gA T 57 (i - 1) = (a : Int) := by omega
        have ta : ((a : Nat) : Int).toNat = a := Int.toNat_natCast _
        rw [ai] at e29 T3 P3 O3 Y3 D29 yo yk ye ⊢
        try rw [← ha] at e24
        try rw [ta] at e24
        try rw [ta] at D29
        try rw [ta] at yk
        try rw [ta] at ye
        have a48 : a < 48 := by omega
        have yc := yo.1.2.1
        have yl := yo.2.1
        try rw [ta] at yc
        try rw [ta] at yl
        have nab : a ≠ b := fun z => by rw [z] at yl; omega
        have la25 : LV s25 a := Or.inl (by rw [c25, upZ_n nab]; omega)
        have K25 : ∀ x, x < 48 → LV s25 x → 0 ≤ (hM s25).2.1 x ∧ (hM s25).2.1 x ≤ 6 := fun x hx hl => by
          rw [CX_h x25]; exact (TM_z TT hx (LVk s25 x25 c25 x hx hl)).2.1
        have za : (hM s25).2.1 a = (hM T).2.1 a := by rw [CX_h x25]
        obtain ⟨H29, B29, Z29⟩ := y_del K5 K25 hR16 hR25 a48 la25 (p1 := gA T 58 (i - 1)) (by rw [za]; exact yk) e24 e29
        have pa48 := (hP a a48).1.1
        have tpa : ((π a : Nat) : Int).toNat = π a := Int.toNat_natCast _
        have z16 : gA s16 57 (π a) = (hM T).2.1 a := by
          have q : gA s16 57 (π a) = (hM s25).2.1 a := (sim_b K5 a48 la25).2.1
          rw [q, za]
        have n6 := K25 a a48 la25
        have hR24 := (wp_det (w_x8_delete hR16 (p0 := (π a : Int)) (p1 := gA T 58 (i - 1)) ⟨by omega, by omega⟩ ⟨yk.1, by rw [tpa, z16]; exact yk.2, by rw [tpa, z16, ← za]; exact n6.2⟩) e24).1
        have F24 : F_x8_delete s16 s24 := fr_x8_delete e24
        have so : SO (kM s25 a) 1 ((hM s25).2.1 a) := by
          rw [CX_h x25, CX_k x25]
          exact OI_SOk hOI TT (fun _ _ => Int.le_refl 0) a48 (by omega)
        have O25 : OI s25 lo hj := OI_h hOI (CX_h x25) (CX_k x25) (LVk s25 x25 c25)
        have O29 : OI s29 lo hj := OI_del O25 a48 la25 so (by rw [za]; omega) D29
        have K29 : KS t0 s29 := KS_t hKS ⟨⟨(F29.2.1 39 (by decide)).trans (F25.2.1 39 (by decide)), (F29.2.1 42 (by decide)).trans (F25.2.1 42 (by decide)), (F29.2.1 43 (by decide)).trans (F25.2.1 43 (by decide)), (F29.2.1 44 (by decide)).trans (F25.2.1 44 (by decide))⟩, fun j hj' => by rw [BX_k B29 a48 hj', CX_n x25 hj']⟩
        have ei : (i : Int) + (-1) = ((i - 1 : Nat) : Int) := by omega
        rw [ei] at e11 ⊢
        have c24 : ∀ j, gA s24 50 j = gA S 50 j := fun j => by rw [F24.2.1 50 (by decide), kk 50 (by decide)]
        have d24 : ∀ j, gA s24 51 j = gA S 51 j := fun j => by rw [F24.2.1 51 (by decide), kk 51 (by decide)]
        have f57 : gA s29 57 = gA T 57 := (F29.2.1 57 (by decide)).trans a57
        have f58 : gA s29 58 = gA T 58 := (F29.2.1 58 (by decide)).trans a58
        refine ih m (i - 1) a s24 s29 ⟨H29, ⟨hR24, hR29⟩, K29, ⟨(F29.1 55 (by decide)).trans ((F25.1 55 (by decide)).trans h55), ⟨fun u hu hn => by rw [BX_u B29 hu, CX_u x25 hu]; exact hW.1 u hu hn, by rw [BX_u B29 (by omega), CX_u x25 (by omega)]; exact hW.2⟩, by omega⟩, ⟨M', T3, P3, O3, Y3⟩, ⟨by rw [c24, cj1, ai, ta], fun j hj' => by rw [c24, d24, f57, f58]; exact cj j (by omega)⟩, O29⟩ s11 e11 s13 hR11 T11 V11 e13
    · refine REF _ (fun _ => ?_) (fun z => absurd z c) (fun z => absurd z c)
      have ne : ∀ p : Nat, p < 48 → (p : Int) = (b : Int) → 1 ≤ (hM T).2.1 p := fun p _ hq => by
        rw [show p = b by omega]; omega
      have T1 : TM T d0 (-1) := TG_ne TT ne
      have P1 : PM T v M d0 (-1) := ⟨fun u hu hn => TG_ne (P.1 u hu hn) ne, P.2⟩
      intro t' et
      obtain ⟨Y1, Y2, Y3⟩ := y_lower h hR hRt T11 T1 P1 hv V11 hW s13 e13 t' et
      have F9 : F_x12_lowers T t' := fr_x12_lowers et
      obtain ⟨m1, m2, m3⟩ := CXm_h hv Y2
      refine ⟨Y1, OI_h hOI m1 m2 (fun x hx hl => ?_), (F9.1 55 (by decide)).trans h55⟩
      unfold LV at hl ⊢
      rw [m3] at hl
      exact hl.imp (Y3 x hx) id
