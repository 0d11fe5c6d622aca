/-! ===== ON: an image on both sides ===== -/
theorem po_in {g : Nat → Int} {e N x : Nat} (P : PO g N = e) (hx : x < N) : nxp g (PO g x) ≤ e := by
  have m := PO_le (g := g) (show x + 1 ≤ N by omega)
  rw [PO_s, P] at m
  exact m
theorem dl_thr {f g : Nat → Int} {e N x : Nat} (BY : ∀ j, j ≤ e → 0 ≤ g j ∧ g j ≤ 255) (P : PO g N = e) (A : RRA f g N) (hx : x < N) : DLa f x ↔ thr g (PO g x) := by
  have l := po_in P hx
  have l2 := nxp_lt g (PO g x)
  have a := (A.1 x hx).1
  have y1 := (BY (PO g x) (by omega)).1
  have y2 := (BY (PO g x + 1) (by omega)).1
  unfold DLa thr
  rw [a.1, a.2]
  constructor
  · intro w v
    rw [v.1, v.2] at w; exact w rfl
  · intro w v
    exact w ⟨by omega, by omega⟩
theorem rly_of {f g : Nat → Int} {e N : Nat} {X : MS} (BY : ∀ j, j ≤ e → 0 ≤ g j ∧ g j ≤ 255) (P : PO g N = e) (A : RRA f g N) (W : RWs g N X) (cn : ∀ x, x < N → thr g (PO g x) → g (PO g x + 3) ≤ 6) : RLY X f N := by
  refine ⟨fun x hx hd => ?_, fun x hx => ?_, W.2.2.1.2⟩
  · have t := (dl_thr BY P A hx).1 hd
    obtain ⟨c1, c2, c3⟩ := (W.1 x hx).2 t
    obtain ⟨r1, r2, r3⟩ := (A.1 x hx).2.1 t
    have n6 := cn x hx t
    refine ⟨c1.trans r1.symm, c2.trans r2.symm, fun k hk => ?_⟩
    have hk' : (k : Int) < g (PO g x + 3) := by rw [← r2]; exact hk
    have k6 : k < 6 := by omega
    have a := c3 k k6 hk'
    have b := r3 k k6 hk'
    refine ⟨a.1.trans ?_, a.2.trans ?_⟩
    · show _ = if k < 6 then f (21 + 16 * x + k) else 0
      rw [if_pos k6]; exact b.1.symm
    · show _ = if k < 6 then f (27 + 16 * x + k) else 0
      rw [if_pos k6]; exact b.2.symm
  · rw [dl_thr BY P A hx]
    unfold nfr thr
    rw [(W.1 x hx).1.1, (W.1 x hx).1.2]
theorem rtr_rto {r : Int} {N : Nat} (h0 : 0 ≤ r) (h : rto r < (N : Int)) (hN : N ≤ 48) : rtr (fun b => b) (rto r) r := by
  unfold rto at h ⊢
  by_cases z : r = 255
  · rw [if_pos z]; exact Or.inr (Or.inl ⟨z, rfl⟩)
  · rw [if_neg z] at h ⊢
    by_cases z2 : r = 254
    · rw [if_pos z2]; exact Or.inl ⟨z2, rfl⟩
    · rw [if_neg z2] at h ⊢
      exact Or.inr (Or.inr ⟨h0, by omega, by show r = ((r.toNat : Nat) : Int); omega⟩)
theorem trf_of {f g : Nat → Int} {e N : Nat} {E : Int} {X : MS} (H : IG f (N : Int) E) (he : 19 ≤ e) (BY : ∀ j, j ≤ e → 0 ≤ g j ∧ g j ≤ 255) (A : RRA f g N) (Hd : HDr f g) (W : RWs g N X) (R : RLY X f N) (hl : HLT g (N : Int) 8) : TRf (fun b => b) (fun b => b) (N : Int) X 72 f := by
  have n48 := H.1
  refine ⟨PB_id _, fun x hx => ?_, fun x hx l => ?_, fun v hv => ?_⟩
  · by_cases z : x < N
    · have a := (W.1 x z).1
      have b := (A.1 x z).1
      exact ⟨a.1.trans b.1.symm, a.2.trans b.2.symm⟩
    · have a := W.2.2.2.2 x (by omega) hx
      have b0 := A.2 x 0 (by omega) hx (by omega)
      have b1 := A.2 x 1 (by omega) hx (by omega)
      refine ⟨a.1.trans ?_, a.2.trans ?_⟩
      · show (0 : Int) = f (17 + 16 * x); exact b0.symm
      · show (0 : Int) = f (18 + 16 * x)
        rw [show 18 + 16 * x = 17 + 16 * x + 1 by omega]; exact b1.symm
  · have nn := (H.2.2.1 x hx).1
    have hd : DLa f x := by
      unfold DLa
      have l' : 0 < f (17 + 16 * x) ∨ 0 < f (18 + 16 * x) := l
      omega
    have t := (IG_there H hx hd).1
    obtain ⟨r1, r2, r3⟩ := R.1 x (by omega) hd
    refine ⟨r1, r2, fun k hk => ⟨(r3 k hk).1, fun h0 => ?_, fun _ => (r3 k hk).2⟩⟩
    have kd := IG_kid (k := k) H hx hd h0 hk
    have q := (r3 k hk).2
    show gA X 77 (6 * x + k) = ((((hLa f).2.2 x k).toNat : Nat) : Int)
    rw [q]; omega
  · have a := W.2.1 v hv
    have b := Hd.2 v hv
    have c := hl v hv
    refine ⟨?_, ?_⟩
    · show rtr (fun b => b) (gA X 78 v) (f v)
      rw [a.1, b.1]
      exact rtr_rto (BY _ (by omega)).1 c.1 (by omega)
    · show rtr (fun b => b) (gA X 79 v) (f (8 + v))
      rw [a.2, b.2]
      exact rtr_rto (BY _ (by omega)).1 c.2 (by omega)
/-- references counted alike -/
theorem rf_eq {f : Nat → Int} {N : Nat} {E : Int} {X : MS} {c r w : Nat} (H : IG f (N : Int) E) (T : TRf (fun b => b) (fun b => b) (N : Int) X 72 f) (hc : (c = 72 ∧ r = 78 ∧ w = 0) ∨ (c = 73 ∧ r = 79 ∧ w = 1)) {x : Nat} (hx : x < 48) : rf (hJ X) (gA X c) (gA X r) (x : Int) = rf (hLa f) (cLa f w) (rLa f w) (x : Int) := by
  have n48 := H.1
  have cc : ∀ p, p < 48 → gA X c p = cLa f w p := fun p hp => by
    have y := T.2.1 p hp
    rcases hc with ⟨a, _, b⟩ | ⟨a, _, b⟩
    · rw [a, b]; exact y.1
    · rw [a, b]
      show gA X 73 p = f (17 + 16 * p + 1)
      rw [show 17 + 16 * p + 1 = 18 + 16 * p by omega]; exact y.2
  have rt : ∀ v, v < 8 → rtr (fun b => b) (gA X r v) (rLa f w v) := fun v hv => by
    have y := T.2.2.2 v hv
    rcases hc with ⟨_, a, b⟩ | ⟨_, a, b⟩
    · rw [a, b]
      show rtr (fun b => b) (gA X 78 v) (if v < 8 then f (8 * 0 + v) else 0)
      rw [if_pos hv, show 8 * 0 + v = v by omega]; exact y.1
    · rw [a, b]
      show rtr (fun b => b) (gA X 79 v) (if v < 8 then f (8 * 1 + v) else 0)
      rw [if_pos hv, show 8 * 1 + v = 8 + v by omega]; exact y.2
  unfold rf
  rw [show rr (gA X r) (x : Int) = rr (rLa f w) (x : Int) from rr_pm T.1 rt hx]
  have S : sm 48 (fun p => if 0 < gA X c p then en (hJ X) p (x : Int) else 0) = sm 48 (fun p => if 0 < cLa f w p then en (hLa f) p (x : Int) else 0) := sm_c (fun p hp => by
    (try dsimp only)
    rw [cc p hp]
    by_cases z : 0 < cLa f w p
    · rw [if_pos z, if_pos z]
      have nn := (H.2.2.1 p hp).1
      have lv : 0 < cR f p ∨ 0 < vR f p := by
        rcases hc with ⟨_, _, b⟩ | ⟨_, _, b⟩
        · rw [b] at z; exact Or.inl z
        · rw [b] at z
          have z' : 0 < f (17 + 16 * p + 1) := z
          rw [show 17 + 16 * p + 1 = 18 + 16 * p by omega] at z'
          exact Or.inr z'
      have hd : DLa f p := by
        unfold DLa
        have l' : 0 < f (17 + 16 * p) ∨ 0 < f (18 + 16 * p) := lv
        omega
      have t := IG_there H hp hd
      have nd : Nd (hLa f) (N : Int) p := ⟨t.2.1.1, by have := H.2.1; omega, fun h0 k hk => by have q := IG_kid (k := k) H hp hd h0 hk; exact ⟨q.1, q.2.1⟩⟩
      exact en_pm (π := fun b => b) (σ := fun b => b) (h1 := hJ X) (h2 := hLa f) T.1 n48.2 (T.2.2.1 p hp lv) nd hx
    · rw [if_neg z, if_neg z])
  rw [S]
/-- what the class has found sound has all that the reference asks -/
theorem cim_of {f g : Nat → Int} {e N : Nat} {E : Int} {X Y : MS} (hN : N ≤ 48) (hE : 3 ≤ E ∧ E ≤ 6) (he : 19 ≤ e) (BY : ∀ j, j ≤ e → 0 ≤ g j ∧ g j ≤ 255) (P : PO g N = e) (G : ∀ x, x < N → GOK g (PO g x) E) (A : RRA f g N) (Hd : HDr f g) (W : RWs g N X) (hl : HLT g (N : Int) 8) (K : KRd X Y) (S : ALLs Y N) : CIM f (N : Int) E := by
  have cn : ∀ x, x < N → thr g (PO g x) → g (PO g x + 3) ≤ 6 := fun x hx t => by have q := (G x hx t).2.1; omega
  have RX := rly_of BY P A W cn
  have RY := RLY_k RX K
  have lb : ∀ b, b < 48 → LB f E b := fun b hb => by
    by_cases z : b < N
    · have l := po_in P z
      have l2 := nxp_lt g (PO g b)
      have a := (A.1 b z).1
      refine ⟨⟨by rw [a.1]; exact BY _ (by omega), by rw [a.2]; exact BY _ (by omega)⟩, ?_⟩
      by_cases t : thr g (PO g b)
      · have hd := (dl_thr BY P A z).2 t
        obtain ⟨r1, r2, r3⟩ := (A.1 b z).2.1 t
        obtain ⟨g1, g2, g3⟩ := G b z t
        rw [nxp_1 t] at l
        have s := (S.1 b z ((RY.2.1 b z).2 hd)).1
        obtain ⟨q1, q2, q3⟩ := RY.1 b z hd
        refine Or.inr ⟨hd, by rw [r1]; exact BY _ (by omega), by rw [r2]; exact g2, fun k hk => ?_, fun k hk => ?_, fun k hk h0 => ?_⟩
        · rw [r2] at hk
          rw [(r3 k (by omega) hk).2]
          have y := (g3 k hk).2
          omega
        · rw [r2] at hk
          rw [(r3 k (by omega) hk).1]
          exact (g3 k hk).1
        · have hk2 : (k : Int) + 1 < (hLa f).2.1 b := hk
          have w := s.1 k (by
            rw [q1]
            rcases h0 with y | y
            · exact Or.inr y
            · exact Or.inl y) (by rw [q2]; exact hk2)
          rw [(q3 k (by omega)).1, (q3 (k + 1) (by omega)).1] at w
          rw [r2] at hk
          have w' : (if k < 6 then f (21 + 16 * b + k) else 0) < (if k + 1 < 6 then f (21 + 16 * b + (k + 1)) else 0) := w
          rw [if_pos (by omega), if_pos (by omega)] at w'
          exact w'
      · have zz := (A.1 b z).2.2 t
        have t' := Classical.not_not.1 t
        exact Or.inl ⟨by rw [a.1, a.2, t'.1, t'.2]; rfl, zz⟩
    · have z0 := A.2 b 0 (by omega) hb (by omega)
      have z1 := A.2 b 1 (by omega) hb (by omega)
      rw [show 17 + 16 * b + 1 = 18 + 16 * b by omega] at z1
      rw [Nat.add_zero] at z0
      exact ⟨⟨by rw [z0]; omega, by rw [z1]; omega⟩, Or.inl ⟨by rw [z0, z1]; rfl, fun i i1 i2 => A.2 b i (by omega) hb i2⟩⟩
  have IGf : IG f (N : Int) E := by
    refine ⟨⟨by omega, by omega⟩, hE, lb, fun b hb hbN => ?_, fun b hb k hk => ?_, fun u hu => ?_⟩
    · have z0 := A.2 b 0 (by omega) hb (by omega)
      have z1 := A.2 b 1 (by omega) hb (by omega)
      rw [show 17 + 16 * b + 1 = 18 + 16 * b by omega] at z1
      exact ⟨z0, z1⟩
    · have bN : b < N := by omega
      by_cases t : thr g (PO g b)
      · have hd := (dl_thr BY P A bN).2 t
        obtain ⟨r1, r2, r3⟩ := (A.1 b bN).2.1 t
        have s := (S.1 b bN ((RY.2.1 b bN).2 hd)).1
        obtain ⟨q1, q2, q3⟩ := RY.1 b bN hd
        have hk' : (k : Int) < (hLa f).2.1 b := hk
        have e1 : (hLa f).1 b = f (19 + 16 * b) := rfl
        rw [r2] at hk
        have k6 : k < 6 := by have := cn b bN t; omega
        have vv := (q3 k hk').2
        have v2 : (hLa f).2.2 b k = f (27 + 16 * b + k) := if_pos k6
        by_cases z : f (19 + 16 * b) = 0
        · refine Or.inl ⟨z, ?_⟩
          rw [(r3 k k6 hk).2]
          exact ((G b bN t).2.2 k hk).2
        · have c := s.2 (by rw [q1, e1]; exact z) k (by rw [q2]; exact hk')
          unfold CHK at c
          rw [vv, v2, RY.2.2, q1, e1] at c
          obtain ⟨⟨c1, c2, c3⟩, _⟩ := c
          have yN : (f (27 + 16 * b + k)).toNat < N := by omega
          have dy := (RY.2.1 _ yN).1 c2
          refine Or.inr ⟨z, c1, dy, ?_⟩
          rw [← c3]
          exact (RY.1 _ yN dy).1.symm
      · exfalso
        have zz := (A.1 b bN).2.2 t 3 (by omega) (by omega)
        rw [show 17 + 16 * b + 3 = 20 + 16 * b by omega] at zz
        omega
    · by_cases z : u < 8
      · rw [(Hd.2 u z).1]; exact BY _ (by omega)
      · have w := (Hd.2 (u - 8) (by omega)).2
        rw [show 8 + (u - 8) = u by omega] at w
        rw [w]; exact BY _ (by omega)
  have T := trf_of IGf he BY A Hd W RX hl
  have eY : ∀ k, 72 ≤ k → k ≤ 79 → gA Y k = gA X k := fun k h1 h2 => K.1 k (by omega) (by omega) (by omega)
  have CQw : ∀ c r w : Nat, ((c = 72 ∧ r = 78 ∧ w = 0) ∨ (c = 73 ∧ r = 79 ∧ w = 1)) → (∀ x : Nat, x < N → gA X c x = rf (hJ X) (gA X c) (gA X r) (x : Int)) → CQ f (N : Int) w := fun c r w hc hs => by
    have w2 : w < 2 := by omega
    have ro : RO (N : Int) (rLa f w) := fun v hv => by
      have y := rtr_rto (N := N) (r := rLa f w v) (by
        show 0 ≤ (if v < 8 then f (8 * w + v) else 0)
        rw [if_pos hv]; exact (IGf.2.2.2.2.2 (8 * w + v) (by omega)).1) (by
        have q := hl v hv
        have b := Hd.2 v hv
        show rto (if v < 8 then f (8 * w + v) else 0) < (N : Int)
        rw [if_pos hv]
        rcases hc with ⟨_, _, z⟩ | ⟨_, _, z⟩
        · rw [z, show 8 * 0 + v = v by omega, b.1]; exact q.1
        · rw [z, show 8 * 1 + v = 8 + v by omega, b.2]; exact q.2) hN
      have q := hl v hv
      have b := Hd.2 v hv
      by_cases z : 254 ≤ rLa f w v
      · exact Or.inr (Or.inr z)
      · refine Or.inl ?_
        rcases y with ⟨y1, _⟩ | ⟨y1, _⟩ | ⟨y1, _, y3⟩
        · omega
        · omega
        · refine ⟨y1, ?_⟩
          have lt : rto (rLa f w v) < (N : Int) := by
            show rto (if v < 8 then f (8 * w + v) else 0) < (N : Int)
            rw [if_pos hv]
            rcases hc with ⟨_, _, z⟩ | ⟨_, _, z⟩
            · rw [z, show 8 * 0 + v = v by omega, b.1]; exact q.1
            · rw [z, show 8 * 1 + v = 8 + v by omega, b.2]; exact q.2
          have y3' : rto (rLa f w v) = (((rLa f w v).toNat : Nat) : Int) := y3
          omega
    refine ⟨ro, fun x hx => ?_⟩
    show cLa f w x - rf (hLa f) (cLa f w) (rLa f w) (x : Int) = 0
    by_cases z : x < N
    · have y := hs x z
      rw [rf_eq IGf T hc hx] at y
      have cc : gA X c x = cLa f w x := by
        have y := T.2.1 x hx
        rcases hc with ⟨a, _, b⟩ | ⟨a, _, b⟩
        · rw [a, b]; exact y.1
        · rw [a, b]
          show gA X 73 x = f (17 + 16 * x + 1)
          rw [show 17 + 16 * x + 1 = 18 + 16 * x by omega]; exact y.2
      omega
    · rw [CQ_out IGf w2 ro hx (by omega), (cLa_nn IGf w2 hx).2.2.1 (by omega)]; rfl
  have hJe := hJ_k K
  have s1 := S.2.1
  have s2 := S.2.2
  rw [hJe, eY 72 (by decide) (by decide), eY 78 (by decide) (by decide)] at s1
  rw [hJe, eY 73 (by decide) (by decide), eY 79 (by decide) (by decide)] at s2
  refine ⟨IGf, ⟨CQw 72 78 0 (Or.inl ⟨rfl, rfl, rfl⟩) s1, CQw 73 79 1 (Or.inr ⟨rfl, rfl, rfl⟩) s2⟩, fun b hb hd h0 k hk z hz => ?_⟩
  have t := IG_there IGf hb hd
  have bN : b < N := by omega
  have s := (S.1 b bN ((RY.2.1 b bN).2 hd)).1
  obtain ⟨y, y1, y2, y3, y4, y5, y6, y7, y8⟩ := SB_kid IGf RY bN hd s h0 hk
  rw [y1, Int.toNat_natCast] at hz
  obtain ⟨l, l1, l2⟩ := hz
  have I := INT_L IGf RY l (fun x hx nf _ => S.1 x hx nf) y y2 y4 l1
  have w := I.2.2 z l2
  exact ⟨fun h => by have := y7 h; omega, fun h => by have := y8 h; omega⟩
