/-! ===== a put on both sides ===== -/
theorem EF_c {f g : Nat → Int} {z key r : Int} (e : ∀ k : Nat, (k : Int) < z → g k = f k) (h : EF f z key r) : EF g z key r := by
  obtain ⟨a, b, c⟩ := h
  refine ⟨a, ?_, fun k k1 k2 k3 => by rw [e k k2]; exact c k k1 k2 k3⟩
  rcases b with b | ⟨b1, b2⟩
  · exact Or.inl b
  · exact Or.inr ⟨b1, by rw [e r.toNat (by omega)]; exact b2⟩
def GJ (t0 : MS) (v : Nat) (key : Int) (S T : MS) (π σ : Nat → Nat) (lo hi : Nat → Int) (b : Nat) (i : Int) : Prop := (SIM π σ S T ∧ ZP S T) ∧ (Rg S ∧ Rr T) ∧ KS t0 T ∧ (TS S Z0 (-1) ∧ Cur S (π b : Int) i ∧ 3 ≤ gI S 581) ∧ (gI T 55 = 0 ∧ GD t0 T v (b : Int) i) ∧ OI T lo hi ∧ (lo b ≤ key ∧ key ≤ hi b)
def CON (q : Int × MS) (o : MS) : Prop := (q.1 = 0 ∧ gI o 55 = 1) ∨ (q.1 = 1 ∧ gI o 55 = 0 ∧ ∃ π σ lo hi, SIM π σ q.2 o ∧ ZP q.2 o ∧ OI o lo hi)
/-- a block split under another: the order, in the words of m_half -/
theorem OI_hf {t : MS} {lo hi : Nat → Int} {a b k : Nat} {key : Int} {o1 o : Int × MS} (H : OI t lo hi) (hK : KLV t) (ha : a < 48) (hb : b < 48) (la : LV t a) (lb : LV t b) (hlev : 0 < (hM t).1 a) (hk : (k : Int) < (hM t).2.1 a) (hv : (hM t).2.2 a k = (b : Int)) (hz : 2 ≤ (hM t).2.1 b) (hz5 : (hM t).2.1 a ≤ 5) (hab : a ≠ b) (hky : lo b ≤ key ∧ key ≤ hi b)
    (h55 : gI o.2 55 = 0) (W : (0 ≤ o1.1 ∧ o1.1 < 48) ∧ (cM t o1.1.toNat ≤ 0 ∧ vM t o1.1.toNat ≤ 0) ∧ TkE t o1.2 o1.1.toNat ((hM t).1 b)) (HF : HFm a b (k : Int) key t o1 o) : ∃ lo' hi', OI o.2 lo' hi' ∧ (lo' o.1.toNat ≤ key ∧ key ≤ hi' o.1.toNat) := by
  obtain ⟨⟨w0, w1⟩, ⟨c0, v0⟩, TK⟩ := W
  rcases HF with ⟨z, e⟩ | ⟨_, S, q, s, HL, SZ, hRq, _, ev, oq, oa⟩
  · rw [e] at h55
    have h55' : gI o1.2 55 = 0 := h55
    omega
  obtain ⟨r, hr⟩ : ∃ r, r = o1.1.toNat := ⟨_, rfl⟩
  have ri : o1.1 = (r : Int) := by omega
  rw [← hr] at c0 v0 TK HL ev oa
  rw [ri] at ev oa
  have nl : ¬ LV t r := by unfold LV; omega
  have nar : a ≠ r := fun e => nl (by rw [← e]; exact la)
  have nbr : b ≠ r := fun e => nl (by rw [← e]; exact lb)
  have sz := (hK.2.1 b hb lb).1.1.2.1
  have td := half_b (z := (hM t).2.1 b) (E := 100) hz sz.2 (by omega)
  obtain ⟨⟨t1, _, t2⟩, t3, _, t5⟩ := td
  obtain ⟨hlB, hlz, hlc, hl39, _, _⟩ := HL
  obtain ⟨szB, szz, szr, sz39, _⟩ := SZ
  have tk := fun (x : Nat) (hx : x ≠ r) => ROW_tk TK hx
  have z5 : (hM q).2.1 a = (hM t).2.1 a := by rw [BX_z szB hab, BX_z hlB nar]; exact (tk a nar).2.1
  have ta : ((a : Nat) : Int).toNat = a := Int.toNat_natCast _
  have kq0 : R2 (kM q r 0) := by
    show R2 (if 0 < 6 then gA q 49 (21 + 16 * r + 0) else 0)
    rw [if_pos (by decide)]; exact R49 hRq (by omega)
  have WI := wp_det (w_x12_inserts hRq (p0 := (a : Int)) (p1 := (k : Int) + 1) (p2 := kM q r 0) (p3 := (r : Int)) ⟨by omega, by omega⟩ ⟨by omega, by rw [ta, z5]; omega⟩ (by rw [ta, z5]; exact hz5) kq0 ⟨by omega, by omega⟩) ev
  rw [ta, show ((k : Int) + 1).toNat = k + 1 by omega] at WI
  obtain ⟨_, _, B, iz, i1, i2, i3⟩ := WI
  obtain ⟨n, hn⟩ : ∃ n, n = (hM t).2.1 b := ⟨_, rfl⟩
  rw [← hn] at hlz hlc szz t1 t2 t3 t5 hz sz
  obtain ⟨m, hm⟩ : ∃ m, m = n - Int.tdiv n 2 := ⟨_, rfl⟩
  rw [← hm] at hlc szz t3 t5
  have hgo : Int.tdiv n 2 = n - m := by omega
  rw [hgo] at hlz hlc t1 t2
  -- the key that parts
  have sepq : kM q r 0 = kM t b m.toNat := by
    rw [(BX_e (j := 0) szB (fun e => nbr e.symm)).2, (hlc 0 (by omega)).2, Nat.add_zero]
    exact ((tk b nbr).2.2 m.toNat).2
  have OH := OI_half (v := s) (sep := kM t b m.toNat) H hK ha hb la lb hlev hk hv hn.symm ⟨t3, by omega⟩ rfl nl hab
    (by
      refine ⟨?_, ?_, fun j hj => ?_⟩
      · rw [BX_l B, BX_l szB, BX_l hlB]; exact TK.2.2.1
      · rw [BX_z B (fun e => nar e.symm), BX_z szB (fun e => nbr e.symm), hlz]
      · rw [(BX_e (j := j) B (fun e => nar e.symm)).1, (BX_e (j := j) B (fun e => nar e.symm)).2, (BX_e (j := j) szB (fun e => nbr e.symm)).1, (BX_e (j := j) szB (fun e => nbr e.symm)).2, (hlc j hj).1, (hlc j hj).2]
        exact (tk b nbr).2.2 (m.toNat + j))
    (by
      refine ⟨?_, ?_, fun j hj => ?_⟩
      · rw [BX_l B, BX_l szB, BX_l hlB]; exact (tk b nbr).1
      · rw [BX_z B (fun e => hab e.symm), szz]
      · rw [(BX_e (j := j) B (fun e => hab e.symm)).1, (BX_e (j := j) B (fun e => hab e.symm)).2, (szr j).1, (szr j).2, (BX_e (j := j) hlB nbr).1, (BX_e (j := j) hlB nbr).2]
        exact (tk b nbr).2.2 j)
    (by
      have ea : ∀ j, (hM q).2.2 a j = (hM t).2.2 a j ∧ kM q a j = kM t a j := fun j => by
        rw [(BX_e (j := j) szB hab).1, (BX_e (j := j) szB hab).2, (BX_e (j := j) hlB nar).1, (BX_e (j := j) hlB nar).2]
        exact (tk a nar).2.2 j
      refine ⟨?_, by rw [iz, z5], fun j hj => ?_, ⟨i2.1, by rw [i2.2]; exact sepq⟩, fun j j1 j2 => ?_⟩
      · rw [BX_l B, BX_l szB, BX_l hlB]; exact (tk a nar).1
      · rw [(i1 j hj).1, (i1 j hj).2]; exact ea j
      · rw [(i3 j j1 (by rw [z5]; exact j2)).1, (i3 j j1 (by rw [z5]; exact j2)).2]; exact ea j)
    (fun x x1 x2 x3 => ROW_t (ROW_t (ROW_t (tk x x1) (ROW_bx hlB x1)) (ROW_bx szB x3)) (ROW_bx B x2))
    (fun x hx hl => by
      by_cases e : x = r
      · exact Or.inl e
      · refine Or.inr ?_
        unfold LV at hl ⊢
        rw [BX_c B, BX_c szB, BX_c hlB, BX_v B, BX_v szB, BX_v hlB] at hl
        have c1 : cM o1.2 x = cM t x := TK.1 (17 + 16 * x) (by omega)
        have c2 : vM o1.2 x = vM t x := TK.1 (18 + 16 * x) (by omega)
        rw [← c1, ← c2]; exact hl)
  obtain ⟨O1, o2, o3⟩ := OH
  have kv : kM s r 0 = kM t b m.toNat := ((BX_e (j := 0) B (fun e => nar e.symm)).2).trans sepq
  rw [kv] at oa
  refine ⟨_, _, by rw [oq]; exact O1, ?_⟩
  rcases oa with ⟨x1, x2⟩ | ⟨x1, x2⟩
  · rw [x2, Int.toNat_natCast, upZ_n nbr, upZ_n nbr, upZ_s]; omega
  · rw [x2, Int.toNat_natCast, upZ_s, upZ_s]; omega
theorem OI_49 {t o : MS} {lo hi : Nat → Int} (H : OI t lo hi) (e : gA o 49 = gA t 49) : OI o lo hi := by
  obtain ⟨e1, e2, e3, e4⟩ := eq49 e
  refine OI_same H (fun x hx hl => ⟨?_, Or.inl ⟨by rw [e1], by rw [e1], fun k => by rw [e1, e2]; exact ⟨rfl, rfl⟩⟩⟩)
  unfold LV at hl ⊢
  rw [← e3, ← e4]; exact hl
set_option maxHeartbeats 4000000 in
theorem y_plant_L {t0 : MS} {v : Nat} {key val : Int} (hv : v < 8) (hkey : 0 ≤ key ∧ key ≤ 999) (hval : 0 ≤ val ∧ val ≤ 999) (hC0 : CE t0 0) (hC1 : CE t0 1) (hE : 3 ≤ gA t0 39 6 ∧ gA t0 39 6 ≤ 6) (hN0 : 0 ≤ gA t0 39 5) : ∀ (n m : Nat) (i : Int) (b : Nat) (S T : MS) (π σ : Nat → Nat) (lo hj : Nat → Int), GJ t0 v key S T π σ lo hj b i → pc (m_x1_plant_L117 n key val (π b : Int) i S) (fun q => pc (m_x12_puts_L94 m key val (b : Int) T) (fun o => CON q o)) := by
  refine fr_ind (fun _ _ _ _ _ _ _ _ _ _ => pc_none) (fun n ih m i b S T π σ lo hj G => ?_)
  cases m with
  | zero => exact fun q _ => pc_none
  | succ m =>
    obtain ⟨⟨h, hZ⟩, ⟨hR, hRt⟩, hKS, ⟨TSs, hCur, h581⟩, ⟨h55, hG⟩, hO, hky⟩ := G
    have hG0 := hG
    obtain ⟨hW, M, TT, P, hA⟩ := hG0
    obtain ⟨⟨ha, a54, a55⟩, a56, a57, am, amu⟩ := hA
    have tb : ((b : Nat) : Int).toNat = b := Int.toNat_natCast _
    have tp : ((π b : Nat) : Int).toNat = π b := Int.toNat_natCast _
    rw [tb] at a54 a55 a56 a57 am amu
    have hb : b < 48 := by omega
    have S39 := hKS.1.1
    have hK : KLV T := KLV_of TT (fun _ _ => Int.le_refl 0)
    have lb : LV T b := Or.inl (by omega)
    have hKs : ∀ x, x < 48 → LV T x → 0 ≤ (hM T).2.1 x ∧ (hM T).2.1 x ≤ 6 := fun x hx l => (hK.2.1 x hx l).1.1.2.1
    have Bb := sim_b h hb lb
    have hP := h.1.1
    have pb48 := (hP b hb).1.1
    have z1 : gA S 57 (π b) = (hM T).2.1 b := Bb.2.1
    have n1 : 1 ≤ (hM T).2.1 b := TT.2.2.1.1 b hb (by omega) (by omega)
    have sb := hKs b hb lb
    have NT : 0 ≤ gA T 39 5 ∧ gA T 39 5 ≤ 48 := ⟨by rw [S39]; exact hN0, TT.1.1⟩
    have l0 := (hK.2.1 b hb lb).1.1.1
    by_cases hi : i ≤ 0
    · refine s_step0 hi (fun s8 e8 => m_step0 h55 (by omega) (fun s9 e9 => ?_))
      have so := ((hO b hb lb).2.1 (by omega)).1
      have Y := y_low h hKs hR hRt hb lb (by omega) (by rw [S39] at a57; omega) so hkey hval e8 e9
      have F8 : F_x1_plantLow S s8 := fr_x1_plantLow e8
      have F9 : F_x12_putsIn T s9 := fr_x12_putsIn e9
      refine Or.inr ⟨rfl, (F9.1 55 (by decide)).trans h55, π, σ, lo, hj, Y.1, ZP_k hZ (F8.1 581 (by decide)) (F8.1 741 (by decide)) (fun k k1 k2 => F8.2.1 k (by simp; omega)) (fun k hk => F9.2.1 k (by simp; omega)), ?_⟩
      rcases Y.2 with ⟨k, I, pI, ne⟩ | ⟨bx, z, kk⟩
      · exact OI_leaf hO hb lb (by omega) I hky (by rw [S39] at a57; omega) pI ne (fun x hx l => (hKs x hx l).2)
      · refine OI_same hO (fun x hx hl => ⟨?_, ?_⟩)
        · unfold LV at hl ⊢
          rw [← BX_c bx, ← BX_v bx]; exact hl
        · by_cases e : x = b
          · rw [e]; exact Or.inr ⟨by rw [BX_l bx]; omega, by omega, z, kk⟩
          · exact Or.inl (ROW_bx bx e)
    · have ev : ∀ k : Nat, (k : Int) < (hM T).2.1 b → gA S 59 (6 * π b + k) = (π ((hM T).2.2 b k).toNat : Int) := fun k hk => (Bb.2.2 k hk).2.1 (by omega)
      refine s_step1 (by omega) (fun r q30 hEF e30 => ?_)
      have e30o := e30
      have r0 := hEF.1
      have r1 : r < (hM T).2.1 b := by
        rcases hEF.2.1 with w | w
        · omega
        · rw [← z1]; exact w.1
      have EFT : EF (kM T b) ((hM T).2.1 b) key r := by
        have q := EF_c (g := kM T b) (fun k hk => ((Bb.2.2 k (by rw [← z1]; exact hk)).1).symm) hEF
        rw [z1] at q; exact q
      rw [ev r.toNat (by omega)] at e30
      have kid := (hK.2.1 b hb lb).2 (by omega) r.toNat (by omega)
      have kidN := (hK.2.1 b hb lb).1.1.2.2 (by omega) r.toNat (by omega)
      obtain ⟨y, hy⟩ : ∃ y, y = ((hM T).2.2 b r.toNat).toNat := ⟨_, rfl⟩
      rw [← hy] at e30 kid kidN
      have y48 : y < 48 := by omega
      have yv : (hM T).2.2 b r.toNat = (y : Int) := by omega
      have ty : ((y : Nat) : Int).toNat = y := Int.toNat_natCast _
      have tpy : ((π y : Nat) : Int).toNat = π y := Int.toNat_natCast _
      have py48 := (hP y y48).1.1
      have nby : b ≠ y := fun e => by rw [← e] at kidN; omega
      have hcy : 0 < cM T y := by
        have k := TG_kid (p := b) (k := r.toNat) TT (fun _ _ => Int.le_refl 0) hb (by omega) (by omega) (by omega)
        rw [yv, ty] at k; exact k.2.2
      have cy := sim_c h y48
      have zD' : ∀ x, x < 48 → 0 ≤ Z0 x ∧ Z0 x ≤ 10 := fun x _ => ⟨Int.le_refl 0, by show (0 : Int) ≤ 10; omega⟩
      have W30 := wp_det (ts_owned hR TSs zD' (by omega) (p0 := (π y : Int)) ⟨by omega, by omega⟩ (by rw [tpy, cy.1]; exact hcy)) e30
      have km := kid_mu (k := r.toNat) hv P hb (by omega) (by omega) (by omega)
      have ke := enf_pos (h := hM T) (p := b) (k := r.toNat) (i := 0) (by omega) (by omega) (by omega) (by omega)
      rw [yv] at km ke
      have OWN : ∀ q46 : Int × MS, m_x12_owned (y : Int) T = some q46 → (q30.1 = -1 ∧ gI q46.2 55 = 1) ∨ (gI q46.2 55 = 0 ∧ 0 ≤ q30.1 ∧ 0 ≤ q46.1 ∧ ∃ π' σ', SIM π' σ' q30.2 q46.2 ∧ q30.1 = (π' q46.1.toNat : Int) ∧ (∀ x, x < 48 → LV T x → π' x = π x) ∧ CPY T q46.2 y q46.1.toNat) := fun q46 e46 => by
        have W46 := wp_det (mt_owned (M := M) hRt hv TT P (KS_CE hKS hC0) (by rw [S39]; omega) h55 (p0 := (y : Int)) ⟨by omega, by omega⟩ (by rw [ty]; exact hcy) km (own_x hv TT P (by rw [ty]; exact y48) (Or.inr ⟨b, hb, by omega, by
          rw [ty]
          have q : 1 ≤ en (hM T) b (y : Int) := ke
          omega, fun u hu hn => by rw [amu u hu hn]; omega⟩))) e46
        have Y := y_ownB (v := v) (M := M) h hK hR hRt TSs TT (KS_CE hKS hC0) (by omega) (by rw [S39]; omega) h55 (p := (π y : Int)) (p' := (y : Int)) ⟨by omega, by omega⟩ (by rw [ty]) (by rw [ty]; exact hcy) e30 e46 W30.2.2 W46.2.2.2
        rw [ty] at Y; exact Y
      have PFr : ∀ r' : Int, PF (kM T b) ((hM T).2.1 b) key r' → r' = r := fun r' hPF => (EF_PF (OI_SO hO hK hb lb) (fun _ _ => rfl) EFT hPF).symm
      refine ⟨fun c => ?_, fun c s34 q37 e34 e37 => ?_⟩
      · refine m_step1 h55 (by omega) ⟨n1, sb.2⟩ (fun r' q46 hPF e46 => ?_)
        rw [PFr r' hPF, yv] at e46
        rw [PFr r' hPF]
        have f : gI q46.2 55 = 1 := by
          rcases OWN q46 e46 with x | x
          · exact x.2
          · exact absurd c (by have := x.2.1; omega)
        refine ⟨fun _ => pc_mono (m_J162F f) (fun o ho => Or.inl ⟨rfl, ho⟩), fun _ s53 e53 => ?_⟩
        have F53 : F_x12_setsEntry q46.2 s53 := fr_x12_setsEntry e53
        exact pc_mono (m_J162F ((F53.1 55 (by decide)).trans f)) (fun o ho => Or.inl ⟨rfl, ho⟩)
      · -- the child is each side's own
        have C := c_next hR TSs (CurO_of hCur) (by omega) (by omega) (r := r) ⟨r0, by rw [tp, z1]; exact r1⟩ (by rw [tp]; exact e30o) c e34
        rw [tp] at C
        obtain ⟨hR34, T34, q30r, ⟨g54, g55, g56⟩, Cb, ge, g57⟩ := C
        have F30 : F_x1_owned S q30.2 := fr_x1_owned e30
        have F34 : F_x8_set q30.2 s34 := fr_x8_set e34
        have STEP : ∀ (q46 : Int × MS) (X : MS), m_x12_owned (y : Int) T = some q46 → (((hM q46.2).2.2 b r.toNat = q46.1 ∧ X = q46.2) ∨ ((hM q46.2).2.2 b r.toNat ≠ q46.1 ∧ m_x12_setsEntry (b : Int) r (kM q46.2 b r.toNat) q46.1 q46.2 = some X)) → ∃ (cc : Nat) (π1 σ1 : Nat → Nat) (lo1 hj1 : Nat → Int), (q46.1 = (cc : Int) ∧ cc < 48 ∧ q30.1 = (π1 cc : Int) ∧ π1 b = π b) ∧ (SIM π1 σ1 s34 X ∧ ZP s34 X) ∧ (OI X lo1 hj1 ∧ (lo1 cc ≤ key ∧ key ≤ hj1 cc)) ∧ (Rr X ∧ KS t0 X ∧ gI X 55 = 0 ∧ RWn t0 X v) ∧ (∃ M', TM X d0 (-1) ∧ PM X v M' d0 (-1) ∧ CurMo X v M' (b : Int) i ∧ ((cM X cc = 1 ∧ vM X cc = 0) ∧ (hM X).1 cc = i - 1 ∧ (M' v cc = 1 ∧ ∀ u, u < 16 → u ≠ v → M' u cc = 0))) ∧ ((hM X).2.1 b = (hM T).2.1 b ∧ (hM X).2.2 b r.toNat = (cc : Int)) := fun q46 X e46 hX => by
          rcases OWN q46 e46 with x | ⟨x55, x1, x2, π1, σ1, H1, x3, x4, CP⟩
          · exact absurd x.1 c
          obtain ⟨cc, hcc⟩ : ∃ cc, cc = q46.1.toNat := ⟨_, rfl⟩
          have ci : q46.1 = (cc : Int) := by omega
          rw [← hcc] at x3 CP
          obtain ⟨CP1, CP2, CP3, CP4⟩ := CP
          have RN := r_next hv hRt hKS hC0 hE h55 (GDo_of hG) (by omega) ⟨r0, r1⟩ (by rw [yv]; exact e46) x55 hX
          rw [yv, ty, ← hcc] at RN
          obtain ⟨RX, KX, X55, WX, cR, _, ⟨BXx, zX, ⟨vX, vX'⟩, kX⟩, MX, lastX⟩ := RN
          have c48 : cc < 48 := by omega
          have ncb : b ≠ cc := fun e => by
            rcases CP4 with w | w
            · exact nby (e.trans w)
            · exact w (by rw [← e]; exact lb)
          have rb := CP2 b ncb
          have LVb : LV q46.2 b := by
            obtain ⟨M', TX, _, hAX, _⟩ := MX
            have q := hAX.1.2.1
            rw [tb] at q
            rw [BX_c BXx] at q
            exact Or.inl (by omega)
          have K46 : ∀ x, x < 48 → LV q46.2 x → 0 ≤ (hM q46.2).2.1 x ∧ (hM q46.2).2.1 x ≤ 6 := fun x hx hl => by
            rcases CP3 x hx hl with w | w
            · rw [w, CP1.2.1]; exact hKs y y48 kid.2
            · by_cases e : x = cc
              · rw [e, CP1.2.1]; exact hKs y y48 kid.2
              · rw [(CP2 x e).2.1]; exact hKs x hx w
          have eb : (hM q46.2).2.2 b r.toNat = (y : Int) := by rw [(rb.2.2 r.toNat).1]; exact yv
          have B46 := sim_b H1 hb LVb
          have kb : π1 b = π b := x4 b hb lb
          have P1 := H1.1.1
          have R46 : Rr q46.2 := (wp_det (mt_owned (M := M) hRt hv TT P (KS_CE hKS hC0) (by rw [S39]; omega) h55 (p0 := (y : Int)) ⟨by omega, by omega⟩ (by rw [ty]; exact hcy) km (own_x hv TT P (by rw [ty]; exact y48) (Or.inr ⟨b, hb, by omega, by
            rw [ty]
            have q : 1 ≤ en (hM T) b (y : Int) := ke
            omega, fun u hu hn => by rw [amu u hu hn]; omega⟩))) e46).1
          have lev46 : 0 < (hM q46.2).1 b := by rw [rb.1]; omega
          have vc := (B46.2.2 r.toNat (by rw [rb.2.1]; omega)).2.1 lev46
          rw [eb, ty] at vc
          have Y2 := y_set H1 K46 W30.1 R46 hb LVb (p1 := r) (v1 := q30.1) (v2 := q46.1) ⟨r0, by rw [rb.2.1]; exact r1⟩ ⟨by omega, by omega⟩ ⟨by omega, by omega⟩ ⟨fun _ => by rw [← hcc]; exact x3, fun w => by omega⟩ (by
            rw [eb, show gA q30.2 59 (6 * π1 b + r.toNat) = (π1 y : Int) from vc, x3, ci]
            constructor
            · intro e
              rw [show y = cc by omega]
            · intro e
              have := PB_i P1 y48 c48 (by omega)
              omega) (by rw [kb]; exact e34) (by
            rcases hX with w | w
            · exact Or.inl ⟨w.1, w.2⟩
            · exact Or.inr w)
          obtain ⟨H2, _, _⟩ := Y2
          have ZX : ZP s34 X := by
            have F46 : F_x12_owned T q46.2 := fr_x12_owned e46
            have X39 : ∀ k, k = 39 ∨ (42 ≤ k ∧ k ≤ 44) → gA X k = gA T k := fun k hk => by
              rcases hX with w | w
              · rw [w.2]; exact F46.2.1 k (by simp; omega)
              · have F53 : F_x12_setsEntry q46.2 X := fr_x12_setsEntry w.2
                rw [F53.2.1 k (by simp; omega)]; exact F46.2.1 k (by simp; omega)
            exact ZP_k hZ ge (by rw [F34.1 741 (by decide), F30.1 741 (by decide)]) (fun k k1 k2 => by rw [F34.2.1 k (by simp; omega), F30.2.1 k (by simp; omega)]) X39
          have OX := OI_own (S := X) (b := b) (y := y) (r := cc) (k := r.toNat) (key := key) hO hK hb lb (by omega) (by omega) yv hky (by
              rw [show ((r.toNat : Nat) : Int) = r by omega]
              obtain ⟨f1, f2, f3⟩ := EFT
              refine ⟨f1, f2.imp id (fun w => w.1), fun k k1 k2 => ?_, fun w => ?_⟩
              · rcases f2 with w | w
                · omega
                · by_cases e : k = r.toNat
                  · rw [e]; exact w.2
                  · have := OI_SO hO hK hb lb k r.toNat k1 (by omega) (by omega)
                    omega
              · exact f3 (r + 1).toNat (by omega) (by omega) (by omega))
            (ROW_t CP1 (ROW_bx BXx (fun e => ncb e.symm))) (fun e => ncb e.symm) (fun x x1' x2' => ROW_t (CP2 x x1') (ROW_bx BXx x2')) ⟨by rw [BX_l BXx]; exact rb.1, by rw [zX]; exact rb.2.1, fun j => by rw [kX j]; exact (rb.2.2 j).2, vX.trans ci, fun j hj' => by rw [vX' j hj']; exact (rb.2.2 j).1⟩ (fun x hx hl => by
              refine CP3 x hx ?_
              unfold LV at hl ⊢
              rw [← BX_c BXx, ← BX_v BXx]; exact hl) (by
              rcases CP4 with w | w
              · refine Or.inl ⟨w, fun p k' hp lp hlp hk' hv' => ?_⟩
                have cv := lastX w
                have OP := one_par TT y48 rfl hb (by omega) (by omega) (k := r.toNat) (by omega) yv cv.1
                rcases lp with cp | cp
                · exact OP p k' hp cp hlp hk' hv'
                · exfalso
                  have kd := TG_kid (TG_ss TT) (fun _ _ => Int.le_refl 0) hp cp hlp hk'
                  have kd2 := kd.2.2
                  rw [hv', ty] at kd2
                  omega
              · exact Or.inr w)
          obtain ⟨M', TX, PX, hAX, hc1, hc2, hc3⟩ := MX
          exact ⟨cc, π1, σ1, _, _, ⟨ci, c48, x3, kb⟩, ⟨H2, ZX⟩, OX, ⟨RX, KX, X55, WX⟩, ⟨M', TX, PX, hAX, hc1, hc2, hc3⟩, by rw [zX]; exact rb.2.1, vX.trans ci⟩
        -- whether it splits
        have B30 : (0 : Int) ≤ q30.1 ∧ q30.1 < 48 := q30r
        obtain ⟨hR37, h37⟩ := wp_det (w_x1_splits hR34 B30) e37
        have F37 : F_x1_splits s34 q37.2 := fr_x1_splits e37
        have T37 : TS q37.2 Z0 (-1) := TS_eq T34 (F37.2.1 54 (by decide)) (F37.2.1 55 (by decide)) (F37.2.1 56 (by decide)) (F37.2.1 57 (by decide)) (F37.2.1 58 (by decide)) (F37.2.1 59 (by decide)) (F37.2.1 60 (by decide)) (F37.2.1 61 (by decide)) (F37.1 1060 (by decide)) (F37.1 581 (by decide))
        have k54 : gA q37.2 54 = gA s34 54 := F37.2.1 54 (by decide)
        have k55 : gA q37.2 55 = gA s34 55 := F37.2.1 55 (by decide)
        have k56 : gA q37.2 56 = gA s34 56 := F37.2.1 56 (by decide)
        have k57 : gA q37.2 57 = gA s34 57 := F37.2.1 57 (by decide)
        have k581 : gI q37.2 581 = gI S 581 := (F37.1 581 (by decide)).trans ge
        -- what both have behind that
        have SPL : ∀ (q46 : Int × MS) (X : MS), m_x12_owned (y : Int) T = some q46 → (((hM q46.2).2.2 b r.toNat = q46.1 ∧ X = q46.2) ∨ ((hM q46.2).2.2 b r.toNat ≠ q46.1 ∧ m_x12_setsEntry (b : Int) r (kM q46.2 b r.toNat) q46.1 q46.2 = some X)) → ∀ q : Int × MS, ((q37.1 = 0 ∧ m_x1_plant_L117 n key val q30.1 (i + -1) q37.2 = some q) ∨ (q37.1 ≠ 0 ∧ ∃ q42 : Int × MS, m_x1_split (π b : Int) r q30.1 key q37.2 = some q42 ∧ m_x1_plant_L117 n key val q42.1 (i + -1) q42.2 = some q)) → pc (m_x12_puts_J162 (m_x12_puts_L94 m) key val (b : Int) r q46.1 X) (fun o => CON q o) := fun q46 X e46 hX q hq => by
          obtain ⟨cc, π1, σ1, lo1, hj1, ⟨ci, c48, x3, kb⟩, ⟨H2, ZX⟩, ⟨OX, oky⟩, ⟨RX, KX, X55, WX⟩, ⟨M', TX, PX, hAX, hc1, hc2, hc3⟩, zbX, vbX⟩ := STEP q46 X e46 hX
          have tcc : ((cc : Nat) : Int).toNat = cc := Int.toNat_natCast _
          have tpc : ((π1 cc : Nat) : Int).toNat = π1 cc := Int.toNat_natCast _
          have KXv : KLV X := KLV_of TX (fun _ _ => Int.le_refl 0)
          have lc : LV X cc := Or.inl (by omega)
          have nc := (KXv.2.1 cc c48 lc).1
          rw [ci]
          refine m_J162 X55 (fun q28 e28 => ?_)
          have Y4 := y_splits H2 c48 lc ZX RX ⟨nc.1.2.1, nc.2, nc.1.1⟩ (by rw [← x3]; exact e37) e28
          obtain ⟨v1, v2, H5, ZP5⟩ := Y4
          have X39 := KX.1.1
          obtain ⟨R28, h28⟩ := wp_det (w_x12_doesSplit RX (p0 := (cc : Int)) ⟨by omega, by omega⟩ (KS_CE KX hC1) (by rw [tcc]; exact nc.1.2.1) (by rw [tcc]; have := nc.2; have := nc.1.1; omega) (by rw [X39]; omega)) e28
          rw [tcc] at h28
          have F28 : F_x12_doesSplit X q28.2 := fr_x12_doesSplit e28
          have a49 : gA q28.2 49 = gA X 49 := F28.2.1 49 (by decide)
          have a39 : gA q28.2 39 = gA X 39 := F28.2.1 39 (by decide)
          have K28 : KS t0 q28.2 := KS_t KX ⟨⟨a39, F28.2.1 42 (by decide), F28.2.1 43 (by decide), F28.2.1 44 (by decide)⟩, fun j _ => by rw [a49]⟩
          obtain ⟨d1, d2, d3, d4⟩ := eq49 a49
          have T28 : TM q28.2 d0 (-1) := TM_eq TX a49 a39
          have P28 : PM q28.2 v M' d0 (-1) := PM_e PX a49 a39 (by omega)
          have W28 : RWn t0 q28.2 v := ⟨fun u hu hn => by rw [a49]; exact WX.1 u hu hn, by rw [a49]; exact WX.2⟩
          have f55 : gI q28.2 55 = 0 := (F28.1 55 (by decide)).trans X55
          have O28 : OI q28.2 lo1 hj1 := OI_49 OX a49
          refine ⟨fun z => ?_, fun z q33 e33 => ?_⟩
          · rcases hq with ⟨z2, eq⟩ | ⟨z2, _⟩
            · have w57 : gA s34 57 q30.1.toNat < gI s34 581 := by
                rcases h37 with w | w
                · exact w.2
                · omega
              have w28 : (hM X).2.1 cc < gA X 39 6 := by
                rcases h28 with w | w
                · omega
                · exact w.2
              rw [x3] at eq
              refine ih m (i + -1) cc q37.2 q28.2 π1 σ1 lo1 hj1 ⟨⟨H5, ZP5⟩, ⟨hR37, R28⟩, K28, ⟨T37, ?_, by omega⟩, ⟨f55, W28, M', T28, P28, ?_⟩, O28, oky⟩ q eq
              · refine ⟨⟨by omega, by have := (H2.1.1 cc c48).1.1; omega⟩, ?_, ?_, ?_, ?_⟩
                · rw [k54, ← x3]; exact g54
                · rw [k55, ← x3]; exact g55
                · rw [k56, ← x3, g56]; omega
                · rw [k57, ← x3, k581, ← ge]; exact w57
              · refine ⟨⟨⟨by omega, by omega⟩, ?_, ?_⟩, ?_, ?_, ?_, fun u hu hn => ?_⟩
                · rw [tcc, d3]; exact hc1.1
                · rw [tcc, d4]; exact hc1.2
                · rw [tcc, d1, hc2]; omega
                · rw [tcc, d1, a39]; exact w28
                · rw [tcc]; exact hc3.1
                · rw [tcc]; exact hc3.2 u hu hn
            · exact absurd (v1.trans z) z2
          · rcases hq with ⟨z2, _⟩ | ⟨_, q42, e42, eq⟩
            · exact absurd (v1.symm.trans z2) z
            have K28v : KLV q28.2 := KLV_of T28 (fun _ _ => Int.le_refl 0)
            have hAX' := hAX
            obtain ⟨⟨xa, xb, xc⟩, xd, xf⟩ := hAX'
            rw [tb] at xb xc xd xf
            have xe : (hM X).2.1 b < gA X 39 6 := by rw [zbX, X39, ← S39]; exact a57
            have lb28 : LV q28.2 b := Or.inl (by rw [d3]; omega)
            have lc28 : LV q28.2 cc := Or.inl (by rw [d3]; omega)
            have ncb : b ≠ cc := fun e => by rw [← e] at hc2; omega
            have z2 : 2 ≤ (hM X).2.1 cc := by
              rcases h28 with w | w
              · rcases w.2 with u | u
                · rw [X39] at u; omega
                · exact u
              · omega
            have b37 : gA q37.2 57 (π b) = (hM T).2.1 b := by rw [k57, g57]; exact z1
            have E6 : gA X 39 6 = gA t0 39 6 := by rw [X39]
            have N28 : 0 ≤ gA q28.2 39 5 ∧ gA q28.2 39 5 ≤ 48 := ⟨by rw [a39, X39]; exact hN0, T28.1.1⟩
            have Y5 := y_split H5 K28v hR37 R28 T37 (fun x _ => Int.le_refl 0) N28 (KS_CE K28 hC0) (by rw [k581]; omega) f55 hb c48 ncb lb28 lc28 (by rw [d1]; exact z2) (p1 := r) (key := key) ⟨r0, by rw [d1, zbX]; exact r1⟩ (by rw [d1]; omega) (by rw [d1, xd]; omega) (by rw [kb, ← x3]; exact e42) e33
            rcases Y5 with ⟨y1, y2⟩ | ⟨y1, y2, y3, π2, σ2, H6, y4, y5⟩
            · rw [y1] at eq
              exact pc_mono (m_stepF m _ _ y2) (fun o ho => Or.inl ⟨s_stepF n _ _ q eq, ho⟩)
            · have WS := wp_det (ts_split (i := i - 1) hR37 T37 (fun x _ => Int.le_refl 0) (by rw [k581]; exact h581) (p0 := (π b : Int)) (p1 := r) (p2 := q30.1) (p3 := key) ⟨⟨by omega, by omega⟩, by rw [tp, k54]; have q := Cb.2.1; rw [tp] at q; exact q, by rw [tp, k55]; have q := Cb.2.2.1; rw [tp] at q; exact q, by rw [tp, k56]; have q := Cb.2.2.2; rw [tp] at q; omega, by rw [tp, b37, k581]; have q := hCur.2.2.2.2; rw [tp, z1] at q; exact q⟩ ⟨r0, by rw [tp, b37]; exact r1⟩ ⟨B30, by rw [k54]; exact g54, by rw [k55]; exact g55, by rw [k56]; exact g56, by
                have q := (sim_b H5 c48 lc28).2.1
                have q' : gA q37.2 57 (π1 cc) = (hM q28.2).2.1 cc := q
                rw [x3, tpc, q', d1]; exact z2⟩ ⟨by omega, by omega⟩) e42
              obtain ⟨R42, F42, h42⟩ := WS
              have WH := wp_det (mt_half (i := i - 1) (M := M') R28 hv T28 P28 (KS_CE K28 hC0) (by rw [a39, X39]; exact hE) f55 (p0 := (b : Int)) (p1 := r) (p2 := (cc : Int)) (p3 := key) ⟨⟨xa, by rw [tb, d3]; exact xb, by rw [tb, d4]; exact xc⟩, by rw [tb, d1, xd]; omega, by rw [tb, d1, a39]; exact xe, by rw [tb]; exact xf⟩ ⟨r0, by rw [tb, d1, zbX]; exact r1⟩ ⟨⟨⟨by omega, by omega⟩, by rw [tcc, d3]; exact hc1.1, by rw [tcc, d4]; exact hc1.2⟩, by rw [tcc, d1]; exact hc2, by rw [tcc, d1]; exact z2, by rw [tcc]; exact hc3⟩ ⟨by omega, by omega⟩) e33
              obtain ⟨R33, F33, k33, u33, h33⟩ := WH
              have K33 : KS t0 q33.2 := KS_t K28 ⟨⟨F33.2.1 39 (by decide), F33.2.1 42 (by decide), F33.2.1 43 (by decide), F33.2.1 44 (by decide)⟩, k33⟩
              rcases h42 with h42 | ⟨T42, C42⟩
              · omega
              rcases h33 with h33 | ⟨z0, M3, T33, P33, A33⟩
              · omega
              obtain ⟨o1, eo1, HF⟩ := m_half R28 N28 (KS_CE K28 hC0) f55 c48 lc28 ⟨by rw [d1]; exact nc.1.1, by rw [d1]; exact nc.2⟩ ⟨by rw [d1]; exact z2, by rw [d1]; exact nc.1.2.1.2⟩ q33 e33
              have W2 := (wp_det (w_x12_taken R28 N28 (KS_CE K28 hC0) (p0 := (hM q28.2).1 cc) (p1 := (cc : Int)) ⟨by rw [d1]; exact nc.1.1, by rw [d1]; have := nc.2; omega⟩ ⟨by omega, by omega⟩) eo1).2.2
              have O33 : ∃ lo' hi', OI q33.2 lo' hi' ∧ (lo' q33.1.toNat ≤ key ∧ key ≤ hi' q33.1.toNat) := by
                rcases W2 with w | ⟨_, w1, w2, w3⟩
                · exfalso
                  rcases HF with ⟨_, e⟩ | ⟨w', _⟩
                  · rw [e] at z0; have z0' : gI o1.2 55 = 0 := z0; omega
                  · omega
                · have HF' : HFm b cc ((r.toNat : Nat) : Int) key q28.2 o1 q33 := by
                    rw [show ((r.toNat : Nat) : Int) = r by omega]; exact HF
                  exact OI_hf O28 K28v hb c48 lb28 lc28 (by rw [d1, xd]; omega) (k := r.toNat) (by rw [d1, zbX]; omega) (by rw [d1]; exact vbX) (by rw [d1]; exact z2) (by rw [d1]; omega) ncb oky z0 ⟨⟨w1.1, by omega⟩, w2, w3⟩ HF'
              obtain ⟨lo3, hj3, O3, k3⟩ := O33
              have q33i : q33.1 = ((q33.1.toNat : Nat) : Int) := by omega
              rw [y4] at eq
              rw [q33i]
              have ZP6 : ZP q42.2 q33.2 := ZP_k ZP5 (F42.1 581 (by decide)) (F42.1 741 (by decide)) (fun k k1 k2 => F42.2.1 k (by simp; omega)) (fun k hk => F33.2.1 k (by simp; omega))
              refine ih m (i + -1) q33.1.toNat q42.2 q33.2 π2 σ2 lo3 hj3 ⟨⟨H6, ZP6⟩, ⟨R42, R33⟩, K33, ⟨T42, ?_, by rw [F42.1 581 (by decide), k581]; exact h581⟩, ⟨z0, ⟨fun u hu hn => by rw [u33 u hu z0]; exact W28.1 u hu hn, by rw [u33 v (by omega) z0]; exact W28.2⟩, M3, T33, P33, ?_⟩, O3, k3⟩ q eq
              · rw [← y4, show i + -1 = i - 1 by omega]; exact C42
              · rw [← q33i, show i + -1 = i - 1 by omega]; exact A33
        -- the reference's step
        have REF : ∀ q : Int × MS, ((q37.1 = 0 ∧ m_x1_plant_L117 n key val q30.1 (i + -1) q37.2 = some q) ∨ (q37.1 ≠ 0 ∧ ∃ q42 : Int × MS, m_x1_split (π b : Int) r q30.1 key q37.2 = some q42 ∧ m_x1_plant_L117 n key val q42.1 (i + -1) q42.2 = some q)) → pc (m_x12_puts_L94 (m + 1) key val (b : Int) T) (fun o => CON q o) := fun q hq => by
          refine m_step1 h55 (by omega) ⟨n1, sb.2⟩ (fun r' q46 hPF e46 => ?_)
          rw [PFr r' hPF] at e46 ⊢
          rw [yv] at e46 ⊢
          have eb : gI q46.2 55 = 0 ∧ (hM q46.2).2.2 b r.toNat = (y : Int) := by
            rcases OWN q46 e46 with x | ⟨x55, _, x2, π1, σ1, _, _, _, CP⟩
            · exact absurd x.1 c
            · refine ⟨x55, ?_⟩
              have ncb : b ≠ q46.1.toNat := fun e => by
                rcases CP.2.2.2 with w | w
                · exact nby (e.trans w)
                · exact w (by rw [← e]; exact lb)
              rw [((CP.2.1 b ncb).2.2 r.toNat).1]; exact yv
          exact ⟨fun w => SPL q46 q46.2 e46 (Or.inl ⟨by rw [eb.2, w], rfl⟩) q hq, fun w s53 e53 => SPL q46 s53 e46 (Or.inr ⟨fun w2 => w (by rw [← w2, eb.2]), e53⟩) q hq⟩
        exact ⟨fun c2 q eq => REF q (Or.inl ⟨c2, eq⟩), fun c2 q42 e42 q eq => REF q (Or.inr ⟨c2, q42, e42, eq⟩)⟩
