/-! ===== the class's steps: how high they pile, and what they tell of ===== -/
/-- at least these kinds -/
def sb : List Bool → List Bool → Prop
  | Q, [] => Q = []
  | Q, y :: P => ∃ x R, Q = x :: R ∧ (y = true → x = true) ∧ sb R P
theorem sb_rf : ∀ P : List Bool, sb P P
  | [] => rfl
  | x :: P => ⟨x, P, rfl, fun h => h, sb_rf P⟩
theorem sb_len : ∀ {P Q : List Bool}, sb Q P → Q.length = P.length := by
  intro P
  induction P with
  | nil => intro Q h; rw [show Q = [] from h]
  | cons y P ih =>
    intro Q h
    obtain ⟨x, R, rfl, _, h2⟩ := h
    show R.length + 1 = P.length + 1
    rw [ih h2]
theorem sb_app : ∀ {P1 Q1 P2 Q2 : List Bool}, sb Q1 P1 → sb Q2 P2 → sb (Q1 ++ Q2) (P1 ++ P2) := by
  intro P1
  induction P1 with
  | nil => intro Q1 P2 Q2 h g; rw [show Q1 = [] from h]; exact g
  | cons y P ih =>
    intro Q1 P2 Q2 h g
    obtain ⟨x, R, rfl, h1, h2⟩ := h
    exact ⟨x, R ++ Q2, rfl, h1, ih h2 g⟩
/-- what a formula of splits may tell of -/
def okc (m c : Int) : Prop := m = 1 → ¬ (c = -13 ∨ c = -14) ∧ (c ≤ -100 → c = -113 ∨ c = -114)
def SG1 (B : Int) (P : List Bool) (s o : MS) : Prop := (∀ j : Nat, gI s 941 ≤ (j : Int) → (j : Int) < gI o 941 → okc (gI s 105) (gA o 48 j)) ∧ ∀ L : List Bool, (∃ Q, sb Q P ∧ tyr (gA o 48) (gI s 941).toNat (gI o 941 - gI s 941).toNat L = some (Q ++ L)) ∧ ∀ n : Nat, n ≤ (gI o 941 - gI s 941).toNat → ∃ R, tyr (gA o 48) (gI s 941).toNat n L = some R ∧ (R.length : Int) ≤ B + L.length
def SG (B : Int) (P : List Bool) (s o : MS) : Prop := AP s o ∧ gI o 105 = gI s 105 ∧ (gI o 100 = 0 → gI s 100 = 0) ∧ (0 ≤ gI s 941 → gI o 941 < 1600 → gI o 100 = 0 → SG1 B P s o)
theorem SG_tr {B B1 B2 : Int} {P P1 P2 : List Bool} {s o q : MS} (h : SG B1 P1 s o) (g : SG B2 P2 o q) (hB : B1 ≤ B) (hB2 : (P1.length : Int) + B2 ≤ B) (hd : P = P2 ++ P1) : SG B P s q := by
  obtain ⟨a1, a2, a3, a4⟩ := h
  obtain ⟨b1, b2, b3, b4⟩ := g
  refine ⟨a1.tr b1, b2.trans a2, fun z => a3 (b3 z), fun p0 p1 p2 => ?_⟩
  have l1 := a1.1
  have l2 := b1.1
  obtain ⟨c1, c2⟩ := a4 p0 (by omega) (b3 p2)
  obtain ⟨e1, e2⟩ := b4 (by omega) p1 p2
  have cc : ∀ (n : Nat) (L : List Bool), n ≤ (gI o 941 - gI s 941).toNat → tyr (gA q 48) (gI s 941).toNat n L = tyr (gA o 48) (gI s 941).toNat n L := fun n L hn => tyr_c (fun j j1 j2 => b1.2 j (by omega))
  have at2 : (gI s 941).toNat + (gI o 941 - gI s 941).toNat = (gI o 941).toNat := by omega
  refine ⟨fun j j1 j2 => ?_, fun L => ?_⟩
  · by_cases z : (j : Int) < gI o 941
    · rw [b1.2 j z]; exact c1 j j1 z
    · rw [← a2]; exact e1 j (by omega) j2
  · obtain ⟨⟨Q1, q1, r1⟩, m1⟩ := c2 L
    obtain ⟨⟨Q2, q2, r2⟩, m2⟩ := e2 (Q1 ++ L)
    have k1 := (cc _ L (Nat.le_refl _)).trans r1
    have len := sb_len q1
    refine ⟨⟨Q2 ++ Q1, by rw [hd]; exact sb_app q2 q1, ?_⟩, fun n hn => ?_⟩
    · rw [show (gI q 941 - gI s 941).toNat = (gI o 941 - gI s 941).toNat + (gI q 941 - gI o 941).toNat by omega, tyr_app _ _ _ _ _ k1, at2, r2, List.append_assoc]
    · by_cases z : n ≤ (gI o 941 - gI s 941).toNat
      · obtain ⟨R, x1, x2⟩ := m1 n z
        exact ⟨R, (cc n L z).trans x1, by omega⟩
      · obtain ⟨R, x1, x2⟩ := m2 (n - (gI o 941 - gI s 941).toNat) (by omega)
        refine ⟨R, ?_, ?_⟩
        · rw [show n = (gI o 941 - gI s 941).toNat + (n - (gI o 941 - gI s 941).toNat) by omega, tyr_app _ _ _ _ _ k1, at2]
          exact x1
        · rw [List.length_append] at x2
          omega
/-- nothing is added -/
theorem SG_0 {s o : MS} (h1 : gI o 941 = gI s 941) (h2 : gA o 48 = gA s 48) (h3 : gI o 105 = gI s 105) (h4 : FKp 100 101 s o) : SG 0 [] s o := by
  refine ⟨⟨by omega, fun j _ => by rw [h2]⟩, h3, fun z => Classical.byContradiction (fun n => n ((h4 n).1.symm.trans z)), fun p0 p1 p2 => ⟨fun j j1 j2 => absurd j2 (by omega), fun L => ⟨⟨[], rfl, ?_⟩, fun n hn => ⟨L, ?_, by omega⟩⟩⟩⟩
  · rw [h1, show (gI s 941 - gI s 941).toNat = 0 by omega]; rfl
  · rw [h1] at hn
    rw [show n = 0 by omega]
    rfl
theorem SG_fr {I A L B' : List Nat} {s o : MS} (f : Fr I A L B' s o) (k : FKp 100 101 s o) (h1 : 941 ∉ I) (h2 : 48 ∉ A) (h3 : 105 ∉ I) : SG 0 [] s o := SG_0 (f.1 941 h1) (f.2.1 48 h2) (f.1 105 h3) k
theorem SG_i {k : Nat} {v : Int} {s o : MS} (e : sI s k v = o) (h : 941 ≠ k ∧ 105 ≠ k ∧ 100 ≠ k ∧ 101 ≠ k) : SG 0 [] s o := SG_0 (q_Ii e h.1) (q_Ia e) (q_Ii e h.2.1) (FKp.i e h.2.2.1 h.2.2.2)
/-- with a fault nothing more is said -/
theorem SG_x {B : Int} {P : List Bool} {s o : MS} (a : AP s o) (h : gI o 105 = gI s 105) (f : gI o 100 ≠ 0) : SG B P s o := ⟨a, h, fun z => absurd z f, fun _ _ z => absurd z f⟩
theorem SG_up {B B' : Int} {P : List Bool} {s o : MS} (h : SG B P s o) (hB : B ≤ B') : SG B' P s o := ⟨h.1, h.2.1, h.2.2.1, fun a b c => ⟨(h.2.2.2 a b c).1, fun L => ⟨((h.2.2.2 a b c).2 L).1, fun n hn => by
  obtain ⟨R, x1, x2⟩ := ((h.2.2.2 a b c).2 L).2 n hn
  exact ⟨R, x1, by omega⟩⟩⟩⟩
/-- less is asked of the kinds -/
theorem SG_wk {B : Int} {P P' : List Bool} {s o : MS} (h : SG B P s o) (g : ∀ Q, sb Q P → sb Q P') : SG B P' s o := ⟨h.1, h.2.1, h.2.2.1, fun a b c => ⟨(h.2.2.2 a b c).1, fun L => ⟨by
  obtain ⟨Q, x1, x2⟩ := ((h.2.2.2 a b c).2 L).1
  exact ⟨Q, g Q x1, x2⟩, ((h.2.2.2 a b c).2 L).2⟩⟩⟩
theorem sb_w1 {x : Bool} {Q : List Bool} (h : sb Q [x]) : sb Q [false] := by
  obtain ⟨a, R, rfl, _, h2⟩ := h
  exact ⟨a, R, rfl, fun z => absurd z (by decide), h2⟩
theorem s_addC {c : Int} {s : MS} : pc (m_x0_add c s) (fun o => (1600 ≤ gI s 941 ∧ o = s) ∨ (0 ≤ gI s 941 ∧ gI o 941 = gI s 941 + 1 ∧ gA o 48 = upZ (gA s 48) (gI s 941).toNat c ∧ gI o 105 = gI s 105 ∧ gI o 100 = gI s 100)) := by
  unfold m_x0_add m_x0_add_J30
  exact pc_rg (pc_if (fun g => pc_some (Or.inl ⟨g, rfl⟩)) (fun g => pc_inb2 (fun gi => pc_stn (fun s5 e5 => pc_stn (fun s6 e6 => pc_some (Or.inr ⟨gi.1, by rw [(q_II e6 : gI s6 941 = _), (q_Ai e5 : gI s5 941 = gI s 941)], by rw [(q_Ia e6 : gA s6 48 = gA s5 48), (q_AA e5 : gA s5 48 = _)], (q_Ii e6 (by decide)).trans (q_Ai e5), (q_Ii e6 (by decide)).trans (q_Ai e5)⟩))))))
/-- one step more -/
theorem SG_add {B B' c : Int} {P P' : List Bool} {s o q : MS} (h : SG B P s o) (e : m_x0_add c o = some q) (ho : okc (gI o 105) c) (hB : B ≤ B') (hl : (P'.length : Int) ≤ B') (hs : ∀ Q, sb Q P → ∀ L, ∃ Q', sb Q' P' ∧ tyS c (Q ++ L) = some (Q' ++ L)) : SG B' P' s q := by
  obtain ⟨a1, a2, a3, a4⟩ := h
  rcases s_addC q e with ⟨z, rfl⟩ | ⟨z0, z1, z2, z3, z4⟩
  · exact ⟨a1, a2, a3, fun _ p1 _ => absurd p1 (by omega)⟩
  have l1 := a1.1
  have lo : ∀ j : Nat, (j : Int) < gI o 941 → gA q 48 j = gA o 48 j := fun j hj => by rw [z2, upZ_n (by omega)]
  refine ⟨a1.tr ⟨by omega, lo⟩, z3.trans a2, fun w => a3 (z4.symm.trans w), fun p0 p1 p2 => ?_⟩
  obtain ⟨c1, c2⟩ := a4 p0 (by omega) (z4.symm.trans p2)
  have at2 : (gI s 941).toNat + (gI o 941 - gI s 941).toNat = (gI o 941).toNat := by omega
  have cc : ∀ (n : Nat) (L : List Bool), n ≤ (gI o 941 - gI s 941).toNat → tyr (gA q 48) (gI s 941).toNat n L = tyr (gA o 48) (gI s 941).toNat n L := fun n L hn => tyr_c (fun j j1 j2 => lo j (by omega))
  refine ⟨fun j j1 j2 => ?_, fun L => ?_⟩
  · by_cases w : (j : Int) < gI o 941
    · rw [lo j w]; exact c1 j j1 w
    · rw [z2, show j = (gI o 941).toNat by omega, upZ_s, ← a2]; exact ho
  · obtain ⟨⟨Q, q1, r1⟩, m1⟩ := c2 L
    obtain ⟨Q', q2, r2⟩ := hs Q q1 L
    have k1 := (cc _ L (Nat.le_refl _)).trans r1
    have last : tyr (gA q 48) (gI s 941).toNat (gI q 941 - gI s 941).toNat L = some (Q' ++ L) := by
      rw [show (gI q 941 - gI s 941).toNat = (gI o 941 - gI s 941).toNat + 1 by omega]
      show (tyr (gA q 48) (gI s 941).toNat (gI o 941 - gI s 941).toNat L).bind (tyS (gA q 48 ((gI s 941).toNat + (gI o 941 - gI s 941).toNat))) = _
      rw [k1, at2, z2, upZ_s]
      exact r2
    refine ⟨⟨Q', q2, last⟩, fun n hn => ?_⟩
    by_cases w : n ≤ (gI o 941 - gI s 941).toNat
    · obtain ⟨R, x1, x2⟩ := m1 n w
      exact ⟨R, (cc n L w).trans x1, by omega⟩
    · refine ⟨Q' ++ L, ?_, ?_⟩
      · rw [show n = (gI q 941 - gI s 941).toNat by omega]; exact last
      · rw [List.length_append, sb_len q2]; omega
/-- a step that piles -/
theorem ty_p {c : Int} {x : Bool} {P : List Bool} (hc : 0 ≤ c ∨ c ≤ -100) (hx : x = true → 0 ≤ c ∧ c ≤ 1) : ∀ Q, sb Q P → ∀ L, ∃ Q', sb Q' (x :: P) ∧ tyS c (Q ++ L) = some (Q' ++ L) := fun Q hQ L => by
  by_cases h : 0 ≤ c
  · exact ⟨decide (c ≤ 1) :: Q, ⟨_, Q, rfl, fun z => decide_eq_true (hx z).2, hQ⟩, if_pos h⟩
  · exact ⟨false :: Q, ⟨_, Q, rfl, fun z => absurd (hx z).1 h, hQ⟩, (if_neg h).trans (if_pos (by omega))⟩
/-- a step that joins two -/
theorem ty_j {c : Int} {x y z : Bool} {P : List Bool} (hc : -11 ≤ c ∧ c ≤ -1) (hz : z = true → c ≤ -7) (hxy : c ≤ -10 → x = true ∧ y = true) : ∀ Q, sb Q (x :: y :: P) → ∀ L, ∃ Q', sb Q' (z :: P) ∧ tyS c (Q ++ L) = some (Q' ++ L) := fun Q hQ L => by
  obtain ⟨a, R, rfl, ha, b, R2, rfl, hb, hr⟩ := hQ
  have e : tyS c (a :: b :: (R2 ++ L)) = if c ≤ -10 then (if a = true ∧ b = true then some (true :: (R2 ++ L)) else none) else some (decide (c ≤ -7) :: (R2 ++ L)) := (if_neg (by omega)).trans ((if_neg (by omega)).trans (if_neg (by omega)))
  by_cases h : c ≤ -10
  · refine ⟨true :: R2, ⟨true, R2, rfl, fun _ => rfl, hr⟩, e.trans ?_⟩
    rw [if_pos h, if_pos ⟨ha (hxy h).1, hb (hxy h).2⟩]
    rfl
  · refine ⟨decide (c ≤ -7) :: R2, ⟨_, R2, rfl, fun w => decide_eq_true (hz w), hr⟩, e.trans ?_⟩
    rw [if_neg h]
    rfl
/-- a step that changes one -/
theorem ty_u {c : Int} {x z : Bool} {P : List Bool} (hc : c = -14 ∨ c = -13 ∨ c = -12) (hz : z = true → c = -12) (hx : c = -12 → x = true) : ∀ Q, sb Q (x :: P) → ∀ L, ∃ Q', sb Q' (z :: P) ∧ tyS c (Q ++ L) = some (Q' ++ L) := fun Q hQ L => by
  obtain ⟨a, R, rfl, ha, hr⟩ := hQ
  have e : tyS c (a :: (R ++ L)) = if c = -12 then (if a = true then some (true :: (R ++ L)) else none) else some (false :: (R ++ L)) := (if_neg (by omega)).trans ((if_neg (by omega)).trans (if_pos (by omega)))
  by_cases h : c = -12
  · refine ⟨true :: R, ⟨true, R, rfl, fun _ => rfl, hr⟩, e.trans ?_⟩
    rw [if_pos h, if_pos (ha (hx h))]
    rfl
  · refine ⟨false :: R, ⟨false, R, rfl, fun w => absurd (hz w) h, hr⟩, e.trans ?_⟩
    rw [if_neg h]
    rfl
theorem SG_r (s : MS) : SG 0 [] s s := SG_0 rfl rfl rfl (FKp.rf s)
theorem sb_l1 (x : Bool) : (([x] : List Bool).length : Int) = 1 := rfl
theorem sb_l2 (x y : Bool) : (([x, y] : List Bool).length : Int) = 2 := rfl
theorem sb_l0 : (([] : List Bool).length : Int) = 0 := rfl
theorem SG_t0 {B : Int} {s o q : MS} (h : SG B [] s o) (g : SG 0 [] o q) (hB : 0 ≤ B) : SG B [] s q := SG_tr h g (Int.le_refl _) (by rw [sb_l0]; omega) rfl
theorem SG_t1 {B : Int} {x : Bool} {s o q : MS} (h : SG B [x] s o) (g : SG 0 [] o q) (hB : 1 ≤ B) : SG B [x] s q := SG_tr h g (Int.le_refl _) (by rw [sb_l1]; omega) rfl
theorem SG_t2 {B : Int} {x y : Bool} {s o q : MS} (h : SG B [x, y] s o) (g : SG 0 [] o q) (hB : 2 ≤ B) : SG B [x, y] s q := SG_tr h g (Int.le_refl _) (by rw [sb_l2]; omega) rfl
theorem SG_s {B : Int} {P : List Bool} {s o q : MS} (h : SG 0 [] s o) (g : SG B P o q) (hB : 0 ≤ B) : SG B P s q := SG_tr h g hB (by rw [sb_l0]; omega) (List.append_nil P).symm
theorem SG_2 {B B1 B2 : Int} {x y : Bool} {s o q : MS} (h : SG B1 [y] s o) (g : SG B2 [x] o q) (h1 : B1 ≤ B) (h2 : 1 + B2 ≤ B) : SG B [x, y] s q := SG_tr h g h1 (by rw [sb_l1]; omega) rfl
theorem sg_p {c : Int} {x : Bool} {s q : MS} (hc : 0 ≤ c ∨ c ≤ -100) (hx : x = true → 0 ≤ c ∧ c ≤ 1) (ho : okc (gI s 105) c) (e : m_x0_add c s = some q) : SG 1 [x] s q := SG_add (SG_r s) e ho (by omega) (by rw [sb_l1]; omega) (ty_p hc hx)
theorem sg_j {B c : Int} {x y z : Bool} {s o q : MS} (h : SG B [x, y] s o) (hB : 1 ≤ B) (hc : -11 ≤ c ∧ c ≤ -1) (hz : z = true → c ≤ -7) (hxy : c ≤ -10 → x = true ∧ y = true) (e : m_x0_add c o = some q) : SG B [z] s q := SG_add h e (fun _ => ⟨by omega, fun _ => by omega⟩) (Int.le_refl _) (by rw [sb_l1]; omega) (ty_j hc hz hxy)
theorem sg_u {B c : Int} {x z : Bool} {s o q : MS} (h : SG B [x] s o) (hB : 1 ≤ B) (hc : c = -14 ∨ c = -13 ∨ c = -12) (hz : z = true → c = -12) (hx : c = -12 → x = true) (ho : gI o 105 = 1 → c = -12) (e : m_x0_add c o = some q) : SG B [z] s q := SG_add h e (fun w => ⟨by have := ho w; omega, fun _ => by omega⟩) (Int.le_refl _) (by rw [sb_l1]; omega) (ty_u hc hz hx)
theorem sg_adv {s o : MS} (e : m_x6_advance s = some o) : SG 0 [] s o := SG_fr (fr_x6_advance e) (FKp.of (fr_x6_advance e) (by decide) (by decide)) (by decide) (by decide) (by decide)
theorem sg_sign {p : Int} {s o : MS} (e : m_x6_expectSign p s = some o) : SG 0 [] s o := SG_fr (fr_x6_expectSign e) (fk_x6_expectSign o e) (by decide) (by decide) (by decide)
theorem sg_num {a b : Int} {s : MS} {q : Int × MS} (e : m_x6_expectNumber a b s = some q) : SG 0 [] s q.2 := SG_fr (fr_x6_expectNumber e) (fk_x6_expectNumber q e) (by decide) (by decide) (by decide)
theorem sg_opens {s : MS} {q : Int × MS} (e : m_x6_opens s = some q) : SG 0 [] s q.2 := SG_fr (fr_x6_opens e) (fk_x6_opens q e) (by decide) (by decide) (by decide)
theorem sg_fail {k p : Int} {s : MS} {q : Int × MS} (hk : k ≠ 0) (e : m_x6_fail k p s = some q) {B : Int} {P : List Bool} : SG B P s q.2 := by
  have F : F_x6_fail s q.2 := fr_x6_fail e
  refine SG_x (AP.of F (by decide) (by decide)) (F.1 105 (by decide)) ?_
  have g : pc (m_x6_fail k p s) (fun q => gI q.2 100 ≠ 0) := by
    by_cases z : gI s 100 = 0
    · exact pc_mono (s_fail z) (fun q hq => by rw [hq.1]; exact hk)
    · exact fun q' e' => by
        show gI q'.2 100 ≠ 0
        rw [(fk_x6_fail q' e' z).1]; exact z
  exact g q e
/-- an opening that is refused is a fault -/
theorem sg_opn0 {s : MS} {q : Int × MS} (e : m_x6_opens s = some q) (z : q.1 = 0) {B : Int} {P : List Bool} : SG B P s q.2 := by
  have g : pc (m_x6_opens s) (fun q => q.1 = 0 → SG B P s q.2) := by
    unfold m_x6_opens
    exact pc_rg (pc_if (fun _ => pc_stn (fun _ _ => pc_some (fun w => absurd (show (1 : Int) = 0 from w) (by decide)))) (fun _ => pc_bn (fun q6 e6 => pc_bo (pc_some (fun _ => sg_fail (by decide) e6)))))
  exact g q e z
section
variable {rgs : (MS → Option MS) × (MS → Option MS)} {R : Int}
theorem sg_other {p : Int} {s : MS} (h3 : gI s 105 = 3) (hR : 1 ≤ R) (h2 : ∀ s, pc (rgs.2 s) (fun o => SG R [false] s o)) (hp : p = -14 ∨ p = -13) : pc (m_x6_readOther rgs p s) (fun o => SG R [false] s o) := by
  unfold m_x6_readOther m_x6_readOther_J33
  refine pc_bn (fun q4 e4 => pc_rg (pc_if (fun c => pc_some (sg_opn0 e4 c)) (fun _ => pc_bn (fun s8 e8 => pc_bn (fun s10 e10 => pc_eqg (pc_bn (fun s13 e13 => pc_stn (fun s14 e14 => pc_some ?_))))))))
  have a := SG_s (SG_t0 (sg_opens e4) (sg_adv e8) (Int.le_refl _)) (h2 _ s10 e10) (by omega)
  have b := sg_u (z := false) a hR (by omega) (fun w => absurd w (by decide)) (fun w => by omega) (fun w => absurd (w.symm.trans (a.2.1.trans h3)) (by decide)) e13
  exact SG_t1 b (SG_i e14 (by decide)) hR
theorem sg_choice {p : Int} {s : MS} (hR : 1 ≤ R) (h1 : ∀ s, pc (rgs.1 s) (fun o => SG R [false] s o)) (hp : p = -5 ∨ p = -6) : pc (m_x6_readChoice rgs p s) (fun o => SG (1 + R) [false] s o) := by
  unfold m_x6_readChoice m_x6_readChoice_J75
  refine pc_bn (fun s3 e3 => pc_bn (fun r5 _ => pc_rg (pc_if (fun _ => pc_bn (fun q29 e29 => pc_some ?_)) (fun _ => pc_bn (fun q10 e10 => pc_rg (pc_if (fun c => pc_some ?_) (fun _ => pc_bn (fun s14 e14 => pc_bn (fun s16 e16 => pc_bn (fun s18 e18 => pc_bn (fun s20 e20 => pc_bn (fun s22 e22 => pc_stn (fun s23 e23 => pc_eqg (pc_bn (fun s26 e26 => pc_some ?_)))))))))))))))
  · exact SG_s (sg_adv e3) (sg_fail (by decide) e29) (by omega)
  · exact SG_s (sg_adv e3) (sg_opn0 e10 c) (by omega)
  · have a := SG_t0 (SG_t0 (sg_adv e3) (sg_opens e10) (Int.le_refl _)) (sg_adv e14) (Int.le_refl _)
    have b := SG_t1 (SG_s a (h1 _ s16 e16) (by omega)) (sg_sign e18) hR
    have c := SG_t2 (SG_2 (B := 1 + R) b (h1 _ s20 e20) (by omega) (by omega)) (sg_sign e22) (by omega)
    have d := SG_t2 c (SG_i e23 (by decide)) (by omega)
    exact sg_j d (by omega) (by omega) (fun w => absurd w (by decide)) (fun w => by omega) e26
theorem sg_isFact {s : MS} : pc (m_x6_isFact s) (fun r => r ≠ 0 → 11 ≤ gI s 110 ∧ okc (gI s 105) (-100 - gI s 110)) := by
  unfold m_x6_isFact m_x6_isFact_J77 m_x6_isFact_J82 m_x6_isFact_J95 m_x6_isFact_J108 m_x6_isFact_J109 m_x6_isFact_J122
  refine pc_rg (pc_if (fun _ => pc_rg (pc_if (fun c => pc_rg (pc_if (fun m => pc_bo (pc_some (fun _ => ⟨by omega, fun _ => ⟨by omega, fun _ => by omega⟩⟩))) (fun m => pc_rg (pc_if (fun m2 => pc_bo (pc_some (fun _ => ⟨by omega, fun _ => ⟨by omega, fun _ => by omega⟩⟩))) (fun _ => pc_bo (pc_some (fun z => absurd rfl z))))))) (fun _ => pc_if (fun c => pc_rg (pc_if (fun m => pc_bo (pc_some (fun _ => ⟨by omega, fun _ => ⟨by omega, fun _ => by omega⟩⟩))) (fun _ => pc_bo (pc_some (fun z => absurd rfl z))))) (fun _ => pc_if (fun c => pc_some (fun _ => ⟨by omega, fun _ => ⟨by omega, fun _ => by omega⟩⟩)) (fun _ => pc_if (fun c => pc_rg (pc_if (fun _ => pc_bo (pc_some (fun z => absurd rfl z))) (fun _ => pc_bo (pc_some (fun _ => ⟨by omega, fun _ => ⟨by omega, fun _ => by omega⟩⟩))))) (fun _ => pc_if (fun c => ?_) (fun _ => pc_if (fun c => ?_) (fun _ => pc_if (fun c => ?_) (fun _ => pc_if (fun c => ?_) (fun _ => pc_some (fun z => absurd rfl z))))))))))) (fun _ => pc_some (fun z => absurd rfl z)))
  all_goals exact pc_rg (pc_if (fun m => pc_bo (pc_some (fun _ => ⟨by omega, fun _ => ⟨by omega, fun _ => by omega⟩⟩))) (fun _ => pc_bo (pc_some (fun z => absurd rfl z))))
end
/-- the answer is never under the lowest -/
theorem sg_nn {lo hi : Int} {s : MS} : pc (m_x6_expectNumber lo hi s) (fun q => lo ≤ q.1) := by
  have L : ∀ (n : Nat) (x8 x9 : Int), pc (m_x6_expectNumber_L55 n lo hi x8 x9 s) (fun q => lo ≤ q.1) := by
    refine fr_ind (fun _ _ => pc_none) (fun n ih x8 x9 => ?_)
    show pc (m_x6_expectNumber_b55 (m_x6_expectNumber_L55 n) lo hi x8 x9 s) _
    unfold m_x6_expectNumber_b55 m_x6_expectNumber_J98
    exact pc_rg (pc_rg (pc_if (fun _ => pc_rg (pc_rg (pc_if (fun _ => pc_bn (fun _ _ => pc_some (Int.le_refl _))) (fun c => pc_rg (pc_rg (pc_if (fun _ => pc_bn (fun _ _ => pc_some (Int.not_lt.mp c))) (fun _ => pc_bn (fun _ _ => pc_some (Int.le_refl _))))))))) (fun _ => pc_bn (fun _ _ => ih _ _))))
  unfold m_x6_expectNumber
  exact pc_rg (pc_if (fun _ => pc_rg (pc_if (fun _ => L _ _ _) (fun _ => pc_bn (fun _ _ => pc_some (Int.le_refl _))))) (fun _ => pc_bn (fun _ _ => pc_some (Int.le_refl _))))
section
variable {rgs : (MS → Option MS) × (MS → Option MS)} {R : Int}
theorem sg_part {s : MS} (hR : 1 ≤ R) (h1 : ∀ s, pc (rgs.1 s) (fun o => SG R [false] s o)) (h2 : ∀ s, pc (rgs.2 s) (fun o => SG R [false] s o)) : pc (m_x6_readPart rgs s) (fun o => SG (1 + R) [false] s o) := by
  have J158 : pc (m_x6_readPart_J158 rgs s) (fun o => SG (1 + R) [false] s o) := by
    unfold m_x6_readPart_J158 m_x6_readPart_J196
    refine pc_bq sg_isFact (fun r4 h4 => pc_rg (pc_if (fun _ => pc_bn (fun q9 e9 => pc_some (sg_fail (by decide) e9))) (fun c => pc_eqg (pc_bn (fun s12 e12 => pc_bn (fun s14 e14 => pc_some ?_))))))
    have f := h4 c
    exact SG_up (SG_t1 (sg_p (x := false) (by omega) (fun w => absurd w (by decide)) f.2 e12) (sg_adv e14) (by omega)) (by omega)
  have J135 : gI s 105 = 3 → pc (m_x6_readPart_J135 rgs s) (fun o => SG (1 + R) [false] s o) := fun h3 => by
    unfold m_x6_readPart_J135 m_x6_readPart_J152 m_x6_readPart_J196
    exact pc_bn (fun r21 _ => pc_rg (pc_if (fun _ => pc_bq (sg_other h3 hR h2 (Or.inl rfl)) (fun s18 h => pc_some (SG_up h (by omega)))) (fun _ => pc_bq (sg_other h3 hR h2 (Or.inr rfl)) (fun s18 h => pc_some (SG_up h (by omega))))))
  have J86 : pc (m_x6_readPart_J86 rgs s) (fun o => SG (1 + R) [false] s o) := by
    unfold m_x6_readPart_J86 m_x6_readPart_J103 m_x6_readPart_J196
    exact pc_bn (fun r30 _ => pc_rg (pc_if (fun _ => pc_bq (sg_choice hR h1 (Or.inr rfl)) (fun s27 h => pc_some h)) (fun _ => pc_bq (sg_choice hR h1 (Or.inl rfl)) (fun s27 h => pc_some h))))
  unfold m_x6_readPart
  refine pc_rg (pc_if (fun _ => pc_eqg (pc_bn (fun q72 e72 => pc_bn (fun s74 e74 => ?_)))) (fun _ => pc_bn (fun r36 _ => pc_rg (pc_if (fun _ => pc_bn (fun r40 _ => pc_rg (pc_if (fun _ => pc_bn (fun r44 _ => pc_rg (pc_if (fun _ => pc_rg (pc_if (fun h3 => pc_bn (fun r50 _ => pc_rg (pc_if (fun _ => pc_bn (fun r54 _ => pc_rg (pc_if (fun _ => J158) (fun _ => J135 h3)))) (fun _ => J135 h3)))) (fun _ => J158))) (fun _ => J86)))) (fun _ => J86)))) (fun _ => pc_bn (fun q59 e59 => pc_rg (pc_if (fun c => ?_) (fun _ => pc_bn (fun s63 e63 => pc_bn (fun s65 e65 => pc_bn (fun s67 e67 => pc_stn (fun s68 e68 => ?_))))))))))))
  · unfold m_x6_readPart_J196
    refine pc_some ?_
    have nn : 0 ≤ q72.1 := sg_nn q72 e72
    exact SG_up (SG_s (sg_num e72) (sg_p (x := false) (Or.inl nn) (fun w => absurd w (by decide)) (fun _ => ⟨by omega, fun _ => by omega⟩) e74) (by omega)) (by omega)
  · unfold m_x6_readPart_J196
    exact pc_some (sg_opn0 e59 c)
  · unfold m_x6_readPart_J196
    refine pc_some ?_
    have a := SG_t0 (sg_opens e59) (sg_adv e63) (Int.le_refl _)
    have b := SG_t1 (SG_s a (h1 _ s65 e65) (by omega)) (sg_sign e67) hR
    exact SG_up (SG_t1 b (SG_i e68 (by decide)) hR) (by omega)
theorem sg_prod {B : Int} (hB : 1 ≤ B) (hP : ∀ s, pc (m_x6_readPart rgs s) (fun o => SG B [false] s o)) {s : MS} : pc (m_x6_readProduct rgs s) (fun o => SG (1 + B) [false] s o) := by
  have L : ∀ (n : Nat) (x : Int) (X : MS), SG (1 + B) [false] s X → pc (m_x6_readProduct_L6 rgs n x X) (fun o => SG (1 + B) [false] s o) := by
    refine fr_ind (fun _ _ _ => pc_none) (fun n ih x X hX => ?_)
    show pc (m_x6_readProduct_b6 rgs (m_x6_readProduct_L6 rgs n) x X) _
    have Ja : ∀ p : Int, -6 ≤ p ∧ p ≤ -1 → pc (m_x6_readProduct_J47 rgs (m_x6_readProduct_L6 rgs n) x p X) (fun o => SG (1 + B) [false] s o) := fun p hp => by
      unfold m_x6_readProduct_J47
      refine pc_bn (fun s8 e8 => pc_bn (fun s10 e10 => pc_eqg (pc_bn (fun s13 e13 => ih _ _ ?_))))
      have a := SG_2 (B := 1 + B) (SG_t1 hX (sg_adv e8) (by omega)) (hP s8 s10 e10) (Int.le_refl _) (Int.le_refl _)
      exact sg_j a (by omega) (by omega) (fun w => absurd w (by decide)) (fun w => by omega) e13
    have Jb : pc (m_x6_readProduct_J31 rgs (m_x6_readProduct_L6 rgs n) x X) (fun o => SG (1 + B) [false] s o) := by
      unfold m_x6_readProduct_J31
      exact pc_bn (fun _ _ => pc_rg (pc_if (fun _ => Ja _ (by decide)) (fun _ => Ja _ (by decide))))
    unfold m_x6_readProduct_b6 m_x6_readProduct_J70
    exact pc_rg (pc_if (fun _ => pc_some hX) (fun _ => pc_bn (fun _ _ => pc_rg (pc_if (fun _ => pc_bn (fun _ _ => pc_rg (pc_if (fun _ => pc_some hX) (fun _ => Jb)))) (fun _ => Jb)))))
  unfold m_x6_readProduct
  exact pc_bn (fun s31 e31 => L FU 0 s31 (SG_up (hP s s31 e31) (by omega)))
theorem sg_sums {B : Int} (hB : 1 ≤ B) (hP : ∀ s, pc (m_x6_readProduct rgs s) (fun o => SG B [false] s o)) {s : MS} : pc (m_x6_readSum rgs s) (fun o => SG (1 + B) [false] s o) := by
  have L : ∀ (n : Nat) (x : Int) (X : MS), SG (1 + B) [false] s X → pc (m_x6_readSum_L6 rgs n x X) (fun o => SG (1 + B) [false] s o) := by
    refine fr_ind (fun _ _ _ => pc_none) (fun n ih x X hX => ?_)
    show pc (m_x6_readSum_b6 rgs (m_x6_readSum_L6 rgs n) x X) _
    have Ja : ∀ p : Int, -6 ≤ p ∧ p ≤ -1 → pc (m_x6_readSum_J46 rgs (m_x6_readSum_L6 rgs n) x p X) (fun o => SG (1 + B) [false] s o) := fun p hp => by
      unfold m_x6_readSum_J46
      refine pc_bn (fun s8 e8 => pc_bn (fun s10 e10 => pc_eqg (pc_bn (fun s13 e13 => ih _ _ ?_))))
      have a := SG_2 (B := 1 + B) (SG_t1 hX (sg_adv e8) (by omega)) (hP s8 s10 e10) (Int.le_refl _) (Int.le_refl _)
      exact sg_j a (by omega) (by omega) (fun w => absurd w (by decide)) (fun w => by omega) e13
    have Jb : pc (m_x6_readSum_J31 rgs (m_x6_readSum_L6 rgs n) x X) (fun o => SG (1 + B) [false] s o) := by
      unfold m_x6_readSum_J31
      exact pc_bn (fun _ _ => pc_rg (pc_if (fun _ => Ja _ (by decide)) (fun _ => Ja _ (by decide))))
    unfold m_x6_readSum_b6 m_x6_readSum_J69
    exact pc_rg (pc_if (fun _ => pc_some hX) (fun _ => pc_bn (fun _ _ => pc_rg (pc_if (fun _ => pc_bn (fun _ _ => pc_rg (pc_if (fun _ => pc_some hX) (fun _ => Jb)))) (fun _ => Jb)))))
  unfold m_x6_readSum
  exact pc_bn (fun s31 e31 => L FU 0 s31 (SG_up (hP s s31 e31) (by omega)))
theorem sg_sum {s : MS} (hR : 1 ≤ R) (h1 : ∀ s, pc (rgs.1 s) (fun o => SG R [false] s o)) (h2 : ∀ s, pc (rgs.2 s) (fun o => SG R [false] s o)) : pc (m_x6_readSum rgs s) (fun o => SG (3 + R) [false] s o) :=
  pc_mono (sg_sums (B := 1 + (1 + R)) (by omega) (fun _ => sg_prod (B := 1 + R) (by omega) (fun _ => sg_part hR h1 h2))) (fun _ h => SG_up h (by omega))
end
theorem sg_RG1 : ∀ n : Nat, (∀ s, pc ((RG1 n).1 s) (fun o => SG (1 + 3 * (n : Int)) [false] s o)) ∧ ∀ s, pc ((RG1 n).2 s) (fun o => SG (1 + 3 * (n : Int)) [false] s o) := by
  refine fr_ind ⟨fun _ => pc_none, fun _ => pc_none⟩ (fun n ih => ⟨fun s => ?_, fun s => ?_⟩)
  · show pc (m_x6_readSum (RG1 n) s) _
    exact pc_mono (sg_sum (R := 1 + 3 * (n : Int)) (by omega) ih.1 ih.2) (fun _ h => SG_up h (by omega))
  · show pc (m_x6_readPart (RG1 n) s) _
    exact pc_mono (sg_part (R := 1 + 3 * (n : Int)) (by omega) ih.1 ih.2) (fun _ h => SG_up h (by omega))
theorem sg_sumC {s : MS} : pc (m_x6_readSumC s) (fun o => SG 25 [false] s o) := pc_mono ((sg_RG1 8).1 s) (fun _ h => SG_up h (by decide))
theorem sg_cmp {s : MS} : pc (m_x6_comparison s) (fun q => SG 0 [] s q.2 ∧ -9 ≤ q.1 ∧ q.1 ≤ -7) := by
  have J : ∀ (c : Int) (X : MS), SG 0 [] s X → (-9 ≤ c ∧ c ≤ -7) → pc (m_x6_comparison_J52 c X) (fun q => SG 0 [] s q.2 ∧ -9 ≤ q.1 ∧ q.1 ≤ -7) := fun c X hX hc => by
    unfold m_x6_comparison_J52
    exact pc_bn (fun s4 e4 => pc_some ⟨SG_t0 hX (sg_adv e4) (Int.le_refl _), hc⟩)
  unfold m_x6_comparison
  exact pc_bn (fun _ _ => pc_rg (pc_if (fun _ => pc_bn (fun _ _ => pc_rg (pc_if (fun _ => pc_bn (fun _ _ => pc_rg (pc_if (fun _ => pc_bn (fun q19 e19 => J _ _ (sg_fail (by decide) e19) (by decide))) (fun _ => J _ _ (SG_r s) (by decide))))) (fun _ => J _ _ (SG_r s) (by decide))))) (fun _ => J _ _ (SG_r s) (by decide))))
section
variable {rgs : (MS → Option MS) × (MS → Option MS)} {R : Int}
theorem sg_fact {s : MS} (hR : 26 ≤ R) (h1 : ∀ s, pc (rgs.1 s) (fun o => SG R [true] s o)) (h2 : ∀ s, pc (rgs.2 s) (fun o => SG R [true] s o)) : pc (m_x6_readFact rgs s) (fun o => SG R [true] s o) := by
  unfold m_x6_readFact m_x6_readFact_J134
  refine pc_bn (fun _ _ => pc_rg (pc_if (fun _ => pc_bn (fun _ _ => pc_rg (pc_if (fun _ => pc_bn (fun _ _ => pc_rg (pc_if (fun _ => pc_bn (fun s15 e15 => pc_bn (fun q18 e18 => pc_bn (fun s20 e20 => pc_eqg (pc_bn (fun s23 e23 => pc_some ?_)))))) (fun _ => pc_eqg (pc_bn (fun s26 e26 => pc_bn (fun s28 e28 => pc_some ?_))))))) (fun _ => pc_bn (fun q31 e31 => pc_rg (pc_if (fun c => pc_some ?_) (fun _ => pc_bn (fun s35 e35 => pc_bn (fun s37 e37 => pc_bn (fun s39 e39 => pc_stn (fun s40 e40 => pc_some ?_))))))))))) (fun _ => pc_bn (fun q43 e43 => pc_rg (pc_if (fun c => pc_some ?_) (fun _ => pc_bn (fun s47 e47 => pc_bn (fun s49 e49 => pc_eqg (pc_bn (fun s52 e52 => pc_stn (fun s53 e53 => pc_some ?_)))))))))))
  · obtain ⟨f1, f2⟩ := sg_cmp q18 e18
    have a := SG_t1 (sg_sumC s15 e15) f1 (by omega)
    have b := SG_2 (B := R) a (sg_sumC s20 e20) (by omega) (by omega)
    exact sg_j b (by omega) (by omega) (fun _ => f2.2) (fun w => by omega) e23
  · exact SG_up (SG_t1 (sg_p (x := true) (Or.inl (by decide)) (fun _ => by decide) (fun _ => ⟨by omega, fun _ => by omega⟩) e26) (sg_adv e28) (by omega)) (by omega)
  · exact sg_opn0 e31 c
  · have a := SG_t0 (sg_opens e31) (sg_adv e35) (Int.le_refl _)
    have b := SG_t1 (SG_s a (h2 _ s37 e37) (by omega)) (sg_sign e39) (by omega)
    exact SG_t1 b (SG_i e40 (by decide)) (by omega)
  · exact sg_opn0 e43 c
  · have a := SG_t0 (sg_opens e43) (sg_adv e47) (Int.le_refl _)
    have b := SG_s a (h1 _ s49 e49) (by omega)
    have c := sg_u (z := true) b (by omega) (by omega) (fun _ => rfl) (fun _ => rfl) (fun _ => rfl) e52
    exact SG_t1 c (SG_i e53 (by decide)) (by omega)
theorem sg_both {B : Int} (hB : 1 ≤ B) (hP : ∀ s, pc (m_x6_readFact rgs s) (fun o => SG B [true] s o)) {s : MS} : pc (m_x6_readBoth rgs s) (fun o => SG (1 + B) [true] s o) := by
  have L : ∀ (n : Nat) (x : Int) (X : MS), SG (1 + B) [true] s X → pc (m_x6_readBoth_L6 rgs n x X) (fun o => SG (1 + B) [true] s o) := by
    refine fr_ind (fun _ _ _ => pc_none) (fun n ih x X hX => ?_)
    show pc (m_x6_readBoth_b6 rgs (m_x6_readBoth_L6 rgs n) x X) _
    unfold m_x6_readBoth_b6 m_x6_readBoth_J45
    refine pc_rg (pc_if (fun _ => pc_some hX) (fun _ => pc_bn (fun _ _ => pc_rg (pc_if (fun _ => pc_some hX) (fun _ => pc_bn (fun s11 e11 => pc_bn (fun s13 e13 => pc_eqg (pc_bn (fun s16 e16 => ih _ _ ?_)))))))))
    have a := SG_2 (B := 1 + B) (SG_t1 hX (sg_adv e11) (by omega)) (hP s11 s13 e13) (Int.le_refl _) (Int.le_refl _)
    exact sg_j a (by omega) (by decide) (fun _ => by decide) (fun _ => ⟨rfl, rfl⟩) e16
  unfold m_x6_readBoth
  exact pc_bn (fun s18 e18 => L FU 0 s18 (SG_up (hP s s18 e18) (by omega)))
theorem sg_tests {B : Int} (hB : 1 ≤ B) (hP : ∀ s, pc (m_x6_readBoth rgs s) (fun o => SG B [true] s o)) {s : MS} : pc (m_x6_readTest rgs s) (fun o => SG (1 + B) [true] s o) := by
  have L : ∀ (n : Nat) (x : Int) (X : MS), SG (1 + B) [true] s X → pc (m_x6_readTest_L6 rgs n x X) (fun o => SG (1 + B) [true] s o) := by
    refine fr_ind (fun _ _ _ => pc_none) (fun n ih x X hX => ?_)
    show pc (m_x6_readTest_b6 rgs (m_x6_readTest_L6 rgs n) x X) _
    unfold m_x6_readTest_b6 m_x6_readTest_J45
    refine pc_rg (pc_if (fun _ => pc_some hX) (fun _ => pc_bn (fun _ _ => pc_rg (pc_if (fun _ => pc_some hX) (fun _ => pc_bn (fun s11 e11 => pc_bn (fun s13 e13 => pc_eqg (pc_bn (fun s16 e16 => ih _ _ ?_)))))))))
    have a := SG_2 (B := 1 + B) (SG_t1 hX (sg_adv e11) (by omega)) (hP s11 s13 e13) (Int.le_refl _) (Int.le_refl _)
    exact sg_j a (by omega) (by decide) (fun _ => by decide) (fun _ => ⟨rfl, rfl⟩) e16
  unfold m_x6_readTest
  exact pc_bn (fun s18 e18 => L FU 0 s18 (SG_up (hP s s18 e18) (by omega)))
end
theorem sg_RG2 : ∀ n : Nat, (∀ s, pc ((RG2 n).1 s) (fun o => SG (26 + 2 * (n : Int)) [true] s o)) ∧ ∀ s, pc ((RG2 n).2 s) (fun o => SG (26 + 2 * (n : Int)) [true] s o) := by
  refine fr_ind ⟨fun _ => pc_none, fun _ => pc_none⟩ (fun n ih => ⟨fun s => ?_, fun s => ?_⟩)
  · show pc (m_x6_readFact (RG2 n) s) _
    exact pc_mono (sg_fact (R := 26 + 2 * (n : Int)) (by omega) ih.1 ih.2) (fun _ h => SG_up h (by omega))
  · show pc (m_x6_readTest (RG2 n) s) _
    exact pc_mono (sg_tests (B := 1 + (26 + 2 * (n : Int))) (by omega) (fun _ => sg_both (B := 26 + 2 * (n : Int)) (by omega) (fun _ => sg_fact (by omega) ih.1 ih.2))) (fun _ h => SG_up h (by omega))
theorem sg_testC {s : MS} : pc (m_x6_readTestC s) (fun o => SG 42 [true] s o) := pc_mono ((sg_RG2 8).2 s) (fun _ h => SG_up h (by decide))
