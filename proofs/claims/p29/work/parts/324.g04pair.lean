/-! ===== no block twice in a tree: a row of zeros and ones for each root, as counts are ===== -/
theorem TG_mix {h : SH} {ky : Nat → Nat → Int} {N E : Int} {c sv r rs c' sv' r' rs' D D' : Nat → Int} {e e' : Int} (H : TG h ky N E c sv r rs D e) (G : TG h ky N E c' sv' r' rs' D' e') : TG h ky N E c sv' r rs' D e := ⟨⟨H.1.1, H.1.2.1, G.1.2.2.1, H.1.2.2.2⟩, ⟨H.2.1.1, G.2.1.2⟩, ⟨H.2.2.1.1, G.2.2.1.2⟩, ⟨H.2.2.2.1.1, G.2.2.2.1.2⟩, fun p hp q => q.elim (fun w => H.2.2.2.2 p hp (Or.inl w)) (fun w => G.2.2.2.2 p hp (Or.inr w))⟩
/-- counts twice -/
theorem TG_cc {h : SH} {ky : Nat → Nat → Int} {N E : Int} {c sv r rs D : Nat → Int} (H : TG h ky N E c sv r rs D (-1)) (hD : ∀ x, x < 48 → D x = 0) : TG h ky N E c c r r D (-1) := ⟨⟨H.1.1, H.1.2.1, H.1.2.1, H.1.2.2.2⟩, ⟨H.2.1.1, fun x hx => by rw [H.2.1.1 x hx]; exact hD x hx⟩, ⟨H.2.2.1.1, fun p hp hc => H.2.2.1.1 p hp hc (by omega)⟩, ⟨H.2.2.2.1.1, H.2.2.2.1.1⟩, fun p hp q => H.2.2.2.2 p hp (Or.inl (q.elim id id))⟩
theorem TG_ss {h : SH} {ky : Nat → Nat → Int} {N E : Int} {c sv r rs D : Nat → Int} {e : Int} (H : TG h ky N E c sv r rs D e) : TG h ky N E sv sv rs rs (fun _ => 0) (-1) := ⟨⟨H.1.1, H.1.2.2.1, H.1.2.2.1, H.1.2.2.2⟩, ⟨H.2.1.2, H.2.1.2⟩, ⟨fun p hp hc _ => H.2.2.1.2 p hp hc, H.2.2.1.2⟩, ⟨H.2.2.2.1.2, H.2.2.2.1.2⟩, fun p hp q => H.2.2.2.2 p hp (Or.inr (q.elim id id))⟩
/-- one is taken out of a row -/
theorem TG_off {h : SH} {ky : Nat → Nat → Int} {N E : Int} {c sv r rs D : Nat → Int} {e : Int} {b : Nat} (H : TG h ky N E c sv r rs D e) (hb : b < 48) (hc : c b = 1) : TG h ky N E (upZ c b 0) sv r rs (fun x => D x - (if x = b then 1 else 0) + en h b (x : Int)) e := by
  obtain ⟨⟨a1, a2, a3, a4⟩, ⟨b1, b2⟩, ⟨d1, d2⟩, e0, f1⟩ := H
  have li : ∀ p, 0 < upZ c b 0 p → 0 < c p := fun p hp => by
    by_cases q : p = b
    · rw [q, upZ_s] at hp; omega
    · rw [upZ_n q] at hp; exact hp
  refine ⟨⟨a1, fun p hp => ?_, a3, a4⟩, ⟨fun x hx => ?_, b2⟩, ⟨fun p hp hpc hpe => d1 p hp (li p hpc) hpe, d2⟩, e0, fun p hp hpc => f1 p hp (hpc.imp (li p) id)⟩
  · by_cases q : p = b
    · subst q
      rw [upZ_s]
      exact ⟨by omega, fun w => rfl, fun w => by omega⟩
    · rw [upZ_n q]; exact a2 p hp
  · dsimp only
    rw [df_cnt hb, b1 x hx, hc, if_pos (show (0 : Int) < 1 by omega), if_neg (show ¬ (0 : Int) < 0 by omega)]
    by_cases q : x = b
    · rw [if_pos q, if_pos q]; omega
    · rw [if_neg q, if_neg q]; omega
theorem sr_0 (q : Int) : sr q 0 = q := if_pos rfl
theorem sr_up (q q' : Int) : upZ (sr q) 0 q' = sr q' := by
  funext v
  unfold upZ sr
  by_cases z : v = 0
  · rw [if_pos z, if_pos z]
  · rw [if_neg z, if_neg z, if_neg z]
theorem sm_ex1 {n : Nat} {f : Nat → Int} (h : sm n f ≠ 0) (hn : ∀ i, i < n → 0 ≤ f i) : ∃ i, i < n ∧ 0 < f i := by
  have := sm_nn hn
  exact sm_ex (by omega)
theorem en_ex {h : SH} {p : Nat} {x : Int} (H : 0 < en h p x) : 0 < h.1 p ∧ ∃ k : Nat, k < 6 ∧ (k : Int) < h.2.1 p ∧ h.2.2 p k = x := by
  unfold en enf at H
  by_cases c : 0 < h.1 p
  · rw [if_pos c] at H
    obtain ⟨k, hk, hk2⟩ := sm_ex H
    refine ⟨c, k, hk, ?_⟩
    by_cases q : (0 : Int) ≤ (k : Int) ∧ (k : Int) < h.2.1 p ∧ h.2.2 p k = x
    · exact q.2
    · rw [if_neg q] at hk2; omega
  · rw [if_neg c] at H; omega
/-- one in the row is the root, or is named by one in the row -/
theorem mu_up {h : SH} {ky : Nat → Nat → Int} {N E : Int} {c sv rs : Nat → Int} {q : Int} {e : Int} {x : Nat} (H : TG h ky N E c sv (sr q) rs (fun _ => 0) e) (hx : x < 48) (hc : 0 < c x) : q = (x : Int) ∨ ∃ p, p < 48 ∧ 0 < c p ∧ 0 < en h p (x : Int) := by
  have d := H.2.1.1 x hx
  unfold df rf at d
  rw [rr_sr] at d
  by_cases z : q = (x : Int)
  · exact Or.inl z
  · rw [if_neg z] at d
    dsimp only at d
    obtain ⟨p, hp, hp2⟩ := sm_ex (n := 48) (f := fun p => if 0 < c p then en h p (x : Int) else 0) (by omega)
    refine Or.inr ⟨p, hp, ?_⟩
    by_cases w : 0 < c p
    · rw [if_pos w] at hp2; exact ⟨w, hp2⟩
    · rw [if_neg w] at hp2; omega
/-- what lies in the tree of a root that is there is in use -/
theorem mu_live {h : SH} {ky : Nat → Nat → Int} {N E : Int} {c sv r rs mu sv' rs' D : Nat → Int} {q : Int} {e e' : Int} (T : TG h ky N E c sv r rs D e) (hD : ∀ x, x < 48 → 0 ≤ D x) (H : TG h ky N E mu sv' (sr q) rs' (fun _ => 0) (-1)) (hr : ∀ x : Nat, x < 48 → q = (x : Int) → 0 < c x) : ∀ x, x < 48 → 0 < mu x → 0 < c x := by
  have key : ∀ (n : Nat) (x : Nat), x < 48 → 0 < mu x → 48 - h.1 x ≤ (n : Int) → 0 < c x := by
    intro n
    induction n with
    | zero =>
      intro x hx hm hn
      have := (TG_lev H (fun _ _ => Int.le_refl 0) hx hm).2
      omega
    | succ n ih =>
      intro x hx hm hn
      rcases mu_up H hx hm with z | ⟨p, hp, hc, hn2⟩
      · exact hr x hx z
      · obtain ⟨hl, k, hk6, hk, hv⟩ := en_ex hn2
        have nd := (TG_nd H hp hc).2.2 hl k hk
        rw [hv] at nd
        have lx : h.1 x = h.1 p - 1 := by
          have := nd.2
          rw [show ((x : Int)).toNat = x by omega] at this
          exact this
        have cp := ih p hp hc (by omega)
        have kd := (TG_kid T hD hp cp hl hk).2.2
        rw [hv, show ((x : Int)).toNat = x by omega] at kd
        exact kd
  intro x hx hm
  have l0 := TG_lev H (fun _ _ => Int.le_refl 0) hx hm
  exact key (48 - h.1 x).toNat x hx hm (by omega)
/-- a block that has one name, and that in a block that isn't in a tree, isn't in that tree -/
theorem mu_own {h : SH} {ky : Nat → Nat → Int} {N E : Int} {c sv r rs mu sv' rs' D : Nat → Int} {q : Int} {e : Int} {a b u : Nat} (T : TG h ky N E c sv r rs D e) (hD : D b = 0) (H : TG h ky N E mu sv' (sr q) rs' (fun _ => 0) (-1)) (hlive : ∀ x, x < 48 → 0 < mu x → 0 < c x) (hb : b < 48) (hc : c b = 1) (hu : u < 8) (hq : r u = q) (ha : a < 48) (hca : 0 < c a) (hma : mu a ≤ 0) (hab : 0 < en h a (b : Int)) : mu b ≤ 0 := by
  by_cases z : 0 < mu b
  · exfalso
    have d := T.2.1.1 b hb
    rw [hD] at d
    unfold df at d
    rcases mu_up H hb z with w | ⟨p, hp, hm, hn⟩
    · have rp := rr_pos (r := r) hu
      rw [hq, w] at rp
      have := rf_two (h := h) (c := c) (r := r) (x := (b : Int)) ha hca (by omega) rp
      omega
    · have cp := hlive p hp hm
      have pa : p ≠ a := fun w => by rw [w] at hm; omega
      have s2 := sm_ge2 (n := 48) (f := fun p => if 0 < c p then en h p (b : Int) else 0) hp ha pa (fun j _ => by
        show 0 ≤ if 0 < c j then en h j (b : Int) else 0
        split
        · exact en_nn h j _
        · exact Int.le_refl 0)
      rw [if_pos cp, if_pos hca] at s2
      unfold rf at d
      have := rr_nn r (b : Int)
      omega
  · omega
/-- a block that has one name, a root's, is in no other root's tree -/
theorem mu_own0 {h : SH} {ky : Nat → Nat → Int} {N E : Int} {c sv r rs mu sv' rs' D : Nat → Int} {q : Int} {e : Int} {b u v : Nat} (T : TG h ky N E c sv r rs D e) (hD : D b = 0) (H : TG h ky N E mu sv' (sr q) rs' (fun _ => 0) (-1)) (hlive : ∀ x, x < 48 → 0 < mu x → 0 < c x) (hb : b < 48) (hc : c b = 1) (hu : u < 8) (hv : v < 8) (huv : u ≠ v) (hq : r u = q) (hr : r v = (b : Int)) : mu b ≤ 0 := by
  by_cases z : 0 < mu b
  · exfalso
    have d := T.2.1.1 b hb
    rw [hD] at d
    unfold df rf at d
    have nn := sm_nn (n := 48) (f := fun p => if 0 < c p then en h p (b : Int) else 0) (fun j _ => by
      show 0 ≤ if 0 < c j then en h j (b : Int) else 0
      split
      · exact en_nn h j _
      · exact Int.le_refl 0)
    rcases mu_up H hb z with w | ⟨p, hp, hm, hn⟩
    · have s2 := sm_ge2 (n := 8) (f := fun v => if r v = (b : Int) then 1 else 0) hu hv huv (fun j _ => by
        show (0 : Int) ≤ if r j = (b : Int) then 1 else 0
        split <;> omega)
      rw [hq, if_pos w, if_pos hr] at s2
      unfold rr at d
      omega
    · have cp := hlive p hp hm
      have s1 := sm_ge (n := 48) (f := fun p => if 0 < c p then en h p (b : Int) else 0) hp (fun j _ => by
        show 0 ≤ if 0 < c j then en h j (b : Int) else 0
        split
        · exact en_nn h j _
        · exact Int.le_refl 0)
      rw [if_pos cp] at s1
      have rp := rr_pos (r := r) hv
      rw [hr] at rp
      omega
  · omega
theorem en_bd (h : SH) (p : Nat) (x : Int) : en h p x ≤ 6 := by
  unfold en enf
  split
  · have := sm_bd (n := 6) (c := 1) (f := fun k : Nat => if (0 : Int) ≤ (k : Int) ∧ (k : Int) < h.2.1 p ∧ h.2.2 p k = x then (1 : Int) else 0) (fun k _ => by split <;> omega)
    omega
  · omega
theorem rf_bd (h : SH) (c r : Nat → Int) (x : Int) : rf h c r x ≤ 296 := by
  have h1 := sm_bd (n := 8) (c := 1) (f := fun v : Nat => if r v = x then (1 : Int) else 0) (fun k _ => by split <;> omega)
  have h2 := sm_bd (n := 48) (c := 6) (f := fun p : Nat => if 0 < c p then en h p x else 0) (fun p _ => by
    split
    · exact en_bd h p x
    · omega)
  unfold rf rr
  omega
theorem TG_bd {h : SH} {ky : Nat → Nat → Int} {N E : Int} {c sv r rs D : Nat → Int} {e : Int} {x : Nat} (H : TG h ky N E c sv r rs D e) (hx : x < 48) : c x ≤ D x + 296 := by
  have h1 := H.2.1.1 x hx
  have h2 := rf_bd h c r (x : Int)
  unfold df at h1
  omega
theorem TG_sbd {h : SH} {ky : Nat → Nat → Int} {N E : Int} {c sv r rs D : Nat → Int} {e : Int} {x : Nat} (H : TG h ky N E c sv r rs D e) (hx : x < 48) : 0 ≤ sv x ∧ sv x ≤ 296 := by
  have h1 := H.2.1.2 x hx
  have h2 := rf_bd h sv rs (x : Int)
  have h3 := (H.1.2.2.1 x hx).1
  unfold df at h1
  omega
/-- the rows of all other roots beside that of one -/
def PM (t : MS) (v : Nat) (M : Nat → Nat → Int) (D : Nat → Int) (e : Int) : Prop := (∀ u, u < 16 → u ≠ v → TG (hM t) (kM t) (gA t 39 5) (gA t 39 6) (M v) (M u) (sr (gA t 49 v)) (sr (gA t 49 u)) D e) ∧ (∀ u, u < 16 → ∀ x, x < 48 → M u x ≤ 1)
def upM (M : Nat → Nat → Int) (v : Nat) (f : Nat → Int) : Nat → Nat → Int := fun u => if u = v then f else M u
theorem upM_s (M : Nat → Nat → Int) (v : Nat) (f : Nat → Int) : upM M v f v = f := if_pos rfl
theorem upM_n {M : Nat → Nat → Int} {v u : Nat} {f : Nat → Int} (h : u ≠ v) : upM M v f u = M u := if_neg h
theorem PM_D {t : MS} {v : Nat} {M : Nat → Nat → Int} {D D' : Nat → Int} {e : Int} (H : PM t v M D e) (hD : ∀ x, x < 48 → D' x = D x) : PM t v M D' e := ⟨fun u hu hn => TG_D (H.1 u hu hn) hD, H.2⟩
theorem PM_eq {t o : MS} {v : Nat} {M : Nat → Nat → Int} {D : Nat → Int} {e : Int} (H : PM t v M D e) (h1 : hM o = hM t) (h2 : kM o = kM t) (h39 : gA o 39 = gA t 39) (hr : ∀ u, u < 16 → gA o 49 u = gA t 49 u) (hv : v < 16) : PM o v M D e := ⟨fun u hu hn => by rw [h1, h2, h39, hr u hu, hr v hv]; exact H.1 u hu hn, H.2⟩
/-- rows of the tree at hand changed by a rule -/
theorem PM_to {t o : MS} {v : Nat} {M : Nat → Nat → Int} {f D D' : Nat → Int} {e e' : Int} {q : Int} (H : PM t v M D e) (h : ∀ u, u < 16 → u ≠ v → TG (hM t) (kM t) (gA t 39 5) (gA t 39 6) (M v) (M u) (sr (gA t 49 v)) (sr (gA t 49 u)) D e → TG (hM o) (kM o) (gA t 39 5) (gA t 39 6) f (M u) (sr q) (sr (gA t 49 u)) D' e') (hf : ∀ x, x < 48 → f x ≤ 1) (h39 : gA o 39 = gA t 39) (hr : ∀ u, u < 16 → u ≠ v → gA o 49 u = gA t 49 u) (hq : gA o 49 v = q) : PM o v (upM M v f) D' e' := by
  refine ⟨fun u hu hn => ?_, fun u hu x hx => ?_⟩
  · rw [upM_s, upM_n hn, h39, hr u hu hn, hq]
    exact h u hu hn (H.1 u hu hn)
  · by_cases z : u = v
    · rw [z, upM_s]; exact hf x hx
    · rw [upM_n z]; exact H.2 u hu x hx
/-- the same, the row of the tree at hand as it was -/
theorem PM_to0 {t o : MS} {v : Nat} {M : Nat → Nat → Int} {D D' : Nat → Int} {e e' : Int} {q : Int} (H : PM t v M D e) (h : ∀ u, u < 16 → u ≠ v → TG (hM t) (kM t) (gA t 39 5) (gA t 39 6) (M v) (M u) (sr (gA t 49 v)) (sr (gA t 49 u)) D e → TG (hM o) (kM o) (gA t 39 5) (gA t 39 6) (M v) (M u) (sr q) (sr (gA t 49 u)) D' e') (h39 : gA o 39 = gA t 39) (hr : ∀ u, u < 16 → u ≠ v → gA o 49 u = gA t 49 u) (hq : gA o 49 v = q) : PM o v M D' e' := by
  refine ⟨fun u hu hn => ?_, H.2⟩
  rw [h39, hr u hu hn, hq]
  exact h u hu hn (H.1 u hu hn)
/-- what holds of the reference's trees between acts -/
def RT (t : MS) : Prop := TM t (fun _ => 0) (-1) ∧ ∃ M : Nat → Nat → Int, (∀ u, u < 16 → TG (hM t) (kM t) (gA t 39 5) (gA t 39 6) (M u) (M u) (sr (gA t 49 u)) (sr (gA t 49 u)) (fun _ => 0) (-1)) ∧ (∀ u, u < 16 → ∀ x, x < 48 → M u x ≤ 1)
theorem RT_PM {t : MS} (v : Nat) (hv : v < 16) (H : RT t) : ∃ M, PM t v M (fun _ => 0) (-1) := by
  obtain ⟨_, M, h1, h2⟩ := H
  exact ⟨M, fun u hu _ => TG_mix (h1 v hv) (h1 u hu), h2⟩
theorem PM_RT {t : MS} {v : Nat} {M : Nat → Nat → Int} (hv : v < 16) (T : TM t (fun _ => 0) (-1)) (H : PM t v M (fun _ => 0) (-1)) : RT t := by
  refine ⟨T, M, fun u hu => ?_, H.2⟩
  by_cases z : u = v
  · rw [z]
    by_cases w : v = 0
    · exact TG_cc (H.1 1 (by omega) (by omega)) (fun _ _ => rfl)
    · exact TG_cc (H.1 0 (by omega) (by omega)) (fun _ _ => rfl)
  · exact TG_ss (H.1 u hu z)
/-- the roots as trees have them -/
theorem rM_v {t : MS} {v : Nat} (hv : v < 8) : rM t v = gA t 49 v := if_pos hv
theorem rsM_v {t : MS} {v : Nat} (hv : v < 8) : rsM t v = gA t 49 (8 + v) := if_pos hv
/-- in use, if in the tree of a root now, or of a root of the checkpoint -/
theorem PM_live {t : MS} {v : Nat} {M : Nat → Nat → Int} {D : Nat → Int} {e : Int} (T : TM t D e) (hD : ∀ x, x < 48 → 0 ≤ D x) (H : PM t v M (fun _ => 0) (-1)) (hv : v < 8) : (∀ u, u < 8 → ∀ x, x < 48 → 0 < M u x → 0 < cM t x) ∧ (∀ u, 8 ≤ u → u < 16 → ∀ x, x < 48 → 0 < M u x → 0 < vM t x) := by
  have T' : TG (hM t) (kM t) (gA t 39 5) (gA t 39 6) (cM t) (vM t) (rM t) (rsM t) D e := T
  refine ⟨fun u hu => ?_, fun u h8 hu => ?_⟩
  · have G : TG (hM t) (kM t) (gA t 39 5) (gA t 39 6) (M u) (M u) (sr (gA t 49 u)) (sr (gA t 49 u)) (fun _ => 0) (-1) := by
      by_cases z : u = v
      · rw [z]; exact TG_cc (H.1 8 (by omega) (by omega)) (fun _ _ => rfl)
      · exact TG_ss (H.1 u (by omega) z)
    refine mu_live T' hD G (e' := e) (fun x hx hq => ?_)
    have := TG_root_live (v := u) T' hD hu (by rw [rM_v hu]; omega) (by rw [rM_v hu]; omega)
    rw [rM_v hu, hq, show ((x : Int)).toNat = x by omega] at this
    exact this.2
  · have G : TG (hM t) (kM t) (gA t 39 5) (gA t 39 6) (M u) (M u) (sr (gA t 49 u)) (sr (gA t 49 u)) (fun _ => 0) (-1) := TG_ss (H.1 u hu (by omega))
    have S' := TG_ss T'
    refine mu_live S' (fun _ _ => Int.le_refl 0) G (e' := e) (fun x hx hq => ?_)
    have r1 : rsM t (u - 8) = gA t 49 u := by rw [rsM_v (by omega), show 8 + (u - 8) = u by omega]
    have := TG_root_live (v := u - 8) S' (fun _ _ => Int.le_refl 0) (by omega) (by rw [r1]; omega) (by rw [r1]; omega)
    rw [r1, hq, show ((x : Int)).toNat = x by omega] at this
    exact this.2
/-! ===== a block is taken ===== -/
def TkE (s o : MS) (b : Nat) (l : Int) : Prop := (∀ i, ¬ (17 + 16 * b ≤ i ∧ i < 33 + 16 * b) → gA o 49 i = gA s 49 i) ∧ (cM o b = 1 ∧ vM o b = 0) ∧ (hM o).1 b = l ∧ (hM o).2.1 b = 0
theorem TkE_c {s o : MS} {b : Nat} {l : Int} (H : TkE s o b l) : cM o = upZ (cM s) b 1 := by
  funext p
  by_cases z : p = b
  · rw [z, upZ_s]; exact H.2.1.1
  · rw [upZ_n z]; exact H.1 _ (by omega)
theorem TkE_v {s o : MS} {b : Nat} {l : Int} (H : TkE s o b l) (h : vM s b = 0) : vM o = vM s := by
  funext p
  by_cases z : p = b
  · rw [z, h]; exact H.2.1.2
  · exact H.1 _ (by omega)
theorem TkE_s {s o : MS} {b : Nat} {l : Int} (H : TkE s o b l) : SBk (hM s) (hM o) (kM s) (kM o) b := fun q _ hn => ⟨H.1 (19 + 16 * q) (by omega), H.1 (20 + 16 * q) (by omega), fun k hk => ⟨by
  show (if k < 6 then gA o 49 (27 + 16 * q + k) else 0) = if k < 6 then gA s 49 (27 + 16 * q + k) else 0
  rw [if_pos hk, if_pos hk]; exact H.1 _ (by omega), by
  show (if k < 6 then gA o 49 (21 + 16 * q + k) else 0) = if k < 6 then gA s 49 (21 + 16 * q + k) else 0
  rw [if_pos hk, if_pos hk]; exact H.1 _ (by omega)⟩⟩
theorem TkE_u {s o : MS} {b u : Nat} {l : Int} (H : TkE s o b l) (hu : u < 17) : gA o 49 u = gA s 49 u := H.1 u (by omega)
theorem TkE_r {s o : MS} {b : Nat} {l : Int} (H : TkE s o b l) : rM o = rM s := by
  funext p
  show (if p < 8 then gA o 49 p else 0) = if p < 8 then gA s 49 p else 0
  by_cases q : p < 8
  · rw [if_pos q, if_pos q]; exact TkE_u H (by omega)
  · rw [if_neg q, if_neg q]
theorem TkE_rs {s o : MS} {b : Nat} {l : Int} (H : TkE s o b l) : rsM o = rsM s := by
  funext p
  show (if p < 8 then gA o 49 (8 + p) else 0) = if p < 8 then gA s 49 (8 + p) else 0
  by_cases q : p < 8
  · rw [if_pos q, if_pos q]; exact TkE_u H (by omega)
  · rw [if_neg q, if_neg q]
set_option maxHeartbeats 4000000 in
theorem w_x12_taken {p0 : Int} {p1 : Int} {s : MS} (hRs : Rr s) (hp0 : 0 ≤ gA s 39 5 ∧ gA s 39 5 ≤ 48) (hp1 : CE s 0) (hp2 : 0 ≤ p0 ∧ p0 ≤ 1000) (hp3 : 0 ≤ p1 ∧ p1 ≤ 48) : wp (m_x12_taken p0 p1 s) (fun q => (Rr q.2) ∧ (∀ i, 785 ≤ i → gA q.2 49 i = gA s 49 i) ∧ (gI q.2 55 = 1 ∨ (gI q.2 55 = gI s 55 ∧ (0 ≤ q.1 ∧ q.1 < gA s 39 5) ∧ (cM s q.1.toNat ≤ 0 ∧ vM s q.1.toNat ≤ 0) ∧ TkE s q.2 q.1.toNat p0))) := by
  have J102 : ∀ (x17 : Int) (x18 : Int) (s19 : MS), Rr s19 → (x17 = p0) → (x18 = -1 ∨ ((0 ≤ x18 ∧ x18 < gA s 39 5) ∧ cM s x18.toNat ≤ 0 ∧ vM s x18.toNat ≤ 0)) → (gA s19 49 = gA s 49 ∧ gA s19 39 = gA s 39 ∧ gA s19 42 = gA s 42 ∧ gA s19 43 = gA s 43 ∧ gA s19 44 = gA s 44) → (gI s19 55 = gI s 55) → wp (m_x12_taken_J102 x17 x18 s19) (fun q => (Rr q.2) ∧ (∀ i, 785 ≤ i → gA q.2 49 i = gA s 49 i) ∧ (gI q.2 55 = 1 ∨ (gI q.2 55 = gI s 55 ∧ (0 ≤ q.1 ∧ q.1 < gA s 39 5) ∧ (cM s q.1.toNat ≤ 0 ∧ vM s q.1.toNat ≤ 0) ∧ TkE s q.2 q.1.toNat p0))) := by
    intro x17 x18 s19 hRs19 hj102_0 hj102_1 hj102_2 hj102_3
    unfold m_x12_taken_J102
    refine wp_rg (by have : (0 : Int) ≤ gI s 55 ∧ gI s 55 ≤ 1 := hRs.1 55; have : (0 : Int) ≤ gI s19 55 ∧ gI s19 55 ≤ 1 := hRs19.1 55; omega) ?_
    refine wp_if (fun c1 => ?_) (fun c1 => ?_)
    · skip
      refine wp_stn (fun s22 es22 => ?_)
      have hRs22 : Rr s22 := es22 ▸ Rr.uI hRs19 (by show (0 : Int) ≤ (1 : Int) ∧ (1 : Int) ≤ 1; have : (0 : Int) ≤ gI s 55 ∧ gI s 55 ≤ 1 := hRs.1 55; have : (0 : Int) ≤ gI s19 55 ∧ gI s19 55 ≤ 1 := hRs19.1 55; omega)
      exact wp_some ⟨hRs22, by show ∀ i, 785 ≤ i → gA s22 49 i = gA s 49 i; exact (fun i hi => by rw [((q_Ia es22 : gA s22 49 = gA s19 49)), hj102_2.1]), by show gI s22 55 = 1 ∨ (gI s22 55 = gI s 55 ∧ (0 ≤ (0 : Int) ∧ (0 : Int) < gA s 39 5) ∧ (cM s (0 : Int).toNat ≤ 0 ∧ vM s (0 : Int).toNat ≤ 0) ∧ TkE s s22 (0 : Int).toNat p0); exact (Or.inl (q_II es22))⟩
    · skip
      have L126 : ∀ (n : Nat) (x1 : Int) (x2 : Int) (x3 : Int) (x4 : Int) (s5 : MS), Rr s5 → (x1 = p0 ∧ x3 = 17 + 16 * x2 ∧ (0 ≤ x2 ∧ x2 < gA s 39 5) ∧ (0 ≤ x4 ∧ x4 ≤ 16)) → (∀ i, ¬ (17 + 16 * x2.toNat ≤ i ∧ i < 33 + 16 * x2.toNat) → gA s5 49 i = gA s 49 i) → (∀ j : Nat, (j : Int) < x4 → gA s5 49 (17 + 16 * x2.toNat + j) = 0) → (gI s5 55 = gI s 55) → (cM s x2.toNat ≤ 0 ∧ vM s x2.toNat ≤ 0) → (16 - x4) < (n : Int) → wp (m_x12_taken_L126 n x1 x2 x3 x4 s5) (fun q => (Rr q.2) ∧ (∀ i, 785 ≤ i → gA q.2 49 i = gA s 49 i) ∧ (gI q.2 55 = 1 ∨ (gI q.2 55 = gI s 55 ∧ (0 ≤ q.1 ∧ q.1 < gA s 39 5) ∧ (cM s q.1.toNat ≤ 0 ∧ vM s q.1.toNat ≤ 0) ∧ TkE s q.2 q.1.toNat p0))) := by
        refine fr_ind (fun x1 x2 x3 x4 s5 hRs5 hv126_0 hv126_1 hv126_2 hv126_3 hv126_4 hm126 => ?_) (fun n126 ih126 x1 x2 x3 x4 s5 hRs5 hv126_0 hv126_1 hv126_2 hv126_3 hv126_4 hm126 => ?_)
        · exfalso; have : (0 : Int) ≤ gI s 55 ∧ gI s 55 ≤ 1 := hRs.1 55; have : (0 : Int) ≤ gI s5 55 ∧ gI s5 55 ≤ 1 := hRs5.1 55; omega
        · show wp (m_x12_taken_b126 (m_x12_taken_L126 n126) x1 x2 x3 x4 s5) _
          unfold m_x12_taken_b126
          refine wp_rg (by have : (0 : Int) ≤ gI s5 55 ∧ gI s5 55 ≤ 1 := hRs5.1 55; have : (0 : Int) ≤ gI s 55 ∧ gI s 55 ≤ 1 := hRs.1 55; have : (0 : Int) ≤ gI s19 55 ∧ gI s19 55 ≤ 1 := hRs19.1 55; omega) ?_
          refine wp_if (fun c2 => ?_) (fun c2 => ?_)
          · skip
            refine wp_inb (by have : (0 : Int) ≤ gI s5 55 ∧ gI s5 55 ≤ 1 := hRs5.1 55; have : (0 : Int) ≤ gI s 55 ∧ gI s 55 ≤ 1 := hRs.1 55; have : (0 : Int) ≤ gI s19 55 ∧ gI s19 55 ≤ 1 := hRs19.1 55; omega) ?_
            refine wp_stn (fun s9 es9 => ?_)
            have hRs9 : Rr s9 := es9 ▸ Rr.uAu hRs5 (by show (-2147483648 : Int) ≤ (1 : Int) ∧ (1 : Int) ≤ 2147483647; have : (0 : Int) ≤ gI s5 55 ∧ gI s5 55 ≤ 1 := hRs5.1 55; have : (0 : Int) ≤ gI s 55 ∧ gI s 55 ≤ 1 := hRs.1 55; have : (0 : Int) ≤ gI s19 55 ∧ gI s19 55 ≤ 1 := hRs19.1 55; omega)
            refine wp_inb (by have : (0 : Int) ≤ gI s5 55 ∧ gI s5 55 ≤ 1 := hRs5.1 55; have : (0 : Int) ≤ gI s 55 ∧ gI s 55 ≤ 1 := hRs.1 55; have : (0 : Int) ≤ gI s19 55 ∧ gI s19 55 ≤ 1 := hRs19.1 55; omega) ?_
            refine wp_stn (fun s11 es11 => ?_)
            have hRs11 : Rr s11 := es11 ▸ Rr.uAu hRs9 (by show (-2147483648 : Int) ≤ x1 ∧ x1 ≤ 2147483647; have : (0 : Int) ≤ gI s5 55 ∧ gI s5 55 ≤ 1 := hRs5.1 55; have : (0 : Int) ≤ gI s 55 ∧ gI s 55 ≤ 1 := hRs.1 55; have : (0 : Int) ≤ gI s19 55 ∧ gI s19 55 ≤ 1 := hRs19.1 55; omega)
            refine wp_inb (by have : (0 : Int) ≤ gI s5 55 ∧ gI s5 55 ≤ 1 := hRs5.1 55; have : (0 : Int) ≤ gI s 55 ∧ gI s 55 ≤ 1 := hRs.1 55; have : (0 : Int) ≤ gI s19 55 ∧ gI s19 55 ≤ 1 := hRs19.1 55; omega) ?_
            refine wp_bo (by have : (0 : Int) ≤ gI s5 55 ∧ gI s5 55 ≤ 1 := hRs5.1 55; have : (0 : Int) ≤ gI s 55 ∧ gI s 55 ≤ 1 := hRs.1 55; have : (0 : Int) ≤ gI s19 55 ∧ gI s19 55 ≤ 1 := hRs19.1 55; omega) ?_
            refine wp_stn (fun s14 es14 => ?_)
            have hRs14 : Rr s14 := es14 ▸ Rr.uAu hRs11 (by show (0 : Int) ≤ (1 : Int) ∧ (1 : Int) ≤ 1; have : (0 : Int) ≤ gI s5 55 ∧ gI s5 55 ≤ 1 := hRs5.1 55; have : (0 : Int) ≤ gI s 55 ∧ gI s 55 ≤ 1 := hRs.1 55; have : (0 : Int) ≤ gI s19 55 ∧ gI s19 55 ≤ 1 := hRs19.1 55; omega)
            exact wp_some ⟨hRs14, by show ∀ i, 785 ≤ i → gA s14 49 i = gA s 49 i; exact (fun i hi => by rw [((q_Aa es14 (by decide) : gA s14 49 = gA s11 49)), (q_AA es11 : gA s11 49 = _), (q_AA es9 : gA s9 49 = _), upZ_n (by omega), upZ_n (by omega)]; exact hv126_1 i (by omega)), by
          show gI s14 55 = 1 ∨ (gI s14 55 = gI s 55 ∧ (0 ≤ x2 ∧ x2 < gA s 39 5) ∧ (cM s x2.toNat ≤ 0 ∧ vM s x2.toNat ≤ 0) ∧ TkE s s14 x2.toNat p0)
          refine Or.inr ⟨by have : (0 : Int) ≤ gI s5 55 ∧ gI s5 55 ≤ 1 := hRs5.1 55; have : (0 : Int) ≤ gI s 55 ∧ gI s 55 ≤ 1 := hRs.1 55; have : (0 : Int) ≤ gI s19 55 ∧ gI s19 55 ≤ 1 := hRs19.1 55; have : gI s14 55 = gI s11 55 := q_Ai es14; have : gI s11 55 = gI s9 55 := q_Ai es11; have : gI s9 55 = gI s5 55 := q_Ai es9; omega, by omega, by omega, ?_⟩
          have w : gA s14 49 = upZ (upZ (gA s5 49) (17 + 16 * x2.toNat) 1) (19 + 16 * x2.toNat) p0 := by rw [((q_Aa es14 (by decide) : gA s14 49 = gA s11 49)), (q_AA es11 : gA s11 49 = _), (q_AA es9 : gA s9 49 = _), show x3.toNat = 17 + 16 * x2.toNat by omega, show (x3 + 2).toNat = 19 + 16 * x2.toNat by omega, hv126_0.1]
          refine ⟨fun i hi => ?_, ⟨?_, ?_⟩, ?_, ?_⟩
          · rw [w, upZ_n (by omega), upZ_n (by omega)]; exact hv126_1 i hi
          · show gA s14 49 (17 + 16 * x2.toNat) = 1
            rw [w, upZ_n (by omega), upZ_s]
          · show gA s14 49 (18 + 16 * x2.toNat) = 0
            rw [w, upZ_n (by omega), upZ_n (by omega)]
            have z := hv126_2 1 (by omega)
            rw [← z]; congr 1; omega
          · show gA s14 49 (19 + 16 * x2.toNat) = p0
            rw [w, upZ_s]
          · show gA s14 49 (20 + 16 * x2.toNat) = 0
            rw [w, upZ_n (by omega), upZ_n (by omega)]
            have z := hv126_2 3 (by omega)
            rw [← z]; congr 1; omega⟩
          · skip
            refine wp_inb (by have : (0 : Int) ≤ gI s5 55 ∧ gI s5 55 ≤ 1 := hRs5.1 55; have : (0 : Int) ≤ gI s 55 ∧ gI s 55 ≤ 1 := hRs.1 55; have : (0 : Int) ≤ gI s19 55 ∧ gI s19 55 ≤ 1 := hRs19.1 55; omega) ?_
            refine wp_stn (fun s16 es16 => ?_)
            have hRs16 : Rr s16 := es16 ▸ Rr.uAu hRs5 (by show (-2147483648 : Int) ≤ (0 : Int) ∧ (0 : Int) ≤ 2147483647; have : (0 : Int) ≤ gI s5 55 ∧ gI s5 55 ≤ 1 := hRs5.1 55; have : (0 : Int) ≤ gI s 55 ∧ gI s 55 ≤ 1 := hRs.1 55; have : (0 : Int) ≤ gI s19 55 ∧ gI s19 55 ≤ 1 := hRs19.1 55; omega)
            exact ih126 x1 x2 x3 (x4 + 1) s16 hRs16 (by show x1 = p0 ∧ x3 = 17 + 16 * x2 ∧ (0 ≤ x2 ∧ x2 < gA s 39 5) ∧ (0 ≤ (x4 + 1) ∧ (x4 + 1) ≤ 16); have : (0 : Int) ≤ gI s5 55 ∧ gI s5 55 ≤ 1 := hRs5.1 55; have : (0 : Int) ≤ gI s 55 ∧ gI s 55 ≤ 1 := hRs.1 55; have : (0 : Int) ≤ gI s19 55 ∧ gI s19 55 ≤ 1 := hRs19.1 55; omega) (fun i hi => by rw [(q_AA es16 : gA s16 49 = _), upZ_n (by omega)]; exact hv126_1 i hi) (fun j hj => by
          rw [(q_AA es16 : gA s16 49 = _)]
          by_cases z : j = x4.toNat
          · rw [show (x3 + x4).toNat = 17 + 16 * x2.toNat + j by omega, upZ_s]
          · rw [upZ_n (by omega)]; exact hv126_2 j (by omega)) (by show gI s16 55 = gI s 55; have : (0 : Int) ≤ gI s5 55 ∧ gI s5 55 ≤ 1 := hRs5.1 55; have : (0 : Int) ≤ gI s19 55 ∧ gI s19 55 ≤ 1 := hRs19.1 55; have : (0 : Int) ≤ gI s 55 ∧ gI s 55 ≤ 1 := hRs.1 55; have : gI s16 55 = gI s5 55 := q_Ai es16; omega) (by show cM s x2.toNat ≤ 0 ∧ vM s x2.toNat ≤ 0; have : (0 : Int) ≤ gI s5 55 ∧ gI s5 55 ≤ 1 := hRs5.1 55; have : (0 : Int) ≤ gI s 55 ∧ gI s 55 ≤ 1 := hRs.1 55; have : (0 : Int) ≤ gI s19 55 ∧ gI s19 55 ≤ 1 := hRs19.1 55; omega) (by have : (0 : Int) ≤ gI s5 55 ∧ gI s5 55 ≤ 1 := hRs5.1 55; have : (0 : Int) ≤ gI s 55 ∧ gI s 55 ≤ 1 := hRs.1 55; have : (0 : Int) ≤ gI s19 55 ∧ gI s19 55 ≤ 1 := hRs19.1 55; omega)
      exact L126 FU x17 x18 (17 + (16 * x18)) 0 s19 hRs19 (by show x17 = p0 ∧ (17 + (16 * x18)) = 17 + 16 * x18 ∧ (0 ≤ x18 ∧ x18 < gA s 39 5) ∧ (0 ≤ (0 : Int) ∧ (0 : Int) ≤ 16); have : (0 : Int) ≤ gI s 55 ∧ gI s 55 ≤ 1 := hRs.1 55; have : (0 : Int) ≤ gI s19 55 ∧ gI s19 55 ≤ 1 := hRs19.1 55; omega) (fun i hi => by rw [hj102_2.1]) (fun j hj => by omega) (by show gI s19 55 = gI s 55; have : (0 : Int) ≤ gI s 55 ∧ gI s 55 ≤ 1 := hRs.1 55; have : (0 : Int) ≤ gI s19 55 ∧ gI s19 55 ≤ 1 := hRs19.1 55; omega) (by show cM s x18.toNat ≤ 0 ∧ vM s x18.toNat ≤ 0; have : (0 : Int) ≤ gI s 55 ∧ gI s 55 ≤ 1 := hRs.1 55; have : (0 : Int) ≤ gI s19 55 ∧ gI s19 55 ≤ 1 := hRs19.1 55; omega) (by have := FU_big; have := FU_big2; have : (0 : Int) ≤ gI s 55 ∧ gI s 55 ≤ 1 := hRs.1 55; have : (0 : Int) ≤ gI s19 55 ∧ gI s19 55 ≤ 1 := hRs19.1 55; omega)
  unfold m_x12_taken
  have L8 : ∀ (n : Nat) (x23 : Int) (x24 : Int) (x25 : Int) (z26 : Int) (x27 : Int) (s28 : MS), Rr s28 → (x23 = p0 ∧ x24 = p1) → (x25 = -1 ∨ ((0 ≤ x25 ∧ x25 < gA s 39 5) ∧ cM s x25.toNat ≤ 0 ∧ vM s x25.toNat ≤ 0)) → (R8 z26) → (0 ≤ x27 ∧ x27 ≤ 48) → (gA s28 49 = gA s 49 ∧ gA s28 39 = gA s 39 ∧ gA s28 42 = gA s 42 ∧ gA s28 43 = gA s 43 ∧ gA s28 44 = gA s 44) → (gI s28 55 = gI s 55) → (48 - x27) < (n : Int) → wp (m_x12_taken_L8 n x23 x24 x25 z26 x27 s28) (fun q => (Rr q.2) ∧ (∀ i, 785 ≤ i → gA q.2 49 i = gA s 49 i) ∧ (gI q.2 55 = 1 ∨ (gI q.2 55 = gI s 55 ∧ (0 ≤ q.1 ∧ q.1 < gA s 39 5) ∧ (cM s q.1.toNat ≤ 0 ∧ vM s q.1.toNat ≤ 0) ∧ TkE s q.2 q.1.toNat p0))) := by
    refine fr_ind (fun x23 x24 x25 z26 x27 s28 hRs28 hv8_0 hv8_1 hv8_2 hv8_3 hv8_4 hv8_5 hm8 => ?_) (fun n8 ih8 x23 x24 x25 z26 x27 s28 hRs28 hv8_0 hv8_1 hv8_2 hv8_3 hv8_4 hv8_5 hm8 => ?_)
    · exfalso; have : (0 : Int) ≤ gI s 55 ∧ gI s 55 ≤ 1 := hRs.1 55; have : (0 : Int) ≤ gI s28 55 ∧ gI s28 55 ≤ 1 := hRs28.1 55; omega
    · show wp (m_x12_taken_b8 (m_x12_taken_L8 n8) x23 x24 x25 z26 x27 s28) _
      unfold m_x12_taken_b8
      refine wp_bn (w_x12_blockMany hRs28) (fun r53 er53 hr53 => ?_)
      have hr53_0 := hr53
      have hr53_0 : r53 = gA s28 39 5 := hr53_0
      have k53 : r53 = gA s 39 5 := by rw [hr53, hv8_4.2.1]
      refine wp_rg (by have : (0 : Int) ≤ gI s 55 ∧ gI s 55 ≤ 1 := hRs.1 55; have : (0 : Int) ≤ gI s28 55 ∧ gI s28 55 ≤ 1 := hRs28.1 55; omega) ?_
      refine wp_rg (by have : (0 : Int) ≤ gI s 55 ∧ gI s 55 ≤ 1 := hRs.1 55; have : (0 : Int) ≤ gI s28 55 ∧ gI s28 55 ≤ 1 := hRs28.1 55; omega) ?_
      refine wp_if (fun c3 => ?_) (fun c3 => ?_)
      · skip
        exact J102 x23 x25 s28 hRs28 (by show x23 = p0; have : (0 : Int) ≤ gI s 55 ∧ gI s 55 ≤ 1 := hRs.1 55; have : (0 : Int) ≤ gI s28 55 ∧ gI s28 55 ≤ 1 := hRs28.1 55; omega) (by show x25 = -1 ∨ ((0 ≤ x25 ∧ x25 < gA s 39 5) ∧ cM s x25.toNat ≤ 0 ∧ vM s x25.toNat ≤ 0); have : (0 : Int) ≤ gI s 55 ∧ gI s 55 ≤ 1 := hRs.1 55; have : (0 : Int) ≤ gI s28 55 ∧ gI s28 55 ≤ 1 := hRs28.1 55; omega) (hv8_4) (by show gI s28 55 = gI s 55; have : (0 : Int) ≤ gI s 55 ∧ gI s 55 ≤ 1 := hRs.1 55; have : (0 : Int) ≤ gI s28 55 ∧ gI s28 55 ≤ 1 := hRs28.1 55; omega)
      · skip
        refine wp_rg (by have : (0 : Int) ≤ gI s 55 ∧ gI s 55 ≤ 1 := hRs.1 55; have : (0 : Int) ≤ gI s28 55 ∧ gI s28 55 ≤ 1 := hRs28.1 55; omega) ?_
        refine wp_if (fun c4 => ?_) (fun c4 => ?_)
        · skip
          refine wp_bn (w_x12_isThere hRs28 (by show 0 ≤ x27 ∧ x27 < 48; have : (0 : Int) ≤ gI s 55 ∧ gI s 55 ≤ 1 := hRs.1 55; have : (0 : Int) ≤ gI s28 55 ∧ gI s28 55 ≤ 1 := hRs28.1 55; omega)) (fun r60 er60 hr60 => ?_)
          have hr60_0 := hr60
          have hr60_0 : (r60 = 1 ∧ (0 < cM s28 x27.toNat ∨ 0 < vM s28 x27.toNat)) ∨ (r60 = 0 ∧ cM s28 x27.toNat ≤ 0 ∧ vM s28 x27.toNat ≤ 0) := hr60_0
          have kc : cM s28 x27.toNat = cM s x27.toNat := by unfold cM; rw [hv8_4.1]
          have kv : vM s28 x27.toNat = vM s x27.toNat := by unfold vM; rw [hv8_4.1]
          refine wp_rg (by have : (0 : Int) ≤ gI s 55 ∧ gI s 55 ≤ 1 := hRs.1 55; have : (0 : Int) ≤ gI s28 55 ∧ gI s28 55 ≤ 1 := hRs28.1 55; omega) ?_
          refine wp_if (fun c5 => ?_) (fun c5 => ?_)
          · skip
            refine wp_stn (fun s63 es63 => ?_)
            have hRs63 : Rr s63 := es63 ▸ Rr.uI hRs28 (by show (0 : Int) ≤ x27 ∧ x27 ≤ 47; have : (0 : Int) ≤ gI s 55 ∧ gI s 55 ≤ 1 := hRs.1 55; have : (0 : Int) ≤ gI s28 55 ∧ gI s28 55 ≤ 1 := hRs28.1 55; omega)
            refine wp_stn (fun s64 es64 => ?_)
            have hRs64 : Rr s64 := es64 ▸ Rr.uI hRs63 (by show (0 : Int) ≤ x24 ∧ x24 ≤ 48; have : (0 : Int) ≤ gI s 55 ∧ gI s 55 ≤ 1 := hRs.1 55; have : (0 : Int) ≤ gI s28 55 ∧ gI s28 55 ≤ 1 := hRs28.1 55; omega)
            refine wp_stn (fun s65 es65 => ?_)
            have hRs65 : Rr s65 := es65 ▸ Rr.uI hRs64 (by show (0 : Int) ≤ x23 ∧ x23 ≤ 1000; have : (0 : Int) ≤ gI s 55 ∧ gI s 55 ≤ 1 := hRs.1 55; have : (0 : Int) ≤ gI s28 55 ∧ gI s28 55 ≤ 1 := hRs28.1 55; omega)
            refine wp_bn (w_x12_isCoded hRs65 (by show 0 ≤ (0 : Int) ∧ (0 : Int) ≤ 2; have : (0 : Int) ≤ gI s 55 ∧ gI s 55 ≤ 1 := hRs.1 55; have : (0 : Int) ≤ gI s28 55 ∧ gI s28 55 ≤ 1 := hRs28.1 55; omega)) (fun r67 er67 hr67 => ?_)
            have hr67_0 := hr67
            have hr67_0 : (r67 = 1 ∧ gA s65 42 (3 + (0 : Int).toNat) ≠ -1) ∨ (r67 = 0 ∧ gA s65 42 (3 + (0 : Int).toNat) = -1) := hr67_0
            refine wp_rg (by have : (0 : Int) ≤ gI s 55 ∧ gI s 55 ≤ 1 := hRs.1 55; have : (0 : Int) ≤ gI s28 55 ∧ gI s28 55 ≤ 1 := hRs28.1 55; omega) ?_
            refine wp_if (fun c6 => ?_) (fun c6 => ?_)
            · skip
              refine wp_rg (by have : (0 : Int) ≤ gI s 55 ∧ gI s 55 ≤ 1 := hRs.1 55; have : (0 : Int) ≤ gI s28 55 ∧ gI s28 55 ≤ 1 := hRs28.1 55; omega) ?_
              unfold m_x12_taken_J71
              refine wp_rg (by have : (0 : Int) ≤ gI s 55 ∧ gI s 55 ≤ 1 := hRs.1 55; have : (0 : Int) ≤ gI s28 55 ∧ gI s28 55 ≤ 1 := hRs28.1 55; omega) ?_
              refine wp_if (fun c7 => ?_) (fun c7 => ?_)
              · skip
                unfold m_x12_taken_J89
                unfold m_x12_taken_J96
                exact ih8 x23 x24 x27 x27 (x27 + 1) s65 hRs65 (by show x23 = p0 ∧ x24 = p1; have : (0 : Int) ≤ gI s 55 ∧ gI s 55 ≤ 1 := hRs.1 55; have : (0 : Int) ≤ gI s28 55 ∧ gI s28 55 ≤ 1 := hRs28.1 55; omega) (by show x27 = -1 ∨ ((0 ≤ x27 ∧ x27 < gA s 39 5) ∧ cM s x27.toNat ≤ 0 ∧ vM s x27.toNat ≤ 0); have : (0 : Int) ≤ gI s 55 ∧ gI s 55 ≤ 1 := hRs.1 55; have : (0 : Int) ≤ gI s28 55 ∧ gI s28 55 ≤ 1 := hRs28.1 55; omega) (by show R8 x27; have : (0 : Int) ≤ gI s 55 ∧ gI s 55 ≤ 1 := hRs.1 55; have : (0 : Int) ≤ gI s28 55 ∧ gI s28 55 ≤ 1 := hRs28.1 55; omega) (by show 0 ≤ (x27 + 1) ∧ (x27 + 1) ≤ 48; have : (0 : Int) ≤ gI s 55 ∧ gI s 55 ≤ 1 := hRs.1 55; have : (0 : Int) ≤ gI s28 55 ∧ gI s28 55 ≤ 1 := hRs28.1 55; omega) (⟨(((q_Ia es65 : gA s65 49 = gA s64 49).trans ((q_Ia es64 : gA s64 49 = gA s63 49).trans (q_Ia es63 : gA s63 49 = gA s28 49)))).trans hv8_4.1, (((q_Ia es65 : gA s65 39 = gA s64 39).trans ((q_Ia es64 : gA s64 39 = gA s63 39).trans (q_Ia es63 : gA s63 39 = gA s28 39)))).trans hv8_4.2.1, (((q_Ia es65 : gA s65 42 = gA s64 42).trans ((q_Ia es64 : gA s64 42 = gA s63 42).trans (q_Ia es63 : gA s63 42 = gA s28 42)))).trans hv8_4.2.2.1, (((q_Ia es65 : gA s65 43 = gA s64 43).trans ((q_Ia es64 : gA s64 43 = gA s63 43).trans (q_Ia es63 : gA s63 43 = gA s28 43)))).trans hv8_4.2.2.2.1, (((q_Ia es65 : gA s65 44 = gA s64 44).trans ((q_Ia es64 : gA s64 44 = gA s63 44).trans (q_Ia es63 : gA s63 44 = gA s28 44)))).trans hv8_4.2.2.2.2⟩) (by show gI s65 55 = gI s 55; have : (0 : Int) ≤ gI s28 55 ∧ gI s28 55 ≤ 1 := hRs28.1 55; have : (0 : Int) ≤ gI s 55 ∧ gI s 55 ≤ 1 := hRs.1 55; have : gI s65 55 = gI s64 55 := q_Ii es65 (by decide); have : gI s64 55 = gI s63 55 := q_Ii es64 (by decide); have : gI s63 55 = gI s28 55 := q_Ii es63 (by decide); omega) (by have : (0 : Int) ≤ gI s 55 ∧ gI s 55 ≤ 1 := hRs.1 55; have : (0 : Int) ≤ gI s28 55 ∧ gI s28 55 ≤ 1 := hRs28.1 55; omega)
              · skip
                refine wp_rgL (by have : (0 : Int) ≤ gI s 55 ∧ gI s 55 ≤ 1 := hRs.1 55; have : (0 : Int) ≤ gI s28 55 ∧ gI s28 55 ≤ 1 := hRs28.1 55; omega) ?_
                refine wp_rgL (by have : (0 : Int) ≤ gI s 55 ∧ gI s 55 ≤ 1 := hRs.1 55; have : (0 : Int) ≤ gI s28 55 ∧ gI s28 55 ≤ 1 := hRs28.1 55; omega) ?_
                refine wp_if (fun c8 => ?_) (fun c8 => ?_)
                · skip
                  unfold m_x12_taken_J89
                  unfold m_x12_taken_J96
                  exact ih8 x23 x24 x27 x27 (x27 + 1) s65 hRs65 (by show x23 = p0 ∧ x24 = p1; have : (0 : Int) ≤ gI s 55 ∧ gI s 55 ≤ 1 := hRs.1 55; have : (0 : Int) ≤ gI s28 55 ∧ gI s28 55 ≤ 1 := hRs28.1 55; omega) (by show x27 = -1 ∨ ((0 ≤ x27 ∧ x27 < gA s 39 5) ∧ cM s x27.toNat ≤ 0 ∧ vM s x27.toNat ≤ 0); have : (0 : Int) ≤ gI s 55 ∧ gI s 55 ≤ 1 := hRs.1 55; have : (0 : Int) ≤ gI s28 55 ∧ gI s28 55 ≤ 1 := hRs28.1 55; omega) (by show R8 x27; have : (0 : Int) ≤ gI s 55 ∧ gI s 55 ≤ 1 := hRs.1 55; have : (0 : Int) ≤ gI s28 55 ∧ gI s28 55 ≤ 1 := hRs28.1 55; omega) (by show 0 ≤ (x27 + 1) ∧ (x27 + 1) ≤ 48; have : (0 : Int) ≤ gI s 55 ∧ gI s 55 ≤ 1 := hRs.1 55; have : (0 : Int) ≤ gI s28 55 ∧ gI s28 55 ≤ 1 := hRs28.1 55; omega) (⟨(((q_Ia es65 : gA s65 49 = gA s64 49).trans ((q_Ia es64 : gA s64 49 = gA s63 49).trans (q_Ia es63 : gA s63 49 = gA s28 49)))).trans hv8_4.1, (((q_Ia es65 : gA s65 39 = gA s64 39).trans ((q_Ia es64 : gA s64 39 = gA s63 39).trans (q_Ia es63 : gA s63 39 = gA s28 39)))).trans hv8_4.2.1, (((q_Ia es65 : gA s65 42 = gA s64 42).trans ((q_Ia es64 : gA s64 42 = gA s63 42).trans (q_Ia es63 : gA s63 42 = gA s28 42)))).trans hv8_4.2.2.1, (((q_Ia es65 : gA s65 43 = gA s64 43).trans ((q_Ia es64 : gA s64 43 = gA s63 43).trans (q_Ia es63 : gA s63 43 = gA s28 43)))).trans hv8_4.2.2.2.1, (((q_Ia es65 : gA s65 44 = gA s64 44).trans ((q_Ia es64 : gA s64 44 = gA s63 44).trans (q_Ia es63 : gA s63 44 = gA s28 44)))).trans hv8_4.2.2.2.2⟩) (by show gI s65 55 = gI s 55; have : (0 : Int) ≤ gI s28 55 ∧ gI s28 55 ≤ 1 := hRs28.1 55; have : (0 : Int) ≤ gI s 55 ∧ gI s 55 ≤ 1 := hRs.1 55; have : gI s65 55 = gI s64 55 := q_Ii es65 (by decide); have : gI s64 55 = gI s63 55 := q_Ii es64 (by decide); have : gI s63 55 = gI s28 55 := q_Ii es63 (by decide); omega) (by have : (0 : Int) ≤ gI s 55 ∧ gI s 55 ≤ 1 := hRs.1 55; have : (0 : Int) ≤ gI s28 55 ∧ gI s28 55 ≤ 1 := hRs28.1 55; omega)
                · skip
                  unfold m_x12_taken_J96
                  exact ih8 x23 x24 x25 z26 (x27 + 1) s65 hRs65 (by show x23 = p0 ∧ x24 = p1; have : (0 : Int) ≤ gI s 55 ∧ gI s 55 ≤ 1 := hRs.1 55; have : (0 : Int) ≤ gI s28 55 ∧ gI s28 55 ≤ 1 := hRs28.1 55; omega) (by show x25 = -1 ∨ ((0 ≤ x25 ∧ x25 < gA s 39 5) ∧ cM s x25.toNat ≤ 0 ∧ vM s x25.toNat ≤ 0); have : (0 : Int) ≤ gI s 55 ∧ gI s 55 ≤ 1 := hRs.1 55; have : (0 : Int) ≤ gI s28 55 ∧ gI s28 55 ≤ 1 := hRs28.1 55; omega) (by show R8 z26; have : (0 : Int) ≤ gI s 55 ∧ gI s 55 ≤ 1 := hRs.1 55; have : (0 : Int) ≤ gI s28 55 ∧ gI s28 55 ≤ 1 := hRs28.1 55; omega) (by show 0 ≤ (x27 + 1) ∧ (x27 + 1) ≤ 48; have : (0 : Int) ≤ gI s 55 ∧ gI s 55 ≤ 1 := hRs.1 55; have : (0 : Int) ≤ gI s28 55 ∧ gI s28 55 ≤ 1 := hRs28.1 55; omega) (⟨(((q_Ia es65 : gA s65 49 = gA s64 49).trans ((q_Ia es64 : gA s64 49 = gA s63 49).trans (q_Ia es63 : gA s63 49 = gA s28 49)))).trans hv8_4.1, (((q_Ia es65 : gA s65 39 = gA s64 39).trans ((q_Ia es64 : gA s64 39 = gA s63 39).trans (q_Ia es63 : gA s63 39 = gA s28 39)))).trans hv8_4.2.1, (((q_Ia es65 : gA s65 42 = gA s64 42).trans ((q_Ia es64 : gA s64 42 = gA s63 42).trans (q_Ia es63 : gA s63 42 = gA s28 42)))).trans hv8_4.2.2.1, (((q_Ia es65 : gA s65 43 = gA s64 43).trans ((q_Ia es64 : gA s64 43 = gA s63 43).trans (q_Ia es63 : gA s63 43 = gA s28 43)))).trans hv8_4.2.2.2.1, (((q_Ia es65 : gA s65 44 = gA s64 44).trans ((q_Ia es64 : gA s64 44 = gA s63 44).trans (q_Ia es63 : gA s63 44 = gA s28 44)))).trans hv8_4.2.2.2.2⟩) (by show gI s65 55 = gI s 55; have : (0 : Int) ≤ gI s28 55 ∧ gI s28 55 ≤ 1 := hRs28.1 55; have : (0 : Int) ≤ gI s 55 ∧ gI s 55 ≤ 1 := hRs.1 55; have : gI s65 55 = gI s64 55 := q_Ii es65 (by decide); have : gI s64 55 = gI s63 55 := q_Ii es64 (by decide); have : gI s63 55 = gI s28 55 := q_Ii es63 (by decide); omega) (by have : (0 : Int) ≤ gI s 55 ∧ gI s 55 ≤ 1 := hRs.1 55; have : (0 : Int) ≤ gI s28 55 ∧ gI s28 55 ≤ 1 := hRs28.1 55; omega)
            · skip
              refine wp_bn (w_x12_codesTell hRs65 (by show 0 ≤ (0 : Int) ∧ (0 : Int) ≤ 2; have : (0 : Int) ≤ gI s 55 ∧ gI s 55 ≤ 1 := hRs.1 55; have : (0 : Int) ≤ gI s28 55 ∧ gI s28 55 ≤ 1 := hRs28.1 55; omega) (CE_eq hp1 ((((q_Ia es65 : gA s65 42 = gA s64 42).trans ((q_Ia es64 : gA s64 42 = gA s63 42).trans (q_Ia es63 : gA s63 42 = gA s28 42)))).trans hv8_4.2.2.1) ((((q_Ia es65 : gA s65 43 = gA s64 43).trans ((q_Ia es64 : gA s64 43 = gA s63 43).trans (q_Ia es63 : gA s63 43 = gA s28 43)))).trans hv8_4.2.2.2.1) ((((q_Ia es65 : gA s65 44 = gA s64 44).trans ((q_Ia es64 : gA s64 44 = gA s63 44).trans (q_Ia es63 : gA s63 44 = gA s28 44)))).trans hv8_4.2.2.2.2)) (by show gA s65 42 (3 + (0 : Int).toNat) ≠ -1; have : (0 : Int) ≤ gI s 55 ∧ gI s 55 ≤ 1 := hRs.1 55; have : (0 : Int) ≤ gI s28 55 ∧ gI s28 55 ≤ 1 := hRs28.1 55; omega)) (fun qqrl73 eqrl73s hqrl73s => ?_)
              obtain ⟨qrl73r, qrl73s⟩ := qqrl73
              dsimp only at eqrl73s hqrl73s ⊢
              have Fqrl73s : F_x12_codesTell s65 qrl73s := fr_x12_codesTell eqrl73s
              obtain ⟨hRqrl73s, hqrl73s_0⟩ := hqrl73s
              have hqrl73s_0 : R8 qrl73r := hqrl73s_0
              unfold m_x12_taken_J71
              refine wp_rg (by have : (0 : Int) ≤ gI s 55 ∧ gI s 55 ≤ 1 := hRs.1 55; have : (0 : Int) ≤ gI s28 55 ∧ gI s28 55 ≤ 1 := hRs28.1 55; omega) ?_
              refine wp_if (fun c9 => ?_) (fun c9 => ?_)
              · skip
                unfold m_x12_taken_J89
                unfold m_x12_taken_J96
                exact ih8 x23 x24 x27 qrl73r (x27 + 1) qrl73s hRqrl73s (by show x23 = p0 ∧ x24 = p1; have : (0 : Int) ≤ gI s 55 ∧ gI s 55 ≤ 1 := hRs.1 55; have : (0 : Int) ≤ gI s28 55 ∧ gI s28 55 ≤ 1 := hRs28.1 55; omega) (by show x27 = -1 ∨ ((0 ≤ x27 ∧ x27 < gA s 39 5) ∧ cM s x27.toNat ≤ 0 ∧ vM s x27.toNat ≤ 0); have : (0 : Int) ≤ gI s 55 ∧ gI s 55 ≤ 1 := hRs.1 55; have : (0 : Int) ≤ gI s28 55 ∧ gI s28 55 ≤ 1 := hRs28.1 55; omega) (by show R8 qrl73r; have : (0 : Int) ≤ gI s 55 ∧ gI s 55 ≤ 1 := hRs.1 55; have : (0 : Int) ≤ gI s28 55 ∧ gI s28 55 ≤ 1 := hRs28.1 55; omega) (by show 0 ≤ (x27 + 1) ∧ (x27 + 1) ≤ 48; have : (0 : Int) ≤ gI s 55 ∧ gI s 55 ≤ 1 := hRs.1 55; have : (0 : Int) ≤ gI s28 55 ∧ gI s28 55 ≤ 1 := hRs28.1 55; omega) (⟨(((Fqrl73s.2.1 49 (by decide)).trans ((q_Ia es65 : gA s65 49 = gA s64 49).trans ((q_Ia es64 : gA s64 49 = gA s63 49).trans (q_Ia es63 : gA s63 49 = gA s28 49))))).trans hv8_4.1, (((Fqrl73s.2.1 39 (by decide)).trans ((q_Ia es65 : gA s65 39 = gA s64 39).trans ((q_Ia es64 : gA s64 39 = gA s63 39).trans (q_Ia es63 : gA s63 39 = gA s28 39))))).trans hv8_4.2.1, (((Fqrl73s.2.1 42 (by decide)).trans ((q_Ia es65 : gA s65 42 = gA s64 42).trans ((q_Ia es64 : gA s64 42 = gA s63 42).trans (q_Ia es63 : gA s63 42 = gA s28 42))))).trans hv8_4.2.2.1, (((Fqrl73s.2.1 43 (by decide)).trans ((q_Ia es65 : gA s65 43 = gA s64 43).trans ((q_Ia es64 : gA s64 43 = gA s63 43).trans (q_Ia es63 : gA s63 43 = gA s28 43))))).trans hv8_4.2.2.2.1, (((Fqrl73s.2.1 44 (by decide)).trans ((q_Ia es65 : gA s65 44 = gA s64 44).trans ((q_Ia es64 : gA s64 44 = gA s63 44).trans (q_Ia es63 : gA s63 44 = gA s28 44))))).trans hv8_4.2.2.2.2⟩) (by show gI qrl73s 55 = gI s 55; have : (0 : Int) ≤ gI s28 55 ∧ gI s28 55 ≤ 1 := hRs28.1 55; have : (0 : Int) ≤ gI s 55 ∧ gI s 55 ≤ 1 := hRs.1 55; have : gI qrl73s 55 = gI s65 55 := Fqrl73s.1 55 (by decide); have : gI s65 55 = gI s64 55 := q_Ii es65 (by decide); have : gI s64 55 = gI s63 55 := q_Ii es64 (by decide); have : gI s63 55 = gI s28 55 := q_Ii es63 (by decide); omega) (by have : (0 : Int) ≤ gI s 55 ∧ gI s 55 ≤ 1 := hRs.1 55; have : (0 : Int) ≤ gI s28 55 ∧ gI s28 55 ≤ 1 := hRs28.1 55; omega)
              · skip
                refine wp_rgL (by have : (0 : Int) ≤ gI s 55 ∧ gI s 55 ≤ 1 := hRs.1 55; have : (0 : Int) ≤ gI s28 55 ∧ gI s28 55 ≤ 1 := hRs28.1 55; omega) ?_
                refine wp_rgL (by have : (0 : Int) ≤ gI s 55 ∧ gI s 55 ≤ 1 := hRs.1 55; have : (0 : Int) ≤ gI s28 55 ∧ gI s28 55 ≤ 1 := hRs28.1 55; omega) ?_
                refine wp_if (fun c10 => ?_) (fun c10 => ?_)
                · skip
                  unfold m_x12_taken_J89
                  unfold m_x12_taken_J96
                  exact ih8 x23 x24 x27 qrl73r (x27 + 1) qrl73s hRqrl73s (by show x23 = p0 ∧ x24 = p1; have : (0 : Int) ≤ gI s 55 ∧ gI s 55 ≤ 1 := hRs.1 55; have : (0 : Int) ≤ gI s28 55 ∧ gI s28 55 ≤ 1 := hRs28.1 55; omega) (by show x27 = -1 ∨ ((0 ≤ x27 ∧ x27 < gA s 39 5) ∧ cM s x27.toNat ≤ 0 ∧ vM s x27.toNat ≤ 0); have : (0 : Int) ≤ gI s 55 ∧ gI s 55 ≤ 1 := hRs.1 55; have : (0 : Int) ≤ gI s28 55 ∧ gI s28 55 ≤ 1 := hRs28.1 55; omega) (by show R8 qrl73r; have : (0 : Int) ≤ gI s 55 ∧ gI s 55 ≤ 1 := hRs.1 55; have : (0 : Int) ≤ gI s28 55 ∧ gI s28 55 ≤ 1 := hRs28.1 55; omega) (by show 0 ≤ (x27 + 1) ∧ (x27 + 1) ≤ 48; have : (0 : Int) ≤ gI s 55 ∧ gI s 55 ≤ 1 := hRs.1 55; have : (0 : Int) ≤ gI s28 55 ∧ gI s28 55 ≤ 1 := hRs28.1 55; omega) (⟨(((Fqrl73s.2.1 49 (by decide)).trans ((q_Ia es65 : gA s65 49 = gA s64 49).trans ((q_Ia es64 : gA s64 49 = gA s63 49).trans (q_Ia es63 : gA s63 49 = gA s28 49))))).trans hv8_4.1, (((Fqrl73s.2.1 39 (by decide)).trans ((q_Ia es65 : gA s65 39 = gA s64 39).trans ((q_Ia es64 : gA s64 39 = gA s63 39).trans (q_Ia es63 : gA s63 39 = gA s28 39))))).trans hv8_4.2.1, (((Fqrl73s.2.1 42 (by decide)).trans ((q_Ia es65 : gA s65 42 = gA s64 42).trans ((q_Ia es64 : gA s64 42 = gA s63 42).trans (q_Ia es63 : gA s63 42 = gA s28 42))))).trans hv8_4.2.2.1, (((Fqrl73s.2.1 43 (by decide)).trans ((q_Ia es65 : gA s65 43 = gA s64 43).trans ((q_Ia es64 : gA s64 43 = gA s63 43).trans (q_Ia es63 : gA s63 43 = gA s28 43))))).trans hv8_4.2.2.2.1, (((Fqrl73s.2.1 44 (by decide)).trans ((q_Ia es65 : gA s65 44 = gA s64 44).trans ((q_Ia es64 : gA s64 44 = gA s63 44).trans (q_Ia es63 : gA s63 44 = gA s28 44))))).trans hv8_4.2.2.2.2⟩) (by show gI qrl73s 55 = gI s 55; have : (0 : Int) ≤ gI s28 55 ∧ gI s28 55 ≤ 1 := hRs28.1 55; have : (0 : Int) ≤ gI s 55 ∧ gI s 55 ≤ 1 := hRs.1 55; have : gI qrl73s 55 = gI s65 55 := Fqrl73s.1 55 (by decide); have : gI s65 55 = gI s64 55 := q_Ii es65 (by decide); have : gI s64 55 = gI s63 55 := q_Ii es64 (by decide); have : gI s63 55 = gI s28 55 := q_Ii es63 (by decide); omega) (by have : (0 : Int) ≤ gI s 55 ∧ gI s 55 ≤ 1 := hRs.1 55; have : (0 : Int) ≤ gI s28 55 ∧ gI s28 55 ≤ 1 := hRs28.1 55; omega)
                · skip
                  unfold m_x12_taken_J96
                  exact ih8 x23 x24 x25 z26 (x27 + 1) qrl73s hRqrl73s (by show x23 = p0 ∧ x24 = p1; have : (0 : Int) ≤ gI s 55 ∧ gI s 55 ≤ 1 := hRs.1 55; have : (0 : Int) ≤ gI s28 55 ∧ gI s28 55 ≤ 1 := hRs28.1 55; omega) (by show x25 = -1 ∨ ((0 ≤ x25 ∧ x25 < gA s 39 5) ∧ cM s x25.toNat ≤ 0 ∧ vM s x25.toNat ≤ 0); have : (0 : Int) ≤ gI s 55 ∧ gI s 55 ≤ 1 := hRs.1 55; have : (0 : Int) ≤ gI s28 55 ∧ gI s28 55 ≤ 1 := hRs28.1 55; omega) (by show R8 z26; have : (0 : Int) ≤ gI s 55 ∧ gI s 55 ≤ 1 := hRs.1 55; have : (0 : Int) ≤ gI s28 55 ∧ gI s28 55 ≤ 1 := hRs28.1 55; omega) (by show 0 ≤ (x27 + 1) ∧ (x27 + 1) ≤ 48; have : (0 : Int) ≤ gI s 55 ∧ gI s 55 ≤ 1 := hRs.1 55; have : (0 : Int) ≤ gI s28 55 ∧ gI s28 55 ≤ 1 := hRs28.1 55; omega) (⟨(((Fqrl73s.2.1 49 (by decide)).trans ((q_Ia es65 : gA s65 49 = gA s64 49).trans ((q_Ia es64 : gA s64 49 = gA s63 49).trans (q_Ia es63 : gA s63 49 = gA s28 49))))).trans hv8_4.1, (((Fqrl73s.2.1 39 (by decide)).trans ((q_Ia es65 : gA s65 39 = gA s64 39).trans ((q_Ia es64 : gA s64 39 = gA s63 39).trans (q_Ia es63 : gA s63 39 = gA s28 39))))).trans hv8_4.2.1, (((Fqrl73s.2.1 42 (by decide)).trans ((q_Ia es65 : gA s65 42 = gA s64 42).trans ((q_Ia es64 : gA s64 42 = gA s63 42).trans (q_Ia es63 : gA s63 42 = gA s28 42))))).trans hv8_4.2.2.1, (((Fqrl73s.2.1 43 (by decide)).trans ((q_Ia es65 : gA s65 43 = gA s64 43).trans ((q_Ia es64 : gA s64 43 = gA s63 43).trans (q_Ia es63 : gA s63 43 = gA s28 43))))).trans hv8_4.2.2.2.1, (((Fqrl73s.2.1 44 (by decide)).trans ((q_Ia es65 : gA s65 44 = gA s64 44).trans ((q_Ia es64 : gA s64 44 = gA s63 44).trans (q_Ia es63 : gA s63 44 = gA s28 44))))).trans hv8_4.2.2.2.2⟩) (by show gI qrl73s 55 = gI s 55; have : (0 : Int) ≤ gI s28 55 ∧ gI s28 55 ≤ 1 := hRs28.1 55; have : (0 : Int) ≤ gI s 55 ∧ gI s 55 ≤ 1 := hRs.1 55; have : gI qrl73s 55 = gI s65 55 := Fqrl73s.1 55 (by decide); have : gI s65 55 = gI s64 55 := q_Ii es65 (by decide); have : gI s64 55 = gI s63 55 := q_Ii es64 (by decide); have : gI s63 55 = gI s28 55 := q_Ii es63 (by decide); omega) (by have : (0 : Int) ≤ gI s 55 ∧ gI s 55 ≤ 1 := hRs.1 55; have : (0 : Int) ≤ gI s28 55 ∧ gI s28 55 ≤ 1 := hRs28.1 55; omega)
          · skip
            unfold m_x12_taken_J96
            exact ih8 x23 x24 x25 z26 (x27 + 1) s28 hRs28 (by show x23 = p0 ∧ x24 = p1; have : (0 : Int) ≤ gI s 55 ∧ gI s 55 ≤ 1 := hRs.1 55; have : (0 : Int) ≤ gI s28 55 ∧ gI s28 55 ≤ 1 := hRs28.1 55; omega) (by show x25 = -1 ∨ ((0 ≤ x25 ∧ x25 < gA s 39 5) ∧ cM s x25.toNat ≤ 0 ∧ vM s x25.toNat ≤ 0); have : (0 : Int) ≤ gI s 55 ∧ gI s 55 ≤ 1 := hRs.1 55; have : (0 : Int) ≤ gI s28 55 ∧ gI s28 55 ≤ 1 := hRs28.1 55; omega) (by show R8 z26; have : (0 : Int) ≤ gI s 55 ∧ gI s 55 ≤ 1 := hRs.1 55; have : (0 : Int) ≤ gI s28 55 ∧ gI s28 55 ≤ 1 := hRs28.1 55; omega) (by show 0 ≤ (x27 + 1) ∧ (x27 + 1) ≤ 48; have : (0 : Int) ≤ gI s 55 ∧ gI s 55 ≤ 1 := hRs.1 55; have : (0 : Int) ≤ gI s28 55 ∧ gI s28 55 ≤ 1 := hRs28.1 55; omega) (⟨(rfl).trans hv8_4.1, (rfl).trans hv8_4.2.1, (rfl).trans hv8_4.2.2.1, (rfl).trans hv8_4.2.2.2.1, (rfl).trans hv8_4.2.2.2.2⟩) (by show gI s28 55 = gI s 55; have : (0 : Int) ≤ gI s 55 ∧ gI s 55 ≤ 1 := hRs.1 55; have : (0 : Int) ≤ gI s28 55 ∧ gI s28 55 ≤ 1 := hRs28.1 55; omega) (by have : (0 : Int) ≤ gI s 55 ∧ gI s 55 ≤ 1 := hRs.1 55; have : (0 : Int) ≤ gI s28 55 ∧ gI s28 55 ≤ 1 := hRs28.1 55; omega)
        · skip
          exact J102 x23 x25 s28 hRs28 (by show x23 = p0; have : (0 : Int) ≤ gI s 55 ∧ gI s 55 ≤ 1 := hRs.1 55; have : (0 : Int) ≤ gI s28 55 ∧ gI s28 55 ≤ 1 := hRs28.1 55; omega) (by show x25 = -1 ∨ ((0 ≤ x25 ∧ x25 < gA s 39 5) ∧ cM s x25.toNat ≤ 0 ∧ vM s x25.toNat ≤ 0); have : (0 : Int) ≤ gI s 55 ∧ gI s 55 ≤ 1 := hRs.1 55; have : (0 : Int) ≤ gI s28 55 ∧ gI s28 55 ≤ 1 := hRs28.1 55; omega) (hv8_4) (by show gI s28 55 = gI s 55; have : (0 : Int) ≤ gI s 55 ∧ gI s 55 ≤ 1 := hRs.1 55; have : (0 : Int) ≤ gI s28 55 ∧ gI s28 55 ≤ 1 := hRs28.1 55; omega)
  exact L8 FU p0 p1 (-1) 0 0 s hRs (by show p0 = p0 ∧ p1 = p1; omega) (by show (-1 : Int) = -1 ∨ ((0 ≤ (-1 : Int) ∧ (-1 : Int) < gA s 39 5) ∧ cM s (-1 : Int).toNat ≤ 0 ∧ vM s (-1 : Int).toNat ≤ 0); omega) (⟨by decide, by decide⟩) (by show 0 ≤ (0 : Int) ∧ (0 : Int) ≤ 48; omega) (⟨rfl, rfl, rfl, rfl, rfl⟩) (by show gI s 55 = gI s 55; have : (0 : Int) ≤ gI s 55 ∧ gI s 55 ≤ 1 := hRs.1 55; omega) (by have := FU_big; have := FU_big2; omega)
set_option maxHeartbeats 1000000 in
theorem w_x12_doesSplit {p0 : Int} {s : MS} (hRs : Rr s) (hp0 : 0 ≤ p0 ∧ p0 < 48) (hp1 : CE s 1) (hp2 : (0 ≤ (hM s).2.1 p0.toNat ∧ (hM s).2.1 p0.toNat ≤ 6)) (hp3 : 0 ≤ (hM s).1 p0.toNat ∧ (hM s).1 p0.toNat ≤ 1000) (hp4 : R2 (gA s 39 6)) : wp (m_x12_doesSplit p0 s) (fun q => (Rr q.2) ∧ ((q.1 = 1 ∧ (gA s 39 6 ≤ (hM s).2.1 p0.toNat ∨ 2 ≤ (hM s).2.1 p0.toNat)) ∨ (q.1 = 0 ∧ (hM s).2.1 p0.toNat < gA s 39 6))) := by
  unfold m_x12_doesSplit
  refine wp_bn (w_x12_entriesOf hRs (by show 0 ≤ p0 ∧ p0 < 48; omega)) (fun r6 er6 hr6 => ?_)
  obtain ⟨hr6_0, hr6_1⟩ := hr6
  have hr6_0 : r6 = (hM s).2.1 p0.toNat := hr6_0
  have hr6_1 : R2 r6 := hr6_1
  refine wp_bn (w_x12_roomOf hRs) (fun r8 er8 hr8 => ?_)
  have hr8_0 := hr8
  have hr8_0 : r8 = gA s 39 6 := hr8_0
  refine wp_rg (by omega) ?_
  refine wp_rg (by omega) ?_
  refine wp_if (fun c1 => ?_) (fun c1 => ?_)
  · skip
    refine wp_rg (by omega) ?_
    refine wp_if (fun c2 => ?_) (fun c2 => ?_)
    · skip
      unfold m_x12_doesSplit_J29
      exact wp_some ⟨hRs, by show ((0 : Int) = 1 ∧ (gA s 39 6 ≤ (hM s).2.1 p0.toNat ∨ 2 ≤ (hM s).2.1 p0.toNat)) ∨ ((0 : Int) = 0 ∧ (hM s).2.1 p0.toNat < gA s 39 6); omega⟩
    · skip
      refine wp_bn (w_x12_isCoded hRs (by show 0 ≤ (1 : Int) ∧ (1 : Int) ≤ 2; omega)) (fun r15 er15 hr15 => ?_)
      have hr15_0 := hr15
      have hr15_0 : (r15 = 1 ∧ gA s 42 (3 + (1 : Int).toNat) ≠ -1) ∨ (r15 = 0 ∧ gA s 42 (3 + (1 : Int).toNat) = -1) := hr15_0
      refine wp_rg (by omega) ?_
      refine wp_if (fun c3 => ?_) (fun c3 => ?_)
      · skip
        unfold m_x12_doesSplit_J29
        exact wp_some ⟨hRs, by show ((0 : Int) = 1 ∧ (gA s 39 6 ≤ (hM s).2.1 p0.toNat ∨ 2 ≤ (hM s).2.1 p0.toNat)) ∨ ((0 : Int) = 0 ∧ (hM s).2.1 p0.toNat < gA s 39 6); omega⟩
      · skip
        refine wp_bn (w_x12_levelOf hRs (by show 0 ≤ p0 ∧ p0 < 48; omega)) (fun r19 er19 hr19 => ?_)
        obtain ⟨hr19_0, hr19_1⟩ := hr19
        have hr19_0 : r19 = (hM s).1 p0.toNat := hr19_0
        have hr19_1 : R2 r19 := hr19_1
        refine wp_stn (fun s20 es20 => ?_)
        have hRs20 : Rr s20 := es20 ▸ Rr.uI hRs (by show (0 : Int) ≤ r19 ∧ r19 ≤ 1000; omega)
        refine wp_stn (fun s21 es21 => ?_)
        have hRs21 : Rr s21 := es21 ▸ Rr.uI hRs20 (by show (0 : Int) ≤ r6 ∧ r6 ≤ 6; omega)
        refine wp_bn (w_x12_codesTell hRs21 (by show 0 ≤ (1 : Int) ∧ (1 : Int) ≤ 2; omega) (CE_eq hp1 ((q_Ia es21 : gA s21 42 = gA s20 42).trans (q_Ia es20 : gA s20 42 = gA s 42)) ((q_Ia es21 : gA s21 43 = gA s20 43).trans (q_Ia es20 : gA s20 43 = gA s 43)) ((q_Ia es21 : gA s21 44 = gA s20 44).trans (q_Ia es20 : gA s20 44 = gA s 44))) (by rw [((q_Ia es21 : gA s21 42 = gA s20 42).trans (q_Ia es20 : gA s20 42 = gA s 42))]; omega)) (fun qqrl24 eqrl24s hqrl24s => ?_)
        obtain ⟨qrl24r, qrl24s⟩ := qqrl24
        dsimp only at eqrl24s hqrl24s ⊢
        have Fqrl24s : F_x12_codesTell s21 qrl24s := fr_x12_codesTell eqrl24s
        obtain ⟨hRqrl24s, hqrl24s_0⟩ := hqrl24s
        have hqrl24s_0 : R8 qrl24r := hqrl24s_0
        refine wp_rgL (by omega) ?_
        refine wp_if (fun c4 => ?_) (fun c4 => ?_)
        · skip
          unfold m_x12_doesSplit_J60
          refine wp_bo (by omega) ?_
          exact wp_some ⟨hRqrl24s, by show ((1 : Int) = 1 ∧ (gA s 39 6 ≤ (hM s).2.1 p0.toNat ∨ 2 ≤ (hM s).2.1 p0.toNat)) ∨ ((1 : Int) = 0 ∧ (hM s).2.1 p0.toNat < gA s 39 6); omega⟩
        · skip
          unfold m_x12_doesSplit_J60
          refine wp_bo (by omega) ?_
          exact wp_some ⟨hRqrl24s, by show ((0 : Int) = 1 ∧ (gA s 39 6 ≤ (hM s).2.1 p0.toNat ∨ 2 ≤ (hM s).2.1 p0.toNat)) ∨ ((0 : Int) = 0 ∧ (hM s).2.1 p0.toNat < gA s 39 6); omega⟩
  · skip
    exact wp_some ⟨hRs, by show ((1 : Int) = 1 ∧ (gA s 39 6 ≤ (hM s).2.1 p0.toNat ∨ 2 ≤ (hM s).2.1 p0.toNat)) ∨ ((1 : Int) = 0 ∧ (hM s).2.1 p0.toNat < gA s 39 6); omega⟩
/-! ===== counts of the reference fall ===== -/
/-- nothing but counts is another -/
def CX (s o : MS) : Prop := ∀ i, (∀ p, p < 48 → i ≠ 17 + 16 * p) → gA o 49 i = gA s 49 i
theorem CX_0 (s : MS) : CX s s := fun _ _ => rfl
theorem CX_t {s o q : MS} (h1 : CX s o) (h2 : CX o q) : CX s q := fun i hi => (h2 i hi).trans (h1 i hi)
theorem CX_h {s o : MS} (H : CX s o) : hM o = hM s := by
  have e1 : (fun p => gA o 49 (19 + 16 * p)) = fun p => gA s 49 (19 + 16 * p) := by
    funext p; exact H _ (fun q _ => by omega)
  have e2 : (fun p => gA o 49 (20 + 16 * p)) = fun p => gA s 49 (20 + 16 * p) := by
    funext p; exact H _ (fun q _ => by omega)
  have e3 : (fun p k => if k < 6 then gA o 49 (27 + 16 * p + k) else 0) = fun p k => if k < 6 then gA s 49 (27 + 16 * p + k) else 0 := by
    funext p k
    by_cases z : k < 6
    · rw [if_pos z, if_pos z]; exact H _ (fun q _ => by omega)
    · rw [if_neg z, if_neg z]
  unfold hM
  rw [e1, e2, e3]
theorem CX_k {s o : MS} (H : CX s o) : kM o = kM s := by
  funext p k
  show (if k < 6 then gA o 49 (21 + 16 * p + k) else 0) = if k < 6 then gA s 49 (21 + 16 * p + k) else 0
  by_cases z : k < 6
  · rw [if_pos z, if_pos z]; exact H _ (fun q _ => by omega)
  · rw [if_neg z, if_neg z]
theorem CX_v {s o : MS} (H : CX s o) : vM o = vM s := by
  funext p
  exact H _ (fun q _ => by omega)
theorem CX_u {s o : MS} (H : CX s o) {u : Nat} (hu : u < 17) : gA o 49 u = gA s 49 u := H u (fun q _ => by omega)
theorem CX_n {s o : MS} (H : CX s o) {i : Nat} (hi : 785 ≤ i) : gA o 49 i = gA s 49 i := H i (fun q _ => by omega)
theorem CX_r {s o : MS} (H : CX s o) : rM o = rM s := by
  funext p
  show (if p < 8 then gA o 49 p else 0) = if p < 8 then gA s 49 p else 0
  by_cases q : p < 8
  · rw [if_pos q, if_pos q]; exact CX_u H (by omega)
  · rw [if_neg q, if_neg q]
theorem CX_rs {s o : MS} (H : CX s o) : rsM o = rsM s := by
  funext p
  show (if p < 8 then gA o 49 (8 + p) else 0) = if p < 8 then gA s 49 (8 + p) else 0
  by_cases q : p < 8
  · rw [if_pos q, if_pos q]; exact CX_u H (by omega)
  · rw [if_neg q, if_neg q]
theorem M_cnt {t o : MS} {b : Nat} {v : Int} (hb : b < 48) (e : gA o 49 = upZ (gA t 49) (17 + 16 * b) v) : CX t o ∧ cM o = upZ (cM t) b v := by
  refine ⟨fun i hi => by rw [e, upZ_n (hi b hb)], ?_⟩
  funext p
  show gA o 49 (17 + 16 * p) = if p = b then v else gA t 49 (17 + 16 * p)
  rw [e]
  by_cases z : p = b
  · rw [if_pos z, z, upZ_s]
  · rw [if_neg z, upZ_n (by omega)]
/-- what is still to fall: how often each waits, and those of a block from one on -/
def FI (s S : MS) (p0 : Int) (w : Nat) (E : Nat → Int) : Prop := Rr S ∧ CX s S ∧ RelI (hM s) (rM s) (cM s) p0 (cM S) (fun x => ct (gA S 56) w (x : Int) + E x) ∧ (∀ j, j < w → (0 ≤ gA S 56 j ∧ gA S 56 j < gA s 39 5) ∧ ((w = 1 ∧ gA S 56 0 = p0 ∧ cM S p0.toNat = cM s p0.toNat ∧ 0 < cM s p0.toNat) ∨ (hM s).1 (gA S 56 j).toNat < (hM s).1 p0.toNat)) ∧ (∀ x : Nat, x < 48 → (hM s).1 p0.toNat ≤ (hM s).1 x → x ≠ p0.toNat → cM S x = cM s x)
set_option maxHeartbeats 2000000 in
theorem w_x12_falls {p0 : Int} {s : MS} (hRs : Rr s) (hN48 : gA s 39 5 ≤ 48) (hW : WN (hM s) (gA s 39 5) (cM s)) (hp : 0 ≤ p0 ∧ p0 < gA s 39 5) (hc : 0 < cM s p0.toNat) (hD : ∀ x, x < 48 → 0 ≤ df (hM s) (cM s) (rM s) x) (hcb : ∀ x, x < 48 → cM s x ≤ 100000) : wp (m_x12_falls p0 s) (fun o => Rr o ∧ F_x12_falls s o ∧ CX s o ∧ RelI (hM s) (rM s) (cM s) p0 (cM o) (fun _ => 0) ∧ (∀ x : Nat, x < 48 → (hM s).1 p0.toNat ≤ (hM s).1 x → x ≠ p0.toNat → cM o x = cM s x)) := by
  have key : wp (m_x12_falls p0 s) (fun o => Rr o ∧ CX s o ∧ RelI (hM s) (rM s) (cM s) p0 (cM o) (fun _ => 0) ∧ (∀ x : Nat, x < 48 → (hM s).1 p0.toNat ≤ (hM s).1 x → x ≠ p0.toNat → cM o x = cM s x)) := by
    have L9 : ∀ (n : Nat) (x : Int) (S : MS), FI s S p0 x.toNat (fun _ => 0) → 0 ≤ x → gA S 39 = gA s 39 → x + 6 * pos (cM S) ≤ 290 → x + 6 * pos (cM S) < (n : Int) → wp (m_x12_falls_L9 n x S) (fun o => Rr o ∧ CX s o ∧ RelI (hM s) (rM s) (cM s) p0 (cM o) (fun _ => 0) ∧ (∀ x : Nat, x < 48 → (hM s).1 p0.toNat ≤ (hM s).1 x → x ≠ p0.toNat → cM o x = cM s x)) := by
      refine fr_ind (fun x S hF h0 h39 hb hm => by exfalso; have := pos_b (cM S); omega) (fun n ih x S hF h0 h39 hb hm => ?_)
      show wp (m_x12_falls_b9 (m_x12_falls_L9 n) x S) _
      unfold m_x12_falls_b9
      obtain ⟨hRS, hX, hRel, hst, hlv⟩ := hF
      have pb := pos_b (cM S)
      refine wp_rg (by omega) (wp_if (fun c1 => ?_) (fun c1 => ?_))
      · refine wp_some ⟨hRS, hX, RelI_E hRel (fun y hy => ?_), hlv⟩
        show (0 : Int) = ct (gA S 56) x.toNat (y : Int) + 0
        rw [show x.toNat = 0 by omega]; rfl
      · refine wp_rdIn (by omega) (fun y18 e18 => ?_)
        have hy := hst (x.toNat - 1) (by omega)
        have ix : (x + (-1)).toNat = x.toNat - 1 := by omega
        rw [ix] at e18
        rw [e18] at hy
        have hyb : 0 ≤ y18 ∧ y18 < 48 := by omega
        have hy48 : y18.toNat < 48 := by omega
        have wx : x.toNat = (x.toNat - 1) + 1 := by omega
        have cx := hRel.1 y18.toNat hy48
        have cb := hcb y18.toNat hy48
        have drel := hRel.2 y18.toNat hy48
        have hctp : 1 ≤ ct (gA S 56) x.toNat ((y18.toNat : Nat) : Int) := by
          rw [wx, ct_s, e18, if_pos (by omega)]
          have := ct_nn (gA S 56) (x.toNat - 1) ((y18.toNat : Nat) : Int)
          omega
        have c1p : 1 ≤ cM S y18.toNat := by
          rcases hy.2 with q | q
          · have : y18 = p0 := by rw [← e18, show x.toNat - 1 = 0 by omega]; exact q.2.1
            rw [this, q.2.2.1]; omega
          · have ne : ((y18.toNat : Nat) : Int) ≠ p0 := fun w => by
              rw [show y18.toNat = p0.toNat by omega] at q; omega
            dsimp only at drel
            rw [if_neg ne] at drel
            have d0 := hD y18.toNat hy48
            have rn := rf_nn (hM s) (cM S) (rM s) ((y18.toNat : Nat) : Int)
            unfold df at drel d0
            omega
        refine wp_bn (w_x12_counts hRS hyb (by omega) (by omega)) (fun s20 e20 h20 => ?_)
        obtain ⟨hR20, u20⟩ := h20
        obtain ⟨x20, k20⟩ := M_cnt hy48 u20
        have F20 : F_x12_counts S s20 := fr_x12_counts e20
        have a56 : gA s20 56 = gA S 56 := F20.2.1 56 (by decide)
        have a39 : gA s20 39 = gA s 39 := (F20.2.1 39 (by decide)).trans h39
        have hX2 : CX s s20 := CX_t hX x20
        have h20 : hM s20 = hM s := CX_h hX2
        have vy : cM s20 y18.toNat = cM S y18.toNat - 1 := by rw [k20, upZ_s]; omega
        have nw : WN (hM s) (gA s 39 5) (cM S) := RelI_WN hW hRel
        have nd := (nw y18.toNat hy48).2.2 (by omega)
        have sz : 0 ≤ (hM s).2.1 y18.toNat ∧ (hM s).2.1 y18.toNat ≤ 6 := nd.2.1
        -- what holds behind the fall
        have rel2 : RelI (hM s) (rM s) (cM s) p0 (cM s20) (fun z => ct (gA S 56) (x.toNat - 1) (z : Int) + (if 0 < cM S y18.toNat - 1 then 0 else en (hM s) y18.toNat (z : Int))) := by
          refine ⟨fun z hz => ?_, fun z hz => ?_⟩
          · have := hRel.1 z hz
            rw [k20]
            by_cases w : z = y18.toNat
            · rw [w, upZ_s]; rw [w] at this; omega
            · rw [upZ_n w]; exact this
          · have dz := hRel.2 z hz
            rw [k20, df_cnt hy48, dz, if_pos (show 0 < cM S y18.toNat by omega)]
            dsimp only
            rw [wx, ct_s, e18]
            by_cases w : z = y18.toNat
            · rw [if_pos w, if_pos (show y18 = (z : Int) by omega)]
              by_cases c : 0 < cM S y18.toNat - 1
              · rw [if_pos (show 0 < cM S y18.toNat + (-1) by omega), if_pos c, show x.toNat - 1 + 1 - 1 = x.toNat - 1 by omega]; omega
              · rw [if_neg (show ¬ 0 < cM S y18.toNat + (-1) by omega), if_neg c, show x.toNat - 1 + 1 - 1 = x.toNat - 1 by omega]; omega
            · rw [if_neg w, if_neg (show ¬ y18 = (z : Int) by omega)]
              by_cases c : 0 < cM S y18.toNat - 1
              · rw [if_pos (show 0 < cM S y18.toNat + (-1) by omega), if_pos c, show x.toNat - 1 + 1 - 1 = x.toNat - 1 by omega]; omega
              · rw [if_neg (show ¬ 0 < cM S y18.toNat + (-1) by omega), if_neg c, show x.toNat - 1 + 1 - 1 = x.toNat - 1 by omega]; omega
        have lv2 : ∀ z : Nat, z < 48 → (hM s).1 p0.toNat ≤ (hM s).1 z → z ≠ p0.toNat → cM s20 z = cM s z := fun z hz hl hn => by
          rw [k20]
          have zy : z ≠ y18.toNat := fun w => by
            rcases hy.2 with q | q
            · have : y18 = p0 := by rw [← e18, show x.toNat - 1 = 0 by omega]; exact q.2.1
              rw [this] at w; exact hn w
            · rw [← w] at q; omega
          rw [upZ_n zy]; exact hlv z hz hl hn
        have st2 : ∀ j, j < x.toNat - 1 → (0 ≤ gA s20 56 j ∧ gA s20 56 j < gA s 39 5) ∧ (hM s).1 (gA s20 56 j).toNat < (hM s).1 p0.toNat := fun j hj => by
          have := hst j (by omega)
          rw [a56]
          refine ⟨this.1, ?_⟩
          rcases this.2 with q | q
          · omega
          · exact q
        have ly : (hM s).1 y18.toNat ≤ (hM s).1 p0.toNat := by
          rcases hy.2 with q | q
          · have : y18 = p0 := by rw [← e18, show x.toNat - 1 = 0 by omega]; exact q.2.1
            rw [this]; exact Int.le_refl _
          · omega
        have ps : pos (cM s20) = pos (cM S) - 1 + (if 0 < cM S y18.toNat - 1 then 1 else 0) := by
          rw [k20, pos_up hy48, if_pos (show 0 < cM S y18.toNat by omega)]
          rw [show cM S y18.toNat + (-1) = cM S y18.toNat - 1 by omega]
        have back : ∀ (hE : ∀ z : Nat, z < 48 → (if 0 < cM S y18.toNat - 1 then 0 else en (hM s) y18.toNat (z : Int)) = 0), wp (m_x12_falls_L9 n (x + (-1)) s20) (fun o => Rr o ∧ CX s o ∧ RelI (hM s) (rM s) (cM s) p0 (cM o) (fun _ => 0) ∧ (∀ x : Nat, x < 48 → (hM s).1 p0.toNat ≤ (hM s).1 x → x ≠ p0.toNat → cM o x = cM s x)) := fun hE => by
          refine ih (x + (-1)) s20 ⟨hR20, hX2, ?_, fun j hj => ?_, lv2⟩ (by omega) a39 ?_ ?_
          · rw [ix, a56]
            refine RelI_E rel2 (fun z hz => ?_)
            dsimp only
            rw [hE z hz]
          · rw [ix] at hj
            exact ⟨(st2 j hj).1, Or.inr (st2 j hj).2⟩
          · rw [ps]; split <;> omega
          · rw [ps]; split <;> omega
        refine wp_bn (w_x12_isUsed hR20 hyb) (fun r22 e22 h22 => ?_)
        refine wp_rg (by omega) (wp_if (fun c2 => ?_) (fun c2 => ?_))
        · refine wp_bn (w_x12_levelOf hR20 hyb) (fun r26 e26 h26 => ?_)
          have h26a : r26 = (hM s).1 y18.toNat := by rw [h26.1, h20]
          refine wp_rg h26.2 (wp_if (fun c3 => ?_) (fun c3 => ?_))
          · refine back (fun z hz => ?_)
            rw [if_neg (by omega)]
            exact en_leaf (by omega)
          · have l0 : 0 < (hM s).1 y18.toNat := by have := nd.1; omega
            have L51 : ∀ (m : Nat) (w k : Int) (Q : MS), FI s Q p0 w.toNat (fun z => enf (hM s) y18.toNat k (z : Int)) → 0 ≤ w → gA Q 39 = gA s 39 → (0 ≤ k ∧ k ≤ (hM s).2.1 y18.toNat ∧ w = x - 1 + k) → cM Q = cM s20 → (∀ j, j < w.toNat → (hM s).1 (gA Q 56 j).toNat < (hM s).1 p0.toNat) → (hM s).2.1 y18.toNat - k < (m : Int) → wp (m_x12_falls_L51 (m_x12_falls_L9 n) m w y18 k Q) (fun o => Rr o ∧ CX s o ∧ RelI (hM s) (rM s) (cM s) p0 (cM o) (fun _ => 0) ∧ (∀ x : Nat, x < 48 → (hM s).1 p0.toNat ≤ (hM s).1 x → x ≠ p0.toNat → cM o x = cM s x)) := by
              refine fr_ind (fun w k Q hF h0 h39 hk hcQ hlQ hm => by exfalso; omega) (fun m ihm w k Q hF h0 h39 hk hcQ hlQ hm => ?_)
              show wp (m_x12_falls_b51 (m_x12_falls_L9 n) (m_x12_falls_L51 (m_x12_falls_L9 n) m) w y18 k Q) _
              unfold m_x12_falls_b51
              obtain ⟨hRQ, hXQ, hRelQ, hstQ, hlvQ⟩ := hF
              have hQ : hM Q = hM s := CX_h hXQ
              refine wp_bn (w_x12_entriesOf hRQ hyb) (fun r8 e8 h8 => ?_)
              have h8a : r8 = (hM s).2.1 y18.toNat := by rw [h8.1, hQ]
              refine wp_rg (by omega) (wp_rg (by omega) (wp_if (fun c4 => ?_) (fun c4 => ?_)))
              · refine ih w Q ⟨hRQ, hXQ, RelI_E hRelQ (fun z hz => ?_), hstQ, hlvQ⟩ h0 h39 ?_ ?_
                · dsimp only
                  rw [enf_end (by omega)]
                · rw [hcQ, ps, if_neg (by omega)]; omega
                · rw [hcQ, ps, if_neg (by omega)]; omega
              · refine wp_bn (w_x12_valueAt hRQ hyb (by omega)) (fun r13 e13 h13 => ?_)
                have h13a : r13 = (hM s).2.2 y18.toNat k.toNat := by rw [h13.1, hQ]
                have kd := nd.2.2 l0 k.toNat (by omega)
                rw [← h13a] at kd
                refine wp_inb (by omega) (wp_stn (fun s15 e15 => ?_))
                have hR15 : Rr s15 := e15 ▸ Rr.uAu hRQ (by show (0 : Int) ≤ r13 ∧ r13 ≤ 47; omega)
                have u56 : gA s15 56 = upZ (gA Q 56) w.toNat r13 := q_AA e15
                have u49 : gA s15 49 = gA Q 49 := q_Aa e15 (by decide)
                have cQ : cM s15 = cM Q := by unfold cM; rw [u49]
                have lr : (hM s).1 r13.toNat < (hM s).1 p0.toNat := by have := kd.2; omega
                refine ihm (w + 1) (k + 1) s15 ⟨hR15, fun i hi => by rw [u49]; exact hXQ i hi, ?_, fun j hj => ?_, by rw [cQ]; exact hlvQ⟩ (by omega) ((q_Aa e15 (by decide)).trans h39) (by omega) (by rw [cQ]; exact hcQ) (fun j hj => ?_) (by omega)
                · rw [cQ, u56, show (w + 1).toNat = w.toNat + 1 by omega]
                  refine RelI_E hRelQ (fun z hz => ?_)
                  dsimp only
                  rw [ct_s, ct_up (Nat.le_refl _), upZ_s]
                  have es := enf_step (h := hM s) (p := y18.toNat) (k := k.toNat) (x := (z : Int)) l0 (by omega) (by omega)
                  rw [show ((k.toNat : Nat) : Int) = k by omega, ← h13a] at es
                  rw [es]; omega
                · rw [u56]
                  by_cases z : j = w.toNat
                  · rw [z, upZ_s]; exact ⟨kd.1, Or.inr lr⟩
                  · rw [upZ_n z]
                    exact ⟨(hstQ j (by omega)).1, Or.inr (hlQ j (by omega))⟩
                · rw [u56]
                  by_cases z : j = w.toNat
                  · rw [z, upZ_s]; exact lr
                  · rw [upZ_n z]; exact hlQ j (by omega)
            refine L51 FU (x + (-1)) 0 s20 ⟨hR20, hX2, ?_, fun j hj => ?_, lv2⟩ (by omega) a39 (by omega) rfl (fun j hj => ?_) (by have := FU_big; omega)
            · rw [ix, a56]
              refine RelI_E rel2 (fun z hz => ?_)
              dsimp only
              rw [if_neg (by omega)]; rfl
            · rw [ix] at hj
              exact ⟨(st2 j hj).1, Or.inr (st2 j hj).2⟩
            · rw [ix] at hj
              exact (st2 j hj).2
        · refine back (fun z hz => if_pos (by omega))
    unfold m_x12_falls
    refine wp_inb (by omega) (wp_stn (fun s30 e30 => ?_))
    have hR30 : Rr s30 := e30 ▸ Rr.uAu hRs (by show (0 : Int) ≤ p0 ∧ p0 ≤ 47; omega)
    have u56 : gA s30 56 = upZ (gA s 56) 0 p0 := q_AA e30
    have u49 : gA s30 49 = gA s 49 := q_Aa e30 (by decide)
    have c30 : cM s30 = cM s := by unfold cM; rw [u49]
    have pb := pos_b (cM s)
    refine L9 FU 1 s30 ⟨hR30, fun i _ => by rw [u49], ?_, fun j hj => ?_, fun x _ _ _ => by rw [c30]⟩ (by omega) (q_Aa e30 (by decide)) (by rw [c30]; omega) (by rw [c30]; have := FU_big; omega)
    · rw [c30]
      refine ⟨fun z hz => ⟨(hW z hz).1, Int.le_refl _⟩, fun z hz => ?_⟩
      dsimp only
      rw [u56, show (1 : Int).toNat = 0 + 1 by rfl, ct_s, upZ_s]
      show df (hM s) (cM s) (rM s) z = df (hM s) (cM s) (rM s) z - (if (z : Int) = p0 then 1 else 0) + ((0 : Int) + (if p0 = (z : Int) then 1 else 0) + 0)
      by_cases w : (z : Int) = p0
      · rw [if_pos w, if_pos w.symm]; omega
      · rw [if_neg w, if_neg (fun q => w q.symm)]; omega
    · have j0 : j = 0 := by
        have : j < 1 := hj
        omega
      rw [j0, u56, upZ_s]
      exact ⟨hp, Or.inl ⟨rfl, rfl, by rw [c30], hc⟩⟩
  exact wp_eq key (fun o eo ho => ⟨ho.1, fr_x12_falls eo, ho.2⟩)
/-! ===== a block of one's own ===== -/
abbrev d0 : Nat → Int := fun _ => 0
abbrev dq (b : Nat) (x : Nat) : Int := if x = b then 1 else 0
/-- rows of what was told stay -/
theorem fr39 {s o : MS} (h : gA o 39 = gA s 39) : gA o 39 5 = gA s 39 5 ∧ gA o 39 6 = gA s 39 6 := by rw [h]; exact ⟨rfl, rfl⟩
theorem TM_CX {s o : MS} {D D' : Nat → Int} {e : Int} (h39 : gA o 39 = gA s 39) (hX : CX s o) (T : TG (hM s) (kM s) (gA s 39 5) (gA s 39 6) (cM o) (vM s) (rM s) (rsM s) D e) (hD : ∀ x, x < 48 → D' x = D x) : TM o D' e := TM_mk (TG_D T hD) (CX_h hX) (CX_k hX) (by rw [h39]) (by rw [h39]) rfl (CX_v hX) (CX_r hX) (CX_rs hX)
theorem PM_CX {s o : MS} {v : Nat} {M : Nat → Nat → Int} {D : Nat → Int} {e : Int} (H : PM s v M D e) (h39 : gA o 39 = gA s 39) (hX : CX s o) (hv : v < 16) : PM o v M D e := PM_eq H (CX_h hX) (CX_k hX) h39 (fun u hu => CX_u hX (by omega)) hv
/-- a block is taken: trees -/
theorem TM_take {s o : MS} {b : Nat} {l : Int} {v : Nat} {M : Nat → Nat → Int} (T : TM s d0 (-1)) (P : PM s v M d0 (-1)) (hv : v < 8) (hE : 0 ≤ gA s 39 6) (hb : (b : Int) < gA s 39 5) (hc : cM s b ≤ 0 ∧ vM s b ≤ 0) (hK : TkE s o b l) (hl : 0 ≤ l) (h39 : gA o 39 = gA s 39) : (cM s b = 0 ∧ vM s b = 0 ∧ (∀ u, u < 16 → M u b = 0)) ∧ TM o (fun x => dq b x) (b : Int) ∧ PM o v (upM M v (upZ (M v) b 1)) (fun x => dq b x) (b : Int) := by
  have hN48 : gA s 39 5 ≤ 48 := T.1.1
  have hb48 : b < 48 := by omega
  have c0 : cM s b = 0 := by have := (T.1.2.1 b hb48).1; omega
  have v0 : vM s b = 0 := by have := (T.1.2.2.1 b hb48).1; omega
  obtain ⟨l1, l2⟩ := PM_live T (fun _ _ => Int.le_refl 0) P hv
  have nn : ∀ u, u < 16 → 0 ≤ M u b := fun u hu => by
    by_cases z : u = v
    · rw [z]; exact ((P.1 8 (by omega) (by omega)).1.2.1 b hb48).1
    · exact ((P.1 u hu z).1.2.2.1 b hb48).1
  have m0 : ∀ u, u < 16 → M u b = 0 := fun u hu => by
    have n := nn u hu
    by_cases z : 0 < M u b
    · exfalso
      by_cases h8 : u < 8
      · have := l1 u h8 b hb48 z; omega
      · have := l2 u (by omega) hu b hb48 z; omega
    · omega
  refine ⟨⟨c0, v0, m0⟩, ?_, ?_⟩
  · have T1 := TG_take (h' := hM o) (ky' := kM o) (b := b) T (Int.le_refl 0) hE hb c0 v0 (TkE_s hK) (by rw [hK.2.2.1]; exact hl) hK.2.2.2
    refine TM_mk (TG_D T1 (fun x hx => ?_)) rfl rfl (by rw [h39]) (by rw [h39]) (TkE_c hK) (TkE_v hK v0) (TkE_r hK) (TkE_rs hK)
    show (if x = b then (1 : Int) else 0) = 0 + (if x = b then 1 else 0)
    rw [Int.zero_add]
  · refine PM_to (q := gA s 49 v) P (fun u hu hn G => ?_) (fun x hx => ?_) h39 (fun u hu _ => TkE_u hK (by omega)) (TkE_u hK (by omega))
    · have T1 := TG_take (h' := hM o) (ky' := kM o) (b := b) G (Int.le_refl 0) hE hb (m0 v (by omega)) (m0 u hu) (TkE_s hK) (by rw [hK.2.2.1]; exact hl) hK.2.2.2
      refine TG_D T1 (fun x hx => ?_)
      show (if x = b then (1 : Int) else 0) = 0 + (if x = b then 1 else 0)
      rw [Int.zero_add]
    · by_cases z : x = b
      · rw [z, upZ_s]; exact Int.le_refl 1
      · rw [upZ_n z]; exact P.2 v (by omega) x hx
/-- what it is to own a block: b is it, or q is its copy -/
def OwnM (s o : MS) (v : Nat) (M M' : Nat → Nat → Int) (b q : Nat) : Prop := ((q < 48 ∧ (q : Int) < gA s 39 5) ∧ (cM o q = 1 ∧ vM o q = 0) ∧ ((hM o).1 q = (hM s).1 b ∧ (hM o).2.1 q = (hM s).2.1 b)) ∧ (∀ x, x < 48 → 0 < cM s x → (hM s).1 b ≤ (hM s).1 x → x ≠ b → cM o x = cM s x) ∧ (∀ x, x ≠ q → vM o x = vM s x ∧ (hM o).1 x = (hM s).1 x ∧ (hM o).2.1 x = (hM s).2.1 x ∧ ∀ k, k < 6 → (hM o).2.2 x k = (hM s).2.2 x k ∧ kM o x k = kM s x k) ∧ (q = b ∨ cM s q = 0) ∧ (∀ u, u < 17 → gA o 49 u = gA s 49 u) ∧ (TM o (fun x => dq q x - dq b x) (-1) ∧ PM o v M' (fun x => dq q x - dq b x) (-1)) ∧ (M' v q = 1 ∧ (∀ u, u < 16 → u ≠ v → M' u q = 0) ∧ (∀ u, u ≠ v → M' u = M u) ∧ (∀ x, x ≠ q → x ≠ b → M' v x = M v x))
theorem en_cp {h : SH} {b q : Nat} {x : Int} (hl : h.1 q = h.1 b) (hz : h.2.1 q = h.2.1 b) (he : ∀ k : Nat, k < 6 → (k : Int) < h.2.1 b → h.2.2 q k = h.2.2 b k) : en h q x = en h b x := en_ext (h := h) (h' := h) (by rw [hl]) hz he
set_option maxHeartbeats 4000000 in
theorem mt_owned {p0 : Int} {s : MS} {v : Nat} {M : Nat → Nat → Int} (hR : Rr s) (hv : v < 8) (T : TM s d0 (-1)) (P : PM s v M d0 (-1)) (hC : CE s 0) (hE : 0 ≤ gA s 39 6) (hf : gI s 55 = 0) (hb : 0 ≤ p0 ∧ p0 < 48) (hc : 0 < cM s p0.toNat) (hm : M v p0.toNat = 1) (hx : cM s p0.toNat = 1 → vM s p0.toNat = 0 → ∀ u, u < 16 → u ≠ v → M u p0.toNat = 0) : wp (m_x12_owned p0 s) (fun q => Rr q.2 ∧ F_x12_owned s q.2 ∧ (∀ i, 785 ≤ i → gA q.2 49 i = gA s 49 i) ∧ ((gI q.2 55 = 1 ∧ q.1 = p0) ∨ (gI q.2 55 = 0 ∧ 0 ≤ q.1 ∧ ∃ M', OwnM s q.2 v M M' p0.toNat q.1.toNat))) := by
  have hN48 : gA s 39 5 ≤ 48 := T.1.1
  have hb48 : p0.toNat < 48 := by omega
  have hbN : ((p0.toNat : Nat) : Int) < gA s 39 5 := TG_lt T hb48 hc
  have nd := TG_nd T hb48 hc
  have n6 : 0 ≤ (hM s).2.1 p0.toNat ∧ (hM s).2.1 p0.toNat ≤ 6 := nd.2.1
  have n1 : 1 ≤ (hM s).2.1 p0.toNat := T.2.2.1.1 p0.toNat hb48 hc (by omega)
  have lv : 0 ≤ (hM s).1 p0.toNat ∧ (hM s).1 p0.toNat ≤ 47 := TG_lev T (fun _ _ => Int.le_refl 0) hb48 hc
  have key : wp (m_x12_owned p0 s) (fun q => Rr q.2 ∧ (∀ i, 785 ≤ i → gA q.2 49 i = gA s 49 i) ∧ ((gI q.2 55 = 1 ∧ q.1 = p0) ∨ (gI q.2 55 = 0 ∧ 0 ≤ q.1 ∧ ∃ M', OwnM s q.2 v M M' p0.toNat q.1.toNat))) := by
    have J19 : wp (m_x12_owned_J19 p0 s) (fun q => Rr q.2 ∧ (∀ i, 785 ≤ i → gA q.2 49 i = gA s 49 i) ∧ ((gI q.2 55 = 1 ∧ q.1 = p0) ∨ (gI q.2 55 = 0 ∧ 0 ≤ q.1 ∧ ∃ M', OwnM s q.2 v M M' p0.toNat q.1.toNat))) := by
      unfold m_x12_owned_J19
      refine wp_bn (w_x12_levelOf hR hb) (fun r35 e35 h35 => ?_)
      have l35 := h35.1
      refine wp_bn (w_x12_taken hR ⟨by omega, hN48⟩ hC (by omega) (by omega)) (fun q38 e38 h38 => ?_)
      obtain ⟨r, o⟩ := q38
      dsimp only at e38 h38 ⊢
      obtain ⟨hRo, k7, h38⟩ := h38
      have Fo : F_x12_taken s o := fr_x12_taken e38
      have o39 : gA o 39 = gA s 39 := Fo.2.1 39 (by decide)
      have o55 : (0 : Int) ≤ gI o 55 ∧ gI o 55 ≤ 1 := hRo.1 55
      refine wp_rg (by omega) (wp_if (fun c1 => ?_) (fun c1 => wp_some ⟨hRo, k7, Or.inl ⟨by show gI o 55 = 1; omega, rfl⟩⟩))
      rcases h38 with h38 | ⟨_, ⟨r0, r1⟩, hcv, hK⟩
      · omega
      have hq48 : r.toNat < 48 := by omega
      obtain ⟨⟨c0, v0, m0⟩, T1, P1⟩ := TM_take (b := r.toNat) T P hv hE (by omega) hcv hK (by omega) o39
      have hne : p0.toNat ≠ r.toNat := fun z => by rw [z] at hc; omega
      have ob := TkE_s hK p0.toNat hb48 hne
      have oqz : (hM o).2.1 r.toNat = 0 := hK.2.2.2
      have oql : (hM o).1 r.toNat = (hM s).1 p0.toNat := by rw [hK.2.2.1]; exact l35
      have ocb : cM o p0.toNat = cM s p0.toNat := by rw [TkE_c hK, upZ_n hne]
      -- behind the copying
      have J117 : ∀ (S B : MS), Rr S → gA S 39 = gA s 39 → gI S 55 = 0 → CX B S → BX o B r.toNat → ((hM B).2.1 r.toNat = (hM s).2.1 p0.toNat) → (∀ j, j < 6 → (hM B).2.2 r.toNat j = (hM s).2.2 p0.toNat j ∧ kM B r.toNat j = kM s p0.toNat j) → (∀ x, x < 48 → cM o x ≤ cM S x ∧ ((hM s).1 p0.toNat ≤ (hM o).1 x → cM S x = cM o x)) → TM S (fun x => dq r.toNat x) (-1) → PM S v (upM M v (upZ (M v) r.toNat 1)) (fun x => dq r.toNat x - en (hM B) r.toNat (x : Int)) (-1) → wp (m_x12_owned_J117 p0 r S) (fun q => Rr q.2 ∧ (∀ i, 785 ≤ i → gA q.2 49 i = gA s 49 i) ∧ ((gI q.2 55 = 1 ∧ q.1 = p0) ∨ (gI q.2 55 = 0 ∧ 0 ≤ q.1 ∧ ∃ M', OwnM s q.2 v M M' p0.toNat q.1.toNat))) := by
        intro S B hRS h39 h55 hX hB hBz hBe hcS TS PS
        unfold m_x12_owned_J117
        have cb := hcS p0.toNat hb48
        have hMS : hM S = hM B := CX_h hX
        refine wp_bn (w_x12_falls hRS (by rw [h39]; exact hN48) TS.1.2.1 ⟨hb.1, by rw [h39]; omega⟩ (by omega) (fun x hx => by rw [TS.2.1.1 x hx]; show 0 ≤ dq r.toNat x; unfold dq; split <;> omega) (fun x hx => by have := TG_bd TS hx; have : dq r.toNat x ≤ 1 := (by unfold dq; split <;> omega); omega)) (fun s5 e5 h5 => ?_)
        obtain ⟨hR5, F5, x5, rel5, lv5⟩ := h5
        have a39 : gA s5 39 = gA s 39 := (F5.2.1 39 (by decide)).trans h39
        have hXX : CX B s5 := CX_t hX x5
        have h5M : hM s5 = hM B := CX_h hXX
        have k5M : kM s5 = kM B := CX_k hXX
        have T2 := TG_rel TS rel5
        have T3 : TM s5 (fun x => dq r.toNat x - dq p0.toNat x) (-1) := by
          refine TM_CX (s := S) (F5.2.1 39 (by decide)) x5 T2 (fun x hx => ?_)
          show dq r.toNat x - dq p0.toNat x = dq r.toNat x - (if (x : Int) = p0 then 1 else 0)
          by_cases z : x = p0.toNat
          · rw [if_pos (show (x : Int) = p0 by omega)]; unfold dq; rw [if_pos z]
          · rw [if_neg (show ¬ (x : Int) = p0 by omega)]; unfold dq; rw [if_neg z]
        have enq : ∀ x : Int, en (hM B) r.toNat x = en (hM B) p0.toNat x := fun x => en_cp (by rw [BX_l hB, oql]; exact ob.1.symm) (by rw [hBz, BX_z hB hne]; exact ob.2.1.symm) (fun k hk _ => by rw [(hBe k hk).1, (BX_e hB hne).1]; exact (ob.2.2 k hk).1.symm)
        have P5 : PM s5 v (upM M v (upZ (M v) r.toNat 1)) (fun x => dq r.toNat x - en (hM B) r.toNat (x : Int)) (-1) := PM_CX PS (F5.2.1 39 (by decide)) x5 (by omega)
        have P6 : PM s5 v (upM (upM M v (upZ (M v) r.toNat 1)) v (upZ (upZ (M v) r.toNat 1) p0.toNat 0)) (fun x => dq r.toNat x - dq p0.toNat x) (-1) := by
          refine PM_to (q := gA s5 49 v) P5 (fun u hu hn G => ?_) (fun x hx => ?_) rfl (fun u hu _ => rfl) rfl
          · rw [upM_s] at G
            have G2 := TG_off (b := p0.toNat) G hb48 (by rw [upZ_n hne]; exact hm)
            refine TG_D G2 (fun x hx => ?_)
            show dq r.toNat x - dq p0.toNat x = dq r.toNat x - en (hM B) r.toNat (x : Int) - (if x = p0.toNat then 1 else 0) + en (hM s5) p0.toNat (x : Int)
            rw [h5M, enq]
            show dq r.toNat x - dq p0.toNat x = dq r.toNat x - en (hM B) p0.toNat (x : Int) - dq p0.toNat x + en (hM B) p0.toNat (x : Int)
            omega
          · by_cases z : x = p0.toNat
            · rw [z, upZ_s]; omega
            · rw [upZ_n z]
              by_cases w : x = r.toNat
              · rw [w, upZ_s]; omega
              · rw [upZ_n w]; exact P.2 v (by omega) x hx
        have lb : (hM S).1 p0.toNat = (hM s).1 p0.toNat := by rw [hMS, BX_l hB]; exact ob.1
        have v5 : vM s5 = vM o := by rw [CX_v hXX, BX_v hB]
        refine wp_some ⟨hR5, fun i hi => ?_, Or.inr ⟨by rw [F5.1 55 (by decide)]; exact h55, r0, _, ⟨⟨hq48, by omega⟩, ⟨?_, ?_⟩, ⟨?_, ?_⟩⟩, fun x hx hcx hlx hxb => ?_, fun x hxq => ⟨?_, ?_, ?_, fun k hk => ⟨?_, ?_⟩⟩, Or.inr c0, fun u hu => ?_, ⟨T3, P6⟩, ⟨?_, fun u hu hn => ?_, fun u hn => ?_, fun x hxq hxb => ?_⟩⟩⟩
        · rw [CX_n hXX hi, BX_k hB hq48 hi]; exact k7 i hi
        · rw [lv5 r.toNat hq48 (by rw [lb, hMS, BX_l hB, oql]; exact Int.le_refl _) (fun z => hne z.symm), (hcS r.toNat hq48).2 (by rw [oql]; exact Int.le_refl _)]
          exact hK.2.1.1
        · rw [v5]; exact hK.2.1.2
        · rw [h5M, BX_l hB]; exact oql
        · rw [h5M]; exact hBz
        · have hxq : x ≠ r.toNat := fun z => by rw [z] at hcx; omega
          have h1 : (hM o).1 x = (hM s).1 x := (TkE_s hK x hx hxq).1
          rw [lv5 x hx (by rw [lb, hMS, BX_l hB, h1]; exact hlx) hxb, (hcS x hx).2 (by rw [h1]; exact hlx), TkE_c hK, upZ_n hxq]
        · rw [v5, TkE_v hK v0]
        · rw [h5M, BX_l hB]; exact hK.1 (19 + 16 * x) (by omega)
        · rw [h5M, BX_z hB hxq]; exact hK.1 (20 + 16 * x) (by omega)
        · rw [h5M, (BX_e hB hxq).1]
          show (if k < 6 then gA o 49 (27 + 16 * x + k) else 0) = if k < 6 then gA s 49 (27 + 16 * x + k) else 0
          rw [if_pos hk, if_pos hk]; exact hK.1 _ (by omega)
        · rw [k5M, (BX_e hB hxq).2]
          show (if k < 6 then gA o 49 (21 + 16 * x + k) else 0) = if k < 6 then gA s 49 (21 + 16 * x + k) else 0
          rw [if_pos hk, if_pos hk]; exact hK.1 _ (by omega)
        · rw [CX_u hXX hu, BX_u hB hu]; exact TkE_u hK hu
        · rw [upM_s, upZ_n (fun z => hne z.symm), upZ_s]
        · rw [upM_n hn, upM_n hn]; exact m0 u hu
        · rw [upM_n hn, upM_n hn]
        · rw [upM_s, upZ_n hxb, upZ_n hxq]
      -- the copying
      have L41 : ∀ (n : Nat) (x21 : Int) (S : MS), Rr S → gA S 39 = gA s 39 → gI S 55 = 0 → (3 ≤ x21 ∧ x21 ≤ 16) → BX o S r.toNat → (∀ k : Nat, 3 ≤ k → (k : Int) < x21 → gA S 49 (17 + 16 * r.toNat + k) = gA o 49 (17 + 16 * p0.toNat + k)) → 16 - x21 < (n : Int) → wp (m_x12_owned_L41 n p0 r x21 S) (fun q => Rr q.2 ∧ (∀ i, 785 ≤ i → gA q.2 49 i = gA s 49 i) ∧ ((gI q.2 55 = 1 ∧ q.1 = p0) ∨ (gI q.2 55 = 0 ∧ 0 ≤ q.1 ∧ ∃ M', OwnM s q.2 v M M' p0.toNat q.1.toNat))) := by
        refine fr_ind (fun x21 S hRS h39 h55 hk hB hcp hmm => by exfalso; omega) (fun n ih x21 S hRS h39 h55 hk hB hcp hmm => ?_)
        show wp (m_x12_owned_b41 (m_x12_owned_L41 n) p0 r x21 S) _
        unfold m_x12_owned_b41
        refine wp_rg (by omega) (wp_if (fun c2 => ?_) (fun c2 => ?_))
        · have x16 : x21 = 16 := by omega
          have Sz : (hM S).2.1 r.toNat = (hM s).2.1 p0.toNat := by
            have := hcp 3 (by omega) (by omega)
            show gA S 49 (20 + 16 * r.toNat) = _
            rw [show 20 + 16 * r.toNat = 17 + 16 * r.toNat + 3 by omega, this]
            rw [← ob.2.1]; show gA o 49 _ = gA o 49 (20 + 16 * p0.toNat); congr 1; omega
          have Se : ∀ j, j < 6 → (hM S).2.2 r.toNat j = (hM s).2.2 p0.toNat j ∧ kM S r.toNat j = kM s p0.toNat j := fun j hj => by
            have e1 := hcp (10 + j) (by omega) (by omega)
            have e2 := hcp (4 + j) (by omega) (by omega)
            rw [← (ob.2.2 j hj).1, ← (ob.2.2 j hj).2]
            constructor
            · show (if j < 6 then gA S 49 (27 + 16 * r.toNat + j) else 0) = if j < 6 then gA o 49 (27 + 16 * p0.toNat + j) else 0
              rw [if_pos hj, if_pos hj, show 27 + 16 * r.toNat + j = 17 + 16 * r.toNat + (10 + j) by omega, e1]; congr 1; omega
            · show (if j < 6 then gA S 49 (21 + 16 * r.toNat + j) else 0) = if j < 6 then gA o 49 (21 + 16 * p0.toNat + j) else 0
              rw [if_pos hj, if_pos hj, show 21 + 16 * r.toNat + j = 17 + 16 * r.toNat + (4 + j) by omega, e2]; congr 1; omega
          have S39 : gA S 39 = gA o 39 := h39.trans o39.symm
          have hcp2 : ∀ j : Nat, (j : Int) < (hM S).2.1 r.toNat → ∃ i : Nat, (i : Int) < (hM o).2.1 p0.toNat ∧ (hM S).2.2 r.toNat j = (hM o).2.2 p0.toNat i ∧ kM S r.toNat j = kM o p0.toNat i := fun j hj => by
            rw [Sz] at hj
            exact ⟨j, by rw [ob.2.1]; exact hj, by rw [(Se j (by omega)).1]; exact (ob.2.2 j (by omega)).1.symm, by rw [(Se j (by omega)).2]; exact (ob.2.2 j (by omega)).2.symm⟩
          have fill : ∀ {c sv r2 rs2 : Nat → Int}, TG (hM o) (kM o) (gA o 39 5) (gA o 39 6) c sv r2 rs2 (fun x => dq r.toNat x) ((r.toNat : Nat) : Int) → 0 < c p0.toNat → sv r.toNat ≤ 0 → 0 < c r.toNat → TG (hM S) (kM S) (gA o 39 5) (gA o 39 6) c sv r2 rs2 (fun x => dq r.toNat x - en (hM S) r.toNat (x : Int)) (-1) := fun G g1 g2 g3 => TG_fill (h' := hM S) (ky' := kM S) (b := p0.toNat) G hb48 g1 hq48 g2 g3 (BX_s hB) (by rw [BX_l hB]) (by rw [oql]; exact ob.1.symm) oqz (by rw [Sz, ob.2.1]; omega) hcp2
          have T2 : TM S (fun x => dq r.toNat x - en (hM S) r.toNat (x : Int)) (-1) := TM_mk (fill T1 (by rw [ocb]; exact hc) (by rw [hK.2.1.2]; omega) (by rw [hK.2.1.1]; omega)) rfl rfl (by rw [S39]) (by rw [S39]) (BX_c hB) (BX_v hB) (BX_r hB) (BX_rs hB)
          have P2 : PM S v (upM M v (upZ (M v) r.toNat 1)) (fun x => dq r.toNat x - en (hM S) r.toNat (x : Int)) (-1) := by
            refine PM_to0 (q := gA o 49 v) P1 (fun u hu hn G => ?_) S39 (fun u hu _ => BX_u hB (by omega)) (BX_u hB (by omega))
            refine fill G ?_ ?_ ?_
            · rw [upM_s, upZ_n hne, hm]; omega
            · rw [upM_n hn, m0 u hu]; omega
            · rw [upM_s, upZ_s]; omega
          refine wp_bn (w_x12_levelOf hRS hb) (fun r26 e26 h26 => ?_)
          have l26 : r26 = (hM s).1 p0.toNat := by rw [h26.1, BX_l hB]; exact ob.1
          refine wp_rg h26.2 (wp_if (fun c3 => ?_) (fun c3 => ?_))
          · refine J117 S S hRS h39 h55 (CX_0 S) hB Sz Se (fun x hx => ⟨by rw [BX_c hB]; exact Int.le_refl _, fun _ => by rw [BX_c hB]⟩) (TG_D T2 (fun x hx => ?_)) P2
            show dq r.toNat x = dq r.toNat x - en (hM S) r.toNat (x : Int)
            rw [en_leaf (by rw [BX_l hB, oql]; omega)]; omega
          · have L91 : ∀ (m : Nat) (k : Int) (Q : MS), Rr Q → gA Q 39 = gA s 39 → gI Q 55 = 0 → CX S Q → (∀ x, x < 48 → cM o x ≤ cM Q x ∧ ((hM s).1 p0.toNat ≤ (hM o).1 x → cM Q x = cM o x)) → (0 ≤ k ∧ k ≤ (hM s).2.1 p0.toNat) → TM Q (fun x => dq r.toNat x - enf (hM S) r.toNat k (x : Int)) (-1) → (hM s).2.1 p0.toNat - k < (m : Int) → wp (m_x12_owned_L91 m p0 r k Q) (fun q => Rr q.2 ∧ (∀ i, 785 ≤ i → gA q.2 49 i = gA s 49 i) ∧ ((gI q.2 55 = 1 ∧ q.1 = p0) ∨ (gI q.2 55 = 0 ∧ 0 ≤ q.1 ∧ ∃ M', OwnM s q.2 v M M' p0.toNat q.1.toNat))) := by
              refine fr_ind (fun k Q hRQ q39 q55 hX hcQ hk TQ hmm => by exfalso; omega) (fun m ihm k Q hRQ q39 q55 hX hcQ hk TQ hmm => ?_)
              show wp (m_x12_owned_b91 (m_x12_owned_L91 m) p0 r k Q) _
              unfold m_x12_owned_b91
              have hMQ : hM Q = hM S := CX_h hX
              refine wp_bn (w_x12_entriesOf hRQ hb) (fun r11 e11 h11 => ?_)
              have z11 : r11 = (hM s).2.1 p0.toNat := by rw [h11.1, hMQ, BX_z hB hne]; exact ob.2.1
              refine wp_rg (by omega) (wp_rg (by omega) (wp_if (fun c4 => ?_) (fun c4 => ?_)))
              · refine J117 Q S hRQ q39 q55 hX hB Sz Se hcQ (TG_D TQ (fun x hx => ?_)) (PM_CX P2 (q39.trans h39.symm) hX (by omega))
                show dq r.toNat x = dq r.toNat x - enf (hM S) r.toNat k (x : Int)
                rw [enf_end (by rw [Sz]; omega)]; omega
              · refine wp_bn (w_x12_valueAt hRQ hb (by omega)) (fun r16 e16 h16 => ?_)
                have ey : r16 = (hM s).2.2 p0.toNat k.toNat := by rw [h16.1, hMQ, (BX_e hB hne).1]; exact (ob.2.2 k.toNat (by omega)).1
                have kid := TG_kid (p := p0.toNat) (k := k.toNat) T (fun _ _ => Int.le_refl 0) hb48 hc (by omega) (by omega)
                rw [← ey] at kid
                obtain ⟨⟨y0, y1⟩, y2, y3⟩ := kid
                have y48 : r16.toNat < 48 := by omega
                have yq : r16.toNat ≠ r.toNat := fun z => by rw [z] at y3; omega
                have yo : cM o r16.toNat = cM s r16.toNat := by rw [TkE_c hK, upZ_n yq]
                have yc := (hcQ r16.toNat y48).1
                have ybd := TG_bd TQ y48
                have yen := enf_nn (hM S) r.toNat k ((r16.toNat : Nat) : Int)
                have ydq : dq r.toNat r16.toNat = 0 := if_neg yq
                refine wp_bn (w_x12_counts hRQ (by omega) (by omega) (by omega)) (fun s18 e18 h18 => ?_)
                obtain ⟨hR18, u18⟩ := h18
                obtain ⟨x18, k18⟩ := M_cnt y48 u18
                have F18 : F_x12_counts Q s18 := fr_x12_counts e18
                have T18 := TG_inc (y := r16.toNat) TQ y48 (by omega)
                have yl : (hM o).1 r16.toNat = (hM s).1 p0.toNat - 1 := by rw [(TkE_s hK r16.toNat y48 yq).1]; exact y2
                refine ihm (k + 1) s18 hR18 ((F18.2.1 39 (by decide)).trans q39) ((F18.1 55 (by decide)).trans q55) (CX_t hX x18) (fun x hx => ?_) (by omega) ?_ (by omega)
                · rw [k18]
                  have := hcQ x hx
                  by_cases z : x = r16.toNat
                  · rw [z, upZ_s]
                    rw [z] at this
                    exact ⟨by omega, fun w => by omega⟩
                  · rw [upZ_n z]; exact this
                · refine TM_CX (s := Q) (F18.2.1 39 (by decide)) x18 (by rw [k18]; exact T18) (fun x hx => ?_)
                  show dq r.toNat x - enf (hM S) r.toNat (k + 1) (x : Int) = dq r.toNat x - enf (hM S) r.toNat k (x : Int) + (if x = r16.toNat then 1 else 0)
                  have es := enf_step (h := hM S) (p := r.toNat) (k := k.toNat) (x := (x : Int)) (by rw [BX_l hB, oql]; omega) (by rw [Sz]; omega) (by omega)
                  rw [show ((k.toNat : Nat) : Int) = k by omega, (Se k.toNat (by omega)).1, ← ey] at es
                  rw [es]
                  by_cases z : x = r16.toNat
                  · rw [if_pos z, if_pos (show r16 = (x : Int) by omega)]; omega
                  · rw [if_neg z, if_neg (show ¬ r16 = (x : Int) by omega)]; omega
            refine L91 FU 0 S hRS h39 h55 (CX_0 S) (fun x hx => ⟨by rw [BX_c hB]; exact Int.le_refl _, fun _ => by rw [BX_c hB]⟩) (by omega) T2 (by have := FU_big; omega)
        · refine wp_rdIn (by omega) (fun y29 e29 => ?_)
          refine wp_inb (by omega) (wp_stn (fun s31 e31 => ?_))
          have y29r : R2 y29 := by rw [← e29]; exact R49 hRS (by omega)
          have hR31 : Rr s31 := e31 ▸ Rr.uAu hRS (by show (-2147483648 : Int) ≤ y29 ∧ y29 ≤ 2147483647; exact y29r)
          have u31 : gA s31 49 = upZ (gA S 49) (17 + 16 * r.toNat + x21.toNat) y29 := by
            rw [(q_AA e31 : gA s31 49 = _), show (17 + 16 * r + x21).toNat = 17 + 16 * r.toNat + x21.toNat by omega]
          refine ih (x21 + 1) s31 hR31 ((q_Aa e31 (by decide)).trans h39) ((q_Ai e31).trans h55) (by omega) (fun i hi => ?_) (fun k hk3 hkx => ?_) (by omega)
          · rw [u31, upZ_n (by omega)]; exact hB i hi
          · rw [u31]
            by_cases z : k = x21.toNat
            · rw [z, upZ_s, ← e29, show (17 + 16 * p0 + x21).toNat = 17 + 16 * p0.toNat + x21.toNat by omega]
              exact hB _ (by omega)
            · rw [upZ_n (by omega)]; exact hcp k hk3 (by omega)
      exact L41 FU 3 o hRo o39 (by omega) (by omega) (BX_0 o _) (fun k h3 hk => by omega) (by have := FU_big; omega)
    unfold m_x12_owned
    refine wp_bn (w_x12_isFresh hR hb) (fun r42 e42 h42 => ?_)
    refine wp_rg (by omega) (wp_if (fun c1 => J19) (fun c1 => ?_))
    refine wp_bn (w_x12_countOf hR hb) (fun r46 e46 h46 => ?_)
    refine wp_rg h46.2 (wp_if (fun c2 => ?_) (fun c2 => J19))
    have hx' := hx (by omega) (by omega)
    have z0 : ∀ x, dq p0.toNat x - dq p0.toNat x = 0 := fun x => by omega
    exact wp_some ⟨hR, fun i _ => rfl, Or.inr ⟨hf, hb.1, M, ⟨⟨hb48, hbN⟩, ⟨by show cM s p0.toNat = 1; omega, by show vM s p0.toNat = 0; omega⟩, rfl, rfl⟩, fun x _ _ _ _ => rfl, fun x _ => ⟨rfl, rfl, rfl, fun k _ => ⟨rfl, rfl⟩⟩, Or.inl rfl, fun u _ => rfl, ⟨TG_D T (fun x _ => z0 x), PM_D P (fun x _ => z0 x)⟩, hm, hx', fun u _ => rfl, fun x _ _ => rfl⟩⟩
  exact wp_eq key (fun q eq hq => ⟨hq.1, fr_x12_owned eq, hq.2⟩)
/-! ===== entries set and put in: trees ===== -/
/-- a block that may be changed, with room -/
def CurM (s : MS) (v : Nat) (M : Nat → Nat → Int) (b i : Int) : Prop := ((0 ≤ b ∧ b < 48) ∧ cM s b.toNat = 1 ∧ vM s b.toNat = 0) ∧ (hM s).1 b.toNat = i ∧ (hM s).2.1 b.toNat < gA s 39 6 ∧ (M v b.toNat = 1 ∧ ∀ u, u < 16 → u ≠ v → M u b.toNat = 0)
theorem MT_ins {s o : MS} {v b k : Nat} {M : Nat → Nat → Int} {D : Nat → Int} {e key val : Int} (T : TM s D e) (P : PM s v M D e) (I : InsE s o b k key val) (h39 : gA o 39 = gA s 39) (hvv : v < 16) (hb : b < 48) (hc : 0 < cM s b) (hv0 : vM s b ≤ 0) (hm : 0 < M v b) (hmu : ∀ u, u < 16 → u ≠ v → M u b ≤ 0) (hz : (hM s).2.1 b ≤ 5) (hzE : (hM s).2.1 b + 1 ≤ gA s 39 6) (hk : (k : Int) ≤ (hM s).2.1 b) (hval : 0 < (hM s).1 b → (0 ≤ val ∧ val < gA s 39 5) ∧ (hM s).1 val.toNat = (hM s).1 b - 1) (hke : 0 ≤ key ∧ key ≤ 999) (he : e = -1 ∨ e = (b : Int)) : TM o (fun x => D x - (if 0 < (hM s).1 b ∧ val = (x : Int) then 1 else 0)) (-1) ∧ PM o v M (fun x => D x - (if 0 < (hM s).1 b ∧ val = (x : Int) then 1 else 0)) (-1) := by
  obtain ⟨iB, iz, ilo, iat, ihi⟩ := I
  have step : ∀ {c sv r2 rs2 : Nat → Int}, TG (hM s) (kM s) (gA s 39 5) (gA s 39 6) c sv r2 rs2 D e → 0 < c b → sv b ≤ 0 → TG (hM o) (kM o) (gA s 39 5) (gA s 39 6) c sv r2 rs2 (fun x => D x - (if 0 < (hM s).1 b ∧ val = (x : Int) then 1 else 0)) (-1) := fun G g1 g2 => TG_ins (h' := hM o) (ky' := kM o) G hb g2 g1 (BX_s iB) (by rw [BX_l iB]) hz hzE iz hk ilo iat ihi hval hke he
  refine ⟨TM_mk (step T hc hv0) rfl rfl (by rw [h39]) (by rw [h39]) (BX_c iB) (BX_v iB) (BX_r iB) (BX_rs iB), ?_⟩
  exact PM_to0 (q := gA s 49 v) P (fun u hu hn G => step G hm (hmu u hu hn)) h39 (fun u hu _ => BX_u iB (by omega)) (BX_u iB (by omega))
theorem MT_set {s o : MS} {v b k : Nat} {M : Nat → Nat → Int} {D : Nat → Int} {e val : Int} (T : TM s D e) (P : PM s v M D e) (hk6 : k < 6) (u49 : gA o 49 = upZ (upZ (gA s 49) (21 + 16 * b + k) (kM s b k)) (27 + 16 * b + k) val) (h39 : gA o 39 = gA s 39) (hvv : v < 16) (hb : b < 48) (hc : 0 < cM s b) (hv0 : vM s b ≤ 0) (hm : 0 < M v b) (hmu : ∀ u, u < 16 → u ≠ v → M u b ≤ 0) (hk : (k : Int) < (hM s).2.1 b) (hval : 0 < (hM s).1 b → (0 ≤ val ∧ val < gA s 39 5) ∧ (hM s).1 val.toNat = (hM s).1 b - 1) : BX s o b ∧ (hM o).2.1 b = (hM s).2.1 b ∧ (TM o (fun x => D x + (if 0 < (hM s).1 b ∧ (hM s).2.2 b k = (x : Int) then 1 else 0) - (if 0 < (hM s).1 b ∧ val = (x : Int) then 1 else 0)) e ∧ PM o v M (fun x => D x + (if 0 < (hM s).1 b ∧ (hM s).2.2 b k = (x : Int) then 1 else 0) - (if 0 < (hM s).1 b ∧ val = (x : Int) then 1 else 0)) e) := by
  obtain ⟨iB, iz, ⟨iv, ik⟩, irest⟩ := M_set hk6 u49
  have step : ∀ {c sv r2 rs2 : Nat → Int}, TG (hM s) (kM s) (gA s 39 5) (gA s 39 6) c sv r2 rs2 D e → 0 < c b → sv b ≤ 0 → TG (hM o) (kM o) (gA s 39 5) (gA s 39 6) c sv r2 rs2 (fun x => D x + (if 0 < (hM s).1 b ∧ (hM s).2.2 b k = (x : Int) then 1 else 0) - (if 0 < (hM s).1 b ∧ val = (x : Int) then 1 else 0)) e := fun G g1 g2 => TG_set (h' := hM o) (ky' := kM o) G hb g2 g1 (BX_s iB) (by rw [BX_l iB]) iz hk (fun j _ hj => (irest j hj).1) iv (fun j _ => by
    by_cases z : j = k
    · rw [z]; exact ik
    · exact (irest j z).2) hval
  refine ⟨iB, iz, TM_mk (step T hc hv0) rfl rfl (by rw [h39]) (by rw [h39]) (BX_c iB) (BX_v iB) (BX_r iB) (BX_rs iB), ?_⟩
  exact PM_to0 (q := gA s 49 v) P (fun u hu hn G => step G hm (hmu u hu hn)) h39 (fun u hu _ => BX_u iB (by omega)) (BX_u iB (by omega))
/-- a root is another -/
theorem M_root {s o : MS} {v : Nat} {q : Int} (hv : v < 8) (e : gA o 49 = upZ (gA s 49) v q) : (hM o = hM s ∧ kM o = kM s) ∧ (cM o = cM s ∧ vM o = vM s) ∧ (rM o = upZ (rM s) v q ∧ rsM o = rsM s) := by
  have nz : ∀ i, i ≠ v → gA o 49 i = gA s 49 i := fun i hi => by rw [e, upZ_n hi]
  refine ⟨⟨?_, ?_⟩, ⟨?_, ?_⟩, ?_, ?_⟩
  · have e1 : (fun p => gA o 49 (19 + 16 * p)) = fun p => gA s 49 (19 + 16 * p) := by funext p; exact nz _ (by omega)
    have e2 : (fun p => gA o 49 (20 + 16 * p)) = fun p => gA s 49 (20 + 16 * p) := by funext p; exact nz _ (by omega)
    have e3 : (fun p k => if k < 6 then gA o 49 (27 + 16 * p + k) else 0) = fun p k => if k < 6 then gA s 49 (27 + 16 * p + k) else 0 := by funext p k; rw [nz _ (by omega)]
    unfold hM
    rw [e1, e2, e3]
  · funext p k
    show (if k < 6 then gA o 49 (21 + 16 * p + k) else 0) = if k < 6 then gA s 49 (21 + 16 * p + k) else 0
    rw [nz _ (by omega)]
  · funext p; exact nz _ (by omega)
  · funext p; exact nz _ (by omega)
  · funext p
    show (if p < 8 then gA o 49 p else 0) = if p = v then q else if p < 8 then gA s 49 p else 0
    by_cases z : p = v
    · rw [if_pos (show p < 8 by omega), if_pos z, z, e, upZ_s]
    · rw [if_neg z, nz _ z]
  · funext p
    show (if p < 8 then gA o 49 (8 + p) else 0) = if p < 8 then gA s 49 (8 + p) else 0
    rw [nz _ (by omega)]
theorem MT_root {s o : MS} {v : Nat} {M : Nat → Nat → Int} {D : Nat → Int} {e q : Int} (T : TM s D e) (P : PM s v M D e) (hv : v < 8) (u49 : gA o 49 = upZ (gA s 49) v q) (h39 : gA o 39 = gA s 39) (hq : (0 ≤ q ∧ q < gA s 39 5) ∨ q < 0 ∨ 254 ≤ q) : TM o (fun x => D x + (if gA s 49 v = (x : Int) then 1 else 0) - (if q = (x : Int) then 1 else 0)) e ∧ PM o v M (fun x => D x + (if gA s 49 v = (x : Int) then 1 else 0) - (if q = (x : Int) then 1 else 0)) e := by
  obtain ⟨⟨a1, a2⟩, ⟨a3, a4⟩, a5, a6⟩ := M_root hv u49
  constructor
  · have T1 := TG_root (v := v) (q := q) T hv hq
    rw [rM_v hv] at T1
    exact TM_mk T1 a1 a2 (by rw [h39]) (by rw [h39]) a3 a4 a5 a6
  · refine PM_to0 (q := q) P (fun u hu hn G => ?_) h39 (fun u hu hn => by rw [u49, upZ_n hn]) (by rw [u49, upZ_s])
    have G1 := TG_root (v := 0) (q := q) G (by omega) hq
    rw [sr_up, sr_0] at G1
    rw [a1, a2]
    exact G1
theorem half_b {z E : Int} (h0 : 2 ≤ z) (h6 : z ≤ 6) (hE : z ≤ E) : (1 ≤ Int.tdiv z 2 ∧ Int.tdiv z 2 < E ∧ Int.tdiv z 2 ≤ 3) ∧ 1 ≤ z - Int.tdiv z 2 ∧ z - Int.tdiv z 2 < E ∧ z - Int.tdiv z 2 ≤ z := by
  rw [Int.tdiv_eq_ediv_of_nonneg (by omega)]
  omega
set_option maxHeartbeats 4000000 in
theorem mt_half {p0 p1 p2 p3 : Int} {s : MS} {v : Nat} {M : Nat → Nat → Int} {i : Int} (hR : Rr s) (hv : v < 8) (T : TM s d0 (-1)) (P : PM s v M d0 (-1)) (hC : CE s 0) (hE : 3 ≤ gA s 39 6 ∧ gA s 39 6 ≤ 6) (hf : gI s 55 = 0) (hA : CurM s v M p0 (i + 1)) (hk : 0 ≤ p1 ∧ p1 < (hM s).2.1 p0.toNat) (hB : ((0 ≤ p2 ∧ p2 < 48) ∧ cM s p2.toNat = 1 ∧ vM s p2.toNat = 0) ∧ (hM s).1 p2.toNat = i ∧ 2 ≤ (hM s).2.1 p2.toNat ∧ (M v p2.toNat = 1 ∧ ∀ u, u < 16 → u ≠ v → M u p2.toNat = 0)) (h3 : R2 p3) : wp (m_x12_half p0 p1 p2 p3 s) (fun q => Rr q.2 ∧ F_x12_half s q.2 ∧ (∀ j, 785 ≤ j → gA q.2 49 j = gA s 49 j) ∧ (∀ u, u < 17 → gI q.2 55 = 0 → gA q.2 49 u = gA s 49 u) ∧ (gI q.2 55 = 1 ∨ (gI q.2 55 = 0 ∧ ∃ M', TM q.2 d0 (-1) ∧ PM q.2 v M' d0 (-1) ∧ CurM q.2 v M' q.1 i))) := by
  obtain ⟨⟨ha, a54, a55⟩, a56, a57, am, amu⟩ := hA
  obtain ⟨⟨hb, b54, b55⟩, b56, b57, bm, bmu⟩ := hB
  have hN48 : gA s 39 5 ≤ 48 := T.1.1
  have ha48 : p0.toNat < 48 := by omega
  have hb48 : p2.toNat < 48 := by omega
  have nd := TG_nd T hb48 (by omega)
  have n6 : 0 ≤ (hM s).2.1 p2.toNat ∧ (hM s).2.1 p2.toNat ≤ 6 := nd.2.1
  have nE : (hM s).2.1 p2.toNat ≤ gA s 39 6 := (T.2.2.2.2 p2.toNat hb48 (Or.inl (by omega))).1
  have lv : 0 ≤ (hM s).1 p2.toNat ∧ (hM s).1 p2.toNat ≤ 47 := TG_lev T (fun _ _ => Int.le_refl 0) hb48 (by omega)
  have bN : ((p2.toNat : Nat) : Int) < gA s 39 5 := TG_lt T hb48 (by omega)
  obtain ⟨⟨t1, t2, t2b⟩, t3, t4, t5⟩ := half_b b57 n6.2 nE
  have hab : p0.toNat ≠ p2.toNat := fun q => by rw [q] at a56; omega
  have key : wp (m_x12_half p0 p1 p2 p3 s) (fun q => Rr q.2 ∧ (∀ j, 785 ≤ j → gA q.2 49 j = gA s 49 j) ∧ (∀ u, u < 17 → gI q.2 55 = 0 → gA q.2 49 u = gA s 49 u) ∧ (gI q.2 55 = 1 ∨ (gI q.2 55 = 0 ∧ ∃ M', TM q.2 d0 (-1) ∧ PM q.2 v M' d0 (-1) ∧ CurM q.2 v M' q.1 i))) := by
    unfold m_x12_half
    refine wp_bn (w_x12_levelOf hR hb) (fun r36 e36 h36 => ?_)
    have l36 := h36.1
    refine wp_bn (w_x12_taken hR ⟨by omega, hN48⟩ hC (by omega) (by omega)) (fun q39 e39 h39q => ?_)
    obtain ⟨r, o⟩ := q39
    dsimp only at e39 h39q ⊢
    obtain ⟨hRo, k7, h38⟩ := h39q
    have Fo : F_x12_taken s o := fr_x12_taken e39
    have o39 : gA o 39 = gA s 39 := Fo.2.1 39 (by decide)
    have o55 : (0 : Int) ≤ gI o 55 ∧ gI o 55 ≤ 1 := hRo.1 55
    refine wp_rg (by omega) (wp_if (fun c1 => ?_) (fun c1 => wp_some ⟨hRo, k7, fun u hu h0 => by exfalso; have h0' : gI o 55 = 0 := h0; omega, Or.inl (by show gI o 55 = 1; omega)⟩))
    rcases h38 with h38 | ⟨_, ⟨r0, r1⟩, hcv, hK⟩
    · omega
    have hq48 : r.toNat < 48 := by omega
    obtain ⟨⟨c0, v0, m0⟩, T1, P1⟩ := TM_take (b := r.toNat) T P hv (by omega) (by omega) hcv hK (by omega) o39
    have nqb : p2.toNat ≠ r.toNat := fun z => by rw [z] at b54; omega
    have nqa : p0.toNat ≠ r.toNat := fun z => by rw [z] at a54; omega
    have ob := TkE_s hK p2.toNat hb48 nqb
    have oa := TkE_s hK p0.toNat ha48 nqa
    have oqz : (hM o).2.1 r.toNat = 0 := hK.2.2.2
    have oql : (hM o).1 r.toNat = i := by rw [hK.2.2.1, l36]; exact b56
    have oc : cM o = upZ (cM s) r.toNat 1 := TkE_c hK
    have ov : vM o = vM s := TkE_v hK v0
    refine wp_bn (w_x12_entriesOf hRo hb) (fun r43 e43 h43 => ?_)
    have z43 : r43 = (hM s).2.1 p2.toNat := by rw [h43.1]; exact ob.2.1
    refine wp_dv (by omega) ?_
    refine wp_bn (w_x12_entriesOf hRo hb) (fun r46 e46 h46 => ?_)
    have z46 : r46 = (hM s).2.1 p2.toNat := by rw [h46.1]; exact ob.2.1
    rw [z43, z46]
    generalize hgo : Int.tdiv ((hM s).2.1 p2.toNat) 2 = go at *
    have L43 : ∀ (n : Nat) (x : Int) (S : MS), Rr S → gA S 39 = gA s 39 → gI S 55 = 0 → (0 ≤ x ∧ x ≤ go) → BX o S r.toNat → (hM S).2.1 r.toNat = x → (∀ j : Nat, (j : Int) < x → (hM S).2.2 r.toNat j = (hM s).2.2 p2.toNat (((hM s).2.1 p2.toNat - go).toNat + j) ∧ kM S r.toNat j = kM s p2.toNat (((hM s).2.1 p2.toNat - go).toNat + j)) → go - x < (n : Int) → wp (m_x12_half_L43 n p0 p1 p2 p3 r go ((hM s).2.1 p2.toNat - go) x S) (fun q => Rr q.2 ∧ (∀ j, 785 ≤ j → gA q.2 49 j = gA s 49 j) ∧ (∀ u, u < 17 → gI q.2 55 = 0 → gA q.2 49 u = gA s 49 u) ∧ (gI q.2 55 = 1 ∨ (gI q.2 55 = 0 ∧ ∃ M', TM q.2 d0 (-1) ∧ PM q.2 v M' d0 (-1) ∧ CurM q.2 v M' q.1 i))) := by
      refine fr_ind (fun x S hRS h39 h55 hx hBX hsz hcp hmm => by exfalso; omega) (fun n ih x S hRS h39 h55 hx hBX hsz hcp hmm => ?_)
      show wp (m_x12_half_b43 (m_x12_half_L43 n) p0 p1 p2 p3 r go ((hM s).2.1 p2.toNat - go) x S) _
      unfold m_x12_half_b43
      have sb : ∀ j, j < 6 → (hM S).2.2 p2.toNat j = (hM s).2.2 p2.toNat j ∧ kM S p2.toNat j = kM s p2.toNat j := fun j hj => by rw [(BX_e hBX nqb).1, (BX_e hBX nqb).2]; exact ob.2.2 j hj
      refine wp_rg (by omega) (wp_rg (by omega) (wp_if (fun c2 => ?_) (fun c2 => ?_)))
      · have xg : x = go := by omega
        have S39 : gA S 39 = gA o 39 := h39.trans o39.symm
        have hcp2 : ∀ j : Nat, (j : Int) < (hM S).2.1 r.toNat → ∃ i : Nat, (i : Int) < (hM o).2.1 p2.toNat ∧ (hM S).2.2 r.toNat j = (hM o).2.2 p2.toNat i ∧ kM S r.toNat j = kM o p2.toNat i := fun j hj => by
          rw [hsz] at hj
          have e1 := hcp j hj
          have e2 := ob.2.2 (((hM s).2.1 p2.toNat - go).toNat + j) (by omega)
          exact ⟨((hM s).2.1 p2.toNat - go).toNat + j, by rw [ob.2.1]; omega, by rw [e1.1]; exact e2.1.symm, by rw [e1.2]; exact e2.2.symm⟩
        have fill : ∀ {c sv r2 rs2 : Nat → Int}, TG (hM o) (kM o) (gA o 39 5) (gA o 39 6) c sv r2 rs2 (fun x => dq r.toNat x) ((r.toNat : Nat) : Int) → 0 < c p2.toNat → sv r.toNat ≤ 0 → 0 < c r.toNat → TG (hM S) (kM S) (gA o 39 5) (gA o 39 6) c sv r2 rs2 (fun x => dq r.toNat x - en (hM S) r.toNat (x : Int)) (-1) := fun G g1 g2 g3 => TG_fill (h' := hM S) (ky' := kM S) (b := p2.toNat) G hb48 g1 hq48 g2 g3 (BX_s hBX) (by rw [BX_l hBX]) (by rw [oql, ob.1]; exact b56.symm) oqz (by rw [hsz, ob.2.1]; omega) hcp2
        have T2 : TM S (fun x => dq r.toNat x - en (hM S) r.toNat (x : Int)) (-1) := TM_mk (fill T1 (by rw [oc, upZ_n nqb]; omega) (by rw [hK.2.1.2]; omega) (by rw [hK.2.1.1]; omega)) rfl rfl (by rw [S39]) (by rw [S39]) (BX_c hBX) (BX_v hBX) (BX_r hBX) (BX_rs hBX)
        have P2 : PM S v (upM M v (upZ (M v) r.toNat 1)) (fun x => dq r.toNat x - en (hM S) r.toNat (x : Int)) (-1) := by
          refine PM_to0 (q := gA o 49 v) P1 (fun u hu hn G => ?_) S39 (fun u hu _ => BX_u hBX (by omega)) (BX_u hBX (by omega))
          refine fill G ?_ ?_ ?_
          · rw [upM_s, upZ_n nqb, bm]; omega
          · rw [upM_n hn, m0 u hu]; omega
          · rw [upM_s, upZ_s]; omega
        have szb : (hM S).2.1 p2.toNat = (hM s).2.1 p2.toNat := by rw [BX_z hBX nqb]; exact ob.2.1
        refine wp_inb (by omega) (wp_stn (fun s16 e16 => ?_))
        have hR16 : Rr s16 := e16 ▸ Rr.uAu hRS (by show (-2147483648 : Int) ≤ (hM s).2.1 p2.toNat - go ∧ (hM s).2.1 p2.toNat - go ≤ 2147483647; omega)
        have u16 : gA s16 49 = upZ (gA S 49) (20 + 16 * p2.toNat) ((hM s).2.1 p2.toNat - go) := by
          rw [(q_AA e16 : gA s16 49 = _), show (17 + 16 * p2 + 3).toNat = 20 + 16 * p2.toNat by omega]
        obtain ⟨b2, z2, r2⟩ := M_size u16
        refine wp_inb (by omega) (wp_bo (Or.inr rfl) (wp_stn (fun s19 e19 => ?_)))
        have hR19 : Rr s19 := e19 ▸ Rr.uAu hR16 (by show (0 : Int) ≤ 1 ∧ (1 : Int) ≤ 1; omega)
        have u19 : gA s19 49 = gA s16 49 := q_Aa e19 (by decide)
        have B19 : BX S s19 p2.toNat := fun j hj => by rw [u19]; exact b2 j hj
        have z19 : (hM s19).2.1 p2.toNat = (hM s).2.1 p2.toNat - go := by rw [← z2]; show gA s19 49 _ = gA s16 49 _; rw [u19]
        have r19 : ∀ j, (hM s19).2.2 p2.toNat j = (hM S).2.2 p2.toNat j ∧ kM s19 p2.toNat j = kM S p2.toNat j := fun j => by
          have hM' : hM s19 = hM s16 := by unfold hM; rw [u19]
          have kM' : kM s19 = kM s16 := by unfold kM; rw [u19]
          rw [hM', kM']; exact r2 j
        have a39 : gA s19 39 = gA s 39 := (q_Aa e19 (by decide)).trans ((q_Aa e16 (by decide)).trans h39)
        have a55' : gI s19 55 = 0 := (q_Ai e19).trans ((q_Ai e16).trans h55)
        have S19 : gA s19 39 = gA S 39 := a39.trans h39.symm
        have cut : ∀ {c sv r2 rs2 : Nat → Int}, TG (hM S) (kM S) (gA S 39 5) (gA S 39 6) c sv r2 rs2 (fun x => dq r.toNat x - en (hM S) r.toNat (x : Int)) (-1) → 0 < c p2.toNat → sv p2.toNat ≤ 0 → TG (hM s19) (kM s19) (gA S 39 5) (gA S 39 6) c sv r2 rs2 (fun x => dq r.toNat x) (-1) := fun G g1 g2 => by
          have G2 := TG_cut (h' := hM s19) (ky' := kM s19) (b := p2.toNat) G hb48 g2 g1 (BX_s B19) (by rw [BX_l B19]) (by rw [z19, szb]; omega) (fun j _ => r19 j)
          refine TG_D G2 (fun x hx => ?_)
          have e1 := en_two (h := hM S) (h' := hM s19) (b := p2.toNat) (q := r.toNat) (a := (hM s).2.1 p2.toNat - go) (x := (x : Int)) (by rw [BX_l B19]) (by rw [BX_l B19, BX_l hBX, oql, ob.1]; exact b56.symm) (by rw [szb]; omega) z19 (by rw [BX_z B19 (fun w => nqb w.symm), hsz, szb]; omega) (fun j _ => (r19 j).1) (fun j hj => by
            rw [szb] at hj
            rw [(BX_e B19 (fun w => nqb w.symm)).1, (hcp j (by omega)).1, (sb _ (by omega)).1])
          have e2 : en (hM s19) r.toNat (x : Int) = en (hM S) r.toNat (x : Int) := SBk_en (BX_s B19) hq48 (fun w => nqb w.symm)
          show dq r.toNat x = dq r.toNat x - en (hM S) r.toNat (x : Int) + en (hM S) p2.toNat (x : Int) - en (hM s19) p2.toNat (x : Int)
          omega
        have T3 : TM s19 (fun x => dq r.toNat x) (-1) := TM_mk (cut T2 (by rw [BX_c hBX, oc, upZ_n nqb]; omega) (by rw [BX_v hBX, ov]; omega)) rfl rfl (by rw [S19]) (by rw [S19]) (BX_c B19) (BX_v B19) (BX_r B19) (BX_rs B19)
        have P3 : PM s19 v (upM M v (upZ (M v) r.toNat 1)) (fun x => dq r.toNat x) (-1) := by
          refine PM_to0 (q := gA S 49 v) P2 (fun u hu hn G => ?_) S19 (fun u hu _ => BX_u B19 (by omega)) (BX_u B19 (by omega))
          refine cut G ?_ ?_
          · rw [upM_s, upZ_n nqb, bm]; omega
          · rw [upM_n hn, bmu u hu hn]; omega
        have qz : (hM s19).2.1 r.toNat = go := by rw [BX_z B19 (fun w => nqb w.symm), hsz, xg]
        have qc : cM s19 r.toNat = 1 := by rw [BX_c B19, BX_c hBX]; exact hK.2.1.1
        have qv : vM s19 r.toNat = 0 := by rw [BX_v B19, BX_v hBX]; exact hK.2.1.2
        have ql : (hM s19).1 r.toNat = i := by rw [BX_l B19, BX_l hBX]; exact oql
        have ac : cM s19 p0.toNat = 1 := by rw [BX_c B19, BX_c hBX, oc, upZ_n nqa]; exact a54
        have av : vM s19 p0.toNat = 0 := by rw [BX_v B19, BX_v hBX, ov]; exact a55
        have al : (hM s19).1 p0.toNat = i + 1 := by rw [BX_l B19, BX_l hBX, oa.1]; exact a56
        have az : (hM s19).2.1 p0.toNat = (hM s).2.1 p0.toNat := by rw [BX_z B19 hab, BX_z hBX nqa]; exact oa.2.1
        have na := (TG_nd T ha48 (by omega)).2.1
        refine wp_bn (w_x12_keyAt hR19 (by omega) (by omega)) (fun r21 e21 h21 => ?_)
        have ky := (T3.2.2.2.2 r.toNat hq48 (Or.inl (by omega))).2 0 (by rw [qz]; omega)
        have ky' : 0 ≤ r21 ∧ r21 ≤ 999 := by rw [h21.1]; exact ky
        refine wp_bn (w_x12_inserts hR19 ha (by rw [az]; omega) (by rw [az]; omega) h21.2 (by omega)) (fun s23 e23 h23 => ?_)
        obtain ⟨hR23, F23, I23⟩ := h23
        have i39 : gA s23 39 = gA s 39 := (F23.2.1 39 (by decide)).trans a39
        obtain ⟨T4, P4⟩ := MT_ins (b := p0.toNat) (k := (p1 + 1).toNat) T3 P3 I23 (F23.2.1 39 (by decide)) (by omega) ha48 (by omega) (by omega) (by rw [upM_s, upZ_n nqa, am]; omega) (fun u hu hn => by rw [upM_n hn, amu u hu hn]; omega) (by rw [az]; omega) (by rw [az, a39]; omega) (by rw [az]; omega) (fun _ => ⟨by rw [a39]; omega, by rw [ql, al]; omega⟩) ky' (Or.inl rfl)
        have dd : ∀ x : Nat, x < 48 → (0 : Int) = dq r.toNat x - (if 0 < (hM s19).1 p0.toNat ∧ r = (x : Int) then 1 else 0) := fun x hx => by
          by_cases z : x = r.toNat
          · rw [if_pos ⟨by omega, by omega⟩]; unfold dq; rw [if_pos z]; omega
          · rw [if_neg (fun w => z (by omega))]; unfold dq; rw [if_neg z]; omega
        have T5 : TM s23 d0 (-1) := TG_D T4 dd
        have P5 := PM_D (D' := d0) P4 dd
        obtain ⟨iB, iz, _⟩ := I23
        have k7' : ∀ j, 785 ≤ j → gA s23 49 j = gA s 49 j := fun j hj => by rw [BX_k iB ha48 hj, BX_k B19 hb48 hj, BX_k hBX hq48 hj]; exact k7 j hj
        have rt : ∀ u, u < 17 → gI s23 55 = 0 → gA s23 49 u = gA s 49 u := fun u hu _ => by rw [BX_u iB hu, BX_u B19 hu, BX_u hBX hu]; exact TkE_u hK hu
        have f55 : gI s23 55 = 0 := (F23.1 55 (by decide)).trans a55'
        refine wp_bn (w_x12_keyAt hR23 (by omega) (by omega)) (fun r25 e25 h25 => ?_)
        refine wp_rg h25.2 (wp_rg h3 (wp_if (fun c5 => ?_) (fun c5 => ?_)))
        · refine wp_some ⟨hR23, k7', rt, Or.inr ⟨f55, _, T5, P5, ⟨hb, ?_, ?_⟩, ?_, ?_, ?_, fun u hu hn => ?_⟩⟩
          · show cM s23 p2.toNat = 1
            rw [BX_c iB, BX_c B19, BX_c hBX, oc, upZ_n nqb]; exact b54
          · show vM s23 p2.toNat = 0
            rw [BX_v iB, BX_v B19, BX_v hBX, ov]; exact b55
          · show (hM s23).1 p2.toNat = i
            rw [BX_l iB, BX_l B19, BX_l hBX, ob.1]; exact b56
          · show (hM s23).2.1 p2.toNat < gA s23 39 6
            rw [BX_z iB (fun w => hab w.symm), z19, i39]; omega
          · rw [upM_s, upZ_n nqb]; exact bm
          · rw [upM_n hn]; exact bmu u hu hn
        · refine wp_some ⟨hR23, k7', rt, Or.inr ⟨f55, _, T5, P5, ⟨⟨r0, by omega⟩, ?_, ?_⟩, ?_, ?_, ?_, fun u hu hn => ?_⟩⟩
          · show cM s23 r.toNat = 1
            rw [BX_c iB]; exact qc
          · show vM s23 r.toNat = 0
            rw [BX_v iB]; exact qv
          · show (hM s23).1 r.toNat = i
            rw [BX_l iB]; exact ql
          · show (hM s23).2.1 r.toNat < gA s23 39 6
            rw [BX_z iB (fun w => nqa w.symm), qz, i39]; omega
          · rw [upM_s, upZ_s]
          · rw [upM_n hn]; exact m0 u hu
      · refine wp_bn (w_x12_keyAt hRS hb (by omega)) (fun r30 e30 h30 => ?_)
        refine wp_bn (w_x12_valueAt hRS hb (by omega)) (fun r32 e32 h32 => ?_)
        refine wp_bn (w_x12_inserts hRS (by omega) (by omega) (by omega) h30.2 h32.2) (fun s34 e34 h34 => ?_)
        obtain ⟨hR34, F34, iB, iz, ilo, iat, ihi⟩ := h34
        have sx := sb ((hM s).2.1 p2.toNat - go + x).toNat (by omega)
        refine ih (x + 1) s34 hR34 ((F34.2.1 39 (by decide)).trans h39) ((F34.1 55 (by decide)).trans h55) (by omega) (BX_t hBX iB) (by rw [iz, hsz]) (fun j hj => ?_) (by omega)
        by_cases z : j = x.toNat
        · rw [z, iat.1, iat.2, h32.1, h30.1, sx.1, sx.2, show ((hM s).2.1 p2.toNat - go + x).toNat = ((hM s).2.1 p2.toNat - go).toNat + x.toNat by omega]; exact ⟨rfl, rfl⟩
        · rw [(ilo j (by omega)).1, (ilo j (by omega)).2]; exact hcp j (by omega)
    exact L43 FU 0 o hRo o39 (by omega) (by omega) (BX_0 o _) oqz (fun j hj => by omega) (by have := FU_big; omega)
  exact wp_eq key (fun q eq hq => ⟨hq.1, fr_x12_half eq, hq.2⟩)
/-! ===== a root splits; a key goes into its leaf ===== -/
theorem dd_0 {r : Int} {x : Nat} (h : 0 ≤ r) : (if r = (x : Int) then (1 : Int) else 0) = dq r.toNat x := by
  unfold dq
  by_cases z : x = r.toNat
  · rw [if_pos z, if_pos (by omega)]
  · rw [if_neg z, if_neg (by omega)]
set_option maxHeartbeats 2000000 in
theorem mt_rootSplit {p0 p1 p2 : Int} {s : MS} {v : Nat} {M : Nat → Nat → Int} {i : Int} (hR : Rr s) (hv : v < 8) (hp0 : p0 = (v : Int)) (T : TM s d0 (-1)) (P : PM s v M d0 (-1)) (hC : CE s 0) (hE : 3 ≤ gA s 39 6 ∧ gA s 39 6 ≤ 6) (hf : gI s 55 = 0) (hrt : gA s 49 v = p1) (hB : ((0 ≤ p1 ∧ p1 < 48) ∧ cM s p1.toNat = 1 ∧ vM s p1.toNat = 0) ∧ (hM s).1 p1.toNat = i ∧ 2 ≤ (hM s).2.1 p1.toNat ∧ (M v p1.toNat = 1 ∧ ∀ u, u < 16 → u ≠ v → M u p1.toNat = 0)) (h3 : R2 p2) : wp (m_x12_rootSplit p0 p1 p2 s) (fun q => Rr q.2 ∧ F_x12_rootSplit s q.2 ∧ (∀ j, 785 ≤ j → gA q.2 49 j = gA s 49 j) ∧ (∀ u, u < 17 → u ≠ v → gI q.2 55 = 0 → gA q.2 49 u = gA s 49 u) ∧ (gI q.2 55 = 1 ∨ (gI q.2 55 = 0 ∧ (0 ≤ gA q.2 49 v ∧ gA q.2 49 v < 48) ∧ ∃ M', TM q.2 d0 (-1) ∧ PM q.2 v M' d0 (-1) ∧ CurM q.2 v M' q.1 i))) := by
  have hB0 := hB
  obtain ⟨⟨hb, b54, b55⟩, b56, b57, bm, bmu⟩ := hB
  have hN48 : gA s 39 5 ≤ 48 := T.1.1
  have hb48 : p1.toNat < 48 := by omega
  have n1 : 1 ≤ (hM s).2.1 p1.toNat := by omega
  have lv : 0 ≤ (hM s).1 p1.toNat ∧ (hM s).1 p1.toNat ≤ 47 := TG_lev T (fun _ _ => Int.le_refl 0) hb48 (by omega)
  have bN : ((p1.toNat : Nat) : Int) < gA s 39 5 := TG_lt T hb48 (by omega)
  have key : wp (m_x12_rootSplit p0 p1 p2 s) (fun q => Rr q.2 ∧ (∀ j, 785 ≤ j → gA q.2 49 j = gA s 49 j) ∧ (∀ u, u < 17 → u ≠ v → gI q.2 55 = 0 → gA q.2 49 u = gA s 49 u) ∧ (gI q.2 55 = 1 ∨ (gI q.2 55 = 0 ∧ (0 ≤ gA q.2 49 v ∧ gA q.2 49 v < 48) ∧ ∃ M', TM q.2 d0 (-1) ∧ PM q.2 v M' d0 (-1) ∧ CurM q.2 v M' q.1 i))) := by
    unfold m_x12_rootSplit
    refine wp_bn (w_x12_levelOf hR hb) (fun r2 e2 h2 => ?_)
    have l2 := h2.1
    refine wp_bn (w_x12_taken hR ⟨by omega, hN48⟩ hC (by omega) (by omega)) (fun q5 e5 h5 => ?_)
    obtain ⟨r, o⟩ := q5
    dsimp only at e5 h5 ⊢
    obtain ⟨hRo, k7, h5⟩ := h5
    have Fo : F_x12_taken s o := fr_x12_taken e5
    have o39 : gA o 39 = gA s 39 := Fo.2.1 39 (by decide)
    have o55 : (0 : Int) ≤ gI o 55 ∧ gI o 55 ≤ 1 := hRo.1 55
    refine wp_rg (by omega) (wp_if (fun c1 => ?_) (fun c1 => wp_some ⟨hRo, k7, fun u hu _ h0 => by exfalso; have h0' : gI o 55 = 0 := h0; omega, Or.inl (by show gI o 55 = 1; omega)⟩))
    rcases h5 with h5 | ⟨_, ⟨r0, r1⟩, hcv, hK⟩
    · omega
    have hq48 : r.toNat < 48 := by omega
    obtain ⟨⟨c0, v0, m0⟩, T1, P1⟩ := TM_take (b := r.toNat) T P hv (by omega) (by omega) hcv hK (by omega) o39
    have nqb : p1.toNat ≠ r.toNat := fun z => by rw [z] at b54; omega
    have ob := TkE_s hK p1.toNat hb48 nqb
    have oqz : (hM o).2.1 r.toNat = 0 := hK.2.2.2
    have oql : (hM o).1 r.toNat = i + 1 := by rw [hK.2.2.1, l2, b56]
    have oc : cM o = upZ (cM s) r.toNat 1 := TkE_c hK
    have ov : vM o = vM s := TkE_v hK v0
    refine wp_bn (w_x12_keyAt hRo hb (by omega)) (fun r9 e9 h9 => ?_)
    have ky := (T.2.2.2.2 p1.toNat hb48 (Or.inl (by omega))).2 0 (by omega)
    have ky' : 0 ≤ r9 ∧ r9 ≤ 999 := by rw [h9.1, (ob.2.2 _ (by omega)).2]; exact ky
    refine wp_bn (w_x12_inserts hRo (by omega) (by omega) (by omega) h9.2 (by omega)) (fun s11 e11 h11 => ?_)
    obtain ⟨hR11, F11, I11⟩ := h11
    have a39 : gA s11 39 = gA s 39 := (F11.2.1 39 (by decide)).trans o39
    obtain ⟨T2, P2⟩ := MT_ins (b := r.toNat) (k := (0 : Int).toNat) T1 P1 I11 (F11.2.1 39 (by decide)) (by omega) hq48 (by rw [hK.2.1.1]; omega) (by rw [hK.2.1.2]; omega) (by rw [upM_s, upZ_s]; omega) (fun u hu hn => by rw [upM_n hn, m0 u hu]; omega) (by omega) (by rw [oqz, o39]; omega) (by rw [oqz]; exact Int.le_refl 0) (fun _ => ⟨by rw [o39]; omega, by rw [oql, ob.1, b56]; omega⟩) ky' (Or.inr rfl)
    obtain ⟨iB, iz, _⟩ := I11
    refine wp_inb (by omega) (wp_stn (fun s13 e13 => ?_))
    have hR13 : Rr s13 := e13 ▸ Rr.uAu hR11 (by show (-2147483648 : Int) ≤ r ∧ r ≤ 2147483647; omega)
    have u13 : gA s13 49 = upZ (gA s11 49) v r := by rw [(q_AA e13 : gA s13 49 = _), show p0.toNat = v by omega]
    have b39 : gA s13 39 = gA s 39 := (q_Aa e13 (by decide)).trans a39
    obtain ⟨T3, P3⟩ := MT_root (q := r) T2 P2 hv u13 (q_Aa e13 (by decide)) (Or.inl ⟨r0, by rw [a39]; omega⟩)
    obtain ⟨⟨w1, w2⟩, ⟨w3, w4⟩, _⟩ := M_root hv u13
    have rt11 : gA s11 49 v = p1 := by rw [BX_u iB (by omega), TkE_u hK (by omega)]; exact hrt
    have dd : ∀ x : Nat, x < 48 → (0 : Int) = dq r.toNat x - (if 0 < (hM o).1 r.toNat ∧ p1 = (x : Int) then 1 else 0) + (if gA s11 49 v = (x : Int) then 1 else 0) - (if r = (x : Int) then 1 else 0) := fun x hx => by
      rw [rt11, dd_0 r0]
      by_cases z : p1 = (x : Int)
      · rw [if_pos ⟨by omega, z⟩, if_pos z]; omega
      · rw [if_neg (fun w => z w.2), if_neg z]; omega
    have T4 : TM s13 d0 (-1) := TG_D T3 dd
    have P4 := PM_D (D' := d0) P3 dd
    have z13 : (hM s13).2.1 r.toNat = 1 := by rw [w1, iz, oqz]; rfl
    have f55 : gI s13 55 = 0 := (q_Ai e13).trans ((F11.1 55 (by decide)).trans c1)
    have C13 : CE s13 0 := CE_eq hC ((q_Aa e13 (by decide)).trans ((F11.2.1 42 (by decide)).trans (Fo.2.1 42 (by decide)))) ((q_Aa e13 (by decide)).trans ((F11.2.1 43 (by decide)).trans (Fo.2.1 43 (by decide)))) ((q_Aa e13 (by decide)).trans ((F11.2.1 44 (by decide)).trans (Fo.2.1 44 (by decide))))
    have K13 : ∀ j, 785 ≤ j → gA s13 49 j = gA s 49 j := fun j hj => by rw [u13, upZ_n (by omega), BX_k iB hq48 hj]; exact k7 j hj
    have U13 : ∀ u, u < 17 → u ≠ v → gA s13 49 u = gA s 49 u := fun u hu hn => by rw [u13, upZ_n hn, BX_u iB hu]; exact TkE_u hK hu
    refine wp_bn (mt_half (i := i) (M := upM M v (upZ (M v) r.toNat 1)) hR13 hv T4 P4 C13 (by rw [b39]; exact hE) f55 ⟨⟨⟨r0, by omega⟩, ?_, ?_⟩, ?_, ?_, ?_, ?_⟩ (by rw [z13]; omega) ⟨⟨hb, ?_, ?_⟩, ?_, ?_, ?_, ?_⟩ h3) (fun q16 e16 h16 => ?_)
    · rw [w3, BX_c iB]; exact hK.2.1.1
    · rw [w4, BX_v iB]; exact hK.2.1.2
    · rw [w1, BX_l iB]; exact oql
    · rw [z13, b39]; omega
    · rw [upM_s, upZ_s]
    · intro u hu hn; rw [upM_n hn]; exact m0 u hu
    · rw [w3, BX_c iB, oc, upZ_n nqb]; exact b54
    · rw [w4, BX_v iB, ov]; exact b55
    · rw [w1, BX_l iB, ob.1]; exact b56
    · rw [w1, BX_z iB nqb, ob.2.1]; exact b57
    · rw [upM_s, upZ_n nqb]; exact bm
    · intro u hu hn; rw [upM_n hn]; exact bmu u hu hn
    · obtain ⟨r16, s16⟩ := q16
      dsimp only at h16 ⊢
      obtain ⟨hR16, F16, k16, u16, h16⟩ := h16
      refine wp_some ⟨hR16, fun j hj => by rw [k16 j hj]; exact K13 j hj, fun u hu hn h0 => by rw [u16 u hu h0]; exact U13 u hu hn, ?_⟩
      rcases h16 with h16 | ⟨h0, M', t1, t2, t3⟩
      · exact Or.inl h16
      · refine Or.inr ⟨h0, ?_, M', t1, t2, t3⟩
        show 0 ≤ gA s16 49 v ∧ gA s16 49 v < 48
        rw [u16 v (by omega) h0, u13, upZ_s]; omega
  exact wp_eq key (fun q eq hq => ⟨hq.1, fr_x12_rootSplit eq, hq.2⟩)
set_option maxHeartbeats 1000000 in
theorem mt_putsIn {p0 p1 p2 : Int} {s : MS} {v : Nat} {M : Nat → Nat → Int} (hR : Rr s) (hv : v < 8) (T : TM s d0 (-1)) (P : PM s v M d0 (-1)) (hE : 3 ≤ gA s 39 6 ∧ gA s 39 6 ≤ 6) (hA : CurM s v M p0 0) (h1 : 0 ≤ p1 ∧ p1 ≤ 999) (h2 : 0 ≤ p2 ∧ p2 ≤ 999) : wp (m_x12_putsIn p0 p1 p2 s) (fun o => Rr o ∧ F_x12_putsIn s o ∧ (∀ j, 785 ≤ j → gA o 49 j = gA s 49 j) ∧ (∀ u, u < 17 → gA o 49 u = gA s 49 u) ∧ TM o d0 (-1) ∧ PM o v M d0 (-1)) := by
  obtain ⟨⟨ha, a54, a55⟩, a56, a57, am, amu⟩ := hA
  have ha48 : p0.toNat < 48 := by omega
  have na := (TG_nd T ha48 (by omega)).2.1
  have key : wp (m_x12_putsIn p0 p1 p2 s) (fun o => Rr o ∧ (∀ j, 785 ≤ j → gA o 49 j = gA s 49 j) ∧ (∀ u, u < 17 → gA o 49 u = gA s 49 u) ∧ TM o d0 (-1) ∧ PM o v M d0 (-1)) := by
    have J34 : ∀ (x5 x6 : Int), (0 ≤ x5 ∧ x5 ≤ (hM s).2.1 p0.toNat) → (x6 = 0 ∨ (x6 = 1 ∧ x5 < (hM s).2.1 p0.toNat ∧ kM s p0.toNat x5.toNat = p1)) → wp (m_x12_putsIn_J34 p0 p1 p2 x5 x6 s) (fun o => Rr o ∧ (∀ j, 785 ≤ j → gA o 49 j = gA s 49 j) ∧ (∀ u, u < 17 → gA o 49 u = gA s 49 u) ∧ TM o d0 (-1) ∧ PM o v M d0 (-1)) := by
      intro x5 x6 h5 h6
      unfold m_x12_putsIn_J34
      refine wp_rg (by omega) (wp_if (fun c1 => ?_) (fun c1 => ?_))
      · refine wp_bn (w_x12_inserts hR ha h5 (by omega) (by omega) (by omega)) (fun s18 e18 h18 => ?_)
        obtain ⟨hR18, F18, I18⟩ := h18
        obtain ⟨T2, P2⟩ := MT_ins (b := p0.toNat) (k := x5.toNat) T P I18 (F18.2.1 39 (by decide)) (by omega) ha48 (by omega) (by omega) (by omega) (fun u hu hn => by rw [amu u hu hn]; omega) (by omega) (by omega) (by omega) (fun w => by omega) h1 (Or.inl rfl)
        have dd : ∀ x : Nat, x < 48 → (0 : Int) = 0 - (if 0 < (hM s).1 p0.toNat ∧ p2 = (x : Int) then 1 else 0) := fun x hx => by rw [if_neg (fun w => by omega)]; omega
        unfold m_x12_putsIn_J73
        exact wp_some ⟨hR18, fun j hj => BX_k I18.1 ha48 hj, fun u hu => BX_u I18.1 hu, TG_D T2 dd, PM_D P2 dd⟩
      · refine wp_bn (w_x12_valueAt hR ha (by omega)) (fun r11 e11 h11 => ?_)
        refine wp_rg h11.2 (wp_rg (by omega) (wp_if (fun c2 => ?_) (fun c2 => ?_)))
        · unfold m_x12_putsIn_J73
          exact wp_some ⟨hR, fun j hj => rfl, fun u hu => rfl, T, P⟩
        · refine wp_bn (w_x12_setsEntry hR ha (by omega) (by omega) (by omega)) (fun s16 e16 h16 => ?_)
          obtain ⟨hR16, u16⟩ := h16
          have F16 : F_x12_setsEntry s s16 := fr_x12_setsEntry e16
          have kk : kM s p0.toNat x5.toNat = p1 := by omega
          rw [← kk] at u16
          obtain ⟨iB, iz, T2, P2⟩ := MT_set (b := p0.toNat) (k := x5.toNat) T P (by omega) u16 (F16.2.1 39 (by decide)) (by omega) ha48 (by omega) (by omega) (by omega) (fun u hu hn => by rw [amu u hu hn]; omega) (by omega) (fun w => by omega)
          have dd : ∀ x : Nat, x < 48 → (0 : Int) = 0 + (if 0 < (hM s).1 p0.toNat ∧ (hM s).2.2 p0.toNat x5.toNat = (x : Int) then 1 else 0) - (if 0 < (hM s).1 p0.toNat ∧ p2 = (x : Int) then 1 else 0) := fun x hx => by rw [if_neg (fun w => by omega), if_neg (fun w => by omega)]; omega
          unfold m_x12_putsIn_J73
          exact wp_some ⟨hR16, fun j hj => BX_k iB ha48 hj, fun u hu => BX_u iB hu, TG_D T2 dd, PM_D P2 dd⟩
    unfold m_x12_putsIn
    refine wp_bn (w_x12_placeIn hR ha (by omega) na) (fun r25 e25 h25 => ?_)
    refine wp_bn (w_x12_entriesOf hR ha) (fun r27 e27 h27 => ?_)
    have z27 := h27.1
    refine wp_rg (by omega) (wp_rg h27.2 (wp_if (fun c1 => ?_) (fun c1 => ?_)))
    · unfold m_x12_putsIn_J33
      exact J34 r25 0 h25 (Or.inl rfl)
    · refine wp_bn (w_x12_keyAt hR ha (by omega)) (fun r32 e32 h32 => ?_)
      refine wp_rg h32.2 (wp_rg (by omega) (wp_if (fun c2 => ?_) (fun c2 => ?_)))
      · exact J34 r25 1 h25 (Or.inr ⟨rfl, by omega, by rw [← h32.1]; exact c2⟩)
      · unfold m_x12_putsIn_J33
        exact J34 r25 0 h25 (Or.inl rfl)
  exact wp_eq key (fun q eq hq => ⟨hq.1, fr_x12_putsIn eq, hq.2⟩)
/-- a block on the way down: it is the root's, or one that is owned names it -/
theorem own_x {s : MS} {v : Nat} {M : Nat → Nat → Int} (hv : v < 8) (T : TM s d0 (-1)) (P : PM s v M d0 (-1)) {b : Nat} (hb : b < 48) (h : gA s 49 v = (b : Int) ∨ ∃ a, a < 48 ∧ 0 < cM s a ∧ 0 < en (hM s) a (b : Int) ∧ ∀ u, u < 16 → u ≠ v → M u a ≤ 0) : cM s b = 1 → vM s b = 0 → ∀ u, u < 16 → u ≠ v → M u b = 0 := by
  intro hc hs u hu hn
  obtain ⟨l1, l2⟩ := PM_live T (fun _ _ => Int.le_refl 0) P hv
  have G := P.1 u hu hn
  have nn := (G.1.2.2.1 b hb).1
  have G' := TG_ss G
  have T' : TG (hM s) (kM s) (gA s 39 5) (gA s 39 6) (cM s) (vM s) (rM s) (rsM s) d0 (-1) := T
  have le : M u b ≤ 0 := by
    by_cases h8 : u < 8
    · rcases h with h | ⟨a, ha, hca, hen, hma⟩
      · exact mu_own0 T' rfl G' (l1 u h8) hb hc h8 hv hn (rM_v h8) (by rw [rM_v hv]; exact h)
      · exact mu_own T' rfl G' (l1 u h8) hb hc h8 (rM_v h8) ha hca (hma u hu hn) hen
    · by_cases z : 0 < M u b
      · have := l2 u (by omega) hu b hb z; omega
      · omega
  omega
/-- a block named by one in the tree at hand is in it -/
theorem kid_mu {s : MS} {v : Nat} {M : Nat → Nat → Int} (hv : v < 8) (P : PM s v M d0 (-1)) {a k : Nat} (ha : a < 48) (hm : 0 < M v a) (hl : 0 < (hM s).1 a) (hk : (k : Int) < (hM s).2.1 a) : M v ((hM s).2.2 a k).toNat = 1 := by
  have G := P.1 8 (by omega) (by omega)
  have kd := TG_kid G (fun _ _ => Int.le_refl 0) ha hm hl hk
  have hN := G.1.1
  have := P.2 v (by omega) ((hM s).2.2 a k).toNat (by omega)
  omega
theorem root_mu {s : MS} {v : Nat} {M : Nat → Nat → Int} (hv : v < 8) (P : PM s v M d0 (-1)) (h0 : 0 ≤ gA s 49 v) (h1 : gA s 49 v < 254) : M v (gA s 49 v).toNat = 1 := by
  have G := P.1 8 (by omega) (by omega)
  have kd := TG_root_live (v := 0) G (fun _ _ => Int.le_refl 0) (by omega) (by rw [sr_0]; exact h0) (by rw [sr_0]; exact h1)
  rw [sr_0] at kd
  have hN := G.1.1
  have := P.2 v (by omega) (gA s 49 v).toNat (by omega)
  omega
/-! ===== to put ===== -/
/-- what stays beside the trees -/
def KS (s S : MS) : Prop := (gA S 39 = gA s 39 ∧ gA S 42 = gA s 42 ∧ gA S 43 = gA s 43 ∧ gA S 44 = gA s 44) ∧ (∀ j, 785 ≤ j → gA S 49 j = gA s 49 j)
theorem KS_0 (s : MS) : KS s s := ⟨⟨rfl, rfl, rfl, rfl⟩, fun _ _ => rfl⟩
theorem KS_t {s S o : MS} (h1 : KS s S) (h2 : KS S o) : KS s o := ⟨⟨h2.1.1.trans h1.1.1, h2.1.2.1.trans h1.1.2.1, h2.1.2.2.1.trans h1.1.2.2.1, h2.1.2.2.2.trans h1.1.2.2.2⟩, fun j hj => (h2.2 j hj).trans (h1.2 j hj)⟩
theorem KS_CE {s S : MS} {w : Nat} (h : KS s S) (H : CE s w) : CE S w := CE_eq H h.1.2.1 h.1.2.2.1 h.1.2.2.2
/-- the roots but one stay -/
def RWn (s S : MS) (v : Nat) : Prop := (∀ u, u < 17 → u ≠ v → gA S 49 u = gA s 49 u) ∧ (0 ≤ gA S 49 v ∧ gA S 49 v < 48)
/-- the way down has come to b, at level i -/
def GD (s S : MS) (v : Nat) (b i : Int) : Prop := RWn s S v ∧ ∃ M, TM S d0 (-1) ∧ PM S v M d0 (-1) ∧ CurM S v M b i
theorem eq49 {s o : MS} (h : gA o 49 = gA s 49) : hM o = hM s ∧ kM o = kM s ∧ cM o = cM s ∧ vM o = vM s := by
  refine ⟨?_, ?_, ?_, ?_⟩
  · unfold hM; rw [h]
  · unfold kM; rw [h]
  · unfold cM; rw [h]
  · unfold vM; rw [h]
theorem PM_e {s o : MS} {v : Nat} {M : Nat → Nat → Int} {D : Nat → Int} {e : Int} (H : PM s v M D e) (h : gA o 49 = gA s 49) (h39 : gA o 39 = gA s 39) (hv : v < 16) : PM o v M D e := PM_eq H (eq49 h).1 (eq49 h).2.1 h39 (fun u _ => by rw [h]) hv
theorem dq_0 {q y : Nat} (h : q = y) : ∀ x : Nat, x < 48 → d0 x = dq q x - dq y x := fun x _ => by
  subst h
  show (0 : Int) = _
  omega
set_option maxHeartbeats 4000000 in
theorem mt_puts {p0 p1 p2 : Int} {s : MS} {v : Nat} (hR : Rr s) (hv : v < 8) (hp0 : p0 = (v : Int)) (H : RT s) (hC0 : CE s 0) (hC1 : CE s 1) (hN0 : 0 ≤ gA s 39 5) (hE : 3 ≤ gA s 39 6 ∧ gA s 39 6 ≤ 6) (hf : gI s 55 = 0) (hrt : (0 ≤ gA s 49 v ∧ gA s 49 v < 254) ∨ gA s 49 v = 254) (h1 : 0 ≤ p1 ∧ p1 ≤ 999) (h2 : 0 ≤ p2 ∧ p2 ≤ 999) : wp (m_x12_puts p0 p1 p2 s) (fun o => Rr o ∧ F_x12_puts s o ∧ (∀ j, 785 ≤ j → gA o 49 j = gA s 49 j) ∧ (gI o 55 = 1 ∨ (gI o 55 = 0 ∧ RT o ∧ RWn s o v))) := by
  obtain ⟨M0, P0⟩ := RT_PM v (by omega) H
  have T0 : TM s d0 (-1) := H.1
  have hN48 : gA s 39 5 ≤ 48 := T0.1.1
  have key : wp (m_x12_puts p0 p1 p2 s) (fun o => Rr o ∧ (∀ j, 785 ≤ j → gA o 49 j = gA s 49 j) ∧ (gI o 55 = 1 ∨ (gI o 55 = 0 ∧ RT o ∧ RWn s o v))) := by
    have L94 : ∀ (n : Nat) (i b : Int) (S : MS), Rr S → KS s S → (0 ≤ i ∧ i ≤ 48) → (gI S 55 = 1 ∨ (gI S 55 = 0 ∧ GD s S v b i)) → i < (n : Int) → wp (m_x12_puts_L94 n p1 p2 b S) (fun o => Rr o ∧ (∀ j, 785 ≤ j → gA o 49 j = gA s 49 j) ∧ (gI o 55 = 1 ∨ (gI o 55 = 0 ∧ RT o ∧ RWn s o v))) := by
      refine fr_ind (fun i b S hRS hK hi hG hm => by exfalso; omega) (fun n ih i b S hRS hK hi hG hm => ?_)
      show wp (m_x12_puts_b94 (m_x12_puts_L94 n) p1 p2 b S) _
      unfold m_x12_puts_b94
      have r55 : (0 : Int) ≤ gI S 55 ∧ gI S 55 ≤ 1 := hRS.1 55
      refine wp_rg (by omega) (wp_if (fun c1 => ?_) (fun c1 => ?_))
      · rcases hG with hG | ⟨_, hW, M, T, P, hA⟩
        · omega
        have hA0 := hA
        obtain ⟨⟨ha, a54, a55⟩, a56, a57, am, amu⟩ := hA
        have ha48 : b.toNat < 48 := by omega
        have S39 := hK.1.1
        have na := (TG_nd T ha48 (by omega)).2.1
        have n1 : 1 ≤ (hM S).2.1 b.toNat := T.2.2.1.1 b.toNat ha48 (by omega) (by omega)
        refine wp_bn (w_x12_levelOf hRS ha) (fun r37 e37 h37 => ?_)
        have l37 : r37 = i := by rw [h37.1]; exact a56
        refine wp_rg h37.2 (wp_if (fun c2 => ?_) (fun c2 => ?_))
        · unfold m_x12_puts_J198
          refine wp_rg (by omega) (wp_if (fun c3 => ?_) (fun c3 => by omega))
          refine wp_bn (mt_putsIn (M := M) hRS hv T P (by rw [S39]; exact hE) (by rw [show (0 : Int) = i by omega]; exact hA0) h1 h2) (fun s9 e9 h9 => ?_)
          obtain ⟨hR9, F9, k9, u9, T9, P9⟩ := h9
          unfold m_x12_puts_J213
          refine wp_some ⟨hR9, fun j hj => by rw [k9 j hj]; exact hK.2 j hj, Or.inr ⟨(F9.1 55 (by decide)).trans c1, PM_RT (by omega) T9 P9, fun u hu hn => by rw [u9 u hu]; exact hW.1 u hu hn, by rw [u9 v (by omega)]; exact hW.2⟩⟩
        · refine wp_bn (w_x12_placeFor hRS ha (by omega) na) (fun r41 e41 h41 => ?_)
          have k41 : 0 ≤ r41 ∧ r41 < (hM S).2.1 b.toNat := by omega
          refine wp_bn (w_x12_valueAt hRS ha (by omega)) (fun r43 e43 h43 => ?_)
          have y43 := h43.1
          have kid := TG_kid (p := b.toNat) (k := r41.toNat) T (fun _ _ => Int.le_refl 0) ha48 (by omega) (by omega) (by omega)
          have km := kid_mu (k := r41.toNat) hv P ha48 (by omega) (by omega) (by omega)
          have ke := enf_pos (h := hM S) (p := b.toNat) (k := r41.toNat) (i := 0) (by omega) (by omega) (by omega) (by omega)
          rw [← y43] at kid km ke
          obtain ⟨⟨k0, k1⟩, k2, k3⟩ := kid
          have hNS : gA S 39 5 ≤ 48 := T.1.1
          have y48 : r43.toNat < 48 := by omega
          have ke' : 0 < en (hM S) b.toNat ((r43.toNat : Nat) : Int) := by
            rw [show ((r43.toNat : Nat) : Int) = r43 by omega]
            have : 1 ≤ en (hM S) b.toNat r43 := ke
            omega
          refine wp_bn (mt_owned (M := M) hRS hv T P (KS_CE hK hC0) (by rw [S39]; omega) c1 (by omega) k3 km (own_x hv T P y48 (Or.inr ⟨b.toNat, ha48, by omega, ke', fun u hu hn => by rw [amu u hu hn]; omega⟩))) (fun q46 e46 h46 => ?_)
          obtain ⟨r, o⟩ := q46
          dsimp only at h46 ⊢
          obtain ⟨hRo, Fo, ko, h46⟩ := h46
          have KSo : KS S o := ⟨⟨Fo.2.1 39 (by decide), Fo.2.1 42 (by decide), Fo.2.1 43 (by decide), Fo.2.1 44 (by decide)⟩, ko⟩
          have KSo' : KS s o := KS_t hK KSo
          have hr2 : R2 r := by
            rcases h46 with h46 | ⟨_, w0, M', ⟨⟨w1, _⟩, _⟩, _⟩ <;> omega
          -- behind the child's own block
          have J162 : ∀ (X : MS) (M' : Nat → Nat → Int), Rr X → KS s X → gI X 55 = 0 → RWn s X v → TM X d0 (-1) → PM X v M' d0 (-1) → CurM X v M' b i → (r41 < (hM X).2.1 b.toNat) → (((0 ≤ r ∧ r < 48) ∧ cM X r.toNat = 1 ∧ vM X r.toNat = 0) ∧ (hM X).1 r.toNat = i - 1 ∧ (M' v r.toNat = 1 ∧ ∀ u, u < 16 → u ≠ v → M' u r.toNat = 0)) → wp (m_x12_puts_J162 (m_x12_puts_L94 n) p1 p2 b r41 r X) (fun o => Rr o ∧ (∀ j, 785 ≤ j → gA o 49 j = gA s 49 j) ∧ (gI o 55 = 1 ∨ (gI o 55 = 0 ∧ RT o ∧ RWn s o v))) := by
            intro X M' hRX hKX f55 hWX TX PX hAX hkX hq
            obtain ⟨⟨q48, qc, qv⟩, ql, qm, qmu⟩ := hq
            have q48' : r.toNat < 48 := by omega
            have X39 := hKX.1.1
            have nq := (TG_nd TX q48' (by omega)).2.1
            unfold m_x12_puts_J162
            refine wp_rg (by omega) (wp_if (fun c3 => ?_) (fun c3 => absurd f55 c3))
            refine wp_bn (w_x12_doesSplit hRX q48 (KS_CE hKX hC1) nq (by omega) (by rw [X39]; omega)) (fun q28 e28 h28 => ?_)
            obtain ⟨t, o2⟩ := q28
            dsimp only at e28 h28 ⊢
            obtain ⟨hR2, h28⟩ := h28
            have F2 : F_x12_doesSplit X o2 := fr_x12_doesSplit e28
            have a49 : gA o2 49 = gA X 49 := F2.2.1 49 (by decide)
            have a39 : gA o2 39 = gA X 39 := F2.2.1 39 (by decide)
            have K2 : KS s o2 := KS_t hKX ⟨⟨a39, F2.2.1 42 (by decide), F2.2.1 43 (by decide), F2.2.1 44 (by decide)⟩, fun j _ => by rw [a49]⟩
            obtain ⟨e1, e2, e3, e4⟩ := eq49 a49
            have T2 : TM o2 d0 (-1) := TM_eq TX a49 a39
            have P2 : PM o2 v M' d0 (-1) := PM_e PX a49 a39 (by omega)
            have W2 : RWn s o2 v := ⟨fun u hu hn => by rw [a49]; exact hWX.1 u hu hn, by rw [a49]; exact hWX.2⟩
            have g55 : gI o2 55 = 0 := (F2.1 55 (by decide)).trans f55
            rw [X39] at h28
            refine wp_rg (by omega) (wp_if (fun c4 => ?_) (fun c4 => ?_))
            · unfold m_x12_puts_J191
              refine ih (i - 1) r o2 hR2 K2 (by omega) (Or.inr ⟨g55, W2, M', T2, P2, ⟨q48, by rw [e3]; exact qc, by rw [e4]; exact qv⟩, by rw [e1]; exact ql, by rw [e1, a39, X39]; omega, qm, qmu⟩) (by omega)
            · obtain ⟨⟨xa, xb, xc⟩, xd, xe, xf⟩ := hAX
              refine wp_bn (mt_half (i := i - 1) (M := M') hR2 hv T2 P2 (KS_CE K2 hC0) (by rw [a39, X39]; exact hE) g55 ⟨⟨xa, by rw [e3]; exact xb, by rw [e4]; exact xc⟩, by rw [e1, xd]; omega, by rw [e1, a39]; exact xe, xf⟩ (by rw [e1]; omega) ⟨⟨q48, by rw [e3]; exact qc, by rw [e4]; exact qv⟩, by rw [e1]; exact ql, by rw [e1]; omega, qm, qmu⟩ (by omega)) (fun q33 e33 h33 => ?_)
              obtain ⟨t3, o3⟩ := q33
              dsimp only at h33 ⊢
              obtain ⟨hR3, F3, k3, u3, h33⟩ := h33
              have K3 : KS s o3 := KS_t K2 ⟨⟨F3.2.1 39 (by decide), F3.2.1 42 (by decide), F3.2.1 43 (by decide), F3.2.1 44 (by decide)⟩, k3⟩
              unfold m_x12_puts_J191
              refine ih (i - 1) t3 o3 hR3 K3 (by omega) ?_ (by omega)
              rcases h33 with h33 | ⟨z0, M3, T3, P3, A3⟩
              · exact Or.inl h33
              · exact Or.inr ⟨z0, ⟨fun u hu hn => by rw [u3 u hu z0]; exact W2.1 u hu hn, by rw [u3 v (by omega) z0]; exact W2.2⟩, M3, T3, P3, A3⟩
          refine wp_rg hr2 (wp_rg (by omega) (wp_if (fun c3 => ?_) (fun c3 => ?_)))
          · rcases h46 with ⟨h46, _⟩ | ⟨z0, w0, M', ⟨⟨rq, rN⟩, ⟨o54, o55⟩, ⟨o56, o57⟩⟩, oc, oh, oq, ou, ⟨To, Po⟩, om, omu, omn, omx⟩
            · unfold m_x12_puts_J162 m_x12_puts_J191
              refine wp_rg (by omega) (wp_if (fun c4 => by omega) (fun c4 => ?_))
              exact ih (i - 1) r o hRo KSo' (by omega) (Or.inl h46) (by omega)
            · have nb : b.toNat ≠ r43.toNat := fun z => by rw [← z] at k2; omega
              have nq : b.toNat ≠ r.toNat := fun z => nb (by omega)
              have ob := oh b.toNat nq
              refine J162 o M' hRo KSo' z0 ⟨fun u hu hn => by rw [ou u hu]; exact hW.1 u hu hn, by rw [ou v (by omega)]; exact hW.2⟩ (TG_D To (dq_0 (by omega))) (PM_D Po (dq_0 (by omega))) ⟨⟨ha, ?_, ?_⟩, ?_, ?_, ?_, ?_⟩ ?_ ⟨⟨by omega, o54, o55⟩, by rw [o56, k2]; omega, om, omu⟩
              · rw [oc b.toNat ha48 (by omega) (by omega) nb]; exact a54
              · rw [ob.1]; exact a55
              · rw [ob.2.1]; exact a56
              · rw [ob.2.2.1, KSo.1.1]; exact a57
              · rw [omx b.toNat nq nb]; exact am
              · intro u hu hn; rw [omn u hn]; exact amu u hu hn
              · rw [ob.2.2.1]; exact k41.2
          · rcases h46 with ⟨_, h46⟩ | ⟨z0, w0, M', ⟨⟨rq, rN⟩, ⟨o54, o55⟩, ⟨o56, o57⟩⟩, oc, oh, oq, ou, ⟨To, Po⟩, om, omu, omn, omx⟩
            · exact absurd h46 c3
            · have nb : b.toNat ≠ r43.toNat := fun z => by rw [← z] at k2; omega
              have nq : b.toNat ≠ r.toNat := fun z => by
                rcases oq with oq | oq
                · exact nb (by omega)
                · rw [← z] at oq; omega
              have ob := oh b.toNat nq
              have cb : cM o b.toNat = 1 := by rw [oc b.toNat ha48 (by omega) (by omega) nb]; exact a54
              have vb : vM o b.toNat = 0 := by rw [ob.1]; exact a55
              have lb : (hM o).1 b.toNat = i := by rw [ob.2.1]; exact a56
              have eb : (hM o).2.2 b.toNat r41.toNat = r43 := by rw [(ob.2.2.2 r41.toNat (by omega)).1]; exact y43.symm
              refine wp_bn (w_x12_keyAt hRo ha (by omega)) (fun r51 e51 h51 => ?_)
              refine wp_bn (w_x12_setsEntry hRo ha (by omega) h51.2 hr2) (fun s53 e53 h53 => ?_)
              obtain ⟨hR53, u53⟩ := h53
              have F53 : F_x12_setsEntry o s53 := fr_x12_setsEntry e53
              rw [h51.1] at u53
              have mb : M' v b.toNat = 1 := by rw [omx b.toNat nq nb]; exact am
              have mub : ∀ u, u < 16 → u ≠ v → M' u b.toNat = 0 := fun u hu hn => by rw [omn u hn]; exact amu u hu hn
              obtain ⟨iB, iz, T2, P2⟩ := MT_set (b := b.toNat) (k := r41.toNat) To Po (by omega) u53 (F53.2.1 39 (by decide)) (by omega) ha48 (by omega) (by omega) (by omega) (fun u hu hn => by rw [mub u hu hn]; omega) (by rw [ob.2.2.1]; omega) (fun _ => ⟨by rw [KSo.1.1]; omega, by rw [o56, k2, lb]; omega⟩)
              have dd : ∀ x : Nat, x < 48 → d0 x = dq r.toNat x - dq r43.toNat x + (if 0 < (hM o).1 b.toNat ∧ (hM o).2.2 b.toNat r41.toNat = (x : Int) then 1 else 0) - (if 0 < (hM o).1 b.toNat ∧ r = (x : Int) then 1 else 0) := fun x hx => by
                show (0 : Int) = _
                rw [eb]
                have e1 : (if 0 < (hM o).1 b.toNat ∧ r43 = (x : Int) then (1 : Int) else 0) = dq r43.toNat x := by
                  rw [← dd_0 k0]
                  by_cases z : r43 = (x : Int)
                  · rw [if_pos z, if_pos ⟨by omega, z⟩]
                  · rw [if_neg z, if_neg (fun w => z w.2)]
                have e2 : (if 0 < (hM o).1 b.toNat ∧ r = (x : Int) then (1 : Int) else 0) = dq r.toNat x := by
                  rw [← dd_0 w0]
                  by_cases z : r = (x : Int)
                  · rw [if_pos z, if_pos ⟨by omega, z⟩]
                  · rw [if_neg z, if_neg (fun w => z w.2)]
                rw [e1, e2]; omega
              have K53 : KS s s53 := KS_t KSo' ⟨⟨F53.2.1 39 (by decide), F53.2.1 42 (by decide), F53.2.1 43 (by decide), F53.2.1 44 (by decide)⟩, fun j hj => BX_k iB ha48 hj⟩
              refine J162 s53 M' hR53 K53 ((F53.1 55 (by decide)).trans z0) ⟨fun u hu hn => by rw [BX_u iB hu, ou u hu]; exact hW.1 u hu hn, by rw [BX_u iB (by omega), ou v (by omega)]; exact hW.2⟩ (TG_D T2 dd) (PM_D P2 dd) ⟨⟨ha, by rw [BX_c iB]; exact cb, by rw [BX_v iB]; exact vb⟩, by rw [BX_l iB]; exact lb, by rw [iz, ob.2.2.1, K53.1.1, ← S39]; exact a57, mb, mub⟩ (by rw [iz, ob.2.2.1]; exact k41.2) ⟨⟨by omega, by rw [BX_c iB]; exact o54, by rw [BX_v iB]; exact o55⟩, by rw [BX_l iB, o56, k2]; omega, om, omu⟩
      · unfold m_x12_puts_J198 m_x12_puts_J213
        refine wp_rg (by omega) (wp_if (fun c2 => absurd c2 c1) (fun c2 => ?_))
        exact wp_some ⟨hRS, hK.2, Or.inl (by omega)⟩
    unfold m_x12_puts
    refine wp_rdIn (by omega) (fun y54 e54 => ?_)
    have y54' : gA s 49 v = y54 := by rw [← e54, show p0.toNat = v by omega]
    refine wp_rg (by omega) (wp_if (fun c1 => ?_) (fun c1 => ?_))
    · refine wp_bn (w_x12_taken hR ⟨hN0, hN48⟩ hC0 (by omega) (by omega)) (fun q75 e75 h75 => ?_)
      obtain ⟨r, o⟩ := q75
      dsimp only at e75 h75 ⊢
      obtain ⟨hRo, k7, h75⟩ := h75
      have Fo : F_x12_taken s o := fr_x12_taken e75
      have o39 : gA o 39 = gA s 39 := Fo.2.1 39 (by decide)
      have o55 : (0 : Int) ≤ gI o 55 ∧ gI o 55 ≤ 1 := hRo.1 55
      refine wp_rg (by omega) (wp_if (fun c2 => ?_) (fun c2 => wp_some ⟨hRo, k7, Or.inl (by omega)⟩))
      rcases h75 with h75 | ⟨_, ⟨r0, r1⟩, hcv, hK⟩
      · omega
      have hq48 : r.toNat < 48 := by omega
      obtain ⟨⟨c0, v0, m0⟩, T1, P1⟩ := TM_take (b := r.toNat) T0 P0 hv (by omega) (by omega) hcv hK (by omega) o39
      have oqz : (hM o).2.1 r.toNat = 0 := hK.2.2.2
      have oql : (hM o).1 r.toNat = 0 := hK.2.2.1
      refine wp_bn (w_x12_inserts hRo (by omega) (by omega) (by omega) (by omega) (by omega)) (fun s79 e79 h79 => ?_)
      obtain ⟨hR79, F79, I79⟩ := h79
      obtain ⟨T2, P2⟩ := MT_ins (b := r.toNat) (k := (0 : Int).toNat) T1 P1 I79 (F79.2.1 39 (by decide)) (by omega) hq48 (by rw [hK.2.1.1]; omega) (by rw [hK.2.1.2]; omega) (by rw [upM_s, upZ_s]; omega) (fun u hu hn => by rw [upM_n hn, m0 u hu]; omega) (by omega) (by rw [oqz, o39]; omega) (by rw [oqz]; exact Int.le_refl 0) (fun w => by omega) h1 (Or.inr rfl)
      have iB := I79.1
      refine wp_inb (by omega) (wp_stn (fun s81 e81 => ?_))
      have hR81 : Rr s81 := e81 ▸ Rr.uAu hR79 (by show (-2147483648 : Int) ≤ r ∧ r ≤ 2147483647; omega)
      have u81 : gA s81 49 = upZ (gA s79 49) v r := by rw [(q_AA e81 : gA s81 49 = _), show p0.toNat = v by omega]
      have a39 : gA s79 39 = gA s 39 := (F79.2.1 39 (by decide)).trans o39
      obtain ⟨T3, P3⟩ := MT_root (q := r) T2 P2 hv u81 (q_Aa e81 (by decide)) (Or.inl ⟨r0, by rw [a39]; omega⟩)
      have rt : gA s79 49 v = 254 := by rw [BX_u iB (by omega), TkE_u hK (by omega), y54']; exact c1
      have dd : ∀ x : Nat, x < 48 → d0 x = dq r.toNat x - (if 0 < (hM o).1 r.toNat ∧ p2 = (x : Int) then 1 else 0) + (if gA s79 49 v = (x : Int) then 1 else 0) - (if r = (x : Int) then 1 else 0) := fun x hx => by
        show (0 : Int) = _
        rw [rt, dd_0 r0, if_neg (fun w => by omega), if_neg (show ¬ (254 : Int) = (x : Int) by omega)]; omega
      refine wp_some ⟨hR81, fun j hj => ?_, Or.inr ⟨(q_Ai e81).trans ((F79.1 55 (by decide)).trans c2), PM_RT (by omega) (TG_D T3 dd) (PM_D P3 dd), fun u hu hn => ?_, ?_⟩⟩
      · rw [u81, upZ_n (by omega), BX_k iB hq48 hj]; exact k7 j hj
      · rw [u81, upZ_n hn, BX_u iB hu]; exact TkE_u hK hu
      · rw [u81, upZ_s]; omega
    · refine wp_rdIn (by omega) (fun y57 e57 => ?_)
      have y57' : gA s 49 v = y57 := by rw [← e57, show p0.toNat = v by omega]
      have rl := TG_root_live (v := v) T0 (fun _ _ => Int.le_refl 0) hv (by rw [rM_v hv]; omega) (by rw [rM_v hv]; omega)
      rw [rM_v hv, y57'] at rl
      have rm := root_mu hv P0 (by omega) (by omega)
      rw [y57'] at rm
      have y48 : y57.toNat < 48 := by omega
      have lv : 0 ≤ (hM s).1 y57.toNat ∧ (hM s).1 y57.toNat ≤ 47 := TG_lev T0 (fun _ _ => Int.le_refl 0) y48 rl.2
      refine wp_bn (mt_owned (M := M0) hR hv T0 P0 hC0 (by omega) hf (by omega) rl.2 rm (own_x hv T0 P0 y48 (Or.inl (by omega)))) (fun q60 e60 h60 => ?_)
      obtain ⟨r, o⟩ := q60
      dsimp only at h60 ⊢
      obtain ⟨hRo, Fo, ko, h60⟩ := h60
      have KSo : KS s o := ⟨⟨Fo.2.1 39 (by decide), Fo.2.1 42 (by decide), Fo.2.1 43 (by decide), Fo.2.1 44 (by decide)⟩, ko⟩
      have o55r : (0 : Int) ≤ gI o 55 ∧ gI o 55 ≤ 1 := hRo.1 55
      refine wp_rg (by omega) (wp_if (fun c2 => ?_) (fun c2 => wp_some ⟨hRo, ko, Or.inl (by omega)⟩))
      rcases h60 with ⟨h60, _⟩ | ⟨z0, w0, M', ⟨⟨rq, rN⟩, ⟨o54, o55⟩, ⟨o56, o57⟩⟩, oc, oh, oq, ou, ⟨To, Po⟩, om, omu, omn, omx⟩
      · omega
      refine wp_inb (by omega) (wp_stn (fun s64 e64 => ?_))
      have hR64 : Rr s64 := e64 ▸ Rr.uAu hRo (by show (-2147483648 : Int) ≤ r ∧ r ≤ 2147483647; omega)
      have u64 : gA s64 49 = upZ (gA o 49) v r := by rw [(q_AA e64 : gA s64 49 = _), show p0.toNat = v by omega]
      have a39 : gA s64 39 = gA o 39 := q_Aa e64 (by decide)
      obtain ⟨T1, P1⟩ := MT_root (q := r) To Po hv u64 a39 (Or.inl ⟨w0, by rw [KSo.1.1]; omega⟩)
      obtain ⟨⟨w1, w2⟩, ⟨w3, w4⟩, _⟩ := M_root hv u64
      have dd : ∀ x : Nat, x < 48 → d0 x = dq r.toNat x - dq y57.toNat x + (if gA o 49 v = (x : Int) then 1 else 0) - (if r = (x : Int) then 1 else 0) := fun x hx => by
        show (0 : Int) = _
        rw [ou v (by omega), y57', dd_0 w0, dd_0 (by omega)]; omega
      have T2 : TM s64 d0 (-1) := TG_D T1 dd
      have P2 : PM s64 v M' d0 (-1) := PM_D P1 dd
      have K64 : KS s s64 := KS_t KSo ⟨⟨a39, q_Aa e64 (by decide), q_Aa e64 (by decide), q_Aa e64 (by decide)⟩, fun j hj => by rw [u64, upZ_n (by omega)]⟩
      have W64 : RWn s s64 v := ⟨fun u hu hn => by rw [u64, upZ_n hn]; exact ou u hu, by rw [u64, upZ_s]; omega⟩
      have f64 : gI s64 55 = 0 := (q_Ai e64).trans z0
      have r48 : 0 ≤ r ∧ r < 48 := by omega
      have nq := (TG_nd T2 rq (by rw [w3]; omega)).2.1
      have l64 : (hM s64).1 r.toNat = (hM s).1 y57.toNat := by rw [w1]; exact o56
      refine wp_bn (w_x12_doesSplit hR64 r48 (KS_CE K64 hC1) nq (by omega) (by rw [K64.1.1]; omega)) (fun q67 e67 h67 => ?_)
      obtain ⟨t, o2⟩ := q67
      dsimp only at e67 h67 ⊢
      obtain ⟨hR2, h67⟩ := h67
      have F2 : F_x12_doesSplit s64 o2 := fr_x12_doesSplit e67
      have a49 : gA o2 49 = gA s64 49 := F2.2.1 49 (by decide)
      have b39 : gA o2 39 = gA s64 39 := F2.2.1 39 (by decide)
      have K2 : KS s o2 := KS_t K64 ⟨⟨b39, F2.2.1 42 (by decide), F2.2.1 43 (by decide), F2.2.1 44 (by decide)⟩, fun j _ => by rw [a49]⟩
      obtain ⟨e1, e2, e3, e4⟩ := eq49 a49
      have T3 : TM o2 d0 (-1) := TM_eq T2 a49 b39
      have P3 : PM o2 v M' d0 (-1) := PM_e P2 a49 b39 (by omega)
      have W2 : RWn s o2 v := ⟨fun u hu hn => by rw [a49]; exact W64.1 u hu hn, by rw [a49]; exact W64.2⟩
      have g55 : gI o2 55 = 0 := (F2.1 55 (by decide)).trans f64
      rw [K64.1.1] at h67
      refine wp_rg (by omega) (wp_if (fun c4 => ?_) (fun c4 => ?_))
      · refine L94 FU ((hM s).1 y57.toNat) r o2 hR2 K2 (by omega) (Or.inr ⟨g55, W2, M', T3, P3, ⟨r48, by rw [e3, w3]; exact o54, by rw [e4, w4]; exact o55⟩, by rw [e1]; exact l64, by rw [e1, K2.1.1]; omega, om, omu⟩) (by have := FU_big; omega)
      · refine wp_bn (mt_rootSplit (i := (hM s).1 y57.toNat) (M := M') hR2 hv hp0 T3 P3 (KS_CE K2 hC0) (by rw [K2.1.1]; exact hE) g55 (by rw [a49, u64, upZ_s]) ⟨⟨r48, by rw [e3, w3]; exact o54, by rw [e4, w4]; exact o55⟩, by rw [e1]; exact l64, by rw [e1]; omega, om, omu⟩ (by omega)) (fun q72 e72 h72 => ?_)
        obtain ⟨t3, o3⟩ := q72
        dsimp only at h72 ⊢
        obtain ⟨hR3, F3, k3, u3, h72⟩ := h72
        have K3 : KS s o3 := KS_t K2 ⟨⟨F3.2.1 39 (by decide), F3.2.1 42 (by decide), F3.2.1 43 (by decide), F3.2.1 44 (by decide)⟩, k3⟩
        refine L94 FU ((hM s).1 y57.toNat) t3 o3 hR3 K3 (by omega) ?_ (by have := FU_big; omega)
        rcases h72 with h72 | ⟨z1, rv, M3, T4, P4, A4⟩
        · exact Or.inl h72
        · exact Or.inr ⟨z1, ⟨fun u hu hn => by rw [u3 u hu hn z1]; exact W2.1 u hu hn, rv⟩, M3, T4, P4, A4⟩
  exact wp_eq key (fun q eq hq => ⟨hq.1, fr_x12_puts eq, hq.2⟩)
/-! ===== to remove ===== -/
theorem TG_dec {h : SH} {ky : Nat → Nat → Int} {N E : Int} {c sv r rs D : Nat → Int} {e : Int} {b : Nat} (H : TG h ky N E c sv r rs D e) (hb : b < 48) (hc : 2 ≤ c b) : TG h ky N E (upZ c b (c b - 1)) sv r rs (fun x => D x - (if x = b then 1 else 0)) e := by
  obtain ⟨⟨a1, a2, a3, a4⟩, ⟨b1, b2⟩, ⟨d1, d2⟩, e0, f1⟩ := H
  have li : ∀ p, 0 < upZ c b (c b - 1) p → 0 < c p := fun p hp => by
    by_cases q : p = b
    · rw [q]; omega
    · rw [upZ_n q] at hp; exact hp
  refine ⟨⟨a1, fun p hp => ?_, a3, a4⟩, ⟨fun x hx => ?_, b2⟩, ⟨fun p hp hpc hpe => d1 p hp (li p hpc) hpe, d2⟩, e0, fun p hp hpc => f1 p hp (hpc.imp (li p) id)⟩
  · by_cases q : p = b
    · subst q
      rw [upZ_s]
      have := a2 p hp
      exact ⟨by omega, fun w => by have := this.2.1 w; omega, fun w => this.2.2 (by omega)⟩
    · rw [upZ_n q]; exact a2 p hp
  · dsimp only
    rw [df_cnt hb, b1 x hx, if_pos (show 0 < c b by omega), if_pos (show 0 < c b - 1 by omega)]
    by_cases q : x = b
    · rw [if_pos q, if_pos q]; omega
    · rw [if_neg q, if_neg q]; omega
theorem en_1 {h : SH} {b : Nat} {x : Int} (hl : 0 < h.1 b) (hz : h.2.1 b = 1) : en h b x = if h.2.2 b 0 = x then 1 else 0 := by
  have e := enf_step (h := h) (p := b) (k := 0) (x := x) hl (by omega) (by omega)
  have e2 : enf h b (((0 : Nat) : Int) + 1) x = 0 := enf_end (by rw [hz]; decide)
  rw [e2] at e
  show enf h b 0 x = _
  have e' : enf h b 0 x = 0 + (if h.2.2 b 0 = x then 1 else 0) := e
  omega
/-- the roots but one stay, and that is one, or none -/
def RW0 (s S : MS) (v : Nat) : Prop := (∀ u, u < 17 → u ≠ v → gA S 49 u = gA s 49 u) ∧ ((0 ≤ gA S 49 v ∧ gA S 49 v < 48) ∨ gA S 49 v = 254)
set_option maxHeartbeats 2000000 in
theorem mt_lowers {p0 : Int} {s0 s : MS} {v : Nat} {M : Nat → Nat → Int} (hR : Rr s) (hv : v < 8) (hp0 : p0 = (v : Int)) (T : TM s d0 (-1)) (P : PM s v M d0 (-1)) (hW : RWn s0 s v) : wp (m_x12_lowers p0 s) (fun o => Rr o ∧ F_x12_lowers s o ∧ (∀ j, 785 ≤ j → gA o 49 j = gA s 49 j) ∧ RT o ∧ RWn s0 o v) := by
  have key : wp (m_x12_lowers p0 s) (fun o => Rr o ∧ (∀ j, 785 ≤ j → gA o 49 j = gA s 49 j) ∧ RT o ∧ RWn s0 o v) := by
    have L7 : ∀ (n : Nat) (b : Int) (S : MS) (M : Nat → Nat → Int), Rr S → (∀ j, 785 ≤ j → gA S 49 j = gA s 49 j) → RWn s0 S v → gA S 49 v = b → TM S d0 (-1) → PM S v M d0 (-1) → (hM S).1 b.toNat < (n : Int) → wp (m_x12_lowers_L7 n p0 b S) (fun o => Rr o ∧ (∀ j, 785 ≤ j → gA o 49 j = gA s 49 j) ∧ RT o ∧ RWn s0 o v) := by
      refine fr_ind (fun b S M hRS hK hWS hb TS PS hm => ?_) (fun n ih b S M hRS hK hWS hb TS PS hm => ?_)
      · exfalso
        have rl := TG_root_live (v := v) TS (fun _ _ => Int.le_refl 0) hv (by rw [rM_v hv]; exact hWS.2.1) (by rw [rM_v hv]; have := hWS.2.2; omega)
        rw [rM_v hv, hb] at rl
        have := TG_lev TS (fun _ _ => Int.le_refl 0) (by have := hWS.2; omega) rl.2
        omega
      · show wp (m_x12_lowers_b7 (m_x12_lowers_L7 n) p0 b S) _
        unfold m_x12_lowers_b7
        have w2 := hWS.2
        rw [hb] at w2
        have rl := TG_root_live (v := v) TS (fun _ _ => Int.le_refl 0) hv (by rw [rM_v hv]; omega) (by rw [rM_v hv]; omega)
        rw [rM_v hv, hb] at rl
        have rm := root_mu hv PS (by omega) (by omega)
        rw [hb] at rm
        have b48 : b.toNat < 48 := by omega
        have hN48 : gA S 39 5 ≤ 48 := TS.1.1
        have lv : 0 ≤ (hM S).1 b.toNat ∧ (hM S).1 b.toNat ≤ 47 := TG_lev TS (fun _ _ => Int.le_refl 0) b48 rl.2
        have fin : wp (m_x12_lowers_J63 S) (fun o => Rr o ∧ (∀ j, 785 ≤ j → gA o 49 j = gA s 49 j) ∧ RT o ∧ RWn s0 o v) := wp_some ⟨hRS, hK, PM_RT (by omega) TS PS, hWS⟩
        refine wp_bn (w_x12_levelOf hRS w2) (fun r11 e11 h11 => ?_)
        have l11 := h11.1
        refine wp_rg h11.2 (wp_if (fun c1 => fin) (fun c1 => ?_))
        refine wp_bn (w_x12_entriesOf hRS w2) (fun r15 e15 h15 => ?_)
        have z15 := h15.1
        refine wp_rg h15.2 (wp_if (fun c2 => ?_) (fun c2 => fin))
        refine wp_bn (w_x12_valueAt hRS w2 (by omega)) (fun r19 e19 h19 => ?_)
        have y19 : (hM S).2.2 b.toNat 0 = r19 := h19.1.symm
        have kid := TG_kid (p := b.toNat) (k := 0) TS (fun _ _ => Int.le_refl 0) b48 rl.2 (by omega) (by omega)
        rw [y19] at kid
        obtain ⟨⟨k0, k1⟩, k2, k3⟩ := kid
        have y48 : r19.toNat < 48 := by omega
        have ne : b.toNat ≠ r19.toNat := fun z => by rw [← z] at k2; omega
        have bd := TG_bd TS b48
        have bd2 := TG_bd TS y48
        have d0b : d0 b.toNat = 0 := rfl
        have d0y : d0 r19.toNat = 0 := rfl
        have ens : ∀ x : Int, en (hM S) b.toNat x = if r19 = x then 1 else 0 := fun x => by rw [en_1 (by omega) (by omega), y19]
        refine wp_bn (w_x12_counts hRS w2 (by omega) (by omega)) (fun s21 e21 h21 => ?_)
        obtain ⟨hR21, u21⟩ := h21
        obtain ⟨x21, c21⟩ := M_cnt b48 u21
        have F21 : F_x12_counts S s21 := fr_x12_counts e21
        have e1 : cM S b.toNat + (-1) = cM S b.toNat - 1 := by omega
        rw [e1] at c21
        -- the row of the tree at hand, without this root
        have PX : ∀ X : MS, CX S X → gA X 39 = gA S 39 → PM X v (upM M v (upZ (M v) b.toNat 0)) (fun x => dq r19.toNat x - dq b.toNat x) (-1) := fun X hX h39 => by
          have P1 := PM_CX PS h39 hX (by omega)
          refine PM_to (q := gA X 49 v) P1 (fun u hu hn G => ?_) (fun x hx => ?_) rfl (fun u _ _ => rfl) rfl
          · have G2 := TG_off (b := b.toNat) G b48 rm
            refine TG_D G2 (fun x hx => ?_)
            show dq r19.toNat x - dq b.toNat x = 0 - (if x = b.toNat then 1 else 0) + en (hM X) b.toNat (x : Int)
            rw [CX_h hX, ens, dd_0 k0]
            show dq r19.toNat x - dq b.toNat x = 0 - dq b.toNat x + dq r19.toNat x
            omega
          · by_cases z : x = b.toNat
            · rw [z, upZ_s]; omega
            · rw [upZ_n z]; exact PS.2 v (by omega) x hx
        have J51 : ∀ X : MS, Rr X → CX S X → gA X 39 = gA S 39 → TM X (fun x => dq r19.toNat x - dq b.toNat x) (-1) → wp (m_x12_lowers_J51 (m_x12_lowers_L7 n) p0 r19 X) (fun o => Rr o ∧ (∀ j, 785 ≤ j → gA o 49 j = gA s 49 j) ∧ RT o ∧ RWn s0 o v) := by
          intro X hRX hX h39 TX
          unfold m_x12_lowers_J51
          refine wp_inb (by omega) (wp_stn (fun s9 e9 => ?_))
          have hR9 : Rr s9 := e9 ▸ Rr.uAu hRX (by show (-2147483648 : Int) ≤ r19 ∧ r19 ≤ 2147483647; omega)
          have u9 : gA s9 49 = upZ (gA X 49) v r19 := by rw [(q_AA e9 : gA s9 49 = _), show p0.toNat = v by omega]
          have a39 : gA s9 39 = gA X 39 := q_Aa e9 (by decide)
          obtain ⟨T9, P9⟩ := MT_root (q := r19) TX (PX X hX h39) hv u9 a39 (Or.inl ⟨k0, by rw [h39]; exact k1⟩)
          obtain ⟨⟨w1, w2'⟩, _⟩ := M_root hv u9
          have dd : ∀ x : Nat, x < 48 → d0 x = dq r19.toNat x - dq b.toNat x + (if gA X 49 v = (x : Int) then 1 else 0) - (if r19 = (x : Int) then 1 else 0) := fun x hx => by
            show (0 : Int) = _
            rw [CX_u hX (by omega), hb, dd_0 k0, dd_0 (by omega)]; omega
          refine ih r19 s9 _ hR9 (fun j hj => ?_) ⟨fun u hu hn => ?_, ?_⟩ ?_ (TG_D T9 dd) (PM_D P9 dd) ?_
          · rw [u9, upZ_n (by omega), CX_n hX hj]; exact hK j hj
          · rw [u9, upZ_n hn, CX_u hX hu]; exact hWS.1 u hu hn
          · rw [u9, upZ_s]; omega
          · rw [u9, upZ_s]
          · rw [w1, CX_h hX]; omega
        refine wp_bn (w_x12_countOf hR21 w2) (fun r23 e23 h23 => ?_)
        have z23 : r23 = cM S b.toNat - 1 := by rw [h23.1, c21, upZ_s]
        refine wp_rg h23.2 (wp_if (fun c3 => ?_) (fun c3 => ?_))
        · refine J51 s21 hR21 x21 (F21.2.1 39 (by decide)) ?_
          have G := TG_off (b := b.toNat) TS b48 (by omega)
          refine TM_CX (s := S) (F21.2.1 39 (by decide)) x21 (by rw [c21, show cM S b.toNat - 1 = 0 by omega]; exact G) (fun x hx => ?_)
          show dq r19.toNat x - dq b.toNat x = 0 - (if x = b.toNat then 1 else 0) + en (hM S) b.toNat (x : Int)
          rw [ens, dd_0 k0]
          show dq r19.toNat x - dq b.toNat x = 0 - dq b.toNat x + dq r19.toNat x
          omega
        · have c21y : cM s21 r19.toNat = cM S r19.toNat := by rw [c21, upZ_n (fun z => ne z.symm)]
          refine wp_bn (w_x12_counts hR21 (by omega) (by omega) (by omega)) (fun s27 e27 h27 => ?_)
          obtain ⟨hR27, u27⟩ := h27
          obtain ⟨x27, c27⟩ := M_cnt y48 u27
          have F27 : F_x12_counts s21 s27 := fr_x12_counts e27
          have G := TG_dec (b := b.toNat) TS b48 (by omega)
          have T21 : TM s21 (fun x => d0 x - (if x = b.toNat then 1 else 0)) (-1) := TM_CX (s := S) (F21.2.1 39 (by decide)) x21 (by rw [c21]; exact G) (fun x hx => rfl)
          have G2 := TG_inc (y := r19.toNat) T21 y48 (by omega)
          refine J51 s27 hR27 (CX_t x21 x27) ((F27.2.1 39 (by decide)).trans (F21.2.1 39 (by decide))) ?_
          refine TM_CX (s := s21) (F27.2.1 39 (by decide)) x27 (by rw [c27]; exact G2) (fun x hx => ?_)
          show dq r19.toNat x - dq b.toNat x = 0 - dq b.toNat x + dq r19.toNat x
          omega
    unfold m_x12_lowers
    refine wp_rdIn (by omega) (fun y28 e28 => ?_)
    have y28' : gA s 49 v = y28 := by rw [← e28, show p0.toNat = v by omega]
    have rl := TG_root_live (v := v) T (fun _ _ => Int.le_refl 0) hv (by rw [rM_v hv]; exact hW.2.1) (by rw [rM_v hv]; have := hW.2.2; omega)
    rw [rM_v hv, y28'] at rl
    have w2 := hW.2
    rw [y28'] at w2
    have lv := TG_lev T (fun _ _ => Int.le_refl 0) (by omega) rl.2
    exact L7 FU y28 s M hR (fun _ _ => rfl) hW y28' T P (by have := FU_big; omega)
  exact wp_eq key (fun q eq hq => ⟨hq.1, fr_x12_lowers eq, hq.2⟩)
/-- a block of one's own -/
def OB_r (S : MS) (v : Nat) (M : Nat → Nat → Int) (b i : Int) : Prop := ((0 ≤ b ∧ b < 48) ∧ cM S b.toNat = 1 ∧ vM S b.toNat = 0) ∧ (hM S).1 b.toNat = i ∧ (M v b.toNat = 1 ∧ ∀ u, u < 16 → u ≠ v → M u b.toNat = 0)
/-- the way down: blocks of one's own, each naming the next -/
def WY (S : MS) (v : Nat) (M : Nat → Nat → Int) (L b n : Int) : Prop := (∀ j : Nat, (j : Int) < n → OB_r S v M (gA S 57 j) (L - (j : Int)) ∧ (0 ≤ gA S 58 j ∧ gA S 58 j < (hM S).2.1 (gA S 57 j).toNat) ∧ (hM S).2.2 (gA S 57 j).toNat (gA S 58 j).toNat = (if (j : Int) + 1 = n then b else gA S 57 (j + 1))) ∧ gA S 49 v = (if n = 0 then b else gA S 57 0)
/-- blocks above a level are as they were -/
def UP (S X : MS) (v : Nat) (M M' : Nat → Nat → Int) (l : Int) : Prop := ∀ x, x < 48 → cM S x = 1 → l < (hM S).1 x → (cM X x = cM S x ∧ vM X x = vM S x ∧ (hM X).1 x = (hM S).1 x ∧ (hM X).2.1 x = (hM S).2.1 x ∧ ∀ k, k < 6 → (hM X).2.2 x k = (hM S).2.2 x k) ∧ ∀ u, M' u x = M u x
theorem OB_up {S X : MS} {v : Nat} {M M' : Nat → Nat → Int} {l b i : Int} (H : OB_r S v M b i) (U : UP S X v M M' l) (hl : l < i) : OB_r X v M' b i := by
  obtain ⟨⟨h1, h2, h3⟩, h4, h5, h6⟩ := H
  obtain ⟨⟨u1, u2, u3, u4, u5⟩, u6⟩ := U b.toNat (by omega) h2 (by omega)
  exact ⟨⟨h1, by rw [u1]; exact h2, by rw [u2]; exact h3⟩, by rw [u3]; exact h4, by rw [u6]; exact h5, fun u hu hn => by rw [u6]; exact h6 u hu hn⟩
theorem WY_up {S X : MS} {v : Nat} {M M' : Nat → Nat → Int} {L b n l : Int} (H : WY S v M L b n) (T6 : ∀ x, x < 48 → cM S x = 1 → (hM S).2.1 x ≤ 6) (h57 : gA X 57 = gA S 57) (h58 : gA X 58 = gA S 58) (hrt : gA X 49 v = gA S 49 v) (U : UP S X v M M' l) (hl : l ≤ L - n) : WY X v M' L b n := by
  refine ⟨fun j hj => ?_, by rw [h57, hrt]; exact H.2⟩
  rw [h57, h58]
  obtain ⟨a, b1, c⟩ := H.1 j hj
  have a' := OB_up a U (by omega)
  obtain ⟨⟨q1, q2, q3⟩, q4, _⟩ := a
  obtain ⟨⟨u1, u2, u3, u4, u5⟩, u6⟩ := U (gA S 57 j).toNat (by omega) q2 (by omega)
  have t6 := T6 (gA S 57 j).toNat (by omega) q2
  refine ⟨a', by rw [u4]; exact b1, ?_⟩
  rw [u5 (gA S 58 j).toNat (by omega)]; exact c
theorem WY_push {S X : MS} {v : Nat} {M : Nat → Nat → Int} {L b n k y : Int} (H : WY S v M L b n) (hn : 0 ≤ n) (h57 : gA X 57 = upZ (gA S 57) n.toNat b) (h58 : gA X 58 = upZ (gA S 58) n.toNat k) (h49 : gA X 49 = gA S 49) (hb : OB_r S v M b (L - n)) (hk : 0 ≤ k ∧ k < (hM S).2.1 b.toNat) (hy : (hM S).2.2 b.toNat k.toNat = y) : WY X v M L y (n + 1) := by
  obtain ⟨e1, e2, e3, e4⟩ := eq49 h49
  have ob : ∀ z i, OB_r S v M z i → OB_r X v M z i := fun z i h => by
    unfold OB_r at h ⊢
    rw [e1, e3, e4]; exact h
  refine ⟨fun j hj => ?_, ?_⟩
  · by_cases z : j = n.toNat
    · rw [z, h57, h58, upZ_s, upZ_s, e1, show ((n.toNat : Nat) : Int) = n by omega]
      refine ⟨ob _ _ hb, hk, ?_⟩
      rw [if_pos rfl]; exact hy
    · obtain ⟨a, b1, c⟩ := H.1 j (by omega)
      rw [h57, h58, upZ_n z, upZ_n z, e1]
      refine ⟨ob _ _ a, b1, ?_⟩
      rw [if_neg (show ¬ (j : Int) + 1 = n + 1 by omega), c]
      by_cases w : (j : Int) + 1 = n
      · rw [if_pos w, show j + 1 = n.toNat by omega, upZ_s]
      · rw [if_neg w, upZ_n (by omega)]
  · rw [if_neg (show ¬ n + 1 = 0 by omega), h49, H.2, h57]
    by_cases w : n = 0
    · rw [if_pos w, w]; show b = upZ (gA S 57) 0 b 0; rw [upZ_s]
    · rw [if_neg w, upZ_n (by omega)]
/-! ===== to remove, from the root on ===== -/
theorem T_6 {S : MS} {D : Nat → Int} {e : Int} (T : TM S D e) : ∀ x, x < 48 → cM S x = 1 → (hM S).2.1 x ≤ 6 := fun x hx hc => (TG_nd T hx (by omega)).2.1.2
/-- a block is empty: it has no count more -/
theorem MT_kill {S X : MS} {v b : Nat} {M : Nat → Nat → Int} (T : TM S d0 (b : Int)) (P : PM S v M d0 (b : Int)) (hv : v < 16) (hb : b < 48) (hc : cM S b = 1) (hm : M v b = 1) (hz : (hM S).2.1 b = 0) (hX : CX S X) (c : cM X = upZ (cM S) b 0) (h39 : gA X 39 = gA S 39) : TM X (fun x => 0 - dq b x) (-1) ∧ PM X v (upM M v (upZ (M v) b 0)) (fun x => 0 - dq b x) (-1) := by
  constructor
  · have G := TG_kill (e' := -1) T hb hc hz (fun p hp => Or.inr (by omega))
    exact TM_CX (s := S) h39 hX (by rw [c]; exact G) (fun x hx => rfl)
  · have P1 := PM_CX P h39 hX hv
    refine PM_to (q := gA X 49 v) P1 (fun u hu hn G => ?_) (fun x hx => ?_) rfl (fun u _ _ => rfl) rfl
    · have G2 := TG_kill (e' := -1) G hb hm (by rw [CX_h hX]; exact hz) (fun p hp => Or.inr (by omega))
      exact TG_D G2 (fun x hx => rfl)
    · by_cases z : x = b
      · rw [z, upZ_s]; omega
      · rw [upZ_n z]; exact P.2 v hv x hx
/-- an entry is cut: trees -/
theorem MT_del {s o : MS} {v b k : Nat} {M : Nat → Nat → Int} {D : Nat → Int} (T : TM s D (-1)) (P : PM s v M D (-1)) (I : DelE s o b k) (h39 : gA o 39 = gA s 39) (hvv : v < 16) (hb : b < 48) (hc : 0 < cM s b) (hv0 : vM s b ≤ 0) (hm : 0 < M v b) (hmu : ∀ u, u < 16 → u ≠ v → M u b ≤ 0) (hk : (k : Int) < (hM s).2.1 b) : TM o (fun x => D x + (if 0 < (hM s).1 b ∧ (hM s).2.2 b k = (x : Int) then 1 else 0)) (b : Int) ∧ PM o v M (fun x => D x + (if 0 < (hM s).1 b ∧ (hM s).2.2 b k = (x : Int) then 1 else 0)) (b : Int) := by
  obtain ⟨iB, iz, ilo, ihi⟩ := I
  have step : ∀ {c sv r2 rs2 : Nat → Int}, TG (hM s) (kM s) (gA s 39 5) (gA s 39 6) c sv r2 rs2 D (-1) → 0 < c b → sv b ≤ 0 → TG (hM o) (kM o) (gA s 39 5) (gA s 39 6) c sv r2 rs2 (fun x => D x + (if 0 < (hM s).1 b ∧ (hM s).2.2 b k = (x : Int) then 1 else 0)) (b : Int) := fun G g1 g2 => TG_del (h' := hM o) (ky' := kM o) G hb g2 g1 (BX_s iB) (by rw [BX_l iB]) iz hk ilo ihi
  refine ⟨TM_mk (step T hc hv0) rfl rfl (by rw [h39]) (by rw [h39]) (BX_c iB) (BX_v iB) (BX_r iB) (BX_rs iB), ?_⟩
  exact PM_to0 (q := gA s 49 v) P (fun u hu hn G => step G hm (hmu u hu hn)) h39 (fun u hu _ => BX_u iB (by omega)) (BX_u iB (by omega))
theorem UP_BX {S X : MS} {v b : Nat} {M : Nat → Nat → Int} {l : Int} (iB : BX S X b) (hl : (hM S).1 b ≤ l) : UP S X v M M l := fun x hx hc hlx => by
  have ne : x ≠ b := fun z => by rw [z] at hlx; omega
  exact ⟨⟨by rw [BX_c iB], by rw [BX_v iB], by rw [BX_l iB], BX_z iB ne, fun k _ => (BX_e iB ne).1⟩, fun u => rfl⟩
theorem UP_tr {S X Y : MS} {v : Nat} {M M' M2 : Nat → Nat → Int} {l : Int} (h1 : UP S X v M M' l) (h2 : UP X Y v M' M2 l) : UP S Y v M M2 l := fun x hx hc hlx => by
  obtain ⟨⟨a1, a2, a3, a4, a5⟩, a6⟩ := h1 x hx hc hlx
  obtain ⟨⟨b1, b2, b3, b4, b5⟩, b6⟩ := h2 x hx (by rw [a1]; exact hc) (by rw [a3]; exact hlx)
  exact ⟨⟨b1.trans a1, b2.trans a2, b3.trans a3, b4.trans a4, fun k hk => (b5 k hk).trans (a5 k hk)⟩, fun u => (b6 u).trans (a6 u)⟩
set_option maxHeartbeats 4000000 in
theorem mt_removes {p0 p1 : Int} {s : MS} {v : Nat} (hR : Rr s) (hv : v < 8) (hp0 : p0 = (v : Int)) (H : RT s) (hC0 : CE s 0) (hE : 3 ≤ gA s 39 6 ∧ gA s 39 6 ≤ 6) (hf : gI s 55 = 0) (hrt : 0 ≤ gA s 49 v ∧ gA s 49 v < 254) (h1 : R2 p1) : wp (m_x12_removes p0 p1 s) (fun o => Rr o ∧ F_x12_removes s o ∧ (∀ j, 785 ≤ j → gA o 49 j = gA s 49 j) ∧ (gI o 55 = 1 ∨ (gI o 55 = 0 ∧ RT o ∧ RW0 s o v))) := by
  obtain ⟨M0, P0⟩ := RT_PM v (by omega) H
  have T0 : TM s d0 (-1) := H.1
  have hN48 : gA s 39 5 ≤ 48 := T0.1.1
  have key : wp (m_x12_removes p0 p1 s) (fun o => Rr o ∧ (∀ j, 785 ≤ j → gA o 49 j = gA s 49 j) ∧ (gI o 55 = 1 ∨ (gI o 55 = 0 ∧ RT o ∧ RW0 s o v))) := by
    -- the end
    have J182 : ∀ (b : Int) (S : MS) (M : Nat → Nat → Int), Rr S → KS s S → gI S 55 = 0 → (∀ u, u < 17 → u ≠ v → gA S 49 u = gA s 49 u) → (0 ≤ gA S 49 v ∧ gA S 49 v < 48) → TM S d0 b → PM S v M d0 b → ((0 ≤ b ∧ b < 48) ∧ cM S b.toNat = 1 ∧ M v b.toNat = 1) → ((hM S).2.1 b.toNat = 0 → gA S 49 v = b) → wp (m_x12_removes_J182 p0 b S) (fun o => Rr o ∧ (∀ j, 785 ≤ j → gA o 49 j = gA s 49 j) ∧ (gI o 55 = 1 ∨ (gI o 55 = 0 ∧ RT o ∧ RW0 s o v))) := by
      intro b S M hRS hK f55 hU hW TS PS hb hrb
      obtain ⟨hb, bc, bm⟩ := hb
      have b48 : b.toNat < 48 := by omega
      unfold m_x12_removes_J182
      refine wp_bn (w_x12_entriesOf hRS hb) (fun r5 e5 h5 => ?_)
      have z5 := h5.1
      refine wp_rg h5.2 (wp_if (fun c1 => ?_) (fun c1 => ?_))
      · have rb := hrb (by omega)
        refine wp_bn (w_x12_counts hRS hb (by omega) (by omega)) (fun s11 e11 h11 => ?_)
        obtain ⟨hR11, u11⟩ := h11
        obtain ⟨x11, c11⟩ := M_cnt b48 u11
        have F11 : F_x12_counts S s11 := fr_x12_counts e11
        have TS' : TM S d0 ((b.toNat : Nat) : Int) := by rw [show ((b.toNat : Nat) : Int) = b by omega]; exact TS
        have PS' : PM S v M d0 ((b.toNat : Nat) : Int) := by rw [show ((b.toNat : Nat) : Int) = b by omega]; exact PS
        obtain ⟨T1, P1⟩ := MT_kill (b := b.toNat) TS' PS' (by omega) b48 bc bm (by omega) x11 (by rw [c11, bc]; rfl) (F11.2.1 39 (by decide))
        refine wp_inb (by omega) (wp_stn (fun s13 e13 => ?_))
        have hR13 : Rr s13 := e13 ▸ Rr.uAu hR11 (by show (-2147483648 : Int) ≤ 254 ∧ (254 : Int) ≤ 2147483647; omega)
        have u13 : gA s13 49 = upZ (gA s11 49) v 254 := by rw [(q_AA e13 : gA s13 49 = _), show p0.toNat = v by omega]
        obtain ⟨T2, P2⟩ := MT_root (q := 254) T1 P1 hv u13 (q_Aa e13 (by decide)) (Or.inr (Or.inr (by omega)))
        have dd : ∀ x : Nat, x < 48 → d0 x = 0 - dq b.toNat x + (if gA s11 49 v = (x : Int) then 1 else 0) - (if (254 : Int) = (x : Int) then 1 else 0) := fun x hx => by
          show (0 : Int) = _
          rw [CX_u x11 (by omega), rb, dd_0 hb.1, if_neg (show ¬ (254 : Int) = (x : Int) by omega)]; omega
        refine wp_some ⟨hR13, fun j hj => ?_, Or.inr ⟨(q_Ai e13).trans ((F11.1 55 (by decide)).trans f55), PM_RT (by omega) (TG_D T2 dd) (PM_D P2 dd), fun u hu hn => ?_, Or.inr ?_⟩⟩
        · rw [u13, upZ_n (by omega), CX_n x11 hj]; exact hK.2 j hj
        · rw [u13, upZ_n hn, CX_u x11 hu]; exact hU u hu hn
        · rw [u13, upZ_s]
      · have ne : ∀ p : Nat, p < 48 → (p : Int) = b → 1 ≤ (hM S).2.1 p := fun p hp hq => by
          have := (TG_nd TS b48 (by omega)).2.1
          rw [show p = b.toNat by omega]; omega
        have T1 : TM S d0 (-1) := TG_ne TS ne
        have P1 : PM S v M d0 (-1) := ⟨fun u hu hn => TG_ne (PS.1 u hu hn) ne, PS.2⟩
        refine wp_bn (mt_lowers (s0 := s) hRS hv hp0 T1 P1 ⟨hU, hW⟩) (fun s9 e9 h9 => ?_)
        obtain ⟨hR9, F9, k9, R9, W9⟩ := h9
        exact wp_some ⟨hR9, fun j hj => by rw [k9 j hj]; exact hK.2 j hj, Or.inr ⟨(F9.1 55 (by decide)).trans f55, R9, W9.1, Or.inl W9.2⟩⟩
    -- the way back up
    have L137 : ∀ (m : Nat) (b n L : Int) (S : MS) (M : Nat → Nat → Int), Rr S → KS s S → gI S 55 = 0 → (∀ u, u < 17 → u ≠ v → gA S 49 u = gA s 49 u) → (0 ≤ gA S 49 v ∧ gA S 49 v < 48) → (0 ≤ n ∧ n ≤ 47) → TM S d0 b → PM S v M d0 b → OB_r S v M b (L - n) → WY S v M L b n → n < (m : Int) → wp (m_x12_removes_L137 m p0 b n S) (fun o => Rr o ∧ (∀ j, 785 ≤ j → gA o 49 j = gA s 49 j) ∧ (gI o 55 = 1 ∨ (gI o 55 = 0 ∧ RT o ∧ RW0 s o v))) := by
      refine fr_ind (fun b n L S M hRS hK f55 hU hW hn TS PS hO hY hm => by exfalso; omega) (fun m ih b n L S M hRS hK f55 hU hW hn TS PS hO hY hm => ?_)
      show wp (m_x12_removes_b137 (m_x12_removes_L137 m) p0 b n S) _
      unfold m_x12_removes_b137
      obtain ⟨⟨hb, bc, bv⟩, bl, bm, bmu⟩ := hO
      have b48 : b.toNat < 48 := by omega
      refine wp_bn (w_x12_entriesOf hRS hb) (fun r19 e19 h19 => ?_)
      have z19 := h19.1
      refine wp_rg h19.2 (wp_if (fun c1 => ?_) (fun c1 => ?_))
      · refine wp_rg (by omega) (wp_if (fun c2 => ?_) (fun c2 => ?_))
        · refine J182 b S M hRS hK f55 hU hW TS PS ⟨hb, bc, bm⟩ (fun _ => ?_)
          rw [hY.2, if_pos (by omega)]
        · refine wp_bn (w_x12_counts hRS hb (by omega) (by omega)) (fun s25 e25 h25 => ?_)
          obtain ⟨hR25, u25⟩ := h25
          obtain ⟨x25, c25⟩ := M_cnt b48 u25
          have F25 : F_x12_counts S s25 := fr_x12_counts e25
          have TS' : TM S d0 ((b.toNat : Nat) : Int) := by rw [show ((b.toNat : Nat) : Int) = b by omega]; exact TS
          have PS' : PM S v M d0 ((b.toNat : Nat) : Int) := by rw [show ((b.toNat : Nat) : Int) = b by omega]; exact PS
          have c25' : cM s25 = upZ (cM S) b.toNat 0 := by rw [c25, bc]; rfl
          obtain ⟨T1, P1⟩ := MT_kill (b := b.toNat) TS' PS' (by omega) b48 bc bm (by omega) x25 c25' (F25.2.1 39 (by decide))
          have a57 : gA s25 57 = gA S 57 := F25.2.1 57 (by decide)
          have a58 : gA s25 58 = gA S 58 := F25.2.1 58 (by decide)
          have U1 : UP S s25 v M (upM M v (upZ (M v) b.toNat 0)) (L - n) := fun x hx hc hlx => by
            have ne : x ≠ b.toNat := fun z => by rw [z] at hlx; omega
            refine ⟨⟨by rw [c25', upZ_n ne], by rw [CX_v x25], by rw [CX_h x25], by rw [CX_h x25], fun k _ => by rw [CX_h x25]⟩, fun u => ?_⟩
            by_cases z : u = v
            · rw [z, upM_s, upZ_n ne]
            · rw [upM_n z]
          have Y1 := WY_up hY (T_6 TS) a57 a58 (CX_u x25 (by omega)) U1 (Int.le_refl _)
          have yl := Y1.1 (n - 1).toNat (by omega)
          rw [if_pos (by omega)] at yl
          refine wp_rdIn (by omega) (fun y26 e26 => ?_)
          refine wp_rdIn (by omega) (fun y27 e27 => ?_)
          have i26 : (n + (-1)).toNat = (n - 1).toNat := by omega
          rw [i26] at e26 e27
          rw [e26, e27] at yl
          obtain ⟨yo, yk, ye⟩ := yl
          have yo' := yo
          obtain ⟨⟨ya, yc, yv⟩, yL, ym, ymu⟩ := yo
          have y48 : y26.toNat < 48 := by omega
          have n6 := T_6 T1 y26.toNat y48 yc
          refine wp_bn (w_x12_cutsEntry hR25 ya (by omega) (by omega)) (fun s29 e29 h29 => ?_)
          obtain ⟨hR29, F29, k, k1, k2, D29⟩ := h29
          have kk : k = y27.toNat := k2 (by omega)
          rw [kk] at D29
          obtain ⟨T2, P2⟩ := MT_del (b := y26.toNat) (k := y27.toNat) T1 P1 D29 (F29.2.1 39 (by decide)) (by omega) y48 (by omega) (by omega) (by omega) (fun u hu hn => by rw [ymu u hu hn]; omega) (by omega)
          have dd : ∀ x : Nat, x < 48 → d0 x = 0 - dq b.toNat x + (if 0 < (hM s25).1 y26.toNat ∧ (hM s25).2.2 y26.toNat y27.toNat = (x : Int) then 1 else 0) := fun x hx => by
            show (0 : Int) = _
            rw [ye]
            have lp : 0 < (hM s25).1 y26.toNat := by
              have := (TG_nd TS b48 (by omega)).1
              omega
            by_cases z : b = (x : Int)
            · rw [if_pos ⟨lp, z⟩]; unfold dq; rw [if_pos (by omega)]; omega
            · rw [if_neg (fun w => z w.2)]; unfold dq; rw [if_neg (by omega)]; omega
          have iB := D29.1
          have T3 : TM s29 d0 y26 := by
            have := TG_D T2 dd
            rw [show ((y26.toNat : Nat) : Int) = y26 by omega] at this
            exact this
          have P3 : PM s29 v (upM M v (upZ (M v) b.toNat 0)) d0 y26 := by
            have := PM_D P2 dd
            rw [show ((y26.toNat : Nat) : Int) = y26 by omega] at this
            exact this
          have Y2 : WY s25 v (upM M v (upZ (M v) b.toNat 0)) L y26 (n - 1) := by
            refine ⟨fun j hj => ?_, ?_⟩
            · obtain ⟨q1, q2, q3⟩ := Y1.1 j (by omega)
              refine ⟨q1, q2, ?_⟩
              rw [if_neg (by omega)] at q3
              rw [q3]
              by_cases w : (j : Int) + 1 = n - 1
              · rw [if_pos w, show j + 1 = (n - 1).toNat by omega]; exact e26
              · rw [if_neg w]
            · rw [Y1.2, if_neg (by omega)]
              by_cases w : n - 1 = 0
              · rw [if_pos w, show (0 : Nat) = (n - 1).toNat by omega]; exact e26
              · rw [if_neg w]
          have U2 : UP s25 s29 v (upM M v (upZ (M v) b.toNat 0)) (upM M v (upZ (M v) b.toNat 0)) (L - (n - 1)) := UP_BX iB (by omega)
          have Y3 := WY_up Y2 (T_6 T1) (F29.2.1 57 (by decide)) (F29.2.1 58 (by decide)) (BX_u iB (by omega)) U2 (Int.le_refl _)
          have K3 : KS s s29 := KS_t hK ⟨⟨(F29.2.1 39 (by decide)).trans (F25.2.1 39 (by decide)), (F29.2.1 42 (by decide)).trans (F25.2.1 42 (by decide)), (F29.2.1 43 (by decide)).trans (F25.2.1 43 (by decide)), (F29.2.1 44 (by decide)).trans (F25.2.1 44 (by decide))⟩, fun j hj => by rw [BX_k iB y48 hj, CX_n x25 hj]⟩
          refine ih y26 (n + (-1)) L s29 _ hR29 K3 ((F29.1 55 (by decide)).trans ((F25.1 55 (by decide)).trans f55)) (fun u hu hn => by rw [BX_u iB hu, CX_u x25 hu]; exact hU u hu hn) (by rw [BX_u iB (by omega), CX_u x25 (by omega)]; exact hW) (by omega) T3 P3 ⟨⟨ya, by rw [BX_c iB]; exact yc, by rw [BX_v iB]; exact yv⟩, by rw [BX_l iB, yL]; omega, ym, ymu⟩ (by rw [show n + (-1) = n - 1 by omega]; exact Y3) (by omega)
      · exact J182 b S M hRS hK f55 hU hW TS PS ⟨hb, bc, bm⟩ (fun w => by omega)
    -- the leaf
    have J118 : ∀ (b n L : Int) (S : MS), Rr S → KS s S → (gI S 55 = 1 ∨ (gI S 55 = 0 ∧ (∀ u, u < 17 → u ≠ v → gA S 49 u = gA s 49 u) ∧ (0 ≤ gA S 49 v ∧ gA S 49 v < 48) ∧ (0 ≤ n ∧ n ≤ 47) ∧ L - n ≤ 0 ∧ ∃ M, TM S d0 (-1) ∧ PM S v M d0 (-1) ∧ OB_r S v M b (L - n) ∧ WY S v M L b n)) → wp (m_x12_removes_J118 p0 p1 b n S) (fun o => Rr o ∧ (∀ j, 785 ≤ j → gA o 49 j = gA s 49 j) ∧ (gI o 55 = 1 ∨ (gI o 55 = 0 ∧ RT o ∧ RW0 s o v))) := by
      intro b n L S hRS hK hG
      unfold m_x12_removes_J118
      have r55 : (0 : Int) ≤ gI S 55 ∧ gI S 55 ≤ 1 := hRS.1 55
      refine wp_rg (by omega) (wp_if (fun c1 => ?_) (fun c1 => wp_some ⟨hRS, hK.2, Or.inl (by omega)⟩))
      rcases hG with hG | ⟨f55, hU, hW, hn, hl, M, TS, PS, hO, hY⟩
      · omega
      obtain ⟨⟨hb, bc, bv⟩, bl, bm, bmu⟩ := hO
      have b48 : b.toNat < 48 := by omega
      have na := (TG_nd TS b48 (by omega)).2.1
      have n1 : 1 ≤ (hM S).2.1 b.toNat := TS.2.2.1.1 b.toNat b48 (by omega) (by omega)
      refine wp_bn (w_x12_placeIn hRS hb h1 na) (fun r38 e38 h38 => ?_)
      refine wp_bn (w_x12_cutsEntry hRS hb h38 (by omega)) (fun s40 e40 h40 => ?_)
      obtain ⟨hR40, F40, k, k1, k2, D40⟩ := h40
      obtain ⟨T2, P2⟩ := MT_del (b := b.toNat) (k := k) TS PS D40 (F40.2.1 39 (by decide)) (by omega) b48 (by omega) (by omega) (by omega) (fun u hu hn => by rw [bmu u hu hn]; omega) k1
      have dd : ∀ x : Nat, x < 48 → d0 x = d0 x + (if 0 < (hM S).1 b.toNat ∧ (hM S).2.2 b.toNat k = (x : Int) then 1 else 0) := fun x hx => by
        rw [if_neg (fun w => by omega)]; omega
      have iB := D40.1
      have T3 : TM s40 d0 b := by
        have := TG_D T2 dd
        rw [show ((b.toNat : Nat) : Int) = b by omega] at this
        exact this
      have P3 : PM s40 v M d0 b := by
        have := PM_D P2 dd
        rw [show ((b.toNat : Nat) : Int) = b by omega] at this
        exact this
      have Y3 := WY_up hY (T_6 TS) (F40.2.1 57 (by decide)) (F40.2.1 58 (by decide)) (BX_u iB (by omega)) (UP_BX (v := v) (M := M) iB (by omega)) (Int.le_refl _)
      have K3 : KS s s40 := KS_t hK ⟨⟨F40.2.1 39 (by decide), F40.2.1 42 (by decide), F40.2.1 43 (by decide), F40.2.1 44 (by decide)⟩, fun j hj => BX_k iB b48 hj⟩
      exact L137 FU b n L s40 M hR40 K3 ((F40.1 55 (by decide)).trans f55) (fun u hu hn => by rw [BX_u iB hu]; exact hU u hu hn) (by rw [BX_u iB (by omega)]; exact hW) hn T3 P3 ⟨⟨hb, by rw [BX_c iB]; exact bc, by rw [BX_v iB]; exact bv⟩, by rw [BX_l iB]; exact bl, bm, bmu⟩ Y3 (by have := FU_big; omega)
    -- the way down
    have L29 : ∀ (m : Nat) (b n L : Int) (S : MS), Rr S → KS s S → (0 ≤ n ∧ n ≤ 47 ∧ L ≤ 47 ∧ 0 ≤ L - n) → (gI S 55 = 1 ∨ (gI S 55 = 0 ∧ (∀ u, u < 17 → u ≠ v → gA S 49 u = gA s 49 u) ∧ (0 ≤ gA S 49 v ∧ gA S 49 v < 48) ∧ ∃ M, TM S d0 (-1) ∧ PM S v M d0 (-1) ∧ OB_r S v M b (L - n) ∧ WY S v M L b n)) → L - n < (m : Int) → wp (m_x12_removes_L29 m p0 p1 b n S) (fun o => Rr o ∧ (∀ j, 785 ≤ j → gA o 49 j = gA s 49 j) ∧ (gI o 55 = 1 ∨ (gI o 55 = 0 ∧ RT o ∧ RW0 s o v))) := by
      refine fr_ind (fun b n L S hRS hK hn hG hm => by exfalso; omega) (fun m ih b n L S hRS hK hn hG hm => ?_)
      show wp (m_x12_removes_b29 (m_x12_removes_L29 m) p0 p1 b n S) _
      unfold m_x12_removes_b29
      have r55 : (0 : Int) ≤ gI S 55 ∧ gI S 55 ≤ 1 := hRS.1 55
      refine wp_rg (by omega) (wp_if (fun c1 => ?_) (fun c1 => J118 b n L S hRS hK (Or.inl (by omega))))
      rcases hG with hG | ⟨f55, hU, hW, M, T, P, hO, hY⟩
      · omega
      have hO0 := hO
      obtain ⟨⟨ha, a54, a55⟩, a56, am, amu⟩ := hO
      have ha48 : b.toNat < 48 := by omega
      have S39 := hK.1.1
      have na := (TG_nd T ha48 (by omega)).2.1
      have n1 : 1 ≤ (hM S).2.1 b.toNat := T.2.2.1.1 b.toNat ha48 (by omega) (by omega)
      refine wp_bn (w_x12_levelOf hRS ha) (fun r60 e60 h60 => ?_)
      have l60 : r60 = L - n := by rw [h60.1]; exact a56
      refine wp_rg h60.2 (wp_if (fun c2 => J118 b n L S hRS hK (Or.inr ⟨f55, hU, hW, by omega, by omega, M, T, P, hO0, hY⟩)) (fun c2 => ?_))
      refine wp_bn (w_x12_placeFor hRS ha h1 na) (fun r64 e64 h64 => ?_)
      have k64 : 0 ≤ r64 ∧ r64 < (hM S).2.1 b.toNat := by omega
      refine wp_bn (w_x12_valueAt hRS ha (by omega)) (fun r66 e66 h66 => ?_)
      have y66 := h66.1
      have kid := TG_kid (p := b.toNat) (k := r64.toNat) T (fun _ _ => Int.le_refl 0) ha48 (by omega) (by omega) (by omega)
      have km := kid_mu (k := r64.toNat) hv P ha48 (by omega) (by omega) (by omega)
      have ke := enf_pos (h := hM S) (p := b.toNat) (k := r64.toNat) (i := 0) (by omega) (by omega) (by omega) (by omega)
      rw [← y66] at kid km ke
      obtain ⟨⟨k0, k1⟩, k2, k3⟩ := kid
      have hNS : gA S 39 5 ≤ 48 := T.1.1
      have y48 : r66.toNat < 48 := by omega
      have ke' : 0 < en (hM S) b.toNat ((r66.toNat : Nat) : Int) := by
        rw [show ((r66.toNat : Nat) : Int) = r66 by omega]
        have : 1 ≤ en (hM S) b.toNat r66 := ke
        omega
      refine wp_bn (mt_owned (M := M) hRS hv T P (KS_CE hK hC0) (by rw [S39]; omega) c1 (by omega) k3 km (own_x hv T P y48 (Or.inr ⟨b.toNat, ha48, by omega, ke', fun u hu hn => by rw [amu u hu hn]; omega⟩))) (fun q69 e69 h69 => ?_)
      obtain ⟨r, o⟩ := q69
      dsimp only at h69 ⊢
      obtain ⟨hRo, Fo, ko, h69⟩ := h69
      have KSo : KS S o := ⟨⟨Fo.2.1 39 (by decide), Fo.2.1 42 (by decide), Fo.2.1 43 (by decide), Fo.2.1 44 (by decide)⟩, ko⟩
      have KSo' : KS s o := KS_t hK KSo
      have hr2 : R2 r := by
        rcases h69 with h69 | ⟨_, w0, M', ⟨⟨w1, _⟩, _⟩, _⟩ <;> omega
      have hr47 : gI o 55 = 1 → r = r66 := fun w => by
        rcases h69 with h69 | ⟨w2, _⟩
        · exact h69.2
        · omega
      have J92 : ∀ (X : MS), Rr X → KS s X → (0 ≤ r ∧ r < 48) → (gI X 55 = 1 ∨ (gI X 55 = 0 ∧ (∀ u, u < 17 → u ≠ v → gA X 49 u = gA s 49 u) ∧ (0 ≤ gA X 49 v ∧ gA X 49 v < 48) ∧ ∃ M', TM X d0 (-1) ∧ PM X v M' d0 (-1) ∧ OB_r X v M' b (L - n) ∧ r64 < (hM X).2.1 b.toNat ∧ (hM X).2.2 b.toNat r64.toNat = r ∧ OB_r X v M' r (L - n - 1) ∧ WY X v M' L b n)) → wp (m_x12_removes_J92 (m_x12_removes_L29 m) p0 p1 b n r64 r X) (fun o => Rr o ∧ (∀ j, 785 ≤ j → gA o 49 j = gA s 49 j) ∧ (gI o 55 = 1 ∨ (gI o 55 = 0 ∧ RT o ∧ RW0 s o v))) := by
        intro X hRX hKX hr48 hGX
        unfold m_x12_removes_J92
        refine wp_inb (by omega) (wp_stn (fun s54 e54 => ?_))
        have hR54 : Rr s54 := e54 ▸ Rr.uAu hRX (by show (0 : Int) ≤ b ∧ b ≤ 47; omega)
        refine wp_inb (by omega) (wp_stn (fun s56 e56 => ?_))
        have hR56 : Rr s56 := e56 ▸ Rr.uAu hR54 (by show (0 : Int) ≤ r64 ∧ r64 ≤ 6; omega)
        have a57 : gA s56 57 = upZ (gA X 57) n.toNat b := (q_Aa e56 (by decide)).trans (q_AA e54)
        have a58 : gA s56 58 = upZ (gA X 58) n.toNat r64 := by rw [(q_AA e56 : gA s56 58 = _), show gA s54 58 = gA X 58 from q_Aa e54 (by decide)]
        have a49 : gA s56 49 = gA X 49 := (q_Aa e56 (by decide)).trans (q_Aa e54 (by decide))
        have a39 : gA s56 39 = gA X 39 := (q_Aa e56 (by decide)).trans (q_Aa e54 (by decide))
        have a55' : gI s56 55 = gI X 55 := (q_Ai e56).trans (q_Ai e54)
        obtain ⟨e1, e2, e3, e4⟩ := eq49 a49
        have K56 : KS s s56 := KS_t hKX ⟨⟨a39, (q_Aa e56 (by decide)).trans (q_Aa e54 (by decide)), (q_Aa e56 (by decide)).trans (q_Aa e54 (by decide)), (q_Aa e56 (by decide)).trans (q_Aa e54 (by decide))⟩, fun j _ => by rw [a49]⟩
        refine ih r (n + 1) L s56 hR56 K56 (by omega) ?_ (by omega)
        rcases hGX with hGX | ⟨g0, gU, gW, M', TX, PX, OX, kX, yX, OR, YX⟩
        · exact Or.inl (a55'.trans hGX)
        · refine Or.inr ⟨a55'.trans g0, fun u hu hn => by rw [a49]; exact gU u hu hn, by rw [a49]; exact gW, M', TM_eq TX a49 a39, PM_e PX a49 a39 (by omega), ?_, WY_push YX (by omega) a57 a58 a49 OX ⟨by omega, kX⟩ yX⟩
          unfold OB_r at OR ⊢
          rw [e1, e3, e4, show L - (n + 1) = L - n - 1 by omega]; exact OR
      refine wp_rg hr2 (wp_rg (by omega) (wp_if (fun c3 => ?_) (fun c3 => ?_)))
      · refine J92 o hRo KSo' (by omega) ?_
        rcases h69 with ⟨h69, _⟩ | ⟨z0, w0, M', ⟨⟨rq, rN⟩, ⟨o54, o55⟩, ⟨o56, o57⟩⟩, oc, oh, oq, ou, ⟨To, Po⟩, om, omu, omn, omx⟩
        · exact Or.inl h69
        · have nb : b.toNat ≠ r66.toNat := fun z => by rw [← z] at k2; omega
          have nq : b.toNat ≠ r.toNat := fun z => nb (by omega)
          have ob := oh b.toNat nq
          have U1 : UP S o v M M' (L - n - 1) := fun x hx hc hlx => by
            have xy : x ≠ r66.toNat := fun z => by rw [z] at hlx; omega
            have xq : x ≠ r.toNat := fun z => xy (by omega)
            have ox := oh x xq
            refine ⟨⟨oc x hx (by omega) (by omega) xy, ox.1, ox.2.1, ox.2.2.1, fun k hk => (ox.2.2.2 k hk).1⟩, fun u => ?_⟩
            by_cases z : u = v
            · rw [z]; exact omx x xq xy
            · rw [omn u z]
          refine Or.inr ⟨z0, fun u hu hn => by rw [ou u hu]; exact hU u hu hn, by rw [ou v (by omega)]; exact hW, M', TG_D To (dq_0 (by omega)), PM_D Po (dq_0 (by omega)), OB_up hO0 U1 (by omega), by rw [ob.2.2.1]; exact k64.2, by rw [(ob.2.2.2 r64.toNat (by omega)).1, ← y66]; exact c3.symm, ⟨⟨by omega, o54, o55⟩, by rw [o56, k2]; omega, om, omu⟩, WY_up hY (T_6 T) (Fo.2.1 57 (by decide)) (Fo.2.1 58 (by decide)) (ou v (by omega)) U1 (by omega)⟩
      · rcases h69 with ⟨_, h69⟩ | ⟨z0, w0, M', ⟨⟨rq, rN⟩, ⟨o54, o55⟩, ⟨o56, o57⟩⟩, oc, oh, oq, ou, ⟨To, Po⟩, om, omu, omn, omx⟩
        · exact absurd h69 c3
        have nb : b.toNat ≠ r66.toNat := fun z => by rw [← z] at k2; omega
        have nq : b.toNat ≠ r.toNat := fun z => by
          rcases oq with oq | oq
          · exact nb (by omega)
          · rw [← z] at oq; omega
        have ob := oh b.toNat nq
        have U1 : UP S o v M M' (L - n - 1) := fun x hx hc hlx => by
          have xy : x ≠ r66.toNat := fun z => by rw [z] at hlx; omega
          have xq : x ≠ r.toNat := fun z => by
            rcases oq with oq | oq
            · exact xy (by omega)
            · rw [← z] at oq; omega
          have ox := oh x xq
          refine ⟨⟨oc x hx (by omega) (by omega) xy, ox.1, ox.2.1, ox.2.2.1, fun k hk => (ox.2.2.2 k hk).1⟩, fun u => ?_⟩
          by_cases z : u = v
          · rw [z]; exact omx x xq xy
          · rw [omn u z]
        have O1 := OB_up hO0 U1 (by omega)
        have O1' := O1
        obtain ⟨⟨_, cb, vb⟩, lb, mb, mub⟩ := O1
        have eb : (hM o).2.2 b.toNat r64.toNat = r66 := by rw [(ob.2.2.2 r64.toNat (by omega)).1]; exact y66.symm
        refine wp_bn (w_x12_keyAt hRo ha (by omega)) (fun r74 e74 h74 => ?_)
        refine wp_bn (w_x12_setsEntry hRo ha (by omega) h74.2 hr2) (fun s76 e76 h76 => ?_)
        obtain ⟨hR76, u76⟩ := h76
        have F76 : F_x12_setsEntry o s76 := fr_x12_setsEntry e76
        rw [h74.1] at u76
        obtain ⟨iB, iz, T2, P2⟩ := MT_set (b := b.toNat) (k := r64.toNat) To Po (by omega) u76 (F76.2.1 39 (by decide)) (by omega) ha48 (by omega) (by omega) (by omega) (fun u hu hn => by rw [mub u hu hn]; omega) (by rw [ob.2.2.1]; omega) (fun _ => ⟨by rw [KSo.1.1]; omega, by rw [o56, k2, lb]; omega⟩)
        have i2 := (M_set (b := b.toNat) (k := r64.toNat) (by omega) u76).2.2.1.1
        have dd : ∀ x : Nat, x < 48 → d0 x = dq r.toNat x - dq r66.toNat x + (if 0 < (hM o).1 b.toNat ∧ (hM o).2.2 b.toNat r64.toNat = (x : Int) then 1 else 0) - (if 0 < (hM o).1 b.toNat ∧ r = (x : Int) then 1 else 0) := fun x hx => by
          show (0 : Int) = _
          rw [eb]
          have e1 : (if 0 < (hM o).1 b.toNat ∧ r66 = (x : Int) then (1 : Int) else 0) = dq r66.toNat x := by
            rw [← dd_0 k0]
            by_cases z : r66 = (x : Int)
            · rw [if_pos z, if_pos ⟨by omega, z⟩]
            · rw [if_neg z, if_neg (fun w => z w.2)]
          have e2 : (if 0 < (hM o).1 b.toNat ∧ r = (x : Int) then (1 : Int) else 0) = dq r.toNat x := by
            rw [← dd_0 w0]
            by_cases z : r = (x : Int)
            · rw [if_pos z, if_pos ⟨by omega, z⟩]
            · rw [if_neg z, if_neg (fun w => z w.2)]
          rw [e1, e2]; omega
        have K76 : KS s s76 := KS_t KSo' ⟨⟨F76.2.1 39 (by decide), F76.2.1 42 (by decide), F76.2.1 43 (by decide), F76.2.1 44 (by decide)⟩, fun j hj => BX_k iB ha48 hj⟩
        have Y1 := WY_up hY (T_6 T) (Fo.2.1 57 (by decide)) (Fo.2.1 58 (by decide)) (ou v (by omega)) U1 (by omega)
        have Y2 := WY_up Y1 (T_6 To) (F76.2.1 57 (by decide)) (F76.2.1 58 (by decide)) (BX_u iB (by omega)) (UP_BX (v := v) (M := M') iB (l := L - n) (by omega)) (Int.le_refl _)
        refine J92 s76 hR76 K76 (by omega) (Or.inr ⟨(F76.1 55 (by decide)).trans z0, fun u hu hn => by rw [BX_u iB hu, ou u hu]; exact hU u hu hn, by rw [BX_u iB (by omega), ou v (by omega)]; exact hW, M', TG_D T2 dd, PM_D P2 dd, ⟨⟨ha, by rw [BX_c iB]; exact cb, by rw [BX_v iB]; exact vb⟩, by rw [BX_l iB]; exact lb, mb, mub⟩, by rw [iz, ob.2.2.1]; exact k64.2, i2, ⟨⟨by omega, by rw [BX_c iB]; exact o54, by rw [BX_v iB]; exact o55⟩, by rw [BX_l iB, o56, k2]; omega, om, omu⟩, Y2⟩)
    unfold m_x12_removes
    refine wp_rdIn (by omega) (fun y77 e77 => ?_)
    have y77' : gA s 49 v = y77 := by rw [← e77, show p0.toNat = v by omega]
    have rl := TG_root_live (v := v) T0 (fun _ _ => Int.le_refl 0) hv (by rw [rM_v hv]; omega) (by rw [rM_v hv]; omega)
    rw [rM_v hv, y77'] at rl
    have rm := root_mu hv P0 (by omega) (by omega)
    rw [y77'] at rm
    have y48 : y77.toNat < 48 := by omega
    have lv : 0 ≤ (hM s).1 y77.toNat ∧ (hM s).1 y77.toNat ≤ 47 := TG_lev T0 (fun _ _ => Int.le_refl 0) y48 rl.2
    refine wp_bn (mt_owned (M := M0) hR hv T0 P0 hC0 (by omega) hf (by omega) rl.2 rm (own_x hv T0 P0 y48 (Or.inl (by omega)))) (fun q80 e80 h80 => ?_)
    obtain ⟨r, o⟩ := q80
    dsimp only at h80 ⊢
    obtain ⟨hRo, Fo, ko, h80⟩ := h80
    have KSo : KS s o := ⟨⟨Fo.2.1 39 (by decide), Fo.2.1 42 (by decide), Fo.2.1 43 (by decide), Fo.2.1 44 (by decide)⟩, ko⟩
    have o55r : (0 : Int) ≤ gI o 55 ∧ gI o 55 ≤ 1 := hRo.1 55
    refine wp_rg (by omega) (wp_if (fun c2 => ?_) (fun c2 => wp_some ⟨hRo, ko, Or.inl (by omega)⟩))
    rcases h80 with ⟨h80, _⟩ | ⟨z0, w0, M', ⟨⟨rq, rN⟩, ⟨o54, o55⟩, ⟨o56, o57⟩⟩, oc, oh, oq, ou, ⟨To, Po⟩, om, omu, omn, omx⟩
    · omega
    refine wp_inb (by omega) (wp_stn (fun s84 e84 => ?_))
    have hR84 : Rr s84 := e84 ▸ Rr.uAu hRo (by show (-2147483648 : Int) ≤ r ∧ r ≤ 2147483647; omega)
    have u84 : gA s84 49 = upZ (gA o 49) v r := by rw [(q_AA e84 : gA s84 49 = _), show p0.toNat = v by omega]
    have a39 : gA s84 39 = gA o 39 := q_Aa e84 (by decide)
    obtain ⟨T1, P1⟩ := MT_root (q := r) To Po hv u84 a39 (Or.inl ⟨w0, by rw [KSo.1.1]; omega⟩)
    obtain ⟨⟨w1, w2⟩, ⟨w3, w4⟩, _⟩ := M_root hv u84
    have dd : ∀ x : Nat, x < 48 → d0 x = dq r.toNat x - dq y77.toNat x + (if gA o 49 v = (x : Int) then 1 else 0) - (if r = (x : Int) then 1 else 0) := fun x hx => by
      show (0 : Int) = _
      rw [ou v (by omega), y77', dd_0 w0, dd_0 (by omega)]; omega
    have K84 : KS s s84 := KS_t KSo ⟨⟨a39, q_Aa e84 (by decide), q_Aa e84 (by decide), q_Aa e84 (by decide)⟩, fun j hj => by rw [u84, upZ_n (by omega)]⟩
    refine L29 FU r 0 ((hM s).1 y77.toNat) s84 hR84 K84 (by omega) (Or.inr ⟨(q_Ai e84).trans z0, fun u hu hn => by rw [u84, upZ_n hn]; exact ou u hu, by rw [u84, upZ_s]; omega, M', TG_D T1 dd, PM_D P1 dd, ⟨⟨by omega, by rw [w3]; exact o54, by rw [w4]; exact o55⟩, by rw [w1, o56]; omega, om, omu⟩, fun j hj => by omega, by rw [u84, upZ_s, if_pos rfl]⟩) (by have := FU_big; omega)
  exact wp_eq key (fun q eq hq => ⟨hq.1, fr_x12_removes eq, hq.2⟩)
/-! ===== trees of the reference: what is read of them ===== -/
theorem RT_x {s o : MS} (H : RT s) (h : ∀ k, k < 785 → gA o 49 k = gA s 49 k) (h5 : gA o 39 5 = gA s 39 5) (h6 : gA o 39 6 = gA s 39 6) : RT o := by
  obtain ⟨T, M, h1, h2⟩ := H
  have a1 : ∀ p, p < 48 → (hM o).1 p = (hM s).1 p := fun p hp => h (19 + 16 * p) (by omega)
  have a2 : ∀ p, p < 48 → (hM o).2.1 p = (hM s).2.1 p := fun p hp => h (20 + 16 * p) (by omega)
  have a3 : ∀ p, p < 48 → ∀ k, k < 6 → (hM o).2.2 p k = (hM s).2.2 p k ∧ kM o p k = kM s p k := fun p hp k hk => by
    constructor
    · show (if k < 6 then gA o 49 (27 + 16 * p + k) else 0) = if k < 6 then gA s 49 (27 + 16 * p + k) else 0
      rw [if_pos hk, if_pos hk]; exact h _ (by omega)
    · show (if k < 6 then gA o 49 (21 + 16 * p + k) else 0) = if k < 6 then gA s 49 (21 + 16 * p + k) else 0
      rw [if_pos hk, if_pos hk]; exact h _ (by omega)
  have ro : ∀ v, v < 8 → rM o v = rM s v := fun v hv => by rw [rM_v hv, rM_v hv]; exact h v (by omega)
  have rso : ∀ v, v < 8 → rsM o v = rsM s v := fun v hv => by rw [rsM_v hv, rsM_v hv]; exact h (8 + v) (by omega)
  refine ⟨?_, M, fun u hu => ?_, h2⟩
  · have T1 := TG_ext (h' := hM o) (ky' := kM o) (c' := cM o) (sv' := vM o) (r' := rM o) (rs' := rsM o) T a1 a2 a3 (fun p hp => h (17 + 16 * p) (by omega)) (fun p hp => h (18 + 16 * p) (by omega)) ro rso
    unfold TM
    rw [h5, h6]; exact T1
  · rw [h5, h6, h u (by omega)]
    exact TG_ext (h' := hM o) (ky' := kM o) (h1 u hu) a1 a2 a3 (fun _ _ => rfl) (fun _ _ => rfl) (fun _ _ => rfl) (fun _ _ => rfl)
/-- in use, now or in the checkpoint -/
def DW (s : MS) (b : Nat) : Prop := 0 < cM s b ∨ 0 < vM s b
theorem DW_nd {s : MS} {b : Nat} (H : RT s) (hb : b < 48) (hd : DW s b) : (b : Int) < gA s 39 5 ∧ (0 ≤ (hM s).1 b ∧ (hM s).1 b ≤ 47) ∧ (1 ≤ (hM s).2.1 b ∧ (hM s).2.1 b ≤ 6) := by
  have T : TG (hM s) (kM s) (gA s 39 5) (gA s 39 6) (cM s) (vM s) (rM s) (rsM s) (fun _ => 0) (-1) := H.1
  rcases hd with h | h
  · exact ⟨TG_lt T hb h, TG_lev T (fun _ _ => Int.le_refl 0) hb h, T.2.2.1.1 b hb h (by omega), (TG_nd T hb h).2.1.2⟩
  · have S := TG_ss T
    exact ⟨TG_lt S hb h, TG_lev S (fun _ _ => Int.le_refl 0) hb h, S.2.2.1.1 b hb h (by omega), (TG_nd S hb h).2.1.2⟩
theorem DW_kid {s : MS} {b k : Nat} (H : RT s) (hb : b < 48) (hd : DW s b) (hl : 0 < (hM s).1 b) (hk : (k : Int) < (hM s).2.1 b) : (0 ≤ (hM s).2.2 b k ∧ (hM s).2.2 b k < 48) ∧ (hM s).1 ((hM s).2.2 b k).toNat = (hM s).1 b - 1 ∧ DW s ((hM s).2.2 b k).toNat := by
  have T : TG (hM s) (kM s) (gA s 39 5) (gA s 39 6) (cM s) (vM s) (rM s) (rsM s) (fun _ => 0) (-1) := H.1
  have hN := T.1.1
  rcases hd with h | h
  · have q := TG_kid T (fun _ _ => Int.le_refl 0) hb h hl hk
    exact ⟨by omega, q.2.1, Or.inl q.2.2⟩
  · have q := TG_kid (TG_ss T) (fun _ _ => Int.le_refl 0) hb h hl hk
    exact ⟨by omega, q.2.1, Or.inr q.2.2⟩
theorem RT_root {s : MS} {u : Nat} (H : RT s) (hu : u < 16) (h0 : 0 ≤ gA s 49 u) (h1 : gA s 49 u < 254) : gA s 49 u < 48 ∧ DW s (gA s 49 u).toNat ∧ (u < 8 → 0 < cM s (gA s 49 u).toNat) := by
  have T : TG (hM s) (kM s) (gA s 39 5) (gA s 39 6) (cM s) (vM s) (rM s) (rsM s) (fun _ => 0) (-1) := H.1
  have hN := T.1.1
  by_cases h8 : u < 8
  · have q := TG_root_live (v := u) T (fun _ _ => Int.le_refl 0) h8 (by rw [rM_v h8]; exact h0) (by rw [rM_v h8]; exact h1)
    rw [rM_v h8] at q
    exact ⟨by omega, Or.inl q.2, fun _ => q.2⟩
  · have e : rsM s (u - 8) = gA s 49 u := by rw [rsM_v (by omega), show 8 + (u - 8) = u by omega]
    have q := TG_root_live (v := u - 8) (TG_ss T) (fun _ _ => Int.le_refl 0) (by omega) (by rw [e]; exact h0) (by rw [e]; exact h1)
    rw [e] at q
    exact ⟨by omega, Or.inr q.2, fun h => absurd h h8⟩
/-- counts and all others are small -/
theorem RT_bd {s : MS} (H : RT s) {b : Nat} (hb : b < 48) : (0 ≤ cM s b ∧ cM s b ≤ 296) ∧ (0 ≤ vM s b ∧ vM s b ≤ 296) := by
  have T : TG (hM s) (kM s) (gA s 39 5) (gA s 39 6) (cM s) (vM s) (rM s) (rsM s) (fun _ => 0) (-1) := H.1
  have h1 := TG_bd T hb
  have h2 := (T.1.2.1 b hb).1
  exact ⟨by omega, TG_sbd T hb⟩
theorem RT_sz {s : MS} (H : RT s) {b : Nat} (hb : b < 48) : 0 ≤ (hM s).2.1 b ∧ (hM s).2.1 b ≤ 6 := (H.1.1.2.2.2 b hb).1
/-- roots are numbers of blocks, or 254, or 255 -/
def RB_r (s : MS) : Prop := ∀ u, u < 16 → 0 ≤ gA s 49 u ∧ gA s 49 u ≤ 255
theorem RB_w {s o : MS} {v : Nat} (H : RB_r s) (hv : v < 16) (h : RW0 s o v) : RB_r o := fun u hu => by
  by_cases z : u = v
  · rw [z]; have := h.2; omega
  · rw [h.1 u (by omega) z]; exact H u hu
set_option maxHeartbeats 1000000 in
theorem w_x12_valueFrom {p0 : Int} {p1 : Int} {s : MS} (hRs : Rr s) (hp0 : p0 < 254 → (0 ≤ p0 ∧ p0 < 48) ∧ DW s p0.toNat) (hp1 : R2 p0) (hp2 : R2 p1) (hp3 : RT s) : wp (m_x12_valueFrom p0 p1 s) (fun r => (R2 r) ∧ (r = -1 ∨ p0 < 254)) := by
  unfold m_x12_valueFrom
  refine wp_rg (by omega) ?_
  refine wp_if (fun c1 => ?_) (fun c1 => ?_)
  · skip
    have L11 : ∀ (n : Nat) (x2 : Int) (x3 : Int), (x2 = p1) → ((0 ≤ x3 ∧ x3 < 48) ∧ DW s x3.toNat) → ((hM s).1 x3.toNat) < (n : Int) → wp (m_x12_valueFrom_L11 s n x2 x3) (fun r => (R2 r) ∧ (r = -1 ∨ p0 < 254)) := by
      refine fr_ind (fun x2 x3 hv11_0 hv11_1 hm11 => ?_) (fun n11 ih11 x2 x3 hv11_0 hv11_1 hm11 => ?_)
      · exfalso; have k := DW_nd hp3 (by omega) hv11_1.2; omega
      · show wp (m_x12_valueFrom_b11 s (m_x12_valueFrom_L11 s n11) x2 x3) _
        unfold m_x12_valueFrom_b11
        have kd := DW_nd hp3 (by omega) hv11_1.2
        refine wp_bn (w_x12_levelOf hRs (by show 0 ≤ x3 ∧ x3 < 48; omega)) (fun r5 er5 hr5 => ?_)
        obtain ⟨hr5_0, hr5_1⟩ := hr5
        have hr5_0 : r5 = (hM s).1 x3.toNat := hr5_0
        have hr5_1 : R2 r5 := hr5_1
        refine wp_rg (by omega) ?_
        refine wp_if (fun c2 => ?_) (fun c2 => ?_)
        · skip
          refine wp_bn (w_x12_placeIn hRs (by show 0 ≤ x3 ∧ x3 < 48; omega) (by show R2 x2; omega) (by show (0 ≤ (hM s).2.1 x3.toNat ∧ (hM s).2.1 x3.toNat ≤ 6); omega)) (fun r9 er9 hr9 => ?_)
          have hr9_0 := hr9
          have hr9_0 : 0 ≤ r9 ∧ r9 ≤ (hM s).2.1 x3.toNat := hr9_0
          refine wp_bn (w_x12_entriesOf hRs (by show 0 ≤ x3 ∧ x3 < 48; omega)) (fun r11 er11 hr11 => ?_)
          obtain ⟨hr11_0, hr11_1⟩ := hr11
          have hr11_0 : r11 = (hM s).2.1 x3.toNat := hr11_0
          have hr11_1 : R2 r11 := hr11_1
          refine wp_rg (by omega) ?_
          refine wp_rg (by omega) ?_
          refine wp_if (fun c3 => ?_) (fun c3 => ?_)
          · skip
            unfold m_x12_valueFrom_J73
            unfold m_x12_valueFrom_J74
            exact wp_some ⟨by show R2 (-1 : Int); omega, by show (-1 : Int) = -1 ∨ p0 < 254; omega⟩
          · skip
            refine wp_bn (w_x12_keyAt hRs (by show 0 ≤ x3 ∧ x3 < 48; omega) (by show 0 ≤ r9 ∧ r9 < 6; omega)) (fun r16 er16 hr16 => ?_)
            obtain ⟨hr16_0, hr16_1⟩ := hr16
            have hr16_0 : r16 = kM s x3.toNat r9.toNat := hr16_0
            have hr16_1 : R2 r16 := hr16_1
            refine wp_rg (by omega) ?_
            refine wp_rg (by omega) ?_
            refine wp_if (fun c4 => ?_) (fun c4 => ?_)
            · skip
              refine wp_bn (w_x12_valueAt hRs (by show 0 ≤ x3 ∧ x3 < 48; omega) (by show 0 ≤ r9 ∧ r9 < 6; omega)) (fun r21 er21 hr21 => ?_)
              obtain ⟨hr21_0, hr21_1⟩ := hr21
              have hr21_0 : r21 = (hM s).2.2 x3.toNat r9.toNat := hr21_0
              have hr21_1 : R2 r21 := hr21_1
              unfold m_x12_valueFrom_J74
              exact wp_some ⟨by show R2 r21; omega, by show r21 = -1 ∨ p0 < 254; omega⟩
            · skip
              unfold m_x12_valueFrom_J73
              unfold m_x12_valueFrom_J74
              exact wp_some ⟨by show R2 (-1 : Int); omega, by show (-1 : Int) = -1 ∨ p0 < 254; omega⟩
        · skip
          refine wp_bn (w_x12_placeFor hRs (by show 0 ≤ x3 ∧ x3 < 48; omega) (by show R2 x2; omega) (by show (0 ≤ (hM s).2.1 x3.toNat ∧ (hM s).2.1 x3.toNat ≤ 6); omega)) (fun r23 er23 hr23 => ?_)
          have hr23_0 := hr23
          have hr23_0 : 0 ≤ r23 ∧ r23 ≤ 5 ∧ (1 ≤ (hM s).2.1 x3.toNat → r23 < (hM s).2.1 x3.toNat) := hr23_0
          refine wp_bn (w_x12_valueAt hRs (by show 0 ≤ x3 ∧ x3 < 48; omega) (by show 0 ≤ r23 ∧ r23 < 6; omega)) (fun r25 er25 hr25 => ?_)
          obtain ⟨hr25_0, hr25_1⟩ := hr25
          have hr25_0 : r25 = (hM s).2.2 x3.toNat r23.toNat := hr25_0
          have hr25_1 : R2 r25 := hr25_1
          have kk := DW_kid (k := r23.toNat) hp3 (by omega) hv11_1.2 (by omega) (by omega)
          rw [← hr25_0] at kk
          exact ih11 x2 r25 (by show x2 = p1; omega) (⟨kk.1, kk.2.2⟩) (by omega)
    exact L11 FU p1 p0 (by show p1 = p1; omega) (hp0 (by omega)) (by have := FU_big; have := FU_big2; have kd := DW_nd hp3 (b := p0.toNat) (by have := hp0 (by omega); omega) (hp0 (by omega)).2; omega)
  · skip
    exact wp_some ⟨by show R2 (-1 : Int); omega, by show (-1 : Int) = -1 ∨ p0 < 254; omega⟩
set_option maxHeartbeats 1000000 in
theorem w_x12_valueOf {p0 : Int} {p1 : Int} {s : MS} (hRs : Rr s) (hp0 : 0 ≤ p0 ∧ p0 < 8) (hp1 : R2 p1) (hp2 : RT s) (hp3 : 0 ≤ gA s 49 p0.toNat ∧ gA s 49 p0.toNat ≤ 255) : wp (m_x12_valueOf p0 p1 s) (fun r => (R2 r) ∧ (r = -1 ∨ gA s 49 p0.toNat < 254)) := by
  unfold m_x12_valueOf
  refine wp_rdIn (by omega) (fun y1 ey1 => ?_)
  have by1 : (-2147483648 : Int) ≤ y1 ∧ y1 ≤ 2147483647 := ey1 ▸ hRs.2.1 49 _ (by show _ < 906; omega)
  refine wp_bn (w_x12_valueFrom hRs (fun h9 => by have z := RT_root (u := p0.toNat) hp2 (by omega) (by omega) (by omega); rw [ey1] at z; exact ⟨by omega, z.2.1⟩) (by show R2 y1; omega) (by show R2 p1; omega) (hp2)) (fun r3 er3 hr3 => ?_)
  obtain ⟨hr3_0, hr3_1⟩ := hr3
  have hr3_0 : R2 r3 := hr3_0
  have hr3_1 : r3 = -1 ∨ y1 < 254 := hr3_1
  exact wp_some ⟨by show R2 r3; omega, by rw [ey1]; exact hr3_1⟩
set_option maxHeartbeats 4000000 in
theorem w_x12_tries {p0 : Int} {p1 : Int} {p2 : Int} {p3 : Int} {s : MS} (hRs : Rr s) (hp0 : p0 = 2 ∨ p0 = 3) (hp1 : 0 ≤ p1 ∧ p1 < 8) (hp2 : RT s) (hp3 : CE s 0) (hp4 : CE s 1) (hp5 : 0 ≤ gA s 39 5) (hp6 : 3 ≤ gA s 39 6 ∧ gA s 39 6 ≤ 6) (hp7 : ((0 ≤ gA s 49 p1.toNat ∧ gA s 49 p1.toNat < 254) ∨ gA s 49 p1.toNat = 254)) (hp8 : p0 = 2 → (0 ≤ p2 ∧ p2 ≤ 999) ∧ (0 ≤ p3 ∧ p3 ≤ 999)) (hp9 : R2 p2) (hp10 : R2 p3) : wp (m_x12_tries p0 p1 p2 p3 s) (fun q => (Rr q.2) ∧ (q.1 = 0 ∨ q.1 = 1) ∧ (KS s q.2) ∧ (RT q.2) ∧ (RW0 s q.2 p1.toNat) ∧ (q.1 = 0 → ∀ j, gA q.2 49 j = gA s 49 j)) := by
  have J121 : ∀ (s17 : MS), Rr s17 → (KS s s17) → (∀ j : Nat, (j : Int) < 785 → gA s17 59 j = gA s 49 j) → (gI s17 55 = 1 ∨ (gI s17 55 = 0 ∧ RT s17 ∧ RW0 s s17 p1.toNat)) → wp (m_x12_tries_J121 s17) (fun q => (Rr q.2) ∧ (q.1 = 0 ∨ q.1 = 1) ∧ (KS s q.2) ∧ (RT q.2) ∧ (RW0 s q.2 p1.toNat) ∧ (q.1 = 0 → ∀ j, gA q.2 49 j = gA s 49 j)) := by
    intro s17 hRs17 hj121_0 hj121_1 hj121_2
    unfold m_x12_tries_J121
    refine wp_rg (by have : (0 : Int) ≤ gI s17 55 ∧ gI s17 55 ≤ 1 := hRs17.1 55; omega) ?_
    refine wp_if (fun c1 => ?_) (fun c1 => ?_)
    · skip
      exact wp_some ⟨hRs17, by show (1 : Int) = 0 ∨ (1 : Int) = 1; have : (0 : Int) ≤ gI s17 55 ∧ gI s17 55 ≤ 1 := hRs17.1 55; omega, by show KS s s17; exact (hj121_0), by show RT s17; exact ((hj121_2.resolve_left (fun h => by omega)).2.1), by show RW0 s s17 p1.toNat; exact ((hj121_2.resolve_left (fun h => by omega)).2.2), by show (1 : Int) = 0 → ∀ j, gA s17 49 j = gA s 49 j; exact (fun h9 => absurd h9 (by decide))⟩
    · skip
      have L133 : ∀ (n : Nat) (x10 : Int) (s11 : MS), Rr s11 → (0 ≤ x10 ∧ x10 ≤ 785) → (KS s s11) → (∀ j : Nat, (j : Int) < 785 → gA s11 59 j = gA s 49 j) → (∀ j : Nat, (j : Int) < x10 → gA s11 49 j = gA s 49 j) → (785 - x10) < (n : Int) → wp (m_x12_tries_L133 n x10 s11) (fun q => (Rr q.2) ∧ (q.1 = 0 ∨ q.1 = 1) ∧ (KS s q.2) ∧ (RT q.2) ∧ (RW0 s q.2 p1.toNat) ∧ (q.1 = 0 → ∀ j, gA q.2 49 j = gA s 49 j)) := by
        refine fr_ind (fun x10 s11 hRs11 hv133_0 hv133_1 hv133_2 hv133_3 hm133 => ?_) (fun n133 ih133 x10 s11 hRs11 hv133_0 hv133_1 hv133_2 hv133_3 hm133 => ?_)
        · exfalso; omega
        · show wp (m_x12_tries_b133 (m_x12_tries_L133 n133) x10 s11) _
          unfold m_x12_tries_b133
          refine wp_rg (by have : (0 : Int) ≤ gI s17 55 ∧ gI s17 55 ≤ 1 := hRs17.1 55; omega) ?_
          refine wp_if (fun c2 => ?_) (fun c2 => ?_)
          · skip
            have L164 : ∀ (n : Nat) (x1 : Int) (s2 : MS), Rr s2 → (0 ≤ x1 ∧ x1 ≤ 48) → (KS s s2) → (∀ j, gA s2 49 j = gA s 49 j) → (48 - x1) < (n : Int) → wp (m_x12_tries_L164 n x1 s2) (fun q => (Rr q.2) ∧ (q.1 = 0 ∨ q.1 = 1) ∧ (KS s q.2) ∧ (RT q.2) ∧ (RW0 s q.2 p1.toNat) ∧ (q.1 = 0 → ∀ j, gA q.2 49 j = gA s 49 j)) := by
              refine fr_ind (fun x1 s2 hRs2 hv164_0 hv164_1 hv164_2 hm164 => ?_) (fun n164 ih164 x1 s2 hRs2 hv164_0 hv164_1 hv164_2 hm164 => ?_)
              · exfalso; omega
              · show wp (m_x12_tries_b164 (m_x12_tries_L164 n164) x1 s2) _
                unfold m_x12_tries_b164
                refine wp_rg (by have : (0 : Int) ≤ gI s17 55 ∧ gI s17 55 ≤ 1 := hRs17.1 55; omega) ?_
                refine wp_if (fun c3 => ?_) (fun c3 => ?_)
                · skip
                  refine wp_stn (fun s5 es5 => ?_)
                  have hRs5 : Rr s5 := es5 ▸ Rr.uI hRs2 (by show (0 : Int) ≤ (0 : Int) ∧ (0 : Int) ≤ 1; have : (0 : Int) ≤ gI s17 55 ∧ gI s17 55 ≤ 1 := hRs17.1 55; omega)
                  exact wp_some ⟨hRs5, by show (0 : Int) = 0 ∨ (0 : Int) = 1; have : (0 : Int) ≤ gI s17 55 ∧ gI s17 55 ≤ 1 := hRs17.1 55; omega, by show KS s s5; exact (KS_t hv164_1 ⟨⟨(q_Ia es5 : gA s5 39 = gA s2 39), (q_Ia es5 : gA s5 42 = gA s2 42), (q_Ia es5 : gA s5 43 = gA s2 43), (q_Ia es5 : gA s5 44 = gA s2 44)⟩, fun j hj => by rw [(q_Ia es5 : gA s5 49 = gA s2 49)]⟩), by show RT s5; exact (RT_x hp2 (fun k _ => by show gA s5 49 k = gA s 49 k; rw [(q_Ia es5 : gA s5 49 = gA s2 49)]; exact hv164_2 k) (by show gA s5 39 5 = _; rw [((q_Ia es5 : gA s5 39 = gA s2 39)), hv164_1.1.1]) (by show gA s5 39 6 = _; rw [((q_Ia es5 : gA s5 39 = gA s2 39)), hv164_1.1.1])), by show RW0 s s5 p1.toNat; exact (⟨fun u hu hn => by show gA s5 49 u = gA s 49 u; rw [(q_Ia es5 : gA s5 49 = gA s2 49)]; exact hv164_2 u, by show (0 ≤ gA s5 49 p1.toNat ∧ gA s5 49 p1.toNat < 48) ∨ gA s5 49 p1.toNat = 254; rw [((q_Ia es5 : gA s5 49 = gA s2 49)), hv164_2]; rcases hp7 with w | w; (left; have z := RT_root (u := p1.toNat) hp2 (by omega) (by omega) (by omega); omega); (right; exact w)⟩), by show (0 : Int) = 0 → ∀ j, gA s5 49 j = gA s 49 j; exact (fun _ j => by show gA s5 49 j = gA s 49 j; rw [(q_Ia es5 : gA s5 49 = gA s2 49)]; exact hv164_2 j)⟩
                · skip
                  refine wp_rdIn (by have : (0 : Int) ≤ gI s17 55 ∧ gI s17 55 ≤ 1 := hRs17.1 55; omega) (fun y6 ey6 => ?_)
                  have by6 : (0 : Int) ≤ y6 ∧ y6 ≤ 1 := ey6 ▸ hRs2.2.1 60 _ (by show _ < 48; have : (0 : Int) ≤ gI s17 55 ∧ gI s17 55 ≤ 1 := hRs17.1 55; omega)
                  have k6 : (0 : Int) ≤ y6 ∧ y6 ≤ 1 := ey6 ▸ hRs2.2.1 60 _ (by show _ < 48; omega)
                  refine wp_inb (by have : (0 : Int) ≤ gI s17 55 ∧ gI s17 55 ≤ 1 := hRs17.1 55; omega) ?_
                  refine wp_bo (by have : (0 : Int) ≤ gI s17 55 ∧ gI s17 55 ≤ 1 := hRs17.1 55; omega) ?_
                  refine wp_stn (fun s9 es9 => ?_)
                  have hRs9 : Rr s9 := es9 ▸ Rr.uAu hRs2 (by show (0 : Int) ≤ y6 ∧ y6 ≤ 1; have : (0 : Int) ≤ gI s17 55 ∧ gI s17 55 ≤ 1 := hRs17.1 55; omega)
                  exact ih164 (x1 + 1) s9 hRs9 (by show 0 ≤ (x1 + 1) ∧ (x1 + 1) ≤ 48; have : (0 : Int) ≤ gI s17 55 ∧ gI s17 55 ≤ 1 := hRs17.1 55; omega) (KS_t hv164_1 ⟨⟨(q_Aa es9 (by decide) : gA s9 39 = gA s2 39), (q_Aa es9 (by decide) : gA s9 42 = gA s2 42), (q_Aa es9 (by decide) : gA s9 43 = gA s2 43), (q_Aa es9 (by decide) : gA s9 44 = gA s2 44)⟩, fun j hj => by rw [(q_Aa es9 (by decide) : gA s9 49 = gA s2 49)]⟩) (fun j => by rw [(q_Aa es9 (by decide) : gA s9 49 = gA s2 49)]; exact hv164_2 j) (by have : (0 : Int) ≤ gI s17 55 ∧ gI s17 55 ≤ 1 := hRs17.1 55; omega)
            exact L164 FU 0 s11 hRs11 (by show 0 ≤ (0 : Int) ∧ (0 : Int) ≤ 48; have : (0 : Int) ≤ gI s17 55 ∧ gI s17 55 ≤ 1 := hRs17.1 55; omega) (hv133_1) (fun j => by
        by_cases z : j < 785
        · exact hv133_3 j (by omega)
        · exact hv133_1.2 j (by omega)) (by have := FU_big; have := FU_big2; have : (0 : Int) ≤ gI s17 55 ∧ gI s17 55 ≤ 1 := hRs17.1 55; omega)
          · skip
            refine wp_rdIn (by have : (0 : Int) ≤ gI s17 55 ∧ gI s17 55 ≤ 1 := hRs17.1 55; omega) (fun y14 ey14 => ?_)
            have by14 : (-2147483648 : Int) ≤ y14 ∧ y14 ≤ 2147483647 := ey14 ▸ hRs11.2.1 59 _ (by show _ < 785; have : (0 : Int) ≤ gI s17 55 ∧ gI s17 55 ≤ 1 := hRs17.1 55; omega)
            have k14 : y14 = gA s 49 x10.toNat := by rw [← ey14]; exact hv133_2 _ (by omega)
            have k14r : R2 y14 := k14 ▸ R49 hRs (by omega)
            refine wp_inb (by have : (0 : Int) ≤ gI s17 55 ∧ gI s17 55 ≤ 1 := hRs17.1 55; omega) ?_
            refine wp_stn (fun s16 es16 => ?_)
            have hRs16 : Rr s16 := es16 ▸ Rr.uAu hRs11 (by show (-2147483648 : Int) ≤ y14 ∧ y14 ≤ 2147483647; have : (0 : Int) ≤ gI s17 55 ∧ gI s17 55 ≤ 1 := hRs17.1 55; omega)
            exact ih133 (x10 + 1) s16 hRs16 (by show 0 ≤ (x10 + 1) ∧ (x10 + 1) ≤ 785; have : (0 : Int) ≤ gI s17 55 ∧ gI s17 55 ≤ 1 := hRs17.1 55; omega) (KS_t hv133_1 ⟨⟨(q_Aa es16 (by decide) : gA s16 39 = gA s11 39), (q_Aa es16 (by decide) : gA s16 42 = gA s11 42), (q_Aa es16 (by decide) : gA s16 43 = gA s11 43), (q_Aa es16 (by decide) : gA s16 44 = gA s11 44)⟩, fun j hj => by rw [(q_AA es16 : gA s16 49 = _), upZ_n (by omega)]⟩) (fun j hj => by rw [(q_Aa es16 (by decide) : gA s16 59 = gA s11 59)]; exact hv133_2 j hj) (fun j hj => by
          rw [(q_AA es16 : gA s16 49 = _)]
          by_cases z : j = x10.toNat
          · rw [z, upZ_s]; exact k14
          · rw [upZ_n z]; exact hv133_3 j (by omega)) (by have : (0 : Int) ≤ gI s17 55 ∧ gI s17 55 ≤ 1 := hRs17.1 55; omega)
      exact L133 FU 0 s17 hRs17 (by show 0 ≤ (0 : Int) ∧ (0 : Int) ≤ 785; have : (0 : Int) ≤ gI s17 55 ∧ gI s17 55 ≤ 1 := hRs17.1 55; omega) (hj121_0) (hj121_1) (fun j hj => by omega) (by have := FU_big; have := FU_big2; have : (0 : Int) ≤ gI s17 55 ∧ gI s17 55 ≤ 1 := hRs17.1 55; omega)
  have J108 : ∀ (x20 : Int) (x21 : Int) (s22 : MS), Rr s22 → (x20 = p1 ∧ x21 = p2) → (gA s22 49 = gA s 49) → (∀ j : Nat, (j : Int) < 785 → gA s22 59 j = gA s 49 j) → (KS s s22) → (gI s22 55 = 0 → 0 ≤ gA s 49 p1.toNat ∧ gA s 49 p1.toNat < 254) → wp (m_x12_tries_J108 x20 x21 s22) (fun q => (Rr q.2) ∧ (q.1 = 0 ∨ q.1 = 1) ∧ (KS s q.2) ∧ (RT q.2) ∧ (RW0 s q.2 p1.toNat) ∧ (q.1 = 0 → ∀ j, gA q.2 49 j = gA s 49 j)) := by
    intro x20 x21 s22 hRs22 hj108_0 hj108_1 hj108_2 hj108_3 hj108_4
    unfold m_x12_tries_J108
    refine wp_rg (by have : (0 : Int) ≤ gI s22 55 ∧ gI s22 55 ≤ 1 := hRs22.1 55; omega) ?_
    refine wp_if (fun c4 => ?_) (fun c4 => ?_)
    · skip
      refine wp_bn (mt_removes (v := p1.toNat) hRs22 (by show p1.toNat < 8; have : (0 : Int) ≤ gI s22 55 ∧ gI s22 55 ≤ 1 := hRs22.1 55; omega) (by show x20 = (p1.toNat : Int); have : (0 : Int) ≤ gI s22 55 ∧ gI s22 55 ≤ 1 := hRs22.1 55; omega) (RT_x hp2 (fun k _ => by rw [hj108_1]) (by rw [hj108_3.1.1]) (by rw [hj108_3.1.1])) (KS_CE hj108_3 hp3) (by rw [hj108_3.1.1]; exact hp6) (by show gI s22 55 = 0; have : (0 : Int) ≤ gI s22 55 ∧ gI s22 55 ≤ 1 := hRs22.1 55; omega) (by rw [hj108_1]; exact hj108_4 (by omega)) (by show R2 x21; have : (0 : Int) ≤ gI s22 55 ∧ gI s22 55 ≤ 1 := hRs22.1 55; omega)) (fun s26 es26 hs26 => ?_)
      have Fs26 : F_x12_removes s22 s26 := fr_x12_removes es26
      obtain ⟨hRs26, hs26_0, hs26_1, hs26_2⟩ := hs26
      have hs26_0 : F_x12_removes s22 s26 := hs26_0
      have hs26_1 : ∀ j, 785 ≤ j → gA s26 49 j = gA s22 49 j := hs26_1
      have hs26_2 : gI s26 55 = 1 ∨ (gI s26 55 = 0 ∧ RT s26 ∧ RW0 s22 s26 p1.toNat) := hs26_2
      exact J121 s26 hRs26 (KS_t hj108_3 ⟨⟨(Fs26.2.1 39 (by decide)), (Fs26.2.1 42 (by decide)), (Fs26.2.1 43 (by decide)), (Fs26.2.1 44 (by decide))⟩, hs26_1⟩) (fun j hj => by rw [((Fs26.2.1 59 (by decide)))]; exact hj108_2 j hj) (by
      have e49 : gA s22 49 = gA s 49 := hj108_1
      rcases hs26_2 with w | ⟨w0, wr, w1⟩
      · exact Or.inl w
      · exact Or.inr ⟨w0, wr, ⟨fun u hu hn => by rw [w1.1 u hu hn, e49], w1.2⟩⟩)
    · skip
      exact J121 s22 hRs22 (hj108_3) (hj108_2) (Or.inl (by have z : (0 : Int) ≤ gI s22 55 ∧ gI s22 55 ≤ 1 := hRs22.1 55; omega))
  have J82 : ∀ (x27 : Int) (x28 : Int) (x29 : Int) (x30 : Int) (x31 : Int) (s32 : MS), Rr s32 → (x27 = p0 ∧ x28 = p1 ∧ x29 = p2 ∧ x30 = p3) → (x31 = 0 ∨ x31 = 1) → (gA s32 49 = gA s 49 ∧ gA s32 39 = gA s 39 ∧ gA s32 42 = gA s 42 ∧ gA s32 43 = gA s 43 ∧ gA s32 44 = gA s 44) → (∀ j : Nat, (j : Int) < 785 → gA s32 59 j = gA s 49 j) → (p0 = 3 → x31 = 0 → 0 ≤ gA s 49 p1.toNat ∧ gA s 49 p1.toNat < 254) → wp (m_x12_tries_J82 x27 x28 x29 x30 x31 s32) (fun q => (Rr q.2) ∧ (q.1 = 0 ∨ q.1 = 1) ∧ (KS s q.2) ∧ (RT q.2) ∧ (RW0 s q.2 p1.toNat) ∧ (q.1 = 0 → ∀ j, gA q.2 49 j = gA s 49 j)) := by
    intro x27 x28 x29 x30 x31 s32 hRs32 hj82_0 hj82_1 hj82_2 hj82_3 hj82_4
    unfold m_x12_tries_J82
    refine wp_bo (by omega) ?_
    refine wp_stn (fun s34 es34 => ?_)
    have hRs34 : Rr s34 := es34 ▸ Rr.uI hRs32 (by show (0 : Int) ≤ x31 ∧ x31 ≤ 1; omega)
    refine wp_rg (by have : gI s34 55 = x31 := q_II es34; omega) ?_
    refine wp_if (fun c5 => ?_) (fun c5 => ?_)
    · skip
      refine wp_rg (by have : gI s34 55 = x31 := q_II es34; omega) ?_
      refine wp_if (fun c6 => ?_) (fun c6 => ?_)
      · skip
        refine wp_bn (mt_puts (v := p1.toNat) hRs34 (by omega) (by omega) (RT_x hp2 (fun k _ => by rw [((q_Ia es34 : gA s34 49 = gA s32 49)), hj82_2.1]) (by rw [((q_Ia es34 : gA s34 39 = gA s32 39)), hj82_2.2.1]) (by rw [((q_Ia es34 : gA s34 39 = gA s32 39)), hj82_2.2.1])) (CE_eq hp3 (((q_Ia es34 : gA s34 42 = gA s32 42)).trans hj82_2.2.2.1) (((q_Ia es34 : gA s34 43 = gA s32 43)).trans hj82_2.2.2.2.1) (((q_Ia es34 : gA s34 44 = gA s32 44)).trans hj82_2.2.2.2.2)) (CE_eq hp4 (((q_Ia es34 : gA s34 42 = gA s32 42)).trans hj82_2.2.2.1) (((q_Ia es34 : gA s34 43 = gA s32 43)).trans hj82_2.2.2.2.1) (((q_Ia es34 : gA s34 44 = gA s32 44)).trans hj82_2.2.2.2.2)) (by rw [((q_Ia es34 : gA s34 39 = gA s32 39)), hj82_2.2.1]; exact hp5) (by rw [((q_Ia es34 : gA s34 39 = gA s32 39)), hj82_2.2.1]; exact hp6) (by show gI s34 55 = 0; have : gI s34 55 = x31 := q_II es34; omega) (by rw [((q_Ia es34 : gA s34 49 = gA s32 49)), hj82_2.1]; exact hp7) (by show 0 ≤ x29 ∧ x29 ≤ 999; have : gI s34 55 = x31 := q_II es34; omega) (by show 0 ≤ x30 ∧ x30 ≤ 999; have : gI s34 55 = x31 := q_II es34; omega)) (fun s40 es40 hs40 => ?_)
        have Fs40 : F_x12_puts s34 s40 := fr_x12_puts es40
        obtain ⟨hRs40, hs40_0, hs40_1, hs40_2⟩ := hs40
        have hs40_0 : F_x12_puts s34 s40 := hs40_0
        have hs40_1 : ∀ j, 785 ≤ j → gA s40 49 j = gA s34 49 j := hs40_1
        have hs40_2 : gI s40 55 = 1 ∨ (gI s40 55 = 0 ∧ RT s40 ∧ RWn s34 s40 p1.toNat) := hs40_2
        exact J121 s40 hRs40 (KS_t ⟨⟨((q_Ia es34 : gA s34 39 = gA s32 39)).trans hj82_2.2.1, ((q_Ia es34 : gA s34 42 = gA s32 42)).trans hj82_2.2.2.1, ((q_Ia es34 : gA s34 43 = gA s32 43)).trans hj82_2.2.2.2.1, ((q_Ia es34 : gA s34 44 = gA s32 44)).trans hj82_2.2.2.2.2⟩, fun j _ => by rw [((q_Ia es34 : gA s34 49 = gA s32 49)), hj82_2.1]⟩ ⟨⟨(Fs40.2.1 39 (by decide)), (Fs40.2.1 42 (by decide)), (Fs40.2.1 43 (by decide)), (Fs40.2.1 44 (by decide))⟩, hs40_1⟩) (fun j hj => by rw [(((Fs40.2.1 59 (by decide)).trans (q_Ia es34 : gA s34 59 = gA s32 59)))]; exact hj82_3 j hj) (by
      have e49 : gA s34 49 = gA s 49 := (((q_Ia es34 : gA s34 49 = gA s32 49)).trans hj82_2.1)
      rcases hs40_2 with w | ⟨w0, wr, w1⟩
      · exact Or.inl w
      · exact Or.inr ⟨w0, wr, ⟨fun u hu hn => by rw [w1.1 u hu hn, e49], Or.inl w1.2⟩⟩)
      · skip
        exact J108 x28 x29 s34 hRs34 (by show x28 = p1 ∧ x29 = p2; have : gI s34 55 = x31 := q_II es34; omega) (((q_Ia es34 : gA s34 49 = gA s32 49)).trans hj82_2.1) (fun j hj => by rw [(q_Ia es34 : gA s34 59 = gA s32 59)]; exact hj82_3 j hj) (⟨⟨((q_Ia es34 : gA s34 39 = gA s32 39)).trans hj82_2.2.1, ((q_Ia es34 : gA s34 42 = gA s32 42)).trans hj82_2.2.2.1, ((q_Ia es34 : gA s34 43 = gA s32 43)).trans hj82_2.2.2.2.1, ((q_Ia es34 : gA s34 44 = gA s32 44)).trans hj82_2.2.2.2.2⟩, fun j _ => by rw [((q_Ia es34 : gA s34 49 = gA s32 49)), hj82_2.1]⟩) (fun h9 => hj82_4 (by omega) (by have z : gI s34 55 = x31 := q_II es34; omega))
    · skip
      exact J108 x28 x29 s34 hRs34 (by show x28 = p1 ∧ x29 = p2; have : gI s34 55 = x31 := q_II es34; omega) (((q_Ia es34 : gA s34 49 = gA s32 49)).trans hj82_2.1) (fun j hj => by rw [(q_Ia es34 : gA s34 59 = gA s32 59)]; exact hj82_3 j hj) (⟨⟨((q_Ia es34 : gA s34 39 = gA s32 39)).trans hj82_2.2.1, ((q_Ia es34 : gA s34 42 = gA s32 42)).trans hj82_2.2.2.1, ((q_Ia es34 : gA s34 43 = gA s32 43)).trans hj82_2.2.2.2.1, ((q_Ia es34 : gA s34 44 = gA s32 44)).trans hj82_2.2.2.2.2⟩, fun j _ => by rw [((q_Ia es34 : gA s34 49 = gA s32 49)), hj82_2.1]⟩) (fun h9 => hj82_4 (by omega) (by have z : gI s34 55 = x31 := q_II es34; omega))
  unfold m_x12_tries
  have L3 : ∀ (n : Nat) (x64 : Int) (x65 : Int) (x66 : Int) (x67 : Int) (x68 : Int) (s69 : MS), Rr s69 → (x64 = p0 ∧ x65 = p1 ∧ x66 = p2 ∧ x67 = p3) → (0 ≤ x68 ∧ x68 ≤ 785) → (gA s69 49 = gA s 49 ∧ gA s69 39 = gA s 39 ∧ gA s69 42 = gA s 42 ∧ gA s69 43 = gA s 43 ∧ gA s69 44 = gA s 44) → (∀ j : Nat, (j : Int) < x68 → gA s69 59 j = gA s 49 j) → (785 - x68) < (n : Int) → wp (m_x12_tries_L3 n x64 x65 x66 x67 x68 s69) (fun q => (Rr q.2) ∧ (q.1 = 0 ∨ q.1 = 1) ∧ (KS s q.2) ∧ (RT q.2) ∧ (RW0 s q.2 p1.toNat) ∧ (q.1 = 0 → ∀ j, gA q.2 49 j = gA s 49 j)) := by
    refine fr_ind (fun x64 x65 x66 x67 x68 s69 hRs69 hv3_0 hv3_1 hv3_2 hv3_3 hm3 => ?_) (fun n3 ih3 x64 x65 x66 x67 x68 s69 hRs69 hv3_0 hv3_1 hv3_2 hv3_3 hm3 => ?_)
    · exfalso; omega
    · show wp (m_x12_tries_b3 (m_x12_tries_L3 n3) x64 x65 x66 x67 x68 s69) _
      unfold m_x12_tries_b3
      refine wp_rg (by omega) ?_
      refine wp_if (fun c7 => ?_) (fun c7 => ?_)
      · skip
        have L34 : ∀ (n : Nat) (x46 : Int) (x47 : Int) (x48 : Int) (x49 : Int) (x50 : Int) (s51 : MS), Rr s51 → (x46 = p0 ∧ x47 = p1 ∧ x48 = p2 ∧ x49 = p3) → (0 ≤ x50 ∧ x50 ≤ 48) → (gA s51 49 = gA s 49 ∧ gA s51 39 = gA s 39 ∧ gA s51 42 = gA s 42 ∧ gA s51 43 = gA s 43 ∧ gA s51 44 = gA s 44) → (∀ j : Nat, (j : Int) < 785 → gA s51 59 j = gA s 49 j) → (48 - x50) < (n : Int) → wp (m_x12_tries_L34 n x46 x47 x48 x49 x50 s51) (fun q => (Rr q.2) ∧ (q.1 = 0 ∨ q.1 = 1) ∧ (KS s q.2) ∧ (RT q.2) ∧ (RW0 s q.2 p1.toNat) ∧ (q.1 = 0 → ∀ j, gA q.2 49 j = gA s 49 j)) := by
          refine fr_ind (fun x46 x47 x48 x49 x50 s51 hRs51 hv34_0 hv34_1 hv34_2 hv34_3 hm34 => ?_) (fun n34 ih34 x46 x47 x48 x49 x50 s51 hRs51 hv34_0 hv34_1 hv34_2 hv34_3 hm34 => ?_)
          · exfalso; omega
          · show wp (m_x12_tries_b34 (m_x12_tries_L34 n34) x46 x47 x48 x49 x50 s51) _
            unfold m_x12_tries_b34
            refine wp_rg (by omega) ?_
            refine wp_if (fun c8 => ?_) (fun c8 => ?_)
            · skip
              refine wp_rg (by omega) ?_
              refine wp_if (fun c9 => ?_) (fun c9 => ?_)
              · skip
                refine wp_bn (w_x12_valueOf hRs51 (by show 0 ≤ x47 ∧ x47 < 8; omega) (by show R2 x48; omega) (RT_x hp2 (fun k _ => by rw [hv34_2.1]) (by rw [hv34_2.2.1]) (by rw [hv34_2.2.1])) (by rw [hv34_2.1, hv34_0.2.1]; omega)) (fun r57 er57 hr57 => ?_)
                obtain ⟨hr57_0, hr57_1⟩ := hr57
                have hr57_0 : R2 r57 := hr57_0
                have hr57_1 : r57 = -1 ∨ gA s51 49 x47.toNat < 254 := hr57_1
                rw [hv34_2.1, hv34_0.2.1] at hr57_1
                refine wp_rg (by omega) ?_
                refine wp_if (fun c10 => ?_) (fun c10 => ?_)
                · skip
                  exact J82 x46 x47 x48 x49 1 s51 hRs51 (by show x46 = p0 ∧ x47 = p1 ∧ x48 = p2 ∧ x49 = p3; omega) (by show (1 : Int) = 0 ∨ (1 : Int) = 1; omega) (hv34_2) (hv34_3) (fun h9 h8 => by omega)
                · skip
                  unfold m_x12_tries_J81
                  exact J82 x46 x47 x48 x49 0 s51 hRs51 (by show x46 = p0 ∧ x47 = p1 ∧ x48 = p2 ∧ x49 = p3; omega) (by show (0 : Int) = 0 ∨ (0 : Int) = 1; omega) (hv34_2) (hv34_3) (fun h9 h8 => by omega)
              · skip
                unfold m_x12_tries_J81
                exact J82 x46 x47 x48 x49 0 s51 hRs51 (by show x46 = p0 ∧ x47 = p1 ∧ x48 = p2 ∧ x49 = p3; omega) (by show (0 : Int) = 0 ∨ (0 : Int) = 1; omega) (hv34_2) (hv34_3) (fun h9 h8 => by omega)
            · skip
              refine wp_rdIn (by omega) (fun y60 ey60 => ?_)
              have by60 : (0 : Int) ≤ y60 ∧ y60 ≤ 1 := ey60 ▸ hRs51.2.1 54 _ (by show _ < 48; omega)
              have k60 : (0 : Int) ≤ y60 ∧ y60 ≤ 1 := ey60 ▸ hRs51.2.1 54 _ (by show _ < 48; omega)
              refine wp_inb (by omega) ?_
              refine wp_bo (by omega) ?_
              refine wp_stn (fun s63 es63 => ?_)
              have hRs63 : Rr s63 := es63 ▸ Rr.uAu hRs51 (by show (0 : Int) ≤ y60 ∧ y60 ≤ 1; omega)
              exact ih34 x46 x47 x48 x49 (x50 + 1) s63 hRs63 (by show x46 = p0 ∧ x47 = p1 ∧ x48 = p2 ∧ x49 = p3; omega) (by show 0 ≤ (x50 + 1) ∧ (x50 + 1) ≤ 48; omega) (⟨((q_Aa es63 (by decide) : gA s63 49 = gA s51 49)).trans hv34_2.1, ((q_Aa es63 (by decide) : gA s63 39 = gA s51 39)).trans hv34_2.2.1, ((q_Aa es63 (by decide) : gA s63 42 = gA s51 42)).trans hv34_2.2.2.1, ((q_Aa es63 (by decide) : gA s63 43 = gA s51 43)).trans hv34_2.2.2.2.1, ((q_Aa es63 (by decide) : gA s63 44 = gA s51 44)).trans hv34_2.2.2.2.2⟩) (fun j hj => by rw [(q_Aa es63 (by decide) : gA s63 59 = gA s51 59)]; exact hv34_3 j hj) (by omega)
        exact L34 FU x64 x65 x66 x67 0 s69 hRs69 (by show x64 = p0 ∧ x65 = p1 ∧ x66 = p2 ∧ x67 = p3; omega) (by show 0 ≤ (0 : Int) ∧ (0 : Int) ≤ 48; omega) (hv3_2) (fun j hj => hv3_3 j (by omega)) (by have := FU_big; have := FU_big2; omega)
      · skip
        refine wp_rdIn (by omega) (fun y72 ey72 => ?_)
        have by72 : (-2147483648 : Int) ≤ y72 ∧ y72 ≤ 2147483647 := ey72 ▸ hRs69.2.1 49 _ (by show _ < 906; omega)
        have k72 : R2 y72 := ey72 ▸ R49 hRs69 (by omega)
        refine wp_inb (by omega) ?_
        refine wp_stn (fun s74 es74 => ?_)
        have hRs74 : Rr s74 := es74 ▸ Rr.uAu hRs69 (by show (-2147483648 : Int) ≤ y72 ∧ y72 ≤ 2147483647; omega)
        exact ih3 x64 x65 x66 x67 (x68 + 1) s74 hRs74 (by show x64 = p0 ∧ x65 = p1 ∧ x66 = p2 ∧ x67 = p3; omega) (by show 0 ≤ (x68 + 1) ∧ (x68 + 1) ≤ 785; omega) (⟨((q_Aa es74 (by decide) : gA s74 49 = gA s69 49)).trans hv3_2.1, ((q_Aa es74 (by decide) : gA s74 39 = gA s69 39)).trans hv3_2.2.1, ((q_Aa es74 (by decide) : gA s74 42 = gA s69 42)).trans hv3_2.2.2.1, ((q_Aa es74 (by decide) : gA s74 43 = gA s69 43)).trans hv3_2.2.2.2.1, ((q_Aa es74 (by decide) : gA s74 44 = gA s69 44)).trans hv3_2.2.2.2.2⟩) (fun j hj => by
          rw [(q_AA es74 : gA s74 59 = _)]
          by_cases z : j = x68.toNat
          · rw [z, upZ_s, ← ey72, hv3_2.1]
          · rw [upZ_n z]; exact hv3_3 j (by omega)) (by omega)
  exact L3 FU p0 p1 p2 p3 0 s hRs (by show p0 = p0 ∧ p1 = p1 ∧ p2 = p2 ∧ p3 = p3; omega) (by show 0 ≤ (0 : Int) ∧ (0 : Int) ≤ 785; omega) (⟨rfl, rfl, rfl, rfl, rfl⟩) (fun j hj => by omega) (by have := FU_big; have := FU_big2; omega)
/-! ===== checkpoints, copies, drops: trees ===== -/
theorem TG_nil {h : SH} {ky : Nat → Nat → Int} {N E : Int} {q : Int} (hN : N ≤ 48) (hU : US h ky) (hq : 254 ≤ q) : TG h ky N E (fun _ => 0) (fun _ => 0) (sr q) (sr q) (fun _ => 0) (-1) := by
  have ro : RO N (sr q) := fun v _ => by
    unfold sr
    by_cases z : v = 0
    · rw [if_pos z]; omega
    · rw [if_neg z]; omega
  have d : ∀ x, x < 48 → df h (fun _ => 0) (sr q) x = 0 := fun x hx => by
    unfold df rf
    rw [rr_sr, if_neg (by omega), sm_0 (fun p _ => if_neg (Int.lt_irrefl 0))]; rfl
  have w : WN h N (fun _ => 0) := fun p _ => ⟨Int.le_refl 0, fun _ => rfl, fun z => absurd z (Int.lt_irrefl 0)⟩
  exact ⟨⟨hN, w, w, hU⟩, ⟨d, d⟩, ⟨fun p _ z _ => absurd z (Int.lt_irrefl 0), fun p _ z => absurd z (Int.lt_irrefl 0)⟩, ⟨ro, ro⟩, fun p _ z => z.elim (fun w => absurd w (Int.lt_irrefl 0)) (fun w => absurd w (Int.lt_irrefl 0))⟩
/-- blocks as they were, whatever counts and roots are -/
def HX (s o : MS) : Prop := ∀ p, p < 48 → ∀ i, 2 ≤ i → i < 16 → gA o 49 (17 + 16 * p + i) = gA s 49 (17 + 16 * p + i)
theorem HX_h {s o : MS} (H : HX s o) : (∀ p, p < 48 → (hM o).1 p = (hM s).1 p) ∧ (∀ p, p < 48 → (hM o).2.1 p = (hM s).2.1 p) ∧ (∀ p, p < 48 → ∀ k, k < 6 → (hM o).2.2 p k = (hM s).2.2 p k ∧ kM o p k = kM s p k) := by
  refine ⟨fun p hp => ?_, fun p hp => ?_, fun p hp k hk => ⟨?_, ?_⟩⟩
  · have := H p hp 2 (by omega) (by omega)
    show gA o 49 (19 + 16 * p) = gA s 49 (19 + 16 * p)
    rw [show 19 + 16 * p = 17 + 16 * p + 2 by omega]; exact this
  · have := H p hp 3 (by omega) (by omega)
    show gA o 49 (20 + 16 * p) = gA s 49 (20 + 16 * p)
    rw [show 20 + 16 * p = 17 + 16 * p + 3 by omega]; exact this
  · have := H p hp (10 + k) (by omega) (by omega)
    show (if k < 6 then gA o 49 (27 + 16 * p + k) else 0) = if k < 6 then gA s 49 (27 + 16 * p + k) else 0
    rw [if_pos hk, if_pos hk, show 27 + 16 * p + k = 17 + 16 * p + (10 + k) by omega]; exact this
  · have := H p hp (4 + k) (by omega) (by omega)
    show (if k < 6 then gA o 49 (21 + 16 * p + k) else 0) = if k < 6 then gA s 49 (21 + 16 * p + k) else 0
    rw [if_pos hk, if_pos hk, show 21 + 16 * p + k = 17 + 16 * p + (4 + k) by omega]; exact this
theorem TG_hx {s o : MS} {c sv r rs D : Nat → Int} {e : Int} (H : HX s o) (h39 : gA o 39 = gA s 39) (T : TG (hM s) (kM s) (gA s 39 5) (gA s 39 6) c sv r rs D e) : TG (hM o) (kM o) (gA o 39 5) (gA o 39 6) c sv r rs D e := by
  obtain ⟨a, b, d⟩ := HX_h H
  rw [h39]
  exact TG_ext (h' := hM o) (ky' := kM o) T a b d (fun _ _ => rfl) (fun _ _ => rfl) (fun _ _ => rfl) (fun _ _ => rfl)
theorem RT_checks {s o : MS} (H : RT s) (h39 : gA o 39 = gA s 39) (h1 : ∀ i, ¬ (8 ≤ i ∧ i < 16) → (∀ p, p < 48 → i ≠ 18 + 16 * p) → gA o 49 i = gA s 49 i) (h2 : ∀ u, u < 8 → gA o 49 (8 + u) = gA s 49 u) (h3 : ∀ p, p < 48 → gA o 49 (18 + 16 * p) = gA s 49 (17 + 16 * p)) : RT o := by
  have hx : HX s o := fun p hp i hi hi2 => h1 _ (by omega) (fun q _ => by omega)
  obtain ⟨T, M, m1, m2⟩ := H
  refine ⟨?_, fun u => if u < 8 then M u else M (u - 8), fun u hu => ?_, fun u hu x hx2 => ?_⟩
  · have T1 := TG_hx hx h39 T
    have T2 := TG_save (sv' := vM o) (rs' := rsM o) T1 (fun _ _ => rfl) (fun p hp => h3 p hp) (fun v hv => by rw [rsM_v hv, rM_v hv]; exact h2 v hv)
    unfold TM
    refine TG_ext T2 (fun _ _ => rfl) (fun _ _ => rfl) (fun _ _ _ _ => ⟨rfl, rfl⟩) (fun p hp => h1 _ (by omega) (fun q _ => by omega)) (fun _ _ => rfl) (fun v hv => ?_) (fun _ _ => rfl)
    rw [rM_v hv, rM_v hv]; exact h1 v (by omega) (fun q _ => by omega)
  · dsimp only
    by_cases z : u < 8
    · rw [if_pos z, h1 u (by omega) (fun q _ => by omega)]; exact TG_hx hx h39 (m1 u hu)
    · have e : gA o 49 u = gA s 49 (u - 8) := by
        have := h2 (u - 8) (by omega)
        rw [show 8 + (u - 8) = u by omega] at this
        exact this
      rw [if_neg z, e]; exact TG_hx hx h39 (m1 (u - 8) (by omega))
  · dsimp only
    by_cases z : u < 8
    · rw [if_pos z]; exact m2 u hu x hx2
    · rw [if_neg z]; exact m2 (u - 8) (by omega) x hx2
theorem RT_crashes {s o : MS} (H : RT s) (h39 : gA o 39 = gA s 39) (h1 : ∀ i, ¬ i < 8 → (∀ p, p < 48 → i ≠ 17 + 16 * p) → gA o 49 i = gA s 49 i) (h2 : ∀ u, u < 8 → gA o 49 u = gA s 49 (8 + u)) (h3 : ∀ p, p < 48 → gA o 49 (17 + 16 * p) = gA s 49 (18 + 16 * p)) : RT o := by
  have hx : HX s o := fun p hp i hi hi2 => h1 _ (by omega) (fun q _ => by omega)
  obtain ⟨T, M, m1, m2⟩ := H
  refine ⟨?_, fun u => if u < 8 then M (8 + u) else M u, fun u hu => ?_, fun u hu x hx2 => ?_⟩
  · have T1 := TG_hx hx h39 T
    have T2 := TG_back (c' := cM o) (r' := rM o) T1 (fun p hp => h3 p hp) (fun v hv => by rw [rM_v hv, rsM_v hv]; exact h2 v hv)
    unfold TM
    refine TG_ext T2 (fun _ _ => rfl) (fun _ _ => rfl) (fun _ _ _ _ => ⟨rfl, rfl⟩) (fun _ _ => rfl) (fun p hp => h1 _ (by omega) (fun q _ => by omega)) (fun _ _ => rfl) (fun v hv => ?_)
    rw [rsM_v hv, rsM_v hv]; exact h1 (8 + v) (by omega) (fun q _ => by omega)
  · dsimp only
    by_cases z : u < 8
    · rw [if_pos z, h2 u z]; exact TG_hx hx h39 (m1 (8 + u) (by omega))
    · rw [if_neg z, h1 u z (fun q _ => by omega)]; exact TG_hx hx h39 (m1 u hu)
  · dsimp only
    by_cases z : u < 8
    · rw [if_pos z]; exact m2 (8 + u) (by omega) x hx2
    · rw [if_neg z]; exact m2 u hu x hx2
theorem CX_x {s o : MS} (H : CX s o) : HX s o := fun p hp i hi hi2 => H _ (fun q _ => by omega)
/-- a root becomes what another is, that has a count more -/
theorem RT_copy {s o : MS} {v t : Nat} (H : RT s) (hv : v < 8) (ht : t < 8) (h39 : gA o 39 = gA s 39) (hg : gA s 49 t = 255) (hx : HX s o) (hr : gA o 49 t = gA s 49 v) (hu : ∀ u, u < 16 → u ≠ t → gA o 49 u = gA s 49 u) (hs : ∀ p, p < 48 → vM o p = vM s p) (hc : (254 ≤ gA s 49 v ∧ ∀ p, p < 48 → cM o p = cM s p) ∨ ((0 ≤ gA s 49 v ∧ gA s 49 v < 254) ∧ ∀ p, p < 48 → cM o p = upZ (cM s) (gA s 49 v).toNat (cM s (gA s 49 v).toNat + 1) p)) : RT o := by
  have vt_r : v ≠ t ∨ v = t := by omega
  have hvt : v = t → gA s 49 v = 255 := fun z => by rw [z]; exact hg
  have RL := fun h0 h1 => RT_root (u := v) H (by omega) h0 h1
  obtain ⟨T, M, m1, m2⟩ := H
  have hN := T.1.1
  refine ⟨?_, fun u => if u = t then M v else M u, fun u hu2 => ?_, fun u hu2 x hx2 => ?_⟩
  · have ro : ∀ w, w < 8 → rM o w = upZ (rM s) t (gA s 49 v) w := fun w hw => by
      rw [rM_v hw]
      by_cases z : w = t
      · rw [z, upZ_s]; exact hr
      · rw [upZ_n z, rM_v hw]; exact hu w (by omega) z
    have rso : ∀ w, w < 8 → rsM o w = rsM s w := fun w hw => by rw [rsM_v hw, rsM_v hw]; exact hu _ (by omega) (by omega)
    have rt : rM s t = 255 := by rw [rM_v ht]; exact hg
    rcases hc with ⟨q, hc⟩ | ⟨q, hc⟩
    · have T1 := TG_root (v := t) (q := gA s 49 v) T ht (Or.inr (Or.inr q))
      rw [rt] at T1
      have T2 := TG_D (D' := fun _ => 0) T1 (fun x hx => by
        show (0 : Int) = 0 + (if (255 : Int) = (x : Int) then 1 else 0) - (if gA s 49 v = (x : Int) then 1 else 0)
        rw [if_neg (by omega), if_neg (by omega)]; rfl)
      have T3 := TG_hx hx h39 T2
      exact TG_ext T3 (fun _ _ => rfl) (fun _ _ => rfl) (fun _ _ _ _ => ⟨rfl, rfl⟩) hc hs ro rso
    · obtain ⟨r1, r2, r3⟩ := RL q.1 q.2
      have cl := r3 hv
      have nN := TG_lt T (p := (gA s 49 v).toNat) (by omega) cl
      have T1 := TG_inc (y := (gA s 49 v).toNat) T (by omega) cl
      have T2 := TG_root (v := t) (q := gA s 49 v) T1 ht (Or.inl ⟨q.1, by omega⟩)
      rw [rt] at T2
      have T3 := TG_D (D' := fun _ => 0) T2 (fun x hx => by
        show (0 : Int) = 0 + (if x = (gA s 49 v).toNat then 1 else 0) + (if (255 : Int) = (x : Int) then 1 else 0) - (if gA s 49 v = (x : Int) then 1 else 0)
        rw [if_neg (show ¬ (255 : Int) = (x : Int) by omega)]
        by_cases z : gA s 49 v = (x : Int)
        · rw [if_pos z, if_pos (by omega)]; rfl
        · rw [if_neg z, if_neg (by omega)]; rfl)
      have T4 := TG_hx hx h39 T3
      exact TG_ext T4 (fun _ _ => rfl) (fun _ _ => rfl) (fun _ _ _ _ => ⟨rfl, rfl⟩) hc hs ro rso
  · dsimp only
    by_cases z : u = t
    · rw [if_pos z, z, hr]; exact TG_hx hx h39 (m1 v (by omega))
    · rw [if_neg z, hu u hu2 z]; exact TG_hx hx h39 (m1 u hu2)
  · dsimp only
    by_cases z : u = t
    · rw [if_pos z]; exact m2 v (by omega) x hx2
    · rw [if_neg z]; exact m2 u hu2 x hx2
/-- a root is gone, and what it named has fallen -/
theorem RT_drop {s o : MS} {v : Nat} (H : RT s) (hv : v < 8) (h39 : gA o 39 = gA s 39) (hx : HX s o) (hr : gA o 49 v = 255) (hu : ∀ u, u < 16 → u ≠ v → gA o 49 u = gA s 49 u) (hs : ∀ p, p < 48 → vM o p = vM s p) {c : Nat → Int} (hco : ∀ p, p < 48 → cM o p = c p) (hc : (254 ≤ gA s 49 v ∧ ∀ p, p < 48 → c p = cM s p) ∨ ((0 ≤ gA s 49 v ∧ gA s 49 v < 254) ∧ RelI (hM s) (rM s) (cM s) (gA s 49 v) c (fun _ => 0))) : RT o := by
  obtain ⟨T, M, m1, m2⟩ := H
  have hN := T.1.1
  refine ⟨?_, fun u => if u = v then fun _ => 0 else M u, fun u hu2 => ?_, fun u hu2 x hx2 => ?_⟩
  · have ro : ∀ w, w < 8 → rM o w = upZ (rM s) v 255 w := fun w hw => by
      rw [rM_v hw]
      by_cases z : w = v
      · rw [z, upZ_s]; exact hr
      · rw [upZ_n z, rM_v hw]; exact hu w (by omega) z
    have rso : ∀ w, w < 8 → rsM o w = rsM s w := fun w hw => by rw [rsM_v hw, rsM_v hw]; exact hu _ (by omega) (by omega)
    rcases hc with ⟨q, hc⟩ | ⟨q, hc⟩
    · have T1 := TG_root (v := v) (q := 255) T hv (Or.inr (Or.inr (by omega)))
      rw [rM_v hv] at T1
      have T2 := TG_D (D' := fun _ => 0) T1 (fun x hx => by
        show (0 : Int) = 0 + (if gA s 49 v = (x : Int) then 1 else 0) - (if (255 : Int) = (x : Int) then 1 else 0)
        rw [if_neg (by omega), if_neg (by omega)]; rfl)
      have T3 := TG_hx hx h39 T2
      exact TG_ext T3 (fun _ _ => rfl) (fun _ _ => rfl) (fun _ _ _ _ => ⟨rfl, rfl⟩) (fun p hp => (hco p hp).trans (hc p hp)) hs ro rso
    · have T1 := TG_rel T hc
      have T2 := TG_root (v := v) (q := 255) T1 hv (Or.inr (Or.inr (by omega)))
      rw [rM_v hv] at T2
      have T3 := TG_D (D' := fun _ => 0) T2 (fun x hx => by
        show (0 : Int) = 0 - (if (x : Int) = gA s 49 v then 1 else 0) + (if gA s 49 v = (x : Int) then 1 else 0) - (if (255 : Int) = (x : Int) then 1 else 0)
        rw [if_neg (show ¬ (255 : Int) = (x : Int) by omega)]
        by_cases z : gA s 49 v = (x : Int)
        · rw [if_pos z, if_pos z.symm]; rfl
        · rw [if_neg z, if_neg (fun w => z w.symm)]; rfl)
      have T4 := TG_hx hx h39 T3
      exact TG_ext T4 (fun _ _ => rfl) (fun _ _ => rfl) (fun _ _ _ _ => ⟨rfl, rfl⟩) hco hs ro rso
  · dsimp only
    by_cases z : u = v
    · rw [if_pos z, z, hr]
      have G := TG_hx hx h39 (m1 v (by omega))
      exact TG_nil G.1.1 G.1.2.2.2 (by omega)
    · rw [if_neg z, hu u hu2 z]; exact TG_hx hx h39 (m1 u hu2)
  · dsimp only
    by_cases z : u = v
    · rw [if_pos z]; exact (by decide : (0 : Int) ≤ 1)
    · rw [if_neg z]; exact m2 u hu2 x hx2
/-- no block, no root -/
theorem RT_zero {o : MS} (hN : gA o 39 5 ≤ 48) (h0 : ∀ u, u < 16 → gA o 49 u = 255) (h1 : ∀ i, 16 ≤ i → i < 785 → gA o 49 i = 0) : RT o := by
  have hz : ∀ p, p < 48 → (hM o).2.1 p = 0 := fun p hp => h1 (20 + 16 * p) (by omega) (by omega)
  have hU : US (hM o) (kM o) := fun p hp => ⟨by rw [hz p hp]; omega, fun _ k hk => by rw [hz p hp] at hk; omega, fun k hk => by rw [hz p hp] at hk; omega⟩
  refine ⟨?_, fun _ _ => 0, fun u hu => by rw [h0 u hu]; exact TG_nil hN hU (by omega), fun _ _ _ _ => (by decide : (0 : Int) ≤ 1)⟩
  have G := TG_nil (E := gA o 39 6) (q := 255) hN hU (by omega)
  have w : WN (hM o) (gA o 39 5) (fun _ => 0) := G.1.2.1
  have ro : ∀ f : Nat → Int, (∀ v, v < 8 → f v = 255) → RO (gA o 39 5) f := fun f hf v hv => by rw [hf v hv]; omega
  have r1 : ∀ v, v < 8 → rM o v = 255 := fun v hv => by rw [rM_v hv]; exact h0 v (by omega)
  have r2 : ∀ v, v < 8 → rsM o v = 255 := fun v hv => by rw [rsM_v hv]; exact h0 _ (by omega)
  have d : ∀ f : Nat → Int, (∀ v, v < 8 → f v = 255) → ∀ x, x < 48 → df (hM o) (fun _ => 0) f x = 0 := fun f hf x hx => by
    unfold df rf rr
    rw [sm_0 (n := 8) (fun v hv => if_neg (by rw [hf v hv]; omega)), sm_0 (n := 48) (fun p _ => if_neg (Int.lt_irrefl 0))]; rfl
  have T : TG (hM o) (kM o) (gA o 39 5) (gA o 39 6) (fun _ => 0) (fun _ => 0) (rM o) (rsM o) (fun _ => 0) (-1) := ⟨⟨hN, w, w, hU⟩, ⟨d _ r1, d _ r2⟩, ⟨fun p _ z _ => absurd z (Int.lt_irrefl 0), fun p _ z => absurd z (Int.lt_irrefl 0)⟩, ⟨ro _ r1, ro _ r2⟩, fun p _ z => z.elim (fun w => absurd w (Int.lt_irrefl 0)) (fun w => absurd w (Int.lt_irrefl 0))⟩
  exact TG_ext T (fun _ _ => rfl) (fun _ _ => rfl) (fun _ _ _ _ => ⟨rfl, rfl⟩) (fun p hp => h1 _ (by omega) (by omega)) (fun p hp => h1 _ (by omega) (by omega)) (fun _ _ => rfl) (fun _ _ => rfl)
