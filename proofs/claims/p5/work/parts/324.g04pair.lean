/-! ===== no block twice in a tree: a row of zeros and ones for each root, as counts are ===== -/
theorem TG_mix {h : SH} {ky : Nat → Nat → Int} {N E : Int} {c sv r rs c' sv' r' rs' D D' : Nat → Int} {e e' : Int} (H : TG h ky N E c sv r rs D e) (G : TG h ky N E c' sv' r' rs' D' e') : TG h ky N E c sv' r rs' D e := ⟨⟨H.1.1, H.1.2.1, G.1.2.2.1, H.1.2.2.2⟩, ⟨H.2.1.1, G.2.1.2⟩, ⟨H.2.2.1.1, G.2.2.1.2⟩, ⟨H.2.2.2.1.1, G.2.2.2.1.2⟩, fun p hp q => q.elim (fun w => H.2.2.2.2 p hp (Or.inl w)) (fun w => G.2.2.2.2 p hp (Or.inr w))⟩
/-- counts twice -/
theorem TG_cc {h : SH} {ky : Nat → Nat → Int} {N E : Int} {c sv r rs D : Nat → Int} (H : TG h ky N E c sv r rs D (-1)) (hD : ∀ x, x < 48 → D x = 0) : TG h ky N E c c r r D (-1) := ⟨⟨H.1.1, H.1.2.1, H.1.2.1, H.1.2.2.2⟩, ⟨H.2.1.1, fun x hx => by rw [H.2.1.1 x hx]; exact hD x hx⟩, ⟨H.2.2.1.1, fun p hp hc => H.2.2.1.1 p hp hc (by omega)⟩, ⟨H.2.2.2.1.1, H.2.2.2.1.1⟩, fun p hp q => H.2.2.2.2 p hp (Or.inl (q.elim id id))⟩
theorem TG_ss {h : SH} {ky : Nat → Nat → Int} {N E : Int} {c sv r rs D : Nat → Int} {e : Int} (H : TG h ky N E c sv r rs D e) : TG h ky N E sv sv rs rs (fun _ => 0) (-1) := ⟨⟨H.1.1, H.1.2.2.1, H.1.2.2.1, H.1.2.2.2⟩, ⟨H.2.1.2, H.2.1.2⟩, ⟨fun p hp hc _ => H.2.2.1.2 p hp hc, H.2.2.1.2⟩, ⟨H.2.2.2.1.2, H.2.2.2.1.2⟩, fun p hp q => H.2.2.2.2 p hp (Or.inr (q.elim id id))⟩
/-- one is taken out of a row -/
theorem TG_off {h : SH} {ky : Nat → Nat → Int} {N E : Int} {c sv r rs D : Nat → Int} {e : Int} {b : Nat} (H : TG h ky N E c sv r rs D e) (hb : b < 48) (hc : c b = 1) : TG h ky N E (upZ c b 0) sv r rs (fun x => D x - (if x = b then 1 else 0) + en h b (x : Int)) e := by
  obtain ⟨⟨a1, a2, a3, a4⟩, ⟨b1, b2⟩, ⟨d1, d2⟩, e0, f1⟩ := H
  have li : ∀ p, 0 < upZ c b 0 p → 0 < c p := fun p hp => by
    by_cases q : p = b
    · rw [q, upZ_s] at hp; omega
    · rw [upZ_n q] at hp; exact hp
  refine ⟨⟨a1, fun p hp => ?_, a3, a4⟩, ⟨fun x hx => ?_, b2⟩, ⟨fun p hp hpc hpe => d1 p hp (li p hpc) hpe, d2⟩, e0, fun p hp hpc => f1 p hp (hpc.imp (li p) id)⟩
  · by_cases q : p = b
    · subst q
      rw [upZ_s]
      exact ⟨by omega, fun w => rfl, fun w => by omega⟩
    · rw [upZ_n q]; exact a2 p hp
  · dsimp only
    rw [df_cnt hb, b1 x hx, hc, if_pos (show (0 : Int) < 1 by omega), if_neg (show ¬ (0 : Int) < 0 by omega)]
    by_cases q : x = b
    · rw [if_pos q, if_pos q]; omega
    · rw [if_neg q, if_neg q]; omega
theorem sr_0 (q : Int) : sr q 0 = q := if_pos rfl
theorem sr_up (q q' : Int) : upZ (sr q) 0 q' = sr q' := by
  funext v
  unfold upZ sr
  by_cases z : v = 0
  · rw [if_pos z, if_pos z]
  · rw [if_neg z, if_neg z, if_neg z]
theorem sm_ex1 {n : Nat} {f : Nat → Int} (h : sm n f ≠ 0) (hn : ∀ i, i < n → 0 ≤ f i) : ∃ i, i < n ∧ 0 < f i := by
  have := sm_nn hn
  exact sm_ex (by omega)
theorem en_ex {h : SH} {p : Nat} {x : Int} (H : 0 < en h p x) : 0 < h.1 p ∧ ∃ k : Nat, k < 6 ∧ (k : Int) < h.2.1 p ∧ h.2.2 p k = x := by
  unfold en enf at H
  by_cases c : 0 < h.1 p
  · rw [if_pos c] at H
    obtain ⟨k, hk, hk2⟩ := sm_ex H
    refine ⟨c, k, hk, ?_⟩
    by_cases q : (0 : Int) ≤ (k : Int) ∧ (k : Int) < h.2.1 p ∧ h.2.2 p k = x
    · exact q.2
    · rw [if_neg q] at hk2; omega
  · rw [if_neg c] at H; omega
/-- one in the row is the root, or is named by one in the row -/
theorem mu_up {h : SH} {ky : Nat → Nat → Int} {N E : Int} {c sv rs : Nat → Int} {q : Int} {e : Int} {x : Nat} (H : TG h ky N E c sv (sr q) rs (fun _ => 0) e) (hx : x < 48) (hc : 0 < c x) : q = (x : Int) ∨ ∃ p, p < 48 ∧ 0 < c p ∧ 0 < en h p (x : Int) := by
  have d := H.2.1.1 x hx
  unfold df rf at d
  rw [rr_sr] at d
  by_cases z : q = (x : Int)
  · exact Or.inl z
  · rw [if_neg z] at d
    dsimp only at d
    obtain ⟨p, hp, hp2⟩ := sm_ex (n := 48) (f := fun p => if 0 < c p then en h p (x : Int) else 0) (by omega)
    refine Or.inr ⟨p, hp, ?_⟩
    by_cases w : 0 < c p
    · rw [if_pos w] at hp2; exact ⟨w, hp2⟩
    · rw [if_neg w] at hp2; omega
/-- what lies in the tree of a root that is there is in use -/
theorem mu_live {h : SH} {ky : Nat → Nat → Int} {N E : Int} {c sv r rs mu sv' rs' D : Nat → Int} {q : Int} {e e' : Int} (T : TG h ky N E c sv r rs D e) (hD : ∀ x, x < 48 → 0 ≤ D x) (H : TG h ky N E mu sv' (sr q) rs' (fun _ => 0) (-1)) (hr : ∀ x : Nat, x < 48 → q = (x : Int) → 0 < c x) : ∀ x, x < 48 → 0 < mu x → 0 < c x := by
  have key : ∀ (n : Nat) (x : Nat), x < 48 → 0 < mu x → 48 - h.1 x ≤ (n : Int) → 0 < c x := by
    intro n
    induction n with
    | zero =>
      intro x hx hm hn
      have := (TG_lev H (fun _ _ => Int.le_refl 0) hx hm).2
      omega
    | succ n ih =>
      intro x hx hm hn
      rcases mu_up H hx hm with z | ⟨p, hp, hc, hn2⟩
      · exact hr x hx z
      · obtain ⟨hl, k, hk6, hk, hv⟩ := en_ex hn2
        have nd := (TG_nd H hp hc).2.2 hl k hk
        rw [hv] at nd
        have lx : h.1 x = h.1 p - 1 := by
          have := nd.2
          rw [show ((x : Int)).toNat = x by omega] at this
          exact this
        have cp := ih p hp hc (by omega)
        have kd := (TG_kid T hD hp cp hl hk).2.2
        rw [hv, show ((x : Int)).toNat = x by omega] at kd
        exact kd
  intro x hx hm
  have l0 := TG_lev H (fun _ _ => Int.le_refl 0) hx hm
  exact key (48 - h.1 x).toNat x hx hm (by omega)
/-- a block that has one name, and that in a block that isn't in a tree, isn't in that tree -/
theorem mu_own {h : SH} {ky : Nat → Nat → Int} {N E : Int} {c sv r rs mu sv' rs' D : Nat → Int} {q : Int} {e : Int} {a b u : Nat} (T : TG h ky N E c sv r rs D e) (hD : D b = 0) (H : TG h ky N E mu sv' (sr q) rs' (fun _ => 0) (-1)) (hlive : ∀ x, x < 48 → 0 < mu x → 0 < c x) (hb : b < 48) (hc : c b = 1) (hu : u < 8) (hq : r u = q) (ha : a < 48) (hca : 0 < c a) (hma : mu a ≤ 0) (hab : 0 < en h a (b : Int)) : mu b ≤ 0 := by
  by_cases z : 0 < mu b
  · exfalso
    have d := T.2.1.1 b hb
    rw [hD] at d
    unfold df at d
    rcases mu_up H hb z with w | ⟨p, hp, hm, hn⟩
    · have rp := rr_pos (r := r) hu
      rw [hq, w] at rp
      have := rf_two (h := h) (c := c) (r := r) (x := (b : Int)) ha hca (by omega) rp
      omega
    · have cp := hlive p hp hm
      have pa : p ≠ a := fun w => by rw [w] at hm; omega
      have s2 := sm_ge2 (n := 48) (f := fun p => if 0 < c p then en h p (b : Int) else 0) hp ha pa (fun j _ => by
        show 0 ≤ if 0 < c j then en h j (b : Int) else 0
        split
        · exact en_nn h j _
        · exact Int.le_refl 0)
      rw [if_pos cp, if_pos hca] at s2
      unfold rf at d
      have := rr_nn r (b : Int)
      omega
  · omega
/-- a block that has one name, a root's, is in no other root's tree -/
theorem mu_own0 {h : SH} {ky : Nat → Nat → Int} {N E : Int} {c sv r rs mu sv' rs' D : Nat → Int} {q : Int} {e : Int} {b u v : Nat} (T : TG h ky N E c sv r rs D e) (hD : D b = 0) (H : TG h ky N E mu sv' (sr q) rs' (fun _ => 0) (-1)) (hlive : ∀ x, x < 48 → 0 < mu x → 0 < c x) (hb : b < 48) (hc : c b = 1) (hu : u < 8) (hv : v < 8) (huv : u ≠ v) (hq : r u = q) (hr : r v = (b : Int)) : mu b ≤ 0 := by
  by_cases z : 0 < mu b
  · exfalso
    have d := T.2.1.1 b hb
    rw [hD] at d
    unfold df rf at d
    have nn := sm_nn (n := 48) (f := fun p => if 0 < c p then en h p (b : Int) else 0) (fun j _ => by
      show 0 ≤ if 0 < c j then en h j (b : Int) else 0
      split
      · exact en_nn h j _
      · exact Int.le_refl 0)
    rcases mu_up H hb z with w | ⟨p, hp, hm, hn⟩
    · have s2 := sm_ge2 (n := 8) (f := fun v => if r v = (b : Int) then 1 else 0) hu hv huv (fun j _ => by
        show (0 : Int) ≤ if r j = (b : Int) then 1 else 0
        split <;> omega)
      rw [hq, if_pos w, if_pos hr] at s2
      unfold rr at d
      omega
    · have cp := hlive p hp hm
      have s1 := sm_ge (n := 48) (f := fun p => if 0 < c p then en h p (b : Int) else 0) hp (fun j _ => by
        show 0 ≤ if 0 < c j then en h j (b : Int) else 0
        split
        · exact en_nn h j _
        · exact Int.le_refl 0)
      rw [if_pos cp] at s1
      have rp := rr_pos (r := r) hv
      rw [hr] at rp
      omega
  · omega
theorem en_bd (h : SH) (p : Nat) (x : Int) : en h p x ≤ 6 := by
  unfold en enf
  split
  · have := sm_bd (n := 6) (c := 1) (f := fun k : Nat => if (0 : Int) ≤ (k : Int) ∧ (k : Int) < h.2.1 p ∧ h.2.2 p k = x then (1 : Int) else 0) (fun k _ => by split <;> omega)
    omega
  · omega
theorem rf_bd (h : SH) (c r : Nat → Int) (x : Int) : rf h c r x ≤ 296 := by
  have h1 := sm_bd (n := 8) (c := 1) (f := fun v : Nat => if r v = x then (1 : Int) else 0) (fun k _ => by split <;> omega)
  have h2 := sm_bd (n := 48) (c := 6) (f := fun p : Nat => if 0 < c p then en h p x else 0) (fun p _ => by
    split
    · exact en_bd h p x
    · omega)
  unfold rf rr
  omega
theorem TG_bd {h : SH} {ky : Nat → Nat → Int} {N E : Int} {c sv r rs D : Nat → Int} {e : Int} {x : Nat} (H : TG h ky N E c sv r rs D e) (hx : x < 48) : c x ≤ D x + 296 := by
  have h1 := H.2.1.1 x hx
  have h2 := rf_bd h c r (x : Int)
  unfold df at h1
  omega
theorem TG_sbd {h : SH} {ky : Nat → Nat → Int} {N E : Int} {c sv r rs D : Nat → Int} {e : Int} {x : Nat} (H : TG h ky N E c sv r rs D e) (hx : x < 48) : 0 ≤ sv x ∧ sv x ≤ 296 := by
  have h1 := H.2.1.2 x hx
  have h2 := rf_bd h sv rs (x : Int)
  have h3 := (H.1.2.2.1 x hx).1
  unfold df at h1
  omega
/-- the rows of all other roots beside that of one -/
def PM (t : MS) (v : Nat) (M : Nat → Nat → Int) (D : Nat → Int) (e : Int) : Prop := (∀ u, u < 16 → u ≠ v → TG (hM t) (kM t) (gA t 39 5) (gA t 39 6) (M v) (M u) (sr (gA t 49 v)) (sr (gA t 49 u)) D e) ∧ (∀ u, u < 16 → ∀ x, x < 48 → M u x ≤ 1)
def upM (M : Nat → Nat → Int) (v : Nat) (f : Nat → Int) : Nat → Nat → Int := fun u => if u = v then f else M u
theorem upM_s (M : Nat → Nat → Int) (v : Nat) (f : Nat → Int) : upM M v f v = f := if_pos rfl
theorem upM_n {M : Nat → Nat → Int} {v u : Nat} {f : Nat → Int} (h : u ≠ v) : upM M v f u = M u := if_neg h
theorem PM_D {t : MS} {v : Nat} {M : Nat → Nat → Int} {D D' : Nat → Int} {e : Int} (H : PM t v M D e) (hD : ∀ x, x < 48 → D' x = D x) : PM t v M D' e := ⟨fun u hu hn => TG_D (H.1 u hu hn) hD, H.2⟩
theorem PM_eq {t o : MS} {v : Nat} {M : Nat → Nat → Int} {D : Nat → Int} {e : Int} (H : PM t v M D e) (h1 : hM o = hM t) (h2 : kM o = kM t) (h39 : gA o 39 = gA t 39) (hr : ∀ u, u < 16 → gA o 49 u = gA t 49 u) (hv : v < 16) : PM o v M D e := ⟨fun u hu hn => by rw [h1, h2, h39, hr u hu, hr v hv]; exact H.1 u hu hn, H.2⟩
/-- rows of the tree at hand changed by a rule -/
theorem PM_to {t o : MS} {v : Nat} {M : Nat → Nat → Int} {f D D' : Nat → Int} {e e' : Int} {q : Int} (H : PM t v M D e) (h : ∀ u, u < 16 → u ≠ v → TG (hM t) (kM t) (gA t 39 5) (gA t 39 6) (M v) (M u) (sr (gA t 49 v)) (sr (gA t 49 u)) D e → TG (hM o) (kM o) (gA t 39 5) (gA t 39 6) f (M u) (sr q) (sr (gA t 49 u)) D' e') (hf : ∀ x, x < 48 → f x ≤ 1) (h39 : gA o 39 = gA t 39) (hr : ∀ u, u < 16 → u ≠ v → gA o 49 u = gA t 49 u) (hq : gA o 49 v = q) : PM o v (upM M v f) D' e' := by
  refine ⟨fun u hu hn => ?_, fun u hu x hx => ?_⟩
  · rw [upM_s, upM_n hn, h39, hr u hu hn, hq]
    exact h u hu hn (H.1 u hu hn)
  · by_cases z : u = v
    · rw [z, upM_s]; exact hf x hx
    · rw [upM_n z]; exact H.2 u hu x hx
/-- the same, the row of the tree at hand as it was -/
theorem PM_to0 {t o : MS} {v : Nat} {M : Nat → Nat → Int} {D D' : Nat → Int} {e e' : Int} {q : Int} (H : PM t v M D e) (h : ∀ u, u < 16 → u ≠ v → TG (hM t) (kM t) (gA t 39 5) (gA t 39 6) (M v) (M u) (sr (gA t 49 v)) (sr (gA t 49 u)) D e → TG (hM o) (kM o) (gA t 39 5) (gA t 39 6) (M v) (M u) (sr q) (sr (gA t 49 u)) D' e') (h39 : gA o 39 = gA t 39) (hr : ∀ u, u < 16 → u ≠ v → gA o 49 u = gA t 49 u) (hq : gA o 49 v = q) : PM o v M D' e' := by
  refine ⟨fun u hu hn => ?_, H.2⟩
  rw [h39, hr u hu hn, hq]
  exact h u hu hn (H.1 u hu hn)
/-- what holds of the reference's trees between acts -/
def RT (t : MS) : Prop := TM t (fun _ => 0) (-1) ∧ ∃ M : Nat → Nat → Int, (∀ u, u < 16 → TG (hM t) (kM t) (gA t 39 5) (gA t 39 6) (M u) (M u) (sr (gA t 49 u)) (sr (gA t 49 u)) (fun _ => 0) (-1)) ∧ (∀ u, u < 16 → ∀ x, x < 48 → M u x ≤ 1)
theorem RT_PM {t : MS} (v : Nat) (hv : v < 16) (H : RT t) : ∃ M, PM t v M (fun _ => 0) (-1) := by
  obtain ⟨_, M, h1, h2⟩ := H
  exact ⟨M, fun u hu _ => TG_mix (h1 v hv) (h1 u hu), h2⟩
theorem PM_RT {t : MS} {v : Nat} {M : Nat → Nat → Int} (hv : v < 16) (T : TM t (fun _ => 0) (-1)) (H : PM t v M (fun _ => 0) (-1)) : RT t := by
  refine ⟨T, M, fun u hu => ?_, H.2⟩
  by_cases z : u = v
  · rw [z]
    by_cases w : v = 0
    · exact TG_cc (H.1 1 (by omega) (by omega)) (fun _ _ => rfl)
    · exact TG_cc (H.1 0 (by omega) (by omega)) (fun _ _ => rfl)
  · exact TG_ss (H.1 u hu z)
/-- the roots as trees have them -/
theorem rM_v {t : MS} {v : Nat} (hv : v < 8) : rM t v = gA t 49 v := if_pos hv
theorem rsM_v {t : MS} {v : Nat} (hv : v < 8) : rsM t v = gA t 49 (8 + v) := if_pos hv
/-- in use, if in the tree of a root now, or of a root of the checkpoint -/
theorem PM_live {t : MS} {v : Nat} {M : Nat → Nat → Int} {D : Nat → Int} {e : Int} (T : TM t D e) (hD : ∀ x, x < 48 → 0 ≤ D x) (H : PM t v M (fun _ => 0) (-1)) (hv : v < 8) : (∀ u, u < 8 → ∀ x, x < 48 → 0 < M u x → 0 < cM t x) ∧ (∀ u, 8 ≤ u → u < 16 → ∀ x, x < 48 → 0 < M u x → 0 < vM t x) := by
  have T' : TG (hM t) (kM t) (gA t 39 5) (gA t 39 6) (cM t) (vM t) (rM t) (rsM t) D e := T
  refine ⟨fun u hu => ?_, fun u h8 hu => ?_⟩
  · have G : TG (hM t) (kM t) (gA t 39 5) (gA t 39 6) (M u) (M u) (sr (gA t 49 u)) (sr (gA t 49 u)) (fun _ => 0) (-1) := by
      by_cases z : u = v
      · rw [z]; exact TG_cc (H.1 8 (by omega) (by omega)) (fun _ _ => rfl)
      · exact TG_ss (H.1 u (by omega) z)
    refine mu_live T' hD G (e' := e) (fun x hx hq => ?_)
    have := TG_root_live (v := u) T' hD hu (by rw [rM_v hu]; omega) (by rw [rM_v hu]; omega)
    rw [rM_v hu, hq, show ((x : Int)).toNat = x by omega] at this
    exact this.2
  · have G : TG (hM t) (kM t) (gA t 39 5) (gA t 39 6) (M u) (M u) (sr (gA t 49 u)) (sr (gA t 49 u)) (fun _ => 0) (-1) := TG_ss (H.1 u hu (by omega))
    have S' := TG_ss T'
    refine mu_live S' (fun _ _ => Int.le_refl 0) G (e' := e) (fun x hx hq => ?_)
    have r1 : rsM t (u - 8) = gA t 49 u := by rw [rsM_v (by omega), show 8 + (u - 8) = u by omega]
    have := TG_root_live (v := u - 8) S' (fun _ _ => Int.le_refl 0) (by omega) (by rw [r1]; omega) (by rw [r1]; omega)
    rw [r1, hq, show ((x : Int)).toNat = x by omega] at this
    exact this.2
