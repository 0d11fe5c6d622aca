/-! ===== blocks in use now and in the checkpoint; how far counts are off; the one that may be empty ===== -/
/-- all blocks, in use or not -/
def US (h : SH) (ky : Nat → Nat → Int) : Prop := ∀ p, p < 48 → (0 ≤ h.2.1 p ∧ h.2.1 p ≤ 6) ∧ (0 < h.1 p → ∀ k : Nat, (k : Int) < h.2.1 p → 0 ≤ h.2.2 p k ∧ h.2.2 p k < 48) ∧ (∀ k : Nat, (k : Int) < h.2.1 p → 0 ≤ ky p k ∧ ky p k ≤ 999)
def TG (h : SH) (ky : Nat → Nat → Int) (N E : Int) (c sv r rs D : Nat → Int) (e : Int) : Prop :=
  (N ≤ 48 ∧ WN h N c ∧ WN h N sv ∧ US h ky) ∧ ((∀ x, x < 48 → df h c r x = D x) ∧ (∀ x, x < 48 → df h sv rs x = 0)) ∧ ((∀ p, p < 48 → 0 < c p → (p : Int) ≠ e → 1 ≤ h.2.1 p) ∧ Ne h sv) ∧ (RO N r ∧ RO N rs) ∧ (∀ p, p < 48 → (0 < c p ∨ 0 < sv p) → h.2.1 p ≤ E ∧ ∀ k : Nat, (k : Int) < h.2.1 p → 0 ≤ ky p k ∧ ky p k ≤ 999)
/-- nothing but one block is another -/
def SBk (h h' : SH) (ky ky' : Nat → Nat → Int) (b : Nat) : Prop := ∀ q, q < 48 → q ≠ b → h'.1 q = h.1 q ∧ h'.2.1 q = h.2.1 q ∧ ∀ k, k < 6 → h'.2.2 q k = h.2.2 q k ∧ ky' q k = ky q k
theorem SBk_en {h h' : SH} {ky ky' : Nat → Nat → Int} {b : Nat} (hS : SBk h h' ky ky' b) {p : Nat} {x : Int} (hp : p < 48) (hb : p ≠ b) : en h' p x = en h p x := by
  obtain ⟨a1, a2, a3⟩ := hS p hp hb
  unfold en
  exact en_ext (by rw [a1]) a2 (fun k hk _ => (a3 k hk).1)
theorem US_SBk {h h' : SH} {ky ky' : Nat → Nat → Int} {b : Nat} (hU : US h ky) (hS : SBk h h' ky ky' b) (hb : (0 ≤ h'.2.1 b ∧ h'.2.1 b ≤ 6) ∧ (0 < h'.1 b → ∀ k : Nat, (k : Int) < h'.2.1 b → 0 ≤ h'.2.2 b k ∧ h'.2.2 b k < 48) ∧ (∀ k : Nat, (k : Int) < h'.2.1 b → 0 ≤ ky' b k ∧ ky' b k ≤ 999)) : US h' ky' := by
  intro p hp
  by_cases q : p = b
  · rw [q]; exact hb
  · obtain ⟨a1, a2, a3⟩ := hS p hp q
    have u := hU p hp
    rw [a1, a2]
    refine ⟨u.1, fun hl k hk => ?_, fun k hk => ?_⟩
    · rw [(a3 k (by omega)).1]; exact u.2.1 hl k hk
    · rw [(a3 k (by omega)).2]; exact u.2.2 k hk
theorem US_Nd {h : SH} {N : Int} {b : Nat} (hN : N ≤ 48) (hn : Nd h N b) : (0 ≤ h.2.1 b ∧ h.2.1 b ≤ 6) ∧ (0 < h.1 b → ∀ k : Nat, (k : Int) < h.2.1 b → 0 ≤ h.2.2 b k ∧ h.2.2 b k < 48) := ⟨hn.2.1, fun hl k hk => by have := (hn.2.2 hl k hk).1; omega⟩
theorem sv_keep {h h' : SH} {ky ky' : Nat → Nat → Int} {N : Int} {sv rs : Nat → Int} {b : Nat} (hN : N ≤ 48) (hW : WN h N sv) (hD : ∀ x, x < 48 → df h sv rs x = 0) (hb48 : b < 48) (hb : sv b ≤ 0) (hS : SBk h h' ky ky' b) : WN h' N sv ∧ ∀ x, x < 48 → df h' sv rs x = 0 := by
  refine ⟨WN_one hN hW (fun q hq hn => (hS q hq hn).1) (fun q hq hn => (hS q hq hn).2.1) (fun q hq hn k hk => ((hS q hq hn).2.2 k hk).1) (fun h0 => absurd h0 (by omega)) (Or.inr (free_unnamed (r := rs) hN hW hb (by rw [hD b hb48]; exact Int.le_refl 0))), fun x hx => ?_⟩
  rw [df_same (h := h) (fun p hp hc => SBk_en hS hp (fun q => by rw [q] at hc; omega))]
  exact hD x hx
theorem TG_D {h : SH} {ky : Nat → Nat → Int} {N E : Int} {c sv r rs D D' : Nat → Int} {e : Int} (H : TG h ky N E c sv r rs D e) (hD : ∀ x, x < 48 → D' x = D x) : TG h ky N E c sv r rs D' e := ⟨H.1, ⟨fun x hx => by rw [hD x hx]; exact H.2.1.1 x hx, H.2.1.2⟩, H.2.2⟩
theorem TG_e {h : SH} {ky : Nat → Nat → Int} {N E : Int} {c sv r rs D : Nat → Int} (H : TG h ky N E c sv r rs D (-1)) (e : Int) : TG h ky N E c sv r rs D e := ⟨H.1, H.2.1, ⟨fun p hp hc _ => H.2.2.1.1 p hp hc (by omega), H.2.2.1.2⟩, H.2.2.2⟩
theorem TG_ne {h : SH} {ky : Nat → Nat → Int} {N E : Int} {c sv r rs D : Nat → Int} {e : Int} (H : TG h ky N E c sv r rs D e) (he : ∀ p : Nat, p < 48 → (p : Int) = e → 1 ≤ h.2.1 p) : TG h ky N E c sv r rs D (-1) := ⟨H.1, H.2.1, ⟨fun p hp hc _ => by
  by_cases q : (p : Int) = e
  · exact he p hp q
  · exact H.2.2.1.1 p hp hc q, H.2.2.1.2⟩, H.2.2.2⟩
/-- a block that nobody else has in the checkpoint changes -/
theorem TG_chg {h h' : SH} {ky ky' : Nat → Nat → Int} {N E : Int} {c sv r rs D : Nat → Int} {e : Int} {b : Nat} (H : TG h ky N E c sv r rs D e) (hb : b < 48) (hsv : sv b ≤ 0) (hc : 0 < c b) (hS : SBk h h' ky ky' b) (hl : h'.1 b = h.1 b) (hn : Nd h' N b) (hz : h'.2.1 b ≤ E) (hk : ∀ k : Nat, (k : Int) < h'.2.1 b → 0 ≤ ky' b k ∧ ky' b k ≤ 999) (e' : Int) (he : (b : Int) ≠ e' → 1 ≤ h'.2.1 b) (hee : ∀ p : Nat, (p : Int) = e → (p : Int) = e' ∨ p = b) : TG h' ky' N E c sv r rs (fun x => D x + en h b (x : Int) - en h' b (x : Int)) e' := by
  obtain ⟨⟨a1, a2, a3, a4⟩, ⟨b1, b2⟩, ⟨d1, d2⟩, e0, f1⟩ := H
  obtain ⟨s1, s2⟩ := sv_keep a1 a3 b2 hb hsv hS
  refine ⟨⟨a1, WN_one a1 a2 (fun q hq hn => (hS q hq hn).1) (fun q hq hn => (hS q hq hn).2.1) (fun q hq hn k hk => ((hS q hq hn).2.2 k hk).1) (fun _ => hn) (Or.inl hl), s1, US_SBk a4 hS ⟨(US_Nd a1 hn).1, (US_Nd a1 hn).2, hk⟩⟩, ⟨fun x hx => ?_, s2⟩, ⟨fun p hp hpc hpe => ?_, fun p hp hpc => ?_⟩, e0, fun p hp hpc => ?_⟩
  · dsimp only
    rw [df_sh (h := h) hb x (fun p hp hpb _ => SBk_en hS hp hpb), if_pos hc, b1 x hx]; omega
  · by_cases q : p = b
    · subst q; exact he hpe
    · rw [(hS p hp q).2.1]; exact d1 p hp hpc (fun w => (hee p w).elim hpe q)
  · have q : p ≠ b := fun w => by rw [w] at hpc; omega
    rw [(hS p hp q).2.1]; exact d2 p hp hpc
  · by_cases q : p = b
    · subst q; exact ⟨hz, hk⟩
    · obtain ⟨q1, q2⟩ := f1 p hp hpc
      have n6 : h.2.1 p ≤ 6 := hpc.elim (fun w => ((a2 p hp).2.2 w).2.1.2) (fun w => ((a3 p hp).2.2 w).2.1.2)
      rw [(hS p hp q).2.1]
      refine ⟨q1, fun k hk => ?_⟩
      rw [((hS p hp q).2.2 k (by omega)).2]
      exact q2 k hk
theorem TG_take {h h' : SH} {ky ky' : Nat → Nat → Int} {N E : Int} {c sv r rs D : Nat → Int} {b : Nat} (H : TG h ky N E c sv r rs D (-1)) (hD : 0 ≤ D b) (hE : 0 ≤ E) (hbN : (b : Int) < N) (hc : c b = 0) (hsv : sv b = 0) (hS : SBk h h' ky ky' b) (hl : 0 ≤ h'.1 b) (hz : h'.2.1 b = 0) : TG h' ky' N E (upZ c b 1) sv r rs (fun x => D x + (if x = b then 1 else 0)) (b : Int) := by
  obtain ⟨⟨a1, a2, a3, a4⟩, ⟨b1, b2⟩, ⟨d1, d2⟩, e0, f1⟩ := H
  have hb : b < 48 := by omega
  obtain ⟨s1, s2⟩ := sv_keep a1 a3 b2 hb (by omega) hS
  have w1 : WN h' N c := WN_one a1 a2 (fun q hq hn => (hS q hq hn).1) (fun q hq hn => (hS q hq hn).2.1) (fun q hq hn k hk => ((hS q hq hn).2.2 k hk).1) (fun h0 => absurd h0 (by omega)) (Or.inr (free_unnamed (r := r) a1 a2 (by omega) (by rw [b1 b hb]; exact hD)))
  refine ⟨⟨a1, fun p hp => ?_, s1, US_SBk a4 hS ⟨by omega, fun _ k hk => by omega, fun k hk => by omega⟩⟩, ⟨fun x hx => ?_, s2⟩, ⟨fun p hp hpc hpe => ?_, fun p hp hpc => ?_⟩, e0, fun p hp hpc => ?_⟩
  · by_cases q : p = b
    · subst q
      rw [upZ_s]
      exact ⟨by omega, fun w => by omega, fun _ => ⟨hl, by omega, fun _ k hk => by omega⟩⟩
    · rw [upZ_n q]; exact w1 p hp
  · dsimp only
    rw [df_cnt hb, df_same (h := h) (fun p hp hpc => SBk_en hS hp (fun q => by rw [q] at hpc; omega)), b1 x hx, hc, if_neg (show ¬ (0 : Int) < 0 by omega), if_pos (show (0 : Int) < 1 by omega)]
    have e0 : en h' b (x : Int) = 0 := enf_end (by omega)
    rw [e0]
    by_cases q : x = b
    · rw [if_pos q, if_pos q]; omega
    · rw [if_neg q, if_neg q]; omega
  · have q : p ≠ b := fun w => hpe (by omega)
    rw [upZ_n q] at hpc
    rw [(hS p hp q).2.1]; exact d1 p hp hpc (by omega)
  · have q : p ≠ b := fun w => by rw [w] at hpc; omega
    rw [(hS p hp q).2.1]; exact d2 p hp hpc
  · by_cases q : p = b
    · subst q; rw [hz]; exact ⟨hE, fun k hk => by omega⟩
    · rw [upZ_n q] at hpc
      obtain ⟨q1, q2⟩ := f1 p hp hpc
      have n6 : h.2.1 p ≤ 6 := hpc.elim (fun w => ((a2 p hp).2.2 w).2.1.2) (fun w => ((a3 p hp).2.2 w).2.1.2)
      rw [(hS p hp q).2.1]
      refine ⟨q1, fun k hk => ?_⟩
      rw [((hS p hp q).2.2 k (by omega)).2]
      exact q2 k hk
theorem TG_inc {h : SH} {ky : Nat → Nat → Int} {N E : Int} {c sv r rs D : Nat → Int} {e : Int} {y : Nat} (H : TG h ky N E c sv r rs D e) (hy : y < 48) (hc : 0 < c y) : TG h ky N E (upZ c y (c y + 1)) sv r rs (fun x => D x + (if x = y then 1 else 0)) e := by
  obtain ⟨⟨a1, a2, a3, a4⟩, ⟨b1, b2⟩, ⟨d1, d2⟩, e0, f1⟩ := H
  have li : ∀ p, 0 < upZ c y (c y + 1) p → 0 < c p := fun p hp => by
    by_cases q : p = y
    · rw [q]; exact hc
    · rw [upZ_n q] at hp; exact hp
  refine ⟨⟨a1, fun p hp => ?_, a3, a4⟩, ⟨fun x hx => ?_, b2⟩, ⟨fun p hp hpc hpe => d1 p hp (li p hpc) hpe, d2⟩, e0, fun p hp hpc => f1 p hp (hpc.imp (li p) id)⟩
  · by_cases q : p = y
    · subst q
      rw [upZ_s]
      exact ⟨by omega, fun w => by have := (a2 p hp).2.1 w; omega, fun _ => (a2 p hp).2.2 hc⟩
    · rw [upZ_n q]; exact a2 p hp
  · dsimp only
    rw [df_cnt hy, b1 x hx, if_pos hc, if_pos (show 0 < c y + 1 by omega)]
    by_cases q : x = y
    · rw [if_pos q, if_pos q]; omega
    · rw [if_neg q, if_neg q]; omega
theorem TG_kill {h : SH} {ky : Nat → Nat → Int} {N E : Int} {c sv r rs D : Nat → Int} {e : Int} {b : Nat} (H : TG h ky N E c sv r rs D e) (hb : b < 48) (hc : c b = 1) (hz : h.2.1 b = 0) (e' : Int) (hee : ∀ p : Nat, (p : Int) = e → (p : Int) = e' ∨ p = b) : TG h ky N E (upZ c b 0) sv r rs (fun x => D x - (if x = b then 1 else 0)) e' := by
  obtain ⟨⟨a1, a2, a3, a4⟩, ⟨b1, b2⟩, ⟨d1, d2⟩, e0, f1⟩ := H
  have li : ∀ p, 0 < upZ c b 0 p → 0 < c p ∧ p ≠ b := fun p hp => by
    by_cases q : p = b
    · rw [q, upZ_s] at hp; omega
    · rw [upZ_n q] at hp; exact ⟨hp, q⟩
  refine ⟨⟨a1, fun p hp => ?_, a3, a4⟩, ⟨fun x hx => ?_, b2⟩, ⟨fun p hp hpc hpe => d1 p hp (li p hpc).1 (fun w => (hee p w).elim hpe (li p hpc).2), d2⟩, e0, fun p hp hpc => f1 p hp (hpc.imp (fun w => (li p w).1) id)⟩
  · by_cases q : p = b
    · subst q
      rw [upZ_s]
      exact ⟨by omega, fun w => rfl, fun w => by omega⟩
    · rw [upZ_n q]; exact a2 p hp
  · have e0 : en h b (x : Int) = 0 := enf_end (by omega)
    dsimp only
    rw [df_cnt hb, b1 x hx, hc, e0, if_pos (show (0 : Int) < 1 by omega), if_neg (show ¬ (0 : Int) < 0 by omega)]
    by_cases q : x = b
    · rw [if_pos q, if_pos q]; omega
    · rw [if_neg q, if_neg q]; omega
theorem TG_rel {h : SH} {ky : Nat → Nat → Int} {N E : Int} {c c' sv r rs D : Nat → Int} {e b : Int} (H : TG h ky N E c sv r rs D e) (hR : RelI h r c b c' (fun _ => 0)) : TG h ky N E c' sv r rs (fun x => D x - (if (x : Int) = b then 1 else 0)) e := by
  obtain ⟨⟨a1, a2, a3, a4⟩, ⟨b1, b2⟩, ⟨d1, d2⟩, e0, f1⟩ := H
  have li : ∀ p, p < 48 → 0 < c' p → 0 < c p := fun p hp w => by have := hR.1 p hp; omega
  refine ⟨⟨a1, RelI_WN a2 hR, a3, a4⟩, ⟨fun x hx => ?_, b2⟩, ⟨fun p hp hpc hpe => d1 p hp (li p hp hpc) hpe, d2⟩, e0, fun p hp hpc => f1 p hp (hpc.imp (li p hp) id)⟩
  dsimp only
  rw [hR.2 x hx, b1 x hx]
  dsimp only; omega
theorem TG_root {h : SH} {ky : Nat → Nat → Int} {N E : Int} {c sv r rs D : Nat → Int} {e q : Int} {v : Nat} (H : TG h ky N E c sv r rs D e) (hv : v < 8) (hq : (0 ≤ q ∧ q < N) ∨ q < 0 ∨ 254 ≤ q) : TG h ky N E c sv (upZ r v q) rs (fun x => D x + (if r v = (x : Int) then 1 else 0) - (if q = (x : Int) then 1 else 0)) e := by
  obtain ⟨a, ⟨b1, b2⟩, d, ⟨e0, e1⟩, f1⟩ := H
  refine ⟨a, ⟨fun x hx => ?_, b2⟩, d, ⟨fun w hw => ?_, e1⟩, f1⟩
  · rw [df_root hv, b1 x hx]
  · by_cases z : w = v
    · rw [z, upZ_s]; exact hq
    · rw [upZ_n z]; exact e0 w hw
theorem TG_ext {h h' : SH} {ky ky' : Nat → Nat → Int} {N E : Int} {c c' sv sv' r r' rs rs' D : Nat → Int} {e : Int} (H : TG h ky N E c sv r rs D e) (h1 : ∀ p, p < 48 → h'.1 p = h.1 p) (h2 : ∀ p, p < 48 → h'.2.1 p = h.2.1 p) (h3 : ∀ p, p < 48 → ∀ k, k < 6 → h'.2.2 p k = h.2.2 p k ∧ ky' p k = ky p k) (h4 : ∀ p, p < 48 → c' p = c p) (h5 : ∀ p, p < 48 → sv' p = sv p) (h6 : ∀ v, v < 8 → r' v = r v) (h7 : ∀ v, v < 8 → rs' v = rs v) : TG h' ky' N E c' sv' r' rs' D e := by
  obtain ⟨⟨a1, a2, a3, a4⟩, ⟨b1, b2⟩, ⟨d1, d2⟩, ⟨e1, e2⟩, f1⟩ := H
  have h3' : ∀ p, p < 48 → ∀ k, k < 6 → h'.2.2 p k = h.2.2 p k := fun p hp k hk => (h3 p hp k hk).1
  refine ⟨⟨a1, WN_ext a1 a2 h1 h2 h3' h4, WN_ext a1 a3 h1 h2 h3' h5, fun p hp => by
    have u := a4 p hp
    rw [h1 p hp, h2 p hp]
    refine ⟨u.1, fun hl k hk => ?_, fun k hk => ?_⟩
    · rw [h3' p hp k (by omega)]; exact u.2.1 hl k hk
    · rw [(h3 p hp k (by omega)).2]; exact u.2.2 k hk⟩, ⟨fun x hx => ?_, fun x hx => ?_⟩, ⟨fun p hp hc he => ?_, fun p hp hc => ?_⟩, ⟨fun v hv => ?_, fun v hv => ?_⟩, fun p hp hc => ?_⟩
  · rw [df_ext a2 h1 h2 h3' h4 h6 hx]; exact b1 x hx
  · rw [df_ext a3 h1 h2 h3' h5 h7 hx]; exact b2 x hx
  · rw [h2 p hp]; rw [h4 p hp] at hc; exact d1 p hp hc he
  · rw [h2 p hp]; rw [h5 p hp] at hc; exact d2 p hp hc
  · rw [h6 v hv]; exact e1 v hv
  · rw [h7 v hv]; exact e2 v hv
  · rw [h4 p hp, h5 p hp] at hc
    obtain ⟨q1, q2⟩ := f1 p hp hc
    have n6 : h.2.1 p ≤ 6 := hc.elim (fun w => ((a2 p hp).2.2 w).2.1.2) (fun w => ((a3 p hp).2.2 w).2.1.2)
    rw [h2 p hp]
    refine ⟨q1, fun k hk => ?_⟩
    rw [(h3 p hp k (by omega)).2]
    exact q2 k hk
theorem TG_save {h : SH} {ky : Nat → Nat → Int} {N E : Int} {c sv sv' r rs rs' D : Nat → Int} (H : TG h ky N E c sv r rs D (-1)) (hD : ∀ x, x < 48 → D x = 0) (h4 : ∀ p, p < 48 → sv' p = c p) (h5 : ∀ v, v < 8 → rs' v = r v) : TG h ky N E c sv' r rs' D (-1) := by
  obtain ⟨⟨a1, a2, a3, a4⟩, ⟨b1, b2⟩, ⟨d1, d2⟩, ⟨e1, e2⟩, f1⟩ := H
  refine ⟨⟨a1, a2, WN_ext a1 a2 (fun _ _ => rfl) (fun _ _ => rfl) (fun _ _ _ _ => rfl) h4, a4⟩, ⟨b1, fun x hx => ?_⟩, ⟨d1, fun p hp hc => ?_⟩, ⟨e1, fun v hv => ?_⟩, fun p hp hc => ?_⟩
  · rw [df_ext a2 (fun _ _ => rfl) (fun _ _ => rfl) (fun _ _ _ _ => rfl) h4 h5 hx, b1 x hx]; exact hD x hx
  · rw [h4 p hp] at hc; exact d1 p hp hc (by omega)
  · rw [h5 v hv]; exact e1 v hv
  · rw [h4 p hp] at hc; exact f1 p hp (Or.inl (hc.elim id id))
theorem TG_back {h : SH} {ky : Nat → Nat → Int} {N E : Int} {c c' sv r r' rs D : Nat → Int} {e : Int} (H : TG h ky N E c sv r rs D e) (h4 : ∀ p, p < 48 → c' p = sv p) (h5 : ∀ v, v < 8 → r' v = rs v) : TG h ky N E c' sv r' rs (fun _ => 0) (-1) := by
  obtain ⟨⟨a1, a2, a3, a4⟩, ⟨b1, b2⟩, ⟨d1, d2⟩, ⟨e1, e2⟩, f1⟩ := H
  refine ⟨⟨a1, WN_ext a1 a3 (fun _ _ => rfl) (fun _ _ => rfl) (fun _ _ _ _ => rfl) h4, a3, a4⟩, ⟨fun x hx => ?_, b2⟩, ⟨fun p hp hc _ => ?_, d2⟩, ⟨fun v hv => ?_, e2⟩, fun p hp hc => ?_⟩
  · rw [df_ext a3 (fun _ _ => rfl) (fun _ _ => rfl) (fun _ _ _ _ => rfl) h4 h5 hx]; exact b2 x hx
  · rw [h4 p hp] at hc; exact d2 p hp hc
  · rw [h5 v hv]; exact e2 v hv
  · rw [h4 p hp] at hc; exact f1 p hp (Or.inr (hc.elim id id))
/-! ===== what holds of a block in use ===== -/
theorem TG_nd {h : SH} {ky : Nat → Nat → Int} {N E : Int} {c sv r rs D : Nat → Int} {e : Int} {p : Nat} (H : TG h ky N E c sv r rs D e) (hp : p < 48) (hc : 0 < c p) : Nd h N p := (H.1.2.1 p hp).2.2 hc
theorem TG_kid {h : SH} {ky : Nat → Nat → Int} {N E : Int} {c sv r rs D : Nat → Int} {e : Int} {p k : Nat} (H : TG h ky N E c sv r rs D e) (hD : ∀ x, x < 48 → 0 ≤ D x) (hp : p < 48) (hc : 0 < c p) (hl : 0 < h.1 p) (hk : (k : Int) < h.2.1 p) : (0 ≤ h.2.2 p k ∧ h.2.2 p k < N) ∧ h.1 (h.2.2 p k).toNat = h.1 p - 1 ∧ 0 < c (h.2.2 p k).toNat := by
  have nd := (TG_nd H hp hc).2.2 hl k hk
  have hN := H.1.1
  refine ⟨nd.1, nd.2, kid_live (r := r) hN H.1.2.1 hp hc hl hk ?_⟩
  rw [H.2.1.1 _ (by omega)]; exact hD _ (by omega)
theorem TG_lt {h : SH} {ky : Nat → Nat → Int} {N E : Int} {c sv r rs D : Nat → Int} {e : Int} {p : Nat} (H : TG h ky N E c sv r rs D e) (hp : p < 48) (hc : 0 < c p) : (p : Int) < N := by
  have := (H.1.2.1 p hp).2.1
  by_cases q : N ≤ (p : Int)
  · have := this q; omega
  · omega
theorem TG_lev {h : SH} {ky : Nat → Nat → Int} {N E : Int} {c sv r rs D : Nat → Int} {p : Nat} (H : TG h ky N E c sv r rs D (-1)) (hD : ∀ x, x < 48 → 0 ≤ D x) (hp : p < 48) (hc : 0 < c p) : 0 ≤ h.1 p ∧ h.1 p ≤ 47 := ⟨(TG_nd H hp hc).1, lev_le (r := r) H.1.1 H.1.2.1 (fun p hp hc => H.2.2.1.1 p hp hc (by omega)) (fun x hx => by rw [H.2.1.1 x hx]; exact hD x hx) hp hc⟩
theorem TG_root_live {h : SH} {ky : Nat → Nat → Int} {N E : Int} {c sv r rs D : Nat → Int} {e : Int} {v : Nat} (H : TG h ky N E c sv r rs D e) (hD : ∀ x, x < 48 → 0 ≤ D x) (hv : v < 8) (h0 : 0 ≤ r v) (h1 : r v < 254) : r v < N ∧ 0 < c (r v).toNat := by
  have ro := H.2.2.2.1.1 v hv
  have hN := H.1.1
  refine ⟨by omega, root_live (h := h) (N := N) hv h0 ?_⟩
  rw [H.2.1.1 _ (by omega)]; exact hD _ (by omega)
/-- a block that has a count of 1 has no other name -/
theorem rf_two {h : SH} {c r : Nat → Int} {p : Nat} {x : Int} (hp : p < 48) (hc : 0 < c p) (h1 : 1 ≤ en h p x) (h2 : 1 ≤ rr r x) : 2 ≤ rf h c r x := by
  have := rf_en (h := h) (r := r) (x := x) hp hc
  omega
/-! ===== entries are set, put in, cut; halves ===== -/
theorem Nd_b {h h' : SH} {ky ky' : Nat → Nat → Int} {N : Int} {b : Nat} (hN : N ≤ 48) (hS : SBk h h' ky ky' b) (hl : h'.1 b = h.1 b) (h0 : 0 ≤ h.1 b) (hz : 0 ≤ h'.2.1 b ∧ h'.2.1 b ≤ 6) (hk : 0 < h.1 b → ∀ k : Nat, (k : Int) < h'.2.1 b → (0 ≤ h'.2.2 b k ∧ h'.2.2 b k < N) ∧ h.1 (h'.2.2 b k).toNat = h.1 b - 1) : Nd h' N b := by
  refine ⟨by rw [hl]; exact h0, hz, fun hl0 k hkz => ?_⟩
  rw [hl] at hl0 ⊢
  obtain ⟨a, a2⟩ := hk hl0 k hkz
  refine ⟨a, ?_⟩
  have ne : (h'.2.2 b k).toNat ≠ b := fun q => by rw [q] at a2; omega
  rw [(hS _ (by omega) ne).1]; exact a2
theorem TG_set {h h' : SH} {ky ky' : Nat → Nat → Int} {N E : Int} {c sv r rs D : Nat → Int} {e v : Int} {b k : Nat} (H : TG h ky N E c sv r rs D e) (hb : b < 48) (hsv : sv b ≤ 0) (hc : 0 < c b) (hS : SBk h h' ky ky' b) (hl : h'.1 b = h.1 b) (hz : h'.2.1 b = h.2.1 b) (hk : (k : Int) < h.2.1 b) (h1 : ∀ j, j < 6 → j ≠ k → h'.2.2 b j = h.2.2 b j) (h2 : h'.2.2 b k = v) (h3 : ∀ j, j < 6 → ky' b j = ky b j) (hv : 0 < h.1 b → (0 ≤ v ∧ v < N) ∧ h.1 v.toNat = h.1 b - 1) : TG h' ky' N E c sv r rs (fun x => D x + (if 0 < h.1 b ∧ h.2.2 b k = (x : Int) then 1 else 0) - (if 0 < h.1 b ∧ v = (x : Int) then 1 else 0)) e := by
  have nd := TG_nd H hb hc
  have f1 := H.2.2.2.2 b hb (Or.inl hc)
  have n6 := nd.2.1
  have T := TG_chg (h' := h') (ky' := ky') H hb hsv hc hS hl (Nd_b H.1.1 hS hl nd.1 (by omega) (fun h0 j hj => by
    by_cases q : j = k
    · rw [q, h2]; exact hv h0
    · rw [h1 j (by omega) q]; exact nd.2.2 h0 j (by omega))) (by rw [hz]; exact f1.1) (fun j hj => by rw [h3 j (by omega)]; exact f1.2 j (by omega)) e (fun q => by rw [hz]; exact H.2.2.1.1 b hb hc q) (fun p hp => Or.inl hp)
  refine TG_D T (fun x hx => ?_)
  show _ = D x + en h b (x : Int) - en h' b (x : Int)
  rw [en_set (h := h) (h' := h') (p := b) (k := k) (v := v) (x := (x : Int)) hl nd.2.1 hz hk h1 h2]; omega
theorem TG_ins {h h' : SH} {ky ky' : Nat → Nat → Int} {N E : Int} {c sv r rs D : Nat → Int} {e v ke : Int} {b k : Nat} (H : TG h ky N E c sv r rs D e) (hb : b < 48) (hsv : sv b ≤ 0) (hc : 0 < c b) (hS : SBk h h' ky ky' b) (hl : h'.1 b = h.1 b) (hz0 : h.2.1 b ≤ 5) (hzE : h.2.1 b + 1 ≤ E) (hz : h'.2.1 b = h.2.1 b + 1) (hk : (k : Int) ≤ h.2.1 b) (h1 : ∀ j, j < k → h'.2.2 b j = h.2.2 b j ∧ ky' b j = ky b j) (h2 : h'.2.2 b k = v ∧ ky' b k = ke) (h3 : ∀ j, k ≤ j → (j : Int) < h.2.1 b → h'.2.2 b (j + 1) = h.2.2 b j ∧ ky' b (j + 1) = ky b j) (hv : 0 < h.1 b → (0 ≤ v ∧ v < N) ∧ h.1 v.toNat = h.1 b - 1) (hke : 0 ≤ ke ∧ ke ≤ 999) (he : e = -1 ∨ e = (b : Int)) : TG h' ky' N E c sv r rs (fun x => D x - (if 0 < h.1 b ∧ v = (x : Int) then 1 else 0)) (-1) := by
  have nd := TG_nd H hb hc
  have f1 := H.2.2.2.2 b hb (Or.inl hc)
  have n6 := nd.2.1
  have T := TG_chg (h' := h') (ky' := ky') H hb hsv hc hS hl (Nd_b H.1.1 hS hl nd.1 (by omega) (fun h0 j hj => by
    by_cases q : j = k
    · rw [q, h2.1]; exact hv h0
    · by_cases q2 : j < k
      · rw [(h1 j q2).1]; exact nd.2.2 h0 j (by omega)
      · obtain ⟨i, rfl⟩ : ∃ i, j = i + 1 := ⟨j - 1, by omega⟩
        rw [(h3 i (by omega) (by omega)).1]; exact nd.2.2 h0 i (by omega))) (by omega) (fun j hj => by
    by_cases q : j = k
    · rw [q, h2.2]; exact hke
    · by_cases q2 : j < k
      · rw [(h1 j q2).2]; exact f1.2 j (by omega)
      · obtain ⟨i, rfl⟩ : ∃ i, j = i + 1 := ⟨j - 1, by omega⟩
        rw [(h3 i (by omega) (by omega)).2]; exact f1.2 i (by omega)) (-1) (fun _ => by omega) (fun p hp => by omega)
  refine TG_D T (fun x hx => ?_)
  show _ = D x + en h b (x : Int) - en h' b (x : Int)
  rw [en_ins (h := h) (h' := h') (p := b) (k := k) (v := v) (x := (x : Int)) hl (by omega) hz hk (fun j hj => (h1 j hj).1) h2.1 (fun j hj hn => (h3 j hj hn).1)]; omega
theorem TG_del {h h' : SH} {ky ky' : Nat → Nat → Int} {N E : Int} {c sv r rs D : Nat → Int} {b k : Nat} (H : TG h ky N E c sv r rs D (-1)) (hb : b < 48) (hsv : sv b ≤ 0) (hc : 0 < c b) (hS : SBk h h' ky ky' b) (hl : h'.1 b = h.1 b) (hz : h'.2.1 b = h.2.1 b - 1) (hk : (k : Int) < h.2.1 b) (h1 : ∀ j, j < k → h'.2.2 b j = h.2.2 b j ∧ ky' b j = ky b j) (h3 : ∀ j, k ≤ j → (j : Int) < h.2.1 b - 1 → h'.2.2 b j = h.2.2 b (j + 1) ∧ ky' b j = ky b (j + 1)) : TG h' ky' N E c sv r rs (fun x => D x + (if 0 < h.1 b ∧ h.2.2 b k = (x : Int) then 1 else 0)) (b : Int) := by
  have nd := TG_nd H hb hc
  have f1 := H.2.2.2.2 b hb (Or.inl hc)
  have n6 := nd.2.1
  have T := TG_chg (h' := h') (ky' := ky') H hb hsv hc hS hl (Nd_b H.1.1 hS hl nd.1 (by omega) (fun h0 j hj => by
    by_cases q2 : j < k
    · rw [(h1 j q2).1]; exact nd.2.2 h0 j (by omega)
    · rw [(h3 j (by omega) (by omega)).1]; exact nd.2.2 h0 (j + 1) (by omega))) (by omega) (fun j hj => by
    by_cases q2 : j < k
    · rw [(h1 j q2).2]; exact f1.2 j (by omega)
    · rw [(h3 j (by omega) (by omega)).2]; exact f1.2 (j + 1) (by omega)) (b : Int) (fun w => absurd rfl w) (fun p hp => by omega)
  refine TG_D T (fun x hx => ?_)
  show _ = D x + en h b (x : Int) - en h' b (x : Int)
  rw [en_del (h := h) (h' := h') (p := b) (k := k) (x := (x : Int)) hl (by omega) hz hk (fun j hj => (h1 j hj).1) (fun j hj hn => (h3 j hj hn).1)]; omega
/-- an empty block gets entries of another one of its level -/
theorem TG_fill {h h' : SH} {ky ky' : Nat → Nat → Int} {N E : Int} {c sv r rs D : Nat → Int} {b q : Nat} (H : TG h ky N E c sv r rs D (q : Int)) (hb : b < 48) (hcb : 0 < c b) (hq : q < 48) (hsv : sv q ≤ 0) (hc : 0 < c q) (hS : SBk h h' ky ky' q) (hl : h'.1 q = h.1 q) (hlb : h.1 q = h.1 b) (hz0 : h.2.1 q = 0) (hz : 1 ≤ h'.2.1 q ∧ h'.2.1 q ≤ h.2.1 b) (hcp : ∀ j : Nat, (j : Int) < h'.2.1 q → ∃ i : Nat, (i : Int) < h.2.1 b ∧ h'.2.2 q j = h.2.2 b i ∧ ky' q j = ky b i) : TG h' ky' N E c sv r rs (fun x => D x - en h' q (x : Int)) (-1) := by
  have nd := TG_nd H hb hcb
  have ndq := TG_nd H hq hc
  have f1 := H.2.2.2.2 b hb (Or.inl hcb)
  have n6 := nd.2.1
  have T := TG_chg (h' := h') (ky' := ky') H hq hsv hc hS hl (Nd_b H.1.1 hS hl ndq.1 (by omega) (fun h0 j hj => by
    obtain ⟨i, i1, i2, i3⟩ := hcp j hj
    rw [i2, hlb]; exact nd.2.2 (by omega) i i1)) (by omega) (fun j hj => by
    obtain ⟨i, i1, i2, i3⟩ := hcp j hj
    rw [i3]; exact f1.2 i i1) (-1) (fun _ => hz.1) (fun p hp => by omega)
  refine TG_D T (fun x hx => ?_)
  show _ = D x + en h q (x : Int) - en h' q (x : Int)
  have e0 : en h q (x : Int) = 0 := enf_end (by omega)
  rw [e0]; omega
theorem TG_cut {h h' : SH} {ky ky' : Nat → Nat → Int} {N E : Int} {c sv r rs D : Nat → Int} {b : Nat} (H : TG h ky N E c sv r rs D (-1)) (hb : b < 48) (hsv : sv b ≤ 0) (hc : 0 < c b) (hS : SBk h h' ky ky' b) (hl : h'.1 b = h.1 b) (hz : 1 ≤ h'.2.1 b ∧ h'.2.1 b ≤ h.2.1 b) (h1 : ∀ j, j < 6 → h'.2.2 b j = h.2.2 b j ∧ ky' b j = ky b j) : TG h' ky' N E c sv r rs (fun x => D x + en h b (x : Int) - en h' b (x : Int)) (-1) := by
  have nd := TG_nd H hb hc
  have f1 := H.2.2.2.2 b hb (Or.inl hc)
  have n6 := nd.2.1
  exact TG_chg (h' := h') (ky' := ky') H hb hsv hc hS hl (Nd_b H.1.1 hS hl nd.1 (by omega) (fun h0 j hj => by
    rw [(h1 j (by omega)).1]; exact nd.2.2 h0 j (by omega))) (by omega) (fun j hj => by
    rw [(h1 j (by omega)).2]; exact f1.2 j (by omega)) (-1) (fun _ => hz.1) (fun p hp => by omega)
/-! ===== ranges of the class ===== -/
def LO (k : Nat) : Int := if k = 12 then 0 else if k = 61 then 0 else if k = 100 then 0 else if k = 105 then 0 else if k = 106 then 0 else if k = 107 then 0 else if k = 108 then 0 else if k = 109 then 0 else if k = 110 then (-1) else if k = 111 then (-1) else if k = 143 then 0 else if k = 145 then 0 else if k = 220 then 0 else if k = 224 then 0 else if k = 321 then 0 else if k = 322 then 0 else if k = 421 then 0 else if k = 501 then 0 else if k = 580 then 0 else if k = 581 then 0 else if k = 582 then 0 else if k = 583 then 0 else if k = 584 then 0 else if k = 585 then 0 else if k = 741 then 0 else if k = 780 then 0 else if k = 781 then 0 else if k = 782 then 0 else if k = 783 then 0 else if k = 784 then 0 else if k = 785 then 0 else if k = 941 then 0 else if k = 983 then 0 else if k = 1060 then 0 else if k = 1061 then (-70000) else if k = 1240 then 0 else if k = 1241 then (-70000) else if k = 1420 then 0 else if k = 1421 then (-70000) else if k = 1601 then 0 else if k = 1602 then (-1000000) else if k = 1603 then (-1000000) else if k = 1604 then (-1000000) else if k = 1605 then (-1000000) else if k = 1606 then (-1000000) else if k = 1607 then (-1000000) else if k = 1608 then (-1000000) else if k = 9999 then 0 else (-2147483648)
def HI (k : Nat) : Int := if k = 12 then 1 else if k = 61 then 1600 else if k = 100 then 5 else if k = 105 then 3 else if k = 106 then 6 else if k = 107 then 4 else if k = 108 then 1600 else if k = 109 then 1600 else if k = 110 then 179 else if k = 111 then 255 else if k = 143 then 60 else if k = 145 then 20 else if k = 220 then 12 else if k = 224 then 8 else if k = 321 then 1364 else if k = 322 then 100000 else if k = 421 then 48 else if k = 501 then 48 else if k = 580 then 48 else if k = 581 then 6 else if k = 582 then 100 else if k = 583 then 60 else if k = 584 then 8 else if k = 585 then 60 else if k = 741 then 1600 else if k = 780 then 48 else if k = 781 then 6 else if k = 782 then 100 else if k = 783 then 60 else if k = 784 then 8 else if k = 785 then 60 else if k = 941 then 1600 else if k = 983 then 2147483647 else if k = 1060 then 48 else if k = 1061 then 999999 else if k = 1240 then 48 else if k = 1241 then 999999 else if k = 1420 then 48 else if k = 1421 then 16777215 else if k = 1601 then 64 else if k = 1602 then 1000000 else if k = 1603 then 1000000 else if k = 1604 then 1000000 else if k = 1605 then 1000000 else if k = 1606 then 1000000 else if k = 1607 then 1000000 else if k = 1608 then 1000000 else if k = 9999 then 2 else 2147483647
def LOA (k : Nat) : Int := if k = 4 then 0 else if k = 14 then 0 else if k = 17 then 0 else if k = 22 then 0 else if k = 26 then 0 else if k = 32 then (-1) else if k = 38 then (-300) else if k = 42 then (-1) else if k = 48 then (-300) else if k = 50 then 0 else if k = 51 then 0 else if k = 54 then (-1) else if k = 55 then (-1) else if k = 56 then (-1) else if k = 57 then (-1) else if k = 58 then (-257) else if k = 59 then (-257) else if k = 60 then (-2) else if k = 61 then (-2) else if k = 63 then (-1) else if k = 64 then (-1) else if k = 65 then (-1) else if k = 66 then (-1) else if k = 67 then (-257) else if k = 68 then (-257) else if k = 69 then (-2) else if k = 70 then (-2) else if k = 72 then (-1) else if k = 73 then (-1) else if k = 74 then (-1) else if k = 75 then (-1) else if k = 76 then (-257) else if k = 77 then (-257) else if k = 78 then (-2) else if k = 79 then (-2) else if k = 81 then (-1000000) else (-2147483648)
def HIA (k : Nat) : Int := if k = 4 then 255 else if k = 14 then 7 else if k = 17 then 255 else if k = 22 then 47 else if k = 26 then 47 else if k = 32 then 7 else if k = 38 then 1000000 else if k = 42 then 7 else if k = 48 then 1000000 else if k = 50 then 47 else if k = 51 then 5 else if k = 54 then 100000 else if k = 55 then 100000 else if k = 56 then 1000 else if k = 57 then 255 else if k = 58 then 65535 else if k = 59 then 65535 else if k = 60 then 253 else if k = 61 then 253 else if k = 63 then 100000 else if k = 64 then 100000 else if k = 65 then 1000 else if k = 66 then 255 else if k = 67 then 65535 else if k = 68 then 65535 else if k = 69 then 253 else if k = 70 then 253 else if k = 72 then 100000 else if k = 73 then 100000 else if k = 74 then 1000 else if k = 75 then 255 else if k = 76 then 65535 else if k = 77 then 65535 else if k = 78 then 253 else if k = 79 then 253 else if k = 81 then 1000001 else 2147483647
def LNA (k : Nat) : Nat := if k = 4 then 1600 else if k = 6 then 179 else if k = 8 then 60 else if k = 9 then 60 else if k = 10 then 60 else if k = 12 then 12 else if k = 13 then 12 else if k = 14 then 8 else if k = 15 then 8 else if k = 17 then 1364 else if k = 18 then 48 else if k = 19 then 48 else if k = 20 then 48 else if k = 22 then 48 else if k = 23 then 288 else if k = 24 then 288 else if k = 26 then 48 else if k = 27 then 288 else if k = 28 then 288 else if k = 30 then 48 else if k = 31 then 60 else if k = 32 then 60 else if k = 33 then 60 else if k = 34 then 60 else if k = 35 then 3 else if k = 36 then 3 else if k = 38 then 1600 else if k = 40 then 48 else if k = 41 then 60 else if k = 42 then 60 else if k = 43 then 60 else if k = 44 then 60 else if k = 45 then 3 else if k = 46 then 3 else if k = 48 then 1600 else if k = 50 then 48 else if k = 51 then 48 else if k = 52 then 48 else if k = 54 then 48 else if k = 55 then 48 else if k = 56 then 48 else if k = 57 then 48 else if k = 58 then 288 else if k = 59 then 288 else if k = 60 then 8 else if k = 61 then 8 else if k = 63 then 48 else if k = 64 then 48 else if k = 65 then 48 else if k = 66 then 48 else if k = 67 then 288 else if k = 68 then 288 else if k = 69 then 8 else if k = 70 then 8 else if k = 72 then 48 else if k = 73 then 48 else if k = 74 then 48 else if k = 75 then 48 else if k = 76 then 288 else if k = 77 then 288 else if k = 78 then 8 else if k = 79 then 8 else if k = 81 then 64 else 0
def Rg (s : MS) : Prop := (∀ k, LO k ≤ gI s k ∧ gI s k ≤ HI k) ∧ (∀ k j, j < LNA k → LOA k ≤ gA s k j ∧ gA s k j ≤ HIA k) ∧ (∀ k, R8 (gL s k)) ∧ (∀ k j, R8 (gB s k j))
theorem Rg.uI {s : MS} {k : Nat} {v : Int} (h : Rg s) (hv : LO k ≤ v ∧ v ≤ HI k) : Rg (sI s k v) := by
  refine ⟨fun j => ?_, h.2.1, h.2.2.1, h.2.2.2⟩
  rw [gI_sI]
  by_cases e : j = k
  · rw [if_pos e, e]; exact hv
  · rw [if_neg e]; exact h.1 j
theorem Rg.uA {s : MS} {k : Nat} {f : Nat → Int} (h : Rg s) (hv : ∀ j, j < LNA k → LOA k ≤ f j ∧ f j ≤ HIA k) : Rg (sA s k f) := by
  refine ⟨h.1, fun j i hi => ?_, h.2.2.1, h.2.2.2⟩
  rw [gA_sA]
  by_cases e : j = k
  · rw [if_pos e]; subst e; exact hv i hi
  · rw [if_neg e]; exact h.2.1 j i hi
theorem Rg.uAu {s : MS} {k : Nat} {i : Nat} {v : Int} (h : Rg s) (hv : LOA k ≤ v ∧ v ≤ HIA k) : Rg (sA s k (upZ (gA s k) i v)) := by
  refine h.uA (fun j hj => ?_)
  by_cases e : j = i
  · rw [e, upZ_s]; exact hv
  · rw [upZ_n e]; exact h.2.1 k j hj
theorem Rg.uL {s : MS} {k : Nat} {v : Int} (h : Rg s) (hv : R8 v) : Rg (sL s k v) := by
  refine ⟨h.1, h.2.1, fun j => ?_, h.2.2.2⟩
  rw [gL_sL]
  by_cases e : j = k
  · rw [if_pos e]; exact hv
  · rw [if_neg e]; exact h.2.2.1 j
theorem Rg.uB {s : MS} {k : Nat} {f : Nat → Int} (h : Rg s) (hv : ∀ j, R8 (f j)) : Rg (sB s k f) := by
  refine ⟨h.1, h.2.1, h.2.2.1, fun j i => ?_⟩
  rw [gB_sB]
  by_cases e : j = k
  · rw [if_pos e]; exact hv i
  · rw [if_neg e]; exact h.2.2.2 j i
theorem Rg.uBu {s : MS} {k : Nat} {i : Nat} {v : Int} (h : Rg s) (hv : R8 v) : Rg (sB s k (upZ (gB s k) i v)) := by
  refine h.uB (fun j => ?_)
  by_cases e : j = i
  · rw [e, upZ_s]; exact hv
  · rw [upZ_n e]; exact h.2.2.2 k j
theorem and_b (x : Int) : 0 ≤ andZ x 255 ∧ andZ x 255 ≤ 255 := by
  have h : (i2 x &&& i2 255) = Int32.ofBitVec ((i2 x).toBitVec &&& 255#32) := rfl
  unfold andZ
  rw [h]
  have h2 : (Int32.ofBitVec ((i2 x).toBitVec &&& 255#32)).toInt = ((i2 x).toBitVec &&& 255#32).toInt := rfl
  rw [h2]
  have h3 : ((i2 x).toBitVec &&& 255#32).toNat ≤ 255 := by
    rw [BitVec.toNat_and]
    exact Nat.and_le_right
  rw [BitVec.toInt_eq_toNat_of_lt (by omega)]
  omega
/-! ===== a tree in which no block comes twice, and how it is walked ===== -/
def sr (q : Int) : Nat → Int := fun v => if v = 0 then q else -5
theorem rr_sr (q : Int) (x : Nat) : rr (sr q) (x : Int) = if q = (x : Int) then 1 else 0 := by
  unfold rr
  have e : sm 8 (fun v => if sr q v = (x : Int) then (1 : Int) else 0) = sm 1 (fun v => if sr q v = (x : Int) then (1 : Int) else 0) := by
    show ((((((((0 : Int) + (if sr q 0 = (x : Int) then 1 else 0)) + (if sr q 1 = (x : Int) then 1 else 0)) + (if sr q 2 = (x : Int) then 1 else 0)) + (if sr q 3 = (x : Int) then 1 else 0)) + (if sr q 4 = (x : Int) then 1 else 0)) + (if sr q 5 = (x : Int) then 1 else 0)) + (if sr q 6 = (x : Int) then 1 else 0)) + (if sr q 7 = (x : Int) then 1 else 0) = (0 : Int) + (if sr q 0 = (x : Int) then 1 else 0)
    have z : ∀ v : Nat, v ≠ 0 → ¬ sr q v = (x : Int) := fun v hv => by
      unfold sr
      rw [if_neg hv]; omega
    rw [if_neg (z 1 (by decide)), if_neg (z 2 (by decide)), if_neg (z 3 (by decide)), if_neg (z 4 (by decide)), if_neg (z 5 (by decide)), if_neg (z 6 (by decide)), if_neg (z 7 (by decide))]
    omega
  rw [e]
  show (0 : Int) + (if sr q 0 = (x : Int) then 1 else 0) = _
  have : sr q 0 = q := if_pos rfl
  rw [this]; omega
/-- each block once at the most; how far counts are off -/
def MV (h : SH) (mu : Nat → Int) (q : Int) (D : Nat → Int) : Prop := (∀ x, x < 48 → mu x = 0 ∨ mu x = 1) ∧ (∀ x, x < 48 → df h mu (sr q) x = D x)
/-- a row of blocks that wait: how often one is there -/
def ct (st : Nat → Int) (w : Nat) (x : Int) : Int := sm w (fun j => if st j = x then 1 else 0)
/-- what is still to come, M; what waits in the row; what is about to be put there -/
def WK (h : SH) (M st : Nat → Int) (w : Nat) (Pd : Nat → Int) : Prop := (∀ x, x < 48 → M x = 0 ∨ M x = 1) ∧ (∀ j, j < w → 0 ≤ st j ∧ st j < 48) ∧ (∀ x, x < 48 → 0 ≤ Pd x) ∧ (∀ x, x < 48 → M x = ct st w (x : Int) + Pd x + sm 48 (fun p => if 0 < M p then en h p (x : Int) else 0))
theorem ct_nn (st : Nat → Int) (w : Nat) (x : Int) : 0 ≤ ct st w x := sm_nn (fun j _ => by
  show 0 ≤ if st j = x then (1 : Int) else 0
  split <;> omega)
theorem ct_s (st : Nat → Int) (w : Nat) (x : Int) : ct st (w + 1) x = ct st w x + (if st w = x then 1 else 0) := rfl
theorem ct_up {st : Nat → Int} {w g : Nat} {v x : Int} (hg : w ≤ g) : ct (upZ st g v) w x = ct st w x := sm_c (fun j hj => by rw [upZ_n (by omega)])
theorem sn_nn (h : SH) (M : Nat → Int) (x : Int) : 0 ≤ sm 48 (fun p => if 0 < M p then en h p x else 0) := sm_nn (fun p _ => by
  show 0 ≤ if 0 < M p then en h p x else 0
  split
  · exact en_nn h p x
  · exact Int.le_refl 0)
theorem WK_0 {h : SH} {mu st : Nat → Int} {q : Int} (H : MV h mu q (fun _ => 0)) (hq : 0 ≤ q ∧ q < 48) : WK h mu (upZ st 0 q) 1 (fun _ => 0) := by
  refine ⟨H.1, fun j hj => ?_, fun _ _ => Int.le_refl 0, fun x hx => ?_⟩
  · rw [show j = 0 by omega, upZ_s]; exact hq
  · have e := H.2 x hx
    unfold df rf at e
    rw [rr_sr] at e
    have c : ct (upZ st 0 q) 1 (x : Int) = if q = (x : Int) then 1 else 0 := by
      show (0 : Int) + (if upZ st 0 q 0 = (x : Int) then 1 else 0) = _
      rw [upZ_s]; omega
    rw [c]
    dsimp only at e ⊢
    omega
/-- the last one that waits is taken -/
theorem WK_pop {h : SH} {M st : Nat → Int} {w : Nat} (H : WK h M st (w + 1) (fun _ => 0)) : M (st w).toNat = 1 ∧ WK h (upZ M (st w).toNat 0) st w (fun x => en h (st w).toNat (x : Int)) := by
  have hb := H.2.1 w (by omega)
  have hb48 : (st w).toNat < 48 := by omega
  have e1 := H.2.2.2 (st w).toNat hb48
  have c1 := ct_nn st w (((st w).toNat : Nat) : Int)
  have s1 := sn_nn h M (((st w).toNat : Nat) : Int)
  rw [ct_s, if_pos (show st w = (((st w).toNat : Nat) : Int) by omega)] at e1
  dsimp only at e1
  have m1 : M (st w).toNat = 1 := by
    rcases H.1 _ hb48 with q | q
    · omega
    · exact q
  refine ⟨m1, fun x hx => ?_, fun j hj => H.2.1 j (by omega), fun x hx => en_nn h _ _, fun x hx => ?_⟩
  · by_cases z : x = (st w).toNat
    · rw [z, upZ_s]; exact Or.inl rfl
    · rw [upZ_n z]; exact H.1 x hx
  · have e := H.2.2.2 x hx
    rw [ct_s] at e
    have so := sm_one (n := 48) (i := (st w).toNat) (f := fun p => if 0 < M p then en h p (x : Int) else 0) (g := fun p => if 0 < upZ M (st w).toNat 0 p then en h p (x : Int) else 0) hb48 (fun j _ hn => by
      show (if 0 < upZ M (st w).toNat 0 j then en h j (x : Int) else 0) = _
      rw [upZ_n hn])
    rw [upZ_s, if_pos (show 0 < M (st w).toNat by omega), if_neg (show ¬ (0 : Int) < 0 by omega)] at so
    rw [so]
    dsimp only at e ⊢
    by_cases z : x = (st w).toNat
    · rw [z, upZ_s]
      rw [z, if_pos (show st w = (((st w).toNat : Nat) : Int) by omega), m1] at e
      omega
    · rw [upZ_n z]
      rw [if_neg (show ¬ st w = (x : Int) by omega)] at e
      omega
/-- one that was named is put into the row -/
theorem WK_push {h : SH} {M st : Nat → Int} {w : Nat} {Pd Pd' : Nat → Int} {y : Int} (H : WK h M st w Pd) (hy : 0 ≤ y ∧ y < 48) (hP : ∀ x, x < 48 → Pd x = Pd' x + (if y = (x : Int) then 1 else 0)) (hn : ∀ x, x < 48 → 0 ≤ Pd' x) : WK h M (upZ st w y) (w + 1) Pd' := by
  refine ⟨H.1, fun j hj => ?_, hn, fun x hx => ?_⟩
  · by_cases z : j = w
    · rw [z, upZ_s]; exact hy
    · rw [upZ_n z]; exact H.2.1 j (by omega)
  · have e := H.2.2.2 x hx
    rw [ct_s, ct_up (Nat.le_refl w), upZ_s]
    have := hP x hx
    omega
theorem WK_P {h : SH} {M st : Nat → Int} {w : Nat} {Pd Pd' : Nat → Int} (H : WK h M st w Pd) (hP : ∀ x, x < 48 → Pd' x = Pd x) : WK h M st w Pd' := ⟨H.1, H.2.1, fun x hx => by rw [hP x hx]; exact H.2.2.1 x hx, fun x hx => by rw [hP x hx]; exact H.2.2.2 x hx⟩
/-- no more wait than are still to come -/
theorem WK_le {h : SH} {M st : Nat → Int} {w : Nat} {Pd : Nat → Int} (H : WK h M st w Pd) : (w : Int) ≤ pos M := by
  have e1 : sm 48 (fun x => ct st w (x : Int)) = (w : Int) := by
    unfold ct
    rw [sm_sw 48 w (fun x j => if st j = (x : Int) then 1 else 0)]
    have : ∀ j, j < w → sm 48 (fun x => if st j = (x : Int) then (1 : Int) else 0) = 1 := fun j hj => by
      have hb := H.2.1 j hj
      rw [sm_one (n := 48) (i := (st j).toNat) (f := fun _ => 0) (g := fun x => if st j = (x : Int) then (1 : Int) else 0) (by omega) (fun x _ hn => if_neg (by omega)), sm_0 (fun _ _ => rfl)]
      show (0 : Int) - 0 + (if st j = (((st j).toNat : Nat) : Int) then 1 else 0) = 1
      rw [if_pos (by omega)]; rfl
    rw [sm_c (f := fun j => sm 48 (fun x => if st j = (x : Int) then (1 : Int) else 0)) (g := fun _ => 1) this]
    have : ∀ n : Nat, sm n (fun _ => (1 : Int)) = (n : Int) := fun n => by
      induction n with
      | zero => rfl
      | succ n ih => show sm n (fun _ => (1 : Int)) + 1 = _; rw [ih]; omega
    exact this w
  have e2 : sm 48 (fun x => ct st w (x : Int)) ≤ pos M := by
    unfold pos
    refine sm_le (fun x hx => ?_)
    have e := H.2.2.2 x hx
    have p := H.2.2.1 x hx
    have n := sn_nn h M (x : Int)
    show ct st w (x : Int) ≤ if 0 < M x then 1 else 0
    rcases H.1 x hx with q | q
    · rw [if_neg (by omega)]; omega
    · rw [if_pos (by omega)]; omega
  omega
theorem WK_pos {h : SH} {M st : Nat → Int} {w : Nat} {Pd : Nat → Int} (H : WK h M st w Pd) {b : Nat} (hb : b < 48) (m : M b = 1) : pos (upZ M b 0) = pos M - 1 := by
  rw [pos_up hb, if_pos (show 0 < M b by omega), if_neg (show ¬ (0 : Int) < 0 by omega)]; omega
/-! ===== codes that leave a pile as they should ===== -/
def stp (c g h : Int) : Prop := ((1000 ≤ c ∨ (40 ≤ c ∧ c < 60) ∨ c = 13) ∧ h = g + 1) ∨ ((c = 12 ∨ (60 ≤ c ∧ c < 1000)) ∧ 1 ≤ g ∧ h = g) ∨ ((1 ≤ c ∧ c ≤ 11) ∧ 2 ≤ g ∧ h = g - 1)
def hg (f : Nat → Int) : Nat → Int → Prop
  | 0, h => h = 0
  | n + 1, h => ∃ g, hg f n g ∧ stp (f n) g h
theorem hg_c {f g : Nat → Int} {n : Nat} {h : Int} (H : hg f n h) (e : ∀ j, j < n → g j = f j) : hg g n h := by
  induction n generalizing h with
  | zero => exact H
  | succ n ih =>
    obtain ⟨k, h1, h2⟩ := H
    exact ⟨k, ih h1 (fun j hj => e j (by omega)), by rw [e n (by omega)]; exact h2⟩
theorem hg_nn {f : Nat → Int} {n : Nat} {h : Int} (H : hg f n h) : 0 ≤ h := by
  cases n with
  | zero => have : h = 0 := H; omega
  | succ n =>
    obtain ⟨k, h1, h2⟩ := H
    have := hg_nn h1
    unfold stp at h2
    omega
theorem hg_add {f : Nat → Int} {n : Nat} {g h v : Int} (H : hg f n g) (s : stp v g h) : hg (upZ f n v) (n + 1) h := ⟨g, hg_c H (fun j hj => by rw [upZ_n (by omega)]), by rw [upZ_s]; exact s⟩
theorem hg_le {f : Nat → Int} {n : Nat} {h : Int} (H : hg f n h) : h ≤ (n : Int) := by
  induction n generalizing h with
  | zero => have : h = 0 := H; omega
  | succ n ih =>
    obtain ⟨k, h1, h2⟩ := H
    have := ih h1
    unfold stp at h2
    omega
/-- how many that wait have their first number on the pile -/
def wq (f : Nat → Int) (n : Nat) : Int := sm n (fun j => if (1 ≤ f j ∧ f j ≤ 11) ∨ f j = 23 ∨ f j = 24 then 1 else 0)
theorem wq_s (f : Nat → Int) (n : Nat) : wq f (n + 1) = wq f n + (if (1 ≤ f n ∧ f n ≤ 11) ∨ f n = 23 ∨ f n = 24 then 1 else 0) := rfl
theorem wq_c {f g : Nat → Int} {n : Nat} (e : ∀ j, j < n → g j = f j) : wq g n = wq f n := sm_c (fun j hj => by rw [e j hj])
theorem wq_nn (f : Nat → Int) (n : Nat) : 0 ≤ wq f n := sm_nn (fun j _ => by split <;> omega)
/-- the reference's formula at hand: d more lie on the pile than wait for a second one -/
def QH (s : MS) (d : Int) : Prop := hg (gA s 101) (gI s 102).toNat (wq (gA s 103) (gI s 104).toNat + d)
theorem QH_eq {s o : MS} {d : Int} (H : QH s d) (h1 : gA o 101 = gA s 101) (h2 : gA o 103 = gA s 103) (h3 : gI o 102 = gI s 102) (h4 : gI o 104 = gI s 104) : QH o d := by
  unfold QH at H ⊢
  rw [h1, h2, h3, h4]; exact H
theorem QH_code {s o : MS} {d d' v : Int} (H : QH s d) (h0 : 0 ≤ gI s 102) (e1 : gA o 101 = upZ (gA s 101) (gI s 102).toNat v) (e2 : gI o 102 = gI s 102 + 1) (e3 : gA o 103 = gA s 103) (e4 : gI o 104 = gI s 104) (st : stp v (wq (gA s 103) (gI s 104).toNat + d) (wq (gA s 103) (gI s 104).toNat + d')) : QH o d' := by
  unfold QH at H ⊢
  rw [e1, e2, e3, e4, show (gI s 102 + 1).toNat = (gI s 102).toNat + 1 by omega]
  exact hg_add H st
theorem QH_push {s o : MS} {d v : Int} (H : QH s d) (h0 : 0 ≤ gI s 104) (e1 : gA o 101 = gA s 101) (e2 : gI o 102 = gI s 102) (e3 : gA o 103 = upZ (gA s 103) (gI s 104).toNat v) (e4 : gI o 104 = gI s 104 + 1) : QH o (d - (if (1 ≤ v ∧ v ≤ 11) ∨ v = 23 ∨ v = 24 then 1 else 0)) := by
  unfold QH at H ⊢
  rw [e1, e2, e3, e4, show (gI s 104 + 1).toNat = (gI s 104).toNat + 1 by omega, wq_s, upZ_s, wq_c (g := upZ (gA s 103) (gI s 104).toNat v) (f := gA s 103) (fun j hj => by rw [upZ_n (by omega)])]
  have e : wq (gA s 103) (gI s 104).toNat + (if (1 ≤ v ∧ v ≤ 11) ∨ v = 23 ∨ v = 24 then 1 else 0) + (d - (if (1 ≤ v ∧ v ≤ 11) ∨ v = 23 ∨ v = 24 then 1 else 0)) = wq (gA s 103) (gI s 104).toNat + d := by omega
  rw [e]; exact H
theorem QH_pop {s o : MS} {d : Int} (H : QH s d) (h0 : 1 ≤ gI s 104) (e1 : gA o 101 = gA s 101) (e2 : gI o 102 = gI s 102) (e3 : gA o 103 = gA s 103) (e4 : gI o 104 = gI s 104 - 1) : QH o (d + (if (1 ≤ gA s 103 (gI s 104 - 1).toNat ∧ gA s 103 (gI s 104 - 1).toNat ≤ 11) ∨ gA s 103 (gI s 104 - 1).toNat = 23 ∨ gA s 103 (gI s 104 - 1).toNat = 24 then 1 else 0)) := by
  unfold QH at H ⊢
  rw [e1, e2, e3, e4]
  have e := wq_s (gA s 103) (gI s 104 - 1).toNat
  rw [show (gI s 104 - 1).toNat + 1 = (gI s 104).toNat by omega] at e
  rw [e] at H
  have q : wq (gA s 103) (gI s 104 - 1).toNat + (d + (if (1 ≤ gA s 103 (gI s 104 - 1).toNat ∧ gA s 103 (gI s 104 - 1).toNat ≤ 11) ∨ gA s 103 (gI s 104 - 1).toNat = 23 ∨ gA s 103 (gI s 104 - 1).toNat = 24 then 1 else 0)) = wq (gA s 103) (gI s 104 - 1).toNat + (if (1 ≤ gA s 103 (gI s 104 - 1).toNat ∧ gA s 103 (gI s 104 - 1).toNat ≤ 11) ∨ gA s 103 (gI s 104 - 1).toNat = 23 ∨ gA s 103 (gI s 104 - 1).toNat = 24 then 1 else 0) + d := by omega
  rw [q]; exact H
