/-! ===== blocks in use now and in the checkpoint; how far counts are off; the one that may be empty ===== -/
/-- all blocks, in use or not -/
def US (h : SH) (ky : Nat → Nat → Int) : Prop := ∀ p, p < 48 → (0 ≤ h.2.1 p ∧ h.2.1 p ≤ 6) ∧ (0 < h.1 p → ∀ k : Nat, (k : Int) < h.2.1 p → 0 ≤ h.2.2 p k ∧ h.2.2 p k < 48) ∧ (∀ k : Nat, (k : Int) < h.2.1 p → 0 ≤ ky p k ∧ ky p k ≤ 999)
def TG (h : SH) (ky : Nat → Nat → Int) (N E : Int) (c sv r rs D : Nat → Int) (e : Int) : Prop :=
  (N ≤ 48 ∧ WN h N c ∧ WN h N sv ∧ US h ky) ∧ ((∀ x, x < 48 → df h c r x = D x) ∧ (∀ x, x < 48 → df h sv rs x = 0)) ∧ ((∀ p, p < 48 → 0 < c p → (p : Int) ≠ e → 1 ≤ h.2.1 p) ∧ Ne h sv) ∧ (RO N r ∧ RO N rs) ∧ (∀ p, p < 48 → (0 < c p ∨ 0 < sv p) → h.2.1 p ≤ E ∧ ∀ k : Nat, (k : Int) < h.2.1 p → 0 ≤ ky p k ∧ ky p k ≤ 999)
/-- nothing but one block is another -/
def SBk (h h' : SH) (ky ky' : Nat → Nat → Int) (b : Nat) : Prop := ∀ q, q < 48 → q ≠ b → h'.1 q = h.1 q ∧ h'.2.1 q = h.2.1 q ∧ ∀ k, k < 6 → h'.2.2 q k = h.2.2 q k ∧ ky' q k = ky q k
theorem SBk_en {h h' : SH} {ky ky' : Nat → Nat → Int} {b : Nat} (hS : SBk h h' ky ky' b) {p : Nat} {x : Int} (hp : p < 48) (hb : p ≠ b) : en h' p x = en h p x := by
  obtain ⟨a1, a2, a3⟩ := hS p hp hb
  unfold en
  exact en_ext (by rw [a1]) a2 (fun k hk _ => (a3 k hk).1)
theorem US_SBk {h h' : SH} {ky ky' : Nat → Nat → Int} {b : Nat} (hU : US h ky) (hS : SBk h h' ky ky' b) (hb : (0 ≤ h'.2.1 b ∧ h'.2.1 b ≤ 6) ∧ (0 < h'.1 b → ∀ k : Nat, (k : Int) < h'.2.1 b → 0 ≤ h'.2.2 b k ∧ h'.2.2 b k < 48) ∧ (∀ k : Nat, (k : Int) < h'.2.1 b → 0 ≤ ky' b k ∧ ky' b k ≤ 999)) : US h' ky' := by
  intro p hp
  by_cases q : p = b
  · rw [q]; exact hb
  · obtain ⟨a1, a2, a3⟩ := hS p hp q
    have u := hU p hp
    rw [a1, a2]
    refine ⟨u.1, fun hl k hk => ?_, fun k hk => ?_⟩
    · rw [(a3 k (by omega)).1]; exact u.2.1 hl k hk
    · rw [(a3 k (by omega)).2]; exact u.2.2 k hk
theorem US_Nd {h : SH} {N : Int} {b : Nat} (hN : N ≤ 48) (hn : Nd h N b) : (0 ≤ h.2.1 b ∧ h.2.1 b ≤ 6) ∧ (0 < h.1 b → ∀ k : Nat, (k : Int) < h.2.1 b → 0 ≤ h.2.2 b k ∧ h.2.2 b k < 48) := ⟨hn.2.1, fun hl k hk => by have := (hn.2.2 hl k hk).1; omega⟩
theorem sv_keep {h h' : SH} {ky ky' : Nat → Nat → Int} {N : Int} {sv rs : Nat → Int} {b : Nat} (hN : N ≤ 48) (hW : WN h N sv) (hD : ∀ x, x < 48 → df h sv rs x = 0) (hb48 : b < 48) (hb : sv b ≤ 0) (hS : SBk h h' ky ky' b) : WN h' N sv ∧ ∀ x, x < 48 → df h' sv rs x = 0 := by
  refine ⟨WN_one hN hW (fun q hq hn => (hS q hq hn).1) (fun q hq hn => (hS q hq hn).2.1) (fun q hq hn k hk => ((hS q hq hn).2.2 k hk).1) (fun h0 => absurd h0 (by omega)) (Or.inr (free_unnamed (r := rs) hN hW hb (by rw [hD b hb48]; exact Int.le_refl 0))), fun x hx => ?_⟩
  rw [df_same (h := h) (fun p hp hc => SBk_en hS hp (fun q => by rw [q] at hc; omega))]
  exact hD x hx
theorem TG_D {h : SH} {ky : Nat → Nat → Int} {N E : Int} {c sv r rs D D' : Nat → Int} {e : Int} (H : TG h ky N E c sv r rs D e) (hD : ∀ x, x < 48 → D' x = D x) : TG h ky N E c sv r rs D' e := ⟨H.1, ⟨fun x hx => by rw [hD x hx]; exact H.2.1.1 x hx, H.2.1.2⟩, H.2.2⟩
theorem TG_e {h : SH} {ky : Nat → Nat → Int} {N E : Int} {c sv r rs D : Nat → Int} (H : TG h ky N E c sv r rs D (-1)) (e : Int) : TG h ky N E c sv r rs D e := ⟨H.1, H.2.1, ⟨fun p hp hc _ => H.2.2.1.1 p hp hc (by omega), H.2.2.1.2⟩, H.2.2.2⟩
theorem TG_ne {h : SH} {ky : Nat → Nat → Int} {N E : Int} {c sv r rs D : Nat → Int} {e : Int} (H : TG h ky N E c sv r rs D e) (he : ∀ p : Nat, p < 48 → (p : Int) = e → 1 ≤ h.2.1 p) : TG h ky N E c sv r rs D (-1) := ⟨H.1, H.2.1, ⟨fun p hp hc _ => by
  by_cases q : (p : Int) = e
  · exact he p hp q
  · exact H.2.2.1.1 p hp hc q, H.2.2.1.2⟩, H.2.2.2⟩
/-- a block that nobody else has in the checkpoint changes -/
theorem TG_chg {h h' : SH} {ky ky' : Nat → Nat → Int} {N E : Int} {c sv r rs D : Nat → Int} {e : Int} {b : Nat} (H : TG h ky N E c sv r rs D e) (hb : b < 48) (hsv : sv b ≤ 0) (hc : 0 < c b) (hS : SBk h h' ky ky' b) (hl : h'.1 b = h.1 b) (hn : Nd h' N b) (hz : h'.2.1 b ≤ E) (hk : ∀ k : Nat, (k : Int) < h'.2.1 b → 0 ≤ ky' b k ∧ ky' b k ≤ 999) (e' : Int) (he : (b : Int) ≠ e' → 1 ≤ h'.2.1 b) (hee : ∀ p : Nat, (p : Int) = e → (p : Int) = e' ∨ p = b) : TG h' ky' N E c sv r rs (fun x => D x + en h b (x : Int) - en h' b (x : Int)) e' := by
  obtain ⟨⟨a1, a2, a3, a4⟩, ⟨b1, b2⟩, ⟨d1, d2⟩, e0, f1⟩ := H
  obtain ⟨s1, s2⟩ := sv_keep a1 a3 b2 hb hsv hS
  refine ⟨⟨a1, WN_one a1 a2 (fun q hq hn => (hS q hq hn).1) (fun q hq hn => (hS q hq hn).2.1) (fun q hq hn k hk => ((hS q hq hn).2.2 k hk).1) (fun _ => hn) (Or.inl hl), s1, US_SBk a4 hS ⟨(US_Nd a1 hn).1, (US_Nd a1 hn).2, hk⟩⟩, ⟨fun x hx => ?_, s2⟩, ⟨fun p hp hpc hpe => ?_, fun p hp hpc => ?_⟩, e0, fun p hp hpc => ?_⟩
  · dsimp only
    rw [df_sh (h := h) hb x (fun p hp hpb _ => SBk_en hS hp hpb), if_pos hc, b1 x hx]; omega
  · by_cases q : p = b
    · subst q; exact he hpe
    · rw [(hS p hp q).2.1]; exact d1 p hp hpc (fun w => (hee p w).elim hpe q)
  · have q : p ≠ b := fun w => by rw [w] at hpc; omega
    rw [(hS p hp q).2.1]; exact d2 p hp hpc
  · by_cases q : p = b
    · subst q; exact ⟨hz, hk⟩
    · obtain ⟨q1, q2⟩ := f1 p hp hpc
      have n6 : h.2.1 p ≤ 6 := hpc.elim (fun w => ((a2 p hp).2.2 w).2.1.2) (fun w => ((a3 p hp).2.2 w).2.1.2)
      rw [(hS p hp q).2.1]
      refine ⟨q1, fun k hk => ?_⟩
      rw [((hS p hp q).2.2 k (by omega)).2]
      exact q2 k hk
theorem TG_take {h h' : SH} {ky ky' : Nat → Nat → Int} {N E : Int} {c sv r rs D : Nat → Int} {b : Nat} (H : TG h ky N E c sv r rs D (-1)) (hD : 0 ≤ D b) (hE : 0 ≤ E) (hbN : (b : Int) < N) (hc : c b = 0) (hsv : sv b = 0) (hS : SBk h h' ky ky' b) (hl : 0 ≤ h'.1 b) (hz : h'.2.1 b = 0) : TG h' ky' N E (upZ c b 1) sv r rs (fun x => D x + (if x = b then 1 else 0)) (b : Int) := by
  obtain ⟨⟨a1, a2, a3, a4⟩, ⟨b1, b2⟩, ⟨d1, d2⟩, e0, f1⟩ := H
  have hb : b < 48 := by omega
  obtain ⟨s1, s2⟩ := sv_keep a1 a3 b2 hb (by omega) hS
  have w1 : WN h' N c := WN_one a1 a2 (fun q hq hn => (hS q hq hn).1) (fun q hq hn => (hS q hq hn).2.1) (fun q hq hn k hk => ((hS q hq hn).2.2 k hk).1) (fun h0 => absurd h0 (by omega)) (Or.inr (free_unnamed (r := r) a1 a2 (by omega) (by rw [b1 b hb]; exact hD)))
  refine ⟨⟨a1, fun p hp => ?_, s1, US_SBk a4 hS ⟨by omega, fun _ k hk => by omega, fun k hk => by omega⟩⟩, ⟨fun x hx => ?_, s2⟩, ⟨fun p hp hpc hpe => ?_, fun p hp hpc => ?_⟩, e0, fun p hp hpc => ?_⟩
  · by_cases q : p = b
    · subst q
      rw [upZ_s]
      exact ⟨by omega, fun w => by omega, fun _ => ⟨hl, by omega, fun _ k hk => by omega⟩⟩
    · rw [upZ_n q]; exact w1 p hp
  · dsimp only
    rw [df_cnt hb, df_same (h := h) (fun p hp hpc => SBk_en hS hp (fun q => by rw [q] at hpc; omega)), b1 x hx, hc, if_neg (show ¬ (0 : Int) < 0 by omega), if_pos (show (0 : Int) < 1 by omega)]
    have e0 : en h' b (x : Int) = 0 := enf_end (by omega)
    rw [e0]
    by_cases q : x = b
    · rw [if_pos q, if_pos q]; omega
    · rw [if_neg q, if_neg q]; omega
  · have q : p ≠ b := fun w => hpe (by omega)
    rw [upZ_n q] at hpc
    rw [(hS p hp q).2.1]; exact d1 p hp hpc (by omega)
  · have q : p ≠ b := fun w => by rw [w] at hpc; omega
    rw [(hS p hp q).2.1]; exact d2 p hp hpc
  · by_cases q : p = b
    · subst q; rw [hz]; exact ⟨hE, fun k hk => by omega⟩
    · rw [upZ_n q] at hpc
      obtain ⟨q1, q2⟩ := f1 p hp hpc
      have n6 : h.2.1 p ≤ 6 := hpc.elim (fun w => ((a2 p hp).2.2 w).2.1.2) (fun w => ((a3 p hp).2.2 w).2.1.2)
      rw [(hS p hp q).2.1]
      refine ⟨q1, fun k hk => ?_⟩
      rw [((hS p hp q).2.2 k (by omega)).2]
      exact q2 k hk
theorem TG_inc {h : SH} {ky : Nat → Nat → Int} {N E : Int} {c sv r rs D : Nat → Int} {e : Int} {y : Nat} (H : TG h ky N E c sv r rs D e) (hy : y < 48) (hc : 0 < c y) : TG h ky N E (upZ c y (c y + 1)) sv r rs (fun x => D x + (if x = y then 1 else 0)) e := by
  obtain ⟨⟨a1, a2, a3, a4⟩, ⟨b1, b2⟩, ⟨d1, d2⟩, e0, f1⟩ := H
  have li : ∀ p, 0 < upZ c y (c y + 1) p → 0 < c p := fun p hp => by
    by_cases q : p = y
    · rw [q]; exact hc
    · rw [upZ_n q] at hp; exact hp
  refine ⟨⟨a1, fun p hp => ?_, a3, a4⟩, ⟨fun x hx => ?_, b2⟩, ⟨fun p hp hpc hpe => d1 p hp (li p hpc) hpe, d2⟩, e0, fun p hp hpc => f1 p hp (hpc.imp (li p) id)⟩
  · by_cases q : p = y
    · subst q
      rw [upZ_s]
      exact ⟨by omega, fun w => by have := (a2 p hp).2.1 w; omega, fun _ => (a2 p hp).2.2 hc⟩
    · rw [upZ_n q]; exact a2 p hp
  · dsimp only
    rw [df_cnt hy, b1 x hx, if_pos hc, if_pos (show 0 < c y + 1 by omega)]
    by_cases q : x = y
    · rw [if_pos q, if_pos q]; omega
    · rw [if_neg q, if_neg q]; omega
theorem TG_kill {h : SH} {ky : Nat → Nat → Int} {N E : Int} {c sv r rs D : Nat → Int} {e : Int} {b : Nat} (H : TG h ky N E c sv r rs D e) (hb : b < 48) (hc : c b = 1) (hz : h.2.1 b = 0) (e' : Int) (hee : ∀ p : Nat, (p : Int) = e → (p : Int) = e' ∨ p = b) : TG h ky N E (upZ c b 0) sv r rs (fun x => D x - (if x = b then 1 else 0)) e' := by
  obtain ⟨⟨a1, a2, a3, a4⟩, ⟨b1, b2⟩, ⟨d1, d2⟩, e0, f1⟩ := H
  have li : ∀ p, 0 < upZ c b 0 p → 0 < c p ∧ p ≠ b := fun p hp => by
    by_cases q : p = b
    · rw [q, upZ_s] at hp; omega
    · rw [upZ_n q] at hp; exact ⟨hp, q⟩
  refine ⟨⟨a1, fun p hp => ?_, a3, a4⟩, ⟨fun x hx => ?_, b2⟩, ⟨fun p hp hpc hpe => d1 p hp (li p hpc).1 (fun w => (hee p w).elim hpe (li p hpc).2), d2⟩, e0, fun p hp hpc => f1 p hp (hpc.imp (fun w => (li p w).1) id)⟩
  · by_cases q : p = b
    · subst q
      rw [upZ_s]
      exact ⟨by omega, fun w => rfl, fun w => by omega⟩
    · rw [upZ_n q]; exact a2 p hp
  · have e0 : en h b (x : Int) = 0 := enf_end (by omega)
    dsimp only
    rw [df_cnt hb, b1 x hx, hc, e0, if_pos (show (0 : Int) < 1 by omega), if_neg (show ¬ (0 : Int) < 0 by omega)]
    by_cases q : x = b
    · rw [if_pos q, if_pos q]; omega
    · rw [if_neg q, if_neg q]; omega
theorem TG_rel {h : SH} {ky : Nat → Nat → Int} {N E : Int} {c c' sv r rs D : Nat → Int} {e b : Int} (H : TG h ky N E c sv r rs D e) (hR : RelI h r c b c' (fun _ => 0)) : TG h ky N E c' sv r rs (fun x => D x - (if (x : Int) = b then 1 else 0)) e := by
  obtain ⟨⟨a1, a2, a3, a4⟩, ⟨b1, b2⟩, ⟨d1, d2⟩, e0, f1⟩ := H
  have li : ∀ p, p < 48 → 0 < c' p → 0 < c p := fun p hp w => by have := hR.1 p hp; omega
  refine ⟨⟨a1, RelI_WN a2 hR, a3, a4⟩, ⟨fun x hx => ?_, b2⟩, ⟨fun p hp hpc hpe => d1 p hp (li p hp hpc) hpe, d2⟩, e0, fun p hp hpc => f1 p hp (hpc.imp (li p hp) id)⟩
  dsimp only
  rw [hR.2 x hx, b1 x hx]
  dsimp only; omega
theorem TG_root {h : SH} {ky : Nat → Nat → Int} {N E : Int} {c sv r rs D : Nat → Int} {e q : Int} {v : Nat} (H : TG h ky N E c sv r rs D e) (hv : v < 8) (hq : (0 ≤ q ∧ q < N) ∨ q < 0 ∨ 254 ≤ q) : TG h ky N E c sv (upZ r v q) rs (fun x => D x + (if r v = (x : Int) then 1 else 0) - (if q = (x : Int) then 1 else 0)) e := by
  obtain ⟨a, ⟨b1, b2⟩, d, ⟨e0, e1⟩, f1⟩ := H
  refine ⟨a, ⟨fun x hx => ?_, b2⟩, d, ⟨fun w hw => ?_, e1⟩, f1⟩
  · rw [df_root hv, b1 x hx]
  · by_cases z : w = v
    · rw [z, upZ_s]; exact hq
    · rw [upZ_n z]; exact e0 w hw
theorem TG_ext {h h' : SH} {ky ky' : Nat → Nat → Int} {N E : Int} {c c' sv sv' r r' rs rs' D : Nat → Int} {e : Int} (H : TG h ky N E c sv r rs D e) (h1 : ∀ p, p < 48 → h'.1 p = h.1 p) (h2 : ∀ p, p < 48 → h'.2.1 p = h.2.1 p) (h3 : ∀ p, p < 48 → ∀ k, k < 6 → h'.2.2 p k = h.2.2 p k ∧ ky' p k = ky p k) (h4 : ∀ p, p < 48 → c' p = c p) (h5 : ∀ p, p < 48 → sv' p = sv p) (h6 : ∀ v, v < 8 → r' v = r v) (h7 : ∀ v, v < 8 → rs' v = rs v) : TG h' ky' N E c' sv' r' rs' D e := by
  obtain ⟨⟨a1, a2, a3, a4⟩, ⟨b1, b2⟩, ⟨d1, d2⟩, ⟨e1, e2⟩, f1⟩ := H
  have h3' : ∀ p, p < 48 → ∀ k, k < 6 → h'.2.2 p k = h.2.2 p k := fun p hp k hk => (h3 p hp k hk).1
  refine ⟨⟨a1, WN_ext a1 a2 h1 h2 h3' h4, WN_ext a1 a3 h1 h2 h3' h5, fun p hp => by
    have u := a4 p hp
    rw [h1 p hp, h2 p hp]
    refine ⟨u.1, fun hl k hk => ?_, fun k hk => ?_⟩
    · rw [h3' p hp k (by omega)]; exact u.2.1 hl k hk
    · rw [(h3 p hp k (by omega)).2]; exact u.2.2 k hk⟩, ⟨fun x hx => ?_, fun x hx => ?_⟩, ⟨fun p hp hc he => ?_, fun p hp hc => ?_⟩, ⟨fun v hv => ?_, fun v hv => ?_⟩, fun p hp hc => ?_⟩
  · rw [df_ext a2 h1 h2 h3' h4 h6 hx]; exact b1 x hx
  · rw [df_ext a3 h1 h2 h3' h5 h7 hx]; exact b2 x hx
  · rw [h2 p hp]; rw [h4 p hp] at hc; exact d1 p hp hc he
  · rw [h2 p hp]; rw [h5 p hp] at hc; exact d2 p hp hc
  · rw [h6 v hv]; exact e1 v hv
  · rw [h7 v hv]; exact e2 v hv
  · rw [h4 p hp, h5 p hp] at hc
    obtain ⟨q1, q2⟩ := f1 p hp hc
    have n6 : h.2.1 p ≤ 6 := hc.elim (fun w => ((a2 p hp).2.2 w).2.1.2) (fun w => ((a3 p hp).2.2 w).2.1.2)
    rw [h2 p hp]
    refine ⟨q1, fun k hk => ?_⟩
    rw [(h3 p hp k (by omega)).2]
    exact q2 k hk
theorem TG_save {h : SH} {ky : Nat → Nat → Int} {N E : Int} {c sv sv' r rs rs' D : Nat → Int} (H : TG h ky N E c sv r rs D (-1)) (hD : ∀ x, x < 48 → D x = 0) (h4 : ∀ p, p < 48 → sv' p = c p) (h5 : ∀ v, v < 8 → rs' v = r v) : TG h ky N E c sv' r rs' D (-1) := by
  obtain ⟨⟨a1, a2, a3, a4⟩, ⟨b1, b2⟩, ⟨d1, d2⟩, ⟨e1, e2⟩, f1⟩ := H
  refine ⟨⟨a1, a2, WN_ext a1 a2 (fun _ _ => rfl) (fun _ _ => rfl) (fun _ _ _ _ => rfl) h4, a4⟩, ⟨b1, fun x hx => ?_⟩, ⟨d1, fun p hp hc => ?_⟩, ⟨e1, fun v hv => ?_⟩, fun p hp hc => ?_⟩
  · rw [df_ext a2 (fun _ _ => rfl) (fun _ _ => rfl) (fun _ _ _ _ => rfl) h4 h5 hx, b1 x hx]; exact hD x hx
  · rw [h4 p hp] at hc; exact d1 p hp hc (by omega)
  · rw [h5 v hv]; exact e1 v hv
  · rw [h4 p hp] at hc; exact f1 p hp (Or.inl (hc.elim id id))
theorem TG_back {h : SH} {ky : Nat → Nat → Int} {N E : Int} {c c' sv r r' rs D : Nat → Int} {e : Int} (H : TG h ky N E c sv r rs D e) (h4 : ∀ p, p < 48 → c' p = sv p) (h5 : ∀ v, v < 8 → r' v = rs v) : TG h ky N E c' sv r' rs (fun _ => 0) (-1) := by
  obtain ⟨⟨a1, a2, a3, a4⟩, ⟨b1, b2⟩, ⟨d1, d2⟩, ⟨e1, e2⟩, f1⟩ := H
  refine ⟨⟨a1, WN_ext a1 a3 (fun _ _ => rfl) (fun _ _ => rfl) (fun _ _ _ _ => rfl) h4, a3, a4⟩, ⟨fun x hx => ?_, b2⟩, ⟨fun p hp hc _ => ?_, d2⟩, ⟨fun v hv => ?_, e2⟩, fun p hp hc => ?_⟩
  · rw [df_ext a3 (fun _ _ => rfl) (fun _ _ => rfl) (fun _ _ _ _ => rfl) h4 h5 hx]; exact b2 x hx
  · rw [h4 p hp] at hc; exact d2 p hp hc
  · rw [h5 v hv]; exact e2 v hv
  · rw [h4 p hp] at hc; exact f1 p hp (Or.inr (hc.elim id id))
/-! ===== what holds of a block in use ===== -/
theorem TG_nd {h : SH} {ky : Nat → Nat → Int} {N E : Int} {c sv r rs D : Nat → Int} {e : Int} {p : Nat} (H : TG h ky N E c sv r rs D e) (hp : p < 48) (hc : 0 < c p) : Nd h N p := (H.1.2.1 p hp).2.2 hc
theorem TG_kid {h : SH} {ky : Nat → Nat → Int} {N E : Int} {c sv r rs D : Nat → Int} {e : Int} {p k : Nat} (H : TG h ky N E c sv r rs D e) (hD : ∀ x, x < 48 → 0 ≤ D x) (hp : p < 48) (hc : 0 < c p) (hl : 0 < h.1 p) (hk : (k : Int) < h.2.1 p) : (0 ≤ h.2.2 p k ∧ h.2.2 p k < N) ∧ h.1 (h.2.2 p k).toNat = h.1 p - 1 ∧ 0 < c (h.2.2 p k).toNat := by
  have nd := (TG_nd H hp hc).2.2 hl k hk
  have hN := H.1.1
  refine ⟨nd.1, nd.2, kid_live (r := r) hN H.1.2.1 hp hc hl hk ?_⟩
  rw [H.2.1.1 _ (by omega)]; exact hD _ (by omega)
theorem TG_lt {h : SH} {ky : Nat → Nat → Int} {N E : Int} {c sv r rs D : Nat → Int} {e : Int} {p : Nat} (H : TG h ky N E c sv r rs D e) (hp : p < 48) (hc : 0 < c p) : (p : Int) < N := by
  have := (H.1.2.1 p hp).2.1
  by_cases q : N ≤ (p : Int)
  · have := this q; omega
  · omega
theorem TG_lev {h : SH} {ky : Nat → Nat → Int} {N E : Int} {c sv r rs D : Nat → Int} {p : Nat} (H : TG h ky N E c sv r rs D (-1)) (hD : ∀ x, x < 48 → 0 ≤ D x) (hp : p < 48) (hc : 0 < c p) : 0 ≤ h.1 p ∧ h.1 p ≤ 47 := ⟨(TG_nd H hp hc).1, lev_le (r := r) H.1.1 H.1.2.1 (fun p hp hc => H.2.2.1.1 p hp hc (by omega)) (fun x hx => by rw [H.2.1.1 x hx]; exact hD x hx) hp hc⟩
theorem TG_root_live {h : SH} {ky : Nat → Nat → Int} {N E : Int} {c sv r rs D : Nat → Int} {e : Int} {v : Nat} (H : TG h ky N E c sv r rs D e) (hD : ∀ x, x < 48 → 0 ≤ D x) (hv : v < 8) (h0 : 0 ≤ r v) (h1 : r v < 254) : r v < N ∧ 0 < c (r v).toNat := by
  have ro := H.2.2.2.1.1 v hv
  have hN := H.1.1
  refine ⟨by omega, root_live (h := h) (N := N) hv h0 ?_⟩
  rw [H.2.1.1 _ (by omega)]; exact hD _ (by omega)
/-- a block that has a count of 1 has no other name -/
theorem rf_two {h : SH} {c r : Nat → Int} {p : Nat} {x : Int} (hp : p < 48) (hc : 0 < c p) (h1 : 1 ≤ en h p x) (h2 : 1 ≤ rr r x) : 2 ≤ rf h c r x := by
  have := rf_en (h := h) (r := r) (x := x) hp hc
  omega
