/-! ===== what holds of an answer, if there is one ===== -/
def pc {α : Type} (x : Option α) (P : α → Prop) : Prop := ∀ o, x = some o → P o
theorem pc_some {α : Type} {P : α → Prop} {a : α} (h : P a) : pc (some a) P := fun o e => by cases e; exact h
theorem pc_none {α : Type} {P : α → Prop} : pc (none : Option α) P := fun o e => by cases e
theorem pc_mono {α : Type} {x : Option α} {P Q : α → Prop} (h : pc x P) (g : ∀ a, P a → Q a) : pc x Q := fun o e => g o (h o e)
theorem pc_bn {α β : Type} {x : Option α} {k : α → Option β} {P : β → Prop} (g : ∀ a, x = some a → pc (k a) P) : pc (bn x k) P := by
  intro o e
  cases h : x with
  | none => rw [h] at e; cases e
  | some a => rw [h] at e; exact g a h o e
/-- with what is known of the call -/
theorem pc_bq {α β : Type} {x : Option α} {k : α → Option β} {P : β → Prop} {Q : α → Prop} (h : pc x Q) (g : ∀ a, Q a → pc (k a) P) : pc (bn x k) P := pc_bn (fun a e => g a (h a e))
theorem pc_rg {α : Type} {x : Int} {k : Option α} {P : α → Prop} (h : pc k P) : pc (rg x k) P := by
  unfold rg
  split
  · exact h
  · exact pc_none
theorem pc_bo {α : Type} {v : Int} {k : Option α} {P : α → Prop} (h : pc k P) : pc (bo v k) P := by
  unfold bo
  split
  · exact h
  · exact pc_none
theorem pc_dv {α : Type} {x y : Int} {k : Option α} {P : α → Prop} (h : pc k P) : pc (dv x y k) P := by
  unfold dv
  split
  · exact h
  · exact pc_none
theorem pc_inb {α : Type} {n : Nat} {i : Int} {k : Option α} {P : α → Prop} (h : pc k P) : pc (inb n i k) P := by
  unfold inb
  split
  · exact h
  · exact pc_none
theorem pc_inb2 {α : Type} {n : Nat} {i : Int} {k : Option α} {P : α → Prop} (h : 0 ≤ i ∧ i < (n : Int) → pc k P) : pc (inb n i k) P := by
  unfold inb
  split
  · rename_i q; exact h q
  · exact pc_none
theorem pc_eqg {α : Type} {x y : Int} {k : Option α} {P : α → Prop} (h : pc k P) : pc (eqg x y k) P := by
  unfold eqg
  split
  · exact h
  · exact pc_none
theorem pc_rdI {α : Type} {f : Nat → Int} {n : Nat} {i : Int} {k : Int → Option α} {P : α → Prop} (h : 0 ≤ i ∧ i < (n : Int) → pc (k (f i.toNat)) P) : pc (rdI f n i k) P := by
  unfold rdI
  split
  · rename_i q; exact h q
  · exact pc_none
theorem pc_if {α : Type} {c : Prop} [Decidable c] {x y : Option α} {P : α → Prop} (ht : c → pc x P) (hf : ¬ c → pc y P) : pc (if c then x else y) P := by
  by_cases h : c
  · rw [if_pos h]; exact ht h
  · rw [if_neg h]; exact hf h
theorem pc_stn {α : Type} {t : MS} {k : MS → Option α} {P : α → Prop} (h : ∀ s, t = s → pc (k s) P) : pc (stn t k) P := h t rfl
/-- a call that answers tells what a partial fact says -/
theorem wp_pc {α : Type} {x : Option α} {P Q : α → Prop} (h : wp x P) (g : pc x Q) : wp x (fun o => P o ∧ Q o) := by
  obtain ⟨o, e, hp⟩ := h
  exact ⟨o, e, hp, g o e⟩
theorem wp_det {α : Type} {x : Option α} {P : α → Prop} {o : α} (h : wp x P) (e : x = some o) : P o := by
  obtain ⟨o', h1, h2⟩ := h
  rw [h1] at e
  cases e
  exact h2
/-! ===== what acts leave as it was ===== -/
/-- tape, reader, plans, what is seen, the picture stay -/
def FA (s o : MS) : Prop := (∀ k, (k < 1000 ∨ k = 9999) → k ≠ 143 → k ≠ 145 → k ≠ 983 → gI o k = gI s k) ∧ (∀ k, k < 50 → k ≠ 2 → k ≠ 8 → k ≠ 9 → k ≠ 10 → gA o k = gA s k)
theorem FA.rf (s : MS) : FA s s := ⟨fun _ _ _ _ _ => rfl, fun _ _ _ _ _ _ => rfl⟩
theorem FA.tr {s o q : MS} (h : FA s o) (g : FA o q) : FA s q := ⟨fun k a b c d => (g.1 k a b c d).trans (h.1 k a b c d), fun k a b c d e => (g.2 k a b c d e).trans (h.2 k a b c d e)⟩
theorem FA.of {I A L B : List Nat} {s o : MS} (h : Fr I A L B s o) (hi : ∀ k, (k < 1000 ∨ k = 9999) → k ≠ 143 → k ≠ 145 → k ≠ 983 → k ∉ I) (ha : ∀ k, k < 50 → k ≠ 2 → k ≠ 8 → k ≠ 9 → k ≠ 10 → k ∉ A) : FA s o := ⟨fun k a b c d => h.1 k (hi k a b c d), fun k a b c d e => h.2.1 k (ha k a b c d e)⟩
theorem fa_x11_refuse {p0 : Int} {s : MS} {o : (Int × MS)} (h : m_x11_refuse p0 s = some o) : FA s o.2 := FA.of (fr_x11_refuse h) (by intro k h1 h2 h3 h4 h; first | (simp at h; omega) | simp at h) (by intro k h1 h2 h3 h4 h5 h; first | (simp at h; omega) | simp at h)
theorem fa_x1_begin {s : MS} {o : MS} (h : m_x1_begin s = some o) : FA s o := FA.of (fr_x1_begin h) (by intro k h1 h2 h3 h4 h; first | (simp at h; omega) | simp at h) (by intro k h1 h2 h3 h4 h5 h; first | (simp at h; omega) | simp at h)
theorem fa_x1_tryPlant {p0 : Int} {p1 : Int} {p2 : Int} {s : MS} {o : (Int × MS)} (h : m_x1_tryPlant p0 p1 p2 s = some o) : FA s o.2 := FA.of (fr_x1_tryPlant h) (by intro k h1 h2 h3 h4 h; first | (simp at h; omega) | simp at h) (by intro k h1 h2 h3 h4 h5 h; first | (simp at h; omega) | simp at h)
theorem fa_x1_tryUproot {p0 : Int} {p1 : Int} {s : MS} {o : (Int × MS)} (h : m_x1_tryUproot p0 p1 s = some o) : FA s o.2 := FA.of (fr_x1_tryUproot h) (by intro k h1 h2 h3 h4 h; first | (simp at h; omega) | simp at h) (by intro k h1 h2 h3 h4 h5 h; first | (simp at h; omega) | simp at h)
theorem fa_x1_share {p0 : Int} {p1 : Int} {s : MS} {o : MS} (h : m_x1_share p0 p1 s = some o) : FA s o := FA.of (fr_x1_share h) (by intro k h1 h2 h3 h4 h; first | (simp at h; omega) | simp at h) (by intro k h1 h2 h3 h4 h5 h; first | (simp at h; omega) | simp at h)
theorem fa_x1_letGo {p0 : Int} {s : MS} {o : MS} (h : m_x1_letGo p0 s = some o) : FA s o := FA.of (fr_x1_letGo h) (by intro k h1 h2 h3 h4 h; first | (simp at h; omega) | simp at h) (by intro k h1 h2 h3 h4 h5 h; first | (simp at h; omega) | simp at h)
theorem fa_x8_save {s : MS} {o : MS} (h : m_x8_save s = some o) : FA s o := FA.of (fr_x8_save h) (by intro k h1 h2 h3 h4 h; first | (simp at h; omega) | simp at h) (by intro k h1 h2 h3 h4 h5 h; first | (simp at h; omega) | simp at h)
theorem fa_x8_fallBack {s : MS} {o : MS} (h : m_x8_fallBack s = some o) : FA s o := FA.of (fr_x8_fallBack h) (by intro k h1 h2 h3 h4 h; first | (simp at h; omega) | simp at h) (by intro k h1 h2 h3 h4 h5 h; first | (simp at h; omega) | simp at h)
theorem fa_x1_actBySeed {s : MS} {o : (Int × MS)} (h : m_x1_actBySeed s = some o) : FA s o.2 := FA.of (fr_x1_actBySeed h) (by intro k h1 h2 h3 h4 h; first | (simp at h; omega) | simp at h) (by intro k h1 h2 h3 h4 h5 h; first | (simp at h; omega) | simp at h)
theorem fa_x1_settle {s : MS} {o : (Int × MS)} (h : m_x1_settle s = some o) : FA s o.2 := FA.of (fr_x1_settle h) (by intro k h1 h2 h3 h4 h; first | (simp at h; omega) | simp at h) (by intro k h1 h2 h3 h4 h5 h; first | (simp at h; omega) | simp at h)
theorem fa_x2_keep {p0 : Int} {p1 : Int} {p2 : Int} {s : MS} {o : MS} (h : m_x2_keep p0 p1 p2 s = some o) : FA s o := FA.of (fr_x2_keep h) (by intro k h1 h2 h3 h4 h; first | (simp at h; omega) | simp at h) (by intro k h1 h2 h3 h4 h5 h; first | (simp at h; omega) | simp at h)
theorem fa_x8_becomeP {s : MS} {o : MS} (h : m_x8_becomeP s = some o) : FA s o := FA.of (fr_x8_becomeP h) (by intro k h1 h2 h3 h4 h; first | (simp at h; omega) | simp at h) (by intro k h1 h2 h3 h4 h5 h; first | (simp at h; omega) | simp at h)
theorem FA.st (s t : MS) : FA s (setB s t) := ⟨fun k a _ _ _ => by show (if 1240 ≤ k ∧ k < 1260 then t.1 k else s.1 k) = s.1 k; exact if_neg (by omega), fun k a _ _ _ _ => by show (if 62 ≤ k ∧ k ≤ 70 then t.2.2.1 k else s.2.2.1 k) = s.2.2.1 k; exact if_neg (by omega)⟩
theorem FA.i {s o : MS} {k : Nat} {v : Int} (e : sI s k v = o) (h : k = 143 ∨ k = 145 ∨ k = 983 ∨ (1000 ≤ k ∧ k ≠ 9999)) : FA s o := ⟨fun j a b c d => q_Ii e (by omega), fun j _ _ _ _ _ => q_Ia e⟩
theorem fa_remember {s : MS} {ts : List MS} : pc (m_remember s ts) (fun q => FA s q.1) := by
  unfold m_remember
  refine pc_rg (pc_if (fun c => pc_if (fun c2 => pc_some (FA.st _ _)) (fun c2 => pc_none)) (fun c => pc_inb (pc_stn (fun s1 e1 => ?_))))
  have h1 : FA s s1 := FA.i e1 (by omega)
  exact pc_if (fun c2 => pc_some (h1.tr (FA.st _ _))) (fun c2 => pc_if (fun c3 => pc_some (h1.tr (FA.st _ _))) (fun c3 => pc_none))
theorem fa_finish {p0 p1 : Int} {s : MS} {ts : List MS} : pc (m_finish p0 p1 s ts) (fun q => FA s q.2.1) := by
  unfold m_finish
  refine pc_bn (fun q e => pc_bn (fun s2 e2 => pc_bn (fun w e3 => pc_some ?_)))
  exact ((fa_x1_settle e).tr (fa_x2_keep e2)).tr (fa_remember w e3)
theorem fa_undo {s : MS} {ts : List MS} : pc (m_x11_undo ts s) (fun q => FA s q.2.1) := by
  unfold m_x11_undo
  refine pc_rg (pc_rg (pc_if (fun c => pc_bn (fun q e => pc_some (fa_x11_refuse e))) (fun c => pc_stn (fun s2 e2 => pc_inb (pc_if (fun c2 => pc_bn (fun s3 e3 => pc_some ?_)) (fun c2 => pc_none))))))
  have h2 : FA s s2 := (FA.i (o := sI s 145 (gI s 145 - 1)) rfl (by omega)).tr (FA.i e2 (by omega))
  exact ((h2.tr (FA.st _ _)).tr (fa_x8_becomeP e3)).tr (FA.st _ _)
theorem fa_put {ts : List MS} {p0 : Int} {p1 : Int} {p2 : Int} {s : MS} : pc (m_x11_put ts p0 p1 p2 s) (fun q => FA s q.2.1) := by
  unfold m_x11_put
  refine pc_bn (fun r6 er6 => ?_)
  refine pc_rg ?_
  refine pc_if (fun _ => ?_) (fun _ => ?_)
  · skip
    unfold m_x11_put_J28
    refine pc_bn (fun qr4 eqr4 => ?_)
    have hqr4 := (FA.rf s).tr (fa_x11_refuse eqr4)
    exact pc_some hqr4
  · skip
    refine pc_bn (fun r10 er10 => ?_)
    refine pc_rg ?_
    refine pc_if (fun _ => ?_) (fun _ => ?_)
    · skip
      unfold m_x11_put_J28
      refine pc_bn (fun qr4 eqr4 => ?_)
      have hqr4 := (FA.rf s).tr (fa_x11_refuse eqr4)
      exact pc_some hqr4
    · skip
      refine pc_bn (fun r14 er14 => ?_)
      refine pc_rg ?_
      refine pc_if (fun _ => ?_) (fun _ => ?_)
      · skip
        unfold m_x11_put_J28
        refine pc_bn (fun qr4 eqr4 => ?_)
        have hqr4 := (FA.rf s).tr (fa_x11_refuse eqr4)
        exact pc_some hqr4
      · skip
        refine pc_bn (fun s18 es18 => ?_)
        have hs18 := (FA.rf s).tr (fa_x1_begin es18)
        refine pc_bn (fun qr21 eqr21 => ?_)
        have hqr21 := hs18.tr (fa_x1_tryPlant eqr21)
        refine pc_rg ?_
        refine pc_if (fun _ => ?_) (fun _ => ?_)
        · skip
          refine pc_bn (fun qr30 eqr30 => ?_)
          have hqr30 := hqr21.tr (fa_x11_refuse eqr30)
          exact pc_some hqr30
        · skip
          refine pc_bn (fun qr25 eqr25 => ?_)
          have hqr25 := hqr21.tr (fa_finish qr25 eqr25)
          exact pc_some hqr25
theorem fa_remove {ts : List MS} {p0 : Int} {p1 : Int} {s : MS} : pc (m_x11_remove ts p0 p1 s) (fun q => FA s q.2.1) := by
  unfold m_x11_remove
  refine pc_bn (fun r2 er2 => ?_)
  refine pc_rg ?_
  refine pc_if (fun _ => ?_) (fun _ => ?_)
  · skip
    refine pc_bn (fun qr21 eqr21 => ?_)
    have hqr21 := (FA.rf s).tr (fa_x11_refuse eqr21)
    exact pc_some hqr21
  · skip
    refine pc_bn (fun s6 es6 => ?_)
    have hs6 := (FA.rf s).tr (fa_x1_begin es6)
    refine pc_bn (fun qr9 eqr9 => ?_)
    have hqr9 := hs6.tr (fa_x1_tryUproot eqr9)
    refine pc_rg ?_
    refine pc_if (fun _ => ?_) (fun _ => ?_)
    · skip
      refine pc_bn (fun qr18 eqr18 => ?_)
      have hqr18 := hqr9.tr (fa_x11_refuse eqr18)
      exact pc_some hqr18
    · skip
      refine pc_bn (fun qr13 eqr13 => ?_)
      have hqr13 := hqr9.tr (fa_finish qr13 eqr13)
      exact pc_some hqr13
theorem fa_copy {ts : List MS} {p0 : Int} {s : MS} : pc (m_x11_copy ts p0 s) (fun q => FA s q.2.1) := by
  unfold m_x11_copy
  refine pc_bn (fun r6 er6 => ?_)
  refine pc_bn (fun r8 er8 => ?_)
  refine pc_rg ?_
  refine pc_if (fun _ => ?_) (fun _ => ?_)
  · skip
    unfold m_x11_copy_J30
    refine pc_bn (fun qr4 eqr4 => ?_)
    have hqr4 := (FA.rf s).tr (fa_x11_refuse eqr4)
    exact pc_some hqr4
  · skip
    refine pc_rg ?_
    refine pc_if (fun _ => ?_) (fun _ => ?_)
    · skip
      unfold m_x11_copy_J30
      refine pc_bn (fun qr4 eqr4 => ?_)
      have hqr4 := (FA.rf s).tr (fa_x11_refuse eqr4)
      exact pc_some hqr4
    · skip
      refine pc_bn (fun s14 es14 => ?_)
      have hs14 := (FA.rf s).tr (fa_x1_begin es14)
      refine pc_bn (fun s16 es16 => ?_)
      have hs16 := hs14.tr (fa_x1_share es16)
      refine pc_bn (fun qr18 eqr18 => ?_)
      have hqr18 := hs16.tr (fa_finish qr18 eqr18)
      exact pc_some hqr18
theorem fa_drop {ts : List MS} {p0 : Int} {s : MS} : pc (m_x11_drop ts p0 s) (fun q => FA s q.2.1) := by
  unfold m_x11_drop
  refine pc_bn (fun r2 er2 => ?_)
  refine pc_rg ?_
  refine pc_if (fun _ => ?_) (fun _ => ?_)
  · skip
    refine pc_bn (fun qr19 eqr19 => ?_)
    have hqr19 := (FA.rf s).tr (fa_x11_refuse eqr19)
    exact pc_some hqr19
  · skip
    refine pc_bn (fun s6 es6 => ?_)
    have hs6 := (FA.rf s).tr (fa_x1_begin es6)
    refine pc_bn (fun r8 er8 => ?_)
    refine pc_bn (fun s10 es10 => ?_)
    have hs10 := hs6.tr (fa_x1_letGo es10)
    refine pc_bn (fun qr12 eqr12 => ?_)
    have hqr12 := hs10.tr (fa_finish qr12 eqr12)
    refine pc_bn (fun r16 er16 => ?_)
    exact pc_some hqr12
theorem fa_checkpoint {ts : List MS} {s : MS} : pc (m_x11_checkpoint ts s) (fun q => FA s q.2.1) := by
  unfold m_x11_checkpoint
  refine pc_rg ?_
  refine pc_if (fun _ => ?_) (fun _ => ?_)
  · skip
    refine pc_bn (fun qr15 eqr15 => ?_)
    have hqr15 := (FA.rf s).tr (fa_x11_refuse eqr15)
    exact pc_some hqr15
  · skip
    refine pc_bn (fun s4 es4 => ?_)
    have hs4 := (FA.rf s).tr (fa_x1_begin es4)
    refine pc_bn (fun r6 er6 => ?_)
    refine pc_bn (fun s8 es8 => ?_)
    have hs8 := hs4.tr (fa_x8_save es8)
    refine pc_bn (fun qr10 eqr10 => ?_)
    have hqr10 := hs8.tr (fa_finish qr10 eqr10)
    exact pc_some hqr10
theorem fa_crash {ts : List MS} {s : MS} : pc (m_x11_crash ts s) (fun q => FA s q.2.1) := by
  unfold m_x11_crash
  refine pc_rg ?_
  refine pc_if (fun _ => ?_) (fun _ => ?_)
  · skip
    refine pc_bn (fun qr15 eqr15 => ?_)
    have hqr15 := (FA.rf s).tr (fa_x11_refuse eqr15)
    exact pc_some hqr15
  · skip
    refine pc_bn (fun s4 es4 => ?_)
    have hs4 := (FA.rf s).tr (fa_x1_begin es4)
    refine pc_bn (fun r6 er6 => ?_)
    refine pc_bn (fun s8 es8 => ?_)
    have hs8 := hs4.tr (fa_x8_fallBack es8)
    refine pc_bn (fun qr10 eqr10 => ?_)
    have hqr10 := hs8.tr (fa_finish qr10 eqr10)
    exact pc_some hqr10
theorem fa_chance {ts : List MS} {p0 : Int} {s : MS} : pc (m_x11_chance ts p0 s) (fun q => FA s q.2.1) := by
  have L : ∀ (n : Nat) (x1 x2 x3 : Int) (S : MS), FA s S → pc (m_x11_chance_L35 ts n x1 x2 x3 S) (fun q => FA s q.2.1) := by
    refine fr_ind (fun _ _ _ _ _ => pc_none) (fun n ih x1 x2 x3 S hS => ?_)
    show pc (m_x11_chance_b35 ts (m_x11_chance_L35 ts n) x1 x2 x3 S) _
    unfold m_x11_chance_b35
    refine pc_rg (pc_rg (pc_if (fun _ => pc_bn (fun q e => pc_some (hS.tr (fa_finish q e)))) (fun _ => pc_bn (fun q e => pc_rg (pc_if (fun _ => ?_) (fun _ => ?_))))))
    · exact ih _ _ _ _ (hS.tr (fa_x1_actBySeed e))
    · exact ih _ _ _ _ (hS.tr (fa_x1_actBySeed e))
  have J : pc (m_x11_chance_J18 ts s) (fun q => FA s q.2.1) := by
    unfold m_x11_chance_J18
    exact pc_bn (fun q e => pc_some (fa_x11_refuse e))
  unfold m_x11_chance
  exact pc_rg (pc_if (fun _ => J) (fun _ => pc_rg (pc_if (fun _ => J) (fun _ => pc_rg (pc_if (fun _ => pc_bn (fun s32 e => L FU _ _ _ _ (fa_x1_begin e))) (fun _ => J))))))
/-- the tape's bytes stay when a store is told -/
theorem k4_store {s : MS} : pc (m_x11_store s) (fun q => gA q.2 4 = gA s 4) := by
  unfold m_x11_store
  refine pc_bn (fun q e => pc_stn (fun s4 e4 => pc_rg (pc_if (fun _ => pc_bn (fun q17 e17 => pc_some ?_)) (fun _ => pc_eqg (pc_stn (fun s8 e8 => pc_bn (fun s10 e10 => pc_bn (fun s12 e12 => pc_stn (fun s13 e13 => pc_stn (fun s14 e14 => pc_some ?_))))))))))
  · exact ((fr_x11_refuse e17).2.1 4 (by decide)).trans ((q_Ia e4).trans ((fr_x6_readStore e).2.1 4 (by decide)))
  · have h8 : gA s8 4 = gA s4 4 := (q_Ia e8).trans (by show (if 29 ≤ 4 ∧ 4 ≤ 38 then s4.2.2.1 (4 + 10) else if 39 ≤ 4 ∧ 4 ≤ 48 then s4.2.2.1 (4 - 10) else s4.2.2.1 4) = s4.2.2.1 4; rw [if_neg (by omega), if_neg (by omega)])
    exact (q_Ia e14).trans ((q_Ia e13).trans (((fr_x2_clear e12).2.1 4 (by decide)).trans (((fr_x1_build e10).2.1 4 (by decide)).trans (h8.trans ((q_Ia e4).trans ((fr_x6_readStore e).2.1 4 (by decide)))))))
/-! ===== both tapes have the same bytes ===== -/
theorem and_eq {X Y : Int32} (h : X.toBitVec.toNat % 256 = Y.toBitVec.toNat % 256) : (X &&& i2 255).toInt = (Y &&& i2 255).toInt := by
  have e : ∀ Z : Int32, (Z &&& i2 255).toInt = (Z.toBitVec &&& 255#32).toInt := fun Z => rfl
  rw [e, e]
  have e2 : X.toBitVec &&& 255#32 = Y.toBitVec &&& 255#32 := by
    apply BitVec.eq_of_toNat_eq
    rw [BitVec.toNat_and, BitVec.toNat_and]
    show X.toBitVec.toNat &&& (2 ^ 8 - 1) = Y.toBitVec.toNat &&& (2 ^ 8 - 1)
    rw [Nat.and_two_pow_sub_one_eq_mod, Nat.and_two_pow_sub_one_eq_mod]
    exact h
  rw [e2]
theorem tI_c (x : Int32) : (2 * x.toBitVec.toNat < 4294967296 ∧ x.toInt = (x.toBitVec.toNat : Int)) ∨ (4294967296 ≤ 2 * x.toBitVec.toNat ∧ x.toInt = (x.toBitVec.toNat : Int) - 4294967296) := by
  have h : x.toInt = if 2 * x.toBitVec.toNat < 2 ^ 32 then (x.toBitVec.toNat : Int) else (x.toBitVec.toNat : Int) - ((2 ^ 32 : Nat) : Int) := BitVec.toInt_eq_toNat_cond _
  by_cases c : 2 * x.toBitVec.toNat < 2 ^ 32
  · rw [if_pos c] at h; exact Or.inl ⟨by omega, h⟩
  · rw [if_neg c] at h; exact Or.inr ⟨by omega, by omega⟩
theorem sh_eq (v : Int) {k : Int} (hk : k = 0 ∨ k = 8 ∨ k = 16 ∨ k = 24) : andZ (shrZ v k) 255 = andZ (ushrZ v k) 255 := by
  unfold andZ
  have a : i2 (shrZ v k) = i2 v >>> (i2 k &&& 31) := Int32.ofInt_toInt _
  have b : i2 (ushrZ v k) = ushr (i2 v) (i2 k) := Int32.ofInt_toInt _
  rw [a, b]
  apply and_eq
  generalize i2 v = w
  have cw := tI_c w
  have hw : w.toBitVec.toNat < 4294967296 := w.toBitVec.isLt
  rcases hk with h | h | h | h
  · subst h
    have h1 := pk_shr w (i2 0 &&& 31) 0 (by decide)
    have h2 := pk_ushr w (i2 0) 0 (by decide)
    have cx := tI_c (w >>> (i2 0 &&& 31))
    have h2 : (ushr w (i2 0)).toBitVec.toNat = w.toBitVec.toNat / 2 ^ 0 := h2
    rw [Int.shiftRight_eq_div_pow] at h1
    rw [h2]
    omega
  · subst h
    have h1 := pk_shr w (i2 8 &&& 31) 8 (by decide)
    have h2 := pk_ushr w (i2 8) 8 (by decide)
    have cx := tI_c (w >>> (i2 8 &&& 31))
    have h2 : (ushr w (i2 8)).toBitVec.toNat = w.toBitVec.toNat / 2 ^ 8 := h2
    rw [Int.shiftRight_eq_div_pow] at h1
    rw [h2]
    omega
  · subst h
    have h1 := pk_shr w (i2 16 &&& 31) 16 (by decide)
    have h2 := pk_ushr w (i2 16) 16 (by decide)
    have cx := tI_c (w >>> (i2 16 &&& 31))
    have h2 : (ushr w (i2 16)).toBitVec.toNat = w.toBitVec.toNat / 2 ^ 16 := h2
    rw [Int.shiftRight_eq_div_pow] at h1
    rw [h2]
    omega
  · subst h
    have h1 := pk_shr w (i2 24 &&& 31) 24 (by decide)
    have h2 := pk_ushr w (i2 24) 24 (by decide)
    have cx := tI_c (w >>> (i2 24 &&& 31))
    have h2 : (ushr w (i2 24)).toBitVec.toNat = w.toBitVec.toNat / 2 ^ 24 := h2
    rw [Int.shiftRight_eq_div_pow] at h1
    rw [h2]
    omega
/-- the i-th byte of a number -/
def bz (v : Int) (i : Nat) : Int := andZ (ushrZ v (24 - 8 * (i : Int))) 255
theorem fb_eq {v x : Int} (hx : 0 ≤ x) : andZ (shrZ v (8 * (3 - Int.tmod x 4))) 255 = bz v (x.toNat % 4) := by
  have km : Int.tmod x 4 = x % 4 := Int.tmod_eq_emod_of_nonneg hx
  have h4 : x.toNat % 4 = 0 ∨ x.toNat % 4 = 1 ∨ x.toNat % 4 = 2 ∨ x.toNat % 4 = 3 := by omega
  unfold bz
  rcases h4 with h | h | h | h
  · rw [km, h, show 8 * (3 - x % 4) = 24 by omega, show (24 - 8 * ((0 : Nat) : Int) : Int) = 24 by omega]; exact sh_eq v (by omega)
  · rw [km, h, show 8 * (3 - x % 4) = 16 by omega, show (24 - 8 * ((1 : Nat) : Int) : Int) = 16 by omega]; exact sh_eq v (by omega)
  · rw [km, h, show 8 * (3 - x % 4) = 8 by omega, show (24 - 8 * ((2 : Nat) : Int) : Int) = 8 by omega]; exact sh_eq v (by omega)
  · rw [km, h, show 8 * (3 - x % 4) = 0 by omega, show (24 - 8 * ((3 : Nat) : Int) : Int) = 0 by omega]; exact sh_eq v (by omega)
theorem t_append {v : Int} {s : MS} (h : 0 ≤ gI s 61 ∧ gI s 61 + 4 ≤ 1600) : pc (m_x9_append v s) (fun o => gI o 61 = gI s 61 + 4 ∧ (∀ j : Nat, (j : Int) < gI s 61 → gA o 4 j = gA s 4 j) ∧ ∀ i : Nat, i < 4 → gA o 4 ((gI s 61).toNat + i) = bz v i) := by
  have L3 : ∀ (n : Nat) (x3 : Int) (S : MS) (i : Nat), i ≤ 4 → x3 = 24 - 8 * (i : Int) → gI S 61 = gI s 61 + (i : Int) → (∀ j : Nat, (j : Int) < gI s 61 → gA S 4 j = gA s 4 j) → (∀ a : Nat, a < i → gA S 4 ((gI s 61).toNat + a) = bz v a) → pc (m_x9_append_L3 n v x3 S) (fun o => gI o 61 = gI s 61 + 4 ∧ (∀ j : Nat, (j : Int) < gI s 61 → gA o 4 j = gA s 4 j) ∧ ∀ i : Nat, i < 4 → gA o 4 ((gI s 61).toNat + i) = bz v i) := by
    refine fr_ind (fun _ _ _ _ _ _ _ _ => pc_none) (fun n ih x3 S i hi hx h61 hj ha => ?_)
    show pc (m_x9_append_b3 (m_x9_append_L3 n) v x3 S) _
    unfold m_x9_append_b3 m_x9_append_J49
    refine pc_rg (pc_if (fun c => pc_some ⟨by omega, hj, fun a h4 => ha a (by omega)⟩) (fun c => pc_rg (pc_if (fun c2 => by exfalso; omega) (fun c2 => pc_inb (pc_stn (fun s10 e10 => pc_stn (fun s11 e11 => ?_)))))))
    have u4 : gA s11 4 = upZ (gA S 4) (gI S 61).toNat (andZ (ushrZ v x3) 255) := (q_Ia e11).trans (q_AA e10)
    have u61 : gI s11 61 = gI S 61 + 1 := by rw [(q_II e11 : gI s11 61 = _), (q_Ai e10 : gI s10 61 = gI S 61)]
    refine ih (x3 + (-8)) s11 (i + 1) (by omega) (by omega) (by omega) (fun j h9 => ?_) (fun a h9 => ?_)
    · rw [u4, upZ_n (by omega)]; exact hj j h9
    · rw [u4]
      by_cases z : a = i
      · rw [z, show (gI s 61).toNat + i = (gI S 61).toNat by omega, upZ_s, hx]; rfl
      · rw [upZ_n (by omega)]; exact ha a (by omega)
  unfold m_x9_append
  exact L3 FU 24 s 0 (by omega) (by omega) (by omega) (fun _ _ => rfl) (fun a h9 => by omega)
def w5 (p0 p1 p2 p3 p4 : Int) (k : Nat) : Int := if k < 4 then p0 else if k < 8 then p1 else if k < 12 then p2 else if k < 16 then p3 else p4
/-- what a feed lays -/
def fb (p0 p1 p2 p3 p4 : Int) (k : Nat) : Int := bz (w5 p0 p1 p2 p3 p4 k) (k % 4)
def FD (f g : Nat → Int) (n : Int) (b : Nat → Int) : Prop := (∀ j : Nat, (j : Int) < n → g j = f j) ∧ ∀ k : Nat, k < 20 → g (n.toNat + k) = b k
theorem t_feed1 {p0 p1 p2 p3 p4 : Int} {s : MS} (hR : Rg s) : pc (m_x11_feed p0 p1 p2 p3 p4 s) (fun q => (1580 < gI s 61 ∧ gA q.2 4 = gA s 4) ∨ (gI s 61 ≤ 1580 ∧ FD (gA s 4) (gA q.2 4) (gI s 61) (fb p0 p1 p2 p3 p4))) := by
  have r61 : (0 : Int) ≤ gI s 61 ∧ gI s 61 ≤ 1600 := hR.1 61
  unfold m_x11_feed
  refine pc_bn (fun r2 e2 => pc_rg (pc_if (fun c => pc_bn (fun q e => pc_some ?_)) (fun c => ?_)))
  · have h := wp_det (w_x9_hasRoom hR) e2
    exact Or.inl ⟨by omega, (fr_x11_refuse e).2.1 4 (by decide)⟩
  · have h := wp_det (w_x9_hasRoom hR) e2
    refine pc_bn (fun s6 e6 => pc_bn (fun s8 e8 => pc_bn (fun s10 e10 => pc_bn (fun s12 e12 => pc_bn (fun s14 e14 => pc_some (Or.inr ⟨by omega, ?_⟩))))))
    obtain ⟨l6, a6, b6⟩ := t_append (by omega) s6 e6
    obtain ⟨l8, a8, b8⟩ := t_append (by omega) s8 e8
    obtain ⟨l10, a10, b10⟩ := t_append (by omega) s10 e10
    obtain ⟨l12, a12, b12⟩ := t_append (by omega) s12 e12
    obtain ⟨l14, a14, b14⟩ := t_append (by omega) s14 e14
    refine ⟨fun j hj => ?_, fun k hk => ?_⟩
    · show gA s14 4 j = gA s 4 j
      rw [a14 j (by omega), a12 j (by omega), a10 j (by omega), a8 j (by omega), a6 j (by omega)]
    · show gA s14 4 ((gI s 61).toNat + k) = bz (w5 p0 p1 p2 p3 p4 k) (k % 4)
      unfold w5
      by_cases c1 : k < 4
      · rw [if_pos c1, a14 _ (by omega), a12 _ (by omega), a10 _ (by omega), a8 _ (by omega), b6 k c1, show k % 4 = k by omega]
      · rw [if_neg c1]
        by_cases c2 : k < 8
        · rw [if_pos c2, a14 _ (by omega), a12 _ (by omega), a10 _ (by omega), show (gI s 61).toNat + k = (gI s6 61).toNat + (k - 4) by omega, b8 (k - 4) (by omega), show k % 4 = k - 4 by omega]
        · rw [if_neg c2]
          by_cases c3 : k < 12
          · rw [if_pos c3, a14 _ (by omega), a12 _ (by omega), show (gI s 61).toNat + k = (gI s8 61).toNat + (k - 8) by omega, b10 (k - 8) (by omega), show k % 4 = k - 8 by omega]
          · rw [if_neg c3]
            by_cases c4 : k < 16
            · rw [if_pos c4, a14 _ (by omega), show (gI s 61).toNat + k = (gI s10 61).toNat + (k - 12) by omega, b12 (k - 12) (by omega), show k % 4 = k - 12 by omega]
            · rw [if_neg c4, show (gI s 61).toNat + k = (gI s12 61).toNat + (k - 16) by omega, b14 (k - 16) (by omega), show k % 4 = k - 16 by omega]
theorem t_feed2 {p0 p1 p2 p3 p4 : Int} {t : MS} (hR : Rr t) : pc (m_x12_feed p0 p1 p2 p3 p4 t) (fun q => (1580 < gI t 1 ∧ gA q.2 0 = gA t 0) ∨ (gI t 1 ≤ 1580 ∧ FD (gA t 0) (gA q.2 0) (gI t 1) (fb p0 p1 p2 p3 p4))) := by
  have r1 : (0 : Int) ≤ gI t 1 ∧ gI t 1 ≤ 1600 := hR.1 1
  unfold m_x12_feed
  refine pc_rg (pc_if (fun c => ?_) (fun c => pc_rdI (fun _ => pc_inb (pc_stn (fun s34 e34 => pc_some (Or.inl ⟨by omega, q_Aa e34 (by decide)⟩))))))
  have L28 : ∀ (n : Nat) (x : Int) (S : MS), (0 ≤ x ∧ x ≤ 20) → gI S 1 = gI t 1 + x → (∀ j : Nat, (j : Int) < gI t 1 → gA S 0 j = gA t 0 j) → (∀ k : Nat, (k : Int) < x → gA S 0 ((gI t 1).toNat + k) = fb p0 p1 p2 p3 p4 k) → pc (m_x12_feed_L28 n p0 p1 p2 p3 p4 x S) (fun q => (1580 < gI t 1 ∧ gA q.2 0 = gA t 0) ∨ (gI t 1 ≤ 1580 ∧ FD (gA t 0) (gA q.2 0) (gI t 1) (fb p0 p1 p2 p3 p4))) := by
    refine fr_ind (fun _ _ _ _ _ _ => pc_none) (fun n ih x S hx h1 hj hk => ?_)
    show pc (m_x12_feed_b28 (m_x12_feed_L28 n) p0 p1 p2 p3 p4 x S) _
    unfold m_x12_feed_b28
    refine pc_rg (pc_if (fun c1 => pc_some (Or.inr ⟨by omega, hj, fun k h9 => hk k (by omega)⟩)) (fun c1 => ?_))
    have J : ∀ v : Int, v = w5 p0 p1 p2 p3 p4 x.toNat → pc (m_x12_feed_J81 (m_x12_feed_L28 n) p0 p1 p2 p3 p4 x v S) (fun q => (1580 < gI t 1 ∧ gA q.2 0 = gA t 0) ∨ (gI t 1 ≤ 1580 ∧ FD (gA t 0) (gA q.2 0) (gI t 1) (fb p0 p1 p2 p3 p4))) := by
      intro v hv
      unfold m_x12_feed_J81
      refine pc_dv (pc_inb (pc_stn (fun s18 e18 => pc_stn (fun s19 e19 => ?_))))
      have u0 : gA s19 0 = upZ (gA S 0) (gI S 1).toNat (bz v (x.toNat % 4)) := by rw [(q_Ia e19 : gA s19 0 = gA s18 0), (q_AA e18 : gA s18 0 = _), fb_eq hx.1]
      have u1 : gI s19 1 = gI S 1 + 1 := by rw [(q_II e19 : gI s19 1 = _), (q_Ai e18 : gI s18 1 = gI S 1)]
      refine ih (x + 1) s19 (by omega) (by omega) (fun j h9 => ?_) (fun k h9 => ?_)
      · rw [u0, upZ_n (by omega)]; exact hj j h9
      · rw [u0]
        by_cases z : k = x.toNat
        · rw [z, show (gI t 1).toNat + x.toNat = (gI S 1).toNat by omega, upZ_s, hv]; rfl
        · rw [upZ_n (by omega)]; exact hk k (by omega)
    refine pc_rg (pc_if (fun c2 => pc_rg (pc_if (fun c3 => pc_rg (pc_if (fun c4 => pc_rg (pc_if (fun c5 => J _ ?_) (fun c5 => J _ ?_))) (fun c4 => J _ ?_))) (fun c3 => J _ ?_))) (fun c2 => J _ ?_))
    · unfold w5; rw [if_neg (by omega), if_neg (by omega), if_neg (by omega), if_neg (by omega)]
    · unfold w5; rw [if_neg (by omega), if_neg (by omega), if_neg (by omega), if_pos (by omega)]
    · unfold w5; rw [if_neg (by omega), if_neg (by omega), if_pos (by omega)]
    · unfold w5; rw [if_neg (by omega), if_pos (by omega)]
    · unfold w5; rw [if_pos (by omega)]
  exact L28 FU 0 t (by omega) (by omega) (fun _ _ => rfl) (fun k h9 => by omega)
/-- bytes alike -/
def TBJ (x t : MS) : Prop := ∀ j : Nat, (j : Int) < gI x 61 → gA x 4 j = gA t 0 j
theorem TB_k {x x1 t t1 : MS} (H : TBJ x t) (h4 : gA x1 4 = gA x 4) (h0 : gA t1 0 = gA t 0) (hl : gI x1 61 ≤ gI x 61) : TBJ x1 t1 := fun j hj => by rw [h4, h0]; exact H j (by omega)
theorem TB_feed {x x1 t t1 : MS} {b : Nat → Int} (H : TBJ x t) (hl : gI x 61 = gI t 1) (h0 : 0 ≤ gI x 61) (hx : (1580 < gI x 61 ∧ gA x1 4 = gA x 4) ∨ (gI x 61 ≤ 1580 ∧ FD (gA x 4) (gA x1 4) (gI x 61) b)) (ht : (1580 < gI t 1 ∧ gA t1 0 = gA t 0) ∨ (gI t 1 ≤ 1580 ∧ FD (gA t 0) (gA t1 0) (gI t 1) b)) (h1 : (1580 < gI x 61 ∧ gI x1 61 = gI x 61) ∨ gI x1 61 = gI x 61 + 20) (h1b : gI x1 61 ≤ 1600) : TBJ x1 t1 := by
  rcases hx with ⟨a, a4⟩ | ⟨a, fx⟩
  · rcases ht with ⟨_, b0⟩ | ⟨c, _⟩
    · exact fun j hj => by
        rw [a4, b0]
        rcases h1 with ⟨_, g⟩ | g
        · exact H j (by omega)
        · by_cases z : (j : Int) < gI x 61
          · exact H j z
          · exfalso; omega
    · omega
  · rcases ht with ⟨c, _⟩ | ⟨c, ft⟩
    · omega
    · intro j hj
      by_cases z : (j : Int) < gI x 61
      · rw [fx.1 j z, ft.1 j (by omega)]; exact H j z
      · have e : j = (gI x 61).toNat + (j - (gI x 61).toNat) := by omega
        rw [e, fx.2 _ (by omega), hl, ft.2 _ (by omega)]
/-! ===== what see answers ===== -/
def okS (f : Nat → Int) (n : Int) : Prop := (n % 4 = 0 ∧ 1 ≤ n / 4 ∧ n / 4 ≤ 12) ∧ ∀ i : Nat, (i : Int) < n / 4 → 256 * f (4 * i) + f (4 * i + 1) ≤ 999 ∧ 256 * f (4 * i + 2) + f (4 * i + 3) ≤ 1000
theorem t_at {p0 : Int} {s : MS} (h : 0 ≤ p0 ∧ p0 < gI s 61) : pc (m_x9_at p0 s) (fun r => r = gA s 4 p0.toNat) := by
  unfold m_x9_at m_x9_at_J22
  exact pc_rg (pc_if (fun c => by exfalso; omega) (fun c => pc_rg (pc_rg (pc_if (fun c2 => by exfalso; omega) (fun c2 => pc_rdI (fun _ => pc_some rfl))))))
theorem t_pair {p0 : Int} {s : MS} (h : 0 ≤ p0 ∧ p0 + 1 < gI s 61) : pc (m_x9_pair p0 s) (fun r => r = 256 * gA s 4 p0.toNat + gA s 4 (p0.toNat + 1)) := by
  unfold m_x9_pair
  refine pc_bn (fun r2 e2 => pc_bn (fun r4 e4 => pc_some ?_))
  have h2 := t_at (by omega) r2 e2
  have h4 := t_at (by omega) r4 e4
  dsimp only at h2 h4
  rw [h2, h4, show (p0 + 1).toNat = p0.toNat + 1 by omega]
  omega
theorem t_take {s : MS} (h0 : 0 ≤ gI s 61) : pc (m_x7_take s) (fun q => (okS (gA s 4) (gI s 61) ∧ q.1 = 1 ∧ gI q.2 220 = gI s 61 / 4) ∨ (¬ okS (gA s 4) (gI s 61) ∧ q.1 = 0)) := by
  have kd : Int.tdiv (gI s 61) 4 = gI s 61 / 4 := Int.tdiv_eq_ediv_of_nonneg h0
  have km : Int.tmod (gI s 61) 4 = gI s 61 % 4 := Int.tmod_eq_emod_of_nonneg h0
  unfold m_x7_take m_x7_take_J27
  rw [kd, km]
  refine pc_dv (pc_dv (pc_rg (pc_if (fun c1 => pc_rg (pc_if (fun c2 => pc_some (Or.inr ⟨fun w => by have := w.1.2.1; omega, rfl⟩)) (fun c2 => pc_rg (pc_if (fun c3 => ?_) (fun c3 => pc_some (Or.inr ⟨fun w => by have := w.1.2.2; omega, rfl⟩)))))) (fun c1 => pc_some (Or.inr ⟨fun w => by have := w.1.1; omega, rfl⟩)))))
  have L74 : okS (gA s 4) (gI s 61) → ∀ (n : Nat) (x : Int) (S : MS), pc (m_x7_take_L74 n (gI s 61 / 4) x S) (fun q => (okS (gA s 4) (gI s 61) ∧ q.1 = 1 ∧ gI q.2 220 = gI s 61 / 4) ∨ (¬ okS (gA s 4) (gI s 61) ∧ q.1 = 0)) := by
    intro ok
    refine fr_ind (fun _ _ => pc_none) (fun n ih x S => ?_)
    show pc (m_x7_take_b74 (m_x7_take_L74 n) (gI s 61 / 4) x S) _
    unfold m_x7_take_b74
    exact pc_rg (pc_rg (pc_if (fun c => pc_stn (fun s7 e7 => pc_some (Or.inl ⟨ok, rfl, q_II e7⟩))) (fun c => pc_bn (fun r9 _ => pc_inb (pc_stn (fun s11 _ => pc_bn (fun r13 _ => pc_inb (pc_stn (fun s15 _ => ih (x + 1) s15)))))))))
  have L31 : ∀ (n : Nat) (x : Int), 0 ≤ x → (∀ i : Nat, (i : Int) < x → 256 * gA s 4 (4 * i) + gA s 4 (4 * i + 1) ≤ 999 ∧ 256 * gA s 4 (4 * i + 2) + gA s 4 (4 * i + 3) ≤ 1000) → pc (m_x7_take_L31 n (gI s 61 / 4) x s) (fun q => (okS (gA s 4) (gI s 61) ∧ q.1 = 1 ∧ gI q.2 220 = gI s 61 / 4) ∨ (¬ okS (gA s 4) (gI s 61) ∧ q.1 = 0)) := by
    refine fr_ind (fun _ _ _ => pc_none) (fun n ih x hx hd => ?_)
    show pc (m_x7_take_b31 (m_x7_take_L31 n) (gI s 61 / 4) x s) _
    unfold m_x7_take_b31 m_x7_take_J64
    refine pc_rg (pc_rg (pc_if (fun c => L74 ⟨⟨c1, by omega, c3⟩, fun i hi => hd i (by omega)⟩ FU 0 s) (fun c => pc_bn (fun r24 e24 => pc_rg (pc_if (fun c4 => pc_some (Or.inr ⟨fun w => ?_, rfl⟩)) (fun c4 => pc_bn (fun r28 e28 => pc_rg (pc_if (fun c5 => ?_) (fun c5 => pc_some (Or.inr ⟨fun w => ?_, rfl⟩))))))))))
    · have h24 := t_pair (by omega) r24 e24
      dsimp only at h24
      have q := (w.2 x.toNat (by omega)).1
      rw [show (x * 4).toNat = 4 * x.toNat by omega] at h24
      omega
    · have h24 := t_pair (by omega) r24 e24
      have h28 := t_pair (by omega) r28 e28
      dsimp only at h24 h28
      rw [show (x * 4).toNat = 4 * x.toNat by omega] at h24
      rw [show (x * 4 + 2).toNat = 4 * x.toNat + 2 by omega, show 4 * x.toNat + 2 + 1 = 4 * x.toNat + 3 by omega] at h28
      refine ih (x + 1) (by omega) (fun i hi => ?_)
      by_cases z : i = x.toNat
      · rw [z]; exact ⟨by omega, by omega⟩
      · exact hd i (by omega)
    · have h28 := t_pair (by omega) r28 e28
      dsimp only at h28
      have q := (w.2 x.toNat (by omega)).2
      rw [show (x * 4 + 2).toNat = 4 * x.toNat + 2 by omega, show 4 * x.toNat + 2 + 1 = 4 * x.toNat + 3 by omega] at h28
      omega
  exact L31 FU 0 (by omega) (fun i hi => by omega)
theorem t_see1 {s : MS} (hR : Rg s) : pc (m_x11_see s) (fun q => (okS (gA s 4) (gI s 61) ∧ q.1 = gI s 61 / 4) ∨ (¬ okS (gA s 4) (gI s 61) ∧ q.1 = -1)) := by
  have r61 : (0 : Int) ≤ gI s 61 ∧ gI s 61 ≤ 1600 := hR.1 61
  unfold m_x11_see m_x11_see_J39
  refine pc_bn (fun q5 e5 => pc_stn (fun s6 e6 => pc_rg (pc_if (fun c => pc_bn (fun q11 e11 => pc_some ?_)) (fun c => pc_some ?_))))
  · have h5 := t_take r61.1 q5 e5
    dsimp only at h5
    rcases h5 with ⟨_, h, _⟩ | ⟨h, _⟩
    · omega
    · refine Or.inr ⟨h, ?_⟩
      unfold m_x11_refuse at e11
      have g : pc (m_x11_refuse 1 s6) (fun q => q.1 = -1) := by
        unfold m_x11_refuse
        exact pc_rdI (fun _ => pc_inb (pc_stn (fun _ _ => pc_some rfl)))
      exact g q11 (by unfold m_x11_refuse; exact e11)
  · have h5 := t_take r61.1 q5 e5
    dsimp only at h5
    rcases h5 with ⟨h, _, g⟩ | ⟨_, h⟩
    · exact Or.inl ⟨h, by show gI s6 220 = _; rw [(q_Ii e6 (by decide) : gI s6 220 = gI q5.2 220)]; exact g⟩
    · omega
theorem t_see2 {t : MS} (hR : Rr t) : pc (m_x12_see t) (fun q => (okS (gA t 0) (gI t 1) ∧ q.1 = gI t 1 / 4) ∨ (¬ okS (gA t 0) (gI t 1) ∧ q.1 = -1)) := by
  have r1 : (0 : Int) ≤ gI t 1 ∧ gI t 1 ≤ 1600 := hR.1 1
  have kd : Int.tdiv (gI t 1) 4 = gI t 1 / 4 := Int.tdiv_eq_ediv_of_nonneg r1.1
  have km : Int.tmod (gI t 1) 4 = gI t 1 % 4 := Int.tmod_eq_emod_of_nonneg r1.1
  have L121 : okS (gA t 0) (gI t 1) → ∀ (n : Nat) (x : Int) (S : MS), pc (m_x12_see_L121 n (gI t 1) x S) (fun q => (okS (gA t 0) (gI t 1) ∧ q.1 = gI t 1 / 4) ∨ (¬ okS (gA t 0) (gI t 1) ∧ q.1 = -1)) := by
    intro ok
    refine fr_ind (fun _ _ => pc_none) (fun n ih x S => ?_)
    show pc (m_x12_see_b121 (m_x12_see_L121 n) (gI t 1) x S) _
    unfold m_x12_see_b121
    exact pc_dv (pc_rg (pc_rg (pc_if (fun c => pc_dv (pc_stn (fun s9 e9 => pc_some (Or.inl ⟨ok, (q_II e9).trans kd⟩)))) (fun c => pc_rdI (fun _ => pc_rdI (fun _ => pc_inb (pc_stn (fun s13 _ => ih (x + 1) s13))))))))
  have RF : ∀ S : MS, pc (m_x12_refuses 1 S) (fun q => q.1 = -1) := by
    intro S
    unfold m_x12_refuses
    exact pc_rdI (fun _ => pc_inb (pc_stn (fun _ _ => pc_some rfl)))
  have J109 : ∀ (y : Int) (S : MS), (y ≠ 0 ∧ okS (gA t 0) (gI t 1)) ∨ (y = 0 ∧ ¬ okS (gA t 0) (gI t 1)) → pc (m_x12_see_J109 (gI t 1) y S) (fun q => (okS (gA t 0) (gI t 1) ∧ q.1 = gI t 1 / 4) ∨ (¬ okS (gA t 0) (gI t 1) ∧ q.1 = -1)) := by
    intro y S h
    unfold m_x12_see_J109
    refine pc_rg (pc_if (fun c => pc_bn (fun q e => pc_some (Or.inr ⟨?_, RF S q e⟩))) (fun c => L121 ?_ FU 0 S))
    · rcases h with h | h
      · exact absurd c h.1
      · exact h.2
    · rcases h with h | h
      · exact h.2
      · exact absurd h.1 c
  have L36 : ∀ (n : Nat) (y x : Int) (S : MS), gA S 0 = gA t 0 → (0 ≤ x ∧ x % 4 = 0) → (y = 0 ∧ ¬ okS (gA t 0) (gI t 1)) ∨ (y = 1 ∧ (gI t 1 % 4 = 0 ∧ 1 ≤ gI t 1 / 4 ∧ gI t 1 / 4 ≤ 12) ∧ ∀ i : Nat, 4 * (i : Int) < x → 256 * gA t 0 (4 * i) + gA t 0 (4 * i + 1) ≤ 999 ∧ 256 * gA t 0 (4 * i + 2) + gA t 0 (4 * i + 3) ≤ 1000) → pc (m_x12_see_L36 n (gI t 1) y x S) (fun q => (okS (gA t 0) (gI t 1) ∧ q.1 = gI t 1 / 4) ∨ (¬ okS (gA t 0) (gI t 1) ∧ q.1 = -1)) := by
    refine fr_ind (fun _ _ _ _ _ _ => pc_none) (fun n ih y x S h0 hx hy => ?_)
    show pc (m_x12_see_b36 (m_x12_see_L36 n) (gI t 1) y x S) _
    unfold m_x12_see_b36
    refine pc_rg (pc_rg (pc_if (fun c => J109 y S ?_) (fun c => pc_rg (pc_if (fun c2 => J109 y S ?_) (fun c2 => ?_)))))
    · rcases hy with h | ⟨h, h2, h3⟩
      · exact Or.inr h
      · exact Or.inl ⟨by omega, h2, fun i hi => h3 i (by omega)⟩
    · rcases hy with h | ⟨h, _⟩
      · exact Or.inr h
      · omega
    · obtain ⟨h2, h3⟩ : (gI t 1 % 4 = 0 ∧ 1 ≤ gI t 1 / 4 ∧ gI t 1 / 4 ≤ 12) ∧ ∀ i : Nat, 4 * (i : Int) < x → 256 * gA t 0 (4 * i) + gA t 0 (4 * i + 1) ≤ 999 ∧ 256 * gA t 0 (4 * i + 2) + gA t 0 (4 * i + 3) ≤ 1000 := by
        rcases hy with h | h
        · exact absurd h.1 c2
        · exact h.2
      rw [h0]
      have ix : x.toNat = 4 * (x.toNat / 4) := by omega
      refine pc_rdI (fun _ => pc_rdI (fun _ => pc_rg (pc_if (fun c3 => ?_) (fun c3 => pc_rdI (fun _ => pc_rdI (fun _ => pc_rg (pc_if (fun c4 => ?_) (fun c4 => ?_))))))))
      · unfold m_x12_see_J101 m_x12_see_J102
        refine ih 0 (x + 4) S h0 (by omega) (Or.inl ⟨rfl, fun w => ?_⟩)
        have q := (w.2 (x.toNat / 4) (by omega)).1
        rw [show (x + 1).toNat = x.toNat + 1 by omega] at c3
        rw [← ix] at q
        omega
      · unfold m_x12_see_J101 m_x12_see_J102
        refine ih 0 (x + 4) S h0 (by omega) (Or.inl ⟨rfl, fun w => ?_⟩)
        have q := (w.2 (x.toNat / 4) (by omega)).2
        rw [show (x + 2).toNat = x.toNat + 2 by omega, show (x + 3).toNat = x.toNat + 3 by omega] at c4
        rw [← ix] at q
        omega
      · unfold m_x12_see_J102
        refine ih 1 (x + 4) S h0 (by omega) (Or.inr ⟨rfl, h2, fun i hi => ?_⟩)
        by_cases z : i = x.toNat / 4
        · rw [show (x + 1).toNat = x.toNat + 1 by omega] at c3
          rw [show (x + 2).toNat = x.toNat + 2 by omega, show (x + 3).toNat = x.toNat + 3 by omega] at c4
          rw [z, ← ix]
          exact ⟨by omega, by omega⟩
        · exact h3 i (by omega)
  unfold m_x12_see m_x12_see_J32 m_x12_see_J33
  rw [kd, km]
  refine pc_stn (fun s51 e51 => ?_)
  have h0 : gA s51 0 = gA t 0 := q_Ia e51
  refine pc_rg (pc_if (fun c1 => L36 FU 0 0 s51 h0 (by omega) (Or.inl ⟨rfl, fun w => by have := w.1; omega⟩)) (fun c1 => pc_dv (pc_rg (pc_if (fun c2 => pc_dv (pc_rg (pc_if (fun c3 => L36 FU 0 0 s51 h0 (by omega) (Or.inl ⟨rfl, fun w => by have := w.1; omega⟩)) (fun c3 => L36 FU 1 0 s51 h0 (by omega) (Or.inr ⟨rfl, by omega, fun i hi => by omega⟩))))) (fun c2 => L36 FU 0 0 s51 h0 (by omega) (Or.inl ⟨rfl, fun w => by have := w.1; omega⟩))))))
theorem okS_c {f g : Nat → Int} {n : Int} (h : ∀ j : Nat, (j : Int) < n → f j = g j) : okS f n → okS g n := fun H => ⟨H.1, fun i hi => by
  have q := H.2 i hi
  rw [h _ (by omega), h _ (by omega), h _ (by omega), h _ (by omega)] at q
  exact q⟩
theorem see_alike {x t : MS} {r r2 : Int} (hl : gI x 61 = gI t 1) (hT : TBJ x t) (h1 : (okS (gA x 4) (gI x 61) ∧ r = gI x 61 / 4) ∨ (¬ okS (gA x 4) (gI x 61) ∧ r = -1)) (h2 : (okS (gA t 0) (gI t 1) ∧ r2 = gI t 1 / 4) ∨ (¬ okS (gA t 0) (gI t 1) ∧ r2 = -1)) : r = r2 := by
  have a : okS (gA x 4) (gI x 61) → okS (gA t 0) (gI t 1) := fun h => by rw [← hl]; exact okS_c hT h
  have b : okS (gA t 0) (gI t 1) → okS (gA x 4) (gI x 61) := fun h => by rw [← hl] at h; exact okS_c (fun j hj => (hT j hj).symm) h
  rcases h1 with ⟨u, v⟩ | ⟨u, v⟩
  · rcases h2 with ⟨_, w⟩ | ⟨z, _⟩
    · rw [v, w, hl]
    · exact absurd (a u) z
  · rcases h2 with ⟨z, _⟩ | ⟨_, w⟩
    · exact absurd (b z) u
    · rw [v, w]
