/-! ===== what acts leave as it was ===== -/
/-- tape, reader, plans, what is seen, the picture stay -/
def FA (s o : MS) : Prop := (∀ k, (k < 1000 ∨ k = 9999) → k ≠ 143 → k ≠ 145 → k ≠ 983 → gI o k = gI s k) ∧ (∀ k, k < 50 → k ≠ 2 → k ≠ 8 → k ≠ 9 → k ≠ 10 → gA o k = gA s k)
theorem FA.rf (s : MS) : FA s s := ⟨fun _ _ _ _ _ => rfl, fun _ _ _ _ _ _ => rfl⟩
theorem FA.tr {s o q : MS} (h : FA s o) (g : FA o q) : FA s q := ⟨fun k a b c d => (g.1 k a b c d).trans (h.1 k a b c d), fun k a b c d e => (g.2 k a b c d e).trans (h.2 k a b c d e)⟩
theorem FA.of {I A L B : List Nat} {s o : MS} (h : Fr I A L B s o) (hi : ∀ k, (k < 1000 ∨ k = 9999) → k ≠ 143 → k ≠ 145 → k ≠ 983 → k ∉ I) (ha : ∀ k, k < 50 → k ≠ 2 → k ≠ 8 → k ≠ 9 → k ≠ 10 → k ∉ A) : FA s o := ⟨fun k a b c d => h.1 k (hi k a b c d), fun k a b c d e => h.2.1 k (ha k a b c d e)⟩
theorem fa_x11_refuse {p0 : Int} {s : MS} {o : (Int × MS)} (h : m_x11_refuse p0 s = some o) : FA s o.2 := FA.of (fr_x11_refuse h) (by intro k h1 h2 h3 h4 h; first | (simp at h; omega) | simp at h) (by intro k h1 h2 h3 h4 h5 h; first | (simp at h; omega) | simp at h)
theorem fa_x1_begin {s : MS} {o : MS} (h : m_x1_begin s = some o) : FA s o := FA.of (fr_x1_begin h) (by intro k h1 h2 h3 h4 h; first | (simp at h; omega) | simp at h) (by intro k h1 h2 h3 h4 h5 h; first | (simp at h; omega) | simp at h)
theorem fa_x1_tryPlant {p0 : Int} {p1 : Int} {p2 : Int} {s : MS} {o : (Int × MS)} (h : m_x1_tryPlant p0 p1 p2 s = some o) : FA s o.2 := FA.of (fr_x1_tryPlant h) (by intro k h1 h2 h3 h4 h; first | (simp at h; omega) | simp at h) (by intro k h1 h2 h3 h4 h5 h; first | (simp at h; omega) | simp at h)
theorem fa_x1_tryUproot {p0 : Int} {p1 : Int} {s : MS} {o : (Int × MS)} (h : m_x1_tryUproot p0 p1 s = some o) : FA s o.2 := FA.of (fr_x1_tryUproot h) (by intro k h1 h2 h3 h4 h; first | (simp at h; omega) | simp at h) (by intro k h1 h2 h3 h4 h5 h; first | (simp at h; omega) | simp at h)
theorem fa_x1_share {p0 : Int} {p1 : Int} {s : MS} {o : MS} (h : m_x1_share p0 p1 s = some o) : FA s o := FA.of (fr_x1_share h) (by intro k h1 h2 h3 h4 h; first | (simp at h; omega) | simp at h) (by intro k h1 h2 h3 h4 h5 h; first | (simp at h; omega) | simp at h)
theorem fa_x1_letGo {p0 : Int} {s : MS} {o : MS} (h : m_x1_letGo p0 s = some o) : FA s o := FA.of (fr_x1_letGo h) (by intro k h1 h2 h3 h4 h; first | (simp at h; omega) | simp at h) (by intro k h1 h2 h3 h4 h5 h; first | (simp at h; omega) | simp at h)
theorem fa_x8_save {s : MS} {o : MS} (h : m_x8_save s = some o) : FA s o := FA.of (fr_x8_save h) (by intro k h1 h2 h3 h4 h; first | (simp at h; omega) | simp at h) (by intro k h1 h2 h3 h4 h5 h; first | (simp at h; omega) | simp at h)
theorem fa_x8_fallBack {s : MS} {o : MS} (h : m_x8_fallBack s = some o) : FA s o := FA.of (fr_x8_fallBack h) (by intro k h1 h2 h3 h4 h; first | (simp at h; omega) | simp at h) (by intro k h1 h2 h3 h4 h5 h; first | (simp at h; omega) | simp at h)
theorem fa_x1_actBySeed {s : MS} {o : (Int × MS)} (h : m_x1_actBySeed s = some o) : FA s o.2 := FA.of (fr_x1_actBySeed h) (by intro k h1 h2 h3 h4 h; first | (simp at h; omega) | simp at h) (by intro k h1 h2 h3 h4 h5 h; first | (simp at h; omega) | simp at h)
theorem fa_x1_settle {s : MS} {o : (Int × MS)} (h : m_x1_settle s = some o) : FA s o.2 := FA.of (fr_x1_settle h) (by intro k h1 h2 h3 h4 h; first | (simp at h; omega) | simp at h) (by intro k h1 h2 h3 h4 h5 h; first | (simp at h; omega) | simp at h)
theorem fa_x2_keep {p0 : Int} {p1 : Int} {p2 : Int} {s : MS} {o : MS} (h : m_x2_keep p0 p1 p2 s = some o) : FA s o := FA.of (fr_x2_keep h) (by intro k h1 h2 h3 h4 h; first | (simp at h; omega) | simp at h) (by intro k h1 h2 h3 h4 h5 h; first | (simp at h; omega) | simp at h)
theorem fa_x8_becomeP {s : MS} {o : MS} (h : m_x8_becomeP s = some o) : FA s o := FA.of (fr_x8_becomeP h) (by intro k h1 h2 h3 h4 h; first | (simp at h; omega) | simp at h) (by intro k h1 h2 h3 h4 h5 h; first | (simp at h; omega) | simp at h)
theorem FA.st (s t : MS) : FA s (setB s t) := ⟨fun k a _ _ _ => by show (if 1240 ≤ k ∧ k < 1260 then t.1 k else s.1 k) = s.1 k; exact if_neg (by omega), fun k a _ _ _ _ => by show (if 62 ≤ k ∧ k ≤ 70 then t.2.2.1 k else s.2.2.1 k) = s.2.2.1 k; exact if_neg (by omega)⟩
theorem FA.i {s o : MS} {k : Nat} {v : Int} (e : sI s k v = o) (h : k = 143 ∨ k = 145 ∨ k = 983 ∨ (1000 ≤ k ∧ k ≠ 9999)) : FA s o := ⟨fun j a b c d => q_Ii e (by omega), fun j _ _ _ _ _ => q_Ia e⟩
theorem fa_remember {s : MS} {ts : List MS} : pc (m_remember s ts) (fun q => FA s q.1) := by
  unfold m_remember
  refine pc_rg (pc_if (fun c => pc_if (fun c2 => pc_some (FA.st _ _)) (fun c2 => pc_none)) (fun c => pc_inb (pc_stn (fun s1 e1 => ?_))))
  have h1 : FA s s1 := FA.i e1 (by omega)
  exact pc_if (fun c2 => pc_some (h1.tr (FA.st _ _))) (fun c2 => pc_if (fun c3 => pc_some (h1.tr (FA.st _ _))) (fun c3 => pc_none))
theorem fa_finish {p0 p1 : Int} {s : MS} {ts : List MS} : pc (m_finish p0 p1 s ts) (fun q => FA s q.2.1) := by
  unfold m_finish
  refine pc_bn (fun q e => pc_bn (fun s2 e2 => pc_bn (fun w e3 => pc_some ?_)))
  exact ((fa_x1_settle e).tr (fa_x2_keep e2)).tr (fa_remember w e3)
theorem fa_undo {s : MS} {ts : List MS} : pc (m_x11_undo ts s) (fun q => FA s q.2.1) := by
  unfold m_x11_undo
  refine pc_rg (pc_rg (pc_if (fun c => pc_bn (fun q e => pc_some (fa_x11_refuse e))) (fun c => pc_stn (fun s2 e2 => pc_inb (pc_if (fun c2 => pc_bn (fun s3 e3 => pc_some ?_)) (fun c2 => pc_none))))))
  have h2 : FA s s2 := (FA.i (o := sI s 145 (gI s 145 - 1)) rfl (by omega)).tr (FA.i e2 (by omega))
  exact ((h2.tr (FA.st _ _)).tr (fa_x8_becomeP e3)).tr (FA.st _ _)
theorem fa_put {ts : List MS} {p0 : Int} {p1 : Int} {p2 : Int} {s : MS} : pc (m_x11_put ts p0 p1 p2 s) (fun q => FA s q.2.1) := by
  unfold m_x11_put
  refine pc_bn (fun r6 er6 => ?_)
  refine pc_rg ?_
  refine pc_if (fun _ => ?_) (fun _ => ?_)
  · skip
    unfold m_x11_put_J28
    refine pc_bn (fun qr4 eqr4 => ?_)
    have hqr4 := (FA.rf s).tr (fa_x11_refuse eqr4)
    exact pc_some hqr4
  · skip
    refine pc_bn (fun r10 er10 => ?_)
    refine pc_rg ?_
    refine pc_if (fun _ => ?_) (fun _ => ?_)
    · skip
      unfold m_x11_put_J28
      refine pc_bn (fun qr4 eqr4 => ?_)
      have hqr4 := (FA.rf s).tr (fa_x11_refuse eqr4)
      exact pc_some hqr4
    · skip
      refine pc_bn (fun r14 er14 => ?_)
      refine pc_rg ?_
      refine pc_if (fun _ => ?_) (fun _ => ?_)
      · skip
        unfold m_x11_put_J28
        refine pc_bn (fun qr4 eqr4 => ?_)
        have hqr4 := (FA.rf s).tr (fa_x11_refuse eqr4)
        exact pc_some hqr4
      · skip
        refine pc_bn (fun s18 es18 => ?_)
        have hs18 := (FA.rf s).tr (fa_x1_begin es18)
        refine pc_bn (fun qr21 eqr21 => ?_)
        have hqr21 := hs18.tr (fa_x1_tryPlant eqr21)
        refine pc_rg ?_
        refine pc_if (fun _ => ?_) (fun _ => ?_)
        · skip
          refine pc_bn (fun qr30 eqr30 => ?_)
          have hqr30 := hqr21.tr (fa_x11_refuse eqr30)
          exact pc_some hqr30
        · skip
          refine pc_bn (fun qr25 eqr25 => ?_)
          have hqr25 := hqr21.tr (fa_finish qr25 eqr25)
          exact pc_some hqr25
theorem fa_remove {ts : List MS} {p0 : Int} {p1 : Int} {s : MS} : pc (m_x11_remove ts p0 p1 s) (fun q => FA s q.2.1) := by
  unfold m_x11_remove
  refine pc_bn (fun r2 er2 => ?_)
  refine pc_rg ?_
  refine pc_if (fun _ => ?_) (fun _ => ?_)
  · skip
    refine pc_bn (fun qr21 eqr21 => ?_)
    have hqr21 := (FA.rf s).tr (fa_x11_refuse eqr21)
    exact pc_some hqr21
  · skip
    refine pc_bn (fun s6 es6 => ?_)
    have hs6 := (FA.rf s).tr (fa_x1_begin es6)
    refine pc_bn (fun qr9 eqr9 => ?_)
    have hqr9 := hs6.tr (fa_x1_tryUproot eqr9)
    refine pc_rg ?_
    refine pc_if (fun _ => ?_) (fun _ => ?_)
    · skip
      refine pc_bn (fun qr18 eqr18 => ?_)
      have hqr18 := hqr9.tr (fa_x11_refuse eqr18)
      exact pc_some hqr18
    · skip
      refine pc_bn (fun qr13 eqr13 => ?_)
      have hqr13 := hqr9.tr (fa_finish qr13 eqr13)
      exact pc_some hqr13
theorem fa_copy {ts : List MS} {p0 : Int} {s : MS} : pc (m_x11_copy ts p0 s) (fun q => FA s q.2.1) := by
  unfold m_x11_copy
  refine pc_bn (fun r6 er6 => ?_)
  refine pc_bn (fun r8 er8 => ?_)
  refine pc_rg ?_
  refine pc_if (fun _ => ?_) (fun _ => ?_)
  · skip
    unfold m_x11_copy_J30
    refine pc_bn (fun qr4 eqr4 => ?_)
    have hqr4 := (FA.rf s).tr (fa_x11_refuse eqr4)
    exact pc_some hqr4
  · skip
    refine pc_rg ?_
    refine pc_if (fun _ => ?_) (fun _ => ?_)
    · skip
      unfold m_x11_copy_J30
      refine pc_bn (fun qr4 eqr4 => ?_)
      have hqr4 := (FA.rf s).tr (fa_x11_refuse eqr4)
      exact pc_some hqr4
    · skip
      refine pc_bn (fun s14 es14 => ?_)
      have hs14 := (FA.rf s).tr (fa_x1_begin es14)
      refine pc_bn (fun s16 es16 => ?_)
      have hs16 := hs14.tr (fa_x1_share es16)
      refine pc_bn (fun qr18 eqr18 => ?_)
      have hqr18 := hs16.tr (fa_finish qr18 eqr18)
      exact pc_some hqr18
theorem fa_drop {ts : List MS} {p0 : Int} {s : MS} : pc (m_x11_drop ts p0 s) (fun q => FA s q.2.1) := by
  unfold m_x11_drop
  refine pc_bn (fun r2 er2 => ?_)
  refine pc_rg ?_
  refine pc_if (fun _ => ?_) (fun _ => ?_)
  · skip
    refine pc_bn (fun qr19 eqr19 => ?_)
    have hqr19 := (FA.rf s).tr (fa_x11_refuse eqr19)
    exact pc_some hqr19
  · skip
    refine pc_bn (fun s6 es6 => ?_)
    have hs6 := (FA.rf s).tr (fa_x1_begin es6)
    refine pc_bn (fun r8 er8 => ?_)
    refine pc_bn (fun s10 es10 => ?_)
    have hs10 := hs6.tr (fa_x1_letGo es10)
    refine pc_bn (fun qr12 eqr12 => ?_)
    have hqr12 := hs10.tr (fa_finish qr12 eqr12)
    refine pc_bn (fun r16 er16 => ?_)
    exact pc_some hqr12
theorem fa_checkpoint {ts : List MS} {s : MS} : pc (m_x11_checkpoint ts s) (fun q => FA s q.2.1) := by
  unfold m_x11_checkpoint
  refine pc_rg ?_
  refine pc_if (fun _ => ?_) (fun _ => ?_)
  · skip
    refine pc_bn (fun qr15 eqr15 => ?_)
    have hqr15 := (FA.rf s).tr (fa_x11_refuse eqr15)
    exact pc_some hqr15
  · skip
    refine pc_bn (fun s4 es4 => ?_)
    have hs4 := (FA.rf s).tr (fa_x1_begin es4)
    refine pc_bn (fun r6 er6 => ?_)
    refine pc_bn (fun s8 es8 => ?_)
    have hs8 := hs4.tr (fa_x8_save es8)
    refine pc_bn (fun qr10 eqr10 => ?_)
    have hqr10 := hs8.tr (fa_finish qr10 eqr10)
    exact pc_some hqr10
theorem fa_crash {ts : List MS} {s : MS} : pc (m_x11_crash ts s) (fun q => FA s q.2.1) := by
  unfold m_x11_crash
  refine pc_rg ?_
  refine pc_if (fun _ => ?_) (fun _ => ?_)
  · skip
    refine pc_bn (fun qr15 eqr15 => ?_)
    have hqr15 := (FA.rf s).tr (fa_x11_refuse eqr15)
    exact pc_some hqr15
  · skip
    refine pc_bn (fun s4 es4 => ?_)
    have hs4 := (FA.rf s).tr (fa_x1_begin es4)
    refine pc_bn (fun r6 er6 => ?_)
    refine pc_bn (fun s8 es8 => ?_)
    have hs8 := hs4.tr (fa_x8_fallBack es8)
    refine pc_bn (fun qr10 eqr10 => ?_)
    have hqr10 := hs8.tr (fa_finish qr10 eqr10)
    exact pc_some hqr10
theorem fa_chance {ts : List MS} {p0 : Int} {s : MS} : pc (m_x11_chance ts p0 s) (fun q => FA s q.2.1) := by
  have L : ∀ (n : Nat) (x1 x2 x3 : Int) (S : MS), FA s S → pc (m_x11_chance_L35 ts n x1 x2 x3 S) (fun q => FA s q.2.1) := by
    refine fr_ind (fun _ _ _ _ _ => pc_none) (fun n ih x1 x2 x3 S hS => ?_)
    show pc (m_x11_chance_b35 ts (m_x11_chance_L35 ts n) x1 x2 x3 S) _
    unfold m_x11_chance_b35
    refine pc_rg (pc_rg (pc_if (fun _ => pc_bn (fun q e => pc_some (hS.tr (fa_finish q e)))) (fun _ => pc_bn (fun q e => pc_rg (pc_if (fun _ => ?_) (fun _ => ?_))))))
    · exact ih _ _ _ _ (hS.tr (fa_x1_actBySeed e))
    · exact ih _ _ _ _ (hS.tr (fa_x1_actBySeed e))
  have J : pc (m_x11_chance_J18 ts s) (fun q => FA s q.2.1) := by
    unfold m_x11_chance_J18
    exact pc_bn (fun q e => pc_some (fa_x11_refuse e))
  unfold m_x11_chance
  exact pc_rg (pc_if (fun _ => J) (fun _ => pc_rg (pc_if (fun _ => J) (fun _ => pc_rg (pc_if (fun _ => pc_bn (fun s32 e => L FU _ _ _ _ (fa_x1_begin e))) (fun _ => J))))))
/-- the tape's bytes stay when a store is told -/
theorem k4_store {s : MS} : pc (m_x11_store s) (fun q => gA q.2 4 = gA s 4) := by
  unfold m_x11_store
  refine pc_bn (fun q e => pc_stn (fun s4 e4 => pc_rg (pc_if (fun _ => pc_bn (fun q17 e17 => pc_some ?_)) (fun _ => pc_eqg (pc_stn (fun s8 e8 => pc_bn (fun s10 e10 => pc_bn (fun s12 e12 => pc_stn (fun s13 e13 => pc_stn (fun s14 e14 => pc_some ?_))))))))))
  · exact ((fr_x11_refuse e17).2.1 4 (by decide)).trans ((q_Ia e4).trans ((fr_x6_readStore e).2.1 4 (by decide)))
  · have h8 : gA s8 4 = gA s4 4 := (q_Ia e8).trans (by show (if 29 ≤ 4 ∧ 4 ≤ 38 then s4.2.2.1 (4 + 10) else if 39 ≤ 4 ∧ 4 ≤ 48 then s4.2.2.1 (4 - 10) else s4.2.2.1 4) = s4.2.2.1 4; rw [if_neg (by omega), if_neg (by omega)])
    exact (q_Ia e14).trans ((q_Ia e13).trans (((fr_x2_clear e12).2.1 4 (by decide)).trans (((fr_x1_build e10).2.1 4 (by decide)).trans (h8.trans ((q_Ia e4).trans ((fr_x6_readStore e).2.1 4 (by decide)))))))
