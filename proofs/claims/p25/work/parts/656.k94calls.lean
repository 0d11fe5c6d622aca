/-! ===== the calls that touch no tree: what stands between calls ===== -/
/-- frames that leave all of it, refusals aside -/
def ZX (s o : MS) : Prop := (∀ k, k = 12 ∨ k = 143 ∨ k = 145 ∨ k = 1060 ∨ k = 1061 → gI o k = gI s k) ∧ ∀ k, k = 8 ∨ k = 9 ∨ k = 10 ∨ (54 ≤ k ∧ k ≤ 61) → gA o k = gA s k
def ZY (t o : MS) : Prop := (∀ k, k = 76 ∨ k = 77 → gI o k = gI t k) ∧ (∀ k, k = 49 ∨ k = 75 → gA o k = gA t k) ∧ gA o 39 5 = gA t 39 5
theorem ZX_rf (s : MS) : ZX s s := ⟨fun _ _ => rfl, fun _ _ => rfl⟩
theorem ZY_rf (t : MS) : ZY t t := ⟨fun _ _ => rfl, fun _ _ => rfl, rfl⟩
theorem BT_z {s s' t t' : MS} {ts : List MS} (h : BT s ts t) (a : ZX s s') (b : ZY t t') (c1 : gI s' 983 = gL t' 78) (c2 : ∀ k, k < 6 → gA s' 2 k = gA t' 9 k) : BT s' ts t' := BT_k5 h a.1 a.2 b.1 b.2.1 b.2.2 c1 c2
/-- nothing is refused -/
theorem BT_n {s s' t t' : MS} {ts : List MS} (h : BT s ts t) (a : ZX s s') (b : ZY t t') (s1 : gI s' 983 = gI s 983) (s2 : gA s' 2 = gA s 2) (t1 : gL t' 78 = gL t 78) (t2 : gA t' 9 = gA t 9) : BT s' ts t' := BT_z h a b (by rw [s1, t1]; exact h.1) (fun k hk => by rw [s2, t2]; exact h.2.1 k hk)
/-- both sides refuse -/
theorem BT_u {s s' t t' : MS} {ts : List MS} {p : Nat} (h : BT s ts t) (hp : p < 6) (a : ZX s s') (b : ZY t t') (s1 : gI s' 983 = gI s 983) (s2 : gA s' 2 = upZ (gA s 2) p (gA s 2 p + 1)) (t1 : gL t' 78 = gL t 78) (t2 : gA t' 9 = upZ (gA t 9) p (gA t 9 p + 1)) : BT s' ts t' := BT_z h a b (by rw [s1, t1]; exact h.1) (fun k hk => by
  rw [s2, t2]
  by_cases z : k = p
  · rw [z, upZ_s, upZ_s, h.2.1 p hp]
  · rw [upZ_n z, upZ_n z]; exact h.2.1 k hk)
theorem s_room {s : MS} : pc (m_x9_hasRoom s) (fun r => r = 0 ↔ 1600 < gI s 61 + 20) := by
  unfold m_x9_hasRoom m_x9_hasRoom_J18
  exact pc_rg (pc_if (fun c => pc_bo (pc_some ⟨fun _ => c, fun _ => rfl⟩)) (fun c => pc_bo (pc_some ⟨fun w => absurd w (by decide), fun w => absurd w c⟩)))
theorem s_feed2 {p1 p2 p3 p4 p5 : Int} {s : MS} : pc (m_x11_feed p1 p2 p3 p4 p5 s) (fun q => (1600 < gI s 61 + 20 ∧ gA q.2 2 = upZ (gA s 2) 0 (gA s 2 0 + 1)) ∨ (gI s 61 + 20 ≤ 1600 ∧ gA q.2 2 = gA s 2)) := by
  unfold m_x11_feed
  refine pc_bq s_room (fun r2 h2 => pc_rg (pc_if (fun c => pc_bq s_rf2 (fun q17 h17 => pc_some (Or.inl ⟨h2.1 c, h17⟩))) (fun c => pc_bn (fun s6 e6 => pc_bn (fun s8 e8 => pc_bn (fun s10 e10 => pc_bn (fun s12 e12 => pc_bn (fun s14 e14 => pc_some (Or.inr ⟨?_, ?_⟩)))))))))
  · refine Classical.byContradiction (fun w => c (h2.2 (by omega)))
  · show gA s14 2 = gA s 2
    rw [(fr_x9_append e14).2.1 2 (by decide), (fr_x9_append e12).2.1 2 (by decide), (fr_x9_append e10).2.1 2 (by decide), (fr_x9_append e8).2.1 2 (by decide), (fr_x9_append e6).2.1 2 (by decide)]
theorem m_feed9 {p1 p2 p3 p4 p5 : Int} {t : MS} : pc (m_x12_feed p1 p2 p3 p4 p5 t) (fun o => (1600 < gI t 1 + 20 ∧ gA o.2 9 = upZ (gA t 9) 0 (gA t 9 0 + 1)) ∨ (gI t 1 + 20 ≤ 1600 ∧ gA o.2 9 = gA t 9)) := by
  have L : ∀ (n : Nat) (x : Int) (S : MS), gA S 9 = gA t 9 → pc (m_x12_feed_L28 n p1 p2 p3 p4 p5 x S) (fun o => gA o.2 9 = gA t 9) := by
    refine fr_ind (fun _ _ _ => pc_none) (fun n ih x S h => ?_)
    have J : ∀ a : Int, pc (m_x12_feed_J81 (m_x12_feed_L28 n) p1 p2 p3 p4 p5 x a S) (fun o => gA o.2 9 = gA t 9) := fun a => by
      unfold m_x12_feed_J81
      exact pc_dv (pc_inb (pc_stn (fun s18 e18 => pc_stn (fun s19 e19 => ih (x + 1) s19 (((q_Ia e19).trans (q_Aa e18 (by decide))).trans h)))))
    show pc (m_x12_feed_b28 (m_x12_feed_L28 n) p1 p2 p3 p4 p5 x S) _
    unfold m_x12_feed_b28
    exact pc_rg (pc_if (fun _ => pc_some h) (fun _ => pc_rg (pc_if (fun _ => pc_rg (pc_if (fun _ => pc_rg (pc_if (fun _ => pc_rg (pc_if (fun _ => J _) (fun _ => J _))) (fun _ => J _))) (fun _ => J _))) (fun _ => J _))))
  unfold m_x12_feed
  exact pc_rg (pc_if (fun c => pc_mono (L FU 0 t rfl) (fun o ho => Or.inr ⟨c, ho⟩)) (fun c => pc_rdI (fun _ => pc_inb (pc_stn (fun s34 e34 => pc_some (Or.inl ⟨by omega, q_AA e34⟩))))))
theorem y_feedB {x t : MS} {ts : List MS} {p1 p2 p3 p4 p5 : Int} (hl : gI x 61 = gI t 1) (B : BT x ts t) : pc (m_x11_feed p1 p2 p3 p4 p5 x) (fun q => pc (m_x12_feed p1 p2 p3 p4 p5 t) (fun o => BT q.2 ts o.2)) := by
  intro q eq o eo
  have F1 : F_x11_feed x q.2 := fr_x11_feed eq
  have F2 : F_x12_feed t o.2 := fr_x12_feed eo
  have a : ZX x q.2 := ⟨fun k hk => F1.1 k (by simp; omega), fun k hk => F1.2.1 k (by simp; omega)⟩
  have b : ZY t o.2 := ⟨fun k hk => F2.1 k (by simp; omega), fun k hk => F2.2.1 k (by simp; omega), by rw [F2.2.1 39 (by decide)]⟩
  rcases s_feed2 q eq with ⟨c1, c2⟩ | ⟨c1, c2⟩ <;> rcases m_feed9 o eo with ⟨d1, d2⟩ | ⟨d1, d2⟩
  · exact BT_u B (p := 0) (by decide) a b (F1.1 983 (by decide)) c2 (F2.2.2.1 78 (by simp)) d2
  · exfalso; omega
  · exfalso; omega
  · exact BT_n B a b (F1.1 983 (by decide)) c2 (F2.2.2.1 78 (by simp)) d2
theorem s_end2 {p : Int} {s : MS} : pc (m_x11_end p s) (fun q => ((p < 0 ∨ gI s 61 < p) ∧ gA q.2 2 = upZ (gA s 2) 0 (gA s 2 0 + 1)) ∨ ((0 ≤ p ∧ p ≤ gI s 61) ∧ gA q.2 2 = gA s 2)) := by
  unfold m_x11_end m_x11_end_J15
  exact pc_rg (pc_if (fun c => pc_bq s_rf2 (fun q4 h4 => pc_some (Or.inl ⟨Or.inl c, h4⟩))) (fun c => pc_rg (pc_rg (pc_if (fun c2 => pc_stn (fun s10 e10 => pc_some (Or.inr ⟨by omega, q_Ia e10⟩))) (fun c2 => pc_bq s_rf2 (fun q4 h4 => pc_some (Or.inl ⟨Or.inr (by omega), h4⟩)))))))
theorem m_end9 {p : Int} {t : MS} : pc (m_x12_end p t) (fun o => ((p < 0 ∨ gI t 1 < p) ∧ gA o.2 9 = upZ (gA t 9) 0 (gA t 9 0 + 1)) ∨ ((0 ≤ p ∧ p ≤ gI t 1) ∧ gA o.2 9 = gA t 9)) := by
  unfold m_x12_end m_x12_end_J12
  exact pc_rg (pc_if (fun c => pc_rdI (fun _ => pc_inb (pc_stn (fun s4 e4 => pc_some (Or.inl ⟨Or.inl c, q_AA e4⟩))))) (fun c => pc_rg (pc_rg (pc_if (fun c2 => pc_stn (fun s10 e10 => pc_some (Or.inr ⟨by omega, q_Ia e10⟩))) (fun c2 => pc_rdI (fun _ => pc_inb (pc_stn (fun s4 e4 => pc_some (Or.inl ⟨Or.inr (by omega), q_AA e4⟩)))))))))
theorem y_endB {x t : MS} {ts : List MS} {p : Int} (hl : gI x 61 = gI t 1) (B : BT x ts t) : pc (m_x11_end p x) (fun q => pc (m_x12_end p t) (fun o => BT q.2 ts o.2)) := by
  intro q eq o eo
  have F1 : F_x11_end x q.2 := fr_x11_end eq
  have F2 : F_x12_end t o.2 := fr_x12_end eo
  have a : ZX x q.2 := ⟨fun k hk => F1.1 k (by simp; omega), fun k hk => F1.2.1 k (by simp; omega)⟩
  have b : ZY t o.2 := ⟨fun k hk => F2.1 k (by simp; omega), fun k hk => F2.2.1 k (by simp; omega), by rw [F2.2.1 39 (by decide)]⟩
  rcases s_end2 q eq with ⟨c1, c2⟩ | ⟨c1, c2⟩ <;> rcases m_end9 o eo with ⟨d1, d2⟩ | ⟨d1, d2⟩
  · exact BT_u B (p := 0) (by decide) a b (F1.1 983 (by decide)) c2 (F2.2.2.1 78 (by simp)) d2
  · exfalso; omega
  · exfalso; omega
  · exact BT_n B a b (F1.1 983 (by decide)) c2 (F2.2.2.1 78 (by simp)) d2
theorem y_seedB {x t : MS} {ts : List MS} {p : Int} (B : BT x ts t) : pc (m_x11_seed p x) (fun q => pc (m_x12_seed p t) (fun o => q.1 = o.1 ∧ BT q.2 ts o.2)) := by
  unfold m_x11_seed
  refine pc_rg (pc_if (fun c => pc_stn (fun s3 e3 => pc_some ?_)) (fun c => pc_bn (fun q6 e6 => pc_some ?_)))
  · unfold m_x12_seed
    refine pc_rg (pc_if (fun _ => pc_rg (pc_stn (fun s4 e4 => pc_some ⟨rfl, ?_⟩))) (fun d => absurd c d))
    refine BT_z B ⟨fun k hk => q_Ii e3 (by omega), fun k _ => q_Ia e3⟩ ⟨fun k _ => q_Li e4, fun k _ => q_La e4, by rw [(q_La e4 : gA s4 39 = gA t 39)]⟩ ((q_II e3).trans (q_LL e4).symm) (fun k hk => ?_)
    rw [(q_Ia e3 : gA s3 2 = gA x 2), (q_La e4 : gA s4 9 = gA t 9)]; exact B.2.1 k hk
  · unfold m_x12_seed
    refine pc_rg (pc_if (fun d => absurd d c) (fun _ => pc_bn (fun o7 e7 => pc_bo (pc_some ?_))))
    have F6 : F_x11_refuse x q6.2 := fr_x11_refuse e6
    have F7 : F_x12_isRefused t o7.2 := fr_x12_isRefused e7
    obtain ⟨u3, u2⟩ := s_isRefused o7 e7
    exact ⟨u3.symm, BT_u B (p := 5) (by decide) ⟨fun k hk => F6.1 k (by simp), fun k hk => F6.2.1 k (by simp; omega)⟩ ⟨fun k hk => F7.1 k (by simp), fun k hk => F7.2.1 k (by simp; omega), by rw [F7.2.1 39 (by decide)]⟩ (F6.1 983 (by simp)) (s_rf2 q6 e6) (F7.2.2.1 78 (by simp)) u2⟩
