/-! ===== a volume or a clone, whole ===== -/
theorem fk_cfail {k p : Int} {s : MS} : pc (m_x6_fail k p s) (fun q => FKp 100 101 s q.2) := by
  unfold m_x6_fail m_x6_fail_J22
  exact pc_rg (pc_if (fun c => pc_stn (fun s4 e4 => pc_stn (fun s5 e5 => pc_stn (fun s6 e6 => pc_some (fun z => absurd c z))))) (fun c => pc_some (FKp.rf s)))
theorem fk_J96 {x1 x2 x3 x4 : Int} {s : MS} : pc (m_x6_readVolume_J96 x1 x2 x3 x4 s) (fun o => FKp 100 101 s o) := by
  unfold m_x6_readVolume_J96
  refine pc_bn (fun q8 e8 => pc_bn (fun s10 e10 => pc_some ?_))
  have F8 : F_x5_addVolume s q8.2 := fr_x5_addVolume e8
  have F10 : F_x5_addChange q8.2 s10 := fr_x5_addChange e10
  exact (FKp.of F8 (by decide) (by decide)).tr (FKp.of F10 (by decide) (by decide))
theorem fk_cadv {s o : MS} (e : m_x6_advance s = some o) : FKp 100 101 s o := FKp.of (fr_x6_advance e) (by decide) (by decide)
theorem s_vJ61 {x : Int} {s : MS} : pc (m_x6_readVolume_J61 x s) (fun o => ∃ s14, m_x6_advance s = some s14 ∧ ((x = 3 ∧ ∃ s18 q21, m_x6_expectWord 4 s14 = some s18 ∧ m_x6_expectVolume s18 = some q21 ∧ m_x6_readVolume_J96 x (gI s 108) (gI s 109) q21.1 q21.2 = some o) ∨ (x ≠ 3 ∧ m_x6_readVolume_J96 x (gI s 108) (gI s 109) (-1) s14 = some o))) := by
  unfold m_x6_readVolume_J61
  exact pc_bn (fun s14 e14 => pc_rg (pc_if (fun c => pc_bn (fun s18 e18 => pc_bn (fun q21 e21 => fun o eo => ⟨s14, e14, Or.inl ⟨c, s18, q21, e18, e21, eo⟩⟩))) (fun c => fun o eo => ⟨s14, e14, Or.inr ⟨c, eo⟩⟩)))
theorem fk_J61 {x : Int} {s : MS} : pc (m_x6_readVolume_J61 x s) (fun o => FKp 100 101 s o) := fun o eo => by
  obtain ⟨s14, e14, q⟩ := s_vJ61 o eo
  rcases q with ⟨_, s18, q21, e18, e21, q⟩ | ⟨_, q⟩
  · exact (fk_cadv e14).tr ((fk_x6_expectWord s18 e18).tr ((fk_x6_expectVolume q21 e21).tr (fk_J96 o q)))
  · exact (fk_cadv e14).tr (fk_J96 o q)
theorem s_vJ19 {x : Int} {s : MS} : pc (m_x6_readVolume_J19 x s) (fun o => ∃ s25 q28, m_x6_advance s = some s25 ∧ m_x6_isName s25 = some q28 ∧ ((q28.1 = 0 ∧ o = q28.2) ∨ (q28.1 ≠ 0 ∧ ∃ r32, m_x5_volumeNamed (gI q28.2 108) (gI q28.2 109) q28.2 = some r32 ∧ ((r32 = -1 ∧ m_x6_readVolume_J61 x q28.2 = some o) ∨ (r32 ≠ -1 ∧ ∃ q37, m_x6_fail 3 (gI q28.2 108) q28.2 = some q37 ∧ m_x6_readVolume_J61 x q37.2 = some o))))) := by
  unfold m_x6_readVolume_J19
  exact pc_bn (fun s25 e25 => pc_bn (fun q28 e28 => pc_rg (pc_if (fun c => pc_some ⟨s25, q28, e25, e28, Or.inl ⟨c, rfl⟩⟩) (fun c => pc_bn (fun r32 e32 => pc_rg (pc_if (fun c2 => fun o eo => ⟨s25, q28, e25, e28, Or.inr ⟨c, r32, e32, Or.inl ⟨c2, eo⟩⟩⟩) (fun c2 => pc_bn (fun q37 e37 => fun o eo => ⟨s25, q28, e25, e28, Or.inr ⟨c, r32, e32, Or.inr ⟨c2, q37, e37, eo⟩⟩⟩))))))))
theorem fk_J19 {x : Int} {s : MS} : pc (m_x6_readVolume_J19 x s) (fun o => FKp 100 101 s o) := fun o eo => by
  obtain ⟨s25, q28, e25, e28, q⟩ := s_vJ19 o eo
  have a := (fk_cadv e25).tr (fk_x6_isName q28 e28)
  rcases q with ⟨_, q⟩ | ⟨_, r32, _, q⟩
  · rw [q]; exact a
  · rcases q with ⟨_, q⟩ | ⟨_, q37, e37, q⟩
    · exact a.tr (fk_J61 o q)
    · exact a.tr ((fk_cfail q37 e37).tr (fk_J61 o q))
theorem m_J50B {p z of : Int} {t : MS} (h5 : gI t 5 ≠ 0) : pc (m_x12_volumeTold_J50 p z of t) (fun o => o = t) := by
  unfold m_x12_volumeTold_J50
  exact pc_rg (pc_if (fun c => absurd c h5) (fun c => pc_some rfl))
theorem fk_tail {p z : Int} {t : MS} (h5 : gI t 5 ≠ 0) : pc (rg p (if p = 0 then m_x12_volumeTold_J50 p z (-1) t else bn (m_x12_asks 15 2 t) (fun s38 => bn (m_x12_volumeNamed s38) (fun qr41 => m_x12_volumeTold_J50 p z qr41.1 qr41.2)))) (fun o => FKp 5 6 t o) := by
  refine pc_rg (pc_if (fun c => pc_mono (m_J50B h5) (fun o e => by rw [e]; exact FKp.rf t)) (fun c => pc_bn (fun s38 e38 => pc_bn (fun q41 e41 => ?_))))
  have a : FKp 5 6 t s38 := fk_x12_asks s38 e38
  have b : FKp 5 6 s38 q41.2 := fk_x12_volumeNamed q41 e41
  have d := (a.tr b) h5
  exact pc_mono (m_J50B (by rw [d.1]; exact h5)) (fun o e => by rw [e]; exact a.tr b)
theorem fk_J24 {p : Int} {t : MS} (h5 : gI t 5 ≠ 0) : pc (m_x12_volumeTold_J24 p t) (fun o => FKp 5 6 t o) := by
  unfold m_x12_volumeTold_J24
  refine pc_bn (fun q34 e34 => ?_)
  have a : FKp 5 6 t q34.2 := fk_x12_newName q34 e34
  exact pc_mono (fk_tail (by rw [(a h5).1]; exact h5)) (fun o b => a.tr b)
theorem y_J24 {x p : Int} {s s' t : MS} (h : NX s t) (hP : PLJ s t) (h8 : gI s 784 < 8) (h60 : gI s 785 < 60) (hx : (x = 2 ∧ p = 0) ∨ (x = 3 ∧ p = 1)) (e : m_x6_readVolume_J19 x s = some s') : pc (m_x12_volumeTold_J24 p t) (fun o => DONE s s' o) := by
  obtain ⟨s25, q28, e25, e28, hq⟩ := s_vJ19 s' e
  have h25 := y_adv h s25 e25
  have a25 := TK_le h.2.2.1.1
  have f25 : FC s s25 := Fr_w (fr_x6_advance e25) (by decide)
  have P25 : PLJ s25 t := PL_f hP f25 (Fr.rf t)
  have hT := h25.1.2.2.1.1
  have b25 := TK_le hT
  have hn := s_name h25.1.2.1.1 hT q28 e28
  unfold m_x12_volumeTold_J24
  refine pc_bn (fun q34 e34 => ?_)
  have hy := y_new h25.1 P25.1 q34 e34
  have g34 : FRf t q34.2 := Fr_w (fr_x12_newName e34) (by decide)
  obtain ⟨z, t34⟩ := q34
  obtain ⟨r28, s28⟩ := q28
  dsimp only at hy g34 hn hq ⊢
  have bad : BR s' t34 → pc (rg p (if p = 0 then m_x12_volumeTold_J50 p z (-1) t34 else bn (m_x12_asks 15 2 t34) (fun s38 => bn (m_x12_volumeNamed s38) (fun qr41 => m_x12_volumeTold_J50 p z qr41.1 qr41.2)))) (fun o => DONE s s' o) := fun hb =>
    pc_mono (fk_tail (by rw [hb.2.1]; exact hb.1)) (fun o b => Or.inr (BR_go hb (FKp.rf s') b))
  rcases hn with ⟨n1, n2, n3⟩ | ⟨n1, n2, n3⟩ | ⟨n1, n2, n3⟩
  · rcases hq with ⟨_, q⟩ | ⟨q, _⟩
    · rw [q] at bad ⊢
      rcases hy with ⟨_, b⟩ | ⟨c, _⟩ | ⟨c, _⟩ | ⟨c, _⟩
      · exact bad (BR_mk (by decide) n3 b)
      · exact absurd c.1 n2
      · exact absurd c.1 n2
      · exact absurd c.1 n2
    · exact absurd n1 q
  · rcases hq with ⟨_, q⟩ | ⟨q, _⟩
    · rw [q] at bad ⊢
      rcases hy with ⟨c, _⟩ | ⟨_, b⟩ | ⟨c, _⟩ | ⟨c, _⟩
      · exact absurd n2.1 c
      · exact bad (BR_mk (by decide) n3 b)
      · omega
      · omega
    · exact absurd n1 q
  · rcases hq with ⟨q, _⟩ | ⟨_, r32, e32, hq⟩
    · omega
    · rw [n3] at e32 hq
      have hv := s_vol b25.1 b25.2.2 r32 e32
      rcases hq with ⟨q, eo⟩ | ⟨q, q37, e37, eo⟩
      · -- a new name
        have no : ∀ u : Nat, (u : Int) < gI s25 784 → ¬ SAM s25 u := by
          rcases hv with g | ⟨v, g, _⟩
          · exact g.2
          · omega
        rcases hy with ⟨c, _⟩ | ⟨c, _⟩ | ⟨_, ⟨w, c1, c2⟩, _⟩ | ⟨_, _, hz, N34⟩
        · exact absurd n2.1 c
        · omega
        · exact absurd c2 (no w c1)
        · obtain ⟨s14, e14, hq⟩ := s_vJ61 s' eo
          have h14 := y_adv N34 s14 e14
          have f14 : FC s25 s14 := Fr_w (fr_x6_advance e14) (by decide)
          have P14 : PLJ s14 t34 := PL_f P25 f14 g34
          have nm : NM1 (lt s25) z := by rw [hz]; exact lt_nm hT n2.1.1 n2.2
          have s96 : ∀ {src : Int} {X : MS}, m_x6_readVolume_J96 x (gI s25 108) (gI s25 109) src X = some s' → ∃ r8 s8, m_x5_addVolume (gI s25 108) (gI s25 109) X = some (r8, s8) ∧ m_x5_addChange x r8 src 0 s8 = some s' := fun {src X} eX => by
            have g : pc (m_x6_readVolume_J96 x (gI s25 108) (gI s25 109) src X) (fun o => ∃ r8 s8, m_x5_addVolume (gI s25 108) (gI s25 109) X = some (r8, s8) ∧ m_x5_addChange x r8 src 0 s8 = some o) := by
              unfold m_x6_readVolume_J96
              exact pc_bn (fun q8 e8 => pc_bn (fun s10 e10 => pc_some ⟨q8.1, q8.2, e8, e10⟩))
            exact g s' eX
          rcases hq with ⟨x3, s18, ⟨v21, s21⟩, e18, e21, e96⟩ | ⟨x3, e96⟩
          · have p1 : p = 1 := by clear hv; omega
            refine pc_rg (pc_if (fun c => by exfalso; omega) (fun _ => pc_bn (fun t38 e38 => pc_bn (fun q41 e41 => ?_))))
            obtain ⟨v41, t41⟩ := q41
            dsimp only at e96 ⊢
            have r38 : RS s18 t38 := y_expWord (w := 4) h14.1 (by decide) (by decide) (fun j hj => N34.2.2.2.2.2.1 4 (by decide) j hj) e18 t38 e38
            have f18 : FC s14 s18 := fr_x6_expectWord e18
            have f21 : FC s18 s21 := fr_x6_expectVolume e21
            have g38 : FRf t34 t38 := Fr_w (fr_x12_asks e38) (by decide)
            have g41 : FRf t38 t41 := Fr_w (fr_x12_volumeNamed e41) (by decide)
            have k21 : FKp 100 101 s18 s21 := fk_x6_expectVolume _ e21
            have k41 : FKp 5 6 t38 t41 := fk_x12_volumeNamed _ e41
            have kl : FKp 100 101 s21 s' := fk_J96 s' e96
            have last : BR s21 t41 → pc (m_x12_volumeTold_J50 p z v41 t41) (fun o => DONE s s' o) := fun hb =>
              pc_mono (m_J50B (by rw [hb.2.1]; exact hb.1)) (fun o e => by rw [e]; exact Or.inr (BR_go hb kl (FKp.rf t41)))
            by_cases z18 : gI s18 100 = 0
            · have y18 := RS_z r38 z18
              have P18 : PLJ s18 t38 := PL_f P14 f18 g38
              have r41 := y_expVol y18 P18.1 e21 _ e41
              dsimp only at r41
              by_cases z21 : gI s21 100 = 0
              · have y21 := RS_z r41.1 z21
                have v21' := r41.2 z21
                have P21 : PLJ s21 t41 := PL_f P18 f21 g41
                obtain ⟨r8, s8, e8, e10⟩ := s96 e96
                have fA : ∀ k, gA s21 k = gA s25 k := fun k => (f21.2.1 k (by simp)).trans ((f18.2.1 k (by simp)).trans (f14.2.1 k (by simp)))
                have fI : ∀ i, i ∉ [100, 101, 107, 108, 109, 110, 111] → gI s21 i = gI s25 i := fun i hi => (f21.1 i hi).trans ((f18.1 i hi).trans (f14.1 i hi))
                have u1 : gI s21 784 = gI s 784 := (fI 784 (by decide)).trans (f25.1 784 (by decide))
                have u2 : gI s21 785 = gI s 785 := (fI 785 (by decide)).trans (f25.1 785 (by decide))
                refine pc_mono (y_vfin (x := x) (p := p) (s := s25) y21 P21 (fA 4) (fI 61 (by decide)) b25.1 b25.2.2 (by omega) (by omega) nm (Or.inr ⟨x3, p1, v21'.1⟩) e8 e10) (fun o ho => Or.inl ⟨ho.1, ho.2.1, ?_⟩)
                have m1 := g_word h14.1 e18 z18
                have m2 := g_vol y18 e21 z21
                have m3 := ho.2.2
                omega
              · exact last (RS_n r41.1 z21)
            · exact last (BR_go (RS_n r38 z18) k21 k41)
          · have p0 : p = 0 := by clear hv; omega
            have x2 : x = 2 := by clear hv; omega
            refine pc_rg (pc_if (fun _ => ?_) (fun c => absurd p0 c))
            obtain ⟨r8, s8, e8, e10⟩ := s96 e96
            have u1 : gI s14 784 = gI s 784 := (f14.1 784 (by decide)).trans (f25.1 784 (by decide))
            have u2 : gI s14 785 = gI s 785 := (f14.1 785 (by decide)).trans (f25.1 785 (by decide))
            refine pc_mono (y_vfin (x := x) (p := p) (s := s25) h14.1 P14 (f14.2.1 4 (by simp)) (f14.1 61 (by decide)) b25.1 b25.2.2 (by omega) (by omega) nm (Or.inl ⟨x2, p0⟩) e8 e10) (fun o ho => Or.inl ⟨ho.1, ho.2.1, ?_⟩)
            have m3 := ho.2.2
            omega
      · -- a name that is there
        obtain ⟨v, v1, v2, v3, v4⟩ : ∃ v : Nat, r32 = (v : Int) ∧ (v : Int) < gI s25 784 ∧ SAM s25 v ∧ ∀ u, u < v → ¬ SAM s25 u := by
          rcases hv with g | g
          · exact absurd g.1 q
          · exact g
        rcases hy with ⟨c, _⟩ | ⟨c, _⟩ | ⟨_, _, b⟩ | ⟨_, c, _⟩
        · exact absurd n2.1 c
        · omega
        · exact bad (BR_go (BR_mk (by decide) (s_fail h25.1.2.1.1 q37 e37) b) (fk_J61 s' eo) (FKp.rf t34))
        · exact absurd v3 (c v v2)
/-- a volume or a clone, on both sides -/
theorem y_volume {x p : Int} {s s' t : MS} (h : NX s t) (hP : PLJ s t) (h60 : gI s 785 < 60) (hx : (x = 2 ∧ p = 0) ∨ (x = 3 ∧ p = 1)) (e : m_x6_readVolume x s = some s') : pc (m_x12_volumeTold p (gI s 108) t) (fun o => DONE s s' o) := by
  have g : pc (m_x6_readVolume x s) (fun o => (gI s 784 = 8 ∧ ∃ q, m_x6_fail 5 (gI s 108) s = some q ∧ m_x6_readVolume_J19 x q.2 = some o) ∨ (gI s 784 ≠ 8 ∧ m_x6_readVolume_J19 x s = some o)) := by
    unfold m_x6_readVolume
    exact pc_rg (pc_if (fun c => pc_bn (fun q e => fun o eo => Or.inl ⟨c, q, e, eo⟩)) (fun c => fun o eo => Or.inr ⟨c, eo⟩))
  have n0 := hP.1.1
  have e2 : gA t 39 (Int.toNat 2) = gI s 784 := n0.1
  unfold m_x12_volumeTold
  refine pc_rg (pc_if (fun _ => pc_rdI (fun _ => pc_rg (pc_if (fun c => pc_bn (fun t48 e48 => ?_)) (fun c => ?_)))) (fun c => absurd h.2.1.2 c))
  · rcases g s' e with ⟨_, q, e5, eo⟩ | ⟨c2, _⟩
    · have b := m_fail h.2.1.2 t48 e48
      have hb : BR q.2 t48 := BR_mk (by decide) (s_fail h.2.1.1 q e5) b
      exact pc_mono (fk_J24 (by rw [b.1]; decide)) (fun o ho => Or.inr (BR_go hb (fk_J19 s' eo) ho))
    · omega
  · rcases g s' e with ⟨c2, _⟩ | ⟨_, eo⟩
    · omega
    · exact y_J24 h hP (by omega) h60 hx eo
