/-! ===== to put ===== -/
/-- what stays beside the trees -/
def KS (s S : MS) : Prop := (gA S 39 = gA s 39 ∧ gA S 42 = gA s 42 ∧ gA S 43 = gA s 43 ∧ gA S 44 = gA s 44) ∧ (∀ j, 785 ≤ j → gA S 49 j = gA s 49 j)
theorem KS_0 (s : MS) : KS s s := ⟨⟨rfl, rfl, rfl, rfl⟩, fun _ _ => rfl⟩
theorem KS_t {s S o : MS} (h1 : KS s S) (h2 : KS S o) : KS s o := ⟨⟨h2.1.1.trans h1.1.1, h2.1.2.1.trans h1.1.2.1, h2.1.2.2.1.trans h1.1.2.2.1, h2.1.2.2.2.trans h1.1.2.2.2⟩, fun j hj => (h2.2 j hj).trans (h1.2 j hj)⟩
theorem KS_CE {s S : MS} {w : Nat} (h : KS s S) (H : CE s w) : CE S w := CE_eq H h.1.2.1 h.1.2.2.1 h.1.2.2.2
/-- the roots but one stay -/
def RWn (s S : MS) (v : Nat) : Prop := (∀ u, u < 17 → u ≠ v → gA S 49 u = gA s 49 u) ∧ (0 ≤ gA S 49 v ∧ gA S 49 v < 48)
/-- the way down has come to b, at level i -/
def GD (s S : MS) (v : Nat) (b i : Int) : Prop := RWn s S v ∧ ∃ M, TM S d0 (-1) ∧ PM S v M d0 (-1) ∧ CurM S v M b i
theorem eq49 {s o : MS} (h : gA o 49 = gA s 49) : hM o = hM s ∧ kM o = kM s ∧ cM o = cM s ∧ vM o = vM s := by
  refine ⟨?_, ?_, ?_, ?_⟩
  · unfold hM; rw [h]
  · unfold kM; rw [h]
  · unfold cM; rw [h]
  · unfold vM; rw [h]
theorem PM_e {s o : MS} {v : Nat} {M : Nat → Nat → Int} {D : Nat → Int} {e : Int} (H : PM s v M D e) (h : gA o 49 = gA s 49) (h39 : gA o 39 = gA s 39) (hv : v < 16) : PM o v M D e := PM_eq H (eq49 h).1 (eq49 h).2.1 h39 (fun u _ => by rw [h]) hv
theorem dq_0 {q y : Nat} (h : q = y) : ∀ x : Nat, x < 48 → d0 x = dq q x - dq y x := fun x _ => by
  subst h
  show (0 : Int) = _
  omega
set_option maxHeartbeats 4000000 in
theorem mt_puts {p0 p1 p2 : Int} {s : MS} {v : Nat} (hR : Rr s) (hv : v < 8) (hp0 : p0 = (v : Int)) (H : RT s) (hC0 : CE s 0) (hC1 : CE s 1) (hN0 : 0 ≤ gA s 39 5) (hE : 3 ≤ gA s 39 6 ∧ gA s 39 6 ≤ 6) (hf : gI s 55 = 0) (hrt : (0 ≤ gA s 49 v ∧ gA s 49 v < 254) ∨ gA s 49 v = 254) (h1 : 0 ≤ p1 ∧ p1 ≤ 999) (h2 : 0 ≤ p2 ∧ p2 ≤ 999) : wp (m_x12_puts p0 p1 p2 s) (fun o => Rr o ∧ F_x12_puts s o ∧ (∀ j, 785 ≤ j → gA o 49 j = gA s 49 j) ∧ (gI o 55 = 1 ∨ (gI o 55 = 0 ∧ RT o ∧ RWn s o v))) := by
  obtain ⟨M0, P0⟩ := RT_PM v (by omega) H
  have T0 : TM s d0 (-1) := H.1
  have hN48 : gA s 39 5 ≤ 48 := T0.1.1
  have key : wp (m_x12_puts p0 p1 p2 s) (fun o => Rr o ∧ (∀ j, 785 ≤ j → gA o 49 j = gA s 49 j) ∧ (gI o 55 = 1 ∨ (gI o 55 = 0 ∧ RT o ∧ RWn s o v))) := by
    have L94 : ∀ (n : Nat) (i b : Int) (S : MS), Rr S → KS s S → (0 ≤ i ∧ i ≤ 48) → (gI S 55 = 1 ∨ (gI S 55 = 0 ∧ GD s S v b i)) → i < (n : Int) → wp (m_x12_puts_L94 n p1 p2 b S) (fun o => Rr o ∧ (∀ j, 785 ≤ j → gA o 49 j = gA s 49 j) ∧ (gI o 55 = 1 ∨ (gI o 55 = 0 ∧ RT o ∧ RWn s o v))) := by
      refine fr_ind (fun i b S hRS hK hi hG hm => by exfalso; omega) (fun n ih i b S hRS hK hi hG hm => ?_)
      show wp (m_x12_puts_b94 (m_x12_puts_L94 n) p1 p2 b S) _
      unfold m_x12_puts_b94
      have r55 : (0 : Int) ≤ gI S 55 ∧ gI S 55 ≤ 1 := hRS.1 55
      refine wp_rg (by omega) (wp_if (fun c1 => ?_) (fun c1 => ?_))
      · rcases hG with hG | ⟨_, hW, M, T, P, hA⟩
        · omega
        have hA0 := hA
        obtain ⟨⟨ha, a54, a55⟩, a56, a57, am, amu⟩ := hA
        have ha48 : b.toNat < 48 := by omega
        have S39 := hK.1.1
        have na := (TG_nd T ha48 (by omega)).2.1
        have n1 : 1 ≤ (hM S).2.1 b.toNat := T.2.2.1.1 b.toNat ha48 (by omega) (by omega)
        refine wp_bn (w_x12_levelOf hRS ha) (fun r37 e37 h37 => ?_)
        have l37 : r37 = i := by rw [h37.1]; exact a56
        refine wp_rg h37.2 (wp_if (fun c2 => ?_) (fun c2 => ?_))
        · unfold m_x12_puts_J198
          refine wp_rg (by omega) (wp_if (fun c3 => ?_) (fun c3 => by omega))
          refine wp_bn (mt_putsIn (M := M) hRS hv T P (by rw [S39]; exact hE) (by rw [show (0 : Int) = i by omega]; exact hA0) h1 h2) (fun s9 e9 h9 => ?_)
          obtain ⟨hR9, F9, k9, u9, T9, P9⟩ := h9
          unfold m_x12_puts_J213
          refine wp_some ⟨hR9, fun j hj => by rw [k9 j hj]; exact hK.2 j hj, Or.inr ⟨(F9.1 55 (by decide)).trans c1, PM_RT (by omega) T9 P9, fun u hu hn => by rw [u9 u hu]; exact hW.1 u hu hn, by rw [u9 v (by omega)]; exact hW.2⟩⟩
        · refine wp_bn (w_x12_placeFor hRS ha (by omega) na) (fun r41 e41 h41 => ?_)
          have k41 : 0 ≤ r41 ∧ r41 < (hM S).2.1 b.toNat := by omega
          refine wp_bn (w_x12_valueAt hRS ha (by omega)) (fun r43 e43 h43 => ?_)
          have y43 := h43.1
          have kid := TG_kid (p := b.toNat) (k := r41.toNat) T (fun _ _ => Int.le_refl 0) ha48 (by omega) (by omega) (by omega)
          have km := kid_mu (k := r41.toNat) hv P ha48 (by omega) (by omega) (by omega)
          have ke := enf_pos (h := hM S) (p := b.toNat) (k := r41.toNat) (i := 0) (by omega) (by omega) (by omega) (by omega)
          rw [← y43] at kid km ke
          obtain ⟨⟨k0, k1⟩, k2, k3⟩ := kid
          have hNS : gA S 39 5 ≤ 48 := T.1.1
          have y48 : r43.toNat < 48 := by omega
          have ke' : 0 < en (hM S) b.toNat ((r43.toNat : Nat) : Int) := by
            rw [show ((r43.toNat : Nat) : Int) = r43 by omega]
            have : 1 ≤ en (hM S) b.toNat r43 := ke
            omega
          refine wp_bn (mt_owned (M := M) hRS hv T P (KS_CE hK hC0) (by rw [S39]; omega) c1 (by omega) k3 km (own_x hv T P y48 (Or.inr ⟨b.toNat, ha48, by omega, ke', fun u hu hn => by rw [amu u hu hn]; omega⟩))) (fun q46 e46 h46 => ?_)
          obtain ⟨r, o⟩ := q46
          dsimp only at h46 ⊢
          obtain ⟨hRo, Fo, ko, h46⟩ := h46
          have KSo : KS S o := ⟨⟨Fo.2.1 39 (by decide), Fo.2.1 42 (by decide), Fo.2.1 43 (by decide), Fo.2.1 44 (by decide)⟩, ko⟩
          have KSo' : KS s o := KS_t hK KSo
          have hr2 : R2 r := by
            rcases h46 with h46 | ⟨_, w0, M', ⟨⟨w1, _⟩, _⟩, _⟩ <;> omega
          -- behind the child's own block
          have J162 : ∀ (X : MS) (M' : Nat → Nat → Int), Rr X → KS s X → gI X 55 = 0 → RWn s X v → TM X d0 (-1) → PM X v M' d0 (-1) → CurM X v M' b i → (r41 < (hM X).2.1 b.toNat) → (((0 ≤ r ∧ r < 48) ∧ cM X r.toNat = 1 ∧ vM X r.toNat = 0) ∧ (hM X).1 r.toNat = i - 1 ∧ (M' v r.toNat = 1 ∧ ∀ u, u < 16 → u ≠ v → M' u r.toNat = 0)) → wp (m_x12_puts_J162 (m_x12_puts_L94 n) p1 p2 b r41 r X) (fun o => Rr o ∧ (∀ j, 785 ≤ j → gA o 49 j = gA s 49 j) ∧ (gI o 55 = 1 ∨ (gI o 55 = 0 ∧ RT o ∧ RWn s o v))) := by
            intro X M' hRX hKX f55 hWX TX PX hAX hkX hq
            obtain ⟨⟨q48, qc, qv⟩, ql, qm, qmu⟩ := hq
            have q48' : r.toNat < 48 := by omega
            have X39 := hKX.1.1
            have nq := (TG_nd TX q48' (by omega)).2.1
            unfold m_x12_puts_J162
            refine wp_rg (by omega) (wp_if (fun c3 => ?_) (fun c3 => absurd f55 c3))
            refine wp_bn (w_x12_doesSplit hRX q48 (KS_CE hKX hC1) nq (by omega) (by rw [X39]; omega)) (fun q28 e28 h28 => ?_)
            obtain ⟨t, o2⟩ := q28
            dsimp only at e28 h28 ⊢
            obtain ⟨hR2, h28⟩ := h28
            have F2 : F_x12_doesSplit X o2 := fr_x12_doesSplit e28
            have a49 : gA o2 49 = gA X 49 := F2.2.1 49 (by decide)
            have a39 : gA o2 39 = gA X 39 := F2.2.1 39 (by decide)
            have K2 : KS s o2 := KS_t hKX ⟨⟨a39, F2.2.1 42 (by decide), F2.2.1 43 (by decide), F2.2.1 44 (by decide)⟩, fun j _ => by rw [a49]⟩
            obtain ⟨e1, e2, e3, e4⟩ := eq49 a49
            have T2 : TM o2 d0 (-1) := TM_eq TX a49 a39
            have P2 : PM o2 v M' d0 (-1) := PM_e PX a49 a39 (by omega)
            have W2 : RWn s o2 v := ⟨fun u hu hn => by rw [a49]; exact hWX.1 u hu hn, by rw [a49]; exact hWX.2⟩
            have g55 : gI o2 55 = 0 := (F2.1 55 (by decide)).trans f55
            rw [X39] at h28
            refine wp_rg (by omega) (wp_if (fun c4 => ?_) (fun c4 => ?_))
            · unfold m_x12_puts_J191
              refine ih (i - 1) r o2 hR2 K2 (by omega) (Or.inr ⟨g55, W2, M', T2, P2, ⟨q48, by rw [e3]; exact qc, by rw [e4]; exact qv⟩, by rw [e1]; exact ql, by rw [e1, a39, X39]; omega, qm, qmu⟩) (by omega)
            · obtain ⟨⟨xa, xb, xc⟩, xd, xe, xf⟩ := hAX
              refine wp_bn (mt_half (i := i - 1) (M := M') hR2 hv T2 P2 (KS_CE K2 hC0) (by rw [a39, X39]; exact hE) g55 ⟨⟨xa, by rw [e3]; exact xb, by rw [e4]; exact xc⟩, by rw [e1, xd]; omega, by rw [e1, a39]; exact xe, xf⟩ (by rw [e1]; omega) ⟨⟨q48, by rw [e3]; exact qc, by rw [e4]; exact qv⟩, by rw [e1]; exact ql, by rw [e1]; omega, qm, qmu⟩ (by omega)) (fun q33 e33 h33 => ?_)
              obtain ⟨t3, o3⟩ := q33
              dsimp only at h33 ⊢
              obtain ⟨hR3, F3, k3, u3, h33⟩ := h33
              have K3 : KS s o3 := KS_t K2 ⟨⟨F3.2.1 39 (by decide), F3.2.1 42 (by decide), F3.2.1 43 (by decide), F3.2.1 44 (by decide)⟩, k3⟩
              unfold m_x12_puts_J191
              refine ih (i - 1) t3 o3 hR3 K3 (by omega) ?_ (by omega)
              rcases h33 with h33 | ⟨z0, M3, T3, P3, A3⟩
              · exact Or.inl h33
              · exact Or.inr ⟨z0, ⟨fun u hu hn => by rw [u3 u hu z0]; exact W2.1 u hu hn, by rw [u3 v (by omega) z0]; exact W2.2⟩, M3, T3, P3, A3⟩
          refine wp_rg hr2 (wp_rg (by omega) (wp_if (fun c3 => ?_) (fun c3 => ?_)))
          · rcases h46 with ⟨h46, _⟩ | ⟨z0, w0, M', ⟨⟨rq, rN⟩, ⟨o54, o55⟩, ⟨o56, o57⟩⟩, oc, oh, oq, ou, ⟨To, Po⟩, om, omu, omn, omx⟩
            · unfold m_x12_puts_J162 m_x12_puts_J191
              refine wp_rg (by omega) (wp_if (fun c4 => by omega) (fun c4 => ?_))
              exact ih (i - 1) r o hRo KSo' (by omega) (Or.inl h46) (by omega)
            · have nb : b.toNat ≠ r43.toNat := fun z => by rw [← z] at k2; omega
              have nq : b.toNat ≠ r.toNat := fun z => nb (by omega)
              have ob := oh b.toNat nq
              refine J162 o M' hRo KSo' z0 ⟨fun u hu hn => by rw [ou u hu]; exact hW.1 u hu hn, by rw [ou v (by omega)]; exact hW.2⟩ (TG_D To (dq_0 (by omega))) (PM_D Po (dq_0 (by omega))) ⟨⟨ha, ?_, ?_⟩, ?_, ?_, ?_, ?_⟩ ?_ ⟨⟨by omega, o54, o55⟩, by rw [o56, k2]; omega, om, omu⟩
              · rw [oc b.toNat ha48 (by omega) (by omega) nb]; exact a54
              · rw [ob.1]; exact a55
              · rw [ob.2.1]; exact a56
              · rw [ob.2.2.1, KSo.1.1]; exact a57
              · rw [omx b.toNat nq nb]; exact am
              · intro u hu hn; rw [omn u hn]; exact amu u hu hn
              · rw [ob.2.2.1]; exact k41.2
          · rcases h46 with ⟨_, h46⟩ | ⟨z0, w0, M', ⟨⟨rq, rN⟩, ⟨o54, o55⟩, ⟨o56, o57⟩⟩, oc, oh, oq, ou, ⟨To, Po⟩, om, omu, omn, omx⟩
            · exact absurd h46 c3
            · have nb : b.toNat ≠ r43.toNat := fun z => by rw [← z] at k2; omega
              have nq : b.toNat ≠ r.toNat := fun z => by
                rcases oq with oq | oq
                · exact nb (by omega)
                · rw [← z] at oq; omega
              have ob := oh b.toNat nq
              have cb : cM o b.toNat = 1 := by rw [oc b.toNat ha48 (by omega) (by omega) nb]; exact a54
              have vb : vM o b.toNat = 0 := by rw [ob.1]; exact a55
              have lb : (hM o).1 b.toNat = i := by rw [ob.2.1]; exact a56
              have eb : (hM o).2.2 b.toNat r41.toNat = r43 := by rw [(ob.2.2.2 r41.toNat (by omega)).1]; exact y43.symm
              refine wp_bn (w_x12_keyAt hRo ha (by omega)) (fun r51 e51 h51 => ?_)
              refine wp_bn (w_x12_setsEntry hRo ha (by omega) h51.2 hr2) (fun s53 e53 h53 => ?_)
              obtain ⟨hR53, u53⟩ := h53
              have F53 : F_x12_setsEntry o s53 := fr_x12_setsEntry e53
              rw [h51.1] at u53
              have mb : M' v b.toNat = 1 := by rw [omx b.toNat nq nb]; exact am
              have mub : ∀ u, u < 16 → u ≠ v → M' u b.toNat = 0 := fun u hu hn => by rw [omn u hn]; exact amu u hu hn
              obtain ⟨iB, iz, T2, P2⟩ := MT_set (b := b.toNat) (k := r41.toNat) To Po (by omega) u53 (F53.2.1 39 (by decide)) (by omega) ha48 (by omega) (by omega) (by omega) (fun u hu hn => by rw [mub u hu hn]; omega) (by rw [ob.2.2.1]; omega) (fun _ => ⟨by rw [KSo.1.1]; omega, by rw [o56, k2, lb]; omega⟩)
              have dd : ∀ x : Nat, x < 48 → d0 x = dq r.toNat x - dq r43.toNat x + (if 0 < (hM o).1 b.toNat ∧ (hM o).2.2 b.toNat r41.toNat = (x : Int) then 1 else 0) - (if 0 < (hM o).1 b.toNat ∧ r = (x : Int) then 1 else 0) := fun x hx => by
                show (0 : Int) = _
                rw [eb]
                have e1 : (if 0 < (hM o).1 b.toNat ∧ r43 = (x : Int) then (1 : Int) else 0) = dq r43.toNat x := by
                  rw [← dd_0 k0]
                  by_cases z : r43 = (x : Int)
                  · rw [if_pos z, if_pos ⟨by omega, z⟩]
                  · rw [if_neg z, if_neg (fun w => z w.2)]
                have e2 : (if 0 < (hM o).1 b.toNat ∧ r = (x : Int) then (1 : Int) else 0) = dq r.toNat x := by
                  rw [← dd_0 w0]
                  by_cases z : r = (x : Int)
                  · rw [if_pos z, if_pos ⟨by omega, z⟩]
                  · rw [if_neg z, if_neg (fun w => z w.2)]
                rw [e1, e2]; omega
              have K53 : KS s s53 := KS_t KSo' ⟨⟨F53.2.1 39 (by decide), F53.2.1 42 (by decide), F53.2.1 43 (by decide), F53.2.1 44 (by decide)⟩, fun j hj => BX_k iB ha48 hj⟩
              refine J162 s53 M' hR53 K53 ((F53.1 55 (by decide)).trans z0) ⟨fun u hu hn => by rw [BX_u iB hu, ou u hu]; exact hW.1 u hu hn, by rw [BX_u iB (by omega), ou v (by omega)]; exact hW.2⟩ (TG_D T2 dd) (PM_D P2 dd) ⟨⟨ha, by rw [BX_c iB]; exact cb, by rw [BX_v iB]; exact vb⟩, by rw [BX_l iB]; exact lb, by rw [iz, ob.2.2.1, K53.1.1, ← S39]; exact a57, mb, mub⟩ (by rw [iz, ob.2.2.1]; exact k41.2) ⟨⟨by omega, by rw [BX_c iB]; exact o54, by rw [BX_v iB]; exact o55⟩, by rw [BX_l iB, o56, k2]; omega, om, omu⟩
      · unfold m_x12_puts_J198 m_x12_puts_J213
        refine wp_rg (by omega) (wp_if (fun c2 => absurd c2 c1) (fun c2 => ?_))
        exact wp_some ⟨hRS, hK.2, Or.inl (by omega)⟩
    unfold m_x12_puts
    refine wp_rdIn (by omega) (fun y54 e54 => ?_)
    have y54' : gA s 49 v = y54 := by rw [← e54, show p0.toNat = v by omega]
    refine wp_rg (by omega) (wp_if (fun c1 => ?_) (fun c1 => ?_))
    · refine wp_bn (w_x12_taken hR ⟨hN0, hN48⟩ hC0 (by omega) (by omega)) (fun q75 e75 h75 => ?_)
      obtain ⟨r, o⟩ := q75
      dsimp only at e75 h75 ⊢
      obtain ⟨hRo, k7, h75⟩ := h75
      have Fo : F_x12_taken s o := fr_x12_taken e75
      have o39 : gA o 39 = gA s 39 := Fo.2.1 39 (by decide)
      have o55 : (0 : Int) ≤ gI o 55 ∧ gI o 55 ≤ 1 := hRo.1 55
      refine wp_rg (by omega) (wp_if (fun c2 => ?_) (fun c2 => wp_some ⟨hRo, k7, Or.inl (by omega)⟩))
      rcases h75 with h75 | ⟨_, ⟨r0, r1⟩, hcv, hK⟩
      · omega
      have hq48 : r.toNat < 48 := by omega
      obtain ⟨⟨c0, v0, m0⟩, T1, P1⟩ := TM_take (b := r.toNat) T0 P0 hv (by omega) (by omega) hcv hK (by omega) o39
      have oqz : (hM o).2.1 r.toNat = 0 := hK.2.2.2
      have oql : (hM o).1 r.toNat = 0 := hK.2.2.1
      refine wp_bn (w_x12_inserts hRo (by omega) (by omega) (by omega) (by omega) (by omega)) (fun s79 e79 h79 => ?_)
      obtain ⟨hR79, F79, I79⟩ := h79
      obtain ⟨T2, P2⟩ := MT_ins (b := r.toNat) (k := (0 : Int).toNat) T1 P1 I79 (F79.2.1 39 (by decide)) (by omega) hq48 (by rw [hK.2.1.1]; omega) (by rw [hK.2.1.2]; omega) (by rw [upM_s, upZ_s]; omega) (fun u hu hn => by rw [upM_n hn, m0 u hu]; omega) (by omega) (by rw [oqz, o39]; omega) (by rw [oqz]; exact Int.le_refl 0) (fun w => by omega) h1 (Or.inr rfl)
      have iB := I79.1
      refine wp_inb (by omega) (wp_stn (fun s81 e81 => ?_))
      have hR81 : Rr s81 := e81 ▸ Rr.uAu hR79 (by show (-2147483648 : Int) ≤ r ∧ r ≤ 2147483647; omega)
      have u81 : gA s81 49 = upZ (gA s79 49) v r := by rw [(q_AA e81 : gA s81 49 = _), show p0.toNat = v by omega]
      have a39 : gA s79 39 = gA s 39 := (F79.2.1 39 (by decide)).trans o39
      obtain ⟨T3, P3⟩ := MT_root (q := r) T2 P2 hv u81 (q_Aa e81 (by decide)) (Or.inl ⟨r0, by rw [a39]; omega⟩)
      have rt : gA s79 49 v = 254 := by rw [BX_u iB (by omega), TkE_u hK (by omega), y54']; exact c1
      have dd : ∀ x : Nat, x < 48 → d0 x = dq r.toNat x - (if 0 < (hM o).1 r.toNat ∧ p2 = (x : Int) then 1 else 0) + (if gA s79 49 v = (x : Int) then 1 else 0) - (if r = (x : Int) then 1 else 0) := fun x hx => by
        show (0 : Int) = _
        rw [rt, dd_0 r0, if_neg (fun w => by omega), if_neg (show ¬ (254 : Int) = (x : Int) by omega)]; omega
      refine wp_some ⟨hR81, fun j hj => ?_, Or.inr ⟨(q_Ai e81).trans ((F79.1 55 (by decide)).trans c2), PM_RT (by omega) (TG_D T3 dd) (PM_D P3 dd), fun u hu hn => ?_, ?_⟩⟩
      · rw [u81, upZ_n (by omega), BX_k iB hq48 hj]; exact k7 j hj
      · rw [u81, upZ_n hn, BX_u iB hu]; exact TkE_u hK hu
      · rw [u81, upZ_s]; omega
    · refine wp_rdIn (by omega) (fun y57 e57 => ?_)
      have y57' : gA s 49 v = y57 := by rw [← e57, show p0.toNat = v by omega]
      have rl := TG_root_live (v := v) T0 (fun _ _ => Int.le_refl 0) hv (by rw [rM_v hv]; omega) (by rw [rM_v hv]; omega)
      rw [rM_v hv, y57'] at rl
      have rm := root_mu hv P0 (by omega) (by omega)
      rw [y57'] at rm
      have y48 : y57.toNat < 48 := by omega
      have lv : 0 ≤ (hM s).1 y57.toNat ∧ (hM s).1 y57.toNat ≤ 47 := TG_lev T0 (fun _ _ => Int.le_refl 0) y48 rl.2
      refine wp_bn (mt_owned (M := M0) hR hv T0 P0 hC0 (by omega) hf (by omega) rl.2 rm (own_x hv T0 P0 y48 (Or.inl (by omega)))) (fun q60 e60 h60 => ?_)
      obtain ⟨r, o⟩ := q60
      dsimp only at h60 ⊢
      obtain ⟨hRo, Fo, ko, h60⟩ := h60
      have KSo : KS s o := ⟨⟨Fo.2.1 39 (by decide), Fo.2.1 42 (by decide), Fo.2.1 43 (by decide), Fo.2.1 44 (by decide)⟩, ko⟩
      have o55r : (0 : Int) ≤ gI o 55 ∧ gI o 55 ≤ 1 := hRo.1 55
      refine wp_rg (by omega) (wp_if (fun c2 => ?_) (fun c2 => wp_some ⟨hRo, ko, Or.inl (by omega)⟩))
      rcases h60 with ⟨h60, _⟩ | ⟨z0, w0, M', ⟨⟨rq, rN⟩, ⟨o54, o55⟩, ⟨o56, o57⟩⟩, oc, oh, oq, ou, ⟨To, Po⟩, om, omu, omn, omx⟩
      · omega
      refine wp_inb (by omega) (wp_stn (fun s64 e64 => ?_))
      have hR64 : Rr s64 := e64 ▸ Rr.uAu hRo (by show (-2147483648 : Int) ≤ r ∧ r ≤ 2147483647; omega)
      have u64 : gA s64 49 = upZ (gA o 49) v r := by rw [(q_AA e64 : gA s64 49 = _), show p0.toNat = v by omega]
      have a39 : gA s64 39 = gA o 39 := q_Aa e64 (by decide)
      obtain ⟨T1, P1⟩ := MT_root (q := r) To Po hv u64 a39 (Or.inl ⟨w0, by rw [KSo.1.1]; omega⟩)
      obtain ⟨⟨w1, w2⟩, ⟨w3, w4⟩, _⟩ := M_root hv u64
      have dd : ∀ x : Nat, x < 48 → d0 x = dq r.toNat x - dq y57.toNat x + (if gA o 49 v = (x : Int) then 1 else 0) - (if r = (x : Int) then 1 else 0) := fun x hx => by
        show (0 : Int) = _
        rw [ou v (by omega), y57', dd_0 w0, dd_0 (by omega)]; omega
      have T2 : TM s64 d0 (-1) := TG_D T1 dd
      have P2 : PM s64 v M' d0 (-1) := PM_D P1 dd
      have K64 : KS s s64 := KS_t KSo ⟨⟨a39, q_Aa e64 (by decide), q_Aa e64 (by decide), q_Aa e64 (by decide)⟩, fun j hj => by rw [u64, upZ_n (by omega)]⟩
      have W64 : RWn s s64 v := ⟨fun u hu hn => by rw [u64, upZ_n hn]; exact ou u hu, by rw [u64, upZ_s]; omega⟩
      have f64 : gI s64 55 = 0 := (q_Ai e64).trans z0
      have r48 : 0 ≤ r ∧ r < 48 := by omega
      have nq := (TG_nd T2 rq (by rw [w3]; omega)).2.1
      have l64 : (hM s64).1 r.toNat = (hM s).1 y57.toNat := by rw [w1]; exact o56
      refine wp_bn (w_x12_doesSplit hR64 r48 (KS_CE K64 hC1) nq (by omega) (by rw [K64.1.1]; omega)) (fun q67 e67 h67 => ?_)
      obtain ⟨t, o2⟩ := q67
      dsimp only at e67 h67 ⊢
      obtain ⟨hR2, h67⟩ := h67
      have F2 : F_x12_doesSplit s64 o2 := fr_x12_doesSplit e67
      have a49 : gA o2 49 = gA s64 49 := F2.2.1 49 (by decide)
      have b39 : gA o2 39 = gA s64 39 := F2.2.1 39 (by decide)
      have K2 : KS s o2 := KS_t K64 ⟨⟨b39, F2.2.1 42 (by decide), F2.2.1 43 (by decide), F2.2.1 44 (by decide)⟩, fun j _ => by rw [a49]⟩
      obtain ⟨e1, e2, e3, e4⟩ := eq49 a49
      have T3 : TM o2 d0 (-1) := TM_eq T2 a49 b39
      have P3 : PM o2 v M' d0 (-1) := PM_e P2 a49 b39 (by omega)
      have W2 : RWn s o2 v := ⟨fun u hu hn => by rw [a49]; exact W64.1 u hu hn, by rw [a49]; exact W64.2⟩
      have g55 : gI o2 55 = 0 := (F2.1 55 (by decide)).trans f64
      rw [K64.1.1] at h67
      refine wp_rg (by omega) (wp_if (fun c4 => ?_) (fun c4 => ?_))
      · refine L94 FU ((hM s).1 y57.toNat) r o2 hR2 K2 (by omega) (Or.inr ⟨g55, W2, M', T3, P3, ⟨r48, by rw [e3, w3]; exact o54, by rw [e4, w4]; exact o55⟩, by rw [e1]; exact l64, by rw [e1, K2.1.1]; omega, om, omu⟩) (by have := FU_big; omega)
      · refine wp_bn (mt_rootSplit (i := (hM s).1 y57.toNat) (M := M') hR2 hv hp0 T3 P3 (KS_CE K2 hC0) (by rw [K2.1.1]; exact hE) g55 (by rw [a49, u64, upZ_s]) ⟨⟨r48, by rw [e3, w3]; exact o54, by rw [e4, w4]; exact o55⟩, by rw [e1]; exact l64, by rw [e1]; omega, om, omu⟩ (by omega)) (fun q72 e72 h72 => ?_)
        obtain ⟨t3, o3⟩ := q72
        dsimp only at h72 ⊢
        obtain ⟨hR3, F3, k3, u3, h72⟩ := h72
        have K3 : KS s o3 := KS_t K2 ⟨⟨F3.2.1 39 (by decide), F3.2.1 42 (by decide), F3.2.1 43 (by decide), F3.2.1 44 (by decide)⟩, k3⟩
        refine L94 FU ((hM s).1 y57.toNat) t3 o3 hR3 K3 (by omega) ?_ (by have := FU_big; omega)
        rcases h72 with h72 | ⟨z1, rv, M3, T4, P4, A4⟩
        · exact Or.inl h72
        · exact Or.inr ⟨z1, ⟨fun u hu hn => by rw [u3 u hu hn z1]; exact W2.1 u hu hn, rv⟩, M3, T4, P4, A4⟩
  exact wp_eq key (fun q eq hq => ⟨hq.1, fr_x12_puts eq, hq.2⟩)
