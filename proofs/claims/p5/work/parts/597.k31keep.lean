/-! ===== the reference: what is told stays while another STORE is read ===== -/
theorem b_vt {p0 p1 : Int} {s : MS} (h : (0 ≤ gA s 39 2 ∧ gA s 39 2 ≤ 8) ∧ 0 ≤ gA s 39 3) : pc (m_x12_volumeTold p0 p1 s) (fun o => ∀ j, 8 ≤ j → gB o 40 j = gB s 40 j) := by
  have J83 : ∀ (z x2 x3 : Int) (S : MS), gI S 5 = 0 → (0 ≤ gA S 39 2 ∧ gA S 39 2 < 8 ∧ 0 ≤ gA S 39 3) → pc (m_x12_volumeTold_J83 z x2 x3 S) (fun o => ∀ j, 8 ≤ j → gB o 40 j = gB S 40 j) := fun z x2 x3 S h5 h2 => by
    unfold m_x12_volumeTold_J83
    refine pc_rdI (fun _ => pc_bn (fun s7 e7 => pc_rdI (fun _ => pc_inb (pc_stn (fun s10 e10 => pc_rdI (fun _ => pc_inb (pc_stn (fun s13 e13 => pc_some (fun j hj => ?_)))))))))
    have F : F_x12_actTold S s7 := fr_x12_actTold e7
    have a2 : gA s7 39 2 = gA S 39 2 := (m_act h5 h2.2.2 s7 e7).1.2 2 (by decide)
    rw [(q_Ab e13 : gB s13 40 = gB s10 40), (q_BB e10 : gB s10 40 = _), upZ_n (by rw [show Int.toNat 2 = 2 from rfl, a2]; omega), F.2.2.2 40 (by decide)]
  have J50 : ∀ (p z x : Int) (S : MS), (gI S 5 = 0 → (0 ≤ gA S 39 2 ∧ gA S 39 2 < 8 ∧ 0 ≤ gA S 39 3)) → pc (m_x12_volumeTold_J50 p z x S) (fun o => ∀ j, 8 ≤ j → gB o 40 j = gB S 40 j) := fun p z x S h2 => by
    unfold m_x12_volumeTold_J50
    refine pc_rg (pc_if (fun c5 => ?_) (fun _ => pc_some (fun _ _ => rfl)))
    have J68 : ∀ x17 : Int, pc (m_x12_volumeTold_J68 p z x x17 S) (fun o => ∀ j, 8 ≤ j → gB o 40 j = gB S 40 j) := fun x17 => by
      unfold m_x12_volumeTold_J68
      exact pc_rg (pc_if (fun _ => pc_rdI (fun _ => J83 _ _ _ S c5 (h2 c5))) (fun _ => J83 _ _ _ S c5 (h2 c5)))
    exact pc_rg (pc_if (fun _ => J68 0) (fun _ => J68 1))
  have J24 : ∀ (S : MS), (gI S 5 = 0 → (0 ≤ gA S 39 2 ∧ gA S 39 2 < 8 ∧ 0 ≤ gA S 39 3)) → pc (m_x12_volumeTold_J24 p0 S) (fun o => ∀ j, 8 ≤ j → gB o 40 j = gB S 40 j) := fun S h2 => by
    unfold m_x12_volumeTold_J24
    refine pc_bn (fun q34 e34 => ?_)
    have F34 : F_x12_newName S q34.2 := fr_x12_newName e34
    have k34 : FKp 5 6 S q34.2 := fk_x12_newName q34 e34
    have w34 : gI q34.2 5 = 0 → (0 ≤ gA q34.2 39 2 ∧ gA q34.2 39 2 < 8 ∧ 0 ≤ gA q34.2 39 3) := fun z => by
      rw [F34.2.1 39 (by decide)]
      exact h2 (Classical.byContradiction (fun n => n ((k34 n).1.symm.trans z)))
    refine pc_rg (pc_if (fun _ => pc_mono (J50 _ _ _ q34.2 w34) (fun o ho j hj => by rw [ho j hj, F34.2.2.2 40 (by decide)])) (fun _ => pc_bn (fun s38 e38 => pc_bn (fun q41 e41 => ?_))))
    have F38 : F_x12_asks q34.2 s38 := fr_x12_asks e38
    have F41 : F_x12_volumeNamed s38 q41.2 := fr_x12_volumeNamed e41
    have k41 : FKp 5 6 q34.2 q41.2 := (fk_x12_asks s38 e38).tr (fk_x12_volumeNamed q41 e41)
    refine pc_mono (J50 _ _ _ q41.2 (fun z => ?_)) (fun o ho j hj => by rw [ho j hj, F41.2.2.2 40 (by decide), F38.2.2.2 40 (by decide), F34.2.2.2 40 (by decide)])
    rw [F41.2.1 39 (by decide), F38.2.1 39 (by decide)]
    exact w34 (Classical.byContradiction (fun n => n ((k41 n).1.symm.trans z)))
  unfold m_x12_volumeTold
  refine pc_rg (pc_if (fun c5 => pc_rdI (fun _ => pc_rg (pc_if (fun _ => pc_bn (fun s48 e48 => ?_)) (fun c8 => J24 s (fun _ => ?_))))) (fun c5 => J24 s (fun z => absurd z c5)))
  · have F48 : F_x12_fail s s48 := fr_x12_fail e48
    have v := (m_fail c5 s48 e48).1
    exact pc_mono (J24 s48 (fun z => absurd (v.symm.trans z) (by decide))) (fun o ho j hj => by rw [ho j hj, F48.2.2.2 40 (by decide)])
  · have c8' : gA s 39 2 ≠ 8 := c8
    exact ⟨h.1.1, by omega, h.2⟩
theorem b_J178 {s : MS} : pc (m_x12_statementTold_J178 s) (fun o => gB o 40 = gB s 40) := by
  unfold m_x12_statementTold_J178
  exact pc_bn (fun s3 e3 => pc_stn (fun s4 e4 => pc_some ((q_Ib e4).trans ((fr_x12_asksSign e3 : F_x12_asksSign s s3).2.2.2 40 (by decide)))))
theorem b_stmt {s : MS} (h : (0 ≤ gA s 39 2 ∧ gA s 39 2 ≤ 8) ∧ 0 ≤ gA s 39 3) : pc (m_x12_statementTold s) (fun o => ∀ j, 8 ≤ j → gB o 40 j = gB s 40 j) := by
  have V : ∀ (p x : Int) (S : MS), gA S 39 = gA s 39 → gB S 40 = gB s 40 → pc (bn (m_x12_volumeTold p x S) (fun u => m_x12_statementTold_J178 u)) (fun o => ∀ j, 8 ≤ j → gB o 40 j = gB s 40 j) := fun p x S a b => pc_bq (b_vt (by rw [a]; exact h)) (fun u hu => pc_mono b_J178 (fun o ho j hj => by rw [ho, hu j hj, b]))
  have K : ∀ (u : MS), gB u 40 = gB s 40 → pc (m_x12_statementTold_J178 u) (fun o => ∀ j, 8 ≤ j → gB o 40 j = gB s 40 j) := fun u b => pc_mono b_J178 (fun o ho j _ => by rw [ho, b])
  have T : ∀ {wid wn : Nat} {S : MS} {q : Int × MS}, m_x12_takes wid wn S = some q → gA S 39 = gA s 39 ∧ gB S 40 = gB s 40 → gA q.2 39 = gA s 39 ∧ gB q.2 40 = gB s 40 := fun {wid wn S q} e a => by
    have F : F_x12_takes S q.2 := fr_x12_takes e
    exact ⟨(F.2.1 39 (by decide)).trans a.1, (F.2.2.2 40 (by decide)).trans a.2⟩
  have C : ∀ (p x : Int) (S : MS), gB S 40 = gB s 40 → pc (bn (m_x12_codesTold p x S) (fun u => m_x12_statementTold_J178 u)) (fun o => ∀ j, 8 ≤ j → gB o 40 j = gB s 40 j) := fun p x S b => pc_bn (fun u eu => K u (((fr_x12_codesTold eu : F_x12_codesTold S u).2.2.2 40 (by decide)).trans b))
  unfold m_x12_statementTold
  refine pc_rg (pc_if (fun _ => pc_bn (fun s64 e64 => pc_some (fun j _ => by rw [(fr_x12_fail e64 : F_x12_fail s s64).2.2.2 40 (by decide)]))) (fun _ => pc_bn (fun q9 e9 => ?_)))
  have a9 := T e9 ⟨rfl, rfl⟩
  refine pc_rg (pc_if (fun _ => pc_bn (fun q14 e14 => ?_)) (fun _ => V _ _ _ a9.1 a9.2))
  have a14 := T e14 a9
  refine pc_rg (pc_if (fun _ => pc_bn (fun q19 e19 => ?_)) (fun _ => V _ _ _ a14.1 a14.2))
  have a19 := T e19 a14
  refine pc_rg (pc_if (fun _ => pc_bn (fun q24 e24 => ?_)) (fun _ => pc_bn (fun u eu => K u (((fr_x12_putTold eu : F_x12_putTold q19.2 u).2.2.2 40 (by decide)).trans a19.2))))
  have a24 := T e24 a19
  refine pc_rg (pc_if (fun _ => pc_bn (fun q29 e29 => ?_)) (fun _ => pc_bn (fun u eu => K u (((fr_x12_removeTold eu : F_x12_removeTold q24.2 u).2.2.2 40 (by decide)).trans a24.2))))
  have a29 := T e29 a24
  refine pc_rg (pc_if (fun _ => pc_bn (fun q34 e34 => ?_)) (fun _ => C _ _ _ a29.2))
  have a34 := T e34 a29
  refine pc_rg (pc_if (fun _ => pc_bn (fun q39 e39 => ?_)) (fun _ => C _ _ _ a34.2))
  have a39 := T e39 a34
  refine pc_rg (pc_if (fun _ => pc_bn (fun s43 e43 => pc_bn (fun q46 e46 => pc_inb (pc_stn (fun s48 e48 => K s48 ?_))))) (fun _ => C _ _ _ a39.2))
  rw [(q_Ab e48 : gB s48 40 = gB q46.2 40), (fr_x12_number e46 : F_x12_number s43 q46.2).2.2.2 40 (by decide), (fr_x12_asks e43 : F_x12_asks q39.2 s43).2.2.2 40 (by decide)]
  exact a39.2
/-- what was told, and all that lies beside a text's reading -/
def KT (s o : MS) : Prop := (FBk s o ∧ ∀ j, 8 ≤ j → gB o 40 j = gB s 40 j) ∧ Fr [1, 2, 3, 4, 5, 6, 7, 8, 10, 38, 45, 46, 48, 102, 104, 105, 106] [9, 39, 41, 42, 43, 44, 101, 103] [] [40] s o
theorem KT_tr {s o q : MS} {I A : List Nat} (h : KT s o) (f : FBk o q) (b : ∀ j, 8 ≤ j → gB q 40 j = gB o 40 j) (g : Fr I A [] [40] o q) (hI : ∀ k, k ∈ I → k ∈ [1, 2, 3, 4, 5, 6, 7, 8, 10, 38, 45, 46, 48, 102, 104, 105, 106]) (hA : ∀ k, k ∈ A → k ∈ [9, 39, 41, 42, 43, 44, 101, 103]) : KT s q := ⟨⟨FB_t h.1.1 f, fun j hj => (b j hj).trans (h.1.2 j hj)⟩, h.2.tr g ⟨hI, hA, fun _ q => q, fun _ q => q⟩⟩
theorem KT_0 {s o q : MS} {I : List Nat} (h : KT s o) (g : Fr I [] [] [] o q) (hI : ∀ k, k ∈ I → k ∈ [1, 2, 3, 4, 5, 6, 7, 8, 10, 38, 45, 46, 48, 102, 104, 105, 106]) : KT s q :=
  KT_tr h (FB_e (g.2.1 39 (by decide)) (g.2.1 42 (by decide)) (g.2.1 43 (by decide)) (g.2.1 44 (by decide))) (fun j _ => by rw [g.2.2.2 40 (by decide)]) (Fr.tr (Fr.rf o) g ⟨fun _ q => q, fun _ q => absurd q (by simp), fun _ q => q, fun _ q => absurd q (by simp)⟩ : Fr I [] [] [40] o q) hI (fun _ q => absurd q (by simp))
def SRT (t0 T : MS) : Prop := Rr T ∧ KT t0 T ∧ (gI T 5 = 0 → SP T 0 ∧ gI T 2 ≤ gI T 3 ∧ (1 ≤ gI T 46 ∧ gI T 46 ≤ 60))
theorem FI1 {s o : MS} {k : Nat} {v : Int} (e : sI s k v = o) : Fr [k] [] [] [] s o := by
  subst e
  exact Fr.uI (Fr.rf s) (List.mem_singleton.mpr rfl)
theorem r_J109 {t0 T : MS} (H : SRT t0 T) : pc (m_x12_store_J109 T) (fun o => gI o.2 7 ≠ 0 → KT t0 o.2) := by
  unfold m_x12_store_J109
  refine pc_stn (fun s2 e2 => pc_stn (fun s3 e3 => ?_))
  have K3 : KT t0 s3 := KT_0 (KT_0 H.2.1 (FI1 e2) (by decide)) (FI1 e3) (by decide)
  have i5 : gI s3 5 = gI T 5 := (q_Ii e3 (by decide)).trans (q_Ii e2 (by decide))
  have i7 : gI s3 7 = gI T 5 := (q_Ii e3 (by decide)).trans (q_II e2)
  refine pc_rg (pc_if (fun c => pc_bn (fun s7 e7 => pc_some (fun z => absurd ?_ z))) (fun _ => pc_bn (fun q10 e10 => pc_some (fun _ => ?_))))
  · have F : F_x12_stands s3 s7 := fr_x12_stands e7
    rw [F.1 7 (by decide), i7, ← i5]; exact c
  · have F : F_x12_refuses s3 q10.2 := fr_x12_refuses e10
    exact KT_tr K3 (FB_e (F.2.1 39 (by decide)) (F.2.1 42 (by decide)) (F.2.1 43 (by decide)) (F.2.1 44 (by decide))) (fun j _ => by rw [F.2.2.2 40 (by decide)]) (Fr.tr (Fr.rf s3) F ⟨fun _ q => absurd q (by simp), fun _ q => q, fun _ q => q, fun _ q => absurd q (by simp)⟩ : Fr [] [9] [] [40] s3 q10.2) (by decide) (by decide)
theorem r_L87 {t0 : MS} : ∀ (n : Nat) (T : MS), SRT t0 T → pc (m_x12_store_L87 n T) (fun o => gI o.2 7 ≠ 0 → KT t0 o.2) := by
  refine fr_ind (fun _ _ => pc_none) (fun n ih T H => ?_)
  show pc (m_x12_store_b87 (m_x12_store_L87 n) T) _
  unfold m_x12_store_b87
  refine pc_rg (pc_if (fun c => pc_bn (fun q16 e16 => ?_)) (fun _ => r_J109 H))
  obtain ⟨hS, h2, h46⟩ := H.2.2 c
  have W := wp_det (w_x12_look H.1 h2) e16
  have F : F_x12_look T q16.2 := fr_x12_look e16
  have S16 : SP q16.2 0 := SP_eq hS (F.2.1 39 (by decide)) (F.2.1 41 (by decide)) (F.2.1 42 (by decide)) (F.2.1 43 (by decide)) (F.2.1 44 (by decide)) (F.1 45 (by decide)) (by rw [F.1 46 (by decide)]; omega) W.2.2.1.1 (Or.inl c)
  have c16 : gI q16.2 5 = 0 := (F.1 5 (by decide)).trans c
  have e46 : gI q16.2 46 = gI T 46 := F.1 46 (by decide)
  have K16 : KT t0 q16.2 := KT_0 H.2.1 F (by decide)
  have H16 : SRT t0 q16.2 := ⟨W.1, K16, fun _ => ⟨S16, W.2.2.1.2, by omega⟩⟩
  refine pc_rg (pc_if (fun _ => r_J109 H16) (fun _ => pc_bn (fun o eo => ih o ?_)))
  have V := wp_det (w_x12_statementTold W.1 W.2.2.1.2 S16 (by omega) c16) eo
  have G : F_x12_statementTold q16.2 o := fr_x12_statementTold eo
  have b := b_stmt ⟨S16.1.1, S16.1.2.1⟩ o eo
  refine ⟨V.1, KT_tr K16 V.2.2.2.2 b G (by decide) (by decide), fun z => ⟨V.2.1, V.2.2.1.2, ?_⟩⟩
  rcases V.2.2.2.1 with w | w
  · by_cases k : gI q16.2 46 = 60
    · exact absurd ((m_stmt60 c16 k o eo).1.symm.trans z) (by decide)
    · omega
  · exact absurd z w.1
/-- the state in which the reference begins to read -/
def SIN (t T : MS) : Prop := (gI T 3 = gI t 1 ∧ gI T 1 = 0 ∧ gI T 2 = 0 ∧ gI T 4 = -1 ∧ gI T 5 = 0 ∧ gI T 6 = -1 ∧ gI T 45 = 0) ∧ ((∀ k : Nat, k < 5 → gA T 39 k = 0) ∧ (∀ k : Nat, 5 ≤ k → gA T 39 k = gA t 39 k)) ∧ ((∀ k : Nat, k < 3 → gA T 42 k = -1) ∧ (∀ k : Nat, 3 ≤ k → gA T 42 k = gA t 42 k)) ∧ Fr [1, 2, 3, 4, 5, 6, 45] [39, 42] [] [] t T
theorem m_sin {t : MS} {P : Int × MS → Prop} (g : ∀ T, SIN t T → (Rr t → Rr T) → pc (bn (m_x12_storeTold T) (fun s26 => stn (sI s26 46 1) (fun s27 => m_x12_store_L87 FU s27))) P) : pc (m_x12_store t) P := by
  unfold m_x12_store
  refine pc_stn (fun s36 e36 => pc_stn (fun s37 e37 => pc_stn (fun s38 e38 => pc_stn (fun s39 e39 => pc_stn (fun s40 e40 => pc_stn (fun s41 e41 => pc_stn (fun s42 e42 => ?_)))))))
  have h3 : gI s42 3 = gI t 1 := (q_Ii e42 (by decide)).trans ((q_Ii e41 (by decide)).trans ((q_Ii e40 (by decide)).trans ((q_Ii e39 (by decide)).trans ((q_Ii e38 (by decide)).trans ((q_Ii e37 (by decide)).trans (q_II e36))))))
  have h1 : gI s42 1 = 0 := (q_Ii e42 (by decide)).trans ((q_Ii e41 (by decide)).trans ((q_Ii e40 (by decide)).trans ((q_Ii e39 (by decide)).trans ((q_Ii e38 (by decide)).trans (q_II e37)))))
  have h2 : gI s42 2 = 0 := (q_Ii e42 (by decide)).trans ((q_Ii e41 (by decide)).trans ((q_Ii e40 (by decide)).trans ((q_Ii e39 (by decide)).trans (q_II e38))))
  have h4 : gI s42 4 = -1 := (q_Ii e42 (by decide)).trans ((q_Ii e41 (by decide)).trans ((q_Ii e40 (by decide)).trans (q_II e39)))
  have h5 : gI s42 5 = 0 := (q_Ii e42 (by decide)).trans ((q_Ii e41 (by decide)).trans (q_II e40))
  have h6 : gI s42 6 = -1 := (q_Ii e42 (by decide)).trans (q_II e41)
  have h45 : gI s42 45 = 0 := q_II e42
  have F42 : Fr [1, 2, 3, 4, 5, 6, 45] [39, 42] [] [] t s42 := by
    subst e42; subst e41; subst e40; subst e39; subst e38; subst e37; subst e36
    exact Fr.uI (Fr.uI (Fr.uI (Fr.uI (Fr.uI (Fr.uI (Fr.uI (Fr.rf t) (by decide)) (by decide)) (by decide)) (by decide)) (by decide)) (by decide)) (by decide)
  have R42 : Rr t → Rr s42 := fun hR => by
    have r1 : (0 : Int) ≤ gI t 1 ∧ gI t 1 ≤ 1600 := hR.1 1
    subst e42; subst e41; subst e40; subst e39; subst e38; subst e37; subst e36
    refine Rr.uI (Rr.uI (Rr.uI (Rr.uI (Rr.uI (Rr.uI (Rr.uI hR ?_) ?_) ?_) ?_) ?_) ?_) ?_
    · show (0 : Int) ≤ gI t 1 ∧ gI t 1 ≤ 1600; exact r1
    · show (0 : Int) ≤ 0 ∧ (0 : Int) ≤ 1600; omega
    · show (0 : Int) ≤ 0 ∧ (0 : Int) ≤ 1600; omega
    · show (-1 : Int) ≤ -1 ∧ (-1 : Int) ≤ 1600; omega
    · show (0 : Int) ≤ 0 ∧ (0 : Int) ≤ 5; omega
    · show (-2147483648 : Int) ≤ -1 ∧ (-1 : Int) ≤ 2147483647; omega
    · show (0 : Int) ≤ 0 ∧ (0 : Int) ≤ 1600; omega
  have I42 : ∀ S : MS, (∀ i, gI S i = gI s42 i) → gI S 3 = gI t 1 ∧ gI S 1 = 0 ∧ gI S 2 = 0 ∧ gI S 4 = -1 ∧ gI S 5 = 0 ∧ gI S 6 = -1 ∧ gI S 45 = 0 := fun S k => ⟨(k 3).trans h3, (k 1).trans h1, (k 2).trans h2, (k 4).trans h4, (k 5).trans h5, (k 6).trans h6, (k 45).trans h45⟩
  have L60 : ∀ (n : Nat) (x : Int) (S : MS), (0 ≤ x ∧ x ≤ 3) → (∀ i, gI S i = gI s42 i) → ((∀ k : Nat, k < 5 → gA S 39 k = 0) ∧ (∀ k : Nat, 5 ≤ k → gA S 39 k = gA t 39 k)) → ((∀ k : Nat, (k : Int) < x → gA S 42 k = -1) ∧ (∀ k : Nat, 3 ≤ k → gA S 42 k = gA t 42 k)) → Fr [1, 2, 3, 4, 5, 6, 45] [39, 42] [] [] t S → (Rr t → Rr S) → pc (m_x12_store_L60 n x S) P := by
    refine fr_ind (fun _ _ _ _ _ _ _ _ => pc_none) (fun n ih x S hx hI h39 h42 hF hR => ?_)
    show pc (m_x12_store_b60 (m_x12_store_L60 n) x S) P
    unfold m_x12_store_b60
    refine pc_rg (pc_if (fun c => g S ⟨I42 S hI, h39, ⟨fun k hk => h42.1 k (by omega), h42.2⟩, hF⟩ hR) (fun c => pc_inb (pc_stn (fun s29 e29 => ih (x + 1) s29 (by omega) (fun i => (q_Ai e29).trans (hI i)) ?_ ?_ ?_ ?_))))
    · rw [(q_Aa e29 (by decide) : gA s29 39 = gA S 39)]; exact h39
    · rw [(q_AA e29 : gA s29 42 = _)]
      refine ⟨fun k hk => ?_, fun k hk => by rw [upZ_n (by omega)]; exact h42.2 k hk⟩
      by_cases z : k = Int.toNat x
      · rw [z, upZ_s]
      · rw [upZ_n z]; exact h42.1 k (by omega)
    · subst e29; exact Fr.uA hF (by decide)
    · intro hr
      subst e29
      exact Rr.uAu (hR hr) (by show (-1 : Int) ≤ -1 ∧ (-1 : Int) ≤ 1600; omega)
  have L40 : ∀ (n : Nat) (x : Int) (S : MS), (0 ≤ x ∧ x ≤ 5) → (∀ i, gI S i = gI s42 i) → ((∀ k : Nat, (k : Int) < x → gA S 39 k = 0) ∧ (∀ k : Nat, 5 ≤ k → gA S 39 k = gA t 39 k)) → gA S 42 = gA t 42 → Fr [1, 2, 3, 4, 5, 6, 45] [39, 42] [] [] t S → (Rr t → Rr S) → pc (m_x12_store_L40 n x S) P := by
    refine fr_ind (fun _ _ _ _ _ _ _ _ => pc_none) (fun n ih x S hx hI h39 h42 hF hR => ?_)
    show pc (m_x12_store_b40 (m_x12_store_L40 n) x S) P
    unfold m_x12_store_b40
    refine pc_rg (pc_if (fun c => L60 FU 0 S (by omega) hI ⟨fun k hk => h39.1 k (by omega), h39.2⟩ ⟨fun k hk => absurd hk (by omega), fun k _ => by rw [h42]⟩ hF hR) (fun c => pc_inb (pc_stn (fun s35 e35 => ih (x + 1) s35 (by omega) (fun i => (q_Ai e35).trans (hI i)) ?_ ?_ ?_ ?_))))
    · rw [(q_AA e35 : gA s35 39 = _)]
      refine ⟨fun k hk => ?_, fun k hk => by rw [upZ_n (by omega)]; exact h39.2 k hk⟩
      by_cases z : k = Int.toNat x
      · rw [z, upZ_s]
      · rw [upZ_n z]; exact h39.1 k (by omega)
    · rw [(q_Aa e35 (by decide) : gA s35 42 = gA S 42)]; exact h42
    · subst e35; exact Fr.uA hF (by decide)
    · intro hr
      subst e35
      exact Rr.uAu (hR hr) (by show (-2147483648 : Int) ≤ 0 ∧ (0 : Int) ≤ 2147483647; omega)
  have a42 : ∀ k, gA s42 k = gA t k := fun k => by
    subst e42; subst e41; subst e40; subst e39; subst e38; subst e37; subst e36
    rfl
  exact L40 FU 0 s42 (by omega) (fun _ => rfl) ⟨fun k hk => absurd hk (by omega), fun k _ => by rw [a42]⟩ (a42 42) F42 R42
theorem SIN_KT {t T : MS} (h : SIN t T) : KT t T := ⟨⟨⟨h.2.1.2, fun j hj => ⟨h.2.2.1.2 j hj, by rw [h.2.2.2.2.1 43 (by decide)]⟩, fun j _ => by rw [h.2.2.2.2.1 44 (by decide)]⟩, fun j _ => by rw [h.2.2.2.2.2.2 40 (by decide)]⟩, Fr.tr (Fr.rf t) h.2.2.2 ⟨by decide, by decide, fun _ q => q, fun _ q => absurd q (by simp)⟩⟩
/-- a STORE with a FAULT: all that was told stays -/
theorem r_keep {t : MS} (hR : Rr t) : pc (m_x12_store t) (fun o => gI o.2 7 ≠ 0 → KT t o.2) := by
  refine m_sin (fun T hT hRT => pc_bn (fun s26 e26 => pc_stn (fun s27 e27 => r_L87 FU s27 ?_)))
  have RT' := hRT hR
  have h := hT.1
  have r3 : (0 : Int) ≤ gI T 3 ∧ gI T 3 ≤ 1600 := RT'.1 3
  have W := wp_det (w_x12_storeTold RT' (by omega) ⟨⟨by rw [hT.2.1.1 2 (by decide)]; omega, by rw [hT.2.1.1 3 (by decide)]; omega⟩, ⟨by rw [hT.2.1.1 2 (by decide), hT.2.1.1 3 (by decide)]; rfl, by rw [hT.2.1.1 3 (by decide)]; exact fun k hk => absurd hk (by omega)⟩, by omega, fun w hw => Or.inl (hT.2.2.1.1 w hw)⟩ (hT.2.1.1 4 (by decide))) e26
  have F26 : F_x12_storeTold T s26 := fr_x12_storeTold e26
  have K26 : KT t s26 := KT_tr (SIN_KT hT) W.2.2.2 (fun j _ => by rw [F26.2.2.2 40 (by decide)]) (Fr.tr (Fr.rf T) F26 ⟨fun _ q => q, fun _ q => q, fun _ q => q, fun _ q => absurd q (by simp)⟩ : Fr [2, 4, 5, 6, 10] [39] [] [40] T s26) (by decide) (by decide)
  have k46 : gI s26 46 = gI T 46 := F26.1 46 (by decide)
  have kA : ∀ k, gA s27 k = gA s26 k := fun k => q_Ia e27
  have kI : ∀ i, i ≠ 46 → gI s27 i = gI s26 i := fun i hi => q_Ii e27 hi
  refine ⟨by subst e27; exact Rr.uI W.1 (by show (0 : Int) ≤ 1 ∧ (1 : Int) ≤ 60; omega), KT_0 K26 (FI1 e27) (by decide), fun z => ⟨SP_eq W.2.1 (kA 39) (kA 41) (kA 42) (kA 43) (kA 44) (kI 45 (by decide)) (by rw [(q_II e27 : gI s27 46 = 1), k46]; omega) (by rw [kI 2 (by decide)]; omega) (Or.inl ((kI 5 (by decide)).symm.trans z)), by rw [kI 2 (by decide), kI 3 (by decide)]; exact W.2.2.1.2, by rw [(q_II e27 : gI s27 46 = 1)]; omega⟩⟩
