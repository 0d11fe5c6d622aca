/-! ===== the class begins to read a STORE ===== -/
theorem Rg_BY {s : MS} (h : Rg s) : BY s := fun j hj => by
  have r : (0 : Int) ≤ gI s 61 ∧ gI s 61 ≤ 1600 := h.1 61
  have b : (0 : Int) ≤ gA s 4 j ∧ gA s 4 j ≤ 255 := h.2.1 4 j (show j < 1600 by omega)
  exact b.1
theorem y_begin {s t : MS} (hR : Rg s) (hW : W6 s) (hT : TX s t) (h2 : gI t 2 = 0) (h4 : gI t 4 = -1) (h5 : gI t 5 = 0) (hD : RWD t) : pc (m_x6_begin s) (fun o => SY o t ∧ gI o 106 = 0) := by
  unfold m_x6_begin
  refine pc_stn (fun s1 e1 => pc_stn (fun s2 e2 => pc_stn (fun s3 e3 => pc_stn (fun s4 e4 => pc_stn (fun s5 e5 => pc_bn (fun s7 e7 => pc_some ?_))))))
  have k61 : gI s5 61 = gI s 61 := (q_Ii e5 (by decide)).trans ((q_Ii e4 (by decide)).trans ((q_Ii e3 (by decide)).trans ((q_Ii e2 (by decide)).trans (q_Ii e1 (by decide)))))
  have kA : ∀ k, gA s5 k = gA s k := fun k => (q_Ia e5).trans ((q_Ia e4).trans ((q_Ia e3).trans ((q_Ia e2).trans (q_Ia e1))))
  have h100 : gI s5 100 = 0 := (q_Ii e5 (by decide)).trans ((q_Ii e4 (by decide)).trans ((q_Ii e3 (by decide)).trans (q_II e2)))
  have h109 : gI s5 109 = 0 := q_II e5
  have h106 : gI s5 106 = 0 := (q_Ii e5 (by decide)).trans (q_II e4)
  have r61 : (0 : Int) ≤ gI s 61 ∧ gI s 61 ≤ 1600 := hR.1 61
  have by5 : BY s5 := fun j hj => by
    rw [kA]; exact Rg_BY hR j (by omega)
  obtain ⟨a1, a2⟩ := s_adv h100 ⟨⟨by omega, by omega⟩, by omega⟩ (W6_e hW (kA 6)) by5 s7 e7
  have F : F_x6_advance s5 s7 := fr_x6_advance e7
  have f4 : gA s7 4 = gA s 4 := (F.2.1 4 (by decide)).trans (kA 4)
  have f61 : gI s7 61 = gI s 61 := (F.1 61 (by decide)).trans k61
  rw [kA 4, k61, h109] at a2
  refine ⟨⟨⟨hT.1.trans f61.symm, fun j hj => by rw [f4]; exact hT.2 j (by omega)⟩, ⟨(F.1 100 (by decide)).trans h100, h5⟩, ⟨a1, W6_e hW ((F.2.1 6 (by decide)).trans (kA 6)), fun j hj => by rw [f4]; exact Rg_BY hR j (by omega)⟩, ⟨by omega, ?_⟩, ⟨by omega, ?_⟩, hD⟩, (F.1 106 (by decide)).trans h106⟩
  · rw [f4, f61, h2]; exact a2
  · rw [h2, h4]
    exact ⟨fun q => by omega, fun q => absurd q.1 (by decide)⟩
theorem s_clear {s : MS} : pc (m_x5_clear s) (fun o => (gI o 783 = 0 ∧ gI o 784 = 0 ∧ gI o 785 = 0 ∧ gI o 782 = 0 ∧ gI o 941 = 0) ∧ ∀ w : Nat, w < 3 → gA o 45 w = -1) := by
  unfold m_x5_clear
  refine pc_stn (fun s9 e9 => pc_stn (fun s10 e10 => pc_stn (fun s11 e11 => pc_stn (fun s12 e12 => pc_stn (fun s13 e13 => ?_)))))
  have i783 : gI s13 783 = 0 := (q_Ii e13 (by decide)).trans ((q_Ii e12 (by decide)).trans ((q_Ii e11 (by decide)).trans ((q_Ii e10 (by decide)).trans (q_II e9))))
  have i784 : gI s13 784 = 0 := (q_Ii e13 (by decide)).trans ((q_Ii e12 (by decide)).trans ((q_Ii e11 (by decide)).trans (q_II e10)))
  have i785 : gI s13 785 = 0 := (q_Ii e13 (by decide)).trans ((q_Ii e12 (by decide)).trans (q_II e11))
  have i782 : gI s13 782 = 0 := (q_Ii e13 (by decide)).trans (q_II e12)
  have i941 : gI s13 941 = 0 := q_II e13
  have L : ∀ (n : Nat) (x : Int) (S : MS), (0 ≤ x ∧ x ≤ 3) → (∀ i, gI S i = gI s13 i) → (∀ w : Nat, (w : Int) < x → gA S 45 w = -1) → pc (m_x5_clear_L30 n x S) (fun o => (gI o 783 = 0 ∧ gI o 784 = 0 ∧ gI o 785 = 0 ∧ gI o 782 = 0 ∧ gI o 941 = 0) ∧ ∀ w : Nat, w < 3 → gA o 45 w = -1) := by
    refine fr_ind (fun _ _ _ _ _ => pc_none) (fun n ih x S hx hI hA => ?_)
    show pc (m_x5_clear_b30 (m_x5_clear_L30 n) x S) _
    unfold m_x5_clear_b30
    refine pc_rg (pc_if (fun c => pc_some ⟨⟨(hI 783).trans i783, (hI 784).trans i784, (hI 785).trans i785, (hI 782).trans i782, (hI 941).trans i941⟩, fun w hw => hA w (by omega)⟩) (fun c => pc_inb (pc_stn (fun s6 e6 => pc_inb (pc_stn (fun s8 e8 => ih (x + 1) s8 (by omega) (fun i => (q_Ai e8).trans ((q_Ai e6).trans (hI i))) (fun w hw => ?_)))))))
    have a8 : gA s8 45 = gA s6 45 := q_Aa e8 (by decide)
    have a6 : gA s6 45 = upZ (gA S 45) (Int.toNat x) (-1) := q_AA e6
    rw [a8, a6]
    by_cases z : w = Int.toNat x
    · rw [z, upZ_s]
    · rw [upZ_n z]; exact hA w (by omega)
  exact L FU 0 s13 (by omega) (fun _ => rfl) (fun w hw => by omega)
/-- a text that ends at once: no first statement -/
theorem m_first_end {s t : MS} (h : SY s t) (h7 : gI s 107 = 0) : pc (m_x12_storeTold t) (fun o => gI o 5 = 1 ∧ gI o 6 = gI s 108) := by
  have g : pc (m_x12_asks 11 6 t) (fun o => gI o 5 = 1 ∧ gI o 6 = gI s 108) := by
    unfold m_x12_asks m_x12_asks_J24
    refine pc_rg (pc_if (fun c => pc_bq (y_takes (w := 0) h (by decide) (by decide) (fun j hj => h.2.2.2.2.2.1 0 (by decide) j hj)) (fun q6 h6 => pc_rg (pc_if (fun c2 => ?_) (fun c2 => pc_some ?_)))) (fun c => absurd h.2.1.2 c))
    · rcases h6 with g | ⟨_, _, g3, g4⟩
      · omega
      · refine pc_bq (m_fail g3.2.1.2) (fun s10 h10 => pc_some ?_)
        rw [g4] at h10
        exact h10
    · rcases h6 with ⟨_, g2, _⟩ | g
      · omega
      · exact absurd g.1 c2
  unfold m_x12_storeTold
  refine pc_bn (fun t2 f2 => pc_bn (fun p5 f5 => pc_inb (pc_stn (fun t7 f7 => pc_bn (fun t9 f9 => pc_bn (fun p12 f12 => pc_inb (pc_stn (fun t14 f14 => pc_bn (fun t16 f16 => pc_some ?_)))))))))
  have b5 : FKp 5 6 t2 p5.2 := fk_x12_number p5 f5
  have b7 : FKp 5 6 p5.2 t7 := FKp.a f7
  have b9 : FKp 5 6 t7 t9 := fk_x12_asks t9 f9
  have b12 : FKp 5 6 t9 p12.2 := fk_x12_number p12 f12
  have b14 : FKp 5 6 p12.2 t14 := FKp.a f14
  have b16 : FKp 5 6 t14 t16 := fk_x12_asksSign t16 f16
  have g2 := g t2 f2
  have k := (b5.tr (b7.tr (b9.tr (b12.tr (b14.tr b16))))) (by rw [g2.1]; decide)
  exact ⟨k.1.trans g2.1, k.2.trans g2.2⟩
theorem m_stmt60 {t : MS} (h0 : gI t 5 = 0) (h : gI t 46 = 60) : pc (m_x12_statementTold t) (fun o => gI o 5 = 5 ∧ gI o 6 = gI t 2) := by
  unfold m_x12_statementTold
  exact pc_rg (pc_if (fun _ => pc_bq (m_fail h0) (fun s64 h64 => pc_some h64)) (fun c => absurd h c))
/-- the class goes on behind a fault: it stays -/
theorem s_gone : ∀ (n : Nat) (x : Int) (S : MS), gI S 100 ≠ 0 → pc (m_x6_readStore_L14 n x S) (fun q => q.1 = 0 ∧ FKp 100 101 S q.2) := by
  have J75 : ∀ S : MS, gI S 100 ≠ 0 → pc (m_x6_readStore_J75 S) (fun q => q.1 = 0 ∧ q.2 = S) := fun S h => by
    unfold m_x6_readStore_J75 m_x6_readStore_J87
    exact pc_rg (pc_if (fun c => absurd c h) (fun _ => pc_bo (pc_some ⟨rfl, rfl⟩)))
  have J38 : ∀ S : MS, gI S 100 ≠ 0 → pc (m_x6_readStore_J38 S) (fun q => q.1 = 0 ∧ FKp 100 101 S q.2) := fun S h => by
    have F : ∀ (k p : Int), pc (bn (m_x6_fail k p S) (fun qr => m_x6_readStore_J75 qr.2)) (fun q => q.1 = 0 ∧ FKp 100 101 S q.2) := fun k p => by
      refine pc_bn (fun a ea => ?_)
      have f : FKp 100 101 S a.2 := fk_x6_fail a ea
      refine pc_mono (J75 a.2 (by rw [(f h).1]; exact h)) (fun q hq => ⟨hq.1, ?_⟩)
      rw [hq.2]; exact f
    unfold m_x6_readStore_J38
    refine pc_rg (pc_if (fun _ => pc_rg (pc_if (fun _ => F 1 _) (fun _ => ?_))) (fun _ => F 5 _))
    exact pc_mono (J75 S h) (fun q hq => ⟨hq.1, by rw [hq.2]; exact FKp.rf S⟩)
  refine fr_ind (fun _ _ _ => pc_none) (fun n ih x S h => ?_)
  show pc (m_x6_readStore_b14 (m_x6_readStore_L14 n) x S) _
  unfold m_x6_readStore_b14
  refine pc_rg (pc_if (fun _ => J38 S h) (fun _ => pc_rg (pc_if (fun _ => J38 S h) (fun _ => pc_bn (fun s25 e25 => ?_)))))
  have f : FKp 100 101 S s25 := fk_x6_readStatement s25 e25
  exact pc_mono (ih (x + 1) s25 (by rw [(f h).1]; exact h)) (fun q hq => ⟨hq.1, f.tr hq.2⟩)
theorem m_gone {T : MS} (h : gI T 5 ≠ 0) : ∀ m : Nat, pc (m_x12_store_L87 m T) (fun o => o.1 = -1 ∧ gI o.2 7 = gI T 5 ∧ gI o.2 8 = gI T 6) := fun m => by
  cases m with
  | zero => exact pc_none
  | succ m =>
    show pc (m_x12_store_b87 (m_x12_store_L87 m) T) _
    unfold m_x12_store_b87 m_x12_store_J109
    refine pc_rg (pc_if (fun c => absurd c h) (fun _ => pc_stn (fun s2 e2 => pc_stn (fun s3 e3 => ?_))))
    have i7 : gI s3 7 = gI T 5 := (q_Ii e3 (by decide)).trans (q_II e2)
    have i8 : gI s3 8 = gI T 6 := (q_II e3 : gI s3 8 = gI s2 6).trans (q_Ii e2 (by decide))
    have i5 : gI s3 5 = gI T 5 := (q_Ii e3 (by decide)).trans (q_Ii e2 (by decide))
    refine pc_rg (pc_if (fun c => absurd (i5.symm.trans c) h) (fun _ => pc_bn (fun q10 e10 => ?_)))
    have F : F_x12_refuses s3 q10.2 := fr_x12_refuses e10
    have v : q10.1 = -1 := by
      have g : pc (m_x12_refuses 1 s3) (fun q => q.1 = -1) := by
        unfold m_x12_refuses
        exact pc_rdI (fun _ => pc_inb (pc_stn (fun s5 _ => pc_some rfl)))
      exact g q10 e10
    exact pc_some ⟨v, (F.1 7 (by decide)).trans i7, (F.1 8 (by decide)).trans i8⟩
