/-! ===== on: a block is laid ===== -/
/-- n entries are laid; P: all bytes were there -/
def LK (f : Nat → Int) (b : Nat) (n : Int) (P : Prop) : Prop := (∀ k : Nat, (k : Int) < n → (-1) ≤ f (27 + 16 * b + k) ∧ f (27 + 16 * b + k) ≤ 65535 ∧ (P → 0 ≤ f (27 + 16 * b + k))) ∧ (∀ k : Nat, (k : Int) < n → 0 ≤ f (21 + 16 * b + k) ∧ f (21 + 16 * b + k) ≤ 999) ∧ (∀ k : Nat, (k : Int) + 1 < n → (0 < k ∨ f (19 + 16 * b) = 0) → f (21 + 16 * b + k) < f (21 + 16 * b + (k + 1)))
theorem LK_add {f g : Nat → Int} {b : Nat} {n : Int} {P Q : Prop} (H : LK f b n P) (hn : 0 ≤ n ∧ n < 6) (hg : ∀ j, j ≠ 21 + 16 * b + n.toNat → j ≠ 27 + 16 * b + n.toNat → g j = f j) (h : Q → P) (he : (-1) ≤ g (27 + 16 * b + n.toNat) ∧ g (27 + 16 * b + n.toNat) ≤ 65535 ∧ (Q → 0 ≤ g (27 + 16 * b + n.toNat))) (hk : 0 ≤ g (21 + 16 * b + n.toNat) ∧ g (21 + 16 * b + n.toNat) ≤ 999) (hr : 1 ≤ n → (2 ≤ n ∨ f (19 + 16 * b) = 0) → f (20 + 16 * b + n.toNat) < g (21 + 16 * b + n.toNat)) : LK g b (n + 1) Q := by
  obtain ⟨a1, a2, a3⟩ := H
  refine ⟨fun k h1 => ?_, fun k h1 => ?_, fun k h1 h2 => ?_⟩
  · by_cases z : k = n.toNat
    · rw [z]; exact he
    · rw [hg _ (by omega) (by omega)]; have q := a1 k (by omega); exact ⟨q.1, q.2.1, fun w => q.2.2 (h w)⟩
  · by_cases z : k = n.toNat
    · rw [z]; exact hk
    · rw [hg _ (by omega) (by omega)]; exact a2 k (by omega)
  · rw [hg (19 + 16 * b) (by omega) (by omega)] at h2
    rw [hg (21 + 16 * b + k) (by omega) (by omega)]
    by_cases z : k + 1 = n.toNat
    · have q := hr (by omega) (h2.imp (fun w => by omega) id)
      rw [← z, show 20 + 16 * b + (k + 1) = 21 + 16 * b + k by omega] at q
      exact q
    · rw [hg _ (by omega) (by omega)]; exact a3 k (by omega) h2
/-- the head of a block -/
def LH (f : Nat → Int) (E : Int) (b : Nat) (P : Prop) : Prop := (((-1) ≤ f (17 + 16 * b) ∧ f (17 + 16 * b) ≤ 255) ∧ ((-1) ≤ f (18 + 16 * b) ∧ f (18 + 16 * b) ≤ 255) ∧ ((-1) ≤ f (19 + 16 * b) ∧ f (19 + 16 * b) ≤ 255)) ∧ (f (17 + 16 * b) + f (18 + 16 * b) ≠ 0 ∧ (1 ≤ f (20 + 16 * b) ∧ f (20 + 16 * b) ≤ E)) ∧ (P → 0 ≤ f (17 + 16 * b) ∧ 0 ≤ f (18 + 16 * b) ∧ 0 ≤ f (19 + 16 * b))
theorem LH_x {f g : Nat → Int} {E : Int} {b : Nat} {P Q : Prop} (H : LH f E b P) (h : Q → P) (e : ∀ j, 17 + 16 * b ≤ j → j < 21 + 16 * b → g j = f j) : LH g E b Q := by
  unfold LH
  rw [e (17 + 16 * b) (by omega) (by omega), e (18 + 16 * b) (by omega) (by omega), e (19 + 16 * b) (by omega) (by omega), e (20 + 16 * b) (by omega) (by omega)]
  exact ⟨H.1, H.2.1, fun w => H.2.2 (h w)⟩
theorem LB_of {f : Nat → Int} {E : Int} {b : Nat} {n : Int} {P : Prop} (H : LH f E b P) (K : LK f b n P) (hn : f (20 + 16 * b) ≤ n) (p : P) : LB_r f E b := by
  obtain ⟨h1, h2, h3⟩ := H
  have h3 := h3 p
  exact ⟨⟨⟨h3.1, h1.1.2⟩, h3.2.1, h1.2.1.2⟩, Or.inr ⟨h2.1, ⟨h3.2.2, h1.2.2.2⟩, h2.2, fun k hk => by have q := K.1 k (by omega); exact ⟨q.2.2 p, q.2.1⟩, fun k hk => K.2.1 k (by omega), fun k hk z => K.2.2 k (by omega) z⟩⟩
def XO (s S : MS) (b : Nat) : Prop := ∀ j, (j < 17 + 16 * b ∨ 33 + 16 * b ≤ j) → gA S 113 j = gA s 113 j
theorem XO_u {s S o : MS} {b i : Nat} {v : Int} (H : XO s S b) (e : gA o 113 = upZ (gA S 113) i v) (hi : 17 + 16 * b ≤ i ∧ i < 33 + 16 * b) : XO s o b := fun j hj => by rw [e, upZ_n (by omega)]; exact H j hj
theorem XO_e {s S o : MS} {b : Nat} (H : XO s S b) (e : gA o 113 = gA S 113) : XO s o b := fun j hj => by rw [e]; exact H j hj
set_option maxHeartbeats 2000000 in
theorem w_x12_isLaidBlock {p0 : Int} {p1 : Int} {s : MS} (hRs : Rr s) (hp0 : 0 ≤ p0 ∧ p0 < 48) (hp1 : 0 ≤ p1 ∧ p1 ≤ 1599) (hp2 : gI s 114 ≤ 60000) (hp3 : 3 ≤ gA s 39 6 ∧ gA s 39 6 ≤ 6) : wp (m_x12_isLaidBlock p0 p1 s) (fun q => (Rr q.2) ∧ (q.1 = 0 ∨ q.1 = 1) ∧ (XO s q.2 p0.toNat) ∧ (gI s 114 ≤ gI q.2 114 ∧ gI q.2 114 ≤ gI s 114 + 28) ∧ (q.1 = 1 → gI q.2 114 ≤ p1 → LB_r (gA q.2 113) (gA s 39 6) p0.toNat)) := by
  unfold m_x12_isLaidBlock
  have L11 : ∀ (n : Nat) (x53 : Int) (x54 : Int) (x55 : Int) (s56 : MS), Rr s56 → (x53 = p1 ∧ x54 = 17 + 16 * p0) → (0 ≤ x55 ∧ x55 ≤ 16) → (gI s56 114 = gI s 114 ∧ gA s56 39 = gA s 39) → (XO s s56 p0.toNat) → (∀ i : Nat, (i : Int) < x55 → gA s56 113 (17 + 16 * p0.toNat + i) = 0) → (16 - x55) < (n : Int) → wp (m_x12_isLaidBlock_L11 n x53 x54 x55 s56) (fun q => (Rr q.2) ∧ (q.1 = 0 ∨ q.1 = 1) ∧ (XO s q.2 p0.toNat) ∧ (gI s 114 ≤ gI q.2 114 ∧ gI q.2 114 ≤ gI s 114 + 28) ∧ (q.1 = 1 → gI q.2 114 ≤ p1 → LB_r (gA q.2 113) (gA s 39 6) p0.toNat)) := by
    refine fr_ind (fun x53 x54 x55 s56 hRs56 hv11_0 hv11_1 hv11_2 hv11_3 hv11_4 hm11 => ?_) (fun n11 ih11 x53 x54 x55 s56 hRs56 hv11_0 hv11_1 hv11_2 hv11_3 hv11_4 hm11 => ?_)
    · exfalso; have : (0 : Int) ≤ gI s 114 ∧ gI s 114 ≤ 100000 := hRs.1 114; have : (0 : Int) ≤ gI s56 114 ∧ gI s56 114 ≤ 100000 := hRs56.1 114; omega
    · show wp (m_x12_isLaidBlock_b11 (m_x12_isLaidBlock_L11 n11) x53 x54 x55 s56) _
      unfold m_x12_isLaidBlock_b11
      have Xs56 := hv11_3
      have e6 : gA s56 39 6 = gA s 39 6 := by rw [hv11_2.2]
      refine wp_rg (by have : (0 : Int) ≤ gI s56 114 ∧ gI s56 114 ≤ 100000 := hRs56.1 114; have : (0 : Int) ≤ gI s 114 ∧ gI s 114 ≤ 100000 := hRs.1 114; omega) ?_
      refine wp_if (fun c1 => ?_) (fun c1 => ?_)
      · skip
        refine wp_bn (w_x12_byteRead hRs56 (by show 0 ≤ x53 ∧ x53 ≤ 1599; have : (0 : Int) ≤ gI s56 114 ∧ gI s56 114 ≤ 100000 := hRs56.1 114; have : (0 : Int) ≤ gI s 114 ∧ gI s 114 ≤ 100000 := hRs.1 114; omega) (by show gI s56 114 ≤ 90000; have : (0 : Int) ≤ gI s 114 ∧ gI s 114 ≤ 100000 := hRs.1 114; have : (0 : Int) ≤ gI s56 114 ∧ gI s56 114 ≤ 100000 := hRs56.1 114; omega)) (fun qqr61 eqr61s hqr61s => ?_)
        obtain ⟨qr61r, qr61s⟩ := qqr61
        dsimp only at eqr61s hqr61s ⊢
        have Fqr61s : F_x12_byteRead s56 qr61s := fr_x12_byteRead eqr61s
        obtain ⟨hRqr61s, hqr61s_0, hqr61s_1, hqr61s_2⟩ := hqr61s
        have hqr61s_0 : (-1) ≤ qr61r ∧ qr61r ≤ 255 := hqr61s_0
        have hqr61s_1 : gI qr61s 114 = gI s56 114 + 1 := hqr61s_1
        have hqr61s_2 : gI qr61s 114 ≤ x53 → 0 ≤ qr61r := hqr61s_2
        have fqr61s : gA qr61s 113 = gA s56 113 := (Fqr61s.2.1 113 (by decide))
        have Xqr61s : XO s qr61s p0.toNat := XO_e Xs56 fqr61s
        refine wp_inb (by have : (0 : Int) ≤ gI qr61s 114 ∧ gI qr61s 114 ≤ 100000 := hRqr61s.1 114; have : (0 : Int) ≤ gI s56 114 ∧ gI s56 114 ≤ 100000 := hRs56.1 114; have : (0 : Int) ≤ gI s 114 ∧ gI s 114 ≤ 100000 := hRs.1 114; omega) ?_
        refine wp_stn (fun s63 es63 => ?_)
        have hRs63 : Rr s63 := es63 ▸ Rr.uAu hRqr61s (by show (-2147483648 : Int) ≤ qr61r ∧ qr61r ≤ 2147483647; have : (0 : Int) ≤ gI qr61s 114 ∧ gI qr61s 114 ≤ 100000 := hRqr61s.1 114; have : (0 : Int) ≤ gI s56 114 ∧ gI s56 114 ≤ 100000 := hRs56.1 114; have : (0 : Int) ≤ gI s 114 ∧ gI s 114 ≤ 100000 := hRs.1 114; omega)
        have ks63 : gA s63 113 = upZ (gA qr61s 113) (17 + 16 * p0.toNat) qr61r := by rw [(q_AA es63 : gA s63 113 = _), show (x54).toNat = 17 + 16 * p0.toNat by omega]
        have Xs63 : XO s s63 p0.toNat := XO_u Xqr61s ks63 (by omega)
        have i63 : gI s63 114 = gI qr61s 114 := (q_Ai es63 : gI s63 114 = gI qr61s 114)
        refine wp_bn (w_x12_byteRead hRs63 (by show 0 ≤ x53 ∧ x53 ≤ 1599; have : (0 : Int) ≤ gI qr61s 114 ∧ gI qr61s 114 ≤ 100000 := hRqr61s.1 114; have : (0 : Int) ≤ gI s56 114 ∧ gI s56 114 ≤ 100000 := hRs56.1 114; have : (0 : Int) ≤ gI s 114 ∧ gI s 114 ≤ 100000 := hRs.1 114; omega) (by show gI s63 114 ≤ 90000; have : (0 : Int) ≤ gI qr61s 114 ∧ gI qr61s 114 ≤ 100000 := hRqr61s.1 114; have : (0 : Int) ≤ gI s56 114 ∧ gI s56 114 ≤ 100000 := hRs56.1 114; have : (0 : Int) ≤ gI s 114 ∧ gI s 114 ≤ 100000 := hRs.1 114; have : gI s63 114 = gI qr61s 114 := q_Ai es63; omega)) (fun qqr66 eqr66s hqr66s => ?_)
        obtain ⟨qr66r, qr66s⟩ := qqr66
        dsimp only at eqr66s hqr66s ⊢
        have Fqr66s : F_x12_byteRead s63 qr66s := fr_x12_byteRead eqr66s
        obtain ⟨hRqr66s, hqr66s_0, hqr66s_1, hqr66s_2⟩ := hqr66s
        have hqr66s_0 : (-1) ≤ qr66r ∧ qr66r ≤ 255 := hqr66s_0
        have hqr66s_1 : gI qr66s 114 = gI s63 114 + 1 := hqr66s_1
        have hqr66s_2 : gI qr66s 114 ≤ x53 → 0 ≤ qr66r := hqr66s_2
        have fqr66s : gA qr66s 113 = gA s63 113 := (Fqr66s.2.1 113 (by decide))
        have Xqr66s : XO s qr66s p0.toNat := XO_e Xs63 fqr66s
        refine wp_inb (by have : gI s63 114 = gI qr61s 114 := q_Ai es63; have : (0 : Int) ≤ gI qr66s 114 ∧ gI qr66s 114 ≤ 100000 := hRqr66s.1 114; have : (0 : Int) ≤ gI qr61s 114 ∧ gI qr61s 114 ≤ 100000 := hRqr61s.1 114; have : (0 : Int) ≤ gI s56 114 ∧ gI s56 114 ≤ 100000 := hRs56.1 114; have : (0 : Int) ≤ gI s 114 ∧ gI s 114 ≤ 100000 := hRs.1 114; omega) ?_
        refine wp_stn (fun s68 es68 => ?_)
        have hRs68 : Rr s68 := es68 ▸ Rr.uAu hRqr66s (by show (-2147483648 : Int) ≤ qr66r ∧ qr66r ≤ 2147483647; have : gI s63 114 = gI qr61s 114 := q_Ai es63; have : (0 : Int) ≤ gI qr66s 114 ∧ gI qr66s 114 ≤ 100000 := hRqr66s.1 114; have : (0 : Int) ≤ gI qr61s 114 ∧ gI qr61s 114 ≤ 100000 := hRqr61s.1 114; have : (0 : Int) ≤ gI s56 114 ∧ gI s56 114 ≤ 100000 := hRs56.1 114; have : (0 : Int) ≤ gI s 114 ∧ gI s 114 ≤ 100000 := hRs.1 114; omega)
        have ks68 : gA s68 113 = upZ (gA qr66s 113) (18 + 16 * p0.toNat) qr66r := by rw [(q_AA es68 : gA s68 113 = _), show (x54 + 1).toNat = 18 + 16 * p0.toNat by omega]
        have Xs68 : XO s s68 p0.toNat := XO_u Xqr66s ks68 (by omega)
        have i68 : gI s68 114 = gI qr66s 114 := (q_Ai es68 : gI s68 114 = gI qr66s 114)
        have e17 : gA s68 113 (17 + 16 * p0.toNat) = qr61r := by rw [ks68, upZ_n (by omega), fqr66s, ks63, upZ_s]
        have e18 : gA s68 113 (18 + 16 * p0.toNat) = qr66r := by rw [ks68, upZ_s]
        refine wp_rdIn (by have : gI s63 114 = gI qr61s 114 := q_Ai es63; have : (0 : Int) ≤ gI qr66s 114 ∧ gI qr66s 114 ≤ 100000 := hRqr66s.1 114; have : (0 : Int) ≤ gI qr61s 114 ∧ gI qr61s 114 ≤ 100000 := hRqr61s.1 114; have : (0 : Int) ≤ gI s56 114 ∧ gI s56 114 ≤ 100000 := hRs56.1 114; have : (0 : Int) ≤ gI s 114 ∧ gI s 114 ≤ 100000 := hRs.1 114; omega) (fun y69 ey69 => ?_)
        have by69 : (-2147483648 : Int) ≤ y69 ∧ y69 ≤ 2147483647 := ey69 ▸ hRs68.2.1 113 _ (by show _ < 785; have : gI s63 114 = gI qr61s 114 := q_Ai es63; have : (0 : Int) ≤ gI qr66s 114 ∧ gI qr66s 114 ≤ 100000 := hRqr66s.1 114; have : (0 : Int) ≤ gI qr61s 114 ∧ gI qr61s 114 ≤ 100000 := hRqr61s.1 114; have : (0 : Int) ≤ gI s56 114 ∧ gI s56 114 ≤ 100000 := hRs56.1 114; have : (0 : Int) ≤ gI s 114 ∧ gI s 114 ≤ 100000 := hRs.1 114; omega)
        have k69 : y69 = qr61r := by rw [← ey69, show (x54).toNat = 17 + 16 * p0.toNat by omega]; exact e17
        refine wp_rdIn (by have : gI s63 114 = gI qr61s 114 := q_Ai es63; have : (0 : Int) ≤ gI qr66s 114 ∧ gI qr66s 114 ≤ 100000 := hRqr66s.1 114; have : (0 : Int) ≤ gI qr61s 114 ∧ gI qr61s 114 ≤ 100000 := hRqr61s.1 114; have : (0 : Int) ≤ gI s56 114 ∧ gI s56 114 ≤ 100000 := hRs56.1 114; have : (0 : Int) ≤ gI s 114 ∧ gI s 114 ≤ 100000 := hRs.1 114; omega) (fun y70 ey70 => ?_)
        have by70 : (-2147483648 : Int) ≤ y70 ∧ y70 ≤ 2147483647 := ey70 ▸ hRs68.2.1 113 _ (by show _ < 785; have : gI s63 114 = gI qr61s 114 := q_Ai es63; have : (0 : Int) ≤ gI qr66s 114 ∧ gI qr66s 114 ≤ 100000 := hRqr66s.1 114; have : (0 : Int) ≤ gI qr61s 114 ∧ gI qr61s 114 ≤ 100000 := hRqr61s.1 114; have : (0 : Int) ≤ gI s56 114 ∧ gI s56 114 ≤ 100000 := hRs56.1 114; have : (0 : Int) ≤ gI s 114 ∧ gI s 114 ≤ 100000 := hRs.1 114; omega)
        have k70 : y70 = qr66r := by rw [← ey70, show (x54 + 1).toNat = 18 + 16 * p0.toNat by omega]; exact e18
        refine wp_rg (by have : gI s63 114 = gI qr61s 114 := q_Ai es63; have : (0 : Int) ≤ gI qr66s 114 ∧ gI qr66s 114 ≤ 100000 := hRqr66s.1 114; have : (0 : Int) ≤ gI qr61s 114 ∧ gI qr61s 114 ≤ 100000 := hRqr61s.1 114; have : (0 : Int) ≤ gI s56 114 ∧ gI s56 114 ≤ 100000 := hRs56.1 114; have : (0 : Int) ≤ gI s 114 ∧ gI s 114 ≤ 100000 := hRs.1 114; omega) ?_
        refine wp_if (fun c2 => ?_) (fun c2 => ?_)
        · skip
          exact wp_some ⟨hRs68, by show (1 : Int) = 0 ∨ (1 : Int) = 1; have : gI s63 114 = gI qr61s 114 := q_Ai es63; have : (0 : Int) ≤ gI qr66s 114 ∧ gI qr66s 114 ≤ 100000 := hRqr66s.1 114; have : (0 : Int) ≤ gI qr61s 114 ∧ gI qr61s 114 ≤ 100000 := hRqr61s.1 114; have : (0 : Int) ≤ gI s56 114 ∧ gI s56 114 ≤ 100000 := hRs56.1 114; have : (0 : Int) ≤ gI s 114 ∧ gI s 114 ≤ 100000 := hRs.1 114; omega, by show XO s s68 p0.toNat; exact (Xs68), by show gI s 114 ≤ gI s68 114 ∧ gI s68 114 ≤ gI s 114 + 28; have : gI s63 114 = gI qr61s 114 := q_Ai es63; have : (0 : Int) ≤ gI qr66s 114 ∧ gI qr66s 114 ≤ 100000 := hRqr66s.1 114; have : (0 : Int) ≤ gI qr61s 114 ∧ gI qr61s 114 ≤ 100000 := hRqr61s.1 114; have : (0 : Int) ≤ gI s56 114 ∧ gI s56 114 ≤ 100000 := hRs56.1 114; have : gI s68 114 = gI qr66s 114 := q_Ai es68; have : (0 : Int) ≤ gI s 114 ∧ gI s 114 ≤ 100000 := hRs.1 114; omega, by show (1 : Int) = 1 → gI s68 114 ≤ p1 → LB_r (gA s68 113) (gA s 39 6) p0.toNat; exact (fun _ h9 => ⟨by rw [e17, e18]; exact ⟨⟨hqr61s_2 (by omega), by omega⟩, hqr66s_2 (by omega), by omega⟩, Or.inl ⟨by rw [e17, e18]; omega, fun i h1 h2 => by rw [ks68, upZ_n (by omega), fqr66s, ks63, upZ_n (by omega), fqr61s]; exact hv11_4 i (by omega)⟩⟩)⟩
        · skip
          refine wp_bn (w_x12_byteRead hRs68 (by show 0 ≤ x53 ∧ x53 ≤ 1599; have : gI s63 114 = gI qr61s 114 := q_Ai es63; have : (0 : Int) ≤ gI qr66s 114 ∧ gI qr66s 114 ≤ 100000 := hRqr66s.1 114; have : (0 : Int) ≤ gI qr61s 114 ∧ gI qr61s 114 ≤ 100000 := hRqr61s.1 114; have : (0 : Int) ≤ gI s56 114 ∧ gI s56 114 ≤ 100000 := hRs56.1 114; have : (0 : Int) ≤ gI s 114 ∧ gI s 114 ≤ 100000 := hRs.1 114; omega) (by show gI s68 114 ≤ 90000; have : gI s63 114 = gI qr61s 114 := q_Ai es63; have : (0 : Int) ≤ gI qr66s 114 ∧ gI qr66s 114 ≤ 100000 := hRqr66s.1 114; have : (0 : Int) ≤ gI qr61s 114 ∧ gI qr61s 114 ≤ 100000 := hRqr61s.1 114; have : (0 : Int) ≤ gI s56 114 ∧ gI s56 114 ≤ 100000 := hRs56.1 114; have : (0 : Int) ≤ gI s 114 ∧ gI s 114 ≤ 100000 := hRs.1 114; have : gI s68 114 = gI qr66s 114 := q_Ai es68; omega)) (fun qqr75 eqr75s hqr75s => ?_)
          obtain ⟨qr75r, qr75s⟩ := qqr75
          dsimp only at eqr75s hqr75s ⊢
          have Fqr75s : F_x12_byteRead s68 qr75s := fr_x12_byteRead eqr75s
          obtain ⟨hRqr75s, hqr75s_0, hqr75s_1, hqr75s_2⟩ := hqr75s
          have hqr75s_0 : (-1) ≤ qr75r ∧ qr75r ≤ 255 := hqr75s_0
          have hqr75s_1 : gI qr75s 114 = gI s68 114 + 1 := hqr75s_1
          have hqr75s_2 : gI qr75s 114 ≤ x53 → 0 ≤ qr75r := hqr75s_2
          have fqr75s : gA qr75s 113 = gA s68 113 := (Fqr75s.2.1 113 (by decide))
          have Xqr75s : XO s qr75s p0.toNat := XO_e Xs68 fqr75s
          refine wp_inb (by have : gI s68 114 = gI qr66s 114 := q_Ai es68; have : (0 : Int) ≤ gI qr75s 114 ∧ gI qr75s 114 ≤ 100000 := hRqr75s.1 114; have : gI s63 114 = gI qr61s 114 := q_Ai es63; have : (0 : Int) ≤ gI qr66s 114 ∧ gI qr66s 114 ≤ 100000 := hRqr66s.1 114; have : (0 : Int) ≤ gI qr61s 114 ∧ gI qr61s 114 ≤ 100000 := hRqr61s.1 114; have : (0 : Int) ≤ gI s56 114 ∧ gI s56 114 ≤ 100000 := hRs56.1 114; have : (0 : Int) ≤ gI s 114 ∧ gI s 114 ≤ 100000 := hRs.1 114; omega) ?_
          refine wp_stn (fun s77 es77 => ?_)
          have hRs77 : Rr s77 := es77 ▸ Rr.uAu hRqr75s (by show (-2147483648 : Int) ≤ qr75r ∧ qr75r ≤ 2147483647; have : gI s68 114 = gI qr66s 114 := q_Ai es68; have : (0 : Int) ≤ gI qr75s 114 ∧ gI qr75s 114 ≤ 100000 := hRqr75s.1 114; have : gI s63 114 = gI qr61s 114 := q_Ai es63; have : (0 : Int) ≤ gI qr66s 114 ∧ gI qr66s 114 ≤ 100000 := hRqr66s.1 114; have : (0 : Int) ≤ gI qr61s 114 ∧ gI qr61s 114 ≤ 100000 := hRqr61s.1 114; have : (0 : Int) ≤ gI s56 114 ∧ gI s56 114 ≤ 100000 := hRs56.1 114; have : (0 : Int) ≤ gI s 114 ∧ gI s 114 ≤ 100000 := hRs.1 114; omega)
          have ks77 : gA s77 113 = upZ (gA qr75s 113) (19 + 16 * p0.toNat) qr75r := by rw [(q_AA es77 : gA s77 113 = _), show (x54 + 2).toNat = 19 + 16 * p0.toNat by omega]
          have Xs77 : XO s s77 p0.toNat := XO_u Xqr75s ks77 (by omega)
          have i77 : gI s77 114 = gI qr75s 114 := (q_Ai es77 : gI s77 114 = gI qr75s 114)
          refine wp_bn (w_x12_byteRead hRs77 (by show 0 ≤ x53 ∧ x53 ≤ 1599; have : gI s68 114 = gI qr66s 114 := q_Ai es68; have : (0 : Int) ≤ gI qr75s 114 ∧ gI qr75s 114 ≤ 100000 := hRqr75s.1 114; have : gI s63 114 = gI qr61s 114 := q_Ai es63; have : (0 : Int) ≤ gI qr66s 114 ∧ gI qr66s 114 ≤ 100000 := hRqr66s.1 114; have : (0 : Int) ≤ gI qr61s 114 ∧ gI qr61s 114 ≤ 100000 := hRqr61s.1 114; have : (0 : Int) ≤ gI s56 114 ∧ gI s56 114 ≤ 100000 := hRs56.1 114; have : (0 : Int) ≤ gI s 114 ∧ gI s 114 ≤ 100000 := hRs.1 114; omega) (by show gI s77 114 ≤ 90000; have : gI s68 114 = gI qr66s 114 := q_Ai es68; have : (0 : Int) ≤ gI qr75s 114 ∧ gI qr75s 114 ≤ 100000 := hRqr75s.1 114; have : gI s63 114 = gI qr61s 114 := q_Ai es63; have : (0 : Int) ≤ gI qr66s 114 ∧ gI qr66s 114 ≤ 100000 := hRqr66s.1 114; have : (0 : Int) ≤ gI qr61s 114 ∧ gI qr61s 114 ≤ 100000 := hRqr61s.1 114; have : (0 : Int) ≤ gI s56 114 ∧ gI s56 114 ≤ 100000 := hRs56.1 114; have : (0 : Int) ≤ gI s 114 ∧ gI s 114 ≤ 100000 := hRs.1 114; have : gI s77 114 = gI qr75s 114 := q_Ai es77; omega)) (fun qqr80 eqr80s hqr80s => ?_)
          obtain ⟨qr80r, qr80s⟩ := qqr80
          dsimp only at eqr80s hqr80s ⊢
          have Fqr80s : F_x12_byteRead s77 qr80s := fr_x12_byteRead eqr80s
          obtain ⟨hRqr80s, hqr80s_0, hqr80s_1, hqr80s_2⟩ := hqr80s
          have hqr80s_0 : (-1) ≤ qr80r ∧ qr80r ≤ 255 := hqr80s_0
          have hqr80s_1 : gI qr80s 114 = gI s77 114 + 1 := hqr80s_1
          have hqr80s_2 : gI qr80s 114 ≤ x53 → 0 ≤ qr80r := hqr80s_2
          have fqr80s : gA qr80s 113 = gA s77 113 := (Fqr80s.2.1 113 (by decide))
          have Xqr80s : XO s qr80s p0.toNat := XO_e Xs77 fqr80s
          refine wp_inb (by have : gI s77 114 = gI qr75s 114 := q_Ai es77; have : (0 : Int) ≤ gI qr80s 114 ∧ gI qr80s 114 ≤ 100000 := hRqr80s.1 114; have : gI s68 114 = gI qr66s 114 := q_Ai es68; have : (0 : Int) ≤ gI qr75s 114 ∧ gI qr75s 114 ≤ 100000 := hRqr75s.1 114; have : gI s63 114 = gI qr61s 114 := q_Ai es63; have : (0 : Int) ≤ gI qr66s 114 ∧ gI qr66s 114 ≤ 100000 := hRqr66s.1 114; have : (0 : Int) ≤ gI qr61s 114 ∧ gI qr61s 114 ≤ 100000 := hRqr61s.1 114; have : (0 : Int) ≤ gI s56 114 ∧ gI s56 114 ≤ 100000 := hRs56.1 114; have : (0 : Int) ≤ gI s 114 ∧ gI s 114 ≤ 100000 := hRs.1 114; omega) ?_
          refine wp_stn (fun s82 es82 => ?_)
          have hRs82 : Rr s82 := es82 ▸ Rr.uAu hRqr80s (by show (-2147483648 : Int) ≤ qr80r ∧ qr80r ≤ 2147483647; have : gI s77 114 = gI qr75s 114 := q_Ai es77; have : (0 : Int) ≤ gI qr80s 114 ∧ gI qr80s 114 ≤ 100000 := hRqr80s.1 114; have : gI s68 114 = gI qr66s 114 := q_Ai es68; have : (0 : Int) ≤ gI qr75s 114 ∧ gI qr75s 114 ≤ 100000 := hRqr75s.1 114; have : gI s63 114 = gI qr61s 114 := q_Ai es63; have : (0 : Int) ≤ gI qr66s 114 ∧ gI qr66s 114 ≤ 100000 := hRqr66s.1 114; have : (0 : Int) ≤ gI qr61s 114 ∧ gI qr61s 114 ≤ 100000 := hRqr61s.1 114; have : (0 : Int) ≤ gI s56 114 ∧ gI s56 114 ≤ 100000 := hRs56.1 114; have : (0 : Int) ≤ gI s 114 ∧ gI s 114 ≤ 100000 := hRs.1 114; omega)
          have ks82 : gA s82 113 = upZ (gA qr80s 113) (20 + 16 * p0.toNat) qr80r := by rw [(q_AA es82 : gA s82 113 = _), show (x54 + 3).toNat = 20 + 16 * p0.toNat by omega]
          have Xs82 : XO s s82 p0.toNat := XO_u Xqr80s ks82 (by omega)
          have i82 : gI s82 114 = gI qr80s 114 := (q_Ai es82 : gI s82 114 = gI qr80s 114)
          have v20 : gA s82 113 (20 + 16 * p0.toNat) = qr80r := by rw [ks82, upZ_s]
          have v19 : gA s82 113 (19 + 16 * p0.toNat) = qr75r := by rw [ks82, upZ_n (by omega), fqr80s, ks77, upZ_s]
          have v18 : gA s82 113 (18 + 16 * p0.toNat) = qr66r := by rw [ks82, upZ_n (by omega), fqr80s, ks77, upZ_n (by omega), fqr75s]; exact e18
          have v17 : gA s82 113 (17 + 16 * p0.toNat) = qr61r := by rw [ks82, upZ_n (by omega), fqr80s, ks77, upZ_n (by omega), fqr75s]; exact e17
          have e82 : gA s82 39 = gA s 39 := (((q_Aa es82 (by decide) : gA s82 39 = gA qr80s 39).trans ((Fqr80s.2.1 39 (by decide)).trans ((q_Aa es77 (by decide) : gA s77 39 = gA qr75s 39).trans ((Fqr75s.2.1 39 (by decide)).trans ((q_Aa es68 (by decide) : gA s68 39 = gA qr66s 39).trans ((Fqr66s.2.1 39 (by decide)).trans ((q_Aa es63 (by decide) : gA s63 39 = gA qr61s 39).trans (Fqr61s.2.1 39 (by decide)))))))))).trans hv11_2.2
          refine wp_rdIn (by have : gI s77 114 = gI qr75s 114 := q_Ai es77; have : (0 : Int) ≤ gI qr80s 114 ∧ gI qr80s 114 ≤ 100000 := hRqr80s.1 114; have : gI s68 114 = gI qr66s 114 := q_Ai es68; have : (0 : Int) ≤ gI qr75s 114 ∧ gI qr75s 114 ≤ 100000 := hRqr75s.1 114; have : gI s63 114 = gI qr61s 114 := q_Ai es63; have : (0 : Int) ≤ gI qr66s 114 ∧ gI qr66s 114 ≤ 100000 := hRqr66s.1 114; have : (0 : Int) ≤ gI qr61s 114 ∧ gI qr61s 114 ≤ 100000 := hRqr61s.1 114; have : (0 : Int) ≤ gI s56 114 ∧ gI s56 114 ≤ 100000 := hRs56.1 114; have : (0 : Int) ≤ gI s 114 ∧ gI s 114 ≤ 100000 := hRs.1 114; omega) (fun y83 ey83 => ?_)
          have by83 : (-2147483648 : Int) ≤ y83 ∧ y83 ≤ 2147483647 := ey83 ▸ hRs82.2.1 113 _ (by show _ < 785; have : gI s77 114 = gI qr75s 114 := q_Ai es77; have : (0 : Int) ≤ gI qr80s 114 ∧ gI qr80s 114 ≤ 100000 := hRqr80s.1 114; have : gI s68 114 = gI qr66s 114 := q_Ai es68; have : (0 : Int) ≤ gI qr75s 114 ∧ gI qr75s 114 ≤ 100000 := hRqr75s.1 114; have : gI s63 114 = gI qr61s 114 := q_Ai es63; have : (0 : Int) ≤ gI qr66s 114 ∧ gI qr66s 114 ≤ 100000 := hRqr66s.1 114; have : (0 : Int) ≤ gI qr61s 114 ∧ gI qr61s 114 ≤ 100000 := hRqr61s.1 114; have : (0 : Int) ≤ gI s56 114 ∧ gI s56 114 ≤ 100000 := hRs56.1 114; have : (0 : Int) ≤ gI s 114 ∧ gI s 114 ≤ 100000 := hRs.1 114; omega)
          have k83 : y83 = qr80r := by rw [← ey83, show (x54 + 3).toNat = 20 + 16 * p0.toNat by omega]; exact v20
          refine wp_rg (by have : gI s77 114 = gI qr75s 114 := q_Ai es77; have : (0 : Int) ≤ gI qr80s 114 ∧ gI qr80s 114 ≤ 100000 := hRqr80s.1 114; have : gI s68 114 = gI qr66s 114 := q_Ai es68; have : (0 : Int) ≤ gI qr75s 114 ∧ gI qr75s 114 ≤ 100000 := hRqr75s.1 114; have : gI s63 114 = gI qr61s 114 := q_Ai es63; have : (0 : Int) ≤ gI qr66s 114 ∧ gI qr66s 114 ≤ 100000 := hRqr66s.1 114; have : (0 : Int) ≤ gI qr61s 114 ∧ gI qr61s 114 ≤ 100000 := hRqr61s.1 114; have : (0 : Int) ≤ gI s56 114 ∧ gI s56 114 ≤ 100000 := hRs56.1 114; have : (0 : Int) ≤ gI s 114 ∧ gI s 114 ≤ 100000 := hRs.1 114; omega) ?_
          refine wp_bn (w_x12_roomOf hRs82) (fun r86 er86 hr86 => ?_)
          have hr86_0 := hr86
          have hr86_0 : r86 = gA s82 39 6 := hr86_0
          rw [e82] at hr86_0
          refine wp_rg (by have : gI s77 114 = gI qr75s 114 := q_Ai es77; have : (0 : Int) ≤ gI qr80s 114 ∧ gI qr80s 114 ≤ 100000 := hRqr80s.1 114; have : gI s68 114 = gI qr66s 114 := q_Ai es68; have : (0 : Int) ≤ gI qr75s 114 ∧ gI qr75s 114 ≤ 100000 := hRqr75s.1 114; have : gI s63 114 = gI qr61s 114 := q_Ai es63; have : (0 : Int) ≤ gI qr66s 114 ∧ gI qr66s 114 ≤ 100000 := hRqr66s.1 114; have : (0 : Int) ≤ gI qr61s 114 ∧ gI qr61s 114 ≤ 100000 := hRqr61s.1 114; have : (0 : Int) ≤ gI s56 114 ∧ gI s56 114 ≤ 100000 := hRs56.1 114; have : (0 : Int) ≤ gI s 114 ∧ gI s 114 ≤ 100000 := hRs.1 114; omega) ?_
          refine wp_bn (w_x12_isIn hRs82 (by show R8 y83; have : gI s77 114 = gI qr75s 114 := q_Ai es77; have : (0 : Int) ≤ gI qr80s 114 ∧ gI qr80s 114 ≤ 100000 := hRqr80s.1 114; have : gI s68 114 = gI qr66s 114 := q_Ai es68; have : (0 : Int) ≤ gI qr75s 114 ∧ gI qr75s 114 ≤ 100000 := hRqr75s.1 114; have : gI s63 114 = gI qr61s 114 := q_Ai es63; have : (0 : Int) ≤ gI qr66s 114 ∧ gI qr66s 114 ≤ 100000 := hRqr66s.1 114; have : (0 : Int) ≤ gI qr61s 114 ∧ gI qr61s 114 ≤ 100000 := hRqr61s.1 114; have : (0 : Int) ≤ gI s56 114 ∧ gI s56 114 ≤ 100000 := hRs56.1 114; have : (0 : Int) ≤ gI s 114 ∧ gI s 114 ≤ 100000 := hRs.1 114; omega) (by show R8 (1 : Int); have : gI s77 114 = gI qr75s 114 := q_Ai es77; have : (0 : Int) ≤ gI qr80s 114 ∧ gI qr80s 114 ≤ 100000 := hRqr80s.1 114; have : gI s68 114 = gI qr66s 114 := q_Ai es68; have : (0 : Int) ≤ gI qr75s 114 ∧ gI qr75s 114 ≤ 100000 := hRqr75s.1 114; have : gI s63 114 = gI qr61s 114 := q_Ai es63; have : (0 : Int) ≤ gI qr66s 114 ∧ gI qr66s 114 ≤ 100000 := hRqr66s.1 114; have : (0 : Int) ≤ gI qr61s 114 ∧ gI qr61s 114 ≤ 100000 := hRqr61s.1 114; have : (0 : Int) ≤ gI s56 114 ∧ gI s56 114 ≤ 100000 := hRs56.1 114; have : (0 : Int) ≤ gI s 114 ∧ gI s 114 ≤ 100000 := hRs.1 114; omega) (by show R8 r86; have : gI s77 114 = gI qr75s 114 := q_Ai es77; have : (0 : Int) ≤ gI qr80s 114 ∧ gI qr80s 114 ≤ 100000 := hRqr80s.1 114; have : gI s68 114 = gI qr66s 114 := q_Ai es68; have : (0 : Int) ≤ gI qr75s 114 ∧ gI qr75s 114 ≤ 100000 := hRqr75s.1 114; have : gI s63 114 = gI qr61s 114 := q_Ai es63; have : (0 : Int) ≤ gI qr66s 114 ∧ gI qr66s 114 ≤ 100000 := hRqr66s.1 114; have : (0 : Int) ≤ gI qr61s 114 ∧ gI qr61s 114 ≤ 100000 := hRqr61s.1 114; have : (0 : Int) ≤ gI s56 114 ∧ gI s56 114 ≤ 100000 := hRs56.1 114; have : (0 : Int) ≤ gI s 114 ∧ gI s 114 ≤ 100000 := hRs.1 114; omega)) (fun r89 er89 hr89 => ?_)
          have hr89_0 := hr89
          have hr89_0 : (r89 = 1 ∧ (1 : Int) ≤ y83 ∧ y83 ≤ r86) ∨ (r89 = 0 ∧ (y83 < (1 : Int) ∨ r86 < y83)) := hr89_0
          refine wp_rg (by have : gI s77 114 = gI qr75s 114 := q_Ai es77; have : (0 : Int) ≤ gI qr80s 114 ∧ gI qr80s 114 ≤ 100000 := hRqr80s.1 114; have : gI s68 114 = gI qr66s 114 := q_Ai es68; have : (0 : Int) ≤ gI qr75s 114 ∧ gI qr75s 114 ≤ 100000 := hRqr75s.1 114; have : gI s63 114 = gI qr61s 114 := q_Ai es63; have : (0 : Int) ≤ gI qr66s 114 ∧ gI qr66s 114 ≤ 100000 := hRqr66s.1 114; have : (0 : Int) ≤ gI qr61s 114 ∧ gI qr61s 114 ≤ 100000 := hRqr61s.1 114; have : (0 : Int) ≤ gI s56 114 ∧ gI s56 114 ≤ 100000 := hRs56.1 114; have : (0 : Int) ≤ gI s 114 ∧ gI s 114 ≤ 100000 := hRs.1 114; omega) ?_
          refine wp_if (fun c3 => ?_) (fun c3 => ?_)
          · skip
            exact wp_some ⟨hRs82, by show (0 : Int) = 0 ∨ (0 : Int) = 1; have : gI s77 114 = gI qr75s 114 := q_Ai es77; have : (0 : Int) ≤ gI qr80s 114 ∧ gI qr80s 114 ≤ 100000 := hRqr80s.1 114; have : gI s68 114 = gI qr66s 114 := q_Ai es68; have : (0 : Int) ≤ gI qr75s 114 ∧ gI qr75s 114 ≤ 100000 := hRqr75s.1 114; have : gI s63 114 = gI qr61s 114 := q_Ai es63; have : (0 : Int) ≤ gI qr66s 114 ∧ gI qr66s 114 ≤ 100000 := hRqr66s.1 114; have : (0 : Int) ≤ gI qr61s 114 ∧ gI qr61s 114 ≤ 100000 := hRqr61s.1 114; have : (0 : Int) ≤ gI s56 114 ∧ gI s56 114 ≤ 100000 := hRs56.1 114; have : (0 : Int) ≤ gI s 114 ∧ gI s 114 ≤ 100000 := hRs.1 114; omega, by show XO s s82 p0.toNat; exact (Xs82), by show gI s 114 ≤ gI s82 114 ∧ gI s82 114 ≤ gI s 114 + 28; have : gI s77 114 = gI qr75s 114 := q_Ai es77; have : (0 : Int) ≤ gI qr80s 114 ∧ gI qr80s 114 ≤ 100000 := hRqr80s.1 114; have : gI s68 114 = gI qr66s 114 := q_Ai es68; have : (0 : Int) ≤ gI qr75s 114 ∧ gI qr75s 114 ≤ 100000 := hRqr75s.1 114; have : gI s63 114 = gI qr61s 114 := q_Ai es63; have : (0 : Int) ≤ gI qr66s 114 ∧ gI qr66s 114 ≤ 100000 := hRqr66s.1 114; have : (0 : Int) ≤ gI qr61s 114 ∧ gI qr61s 114 ≤ 100000 := hRqr61s.1 114; have : (0 : Int) ≤ gI s56 114 ∧ gI s56 114 ≤ 100000 := hRs56.1 114; have : gI s82 114 = gI qr80s 114 := q_Ai es82; have : (0 : Int) ≤ gI s 114 ∧ gI s 114 ≤ 100000 := hRs.1 114; omega, by show (0 : Int) = 1 → gI s82 114 ≤ p1 → LB_r (gA s82 113) (gA s 39 6) p0.toNat; exact (fun h8 => absurd h8 (by decide))⟩
          · skip
            have L130 : ∀ (n : Nat) (x4 : Int) (x5 : Int) (x6 : Int) (s7 : MS), Rr s7 → (x4 = p1 ∧ x5 = 17 + 16 * p0) → (0 ≤ x6 ∧ x6 ≤ gA s7 113 (20 + 16 * p0.toNat)) → (gI s7 114 = gI s 114 + 4 + 4 * x6 ∧ gA s7 39 = gA s 39) → (XO s s7 p0.toNat) → (LH (gA s7 113) (gA s 39 6) p0.toNat (gI s7 114 ≤ p1)) → (LK (gA s7 113) p0.toNat x6 (gI s7 114 ≤ p1)) → (6 - x6) < (n : Int) → wp (m_x12_isLaidBlock_L130 n x4 x5 x6 s7) (fun q => (Rr q.2) ∧ (q.1 = 0 ∨ q.1 = 1) ∧ (XO s q.2 p0.toNat) ∧ (gI s 114 ≤ gI q.2 114 ∧ gI q.2 114 ≤ gI s 114 + 28) ∧ (q.1 = 1 → gI q.2 114 ≤ p1 → LB_r (gA q.2 113) (gA s 39 6) p0.toNat)) := by
              refine fr_ind (fun x4 x5 x6 s7 hRs7 hv130_0 hv130_1 hv130_2 hv130_3 hv130_4 hv130_5 hm130 => ?_) (fun n130 ih130 x4 x5 x6 s7 hRs7 hv130_0 hv130_1 hv130_2 hv130_3 hv130_4 hv130_5 hm130 => ?_)
              · exfalso; have : (0 : Int) ≤ gI s 114 ∧ gI s 114 ≤ 100000 := hRs.1 114; have : (0 : Int) ≤ gI s7 114 ∧ gI s7 114 ≤ 100000 := hRs7.1 114; have kE := hv130_4.2.1.2; omega
              · show wp (m_x12_isLaidBlock_b130 (m_x12_isLaidBlock_L130 n130) x4 x5 x6 s7) _
                unfold m_x12_isLaidBlock_b130
                have Xs7 := hv130_3
                have kE := hv130_4.2.1.2
                refine wp_rdIn (by have : (0 : Int) ≤ gI s7 114 ∧ gI s7 114 ≤ 100000 := hRs7.1 114; have : gI s77 114 = gI qr75s 114 := q_Ai es77; have : (0 : Int) ≤ gI qr80s 114 ∧ gI qr80s 114 ≤ 100000 := hRqr80s.1 114; have : gI s68 114 = gI qr66s 114 := q_Ai es68; have : (0 : Int) ≤ gI qr75s 114 ∧ gI qr75s 114 ≤ 100000 := hRqr75s.1 114; have : gI s63 114 = gI qr61s 114 := q_Ai es63; have : (0 : Int) ≤ gI qr66s 114 ∧ gI qr66s 114 ≤ 100000 := hRqr66s.1 114; have : (0 : Int) ≤ gI qr61s 114 ∧ gI qr61s 114 ≤ 100000 := hRqr61s.1 114; have : (0 : Int) ≤ gI s56 114 ∧ gI s56 114 ≤ 100000 := hRs56.1 114; have : (0 : Int) ≤ gI s 114 ∧ gI s 114 ≤ 100000 := hRs.1 114; omega) (fun y29 ey29 => ?_)
                have by29 : (-2147483648 : Int) ≤ y29 ∧ y29 ≤ 2147483647 := ey29 ▸ hRs7.2.1 113 _ (by show _ < 785; have : (0 : Int) ≤ gI s7 114 ∧ gI s7 114 ≤ 100000 := hRs7.1 114; have : gI s77 114 = gI qr75s 114 := q_Ai es77; have : (0 : Int) ≤ gI qr80s 114 ∧ gI qr80s 114 ≤ 100000 := hRqr80s.1 114; have : gI s68 114 = gI qr66s 114 := q_Ai es68; have : (0 : Int) ≤ gI qr75s 114 ∧ gI qr75s 114 ≤ 100000 := hRqr75s.1 114; have : gI s63 114 = gI qr61s 114 := q_Ai es63; have : (0 : Int) ≤ gI qr66s 114 ∧ gI qr66s 114 ≤ 100000 := hRqr66s.1 114; have : (0 : Int) ≤ gI qr61s 114 ∧ gI qr61s 114 ≤ 100000 := hRqr61s.1 114; have : (0 : Int) ≤ gI s56 114 ∧ gI s56 114 ≤ 100000 := hRs56.1 114; have : (0 : Int) ≤ gI s 114 ∧ gI s 114 ≤ 100000 := hRs.1 114; omega)
                have k29 : y29 = gA s7 113 (20 + 16 * p0.toNat) := by rw [← ey29, show (x5 + 3).toNat = 20 + 16 * p0.toNat by omega]
                refine wp_rg (by have : (0 : Int) ≤ gI s7 114 ∧ gI s7 114 ≤ 100000 := hRs7.1 114; have : gI s77 114 = gI qr75s 114 := q_Ai es77; have : (0 : Int) ≤ gI qr80s 114 ∧ gI qr80s 114 ≤ 100000 := hRqr80s.1 114; have : gI s68 114 = gI qr66s 114 := q_Ai es68; have : (0 : Int) ≤ gI qr75s 114 ∧ gI qr75s 114 ≤ 100000 := hRqr75s.1 114; have : gI s63 114 = gI qr61s 114 := q_Ai es63; have : (0 : Int) ≤ gI qr66s 114 ∧ gI qr66s 114 ≤ 100000 := hRqr66s.1 114; have : (0 : Int) ≤ gI qr61s 114 ∧ gI qr61s 114 ≤ 100000 := hRqr61s.1 114; have : (0 : Int) ≤ gI s56 114 ∧ gI s56 114 ≤ 100000 := hRs56.1 114; have : (0 : Int) ≤ gI s 114 ∧ gI s 114 ≤ 100000 := hRs.1 114; omega) ?_
                refine wp_rg (by have : (0 : Int) ≤ gI s7 114 ∧ gI s7 114 ≤ 100000 := hRs7.1 114; have : gI s77 114 = gI qr75s 114 := q_Ai es77; have : (0 : Int) ≤ gI qr80s 114 ∧ gI qr80s 114 ≤ 100000 := hRqr80s.1 114; have : gI s68 114 = gI qr66s 114 := q_Ai es68; have : (0 : Int) ≤ gI qr75s 114 ∧ gI qr75s 114 ≤ 100000 := hRqr75s.1 114; have : gI s63 114 = gI qr61s 114 := q_Ai es63; have : (0 : Int) ≤ gI qr66s 114 ∧ gI qr66s 114 ≤ 100000 := hRqr66s.1 114; have : (0 : Int) ≤ gI qr61s 114 ∧ gI qr61s 114 ≤ 100000 := hRqr61s.1 114; have : (0 : Int) ≤ gI s56 114 ∧ gI s56 114 ≤ 100000 := hRs56.1 114; have : (0 : Int) ≤ gI s 114 ∧ gI s 114 ≤ 100000 := hRs.1 114; omega) ?_
                refine wp_if (fun c4 => ?_) (fun c4 => ?_)
                · skip
                  refine wp_rg (by have : gI s77 114 = gI qr75s 114 := q_Ai es77; have : (0 : Int) ≤ gI qr80s 114 ∧ gI qr80s 114 ≤ 100000 := hRqr80s.1 114; have : gI s68 114 = gI qr66s 114 := q_Ai es68; have : (0 : Int) ≤ gI qr75s 114 ∧ gI qr75s 114 ≤ 100000 := hRqr75s.1 114; have : gI s63 114 = gI qr61s 114 := q_Ai es63; have : (0 : Int) ≤ gI qr66s 114 ∧ gI qr66s 114 ≤ 100000 := hRqr66s.1 114; have : (0 : Int) ≤ gI qr61s 114 ∧ gI qr61s 114 ≤ 100000 := hRqr61s.1 114; have : (0 : Int) ≤ gI s56 114 ∧ gI s56 114 ≤ 100000 := hRs56.1 114; have : (0 : Int) ≤ gI s 114 ∧ gI s 114 ≤ 100000 := hRs.1 114; have : (0 : Int) ≤ gI s7 114 ∧ gI s7 114 ≤ 100000 := hRs7.1 114; omega) ?_
                  refine wp_rg (by have : (0 : Int) ≤ gI s7 114 ∧ gI s7 114 ≤ 100000 := hRs7.1 114; have : gI s77 114 = gI qr75s 114 := q_Ai es77; have : (0 : Int) ≤ gI qr80s 114 ∧ gI qr80s 114 ≤ 100000 := hRqr80s.1 114; have : gI s68 114 = gI qr66s 114 := q_Ai es68; have : (0 : Int) ≤ gI qr75s 114 ∧ gI qr75s 114 ≤ 100000 := hRqr75s.1 114; have : gI s63 114 = gI qr61s 114 := q_Ai es63; have : (0 : Int) ≤ gI qr66s 114 ∧ gI qr66s 114 ≤ 100000 := hRqr66s.1 114; have : (0 : Int) ≤ gI qr61s 114 ∧ gI qr61s 114 ≤ 100000 := hRqr61s.1 114; have : (0 : Int) ≤ gI s56 114 ∧ gI s56 114 ≤ 100000 := hRs56.1 114; have : (0 : Int) ≤ gI s 114 ∧ gI s 114 ≤ 100000 := hRs.1 114; omega) ?_
                  refine wp_if (fun c5 => ?_) (fun c5 => ?_)
                  · skip
                    unfold m_x12_isLaidBlock_J262
                    refine wp_bo (by have : (0 : Int) ≤ gI s7 114 ∧ gI s7 114 ≤ 100000 := hRs7.1 114; have : gI s77 114 = gI qr75s 114 := q_Ai es77; have : (0 : Int) ≤ gI qr80s 114 ∧ gI qr80s 114 ≤ 100000 := hRqr80s.1 114; have : gI s68 114 = gI qr66s 114 := q_Ai es68; have : (0 : Int) ≤ gI qr75s 114 ∧ gI qr75s 114 ≤ 100000 := hRqr75s.1 114; have : gI s63 114 = gI qr61s 114 := q_Ai es63; have : (0 : Int) ≤ gI qr66s 114 ∧ gI qr66s 114 ≤ 100000 := hRqr66s.1 114; have : (0 : Int) ≤ gI qr61s 114 ∧ gI qr61s 114 ≤ 100000 := hRqr61s.1 114; have : (0 : Int) ≤ gI s56 114 ∧ gI s56 114 ≤ 100000 := hRs56.1 114; have : (0 : Int) ≤ gI s 114 ∧ gI s 114 ≤ 100000 := hRs.1 114; omega) ?_
                    exact wp_some ⟨hRs7, by show (0 : Int) = 0 ∨ (0 : Int) = 1; have : (0 : Int) ≤ gI s7 114 ∧ gI s7 114 ≤ 100000 := hRs7.1 114; have : gI s77 114 = gI qr75s 114 := q_Ai es77; have : (0 : Int) ≤ gI qr80s 114 ∧ gI qr80s 114 ≤ 100000 := hRqr80s.1 114; have : gI s68 114 = gI qr66s 114 := q_Ai es68; have : (0 : Int) ≤ gI qr75s 114 ∧ gI qr75s 114 ≤ 100000 := hRqr75s.1 114; have : gI s63 114 = gI qr61s 114 := q_Ai es63; have : (0 : Int) ≤ gI qr66s 114 ∧ gI qr66s 114 ≤ 100000 := hRqr66s.1 114; have : (0 : Int) ≤ gI qr61s 114 ∧ gI qr61s 114 ≤ 100000 := hRqr61s.1 114; have : (0 : Int) ≤ gI s56 114 ∧ gI s56 114 ≤ 100000 := hRs56.1 114; have : (0 : Int) ≤ gI s 114 ∧ gI s 114 ≤ 100000 := hRs.1 114; omega, by show XO s s7 p0.toNat; exact (hv130_3), by show gI s 114 ≤ gI s7 114 ∧ gI s7 114 ≤ gI s 114 + 28; have : gI s77 114 = gI qr75s 114 := q_Ai es77; have : (0 : Int) ≤ gI qr80s 114 ∧ gI qr80s 114 ≤ 100000 := hRqr80s.1 114; have : gI s68 114 = gI qr66s 114 := q_Ai es68; have : (0 : Int) ≤ gI qr75s 114 ∧ gI qr75s 114 ≤ 100000 := hRqr75s.1 114; have : gI s63 114 = gI qr61s 114 := q_Ai es63; have : (0 : Int) ≤ gI qr66s 114 ∧ gI qr66s 114 ≤ 100000 := hRqr66s.1 114; have : (0 : Int) ≤ gI qr61s 114 ∧ gI qr61s 114 ≤ 100000 := hRqr61s.1 114; have : (0 : Int) ≤ gI s56 114 ∧ gI s56 114 ≤ 100000 := hRs56.1 114; have : (0 : Int) ≤ gI s7 114 ∧ gI s7 114 ≤ 100000 := hRs7.1 114; have : (0 : Int) ≤ gI s 114 ∧ gI s 114 ≤ 100000 := hRs.1 114; omega, by show (0 : Int) = 1 → gI s7 114 ≤ p1 → LB_r (gA s7 113) (gA s 39 6) p0.toNat; exact (fun h8 h9 => LB_of hv130_4 hv130_5 (by omega) h9)⟩
                  · skip
                    unfold m_x12_isLaidBlock_J262
                    refine wp_bo (by have : (0 : Int) ≤ gI s7 114 ∧ gI s7 114 ≤ 100000 := hRs7.1 114; have : gI s77 114 = gI qr75s 114 := q_Ai es77; have : (0 : Int) ≤ gI qr80s 114 ∧ gI qr80s 114 ≤ 100000 := hRqr80s.1 114; have : gI s68 114 = gI qr66s 114 := q_Ai es68; have : (0 : Int) ≤ gI qr75s 114 ∧ gI qr75s 114 ≤ 100000 := hRqr75s.1 114; have : gI s63 114 = gI qr61s 114 := q_Ai es63; have : (0 : Int) ≤ gI qr66s 114 ∧ gI qr66s 114 ≤ 100000 := hRqr66s.1 114; have : (0 : Int) ≤ gI qr61s 114 ∧ gI qr61s 114 ≤ 100000 := hRqr61s.1 114; have : (0 : Int) ≤ gI s56 114 ∧ gI s56 114 ≤ 100000 := hRs56.1 114; have : (0 : Int) ≤ gI s 114 ∧ gI s 114 ≤ 100000 := hRs.1 114; omega) ?_
                    exact wp_some ⟨hRs7, by show (1 : Int) = 0 ∨ (1 : Int) = 1; have : (0 : Int) ≤ gI s7 114 ∧ gI s7 114 ≤ 100000 := hRs7.1 114; have : gI s77 114 = gI qr75s 114 := q_Ai es77; have : (0 : Int) ≤ gI qr80s 114 ∧ gI qr80s 114 ≤ 100000 := hRqr80s.1 114; have : gI s68 114 = gI qr66s 114 := q_Ai es68; have : (0 : Int) ≤ gI qr75s 114 ∧ gI qr75s 114 ≤ 100000 := hRqr75s.1 114; have : gI s63 114 = gI qr61s 114 := q_Ai es63; have : (0 : Int) ≤ gI qr66s 114 ∧ gI qr66s 114 ≤ 100000 := hRqr66s.1 114; have : (0 : Int) ≤ gI qr61s 114 ∧ gI qr61s 114 ≤ 100000 := hRqr61s.1 114; have : (0 : Int) ≤ gI s56 114 ∧ gI s56 114 ≤ 100000 := hRs56.1 114; have : (0 : Int) ≤ gI s 114 ∧ gI s 114 ≤ 100000 := hRs.1 114; omega, by show XO s s7 p0.toNat; exact (hv130_3), by show gI s 114 ≤ gI s7 114 ∧ gI s7 114 ≤ gI s 114 + 28; have : gI s77 114 = gI qr75s 114 := q_Ai es77; have : (0 : Int) ≤ gI qr80s 114 ∧ gI qr80s 114 ≤ 100000 := hRqr80s.1 114; have : gI s68 114 = gI qr66s 114 := q_Ai es68; have : (0 : Int) ≤ gI qr75s 114 ∧ gI qr75s 114 ≤ 100000 := hRqr75s.1 114; have : gI s63 114 = gI qr61s 114 := q_Ai es63; have : (0 : Int) ≤ gI qr66s 114 ∧ gI qr66s 114 ≤ 100000 := hRqr66s.1 114; have : (0 : Int) ≤ gI qr61s 114 ∧ gI qr61s 114 ≤ 100000 := hRqr61s.1 114; have : (0 : Int) ≤ gI s56 114 ∧ gI s56 114 ≤ 100000 := hRs56.1 114; have : (0 : Int) ≤ gI s7 114 ∧ gI s7 114 ≤ 100000 := hRs7.1 114; have : (0 : Int) ≤ gI s 114 ∧ gI s 114 ≤ 100000 := hRs.1 114; omega, by show (1 : Int) = 1 → gI s7 114 ≤ p1 → LB_r (gA s7 113) (gA s 39 6) p0.toNat; exact (fun h8 h9 => LB_of hv130_4 hv130_5 (by omega) h9)⟩
                · skip
                  refine wp_bn (w_x12_twoRead hRs7 (by show 0 ≤ x4 ∧ x4 ≤ 1599; have : (0 : Int) ≤ gI s7 114 ∧ gI s7 114 ≤ 100000 := hRs7.1 114; have : gI s77 114 = gI qr75s 114 := q_Ai es77; have : (0 : Int) ≤ gI qr80s 114 ∧ gI qr80s 114 ≤ 100000 := hRqr80s.1 114; have : gI s68 114 = gI qr66s 114 := q_Ai es68; have : (0 : Int) ≤ gI qr75s 114 ∧ gI qr75s 114 ≤ 100000 := hRqr75s.1 114; have : gI s63 114 = gI qr61s 114 := q_Ai es63; have : (0 : Int) ≤ gI qr66s 114 ∧ gI qr66s 114 ≤ 100000 := hRqr66s.1 114; have : (0 : Int) ≤ gI qr61s 114 ∧ gI qr61s 114 ≤ 100000 := hRqr61s.1 114; have : (0 : Int) ≤ gI s56 114 ∧ gI s56 114 ≤ 100000 := hRs56.1 114; have : (0 : Int) ≤ gI s 114 ∧ gI s 114 ≤ 100000 := hRs.1 114; omega) (by show gI s7 114 ≤ 80000; have : gI s77 114 = gI qr75s 114 := q_Ai es77; have : (0 : Int) ≤ gI qr80s 114 ∧ gI qr80s 114 ≤ 100000 := hRqr80s.1 114; have : gI s68 114 = gI qr66s 114 := q_Ai es68; have : (0 : Int) ≤ gI qr75s 114 ∧ gI qr75s 114 ≤ 100000 := hRqr75s.1 114; have : gI s63 114 = gI qr61s 114 := q_Ai es63; have : (0 : Int) ≤ gI qr66s 114 ∧ gI qr66s 114 ≤ 100000 := hRqr66s.1 114; have : (0 : Int) ≤ gI qr61s 114 ∧ gI qr61s 114 ≤ 100000 := hRqr61s.1 114; have : (0 : Int) ≤ gI s56 114 ∧ gI s56 114 ≤ 100000 := hRs56.1 114; have : (0 : Int) ≤ gI s 114 ∧ gI s 114 ≤ 100000 := hRs.1 114; have : (0 : Int) ≤ gI s7 114 ∧ gI s7 114 ≤ 100000 := hRs7.1 114; omega)) (fun qqr38 eqr38s hqr38s => ?_)
                  obtain ⟨qr38r, qr38s⟩ := qqr38
                  dsimp only at eqr38s hqr38s ⊢
                  have Fqr38s : F_x12_twoRead s7 qr38s := fr_x12_twoRead eqr38s
                  obtain ⟨hRqr38s, hqr38s_0, hqr38s_1, hqr38s_2⟩ := hqr38s
                  have hqr38s_0 : (-1) ≤ qr38r ∧ qr38r ≤ 65535 := hqr38s_0
                  have hqr38s_1 : gI qr38s 114 = gI s7 114 + 2 := hqr38s_1
                  have hqr38s_2 : gI qr38s 114 ≤ x4 → 0 ≤ qr38r := hqr38s_2
                  have fqr38s : gA qr38s 113 = gA s7 113 := (Fqr38s.2.1 113 (by decide))
                  have Xqr38s : XO s qr38s p0.toNat := XO_e Xs7 fqr38s
                  refine wp_inb (by have : (0 : Int) ≤ gI qr38s 114 ∧ gI qr38s 114 ≤ 100000 := hRqr38s.1 114; have : (0 : Int) ≤ gI s7 114 ∧ gI s7 114 ≤ 100000 := hRs7.1 114; have : gI s77 114 = gI qr75s 114 := q_Ai es77; have : (0 : Int) ≤ gI qr80s 114 ∧ gI qr80s 114 ≤ 100000 := hRqr80s.1 114; have : gI s68 114 = gI qr66s 114 := q_Ai es68; have : (0 : Int) ≤ gI qr75s 114 ∧ gI qr75s 114 ≤ 100000 := hRqr75s.1 114; have : gI s63 114 = gI qr61s 114 := q_Ai es63; have : (0 : Int) ≤ gI qr66s 114 ∧ gI qr66s 114 ≤ 100000 := hRqr66s.1 114; have : (0 : Int) ≤ gI qr61s 114 ∧ gI qr61s 114 ≤ 100000 := hRqr61s.1 114; have : (0 : Int) ≤ gI s56 114 ∧ gI s56 114 ≤ 100000 := hRs56.1 114; have : (0 : Int) ≤ gI s 114 ∧ gI s 114 ≤ 100000 := hRs.1 114; omega) ?_
                  refine wp_stn (fun s40 es40 => ?_)
                  have hRs40 : Rr s40 := es40 ▸ Rr.uAu hRqr38s (by show (-2147483648 : Int) ≤ qr38r ∧ qr38r ≤ 2147483647; have : (0 : Int) ≤ gI qr38s 114 ∧ gI qr38s 114 ≤ 100000 := hRqr38s.1 114; have : (0 : Int) ≤ gI s7 114 ∧ gI s7 114 ≤ 100000 := hRs7.1 114; have : gI s77 114 = gI qr75s 114 := q_Ai es77; have : (0 : Int) ≤ gI qr80s 114 ∧ gI qr80s 114 ≤ 100000 := hRqr80s.1 114; have : gI s68 114 = gI qr66s 114 := q_Ai es68; have : (0 : Int) ≤ gI qr75s 114 ∧ gI qr75s 114 ≤ 100000 := hRqr75s.1 114; have : gI s63 114 = gI qr61s 114 := q_Ai es63; have : (0 : Int) ≤ gI qr66s 114 ∧ gI qr66s 114 ≤ 100000 := hRqr66s.1 114; have : (0 : Int) ≤ gI qr61s 114 ∧ gI qr61s 114 ≤ 100000 := hRqr61s.1 114; have : (0 : Int) ≤ gI s56 114 ∧ gI s56 114 ≤ 100000 := hRs56.1 114; have : (0 : Int) ≤ gI s 114 ∧ gI s 114 ≤ 100000 := hRs.1 114; omega)
                  have ks40 : gA s40 113 = upZ (gA qr38s 113) (21 + 16 * p0.toNat + x6.toNat) qr38r := by rw [(q_AA es40 : gA s40 113 = _), show (x5 + 4 + x6).toNat = 21 + 16 * p0.toNat + x6.toNat by omega]
                  have Xs40 : XO s s40 p0.toNat := XO_u Xqr38s ks40 (by omega)
                  have i40 : gI s40 114 = gI qr38s 114 := (q_Ai es40 : gI s40 114 = gI qr38s 114)
                  refine wp_bn (w_x12_twoRead hRs40 (by show 0 ≤ x4 ∧ x4 ≤ 1599; have : (0 : Int) ≤ gI qr38s 114 ∧ gI qr38s 114 ≤ 100000 := hRqr38s.1 114; have : (0 : Int) ≤ gI s7 114 ∧ gI s7 114 ≤ 100000 := hRs7.1 114; have : gI s77 114 = gI qr75s 114 := q_Ai es77; have : (0 : Int) ≤ gI qr80s 114 ∧ gI qr80s 114 ≤ 100000 := hRqr80s.1 114; have : gI s68 114 = gI qr66s 114 := q_Ai es68; have : (0 : Int) ≤ gI qr75s 114 ∧ gI qr75s 114 ≤ 100000 := hRqr75s.1 114; have : gI s63 114 = gI qr61s 114 := q_Ai es63; have : (0 : Int) ≤ gI qr66s 114 ∧ gI qr66s 114 ≤ 100000 := hRqr66s.1 114; have : (0 : Int) ≤ gI qr61s 114 ∧ gI qr61s 114 ≤ 100000 := hRqr61s.1 114; have : (0 : Int) ≤ gI s56 114 ∧ gI s56 114 ≤ 100000 := hRs56.1 114; have : (0 : Int) ≤ gI s 114 ∧ gI s 114 ≤ 100000 := hRs.1 114; omega) (by show gI s40 114 ≤ 80000; have : (0 : Int) ≤ gI qr38s 114 ∧ gI qr38s 114 ≤ 100000 := hRqr38s.1 114; have : (0 : Int) ≤ gI s7 114 ∧ gI s7 114 ≤ 100000 := hRs7.1 114; have : gI s77 114 = gI qr75s 114 := q_Ai es77; have : (0 : Int) ≤ gI qr80s 114 ∧ gI qr80s 114 ≤ 100000 := hRqr80s.1 114; have : gI s68 114 = gI qr66s 114 := q_Ai es68; have : (0 : Int) ≤ gI qr75s 114 ∧ gI qr75s 114 ≤ 100000 := hRqr75s.1 114; have : gI s63 114 = gI qr61s 114 := q_Ai es63; have : (0 : Int) ≤ gI qr66s 114 ∧ gI qr66s 114 ≤ 100000 := hRqr66s.1 114; have : (0 : Int) ≤ gI qr61s 114 ∧ gI qr61s 114 ≤ 100000 := hRqr61s.1 114; have : (0 : Int) ≤ gI s56 114 ∧ gI s56 114 ≤ 100000 := hRs56.1 114; have : (0 : Int) ≤ gI s 114 ∧ gI s 114 ≤ 100000 := hRs.1 114; have : gI s40 114 = gI qr38s 114 := q_Ai es40; omega)) (fun qqr43 eqr43s hqr43s => ?_)
                  obtain ⟨qr43r, qr43s⟩ := qqr43
                  dsimp only at eqr43s hqr43s ⊢
                  have Fqr43s : F_x12_twoRead s40 qr43s := fr_x12_twoRead eqr43s
                  obtain ⟨hRqr43s, hqr43s_0, hqr43s_1, hqr43s_2⟩ := hqr43s
                  have hqr43s_0 : (-1) ≤ qr43r ∧ qr43r ≤ 65535 := hqr43s_0
                  have hqr43s_1 : gI qr43s 114 = gI s40 114 + 2 := hqr43s_1
                  have hqr43s_2 : gI qr43s 114 ≤ x4 → 0 ≤ qr43r := hqr43s_2
                  have fqr43s : gA qr43s 113 = gA s40 113 := (Fqr43s.2.1 113 (by decide))
                  have Xqr43s : XO s qr43s p0.toNat := XO_e Xs40 fqr43s
                  refine wp_inb (by have : gI s40 114 = gI qr38s 114 := q_Ai es40; have : (0 : Int) ≤ gI qr43s 114 ∧ gI qr43s 114 ≤ 100000 := hRqr43s.1 114; have : (0 : Int) ≤ gI qr38s 114 ∧ gI qr38s 114 ≤ 100000 := hRqr38s.1 114; have : (0 : Int) ≤ gI s7 114 ∧ gI s7 114 ≤ 100000 := hRs7.1 114; have : gI s77 114 = gI qr75s 114 := q_Ai es77; have : (0 : Int) ≤ gI qr80s 114 ∧ gI qr80s 114 ≤ 100000 := hRqr80s.1 114; have : gI s68 114 = gI qr66s 114 := q_Ai es68; have : (0 : Int) ≤ gI qr75s 114 ∧ gI qr75s 114 ≤ 100000 := hRqr75s.1 114; have : gI s63 114 = gI qr61s 114 := q_Ai es63; have : (0 : Int) ≤ gI qr66s 114 ∧ gI qr66s 114 ≤ 100000 := hRqr66s.1 114; have : (0 : Int) ≤ gI qr61s 114 ∧ gI qr61s 114 ≤ 100000 := hRqr61s.1 114; have : (0 : Int) ≤ gI s56 114 ∧ gI s56 114 ≤ 100000 := hRs56.1 114; have : (0 : Int) ≤ gI s 114 ∧ gI s 114 ≤ 100000 := hRs.1 114; omega) ?_
                  refine wp_stn (fun s45 es45 => ?_)
                  have hRs45 : Rr s45 := es45 ▸ Rr.uAu hRqr43s (by show (-2147483648 : Int) ≤ qr43r ∧ qr43r ≤ 2147483647; have : gI s40 114 = gI qr38s 114 := q_Ai es40; have : (0 : Int) ≤ gI qr43s 114 ∧ gI qr43s 114 ≤ 100000 := hRqr43s.1 114; have : (0 : Int) ≤ gI qr38s 114 ∧ gI qr38s 114 ≤ 100000 := hRqr38s.1 114; have : (0 : Int) ≤ gI s7 114 ∧ gI s7 114 ≤ 100000 := hRs7.1 114; have : gI s77 114 = gI qr75s 114 := q_Ai es77; have : (0 : Int) ≤ gI qr80s 114 ∧ gI qr80s 114 ≤ 100000 := hRqr80s.1 114; have : gI s68 114 = gI qr66s 114 := q_Ai es68; have : (0 : Int) ≤ gI qr75s 114 ∧ gI qr75s 114 ≤ 100000 := hRqr75s.1 114; have : gI s63 114 = gI qr61s 114 := q_Ai es63; have : (0 : Int) ≤ gI qr66s 114 ∧ gI qr66s 114 ≤ 100000 := hRqr66s.1 114; have : (0 : Int) ≤ gI qr61s 114 ∧ gI qr61s 114 ≤ 100000 := hRqr61s.1 114; have : (0 : Int) ≤ gI s56 114 ∧ gI s56 114 ≤ 100000 := hRs56.1 114; have : (0 : Int) ≤ gI s 114 ∧ gI s 114 ≤ 100000 := hRs.1 114; omega)
                  have ks45 : gA s45 113 = upZ (gA qr43s 113) (27 + 16 * p0.toNat + x6.toNat) qr43r := by rw [(q_AA es45 : gA s45 113 = _), show (x5 + 10 + x6).toNat = 27 + 16 * p0.toNat + x6.toNat by omega]
                  have Xs45 : XO s s45 p0.toNat := XO_u Xqr43s ks45 (by omega)
                  have i45 : gI s45 114 = gI qr43s 114 := (q_Ai es45 : gI s45 114 = gI qr43s 114)
                  have hg : ∀ j, j ≠ 21 + 16 * p0.toNat + x6.toNat → j ≠ 27 + 16 * p0.toNat + x6.toNat → gA s45 113 j = gA s7 113 j := fun j a b => by rw [ks45, upZ_n b, fqr43s, ks40, upZ_n a, fqr38s]
                  have v27 : gA s45 113 (27 + 16 * p0.toNat + x6.toNat) = qr43r := by rw [ks45, upZ_s]
                  have v21 : gA s45 113 (21 + 16 * p0.toNat + x6.toNat) = qr38r := by rw [ks45, upZ_n (by omega), fqr43s, ks40, upZ_s]
                  have e45 : gA s45 39 = gA s 39 := (((q_Aa es45 (by decide) : gA s45 39 = gA qr43s 39).trans ((Fqr43s.2.1 39 (by decide)).trans ((q_Aa es40 (by decide) : gA s40 39 = gA qr38s 39).trans (Fqr38s.2.1 39 (by decide)))))).trans hv130_2.2
                  have z20 := hg (20 + 16 * p0.toNat) (by omega) (by omega)
                  refine wp_rg (by have : gI s40 114 = gI qr38s 114 := q_Ai es40; have : (0 : Int) ≤ gI qr43s 114 ∧ gI qr43s 114 ≤ 100000 := hRqr43s.1 114; have : (0 : Int) ≤ gI qr38s 114 ∧ gI qr38s 114 ≤ 100000 := hRqr38s.1 114; have : (0 : Int) ≤ gI s7 114 ∧ gI s7 114 ≤ 100000 := hRs7.1 114; have : gI s77 114 = gI qr75s 114 := q_Ai es77; have : (0 : Int) ≤ gI qr80s 114 ∧ gI qr80s 114 ≤ 100000 := hRqr80s.1 114; have : gI s68 114 = gI qr66s 114 := q_Ai es68; have : (0 : Int) ≤ gI qr75s 114 ∧ gI qr75s 114 ≤ 100000 := hRqr75s.1 114; have : gI s63 114 = gI qr61s 114 := q_Ai es63; have : (0 : Int) ≤ gI qr66s 114 ∧ gI qr66s 114 ≤ 100000 := hRqr66s.1 114; have : (0 : Int) ≤ gI qr61s 114 ∧ gI qr61s 114 ≤ 100000 := hRqr61s.1 114; have : (0 : Int) ≤ gI s56 114 ∧ gI s56 114 ≤ 100000 := hRs56.1 114; have : (0 : Int) ≤ gI s 114 ∧ gI s 114 ≤ 100000 := hRs.1 114; omega) ?_
                  refine wp_if (fun c6 => ?_) (fun c6 => ?_)
                  · skip
                    unfold m_x12_isLaidBlock_J198
                    unfold m_x12_isLaidBlock_J215
                    refine wp_rdIn (by have : gI s40 114 = gI qr38s 114 := q_Ai es40; have : (0 : Int) ≤ gI qr43s 114 ∧ gI qr43s 114 ≤ 100000 := hRqr43s.1 114; have : (0 : Int) ≤ gI qr38s 114 ∧ gI qr38s 114 ≤ 100000 := hRqr38s.1 114; have : (0 : Int) ≤ gI s7 114 ∧ gI s7 114 ≤ 100000 := hRs7.1 114; have : gI s77 114 = gI qr75s 114 := q_Ai es77; have : (0 : Int) ≤ gI qr80s 114 ∧ gI qr80s 114 ≤ 100000 := hRqr80s.1 114; have : gI s68 114 = gI qr66s 114 := q_Ai es68; have : (0 : Int) ≤ gI qr75s 114 ∧ gI qr75s 114 ≤ 100000 := hRqr75s.1 114; have : gI s63 114 = gI qr61s 114 := q_Ai es63; have : (0 : Int) ≤ gI qr66s 114 ∧ gI qr66s 114 ≤ 100000 := hRqr66s.1 114; have : (0 : Int) ≤ gI qr61s 114 ∧ gI qr61s 114 ≤ 100000 := hRqr61s.1 114; have : (0 : Int) ≤ gI s56 114 ∧ gI s56 114 ≤ 100000 := hRs56.1 114; have : (0 : Int) ≤ gI s 114 ∧ gI s 114 ≤ 100000 := hRs.1 114; omega) (fun y13 ey13 => ?_)
                    have by13 : (-2147483648 : Int) ≤ y13 ∧ y13 ≤ 2147483647 := ey13 ▸ hRs45.2.1 113 _ (by show _ < 785; have : gI s40 114 = gI qr38s 114 := q_Ai es40; have : (0 : Int) ≤ gI qr43s 114 ∧ gI qr43s 114 ≤ 100000 := hRqr43s.1 114; have : (0 : Int) ≤ gI qr38s 114 ∧ gI qr38s 114 ≤ 100000 := hRqr38s.1 114; have : (0 : Int) ≤ gI s7 114 ∧ gI s7 114 ≤ 100000 := hRs7.1 114; have : gI s77 114 = gI qr75s 114 := q_Ai es77; have : (0 : Int) ≤ gI qr80s 114 ∧ gI qr80s 114 ≤ 100000 := hRqr80s.1 114; have : gI s68 114 = gI qr66s 114 := q_Ai es68; have : (0 : Int) ≤ gI qr75s 114 ∧ gI qr75s 114 ≤ 100000 := hRqr75s.1 114; have : gI s63 114 = gI qr61s 114 := q_Ai es63; have : (0 : Int) ≤ gI qr66s 114 ∧ gI qr66s 114 ≤ 100000 := hRqr66s.1 114; have : (0 : Int) ≤ gI qr61s 114 ∧ gI qr61s 114 ≤ 100000 := hRqr61s.1 114; have : (0 : Int) ≤ gI s56 114 ∧ gI s56 114 ≤ 100000 := hRs56.1 114; have : (0 : Int) ≤ gI s 114 ∧ gI s 114 ≤ 100000 := hRs.1 114; omega)
                    have k13 : y13 = qr38r := by rw [← ey13, show (x5 + 4 + x6).toNat = 21 + 16 * p0.toNat + x6.toNat by omega]; exact v21
                    refine wp_rg (by have : gI s40 114 = gI qr38s 114 := q_Ai es40; have : (0 : Int) ≤ gI qr43s 114 ∧ gI qr43s 114 ≤ 100000 := hRqr43s.1 114; have : (0 : Int) ≤ gI qr38s 114 ∧ gI qr38s 114 ≤ 100000 := hRqr38s.1 114; have : (0 : Int) ≤ gI s7 114 ∧ gI s7 114 ≤ 100000 := hRs7.1 114; have : gI s77 114 = gI qr75s 114 := q_Ai es77; have : (0 : Int) ≤ gI qr80s 114 ∧ gI qr80s 114 ≤ 100000 := hRqr80s.1 114; have : gI s68 114 = gI qr66s 114 := q_Ai es68; have : (0 : Int) ≤ gI qr75s 114 ∧ gI qr75s 114 ≤ 100000 := hRqr75s.1 114; have : gI s63 114 = gI qr61s 114 := q_Ai es63; have : (0 : Int) ≤ gI qr66s 114 ∧ gI qr66s 114 ≤ 100000 := hRqr66s.1 114; have : (0 : Int) ≤ gI qr61s 114 ∧ gI qr61s 114 ≤ 100000 := hRqr61s.1 114; have : (0 : Int) ≤ gI s56 114 ∧ gI s56 114 ≤ 100000 := hRs56.1 114; have : (0 : Int) ≤ gI s 114 ∧ gI s 114 ≤ 100000 := hRs.1 114; omega) ?_
                    refine wp_rg (by have : gI s40 114 = gI qr38s 114 := q_Ai es40; have : (0 : Int) ≤ gI qr43s 114 ∧ gI qr43s 114 ≤ 100000 := hRqr43s.1 114; have : (0 : Int) ≤ gI qr38s 114 ∧ gI qr38s 114 ≤ 100000 := hRqr38s.1 114; have : (0 : Int) ≤ gI s7 114 ∧ gI s7 114 ≤ 100000 := hRs7.1 114; have : gI s77 114 = gI qr75s 114 := q_Ai es77; have : (0 : Int) ≤ gI qr80s 114 ∧ gI qr80s 114 ≤ 100000 := hRqr80s.1 114; have : gI s68 114 = gI qr66s 114 := q_Ai es68; have : (0 : Int) ≤ gI qr75s 114 ∧ gI qr75s 114 ≤ 100000 := hRqr75s.1 114; have : gI s63 114 = gI qr61s 114 := q_Ai es63; have : (0 : Int) ≤ gI qr66s 114 ∧ gI qr66s 114 ≤ 100000 := hRqr66s.1 114; have : (0 : Int) ≤ gI qr61s 114 ∧ gI qr61s 114 ≤ 100000 := hRqr61s.1 114; have : (0 : Int) ≤ gI s56 114 ∧ gI s56 114 ≤ 100000 := hRs56.1 114; have : (0 : Int) ≤ gI s 114 ∧ gI s 114 ≤ 100000 := hRs.1 114; omega) ?_
                    refine wp_bn (w_x12_isIn hRs45 (by show R8 y13; have : gI s40 114 = gI qr38s 114 := q_Ai es40; have : (0 : Int) ≤ gI qr43s 114 ∧ gI qr43s 114 ≤ 100000 := hRqr43s.1 114; have : (0 : Int) ≤ gI qr38s 114 ∧ gI qr38s 114 ≤ 100000 := hRqr38s.1 114; have : (0 : Int) ≤ gI s7 114 ∧ gI s7 114 ≤ 100000 := hRs7.1 114; have : gI s77 114 = gI qr75s 114 := q_Ai es77; have : (0 : Int) ≤ gI qr80s 114 ∧ gI qr80s 114 ≤ 100000 := hRqr80s.1 114; have : gI s68 114 = gI qr66s 114 := q_Ai es68; have : (0 : Int) ≤ gI qr75s 114 ∧ gI qr75s 114 ≤ 100000 := hRqr75s.1 114; have : gI s63 114 = gI qr61s 114 := q_Ai es63; have : (0 : Int) ≤ gI qr66s 114 ∧ gI qr66s 114 ≤ 100000 := hRqr66s.1 114; have : (0 : Int) ≤ gI qr61s 114 ∧ gI qr61s 114 ≤ 100000 := hRqr61s.1 114; have : (0 : Int) ≤ gI s56 114 ∧ gI s56 114 ≤ 100000 := hRs56.1 114; have : (0 : Int) ≤ gI s 114 ∧ gI s 114 ≤ 100000 := hRs.1 114; omega) (by show R8 (0 : Int); have : gI s40 114 = gI qr38s 114 := q_Ai es40; have : (0 : Int) ≤ gI qr43s 114 ∧ gI qr43s 114 ≤ 100000 := hRqr43s.1 114; have : (0 : Int) ≤ gI qr38s 114 ∧ gI qr38s 114 ≤ 100000 := hRqr38s.1 114; have : (0 : Int) ≤ gI s7 114 ∧ gI s7 114 ≤ 100000 := hRs7.1 114; have : gI s77 114 = gI qr75s 114 := q_Ai es77; have : (0 : Int) ≤ gI qr80s 114 ∧ gI qr80s 114 ≤ 100000 := hRqr80s.1 114; have : gI s68 114 = gI qr66s 114 := q_Ai es68; have : (0 : Int) ≤ gI qr75s 114 ∧ gI qr75s 114 ≤ 100000 := hRqr75s.1 114; have : gI s63 114 = gI qr61s 114 := q_Ai es63; have : (0 : Int) ≤ gI qr66s 114 ∧ gI qr66s 114 ≤ 100000 := hRqr66s.1 114; have : (0 : Int) ≤ gI qr61s 114 ∧ gI qr61s 114 ≤ 100000 := hRqr61s.1 114; have : (0 : Int) ≤ gI s56 114 ∧ gI s56 114 ≤ 100000 := hRs56.1 114; have : (0 : Int) ≤ gI s 114 ∧ gI s 114 ≤ 100000 := hRs.1 114; omega) (by show R8 (999 : Int); have : gI s40 114 = gI qr38s 114 := q_Ai es40; have : (0 : Int) ≤ gI qr43s 114 ∧ gI qr43s 114 ≤ 100000 := hRqr43s.1 114; have : (0 : Int) ≤ gI qr38s 114 ∧ gI qr38s 114 ≤ 100000 := hRqr38s.1 114; have : (0 : Int) ≤ gI s7 114 ∧ gI s7 114 ≤ 100000 := hRs7.1 114; have : gI s77 114 = gI qr75s 114 := q_Ai es77; have : (0 : Int) ≤ gI qr80s 114 ∧ gI qr80s 114 ≤ 100000 := hRqr80s.1 114; have : gI s68 114 = gI qr66s 114 := q_Ai es68; have : (0 : Int) ≤ gI qr75s 114 ∧ gI qr75s 114 ≤ 100000 := hRqr75s.1 114; have : gI s63 114 = gI qr61s 114 := q_Ai es63; have : (0 : Int) ≤ gI qr66s 114 ∧ gI qr66s 114 ≤ 100000 := hRqr66s.1 114; have : (0 : Int) ≤ gI qr61s 114 ∧ gI qr61s 114 ≤ 100000 := hRqr61s.1 114; have : (0 : Int) ≤ gI s56 114 ∧ gI s56 114 ≤ 100000 := hRs56.1 114; have : (0 : Int) ≤ gI s 114 ∧ gI s 114 ≤ 100000 := hRs.1 114; omega)) (fun r17 er17 hr17 => ?_)
                    have hr17_0 := hr17
                    have hr17_0 : (r17 = 1 ∧ (0 : Int) ≤ y13 ∧ y13 ≤ (999 : Int)) ∨ (r17 = 0 ∧ (y13 < (0 : Int) ∨ (999 : Int) < y13)) := hr17_0
                    refine wp_rg (by have : gI s40 114 = gI qr38s 114 := q_Ai es40; have : (0 : Int) ≤ gI qr43s 114 ∧ gI qr43s 114 ≤ 100000 := hRqr43s.1 114; have : (0 : Int) ≤ gI qr38s 114 ∧ gI qr38s 114 ≤ 100000 := hRqr38s.1 114; have : (0 : Int) ≤ gI s7 114 ∧ gI s7 114 ≤ 100000 := hRs7.1 114; have : gI s77 114 = gI qr75s 114 := q_Ai es77; have : (0 : Int) ≤ gI qr80s 114 ∧ gI qr80s 114 ≤ 100000 := hRqr80s.1 114; have : gI s68 114 = gI qr66s 114 := q_Ai es68; have : (0 : Int) ≤ gI qr75s 114 ∧ gI qr75s 114 ≤ 100000 := hRqr75s.1 114; have : gI s63 114 = gI qr61s 114 := q_Ai es63; have : (0 : Int) ≤ gI qr66s 114 ∧ gI qr66s 114 ≤ 100000 := hRqr66s.1 114; have : (0 : Int) ≤ gI qr61s 114 ∧ gI qr61s 114 ≤ 100000 := hRqr61s.1 114; have : (0 : Int) ≤ gI s56 114 ∧ gI s56 114 ≤ 100000 := hRs56.1 114; have : (0 : Int) ≤ gI s 114 ∧ gI s 114 ≤ 100000 := hRs.1 114; omega) ?_
                    refine wp_if (fun c7 => ?_) (fun c7 => ?_)
                    · skip
                      exact wp_some ⟨hRs45, by show (0 : Int) = 0 ∨ (0 : Int) = 1; have : gI s40 114 = gI qr38s 114 := q_Ai es40; have : (0 : Int) ≤ gI qr43s 114 ∧ gI qr43s 114 ≤ 100000 := hRqr43s.1 114; have : (0 : Int) ≤ gI qr38s 114 ∧ gI qr38s 114 ≤ 100000 := hRqr38s.1 114; have : (0 : Int) ≤ gI s7 114 ∧ gI s7 114 ≤ 100000 := hRs7.1 114; have : gI s77 114 = gI qr75s 114 := q_Ai es77; have : (0 : Int) ≤ gI qr80s 114 ∧ gI qr80s 114 ≤ 100000 := hRqr80s.1 114; have : gI s68 114 = gI qr66s 114 := q_Ai es68; have : (0 : Int) ≤ gI qr75s 114 ∧ gI qr75s 114 ≤ 100000 := hRqr75s.1 114; have : gI s63 114 = gI qr61s 114 := q_Ai es63; have : (0 : Int) ≤ gI qr66s 114 ∧ gI qr66s 114 ≤ 100000 := hRqr66s.1 114; have : (0 : Int) ≤ gI qr61s 114 ∧ gI qr61s 114 ≤ 100000 := hRqr61s.1 114; have : (0 : Int) ≤ gI s56 114 ∧ gI s56 114 ≤ 100000 := hRs56.1 114; have : (0 : Int) ≤ gI s 114 ∧ gI s 114 ≤ 100000 := hRs.1 114; omega, by show XO s s45 p0.toNat; exact (Xs45), by show gI s 114 ≤ gI s45 114 ∧ gI s45 114 ≤ gI s 114 + 28; have : gI s40 114 = gI qr38s 114 := q_Ai es40; have : (0 : Int) ≤ gI qr43s 114 ∧ gI qr43s 114 ≤ 100000 := hRqr43s.1 114; have : (0 : Int) ≤ gI qr38s 114 ∧ gI qr38s 114 ≤ 100000 := hRqr38s.1 114; have : (0 : Int) ≤ gI s7 114 ∧ gI s7 114 ≤ 100000 := hRs7.1 114; have : gI s77 114 = gI qr75s 114 := q_Ai es77; have : (0 : Int) ≤ gI qr80s 114 ∧ gI qr80s 114 ≤ 100000 := hRqr80s.1 114; have : gI s68 114 = gI qr66s 114 := q_Ai es68; have : (0 : Int) ≤ gI qr75s 114 ∧ gI qr75s 114 ≤ 100000 := hRqr75s.1 114; have : gI s63 114 = gI qr61s 114 := q_Ai es63; have : (0 : Int) ≤ gI qr66s 114 ∧ gI qr66s 114 ≤ 100000 := hRqr66s.1 114; have : (0 : Int) ≤ gI qr61s 114 ∧ gI qr61s 114 ≤ 100000 := hRqr61s.1 114; have : (0 : Int) ≤ gI s56 114 ∧ gI s56 114 ≤ 100000 := hRs56.1 114; have : gI s45 114 = gI qr43s 114 := q_Ai es45; have : (0 : Int) ≤ gI s 114 ∧ gI s 114 ≤ 100000 := hRs.1 114; omega, by show (0 : Int) = 1 → gI s45 114 ≤ p1 → LB_r (gA s45 113) (gA s 39 6) p0.toNat; exact (fun h8 => absurd h8 (by decide))⟩
                    · skip
                      exact ih130 x4 x5 (x6 + 1) s45 hRs45 (by show x4 = p1 ∧ x5 = 17 + 16 * p0; have : gI s40 114 = gI qr38s 114 := q_Ai es40; have : (0 : Int) ≤ gI qr43s 114 ∧ gI qr43s 114 ≤ 100000 := hRqr43s.1 114; have : (0 : Int) ≤ gI qr38s 114 ∧ gI qr38s 114 ≤ 100000 := hRqr38s.1 114; have : (0 : Int) ≤ gI s7 114 ∧ gI s7 114 ≤ 100000 := hRs7.1 114; have : gI s77 114 = gI qr75s 114 := q_Ai es77; have : (0 : Int) ≤ gI qr80s 114 ∧ gI qr80s 114 ≤ 100000 := hRqr80s.1 114; have : gI s68 114 = gI qr66s 114 := q_Ai es68; have : (0 : Int) ≤ gI qr75s 114 ∧ gI qr75s 114 ≤ 100000 := hRqr75s.1 114; have : gI s63 114 = gI qr61s 114 := q_Ai es63; have : (0 : Int) ≤ gI qr66s 114 ∧ gI qr66s 114 ≤ 100000 := hRqr66s.1 114; have : (0 : Int) ≤ gI qr61s 114 ∧ gI qr61s 114 ≤ 100000 := hRqr61s.1 114; have : (0 : Int) ≤ gI s56 114 ∧ gI s56 114 ≤ 100000 := hRs56.1 114; have : (0 : Int) ≤ gI s 114 ∧ gI s 114 ≤ 100000 := hRs.1 114; omega) (by rw [z20]; omega) (⟨by omega, e45⟩) (Xs45) (LH_x hv130_4 (fun w => by omega) (fun j h1 h2 => hg j (by omega) (by omega))) (LK_add hv130_5 (by omega) hg (fun w => by omega) (by rw [v27]; exact ⟨by omega, by omega, fun w => hqr43s_2 (by omega)⟩) (by rw [v21]; omega) (fun h1 h2 => by first | (exfalso; omega) | (rw [v21, ← k24]; omega))) (by have : gI s40 114 = gI qr38s 114 := q_Ai es40; have : (0 : Int) ≤ gI qr43s 114 ∧ gI qr43s 114 ≤ 100000 := hRqr43s.1 114; have : (0 : Int) ≤ gI qr38s 114 ∧ gI qr38s 114 ≤ 100000 := hRqr38s.1 114; have : (0 : Int) ≤ gI s7 114 ∧ gI s7 114 ≤ 100000 := hRs7.1 114; have : gI s77 114 = gI qr75s 114 := q_Ai es77; have : (0 : Int) ≤ gI qr80s 114 ∧ gI qr80s 114 ≤ 100000 := hRqr80s.1 114; have : gI s68 114 = gI qr66s 114 := q_Ai es68; have : (0 : Int) ≤ gI qr75s 114 ∧ gI qr75s 114 ≤ 100000 := hRqr75s.1 114; have : gI s63 114 = gI qr61s 114 := q_Ai es63; have : (0 : Int) ≤ gI qr66s 114 ∧ gI qr66s 114 ≤ 100000 := hRqr66s.1 114; have : (0 : Int) ≤ gI qr61s 114 ∧ gI qr61s 114 ≤ 100000 := hRqr61s.1 114; have : (0 : Int) ≤ gI s56 114 ∧ gI s56 114 ≤ 100000 := hRs56.1 114; have : (0 : Int) ≤ gI s 114 ∧ gI s 114 ≤ 100000 := hRs.1 114; omega)
                  · skip
                    refine wp_rg (by have : gI s40 114 = gI qr38s 114 := q_Ai es40; have : (0 : Int) ≤ gI qr43s 114 ∧ gI qr43s 114 ≤ 100000 := hRqr43s.1 114; have : (0 : Int) ≤ gI qr38s 114 ∧ gI qr38s 114 ≤ 100000 := hRqr38s.1 114; have : (0 : Int) ≤ gI s7 114 ∧ gI s7 114 ≤ 100000 := hRs7.1 114; have : gI s77 114 = gI qr75s 114 := q_Ai es77; have : (0 : Int) ≤ gI qr80s 114 ∧ gI qr80s 114 ≤ 100000 := hRqr80s.1 114; have : gI s68 114 = gI qr66s 114 := q_Ai es68; have : (0 : Int) ≤ gI qr75s 114 ∧ gI qr75s 114 ≤ 100000 := hRqr75s.1 114; have : gI s63 114 = gI qr61s 114 := q_Ai es63; have : (0 : Int) ≤ gI qr66s 114 ∧ gI qr66s 114 ≤ 100000 := hRqr66s.1 114; have : (0 : Int) ≤ gI qr61s 114 ∧ gI qr61s 114 ≤ 100000 := hRqr61s.1 114; have : (0 : Int) ≤ gI s56 114 ∧ gI s56 114 ≤ 100000 := hRs56.1 114; have : (0 : Int) ≤ gI s 114 ∧ gI s 114 ≤ 100000 := hRs.1 114; omega) ?_
                    refine wp_if (fun c8 => ?_) (fun c8 => ?_)
                    · skip
                      refine wp_rdIn (by have : gI s40 114 = gI qr38s 114 := q_Ai es40; have : (0 : Int) ≤ gI qr43s 114 ∧ gI qr43s 114 ≤ 100000 := hRqr43s.1 114; have : (0 : Int) ≤ gI qr38s 114 ∧ gI qr38s 114 ≤ 100000 := hRqr38s.1 114; have : (0 : Int) ≤ gI s7 114 ∧ gI s7 114 ≤ 100000 := hRs7.1 114; have : gI s77 114 = gI qr75s 114 := q_Ai es77; have : (0 : Int) ≤ gI qr80s 114 ∧ gI qr80s 114 ≤ 100000 := hRqr80s.1 114; have : gI s68 114 = gI qr66s 114 := q_Ai es68; have : (0 : Int) ≤ gI qr75s 114 ∧ gI qr75s 114 ≤ 100000 := hRqr75s.1 114; have : gI s63 114 = gI qr61s 114 := q_Ai es63; have : (0 : Int) ≤ gI qr66s 114 ∧ gI qr66s 114 ≤ 100000 := hRqr66s.1 114; have : (0 : Int) ≤ gI qr61s 114 ∧ gI qr61s 114 ≤ 100000 := hRqr61s.1 114; have : (0 : Int) ≤ gI s56 114 ∧ gI s56 114 ≤ 100000 := hRs56.1 114; have : (0 : Int) ≤ gI s 114 ∧ gI s 114 ≤ 100000 := hRs.1 114; omega) (fun y50 ey50 => ?_)
                      have by50 : (-2147483648 : Int) ≤ y50 ∧ y50 ≤ 2147483647 := ey50 ▸ hRs45.2.1 113 _ (by show _ < 785; have : gI s40 114 = gI qr38s 114 := q_Ai es40; have : (0 : Int) ≤ gI qr43s 114 ∧ gI qr43s 114 ≤ 100000 := hRqr43s.1 114; have : (0 : Int) ≤ gI qr38s 114 ∧ gI qr38s 114 ≤ 100000 := hRqr38s.1 114; have : (0 : Int) ≤ gI s7 114 ∧ gI s7 114 ≤ 100000 := hRs7.1 114; have : gI s77 114 = gI qr75s 114 := q_Ai es77; have : (0 : Int) ≤ gI qr80s 114 ∧ gI qr80s 114 ≤ 100000 := hRqr80s.1 114; have : gI s68 114 = gI qr66s 114 := q_Ai es68; have : (0 : Int) ≤ gI qr75s 114 ∧ gI qr75s 114 ≤ 100000 := hRqr75s.1 114; have : gI s63 114 = gI qr61s 114 := q_Ai es63; have : (0 : Int) ≤ gI qr66s 114 ∧ gI qr66s 114 ≤ 100000 := hRqr66s.1 114; have : (0 : Int) ≤ gI qr61s 114 ∧ gI qr61s 114 ≤ 100000 := hRqr61s.1 114; have : (0 : Int) ≤ gI s56 114 ∧ gI s56 114 ≤ 100000 := hRs56.1 114; have : (0 : Int) ≤ gI s 114 ∧ gI s 114 ≤ 100000 := hRs.1 114; omega)
                      have k50 : y50 = gA s7 113 (19 + 16 * p0.toNat) := by rw [← ey50, show (x5 + 2).toNat = 19 + 16 * p0.toNat by omega]; exact hg _ (by omega) (by omega)
                      have r50 := hv130_4.1.2.2
                      refine wp_rg (by have : gI s40 114 = gI qr38s 114 := q_Ai es40; have : (0 : Int) ≤ gI qr43s 114 ∧ gI qr43s 114 ≤ 100000 := hRqr43s.1 114; have : (0 : Int) ≤ gI qr38s 114 ∧ gI qr38s 114 ≤ 100000 := hRqr38s.1 114; have : (0 : Int) ≤ gI s7 114 ∧ gI s7 114 ≤ 100000 := hRs7.1 114; have : gI s77 114 = gI qr75s 114 := q_Ai es77; have : (0 : Int) ≤ gI qr80s 114 ∧ gI qr80s 114 ≤ 100000 := hRqr80s.1 114; have : gI s68 114 = gI qr66s 114 := q_Ai es68; have : (0 : Int) ≤ gI qr75s 114 ∧ gI qr75s 114 ≤ 100000 := hRqr75s.1 114; have : gI s63 114 = gI qr61s 114 := q_Ai es63; have : (0 : Int) ≤ gI qr66s 114 ∧ gI qr66s 114 ≤ 100000 := hRqr66s.1 114; have : (0 : Int) ≤ gI qr61s 114 ∧ gI qr61s 114 ≤ 100000 := hRqr61s.1 114; have : (0 : Int) ≤ gI s56 114 ∧ gI s56 114 ≤ 100000 := hRs56.1 114; have : (0 : Int) ≤ gI s 114 ∧ gI s 114 ≤ 100000 := hRs.1 114; omega) ?_
                      refine wp_if (fun c9 => ?_) (fun c9 => ?_)
                      · skip
                        unfold m_x12_isLaidBlock_J202
                        refine wp_rdIn (by have : gI s40 114 = gI qr38s 114 := q_Ai es40; have : (0 : Int) ≤ gI qr43s 114 ∧ gI qr43s 114 ≤ 100000 := hRqr43s.1 114; have : (0 : Int) ≤ gI qr38s 114 ∧ gI qr38s 114 ≤ 100000 := hRqr38s.1 114; have : (0 : Int) ≤ gI s7 114 ∧ gI s7 114 ≤ 100000 := hRs7.1 114; have : gI s77 114 = gI qr75s 114 := q_Ai es77; have : (0 : Int) ≤ gI qr80s 114 ∧ gI qr80s 114 ≤ 100000 := hRqr80s.1 114; have : gI s68 114 = gI qr66s 114 := q_Ai es68; have : (0 : Int) ≤ gI qr75s 114 ∧ gI qr75s 114 ≤ 100000 := hRqr75s.1 114; have : gI s63 114 = gI qr61s 114 := q_Ai es63; have : (0 : Int) ≤ gI qr66s 114 ∧ gI qr66s 114 ≤ 100000 := hRqr66s.1 114; have : (0 : Int) ≤ gI qr61s 114 ∧ gI qr61s 114 ≤ 100000 := hRqr61s.1 114; have : (0 : Int) ≤ gI s56 114 ∧ gI s56 114 ≤ 100000 := hRs56.1 114; have : (0 : Int) ≤ gI s 114 ∧ gI s 114 ≤ 100000 := hRs.1 114; omega) (fun y24 ey24 => ?_)
                        have by24 : (-2147483648 : Int) ≤ y24 ∧ y24 ≤ 2147483647 := ey24 ▸ hRs45.2.1 113 _ (by show _ < 785; have : gI s40 114 = gI qr38s 114 := q_Ai es40; have : (0 : Int) ≤ gI qr43s 114 ∧ gI qr43s 114 ≤ 100000 := hRqr43s.1 114; have : (0 : Int) ≤ gI qr38s 114 ∧ gI qr38s 114 ≤ 100000 := hRqr38s.1 114; have : (0 : Int) ≤ gI s7 114 ∧ gI s7 114 ≤ 100000 := hRs7.1 114; have : gI s77 114 = gI qr75s 114 := q_Ai es77; have : (0 : Int) ≤ gI qr80s 114 ∧ gI qr80s 114 ≤ 100000 := hRqr80s.1 114; have : gI s68 114 = gI qr66s 114 := q_Ai es68; have : (0 : Int) ≤ gI qr75s 114 ∧ gI qr75s 114 ≤ 100000 := hRqr75s.1 114; have : gI s63 114 = gI qr61s 114 := q_Ai es63; have : (0 : Int) ≤ gI qr66s 114 ∧ gI qr66s 114 ≤ 100000 := hRqr66s.1 114; have : (0 : Int) ≤ gI qr61s 114 ∧ gI qr61s 114 ≤ 100000 := hRqr61s.1 114; have : (0 : Int) ≤ gI s56 114 ∧ gI s56 114 ≤ 100000 := hRs56.1 114; have : (0 : Int) ≤ gI s 114 ∧ gI s 114 ≤ 100000 := hRs.1 114; omega)
                        have k24 : y24 = gA s7 113 (20 + 16 * p0.toNat + x6.toNat) := by rw [← ey24, show (x5 + 3 + x6).toNat = 20 + 16 * p0.toNat + x6.toNat by omega]; exact hg _ (by omega) (by omega)
                        have r24 := hv130_5.2.1 (x6.toNat - 1) (by omega)
                        rw [show 21 + 16 * p0.toNat + (x6.toNat - 1) = 20 + 16 * p0.toNat + x6.toNat by omega, ← k24] at r24
                        unfold m_x12_isLaidBlock_J215
                        refine wp_rdIn (by have : gI s40 114 = gI qr38s 114 := q_Ai es40; have : (0 : Int) ≤ gI qr43s 114 ∧ gI qr43s 114 ≤ 100000 := hRqr43s.1 114; have : (0 : Int) ≤ gI qr38s 114 ∧ gI qr38s 114 ≤ 100000 := hRqr38s.1 114; have : (0 : Int) ≤ gI s7 114 ∧ gI s7 114 ≤ 100000 := hRs7.1 114; have : gI s77 114 = gI qr75s 114 := q_Ai es77; have : (0 : Int) ≤ gI qr80s 114 ∧ gI qr80s 114 ≤ 100000 := hRqr80s.1 114; have : gI s68 114 = gI qr66s 114 := q_Ai es68; have : (0 : Int) ≤ gI qr75s 114 ∧ gI qr75s 114 ≤ 100000 := hRqr75s.1 114; have : gI s63 114 = gI qr61s 114 := q_Ai es63; have : (0 : Int) ≤ gI qr66s 114 ∧ gI qr66s 114 ≤ 100000 := hRqr66s.1 114; have : (0 : Int) ≤ gI qr61s 114 ∧ gI qr61s 114 ≤ 100000 := hRqr61s.1 114; have : (0 : Int) ≤ gI s56 114 ∧ gI s56 114 ≤ 100000 := hRs56.1 114; have : (0 : Int) ≤ gI s 114 ∧ gI s 114 ≤ 100000 := hRs.1 114; omega) (fun y13 ey13 => ?_)
                        have by13 : (-2147483648 : Int) ≤ y13 ∧ y13 ≤ 2147483647 := ey13 ▸ hRs45.2.1 113 _ (by show _ < 785; have : gI s40 114 = gI qr38s 114 := q_Ai es40; have : (0 : Int) ≤ gI qr43s 114 ∧ gI qr43s 114 ≤ 100000 := hRqr43s.1 114; have : (0 : Int) ≤ gI qr38s 114 ∧ gI qr38s 114 ≤ 100000 := hRqr38s.1 114; have : (0 : Int) ≤ gI s7 114 ∧ gI s7 114 ≤ 100000 := hRs7.1 114; have : gI s77 114 = gI qr75s 114 := q_Ai es77; have : (0 : Int) ≤ gI qr80s 114 ∧ gI qr80s 114 ≤ 100000 := hRqr80s.1 114; have : gI s68 114 = gI qr66s 114 := q_Ai es68; have : (0 : Int) ≤ gI qr75s 114 ∧ gI qr75s 114 ≤ 100000 := hRqr75s.1 114; have : gI s63 114 = gI qr61s 114 := q_Ai es63; have : (0 : Int) ≤ gI qr66s 114 ∧ gI qr66s 114 ≤ 100000 := hRqr66s.1 114; have : (0 : Int) ≤ gI qr61s 114 ∧ gI qr61s 114 ≤ 100000 := hRqr61s.1 114; have : (0 : Int) ≤ gI s56 114 ∧ gI s56 114 ≤ 100000 := hRs56.1 114; have : (0 : Int) ≤ gI s 114 ∧ gI s 114 ≤ 100000 := hRs.1 114; omega)
                        have k13 : y13 = qr38r := by rw [← ey13, show (x5 + 4 + x6).toNat = 21 + 16 * p0.toNat + x6.toNat by omega]; exact v21
                        refine wp_rg (by have : gI s40 114 = gI qr38s 114 := q_Ai es40; have : (0 : Int) ≤ gI qr43s 114 ∧ gI qr43s 114 ≤ 100000 := hRqr43s.1 114; have : (0 : Int) ≤ gI qr38s 114 ∧ gI qr38s 114 ≤ 100000 := hRqr38s.1 114; have : (0 : Int) ≤ gI s7 114 ∧ gI s7 114 ≤ 100000 := hRs7.1 114; have : gI s77 114 = gI qr75s 114 := q_Ai es77; have : (0 : Int) ≤ gI qr80s 114 ∧ gI qr80s 114 ≤ 100000 := hRqr80s.1 114; have : gI s68 114 = gI qr66s 114 := q_Ai es68; have : (0 : Int) ≤ gI qr75s 114 ∧ gI qr75s 114 ≤ 100000 := hRqr75s.1 114; have : gI s63 114 = gI qr61s 114 := q_Ai es63; have : (0 : Int) ≤ gI qr66s 114 ∧ gI qr66s 114 ≤ 100000 := hRqr66s.1 114; have : (0 : Int) ≤ gI qr61s 114 ∧ gI qr61s 114 ≤ 100000 := hRqr61s.1 114; have : (0 : Int) ≤ gI s56 114 ∧ gI s56 114 ≤ 100000 := hRs56.1 114; have : (0 : Int) ≤ gI s 114 ∧ gI s 114 ≤ 100000 := hRs.1 114; omega) ?_
                        refine wp_rg (by have : gI s40 114 = gI qr38s 114 := q_Ai es40; have : (0 : Int) ≤ gI qr43s 114 ∧ gI qr43s 114 ≤ 100000 := hRqr43s.1 114; have : (0 : Int) ≤ gI qr38s 114 ∧ gI qr38s 114 ≤ 100000 := hRqr38s.1 114; have : (0 : Int) ≤ gI s7 114 ∧ gI s7 114 ≤ 100000 := hRs7.1 114; have : gI s77 114 = gI qr75s 114 := q_Ai es77; have : (0 : Int) ≤ gI qr80s 114 ∧ gI qr80s 114 ≤ 100000 := hRqr80s.1 114; have : gI s68 114 = gI qr66s 114 := q_Ai es68; have : (0 : Int) ≤ gI qr75s 114 ∧ gI qr75s 114 ≤ 100000 := hRqr75s.1 114; have : gI s63 114 = gI qr61s 114 := q_Ai es63; have : (0 : Int) ≤ gI qr66s 114 ∧ gI qr66s 114 ≤ 100000 := hRqr66s.1 114; have : (0 : Int) ≤ gI qr61s 114 ∧ gI qr61s 114 ≤ 100000 := hRqr61s.1 114; have : (0 : Int) ≤ gI s56 114 ∧ gI s56 114 ≤ 100000 := hRs56.1 114; have : (0 : Int) ≤ gI s 114 ∧ gI s 114 ≤ 100000 := hRs.1 114; omega) ?_
                        refine wp_bn (w_x12_isIn hRs45 (by show R8 y13; have : gI s40 114 = gI qr38s 114 := q_Ai es40; have : (0 : Int) ≤ gI qr43s 114 ∧ gI qr43s 114 ≤ 100000 := hRqr43s.1 114; have : (0 : Int) ≤ gI qr38s 114 ∧ gI qr38s 114 ≤ 100000 := hRqr38s.1 114; have : (0 : Int) ≤ gI s7 114 ∧ gI s7 114 ≤ 100000 := hRs7.1 114; have : gI s77 114 = gI qr75s 114 := q_Ai es77; have : (0 : Int) ≤ gI qr80s 114 ∧ gI qr80s 114 ≤ 100000 := hRqr80s.1 114; have : gI s68 114 = gI qr66s 114 := q_Ai es68; have : (0 : Int) ≤ gI qr75s 114 ∧ gI qr75s 114 ≤ 100000 := hRqr75s.1 114; have : gI s63 114 = gI qr61s 114 := q_Ai es63; have : (0 : Int) ≤ gI qr66s 114 ∧ gI qr66s 114 ≤ 100000 := hRqr66s.1 114; have : (0 : Int) ≤ gI qr61s 114 ∧ gI qr61s 114 ≤ 100000 := hRqr61s.1 114; have : (0 : Int) ≤ gI s56 114 ∧ gI s56 114 ≤ 100000 := hRs56.1 114; have : (0 : Int) ≤ gI s 114 ∧ gI s 114 ≤ 100000 := hRs.1 114; omega) (by show R8 (y24 + 1); have : gI s40 114 = gI qr38s 114 := q_Ai es40; have : (0 : Int) ≤ gI qr43s 114 ∧ gI qr43s 114 ≤ 100000 := hRqr43s.1 114; have : (0 : Int) ≤ gI qr38s 114 ∧ gI qr38s 114 ≤ 100000 := hRqr38s.1 114; have : (0 : Int) ≤ gI s7 114 ∧ gI s7 114 ≤ 100000 := hRs7.1 114; have : gI s77 114 = gI qr75s 114 := q_Ai es77; have : (0 : Int) ≤ gI qr80s 114 ∧ gI qr80s 114 ≤ 100000 := hRqr80s.1 114; have : gI s68 114 = gI qr66s 114 := q_Ai es68; have : (0 : Int) ≤ gI qr75s 114 ∧ gI qr75s 114 ≤ 100000 := hRqr75s.1 114; have : gI s63 114 = gI qr61s 114 := q_Ai es63; have : (0 : Int) ≤ gI qr66s 114 ∧ gI qr66s 114 ≤ 100000 := hRqr66s.1 114; have : (0 : Int) ≤ gI qr61s 114 ∧ gI qr61s 114 ≤ 100000 := hRqr61s.1 114; have : (0 : Int) ≤ gI s56 114 ∧ gI s56 114 ≤ 100000 := hRs56.1 114; have : (0 : Int) ≤ gI s 114 ∧ gI s 114 ≤ 100000 := hRs.1 114; omega) (by show R8 (999 : Int); have : gI s40 114 = gI qr38s 114 := q_Ai es40; have : (0 : Int) ≤ gI qr43s 114 ∧ gI qr43s 114 ≤ 100000 := hRqr43s.1 114; have : (0 : Int) ≤ gI qr38s 114 ∧ gI qr38s 114 ≤ 100000 := hRqr38s.1 114; have : (0 : Int) ≤ gI s7 114 ∧ gI s7 114 ≤ 100000 := hRs7.1 114; have : gI s77 114 = gI qr75s 114 := q_Ai es77; have : (0 : Int) ≤ gI qr80s 114 ∧ gI qr80s 114 ≤ 100000 := hRqr80s.1 114; have : gI s68 114 = gI qr66s 114 := q_Ai es68; have : (0 : Int) ≤ gI qr75s 114 ∧ gI qr75s 114 ≤ 100000 := hRqr75s.1 114; have : gI s63 114 = gI qr61s 114 := q_Ai es63; have : (0 : Int) ≤ gI qr66s 114 ∧ gI qr66s 114 ≤ 100000 := hRqr66s.1 114; have : (0 : Int) ≤ gI qr61s 114 ∧ gI qr61s 114 ≤ 100000 := hRqr61s.1 114; have : (0 : Int) ≤ gI s56 114 ∧ gI s56 114 ≤ 100000 := hRs56.1 114; have : (0 : Int) ≤ gI s 114 ∧ gI s 114 ≤ 100000 := hRs.1 114; omega)) (fun r17 er17 hr17 => ?_)
                        have hr17_0 := hr17
                        have hr17_0 : (r17 = 1 ∧ (y24 + 1) ≤ y13 ∧ y13 ≤ (999 : Int)) ∨ (r17 = 0 ∧ (y13 < (y24 + 1) ∨ (999 : Int) < y13)) := hr17_0
                        refine wp_rg (by have : gI s40 114 = gI qr38s 114 := q_Ai es40; have : (0 : Int) ≤ gI qr43s 114 ∧ gI qr43s 114 ≤ 100000 := hRqr43s.1 114; have : (0 : Int) ≤ gI qr38s 114 ∧ gI qr38s 114 ≤ 100000 := hRqr38s.1 114; have : (0 : Int) ≤ gI s7 114 ∧ gI s7 114 ≤ 100000 := hRs7.1 114; have : gI s77 114 = gI qr75s 114 := q_Ai es77; have : (0 : Int) ≤ gI qr80s 114 ∧ gI qr80s 114 ≤ 100000 := hRqr80s.1 114; have : gI s68 114 = gI qr66s 114 := q_Ai es68; have : (0 : Int) ≤ gI qr75s 114 ∧ gI qr75s 114 ≤ 100000 := hRqr75s.1 114; have : gI s63 114 = gI qr61s 114 := q_Ai es63; have : (0 : Int) ≤ gI qr66s 114 ∧ gI qr66s 114 ≤ 100000 := hRqr66s.1 114; have : (0 : Int) ≤ gI qr61s 114 ∧ gI qr61s 114 ≤ 100000 := hRqr61s.1 114; have : (0 : Int) ≤ gI s56 114 ∧ gI s56 114 ≤ 100000 := hRs56.1 114; have : (0 : Int) ≤ gI s 114 ∧ gI s 114 ≤ 100000 := hRs.1 114; omega) ?_
                        refine wp_if (fun c10 => ?_) (fun c10 => ?_)
                        · skip
                          exact wp_some ⟨hRs45, by show (0 : Int) = 0 ∨ (0 : Int) = 1; have : gI s40 114 = gI qr38s 114 := q_Ai es40; have : (0 : Int) ≤ gI qr43s 114 ∧ gI qr43s 114 ≤ 100000 := hRqr43s.1 114; have : (0 : Int) ≤ gI qr38s 114 ∧ gI qr38s 114 ≤ 100000 := hRqr38s.1 114; have : (0 : Int) ≤ gI s7 114 ∧ gI s7 114 ≤ 100000 := hRs7.1 114; have : gI s77 114 = gI qr75s 114 := q_Ai es77; have : (0 : Int) ≤ gI qr80s 114 ∧ gI qr80s 114 ≤ 100000 := hRqr80s.1 114; have : gI s68 114 = gI qr66s 114 := q_Ai es68; have : (0 : Int) ≤ gI qr75s 114 ∧ gI qr75s 114 ≤ 100000 := hRqr75s.1 114; have : gI s63 114 = gI qr61s 114 := q_Ai es63; have : (0 : Int) ≤ gI qr66s 114 ∧ gI qr66s 114 ≤ 100000 := hRqr66s.1 114; have : (0 : Int) ≤ gI qr61s 114 ∧ gI qr61s 114 ≤ 100000 := hRqr61s.1 114; have : (0 : Int) ≤ gI s56 114 ∧ gI s56 114 ≤ 100000 := hRs56.1 114; have : (0 : Int) ≤ gI s 114 ∧ gI s 114 ≤ 100000 := hRs.1 114; omega, by show XO s s45 p0.toNat; exact (Xs45), by show gI s 114 ≤ gI s45 114 ∧ gI s45 114 ≤ gI s 114 + 28; have : gI s40 114 = gI qr38s 114 := q_Ai es40; have : (0 : Int) ≤ gI qr43s 114 ∧ gI qr43s 114 ≤ 100000 := hRqr43s.1 114; have : (0 : Int) ≤ gI qr38s 114 ∧ gI qr38s 114 ≤ 100000 := hRqr38s.1 114; have : (0 : Int) ≤ gI s7 114 ∧ gI s7 114 ≤ 100000 := hRs7.1 114; have : gI s77 114 = gI qr75s 114 := q_Ai es77; have : (0 : Int) ≤ gI qr80s 114 ∧ gI qr80s 114 ≤ 100000 := hRqr80s.1 114; have : gI s68 114 = gI qr66s 114 := q_Ai es68; have : (0 : Int) ≤ gI qr75s 114 ∧ gI qr75s 114 ≤ 100000 := hRqr75s.1 114; have : gI s63 114 = gI qr61s 114 := q_Ai es63; have : (0 : Int) ≤ gI qr66s 114 ∧ gI qr66s 114 ≤ 100000 := hRqr66s.1 114; have : (0 : Int) ≤ gI qr61s 114 ∧ gI qr61s 114 ≤ 100000 := hRqr61s.1 114; have : (0 : Int) ≤ gI s56 114 ∧ gI s56 114 ≤ 100000 := hRs56.1 114; have : gI s45 114 = gI qr43s 114 := q_Ai es45; have : (0 : Int) ≤ gI s 114 ∧ gI s 114 ≤ 100000 := hRs.1 114; omega, by show (0 : Int) = 1 → gI s45 114 ≤ p1 → LB_r (gA s45 113) (gA s 39 6) p0.toNat; exact (fun h8 => absurd h8 (by decide))⟩
                        · skip
                          exact ih130 x4 x5 (x6 + 1) s45 hRs45 (by show x4 = p1 ∧ x5 = 17 + 16 * p0; have : gI s40 114 = gI qr38s 114 := q_Ai es40; have : (0 : Int) ≤ gI qr43s 114 ∧ gI qr43s 114 ≤ 100000 := hRqr43s.1 114; have : (0 : Int) ≤ gI qr38s 114 ∧ gI qr38s 114 ≤ 100000 := hRqr38s.1 114; have : (0 : Int) ≤ gI s7 114 ∧ gI s7 114 ≤ 100000 := hRs7.1 114; have : gI s77 114 = gI qr75s 114 := q_Ai es77; have : (0 : Int) ≤ gI qr80s 114 ∧ gI qr80s 114 ≤ 100000 := hRqr80s.1 114; have : gI s68 114 = gI qr66s 114 := q_Ai es68; have : (0 : Int) ≤ gI qr75s 114 ∧ gI qr75s 114 ≤ 100000 := hRqr75s.1 114; have : gI s63 114 = gI qr61s 114 := q_Ai es63; have : (0 : Int) ≤ gI qr66s 114 ∧ gI qr66s 114 ≤ 100000 := hRqr66s.1 114; have : (0 : Int) ≤ gI qr61s 114 ∧ gI qr61s 114 ≤ 100000 := hRqr61s.1 114; have : (0 : Int) ≤ gI s56 114 ∧ gI s56 114 ≤ 100000 := hRs56.1 114; have : (0 : Int) ≤ gI s 114 ∧ gI s 114 ≤ 100000 := hRs.1 114; omega) (by rw [z20]; omega) (⟨by omega, e45⟩) (Xs45) (LH_x hv130_4 (fun w => by omega) (fun j h1 h2 => hg j (by omega) (by omega))) (LK_add hv130_5 (by omega) hg (fun w => by omega) (by rw [v27]; exact ⟨by omega, by omega, fun w => hqr43s_2 (by omega)⟩) (by rw [v21]; omega) (fun h1 h2 => by first | (exfalso; omega) | (rw [v21, ← k24]; omega))) (by have : gI s40 114 = gI qr38s 114 := q_Ai es40; have : (0 : Int) ≤ gI qr43s 114 ∧ gI qr43s 114 ≤ 100000 := hRqr43s.1 114; have : (0 : Int) ≤ gI qr38s 114 ∧ gI qr38s 114 ≤ 100000 := hRqr38s.1 114; have : (0 : Int) ≤ gI s7 114 ∧ gI s7 114 ≤ 100000 := hRs7.1 114; have : gI s77 114 = gI qr75s 114 := q_Ai es77; have : (0 : Int) ≤ gI qr80s 114 ∧ gI qr80s 114 ≤ 100000 := hRqr80s.1 114; have : gI s68 114 = gI qr66s 114 := q_Ai es68; have : (0 : Int) ≤ gI qr75s 114 ∧ gI qr75s 114 ≤ 100000 := hRqr75s.1 114; have : gI s63 114 = gI qr61s 114 := q_Ai es63; have : (0 : Int) ≤ gI qr66s 114 ∧ gI qr66s 114 ≤ 100000 := hRqr66s.1 114; have : (0 : Int) ≤ gI qr61s 114 ∧ gI qr61s 114 ≤ 100000 := hRqr61s.1 114; have : (0 : Int) ≤ gI s56 114 ∧ gI s56 114 ≤ 100000 := hRs56.1 114; have : (0 : Int) ≤ gI s 114 ∧ gI s 114 ≤ 100000 := hRs.1 114; omega)
                      · skip
                        unfold m_x12_isLaidBlock_J198
                        unfold m_x12_isLaidBlock_J215
                        refine wp_rdIn (by have : gI s40 114 = gI qr38s 114 := q_Ai es40; have : (0 : Int) ≤ gI qr43s 114 ∧ gI qr43s 114 ≤ 100000 := hRqr43s.1 114; have : (0 : Int) ≤ gI qr38s 114 ∧ gI qr38s 114 ≤ 100000 := hRqr38s.1 114; have : (0 : Int) ≤ gI s7 114 ∧ gI s7 114 ≤ 100000 := hRs7.1 114; have : gI s77 114 = gI qr75s 114 := q_Ai es77; have : (0 : Int) ≤ gI qr80s 114 ∧ gI qr80s 114 ≤ 100000 := hRqr80s.1 114; have : gI s68 114 = gI qr66s 114 := q_Ai es68; have : (0 : Int) ≤ gI qr75s 114 ∧ gI qr75s 114 ≤ 100000 := hRqr75s.1 114; have : gI s63 114 = gI qr61s 114 := q_Ai es63; have : (0 : Int) ≤ gI qr66s 114 ∧ gI qr66s 114 ≤ 100000 := hRqr66s.1 114; have : (0 : Int) ≤ gI qr61s 114 ∧ gI qr61s 114 ≤ 100000 := hRqr61s.1 114; have : (0 : Int) ≤ gI s56 114 ∧ gI s56 114 ≤ 100000 := hRs56.1 114; have : (0 : Int) ≤ gI s 114 ∧ gI s 114 ≤ 100000 := hRs.1 114; omega) (fun y13 ey13 => ?_)
                        have by13 : (-2147483648 : Int) ≤ y13 ∧ y13 ≤ 2147483647 := ey13 ▸ hRs45.2.1 113 _ (by show _ < 785; have : gI s40 114 = gI qr38s 114 := q_Ai es40; have : (0 : Int) ≤ gI qr43s 114 ∧ gI qr43s 114 ≤ 100000 := hRqr43s.1 114; have : (0 : Int) ≤ gI qr38s 114 ∧ gI qr38s 114 ≤ 100000 := hRqr38s.1 114; have : (0 : Int) ≤ gI s7 114 ∧ gI s7 114 ≤ 100000 := hRs7.1 114; have : gI s77 114 = gI qr75s 114 := q_Ai es77; have : (0 : Int) ≤ gI qr80s 114 ∧ gI qr80s 114 ≤ 100000 := hRqr80s.1 114; have : gI s68 114 = gI qr66s 114 := q_Ai es68; have : (0 : Int) ≤ gI qr75s 114 ∧ gI qr75s 114 ≤ 100000 := hRqr75s.1 114; have : gI s63 114 = gI qr61s 114 := q_Ai es63; have : (0 : Int) ≤ gI qr66s 114 ∧ gI qr66s 114 ≤ 100000 := hRqr66s.1 114; have : (0 : Int) ≤ gI qr61s 114 ∧ gI qr61s 114 ≤ 100000 := hRqr61s.1 114; have : (0 : Int) ≤ gI s56 114 ∧ gI s56 114 ≤ 100000 := hRs56.1 114; have : (0 : Int) ≤ gI s 114 ∧ gI s 114 ≤ 100000 := hRs.1 114; omega)
                        have k13 : y13 = qr38r := by rw [← ey13, show (x5 + 4 + x6).toNat = 21 + 16 * p0.toNat + x6.toNat by omega]; exact v21
                        refine wp_rg (by have : gI s40 114 = gI qr38s 114 := q_Ai es40; have : (0 : Int) ≤ gI qr43s 114 ∧ gI qr43s 114 ≤ 100000 := hRqr43s.1 114; have : (0 : Int) ≤ gI qr38s 114 ∧ gI qr38s 114 ≤ 100000 := hRqr38s.1 114; have : (0 : Int) ≤ gI s7 114 ∧ gI s7 114 ≤ 100000 := hRs7.1 114; have : gI s77 114 = gI qr75s 114 := q_Ai es77; have : (0 : Int) ≤ gI qr80s 114 ∧ gI qr80s 114 ≤ 100000 := hRqr80s.1 114; have : gI s68 114 = gI qr66s 114 := q_Ai es68; have : (0 : Int) ≤ gI qr75s 114 ∧ gI qr75s 114 ≤ 100000 := hRqr75s.1 114; have : gI s63 114 = gI qr61s 114 := q_Ai es63; have : (0 : Int) ≤ gI qr66s 114 ∧ gI qr66s 114 ≤ 100000 := hRqr66s.1 114; have : (0 : Int) ≤ gI qr61s 114 ∧ gI qr61s 114 ≤ 100000 := hRqr61s.1 114; have : (0 : Int) ≤ gI s56 114 ∧ gI s56 114 ≤ 100000 := hRs56.1 114; have : (0 : Int) ≤ gI s 114 ∧ gI s 114 ≤ 100000 := hRs.1 114; omega) ?_
                        refine wp_rg (by have : gI s40 114 = gI qr38s 114 := q_Ai es40; have : (0 : Int) ≤ gI qr43s 114 ∧ gI qr43s 114 ≤ 100000 := hRqr43s.1 114; have : (0 : Int) ≤ gI qr38s 114 ∧ gI qr38s 114 ≤ 100000 := hRqr38s.1 114; have : (0 : Int) ≤ gI s7 114 ∧ gI s7 114 ≤ 100000 := hRs7.1 114; have : gI s77 114 = gI qr75s 114 := q_Ai es77; have : (0 : Int) ≤ gI qr80s 114 ∧ gI qr80s 114 ≤ 100000 := hRqr80s.1 114; have : gI s68 114 = gI qr66s 114 := q_Ai es68; have : (0 : Int) ≤ gI qr75s 114 ∧ gI qr75s 114 ≤ 100000 := hRqr75s.1 114; have : gI s63 114 = gI qr61s 114 := q_Ai es63; have : (0 : Int) ≤ gI qr66s 114 ∧ gI qr66s 114 ≤ 100000 := hRqr66s.1 114; have : (0 : Int) ≤ gI qr61s 114 ∧ gI qr61s 114 ≤ 100000 := hRqr61s.1 114; have : (0 : Int) ≤ gI s56 114 ∧ gI s56 114 ≤ 100000 := hRs56.1 114; have : (0 : Int) ≤ gI s 114 ∧ gI s 114 ≤ 100000 := hRs.1 114; omega) ?_
                        refine wp_bn (w_x12_isIn hRs45 (by show R8 y13; have : gI s40 114 = gI qr38s 114 := q_Ai es40; have : (0 : Int) ≤ gI qr43s 114 ∧ gI qr43s 114 ≤ 100000 := hRqr43s.1 114; have : (0 : Int) ≤ gI qr38s 114 ∧ gI qr38s 114 ≤ 100000 := hRqr38s.1 114; have : (0 : Int) ≤ gI s7 114 ∧ gI s7 114 ≤ 100000 := hRs7.1 114; have : gI s77 114 = gI qr75s 114 := q_Ai es77; have : (0 : Int) ≤ gI qr80s 114 ∧ gI qr80s 114 ≤ 100000 := hRqr80s.1 114; have : gI s68 114 = gI qr66s 114 := q_Ai es68; have : (0 : Int) ≤ gI qr75s 114 ∧ gI qr75s 114 ≤ 100000 := hRqr75s.1 114; have : gI s63 114 = gI qr61s 114 := q_Ai es63; have : (0 : Int) ≤ gI qr66s 114 ∧ gI qr66s 114 ≤ 100000 := hRqr66s.1 114; have : (0 : Int) ≤ gI qr61s 114 ∧ gI qr61s 114 ≤ 100000 := hRqr61s.1 114; have : (0 : Int) ≤ gI s56 114 ∧ gI s56 114 ≤ 100000 := hRs56.1 114; have : (0 : Int) ≤ gI s 114 ∧ gI s 114 ≤ 100000 := hRs.1 114; omega) (by show R8 (0 : Int); have : gI s40 114 = gI qr38s 114 := q_Ai es40; have : (0 : Int) ≤ gI qr43s 114 ∧ gI qr43s 114 ≤ 100000 := hRqr43s.1 114; have : (0 : Int) ≤ gI qr38s 114 ∧ gI qr38s 114 ≤ 100000 := hRqr38s.1 114; have : (0 : Int) ≤ gI s7 114 ∧ gI s7 114 ≤ 100000 := hRs7.1 114; have : gI s77 114 = gI qr75s 114 := q_Ai es77; have : (0 : Int) ≤ gI qr80s 114 ∧ gI qr80s 114 ≤ 100000 := hRqr80s.1 114; have : gI s68 114 = gI qr66s 114 := q_Ai es68; have : (0 : Int) ≤ gI qr75s 114 ∧ gI qr75s 114 ≤ 100000 := hRqr75s.1 114; have : gI s63 114 = gI qr61s 114 := q_Ai es63; have : (0 : Int) ≤ gI qr66s 114 ∧ gI qr66s 114 ≤ 100000 := hRqr66s.1 114; have : (0 : Int) ≤ gI qr61s 114 ∧ gI qr61s 114 ≤ 100000 := hRqr61s.1 114; have : (0 : Int) ≤ gI s56 114 ∧ gI s56 114 ≤ 100000 := hRs56.1 114; have : (0 : Int) ≤ gI s 114 ∧ gI s 114 ≤ 100000 := hRs.1 114; omega) (by show R8 (999 : Int); have : gI s40 114 = gI qr38s 114 := q_Ai es40; have : (0 : Int) ≤ gI qr43s 114 ∧ gI qr43s 114 ≤ 100000 := hRqr43s.1 114; have : (0 : Int) ≤ gI qr38s 114 ∧ gI qr38s 114 ≤ 100000 := hRqr38s.1 114; have : (0 : Int) ≤ gI s7 114 ∧ gI s7 114 ≤ 100000 := hRs7.1 114; have : gI s77 114 = gI qr75s 114 := q_Ai es77; have : (0 : Int) ≤ gI qr80s 114 ∧ gI qr80s 114 ≤ 100000 := hRqr80s.1 114; have : gI s68 114 = gI qr66s 114 := q_Ai es68; have : (0 : Int) ≤ gI qr75s 114 ∧ gI qr75s 114 ≤ 100000 := hRqr75s.1 114; have : gI s63 114 = gI qr61s 114 := q_Ai es63; have : (0 : Int) ≤ gI qr66s 114 ∧ gI qr66s 114 ≤ 100000 := hRqr66s.1 114; have : (0 : Int) ≤ gI qr61s 114 ∧ gI qr61s 114 ≤ 100000 := hRqr61s.1 114; have : (0 : Int) ≤ gI s56 114 ∧ gI s56 114 ≤ 100000 := hRs56.1 114; have : (0 : Int) ≤ gI s 114 ∧ gI s 114 ≤ 100000 := hRs.1 114; omega)) (fun r17 er17 hr17 => ?_)
                        have hr17_0 := hr17
                        have hr17_0 : (r17 = 1 ∧ (0 : Int) ≤ y13 ∧ y13 ≤ (999 : Int)) ∨ (r17 = 0 ∧ (y13 < (0 : Int) ∨ (999 : Int) < y13)) := hr17_0
                        refine wp_rg (by have : gI s40 114 = gI qr38s 114 := q_Ai es40; have : (0 : Int) ≤ gI qr43s 114 ∧ gI qr43s 114 ≤ 100000 := hRqr43s.1 114; have : (0 : Int) ≤ gI qr38s 114 ∧ gI qr38s 114 ≤ 100000 := hRqr38s.1 114; have : (0 : Int) ≤ gI s7 114 ∧ gI s7 114 ≤ 100000 := hRs7.1 114; have : gI s77 114 = gI qr75s 114 := q_Ai es77; have : (0 : Int) ≤ gI qr80s 114 ∧ gI qr80s 114 ≤ 100000 := hRqr80s.1 114; have : gI s68 114 = gI qr66s 114 := q_Ai es68; have : (0 : Int) ≤ gI qr75s 114 ∧ gI qr75s 114 ≤ 100000 := hRqr75s.1 114; have : gI s63 114 = gI qr61s 114 := q_Ai es63; have : (0 : Int) ≤ gI qr66s 114 ∧ gI qr66s 114 ≤ 100000 := hRqr66s.1 114; have : (0 : Int) ≤ gI qr61s 114 ∧ gI qr61s 114 ≤ 100000 := hRqr61s.1 114; have : (0 : Int) ≤ gI s56 114 ∧ gI s56 114 ≤ 100000 := hRs56.1 114; have : (0 : Int) ≤ gI s 114 ∧ gI s 114 ≤ 100000 := hRs.1 114; omega) ?_
                        refine wp_if (fun c11 => ?_) (fun c11 => ?_)
                        · skip
                          exact wp_some ⟨hRs45, by show (0 : Int) = 0 ∨ (0 : Int) = 1; have : gI s40 114 = gI qr38s 114 := q_Ai es40; have : (0 : Int) ≤ gI qr43s 114 ∧ gI qr43s 114 ≤ 100000 := hRqr43s.1 114; have : (0 : Int) ≤ gI qr38s 114 ∧ gI qr38s 114 ≤ 100000 := hRqr38s.1 114; have : (0 : Int) ≤ gI s7 114 ∧ gI s7 114 ≤ 100000 := hRs7.1 114; have : gI s77 114 = gI qr75s 114 := q_Ai es77; have : (0 : Int) ≤ gI qr80s 114 ∧ gI qr80s 114 ≤ 100000 := hRqr80s.1 114; have : gI s68 114 = gI qr66s 114 := q_Ai es68; have : (0 : Int) ≤ gI qr75s 114 ∧ gI qr75s 114 ≤ 100000 := hRqr75s.1 114; have : gI s63 114 = gI qr61s 114 := q_Ai es63; have : (0 : Int) ≤ gI qr66s 114 ∧ gI qr66s 114 ≤ 100000 := hRqr66s.1 114; have : (0 : Int) ≤ gI qr61s 114 ∧ gI qr61s 114 ≤ 100000 := hRqr61s.1 114; have : (0 : Int) ≤ gI s56 114 ∧ gI s56 114 ≤ 100000 := hRs56.1 114; have : (0 : Int) ≤ gI s 114 ∧ gI s 114 ≤ 100000 := hRs.1 114; omega, by show XO s s45 p0.toNat; exact (Xs45), by show gI s 114 ≤ gI s45 114 ∧ gI s45 114 ≤ gI s 114 + 28; have : gI s40 114 = gI qr38s 114 := q_Ai es40; have : (0 : Int) ≤ gI qr43s 114 ∧ gI qr43s 114 ≤ 100000 := hRqr43s.1 114; have : (0 : Int) ≤ gI qr38s 114 ∧ gI qr38s 114 ≤ 100000 := hRqr38s.1 114; have : (0 : Int) ≤ gI s7 114 ∧ gI s7 114 ≤ 100000 := hRs7.1 114; have : gI s77 114 = gI qr75s 114 := q_Ai es77; have : (0 : Int) ≤ gI qr80s 114 ∧ gI qr80s 114 ≤ 100000 := hRqr80s.1 114; have : gI s68 114 = gI qr66s 114 := q_Ai es68; have : (0 : Int) ≤ gI qr75s 114 ∧ gI qr75s 114 ≤ 100000 := hRqr75s.1 114; have : gI s63 114 = gI qr61s 114 := q_Ai es63; have : (0 : Int) ≤ gI qr66s 114 ∧ gI qr66s 114 ≤ 100000 := hRqr66s.1 114; have : (0 : Int) ≤ gI qr61s 114 ∧ gI qr61s 114 ≤ 100000 := hRqr61s.1 114; have : (0 : Int) ≤ gI s56 114 ∧ gI s56 114 ≤ 100000 := hRs56.1 114; have : gI s45 114 = gI qr43s 114 := q_Ai es45; have : (0 : Int) ≤ gI s 114 ∧ gI s 114 ≤ 100000 := hRs.1 114; omega, by show (0 : Int) = 1 → gI s45 114 ≤ p1 → LB_r (gA s45 113) (gA s 39 6) p0.toNat; exact (fun h8 => absurd h8 (by decide))⟩
                        · skip
                          exact ih130 x4 x5 (x6 + 1) s45 hRs45 (by show x4 = p1 ∧ x5 = 17 + 16 * p0; have : gI s40 114 = gI qr38s 114 := q_Ai es40; have : (0 : Int) ≤ gI qr43s 114 ∧ gI qr43s 114 ≤ 100000 := hRqr43s.1 114; have : (0 : Int) ≤ gI qr38s 114 ∧ gI qr38s 114 ≤ 100000 := hRqr38s.1 114; have : (0 : Int) ≤ gI s7 114 ∧ gI s7 114 ≤ 100000 := hRs7.1 114; have : gI s77 114 = gI qr75s 114 := q_Ai es77; have : (0 : Int) ≤ gI qr80s 114 ∧ gI qr80s 114 ≤ 100000 := hRqr80s.1 114; have : gI s68 114 = gI qr66s 114 := q_Ai es68; have : (0 : Int) ≤ gI qr75s 114 ∧ gI qr75s 114 ≤ 100000 := hRqr75s.1 114; have : gI s63 114 = gI qr61s 114 := q_Ai es63; have : (0 : Int) ≤ gI qr66s 114 ∧ gI qr66s 114 ≤ 100000 := hRqr66s.1 114; have : (0 : Int) ≤ gI qr61s 114 ∧ gI qr61s 114 ≤ 100000 := hRqr61s.1 114; have : (0 : Int) ≤ gI s56 114 ∧ gI s56 114 ≤ 100000 := hRs56.1 114; have : (0 : Int) ≤ gI s 114 ∧ gI s 114 ≤ 100000 := hRs.1 114; omega) (by rw [z20]; omega) (⟨by omega, e45⟩) (Xs45) (LH_x hv130_4 (fun w => by omega) (fun j h1 h2 => hg j (by omega) (by omega))) (LK_add hv130_5 (by omega) hg (fun w => by omega) (by rw [v27]; exact ⟨by omega, by omega, fun w => hqr43s_2 (by omega)⟩) (by rw [v21]; omega) (fun h1 h2 => by first | (exfalso; omega) | (rw [v21, ← k24]; omega))) (by have : gI s40 114 = gI qr38s 114 := q_Ai es40; have : (0 : Int) ≤ gI qr43s 114 ∧ gI qr43s 114 ≤ 100000 := hRqr43s.1 114; have : (0 : Int) ≤ gI qr38s 114 ∧ gI qr38s 114 ≤ 100000 := hRqr38s.1 114; have : (0 : Int) ≤ gI s7 114 ∧ gI s7 114 ≤ 100000 := hRs7.1 114; have : gI s77 114 = gI qr75s 114 := q_Ai es77; have : (0 : Int) ≤ gI qr80s 114 ∧ gI qr80s 114 ≤ 100000 := hRqr80s.1 114; have : gI s68 114 = gI qr66s 114 := q_Ai es68; have : (0 : Int) ≤ gI qr75s 114 ∧ gI qr75s 114 ≤ 100000 := hRqr75s.1 114; have : gI s63 114 = gI qr61s 114 := q_Ai es63; have : (0 : Int) ≤ gI qr66s 114 ∧ gI qr66s 114 ≤ 100000 := hRqr66s.1 114; have : (0 : Int) ≤ gI qr61s 114 ∧ gI qr61s 114 ≤ 100000 := hRqr61s.1 114; have : (0 : Int) ≤ gI s56 114 ∧ gI s56 114 ≤ 100000 := hRs56.1 114; have : (0 : Int) ≤ gI s 114 ∧ gI s 114 ≤ 100000 := hRs.1 114; omega)
                    · skip
                      unfold m_x12_isLaidBlock_J202
                      refine wp_rdIn (by have : gI s40 114 = gI qr38s 114 := q_Ai es40; have : (0 : Int) ≤ gI qr43s 114 ∧ gI qr43s 114 ≤ 100000 := hRqr43s.1 114; have : (0 : Int) ≤ gI qr38s 114 ∧ gI qr38s 114 ≤ 100000 := hRqr38s.1 114; have : (0 : Int) ≤ gI s7 114 ∧ gI s7 114 ≤ 100000 := hRs7.1 114; have : gI s77 114 = gI qr75s 114 := q_Ai es77; have : (0 : Int) ≤ gI qr80s 114 ∧ gI qr80s 114 ≤ 100000 := hRqr80s.1 114; have : gI s68 114 = gI qr66s 114 := q_Ai es68; have : (0 : Int) ≤ gI qr75s 114 ∧ gI qr75s 114 ≤ 100000 := hRqr75s.1 114; have : gI s63 114 = gI qr61s 114 := q_Ai es63; have : (0 : Int) ≤ gI qr66s 114 ∧ gI qr66s 114 ≤ 100000 := hRqr66s.1 114; have : (0 : Int) ≤ gI qr61s 114 ∧ gI qr61s 114 ≤ 100000 := hRqr61s.1 114; have : (0 : Int) ≤ gI s56 114 ∧ gI s56 114 ≤ 100000 := hRs56.1 114; have : (0 : Int) ≤ gI s 114 ∧ gI s 114 ≤ 100000 := hRs.1 114; omega) (fun y24 ey24 => ?_)
                      have by24 : (-2147483648 : Int) ≤ y24 ∧ y24 ≤ 2147483647 := ey24 ▸ hRs45.2.1 113 _ (by show _ < 785; have : gI s40 114 = gI qr38s 114 := q_Ai es40; have : (0 : Int) ≤ gI qr43s 114 ∧ gI qr43s 114 ≤ 100000 := hRqr43s.1 114; have : (0 : Int) ≤ gI qr38s 114 ∧ gI qr38s 114 ≤ 100000 := hRqr38s.1 114; have : (0 : Int) ≤ gI s7 114 ∧ gI s7 114 ≤ 100000 := hRs7.1 114; have : gI s77 114 = gI qr75s 114 := q_Ai es77; have : (0 : Int) ≤ gI qr80s 114 ∧ gI qr80s 114 ≤ 100000 := hRqr80s.1 114; have : gI s68 114 = gI qr66s 114 := q_Ai es68; have : (0 : Int) ≤ gI qr75s 114 ∧ gI qr75s 114 ≤ 100000 := hRqr75s.1 114; have : gI s63 114 = gI qr61s 114 := q_Ai es63; have : (0 : Int) ≤ gI qr66s 114 ∧ gI qr66s 114 ≤ 100000 := hRqr66s.1 114; have : (0 : Int) ≤ gI qr61s 114 ∧ gI qr61s 114 ≤ 100000 := hRqr61s.1 114; have : (0 : Int) ≤ gI s56 114 ∧ gI s56 114 ≤ 100000 := hRs56.1 114; have : (0 : Int) ≤ gI s 114 ∧ gI s 114 ≤ 100000 := hRs.1 114; omega)
                      have k24 : y24 = gA s7 113 (20 + 16 * p0.toNat + x6.toNat) := by rw [← ey24, show (x5 + 3 + x6).toNat = 20 + 16 * p0.toNat + x6.toNat by omega]; exact hg _ (by omega) (by omega)
                      have r24 := hv130_5.2.1 (x6.toNat - 1) (by omega)
                      rw [show 21 + 16 * p0.toNat + (x6.toNat - 1) = 20 + 16 * p0.toNat + x6.toNat by omega, ← k24] at r24
                      unfold m_x12_isLaidBlock_J215
                      refine wp_rdIn (by have : gI s40 114 = gI qr38s 114 := q_Ai es40; have : (0 : Int) ≤ gI qr43s 114 ∧ gI qr43s 114 ≤ 100000 := hRqr43s.1 114; have : (0 : Int) ≤ gI qr38s 114 ∧ gI qr38s 114 ≤ 100000 := hRqr38s.1 114; have : (0 : Int) ≤ gI s7 114 ∧ gI s7 114 ≤ 100000 := hRs7.1 114; have : gI s77 114 = gI qr75s 114 := q_Ai es77; have : (0 : Int) ≤ gI qr80s 114 ∧ gI qr80s 114 ≤ 100000 := hRqr80s.1 114; have : gI s68 114 = gI qr66s 114 := q_Ai es68; have : (0 : Int) ≤ gI qr75s 114 ∧ gI qr75s 114 ≤ 100000 := hRqr75s.1 114; have : gI s63 114 = gI qr61s 114 := q_Ai es63; have : (0 : Int) ≤ gI qr66s 114 ∧ gI qr66s 114 ≤ 100000 := hRqr66s.1 114; have : (0 : Int) ≤ gI qr61s 114 ∧ gI qr61s 114 ≤ 100000 := hRqr61s.1 114; have : (0 : Int) ≤ gI s56 114 ∧ gI s56 114 ≤ 100000 := hRs56.1 114; have : (0 : Int) ≤ gI s 114 ∧ gI s 114 ≤ 100000 := hRs.1 114; omega) (fun y13 ey13 => ?_)
                      have by13 : (-2147483648 : Int) ≤ y13 ∧ y13 ≤ 2147483647 := ey13 ▸ hRs45.2.1 113 _ (by show _ < 785; have : gI s40 114 = gI qr38s 114 := q_Ai es40; have : (0 : Int) ≤ gI qr43s 114 ∧ gI qr43s 114 ≤ 100000 := hRqr43s.1 114; have : (0 : Int) ≤ gI qr38s 114 ∧ gI qr38s 114 ≤ 100000 := hRqr38s.1 114; have : (0 : Int) ≤ gI s7 114 ∧ gI s7 114 ≤ 100000 := hRs7.1 114; have : gI s77 114 = gI qr75s 114 := q_Ai es77; have : (0 : Int) ≤ gI qr80s 114 ∧ gI qr80s 114 ≤ 100000 := hRqr80s.1 114; have : gI s68 114 = gI qr66s 114 := q_Ai es68; have : (0 : Int) ≤ gI qr75s 114 ∧ gI qr75s 114 ≤ 100000 := hRqr75s.1 114; have : gI s63 114 = gI qr61s 114 := q_Ai es63; have : (0 : Int) ≤ gI qr66s 114 ∧ gI qr66s 114 ≤ 100000 := hRqr66s.1 114; have : (0 : Int) ≤ gI qr61s 114 ∧ gI qr61s 114 ≤ 100000 := hRqr61s.1 114; have : (0 : Int) ≤ gI s56 114 ∧ gI s56 114 ≤ 100000 := hRs56.1 114; have : (0 : Int) ≤ gI s 114 ∧ gI s 114 ≤ 100000 := hRs.1 114; omega)
                      have k13 : y13 = qr38r := by rw [← ey13, show (x5 + 4 + x6).toNat = 21 + 16 * p0.toNat + x6.toNat by omega]; exact v21
                      refine wp_rg (by have : gI s40 114 = gI qr38s 114 := q_Ai es40; have : (0 : Int) ≤ gI qr43s 114 ∧ gI qr43s 114 ≤ 100000 := hRqr43s.1 114; have : (0 : Int) ≤ gI qr38s 114 ∧ gI qr38s 114 ≤ 100000 := hRqr38s.1 114; have : (0 : Int) ≤ gI s7 114 ∧ gI s7 114 ≤ 100000 := hRs7.1 114; have : gI s77 114 = gI qr75s 114 := q_Ai es77; have : (0 : Int) ≤ gI qr80s 114 ∧ gI qr80s 114 ≤ 100000 := hRqr80s.1 114; have : gI s68 114 = gI qr66s 114 := q_Ai es68; have : (0 : Int) ≤ gI qr75s 114 ∧ gI qr75s 114 ≤ 100000 := hRqr75s.1 114; have : gI s63 114 = gI qr61s 114 := q_Ai es63; have : (0 : Int) ≤ gI qr66s 114 ∧ gI qr66s 114 ≤ 100000 := hRqr66s.1 114; have : (0 : Int) ≤ gI qr61s 114 ∧ gI qr61s 114 ≤ 100000 := hRqr61s.1 114; have : (0 : Int) ≤ gI s56 114 ∧ gI s56 114 ≤ 100000 := hRs56.1 114; have : (0 : Int) ≤ gI s 114 ∧ gI s 114 ≤ 100000 := hRs.1 114; omega) ?_
                      refine wp_rg (by have : gI s40 114 = gI qr38s 114 := q_Ai es40; have : (0 : Int) ≤ gI qr43s 114 ∧ gI qr43s 114 ≤ 100000 := hRqr43s.1 114; have : (0 : Int) ≤ gI qr38s 114 ∧ gI qr38s 114 ≤ 100000 := hRqr38s.1 114; have : (0 : Int) ≤ gI s7 114 ∧ gI s7 114 ≤ 100000 := hRs7.1 114; have : gI s77 114 = gI qr75s 114 := q_Ai es77; have : (0 : Int) ≤ gI qr80s 114 ∧ gI qr80s 114 ≤ 100000 := hRqr80s.1 114; have : gI s68 114 = gI qr66s 114 := q_Ai es68; have : (0 : Int) ≤ gI qr75s 114 ∧ gI qr75s 114 ≤ 100000 := hRqr75s.1 114; have : gI s63 114 = gI qr61s 114 := q_Ai es63; have : (0 : Int) ≤ gI qr66s 114 ∧ gI qr66s 114 ≤ 100000 := hRqr66s.1 114; have : (0 : Int) ≤ gI qr61s 114 ∧ gI qr61s 114 ≤ 100000 := hRqr61s.1 114; have : (0 : Int) ≤ gI s56 114 ∧ gI s56 114 ≤ 100000 := hRs56.1 114; have : (0 : Int) ≤ gI s 114 ∧ gI s 114 ≤ 100000 := hRs.1 114; omega) ?_
                      refine wp_bn (w_x12_isIn hRs45 (by show R8 y13; have : gI s40 114 = gI qr38s 114 := q_Ai es40; have : (0 : Int) ≤ gI qr43s 114 ∧ gI qr43s 114 ≤ 100000 := hRqr43s.1 114; have : (0 : Int) ≤ gI qr38s 114 ∧ gI qr38s 114 ≤ 100000 := hRqr38s.1 114; have : (0 : Int) ≤ gI s7 114 ∧ gI s7 114 ≤ 100000 := hRs7.1 114; have : gI s77 114 = gI qr75s 114 := q_Ai es77; have : (0 : Int) ≤ gI qr80s 114 ∧ gI qr80s 114 ≤ 100000 := hRqr80s.1 114; have : gI s68 114 = gI qr66s 114 := q_Ai es68; have : (0 : Int) ≤ gI qr75s 114 ∧ gI qr75s 114 ≤ 100000 := hRqr75s.1 114; have : gI s63 114 = gI qr61s 114 := q_Ai es63; have : (0 : Int) ≤ gI qr66s 114 ∧ gI qr66s 114 ≤ 100000 := hRqr66s.1 114; have : (0 : Int) ≤ gI qr61s 114 ∧ gI qr61s 114 ≤ 100000 := hRqr61s.1 114; have : (0 : Int) ≤ gI s56 114 ∧ gI s56 114 ≤ 100000 := hRs56.1 114; have : (0 : Int) ≤ gI s 114 ∧ gI s 114 ≤ 100000 := hRs.1 114; omega) (by show R8 (y24 + 1); have : gI s40 114 = gI qr38s 114 := q_Ai es40; have : (0 : Int) ≤ gI qr43s 114 ∧ gI qr43s 114 ≤ 100000 := hRqr43s.1 114; have : (0 : Int) ≤ gI qr38s 114 ∧ gI qr38s 114 ≤ 100000 := hRqr38s.1 114; have : (0 : Int) ≤ gI s7 114 ∧ gI s7 114 ≤ 100000 := hRs7.1 114; have : gI s77 114 = gI qr75s 114 := q_Ai es77; have : (0 : Int) ≤ gI qr80s 114 ∧ gI qr80s 114 ≤ 100000 := hRqr80s.1 114; have : gI s68 114 = gI qr66s 114 := q_Ai es68; have : (0 : Int) ≤ gI qr75s 114 ∧ gI qr75s 114 ≤ 100000 := hRqr75s.1 114; have : gI s63 114 = gI qr61s 114 := q_Ai es63; have : (0 : Int) ≤ gI qr66s 114 ∧ gI qr66s 114 ≤ 100000 := hRqr66s.1 114; have : (0 : Int) ≤ gI qr61s 114 ∧ gI qr61s 114 ≤ 100000 := hRqr61s.1 114; have : (0 : Int) ≤ gI s56 114 ∧ gI s56 114 ≤ 100000 := hRs56.1 114; have : (0 : Int) ≤ gI s 114 ∧ gI s 114 ≤ 100000 := hRs.1 114; omega) (by show R8 (999 : Int); have : gI s40 114 = gI qr38s 114 := q_Ai es40; have : (0 : Int) ≤ gI qr43s 114 ∧ gI qr43s 114 ≤ 100000 := hRqr43s.1 114; have : (0 : Int) ≤ gI qr38s 114 ∧ gI qr38s 114 ≤ 100000 := hRqr38s.1 114; have : (0 : Int) ≤ gI s7 114 ∧ gI s7 114 ≤ 100000 := hRs7.1 114; have : gI s77 114 = gI qr75s 114 := q_Ai es77; have : (0 : Int) ≤ gI qr80s 114 ∧ gI qr80s 114 ≤ 100000 := hRqr80s.1 114; have : gI s68 114 = gI qr66s 114 := q_Ai es68; have : (0 : Int) ≤ gI qr75s 114 ∧ gI qr75s 114 ≤ 100000 := hRqr75s.1 114; have : gI s63 114 = gI qr61s 114 := q_Ai es63; have : (0 : Int) ≤ gI qr66s 114 ∧ gI qr66s 114 ≤ 100000 := hRqr66s.1 114; have : (0 : Int) ≤ gI qr61s 114 ∧ gI qr61s 114 ≤ 100000 := hRqr61s.1 114; have : (0 : Int) ≤ gI s56 114 ∧ gI s56 114 ≤ 100000 := hRs56.1 114; have : (0 : Int) ≤ gI s 114 ∧ gI s 114 ≤ 100000 := hRs.1 114; omega)) (fun r17 er17 hr17 => ?_)
                      have hr17_0 := hr17
                      have hr17_0 : (r17 = 1 ∧ (y24 + 1) ≤ y13 ∧ y13 ≤ (999 : Int)) ∨ (r17 = 0 ∧ (y13 < (y24 + 1) ∨ (999 : Int) < y13)) := hr17_0
                      refine wp_rg (by have : gI s40 114 = gI qr38s 114 := q_Ai es40; have : (0 : Int) ≤ gI qr43s 114 ∧ gI qr43s 114 ≤ 100000 := hRqr43s.1 114; have : (0 : Int) ≤ gI qr38s 114 ∧ gI qr38s 114 ≤ 100000 := hRqr38s.1 114; have : (0 : Int) ≤ gI s7 114 ∧ gI s7 114 ≤ 100000 := hRs7.1 114; have : gI s77 114 = gI qr75s 114 := q_Ai es77; have : (0 : Int) ≤ gI qr80s 114 ∧ gI qr80s 114 ≤ 100000 := hRqr80s.1 114; have : gI s68 114 = gI qr66s 114 := q_Ai es68; have : (0 : Int) ≤ gI qr75s 114 ∧ gI qr75s 114 ≤ 100000 := hRqr75s.1 114; have : gI s63 114 = gI qr61s 114 := q_Ai es63; have : (0 : Int) ≤ gI qr66s 114 ∧ gI qr66s 114 ≤ 100000 := hRqr66s.1 114; have : (0 : Int) ≤ gI qr61s 114 ∧ gI qr61s 114 ≤ 100000 := hRqr61s.1 114; have : (0 : Int) ≤ gI s56 114 ∧ gI s56 114 ≤ 100000 := hRs56.1 114; have : (0 : Int) ≤ gI s 114 ∧ gI s 114 ≤ 100000 := hRs.1 114; omega) ?_
                      refine wp_if (fun c12 => ?_) (fun c12 => ?_)
                      · skip
                        exact wp_some ⟨hRs45, by show (0 : Int) = 0 ∨ (0 : Int) = 1; have : gI s40 114 = gI qr38s 114 := q_Ai es40; have : (0 : Int) ≤ gI qr43s 114 ∧ gI qr43s 114 ≤ 100000 := hRqr43s.1 114; have : (0 : Int) ≤ gI qr38s 114 ∧ gI qr38s 114 ≤ 100000 := hRqr38s.1 114; have : (0 : Int) ≤ gI s7 114 ∧ gI s7 114 ≤ 100000 := hRs7.1 114; have : gI s77 114 = gI qr75s 114 := q_Ai es77; have : (0 : Int) ≤ gI qr80s 114 ∧ gI qr80s 114 ≤ 100000 := hRqr80s.1 114; have : gI s68 114 = gI qr66s 114 := q_Ai es68; have : (0 : Int) ≤ gI qr75s 114 ∧ gI qr75s 114 ≤ 100000 := hRqr75s.1 114; have : gI s63 114 = gI qr61s 114 := q_Ai es63; have : (0 : Int) ≤ gI qr66s 114 ∧ gI qr66s 114 ≤ 100000 := hRqr66s.1 114; have : (0 : Int) ≤ gI qr61s 114 ∧ gI qr61s 114 ≤ 100000 := hRqr61s.1 114; have : (0 : Int) ≤ gI s56 114 ∧ gI s56 114 ≤ 100000 := hRs56.1 114; have : (0 : Int) ≤ gI s 114 ∧ gI s 114 ≤ 100000 := hRs.1 114; omega, by show XO s s45 p0.toNat; exact (Xs45), by show gI s 114 ≤ gI s45 114 ∧ gI s45 114 ≤ gI s 114 + 28; have : gI s40 114 = gI qr38s 114 := q_Ai es40; have : (0 : Int) ≤ gI qr43s 114 ∧ gI qr43s 114 ≤ 100000 := hRqr43s.1 114; have : (0 : Int) ≤ gI qr38s 114 ∧ gI qr38s 114 ≤ 100000 := hRqr38s.1 114; have : (0 : Int) ≤ gI s7 114 ∧ gI s7 114 ≤ 100000 := hRs7.1 114; have : gI s77 114 = gI qr75s 114 := q_Ai es77; have : (0 : Int) ≤ gI qr80s 114 ∧ gI qr80s 114 ≤ 100000 := hRqr80s.1 114; have : gI s68 114 = gI qr66s 114 := q_Ai es68; have : (0 : Int) ≤ gI qr75s 114 ∧ gI qr75s 114 ≤ 100000 := hRqr75s.1 114; have : gI s63 114 = gI qr61s 114 := q_Ai es63; have : (0 : Int) ≤ gI qr66s 114 ∧ gI qr66s 114 ≤ 100000 := hRqr66s.1 114; have : (0 : Int) ≤ gI qr61s 114 ∧ gI qr61s 114 ≤ 100000 := hRqr61s.1 114; have : (0 : Int) ≤ gI s56 114 ∧ gI s56 114 ≤ 100000 := hRs56.1 114; have : gI s45 114 = gI qr43s 114 := q_Ai es45; have : (0 : Int) ≤ gI s 114 ∧ gI s 114 ≤ 100000 := hRs.1 114; omega, by show (0 : Int) = 1 → gI s45 114 ≤ p1 → LB_r (gA s45 113) (gA s 39 6) p0.toNat; exact (fun h8 => absurd h8 (by decide))⟩
                      · skip
                        exact ih130 x4 x5 (x6 + 1) s45 hRs45 (by show x4 = p1 ∧ x5 = 17 + 16 * p0; have : gI s40 114 = gI qr38s 114 := q_Ai es40; have : (0 : Int) ≤ gI qr43s 114 ∧ gI qr43s 114 ≤ 100000 := hRqr43s.1 114; have : (0 : Int) ≤ gI qr38s 114 ∧ gI qr38s 114 ≤ 100000 := hRqr38s.1 114; have : (0 : Int) ≤ gI s7 114 ∧ gI s7 114 ≤ 100000 := hRs7.1 114; have : gI s77 114 = gI qr75s 114 := q_Ai es77; have : (0 : Int) ≤ gI qr80s 114 ∧ gI qr80s 114 ≤ 100000 := hRqr80s.1 114; have : gI s68 114 = gI qr66s 114 := q_Ai es68; have : (0 : Int) ≤ gI qr75s 114 ∧ gI qr75s 114 ≤ 100000 := hRqr75s.1 114; have : gI s63 114 = gI qr61s 114 := q_Ai es63; have : (0 : Int) ≤ gI qr66s 114 ∧ gI qr66s 114 ≤ 100000 := hRqr66s.1 114; have : (0 : Int) ≤ gI qr61s 114 ∧ gI qr61s 114 ≤ 100000 := hRqr61s.1 114; have : (0 : Int) ≤ gI s56 114 ∧ gI s56 114 ≤ 100000 := hRs56.1 114; have : (0 : Int) ≤ gI s 114 ∧ gI s 114 ≤ 100000 := hRs.1 114; omega) (by rw [z20]; omega) (⟨by omega, e45⟩) (Xs45) (LH_x hv130_4 (fun w => by omega) (fun j h1 h2 => hg j (by omega) (by omega))) (LK_add hv130_5 (by omega) hg (fun w => by omega) (by rw [v27]; exact ⟨by omega, by omega, fun w => hqr43s_2 (by omega)⟩) (by rw [v21]; omega) (fun h1 h2 => by first | (exfalso; omega) | (rw [v21, ← k24]; omega))) (by have : gI s40 114 = gI qr38s 114 := q_Ai es40; have : (0 : Int) ≤ gI qr43s 114 ∧ gI qr43s 114 ≤ 100000 := hRqr43s.1 114; have : (0 : Int) ≤ gI qr38s 114 ∧ gI qr38s 114 ≤ 100000 := hRqr38s.1 114; have : (0 : Int) ≤ gI s7 114 ∧ gI s7 114 ≤ 100000 := hRs7.1 114; have : gI s77 114 = gI qr75s 114 := q_Ai es77; have : (0 : Int) ≤ gI qr80s 114 ∧ gI qr80s 114 ≤ 100000 := hRqr80s.1 114; have : gI s68 114 = gI qr66s 114 := q_Ai es68; have : (0 : Int) ≤ gI qr75s 114 ∧ gI qr75s 114 ≤ 100000 := hRqr75s.1 114; have : gI s63 114 = gI qr61s 114 := q_Ai es63; have : (0 : Int) ≤ gI qr66s 114 ∧ gI qr66s 114 ≤ 100000 := hRqr66s.1 114; have : (0 : Int) ≤ gI qr61s 114 ∧ gI qr61s 114 ≤ 100000 := hRqr61s.1 114; have : (0 : Int) ≤ gI s56 114 ∧ gI s56 114 ≤ 100000 := hRs56.1 114; have : (0 : Int) ≤ gI s 114 ∧ gI s 114 ≤ 100000 := hRs.1 114; omega)
            exact L130 FU x53 x54 0 s82 hRs82 (by show x53 = p1 ∧ x54 = 17 + 16 * p0; have : gI s77 114 = gI qr75s 114 := q_Ai es77; have : (0 : Int) ≤ gI qr80s 114 ∧ gI qr80s 114 ≤ 100000 := hRqr80s.1 114; have : gI s68 114 = gI qr66s 114 := q_Ai es68; have : (0 : Int) ≤ gI qr75s 114 ∧ gI qr75s 114 ≤ 100000 := hRqr75s.1 114; have : gI s63 114 = gI qr61s 114 := q_Ai es63; have : (0 : Int) ≤ gI qr66s 114 ∧ gI qr66s 114 ≤ 100000 := hRqr66s.1 114; have : (0 : Int) ≤ gI qr61s 114 ∧ gI qr61s 114 ≤ 100000 := hRqr61s.1 114; have : (0 : Int) ≤ gI s56 114 ∧ gI s56 114 ≤ 100000 := hRs56.1 114; have : (0 : Int) ≤ gI s 114 ∧ gI s 114 ≤ 100000 := hRs.1 114; omega) (by rw [v20]; omega) (⟨by omega, e82⟩) (Xs82) (by
      unfold LH
      rw [v17, v18, v19, v20]
      exact ⟨by omega, by omega, fun w => ⟨hqr61s_2 (by omega), hqr66s_2 (by omega), hqr75s_2 (by omega)⟩⟩) (⟨fun k h => absurd h (by omega), fun k h => absurd h (by omega), fun k h => absurd h (by omega)⟩) (by have := FU_big; have := FU_big2; have : gI s77 114 = gI qr75s 114 := q_Ai es77; have : (0 : Int) ≤ gI qr80s 114 ∧ gI qr80s 114 ≤ 100000 := hRqr80s.1 114; have : gI s68 114 = gI qr66s 114 := q_Ai es68; have : (0 : Int) ≤ gI qr75s 114 ∧ gI qr75s 114 ≤ 100000 := hRqr75s.1 114; have : gI s63 114 = gI qr61s 114 := q_Ai es63; have : (0 : Int) ≤ gI qr66s 114 ∧ gI qr66s 114 ≤ 100000 := hRqr66s.1 114; have : (0 : Int) ≤ gI qr61s 114 ∧ gI qr61s 114 ≤ 100000 := hRqr61s.1 114; have : (0 : Int) ≤ gI s56 114 ∧ gI s56 114 ≤ 100000 := hRs56.1 114; have : (0 : Int) ≤ gI s 114 ∧ gI s 114 ≤ 100000 := hRs.1 114; omega)
      · skip
        refine wp_inb (by have : (0 : Int) ≤ gI s56 114 ∧ gI s56 114 ≤ 100000 := hRs56.1 114; have : (0 : Int) ≤ gI s 114 ∧ gI s 114 ≤ 100000 := hRs.1 114; omega) ?_
        refine wp_stn (fun s93 es93 => ?_)
        have hRs93 : Rr s93 := es93 ▸ Rr.uAu hRs56 (by show (-2147483648 : Int) ≤ (0 : Int) ∧ (0 : Int) ≤ 2147483647; have : (0 : Int) ≤ gI s56 114 ∧ gI s56 114 ≤ 100000 := hRs56.1 114; have : (0 : Int) ≤ gI s 114 ∧ gI s 114 ≤ 100000 := hRs.1 114; omega)
        have ks93 : gA s93 113 = upZ (gA s56 113) (17 + 16 * p0.toNat + x55.toNat) 0 := by rw [(q_AA es93 : gA s93 113 = _), show (x54 + x55).toNat = 17 + 16 * p0.toNat + x55.toNat by omega]
        have Xs93 : XO s s93 p0.toNat := XO_u Xs56 ks93 (by omega)
        exact ih11 x53 x54 (x55 + 1) s93 hRs93 (by show x53 = p1 ∧ x54 = 17 + 16 * p0; have : (0 : Int) ≤ gI s56 114 ∧ gI s56 114 ≤ 100000 := hRs56.1 114; have : (0 : Int) ≤ gI s 114 ∧ gI s 114 ≤ 100000 := hRs.1 114; omega) (by show 0 ≤ (x55 + 1) ∧ (x55 + 1) ≤ 16; have : (0 : Int) ≤ gI s56 114 ∧ gI s56 114 ≤ 100000 := hRs56.1 114; have : (0 : Int) ≤ gI s 114 ∧ gI s 114 ≤ 100000 := hRs.1 114; omega) (⟨((q_Ai es93 : gI s93 114 = gI s56 114)).trans hv11_2.1, ((q_Aa es93 (by decide) : gA s93 39 = gA s56 39)).trans hv11_2.2⟩) (Xs93) (fun i hi => by
      rw [ks93]
      by_cases z : i = x55.toNat
      · rw [z, upZ_s]
      · rw [upZ_n (by omega)]; exact hv11_4 i (by omega)) (by have : (0 : Int) ≤ gI s56 114 ∧ gI s56 114 ≤ 100000 := hRs56.1 114; have : (0 : Int) ≤ gI s 114 ∧ gI s 114 ≤ 100000 := hRs.1 114; omega)
  exact L11 FU p1 (17 + (16 * p0)) 0 s hRs (by show p1 = p1 ∧ (17 + (16 * p0)) = 17 + 16 * p0; have : (0 : Int) ≤ gI s 114 ∧ gI s 114 ≤ 100000 := hRs.1 114; omega) (by show 0 ≤ (0 : Int) ∧ (0 : Int) ≤ 16; have : (0 : Int) ≤ gI s 114 ∧ gI s 114 ≤ 100000 := hRs.1 114; omega) (⟨rfl, rfl⟩) (fun _ _ => rfl) (fun i hi => absurd hi (by omega)) (by have := FU_big; have := FU_big2; have : (0 : Int) ≤ gI s 114 ∧ gI s 114 ≤ 100000 := hRs.1 114; omega)
/-! ===== on: all is laid ===== -/
theorem LB_x {f g : Nat → Int} {E : Int} {b : Nat} (H : LB_r f E b) (hE : E ≤ 6) (e : ∀ j, 17 + 16 * b ≤ j → j < 33 + 16 * b → g j = f j) : LB_r g E b := by
  obtain ⟨a, h⟩ := H
  unfold LB_r
  rw [e (17 + 16 * b) (by omega) (by omega), e (18 + 16 * b) (by omega) (by omega), e (19 + 16 * b) (by omega) (by omega), e (20 + 16 * b) (by omega) (by omega)]
  refine ⟨a, ?_⟩
  rcases h with ⟨h1, h2⟩ | ⟨h1, h2, h3, h4, h5, h6⟩
  · exact Or.inl ⟨h1, fun i a b => by rw [e _ (by omega) (by omega)]; exact h2 i a b⟩
  · exact Or.inr ⟨h1, h2, h3, fun k hk => by rw [e _ (by omega) (by omega)]; exact h4 k hk, fun k hk => by rw [e _ (by omega) (by omega)]; exact h5 k hk, fun k hk w => by rw [e _ (by omega) (by omega), e _ (by omega) (by omega)]; exact h6 k hk w⟩
theorem LB_z {f : Nat → Int} {E : Int} {b : Nat} (h : ∀ i, i < 16 → f (17 + 16 * b + i) = 0) : LB_r f E b := by
  have h0 := h 0 (by omega)
  have h1 := h 1 (by omega)
  rw [show 17 + 16 * b + 0 = 17 + 16 * b by omega] at h0
  rw [show 17 + 16 * b + 1 = 18 + 16 * b by omega] at h1
  exact ⟨⟨by omega, by omega⟩, Or.inl ⟨by omega, fun i _ hi => h i hi⟩⟩
/-- roots and cost as an image lays them -/
def LR (f : Nat → Int) (n : Int) (P : Prop) : Prop := (0 ≤ f 16 ∧ f 16 ≤ 999999) ∧ ∀ u : Nat, (u : Int) < n → ((-1) ≤ f u ∧ f u ≤ 255 ∧ (P → 0 ≤ f u)) ∧ ((-1) ≤ f (8 + u) ∧ f (8 + u) ≤ 255 ∧ (P → 0 ≤ f (8 + u)))
theorem LR_x {f g : Nat → Int} {n : Int} {P Q : Prop} (H : LR f n P) (hn : n ≤ 8) (h : Q → P) (e : ∀ j, j < 17 → g j = f j) : LR g n Q := by
  refine ⟨by rw [e 16 (by omega)]; exact H.1, fun u hu => ?_⟩
  have q := H.2 u hu
  rw [e u (by omega), e (8 + u) (by omega)]
  exact ⟨⟨q.1.1, q.1.2.1, fun w => q.1.2.2 (h w)⟩, q.2.1, q.2.2.1, fun w => q.2.2.2 (h w)⟩
/-- blocks past the last one aren't there -/
def LZ (s S : MS) (n : Int) : Prop := ∀ b : Nat, gA s 39 5 ≤ (b : Int) → (b : Int) < n → gA S 113 (17 + 16 * b) = 0 ∧ gA S 113 (18 + 16 * b) = 0
def LA (s S : MS) (n : Int) (e : Int) : Prop := ∀ b : Nat, (b : Int) < n → gI S 114 ≤ e → LB_r (gA S 113) (gA s 39 6) b
set_option maxHeartbeats 2000000 in
theorem w_x12_isLaid {p0 : Int} {s : MS} (hRs : Rr s) (hp0 : 0 ≤ p0 ∧ p0 ≤ 1599) (hp1 : 0 ≤ gA s 39 5 ∧ gA s 39 5 ≤ 48) (hp2 : 3 ≤ gA s 39 6 ∧ gA s 39 6 ≤ 6) : wp (m_x12_isLaid p0 s) (fun q => (Rr q.2) ∧ (q.1 = 0 ∨ (q.1 = 1 ∧ LBs q.2 ∧ (0 ≤ gA q.2 113 16 ∧ gA q.2 113 16 ≤ 999999) ∧ (∀ u, u < 16 → 0 ≤ gA q.2 113 u ∧ gA q.2 113 u ≤ 255) ∧ ∀ b : Nat, b < 48 → gA q.2 39 5 ≤ (b : Int) → gA q.2 113 (17 + 16 * b) = 0 ∧ gA q.2 113 (18 + 16 * b) = 0))) := by
  unfold m_x12_isLaid
  refine wp_stn (fun s51 es51 => ?_)
  have hRs51 : Rr s51 := es51 ▸ Rr.uI hRs (by show (0 : Int) ≤ (0 : Int) ∧ (0 : Int) ≤ 100000; omega)
  have i51 : gI s51 114 = 0 := q_II es51
  refine wp_bn (w_x12_byteRead hRs51 (by show 0 ≤ p0 ∧ p0 ≤ 1599; omega) (by show gI s51 114 ≤ 90000; have : gI s51 114 = 0 := q_II es51; omega)) (fun qqr54 eqr54s hqr54s => ?_)
  obtain ⟨qr54r, qr54s⟩ := qqr54
  dsimp only at eqr54s hqr54s ⊢
  have Fqr54s : F_x12_byteRead s51 qr54s := fr_x12_byteRead eqr54s
  obtain ⟨hRqr54s, hqr54s_0, hqr54s_1, hqr54s_2⟩ := hqr54s
  have hqr54s_0 : (-1) ≤ qr54r ∧ qr54r ≤ 255 := hqr54s_0
  have hqr54s_1 : gI qr54s 114 = gI s51 114 + 1 := hqr54s_1
  have hqr54s_2 : gI qr54s 114 ≤ p0 → 0 ≤ qr54r := hqr54s_2
  refine wp_bn (w_x12_twoRead hRqr54s (by show 0 ≤ p0 ∧ p0 ≤ 1599; have : gI s51 114 = 0 := q_II es51; have : (0 : Int) ≤ gI qr54s 114 ∧ gI qr54s 114 ≤ 100000 := hRqr54s.1 114; omega) (by show gI qr54s 114 ≤ 80000; have : gI s51 114 = 0 := q_II es51; have : (0 : Int) ≤ gI qr54s 114 ∧ gI qr54s 114 ≤ 100000 := hRqr54s.1 114; omega)) (fun qqr57 eqr57s hqr57s => ?_)
  obtain ⟨qr57r, qr57s⟩ := qqr57
  dsimp only at eqr57s hqr57s ⊢
  have Fqr57s : F_x12_twoRead qr54s qr57s := fr_x12_twoRead eqr57s
  obtain ⟨hRqr57s, hqr57s_0, hqr57s_1, hqr57s_2⟩ := hqr57s
  have hqr57s_0 : (-1) ≤ qr57r ∧ qr57r ≤ 65535 := hqr57s_0
  have hqr57s_1 : gI qr57s 114 = gI qr54s 114 + 2 := hqr57s_1
  have hqr57s_2 : gI qr57s 114 ≤ p0 → 0 ≤ qr57r := hqr57s_2
  refine wp_inb (by have : (0 : Int) ≤ gI qr57s 114 ∧ gI qr57s 114 ≤ 100000 := hRqr57s.1 114; have : gI s51 114 = 0 := q_II es51; have : (0 : Int) ≤ gI qr54s 114 ∧ gI qr54s 114 ≤ 100000 := hRqr54s.1 114; omega) ?_
  refine wp_stn (fun s59 es59 => ?_)
  have hRs59 : Rr s59 := es59 ▸ Rr.uAu hRqr57s (by show (-2147483648 : Int) ≤ ((65536 * qr54r) + qr57r) ∧ ((65536 * qr54r) + qr57r) ≤ 2147483647; have : (0 : Int) ≤ gI qr57s 114 ∧ gI qr57s 114 ≤ 100000 := hRqr57s.1 114; have : gI s51 114 = 0 := q_II es51; have : (0 : Int) ≤ gI qr54s 114 ∧ gI qr54s 114 ≤ 100000 := hRqr54s.1 114; omega)
  have k59 : gA s59 113 = upZ (gA qr57s 113) 16 (65536 * qr54r + qr57r) := q_AA es59
  have i59 : gI s59 114 = gI qr57s 114 := (q_Ai es59 : gI s59 114 = gI qr57s 114)
  refine wp_rg (by have : (0 : Int) ≤ gI qr57s 114 ∧ gI qr57s 114 ≤ 100000 := hRqr57s.1 114; have : gI s51 114 = 0 := q_II es51; have : (0 : Int) ≤ gI qr54s 114 ∧ gI qr54s 114 ≤ 100000 := hRqr54s.1 114; omega) ?_
  refine wp_if (fun c1 => ?_) (fun c1 => ?_)
  · skip
    unfold m_x12_isLaid_J54
    exact wp_some ⟨hRs59, by show (0 : Int) = 0 ∨ ((0 : Int) = 1 ∧ LBs s59 ∧ (0 ≤ gA s59 113 16 ∧ gA s59 113 16 ≤ 999999) ∧ (∀ u, u < 16 → 0 ≤ gA s59 113 u ∧ gA s59 113 u ≤ 255) ∧ ∀ b : Nat, b < 48 → gA s59 39 5 ≤ (b : Int) → gA s59 113 (17 + 16 * b) = 0 ∧ gA s59 113 (18 + 16 * b) = 0); first | exact Or.inl rfl | exact Or.inr ⟨rfl, ⟨by rw [hv135_2]; omega, by rw [hv135_2]; omega, fun b hb => by rw [hv135_2]; exact hv135_4 b (by omega) (by omega)⟩, hv135_3.1, fun u hu => (by
      by_cases z : u < 8
      · have q := hv135_3.2 u (by omega)
        exact ⟨q.1.2.2 (by omega), q.1.2.1⟩
      · have q := hv135_3.2 (u - 8) (by omega)
        rw [show 8 + (u - 8) = u by omega] at q
        exact ⟨q.2.2.2 (by omega), q.2.2.1⟩), fun b hb h9 => hv135_5 b (by rw [hv135_2] at h9; exact h9) (by omega)⟩⟩
  · skip
    refine wp_rg (by have : (0 : Int) ≤ gI qr57s 114 ∧ gI qr57s 114 ≤ 100000 := hRqr57s.1 114; have : gI s51 114 = 0 := q_II es51; have : (0 : Int) ≤ gI qr54s 114 ∧ gI qr54s 114 ≤ 100000 := hRqr54s.1 114; omega) ?_
    refine wp_if (fun c2 => ?_) (fun c2 => ?_)
    · skip
      unfold m_x12_isLaid_J54
      exact wp_some ⟨hRs59, by show (0 : Int) = 0 ∨ ((0 : Int) = 1 ∧ LBs s59 ∧ (0 ≤ gA s59 113 16 ∧ gA s59 113 16 ≤ 999999) ∧ (∀ u, u < 16 → 0 ≤ gA s59 113 u ∧ gA s59 113 u ≤ 255) ∧ ∀ b : Nat, b < 48 → gA s59 39 5 ≤ (b : Int) → gA s59 113 (17 + 16 * b) = 0 ∧ gA s59 113 (18 + 16 * b) = 0); first | exact Or.inl rfl | exact Or.inr ⟨rfl, ⟨by rw [hv135_2]; omega, by rw [hv135_2]; omega, fun b hb => by rw [hv135_2]; exact hv135_4 b (by omega) (by omega)⟩, hv135_3.1, fun u hu => (by
      by_cases z : u < 8
      · have q := hv135_3.2 u (by omega)
        exact ⟨q.1.2.2 (by omega), q.1.2.1⟩
      · have q := hv135_3.2 (u - 8) (by omega)
        rw [show 8 + (u - 8) = u by omega] at q
        exact ⟨q.2.2.2 (by omega), q.2.2.1⟩), fun b hb h9 => hv135_5 b (by rw [hv135_2] at h9; exact h9) (by omega)⟩⟩
    · skip
      refine wp_rdIn (by have : (0 : Int) ≤ gI qr57s 114 ∧ gI qr57s 114 ≤ 100000 := hRqr57s.1 114; have : gI s51 114 = 0 := q_II es51; have : (0 : Int) ≤ gI qr54s 114 ∧ gI qr54s 114 ≤ 100000 := hRqr54s.1 114; omega) (fun y64 ey64 => ?_)
      have by64 : (-2147483648 : Int) ≤ y64 ∧ y64 ≤ 2147483647 := ey64 ▸ hRs59.2.1 113 _ (by show _ < 785; have : (0 : Int) ≤ gI qr57s 114 ∧ gI qr57s 114 ≤ 100000 := hRqr57s.1 114; have : gI s51 114 = 0 := q_II es51; have : (0 : Int) ≤ gI qr54s 114 ∧ gI qr54s 114 ≤ 100000 := hRqr54s.1 114; omega)
      have k64 : y64 = 65536 * qr54r + qr57r := by rw [← ey64, k59]; exact upZ_s _ _ _
      refine wp_rg (by have : (0 : Int) ≤ gI qr57s 114 ∧ gI qr57s 114 ≤ 100000 := hRqr57s.1 114; have : gI s51 114 = 0 := q_II es51; have : (0 : Int) ≤ gI qr54s 114 ∧ gI qr54s 114 ≤ 100000 := hRqr54s.1 114; omega) ?_
      refine wp_if (fun c3 => ?_) (fun c3 => ?_)
      · skip
        have L59 : ∀ (n : Nat) (x35 : Int) (x36 : Int) (s37 : MS), Rr s37 → (x35 = p0) → (0 ≤ x36 ∧ x36 ≤ 8) → (gI s37 114 = 3 + 2 * x36 ∧ gA s37 39 = gA s 39) → (LR (gA s37 113) x36 (gI s37 114 ≤ p0)) → (8 - x36) < (n : Int) → wp (m_x12_isLaid_L59 n x35 x36 s37) (fun q => (Rr q.2) ∧ (q.1 = 0 ∨ (q.1 = 1 ∧ LBs q.2 ∧ (0 ≤ gA q.2 113 16 ∧ gA q.2 113 16 ≤ 999999) ∧ (∀ u, u < 16 → 0 ≤ gA q.2 113 u ∧ gA q.2 113 u ≤ 255) ∧ ∀ b : Nat, b < 48 → gA q.2 39 5 ≤ (b : Int) → gA q.2 113 (17 + 16 * b) = 0 ∧ gA q.2 113 (18 + 16 * b) = 0))) := by
          refine fr_ind (fun x35 x36 s37 hRs37 hv59_0 hv59_1 hv59_2 hv59_3 hm59 => ?_) (fun n59 ih59 x35 x36 s37 hRs37 hv59_0 hv59_1 hv59_2 hv59_3 hm59 => ?_)
          · exfalso; have : (0 : Int) ≤ gI s37 114 ∧ gI s37 114 ≤ 100000 := hRs37.1 114; omega
          · show wp (m_x12_isLaid_b59 (m_x12_isLaid_L59 n59) x35 x36 s37) _
            unfold m_x12_isLaid_b59
            refine wp_rg (by have : (0 : Int) ≤ gI s37 114 ∧ gI s37 114 ≤ 100000 := hRs37.1 114; have : (0 : Int) ≤ gI qr57s 114 ∧ gI qr57s 114 ≤ 100000 := hRqr57s.1 114; have : gI s51 114 = 0 := q_II es51; have : (0 : Int) ≤ gI qr54s 114 ∧ gI qr54s 114 ≤ 100000 := hRqr54s.1 114; omega) ?_
            refine wp_if (fun c4 => ?_) (fun c4 => ?_)
            · skip
              have L102 : ∀ (n : Nat) (x20 : Int) (x21 : Int) (s22 : MS), Rr s22 → (x20 = p0) → (0 ≤ x21 ∧ x21 ≤ gA s 39 5) → ((0 ≤ gI s22 114 ∧ gI s22 114 ≤ 19 + 28 * x21) ∧ gA s22 39 = gA s 39) → (LR (gA s22 113) 8 (gI s22 114 ≤ p0)) → (LA s s22 x21 p0) → (48 - x21) < (n : Int) → wp (m_x12_isLaid_L102 n x20 x21 s22) (fun q => (Rr q.2) ∧ (q.1 = 0 ∨ (q.1 = 1 ∧ LBs q.2 ∧ (0 ≤ gA q.2 113 16 ∧ gA q.2 113 16 ≤ 999999) ∧ (∀ u, u < 16 → 0 ≤ gA q.2 113 u ∧ gA q.2 113 u ≤ 255) ∧ ∀ b : Nat, b < 48 → gA q.2 39 5 ≤ (b : Int) → gA q.2 113 (17 + 16 * b) = 0 ∧ gA q.2 113 (18 + 16 * b) = 0))) := by
                refine fr_ind (fun x20 x21 s22 hRs22 hv102_0 hv102_1 hv102_2 hv102_3 hv102_4 hm102 => ?_) (fun n102 ih102 x20 x21 s22 hRs22 hv102_0 hv102_1 hv102_2 hv102_3 hv102_4 hm102 => ?_)
                · exfalso; have : (0 : Int) ≤ gI s22 114 ∧ gI s22 114 ≤ 100000 := hRs22.1 114; omega
                · show wp (m_x12_isLaid_b102 (m_x12_isLaid_L102 n102) x20 x21 s22) _
                  unfold m_x12_isLaid_b102
                  have e5 : gA s22 39 5 = gA s 39 5 := by rw [hv102_2.2]
                  have e6 : gA s22 39 6 = gA s 39 6 := by rw [hv102_2.2]
                  refine wp_bn (w_x12_blockMany hRs22) (fun r24 er24 hr24 => ?_)
                  have hr24_0 := hr24
                  have hr24_0 : r24 = gA s22 39 5 := hr24_0
                  refine wp_rg (by have : (0 : Int) ≤ gI s22 114 ∧ gI s22 114 ≤ 100000 := hRs22.1 114; have : (0 : Int) ≤ gI s37 114 ∧ gI s37 114 ≤ 100000 := hRs37.1 114; have : (0 : Int) ≤ gI qr57s 114 ∧ gI qr57s 114 ≤ 100000 := hRqr57s.1 114; have : gI s51 114 = 0 := q_II es51; have : (0 : Int) ≤ gI qr54s 114 ∧ gI qr54s 114 ≤ 100000 := hRqr54s.1 114; omega) ?_
                  refine wp_rg (by have : (0 : Int) ≤ gI s22 114 ∧ gI s22 114 ≤ 100000 := hRs22.1 114; have : (0 : Int) ≤ gI s37 114 ∧ gI s37 114 ≤ 100000 := hRs37.1 114; have : (0 : Int) ≤ gI qr57s 114 ∧ gI qr57s 114 ≤ 100000 := hRqr57s.1 114; have : gI s51 114 = 0 := q_II es51; have : (0 : Int) ≤ gI qr54s 114 ∧ gI qr54s 114 ≤ 100000 := hRqr54s.1 114; omega) ?_
                  refine wp_if (fun c5 => ?_) (fun c5 => ?_)
                  · skip
                    refine wp_bn (w_x12_blockMany hRs22) (fun r29 er29 hr29 => ?_)
                    have hr29_0 := hr29
                    have hr29_0 : r29 = gA s22 39 5 := hr29_0
                    have L135 : ∀ (n : Nat) (x4 : Int) (x5 : Int) (s6 : MS), Rr s6 → (x4 = p0) → (0 ≤ x5 ∧ x5 ≤ 48) → (gA s6 39 = gA s 39) → (LR (gA s6 113) 8 (gI s6 114 ≤ p0)) → (LA s s6 x5 p0) → (LZ s s6 x5) → (48 - x5) < (n : Int) → wp (m_x12_isLaid_L135 n x4 x5 s6) (fun q => (Rr q.2) ∧ (q.1 = 0 ∨ (q.1 = 1 ∧ LBs q.2 ∧ (0 ≤ gA q.2 113 16 ∧ gA q.2 113 16 ≤ 999999) ∧ (∀ u, u < 16 → 0 ≤ gA q.2 113 u ∧ gA q.2 113 u ≤ 255) ∧ ∀ b : Nat, b < 48 → gA q.2 39 5 ≤ (b : Int) → gA q.2 113 (17 + 16 * b) = 0 ∧ gA q.2 113 (18 + 16 * b) = 0))) := by
                      refine fr_ind (fun x4 x5 s6 hRs6 hv135_0 hv135_1 hv135_2 hv135_3 hv135_4 hv135_5 hm135 => ?_) (fun n135 ih135 x4 x5 s6 hRs6 hv135_0 hv135_1 hv135_2 hv135_3 hv135_4 hv135_5 hm135 => ?_)
                      · exfalso; have : (0 : Int) ≤ gI s6 114 ∧ gI s6 114 ≤ 100000 := hRs6.1 114; omega
                      · show wp (m_x12_isLaid_b135 (m_x12_isLaid_L135 n135) x4 x5 s6) _
                        unfold m_x12_isLaid_b135
                        refine wp_rg (by have : (0 : Int) ≤ gI s6 114 ∧ gI s6 114 ≤ 100000 := hRs6.1 114; have : (0 : Int) ≤ gI s22 114 ∧ gI s22 114 ≤ 100000 := hRs22.1 114; have : (0 : Int) ≤ gI s37 114 ∧ gI s37 114 ≤ 100000 := hRs37.1 114; have : (0 : Int) ≤ gI qr57s 114 ∧ gI qr57s 114 ≤ 100000 := hRqr57s.1 114; have : gI s51 114 = 0 := q_II es51; have : (0 : Int) ≤ gI qr54s 114 ∧ gI qr54s 114 ≤ 100000 := hRqr54s.1 114; omega) ?_
                        refine wp_if (fun c6 => ?_) (fun c6 => ?_)
                        · skip
                          refine wp_rg (by have : (0 : Int) ≤ gI s22 114 ∧ gI s22 114 ≤ 100000 := hRs22.1 114; have : (0 : Int) ≤ gI s37 114 ∧ gI s37 114 ≤ 100000 := hRs37.1 114; have : (0 : Int) ≤ gI qr57s 114 ∧ gI qr57s 114 ≤ 100000 := hRqr57s.1 114; have : gI s51 114 = 0 := q_II es51; have : (0 : Int) ≤ gI qr54s 114 ∧ gI qr54s 114 ≤ 100000 := hRqr54s.1 114; have : (0 : Int) ≤ gI s6 114 ∧ gI s6 114 ≤ 100000 := hRs6.1 114; omega) ?_
                          refine wp_rg (by have : (0 : Int) ≤ gI s6 114 ∧ gI s6 114 ≤ 100000 := hRs6.1 114; have : (0 : Int) ≤ gI s22 114 ∧ gI s22 114 ≤ 100000 := hRs22.1 114; have : (0 : Int) ≤ gI s37 114 ∧ gI s37 114 ≤ 100000 := hRs37.1 114; have : (0 : Int) ≤ gI qr57s 114 ∧ gI qr57s 114 ≤ 100000 := hRqr57s.1 114; have : gI s51 114 = 0 := q_II es51; have : (0 : Int) ≤ gI qr54s 114 ∧ gI qr54s 114 ≤ 100000 := hRqr54s.1 114; omega) ?_
                          refine wp_if (fun c7 => ?_) (fun c7 => ?_)
                          · skip
                            unfold m_x12_isLaid_J194
                            refine wp_bo (by have : (0 : Int) ≤ gI s6 114 ∧ gI s6 114 ≤ 100000 := hRs6.1 114; have : (0 : Int) ≤ gI s22 114 ∧ gI s22 114 ≤ 100000 := hRs22.1 114; have : (0 : Int) ≤ gI s37 114 ∧ gI s37 114 ≤ 100000 := hRs37.1 114; have : (0 : Int) ≤ gI qr57s 114 ∧ gI qr57s 114 ≤ 100000 := hRqr57s.1 114; have : gI s51 114 = 0 := q_II es51; have : (0 : Int) ≤ gI qr54s 114 ∧ gI qr54s 114 ≤ 100000 := hRqr54s.1 114; omega) ?_
                            exact wp_some ⟨hRs6, by show (1 : Int) = 0 ∨ ((1 : Int) = 1 ∧ LBs s6 ∧ (0 ≤ gA s6 113 16 ∧ gA s6 113 16 ≤ 999999) ∧ (∀ u, u < 16 → 0 ≤ gA s6 113 u ∧ gA s6 113 u ≤ 255) ∧ ∀ b : Nat, b < 48 → gA s6 39 5 ≤ (b : Int) → gA s6 113 (17 + 16 * b) = 0 ∧ gA s6 113 (18 + 16 * b) = 0); first | exact Or.inl rfl | exact Or.inr ⟨rfl, ⟨by rw [hv135_2]; omega, by rw [hv135_2]; omega, fun b hb => by rw [hv135_2]; exact hv135_4 b (by omega) (by omega)⟩, hv135_3.1, fun u hu => (by
      by_cases z : u < 8
      · have q := hv135_3.2 u (by omega)
        exact ⟨q.1.2.2 (by omega), q.1.2.1⟩
      · have q := hv135_3.2 (u - 8) (by omega)
        rw [show 8 + (u - 8) = u by omega] at q
        exact ⟨q.2.2.2 (by omega), q.2.2.1⟩), fun b hb h9 => hv135_5 b (by rw [hv135_2] at h9; exact h9) (by omega)⟩⟩
                          · skip
                            unfold m_x12_isLaid_J194
                            refine wp_bo (by have : (0 : Int) ≤ gI s6 114 ∧ gI s6 114 ≤ 100000 := hRs6.1 114; have : (0 : Int) ≤ gI s22 114 ∧ gI s22 114 ≤ 100000 := hRs22.1 114; have : (0 : Int) ≤ gI s37 114 ∧ gI s37 114 ≤ 100000 := hRs37.1 114; have : (0 : Int) ≤ gI qr57s 114 ∧ gI qr57s 114 ≤ 100000 := hRqr57s.1 114; have : gI s51 114 = 0 := q_II es51; have : (0 : Int) ≤ gI qr54s 114 ∧ gI qr54s 114 ≤ 100000 := hRqr54s.1 114; omega) ?_
                            exact wp_some ⟨hRs6, by show (0 : Int) = 0 ∨ ((0 : Int) = 1 ∧ LBs s6 ∧ (0 ≤ gA s6 113 16 ∧ gA s6 113 16 ≤ 999999) ∧ (∀ u, u < 16 → 0 ≤ gA s6 113 u ∧ gA s6 113 u ≤ 255) ∧ ∀ b : Nat, b < 48 → gA s6 39 5 ≤ (b : Int) → gA s6 113 (17 + 16 * b) = 0 ∧ gA s6 113 (18 + 16 * b) = 0); first | exact Or.inl rfl | exact Or.inr ⟨rfl, ⟨by rw [hv135_2]; omega, by rw [hv135_2]; omega, fun b hb => by rw [hv135_2]; exact hv135_4 b (by omega) (by omega)⟩, hv135_3.1, fun u hu => (by
      by_cases z : u < 8
      · have q := hv135_3.2 u (by omega)
        exact ⟨q.1.2.2 (by omega), q.1.2.1⟩
      · have q := hv135_3.2 (u - 8) (by omega)
        rw [show 8 + (u - 8) = u by omega] at q
        exact ⟨q.2.2.2 (by omega), q.2.2.1⟩), fun b hb h9 => hv135_5 b (by rw [hv135_2] at h9; exact h9) (by omega)⟩⟩
                        · skip
                          have L145 : ∀ (n : Nat) (x7 : Int) (x8 : Int) (x9 : Int) (s10 : MS), Rr s10 → (x7 = p0) → (x8 = x5) → (0 ≤ x9 ∧ x9 ≤ 16) → (gA s10 39 = gA s 39) → (LR (gA s10 113) 8 (gI s10 114 ≤ p0)) → (LA s s10 x5 p0) → (∀ i : Nat, (i : Int) < x9 → gA s10 113 (17 + 16 * x5.toNat + i) = 0) → (LZ s s10 x5) → (16 - x9) < (n : Int) → wp (m_x12_isLaid_L145 (m_x12_isLaid_L135 n135) n x7 x8 x9 s10) (fun q => (Rr q.2) ∧ (q.1 = 0 ∨ (q.1 = 1 ∧ LBs q.2 ∧ (0 ≤ gA q.2 113 16 ∧ gA q.2 113 16 ≤ 999999) ∧ (∀ u, u < 16 → 0 ≤ gA q.2 113 u ∧ gA q.2 113 u ≤ 255) ∧ ∀ b : Nat, b < 48 → gA q.2 39 5 ≤ (b : Int) → gA q.2 113 (17 + 16 * b) = 0 ∧ gA q.2 113 (18 + 16 * b) = 0))) := by
                            refine fr_ind (fun x7 x8 x9 s10 hRs10 hv145_0 hv145_1 hv145_2 hv145_3 hv145_4 hv145_5 hv145_6 hv145_7 hm145 => ?_) (fun n145 ih145 x7 x8 x9 s10 hRs10 hv145_0 hv145_1 hv145_2 hv145_3 hv145_4 hv145_5 hv145_6 hv145_7 hm145 => ?_)
                            · exfalso; have : (0 : Int) ≤ gI s10 114 ∧ gI s10 114 ≤ 100000 := hRs10.1 114; omega
                            · show wp (m_x12_isLaid_b145 (m_x12_isLaid_L135 n135) (m_x12_isLaid_L145 (m_x12_isLaid_L135 n135) n145) x7 x8 x9 s10) _
                              unfold m_x12_isLaid_b145
                              refine wp_rg (by have : (0 : Int) ≤ gI s10 114 ∧ gI s10 114 ≤ 100000 := hRs10.1 114; have : (0 : Int) ≤ gI s6 114 ∧ gI s6 114 ≤ 100000 := hRs6.1 114; have : (0 : Int) ≤ gI s22 114 ∧ gI s22 114 ≤ 100000 := hRs22.1 114; have : (0 : Int) ≤ gI s37 114 ∧ gI s37 114 ≤ 100000 := hRs37.1 114; have : (0 : Int) ≤ gI qr57s 114 ∧ gI qr57s 114 ≤ 100000 := hRqr57s.1 114; have : gI s51 114 = 0 := q_II es51; have : (0 : Int) ≤ gI qr54s 114 ∧ gI qr54s 114 ≤ 100000 := hRqr54s.1 114; omega) ?_
                              refine wp_if (fun c8 => ?_) (fun c8 => ?_)
                              · skip
                                exact ih135 x7 (x8 + 1) s10 hRs10 (by show x7 = p0; have : (0 : Int) ≤ gI s10 114 ∧ gI s10 114 ≤ 100000 := hRs10.1 114; have : (0 : Int) ≤ gI s6 114 ∧ gI s6 114 ≤ 100000 := hRs6.1 114; have : (0 : Int) ≤ gI s22 114 ∧ gI s22 114 ≤ 100000 := hRs22.1 114; have : (0 : Int) ≤ gI s37 114 ∧ gI s37 114 ≤ 100000 := hRs37.1 114; have : (0 : Int) ≤ gI qr57s 114 ∧ gI qr57s 114 ≤ 100000 := hRqr57s.1 114; have : gI s51 114 = 0 := q_II es51; have : (0 : Int) ≤ gI qr54s 114 ∧ gI qr54s 114 ≤ 100000 := hRqr54s.1 114; omega) (by show 0 ≤ (x8 + 1) ∧ (x8 + 1) ≤ 48; have : (0 : Int) ≤ gI s10 114 ∧ gI s10 114 ≤ 100000 := hRs10.1 114; have : (0 : Int) ≤ gI s6 114 ∧ gI s6 114 ≤ 100000 := hRs6.1 114; have : (0 : Int) ≤ gI s22 114 ∧ gI s22 114 ≤ 100000 := hRs22.1 114; have : (0 : Int) ≤ gI s37 114 ∧ gI s37 114 ≤ 100000 := hRs37.1 114; have : (0 : Int) ≤ gI qr57s 114 ∧ gI qr57s 114 ≤ 100000 := hRqr57s.1 114; have : gI s51 114 = 0 := q_II es51; have : (0 : Int) ≤ gI qr54s 114 ∧ gI qr54s 114 ≤ 100000 := hRqr54s.1 114; omega) (hv145_3) (hv145_4) (fun b hb h9 => by
      by_cases z : b = x5.toNat
      · rw [z]; exact LB_z (fun i hi => hv145_6 i (by omega))
      · exact hv145_5 b (by omega) h9) (fun b h1 h2 => by
      by_cases z : b = x5.toNat
      · rw [z]; exact ⟨hv145_6 0 (by omega), by have q := hv145_6 1 (by omega); rw [show 17 + 16 * x5.toNat + 1 = 18 + 16 * x5.toNat by omega] at q; exact q⟩
      · exact hv145_7 b h1 (by omega)) (by have : (0 : Int) ≤ gI s10 114 ∧ gI s10 114 ≤ 100000 := hRs10.1 114; have : (0 : Int) ≤ gI s6 114 ∧ gI s6 114 ≤ 100000 := hRs6.1 114; have : (0 : Int) ≤ gI s22 114 ∧ gI s22 114 ≤ 100000 := hRs22.1 114; have : (0 : Int) ≤ gI s37 114 ∧ gI s37 114 ≤ 100000 := hRs37.1 114; have : (0 : Int) ≤ gI qr57s 114 ∧ gI qr57s 114 ≤ 100000 := hRqr57s.1 114; have : gI s51 114 = 0 := q_II es51; have : (0 : Int) ≤ gI qr54s 114 ∧ gI qr54s 114 ≤ 100000 := hRqr54s.1 114; omega)
                              · skip
                                refine wp_inb (by have : (0 : Int) ≤ gI s10 114 ∧ gI s10 114 ≤ 100000 := hRs10.1 114; have : (0 : Int) ≤ gI s6 114 ∧ gI s6 114 ≤ 100000 := hRs6.1 114; have : (0 : Int) ≤ gI s22 114 ∧ gI s22 114 ≤ 100000 := hRs22.1 114; have : (0 : Int) ≤ gI s37 114 ∧ gI s37 114 ≤ 100000 := hRs37.1 114; have : (0 : Int) ≤ gI qr57s 114 ∧ gI qr57s 114 ≤ 100000 := hRqr57s.1 114; have : gI s51 114 = 0 := q_II es51; have : (0 : Int) ≤ gI qr54s 114 ∧ gI qr54s 114 ≤ 100000 := hRqr54s.1 114; omega) ?_
                                refine wp_stn (fun s14 es14 => ?_)
                                have hRs14 : Rr s14 := es14 ▸ Rr.uAu hRs10 (by show (-2147483648 : Int) ≤ (0 : Int) ∧ (0 : Int) ≤ 2147483647; have : (0 : Int) ≤ gI s10 114 ∧ gI s10 114 ≤ 100000 := hRs10.1 114; have : (0 : Int) ≤ gI s6 114 ∧ gI s6 114 ≤ 100000 := hRs6.1 114; have : (0 : Int) ≤ gI s22 114 ∧ gI s22 114 ≤ 100000 := hRs22.1 114; have : (0 : Int) ≤ gI s37 114 ∧ gI s37 114 ≤ 100000 := hRs37.1 114; have : (0 : Int) ≤ gI qr57s 114 ∧ gI qr57s 114 ≤ 100000 := hRqr57s.1 114; have : gI s51 114 = 0 := q_II es51; have : (0 : Int) ≤ gI qr54s 114 ∧ gI qr54s 114 ≤ 100000 := hRqr54s.1 114; omega)
                                have k14 : gA s14 113 = upZ (gA s10 113) (17 + 16 * x5.toNat + x9.toNat) 0 := by rw [(q_AA es14 : gA s14 113 = _), show (17 + 16 * x8 + x9).toNat = 17 + 16 * x5.toNat + x9.toNat by omega]
                                have i14 : gI s14 114 = gI s10 114 := (q_Ai es14 : gI s14 114 = gI s10 114)
                                exact ih145 x7 x8 (x9 + 1) s14 hRs14 (by show x7 = p0; have : (0 : Int) ≤ gI s10 114 ∧ gI s10 114 ≤ 100000 := hRs10.1 114; have : (0 : Int) ≤ gI s6 114 ∧ gI s6 114 ≤ 100000 := hRs6.1 114; have : (0 : Int) ≤ gI s22 114 ∧ gI s22 114 ≤ 100000 := hRs22.1 114; have : (0 : Int) ≤ gI s37 114 ∧ gI s37 114 ≤ 100000 := hRs37.1 114; have : (0 : Int) ≤ gI qr57s 114 ∧ gI qr57s 114 ≤ 100000 := hRqr57s.1 114; have : gI s51 114 = 0 := q_II es51; have : (0 : Int) ≤ gI qr54s 114 ∧ gI qr54s 114 ≤ 100000 := hRqr54s.1 114; omega) (by show x8 = x5; have : (0 : Int) ≤ gI s10 114 ∧ gI s10 114 ≤ 100000 := hRs10.1 114; have : (0 : Int) ≤ gI s6 114 ∧ gI s6 114 ≤ 100000 := hRs6.1 114; have : (0 : Int) ≤ gI s22 114 ∧ gI s22 114 ≤ 100000 := hRs22.1 114; have : (0 : Int) ≤ gI s37 114 ∧ gI s37 114 ≤ 100000 := hRs37.1 114; have : (0 : Int) ≤ gI qr57s 114 ∧ gI qr57s 114 ≤ 100000 := hRqr57s.1 114; have : gI s51 114 = 0 := q_II es51; have : (0 : Int) ≤ gI qr54s 114 ∧ gI qr54s 114 ≤ 100000 := hRqr54s.1 114; omega) (by show 0 ≤ (x9 + 1) ∧ (x9 + 1) ≤ 16; have : (0 : Int) ≤ gI s10 114 ∧ gI s10 114 ≤ 100000 := hRs10.1 114; have : (0 : Int) ≤ gI s6 114 ∧ gI s6 114 ≤ 100000 := hRs6.1 114; have : (0 : Int) ≤ gI s22 114 ∧ gI s22 114 ≤ 100000 := hRs22.1 114; have : (0 : Int) ≤ gI s37 114 ∧ gI s37 114 ≤ 100000 := hRs37.1 114; have : (0 : Int) ≤ gI qr57s 114 ∧ gI qr57s 114 ≤ 100000 := hRqr57s.1 114; have : gI s51 114 = 0 := q_II es51; have : (0 : Int) ≤ gI qr54s 114 ∧ gI qr54s 114 ≤ 100000 := hRqr54s.1 114; omega) (((q_Aa es14 (by decide) : gA s14 39 = gA s10 39)).trans hv145_3) (LR_x hv145_4 (by omega) (fun w => by omega) (fun j hj => by rw [k14, upZ_n (by omega)])) (fun b hb h9 => LB_x (hv145_5 b hb (by omega)) (by omega) (fun j h1 h2 => by rw [k14, upZ_n (by omega)])) (fun i hi => by
      rw [k14]
      by_cases z : i = x9.toNat
      · rw [z, upZ_s]
      · rw [upZ_n (by omega)]; exact hv145_6 i (by omega)) (fun b h1 h2 => by rw [k14, upZ_n (by omega), upZ_n (by omega)]; exact hv145_7 b h1 h2) (by have : (0 : Int) ≤ gI s10 114 ∧ gI s10 114 ≤ 100000 := hRs10.1 114; have : (0 : Int) ≤ gI s6 114 ∧ gI s6 114 ≤ 100000 := hRs6.1 114; have : (0 : Int) ≤ gI s22 114 ∧ gI s22 114 ≤ 100000 := hRs22.1 114; have : (0 : Int) ≤ gI s37 114 ∧ gI s37 114 ≤ 100000 := hRs37.1 114; have : (0 : Int) ≤ gI qr57s 114 ∧ gI qr57s 114 ≤ 100000 := hRqr57s.1 114; have : gI s51 114 = 0 := q_II es51; have : (0 : Int) ≤ gI qr54s 114 ∧ gI qr54s 114 ≤ 100000 := hRqr54s.1 114; omega)
                          exact L145 FU x4 x5 0 s6 hRs6 (by show x4 = p0; have : (0 : Int) ≤ gI s6 114 ∧ gI s6 114 ≤ 100000 := hRs6.1 114; have : (0 : Int) ≤ gI s22 114 ∧ gI s22 114 ≤ 100000 := hRs22.1 114; have : (0 : Int) ≤ gI s37 114 ∧ gI s37 114 ≤ 100000 := hRs37.1 114; have : (0 : Int) ≤ gI qr57s 114 ∧ gI qr57s 114 ≤ 100000 := hRqr57s.1 114; have : gI s51 114 = 0 := q_II es51; have : (0 : Int) ≤ gI qr54s 114 ∧ gI qr54s 114 ≤ 100000 := hRqr54s.1 114; omega) (by show x5 = x5; have : (0 : Int) ≤ gI s6 114 ∧ gI s6 114 ≤ 100000 := hRs6.1 114; have : (0 : Int) ≤ gI s22 114 ∧ gI s22 114 ≤ 100000 := hRs22.1 114; have : (0 : Int) ≤ gI s37 114 ∧ gI s37 114 ≤ 100000 := hRs37.1 114; have : (0 : Int) ≤ gI qr57s 114 ∧ gI qr57s 114 ≤ 100000 := hRqr57s.1 114; have : gI s51 114 = 0 := q_II es51; have : (0 : Int) ≤ gI qr54s 114 ∧ gI qr54s 114 ≤ 100000 := hRqr54s.1 114; omega) (by show 0 ≤ (0 : Int) ∧ (0 : Int) ≤ 16; have : (0 : Int) ≤ gI s6 114 ∧ gI s6 114 ≤ 100000 := hRs6.1 114; have : (0 : Int) ≤ gI s22 114 ∧ gI s22 114 ≤ 100000 := hRs22.1 114; have : (0 : Int) ≤ gI s37 114 ∧ gI s37 114 ≤ 100000 := hRs37.1 114; have : (0 : Int) ≤ gI qr57s 114 ∧ gI qr57s 114 ≤ 100000 := hRqr57s.1 114; have : gI s51 114 = 0 := q_II es51; have : (0 : Int) ≤ gI qr54s 114 ∧ gI qr54s 114 ≤ 100000 := hRqr54s.1 114; omega) (hv135_2) (hv135_3) (hv135_4) (fun i hi => absurd hi (by omega)) (hv135_5) (by have := FU_big; have := FU_big2; have : (0 : Int) ≤ gI s6 114 ∧ gI s6 114 ≤ 100000 := hRs6.1 114; have : (0 : Int) ≤ gI s22 114 ∧ gI s22 114 ≤ 100000 := hRs22.1 114; have : (0 : Int) ≤ gI s37 114 ∧ gI s37 114 ≤ 100000 := hRs37.1 114; have : (0 : Int) ≤ gI qr57s 114 ∧ gI qr57s 114 ≤ 100000 := hRqr57s.1 114; have : gI s51 114 = 0 := q_II es51; have : (0 : Int) ≤ gI qr54s 114 ∧ gI qr54s 114 ≤ 100000 := hRqr54s.1 114; omega)
                    exact L135 FU x20 r29 s22 hRs22 (by show x20 = p0; have : (0 : Int) ≤ gI s22 114 ∧ gI s22 114 ≤ 100000 := hRs22.1 114; have : (0 : Int) ≤ gI s37 114 ∧ gI s37 114 ≤ 100000 := hRs37.1 114; have : (0 : Int) ≤ gI qr57s 114 ∧ gI qr57s 114 ≤ 100000 := hRqr57s.1 114; have : gI s51 114 = 0 := q_II es51; have : (0 : Int) ≤ gI qr54s 114 ∧ gI qr54s 114 ≤ 100000 := hRqr54s.1 114; omega) (by show 0 ≤ r29 ∧ r29 ≤ 48; have : (0 : Int) ≤ gI s22 114 ∧ gI s22 114 ≤ 100000 := hRs22.1 114; have : (0 : Int) ≤ gI s37 114 ∧ gI s37 114 ≤ 100000 := hRs37.1 114; have : (0 : Int) ≤ gI qr57s 114 ∧ gI qr57s 114 ≤ 100000 := hRqr57s.1 114; have : gI s51 114 = 0 := q_II es51; have : (0 : Int) ≤ gI qr54s 114 ∧ gI qr54s 114 ≤ 100000 := hRqr54s.1 114; omega) (hv102_2.2) (hv102_3) (fun b hb h9 => hv102_4 b (by omega) h9) (fun b h1 h2 => absurd h2 (by omega)) (by have := FU_big; have := FU_big2; have : (0 : Int) ≤ gI s22 114 ∧ gI s22 114 ≤ 100000 := hRs22.1 114; have : (0 : Int) ≤ gI s37 114 ∧ gI s37 114 ≤ 100000 := hRs37.1 114; have : (0 : Int) ≤ gI qr57s 114 ∧ gI qr57s 114 ≤ 100000 := hRqr57s.1 114; have : gI s51 114 = 0 := q_II es51; have : (0 : Int) ≤ gI qr54s 114 ∧ gI qr54s 114 ≤ 100000 := hRqr54s.1 114; omega)
                  · skip
                    refine wp_bn (w_x12_isLaidBlock hRs22 (by show 0 ≤ x21 ∧ x21 < 48; have : (0 : Int) ≤ gI s22 114 ∧ gI s22 114 ≤ 100000 := hRs22.1 114; have : (0 : Int) ≤ gI s37 114 ∧ gI s37 114 ≤ 100000 := hRs37.1 114; have : (0 : Int) ≤ gI qr57s 114 ∧ gI qr57s 114 ≤ 100000 := hRqr57s.1 114; have : gI s51 114 = 0 := q_II es51; have : (0 : Int) ≤ gI qr54s 114 ∧ gI qr54s 114 ≤ 100000 := hRqr54s.1 114; omega) (by show 0 ≤ x20 ∧ x20 ≤ 1599; have : (0 : Int) ≤ gI s22 114 ∧ gI s22 114 ≤ 100000 := hRs22.1 114; have : (0 : Int) ≤ gI s37 114 ∧ gI s37 114 ≤ 100000 := hRs37.1 114; have : (0 : Int) ≤ gI qr57s 114 ∧ gI qr57s 114 ≤ 100000 := hRqr57s.1 114; have : gI s51 114 = 0 := q_II es51; have : (0 : Int) ≤ gI qr54s 114 ∧ gI qr54s 114 ≤ 100000 := hRqr54s.1 114; omega) (by show gI s22 114 ≤ 60000; have : (0 : Int) ≤ gI s37 114 ∧ gI s37 114 ≤ 100000 := hRs37.1 114; have : (0 : Int) ≤ gI qr57s 114 ∧ gI qr57s 114 ≤ 100000 := hRqr57s.1 114; have : gI s51 114 = 0 := q_II es51; have : (0 : Int) ≤ gI qr54s 114 ∧ gI qr54s 114 ≤ 100000 := hRqr54s.1 114; have : (0 : Int) ≤ gI s22 114 ∧ gI s22 114 ≤ 100000 := hRs22.1 114; omega) (by show 3 ≤ gA s22 39 6 ∧ gA s22 39 6 ≤ 6; have : (0 : Int) ≤ gI s22 114 ∧ gI s22 114 ≤ 100000 := hRs22.1 114; have : (0 : Int) ≤ gI s37 114 ∧ gI s37 114 ≤ 100000 := hRs37.1 114; have : (0 : Int) ≤ gI qr57s 114 ∧ gI qr57s 114 ≤ 100000 := hRqr57s.1 114; have : gI s51 114 = 0 := q_II es51; have : (0 : Int) ≤ gI qr54s 114 ∧ gI qr54s 114 ≤ 100000 := hRqr54s.1 114; omega)) (fun qqr32 eqr32s hqr32s => ?_)
                    obtain ⟨qr32r, qr32s⟩ := qqr32
                    dsimp only at eqr32s hqr32s ⊢
                    have Fqr32s : F_x12_isLaidBlock s22 qr32s := fr_x12_isLaidBlock eqr32s
                    obtain ⟨hRqr32s, hqr32s_0, hqr32s_1, hqr32s_2, hqr32s_3⟩ := hqr32s
                    have hqr32s_0 : qr32r = 0 ∨ qr32r = 1 := hqr32s_0
                    have hqr32s_1 : XO s22 qr32s x21.toNat := hqr32s_1
                    have hqr32s_2 : gI s22 114 ≤ gI qr32s 114 ∧ gI qr32s 114 ≤ gI s22 114 + 28 := hqr32s_2
                    have hqr32s_3 : qr32r = 1 → gI qr32s 114 ≤ x20 → LB_r (gA qr32s 113) (gA s22 39 6) x21.toNat := hqr32s_3
                    refine wp_rg (by have : (0 : Int) ≤ gI qr32s 114 ∧ gI qr32s 114 ≤ 100000 := hRqr32s.1 114; have : (0 : Int) ≤ gI s22 114 ∧ gI s22 114 ≤ 100000 := hRs22.1 114; have : (0 : Int) ≤ gI s37 114 ∧ gI s37 114 ≤ 100000 := hRs37.1 114; have : (0 : Int) ≤ gI qr57s 114 ∧ gI qr57s 114 ≤ 100000 := hRqr57s.1 114; have : gI s51 114 = 0 := q_II es51; have : (0 : Int) ≤ gI qr54s 114 ∧ gI qr54s 114 ≤ 100000 := hRqr54s.1 114; omega) ?_
                    refine wp_if (fun c9 => ?_) (fun c9 => ?_)
                    · skip
                      exact wp_some ⟨hRqr32s, by show (0 : Int) = 0 ∨ ((0 : Int) = 1 ∧ LBs qr32s ∧ (0 ≤ gA qr32s 113 16 ∧ gA qr32s 113 16 ≤ 999999) ∧ (∀ u, u < 16 → 0 ≤ gA qr32s 113 u ∧ gA qr32s 113 u ≤ 255) ∧ ∀ b : Nat, b < 48 → gA qr32s 39 5 ≤ (b : Int) → gA qr32s 113 (17 + 16 * b) = 0 ∧ gA qr32s 113 (18 + 16 * b) = 0); first | exact Or.inl rfl | exact Or.inr ⟨rfl, ⟨by rw [hv135_2]; omega, by rw [hv135_2]; omega, fun b hb => by rw [hv135_2]; exact hv135_4 b (by omega) (by omega)⟩, hv135_3.1, fun u hu => (by
      by_cases z : u < 8
      · have q := hv135_3.2 u (by omega)
        exact ⟨q.1.2.2 (by omega), q.1.2.1⟩
      · have q := hv135_3.2 (u - 8) (by omega)
        rw [show 8 + (u - 8) = u by omega] at q
        exact ⟨q.2.2.2 (by omega), q.2.2.1⟩), fun b hb h9 => hv135_5 b (by rw [hv135_2] at h9; exact h9) (by omega)⟩⟩
                    · skip
                      exact ih102 x20 (x21 + 1) qr32s hRqr32s (by show x20 = p0; have : (0 : Int) ≤ gI qr32s 114 ∧ gI qr32s 114 ≤ 100000 := hRqr32s.1 114; have : (0 : Int) ≤ gI s22 114 ∧ gI s22 114 ≤ 100000 := hRs22.1 114; have : (0 : Int) ≤ gI s37 114 ∧ gI s37 114 ≤ 100000 := hRs37.1 114; have : (0 : Int) ≤ gI qr57s 114 ∧ gI qr57s 114 ≤ 100000 := hRqr57s.1 114; have : gI s51 114 = 0 := q_II es51; have : (0 : Int) ≤ gI qr54s 114 ∧ gI qr54s 114 ≤ 100000 := hRqr54s.1 114; omega) (by show 0 ≤ (x21 + 1) ∧ (x21 + 1) ≤ gA s 39 5; have : (0 : Int) ≤ gI qr32s 114 ∧ gI qr32s 114 ≤ 100000 := hRqr32s.1 114; have : (0 : Int) ≤ gI s22 114 ∧ gI s22 114 ≤ 100000 := hRs22.1 114; have : (0 : Int) ≤ gI s37 114 ∧ gI s37 114 ≤ 100000 := hRs37.1 114; have : (0 : Int) ≤ gI qr57s 114 ∧ gI qr57s 114 ≤ 100000 := hRqr57s.1 114; have : gI s51 114 = 0 := q_II es51; have : (0 : Int) ≤ gI qr54s 114 ∧ gI qr54s 114 ≤ 100000 := hRqr54s.1 114; omega) (⟨by omega, ((Fqr32s.2.1 39 (by decide))).trans hv102_2.2⟩) (LR_x hv102_3 (by omega) (fun w => by omega) (fun j hj => hqr32s_1 j (by omega))) (fun b hb h9 => by
      by_cases z : b = x21.toNat
      · rw [z, ← e6]; exact hqr32s_3 (by omega) (by omega)
      · exact LB_x (hv102_4 b (by omega) (by omega)) (by omega) (fun j h1 h2 => hqr32s_1 j (by omega))) (by have : (0 : Int) ≤ gI qr32s 114 ∧ gI qr32s 114 ≤ 100000 := hRqr32s.1 114; have : (0 : Int) ≤ gI s22 114 ∧ gI s22 114 ≤ 100000 := hRs22.1 114; have : (0 : Int) ≤ gI s37 114 ∧ gI s37 114 ≤ 100000 := hRs37.1 114; have : (0 : Int) ≤ gI qr57s 114 ∧ gI qr57s 114 ≤ 100000 := hRqr57s.1 114; have : gI s51 114 = 0 := q_II es51; have : (0 : Int) ≤ gI qr54s 114 ∧ gI qr54s 114 ≤ 100000 := hRqr54s.1 114; omega)
              exact L102 FU x35 0 s37 hRs37 (by show x35 = p0; have : (0 : Int) ≤ gI s37 114 ∧ gI s37 114 ≤ 100000 := hRs37.1 114; have : (0 : Int) ≤ gI qr57s 114 ∧ gI qr57s 114 ≤ 100000 := hRqr57s.1 114; have : gI s51 114 = 0 := q_II es51; have : (0 : Int) ≤ gI qr54s 114 ∧ gI qr54s 114 ≤ 100000 := hRqr54s.1 114; omega) (by show 0 ≤ (0 : Int) ∧ (0 : Int) ≤ gA s 39 5; have : (0 : Int) ≤ gI s37 114 ∧ gI s37 114 ≤ 100000 := hRs37.1 114; have : (0 : Int) ≤ gI qr57s 114 ∧ gI qr57s 114 ≤ 100000 := hRqr57s.1 114; have : gI s51 114 = 0 := q_II es51; have : (0 : Int) ≤ gI qr54s 114 ∧ gI qr54s 114 ≤ 100000 := hRqr54s.1 114; omega) (⟨by omega, hv59_2.2⟩) (by
      have e : x36 = 8 := by omega
      rw [e] at hv59_3
      exact hv59_3) (fun b hb => absurd hb (by omega)) (by have := FU_big; have := FU_big2; have : (0 : Int) ≤ gI s37 114 ∧ gI s37 114 ≤ 100000 := hRs37.1 114; have : (0 : Int) ≤ gI qr57s 114 ∧ gI qr57s 114 ≤ 100000 := hRqr57s.1 114; have : gI s51 114 = 0 := q_II es51; have : (0 : Int) ≤ gI qr54s 114 ∧ gI qr54s 114 ≤ 100000 := hRqr54s.1 114; omega)
            · skip
              refine wp_bn (w_x12_byteRead hRs37 (by show 0 ≤ x35 ∧ x35 ≤ 1599; have : (0 : Int) ≤ gI s37 114 ∧ gI s37 114 ≤ 100000 := hRs37.1 114; have : (0 : Int) ≤ gI qr57s 114 ∧ gI qr57s 114 ≤ 100000 := hRqr57s.1 114; have : gI s51 114 = 0 := q_II es51; have : (0 : Int) ≤ gI qr54s 114 ∧ gI qr54s 114 ≤ 100000 := hRqr54s.1 114; omega) (by show gI s37 114 ≤ 90000; have : (0 : Int) ≤ gI qr57s 114 ∧ gI qr57s 114 ≤ 100000 := hRqr57s.1 114; have : gI s51 114 = 0 := q_II es51; have : (0 : Int) ≤ gI qr54s 114 ∧ gI qr54s 114 ≤ 100000 := hRqr54s.1 114; have : (0 : Int) ≤ gI s37 114 ∧ gI s37 114 ≤ 100000 := hRs37.1 114; omega)) (fun qqr42 eqr42s hqr42s => ?_)
              obtain ⟨qr42r, qr42s⟩ := qqr42
              dsimp only at eqr42s hqr42s ⊢
              have Fqr42s : F_x12_byteRead s37 qr42s := fr_x12_byteRead eqr42s
              obtain ⟨hRqr42s, hqr42s_0, hqr42s_1, hqr42s_2⟩ := hqr42s
              have hqr42s_0 : (-1) ≤ qr42r ∧ qr42r ≤ 255 := hqr42s_0
              have hqr42s_1 : gI qr42s 114 = gI s37 114 + 1 := hqr42s_1
              have hqr42s_2 : gI qr42s 114 ≤ x35 → 0 ≤ qr42r := hqr42s_2
              have f42 : gA qr42s 113 = gA s37 113 := (Fqr42s.2.1 113 (by decide))
              refine wp_inb (by have : (0 : Int) ≤ gI qr42s 114 ∧ gI qr42s 114 ≤ 100000 := hRqr42s.1 114; have : (0 : Int) ≤ gI s37 114 ∧ gI s37 114 ≤ 100000 := hRs37.1 114; have : (0 : Int) ≤ gI qr57s 114 ∧ gI qr57s 114 ≤ 100000 := hRqr57s.1 114; have : gI s51 114 = 0 := q_II es51; have : (0 : Int) ≤ gI qr54s 114 ∧ gI qr54s 114 ≤ 100000 := hRqr54s.1 114; omega) ?_
              refine wp_stn (fun s44 es44 => ?_)
              have hRs44 : Rr s44 := es44 ▸ Rr.uAu hRqr42s (by show (-2147483648 : Int) ≤ qr42r ∧ qr42r ≤ 2147483647; have : (0 : Int) ≤ gI qr42s 114 ∧ gI qr42s 114 ≤ 100000 := hRqr42s.1 114; have : (0 : Int) ≤ gI s37 114 ∧ gI s37 114 ≤ 100000 := hRs37.1 114; have : (0 : Int) ≤ gI qr57s 114 ∧ gI qr57s 114 ≤ 100000 := hRqr57s.1 114; have : gI s51 114 = 0 := q_II es51; have : (0 : Int) ≤ gI qr54s 114 ∧ gI qr54s 114 ≤ 100000 := hRqr54s.1 114; omega)
              have k44 : gA s44 113 = upZ (gA qr42s 113) x36.toNat qr42r := q_AA es44
              have i44 : gI s44 114 = gI qr42s 114 := (q_Ai es44 : gI s44 114 = gI qr42s 114)
              refine wp_bn (w_x12_byteRead hRs44 (by show 0 ≤ x35 ∧ x35 ≤ 1599; have : (0 : Int) ≤ gI qr42s 114 ∧ gI qr42s 114 ≤ 100000 := hRqr42s.1 114; have : (0 : Int) ≤ gI s37 114 ∧ gI s37 114 ≤ 100000 := hRs37.1 114; have : (0 : Int) ≤ gI qr57s 114 ∧ gI qr57s 114 ≤ 100000 := hRqr57s.1 114; have : gI s51 114 = 0 := q_II es51; have : (0 : Int) ≤ gI qr54s 114 ∧ gI qr54s 114 ≤ 100000 := hRqr54s.1 114; omega) (by show gI s44 114 ≤ 90000; have : (0 : Int) ≤ gI qr42s 114 ∧ gI qr42s 114 ≤ 100000 := hRqr42s.1 114; have : (0 : Int) ≤ gI s37 114 ∧ gI s37 114 ≤ 100000 := hRs37.1 114; have : (0 : Int) ≤ gI qr57s 114 ∧ gI qr57s 114 ≤ 100000 := hRqr57s.1 114; have : gI s51 114 = 0 := q_II es51; have : (0 : Int) ≤ gI qr54s 114 ∧ gI qr54s 114 ≤ 100000 := hRqr54s.1 114; have : gI s44 114 = gI qr42s 114 := q_Ai es44; omega)) (fun qqr47 eqr47s hqr47s => ?_)
              obtain ⟨qr47r, qr47s⟩ := qqr47
              dsimp only at eqr47s hqr47s ⊢
              have Fqr47s : F_x12_byteRead s44 qr47s := fr_x12_byteRead eqr47s
              obtain ⟨hRqr47s, hqr47s_0, hqr47s_1, hqr47s_2⟩ := hqr47s
              have hqr47s_0 : (-1) ≤ qr47r ∧ qr47r ≤ 255 := hqr47s_0
              have hqr47s_1 : gI qr47s 114 = gI s44 114 + 1 := hqr47s_1
              have hqr47s_2 : gI qr47s 114 ≤ x35 → 0 ≤ qr47r := hqr47s_2
              have f47 : gA qr47s 113 = gA s44 113 := (Fqr47s.2.1 113 (by decide))
              refine wp_inb (by have : gI s44 114 = gI qr42s 114 := q_Ai es44; have : (0 : Int) ≤ gI qr47s 114 ∧ gI qr47s 114 ≤ 100000 := hRqr47s.1 114; have : (0 : Int) ≤ gI qr42s 114 ∧ gI qr42s 114 ≤ 100000 := hRqr42s.1 114; have : (0 : Int) ≤ gI s37 114 ∧ gI s37 114 ≤ 100000 := hRs37.1 114; have : (0 : Int) ≤ gI qr57s 114 ∧ gI qr57s 114 ≤ 100000 := hRqr57s.1 114; have : gI s51 114 = 0 := q_II es51; have : (0 : Int) ≤ gI qr54s 114 ∧ gI qr54s 114 ≤ 100000 := hRqr54s.1 114; omega) ?_
              refine wp_stn (fun s49 es49 => ?_)
              have hRs49 : Rr s49 := es49 ▸ Rr.uAu hRqr47s (by show (-2147483648 : Int) ≤ qr47r ∧ qr47r ≤ 2147483647; have : gI s44 114 = gI qr42s 114 := q_Ai es44; have : (0 : Int) ≤ gI qr47s 114 ∧ gI qr47s 114 ≤ 100000 := hRqr47s.1 114; have : (0 : Int) ≤ gI qr42s 114 ∧ gI qr42s 114 ≤ 100000 := hRqr42s.1 114; have : (0 : Int) ≤ gI s37 114 ∧ gI s37 114 ≤ 100000 := hRs37.1 114; have : (0 : Int) ≤ gI qr57s 114 ∧ gI qr57s 114 ≤ 100000 := hRqr57s.1 114; have : gI s51 114 = 0 := q_II es51; have : (0 : Int) ≤ gI qr54s 114 ∧ gI qr54s 114 ≤ 100000 := hRqr54s.1 114; omega)
              have k49 : gA s49 113 = upZ (gA qr47s 113) (8 + x36.toNat) qr47r := by rw [(q_AA es49 : gA s49 113 = _), show (8 + x36).toNat = 8 + x36.toNat by omega]
              have i49 : gI s49 114 = gI qr47s 114 := (q_Ai es49 : gI s49 114 = gI qr47s 114)
              have h49 : ∀ j, j ≠ x36.toNat → j ≠ 8 + x36.toNat → gA s49 113 j = gA s37 113 j := fun j a b => by rw [k49, upZ_n b, f47, k44, upZ_n a, f42]
              exact ih59 x35 (x36 + 1) s49 hRs49 (by show x35 = p0; have : gI s44 114 = gI qr42s 114 := q_Ai es44; have : (0 : Int) ≤ gI qr47s 114 ∧ gI qr47s 114 ≤ 100000 := hRqr47s.1 114; have : (0 : Int) ≤ gI qr42s 114 ∧ gI qr42s 114 ≤ 100000 := hRqr42s.1 114; have : (0 : Int) ≤ gI s37 114 ∧ gI s37 114 ≤ 100000 := hRs37.1 114; have : (0 : Int) ≤ gI qr57s 114 ∧ gI qr57s 114 ≤ 100000 := hRqr57s.1 114; have : gI s51 114 = 0 := q_II es51; have : (0 : Int) ≤ gI qr54s 114 ∧ gI qr54s 114 ≤ 100000 := hRqr54s.1 114; omega) (by show 0 ≤ (x36 + 1) ∧ (x36 + 1) ≤ 8; have : gI s44 114 = gI qr42s 114 := q_Ai es44; have : (0 : Int) ≤ gI qr47s 114 ∧ gI qr47s 114 ≤ 100000 := hRqr47s.1 114; have : (0 : Int) ≤ gI qr42s 114 ∧ gI qr42s 114 ≤ 100000 := hRqr42s.1 114; have : (0 : Int) ≤ gI s37 114 ∧ gI s37 114 ≤ 100000 := hRs37.1 114; have : (0 : Int) ≤ gI qr57s 114 ∧ gI qr57s 114 ≤ 100000 := hRqr57s.1 114; have : gI s51 114 = 0 := q_II es51; have : (0 : Int) ≤ gI qr54s 114 ∧ gI qr54s 114 ≤ 100000 := hRqr54s.1 114; omega) (⟨by omega, (((q_Aa es49 (by decide) : gA s49 39 = gA qr47s 39).trans ((Fqr47s.2.1 39 (by decide)).trans ((q_Aa es44 (by decide) : gA s44 39 = gA qr42s 39).trans (Fqr42s.2.1 39 (by decide)))))).trans hv59_2.2⟩) (⟨by rw [h49 16 (by omega) (by omega)]; exact hv59_3.1, fun u hu => by
      by_cases z : u = x36.toNat
      · rw [z]
        have a1 : gA s49 113 x36.toNat = qr42r := by rw [k49, upZ_n (by omega), f47, k44, upZ_s]
        have a2 : gA s49 113 (8 + x36.toNat) = qr47r := by rw [k49, upZ_s]
        rw [a1, a2]
        exact ⟨⟨by omega, by omega, fun w => hqr42s_2 (by omega)⟩, by omega, by omega, fun w => hqr47s_2 (by omega)⟩
      · have q := hv59_3.2 u (by omega)
        rw [h49 u (by omega) (by omega), h49 (8 + u) (by omega) (by omega)]
        exact ⟨⟨q.1.1, q.1.2.1, fun w => q.1.2.2 (by omega)⟩, q.2.1, q.2.2.1, fun w => q.2.2.2 (by omega)⟩⟩) (by have : gI s44 114 = gI qr42s 114 := q_Ai es44; have : (0 : Int) ≤ gI qr47s 114 ∧ gI qr47s 114 ≤ 100000 := hRqr47s.1 114; have : (0 : Int) ≤ gI qr42s 114 ∧ gI qr42s 114 ≤ 100000 := hRqr42s.1 114; have : (0 : Int) ≤ gI s37 114 ∧ gI s37 114 ≤ 100000 := hRs37.1 114; have : (0 : Int) ≤ gI qr57s 114 ∧ gI qr57s 114 ≤ 100000 := hRqr57s.1 114; have : gI s51 114 = 0 := q_II es51; have : (0 : Int) ≤ gI qr54s 114 ∧ gI qr54s 114 ≤ 100000 := hRqr54s.1 114; omega)
        exact L59 FU p0 0 s59 hRs59 (by show p0 = p0; have : (0 : Int) ≤ gI qr57s 114 ∧ gI qr57s 114 ≤ 100000 := hRqr57s.1 114; have : gI s51 114 = 0 := q_II es51; have : (0 : Int) ≤ gI qr54s 114 ∧ gI qr54s 114 ≤ 100000 := hRqr54s.1 114; omega) (by show 0 ≤ (0 : Int) ∧ (0 : Int) ≤ 8; have : (0 : Int) ≤ gI qr57s 114 ∧ gI qr57s 114 ≤ 100000 := hRqr57s.1 114; have : gI s51 114 = 0 := q_II es51; have : (0 : Int) ≤ gI qr54s 114 ∧ gI qr54s 114 ≤ 100000 := hRqr54s.1 114; omega) (⟨by omega, ((q_Aa es59 (by decide) : gA s59 39 = gA qr57s 39).trans ((Fqr57s.2.1 39 (by decide)).trans ((Fqr54s.2.1 39 (by decide)).trans (q_Ia es51 : gA s51 39 = gA s 39))))⟩) (⟨by rw [k59, upZ_s]; omega, fun u hu => absurd hu (by omega)⟩) (by have := FU_big; have := FU_big2; have : (0 : Int) ≤ gI qr57s 114 ∧ gI qr57s 114 ≤ 100000 := hRqr57s.1 114; have : gI s51 114 = 0 := q_II es51; have : (0 : Int) ≤ gI qr54s 114 ∧ gI qr54s 114 ≤ 100000 := hRqr54s.1 114; omega)
      · skip
        unfold m_x12_isLaid_J54
        exact wp_some ⟨hRs59, by show (0 : Int) = 0 ∨ ((0 : Int) = 1 ∧ LBs s59 ∧ (0 ≤ gA s59 113 16 ∧ gA s59 113 16 ≤ 999999) ∧ (∀ u, u < 16 → 0 ≤ gA s59 113 u ∧ gA s59 113 u ≤ 255) ∧ ∀ b : Nat, b < 48 → gA s59 39 5 ≤ (b : Int) → gA s59 113 (17 + 16 * b) = 0 ∧ gA s59 113 (18 + 16 * b) = 0); first | exact Or.inl rfl | exact Or.inr ⟨rfl, ⟨by rw [hv135_2]; omega, by rw [hv135_2]; omega, fun b hb => by rw [hv135_2]; exact hv135_4 b (by omega) (by omega)⟩, hv135_3.1, fun u hu => (by
      by_cases z : u < 8
      · have q := hv135_3.2 u (by omega)
        exact ⟨q.1.2.2 (by omega), q.1.2.1⟩
      · have q := hv135_3.2 (u - 8) (by omega)
        rw [show 8 + (u - 8) = u by omega] at q
        exact ⟨q.2.2.2 (by omega), q.2.2.1⟩), fun b hb h9 => hv135_5 b (by rw [hv135_2] at h9; exact h9) (by omega)⟩⟩
/-! ===== on: an image's trees: paths and keys ===== -/
def hLa (f : Nat → Int) : SH := (fun p => f (19 + 16 * p), fun p => f (20 + 16 * p), fun p k => if k < 6 then f (27 + 16 * p + k) else 0)
def kLa (f : Nat → Int) : Nat → Nat → Int := fun p k => if k < 6 then f (21 + 16 * p + k) else 0
def cLa (f : Nat → Int) (w : Nat) : Nat → Int := fun p => f (17 + 16 * p + w)
def rLa (f : Nat → Int) (w : Nat) : Nat → Int := fun v => if v < 8 then f (8 * w + v) else 0
/-- a block that is there -/
def DLa (f : Nat → Int) (b : Nat) : Prop := f (17 + 16 * b) + f (18 + 16 * b) ≠ 0
/-- an image as it is laid -/
def IG (f : Nat → Int) (N E : Int) : Prop := (0 ≤ N ∧ N ≤ 48) ∧ (3 ≤ E ∧ E ≤ 6) ∧ (∀ b, b < 48 → LB_r f E b) ∧ (∀ b : Nat, b < 48 → N ≤ (b : Int) → f (17 + 16 * b) = 0 ∧ f (18 + 16 * b) = 0) ∧ (∀ b : Nat, (b : Int) < N → ∀ k : Nat, (k : Int) < f (20 + 16 * b) → AV1 f N b k) ∧ (∀ u, u < 16 → 0 ≤ f u ∧ f u ≤ 255)
theorem IG_there {f : Nat → Int} {N E : Int} {b : Nat} (H : IG f N E) (hb : b < 48) (hd : DLa f b) : (b : Int) < N ∧ (0 ≤ (hLa f).1 b ∧ (hLa f).1 b ≤ 255) ∧ (1 ≤ (hLa f).2.1 b ∧ (hLa f).2.1 b ≤ E) ∧ (∀ k : Nat, (k : Int) < (hLa f).2.1 b → 0 ≤ kLa f b k ∧ kLa f b k ≤ 999) := by
  obtain ⟨hN, hE, hB, hZ, _, _⟩ := H
  have hd' : f (17 + 16 * b) + f (18 + 16 * b) ≠ 0 := hd
  have lt : (b : Int) < N := by
    by_cases w : (b : Int) < N
    · exact w
    · have q := hZ b hb (by omega)
      omega
  rcases (hB b hb).2 with ⟨z, _⟩ | ⟨_, q2, q3, _, q5, _⟩
  · exact absurd z hd'
  · refine ⟨lt, q2, q3, fun k hk => ?_⟩
    have hk' : (k : Int) < f (20 + 16 * b) := hk
    show 0 ≤ (if k < 6 then f (21 + 16 * b + k) else 0) ∧ (if k < 6 then f (21 + 16 * b + k) else 0) ≤ 999
    rw [if_pos (by omega)]
    exact q5 k hk'
theorem IG_kid {f : Nat → Int} {N E : Int} {b k : Nat} (H : IG f N E) (hb : b < 48) (hd : DLa f b) (hl : 0 < (hLa f).1 b) (hk : (k : Int) < (hLa f).2.1 b) : (0 ≤ (hLa f).2.2 b k ∧ (hLa f).2.2 b k < N) ∧ (hLa f).1 ((hLa f).2.2 b k).toNat = (hLa f).1 b - 1 ∧ DLa f ((hLa f).2.2 b k).toNat := by
  have t := IG_there H hb hd
  have v := H.2.2.2.2.1 b t.1 k hk
  have hE := H.2.1
  have e : (hLa f).2.2 b k = f (27 + 16 * b + k) := by
    show (if k < 6 then f (27 + 16 * b + k) else 0) = _
    exact if_pos (by omega)
  rw [e]
  rcases v with ⟨z, _⟩ | ⟨_, a, d, l⟩
  · have : 0 < f (19 + 16 * b) := hl
    omega
  · exact ⟨a, l, d⟩
theorem IG_rise {f : Nat → Int} {N E : Int} {b : Nat} (H : IG f N E) (hb : b < 48) (hd : DLa f b) : ∀ j i : Nat, 1 ≤ i → i ≤ j → (j : Int) < (hLa f).2.1 b → kLa f b i ≤ kLa f b j := by
  have t := IG_there H hb hd
  have hE := H.2.1
  have hd' : f (17 + 16 * b) + f (18 + 16 * b) ≠ 0 := hd
  have q6 : ∀ k : Nat, (k : Int) + 1 < f (20 + 16 * b) → (0 < k ∨ f (19 + 16 * b) = 0) → f (21 + 16 * b + k) < f (21 + 16 * b + (k + 1)) := by
    rcases (H.2.2.1 b hb).2 with ⟨z, _⟩ | ⟨_, _, _, _, _, q⟩
    · exact absurd z hd'
    · exact q
  intro j
  induction j with
  | zero => intro i h1 h2; omega
  | succ j ih =>
    intro i h1 h2 h3
    by_cases z : i = j + 1
    · rw [z]; exact Int.le_refl _
    · have a := ih i h1 (by omega) (by omega)
      have h3' : ((j + 1 : Nat) : Int) < f (20 + 16 * b) := h3
      have c := q6 j (by omega) (Or.inl (by omega))
      have e1 : kLa f b j = f (21 + 16 * b + j) := by
        show (if j < 6 then f (21 + 16 * b + j) else 0) = _
        exact if_pos (by omega)
      have e2 : kLa f b (j + 1) = f (21 + 16 * b + (j + 1)) := by
        show (if j + 1 < 6 then f (21 + 16 * b + (j + 1)) else 0) = _
        exact if_pos (by omega)
      rw [e2]
      rw [e1] at a
      omega
theorem sm_mulr (n : Nat) (f : Nat → Int) (c : Int) : sm n f * c = sm n (fun k => f k * c) := by
  induction n with
  | zero => exact Int.zero_mul c
  | succ n ih =>
    show (sm n f + f n) * c = sm n (fun k => f k * c) + f n * c
    rw [Int.add_mul, ih]
theorem sm_dl {b : Nat} (hb : b < 48) (g : Nat → Int) : sm 48 (fun p => (if b = p then (1 : Int) else 0) * g p) = g b := by
  have h1 := sm_one (n := 48) (i := b) (f := fun _ => 0) (g := fun p => (if b = p then (1 : Int) else 0) * g p) hb (fun j _ hn => by
    show (if b = j then (1 : Int) else 0) * g j = 0
    rw [if_neg (fun w => hn w.symm), Int.zero_mul])
  rw [h1, sm_0 (fun _ _ => rfl)]
  show (0 : Int) - 0 + (if b = b then (1 : Int) else 0) * g b = g b
  rw [if_pos rfl, Int.one_mul]; omega
/-- at most one is 1 -/
theorem sm_le1 {n : Nat} {g : Nat → Int} (h1 : ∀ k, k < n → 0 ≤ g k ∧ g k ≤ 1) (h2 : ∀ i j, i < n → j < n → i ≠ j → 0 < g i → 0 < g j → False) : sm n g ≤ 1 := by
  induction n with
  | zero => show (0 : Int) ≤ 1; omega
  | succ n ih =>
    show sm n g + g n ≤ 1
    have a := h1 n (by omega)
    have b := ih (fun k hk => h1 k (by omega)) (fun i j hi hj => h2 i j (by omega) (by omega))
    by_cases z : 0 < g n
    · have s0 : sm n g = 0 := sm_0 (fun i hi => by
        have c := h1 i (by omega)
        by_cases w : 0 < g i
        · exact absurd z (fun z => h2 i n (by omega) (by omega) (by omega) w z)
        · omega)
      omega
    · omega
theorem sm_cut {n m : Nat} {f : Nat → Int} (h : n ≤ m) (hz : ∀ i, n ≤ i → i < m → f i = 0) : sm m f = sm n f := by
  obtain ⟨d, rfl⟩ : ∃ d, m = n + d := ⟨m - n, by omega⟩
  rw [sm_app, sm_0 (fun j hj => hz (n + j) (by omega) (by omega))]
  omega
/-- how many ways lead from a block to another, down L levels -/
def muL (h : SH) : Nat → Nat → Nat → Int
  | 0, b, x => if b = x then 1 else 0
  | L + 1, b, x => (if b = x then 1 else 0) + sm (h.2.1 b).toNat (fun k => muL h L (h.2.2 b k).toNat x)
theorem muL_0 (h : SH) (b x : Nat) : muL h 0 b x = if b = x then 1 else 0 := rfl
theorem muL_s (h : SH) (L b x : Nat) : muL h (L + 1) b x = (if b = x then 1 else 0) + sm (h.2.1 b).toNat (fun k => muL h L (h.2.2 b k).toNat x) := rfl
theorem muL_nn (h : SH) (L : Nat) : ∀ b x, 0 ≤ muL h L b x := by
  induction L with
  | zero =>
    intro b x
    rw [muL_0]
    split <;> omega
  | succ L ih =>
    intro b x
    rw [muL_s]
    have a := sm_nn (n := (h.2.1 b).toNat) (f := fun k => muL h L (h.2.2 b k).toNat x) (fun k _ => ih _ _)
    by_cases z : b = x
    · rw [if_pos z]; omega
    · rw [if_neg z]; omega
/-- the last step instead of the first -/
theorem muL_eq {f : Nat → Int} {N E : Int} (H : IG f N E) : ∀ (L b : Nat), b < 48 → DLa f b → (hLa f).1 b = (L : Int) → ∀ x : Nat, x < 48 → muL (hLa f) L b x = (if b = x then 1 else 0) + sm 48 (fun p => muL (hLa f) L b p * en (hLa f) p (x : Int)) := by
  have hN := H.1
  intro L
  induction L with
  | zero =>
    intro b hb hd hl x hx
    have s0 : sm 48 (fun p => muL (hLa f) 0 b p * en (hLa f) p (x : Int)) = 0 := sm_0 (fun p hp => by
      rw [muL_0]
      by_cases z : b = p
      · rw [← z, en_leaf (by omega)]; exact Int.mul_zero _
      · rw [if_neg z]; exact Int.zero_mul _)
    rw [s0, muL_0]
    exact (Int.add_zero _).symm
  | succ L ih =>
    intro b hb hd hl x hx
    have t := IG_there H hb hd
    have hE := H.2.1
    have hl0 : 0 < (hLa f).1 b := by omega
    have e1 : ∀ k, k < ((hLa f).2.1 b).toNat → muL (hLa f) L ((hLa f).2.2 b k).toNat x = (if (hLa f).2.2 b k = (x : Int) then 1 else 0) + sm 48 (fun p => muL (hLa f) L ((hLa f).2.2 b k).toNat p * en (hLa f) p (x : Int)) := fun k hk => by
      have kd := IG_kid (k := k) H hb hd hl0 (by omega)
      have q := ih ((hLa f).2.2 b k).toNat (by omega) kd.2.2 (by omega) x hx
      rw [q]
      by_cases z : (hLa f).2.2 b k = (x : Int)
      · rw [if_pos z, if_pos (by omega)]
      · rw [if_neg z, if_neg (by omega)]
    have e2 : sm 48 (fun p => muL (hLa f) (L + 1) b p * en (hLa f) p (x : Int)) = sm 48 (fun p => (if b = p then (1 : Int) else 0) * en (hLa f) p (x : Int)) + sm 48 (fun p => sm ((hLa f).2.1 b).toNat (fun k => muL (hLa f) L ((hLa f).2.2 b k).toNat p * en (hLa f) p (x : Int))) := by
      rw [← sm_add 48 (fun p => (if b = p then (1 : Int) else 0) * en (hLa f) p (x : Int)) (fun p => sm ((hLa f).2.1 b).toNat (fun k => muL (hLa f) L ((hLa f).2.2 b k).toNat p * en (hLa f) p (x : Int)))]
      refine sm_c (fun p hp => ?_)
      show muL (hLa f) (L + 1) b p * en (hLa f) p (x : Int) = (if b = p then (1 : Int) else 0) * en (hLa f) p (x : Int) + sm ((hLa f).2.1 b).toNat (fun k => muL (hLa f) L ((hLa f).2.2 b k).toNat p * en (hLa f) p (x : Int))
      rw [muL_s, Int.add_mul, sm_mulr]
    have e3 := sm_dl (b := b) hb (fun p => en (hLa f) p (x : Int))
    have e4 := sm_sw 48 ((hLa f).2.1 b).toNat (fun p k => muL (hLa f) L ((hLa f).2.2 b k).toNat p * en (hLa f) p (x : Int))
    have e5 := en_sm (h := hLa f) (p := b) (x := (x : Int)) (by omega)
    rw [if_pos hl0] at e5
    have e6 := sm_add ((hLa f).2.1 b).toNat (fun k => if (hLa f).2.2 b k = (x : Int) then (1 : Int) else 0) (fun k => sm 48 (fun p => muL (hLa f) L ((hLa f).2.2 b k).toNat p * en (hLa f) p (x : Int)))
    have e7 : sm ((hLa f).2.1 b).toNat (fun k => muL (hLa f) L ((hLa f).2.2 b k).toNat x) = sm ((hLa f).2.1 b).toNat (fun k => (if (hLa f).2.2 b k = (x : Int) then (1 : Int) else 0) + sm 48 (fun p => muL (hLa f) L ((hLa f).2.2 b k).toNat p * en (hLa f) p (x : Int))) := sm_c e1
    rw [muL_s, e7, e6, e2, e3, e4, e5]
/-- a key under a block -/
def Ukey (f : Nat → Int) : Nat → Nat → Int → Prop
  | 0, b, z => ∃ k : Nat, (k : Int) < (hLa f).2.1 b ∧ kLa f b k = z
  | L + 1, b, z => ∃ k : Nat, (k : Int) < (hLa f).2.1 b ∧ Ukey f L ((hLa f).2.2 b k).toNat z
theorem muL_in {f : Nat → Int} {N E : Int} (H : IG f N E) : ∀ (L b : Nat), b < 48 → DLa f b → (hLa f).1 b = (L : Int) → ∀ x : Nat, x < 48 → 0 < muL (hLa f) L b x → DLa f x ∧ ∃ l : Nat, l ≤ L ∧ (hLa f).1 x = (l : Int) ∧ (l = L → b = x) ∧ ∀ z, Ukey f l x z → Ukey f L b z := by
  have hN := H.1
  intro L
  induction L with
  | zero =>
    intro b hb hd hl x hx hm
    by_cases z : b = x
    · rw [← z]; exact ⟨hd, 0, Nat.le_refl 0, hl, fun _ => rfl, fun _ h => h⟩
    · rw [muL_0, if_neg z] at hm; omega
  | succ L ih =>
    intro b hb hd hl x hx hm
    have t := IG_there H hb hd
    by_cases z : b = x
    · rw [← z]; exact ⟨hd, L + 1, Nat.le_refl _, hl, fun _ => rfl, fun _ h => h⟩
    · rw [muL_s, if_neg z] at hm
      obtain ⟨k, hk, hk2⟩ := sm_ex (n := ((hLa f).2.1 b).toNat) (f := fun k => muL (hLa f) L ((hLa f).2.2 b k).toNat x) (by omega)
      have hk2 : 0 < muL (hLa f) L ((hLa f).2.2 b k).toNat x := hk2
      have kd := IG_kid (k := k) H hb hd (by omega) (by omega)
      obtain ⟨dx, l, h1, h2, _, h4⟩ := ih ((hLa f).2.2 b k).toNat (by omega) kd.2.2 (by omega) x hx hk2
      exact ⟨dx, l, by omega, h2, fun w => by omega, fun v hv => ⟨k, by omega, h4 v hv⟩⟩
theorem Ukey_ex {f : Nat → Int} {N E : Int} (H : IG f N E) : ∀ (L b : Nat), b < 48 → DLa f b → (hLa f).1 b = (L : Int) → ∃ z, Ukey f L b z := by
  have hN := H.1
  intro L
  induction L with
  | zero =>
    intro b hb hd hl
    have t := IG_there H hb hd
    exact ⟨kLa f b 0, 0, by omega, rfl⟩
  | succ L ih =>
    intro b hb hd hl
    have t := IG_there H hb hd
    have kd := IG_kid (k := 0) H hb hd (by omega) (by omega)
    obtain ⟨z, hz⟩ := ih ((hLa f).2.2 b 0).toNat (by omega) kd.2.2 (by omega)
    exact ⟨z, 0, by omega, hz⟩
/-- children whose keys are apart, each without a block twice: then the block too -/
theorem muL_one {f : Nat → Int} {N E : Int} {L b : Nat} (H : IG f N E) (hb : b < 48) (hd : DLa f b) (hl : (hLa f).1 b = ((L + 1 : Nat) : Int)) (kids : ∀ k : Nat, (k : Int) < (hLa f).2.1 b → ∀ x, x < 48 → muL (hLa f) L ((hLa f).2.2 b k).toNat x ≤ 1) (sep : ∀ k j : Nat, (k : Int) < (hLa f).2.1 b → (j : Int) < (hLa f).2.1 b → k < j → ∀ z, Ukey f L ((hLa f).2.2 b k).toNat z → Ukey f L ((hLa f).2.2 b j).toNat z → False) : ∀ x, x < 48 → muL (hLa f) (L + 1) b x ≤ 1 := by
  intro x hx
  have hN := H.1
  have t := IG_there H hb hd
  have kd := fun k hk => IG_kid (k := k) H hb hd (by omega) hk
  rw [muL_s]
  by_cases z : b = x
  · have s0 : sm ((hLa f).2.1 b).toNat (fun k => muL (hLa f) L ((hLa f).2.2 b k).toNat x) = 0 := sm_0 (fun k hk => by
      have nn := muL_nn (hLa f) L ((hLa f).2.2 b k).toNat x
      have q := kd k (by omega)
      by_cases w : 0 < muL (hLa f) L ((hLa f).2.2 b k).toNat x
      · obtain ⟨_, l, h1, h2, _⟩ := muL_in H L ((hLa f).2.2 b k).toNat (by omega) q.2.2 (by omega) x hx w
        rw [← z, hl] at h2
        omega
      · omega)
    rw [if_pos z, s0]; omega
  · rw [if_neg z]
    have two : ∀ i j, i < ((hLa f).2.1 b).toNat → j < ((hLa f).2.1 b).toNat → i < j → 0 < muL (hLa f) L ((hLa f).2.2 b i).toNat x → 0 < muL (hLa f) L ((hLa f).2.2 b j).toNat x → False := by
      intro i j hi hj hij wi wj
      have qi := kd i (by omega)
      have qj := kd j (by omega)
      obtain ⟨dx, l, h1, h2, _, h4⟩ := muL_in H L ((hLa f).2.2 b i).toNat (by omega) qi.2.2 (by omega) x hx wi
      obtain ⟨_, l', h1', h2', _, h4'⟩ := muL_in H L ((hLa f).2.2 b j).toNat (by omega) qj.2.2 (by omega) x hx wj
      have el : l' = l := by omega
      rw [el] at h4'
      obtain ⟨v, hv⟩ := Ukey_ex H l x hx dx h2
      exact sep i j (by omega) (by omega) hij v (h4 v hv) (h4' v hv)
    have s1 := sm_le1 (n := ((hLa f).2.1 b).toNat) (g := fun k => muL (hLa f) L ((hLa f).2.2 b k).toNat x) (fun k hk => ⟨muL_nn _ _ _ _, kids k (by omega) x hx⟩) (fun i j hi hj hij wi wj => by
      by_cases c : i < j
      · exact two i j hi hj c wi wj
      · exact two j i hj hi (by omega) wj wi)
    omega
/-- no block twice under b -/
def KO (f : Nat → Int) (b : Nat) : Prop := ∀ l : Nat, (hLa f).1 b = (l : Int) → ∀ x, x < 48 → muL (hLa f) l b x ≤ 1
theorem KO_0 {f : Nat → Int} {b : Nat} (h : (hLa f).1 b = 0) : KO f b := fun l hl x _ => by
  have : l = 0 := by omega
  rw [this, muL_0]
  split <;> omega
theorem MV_L {f : Nat → Int} {N E : Int} {L b : Nat} (H : IG f N E) (hb : b < 48) (hd : DLa f b) (hl : (hLa f).1 b = (L : Int)) (ko : ∀ x, x < 48 → muL (hLa f) L b x ≤ 1) : MV (hLa f) (muL (hLa f) L b) (b : Int) (fun _ => 0) := by
  have m01 : ∀ x, x < 48 → muL (hLa f) L b x = 0 ∨ muL (hLa f) L b x = 1 := fun x hx => by
    have a := muL_nn (hLa f) L b x
    have c := ko x hx
    omega
  refine ⟨m01, fun x hx => ?_⟩
  have e := muL_eq H L b hb hd hl x hx
  have e2 : sm 48 (fun p => muL (hLa f) L b p * en (hLa f) p (x : Int)) = sm 48 (fun p => if 0 < muL (hLa f) L b p then en (hLa f) p (x : Int) else 0) := sm_c (fun p hp => by
    rcases m01 p hp with q | q
    · rw [q, if_neg (by omega)]; exact Int.zero_mul _
    · rw [q, if_pos (by omega)]; exact Int.one_mul _)
  rw [e2] at e
  have ei : (if (b : Int) = (x : Int) then (1 : Int) else 0) = if b = x then 1 else 0 := by
    by_cases z : b = x
    · rw [if_pos z, if_pos (by omega)]
    · rw [if_neg z, if_neg (by omega)]
  show muL (hLa f) L b x - (rr (sr (b : Int)) (x : Int) + sm 48 (fun p => if 0 < muL (hLa f) L b p then en (hLa f) p (x : Int) else 0)) = 0
  rw [rr_sr, ei]
  omega
/-- what lies under a block, by its own level -/
def UK (f : Nat → Int) (b : Nat) (z : Int) : Prop := ∃ l : Nat, (hLa f).1 b = (l : Int) ∧ Ukey f l b z
/-- under one that waits -/
def UW (f st : Nat → Int) (w : Nat) (z : Int) : Prop := ∃ j, j < w ∧ UK f (st j).toNat z
/-- under an entry from the k-th on -/
def UR (f : Nat → Int) (b : Nat) (k : Int) (z : Int) : Prop := ∃ i : Nat, k ≤ (i : Int) ∧ (i : Int) < (hLa f).2.1 b ∧ (((hLa f).1 b = 0 ∧ kLa f b i = z) ∨ (0 < (hLa f).1 b ∧ UK f ((hLa f).2.2 b i).toNat z))
theorem UK_UR {f : Nat → Int} {N E : Int} {b : Nat} {z : Int} (H : IG f N E) (hb : b < 48) (hd : DLa f b) (h : UK f b z) : UR f b 0 z := by
  obtain ⟨l, h1, h2⟩ := h
  cases l with
  | zero =>
    obtain ⟨k, a, c⟩ := h2
    exact ⟨k, by omega, a, Or.inl ⟨by omega, c⟩⟩
  | succ l =>
    obtain ⟨k, a, c⟩ := h2
    have kd := IG_kid (k := k) H hb hd (by omega) a
    exact ⟨k, by omega, a, Or.inr ⟨by omega, l, by omega, c⟩⟩
theorem UW_pop {f st : Nat → Int} {w : Nat} {z : Int} (h : UW f st (w + 1) z) : UW f st w z ∨ UK f (st w).toNat z := by
  obtain ⟨j, a, c⟩ := h
  by_cases q : j = w
  · rw [q] at c; exact Or.inr c
  · exact Or.inl ⟨j, by omega, c⟩
theorem UW_push {f st : Nat → Int} {w : Nat} {z v : Int} (h : UW f st w z ∨ UK f v.toNat z) : UW f (upZ st w v) (w + 1) z := by
  rcases h with ⟨j, a, c⟩ | c
  · exact ⟨j, by omega, by rw [upZ_n (by omega)]; exact c⟩
  · exact ⟨w, by omega, by rw [upZ_s]; exact c⟩
theorem UR_step {f : Nat → Int} {b : Nat} {k z : Int} (hk : 0 ≤ k) (h : UR f b k z) : UR f b (k + 1) z ∨ (((hLa f).1 b = 0 ∧ kLa f b k.toNat = z) ∨ (0 < (hLa f).1 b ∧ UK f ((hLa f).2.2 b k.toNat).toNat z)) := by
  obtain ⟨i, a, c, d⟩ := h
  by_cases q : (i : Int) = k
  · rw [show i = k.toNat by omega] at d; exact Or.inr d
  · exact Or.inl ⟨i, by omega, c, d⟩
/-! ===== on: what is laid is read; counts ===== -/
section LD
variable {S : MS} {f : Nat → Int} {b k : Int}
theorem ld_size (hR : Rr S) (e : gA S 113 = f) (hb : 0 ≤ b ∧ b < 48) : wp (m_x12_laidOf b 3 S) (fun r => r = (hLa f).2.1 b.toNat ∧ R2 r) := by
  refine wp_mono (w_x12_laidOf hR hb (by omega)) (fun r h => ⟨?_, h.2⟩)
  rw [h.1, e]
  show f (17 + 16 * b.toNat + (3 : Int).toNat) = f (20 + 16 * b.toNat)
  rw [show 17 + 16 * b.toNat + (3 : Int).toNat = 20 + 16 * b.toNat by omega]
theorem ld_lev (hR : Rr S) (e : gA S 113 = f) (hb : 0 ≤ b ∧ b < 48) : wp (m_x12_laidOf b 2 S) (fun r => r = (hLa f).1 b.toNat ∧ R2 r) := by
  refine wp_mono (w_x12_laidOf hR hb (by omega)) (fun r h => ⟨?_, h.2⟩)
  rw [h.1, e]
  show f (17 + 16 * b.toNat + (2 : Int).toNat) = f (19 + 16 * b.toNat)
  rw [show 17 + 16 * b.toNat + (2 : Int).toNat = 19 + 16 * b.toNat by omega]
theorem ld_key (hR : Rr S) (e : gA S 113 = f) (hb : 0 ≤ b ∧ b < 48) (hk : 0 ≤ k ∧ k < 6) : wp (m_x12_laidOf b (4 + k) S) (fun r => r = kLa f b.toNat k.toNat ∧ R2 r) := by
  refine wp_mono (w_x12_laidOf hR hb (by omega)) (fun r h => ⟨?_, h.2⟩)
  rw [h.1, e]
  show f (17 + 16 * b.toNat + (4 + k).toNat) = if k.toNat < 6 then f (21 + 16 * b.toNat + k.toNat) else 0
  rw [if_pos (by omega), show 17 + 16 * b.toNat + (4 + k).toNat = 21 + 16 * b.toNat + k.toNat by omega]
theorem ld_key5 (hR : Rr S) (e : gA S 113 = f) (hb : 0 ≤ b ∧ b < 48) (hk : 0 ≤ k ∧ k < 5) : wp (m_x12_laidOf b (5 + k) S) (fun r => r = kLa f b.toNat (k.toNat + 1) ∧ R2 r) := by
  refine wp_mono (w_x12_laidOf hR hb (by omega)) (fun r h => ⟨?_, h.2⟩)
  rw [h.1, e]
  show f (17 + 16 * b.toNat + (5 + k).toNat) = if k.toNat + 1 < 6 then f (21 + 16 * b.toNat + (k.toNat + 1)) else 0
  rw [if_pos (by omega), show 17 + 16 * b.toNat + (5 + k).toNat = 21 + 16 * b.toNat + (k.toNat + 1) by omega]
theorem ld_ent (hR : Rr S) (e : gA S 113 = f) (hb : 0 ≤ b ∧ b < 48) (hk : 0 ≤ k ∧ k < 6) : wp (m_x12_laidOf b (10 + k) S) (fun r => r = (hLa f).2.2 b.toNat k.toNat ∧ R2 r) := by
  refine wp_mono (w_x12_laidOf hR hb (by omega)) (fun r h => ⟨?_, h.2⟩)
  rw [h.1, e]
  show f (17 + 16 * b.toNat + (10 + k).toNat) = if k.toNat < 6 then f (27 + 16 * b.toNat + k.toNat) else 0
  rw [if_pos (by omega), show 17 + 16 * b.toNat + (10 + k).toNat = 27 + 16 * b.toNat + k.toNat by omega]
theorem ld_cnt (hR : Rr S) (e : gA S 113 = f) (hb : 0 ≤ b ∧ b < 48) (hk : k = 0 ∨ k = 1) : wp (m_x12_laidOf b k S) (fun r => r = cLa f k.toNat b.toNat ∧ R2 r) := by
  refine wp_mono (w_x12_laidOf hR hb (by omega)) (fun r h => ⟨?_, h.2⟩)
  rw [h.1, e]
  rfl
end LD
/-- counts as roots and entries make them -/
def CQ (f : Nat → Int) (N : Int) (w : Nat) : Prop := RO N (rLa f w) ∧ ∀ x : Nat, x < 48 → df (hLa f) (cLa f w) (rLa f w) x = 0
theorem cLa_nn {f : Nat → Int} {N E : Int} {w p : Nat} (H : IG f N E) (hw : w < 2) (hp : p < 48) : 0 ≤ cLa f w p ∧ cLa f w p ≤ 255 ∧ (N ≤ (p : Int) → cLa f w p = 0) ∧ (cLa f w p ≠ 0 → DLa f p) := by
  have q := (H.2.2.1 p hp).1
  have z := H.2.2.2.1 p hp
  unfold cLa DLa
  by_cases c : w = 0
  · rw [c]
    exact ⟨q.1.1, q.1.2, fun h => (z h).1, fun h h2 => by have h' : f (17 + 16 * p) ≠ 0 := h; omega⟩
  · rw [show 17 + 16 * p + w = 18 + 16 * p by omega]
    exact ⟨q.2.1, q.2.2, fun h => (z h).2, fun h h2 => by omega⟩
/-- nothing names a block that isn't there -/
theorem CQ_out {f : Nat → Int} {N E : Int} {w x : Nat} (H : IG f N E) (hw : w < 2) (hr : RO N (rLa f w)) (hx : x < 48) (hN : N ≤ (x : Int)) : rf (hLa f) (cLa f w) (rLa f w) (x : Int) = 0 := by
  unfold rf
  have e1 : rr (rLa f w) (x : Int) = 0 := sm_0 (fun v hv => by
    have q := hr v hv
    exact if_neg (by omega))
  have e2 : sm 48 (fun p => if 0 < cLa f w p then en (hLa f) p (x : Int) else 0) = 0 := sm_0 (fun p hp => by
    by_cases c : 0 < cLa f w p
    · rw [if_pos c]
      have nn := en_nn (hLa f) p (x : Int)
      by_cases g : 0 < en (hLa f) p (x : Int)
      · obtain ⟨hl, k, _, hk, hv⟩ := en_ex g
        have kd := IG_kid (k := k) H hp ((cLa_nn H hw hp).2.2.2 (by omega)) hl hk
        rw [hv] at kd
        omega
      · omega
    · exact if_neg c)
  rw [e1, e2]; rfl
def BD (f : Nat → Int) (B : Int) : Prop := ∀ x, x < 48 → 0 ≤ f x ∧ f x ≤ B
theorem BD_up {f : Nat → Int} {B : Int} {i : Nat} {y : Int} (H : BD f B) (hi : i < 48) (e : f i = y) : BD (upZ f i (y + 1)) (B + 1) := fun x hx => by
  have a := H i hi
  have c := H x hx
  by_cases z : x = i
  · rw [z, upZ_s]; omega
  · rw [upZ_n z]; omega
theorem BD_le {f : Nat → Int} {B B' : Int} (H : BD f B) (h : B ≤ B') : BD f B' := fun x hx => by have := H x hx; omega
/-- one more -/
theorem up1 {f : Nat → Int} {g : Nat → Int} {i : Nat} {y v : Int} (hg : ∀ x : Nat, x < 48 → f x = g x) (e : f i = y) (hv : 0 ≤ v) (hi : i = v.toNat) : ∀ x : Nat, x < 48 → upZ f i (y + 1) x = g x + (if v = (x : Int) then 1 else 0) := fun x hx => by
  by_cases z : x = i
  · rw [z, upZ_s, ← e, if_pos (by omega)]
    rw [z] at hx
    rw [hg i hx]
  · rw [upZ_n z, if_neg (by omega), hg x hx]; omega
set_option maxHeartbeats 2000000 in
theorem mt_areCounts {p0 : Int} {s : MS} {E : Int} (hRs : Rr s) (H : IG (gA s 113) (gA s 39 5) E) (hp : p0 = 0 ∨ p0 = 1) : wp (m_x12_areCounts p0 s) (fun q => Rr q.2 ∧ F_x12_areCounts s q.2 ∧ (q.1 = 0 ∨ (q.1 = 1 ∧ CQ (gA s 113) (gA s 39 5) p0.toNat))) := by
  obtain ⟨f, hf⟩ : ∃ f, f = gA s 113 := ⟨_, rfl⟩
  obtain ⟨N, hN⟩ : ∃ N, N = gA s 39 5 := ⟨_, rfl⟩
  obtain ⟨w, hw⟩ : ∃ w, w = p0.toNat := ⟨_, rfl⟩
  rw [← hf, ← hN] at H
  rw [← hf, ← hN, ← hw]
  have hw2 : w < 2 := by omega
  have n48 := H.1
  have hE := H.2.1
  have key : wp (m_x12_areCounts p0 s) (fun q => Rr q.2 ∧ (q.1 = 0 ∨ (q.1 = 1 ∧ CQ f N w))) := by
    have L153 : ∀ (n : Nat) (x : Int) (S : MS), Rr S → gA S 113 = f → gA S 39 5 = N → RO N (rLa f w) → (0 ≤ x ∧ x ≤ N) → BD (gA S 115) 400 → (∀ y : Nat, y < 48 → gA S 115 y = rf (hLa f) (cLa f w) (rLa f w) (y : Int)) → (∀ y : Nat, (y : Int) < x → rf (hLa f) (cLa f w) (rLa f w) (y : Int) = cLa f w y) → 48 - x < (n : Int) → wp (m_x12_areCounts_L153 n p0 x S) (fun q => Rr q.2 ∧ (q.1 = 0 ∨ (q.1 = 1 ∧ CQ f N w))) := by
      refine fr_ind (fun x S hRS h113 h39 hro hx hB h115 hdone hm => by exfalso; omega) (fun n ih x S hRS h113 h39 hro hx hB h115 hdone hm => ?_)
      show wp (m_x12_areCounts_b153 (m_x12_areCounts_L153 n) p0 x S) _
      unfold m_x12_areCounts_b153
      refine wp_bn (w_x12_blockMany hRS) (fun r5 e5 h5 => ?_)
      have h5 : r5 = gA S 39 5 := h5
      rw [h39] at h5
      refine wp_rg (by omega) (wp_rg (by omega) (wp_if (fun c1 => wp_some ⟨hRS, Or.inr ⟨rfl, hro, fun y hy => ?_⟩⟩) (fun c1 => ?_)))
      · show cLa f w y - rf (hLa f) (cLa f w) (rLa f w) (y : Int) = 0
        by_cases z : (y : Int) < x
        · rw [hdone y z]; omega
        · rw [CQ_out H hw2 hro hy (by omega), (cLa_nn H hw2 hy).2.2.1 (by omega)]; rfl
      · refine wp_rdIn (by omega) (fun y9 e9 => ?_)
        refine wp_bn (ld_cnt hRS h113 (by omega) hp) (fun r11 e11 h11 => ?_)
        have b9 := hB x.toNat (by omega)
        rw [e9] at b9
        have v9 := h115 x.toNat (by omega)
        rw [e9] at v9
        have v11 : r11 = cLa f w x.toNat := by rw [h11.1, hw]
        refine wp_rg (by omega) (wp_rg h11.2 (wp_if (fun c2 => ?_) (fun c2 => wp_some ⟨hRS, Or.inl rfl⟩)))
        refine ih (x + 1) S hRS h113 h39 hro (by omega) hB h115 (fun y hy => ?_) (by omega)
        by_cases z : y = x.toNat
        · rw [z, ← v9, ← v11]; exact c2
        · exact hdone y (by omega)
    have L80 : ∀ (n : Nat) (x : Int) (S : MS), Rr S → gA S 113 = f → gA S 39 5 = N → RO N (rLa f w) → (0 ≤ x ∧ x ≤ N) → BD (gA S 115) (8 + 6 * x) → (∀ y : Nat, y < 48 → gA S 115 y = rr (rLa f w) (y : Int) + sm x.toNat (fun p => if 0 < cLa f w p then en (hLa f) p (y : Int) else 0)) → 48 - x < (n : Int) → wp (m_x12_areCounts_L80 n p0 x S) (fun q => Rr q.2 ∧ (q.1 = 0 ∨ (q.1 = 1 ∧ CQ f N w))) := by
      refine fr_ind (fun x S hRS h113 h39 hro hx hB h115 hm => by exfalso; omega) (fun n ih x S hRS h113 h39 hro hx hB h115 hm => ?_)
      show wp (m_x12_areCounts_b80 (m_x12_areCounts_L80 n) p0 x S) _
      unfold m_x12_areCounts_b80
      refine wp_bn (w_x12_blockMany hRS) (fun r36 e36 h36 => ?_)
      have h36 : r36 = gA S 39 5 := h36
      rw [h39] at h36
      refine wp_rg (by omega) (wp_rg (by omega) (wp_if (fun c1 => ?_) (fun c1 => ?_)))
      · refine L153 FU 0 S hRS h113 h39 hro (by omega) (BD_le hB (by omega)) (fun y hy => ?_) (fun y hy => by omega) (by have := FU_big; omega)
        rw [h115 y hy]
        unfold rf
        rw [sm_cut (n := x.toNat) (m := 48) (f := fun p => if 0 < cLa f w p then en (hLa f) p (y : Int) else 0) (by omega) (fun i h1 h2 => by
          have q := (cLa_nn H hw2 h2).2.2.1 (by omega)
          exact if_neg (by omega))]
      · have xb : x.toNat < 48 := by omega
        have cx := cLa_nn H hw2 xb
        have nxt : ∀ T : MS, Rr T → gA T 113 = f → gA T 39 5 = N → BD (gA T 115) (8 + 6 * (x + 1)) → (∀ y : Nat, y < 48 → gA T 115 y = rr (rLa f w) (y : Int) + sm x.toNat (fun p => if 0 < cLa f w p then en (hLa f) p (y : Int) else 0) + (if 0 < cLa f w x.toNat then en (hLa f) x.toNat (y : Int) else 0)) → wp (m_x12_areCounts_J145 (m_x12_areCounts_L80 n) p0 x T) (fun q => Rr q.2 ∧ (q.1 = 0 ∨ (q.1 = 1 ∧ CQ f N w))) := by
          intro T hRT t113 t39 tB t115
          unfold m_x12_areCounts_J145
          refine ih (x + 1) T hRT t113 t39 hro (by omega) tB (fun y hy => ?_) (by omega)
          rw [t115 y hy, show (x + 1).toNat = x.toNat + 1 by omega]
          show _ = rr (rLa f w) (y : Int) + (sm x.toNat (fun p => if 0 < cLa f w p then en (hLa f) p (y : Int) else 0) + (if 0 < cLa f w x.toNat then en (hLa f) x.toNat (y : Int) else 0))
          omega
        refine wp_bn (ld_cnt hRS h113 (by omega) hp) (fun r41 e41 h41 => ?_)
        have v41 : r41 = cLa f w x.toNat := by rw [h41.1, hw]
        refine wp_rg h41.2 (wp_if (fun c2 => ?_) (fun c2 => ?_))
        · refine nxt S hRS h113 h39 (BD_le hB (by omega)) (fun y hy => ?_)
          rw [h115 y hy, if_neg (by omega : ¬ 0 < cLa f w x.toNat)]; omega
        · refine wp_bn (ld_lev hRS h113 (by omega)) (fun r45 e45 h45 => ?_)
          have dx := cx.2.2.2 (by omega)
          have t := IG_there H xb dx
          refine wp_rg h45.2 (wp_if (fun c3 => ?_) (fun c3 => ?_))
          · refine nxt S hRS h113 h39 (BD_le hB (by omega)) (fun y hy => ?_)
            rw [h115 y hy, if_pos (by omega : 0 < cLa f w x.toNat), en_leaf (by have := h45.1; omega)]; omega
          · have hl : 0 < (hLa f).1 x.toNat := by have := h45.1; omega
            have L111 : ∀ (m : Nat) (k : Int) (T : MS), Rr T → gA T 113 = f → gA T 39 5 = N → (0 ≤ k ∧ k ≤ (hLa f).2.1 x.toNat) → BD (gA T 115) (8 + 6 * x + k) → (∀ y : Nat, y < 48 → gA T 115 y = rr (rLa f w) (y : Int) + sm x.toNat (fun p => if 0 < cLa f w p then en (hLa f) p (y : Int) else 0) + sm k.toNat (fun j => if (hLa f).2.2 x.toNat j = (y : Int) then 1 else 0)) → 6 - k < (m : Int) → wp (m_x12_areCounts_L111 (m_x12_areCounts_L80 n) m p0 x k T) (fun q => Rr q.2 ∧ (q.1 = 0 ∨ (q.1 = 1 ∧ CQ f N w))) := by
              refine fr_ind (fun k T hRT t113 t39 hk tB t115 hm2 => by exfalso; omega) (fun m ihm k T hRT t113 t39 hk tB t115 hm2 => ?_)
              show wp (m_x12_areCounts_b111 (m_x12_areCounts_L80 n) (m_x12_areCounts_L111 (m_x12_areCounts_L80 n) m) p0 x k T) _
              unfold m_x12_areCounts_b111
              refine wp_bn (ld_size hRT t113 (by omega)) (fun r26 e26 h26 => ?_)
              have v26 := h26.1
              refine wp_rg (by omega) (wp_rg h26.2 (wp_if (fun c4 => ?_) (fun c4 => ?_)))
              · refine nxt T hRT t113 t39 (BD_le tB (by omega)) (fun y hy => ?_)
                rw [t115 y hy, if_pos (by omega : 0 < cLa f w x.toNat), en_sm (h := hLa f) (p := x.toNat) (x := (y : Int)) (by omega), if_pos hl, show k.toNat = ((hLa f).2.1 x.toNat).toNat by omega]
              · refine wp_bn (ld_ent hRT t113 (by omega) (by omega)) (fun r31 e31 h31 => ?_)
                have kd := (IG_kid (k := k.toNat) H xb dx hl (by omega)).1
                have v31 := h31.1
                rw [← v31] at kd
                refine wp_rdIn (by omega) (fun y32 e32 => ?_)
                have b32 := tB r31.toNat (by omega)
                rw [e32] at b32
                refine wp_inb (by omega) (wp_stn (fun s34 e34 => ?_))
                have hR34 : Rr s34 := e34 ▸ Rr.uAu hRT (by show (-2147483648 : Int) ≤ y32 + 1 ∧ y32 + 1 ≤ 2147483647; omega)
                have u115 : gA s34 115 = upZ (gA T 115) r31.toNat (y32 + 1) := q_AA e34
                have u39 : gA s34 39 = gA T 39 := q_Aa e34 (by decide)
                refine ihm (k + 1) s34 hR34 ((q_Aa e34 (by decide)).trans t113) (by rw [u39]; exact t39) (by omega) ?_ (fun y hy => ?_) (by omega)
                · rw [u115]; exact BD_le (BD_up tB (by omega) e32) (by omega)
                · rw [u115, up1 t115 e32 kd.1 rfl y hy, show (k + 1).toNat = k.toNat + 1 by omega]
                  show _ = _ + (sm k.toNat (fun j => if (hLa f).2.2 x.toNat j = (y : Int) then 1 else 0) + (if (hLa f).2.2 x.toNat k.toNat = (y : Int) then 1 else 0))
                  rw [← v31]
                  omega
            refine L111 FU 0 S hRS h113 h39 (by omega) (BD_le hB (by omega)) (fun y hy => ?_) (by have := FU_big; omega)
            rw [h115 y hy]
            show _ = _ + (0 : Int)
            omega
    have L23 : ∀ (n : Nat) (v : Int) (S : MS), Rr S → gA S 113 = f → gA S 39 5 = N → (0 ≤ v ∧ v ≤ 8) → BD (gA S 115) v → (∀ u : Nat, (u : Int) < v → (0 ≤ rLa f w u ∧ rLa f w u < N) ∨ rLa f w u < 0 ∨ 254 ≤ rLa f w u) → (∀ y : Nat, y < 48 → gA S 115 y = sm v.toNat (fun u => if rLa f w u = (y : Int) then 1 else 0)) → 8 - v < (n : Int) → wp (m_x12_areCounts_L23 n p0 v S) (fun q => Rr q.2 ∧ (q.1 = 0 ∨ (q.1 = 1 ∧ CQ f N w))) := by
      refine fr_ind (fun v S hRS h113 h39 hv hB hro h115 hm => by exfalso; omega) (fun n ih v S hRS h113 h39 hv hB hro h115 hm => ?_)
      show wp (m_x12_areCounts_b23 (m_x12_areCounts_L23 n) p0 v S) _
      unfold m_x12_areCounts_b23
      refine wp_rg (by omega) (wp_if (fun c1 => ?_) (fun c1 => ?_))
      · refine L80 FU 0 S hRS h113 h39 (fun u hu => hro u (by omega)) (by omega) (BD_le hB (by omega)) (fun y hy => ?_) (by have := FU_big; omega)
        rw [h115 y hy, show v.toNat = 8 by omega]
        show rr (rLa f w) (y : Int) = rr (rLa f w) (y : Int) + (0 : Int)
        omega
      · refine wp_rdIn (by omega) (fun y56 e56 => ?_)
        have v56 : y56 = rLa f w v.toNat := by
          rw [← e56, h113]
          show _ = if v.toNat < 8 then f (8 * w + v.toNat) else 0
          rw [if_pos (by omega), show (8 * p0 + v).toNat = 8 * w + v.toNat by omega]
        have b56 : 0 ≤ y56 ∧ y56 ≤ 255 := by
          have q := H.2.2.2.2.2 (8 * w + v.toNat) (by omega)
          rw [v56]
          show 0 ≤ (if v.toNat < 8 then f (8 * w + v.toNat) else 0) ∧ (if v.toNat < 8 then f (8 * w + v.toNat) else 0) ≤ 255
          rw [if_pos (by omega)]; exact q
        have nxt : ∀ T : MS, Rr T → gA T 113 = f → gA T 39 5 = N → BD (gA T 115) (v + 1) → ((0 ≤ y56 ∧ y56 < N) ∨ y56 < 0 ∨ 254 ≤ y56) → (∀ y : Nat, y < 48 → gA T 115 y = sm v.toNat (fun u => if rLa f w u = (y : Int) then 1 else 0) + (if y56 = (y : Int) then 1 else 0)) → wp (m_x12_areCounts_J72 (m_x12_areCounts_L23 n) p0 v T) (fun q => Rr q.2 ∧ (q.1 = 0 ∨ (q.1 = 1 ∧ CQ f N w))) := by
          intro T hRT t113 t39 tB ho t115
          unfold m_x12_areCounts_J72
          refine ih (v + 1) T hRT t113 t39 (by omega) tB (fun u hu => ?_) (fun y hy => ?_) (by omega)
          · by_cases z : u = v.toNat
            · rw [z, ← v56]; exact ho
            · exact hro u (by omega)
          · rw [t115 y hy, v56, show (v + 1).toNat = v.toNat + 1 by omega]
            rfl
        refine wp_rg (by omega) (wp_if (fun c2 => ?_) (fun c2 => ?_))
        · refine wp_rg (by omega) (wp_bn (w_x12_isBlock hRS (by omega) (by rw [h39]; omega)) (fun r61 e61 h61 => ?_))
          have h61 : (r61 = 1 ∧ 0 ≤ y56 ∧ y56 < gA S 39 5) ∨ (r61 = 0 ∧ (y56 < 0 ∨ gA S 39 5 ≤ y56)) := h61
          rw [h39] at h61
          refine wp_rg (by omega) (wp_if (fun c3 => wp_some ⟨hRS, Or.inl rfl⟩) (fun c3 => ?_))
          refine wp_rdIn (by omega) (fun y64 e64 => ?_)
          have b64 := hB y56.toNat (by omega)
          rw [e64] at b64
          refine wp_inb (by omega) (wp_stn (fun s66 e66 => ?_))
          have hR66 : Rr s66 := e66 ▸ Rr.uAu hRS (by show (-2147483648 : Int) ≤ y64 + 1 ∧ y64 + 1 ≤ 2147483647; omega)
          have u115 : gA s66 115 = upZ (gA S 115) y56.toNat (y64 + 1) := q_AA e66
          have u39 : gA s66 39 = gA S 39 := q_Aa e66 (by decide)
          refine nxt s66 hR66 ((q_Aa e66 (by decide)).trans h113) (by rw [u39]; exact h39) ?_ (by omega) (fun y hy => ?_)
          · rw [u115]; exact BD_up hB (by omega) e64
          · rw [u115, up1 h115 e64 (by omega) rfl y hy]
        · refine nxt S hRS h113 h39 (BD_le hB (by omega)) (by omega) (fun y hy => ?_)
          rw [h115 y hy, if_neg (by omega : ¬ y56 = (y : Int))]; omega
    have L2 : ∀ (n : Nat) (x : Int) (S : MS), Rr S → gA S 113 = f → gA S 39 5 = N → (0 ≤ x ∧ x ≤ 48) → (∀ y : Nat, (y : Int) < x → gA S 115 y = 0) → 48 - x < (n : Int) → wp (m_x12_areCounts_L2 n p0 x S) (fun q => Rr q.2 ∧ (q.1 = 0 ∨ (q.1 = 1 ∧ CQ f N w))) := by
      refine fr_ind (fun x S hRS h113 h39 hx hz hm => by exfalso; omega) (fun n ih x S hRS h113 h39 hx hz hm => ?_)
      show wp (m_x12_areCounts_b2 (m_x12_areCounts_L2 n) p0 x S) _
      unfold m_x12_areCounts_b2
      refine wp_rg (by omega) (wp_if (fun c1 => ?_) (fun c1 => ?_))
      · refine L23 FU 0 S hRS h113 h39 (by omega) (fun y hy => by rw [hz y (by omega)]; omega) (fun u hu => by omega) (fun y hy => ?_) (by have := FU_big; omega)
        rw [hz y (by omega)]
        rfl
      · refine wp_inb (by omega) (wp_stn (fun s73 e73 => ?_))
        have hR73 : Rr s73 := e73 ▸ Rr.uAu hRS (by show (-2147483648 : Int) ≤ 0 ∧ (0 : Int) ≤ 2147483647; omega)
        have u115 : gA s73 115 = upZ (gA S 115) x.toNat 0 := q_AA e73
        have u39 : gA s73 39 = gA S 39 := q_Aa e73 (by decide)
        refine ih (x + 1) s73 hR73 ((q_Aa e73 (by decide)).trans h113) (by rw [u39]; exact h39) (by omega) (fun y hy => ?_) (by omega)
        rw [u115]
        by_cases z : y = x.toNat
        · rw [z, upZ_s]
        · rw [upZ_n z]; exact hz y (by omega)
    unfold m_x12_areCounts
    exact L2 FU 0 s hRs hf.symm hN.symm (by omega) (fun y hy => by omega) (by have := FU_big; omega)
  exact wp_eq key (fun o eo ho => ⟨ho.1, fr_x12_areCounts eo, ho.2⟩)
/-! ===== on: keys lie between two; no block twice ===== -/
set_option maxHeartbeats 2000000 in
theorem mt_areBetween {p0 p1 p2 : Int} {s : MS} {N E : Int} (hRs : Rr s) (H : IG (gA s 113) N E) (hp : 0 ≤ p0 ∧ p0 < 48) (hd : DLa (gA s 113) p0.toNat) (ko : KO (gA s 113) p0.toNat) (h1 : R2 p1) (h2 : R2 p2) : wp (m_x12_areBetween p0 p1 p2 s) (fun q => Rr q.2 ∧ F_x12_areBetween s q.2 ∧ (q.1 = 0 ∨ (q.1 = 1 ∧ ∀ z, UK (gA s 113) p0.toNat z → p1 ≤ z ∧ z ≤ p2))) := by
  obtain ⟨f, hf⟩ : ∃ f, f = gA s 113 := ⟨_, rfl⟩
  rw [← hf] at H hd ko
  rw [← hf]
  have n48 := H.1
  have hE := H.2.1
  have key : wp (m_x12_areBetween p0 p1 p2 s) (fun q => Rr q.2 ∧ (q.1 = 0 ∨ (q.1 = 1 ∧ ∀ z, UK f p0.toNat z → p1 ≤ z ∧ z ≤ p2))) := by
    have L10 : ∀ (n : Nat) (x : Int) (S : MS) (M : Nat → Int), Rr S → gA S 113 = f → 0 ≤ x → WK (hLa f) M (gA S 62) x.toNat (fun _ => 0) → (∀ y, y < 48 → 0 < M y → DLa f y) → (∀ z, UK f p0.toNat z → (p1 ≤ z ∧ z ≤ p2) ∨ UW f (gA S 62) x.toNat z) → pos M < (n : Int) → wp (m_x12_areBetween_L10 n p1 p2 x S) (fun q => Rr q.2 ∧ (q.1 = 0 ∨ (q.1 = 1 ∧ ∀ z, UK f p0.toNat z → p1 ≤ z ∧ z ≤ p2))) := by
      refine fr_ind (fun x S M hRS h113 h0 hW hL hU hm => by exfalso; have := pos_b M; omega) (fun n ih x S M hRS h113 h0 hW hL hU hm => ?_)
      show wp (m_x12_areBetween_b10 (m_x12_areBetween_L10 n) p1 p2 x S) _
      unfold m_x12_areBetween_b10
      have wl := WK_le hW
      have pb := pos_b M
      refine wp_rg (by omega) (wp_if (fun c1 => wp_some ⟨hRS, Or.inr ⟨rfl, fun z hz => ?_⟩⟩) (fun c1 => ?_))
      · rcases hU z hz with q | ⟨j, hj, _⟩
        · exact q
        · omega
      have wx : x.toNat = (x.toNat - 1) + 1 := by omega
      rw [wx] at hW hU
      obtain ⟨m1, W1⟩ := WK_pop hW
      have hb := hW.2.1 (x.toNat - 1) (by omega)
      refine wp_rdIn (by omega) (fun y41 e41 => ?_)
      have e41' : gA S 62 (x.toNat - 1) = y41 := by rw [← e41, show (x + -1).toNat = x.toNat - 1 by omega]
      rw [e41'] at m1 W1 hb
      have b48 : y41.toNat < 48 := by omega
      have dw := hL y41.toNat b48 (by omega)
      have t := IG_there H b48 dw
      have ps : pos (upZ M y41.toNat 0) = pos M - 1 := WK_pos hW b48 m1
      have L1 : ∀ y, y < 48 → 0 < upZ M y41.toNat 0 y → DLa f y := fun y hy hm2 => by
        by_cases z : y = y41.toNat
        · rw [z, upZ_s] at hm2; omega
        · rw [upZ_n z] at hm2; exact hL y hy hm2
      have L30 : ∀ (m : Nat) (w k : Int) (Q : MS), Rr Q → gA Q 113 = f → 0 ≤ w → (0 ≤ k ∧ k ≤ (hLa f).2.1 y41.toNat) → WK (hLa f) (upZ M y41.toNat 0) (gA Q 62) w.toNat (fun y => enf (hLa f) y41.toNat k (y : Int)) → (∀ z, UK f p0.toNat z → (p1 ≤ z ∧ z ≤ p2) ∨ UW f (gA Q 62) w.toNat z ∨ UR f y41.toNat k z) → 6 - k < (m : Int) → wp (m_x12_areBetween_L30 (m_x12_areBetween_L10 n) m p1 p2 w y41 k Q) (fun q => Rr q.2 ∧ (q.1 = 0 ∨ (q.1 = 1 ∧ ∀ z, UK f p0.toNat z → p1 ≤ z ∧ z ≤ p2))) := by
        refine fr_ind (fun w k Q hRQ q113 hw hk WQ UQ hm2 => by exfalso; omega) (fun m ihm w k Q hRQ q113 hw hk WQ UQ hm2 => ?_)
        show wp (m_x12_areBetween_b30 (m_x12_areBetween_L10 n) (m_x12_areBetween_L30 (m_x12_areBetween_L10 n) m) p1 p2 w y41 k Q) _
        unfold m_x12_areBetween_b30
        have wl2 := WK_le WQ
        have pb2 := pos_b (upZ M y41.toNat 0)
        refine wp_bn (ld_size hRQ q113 (by omega)) (fun r18 e18 h18 => ?_)
        have v18 := h18.1
        refine wp_rg (by omega) (wp_rg h18.2 (wp_if (fun c2 => ?_) (fun c2 => ?_)))
        · refine ih w Q (upZ M y41.toNat 0) hRQ q113 hw ?_ L1 (fun z hz => ?_) (by omega)
          · refine WK_P WQ (fun y hy => ?_)
            show (0 : Int) = enf (hLa f) y41.toNat k (y : Int)
            rw [enf_end (by omega)]
          · rcases UQ z hz with q | q | ⟨i, a, c, _⟩
            · exact Or.inl q
            · exact Or.inr q
            · omega
        · refine wp_bn (ld_lev hRQ q113 (by omega)) (fun r23 e23 h23 => ?_)
          have v23 := h23.1
          refine wp_rg h23.2 (wp_if (fun c3 => ?_) (fun c3 => ?_))
          · refine wp_bn (ld_key hRQ q113 (by omega) (by omega)) (fun r31 e31 h31 => ?_)
            have v31 := h31.1
            have g31 := h31.2
            refine wp_rg g31 (wp_rg h1 (wp_rg h2 (wp_bn (w_x12_isIn hRQ (by omega) (by omega) (by omega)) (fun r36 e36 h36 => ?_))))
            have h36 : (r36 = 1 ∧ p1 ≤ r31 ∧ r31 ≤ p2) ∨ (r36 = 0 ∧ (r31 < p1 ∨ p2 < r31)) := h36
            refine wp_rg (by omega) (wp_if (fun c4 => wp_some ⟨hRQ, Or.inl rfl⟩) (fun c4 => ?_))
            unfold m_x12_areBetween_J96
            refine ihm w (k + 1) Q hRQ q113 hw (by omega) ?_ (fun z hz => ?_) (by omega)
            · refine WK_P WQ (fun y hy => ?_)
              show enf (hLa f) y41.toNat (k + 1) (y : Int) = enf (hLa f) y41.toNat k (y : Int)
              unfold enf
              rw [if_neg (by omega), if_neg (by omega)]
            · rcases UQ z hz with q | q | q
              · exact Or.inl q
              · exact Or.inr (Or.inl q)
              · rcases UR_step (by omega) q with g | ⟨_, g⟩ | ⟨g, _⟩
                · exact Or.inr (Or.inr g)
                · exact Or.inl (by rw [← g, ← v31]; omega)
                · omega
          · have l0 : 0 < (hLa f).1 y41.toNat := by omega
            refine wp_bn (ld_ent hRQ q113 (by omega) (by omega)) (fun r27 e27 h27 => ?_)
            have v27 := h27.1
            have kd := IG_kid (k := k.toNat) H b48 dw l0 (by omega)
            rw [← v27] at kd
            refine wp_inb (by omega) (wp_stn (fun s29 e29 => ?_))
            have hR29 : Rr s29 := e29 ▸ Rr.uAu hRQ (by show (0 : Int) ≤ r27 ∧ r27 ≤ 47; omega)
            have u62 : gA s29 62 = upZ (gA Q 62) w.toNat r27 := q_AA e29
            have es := fun y : Nat => enf_step (h := hLa f) (p := y41.toNat) (k := k.toNat) (x := (y : Int)) l0 (by omega) (by omega)
            unfold m_x12_areBetween_J96
            refine ihm (w + 1) (k + 1) s29 hR29 ((q_Aa e29 (by decide)).trans q113) (by omega) (by omega) ?_ (fun z hz => ?_) (by omega)
            · rw [u62, show (w + 1).toNat = w.toNat + 1 by omega]
              refine WK_push WQ (by omega) (fun y hy => ?_) (fun y hy => enf_nn _ _ _ _)
              have q := es y
              rw [show ((k.toNat : Nat) : Int) = k by omega, ← v27] at q
              show enf (hLa f) y41.toNat k (y : Int) = enf (hLa f) y41.toNat (k + 1) (y : Int) + (if r27 = (y : Int) then 1 else 0)
              omega
            · rw [u62, show (w + 1).toNat = w.toNat + 1 by omega]
              rcases UQ z hz with q | q | q
              · exact Or.inl q
              · exact Or.inr (Or.inl (UW_push (Or.inl q)))
              · rcases UR_step (by omega) q with g | ⟨g, _⟩ | ⟨_, g⟩
                · exact Or.inr (Or.inr g)
                · omega
                · rw [← v27] at g
                  exact Or.inr (Or.inl (UW_push (Or.inr g)))
      refine L30 FU (x + (-1)) 0 S hRS h113 (by omega) (by omega) ?_ (fun z hz => ?_) (by have := FU_big; omega)
      · rw [show (x + (-1)).toNat = x.toNat - 1 by omega]
        exact W1
      · rw [show (x + (-1)).toNat = x.toNat - 1 by omega]
        rcases hU z hz with q | q
        · exact Or.inl q
        · rcases UW_pop q with g | g
          · exact Or.inr (Or.inl g)
          · rw [e41'] at g
            exact Or.inr (Or.inr (UK_UR H b48 dw g))
    unfold m_x12_areBetween
    refine wp_inb (by omega) (wp_stn (fun s43 e43 => ?_))
    have hR43 : Rr s43 := e43 ▸ Rr.uAu hRs (by show (0 : Int) ≤ p0 ∧ p0 ≤ 47; omega)
    have u62 : gA s43 62 = upZ (gA s 62) 0 p0 := q_AA e43
    have b48 : p0.toNat < 48 := by omega
    have t := IG_there H b48 hd
    have hl : (hLa f).1 p0.toNat = ((((hLa f).1 p0.toNat).toNat : Nat) : Int) := by omega
    have mv := MV_L H b48 hd hl (ko _ hl)
    rw [show ((p0.toNat : Nat) : Int) = p0 by omega] at mv
    refine L10 FU 1 s43 _ hR43 ((q_Aa e43 (by decide)).trans hf.symm) (by omega) (by rw [u62]; exact WK_0 mv hp) (fun y hy hm => (muL_in H _ p0.toNat b48 hd hl y hy hm).1) (fun z hz => Or.inr ⟨0, by decide, ?_⟩) (by have := FU_big; have := pos_b (muL (hLa f) ((hLa f).1 p0.toNat).toNat p0.toNat); omega)
    rw [u62, upZ_s]; exact hz
  exact wp_eq key (fun o eo ho => ⟨ho.1, fr_x12_areBetween eo, ho.2⟩)
/-- what areKeys has seen: keys under the k-th child -/
def KSe (f : Nat → Int) (b : Nat) (k : Nat) : Prop := ∀ z, UK f ((hLa f).2.2 b k).toNat z → (0 < k → kLa f b k ≤ z) ∧ ((k : Int) + 1 < (hLa f).2.1 b → z < kLa f b (k + 1))
theorem KSe_KO {f : Nat → Int} {N E : Int} {b : Nat} (H : IG f N E) (hb : b < 48) (hd : DLa f b) (hl : 0 < (hLa f).1 b) (kids : ∀ k : Nat, (k : Int) < (hLa f).2.1 b → KO f ((hLa f).2.2 b k).toNat) (ks : ∀ k : Nat, (k : Int) < (hLa f).2.1 b → KSe f b k) : KO f b := by
  intro l hl2
  obtain ⟨L, rfl⟩ : ∃ L, l = L + 1 := ⟨l - 1, by omega⟩
  have kd := fun k hk => IG_kid (k := k) H hb hd hl hk
  refine muL_one H hb hd hl2 (fun k hk x hx => kids k hk L ?_ x hx) (fun i j hi hj hij z hz hz2 => ?_)
  · have := (kd k hk).2.1
    omega
  · have li := (kd i hi).2.1
    have lj := (kd j hj).2.1
    have a := ks i hi z ⟨L, by omega, hz⟩
    have c := ks j hj z ⟨L, by omega, hz2⟩
    have a2 := a.2 (by omega)
    have c1 := c.1 (by omega)
    have r := IG_rise H hb hd j (i + 1) (by omega) (by omega) hj
    omega
set_option maxHeartbeats 2000000 in
theorem mt_areKeys {p0 : Int} {s : MS} {N E : Int} (hRs : Rr s) (H : IG (gA s 113) N E) (hp : 0 ≤ p0 ∧ p0 < 48) (hd : DLa (gA s 113) p0.toNat) (hl : 0 < (hLa (gA s 113)).1 p0.toNat) (kids : ∀ k : Nat, (k : Int) < (hLa (gA s 113)).2.1 p0.toNat → KO (gA s 113) ((hLa (gA s 113)).2.2 p0.toNat k).toNat) : wp (m_x12_areKeys p0 s) (fun q => Rr q.2 ∧ F_x12_areKeys s q.2 ∧ (q.1 = 0 ∨ (q.1 = 1 ∧ KO (gA s 113) p0.toNat))) := by
  obtain ⟨f, hf⟩ : ∃ f, f = gA s 113 := ⟨_, rfl⟩
  rw [← hf] at H hd hl kids
  rw [← hf]
  have n48 := H.1
  have hE := H.2.1
  have b48 : p0.toNat < 48 := by omega
  have t := IG_there H b48 hd
  have key : wp (m_x12_areKeys p0 s) (fun q => Rr q.2 ∧ (q.1 = 0 ∨ (q.1 = 1 ∧ KO f p0.toNat))) := by
    unfold m_x12_areKeys
    refine wp_bn (ld_size hRs hf.symm (by omega)) (fun r43 e43 h43 => ?_)
    have v43 := h43.1
    have L9 : ∀ (n : Nat) (k : Int) (S : MS), Rr S → gA S 113 = f → (0 ≤ k ∧ k ≤ r43) → (∀ j : Nat, (j : Int) < k → KSe f p0.toNat j) → 6 - k < (n : Int) → wp (m_x12_areKeys_L9 n p0 r43 k S) (fun q => Rr q.2 ∧ (q.1 = 0 ∨ (q.1 = 1 ∧ KO f p0.toNat))) := by
      refine fr_ind (fun k S hRS h113 hk hK hm => by exfalso; omega) (fun n ih k S hRS h113 hk hK hm => ?_)
      show wp (m_x12_areKeys_b9 (m_x12_areKeys_L9 n) p0 r43 k S) _
      unfold m_x12_areKeys_b9
      refine wp_rg (by omega) (wp_rg h43.2 (wp_if (fun c1 => ?_) (fun c1 => ?_)))
      · unfold m_x12_areKeys_J86
        exact wp_some ⟨hRS, Or.inr ⟨rfl, KSe_KO H b48 hd hl kids (fun j hj => hK j (by omega))⟩⟩
      · refine wp_bn (ld_lev hRS h113 (by omega)) (fun r33 e33 h33 => ?_)
        have v33 := h33.1
        refine wp_rg h33.2 (wp_if (fun c2 => by exfalso; omega) (fun c2 => ?_))
        refine wp_bn (ld_ent hRS h113 (by omega) (by omega)) (fun r37 e37 h37 => ?_)
        have v37 := h37.1
        have kd := IG_kid (k := k.toNat) H b48 hd hl (by omega)
        have kk := kids k.toNat (by omega)
        rw [← v37] at kd kk
        have J72 : ∀ (hi lo : Int), R2 hi → R2 lo → (0 < k → kLa f p0.toNat k.toNat ≤ lo) → (k + 1 < r43 → hi < kLa f p0.toNat (k.toNat + 1)) → wp (m_x12_areKeys_J72 (m_x12_areKeys_L9 n) p0 r43 k hi lo r37 S) (fun q => Rr q.2 ∧ (q.1 = 0 ∨ (q.1 = 1 ∧ KO f p0.toNat))) := by
          intro hi lo ghi glo klo khi
          unfold m_x12_areKeys_J72
          refine wp_bn (mt_areBetween (N := N) (E := E) hRS (by rw [h113]; exact H) (by omega) (by rw [h113]; exact kd.2.2) (by rw [h113]; exact kk) glo ghi) (fun q15 e15 h15 => ?_)
          obtain ⟨r15, s15⟩ := q15
          obtain ⟨hR15, F15, h15⟩ := h15
          dsimp only at hR15 F15 h15 ⊢
          rw [h113] at h15
          refine wp_rg (by omega) (wp_if (fun c3 => wp_some ⟨hR15, Or.inl rfl⟩) (fun c3 => ?_))
          have ub : ∀ z, UK f r37.toNat z → lo ≤ z ∧ z ≤ hi := by
            rcases h15 with q | q
            · omega
            · exact q.2
          refine ih (k + 1) s15 hR15 ((F15.2.1 113 (by decide)).trans h113) (by omega) (fun j hj => ?_) (by omega)
          by_cases z : j = k.toNat
          · rw [z]
            intro y hy
            rw [← v37] at hy
            have u := ub y hy
            exact ⟨fun w => by have := klo (by omega); omega, fun w => by have := khi (by omega); omega⟩
          · exact hK j (by omega)
        have J49 : ∀ lo : Int, R2 lo → (0 < k → kLa f p0.toNat k.toNat ≤ lo) → wp (m_x12_areKeys_J49 (m_x12_areKeys_L9 n) p0 r43 k lo r37 S) (fun q => Rr q.2 ∧ (q.1 = 0 ∨ (q.1 = 1 ∧ KO f p0.toNat))) := by
          intro lo glo klo
          unfold m_x12_areKeys_J49
          refine wp_rg (by omega) (wp_rg h43.2 (wp_if (fun c4 => J72 999 lo (by omega) glo klo (fun w => by omega)) (fun c4 => ?_)))
          refine wp_bn (ld_key5 hRS h113 (by omega) (by omega)) (fun r28 e28 h28 => ?_)
          have v28 := h28.1
          have k28 := t.2.2.2 (k.toNat + 1) (by omega)
          rw [← v28] at k28
          exact J72 (r28 - 1) lo (by omega) glo klo (fun w => by rw [← v28]; omega)
        refine wp_rg (by omega) (wp_if (fun c5 => J49 0 (by omega) (fun w => by omega)) (fun c5 => ?_))
        refine wp_bn (ld_key hRS h113 (by omega) (by omega)) (fun r41 e41 h41 => ?_)
        have v41 := h41.1
        exact J49 r41 h41.2 (fun w => by rw [← v41]; omega)
    exact L9 FU 0 s hRs hf.symm (by omega) (fun j hj => by omega) (by have := FU_big; omega)
  exact wp_eq key (fun o eo ho => ⟨ho.1, fr_x12_areKeys eo, ho.2⟩)
/-! ===== on: an image whose trees are good ===== -/
def IM (f : Nat → Int) (N E : Int) : Prop := IG f N E ∧ (0 ≤ f 16 ∧ f 16 ≤ 999999) ∧ (CQ f N 0 ∧ CQ f N 1) ∧ ∀ b, b < 48 → DLa f b → KO f b
theorem IG_lev {f : Nat → Int} {N E : Int} {b : Nat} (H : IG f N E) (hb : b < 48) (hl : 0 < (hLa f).1 b) : DLa f b := by
  have hl' : 0 < f (19 + 16 * b) := hl
  rcases (H.2.2.1 b hb).2 with ⟨_, q⟩ | ⟨q, _⟩
  · have e := q 2 (by omega) (by omega)
    rw [show 17 + 16 * b + 2 = 19 + 16 * b by omega] at e
    omega
  · exact q
theorem IG_US {f : Nat → Int} {N E : Int} (H : IG f N E) : US (hLa f) (kLa f) := by
  intro p hp
  have hE := H.2.1
  have hN := H.1
  by_cases d : DLa f p
  · have t := IG_there H hp d
    exact ⟨by omega, fun hl k hk => by have q := (IG_kid (k := k) H hp d hl hk).1; omega, t.2.2.2⟩
  · rcases (H.2.2.1 p hp).2 with ⟨_, q⟩ | ⟨q, _⟩
    · have e := q 3 (by omega) (by omega)
      rw [show 17 + 16 * p + 3 = 20 + 16 * p by omega] at e
      have e' : (hLa f).2.1 p = 0 := e
      exact ⟨by omega, fun _ k hk => by omega, fun k hk => by omega⟩
    · exact absurd q d
theorem IG_WN {f : Nat → Int} {N E : Int} {c : Nat → Int} (H : IG f N E) (hc : ∀ p, p < 48 → 0 ≤ c p ∧ (0 < c p → DLa f p)) : WN (hLa f) N c ∧ (∀ p, p < 48 → 0 < c p → 1 ≤ (hLa f).2.1 p) := by
  have hE := H.2.1
  refine ⟨fun p hp => ⟨(hc p hp).1, fun h => ?_, fun h => ?_⟩, fun p hp h => (IG_there H hp ((hc p hp).2 h)).2.2.1.1⟩
  · have a := hc p hp
    by_cases z : 0 < c p
    · have t := IG_there H hp (a.2 z)
      omega
    · omega
  · have d := (hc p hp).2 h
    have t := IG_there H hp d
    exact ⟨t.2.1.1, by omega, fun hl k hk => by have q := IG_kid (k := k) H hp d hl hk; exact ⟨q.1, q.2.1⟩⟩
theorem TG_IG {f : Nat → Int} {N E : Int} {c sv r rs : Nat → Int} (H : IG f N E) (hc : ∀ p, p < 48 → 0 ≤ c p ∧ (0 < c p → DLa f p)) (hs : ∀ p, p < 48 → 0 ≤ sv p ∧ (0 < sv p → DLa f p)) (d1 : ∀ x, x < 48 → df (hLa f) c r x = 0) (d2 : ∀ x, x < 48 → df (hLa f) sv rs x = 0) (r1 : RO N r) (r2 : RO N rs) : TG (hLa f) (kLa f) N E c sv r rs (fun _ => 0) (-1) := by
  obtain ⟨w1, n1⟩ := IG_WN H hc
  obtain ⟨w2, n2⟩ := IG_WN H hs
  refine ⟨⟨H.1.2, w1, w2, IG_US H⟩, ⟨d1, d2⟩, ⟨fun p hp h _ => n1 p hp h, n2⟩, ⟨r1, r2⟩, fun p hp h => ?_⟩
  have t := IG_there H hp (h.elim (fun q => (hc p hp).2 q) (fun q => (hs p hp).2 q))
  exact ⟨t.2.2.1.2, t.2.2.2⟩
/-- the row of a root's tree -/
def muR (f : Nat → Int) (q : Int) (x : Nat) : Int := if q < 254 then muL (hLa f) ((hLa f).1 q.toNat).toNat q.toNat x else 0
theorem muR_TG {f : Nat → Int} {N E : Int} {q : Int} (H : IM f N E) (hq : 254 ≤ q ∨ ((0 ≤ q ∧ q < N) ∧ DLa f q.toNat)) : TG (hLa f) (kLa f) N E (muR f q) (muR f q) (sr q) (sr q) (fun _ => 0) (-1) ∧ ∀ x, x < 48 → muR f q x ≤ 1 := by
  have hN := H.1.1
  by_cases z : 254 ≤ q
  · have e : muR f q = fun _ => 0 := by
      funext x
      unfold muR
      exact if_neg (by omega)
    rw [e]
    exact ⟨TG_nil hN.2 (IG_US H.1) z, fun x _ => by show (0 : Int) ≤ 1; omega⟩
  · obtain ⟨hq1, hd⟩ : (0 ≤ q ∧ q < N) ∧ DLa f q.toNat := by
      rcases hq with w | w
      · omega
      · exact w
    have b48 : q.toNat < 48 := by omega
    have t := IG_there H.1 b48 hd
    have hl : (hLa f).1 q.toNat = ((((hLa f).1 q.toNat).toNat : Nat) : Int) := by omega
    have ko := H.2.2.2 q.toNat b48 hd _ hl
    have mv := MV_L H.1 b48 hd hl ko
    rw [show ((q.toNat : Nat) : Int) = q by omega] at mv
    have e : muR f q = muL (hLa f) ((hLa f).1 q.toNat).toNat q.toNat := by
      funext x
      unfold muR
      exact if_pos (by omega)
    rw [e]
    have hc : ∀ p, p < 48 → 0 ≤ muL (hLa f) ((hLa f).1 q.toNat).toNat q.toNat p ∧ (0 < muL (hLa f) ((hLa f).1 q.toNat).toNat q.toNat p → DLa f p) := fun p hp => ⟨muL_nn _ _ _ _, fun w => (muL_in H.1 _ q.toNat b48 hd hl p hp w).1⟩
    have ro : RO N (sr q) := fun v _ => by
      unfold sr
      by_cases g : v = 0
      · rw [if_pos g]; omega
      · rw [if_neg g]; omega
    exact ⟨TG_IG H.1 hc hc mv.2 mv.2 ro ro, ko⟩
/-- a root is none, or a block that is there -/
theorem CQ_root {f : Nat → Int} {N E : Int} {w v : Nat} (H : IG f N E) (hw : w < 2) (C : CQ f N w) (hv : v < 8) : 254 ≤ rLa f w v ∨ ((0 ≤ rLa f w v ∧ rLa f w v < N) ∧ DLa f (rLa f w v).toNat) := by
  have hN := H.1
  have b : 0 ≤ rLa f w v := by
    have q := H.2.2.2.2.2 (8 * w + v) (by omega)
    show 0 ≤ if v < 8 then f (8 * w + v) else 0
    rw [if_pos hv]; exact q.1
  rcases C.1 v hv with q | q | q
  · refine Or.inr ⟨q, ?_⟩
    have x48 : (rLa f w v).toNat < 48 := by omega
    have d := C.2 (rLa f w v).toNat x48
    have rp := rr_pos (r := rLa f w) hv
    have sn := sm_nn (n := 48) (f := fun p => if 0 < cLa f w p then en (hLa f) p (rLa f w v) else 0) (fun j _ => by
      show 0 ≤ if 0 < cLa f w j then en (hLa f) j (rLa f w v) else 0
      split
      · exact en_nn _ j _
      · exact Int.le_refl 0)
    unfold df rf at d
    rw [show (((rLa f w v).toNat : Nat) : Int) = rLa f w v by omega] at d
    exact (cLa_nn H hw x48).2.2.2 (by omega)
  · omega
  · exact Or.inl q
theorem RT_IM {X : MS} {f : Nat → Int} {N E : Int} (e49 : gA X 49 = f) (e5 : gA X 39 5 = N) (e6 : gA X 39 6 = E) (H : IM f N E) : RT X := by
  have eh : hM X = hLa f := by rw [← e49]; rfl
  have ek : kM X = kLa f := by rw [← e49]; rfl
  have c0 := fun p hp => cLa_nn (w := 0) (p := p) H.1 (by decide) hp
  have c1 := fun p hp => cLa_nn (w := 1) (p := p) H.1 (by decide) hp
  refine ⟨?_, fun u => muR f (f u), fun u hu => ?_, fun u hu => ?_⟩
  · have T := TG_IG (c := cLa f 0) (sv := cLa f 1) (r := rLa f 0) (rs := rLa f 1) H.1 (fun p hp => ⟨(c0 p hp).1, fun h => (c0 p hp).2.2.2 (by omega)⟩) (fun p hp => ⟨(c1 p hp).1, fun h => (c1 p hp).2.2.2 (by omega)⟩) H.2.2.1.1.2 H.2.2.1.2.2 H.2.2.1.1.1 H.2.2.1.2.1
    refine TM_mk T eh ek e5 e6 ?_ ?_ ?_ ?_
    · funext p
      show gA X 49 (17 + 16 * p) = f (17 + 16 * p + 0)
      rw [e49, show 17 + 16 * p + 0 = 17 + 16 * p by omega]
    · funext p
      show gA X 49 (18 + 16 * p) = f (17 + 16 * p + 1)
      rw [e49, show 17 + 16 * p + 1 = 18 + 16 * p by omega]
    · funext v
      show (if v < 8 then gA X 49 v else 0) = if v < 8 then f (8 * 0 + v) else 0
      rw [e49, show 8 * 0 + v = v by omega]
    · funext v
      show (if v < 8 then gA X 49 (8 + v) else 0) = if v < 8 then f (8 * 1 + v) else 0
      rw [e49, show 8 * 1 + v = 8 + v by omega]
  · rw [eh, ek, e5, e6, e49]
    refine (muR_TG H ?_).1
    by_cases z : u < 8
    · have q := CQ_root (w := 0) (v := u) H.1 (by decide) H.2.2.1.1 z
      have e : rLa f 0 u = f u := by
        show (if u < 8 then f (8 * 0 + u) else 0) = f u
        rw [if_pos z, show 8 * 0 + u = u by omega]
      rw [e] at q; exact q
    · have q := CQ_root (w := 1) (v := u - 8) H.1 (by decide) H.2.2.1.2 (by omega)
      have e : rLa f 1 (u - 8) = f u := by
        show (if u - 8 < 8 then f (8 * 1 + (u - 8)) else 0) = f u
        rw [if_pos (by omega), show 8 * 1 + (u - 8) = u by omega]
      rw [e] at q; exact q
  · refine (muR_TG H ?_).2
    by_cases z : u < 8
    · have q := CQ_root (w := 0) (v := u) H.1 (by decide) H.2.2.1.1 z
      have e : rLa f 0 u = f u := by
        show (if u < 8 then f (8 * 0 + u) else 0) = f u
        rw [if_pos z, show 8 * 0 + u = u by omega]
      rw [e] at q; exact q
    · have q := CQ_root (w := 1) (v := u - 8) H.1 (by decide) H.2.2.1.2 (by omega)
      have e : rLa f 1 (u - 8) = f u := by
        show (if u - 8 < 8 then f (8 * 1 + (u - 8)) else 0) = f u
        rw [if_pos (by omega), show 8 * 1 + (u - 8) = u by omega]
      rw [e] at q; exact q
set_option maxHeartbeats 2000000 in
theorem mt_isImage {p0 : Int} {s : MS} (hRs : Rr s) (hp : 0 ≤ p0 ∧ p0 ≤ 1600) (hNE : gI s 47 ≠ 0 → (0 ≤ gA s 39 5 ∧ gA s 39 5 ≤ 48) ∧ (3 ≤ gA s 39 6 ∧ gA s 39 6 ≤ 6)) : wp (m_x12_isImage p0 s) (fun q => Rr q.2 ∧ F_x12_isImage s q.2 ∧ (q.1 = 0 ∨ (q.1 = 1 ∧ gI s 47 ≠ 0 ∧ IM (gA q.2 113) (gA s 39 5) (gA s 39 6)))) := by
  obtain ⟨N, hN⟩ : ∃ N, N = gA s 39 5 := ⟨_, rfl⟩
  obtain ⟨E, hE⟩ : ∃ E, E = gA s 39 6 := ⟨_, rfl⟩
  rw [← hN, ← hE] at hNE
  rw [← hN, ← hE]
  have r47 : (0 : Int) ≤ gI s 47 ∧ gI s 47 ≤ 1 := hRs.1 47
  have key : wp (m_x12_isImage p0 s) (fun q => Rr q.2 ∧ (q.1 = 0 ∨ (q.1 = 1 ∧ gI s 47 ≠ 0 ∧ IM (gA q.2 113) N E))) := by
    have L92 : gI s 47 ≠ 0 → ∀ f : Nat → Int, IG f N E → (0 ≤ f 16 ∧ f 16 ≤ 999999) → CQ f N 0 → CQ f N 1 → ∀ (n : Nat) (x : Int) (S : MS), Rr S → gA S 113 = f → gA S 39 5 = N → (1 ≤ x ∧ x ≤ 256) → (∀ b, b < 48 → DLa f b → (hLa f).1 b < x → KO f b) → 256 - x < (n : Int) → wp (m_x12_isImage_L92 n x S) (fun q => Rr q.2 ∧ (q.1 = 0 ∨ (q.1 = 1 ∧ gI s 47 ≠ 0 ∧ IM (gA q.2 113) N E))) := by
      intro h47 f H h16 C0 C1
      have n48 := H.1
      refine fr_ind (fun x S hRS h113 h39 hx hK hm => by exfalso; omega) (fun n ih x S hRS h113 h39 hx hK hm => ?_)
      show wp (m_x12_isImage_b92 (m_x12_isImage_L92 n) x S) _
      unfold m_x12_isImage_b92
      refine wp_rg (by omega) (wp_if (fun c1 => wp_some ⟨hRS, Or.inr ⟨rfl, h47, ?_⟩⟩) (fun c1 => ?_))
      · show IM (gA S 113) N E
        rw [h113]
        exact ⟨H, h16, ⟨C0, C1⟩, fun b hb hd => hK b hb hd (by have t := IG_there H hb hd; omega)⟩
      have L101 : ∀ (m : Nat) (y : Int) (T : MS), Rr T → gA T 113 = f → gA T 39 5 = N → (0 ≤ y ∧ y ≤ N) → (∀ b : Nat, (b : Int) < y → DLa f b → (hLa f).1 b = x → KO f b) → 48 - y < (m : Int) → wp (m_x12_isImage_L101 (m_x12_isImage_L92 n) m x y T) (fun q => Rr q.2 ∧ (q.1 = 0 ∨ (q.1 = 1 ∧ gI s 47 ≠ 0 ∧ IM (gA q.2 113) N E))) := by
        refine fr_ind (fun y T hRT t113 t39 hy hY hm2 => by exfalso; omega) (fun m ihm y T hRT t113 t39 hy hY hm2 => ?_)
        show wp (m_x12_isImage_b101 (m_x12_isImage_L92 n) (m_x12_isImage_L101 (m_x12_isImage_L92 n) m) x y T) _
        unfold m_x12_isImage_b101
        refine wp_bn (w_x12_blockMany hRT) (fun r10 e10 h10 => ?_)
        have h10 : r10 = gA T 39 5 := h10
        rw [t39] at h10
        refine wp_rg (by omega) (wp_rg (by omega) (wp_if (fun c2 => ?_) (fun c2 => ?_)))
        · refine ih (x + 1) T hRT t113 t39 (by omega) (fun b hb hd hl => ?_) (by omega)
          by_cases z : (hLa f).1 b < x
          · exact hK b hb hd z
          · have t := IG_there H hb hd
            exact hY b (by omega) hd (by omega)
        · refine wp_bn (ld_lev hRT t113 (by omega)) (fun r15 e15 h15 => ?_)
          have v15 := h15.1
          have b48 : y.toNat < 48 := by omega
          refine wp_rg h15.2 (wp_rg (by omega) (wp_if (fun c3 => ?_) (fun c3 => ?_)))
          · have dy := IG_lev H b48 (by omega)
            refine wp_bn (mt_areKeys (N := N) (E := E) hRT (by rw [t113]; exact H) (by omega) (by rw [t113]; exact dy) (by rw [t113]; omega) (by
              rw [t113]
              intro k hk
              have kd := IG_kid (k := k) H b48 dy (by omega) hk
              exact hK _ (by omega) kd.2.2 (by omega))) (fun q21 e21 h21 => ?_)
            obtain ⟨r21, s21⟩ := q21
            obtain ⟨hR21, F21, h21⟩ := h21
            dsimp only at hR21 F21 h21 ⊢
            rw [t113] at h21
            have f39 : gA s21 39 = gA T 39 := F21.2.1 39 (by decide)
            refine wp_rg (by omega) (wp_if (fun c4 => wp_some ⟨hR21, Or.inl rfl⟩) (fun c4 => ?_))
            unfold m_x12_isImage_J129
            refine ihm (y + 1) s21 hR21 ((F21.2.1 113 (by decide)).trans t113) (by rw [f39]; exact t39) (by omega) (fun b hb hd hl => ?_) (by omega)
            by_cases z : b = y.toNat
            · rw [z]
              rcases h21 with q | q
              · omega
              · exact q.2
            · exact hY b (by omega) hd hl
          · unfold m_x12_isImage_J129
            refine ihm (y + 1) T hRT t113 t39 (by omega) (fun b hb hd hl => ?_) (by omega)
            by_cases z : b = y.toNat
            · rw [z] at hl; omega
            · exact hY b (by omega) hd hl
      exact L101 FU 0 S hRS h113 h39 (by omega) (fun b hb => by omega) (by have := FU_big; omega)
    have L48 : gI s 47 ≠ 0 → ∀ (n : Nat) (x : Int) (S : MS), Rr S → gA S 39 = gA s 39 → LBs S → (0 ≤ gA S 113 16 ∧ gA S 113 16 ≤ 999999) → (∀ u, u < 16 → 0 ≤ gA S 113 u ∧ gA S 113 u ≤ 255) → (∀ b : Nat, b < 48 → gA S 39 5 ≤ (b : Int) → gA S 113 (17 + 16 * b) = 0 ∧ gA S 113 (18 + 16 * b) = 0) → (0 ≤ x ∧ x ≤ N) → (∀ b : Nat, (b : Int) < x → ∀ k : Nat, (k : Int) < gA S 113 (20 + 16 * b) → AV1 (gA S 113) N b k) → 48 - x < (n : Int) → wp (m_x12_isImage_L48 n x S) (fun q => Rr q.2 ∧ (q.1 = 0 ∨ (q.1 = 1 ∧ gI s 47 ≠ 0 ∧ IM (gA q.2 113) N E))) := by
      intro h47
      have ne := hNE h47
      refine fr_ind (fun x S hRS h39 hLB h16 hro hz hx hA hm => by exfalso; omega) (fun n ih x S hRS h39 hLB h16 hro hz hx hA hm => ?_)
      show wp (m_x12_isImage_b48 (m_x12_isImage_L48 n) x S) _
      unfold m_x12_isImage_b48
      have g5 : gA S 39 5 = N := by rw [h39, hN]
      have g6 : gA S 39 6 = E := by rw [h39, hE]
      refine wp_bn (w_x12_blockMany hRS) (fun r30 e30 h30 => ?_)
      have h30 : r30 = gA S 39 5 := h30
      rw [g5] at h30
      refine wp_rg (by omega) (wp_rg (by omega) (wp_if (fun c1 => ?_) (fun c1 => ?_)))
      · have hl := hLB.2.2
        rw [g6] at hl
        rw [g5] at hz
        have G : IG (gA S 113) N E := ⟨ne.1, ne.2, hl, hz, fun b hb => hA b (by omega), hro⟩
        refine wp_bn (mt_areCounts (p0 := 0) (E := E) hRS (by rw [g5]; exact G) (Or.inl rfl)) (fun q36 e36 h36 => ?_)
        obtain ⟨r36, s36⟩ := q36
        obtain ⟨hR36, F36, h36⟩ := h36
        dsimp only at hR36 F36 h36 ⊢
        rw [g5] at h36
        have a113 : gA s36 113 = gA S 113 := F36.2.1 113 (by decide)
        have a39 : gA s36 39 = gA S 39 := F36.2.1 39 (by decide)
        refine wp_rg (by omega) (wp_if (fun c2 => ?_) (fun c2 => ?_))
        · unfold m_x12_isImage_J88
          exact wp_some ⟨hR36, Or.inl rfl⟩
        have C0 : CQ (gA S 113) N 0 := by
          rcases h36 with q | q
          · omega
          · exact q.2
        refine wp_bn (mt_areCounts (p0 := 1) (E := E) hR36 (by rw [a113, a39, g5]; exact G) (Or.inr rfl)) (fun q41 e41 h41 => ?_)
        obtain ⟨r41, s41⟩ := q41
        obtain ⟨hR41, F41, h41⟩ := h41
        dsimp only at hR41 F41 h41 ⊢
        rw [a113, a39, g5] at h41
        have b113 : gA s41 113 = gA S 113 := (F41.2.1 113 (by decide)).trans a113
        have b39 : gA s41 39 = gA S 39 := (F41.2.1 39 (by decide)).trans a39
        refine wp_rg (by omega) (wp_if (fun c3 => ?_) (fun c3 => ?_))
        · unfold m_x12_isImage_J88
          exact wp_some ⟨hR41, Or.inl rfl⟩
        have C1 : CQ (gA S 113) N 1 := by
          rcases h41 with q | q
          · omega
          · exact q.2
        exact L92 h47 (gA S 113) G h16 C0 C1 FU 1 s41 hR41 b113 (by rw [b39]; exact g5) (by omega) (fun b hb hd hl => KO_0 (by have t := IG_there G hb hd; omega)) (by have := FU_big; omega)
      · refine wp_bn (w_x12_areValues hRS (by omega) hLB) (fun r45 e45 h45 => ?_)
        have h45 : r45 = 0 ∨ (r45 = 1 ∧ ∀ k : Nat, (k : Int) < gA S 113 (20 + 16 * x.toNat) → AV1 (gA S 113) (gA S 39 5) x.toNat k) := h45
        rw [g5] at h45
        refine wp_rg (by omega) (wp_if (fun c2 => wp_some ⟨hRS, Or.inl rfl⟩) (fun c2 => ?_))
        refine ih (x + 1) S hRS h39 hLB h16 hro hz (by omega) (fun b hb => ?_) (by omega)
        by_cases z : b = x.toNat
        · rw [z]
          rcases h45 with q | q
          · omega
          · exact q.2
        · exact hA b (by omega)
    unfold m_x12_isImage
    unfold m_x12_isImage_J44
    refine wp_rg (by omega) (wp_if (fun c1 => wp_some ⟨hRs, Or.inl rfl⟩) (fun c1 => ?_))
    have ne := hNE c1
    refine wp_rg (by omega) (wp_if (fun c2 => wp_some ⟨hRs, Or.inl rfl⟩) (fun c2 => ?_))
    refine wp_rdIn (by omega) (fun y53 e53 => ?_)
    have b53 : (0 : Int) ≤ y53 ∧ y53 ≤ 255 := e53 ▸ hRs.2.1 0 _ (by show _ < 1600; omega)
    refine wp_bn (w_x12_checked_v2 hRs (by omega)) (fun r55 e55 h55 => ?_)
    have h55 : (-251) ≤ r55 ∧ r55 ≤ 251 := h55
    refine wp_rg (by omega) (wp_rg (by omega) (wp_if (fun c3 => ?_) (fun c3 => wp_some ⟨hRs, Or.inl rfl⟩)))
    refine wp_bn (w_x12_isLaid hRs (by omega) (by rw [← hN]; exact ne.1) (by rw [← hE]; exact ne.2)) (fun q61 e61 h61 => ?_)
    have F61 : F_x12_isLaid s q61.2 := fr_x12_isLaid e61
    obtain ⟨r61, s61⟩ := q61
    obtain ⟨hR61, h61⟩ := h61
    dsimp only at hR61 F61 h61 ⊢
    have a39 : gA s61 39 = gA s 39 := F61.2.1 39 (by decide)
    refine wp_rg (by omega) (wp_if (fun c4 => wp_some ⟨hR61, Or.inl rfl⟩) (fun c4 => ?_))
    rcases h61 with q | ⟨_, q1, q2, q3, q4⟩
    · exact absurd q c4
    · exact L48 c1 FU 0 s61 hR61 a39 q1 q2 q3 q4 (by omega) (fun b hb => by omega) (by have := FU_big; omega)
  exact wp_eq key (fun o eo ho => ⟨ho.1, fr_x12_isImage eo, ho.2⟩)
set_option maxHeartbeats 2000000 in
theorem mt_on {s : MS} (hRs : Rr s) (hJ : JI s) : wp (m_x12_on s) (fun q => Rr q.2 ∧ JI q.2 ∧ gI q.2 1 = 0) := by
  have r1 : (0 : Int) ≤ gI s 1 ∧ gI s 1 ≤ 1600 := hRs.1 1
  unfold m_x12_on
  refine wp_stn (fun s11 e11 => ?_)
  have hR11 : Rr s11 := e11 ▸ Rr.uI hRs (by show (0 : Int) ≤ 0 ∧ (0 : Int) ≤ 1600; omega)
  have i47 : gI s11 47 = gI s 47 := q_Ii e11 (by decide)
  have i76 : gI s11 76 = gI s 76 := q_Ii e11 (by decide)
  have i77 : gI s11 77 = gI s 77 := q_Ii e11 (by decide)
  have i1 : gI s11 1 = 0 := q_II e11
  have a11 : ∀ k, gA s11 k = gA s k := fun k => q_Ia e11
  have l11 : ∀ k, gL s11 k = gL s k := fun k => q_Il e11
  refine wp_bn (mt_isImage hR11 r1 (fun h => by
    rw [a11 39]
    have g := JI_GA hJ (by rw [← i47]; exact h)
    have q := g.1.2.1
    omega)) (fun q14 e14 h14 => ?_)
  obtain ⟨r14, s14⟩ := q14
  obtain ⟨hR14, F14, h14⟩ := h14
  dsimp only at hR14 F14 h14 ⊢
  rw [a11 39] at h14
  have kr14 : KR s s14 := ⟨(F14.2.1 39 (by decide)).trans (a11 39), (F14.2.1 42 (by decide)).trans (a11 42), (F14.2.1 43 (by decide)).trans (a11 43), (F14.2.1 44 (by decide)).trans (a11 44)⟩
  have b49 : gA s14 49 = gA s 49 := (F14.2.1 49 (by decide)).trans (a11 49)
  have b75 : gA s14 75 = gA s 75 := (F14.2.1 75 (by decide)).trans (a11 75)
  have b76 : gI s14 76 = gI s 76 := (F14.1 76 (by decide)).trans i76
  have b77 : gI s14 77 = gI s 77 := (F14.1 77 (by decide)).trans i77
  have b47 : gI s14 47 = gI s 47 := (F14.1 47 (by decide)).trans i47
  have b1 : gI s14 1 = 0 := (F14.1 1 (by decide)).trans i1
  have bL : gL s14 78 = gL s 78 := (F14.2.2.1 78 (by decide)).trans (l11 78)
  refine wp_rg (by omega) (wp_if (fun c1 => ?_) (fun c1 => ?_))
  · refine wp_bn (w_x12_isRefused hR14 (by omega)) (fun q19 e19 h19 => ?_)
    have F19 : F_x12_isRefused s14 q19.2 := fr_x12_isRefused e19
    obtain ⟨r19, s19⟩ := q19
    obtain ⟨hR19, h19⟩ := h19
    dsimp only at hR19 F19 h19 ⊢
    have kr : KR s s19 := KR_t kr14 ⟨F19.2.1 39 (by decide), F19.2.1 42 (by decide), F19.2.1 43 (by decide), F19.2.1 44 (by decide)⟩
    exact wp_bo (by omega) (wp_some ⟨hR19, JI_eq hJ kr ((F19.2.1 49 (by decide)).trans b49) ((F19.2.1 75 (by decide)).trans b75) ((F19.1 76 (by decide)).trans b76) ((F19.1 77 (by decide)).trans b77) ((F19.1 47 (by decide)).trans b47) ((F19.2.2.1 78 (by decide)).trans bL), (F19.1 1 (by decide)).trans b1⟩)
  · obtain ⟨h47, him⟩ : gI s11 47 ≠ 0 ∧ IM (gA s14 113) (gA s 39 5) (gA s 39 6) := by
      rcases h14 with q | q
      · exact absurd q c1
      · exact q.2
    rw [i47] at h47
    obtain ⟨f, hf⟩ : ∃ f, f = gA s14 113 := ⟨_, rfl⟩
    rw [← hf] at him
    have ga := JI_GA hJ h47
    have L26 : ∀ (n : Nat) (x : Int) (S : MS), Rr S → KR s S → gA S 113 = f → gI S 47 = gI s 47 → gI S 1 = 0 → gL S 78 = gL s 78 → (0 ≤ x ∧ x ≤ 785) → (∀ j : Nat, (j : Int) < x → gA S 49 j = f j) → 785 - x < (n : Int) → wp (m_x12_on_L26 n x S) (fun q => Rr q.2 ∧ JI q.2 ∧ gI q.2 1 = 0) := by
      refine fr_ind (fun x S hRS hk h113 s47 s1 sL hx hj hm => by exfalso; omega) (fun n ih x S hRS hk h113 s47 s1 sL hx hj hm => ?_)
      show wp (m_x12_on_b26 (m_x12_on_L26 n) x S) _
      unfold m_x12_on_b26
      refine wp_rg (by omega) (wp_if (fun c2 => ?_) (fun c2 => ?_))
      · refine wp_inb (by omega) (wp_stn (fun s6 e6 => wp_stn (fun s7 e7 => ?_)))
        have hR6 : Rr s6 := e6 ▸ Rr.uAu hRS (by show (-2147483648 : Int) ≤ 0 ∧ (0 : Int) ≤ 2147483647; omega)
        have hR7 : Rr s7 := e7 ▸ Rr.uI hR6 (by show (0 : Int) ≤ 0 ∧ (0 : Int) ≤ 20; omega)
        have u49 : gA s7 49 = upZ (gA S 49) 785 0 := (q_Ia e7).trans (q_AA e6)
        have uA : ∀ k, k ≠ 49 → gA s7 k = gA S k := fun k hk => (q_Ia e7).trans (q_Aa e6 hk)
        have kr : KR s s7 := KR_t hk ⟨uA 39 (by decide), uA 42 (by decide), uA 43 (by decide), uA 44 (by decide)⟩
        have u47 : gI s7 47 = gI s 47 := (q_Ii e7 (by decide)).trans ((q_Ai e6).trans s47)
        have u1 : gI s7 1 = 0 := (q_Ii e7 (by decide)).trans ((q_Ai e6).trans s1)
        have u76 : gI s7 76 = 0 := q_II e7
        have uL : gL s7 78 = gL s 78 := (q_Il e7).trans ((q_Al e6).trans sL)
        have g49 : ∀ j, j < 785 → gA s7 49 j = f j := fun j h => by rw [u49, upZ_n (by omega)]; exact hj j (by omega)
        have hT0 : RT (sA s 49 f) := RT_IM (by rw [gA_sA, if_pos rfl]) (by rw [gA_sA, if_neg (by decide)]) (by rw [gA_sA, if_neg (by decide)]) him
        have hT : RT s7 := RT_x hT0 (fun k hk2 => by rw [g49 k hk2, gA_sA, if_pos rfl]) (by rw [gA_sA, if_neg (by decide), kr.1]) (by rw [gA_sA, if_neg (by decide), kr.1])
        have hB : RB_r s7 := fun u hu => by rw [g49 u (by omega)]; exact him.1.2.2.2.2.2 u hu
        have G : GA s7 := ⟨GN_k ga.1 kr hT hB, JR_0 (by omega), by rw [g49 16 (by omega)]; exact him.2.1, by rw [u49, upZ_s]; omega⟩
        exact wp_some ⟨hR7, GA_JI hJ h47 kr.1 (by rw [uL]; exact hJ.2.1) u47 G, u1⟩
      · refine wp_rdIn (by omega) (fun y8 e8 => ?_)
        have r8 : R2 y8 := e8 ▸ hRS.2.1 113 _ (by show _ < 785; omega)
        refine wp_inb (by omega) (wp_stn (fun s10 e10 => ?_))
        have hR10 : Rr s10 := e10 ▸ Rr.uAu hRS (by show (-2147483648 : Int) ≤ y8 ∧ y8 ≤ 2147483647; omega)
        have u49 : gA s10 49 = upZ (gA S 49) x.toNat y8 := q_AA e10
        have uA : ∀ k, k ≠ 49 → gA s10 k = gA S k := fun k hk => q_Aa e10 hk
        refine ih (x + 1) s10 hR10 (KR_t hk ⟨uA 39 (by decide), uA 42 (by decide), uA 43 (by decide), uA 44 (by decide)⟩) ((uA 113 (by decide)).trans h113) ((q_Ai e10).trans s47) ((q_Ai e10).trans s1) ((q_Al e10).trans sL) (by omega) (fun j hj2 => ?_) (by omega)
        rw [u49]
        by_cases z : j = x.toNat
        · rw [z, upZ_s, ← e8, h113]
        · rw [upZ_n z]; exact hj j (by omega)
    exact L26 FU 0 s14 hR14 kr14 hf.symm b47 b1 bL (by omega) (fun j hj => by omega) (by have := FU_big; omega)
/-! ===== the reference, new ===== -/
def B7 (f : Nat → Int) : Prop := ∀ j, (-1) ≤ f j ∧ f j ≤ 127
theorem B7_z : B7 (fun _ => 0) := fun _ => by show (-1 : Int) ≤ 0 ∧ (0 : Int) ≤ 127; omega
theorem B7_u {f : Nat → Int} {i : Nat} {v : Int} (h : B7 f) (hv : (-1) ≤ v ∧ v ≤ 127) : B7 (upZ f i v) := fun j => by
  by_cases z : j = i
  · rw [z, upZ_s]; exact hv
  · rw [upZ_n z]; exact h j
theorem B7_i {c : Prop} [Decidable c] {f g : Nat → Int} (h1 : B7 f) (h2 : B7 g) : B7 (if c then f else g) := by
  by_cases z : c
  · rw [if_pos z]; exact h1
  · rw [if_neg z]; exact h2
theorem LOr_0 (k : Nat) : LOr k ≤ 0 := by
  unfold LOr
  repeat' split
  all_goals omega
theorem HIr_0 (k : Nat) : 0 ≤ HIr k := by
  unfold HIr
  repeat' split
  all_goals omega
theorem LOAr_0 (k : Nat) : LOAr k ≤ 0 := by
  unfold LOAr
  repeat' split
  all_goals omega
theorem HIAr_0 (k : Nat) : 0 ≤ HIAr k := by
  unfold HIAr
  repeat' split
  all_goals omega
theorem HIAr_w {k : Nat} (h : (11 ≤ k ∧ k ≤ 37) ∨ (79 ≤ k ∧ k ≤ 100)) : HIAr k = 2147483647 := by
  unfold HIAr
  rw [if_neg (show ¬ k = 0 by omega), if_neg (show ¬ k = 42 by omega), if_neg (show ¬ k = 43 by omega), if_neg (show ¬ k = 44 by omega), if_neg (show ¬ k = 54 by omega), if_neg (show ¬ k = 56 by omega), if_neg (show ¬ k = 57 by omega), if_neg (show ¬ k = 58 by omega), if_neg (show ¬ k = 60 by omega), if_neg (show ¬ k = 62 by omega), if_neg (show ¬ k = 63 by omega), if_neg (show ¬ k = 69 by omega), if_neg (show ¬ k = 101 by omega), if_neg (show ¬ k = 103 by omega)]
theorem LOAr_w {k : Nat} (h : (11 ≤ k ∧ k ≤ 37) ∨ (79 ≤ k ∧ k ≤ 100)) : LOAr k = -2147483648 := by
  unfold LOAr
  rw [if_neg (show ¬ k = 0 by omega), if_neg (show ¬ k = 42 by omega), if_neg (show ¬ k = 43 by omega), if_neg (show ¬ k = 44 by omega), if_neg (show ¬ k = 54 by omega), if_neg (show ¬ k = 56 by omega), if_neg (show ¬ k = 57 by omega), if_neg (show ¬ k = 58 by omega), if_neg (show ¬ k = 60 by omega), if_neg (show ¬ k = 62 by omega), if_neg (show ¬ k = 63 by omega), if_neg (show ¬ k = 69 by omega), if_neg (show ¬ k = 101 by omega), if_neg (show ¬ k = 103 by omega)]
theorem rw0_A (k : Nat) (h : (k < 11 ∨ (37 < k ∧ k < 79) ∨ 100 < k) ∧ k ≠ 42) (j : Nat) : gA rw0 k j = 0 := by
  unfold gA rw0
  dsimp only
  rw [if_neg (show ¬ k = 11 by omega), if_neg (show ¬ k = 12 by omega), if_neg (show ¬ k = 13 by omega), if_neg (show ¬ k = 14 by omega), if_neg (show ¬ k = 15 by omega), if_neg (show ¬ k = 16 by omega), if_neg (show ¬ k = 17 by omega), if_neg (show ¬ k = 18 by omega), if_neg (show ¬ k = 19 by omega), if_neg (show ¬ k = 20 by omega), if_neg (show ¬ k = 21 by omega), if_neg (show ¬ k = 22 by omega), if_neg (show ¬ k = 23 by omega), if_neg (show ¬ k = 24 by omega), if_neg (show ¬ k = 25 by omega), if_neg (show ¬ k = 26 by omega), if_neg (show ¬ k = 27 by omega), if_neg (show ¬ k = 28 by omega), if_neg (show ¬ k = 29 by omega), if_neg (show ¬ k = 30 by omega), if_neg (show ¬ k = 31 by omega), if_neg (show ¬ k = 32 by omega), if_neg (show ¬ k = 33 by omega), if_neg (show ¬ k = 34 by omega), if_neg (show ¬ k = 35 by omega), if_neg (show ¬ k = 36 by omega), if_neg (show ¬ k = 37 by omega), if_neg (show ¬ k = 42 by omega), if_neg (show ¬ k = 79 by omega), if_neg (show ¬ k = 80 by omega), if_neg (show ¬ k = 81 by omega), if_neg (show ¬ k = 82 by omega), if_neg (show ¬ k = 83 by omega), if_neg (show ¬ k = 84 by omega), if_neg (show ¬ k = 85 by omega), if_neg (show ¬ k = 86 by omega), if_neg (show ¬ k = 87 by omega), if_neg (show ¬ k = 88 by omega), if_neg (show ¬ k = 89 by omega), if_neg (show ¬ k = 90 by omega), if_neg (show ¬ k = 91 by omega), if_neg (show ¬ k = 92 by omega), if_neg (show ¬ k = 93 by omega), if_neg (show ¬ k = 94 by omega), if_neg (show ¬ k = 95 by omega), if_neg (show ¬ k = 96 by omega), if_neg (show ¬ k = 97 by omega), if_neg (show ¬ k = 98 by omega), if_neg (show ¬ k = 99 by omega), if_neg (show ¬ k = 100 by omega)]
set_option maxRecDepth 10000 in
theorem rw0_B (k : Nat) : B7 (gA rw0 k) := by
  unfold gA rw0
  dsimp only
  exact (B7_i (B7_u (B7_u (B7_u (B7_u (B7_u (B7_u B7_z (by omega)) (by omega)) (by omega)) (by omega)) (by omega)) (by omega))
    (B7_i (B7_u (B7_u (B7_u (B7_u B7_z (by omega)) (by omega)) (by omega)) (by omega))
    (B7_i (B7_u (B7_u (B7_u (B7_u (B7_u (B7_u B7_z (by omega)) (by omega)) (by omega)) (by omega)) (by omega)) (by omega))
    (B7_i (B7_u (B7_u (B7_u (B7_u (B7_u B7_z (by omega)) (by omega)) (by omega)) (by omega)) (by omega))
    (B7_i (B7_u (B7_u B7_z (by omega)) (by omega))
    (B7_i (B7_u (B7_u (B7_u B7_z (by omega)) (by omega)) (by omega))
    (B7_i (B7_u (B7_u (B7_u (B7_u (B7_u (B7_u B7_z (by omega)) (by omega)) (by omega)) (by omega)) (by omega)) (by omega))
    (B7_i (B7_u (B7_u (B7_u (B7_u (B7_u B7_z (by omega)) (by omega)) (by omega)) (by omega)) (by omega))
    (B7_i (B7_u (B7_u (B7_u (B7_u (B7_u (B7_u B7_z (by omega)) (by omega)) (by omega)) (by omega)) (by omega)) (by omega))
    (B7_i (B7_u (B7_u (B7_u (B7_u (B7_u B7_z (by omega)) (by omega)) (by omega)) (by omega)) (by omega))
    (B7_i (B7_u (B7_u (B7_u (B7_u (B7_u B7_z (by omega)) (by omega)) (by omega)) (by omega)) (by omega))
    (B7_i (B7_u (B7_u (B7_u (B7_u (B7_u B7_z (by omega)) (by omega)) (by omega)) (by omega)) (by omega))
    (B7_i (B7_u (B7_u (B7_u (B7_u B7_z (by omega)) (by omega)) (by omega)) (by omega))
    (B7_i (B7_u (B7_u (B7_u (B7_u (B7_u B7_z (by omega)) (by omega)) (by omega)) (by omega)) (by omega))
    (B7_i (B7_u (B7_u (B7_u (B7_u (B7_u (B7_u (B7_u B7_z (by omega)) (by omega)) (by omega)) (by omega)) (by omega)) (by omega)) (by omega))
    (B7_i (B7_u (B7_u (B7_u (B7_u (B7_u (B7_u B7_z (by omega)) (by omega)) (by omega)) (by omega)) (by omega)) (by omega))
    (B7_i (B7_u (B7_u (B7_u (B7_u (B7_u B7_z (by omega)) (by omega)) (by omega)) (by omega)) (by omega))
    (B7_i (B7_u (B7_u (B7_u (B7_u (B7_u B7_z (by omega)) (by omega)) (by omega)) (by omega)) (by omega))
    (B7_i (B7_u (B7_u (B7_u (B7_u (B7_u B7_z (by omega)) (by omega)) (by omega)) (by omega)) (by omega))
    (B7_i (B7_u (B7_u (B7_u (B7_u B7_z (by omega)) (by omega)) (by omega)) (by omega))
    (B7_i (B7_u (B7_u (B7_u B7_z (by omega)) (by omega)) (by omega))
    (B7_i (B7_u (B7_u B7_z (by omega)) (by omega))
    (B7_i (B7_u (B7_u (B7_u B7_z (by omega)) (by omega)) (by omega))
    (B7_i (B7_u (B7_u (B7_u B7_z (by omega)) (by omega)) (by omega))
    (B7_i (B7_u (B7_u (B7_u B7_z (by omega)) (by omega)) (by omega))
    (B7_i (B7_u (B7_u (B7_u B7_z (by omega)) (by omega)) (by omega))
    (B7_i (B7_u (B7_u (B7_u B7_z (by omega)) (by omega)) (by omega))
    (B7_i (B7_u (B7_u (B7_u (B7_u (B7_u (B7_u B7_z (by omega)) (by omega)) (by omega)) (by omega)) (by omega)) (by omega))
    (B7_i (B7_u (B7_u (B7_u (B7_u (B7_u B7_z (by omega)) (by omega)) (by omega)) (by omega)) (by omega))
    (B7_i (B7_u (B7_u (B7_u (B7_u B7_z (by omega)) (by omega)) (by omega)) (by omega))
    (B7_i (B7_u (B7_u (B7_u (B7_u (B7_u B7_z (by omega)) (by omega)) (by omega)) (by omega)) (by omega))
    (B7_i (B7_u (B7_u (B7_u (B7_u (B7_u B7_z (by omega)) (by omega)) (by omega)) (by omega)) (by omega))
    (B7_i (B7_u (B7_u (B7_u (B7_u B7_z (by omega)) (by omega)) (by omega)) (by omega))
    (B7_i (B7_u (B7_u (B7_u (B7_u (B7_u B7_z (by omega)) (by omega)) (by omega)) (by omega)) (by omega))
    (B7_i (B7_u (B7_u (B7_u B7_z (by omega)) (by omega)) (by omega))
    (B7_i (B7_u (B7_u (B7_u B7_z (by omega)) (by omega)) (by omega))
    (B7_i (B7_u (B7_u B7_z (by omega)) (by omega))
    (B7_i (B7_u (B7_u (B7_u B7_z (by omega)) (by omega)) (by omega))
    (B7_i (B7_u (B7_u (B7_u B7_z (by omega)) (by omega)) (by omega))
    (B7_i (B7_u (B7_u (B7_u B7_z (by omega)) (by omega)) (by omega))
    (B7_i (B7_u (B7_u (B7_u (B7_u (B7_u B7_z (by omega)) (by omega)) (by omega)) (by omega)) (by omega))
    (B7_i (B7_u (B7_u (B7_u (B7_u (B7_u B7_z (by omega)) (by omega)) (by omega)) (by omega)) (by omega))
    (B7_i (B7_u (B7_u (B7_u (B7_u B7_z (by omega)) (by omega)) (by omega)) (by omega))
    (B7_i (B7_u (B7_u (B7_u (B7_u (B7_u (B7_u (B7_u B7_z (by omega)) (by omega)) (by omega)) (by omega)) (by omega)) (by omega)) (by omega))
    (B7_i (B7_u (B7_u (B7_u (B7_u (B7_u (B7_u B7_z (by omega)) (by omega)) (by omega)) (by omega)) (by omega)) (by omega))
    (B7_i (B7_u (B7_u (B7_u (B7_u (B7_u B7_z (by omega)) (by omega)) (by omega)) (by omega)) (by omega))
    (B7_i (B7_u (B7_u (B7_u (B7_u (B7_u B7_z (by omega)) (by omega)) (by omega)) (by omega)) (by omega))
    (B7_i (B7_u (B7_u (B7_u (B7_u (B7_u B7_z (by omega)) (by omega)) (by omega)) (by omega)) (by omega))
    (B7_i (B7_u (B7_u (B7_u (B7_u B7_z (by omega)) (by omega)) (by omega)) (by omega))
    (B7_i (B7_u (B7_u (B7_u B7_z (by omega)) (by omega)) (by omega))
    B7_z))))))))))))))))))))))))))))))))))))))))))))))))))
theorem Rr_rw0 : Rr rw0 := by
  refine ⟨fun k => ?_, fun k j _ => ?_, fun k => ?_, fun k j => by show R8 0; decide⟩
  · show LOr k ≤ (if k = 8 then (-1 : Int) else 0) ∧ (if k = 8 then (-1 : Int) else 0) ≤ HIr k
    by_cases e : k = 8
    · rw [if_pos e, e]; show (-2147483648 : Int) ≤ -1 ∧ (-1 : Int) ≤ 2147483647; omega
    · rw [if_neg e]; exact ⟨LOr_0 k, HIr_0 k⟩
  · by_cases e : (11 ≤ k ∧ k ≤ 37) ∨ (79 ≤ k ∧ k ≤ 100)
    · have b := rw0_B k j
      rw [HIAr_w e, LOAr_w e]; omega
    · by_cases e2 : k = 42
      · have b := rw0_B k j
        rw [e2] at b ⊢
        show (-1 : Int) ≤ gA rw0 42 j ∧ gA rw0 42 j ≤ 1600
        omega
      · rw [rw0_A k (by omega) j]; exact ⟨LOAr_0 k, HIAr_0 k⟩
  · show R8 (if k = 78 then (1 : Int) else 0)
    by_cases e : k = 78
    · rw [if_pos e]; decide
    · rw [if_neg e]; decide
theorem JI_rw0 : JI rw0 := by
  have a : ∀ j, gA rw0 49 j = 0 := fun j => rw0_A 49 (by omega) j
  have c : ∀ j, gA rw0 39 j = 0 := fun j => rw0_A 39 (by omega) j
  refine ⟨⟨by rw [a]; omega, by rw [a]; omega⟩, ?_, by rw [c]; omega, Or.inl ⟨rfl, c 5, rfl⟩⟩
  show (0 : Int) ≤ (if 78 = 78 then 1 else 0) ∧ (if 78 = 78 then (1 : Int) else 0) ≤ 2147483647
  rw [if_pos rfl]; omega
/-! ===== the reference's calls that read or write little ===== -/
theorem j_feed {p0 p1 p2 p3 p4 : Int} {t : MS} (hR : Rr t) (hJ : JI t) : wp (m_x12_feed p0 p1 p2 p3 p4 t) (fun q => Rr q.2 ∧ JI q.2 ∧ ((q.1 = -1 ∧ gI q.2 1 = gI t 1 ∧ 1580 < gI t 1) ∨ (q.1 = gI t 1 + 20 ∧ gI q.2 1 = gI t 1 + 20 ∧ gI t 1 ≤ 1580))) :=
  wp_eq (w_x12_feed hR) (fun o e h => by
    have F : F_x12_feed t o.2 := fr_x12_feed e
    exact ⟨h.1, JI_eq hJ ⟨F.2.1 39 (by decide), F.2.1 42 (by decide), F.2.1 43 (by decide), F.2.1 44 (by decide)⟩ (F.2.1 49 (by decide)) (F.2.1 75 (by decide)) (F.1 76 (by decide)) (F.1 77 (by decide)) (F.1 47 (by decide)) (F.2.2.1 78 (by decide)), h.2⟩)
theorem j_end {p0 : Int} {t : MS} (hR : Rr t) (hJ : JI t) (h0 : R2 p0) : wp (m_x12_end p0 t) (fun q => Rr q.2 ∧ JI q.2 ∧ ((q.1 = 0 ∧ gI q.2 1 = gI t 1 ∧ (p0 < 0 ∨ gI t 1 < p0)) ∨ (q.1 = 1 ∧ gI q.2 1 = p0 ∧ 0 ≤ p0 ∧ p0 ≤ gI t 1))) :=
  wp_eq (w_x12_end hR h0) (fun o e h => by
    have F : F_x12_end t o.2 := fr_x12_end e
    exact ⟨h.1, JI_eq hJ ⟨F.2.1 39 (by decide), F.2.1 42 (by decide), F.2.1 43 (by decide), F.2.1 44 (by decide)⟩ (F.2.1 49 (by decide)) (F.2.1 75 (by decide)) (F.1 76 (by decide)) (F.1 77 (by decide)) (F.1 47 (by decide)) (F.2.2.1 78 (by decide)), h.2⟩)
theorem JI_L {s o : MS} (H : JI s) (k : KR s o) (h49 : gA o 49 = gA s 49) (h75 : gA o 75 = gA s 75) (h76 : gI o 76 = gI s 76) (h77 : gI o 77 = gI s 77) (h47 : gI o 47 = gI s 47) (hL : 0 ≤ gL o 78 ∧ gL o 78 ≤ 2147483647) : JI o := by
  refine ⟨by rw [h49]; exact H.1, hL, by rw [k.1]; exact H.2.2.1, ?_⟩
  rcases H.2.2.2 with q | q
  · exact Or.inl (by rw [h47, k.1, h76]; exact q)
  · have G := GA_eq ⟨q.2.1, q.2.2, H.1.1, H.1.2⟩ k h49 h75 h76 h77
    exact Or.inr ⟨by rw [h47]; exact q.1, G.1, G.2.1⟩
theorem j_seed {p0 : Int} {t : MS} (hR : Rr t) (hJ : JI t) (h0 : R2 p0) : wp (m_x12_seed p0 t) (fun q => Rr q.2 ∧ JI q.2 ∧ gI q.2 1 = gI t 1) := by
  have key : wp (m_x12_seed p0 t) (fun q => Rr q.2 ∧ (0 ≤ gL q.2 78 ∧ gL q.2 78 ≤ 2147483647)) := by
    unfold m_x12_seed
    refine wp_rg h0 (wp_if (fun c => wp_rg h0 (wp_stn (fun s4 e4 => ?_))) (fun c => ?_))
    · have hR4 : Rr s4 := e4 ▸ Rr.uL hR (by omega)
      refine wp_some ⟨hR4, ?_⟩
      show 0 ≤ gL s4 78 ∧ gL s4 78 ≤ 2147483647
      rw [(q_LL e4 : gL s4 78 = p0)]; omega
    · refine wp_bn (w_x12_isRefused hR (by omega)) (fun q7 e7 h7 => ?_)
      have F7 : F_x12_isRefused t q7.2 := fr_x12_isRefused e7
      refine wp_bo (Or.inl h7.2) (wp_some ⟨h7.1, ?_⟩)
      show 0 ≤ gL q7.2 78 ∧ gL q7.2 78 ≤ 2147483647
      rw [F7.2.2.1 78 (by decide)]; exact hJ.2.1
  exact wp_eq key (fun o e h => by
    have F : F_x12_seed t o.2 := fr_x12_seed e
    exact ⟨h.1, JI_L hJ ⟨F.2.1 39 (by decide), F.2.1 42 (by decide), F.2.1 43 (by decide), F.2.1 44 (by decide)⟩ (F.2.1 49 (by decide)) (F.2.1 75 (by decide)) (F.1 76 (by decide)) (F.1 77 (by decide)) (F.1 47 (by decide)) h.2, F.1 1 (by decide)⟩)
