/-! ===== on: what is laid is read; counts ===== -/
section LD
variable {S : MS} {f : Nat → Int} {b k : Int}
theorem ld_size (hR : Rr S) (e : gA S 113 = f) (hb : 0 ≤ b ∧ b < 48) : wp (m_x12_laidOf b 3 S) (fun r => r = (hLa f).2.1 b.toNat ∧ R2 r) := by
  refine wp_mono (w_x12_laidOf hR hb (by omega)) (fun r h => ⟨?_, h.2⟩)
  rw [h.1, e]
  show f (17 + 16 * b.toNat + (3 : Int).toNat) = f (20 + 16 * b.toNat)
  rw [show 17 + 16 * b.toNat + (3 : Int).toNat = 20 + 16 * b.toNat by omega]
theorem ld_lev (hR : Rr S) (e : gA S 113 = f) (hb : 0 ≤ b ∧ b < 48) : wp (m_x12_laidOf b 2 S) (fun r => r = (hLa f).1 b.toNat ∧ R2 r) := by
  refine wp_mono (w_x12_laidOf hR hb (by omega)) (fun r h => ⟨?_, h.2⟩)
  rw [h.1, e]
  show f (17 + 16 * b.toNat + (2 : Int).toNat) = f (19 + 16 * b.toNat)
  rw [show 17 + 16 * b.toNat + (2 : Int).toNat = 19 + 16 * b.toNat by omega]
theorem ld_key (hR : Rr S) (e : gA S 113 = f) (hb : 0 ≤ b ∧ b < 48) (hk : 0 ≤ k ∧ k < 6) : wp (m_x12_laidOf b (4 + k) S) (fun r => r = kLa f b.toNat k.toNat ∧ R2 r) := by
  refine wp_mono (w_x12_laidOf hR hb (by omega)) (fun r h => ⟨?_, h.2⟩)
  rw [h.1, e]
  show f (17 + 16 * b.toNat + (4 + k).toNat) = if k.toNat < 6 then f (21 + 16 * b.toNat + k.toNat) else 0
  rw [if_pos (by omega), show 17 + 16 * b.toNat + (4 + k).toNat = 21 + 16 * b.toNat + k.toNat by omega]
theorem ld_key5 (hR : Rr S) (e : gA S 113 = f) (hb : 0 ≤ b ∧ b < 48) (hk : 0 ≤ k ∧ k < 5) : wp (m_x12_laidOf b (5 + k) S) (fun r => r = kLa f b.toNat (k.toNat + 1) ∧ R2 r) := by
  refine wp_mono (w_x12_laidOf hR hb (by omega)) (fun r h => ⟨?_, h.2⟩)
  rw [h.1, e]
  show f (17 + 16 * b.toNat + (5 + k).toNat) = if k.toNat + 1 < 6 then f (21 + 16 * b.toNat + (k.toNat + 1)) else 0
  rw [if_pos (by omega), show 17 + 16 * b.toNat + (5 + k).toNat = 21 + 16 * b.toNat + (k.toNat + 1) by omega]
theorem ld_ent (hR : Rr S) (e : gA S 113 = f) (hb : 0 ≤ b ∧ b < 48) (hk : 0 ≤ k ∧ k < 6) : wp (m_x12_laidOf b (10 + k) S) (fun r => r = (hLa f).2.2 b.toNat k.toNat ∧ R2 r) := by
  refine wp_mono (w_x12_laidOf hR hb (by omega)) (fun r h => ⟨?_, h.2⟩)
  rw [h.1, e]
  show f (17 + 16 * b.toNat + (10 + k).toNat) = if k.toNat < 6 then f (27 + 16 * b.toNat + k.toNat) else 0
  rw [if_pos (by omega), show 17 + 16 * b.toNat + (10 + k).toNat = 27 + 16 * b.toNat + k.toNat by omega]
theorem ld_cnt (hR : Rr S) (e : gA S 113 = f) (hb : 0 ≤ b ∧ b < 48) (hk : k = 0 ∨ k = 1) : wp (m_x12_laidOf b k S) (fun r => r = cLa f k.toNat b.toNat ∧ R2 r) := by
  refine wp_mono (w_x12_laidOf hR hb (by omega)) (fun r h => ⟨?_, h.2⟩)
  rw [h.1, e]
  rfl
end LD
/-- counts as roots and entries make them -/
def CQ (f : Nat → Int) (N : Int) (w : Nat) : Prop := RO N (rLa f w) ∧ ∀ x : Nat, x < 48 → df (hLa f) (cLa f w) (rLa f w) x = 0
theorem cLa_nn {f : Nat → Int} {N E : Int} {w p : Nat} (H : IG f N E) (hw : w < 2) (hp : p < 48) : 0 ≤ cLa f w p ∧ cLa f w p ≤ 255 ∧ (N ≤ (p : Int) → cLa f w p = 0) ∧ (cLa f w p ≠ 0 → DLa f p) := by
  have q := (H.2.2.1 p hp).1
  have z := H.2.2.2.1 p hp
  unfold cLa DLa
  by_cases c : w = 0
  · rw [c]
    exact ⟨q.1.1, q.1.2, fun h => (z h).1, fun h h2 => by have h' : f (17 + 16 * p) ≠ 0 := h; omega⟩
  · rw [show 17 + 16 * p + w = 18 + 16 * p by omega]
    exact ⟨q.2.1, q.2.2, fun h => (z h).2, fun h h2 => by omega⟩
/-- nothing names a block that isn't there -/
theorem CQ_out {f : Nat → Int} {N E : Int} {w x : Nat} (H : IG f N E) (hw : w < 2) (hr : RO N (rLa f w)) (hx : x < 48) (hN : N ≤ (x : Int)) : rf (hLa f) (cLa f w) (rLa f w) (x : Int) = 0 := by
  unfold rf
  have e1 : rr (rLa f w) (x : Int) = 0 := sm_0 (fun v hv => by
    have q := hr v hv
    exact if_neg (by omega))
  have e2 : sm 48 (fun p => if 0 < cLa f w p then en (hLa f) p (x : Int) else 0) = 0 := sm_0 (fun p hp => by
    by_cases c : 0 < cLa f w p
    · rw [if_pos c]
      have nn := en_nn (hLa f) p (x : Int)
      by_cases g : 0 < en (hLa f) p (x : Int)
      · obtain ⟨hl, k, _, hk, hv⟩ := en_ex g
        have kd := IG_kid (k := k) H hp ((cLa_nn H hw hp).2.2.2 (by omega)) hl hk
        rw [hv] at kd
        omega
      · omega
    · exact if_neg c)
  rw [e1, e2]; rfl
def BD (f : Nat → Int) (B : Int) : Prop := ∀ x, x < 48 → 0 ≤ f x ∧ f x ≤ B
theorem BD_up {f : Nat → Int} {B : Int} {i : Nat} {y : Int} (H : BD f B) (hi : i < 48) (e : f i = y) : BD (upZ f i (y + 1)) (B + 1) := fun x hx => by
  have a := H i hi
  have c := H x hx
  by_cases z : x = i
  · rw [z, upZ_s]; omega
  · rw [upZ_n z]; omega
theorem BD_le {f : Nat → Int} {B B' : Int} (H : BD f B) (h : B ≤ B') : BD f B' := fun x hx => by have := H x hx; omega
/-- one more -/
theorem up1 {f : Nat → Int} {g : Nat → Int} {i : Nat} {y v : Int} (hg : ∀ x : Nat, x < 48 → f x = g x) (e : f i = y) (hv : 0 ≤ v) (hi : i = v.toNat) : ∀ x : Nat, x < 48 → upZ f i (y + 1) x = g x + (if v = (x : Int) then 1 else 0) := fun x hx => by
  by_cases z : x = i
  · rw [z, upZ_s, ← e, if_pos (by omega)]
    rw [z] at hx
    rw [hg i hx]
  · rw [upZ_n z, if_neg (by omega), hg x hx]; omega
set_option maxHeartbeats 2000000 in
theorem mt_areCounts {p0 : Int} {s : MS} {E : Int} (hRs : Rr s) (H : IG (gA s 113) (gA s 39 5) E) (hp : p0 = 0 ∨ p0 = 1) : wp (m_x12_areCounts p0 s) (fun q => Rr q.2 ∧ F_x12_areCounts s q.2 ∧ (q.1 = 0 ∨ (q.1 = 1 ∧ CQ (gA s 113) (gA s 39 5) p0.toNat))) := by
  obtain ⟨f, hf⟩ : ∃ f, f = gA s 113 := ⟨_, rfl⟩
  obtain ⟨N, hN⟩ : ∃ N, N = gA s 39 5 := ⟨_, rfl⟩
  obtain ⟨w, hw⟩ : ∃ w, w = p0.toNat := ⟨_, rfl⟩
  rw [← hf, ← hN] at H
  rw [← hf, ← hN, ← hw]
  have hw2 : w < 2 := by omega
  have n48 := H.1
  have hE := H.2.1
  have key : wp (m_x12_areCounts p0 s) (fun q => Rr q.2 ∧ (q.1 = 0 ∨ (q.1 = 1 ∧ CQ f N w))) := by
    have L153 : ∀ (n : Nat) (x : Int) (S : MS), Rr S → gA S 113 = f → gA S 39 5 = N → RO N (rLa f w) → (0 ≤ x ∧ x ≤ N) → BD (gA S 115) 400 → (∀ y : Nat, y < 48 → gA S 115 y = rf (hLa f) (cLa f w) (rLa f w) (y : Int)) → (∀ y : Nat, (y : Int) < x → rf (hLa f) (cLa f w) (rLa f w) (y : Int) = cLa f w y) → 48 - x < (n : Int) → wp (m_x12_areCounts_L153 n p0 x S) (fun q => Rr q.2 ∧ (q.1 = 0 ∨ (q.1 = 1 ∧ CQ f N w))) := by
      refine fr_ind (fun x S hRS h113 h39 hro hx hB h115 hdone hm => by exfalso; omega) (fun n ih x S hRS h113 h39 hro hx hB h115 hdone hm => ?_)
      show wp (m_x12_areCounts_b153 (m_x12_areCounts_L153 n) p0 x S) _
      unfold m_x12_areCounts_b153
      refine wp_bn (w_x12_blockMany hRS) (fun r5 e5 h5 => ?_)
      have h5 : r5 = gA S 39 5 := h5
      rw [h39] at h5
      refine wp_rg (by omega) (wp_rg (by omega) (wp_if (fun c1 => wp_some ⟨hRS, Or.inr ⟨rfl, hro, fun y hy => ?_⟩⟩) (fun c1 => ?_)))
      · show cLa f w y - rf (hLa f) (cLa f w) (rLa f w) (y : Int) = 0
        by_cases z : (y : Int) < x
        · rw [hdone y z]; omega
        · rw [CQ_out H hw2 hro hy (by omega), (cLa_nn H hw2 hy).2.2.1 (by omega)]; rfl
      · refine wp_rdIn (by omega) (fun y9 e9 => ?_)
        refine wp_bn (ld_cnt hRS h113 (by omega) hp) (fun r11 e11 h11 => ?_)
        have b9 := hB x.toNat (by omega)
        rw [e9] at b9
        have v9 := h115 x.toNat (by omega)
        rw [e9] at v9
        have v11 : r11 = cLa f w x.toNat := by rw [h11.1, hw]
        refine wp_rg (by omega) (wp_rg h11.2 (wp_if (fun c2 => ?_) (fun c2 => wp_some ⟨hRS, Or.inl rfl⟩)))
        refine ih (x + 1) S hRS h113 h39 hro (by omega) hB h115 (fun y hy => ?_) (by omega)
        by_cases z : y = x.toNat
        · rw [z, ← v9, ← v11]; exact c2
        · exact hdone y (by omega)
    have L80 : ∀ (n : Nat) (x : Int) (S : MS), Rr S → gA S 113 = f → gA S 39 5 = N → RO N (rLa f w) → (0 ≤ x ∧ x ≤ N) → BD (gA S 115) (8 + 6 * x) → (∀ y : Nat, y < 48 → gA S 115 y = rr (rLa f w) (y : Int) + sm x.toNat (fun p => if 0 < cLa f w p then en (hLa f) p (y : Int) else 0)) → 48 - x < (n : Int) → wp (m_x12_areCounts_L80 n p0 x S) (fun q => Rr q.2 ∧ (q.1 = 0 ∨ (q.1 = 1 ∧ CQ f N w))) := by
      refine fr_ind (fun x S hRS h113 h39 hro hx hB h115 hm => by exfalso; omega) (fun n ih x S hRS h113 h39 hro hx hB h115 hm => ?_)
      show wp (m_x12_areCounts_b80 (m_x12_areCounts_L80 n) p0 x S) _
      unfold m_x12_areCounts_b80
      refine wp_bn (w_x12_blockMany hRS) (fun r36 e36 h36 => ?_)
      have h36 : r36 = gA S 39 5 := h36
      rw [h39] at h36
      refine wp_rg (by omega) (wp_rg (by omega) (wp_if (fun c1 => ?_) (fun c1 => ?_)))
      · refine L153 FU 0 S hRS h113 h39 hro (by omega) (BD_le hB (by omega)) (fun y hy => ?_) (fun y hy => by omega) (by have := FU_big; omega)
        rw [h115 y hy]
        unfold rf
        rw [sm_cut (n := x.toNat) (m := 48) (f := fun p => if 0 < cLa f w p then en (hLa f) p (y : Int) else 0) (by omega) (fun i h1 h2 => by
          have q := (cLa_nn H hw2 h2).2.2.1 (by omega)
          exact if_neg (by omega))]
      · have xb : x.toNat < 48 := by omega
        have cx := cLa_nn H hw2 xb
        have nxt : ∀ T : MS, Rr T → gA T 113 = f → gA T 39 5 = N → BD (gA T 115) (8 + 6 * (x + 1)) → (∀ y : Nat, y < 48 → gA T 115 y = rr (rLa f w) (y : Int) + sm x.toNat (fun p => if 0 < cLa f w p then en (hLa f) p (y : Int) else 0) + (if 0 < cLa f w x.toNat then en (hLa f) x.toNat (y : Int) else 0)) → wp (m_x12_areCounts_J145 (m_x12_areCounts_L80 n) p0 x T) (fun q => Rr q.2 ∧ (q.1 = 0 ∨ (q.1 = 1 ∧ CQ f N w))) := by
          intro T hRT t113 t39 tB t115
          unfold m_x12_areCounts_J145
          refine ih (x + 1) T hRT t113 t39 hro (by omega) tB (fun y hy => ?_) (by omega)
          rw [t115 y hy, show (x + 1).toNat = x.toNat + 1 by omega]
          show _ = rr (rLa f w) (y : Int) + (sm x.toNat (fun p => if 0 < cLa f w p then en (hLa f) p (y : Int) else 0) + (if 0 < cLa f w x.toNat then en (hLa f) x.toNat (y : Int) else 0))
          omega
        refine wp_bn (ld_cnt hRS h113 (by omega) hp) (fun r41 e41 h41 => ?_)
        have v41 : r41 = cLa f w x.toNat := by rw [h41.1, hw]
        refine wp_rg h41.2 (wp_if (fun c2 => ?_) (fun c2 => ?_))
        · refine nxt S hRS h113 h39 (BD_le hB (by omega)) (fun y hy => ?_)
          rw [h115 y hy, if_neg (by omega : ¬ 0 < cLa f w x.toNat)]; omega
        · refine wp_bn (ld_lev hRS h113 (by omega)) (fun r45 e45 h45 => ?_)
          have dx := cx.2.2.2 (by omega)
          have t := IG_there H xb dx
          refine wp_rg h45.2 (wp_if (fun c3 => ?_) (fun c3 => ?_))
          · refine nxt S hRS h113 h39 (BD_le hB (by omega)) (fun y hy => ?_)
            rw [h115 y hy, if_pos (by omega : 0 < cLa f w x.toNat), en_leaf (by have := h45.1; omega)]; omega
          · have hl : 0 < (hLa f).1 x.toNat := by have := h45.1; omega
            have L111 : ∀ (m : Nat) (k : Int) (T : MS), Rr T → gA T 113 = f → gA T 39 5 = N → (0 ≤ k ∧ k ≤ (hLa f).2.1 x.toNat) → BD (gA T 115) (8 + 6 * x + k) → (∀ y : Nat, y < 48 → gA T 115 y = rr (rLa f w) (y : Int) + sm x.toNat (fun p => if 0 < cLa f w p then en (hLa f) p (y : Int) else 0) + sm k.toNat (fun j => if (hLa f).2.2 x.toNat j = (y : Int) then 1 else 0)) → 6 - k < (m : Int) → wp (m_x12_areCounts_L111 (m_x12_areCounts_L80 n) m p0 x k T) (fun q => Rr q.2 ∧ (q.1 = 0 ∨ (q.1 = 1 ∧ CQ f N w))) := by
              refine fr_ind (fun k T hRT t113 t39 hk tB t115 hm2 => by exfalso; omega) (fun m ihm k T hRT t113 t39 hk tB t115 hm2 => ?_)
              show wp (m_x12_areCounts_b111 (m_x12_areCounts_L80 n) (m_x12_areCounts_L111 (m_x12_areCounts_L80 n) m) p0 x k T) _
              unfold m_x12_areCounts_b111
              refine wp_bn (ld_size hRT t113 (by omega)) (fun r26 e26 h26 => ?_)
              have v26 := h26.1
              refine wp_rg (by omega) (wp_rg h26.2 (wp_if (fun c4 => ?_) (fun c4 => ?_)))
              · refine nxt T hRT t113 t39 (BD_le tB (by omega)) (fun y hy => ?_)
                rw [t115 y hy, if_pos (by omega : 0 < cLa f w x.toNat), en_sm (h := hLa f) (p := x.toNat) (x := (y : Int)) (by omega), if_pos hl, show k.toNat = ((hLa f).2.1 x.toNat).toNat by omega]
              · refine wp_bn (ld_ent hRT t113 (by omega) (by omega)) (fun r31 e31 h31 => ?_)
                have kd := (IG_kid (k := k.toNat) H xb dx hl (by omega)).1
                have v31 := h31.1
                rw [← v31] at kd
                refine wp_rdIn (by omega) (fun y32 e32 => ?_)
                have b32 := tB r31.toNat (by omega)
                rw [e32] at b32
                refine wp_inb (by omega) (wp_stn (fun s34 e34 => ?_))
                have hR34 : Rr s34 := e34 ▸ Rr.uAu hRT (by show (-2147483648 : Int) ≤ y32 + 1 ∧ y32 + 1 ≤ 2147483647; omega)
                have u115 : gA s34 115 = upZ (gA T 115) r31.toNat (y32 + 1) := q_AA e34
                have u39 : gA s34 39 = gA T 39 := q_Aa e34 (by decide)
                refine ihm (k + 1) s34 hR34 ((q_Aa e34 (by decide)).trans t113) (by rw [u39]; exact t39) (by omega) ?_ (fun y hy => ?_) (by omega)
                · rw [u115]; exact BD_le (BD_up tB (by omega) e32) (by omega)
                · rw [u115, up1 t115 e32 kd.1 rfl y hy, show (k + 1).toNat = k.toNat + 1 by omega]
                  show _ = _ + (sm k.toNat (fun j => if (hLa f).2.2 x.toNat j = (y : Int) then 1 else 0) + (if (hLa f).2.2 x.toNat k.toNat = (y : Int) then 1 else 0))
                  rw [← v31]
                  omega
            refine L111 FU 0 S hRS h113 h39 (by omega) (BD_le hB (by omega)) (fun y hy => ?_) (by have := FU_big; omega)
            rw [h115 y hy]
            show _ = _ + (0 : Int)
            omega
    have L23 : ∀ (n : Nat) (v : Int) (S : MS), Rr S → gA S 113 = f → gA S 39 5 = N → (0 ≤ v ∧ v ≤ 8) → BD (gA S 115) v → (∀ u : Nat, (u : Int) < v → (0 ≤ rLa f w u ∧ rLa f w u < N) ∨ rLa f w u < 0 ∨ 254 ≤ rLa f w u) → (∀ y : Nat, y < 48 → gA S 115 y = sm v.toNat (fun u => if rLa f w u = (y : Int) then 1 else 0)) → 8 - v < (n : Int) → wp (m_x12_areCounts_L23 n p0 v S) (fun q => Rr q.2 ∧ (q.1 = 0 ∨ (q.1 = 1 ∧ CQ f N w))) := by
      refine fr_ind (fun v S hRS h113 h39 hv hB hro h115 hm => by exfalso; omega) (fun n ih v S hRS h113 h39 hv hB hro h115 hm => ?_)
      show wp (m_x12_areCounts_b23 (m_x12_areCounts_L23 n) p0 v S) _
      unfold m_x12_areCounts_b23
      refine wp_rg (by omega) (wp_if (fun c1 => ?_) (fun c1 => ?_))
      · refine L80 FU 0 S hRS h113 h39 (fun u hu => hro u (by omega)) (by omega) (BD_le hB (by omega)) (fun y hy => ?_) (by have := FU_big; omega)
        rw [h115 y hy, show v.toNat = 8 by omega]
        show rr (rLa f w) (y : Int) = rr (rLa f w) (y : Int) + (0 : Int)
        omega
      · refine wp_rdIn (by omega) (fun y56 e56 => ?_)
        have v56 : y56 = rLa f w v.toNat := by
          rw [← e56, h113]
          show _ = if v.toNat < 8 then f (8 * w + v.toNat) else 0
          rw [if_pos (by omega), show (8 * p0 + v).toNat = 8 * w + v.toNat by omega]
        have b56 : 0 ≤ y56 ∧ y56 ≤ 255 := by
          have q := H.2.2.2.2.2 (8 * w + v.toNat) (by omega)
          rw [v56]
          show 0 ≤ (if v.toNat < 8 then f (8 * w + v.toNat) else 0) ∧ (if v.toNat < 8 then f (8 * w + v.toNat) else 0) ≤ 255
          rw [if_pos (by omega)]; exact q
        have nxt : ∀ T : MS, Rr T → gA T 113 = f → gA T 39 5 = N → BD (gA T 115) (v + 1) → ((0 ≤ y56 ∧ y56 < N) ∨ y56 < 0 ∨ 254 ≤ y56) → (∀ y : Nat, y < 48 → gA T 115 y = sm v.toNat (fun u => if rLa f w u = (y : Int) then 1 else 0) + (if y56 = (y : Int) then 1 else 0)) → wp (m_x12_areCounts_J72 (m_x12_areCounts_L23 n) p0 v T) (fun q => Rr q.2 ∧ (q.1 = 0 ∨ (q.1 = 1 ∧ CQ f N w))) := by
          intro T hRT t113 t39 tB ho t115
          unfold m_x12_areCounts_J72
          refine ih (v + 1) T hRT t113 t39 (by omega) tB (fun u hu => ?_) (fun y hy => ?_) (by omega)
          · by_cases z : u = v.toNat
            · rw [z, ← v56]; exact ho
            · exact hro u (by omega)
          · rw [t115 y hy, v56, show (v + 1).toNat = v.toNat + 1 by omega]
            rfl
        refine wp_rg (by omega) (wp_if (fun c2 => ?_) (fun c2 => ?_))
        · refine wp_rg (by omega) (wp_bn (w_x12_isBlock hRS (by omega) (by rw [h39]; omega)) (fun r61 e61 h61 => ?_))
          have h61 : (r61 = 1 ∧ 0 ≤ y56 ∧ y56 < gA S 39 5) ∨ (r61 = 0 ∧ (y56 < 0 ∨ gA S 39 5 ≤ y56)) := h61
          rw [h39] at h61
          refine wp_rg (by omega) (wp_if (fun c3 => wp_some ⟨hRS, Or.inl rfl⟩) (fun c3 => ?_))
          refine wp_rdIn (by omega) (fun y64 e64 => ?_)
          have b64 := hB y56.toNat (by omega)
          rw [e64] at b64
          refine wp_inb (by omega) (wp_stn (fun s66 e66 => ?_))
          have hR66 : Rr s66 := e66 ▸ Rr.uAu hRS (by show (-2147483648 : Int) ≤ y64 + 1 ∧ y64 + 1 ≤ 2147483647; omega)
          have u115 : gA s66 115 = upZ (gA S 115) y56.toNat (y64 + 1) := q_AA e66
          have u39 : gA s66 39 = gA S 39 := q_Aa e66 (by decide)
          refine nxt s66 hR66 ((q_Aa e66 (by decide)).trans h113) (by rw [u39]; exact h39) ?_ (by omega) (fun y hy => ?_)
          · rw [u115]; exact BD_up hB (by omega) e64
          · rw [u115, up1 h115 e64 (by omega) rfl y hy]
        · refine nxt S hRS h113 h39 (BD_le hB (by omega)) (by omega) (fun y hy => ?_)
          rw [h115 y hy, if_neg (by omega : ¬ y56 = (y : Int))]; omega
    have L2 : ∀ (n : Nat) (x : Int) (S : MS), Rr S → gA S 113 = f → gA S 39 5 = N → (0 ≤ x ∧ x ≤ 48) → (∀ y : Nat, (y : Int) < x → gA S 115 y = 0) → 48 - x < (n : Int) → wp (m_x12_areCounts_L2 n p0 x S) (fun q => Rr q.2 ∧ (q.1 = 0 ∨ (q.1 = 1 ∧ CQ f N w))) := by
      refine fr_ind (fun x S hRS h113 h39 hx hz hm => by exfalso; omega) (fun n ih x S hRS h113 h39 hx hz hm => ?_)
      show wp (m_x12_areCounts_b2 (m_x12_areCounts_L2 n) p0 x S) _
      unfold m_x12_areCounts_b2
      refine wp_rg (by omega) (wp_if (fun c1 => ?_) (fun c1 => ?_))
      · refine L23 FU 0 S hRS h113 h39 (by omega) (fun y hy => by rw [hz y (by omega)]; omega) (fun u hu => by omega) (fun y hy => ?_) (by have := FU_big; omega)
        rw [hz y (by omega)]
        rfl
      · refine wp_inb (by omega) (wp_stn (fun s73 e73 => ?_))
        have hR73 : Rr s73 := e73 ▸ Rr.uAu hRS (by show (-2147483648 : Int) ≤ 0 ∧ (0 : Int) ≤ 2147483647; omega)
        have u115 : gA s73 115 = upZ (gA S 115) x.toNat 0 := q_AA e73
        have u39 : gA s73 39 = gA S 39 := q_Aa e73 (by decide)
        refine ih (x + 1) s73 hR73 ((q_Aa e73 (by decide)).trans h113) (by rw [u39]; exact h39) (by omega) (fun y hy => ?_) (by omega)
        rw [u115]
        by_cases z : y = x.toNat
        · rw [z, upZ_s]
        · rw [upZ_n z]; exact hz y (by omega)
    unfold m_x12_areCounts
    exact L2 FU 0 s hRs hf.symm hN.symm (by omega) (fun y hy => by omega) (by have := FU_big; omega)
  exact wp_eq key (fun o eo ho => ⟨ho.1, fr_x12_areCounts eo, ho.2⟩)
