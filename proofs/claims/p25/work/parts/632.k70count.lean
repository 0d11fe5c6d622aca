/-! ===== counting BLOCKS on both sides ===== -/
def cn (N : Int) (g : Nat → Int) : Int := sm 48 (fun b => if (b : Int) < N then g b else 0)
theorem cn_sm {N : Int} {g : Nat → Int} (h : N ≤ 48) : sm N.toNat g = cn N g := by
  unfold cn
  rw [sm_cut (n := N.toNat) (m := 48) (f := fun b => if (b : Int) < N then g b else 0) (by omega) (fun i h1 _ => if_neg (by omega))]
  exact sm_c (fun i hi => (if_pos (by omega) : (if (i : Int) < N then g i else 0) = g i).symm)
theorem cn_pm {π σ : Nat → Nat} {N : Int} (h : PNM π σ N) {f g : Nat → Int} (e : ∀ x, x < 48 → (x : Int) < N → f (π x) = g x) : cn N f = cn N g := by
  unfold cn
  rw [sm_pm h]
  refine sm_c (fun x hx => ?_)
  show (if ((π x : Nat) : Int) < N then f (π x) else 0) = if (x : Int) < N then g x else 0
  have w := (h x hx).2.2
  by_cases z : (x : Int) < N
  · rw [if_pos z, if_pos (w.2 z)]; exact e x hx z
  · rw [if_neg z, if_neg (fun u => z (w.1 u))]
theorem cn_c {N : Int} {f g : Nat → Int} (e : ∀ x, x < 48 → (x : Int) < N → f x = g x) : cn N f = cn N g := by
  unfold cn
  refine sm_c (fun x hx => ?_)
  show (if (x : Int) < N then f x else 0) = if (x : Int) < N then g x else 0
  by_cases z : (x : Int) < N
  · rw [if_pos z, if_pos z]; exact e x hx z
  · rw [if_neg z, if_neg z]
theorem cn_add (N : Int) (f g : Nat → Int) : cn N (fun x => f x + g x) = cn N f + cn N g := by
  unfold cn
  rw [← sm_add]
  refine sm_c (fun x _ => ?_)
  show (if (x : Int) < N then f x + g x else 0) = (if (x : Int) < N then f x else 0) + if (x : Int) < N then g x else 0
  by_cases z : (x : Int) < N
  · rw [if_pos z, if_pos z, if_pos z]
  · rw [if_neg z, if_neg z, if_neg z]; rfl
theorem cn_1 {N : Int} (h : 0 ≤ N ∧ N ≤ 48) : cn N (fun _ => 1) = N := by
  rw [← cn_sm h.2]
  have L : ∀ n : Nat, sm n (fun _ => (1 : Int)) = (n : Int) := by
    intro n
    induction n with
    | zero => rfl
    | succ n ih =>
      show sm n (fun _ => (1 : Int)) + 1 = ((n + 1 : Nat) : Int)
      rw [ih]; omega
  rw [L]; omega
theorem s_inUse {p : Int} {s : MS} : pc (m_x8_inUse p s) (fun r => (r = 1 ∧ (0 ≤ p ∧ p < gI s 1060) ∧ 0 < gA s 54 p.toNat) ∨ (r = 0 ∧ ¬ ((0 ≤ p ∧ p < gI s 1060) ∧ 0 < gA s 54 p.toNat))) := by
  unfold m_x8_inUse m_x8_inUse_J21 m_x8_inUse_J22
  refine pc_bq s_isBk (fun r4 h4 => pc_rg (pc_if (fun c => pc_bo (pc_some (Or.inr ⟨rfl, fun w => ?_⟩))) (fun c => pc_rdI (fun _ => pc_rg (pc_if (fun c2 => pc_bo (pc_some (Or.inr ⟨rfl, fun w => ?_⟩))) (fun c2 => pc_bo (pc_some (Or.inl ⟨rfl, ?_, by omega⟩))))))))
  · rcases h4 with ⟨a, _⟩ | ⟨_, b⟩
    · omega
    · exact b w.1
  · have := w.2
    omega
  · rcases h4 with ⟨_, b⟩ | ⟨a, _⟩
    · exact b
    · exact absurd a c
theorem s_isHeld {p : Int} {s : MS} : pc (m_x8_isHeld p s) (fun r => (r = 1 ∧ (0 ≤ p ∧ p < gI s 1060) ∧ gA s 54 p.toNat = 0 ∧ 0 < gA s 55 p.toNat) ∨ (r = 0 ∧ ¬ ((0 ≤ p ∧ p < gI s 1060) ∧ gA s 54 p.toNat = 0 ∧ 0 < gA s 55 p.toNat))) := by
  unfold m_x8_isHeld m_x8_isHeld_J30 m_x8_isHeld_J31
  refine pc_bq s_isBk (fun r4 h4 => pc_rg (pc_if (fun c => pc_bo (pc_some (Or.inr ⟨rfl, fun w => ?_⟩))) (fun c => pc_rdI (fun _ => pc_rg (pc_if (fun c2 => pc_rdI (fun _ => pc_rg (pc_if (fun c3 => pc_bo (pc_some (Or.inr ⟨rfl, fun w => ?_⟩))) (fun c3 => pc_bo (pc_some (Or.inl ⟨rfl, ?_, c2, by omega⟩)))))) (fun c2 => pc_bo (pc_some (Or.inr ⟨rfl, fun w => c2 w.2.1⟩))))))))
  · rcases h4 with ⟨a, _⟩ | ⟨_, b⟩
    · omega
    · exact b w.1
  · have := w.2.2
    omega
  · rcases h4 with ⟨_, b⟩ | ⟨a, _⟩
    · exact b
    · exact absurd a c
theorem s_isWr {p : Int} {s : MS} : pc (m_x1_isWritten p s) (fun r => (r = 1 ∧ (0 ≤ p ∧ p < gI s 1060) ∧ 0 < gA s 54 p.toNat ∧ bW (gL s 1062) p.toNat) ∨ (r = 0 ∧ ¬ ((0 ≤ p ∧ p < gI s 1060) ∧ 0 < gA s 54 p.toNat ∧ bW (gL s 1062) p.toNat))) := by
  have rgl : ∀ {x : Int} {k : Option Int} {P : Int → Prop}, pc k P → pc (rgL x k) P := fun {x k P} h => by
    unfold rgL
    split
    · exact h
    · exact pc_none
  unfold m_x1_isWritten m_x1_isWritten_J31 m_x1_isWritten_J32
  refine pc_bq s_inUse (fun r4 h4 => pc_rg (pc_if (fun c => pc_bo (pc_some (Or.inr ⟨rfl, fun w => ?_⟩))) (fun c => rgl (pc_if (fun c2 => pc_bo (pc_some (Or.inr ⟨rfl, fun w => ?_⟩))) (fun c2 => pc_bo (pc_some (Or.inl ⟨rfl, ?_⟩)))))))
  · rcases h4 with ⟨a, _⟩ | ⟨_, b⟩
    · omega
    · exact b ⟨w.1, w.2.1⟩
  · have q := w.2.2
    unfold bW at q
    rw [show ((p.toNat : Nat) : Int) = p by omega] at q
    exact q c2
  · rcases h4 with ⟨_, b1, b2⟩ | ⟨a, _⟩
    · refine ⟨b1, b2, ?_⟩
      unfold bW
      rw [show ((p.toNat : Nat) : Int) = p by omega]
      exact c2
    · exact absurd a c
theorem m_isHeld {p : Int} {t : MS} (hp : 0 ≤ p) : pc (m_x12_isHeld p t) (fun r => (r = 1 ∧ cM t p.toNat ≤ 0 ∧ 0 < vM t p.toNat) ∨ (r = 0 ∧ ¬ (cM t p.toNat ≤ 0 ∧ 0 < vM t p.toNat))) := by
  unfold m_x12_isHeld m_x12_isHeld_J20 m_x12_isHeld_J21
  refine pc_bq (m_used hp) (fun r4 h4 => pc_rg (pc_if (fun c => pc_bq (m_sav hp) (fun r8 h8 => pc_rg (pc_if (fun c2 => pc_bo (pc_some (Or.inr ⟨rfl, fun w => ?_⟩))) (fun c2 => pc_bo (pc_some (Or.inl ⟨rfl, ?_, ?_⟩)))))) (fun c => pc_bo (pc_some (Or.inr ⟨rfl, fun w => ?_⟩)))))
  all_goals omega
theorem m_bm {t : MS} : pc (m_x12_blockMany t) (fun r => r = gA t 39 5) := by
  unfold m_x12_blockMany
  exact pc_rdI (fun _ => pc_some rfl)
theorem s_used {s : MS} (hN : 0 ≤ gI s 1060 ∧ gI s 1060 ≤ 48) : pc (m_x8_used s) (fun r => r = cn (gI s 1060) (fun b => if 0 < gA s 54 b then 1 else 0)) := by
  have L : ∀ (n : Nat) (x1 x2 : Int), (0 ≤ x2 ∧ x2 ≤ gI s 1060) → x1 = sm x2.toNat (fun b => if 0 < gA s 54 b then 1 else 0) → pc (m_x8_used_L4 s n x1 x2) (fun r => r = cn (gI s 1060) (fun b => if 0 < gA s 54 b then 1 else 0)) := by
    refine fr_ind (fun _ _ _ _ => pc_none) (fun n ih x1 x2 h2 h1 => ?_)
    show pc (m_x8_used_b4 s (m_x8_used_L4 s n) x1 x2) _
    unfold m_x8_used_b4 m_x8_used_J27
    have st : sm (x2 + 1).toNat (fun b => if 0 < gA s 54 b then (1 : Int) else 0) = sm x2.toNat (fun b => if 0 < gA s 54 b then (1 : Int) else 0) + (if 0 < gA s 54 x2.toNat then 1 else 0) := by
      rw [show (x2 + 1).toNat = x2.toNat + 1 by omega]; rfl
    refine pc_rg (pc_rg (pc_if (fun c => pc_some ?_) (fun c => pc_rdI (fun _ => pc_rg (pc_if (fun c2 => ih _ _ (by omega) ?_) (fun c2 => ih _ _ (by omega) ?_))))))
    · rw [h1, show x2 = gI s 1060 by omega]; exact cn_sm hN.2
    · rw [st, if_neg (by omega)]; omega
    · rw [st, if_pos (by omega)]; omega
  unfold m_x8_used
  exact L FU 0 0 ⟨Int.le_refl 0, hN.1⟩ rfl
theorem s_kept {s : MS} (hN : 0 ≤ gI s 1060 ∧ gI s 1060 ≤ 48) : pc (m_x8_keptBlocks s) (fun r => r = cn (gI s 1060) (fun b => if 0 < gA s 55 b then 1 else 0)) := by
  have L : ∀ (n : Nat) (x1 x2 : Int), (0 ≤ x2 ∧ x2 ≤ gI s 1060) → x1 = sm x2.toNat (fun b => if 0 < gA s 55 b then 1 else 0) → pc (m_x8_keptBlocks_L4 s n x1 x2) (fun r => r = cn (gI s 1060) (fun b => if 0 < gA s 55 b then 1 else 0)) := by
    refine fr_ind (fun _ _ _ _ => pc_none) (fun n ih x1 x2 h2 h1 => ?_)
    show pc (m_x8_keptBlocks_b4 s (m_x8_keptBlocks_L4 s n) x1 x2) _
    unfold m_x8_keptBlocks_b4 m_x8_keptBlocks_J27
    have st : sm (x2 + 1).toNat (fun b => if 0 < gA s 55 b then (1 : Int) else 0) = sm x2.toNat (fun b => if 0 < gA s 55 b then (1 : Int) else 0) + (if 0 < gA s 55 x2.toNat then 1 else 0) := by
      rw [show (x2 + 1).toNat = x2.toNat + 1 by omega]; rfl
    refine pc_rg (pc_rg (pc_if (fun c => pc_some ?_) (fun c => pc_rdI (fun _ => pc_rg (pc_if (fun c2 => ih _ _ (by omega) ?_) (fun c2 => ih _ _ (by omega) ?_))))))
    · rw [h1, show x2 = gI s 1060 by omega]; exact cn_sm hN.2
    · rw [st, if_neg (by omega)]; omega
    · rw [st, if_pos (by omega)]; omega
  unfold m_x8_keptBlocks
  exact L FU 0 0 ⟨Int.le_refl 0, hN.1⟩ rfl
theorem s_held {s : MS} (hN : 0 ≤ gI s 1060 ∧ gI s 1060 ≤ 48) : pc (m_x8_held s) (fun r => r = cn (gI s 1060) (fun b => if gA s 54 b = 0 ∧ 0 < gA s 55 b then 1 else 0)) := by
  have L : ∀ (n : Nat) (x1 x2 : Int), (0 ≤ x2 ∧ x2 ≤ gI s 1060) → x1 = sm x2.toNat (fun b => if gA s 54 b = 0 ∧ 0 < gA s 55 b then 1 else 0) → pc (m_x8_held_L4 s n x1 x2) (fun r => r = cn (gI s 1060) (fun b => if gA s 54 b = 0 ∧ 0 < gA s 55 b then 1 else 0)) := by
    refine fr_ind (fun _ _ _ _ => pc_none) (fun n ih x1 x2 h2 h1 => ?_)
    show pc (m_x8_held_b4 s (m_x8_held_L4 s n) x1 x2) _
    unfold m_x8_held_b4 m_x8_held_J26
    have st : sm (x2 + 1).toNat (fun b => if gA s 54 b = 0 ∧ 0 < gA s 55 b then (1 : Int) else 0) = sm x2.toNat (fun b => if gA s 54 b = 0 ∧ 0 < gA s 55 b then (1 : Int) else 0) + (if gA s 54 x2.toNat = 0 ∧ 0 < gA s 55 x2.toNat then 1 else 0) := by
      rw [show (x2 + 1).toNat = x2.toNat + 1 by omega]; rfl
    refine pc_rg (pc_rg (pc_if (fun c => pc_some ?_) (fun c => pc_bq s_isHeld (fun r10 h10 => pc_rg (pc_if (fun c2 => ih _ _ (by omega) ?_) (fun c2 => ih _ _ (by omega) ?_))))))
    · rw [h1, show x2 = gI s 1060 by omega]; exact cn_sm hN.2
    · have w : ¬ (gA s 54 x2.toNat = 0 ∧ 0 < gA s 55 x2.toNat) := fun w => by
        rcases h10 with ⟨a, _⟩ | ⟨_, d⟩
        · omega
        · exact d ⟨⟨h2.1, by omega⟩, w⟩
      rw [st, if_neg w]; omega
    · have w : gA s 54 x2.toNat = 0 ∧ 0 < gA s 55 x2.toNat := by
        rcases h10 with ⟨_, _, d⟩ | ⟨a, _⟩
        · exact d
        · exact absurd a c2
      rw [st, if_pos w]; omega
  unfold m_x8_held
  exact L FU 0 0 ⟨Int.le_refl 0, hN.1⟩ rfl
theorem s_freshB {s : MS} (hN : 0 ≤ gI s 1060 ∧ gI s 1060 ≤ 48) : pc (m_x8_freshBlocks s) (fun r => r = cn (gI s 1060) (fun b => if 0 < gA s 54 b ∧ gA s 55 b = 0 then 1 else 0)) := by
  have L : ∀ (n : Nat) (x1 x2 : Int), (0 ≤ x2 ∧ x2 ≤ gI s 1060) → x1 = sm x2.toNat (fun b => if 0 < gA s 54 b ∧ gA s 55 b = 0 then 1 else 0) → pc (m_x8_freshBlocks_L4 s n x1 x2) (fun r => r = cn (gI s 1060) (fun b => if 0 < gA s 54 b ∧ gA s 55 b = 0 then 1 else 0)) := by
    refine fr_ind (fun _ _ _ _ => pc_none) (fun n ih x1 x2 h2 h1 => ?_)
    show pc (m_x8_freshBlocks_b4 s (m_x8_freshBlocks_L4 s n) x1 x2) _
    unfold m_x8_freshBlocks_b4 m_x8_freshBlocks_J26
    have st : sm (x2 + 1).toNat (fun b => if 0 < gA s 54 b ∧ gA s 55 b = 0 then (1 : Int) else 0) = sm x2.toNat (fun b => if 0 < gA s 54 b ∧ gA s 55 b = 0 then (1 : Int) else 0) + (if 0 < gA s 54 x2.toNat ∧ gA s 55 x2.toNat = 0 then 1 else 0) := by
      rw [show (x2 + 1).toNat = x2.toNat + 1 by omega]; rfl
    refine pc_rg (pc_rg (pc_if (fun c => pc_some ?_) (fun c => pc_bq s_fresh (fun r10 h10 => pc_rg (pc_if (fun c2 => ih _ _ (by omega) ?_) (fun c2 => ih _ _ (by omega) ?_))))))
    · rw [h1, show x2 = gI s 1060 by omega]; exact cn_sm hN.2
    · have w : ¬ (0 < gA s 54 x2.toNat ∧ gA s 55 x2.toNat = 0) := fun w => by
        rcases h10 with ⟨a, _⟩ | ⟨_, d⟩
        · omega
        · exact d ⟨⟨h2.1, by omega⟩, w⟩
      rw [st, if_neg w]; omega
    · have w : 0 < gA s 54 x2.toNat ∧ gA s 55 x2.toNat = 0 := by
        rcases h10 with ⟨_, _, d⟩ | ⟨a, _⟩
        · exact d
        · exact absurd a c2
      rw [st, if_pos w]; omega
  unfold m_x8_freshBlocks
  exact L FU 0 0 ⟨Int.le_refl 0, hN.1⟩ rfl
def bW1 (w : Int) (x : Nat) : Int := if andL (ushrLZ w (x : Int)) 1 = 0 then 0 else 1
theorem bW1_1 {w : Int} {x : Nat} (h : bW w x) : bW1 w x = 1 := if_neg h
theorem bW1_0 {w : Int} {x : Nat} (h : ¬ bW w x) : bW1 w x = 0 := if_pos (Classical.byContradiction h)
theorem s_isWr1 {p : Int} {s : MS} : pc (m_x1_isWritten p s) (fun r => (r = 1 ∧ (0 ≤ p ∧ p < gI s 1060) ∧ 0 < gA s 54 p.toNat ∧ bW1 (gL s 1062) p.toNat = 1) ∨ (r = 0 ∧ ¬ ((0 ≤ p ∧ p < gI s 1060) ∧ 0 < gA s 54 p.toNat ∧ bW1 (gL s 1062) p.toNat = 1))) := by
  refine pc_mono s_isWr (fun r h => ?_)
  rcases h with ⟨a, b, c, d⟩ | ⟨a, b⟩
  · exact Or.inl ⟨a, b, c, bW1_1 d⟩
  · refine Or.inr ⟨a, fun w => b ⟨w.1, w.2.1, ?_⟩⟩
    intro z
    have q : bW1 (gL s 1062) p.toNat = 0 := if_pos z
    rw [q] at w
    exact absurd w.2.2 (by decide)
theorem s_wrote {s : MS} (hN : 0 ≤ gI s 1060 ∧ gI s 1060 ≤ 48) : pc (m_x1_wrote s) (fun r => r = cn (gI s 1060) (fun b => if 0 < gA s 54 b ∧ bW1 (gL s 1062) b = 1 then 1 else 0)) := by
  have L : ∀ (n : Nat) (x1 x2 : Int), (0 ≤ x2 ∧ x2 ≤ gI s 1060) → x1 = sm x2.toNat (fun b => if 0 < gA s 54 b ∧ bW1 (gL s 1062) b = 1 then 1 else 0) → pc (m_x1_wrote_L4 s n x1 x2) (fun r => r = cn (gI s 1060) (fun b => if 0 < gA s 54 b ∧ bW1 (gL s 1062) b = 1 then 1 else 0)) := by
    refine fr_ind (fun _ _ _ _ => pc_none) (fun n ih x1 x2 h2 h1 => ?_)
    show pc (m_x1_wrote_b4 s (m_x1_wrote_L4 s n) x1 x2) _
    unfold m_x1_wrote_b4 m_x1_wrote_J29
    have st : sm (x2 + 1).toNat (fun b => if 0 < gA s 54 b ∧ bW1 (gL s 1062) b = 1 then (1 : Int) else 0) = sm x2.toNat (fun b => if 0 < gA s 54 b ∧ bW1 (gL s 1062) b = 1 then (1 : Int) else 0) + (if 0 < gA s 54 x2.toNat ∧ bW1 (gL s 1062) x2.toNat = 1 then 1 else 0) := by
      rw [show (x2 + 1).toNat = x2.toNat + 1 by omega]; rfl
    refine pc_rg (pc_rg (pc_if (fun c => pc_some ?_) (fun c => pc_bq s_isWr1 (fun r10 h10 => pc_rg (pc_if (fun c2 => ih _ _ (by omega) ?_) (fun c2 => ih _ _ (by omega) ?_))))))
    · rw [h1, show x2 = gI s 1060 by omega]; exact cn_sm hN.2
    · have w : ¬ (0 < gA s 54 x2.toNat ∧ bW1 (gL s 1062) x2.toNat = 1) := fun w => by
        rcases h10 with ⟨a, _⟩ | ⟨_, d⟩
        · omega
        · exact d ⟨⟨h2.1, by omega⟩, w⟩
      rw [st, if_neg w]; omega
    · have w : 0 < gA s 54 x2.toNat ∧ bW1 (gL s 1062) x2.toNat = 1 := by
        rcases h10 with ⟨_, _, d⟩ | ⟨a, _⟩
        · exact d
        · exact absurd a c2
      rw [st, if_pos w]; omega
  unfold m_x1_wrote
  exact L FU 0 0 ⟨Int.le_refl 0, hN.1⟩ rfl
theorem m_usedN {t : MS} (hN : 0 ≤ gA t 39 5 ∧ gA t 39 5 ≤ 48) : pc (m_x12_usedMany t) (fun r => r = cn (gA t 39 5) (fun b => if 0 < cM t b then 1 else 0)) := by
  have L : ∀ (n : Nat) (x1 x2 : Int), (0 ≤ x2 ∧ x2 ≤ gA t 39 5) → x1 = sm x2.toNat (fun b => if 0 < cM t b then 1 else 0) → pc (m_x12_usedMany_L4 t n x1 x2) (fun r => r = cn (gA t 39 5) (fun b => if 0 < cM t b then 1 else 0)) := by
    refine fr_ind (fun _ _ _ _ => pc_none) (fun n ih x1 x2 h2 h1 => ?_)
    show pc (m_x12_usedMany_b4 t (m_x12_usedMany_L4 t n) x1 x2) _
    unfold m_x12_usedMany_b4 m_x12_usedMany_J23
    have st : sm (x2 + 1).toNat (fun b => if 0 < cM t b then (1 : Int) else 0) = sm x2.toNat (fun b => if 0 < cM t b then (1 : Int) else 0) + (if 0 < cM t x2.toNat then 1 else 0) := by
      rw [show (x2 + 1).toNat = x2.toNat + 1 by omega]; rfl
    refine pc_bq m_bm (fun r6 h6 => ?_)
    rw [h6]
    refine pc_rg (pc_rg (pc_if (fun c => pc_some ?_) (fun c => pc_bq (m_used h2.1) (fun r11 h11 => pc_rg (pc_if (fun c2 => ih _ _ (by omega) ?_) (fun c2 => ih _ _ (by omega) ?_))))))
    · rw [h1, show x2 = gA t 39 5 by omega]; exact cn_sm hN.2
    · have w : ¬ (0 < cM t x2.toNat) := fun w => by
        rcases h11 with ⟨a, _⟩ | ⟨_, d⟩
        · omega
        · omega
      rw [st, if_neg w]; omega
    · have w : 0 < cM t x2.toNat := by
        rcases h11 with ⟨_, d⟩ | ⟨a, _⟩
        · exact d
        · exact absurd a c2
      rw [st, if_pos w]; omega
  unfold m_x12_usedMany
  exact L FU 0 0 ⟨Int.le_refl 0, hN.1⟩ rfl
theorem m_heldN {t : MS} (hN : 0 ≤ gA t 39 5 ∧ gA t 39 5 ≤ 48) : pc (m_x12_heldMany t) (fun r => r = cn (gA t 39 5) (fun b => if cM t b ≤ 0 ∧ 0 < vM t b then 1 else 0)) := by
  have L : ∀ (n : Nat) (x1 x2 : Int), (0 ≤ x2 ∧ x2 ≤ gA t 39 5) → x1 = sm x2.toNat (fun b => if cM t b ≤ 0 ∧ 0 < vM t b then 1 else 0) → pc (m_x12_heldMany_L4 t n x1 x2) (fun r => r = cn (gA t 39 5) (fun b => if cM t b ≤ 0 ∧ 0 < vM t b then 1 else 0)) := by
    refine fr_ind (fun _ _ _ _ => pc_none) (fun n ih x1 x2 h2 h1 => ?_)
    show pc (m_x12_heldMany_b4 t (m_x12_heldMany_L4 t n) x1 x2) _
    unfold m_x12_heldMany_b4 m_x12_heldMany_J23
    have st : sm (x2 + 1).toNat (fun b => if cM t b ≤ 0 ∧ 0 < vM t b then (1 : Int) else 0) = sm x2.toNat (fun b => if cM t b ≤ 0 ∧ 0 < vM t b then (1 : Int) else 0) + (if cM t x2.toNat ≤ 0 ∧ 0 < vM t x2.toNat then 1 else 0) := by
      rw [show (x2 + 1).toNat = x2.toNat + 1 by omega]; rfl
    refine pc_bq m_bm (fun r6 h6 => ?_)
    rw [h6]
    refine pc_rg (pc_rg (pc_if (fun c => pc_some ?_) (fun c => pc_bq (m_isHeld h2.1) (fun r11 h11 => pc_rg (pc_if (fun c2 => ih _ _ (by omega) ?_) (fun c2 => ih _ _ (by omega) ?_))))))
    · rw [h1, show x2 = gA t 39 5 by omega]; exact cn_sm hN.2
    · have w : ¬ (cM t x2.toNat ≤ 0 ∧ 0 < vM t x2.toNat) := fun w => by
        rcases h11 with ⟨a, _⟩ | ⟨_, d⟩
        · omega
        · exact d w
      rw [st, if_neg w]; omega
    · have w : cM t x2.toNat ≤ 0 ∧ 0 < vM t x2.toNat := by
        rcases h11 with ⟨_, d⟩ | ⟨a, _⟩
        · exact d
        · exact absurd a c2
      rw [st, if_pos w]; omega
  unfold m_x12_heldMany
  exact L FU 0 0 ⟨Int.le_refl 0, hN.1⟩ rfl
theorem m_wroteN {t : MS} (hN : 0 ≤ gA t 39 5 ∧ gA t 39 5 ≤ 48) : pc (m_x12_writtenMany t) (fun r => r = cn (gA t 39 5) (fun b => if gA t 54 b ≠ 0 ∧ 0 < cM t b then 1 else 0)) := by
  have L : ∀ (n : Nat) (x1 x2 : Int), (0 ≤ x2 ∧ x2 ≤ gA t 39 5) → x1 = sm x2.toNat (fun b => if gA t 54 b ≠ 0 ∧ 0 < cM t b then 1 else 0) → pc (m_x12_writtenMany_L4 t n x1 x2) (fun r => r = cn (gA t 39 5) (fun b => if gA t 54 b ≠ 0 ∧ 0 < cM t b then 1 else 0)) := by
    refine fr_ind (fun _ _ _ _ => pc_none) (fun n ih x1 x2 h2 h1 => ?_)
    show pc (m_x12_writtenMany_b4 t (m_x12_writtenMany_L4 t n) x1 x2) _
    unfold m_x12_writtenMany_b4 m_x12_writtenMany_J32
    have st : sm (x2 + 1).toNat (fun b => if gA t 54 b ≠ 0 ∧ 0 < cM t b then (1 : Int) else 0) = sm x2.toNat (fun b => if gA t 54 b ≠ 0 ∧ 0 < cM t b then (1 : Int) else 0) + (if gA t 54 x2.toNat ≠ 0 ∧ 0 < cM t x2.toNat then 1 else 0) := by
      rw [show (x2 + 1).toNat = x2.toNat + 1 by omega]; rfl
    refine pc_bq m_bm (fun r6 h6 => ?_)
    rw [h6]
    refine pc_rg (pc_rg (pc_if (fun c => pc_some ?_) (fun c => pc_rdI (fun _ => pc_rg (pc_if (fun c2 => ih _ _ (by omega) ?_) (fun c2 => pc_bq (m_used h2.1) (fun r14 h14 => pc_rg (pc_if (fun c3 => ih _ _ (by omega) ?_) (fun c3 => ih _ _ (by omega) ?_)))))))))
    · rw [h1, show x2 = gA t 39 5 by omega]; exact cn_sm hN.2
    · rw [st, if_neg (fun w => w.1 c2)]; omega
    · have w : ¬ (gA t 54 x2.toNat ≠ 0 ∧ 0 < cM t x2.toNat) := fun w => by
        rcases h14 with ⟨a, _⟩ | ⟨_, d⟩
        · omega
        · have := w.2
          omega
      rw [st, if_neg w]; omega
    · have w : gA t 54 x2.toNat ≠ 0 ∧ 0 < cM t x2.toNat := by
        rcases h14 with ⟨_, d⟩ | ⟨a, _⟩
        · exact ⟨c2, d⟩
        · exact absurd a c3
      rw [st, if_pos w]; omega
  unfold m_x12_writtenMany
  exact L FU 0 0 ⟨Int.le_refl 0, hN.1⟩ rfl
theorem m_free {t : MS} (hN : 0 ≤ gA t 39 5 ∧ gA t 39 5 ≤ 48) : pc (m_x12_freeMany t) (fun r => r = gA t 39 5 - cn (gA t 39 5) (fun b => if 0 < cM t b then 1 else 0) - cn (gA t 39 5) (fun b => if cM t b ≤ 0 ∧ 0 < vM t b then 1 else 0)) := by
  unfold m_x12_freeMany
  exact pc_bq m_bm (fun r2 h2 => pc_bq (m_usedN hN) (fun r4 h4 => pc_bq (m_heldN hN) (fun r6 h6 => pc_some (by rw [h2, h4, h6]))))
/-- counts and what the checkpoint has, alike by names -/
def CC (π σ : Nat → Nat) (s t : MS) : Prop := PNM π σ (gI s 1060) ∧ gI s 1060 = gA t 39 5 ∧ ∀ x, x < 48 → (gA s 54 (π x) = cM t x ∧ gA s 55 (π x) = vM t x) ∧ 0 ≤ cM t x ∧ 0 ≤ vM t x
theorem CC_of {π σ : Nat → Nat} {s t : MS} {D : Nat → Int} {e : Int} (h : TRf π σ (gI s 1060) s 54 (gA t 49)) (hN : gI s 1060 = gA t 39 5) (T : TM t D e) : CC π σ s t := ⟨h.1, hN, fun x hx => ⟨h.2.1 x hx, (T.1.2.1 x hx).1, (T.1.2.2.1 x hx).1⟩⟩
theorem CC_used {π σ : Nat → Nat} {s t : MS} (h : CC π σ s t) : cn (gI s 1060) (fun b => if 0 < gA s 54 b then 1 else 0) = cn (gA t 39 5) (fun b => if 0 < cM t b then 1 else 0) := by
  rw [← h.2.1]
  refine cn_pm h.1 (fun x hx _ => ?_)
  show (if 0 < gA s 54 (π x) then (1 : Int) else 0) = if 0 < cM t x then 1 else 0
  rw [(h.2.2 x hx).1.1]
theorem CC_held {π σ : Nat → Nat} {s t : MS} (h : CC π σ s t) : cn (gI s 1060) (fun b => if gA s 54 b = 0 ∧ 0 < gA s 55 b then 1 else 0) = cn (gA t 39 5) (fun b => if cM t b ≤ 0 ∧ 0 < vM t b then 1 else 0) := by
  rw [← h.2.1]
  refine cn_pm h.1 (fun x hx _ => ?_)
  show (if gA s 54 (π x) = 0 ∧ 0 < gA s 55 (π x) then (1 : Int) else 0) = if cM t x ≤ 0 ∧ 0 < vM t x then 1 else 0
  have c := h.2.2 x hx
  rw [c.1.1, c.1.2]
  by_cases z : cM t x = 0 ∧ 0 < vM t x
  · rw [if_pos z, if_pos ⟨by omega, z.2⟩]
  · rw [if_neg z, if_neg (fun w => z ⟨by omega, w.2⟩)]
theorem CC_fresh {π σ : Nat → Nat} {s t : MS} (h : CC π σ s t) : cn (gI s 1060) (fun b => if 0 < gA s 54 b ∧ gA s 55 b = 0 then 1 else 0) = cn (gA t 39 5) (fun b => if 0 < cM t b ∧ vM t b = 0 then 1 else 0) := by
  rw [← h.2.1]
  refine cn_pm h.1 (fun x hx _ => ?_)
  show (if 0 < gA s 54 (π x) ∧ gA s 55 (π x) = 0 then (1 : Int) else 0) = if 0 < cM t x ∧ vM t x = 0 then 1 else 0
  rw [(h.2.2 x hx).1.1, (h.2.2 x hx).1.2]
theorem CC_kept {π σ : Nat → Nat} {s t : MS} (h : CC π σ s t) : cn (gI s 1060) (fun b => if 0 < gA s 55 b then 1 else 0) = cn (gA t 39 5) (fun b => if 0 < vM t b then 1 else 0) := by
  rw [← h.2.1]
  refine cn_pm h.1 (fun x hx _ => ?_)
  show (if 0 < gA s 55 (π x) then (1 : Int) else 0) = if 0 < vM t x then 1 else 0
  rw [(h.2.2 x hx).1.2]
theorem sim_wrote {π σ : Nat → Nat} {s t : MS} (h : SIM π σ s t) : cn (gI s 1060) (fun b => if 0 < gA s 54 b ∧ bW1 (gL s 1062) b = 1 then 1 else 0) = cn (gA t 39 5) (fun b => if gA t 54 b ≠ 0 ∧ 0 < cM t b then 1 else 0) := by
  rw [← h.2.1]
  refine cn_pm h.1.1 (fun x hx _ => ?_)
  show (if 0 < gA s 54 (π x) ∧ bW1 (gL s 1062) (π x) = 1 then (1 : Int) else 0) = if gA t 54 x ≠ 0 ∧ 0 < cM t x then 1 else 0
  rw [(sim_c h hx).1]
  by_cases c : 0 < cM t x
  · have w := h.2.2 x hx c
    by_cases z : gA t 54 x ≠ 0
    · rw [if_pos ⟨c, bW1_1 (w.2 z)⟩, if_pos ⟨z, c⟩]
    · rw [if_neg (fun u => ?_), if_neg (fun u => z u.1)]
      rw [bW1_0 (fun y => z (w.1 y))] at u
      exact absurd u.2 (by decide)
  · rw [if_neg (fun u => c u.1), if_neg (fun u => c u.2)]
