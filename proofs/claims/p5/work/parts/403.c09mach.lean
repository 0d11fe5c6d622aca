/-! ===== numbers ===== -/
theorem R8_2 {x : Int} (h : R2 x) : R8 x := ⟨by have := h.1; omega, by have := h.2; omega⟩
theorem tm_b (a b : Int) (hb : ¬ b = 0) (h : (-1000000) ≤ b ∧ b ≤ 1000001) : (-1000001) ≤ Int.tmod a b ∧ Int.tmod a b ≤ 1000001 := by
  have h1 := Int.natAbs_tmod a b
  have h2 := Nat.mod_lt a.natAbs (show 0 < b.natAbs by omega)
  omega
theorem td_b (a b : Int) (h : (-9000000) ≤ a ∧ a ≤ 9000000) : (-9000000) ≤ Int.tdiv a b ∧ Int.tdiv a b ≤ 9000000 := by
  have h1 := Int.natAbs_tdiv_le_natAbs a b
  omega
theorem mul_b (a b : Int) (h : (-1000000) ≤ a ∧ a ≤ 1000001) (h2 : (-1000000) ≤ b ∧ b ≤ 1000001) : R8 (a * b) := by
  have h3 := Int.natAbs_mul a b
  have h4 : a.natAbs * b.natAbs ≤ 1000001 * 1000001 := Nat.mul_le_mul (by omega) (by omega)
  constructor <;> omega
theorem Rg.cpy {s : MS} {k k2 sp dp n : Nat} (h : Rg s) (h1 : LOA k ≤ LOA k2) (h2 : HIA k2 ≤ HIA k) (h3 : sp + n ≤ LNA k2) : Rg (sA s k (va_cpy (gA s k2) (gA s k) sp dp n)) := by
  refine h.uA (fun j hj => ?_)
  unfold va_cpy
  split
  · have := h.2.1 k2 (sp + (j - dp)) (by omega)
    exact ⟨Int.le_trans h1 this.1, Int.le_trans this.2 h2⟩
  · exact h.2.1 k j hj
theorem cpy_o {f : Nat → Int} {a b n q k : Nat} (hq : q ≠ b) (hk : k < 6) (hn : n ≤ 6) : va_cpy f f a (6 * b) n (6 * q + k) = f (6 * q + k) := if_neg (fun w => by omega)
theorem cpy_i {f : Nat → Int} {a b n k : Nat} (hk : k < n) : va_cpy f f a (6 * b) n (6 * b + k) = f (a + k) := by
  unfold va_cpy
  rw [if_pos (by omega), show 6 * b + k - 6 * b = k by omega]
theorem cpy_all {f g : Nat → Int} {n j : Nat} (hj : j < n) : va_cpy f g (Int.toNat 0) (Int.toNat 0) n j = f j := by
  show (if 0 ≤ j ∧ j < 0 + n then f (0 + (j - 0)) else g j) = f j
  rw [if_pos (by omega), Nat.zero_add, Nat.sub_zero]
theorem R8_and (x y : Int) : R8 (andL x y) := ⟨Int64.le_toInt _, Int.le_of_lt_add_one (Int64.toInt_lt _)⟩
theorem mm_b (x : Int) : (minZ 99 x ≤ 99 ∧ (minZ 99 x = 99 ∨ minZ 99 x = x)) ∧ 0 ≤ maxZ 0 (minZ 99 x) ∧ maxZ 0 (minZ 99 x) ≤ 99 := by
  unfold maxZ minZ
  split <;> split <;> omega
theorem mn_b (a x : Int) : minZ a x ≤ a ∧ minZ a x ≤ x ∧ (minZ a x = a ∨ minZ a x = x) := by
  unfold minZ
  split <;> omega
theorem mx_b (a x : Int) : a ≤ maxZ a x ∧ x ≤ maxZ a x ∧ (maxZ a x = a ∨ maxZ a x = x) := by
  unfold maxZ
  split <;> omega
set_option maxHeartbeats 1000000 in
theorem w_x3_pop {s : MS} (hRs : Rg s) : wp (m_x3_pop s) (fun q => (Rg q.2) ∧ ((-1000000) ≤ q.1 ∧ q.1 ≤ 1000001)) := by
  unfold m_x3_pop
  refine wp_rg (by have : (0 : Int) ≤ gI s 1601 ∧ gI s 1601 ≤ 64 := hRs.1 1601; omega) ?_
  refine wp_if (fun c1 => ?_) (fun c1 => ?_)
  · skip
    refine wp_stn (fun s3 es3 => ?_)
    have hRs3 : Rg s3 := es3 ▸ Rg.uI hRs (by show (0 : Int) ≤ ((gI s 1601) - 1) ∧ ((gI s 1601) - 1) ≤ 64; have : (0 : Int) ≤ gI s 1601 ∧ gI s 1601 ≤ 64 := hRs.1 1601; omega)
    refine wp_rdIn (by have : (0 : Int) ≤ gI s 1601 ∧ gI s 1601 ≤ 64 := hRs.1 1601; have : gI s3 1601 = (gI s 1601) - 1 := q_II es3; omega) (fun y4 ey4 => ?_)
    have by4 : (-1000000 : Int) ≤ y4 ∧ y4 ≤ 1000001 := ey4 ▸ hRs3.2.1 81 _ (by show _ < 64; have : (0 : Int) ≤ gI s 1601 ∧ gI s 1601 ≤ 64 := hRs.1 1601; have : gI s3 1601 = (gI s 1601) - 1 := q_II es3; omega)
    exact wp_some ⟨hRs3, by show (-1000000) ≤ y4 ∧ y4 ≤ 1000001; have : (0 : Int) ≤ gI s 1601 ∧ gI s 1601 ≤ 64 := hRs.1 1601; omega⟩
  · skip
    exact wp_some ⟨hRs, by show (-1000000) ≤ (0 : Int) ∧ (0 : Int) ≤ 1000001; have : (0 : Int) ≤ gI s 1601 ∧ gI s 1601 ≤ 64 := hRs.1 1601; omega⟩
set_option maxHeartbeats 1000000 in
theorem w_x3_push {p0 : Int} {s : MS} (hRs : Rg s) (hp0 : (-1000000) ≤ p0 ∧ p0 ≤ 1000001) : wp (m_x3_push p0 s) (fun o => (Rg o)) := by
  unfold m_x3_push
  refine wp_rg (by have : (0 : Int) ≤ gI s 1601 ∧ gI s 1601 ≤ 64 := hRs.1 1601; omega) ?_
  refine wp_if (fun c1 => ?_) (fun c1 => ?_)
  · skip
    unfold m_x3_push_J29
    exact wp_some (hRs)
  · skip
    refine wp_inb (by have : (0 : Int) ≤ gI s 1601 ∧ gI s 1601 ≤ 64 := hRs.1 1601; omega) ?_
    refine wp_stn (fun s5 es5 => ?_)
    have hRs5 : Rg s5 := es5 ▸ Rg.uAu hRs (by show (-1000000 : Int) ≤ p0 ∧ p0 ≤ 1000001; have : (0 : Int) ≤ gI s 1601 ∧ gI s 1601 ≤ 64 := hRs.1 1601; omega)
    refine wp_stn (fun s6 es6 => ?_)
    have hRs6 : Rg s6 := es6 ▸ Rg.uI hRs5 (by show (0 : Int) ≤ ((gI s5 1601) + 1) ∧ ((gI s5 1601) + 1) ≤ 64; have : (0 : Int) ≤ gI s 1601 ∧ gI s 1601 ≤ 64 := hRs.1 1601; have : gI s5 1601 = gI s 1601 := q_Ai es5; omega)
    unfold m_x3_push_J29
    exact wp_some (hRs6)
set_option maxHeartbeats 1000000 in
theorem w_x3_joined {p0 : Int} {p1 : Int} {p2 : Int} {s : MS} (hRs : Rg s) (hp0 : R2 p0) (hp1 : (-1000000) ≤ p1 ∧ p1 ≤ 1000001) (hp2 : (-1000000) ≤ p2 ∧ p2 ≤ 1000001) : wp (m_x3_joined p0 p1 p2 s) (fun r => ((-1000000) ≤ r ∧ r ≤ 1000001)) := by
  unfold m_x3_joined
  refine wp_rg (by omega) ?_
  refine wp_if (fun c1 => ?_) (fun c1 => ?_)
  · skip
    refine wp_rg (R2_or _ _) ?_
    unfold m_x3_joined_J199
    refine wp_rgL (R8_2 (R2_or _ _)) ?_
    refine wp_if (fun c2 => ?_) (fun c2 => ?_)
    · skip
      refine wp_rgL (R8_2 (R2_or _ _)) ?_
      refine wp_if (fun c3 => ?_) (fun c3 => ?_)
      · skip
        unfold m_x3_joined_J225
        exact wp_some (by show (-1000000) ≤ (orZ p1 p2) ∧ (orZ p1 p2) ≤ 1000001; omega)
      · skip
        unfold m_x3_joined_J225
        exact wp_some (by show (-1000000) ≤ (-1000000 : Int) ∧ (-1000000 : Int) ≤ 1000001; omega)
    · skip
      exact wp_some (by show (-1000000) ≤ (1000000 : Int) ∧ (1000000 : Int) ≤ 1000001; omega)
  · skip
    refine wp_if (fun c4 => ?_) (fun c4 => ?_)
    · skip
      refine wp_rg (R2_and _ _) ?_
      unfold m_x3_joined_J199
      refine wp_rgL (R8_2 (R2_and _ _)) ?_
      refine wp_if (fun c5 => ?_) (fun c5 => ?_)
      · skip
        refine wp_rgL (R8_2 (R2_and _ _)) ?_
        refine wp_if (fun c6 => ?_) (fun c6 => ?_)
        · skip
          unfold m_x3_joined_J225
          exact wp_some (by show (-1000000) ≤ (andZ p1 p2) ∧ (andZ p1 p2) ≤ 1000001; omega)
        · skip
          unfold m_x3_joined_J225
          exact wp_some (by show (-1000000) ≤ (-1000000 : Int) ∧ (-1000000 : Int) ≤ 1000001; omega)
      · skip
        exact wp_some (by show (-1000000) ≤ (1000000 : Int) ∧ (1000000 : Int) ≤ 1000001; omega)
    · skip
      refine wp_if (fun c7 => ?_) (fun c7 => ?_)
      · skip
        refine wp_rg (by omega) ?_
        refine wp_rg (by omega) ?_
        refine wp_if (fun c8 => ?_) (fun c8 => ?_)
        · skip
          unfold m_x3_joined_J179
          unfold m_x3_joined_J199
          refine wp_rgL (by omega) ?_
          refine wp_if (fun c9 => ?_) (fun c9 => ?_)
          · skip
            refine wp_rgL (by omega) ?_
            refine wp_if (fun c10 => ?_) (fun c10 => ?_)
            · skip
              unfold m_x3_joined_J225
              exact wp_some (by show (-1000000) ≤ (1 : Int) ∧ (1 : Int) ≤ 1000001; omega)
            · skip
              unfold m_x3_joined_J225
              exact wp_some (by show (-1000000) ≤ (-1000000 : Int) ∧ (-1000000 : Int) ≤ 1000001; omega)
          · skip
            exact wp_some (by show (-1000000) ≤ (1000000 : Int) ∧ (1000000 : Int) ≤ 1000001; omega)
        · skip
          unfold m_x3_joined_J179
          unfold m_x3_joined_J199
          refine wp_rgL (by omega) ?_
          refine wp_if (fun c11 => ?_) (fun c11 => ?_)
          · skip
            refine wp_rgL (by omega) ?_
            refine wp_if (fun c12 => ?_) (fun c12 => ?_)
            · skip
              unfold m_x3_joined_J225
              exact wp_some (by show (-1000000) ≤ (0 : Int) ∧ (0 : Int) ≤ 1000001; omega)
            · skip
              unfold m_x3_joined_J225
              exact wp_some (by show (-1000000) ≤ (-1000000 : Int) ∧ (-1000000 : Int) ≤ 1000001; omega)
          · skip
            exact wp_some (by show (-1000000) ≤ (1000000 : Int) ∧ (1000000 : Int) ≤ 1000001; omega)
      · skip
        refine wp_if (fun c13 => ?_) (fun c13 => ?_)
        · skip
          refine wp_rg (by omega) ?_
          refine wp_rg (by omega) ?_
          refine wp_if (fun c14 => ?_) (fun c14 => ?_)
          · skip
            unfold m_x3_joined_J165
            unfold m_x3_joined_J199
            refine wp_rgL (by omega) ?_
            refine wp_if (fun c15 => ?_) (fun c15 => ?_)
            · skip
              refine wp_rgL (by omega) ?_
              refine wp_if (fun c16 => ?_) (fun c16 => ?_)
              · skip
                unfold m_x3_joined_J225
                exact wp_some (by show (-1000000) ≤ (0 : Int) ∧ (0 : Int) ≤ 1000001; omega)
              · skip
                unfold m_x3_joined_J225
                exact wp_some (by show (-1000000) ≤ (-1000000 : Int) ∧ (-1000000 : Int) ≤ 1000001; omega)
            · skip
              exact wp_some (by show (-1000000) ≤ (1000000 : Int) ∧ (1000000 : Int) ≤ 1000001; omega)
          · skip
            unfold m_x3_joined_J165
            unfold m_x3_joined_J199
            refine wp_rgL (by omega) ?_
            refine wp_if (fun c17 => ?_) (fun c17 => ?_)
            · skip
              refine wp_rgL (by omega) ?_
              refine wp_if (fun c18 => ?_) (fun c18 => ?_)
              · skip
                unfold m_x3_joined_J225
                exact wp_some (by show (-1000000) ≤ (1 : Int) ∧ (1 : Int) ≤ 1000001; omega)
              · skip
                unfold m_x3_joined_J225
                exact wp_some (by show (-1000000) ≤ (-1000000 : Int) ∧ (-1000000 : Int) ≤ 1000001; omega)
            · skip
              exact wp_some (by show (-1000000) ≤ (1000000 : Int) ∧ (1000000 : Int) ≤ 1000001; omega)
        · skip
          refine wp_if (fun c19 => ?_) (fun c19 => ?_)
          · skip
            refine wp_rg (by omega) ?_
            refine wp_rg (by omega) ?_
            refine wp_if (fun c20 => ?_) (fun c20 => ?_)
            · skip
              unfold m_x3_joined_J151
              unfold m_x3_joined_J199
              refine wp_rgL (by omega) ?_
              refine wp_if (fun c21 => ?_) (fun c21 => ?_)
              · skip
                refine wp_rgL (by omega) ?_
                refine wp_if (fun c22 => ?_) (fun c22 => ?_)
                · skip
                  unfold m_x3_joined_J225
                  exact wp_some (by show (-1000000) ≤ (0 : Int) ∧ (0 : Int) ≤ 1000001; omega)
                · skip
                  unfold m_x3_joined_J225
                  exact wp_some (by show (-1000000) ≤ (-1000000 : Int) ∧ (-1000000 : Int) ≤ 1000001; omega)
              · skip
                exact wp_some (by show (-1000000) ≤ (1000000 : Int) ∧ (1000000 : Int) ≤ 1000001; omega)
            · skip
              unfold m_x3_joined_J151
              unfold m_x3_joined_J199
              refine wp_rgL (by omega) ?_
              refine wp_if (fun c23 => ?_) (fun c23 => ?_)
              · skip
                refine wp_rgL (by omega) ?_
                refine wp_if (fun c24 => ?_) (fun c24 => ?_)
                · skip
                  unfold m_x3_joined_J225
                  exact wp_some (by show (-1000000) ≤ (1 : Int) ∧ (1 : Int) ≤ 1000001; omega)
                · skip
                  unfold m_x3_joined_J225
                  exact wp_some (by show (-1000000) ≤ (-1000000 : Int) ∧ (-1000000 : Int) ≤ 1000001; omega)
              · skip
                exact wp_some (by show (-1000000) ≤ (1000000 : Int) ∧ (1000000 : Int) ≤ 1000001; omega)
          · skip
            refine wp_if (fun c25 => ?_) (fun c25 => ?_)
            · skip
              refine wp_rg (by omega) ?_
              refine wp_rg (by omega) ?_
              refine wp_if (fun c26 => ?_) (fun c26 => ?_)
              · skip
                refine wp_rg (by omega) ?_
                unfold m_x3_joined_J137
                unfold m_x3_joined_J199
                refine wp_rgL (by omega) ?_
                refine wp_if (fun c27 => ?_) (fun c27 => ?_)
                · skip
                  refine wp_rgL (by omega) ?_
                  refine wp_if (fun c28 => ?_) (fun c28 => ?_)
                  · skip
                    unfold m_x3_joined_J225
                    exact wp_some (by show (-1000000) ≤ p2 ∧ p2 ≤ 1000001; omega)
                  · skip
                    unfold m_x3_joined_J225
                    exact wp_some (by show (-1000000) ≤ (-1000000 : Int) ∧ (-1000000 : Int) ≤ 1000001; omega)
                · skip
                  exact wp_some (by show (-1000000) ≤ (1000000 : Int) ∧ (1000000 : Int) ≤ 1000001; omega)
              · skip
                refine wp_rg (by omega) ?_
                unfold m_x3_joined_J137
                unfold m_x3_joined_J199
                refine wp_rgL (by omega) ?_
                refine wp_if (fun c29 => ?_) (fun c29 => ?_)
                · skip
                  refine wp_rgL (by omega) ?_
                  refine wp_if (fun c30 => ?_) (fun c30 => ?_)
                  · skip
                    unfold m_x3_joined_J225
                    exact wp_some (by show (-1000000) ≤ p1 ∧ p1 ≤ 1000001; omega)
                  · skip
                    unfold m_x3_joined_J225
                    exact wp_some (by show (-1000000) ≤ (-1000000 : Int) ∧ (-1000000 : Int) ≤ 1000001; omega)
                · skip
                  exact wp_some (by show (-1000000) ≤ (1000000 : Int) ∧ (1000000 : Int) ≤ 1000001; omega)
            · skip
              refine wp_if (fun c31 => ?_) (fun c31 => ?_)
              · skip
                refine wp_rg (by omega) ?_
                refine wp_rg (by omega) ?_
                refine wp_if (fun c32 => ?_) (fun c32 => ?_)
                · skip
                  refine wp_rg (by omega) ?_
                  unfold m_x3_joined_J121
                  unfold m_x3_joined_J199
                  refine wp_rgL (by omega) ?_
                  refine wp_if (fun c33 => ?_) (fun c33 => ?_)
                  · skip
                    refine wp_rgL (by omega) ?_
                    refine wp_if (fun c34 => ?_) (fun c34 => ?_)
                    · skip
                      unfold m_x3_joined_J225
                      exact wp_some (by show (-1000000) ≤ p2 ∧ p2 ≤ 1000001; omega)
                    · skip
                      unfold m_x3_joined_J225
                      exact wp_some (by show (-1000000) ≤ (-1000000 : Int) ∧ (-1000000 : Int) ≤ 1000001; omega)
                  · skip
                    exact wp_some (by show (-1000000) ≤ (1000000 : Int) ∧ (1000000 : Int) ≤ 1000001; omega)
                · skip
                  refine wp_rg (by omega) ?_
                  unfold m_x3_joined_J121
                  unfold m_x3_joined_J199
                  refine wp_rgL (by omega) ?_
                  refine wp_if (fun c35 => ?_) (fun c35 => ?_)
                  · skip
                    refine wp_rgL (by omega) ?_
                    refine wp_if (fun c36 => ?_) (fun c36 => ?_)
                    · skip
                      unfold m_x3_joined_J225
                      exact wp_some (by show (-1000000) ≤ p1 ∧ p1 ≤ 1000001; omega)
                    · skip
                      unfold m_x3_joined_J225
                      exact wp_some (by show (-1000000) ≤ (-1000000 : Int) ∧ (-1000000 : Int) ≤ 1000001; omega)
                  · skip
                    exact wp_some (by show (-1000000) ≤ (1000000 : Int) ∧ (1000000 : Int) ≤ 1000001; omega)
              · skip
                refine wp_if (fun c37 => ?_) (fun c37 => ?_)
                · skip
                  refine wp_rg (by omega) ?_
                  refine wp_if (fun c38 => ?_) (fun c38 => ?_)
                  · skip
                    unfold m_x3_joined_J105
                    unfold m_x3_joined_J199
                    refine wp_rgL (by omega) ?_
                    refine wp_if (fun c39 => ?_) (fun c39 => ?_)
                    · skip
                      refine wp_rgL (by omega) ?_
                      refine wp_if (fun c40 => ?_) (fun c40 => ?_)
                      · skip
                        unfold m_x3_joined_J225
                        exact wp_some (by show (-1000000) ≤ (0 : Int) ∧ (0 : Int) ≤ 1000001; omega)
                      · skip
                        unfold m_x3_joined_J225
                        exact wp_some (by show (-1000000) ≤ (-1000000 : Int) ∧ (-1000000 : Int) ≤ 1000001; omega)
                    · skip
                      exact wp_some (by show (-1000000) ≤ (1000000 : Int) ∧ (1000000 : Int) ≤ 1000001; omega)
                  · skip
                    have t1 := tm_b p1 p2 (by omega) hp2
                    have t2 := tm_b (Int.tmod p1 p2 + p2) p2 (by omega) hp2
                    have t3 := td_b (p1 - Int.tmod (Int.tmod p1 p2 + p2) p2) p2 (by omega)
                    refine wp_dv (by omega) ?_
                    refine wp_dv (by omega) ?_
                    refine wp_dv (by omega) ?_
                    refine wp_rg (by omega) ?_
                    unfold m_x3_joined_J105
                    unfold m_x3_joined_J199
                    refine wp_rgL (by omega) ?_
                    refine wp_if (fun c41 => ?_) (fun c41 => ?_)
                    · skip
                      refine wp_rgL (by omega) ?_
                      refine wp_if (fun c42 => ?_) (fun c42 => ?_)
                      · skip
                        unfold m_x3_joined_J225
                        exact wp_some (by show (-1000000) ≤ (Int.tdiv (p1 - (Int.tmod ((Int.tmod p1 p2) + p2) p2)) p2) ∧ (Int.tdiv (p1 - (Int.tmod ((Int.tmod p1 p2) + p2) p2)) p2) ≤ 1000001; omega)
                      · skip
                        unfold m_x3_joined_J225
                        exact wp_some (by show (-1000000) ≤ (-1000000 : Int) ∧ (-1000000 : Int) ≤ 1000001; omega)
                    · skip
                      exact wp_some (by show (-1000000) ≤ (1000000 : Int) ∧ (1000000 : Int) ≤ 1000001; omega)
                · skip
                  refine wp_if (fun c43 => ?_) (fun c43 => ?_)
                  · skip
                    refine wp_rg (by omega) ?_
                    refine wp_rg (by omega) ?_
                    unfold m_x3_joined_J199
                    refine wp_rgL (mul_b _ _ hp1 hp2) ?_
                    refine wp_if (fun c44 => ?_) (fun c44 => ?_)
                    · skip
                      refine wp_rgL (mul_b _ _ hp1 hp2) ?_
                      refine wp_if (fun c45 => ?_) (fun c45 => ?_)
                      · skip
                        unfold m_x3_joined_J225
                        exact wp_some (by show (-1000000) ≤ (p1 * p2) ∧ (p1 * p2) ≤ 1000001; omega)
                      · skip
                        unfold m_x3_joined_J225
                        exact wp_some (by show (-1000000) ≤ (-1000000 : Int) ∧ (-1000000 : Int) ≤ 1000001; omega)
                    · skip
                      exact wp_some (by show (-1000000) ≤ (1000000 : Int) ∧ (1000000 : Int) ≤ 1000001; omega)
                  · skip
                    refine wp_if (fun c46 => ?_) (fun c46 => ?_)
                    · skip
                      refine wp_rg (by omega) ?_
                      unfold m_x3_joined_J199
                      refine wp_rgL (by omega) ?_
                      refine wp_if (fun c47 => ?_) (fun c47 => ?_)
                      · skip
                        refine wp_rgL (by omega) ?_
                        refine wp_if (fun c48 => ?_) (fun c48 => ?_)
                        · skip
                          unfold m_x3_joined_J225
                          exact wp_some (by show (-1000000) ≤ (p1 - p2) ∧ (p1 - p2) ≤ 1000001; omega)
                        · skip
                          unfold m_x3_joined_J225
                          exact wp_some (by show (-1000000) ≤ (-1000000 : Int) ∧ (-1000000 : Int) ≤ 1000001; omega)
                      · skip
                        exact wp_some (by show (-1000000) ≤ (1000000 : Int) ∧ (1000000 : Int) ≤ 1000001; omega)
                    · skip
                      refine wp_if (fun c49 => ?_) (fun c49 => ?_)
                      · skip
                        refine wp_rg (by omega) ?_
                        unfold m_x3_joined_J199
                        refine wp_rgL (by omega) ?_
                        refine wp_if (fun c50 => ?_) (fun c50 => ?_)
                        · skip
                          refine wp_rgL (by omega) ?_
                          refine wp_if (fun c51 => ?_) (fun c51 => ?_)
                          · skip
                            unfold m_x3_joined_J225
                            exact wp_some (by show (-1000000) ≤ (p1 + p2) ∧ (p1 + p2) ≤ 1000001; omega)
                          · skip
                            unfold m_x3_joined_J225
                            exact wp_some (by show (-1000000) ≤ (-1000000 : Int) ∧ (-1000000 : Int) ≤ 1000001; omega)
                        · skip
                          exact wp_some (by show (-1000000) ≤ (1000000 : Int) ∧ (1000000 : Int) ≤ 1000001; omega)
                      · skip
                        unfold m_x3_joined_J199
                        refine wp_rgL (by omega) ?_
                        refine wp_if (fun c52 => ?_) (fun c52 => ?_)
                        · skip
                          refine wp_rgL (by omega) ?_
                          refine wp_if (fun c53 => ?_) (fun c53 => ?_)
                          · skip
                            unfold m_x3_joined_J225
                            exact wp_some (by show (-1000000) ≤ (0 : Int) ∧ (0 : Int) ≤ 1000001; omega)
                          · skip
                            unfold m_x3_joined_J225
                            exact wp_some (by show (-1000000) ≤ (-1000000 : Int) ∧ (-1000000 : Int) ≤ 1000001; omega)
                        · skip
                          exact wp_some (by show (-1000000) ≤ (1000000 : Int) ∧ (1000000 : Int) ≤ 1000001; omega)
set_option maxHeartbeats 1000000 in
theorem w_x3_changed {p0 : Int} {p1 : Int} {s : MS} (hRs : Rg s) (hp0 : R2 p0) (hp1 : (-1000000) ≤ p1 ∧ p1 ≤ 1000001) : wp (m_x3_changed p0 p1 s) (fun r => ((-1000000) ≤ r ∧ r ≤ 1000001)) := by
  unfold m_x3_changed
  refine wp_rg (by omega) ?_
  refine wp_if (fun c1 => ?_) (fun c1 => ?_)
  · skip
    exact wp_some (by show (-1000000) ≤ (1 - p1) ∧ (1 - p1) ≤ 1000001; omega)
  · skip
    refine wp_rg (by omega) ?_
    refine wp_if (fun c2 => ?_) (fun c2 => ?_)
    · skip
      unfold m_x3_changed_J37
      exact wp_some (by show (-1000000) ≤ (0 : Int) ∧ (0 : Int) ≤ 1000001; omega)
    · skip
      refine wp_rg (by omega) ?_
      refine wp_rg (by have : (0 : Int) ≤ gI s 1060 ∧ gI s 1060 ≤ 48 := hRs.1 1060; omega) ?_
      refine wp_if (fun c3 => ?_) (fun c3 => ?_)
      · skip
        unfold m_x3_changed_J37
        exact wp_some (by show (-1000000) ≤ (0 : Int) ∧ (0 : Int) ≤ 1000001; have : (0 : Int) ≤ gI s 1060 ∧ gI s 1060 ≤ 48 := hRs.1 1060; omega)
      · skip
        refine wp_rdIn (by have : (0 : Int) ≤ gI s 1060 ∧ gI s 1060 ≤ 48 := hRs.1 1060; omega) (fun y9 ey9 => ?_)
        have by9 : (-1 : Int) ≤ y9 ∧ y9 ≤ 100000 := ey9 ▸ hRs.2.1 54 _ (by show _ < 48; have : (0 : Int) ≤ gI s 1060 ∧ gI s 1060 ≤ 48 := hRs.1 1060; omega)
        refine wp_rg (by have : (0 : Int) ≤ gI s 1060 ∧ gI s 1060 ≤ 48 := hRs.1 1060; omega) ?_
        refine wp_if (fun c4 => ?_) (fun c4 => ?_)
        · skip
          unfold m_x3_changed_J37
          exact wp_some (by show (-1000000) ≤ (0 : Int) ∧ (0 : Int) ≤ 1000001; have : (0 : Int) ≤ gI s 1060 ∧ gI s 1060 ≤ 48 := hRs.1 1060; omega)
        · skip
          refine wp_rg (by have : (0 : Int) ≤ gI s 1060 ∧ gI s 1060 ≤ 48 := hRs.1 1060; omega) ?_
          refine wp_if (fun c5 => ?_) (fun c5 => ?_)
          · skip
            refine wp_rdIn (by have : (0 : Int) ≤ gI s 1060 ∧ gI s 1060 ≤ 48 := hRs.1 1060; omega) (fun y15 ey15 => ?_)
            have by15 : (-1 : Int) ≤ y15 ∧ y15 ≤ 100000 := ey15 ▸ hRs.2.1 54 _ (by show _ < 48; have : (0 : Int) ≤ gI s 1060 ∧ gI s 1060 ≤ 48 := hRs.1 1060; omega)
            unfold m_x3_changed_J69
            exact wp_some (by show (-1000000) ≤ y15 ∧ y15 ≤ 1000001; have : (0 : Int) ≤ gI s 1060 ∧ gI s 1060 ≤ 48 := hRs.1 1060; omega)
          · skip
            refine wp_rdIn (by have : (0 : Int) ≤ gI s 1060 ∧ gI s 1060 ≤ 48 := hRs.1 1060; omega) (fun y14 ey14 => ?_)
            have by14 : (-257 : Int) ≤ y14 ∧ y14 ≤ 65535 := ey14 ▸ hRs.2.1 58 _ (by show _ < 288; have : (0 : Int) ≤ gI s 1060 ∧ gI s 1060 ≤ 48 := hRs.1 1060; omega)
            unfold m_x3_changed_J69
            exact wp_some (by show (-1000000) ≤ y14 ∧ y14 ≤ 1000001; have : (0 : Int) ≤ gI s 1060 ∧ gI s 1060 ≤ 48 := hRs.1 1060; omega)
set_option maxHeartbeats 1000000 in
theorem w_x3_fact {p0 : Int} {s : MS} (hRs : Rg s) (hp0 : R2 p0) : wp (m_x3_fact p0 s) (fun r => ((-1000000) ≤ r ∧ r ≤ 1000001)) := by
  unfold m_x3_fact
  refine wp_rg (by omega) ?_
  refine wp_if (fun c1 => ?_) (fun c1 => ?_)
  · skip
    unfold m_x3_fact_J48
    exact wp_some (by show (-1000000) ≤ (gI s 1602) ∧ (gI s 1602) ≤ 1000001; have : (-1000000 : Int) ≤ gI s 1602 ∧ gI s 1602 ≤ 1000000 := hRs.1 1602; omega)
  · skip
    refine wp_if (fun c2 => ?_) (fun c2 => ?_)
    · skip
      exact wp_some (by show (-1000000) ≤ (gI s 1603) ∧ (gI s 1603) ≤ 1000001; have : (-1000000 : Int) ≤ gI s 1603 ∧ gI s 1603 ≤ 1000000 := hRs.1 1603; omega)
    · skip
      refine wp_if (fun c3 => ?_) (fun c3 => ?_)
      · skip
        exact wp_some (by show (-1000000) ≤ (gI s 1604) ∧ (gI s 1604) ≤ 1000001; have : (-1000000 : Int) ≤ gI s 1604 ∧ gI s 1604 ≤ 1000000 := hRs.1 1604; omega)
      · skip
        refine wp_if (fun c4 => ?_) (fun c4 => ?_)
        · skip
          exact wp_some (by show (-1000000) ≤ (gI s 1605) ∧ (gI s 1605) ≤ 1000001; have : (-1000000 : Int) ≤ gI s 1605 ∧ gI s 1605 ≤ 1000000 := hRs.1 1605; omega)
        · skip
          refine wp_if (fun c5 => ?_) (fun c5 => ?_)
          · skip
            unfold m_x3_fact_J48
            exact wp_some (by show (-1000000) ≤ (gI s 1602) ∧ (gI s 1602) ≤ 1000001; have : (-1000000 : Int) ≤ gI s 1602 ∧ gI s 1602 ≤ 1000000 := hRs.1 1602; omega)
          · skip
            refine wp_if (fun c6 => ?_) (fun c6 => ?_)
            · skip
              exact wp_some (by show (-1000000) ≤ (gI s 1606) ∧ (gI s 1606) ≤ 1000001; have : (-1000000 : Int) ≤ gI s 1606 ∧ gI s 1606 ≤ 1000000 := hRs.1 1606; omega)
            · skip
              refine wp_if (fun c7 => ?_) (fun c7 => ?_)
              · skip
                exact wp_some (by show (-1000000) ≤ (gI s 1607) ∧ (gI s 1607) ≤ 1000001; have : (-1000000 : Int) ≤ gI s 1607 ∧ gI s 1607 ≤ 1000000 := hRs.1 1607; omega)
              · skip
                refine wp_if (fun c8 => ?_) (fun c8 => ?_)
                · skip
                  exact wp_some (by show (-1000000) ≤ (gI s 1608) ∧ (gI s 1608) ≤ 1000001; have : (-1000000 : Int) ≤ gI s 1608 ∧ gI s 1608 ≤ 1000000 := hRs.1 1608; omega)
                · skip
                  exact wp_some (by show (-1000000) ≤ (0 : Int) ∧ (0 : Int) ≤ 1000001; omega)
set_option maxHeartbeats 1000000 in
theorem w_x3_value {p1 : Int} {p2 : Int} {s : MS} (hRs : Rg s) (hp0 : R2 p1) (hp1 : R2 p2) : wp (m_x3_value p1 p2 s) (fun q => (Rg q.2) ∧ ((-1000000) ≤ q.1 ∧ q.1 ≤ 1000001)) := by
  unfold m_x3_value
  refine wp_stn (fun s49 es49 => ?_)
  have hRs49 : Rg s49 := es49 ▸ Rg.uI hRs (by show (0 : Int) ≤ (0 : Int) ∧ (0 : Int) ≤ 64; omega)
  have L8 : ∀ (n : Nat) (x5 : Int) (x6 : Int) (s7 : MS), Rg s7 → (x5 = p2) → (R2 x6) → (5000000000 - x6) < (n : Int) → wp (m_x3_value_L8 n x5 x6 s7) (fun q => (Rg q.2) ∧ ((-1000000) ≤ q.1 ∧ q.1 ≤ 1000001)) := by
    refine fr_ind (fun x5 x6 s7 hRs7 hv8_0 hv8_1 hm8 => ?_) (fun n8 ih8 x5 x6 s7 hRs7 hv8_0 hv8_1 hm8 => ?_)
    · exfalso; omega
    · show wp (m_x3_value_b8 (m_x3_value_L8 n8) x5 x6 s7) _
      unfold m_x3_value_b8
      refine wp_rg (by omega) ?_
      refine wp_if (fun c1 => ?_) (fun c1 => ?_)
      · skip
        unfold m_x3_value_J125
        refine wp_bn (w_x3_pop hRs7) (fun qqr4 eqr4s hqr4s => ?_)
        obtain ⟨qr4r, qr4s⟩ := qqr4
        dsimp only at eqr4s hqr4s ⊢
        have Fqr4s := fr_x3_pop eqr4s
        obtain ⟨hRqr4s, hqr4s_0⟩ := hqr4s
        have hqr4s_0 : (-1000000) ≤ qr4r ∧ qr4r ≤ 1000001 := hqr4s_0
        exact wp_some ⟨hRqr4s, by show (-1000000) ≤ qr4r ∧ qr4r ≤ 1000001; omega⟩
      · skip
        refine wp_rg (by omega) ?_
        refine wp_rg (by omega) ?_
        refine wp_if (fun c2 => ?_) (fun c2 => ?_)
        · skip
          unfold m_x3_value_J125
          refine wp_bn (w_x3_pop hRs7) (fun qqr4 eqr4s hqr4s => ?_)
          obtain ⟨qr4r, qr4s⟩ := qqr4
          dsimp only at eqr4s hqr4s ⊢
          have Fqr4s := fr_x3_pop eqr4s
          obtain ⟨hRqr4s, hqr4s_0⟩ := hqr4s
          have hqr4s_0 : (-1000000) ≤ qr4r ∧ qr4r ≤ 1000001 := hqr4s_0
          exact wp_some ⟨hRqr4s, by show (-1000000) ≤ qr4r ∧ qr4r ≤ 1000001; omega⟩
        · skip
          refine wp_rg (by omega) ?_
          refine wp_rg (by have : (0 : Int) ≤ gI s7 741 ∧ gI s7 741 ≤ 1600 := hRs7.1 741; omega) ?_
          refine wp_if (fun c3 => ?_) (fun c3 => ?_)
          · skip
            unfold m_x3_value_J125
            refine wp_bn (w_x3_pop hRs7) (fun qqr4 eqr4s hqr4s => ?_)
            obtain ⟨qr4r, qr4s⟩ := qqr4
            dsimp only at eqr4s hqr4s ⊢
            have Fqr4s := fr_x3_pop eqr4s
            obtain ⟨hRqr4s, hqr4s_0⟩ := hqr4s
            have hqr4s_0 : (-1000000) ≤ qr4r ∧ qr4r ≤ 1000001 := hqr4s_0
            exact wp_some ⟨hRqr4s, by show (-1000000) ≤ qr4r ∧ qr4r ≤ 1000001; have : (0 : Int) ≤ gI s7 741 ∧ gI s7 741 ≤ 1600 := hRs7.1 741; omega⟩
          · skip
            refine wp_rdIn (by have : (0 : Int) ≤ gI s7 741 ∧ gI s7 741 ≤ 1600 := hRs7.1 741; omega) (fun y19 ey19 => ?_)
            have by19 : (-300 : Int) ≤ y19 ∧ y19 ≤ 1000000 := ey19 ▸ hRs7.2.1 38 _ (by show _ < 1600; have : (0 : Int) ≤ gI s7 741 ∧ gI s7 741 ≤ 1600 := hRs7.1 741; omega)
            refine wp_rg (by have : (0 : Int) ≤ gI s7 741 ∧ gI s7 741 ≤ 1600 := hRs7.1 741; omega) ?_
            refine wp_if (fun c4 => ?_) (fun c4 => ?_)
            · skip
              refine wp_rg (by have : (0 : Int) ≤ gI s7 741 ∧ gI s7 741 ≤ 1600 := hRs7.1 741; omega) ?_
              refine wp_if (fun c5 => ?_) (fun c5 => ?_)
              · skip
                refine wp_rg (by have : (0 : Int) ≤ gI s7 741 ∧ gI s7 741 ≤ 1600 := hRs7.1 741; omega) ?_
                refine wp_if (fun c6 => ?_) (fun c6 => ?_)
                · skip
                  refine wp_bn (w_x3_pop hRs7) (fun qqr28 eqr28s hqr28s => ?_)
                  obtain ⟨qr28r, qr28s⟩ := qqr28
                  dsimp only at eqr28s hqr28s ⊢
                  have Fqr28s := fr_x3_pop eqr28s
                  obtain ⟨hRqr28s, hqr28s_0⟩ := hqr28s
                  have hqr28s_0 : (-1000000) ≤ qr28r ∧ qr28r ≤ 1000001 := hqr28s_0
                  refine wp_bn (w_x3_pop hRqr28s) (fun qqr31 eqr31s hqr31s => ?_)
                  obtain ⟨qr31r, qr31s⟩ := qqr31
                  dsimp only at eqr31s hqr31s ⊢
                  have Fqr31s := fr_x3_pop eqr31s
                  obtain ⟨hRqr31s, hqr31s_0⟩ := hqr31s
                  have hqr31s_0 : (-1000000) ≤ qr31r ∧ qr31r ≤ 1000001 := hqr31s_0
                  refine wp_bn (w_x3_joined hRqr31s (by show R2 y19; have : (0 : Int) ≤ gI s7 741 ∧ gI s7 741 ≤ 1600 := hRs7.1 741; omega) (by show (-1000000) ≤ qr31r ∧ qr31r ≤ 1000001; have : (0 : Int) ≤ gI s7 741 ∧ gI s7 741 ≤ 1600 := hRs7.1 741; omega) (by show (-1000000) ≤ qr28r ∧ qr28r ≤ 1000001; have : (0 : Int) ≤ gI s7 741 ∧ gI s7 741 ≤ 1600 := hRs7.1 741; omega)) (fun r33 er33 hr33 => ?_)
                  have hr33_0 := hr33
                  have hr33_0 : (-1000000) ≤ r33 ∧ r33 ≤ 1000001 := hr33_0
                  refine wp_bn (w_x3_push hRqr31s (by show (-1000000) ≤ r33 ∧ r33 ≤ 1000001; have : (0 : Int) ≤ gI s7 741 ∧ gI s7 741 ≤ 1600 := hRs7.1 741; omega)) (fun s35 es35 hs35 => ?_)
                  have Fs35 := fr_x3_push es35
                  have hRs35 := hs35
                  unfold m_x3_value_J119
                  exact ih8 x5 (x6 + 1) s35 hRs35 (by show x5 = p2; have : (0 : Int) ≤ gI s7 741 ∧ gI s7 741 ≤ 1600 := hRs7.1 741; omega) (by show R2 (x6 + 1); have : (0 : Int) ≤ gI s7 741 ∧ gI s7 741 ≤ 1600 := hRs7.1 741; omega) (by have : (0 : Int) ≤ gI s7 741 ∧ gI s7 741 ≤ 1600 := hRs7.1 741; omega)
                · skip
                  refine wp_bn (w_x3_pop hRs7) (fun qqr38 eqr38s hqr38s => ?_)
                  obtain ⟨qr38r, qr38s⟩ := qqr38
                  dsimp only at eqr38s hqr38s ⊢
                  have Fqr38s := fr_x3_pop eqr38s
                  obtain ⟨hRqr38s, hqr38s_0⟩ := hqr38s
                  have hqr38s_0 : (-1000000) ≤ qr38r ∧ qr38r ≤ 1000001 := hqr38s_0
                  refine wp_bn (w_x3_changed hRqr38s (by show R2 y19; have : (0 : Int) ≤ gI s7 741 ∧ gI s7 741 ≤ 1600 := hRs7.1 741; omega) (by show (-1000000) ≤ qr38r ∧ qr38r ≤ 1000001; have : (0 : Int) ≤ gI s7 741 ∧ gI s7 741 ≤ 1600 := hRs7.1 741; omega)) (fun r40 er40 hr40 => ?_)
                  have hr40_0 := hr40
                  have hr40_0 : (-1000000) ≤ r40 ∧ r40 ≤ 1000001 := hr40_0
                  refine wp_bn (w_x3_push hRqr38s (by show (-1000000) ≤ r40 ∧ r40 ≤ 1000001; have : (0 : Int) ≤ gI s7 741 ∧ gI s7 741 ≤ 1600 := hRs7.1 741; omega)) (fun s42 es42 hs42 => ?_)
                  have Fs42 := fr_x3_push es42
                  have hRs42 := hs42
                  unfold m_x3_value_J119
                  exact ih8 x5 (x6 + 1) s42 hRs42 (by show x5 = p2; have : (0 : Int) ≤ gI s7 741 ∧ gI s7 741 ≤ 1600 := hRs7.1 741; omega) (by show R2 (x6 + 1); have : (0 : Int) ≤ gI s7 741 ∧ gI s7 741 ≤ 1600 := hRs7.1 741; omega) (by have : (0 : Int) ≤ gI s7 741 ∧ gI s7 741 ≤ 1600 := hRs7.1 741; omega)
              · skip
                refine wp_bn (w_x3_fact hRs7 (by show R2 ((-100) - y19); have : (0 : Int) ≤ gI s7 741 ∧ gI s7 741 ≤ 1600 := hRs7.1 741; omega)) (fun r44 er44 hr44 => ?_)
                have hr44_0 := hr44
                have hr44_0 : (-1000000) ≤ r44 ∧ r44 ≤ 1000001 := hr44_0
                refine wp_bn (w_x3_push hRs7 (by show (-1000000) ≤ r44 ∧ r44 ≤ 1000001; have : (0 : Int) ≤ gI s7 741 ∧ gI s7 741 ≤ 1600 := hRs7.1 741; omega)) (fun s46 es46 hs46 => ?_)
                have Fs46 := fr_x3_push es46
                have hRs46 := hs46
                unfold m_x3_value_J119
                exact ih8 x5 (x6 + 1) s46 hRs46 (by show x5 = p2; have : (0 : Int) ≤ gI s7 741 ∧ gI s7 741 ≤ 1600 := hRs7.1 741; omega) (by show R2 (x6 + 1); have : (0 : Int) ≤ gI s7 741 ∧ gI s7 741 ≤ 1600 := hRs7.1 741; omega) (by have : (0 : Int) ≤ gI s7 741 ∧ gI s7 741 ≤ 1600 := hRs7.1 741; omega)
            · skip
              refine wp_bn (w_x3_push hRs7 (by show (-1000000) ≤ y19 ∧ y19 ≤ 1000001; have : (0 : Int) ≤ gI s7 741 ∧ gI s7 741 ≤ 1600 := hRs7.1 741; omega)) (fun s48 es48 hs48 => ?_)
              have Fs48 := fr_x3_push es48
              have hRs48 := hs48
              unfold m_x3_value_J119
              exact ih8 x5 (x6 + 1) s48 hRs48 (by show x5 = p2; have : (0 : Int) ≤ gI s7 741 ∧ gI s7 741 ≤ 1600 := hRs7.1 741; omega) (by show R2 (x6 + 1); have : (0 : Int) ≤ gI s7 741 ∧ gI s7 741 ≤ 1600 := hRs7.1 741; omega) (by have : (0 : Int) ≤ gI s7 741 ∧ gI s7 741 ≤ 1600 := hRs7.1 741; omega)
  exact L8 FU p2 p1 s49 hRs49 (by show p2 = p2; omega) (by show R2 p1; omega) (by have := FU_big; have := FU_big2; omega)
set_option maxHeartbeats 1000000 in
theorem w_x3_value_v2 {p1 : Int} {p2 : Int} {s : MS} (hRs : Rg s) (hp0 : R2 p1) (hp1 : R2 p2) : wp (m_x3_value_v2 p1 p2 s) (fun q => (Rg q.2) ∧ ((-1000000) ≤ q.1 ∧ q.1 ≤ 1000001)) := by
  unfold m_x3_value_v2
  refine wp_stn (fun s49 es49 => ?_)
  have hRs49 : Rg s49 := es49 ▸ Rg.uI hRs (by show (0 : Int) ≤ (0 : Int) ∧ (0 : Int) ≤ 64; omega)
  have L8 : ∀ (n : Nat) (x5 : Int) (x6 : Int) (s7 : MS), Rg s7 → (x5 = p2) → (R2 x6) → (5000000000 - x6) < (n : Int) → wp (m_x3_value_v2_L8 n x5 x6 s7) (fun q => (Rg q.2) ∧ ((-1000000) ≤ q.1 ∧ q.1 ≤ 1000001)) := by
    refine fr_ind (fun x5 x6 s7 hRs7 hv8_0 hv8_1 hm8 => ?_) (fun n8 ih8 x5 x6 s7 hRs7 hv8_0 hv8_1 hm8 => ?_)
    · exfalso; omega
    · show wp (m_x3_value_v2_b8 (m_x3_value_v2_L8 n8) x5 x6 s7) _
      unfold m_x3_value_v2_b8
      refine wp_rg (by omega) ?_
      refine wp_if (fun c1 => ?_) (fun c1 => ?_)
      · skip
        unfold m_x3_value_v2_J125
        refine wp_bn (w_x3_pop hRs7) (fun qqr4 eqr4s hqr4s => ?_)
        obtain ⟨qr4r, qr4s⟩ := qqr4
        dsimp only at eqr4s hqr4s ⊢
        have Fqr4s := fr_x3_pop eqr4s
        obtain ⟨hRqr4s, hqr4s_0⟩ := hqr4s
        have hqr4s_0 : (-1000000) ≤ qr4r ∧ qr4r ≤ 1000001 := hqr4s_0
        exact wp_some ⟨hRqr4s, by show (-1000000) ≤ qr4r ∧ qr4r ≤ 1000001; omega⟩
      · skip
        refine wp_rg (by omega) ?_
        refine wp_rg (by omega) ?_
        refine wp_if (fun c2 => ?_) (fun c2 => ?_)
        · skip
          unfold m_x3_value_v2_J125
          refine wp_bn (w_x3_pop hRs7) (fun qqr4 eqr4s hqr4s => ?_)
          obtain ⟨qr4r, qr4s⟩ := qqr4
          dsimp only at eqr4s hqr4s ⊢
          have Fqr4s := fr_x3_pop eqr4s
          obtain ⟨hRqr4s, hqr4s_0⟩ := hqr4s
          have hqr4s_0 : (-1000000) ≤ qr4r ∧ qr4r ≤ 1000001 := hqr4s_0
          exact wp_some ⟨hRqr4s, by show (-1000000) ≤ qr4r ∧ qr4r ≤ 1000001; omega⟩
        · skip
          refine wp_rg (by omega) ?_
          refine wp_rg (by have : (0 : Int) ≤ gI s7 941 ∧ gI s7 941 ≤ 1600 := hRs7.1 941; omega) ?_
          refine wp_if (fun c3 => ?_) (fun c3 => ?_)
          · skip
            unfold m_x3_value_v2_J125
            refine wp_bn (w_x3_pop hRs7) (fun qqr4 eqr4s hqr4s => ?_)
            obtain ⟨qr4r, qr4s⟩ := qqr4
            dsimp only at eqr4s hqr4s ⊢
            have Fqr4s := fr_x3_pop eqr4s
            obtain ⟨hRqr4s, hqr4s_0⟩ := hqr4s
            have hqr4s_0 : (-1000000) ≤ qr4r ∧ qr4r ≤ 1000001 := hqr4s_0
            exact wp_some ⟨hRqr4s, by show (-1000000) ≤ qr4r ∧ qr4r ≤ 1000001; have : (0 : Int) ≤ gI s7 941 ∧ gI s7 941 ≤ 1600 := hRs7.1 941; omega⟩
          · skip
            refine wp_rdIn (by have : (0 : Int) ≤ gI s7 941 ∧ gI s7 941 ≤ 1600 := hRs7.1 941; omega) (fun y19 ey19 => ?_)
            have by19 : (-300 : Int) ≤ y19 ∧ y19 ≤ 1000000 := ey19 ▸ hRs7.2.1 48 _ (by show _ < 1600; have : (0 : Int) ≤ gI s7 941 ∧ gI s7 941 ≤ 1600 := hRs7.1 941; omega)
            refine wp_rg (by have : (0 : Int) ≤ gI s7 941 ∧ gI s7 941 ≤ 1600 := hRs7.1 941; omega) ?_
            refine wp_if (fun c4 => ?_) (fun c4 => ?_)
            · skip
              refine wp_rg (by have : (0 : Int) ≤ gI s7 941 ∧ gI s7 941 ≤ 1600 := hRs7.1 941; omega) ?_
              refine wp_if (fun c5 => ?_) (fun c5 => ?_)
              · skip
                refine wp_rg (by have : (0 : Int) ≤ gI s7 941 ∧ gI s7 941 ≤ 1600 := hRs7.1 941; omega) ?_
                refine wp_if (fun c6 => ?_) (fun c6 => ?_)
                · skip
                  refine wp_bn (w_x3_pop hRs7) (fun qqr28 eqr28s hqr28s => ?_)
                  obtain ⟨qr28r, qr28s⟩ := qqr28
                  dsimp only at eqr28s hqr28s ⊢
                  have Fqr28s := fr_x3_pop eqr28s
                  obtain ⟨hRqr28s, hqr28s_0⟩ := hqr28s
                  have hqr28s_0 : (-1000000) ≤ qr28r ∧ qr28r ≤ 1000001 := hqr28s_0
                  refine wp_bn (w_x3_pop hRqr28s) (fun qqr31 eqr31s hqr31s => ?_)
                  obtain ⟨qr31r, qr31s⟩ := qqr31
                  dsimp only at eqr31s hqr31s ⊢
                  have Fqr31s := fr_x3_pop eqr31s
                  obtain ⟨hRqr31s, hqr31s_0⟩ := hqr31s
                  have hqr31s_0 : (-1000000) ≤ qr31r ∧ qr31r ≤ 1000001 := hqr31s_0
                  refine wp_bn (w_x3_joined hRqr31s (by show R2 y19; have : (0 : Int) ≤ gI s7 941 ∧ gI s7 941 ≤ 1600 := hRs7.1 941; omega) (by show (-1000000) ≤ qr31r ∧ qr31r ≤ 1000001; have : (0 : Int) ≤ gI s7 941 ∧ gI s7 941 ≤ 1600 := hRs7.1 941; omega) (by show (-1000000) ≤ qr28r ∧ qr28r ≤ 1000001; have : (0 : Int) ≤ gI s7 941 ∧ gI s7 941 ≤ 1600 := hRs7.1 941; omega)) (fun r33 er33 hr33 => ?_)
                  have hr33_0 := hr33
                  have hr33_0 : (-1000000) ≤ r33 ∧ r33 ≤ 1000001 := hr33_0
                  refine wp_bn (w_x3_push hRqr31s (by show (-1000000) ≤ r33 ∧ r33 ≤ 1000001; have : (0 : Int) ≤ gI s7 941 ∧ gI s7 941 ≤ 1600 := hRs7.1 941; omega)) (fun s35 es35 hs35 => ?_)
                  have Fs35 := fr_x3_push es35
                  have hRs35 := hs35
                  unfold m_x3_value_v2_J119
                  exact ih8 x5 (x6 + 1) s35 hRs35 (by show x5 = p2; have : (0 : Int) ≤ gI s7 941 ∧ gI s7 941 ≤ 1600 := hRs7.1 941; omega) (by show R2 (x6 + 1); have : (0 : Int) ≤ gI s7 941 ∧ gI s7 941 ≤ 1600 := hRs7.1 941; omega) (by have : (0 : Int) ≤ gI s7 941 ∧ gI s7 941 ≤ 1600 := hRs7.1 941; omega)
                · skip
                  refine wp_bn (w_x3_pop hRs7) (fun qqr38 eqr38s hqr38s => ?_)
                  obtain ⟨qr38r, qr38s⟩ := qqr38
                  dsimp only at eqr38s hqr38s ⊢
                  have Fqr38s := fr_x3_pop eqr38s
                  obtain ⟨hRqr38s, hqr38s_0⟩ := hqr38s
                  have hqr38s_0 : (-1000000) ≤ qr38r ∧ qr38r ≤ 1000001 := hqr38s_0
                  refine wp_bn (w_x3_changed hRqr38s (by show R2 y19; have : (0 : Int) ≤ gI s7 941 ∧ gI s7 941 ≤ 1600 := hRs7.1 941; omega) (by show (-1000000) ≤ qr38r ∧ qr38r ≤ 1000001; have : (0 : Int) ≤ gI s7 941 ∧ gI s7 941 ≤ 1600 := hRs7.1 941; omega)) (fun r40 er40 hr40 => ?_)
                  have hr40_0 := hr40
                  have hr40_0 : (-1000000) ≤ r40 ∧ r40 ≤ 1000001 := hr40_0
                  refine wp_bn (w_x3_push hRqr38s (by show (-1000000) ≤ r40 ∧ r40 ≤ 1000001; have : (0 : Int) ≤ gI s7 941 ∧ gI s7 941 ≤ 1600 := hRs7.1 941; omega)) (fun s42 es42 hs42 => ?_)
                  have Fs42 := fr_x3_push es42
                  have hRs42 := hs42
                  unfold m_x3_value_v2_J119
                  exact ih8 x5 (x6 + 1) s42 hRs42 (by show x5 = p2; have : (0 : Int) ≤ gI s7 941 ∧ gI s7 941 ≤ 1600 := hRs7.1 941; omega) (by show R2 (x6 + 1); have : (0 : Int) ≤ gI s7 941 ∧ gI s7 941 ≤ 1600 := hRs7.1 941; omega) (by have : (0 : Int) ≤ gI s7 941 ∧ gI s7 941 ≤ 1600 := hRs7.1 941; omega)
              · skip
                refine wp_bn (w_x3_fact hRs7 (by show R2 ((-100) - y19); have : (0 : Int) ≤ gI s7 941 ∧ gI s7 941 ≤ 1600 := hRs7.1 941; omega)) (fun r44 er44 hr44 => ?_)
                have hr44_0 := hr44
                have hr44_0 : (-1000000) ≤ r44 ∧ r44 ≤ 1000001 := hr44_0
                refine wp_bn (w_x3_push hRs7 (by show (-1000000) ≤ r44 ∧ r44 ≤ 1000001; have : (0 : Int) ≤ gI s7 941 ∧ gI s7 941 ≤ 1600 := hRs7.1 941; omega)) (fun s46 es46 hs46 => ?_)
                have Fs46 := fr_x3_push es46
                have hRs46 := hs46
                unfold m_x3_value_v2_J119
                exact ih8 x5 (x6 + 1) s46 hRs46 (by show x5 = p2; have : (0 : Int) ≤ gI s7 941 ∧ gI s7 941 ≤ 1600 := hRs7.1 941; omega) (by show R2 (x6 + 1); have : (0 : Int) ≤ gI s7 941 ∧ gI s7 941 ≤ 1600 := hRs7.1 941; omega) (by have : (0 : Int) ≤ gI s7 941 ∧ gI s7 941 ≤ 1600 := hRs7.1 941; omega)
            · skip
              refine wp_bn (w_x3_push hRs7 (by show (-1000000) ≤ y19 ∧ y19 ≤ 1000001; have : (0 : Int) ≤ gI s7 941 ∧ gI s7 941 ≤ 1600 := hRs7.1 941; omega)) (fun s48 es48 hs48 => ?_)
              have Fs48 := fr_x3_push es48
              have hRs48 := hs48
              unfold m_x3_value_v2_J119
              exact ih8 x5 (x6 + 1) s48 hRs48 (by show x5 = p2; have : (0 : Int) ≤ gI s7 941 ∧ gI s7 941 ≤ 1600 := hRs7.1 941; omega) (by show R2 (x6 + 1); have : (0 : Int) ≤ gI s7 941 ∧ gI s7 941 ≤ 1600 := hRs7.1 941; omega) (by have : (0 : Int) ≤ gI s7 941 ∧ gI s7 941 ≤ 1600 := hRs7.1 941; omega)
  exact L8 FU p2 p1 s49 hRs49 (by show p2 = p2; omega) (by show R2 p1; omega) (by have := FU_big; have := FU_big2; omega)
set_option maxHeartbeats 1000000 in
theorem w_x1_take {p0 : Int} {p1 : Int} {s : MS} (hRs : Rg s) (hp0 : 0 ≤ p0 ∧ p0 ≤ 1000) (hp1 : (-1000000) ≤ p1 ∧ p1 ≤ 1000000) : wp (m_x1_take p0 p1 s) (fun q => (Rg q.2) ∧ (q.1 = -1 ∨ (0 ≤ q.1 ∧ q.1 < gI s 1060 ∧ gA s 54 q.1.toNat = 0 ∧ gA s 55 q.1.toNat = 0)) ∧ (q.1 ≠ -1 → gA q.2 54 = upZ (gA s 54) q.1.toNat 1 ∧ gA q.2 56 = upZ (gA s 56) q.1.toNat p0 ∧ gA q.2 57 = upZ (gA s 57) q.1.toNat 0)) := by
  unfold m_x1_take
  refine wp_rdIn (by omega) (fun y65 ey65 => ?_)
  have by65 : (-2147483648 : Int) ≤ y65 ∧ y65 ≤ 2147483647 := ey65 ▸ hRs.2.1 35 _ (by show _ < 3; omega)
  refine wp_rg (by omega) ?_
  refine wp_if (fun c1 => ?_) (fun c1 => ?_)
  · skip
    unfold m_x1_take_J23
    refine wp_stn (fun s63 es63 => ?_)
    have hRs63 : Rg s63 := es63 ▸ Rg.uI hRs (by show (-1000000 : Int) ≤ p0 ∧ p0 ≤ 1000000; omega)
    refine wp_stn (fun s64 es64 => ?_)
    have hRs64 : Rg s64 := es64 ▸ Rg.uI hRs63 (by show (-1000000 : Int) ≤ p1 ∧ p1 ≤ 1000000; omega)
    have L44 : ∀ (n : Nat) (x3 : Int) (x4 : Int) (x5 : Int) (x6 : Int) (x7 : Int) (s8 : MS), Rg s8 → (x3 = p0) → (x4 = -1 ∨ (0 ≤ x4 ∧ x4 < gI s 1060 ∧ gA s 54 x4.toNat = 0 ∧ gA s 55 x4.toNat = 0)) → (R2 x5) → (x6 = 0 ∨ x6 = 1) → (0 ≤ x7 ∧ x7 ≤ 48) → (gI s8 1060 = gI s 1060) → (x6 ≤ 1) → (gA s8 54 = gA s 54) → (gA s8 55 = gA s 55) → (gA s8 56 = gA s 56) → (gA s8 57 = gA s 57) → (48 - x7) < (n : Int) → wp (m_x1_take_L44 n x3 x4 x5 x6 x7 s8) (fun q => (Rg q.2) ∧ (q.1 = -1 ∨ (0 ≤ q.1 ∧ q.1 < gI s 1060 ∧ gA s 54 q.1.toNat = 0 ∧ gA s 55 q.1.toNat = 0)) ∧ (q.1 ≠ -1 → gA q.2 54 = upZ (gA s 54) q.1.toNat 1 ∧ gA q.2 56 = upZ (gA s 56) q.1.toNat p0 ∧ gA q.2 57 = upZ (gA s 57) q.1.toNat 0)) := by
      refine fr_ind (fun x3 x4 x5 x6 x7 s8 hRs8 hv44_0 hv44_1 hv44_2 hv44_3 hv44_4 hv44_5 hv44_6 hv44_7 hv44_8 hv44_9 hv44_10 hm44 => ?_) (fun n44 ih44 x3 x4 x5 x6 x7 s8 hRs8 hv44_0 hv44_1 hv44_2 hv44_3 hv44_4 hv44_5 hv44_6 hv44_7 hv44_8 hv44_9 hv44_10 hm44 => ?_)
      · exfalso; have : (0 : Int) ≤ gI s8 1060 ∧ gI s8 1060 ≤ 48 := hRs8.1 1060; have : (0 : Int) ≤ gI s 1060 ∧ gI s 1060 ≤ 48 := hRs.1 1060; omega
      · show wp (m_x1_take_b44 (m_x1_take_L44 n44) x3 x4 x5 x6 x7 s8) _
        unfold m_x1_take_b44
        refine wp_rg (by have : (0 : Int) ≤ gI s8 1060 ∧ gI s8 1060 ≤ 48 := hRs8.1 1060; have : (0 : Int) ≤ gI s 1060 ∧ gI s 1060 ≤ 48 := hRs.1 1060; omega) ?_
        refine wp_rg (by have : (0 : Int) ≤ gI s 1060 ∧ gI s 1060 ≤ 48 := hRs.1 1060; have : (0 : Int) ≤ gI s8 1060 ∧ gI s8 1060 ≤ 48 := hRs8.1 1060; omega) ?_
        refine wp_if (fun c2 => ?_) (fun c2 => ?_)
        · skip
          refine wp_rg (by have : (0 : Int) ≤ gI s8 1060 ∧ gI s8 1060 ≤ 48 := hRs8.1 1060; have : (0 : Int) ≤ gI s 1060 ∧ gI s 1060 ≤ 48 := hRs.1 1060; omega) ?_
          refine wp_if (fun c3 => ?_) (fun c3 => ?_)
          · skip
            unfold m_x1_take_J189
            exact wp_some ⟨hRs8, by show x4 = -1 ∨ (0 ≤ x4 ∧ x4 < gI s 1060 ∧ gA s 54 x4.toNat = 0 ∧ gA s 55 x4.toNat = 0); have : (0 : Int) ≤ gI s8 1060 ∧ gI s8 1060 ≤ 48 := hRs8.1 1060; have : (0 : Int) ≤ gI s 1060 ∧ gI s 1060 ≤ 48 := hRs.1 1060; omega, fun h9 => by exfalso; omega⟩
          · skip
            refine wp_inb (by have : (0 : Int) ≤ gI s8 1060 ∧ gI s8 1060 ≤ 48 := hRs8.1 1060; have : (0 : Int) ≤ gI s 1060 ∧ gI s 1060 ≤ 48 := hRs.1 1060; omega) ?_
            refine wp_stn (fun s38 es38 => ?_)
            have hRs38 : Rg s38 := es38 ▸ Rg.uAu hRs8 (by show (-1 : Int) ≤ (1 : Int) ∧ (1 : Int) ≤ 100000; have : (0 : Int) ≤ gI s8 1060 ∧ gI s8 1060 ≤ 48 := hRs8.1 1060; have : (0 : Int) ≤ gI s 1060 ∧ gI s 1060 ≤ 48 := hRs.1 1060; have := hRs8.2.1 54; omega)
            refine wp_inb (by have : (0 : Int) ≤ gI s8 1060 ∧ gI s8 1060 ≤ 48 := hRs8.1 1060; have : (0 : Int) ≤ gI s 1060 ∧ gI s 1060 ≤ 48 := hRs.1 1060; omega) ?_
            refine wp_stn (fun s40 es40 => ?_)
            have hRs40 : Rg s40 := es40 ▸ Rg.uAu hRs38 (by show (-1 : Int) ≤ x3 ∧ x3 ≤ 1000; have : (0 : Int) ≤ gI s8 1060 ∧ gI s8 1060 ≤ 48 := hRs8.1 1060; have : (0 : Int) ≤ gI s 1060 ∧ gI s 1060 ≤ 48 := hRs.1 1060; omega)
            refine wp_inb (by have : (0 : Int) ≤ gI s8 1060 ∧ gI s8 1060 ≤ 48 := hRs8.1 1060; have : (0 : Int) ≤ gI s 1060 ∧ gI s 1060 ≤ 48 := hRs.1 1060; omega) ?_
            refine wp_stn (fun s42 es42 => ?_)
            have hRs42 : Rg s42 := es42 ▸ Rg.uAu hRs40 (by show (-1 : Int) ≤ (0 : Int) ∧ (0 : Int) ≤ 255; have : (0 : Int) ≤ gI s8 1060 ∧ gI s8 1060 ≤ 48 := hRs8.1 1060; have : (0 : Int) ≤ gI s 1060 ∧ gI s 1060 ≤ 48 := hRs.1 1060; omega)
            refine wp_bn (w_x8_mark hRs42 (by show R2 x4; have : (0 : Int) ≤ gI s8 1060 ∧ gI s8 1060 ≤ 48 := hRs8.1 1060; have : (0 : Int) ≤ gI s 1060 ∧ gI s 1060 ≤ 48 := hRs.1 1060; omega)) (fun s44 es44 hs44 => ?_)
            have Fs44 := fr_x8_mark es44
            have hRs44 := hs44
            unfold m_x1_take_J189
            exact wp_some ⟨hRs44, by show x4 = -1 ∨ (0 ≤ x4 ∧ x4 < gI s 1060 ∧ gA s 54 x4.toNat = 0 ∧ gA s 55 x4.toNat = 0); have : (0 : Int) ≤ gI s8 1060 ∧ gI s8 1060 ≤ 48 := hRs8.1 1060; have : (0 : Int) ≤ gI s 1060 ∧ gI s 1060 ≤ 48 := hRs.1 1060; omega, fun h9 => ⟨by rw [((Fs44.2.1 54 (by decide)).trans ((q_Aa es42 (by decide) : gA s42 54 = gA s40 54).trans (q_Aa es40 (by decide) : gA s40 54 = gA s38 54))), q_AA es38, hv44_7], by rw [((Fs44.2.1 56 (by decide)).trans (q_Aa es42 (by decide) : gA s42 56 = gA s40 56)), q_AA es40, (q_Aa es38 (by decide) : gA s38 56 = gA s8 56), hv44_9, hv44_0], by rw [(Fs44.2.1 57 (by decide)), q_AA es42, ((q_Aa es40 (by decide) : gA s40 57 = gA s38 57).trans (q_Aa es38 (by decide) : gA s38 57 = gA s8 57)), hv44_10]⟩⟩
        · skip
          refine wp_bn (w_x8_isFree hRs8 (by show R2 x7; have : (0 : Int) ≤ gI s8 1060 ∧ gI s8 1060 ≤ 48 := hRs8.1 1060; have : (0 : Int) ≤ gI s 1060 ∧ gI s 1060 ≤ 48 := hRs.1 1060; omega)) (fun r46 er46 hr46 => ?_)
          have hr46_0 := hr46
          have hr46_0 : (r46 = 1 ∧ 0 ≤ x7 ∧ x7 < gI s8 1060 ∧ gA s8 54 x7.toNat = 0 ∧ gA s8 55 x7.toNat = 0) ∨ (r46 = 0 ∧ (x7 < 0 ∨ gI s8 1060 ≤ x7 ∨ ¬ (gA s8 54 x7.toNat = 0 ∧ gA s8 55 x7.toNat = 0))) := hr46_0
          rw [hv44_7, hv44_8] at hr46_0
          refine wp_rg (by have : (0 : Int) ≤ gI s8 1060 ∧ gI s8 1060 ≤ 48 := hRs8.1 1060; have : (0 : Int) ≤ gI s 1060 ∧ gI s 1060 ≤ 48 := hRs.1 1060; omega) ?_
          refine wp_if (fun c4 => ?_) (fun c4 => ?_)
          · skip
            unfold m_x1_take_J140
            exact ih44 x3 x4 x5 x6 (x7 + 1) s8 hRs8 (by show x3 = p0; have : (0 : Int) ≤ gI s8 1060 ∧ gI s8 1060 ≤ 48 := hRs8.1 1060; have : (0 : Int) ≤ gI s 1060 ∧ gI s 1060 ≤ 48 := hRs.1 1060; omega) (by show x4 = -1 ∨ (0 ≤ x4 ∧ x4 < gI s 1060 ∧ gA s 54 x4.toNat = 0 ∧ gA s 55 x4.toNat = 0); have : (0 : Int) ≤ gI s8 1060 ∧ gI s8 1060 ≤ 48 := hRs8.1 1060; have : (0 : Int) ≤ gI s 1060 ∧ gI s 1060 ≤ 48 := hRs.1 1060; omega) (by show R2 x5; have : (0 : Int) ≤ gI s8 1060 ∧ gI s8 1060 ≤ 48 := hRs8.1 1060; have : (0 : Int) ≤ gI s 1060 ∧ gI s 1060 ≤ 48 := hRs.1 1060; omega) (by show x6 = 0 ∨ x6 = 1; have : (0 : Int) ≤ gI s8 1060 ∧ gI s8 1060 ≤ 48 := hRs8.1 1060; have : (0 : Int) ≤ gI s 1060 ∧ gI s 1060 ≤ 48 := hRs.1 1060; omega) (by show 0 ≤ (x7 + 1) ∧ (x7 + 1) ≤ 48; have : (0 : Int) ≤ gI s8 1060 ∧ gI s8 1060 ≤ 48 := hRs8.1 1060; have : (0 : Int) ≤ gI s 1060 ∧ gI s 1060 ≤ 48 := hRs.1 1060; omega) (by show gI s8 1060 = gI s 1060; have : (0 : Int) ≤ gI s 1060 ∧ gI s 1060 ≤ 48 := hRs.1 1060; have : (0 : Int) ≤ gI s8 1060 ∧ gI s8 1060 ≤ 48 := hRs8.1 1060; omega) (by show x6 ≤ 1; have : (0 : Int) ≤ gI s8 1060 ∧ gI s8 1060 ≤ 48 := hRs8.1 1060; have : (0 : Int) ≤ gI s 1060 ∧ gI s 1060 ≤ 48 := hRs.1 1060; omega) ((rfl).trans hv44_7) ((rfl).trans hv44_8) ((rfl).trans hv44_9) ((rfl).trans hv44_10) (by have : (0 : Int) ≤ gI s8 1060 ∧ gI s8 1060 ≤ 48 := hRs8.1 1060; have : (0 : Int) ≤ gI s 1060 ∧ gI s 1060 ≤ 48 := hRs.1 1060; omega)
          · skip
            refine wp_stn (fun s49 es49 => ?_)
            have hRs49 : Rg s49 := es49 ▸ Rg.uI hRs8 (by show (-1000000 : Int) ≤ x7 ∧ x7 ≤ 1000000; have : (0 : Int) ≤ gI s8 1060 ∧ gI s8 1060 ≤ 48 := hRs8.1 1060; have : (0 : Int) ≤ gI s 1060 ∧ gI s 1060 ≤ 48 := hRs.1 1060; omega)
            refine wp_rg (by have : (0 : Int) ≤ gI s8 1060 ∧ gI s8 1060 ≤ 48 := hRs8.1 1060; have : (0 : Int) ≤ gI s 1060 ∧ gI s 1060 ≤ 48 := hRs.1 1060; omega) ?_
            refine wp_if (fun c5 => ?_) (fun c5 => ?_)
            · skip
              unfold m_x1_take_J119
              refine wp_rg (by have : (0 : Int) ≤ gI s8 1060 ∧ gI s8 1060 ≤ 48 := hRs8.1 1060; have : (0 : Int) ≤ gI s 1060 ∧ gI s 1060 ≤ 48 := hRs.1 1060; omega) ?_
              refine wp_if (fun c6 => ?_) (fun c6 => ?_)
              · skip
                unfold m_x1_take_J133
                unfold m_x1_take_J140
                exact ih44 x3 x7 x7 x6 (x7 + 1) s49 hRs49 (by show x3 = p0; have : (0 : Int) ≤ gI s8 1060 ∧ gI s8 1060 ≤ 48 := hRs8.1 1060; have : (0 : Int) ≤ gI s 1060 ∧ gI s 1060 ≤ 48 := hRs.1 1060; omega) (by show x7 = -1 ∨ (0 ≤ x7 ∧ x7 < gI s 1060 ∧ gA s 54 x7.toNat = 0 ∧ gA s 55 x7.toNat = 0); have : (0 : Int) ≤ gI s8 1060 ∧ gI s8 1060 ≤ 48 := hRs8.1 1060; have : (0 : Int) ≤ gI s 1060 ∧ gI s 1060 ≤ 48 := hRs.1 1060; omega) (by show R2 x7; have : (0 : Int) ≤ gI s8 1060 ∧ gI s8 1060 ≤ 48 := hRs8.1 1060; have : (0 : Int) ≤ gI s 1060 ∧ gI s 1060 ≤ 48 := hRs.1 1060; omega) (by show x6 = 0 ∨ x6 = 1; have : (0 : Int) ≤ gI s8 1060 ∧ gI s8 1060 ≤ 48 := hRs8.1 1060; have : (0 : Int) ≤ gI s 1060 ∧ gI s 1060 ≤ 48 := hRs.1 1060; omega) (by show 0 ≤ (x7 + 1) ∧ (x7 + 1) ≤ 48; have : (0 : Int) ≤ gI s8 1060 ∧ gI s8 1060 ≤ 48 := hRs8.1 1060; have : (0 : Int) ≤ gI s 1060 ∧ gI s 1060 ≤ 48 := hRs.1 1060; omega) (by show gI s49 1060 = gI s 1060; have : (0 : Int) ≤ gI s8 1060 ∧ gI s8 1060 ≤ 48 := hRs8.1 1060; have : (0 : Int) ≤ gI s 1060 ∧ gI s 1060 ≤ 48 := hRs.1 1060; have : gI s49 1060 = gI s8 1060 := q_Ii es49 (by decide); omega) (by show x6 ≤ 1; have : (0 : Int) ≤ gI s8 1060 ∧ gI s8 1060 ≤ 48 := hRs8.1 1060; have : (0 : Int) ≤ gI s 1060 ∧ gI s 1060 ≤ 48 := hRs.1 1060; omega) (((q_Ia es49 : gA s49 54 = gA s8 54)).trans hv44_7) (((q_Ia es49 : gA s49 55 = gA s8 55)).trans hv44_8) (((q_Ia es49 : gA s49 56 = gA s8 56)).trans hv44_9) (((q_Ia es49 : gA s49 57 = gA s8 57)).trans hv44_10) (by have : (0 : Int) ≤ gI s8 1060 ∧ gI s8 1060 ≤ 48 := hRs8.1 1060; have : (0 : Int) ≤ gI s 1060 ∧ gI s 1060 ≤ 48 := hRs.1 1060; omega)
              · skip
                refine wp_rg (by have : (0 : Int) ≤ gI s8 1060 ∧ gI s8 1060 ≤ 48 := hRs8.1 1060; have : (0 : Int) ≤ gI s 1060 ∧ gI s 1060 ≤ 48 := hRs.1 1060; omega) ?_
                refine wp_rg (by have : (0 : Int) ≤ gI s8 1060 ∧ gI s8 1060 ≤ 48 := hRs8.1 1060; have : (0 : Int) ≤ gI s 1060 ∧ gI s 1060 ≤ 48 := hRs.1 1060; omega) ?_
                refine wp_if (fun c7 => ?_) (fun c7 => ?_)
                · skip
                  unfold m_x1_take_J140
                  exact ih44 x3 x4 x5 x6 (x7 + 1) s49 hRs49 (by show x3 = p0; have : (0 : Int) ≤ gI s8 1060 ∧ gI s8 1060 ≤ 48 := hRs8.1 1060; have : (0 : Int) ≤ gI s 1060 ∧ gI s 1060 ≤ 48 := hRs.1 1060; omega) (by show x4 = -1 ∨ (0 ≤ x4 ∧ x4 < gI s 1060 ∧ gA s 54 x4.toNat = 0 ∧ gA s 55 x4.toNat = 0); have : (0 : Int) ≤ gI s8 1060 ∧ gI s8 1060 ≤ 48 := hRs8.1 1060; have : (0 : Int) ≤ gI s 1060 ∧ gI s 1060 ≤ 48 := hRs.1 1060; omega) (by show R2 x5; have : (0 : Int) ≤ gI s8 1060 ∧ gI s8 1060 ≤ 48 := hRs8.1 1060; have : (0 : Int) ≤ gI s 1060 ∧ gI s 1060 ≤ 48 := hRs.1 1060; omega) (by show x6 = 0 ∨ x6 = 1; have : (0 : Int) ≤ gI s8 1060 ∧ gI s8 1060 ≤ 48 := hRs8.1 1060; have : (0 : Int) ≤ gI s 1060 ∧ gI s 1060 ≤ 48 := hRs.1 1060; omega) (by show 0 ≤ (x7 + 1) ∧ (x7 + 1) ≤ 48; have : (0 : Int) ≤ gI s8 1060 ∧ gI s8 1060 ≤ 48 := hRs8.1 1060; have : (0 : Int) ≤ gI s 1060 ∧ gI s 1060 ≤ 48 := hRs.1 1060; omega) (by show gI s49 1060 = gI s 1060; have : (0 : Int) ≤ gI s8 1060 ∧ gI s8 1060 ≤ 48 := hRs8.1 1060; have : (0 : Int) ≤ gI s 1060 ∧ gI s 1060 ≤ 48 := hRs.1 1060; have : gI s49 1060 = gI s8 1060 := q_Ii es49 (by decide); omega) (by show x6 ≤ 1; have : (0 : Int) ≤ gI s8 1060 ∧ gI s8 1060 ≤ 48 := hRs8.1 1060; have : (0 : Int) ≤ gI s 1060 ∧ gI s 1060 ≤ 48 := hRs.1 1060; omega) (((q_Ia es49 : gA s49 54 = gA s8 54)).trans hv44_7) (((q_Ia es49 : gA s49 55 = gA s8 55)).trans hv44_8) (((q_Ia es49 : gA s49 56 = gA s8 56)).trans hv44_9) (((q_Ia es49 : gA s49 57 = gA s8 57)).trans hv44_10) (by have : (0 : Int) ≤ gI s8 1060 ∧ gI s8 1060 ≤ 48 := hRs8.1 1060; have : (0 : Int) ≤ gI s 1060 ∧ gI s 1060 ≤ 48 := hRs.1 1060; omega)
                · skip
                  unfold m_x1_take_J133
                  unfold m_x1_take_J140
                  exact ih44 x3 x7 x7 x6 (x7 + 1) s49 hRs49 (by show x3 = p0; have : (0 : Int) ≤ gI s8 1060 ∧ gI s8 1060 ≤ 48 := hRs8.1 1060; have : (0 : Int) ≤ gI s 1060 ∧ gI s 1060 ≤ 48 := hRs.1 1060; omega) (by show x7 = -1 ∨ (0 ≤ x7 ∧ x7 < gI s 1060 ∧ gA s 54 x7.toNat = 0 ∧ gA s 55 x7.toNat = 0); have : (0 : Int) ≤ gI s8 1060 ∧ gI s8 1060 ≤ 48 := hRs8.1 1060; have : (0 : Int) ≤ gI s 1060 ∧ gI s 1060 ≤ 48 := hRs.1 1060; omega) (by show R2 x7; have : (0 : Int) ≤ gI s8 1060 ∧ gI s8 1060 ≤ 48 := hRs8.1 1060; have : (0 : Int) ≤ gI s 1060 ∧ gI s 1060 ≤ 48 := hRs.1 1060; omega) (by show x6 = 0 ∨ x6 = 1; have : (0 : Int) ≤ gI s8 1060 ∧ gI s8 1060 ≤ 48 := hRs8.1 1060; have : (0 : Int) ≤ gI s 1060 ∧ gI s 1060 ≤ 48 := hRs.1 1060; omega) (by show 0 ≤ (x7 + 1) ∧ (x7 + 1) ≤ 48; have : (0 : Int) ≤ gI s8 1060 ∧ gI s8 1060 ≤ 48 := hRs8.1 1060; have : (0 : Int) ≤ gI s 1060 ∧ gI s 1060 ≤ 48 := hRs.1 1060; omega) (by show gI s49 1060 = gI s 1060; have : (0 : Int) ≤ gI s8 1060 ∧ gI s8 1060 ≤ 48 := hRs8.1 1060; have : (0 : Int) ≤ gI s 1060 ∧ gI s 1060 ≤ 48 := hRs.1 1060; have : gI s49 1060 = gI s8 1060 := q_Ii es49 (by decide); omega) (by show x6 ≤ 1; have : (0 : Int) ≤ gI s8 1060 ∧ gI s8 1060 ≤ 48 := hRs8.1 1060; have : (0 : Int) ≤ gI s 1060 ∧ gI s 1060 ≤ 48 := hRs.1 1060; omega) (((q_Ia es49 : gA s49 54 = gA s8 54)).trans hv44_7) (((q_Ia es49 : gA s49 55 = gA s8 55)).trans hv44_8) (((q_Ia es49 : gA s49 56 = gA s8 56)).trans hv44_9) (((q_Ia es49 : gA s49 57 = gA s8 57)).trans hv44_10) (by have : (0 : Int) ≤ gI s8 1060 ∧ gI s8 1060 ≤ 48 := hRs8.1 1060; have : (0 : Int) ≤ gI s 1060 ∧ gI s 1060 ≤ 48 := hRs.1 1060; omega)
            · skip
              refine wp_rdIn (by have : (0 : Int) ≤ gI s8 1060 ∧ gI s8 1060 ≤ 48 := hRs8.1 1060; have : (0 : Int) ≤ gI s 1060 ∧ gI s 1060 ≤ 48 := hRs.1 1060; omega) (fun y52 ey52 => ?_)
              have by52 : (-2147483648 : Int) ≤ y52 ∧ y52 ≤ 2147483647 := ey52 ▸ hRs49.2.1 35 _ (by show _ < 3; have : (0 : Int) ≤ gI s8 1060 ∧ gI s8 1060 ≤ 48 := hRs8.1 1060; have : (0 : Int) ≤ gI s 1060 ∧ gI s 1060 ≤ 48 := hRs.1 1060; omega)
              refine wp_rdIn (by have : (0 : Int) ≤ gI s8 1060 ∧ gI s8 1060 ≤ 48 := hRs8.1 1060; have : (0 : Int) ≤ gI s 1060 ∧ gI s 1060 ≤ 48 := hRs.1 1060; omega) (fun y53 ey53 => ?_)
              have by53 : (-2147483648 : Int) ≤ y53 ∧ y53 ≤ 2147483647 := ey53 ▸ hRs49.2.1 36 _ (by show _ < 3; have : (0 : Int) ≤ gI s8 1060 ∧ gI s8 1060 ≤ 48 := hRs8.1 1060; have : (0 : Int) ≤ gI s 1060 ∧ gI s 1060 ≤ 48 := hRs.1 1060; omega)
              refine wp_bn (w_x3_value hRs49 (by show R2 y52; have : (0 : Int) ≤ gI s8 1060 ∧ gI s8 1060 ≤ 48 := hRs8.1 1060; have : (0 : Int) ≤ gI s 1060 ∧ gI s 1060 ≤ 48 := hRs.1 1060; omega) (by show R2 y53; have : (0 : Int) ≤ gI s8 1060 ∧ gI s8 1060 ≤ 48 := hRs8.1 1060; have : (0 : Int) ≤ gI s 1060 ∧ gI s 1060 ≤ 48 := hRs.1 1060; omega)) (fun qqr56 eqr56s hqr56s => ?_)
              obtain ⟨qr56r, qr56s⟩ := qqr56
              dsimp only at eqr56s hqr56s ⊢
              have Fqr56s := fr_x3_value eqr56s
              obtain ⟨hRqr56s, hqr56s_0⟩ := hqr56s
              have hqr56s_0 : (-1000000) ≤ qr56r ∧ qr56r ≤ 1000001 := hqr56s_0
              unfold m_x1_take_J119
              refine wp_rg (by have : (0 : Int) ≤ gI s8 1060 ∧ gI s8 1060 ≤ 48 := hRs8.1 1060; have : (0 : Int) ≤ gI s 1060 ∧ gI s 1060 ≤ 48 := hRs.1 1060; omega) ?_
              refine wp_if (fun c8 => ?_) (fun c8 => ?_)
              · skip
                unfold m_x1_take_J133
                unfold m_x1_take_J140
                exact ih44 x3 x7 qr56r x6 (x7 + 1) qr56s hRqr56s (by show x3 = p0; have : (0 : Int) ≤ gI s8 1060 ∧ gI s8 1060 ≤ 48 := hRs8.1 1060; have : (0 : Int) ≤ gI s 1060 ∧ gI s 1060 ≤ 48 := hRs.1 1060; omega) (by show x7 = -1 ∨ (0 ≤ x7 ∧ x7 < gI s 1060 ∧ gA s 54 x7.toNat = 0 ∧ gA s 55 x7.toNat = 0); have : (0 : Int) ≤ gI s8 1060 ∧ gI s8 1060 ≤ 48 := hRs8.1 1060; have : (0 : Int) ≤ gI s 1060 ∧ gI s 1060 ≤ 48 := hRs.1 1060; omega) (by show R2 qr56r; have : (0 : Int) ≤ gI s8 1060 ∧ gI s8 1060 ≤ 48 := hRs8.1 1060; have : (0 : Int) ≤ gI s 1060 ∧ gI s 1060 ≤ 48 := hRs.1 1060; omega) (by show x6 = 0 ∨ x6 = 1; have : (0 : Int) ≤ gI s8 1060 ∧ gI s8 1060 ≤ 48 := hRs8.1 1060; have : (0 : Int) ≤ gI s 1060 ∧ gI s 1060 ≤ 48 := hRs.1 1060; omega) (by show 0 ≤ (x7 + 1) ∧ (x7 + 1) ≤ 48; have : (0 : Int) ≤ gI s8 1060 ∧ gI s8 1060 ≤ 48 := hRs8.1 1060; have : (0 : Int) ≤ gI s 1060 ∧ gI s 1060 ≤ 48 := hRs.1 1060; omega) (by show gI qr56s 1060 = gI s 1060; have : (0 : Int) ≤ gI s8 1060 ∧ gI s8 1060 ≤ 48 := hRs8.1 1060; have : (0 : Int) ≤ gI s 1060 ∧ gI s 1060 ≤ 48 := hRs.1 1060; have : gI qr56s 1060 = gI s49 1060 := Fqr56s.1 1060 (by decide); have : gI s49 1060 = gI s8 1060 := q_Ii es49 (by decide); omega) (by show x6 ≤ 1; have : (0 : Int) ≤ gI s8 1060 ∧ gI s8 1060 ≤ 48 := hRs8.1 1060; have : (0 : Int) ≤ gI s 1060 ∧ gI s 1060 ≤ 48 := hRs.1 1060; omega) ((((Fqr56s.2.1 54 (by decide)).trans (q_Ia es49 : gA s49 54 = gA s8 54))).trans hv44_7) ((((Fqr56s.2.1 55 (by decide)).trans (q_Ia es49 : gA s49 55 = gA s8 55))).trans hv44_8) ((((Fqr56s.2.1 56 (by decide)).trans (q_Ia es49 : gA s49 56 = gA s8 56))).trans hv44_9) ((((Fqr56s.2.1 57 (by decide)).trans (q_Ia es49 : gA s49 57 = gA s8 57))).trans hv44_10) (by have : (0 : Int) ≤ gI s8 1060 ∧ gI s8 1060 ≤ 48 := hRs8.1 1060; have : (0 : Int) ≤ gI s 1060 ∧ gI s 1060 ≤ 48 := hRs.1 1060; omega)
              · skip
                refine wp_rg (by have : (0 : Int) ≤ gI s8 1060 ∧ gI s8 1060 ≤ 48 := hRs8.1 1060; have : (0 : Int) ≤ gI s 1060 ∧ gI s 1060 ≤ 48 := hRs.1 1060; omega) ?_
                refine wp_rg (by have : (0 : Int) ≤ gI s8 1060 ∧ gI s8 1060 ≤ 48 := hRs8.1 1060; have : (0 : Int) ≤ gI s 1060 ∧ gI s 1060 ≤ 48 := hRs.1 1060; omega) ?_
                refine wp_if (fun c9 => ?_) (fun c9 => ?_)
                · skip
                  unfold m_x1_take_J140
                  exact ih44 x3 x4 x5 x6 (x7 + 1) qr56s hRqr56s (by show x3 = p0; have : (0 : Int) ≤ gI s8 1060 ∧ gI s8 1060 ≤ 48 := hRs8.1 1060; have : (0 : Int) ≤ gI s 1060 ∧ gI s 1060 ≤ 48 := hRs.1 1060; omega) (by show x4 = -1 ∨ (0 ≤ x4 ∧ x4 < gI s 1060 ∧ gA s 54 x4.toNat = 0 ∧ gA s 55 x4.toNat = 0); have : (0 : Int) ≤ gI s8 1060 ∧ gI s8 1060 ≤ 48 := hRs8.1 1060; have : (0 : Int) ≤ gI s 1060 ∧ gI s 1060 ≤ 48 := hRs.1 1060; omega) (by show R2 x5; have : (0 : Int) ≤ gI s8 1060 ∧ gI s8 1060 ≤ 48 := hRs8.1 1060; have : (0 : Int) ≤ gI s 1060 ∧ gI s 1060 ≤ 48 := hRs.1 1060; omega) (by show x6 = 0 ∨ x6 = 1; have : (0 : Int) ≤ gI s8 1060 ∧ gI s8 1060 ≤ 48 := hRs8.1 1060; have : (0 : Int) ≤ gI s 1060 ∧ gI s 1060 ≤ 48 := hRs.1 1060; omega) (by show 0 ≤ (x7 + 1) ∧ (x7 + 1) ≤ 48; have : (0 : Int) ≤ gI s8 1060 ∧ gI s8 1060 ≤ 48 := hRs8.1 1060; have : (0 : Int) ≤ gI s 1060 ∧ gI s 1060 ≤ 48 := hRs.1 1060; omega) (by show gI qr56s 1060 = gI s 1060; have : (0 : Int) ≤ gI s8 1060 ∧ gI s8 1060 ≤ 48 := hRs8.1 1060; have : (0 : Int) ≤ gI s 1060 ∧ gI s 1060 ≤ 48 := hRs.1 1060; have : gI qr56s 1060 = gI s49 1060 := Fqr56s.1 1060 (by decide); have : gI s49 1060 = gI s8 1060 := q_Ii es49 (by decide); omega) (by show x6 ≤ 1; have : (0 : Int) ≤ gI s8 1060 ∧ gI s8 1060 ≤ 48 := hRs8.1 1060; have : (0 : Int) ≤ gI s 1060 ∧ gI s 1060 ≤ 48 := hRs.1 1060; omega) ((((Fqr56s.2.1 54 (by decide)).trans (q_Ia es49 : gA s49 54 = gA s8 54))).trans hv44_7) ((((Fqr56s.2.1 55 (by decide)).trans (q_Ia es49 : gA s49 55 = gA s8 55))).trans hv44_8) ((((Fqr56s.2.1 56 (by decide)).trans (q_Ia es49 : gA s49 56 = gA s8 56))).trans hv44_9) ((((Fqr56s.2.1 57 (by decide)).trans (q_Ia es49 : gA s49 57 = gA s8 57))).trans hv44_10) (by have : (0 : Int) ≤ gI s8 1060 ∧ gI s8 1060 ≤ 48 := hRs8.1 1060; have : (0 : Int) ≤ gI s 1060 ∧ gI s 1060 ≤ 48 := hRs.1 1060; omega)
                · skip
                  unfold m_x1_take_J133
                  unfold m_x1_take_J140
                  exact ih44 x3 x7 qr56r x6 (x7 + 1) qr56s hRqr56s (by show x3 = p0; have : (0 : Int) ≤ gI s8 1060 ∧ gI s8 1060 ≤ 48 := hRs8.1 1060; have : (0 : Int) ≤ gI s 1060 ∧ gI s 1060 ≤ 48 := hRs.1 1060; omega) (by show x7 = -1 ∨ (0 ≤ x7 ∧ x7 < gI s 1060 ∧ gA s 54 x7.toNat = 0 ∧ gA s 55 x7.toNat = 0); have : (0 : Int) ≤ gI s8 1060 ∧ gI s8 1060 ≤ 48 := hRs8.1 1060; have : (0 : Int) ≤ gI s 1060 ∧ gI s 1060 ≤ 48 := hRs.1 1060; omega) (by show R2 qr56r; have : (0 : Int) ≤ gI s8 1060 ∧ gI s8 1060 ≤ 48 := hRs8.1 1060; have : (0 : Int) ≤ gI s 1060 ∧ gI s 1060 ≤ 48 := hRs.1 1060; omega) (by show x6 = 0 ∨ x6 = 1; have : (0 : Int) ≤ gI s8 1060 ∧ gI s8 1060 ≤ 48 := hRs8.1 1060; have : (0 : Int) ≤ gI s 1060 ∧ gI s 1060 ≤ 48 := hRs.1 1060; omega) (by show 0 ≤ (x7 + 1) ∧ (x7 + 1) ≤ 48; have : (0 : Int) ≤ gI s8 1060 ∧ gI s8 1060 ≤ 48 := hRs8.1 1060; have : (0 : Int) ≤ gI s 1060 ∧ gI s 1060 ≤ 48 := hRs.1 1060; omega) (by show gI qr56s 1060 = gI s 1060; have : (0 : Int) ≤ gI s8 1060 ∧ gI s8 1060 ≤ 48 := hRs8.1 1060; have : (0 : Int) ≤ gI s 1060 ∧ gI s 1060 ≤ 48 := hRs.1 1060; have : gI qr56s 1060 = gI s49 1060 := Fqr56s.1 1060 (by decide); have : gI s49 1060 = gI s8 1060 := q_Ii es49 (by decide); omega) (by show x6 ≤ 1; have : (0 : Int) ≤ gI s8 1060 ∧ gI s8 1060 ≤ 48 := hRs8.1 1060; have : (0 : Int) ≤ gI s 1060 ∧ gI s 1060 ≤ 48 := hRs.1 1060; omega) ((((Fqr56s.2.1 54 (by decide)).trans (q_Ia es49 : gA s49 54 = gA s8 54))).trans hv44_7) ((((Fqr56s.2.1 55 (by decide)).trans (q_Ia es49 : gA s49 55 = gA s8 55))).trans hv44_8) ((((Fqr56s.2.1 56 (by decide)).trans (q_Ia es49 : gA s49 56 = gA s8 56))).trans hv44_9) ((((Fqr56s.2.1 57 (by decide)).trans (q_Ia es49 : gA s49 57 = gA s8 57))).trans hv44_10) (by have : (0 : Int) ≤ gI s8 1060 ∧ gI s8 1060 ≤ 48 := hRs8.1 1060; have : (0 : Int) ≤ gI s 1060 ∧ gI s 1060 ≤ 48 := hRs.1 1060; omega)
    exact L44 FU p0 (-1) 0 0 0 s64 hRs64 (by show p0 = p0; omega) (by show (-1 : Int) = -1 ∨ (0 ≤ (-1 : Int) ∧ (-1 : Int) < gI s 1060 ∧ gA s 54 (-1 : Int).toNat = 0 ∧ gA s 55 (-1 : Int).toNat = 0); have : (0 : Int) ≤ gI s 1060 ∧ gI s 1060 ≤ 48 := hRs.1 1060; omega) (by show R2 (0 : Int); omega) (by show (0 : Int) = 0 ∨ (0 : Int) = 1; omega) (by show 0 ≤ (0 : Int) ∧ (0 : Int) ≤ 48; omega) (by show gI s64 1060 = gI s 1060; have : (0 : Int) ≤ gI s 1060 ∧ gI s 1060 ≤ 48 := hRs.1 1060; have : gI s64 1060 = gI s63 1060 := q_Ii es64 (by decide); have : gI s63 1060 = gI s 1060 := q_Ii es63 (by decide); omega) (by show (0 : Int) ≤ 1; omega) (((q_Ia es64 : gA s64 54 = gA s63 54).trans (q_Ia es63 : gA s63 54 = gA s 54))) (((q_Ia es64 : gA s64 55 = gA s63 55).trans (q_Ia es63 : gA s63 55 = gA s 55))) (((q_Ia es64 : gA s64 56 = gA s63 56).trans (q_Ia es63 : gA s63 56 = gA s 56))) (((q_Ia es64 : gA s64 57 = gA s63 57).trans (q_Ia es63 : gA s63 57 = gA s 57))) (by have := FU_big; have := FU_big2; omega)
  · skip
    unfold m_x1_take_J23
    refine wp_stn (fun s63 es63 => ?_)
    have hRs63 : Rg s63 := es63 ▸ Rg.uI hRs (by show (-1000000 : Int) ≤ p0 ∧ p0 ≤ 1000000; omega)
    refine wp_stn (fun s64 es64 => ?_)
    have hRs64 : Rg s64 := es64 ▸ Rg.uI hRs63 (by show (-1000000 : Int) ≤ p1 ∧ p1 ≤ 1000000; omega)
    have L44 : ∀ (n : Nat) (x3 : Int) (x4 : Int) (x5 : Int) (x6 : Int) (x7 : Int) (s8 : MS), Rg s8 → (x3 = p0) → (x4 = -1 ∨ (0 ≤ x4 ∧ x4 < gI s 1060 ∧ gA s 54 x4.toNat = 0 ∧ gA s 55 x4.toNat = 0)) → (R2 x5) → (x6 = 0 ∨ x6 = 1) → (0 ≤ x7 ∧ x7 ≤ 48) → (gI s8 1060 = gI s 1060) → (x6 ≤ 1) → (gA s8 54 = gA s 54) → (gA s8 55 = gA s 55) → (gA s8 56 = gA s 56) → (gA s8 57 = gA s 57) → (48 - x7) < (n : Int) → wp (m_x1_take_L44 n x3 x4 x5 x6 x7 s8) (fun q => (Rg q.2) ∧ (q.1 = -1 ∨ (0 ≤ q.1 ∧ q.1 < gI s 1060 ∧ gA s 54 q.1.toNat = 0 ∧ gA s 55 q.1.toNat = 0)) ∧ (q.1 ≠ -1 → gA q.2 54 = upZ (gA s 54) q.1.toNat 1 ∧ gA q.2 56 = upZ (gA s 56) q.1.toNat p0 ∧ gA q.2 57 = upZ (gA s 57) q.1.toNat 0)) := by
      refine fr_ind (fun x3 x4 x5 x6 x7 s8 hRs8 hv44_0 hv44_1 hv44_2 hv44_3 hv44_4 hv44_5 hv44_6 hv44_7 hv44_8 hv44_9 hv44_10 hm44 => ?_) (fun n44 ih44 x3 x4 x5 x6 x7 s8 hRs8 hv44_0 hv44_1 hv44_2 hv44_3 hv44_4 hv44_5 hv44_6 hv44_7 hv44_8 hv44_9 hv44_10 hm44 => ?_)
      · exfalso; have : (0 : Int) ≤ gI s8 1060 ∧ gI s8 1060 ≤ 48 := hRs8.1 1060; have : (0 : Int) ≤ gI s 1060 ∧ gI s 1060 ≤ 48 := hRs.1 1060; omega
      · show wp (m_x1_take_b44 (m_x1_take_L44 n44) x3 x4 x5 x6 x7 s8) _
        unfold m_x1_take_b44
        refine wp_rg (by have : (0 : Int) ≤ gI s8 1060 ∧ gI s8 1060 ≤ 48 := hRs8.1 1060; have : (0 : Int) ≤ gI s 1060 ∧ gI s 1060 ≤ 48 := hRs.1 1060; omega) ?_
        refine wp_rg (by have : (0 : Int) ≤ gI s 1060 ∧ gI s 1060 ≤ 48 := hRs.1 1060; have : (0 : Int) ≤ gI s8 1060 ∧ gI s8 1060 ≤ 48 := hRs8.1 1060; omega) ?_
        refine wp_if (fun c10 => ?_) (fun c10 => ?_)
        · skip
          refine wp_rg (by have : (0 : Int) ≤ gI s8 1060 ∧ gI s8 1060 ≤ 48 := hRs8.1 1060; have : (0 : Int) ≤ gI s 1060 ∧ gI s 1060 ≤ 48 := hRs.1 1060; omega) ?_
          refine wp_if (fun c11 => ?_) (fun c11 => ?_)
          · skip
            unfold m_x1_take_J189
            exact wp_some ⟨hRs8, by show x4 = -1 ∨ (0 ≤ x4 ∧ x4 < gI s 1060 ∧ gA s 54 x4.toNat = 0 ∧ gA s 55 x4.toNat = 0); have : (0 : Int) ≤ gI s8 1060 ∧ gI s8 1060 ≤ 48 := hRs8.1 1060; have : (0 : Int) ≤ gI s 1060 ∧ gI s 1060 ≤ 48 := hRs.1 1060; omega, fun h9 => by exfalso; omega⟩
          · skip
            refine wp_inb (by have : (0 : Int) ≤ gI s8 1060 ∧ gI s8 1060 ≤ 48 := hRs8.1 1060; have : (0 : Int) ≤ gI s 1060 ∧ gI s 1060 ≤ 48 := hRs.1 1060; omega) ?_
            refine wp_stn (fun s38 es38 => ?_)
            have hRs38 : Rg s38 := es38 ▸ Rg.uAu hRs8 (by show (-1 : Int) ≤ (1 : Int) ∧ (1 : Int) ≤ 100000; have : (0 : Int) ≤ gI s8 1060 ∧ gI s8 1060 ≤ 48 := hRs8.1 1060; have : (0 : Int) ≤ gI s 1060 ∧ gI s 1060 ≤ 48 := hRs.1 1060; have := hRs8.2.1 54; omega)
            refine wp_inb (by have : (0 : Int) ≤ gI s8 1060 ∧ gI s8 1060 ≤ 48 := hRs8.1 1060; have : (0 : Int) ≤ gI s 1060 ∧ gI s 1060 ≤ 48 := hRs.1 1060; omega) ?_
            refine wp_stn (fun s40 es40 => ?_)
            have hRs40 : Rg s40 := es40 ▸ Rg.uAu hRs38 (by show (-1 : Int) ≤ x3 ∧ x3 ≤ 1000; have : (0 : Int) ≤ gI s8 1060 ∧ gI s8 1060 ≤ 48 := hRs8.1 1060; have : (0 : Int) ≤ gI s 1060 ∧ gI s 1060 ≤ 48 := hRs.1 1060; omega)
            refine wp_inb (by have : (0 : Int) ≤ gI s8 1060 ∧ gI s8 1060 ≤ 48 := hRs8.1 1060; have : (0 : Int) ≤ gI s 1060 ∧ gI s 1060 ≤ 48 := hRs.1 1060; omega) ?_
            refine wp_stn (fun s42 es42 => ?_)
            have hRs42 : Rg s42 := es42 ▸ Rg.uAu hRs40 (by show (-1 : Int) ≤ (0 : Int) ∧ (0 : Int) ≤ 255; have : (0 : Int) ≤ gI s8 1060 ∧ gI s8 1060 ≤ 48 := hRs8.1 1060; have : (0 : Int) ≤ gI s 1060 ∧ gI s 1060 ≤ 48 := hRs.1 1060; omega)
            refine wp_bn (w_x8_mark hRs42 (by show R2 x4; have : (0 : Int) ≤ gI s8 1060 ∧ gI s8 1060 ≤ 48 := hRs8.1 1060; have : (0 : Int) ≤ gI s 1060 ∧ gI s 1060 ≤ 48 := hRs.1 1060; omega)) (fun s44 es44 hs44 => ?_)
            have Fs44 := fr_x8_mark es44
            have hRs44 := hs44
            unfold m_x1_take_J189
            exact wp_some ⟨hRs44, by show x4 = -1 ∨ (0 ≤ x4 ∧ x4 < gI s 1060 ∧ gA s 54 x4.toNat = 0 ∧ gA s 55 x4.toNat = 0); have : (0 : Int) ≤ gI s8 1060 ∧ gI s8 1060 ≤ 48 := hRs8.1 1060; have : (0 : Int) ≤ gI s 1060 ∧ gI s 1060 ≤ 48 := hRs.1 1060; omega, fun h9 => ⟨by rw [((Fs44.2.1 54 (by decide)).trans ((q_Aa es42 (by decide) : gA s42 54 = gA s40 54).trans (q_Aa es40 (by decide) : gA s40 54 = gA s38 54))), q_AA es38, hv44_7], by rw [((Fs44.2.1 56 (by decide)).trans (q_Aa es42 (by decide) : gA s42 56 = gA s40 56)), q_AA es40, (q_Aa es38 (by decide) : gA s38 56 = gA s8 56), hv44_9, hv44_0], by rw [(Fs44.2.1 57 (by decide)), q_AA es42, ((q_Aa es40 (by decide) : gA s40 57 = gA s38 57).trans (q_Aa es38 (by decide) : gA s38 57 = gA s8 57)), hv44_10]⟩⟩
        · skip
          refine wp_bn (w_x8_isFree hRs8 (by show R2 x7; have : (0 : Int) ≤ gI s8 1060 ∧ gI s8 1060 ≤ 48 := hRs8.1 1060; have : (0 : Int) ≤ gI s 1060 ∧ gI s 1060 ≤ 48 := hRs.1 1060; omega)) (fun r46 er46 hr46 => ?_)
          have hr46_0 := hr46
          have hr46_0 : (r46 = 1 ∧ 0 ≤ x7 ∧ x7 < gI s8 1060 ∧ gA s8 54 x7.toNat = 0 ∧ gA s8 55 x7.toNat = 0) ∨ (r46 = 0 ∧ (x7 < 0 ∨ gI s8 1060 ≤ x7 ∨ ¬ (gA s8 54 x7.toNat = 0 ∧ gA s8 55 x7.toNat = 0))) := hr46_0
          rw [hv44_7, hv44_8] at hr46_0
          refine wp_rg (by have : (0 : Int) ≤ gI s8 1060 ∧ gI s8 1060 ≤ 48 := hRs8.1 1060; have : (0 : Int) ≤ gI s 1060 ∧ gI s 1060 ≤ 48 := hRs.1 1060; omega) ?_
          refine wp_if (fun c12 => ?_) (fun c12 => ?_)
          · skip
            unfold m_x1_take_J140
            exact ih44 x3 x4 x5 x6 (x7 + 1) s8 hRs8 (by show x3 = p0; have : (0 : Int) ≤ gI s8 1060 ∧ gI s8 1060 ≤ 48 := hRs8.1 1060; have : (0 : Int) ≤ gI s 1060 ∧ gI s 1060 ≤ 48 := hRs.1 1060; omega) (by show x4 = -1 ∨ (0 ≤ x4 ∧ x4 < gI s 1060 ∧ gA s 54 x4.toNat = 0 ∧ gA s 55 x4.toNat = 0); have : (0 : Int) ≤ gI s8 1060 ∧ gI s8 1060 ≤ 48 := hRs8.1 1060; have : (0 : Int) ≤ gI s 1060 ∧ gI s 1060 ≤ 48 := hRs.1 1060; omega) (by show R2 x5; have : (0 : Int) ≤ gI s8 1060 ∧ gI s8 1060 ≤ 48 := hRs8.1 1060; have : (0 : Int) ≤ gI s 1060 ∧ gI s 1060 ≤ 48 := hRs.1 1060; omega) (by show x6 = 0 ∨ x6 = 1; have : (0 : Int) ≤ gI s8 1060 ∧ gI s8 1060 ≤ 48 := hRs8.1 1060; have : (0 : Int) ≤ gI s 1060 ∧ gI s 1060 ≤ 48 := hRs.1 1060; omega) (by show 0 ≤ (x7 + 1) ∧ (x7 + 1) ≤ 48; have : (0 : Int) ≤ gI s8 1060 ∧ gI s8 1060 ≤ 48 := hRs8.1 1060; have : (0 : Int) ≤ gI s 1060 ∧ gI s 1060 ≤ 48 := hRs.1 1060; omega) (by show gI s8 1060 = gI s 1060; have : (0 : Int) ≤ gI s 1060 ∧ gI s 1060 ≤ 48 := hRs.1 1060; have : (0 : Int) ≤ gI s8 1060 ∧ gI s8 1060 ≤ 48 := hRs8.1 1060; omega) (by show x6 ≤ 1; have : (0 : Int) ≤ gI s8 1060 ∧ gI s8 1060 ≤ 48 := hRs8.1 1060; have : (0 : Int) ≤ gI s 1060 ∧ gI s 1060 ≤ 48 := hRs.1 1060; omega) ((rfl).trans hv44_7) ((rfl).trans hv44_8) ((rfl).trans hv44_9) ((rfl).trans hv44_10) (by have : (0 : Int) ≤ gI s8 1060 ∧ gI s8 1060 ≤ 48 := hRs8.1 1060; have : (0 : Int) ≤ gI s 1060 ∧ gI s 1060 ≤ 48 := hRs.1 1060; omega)
          · skip
            refine wp_stn (fun s49 es49 => ?_)
            have hRs49 : Rg s49 := es49 ▸ Rg.uI hRs8 (by show (-1000000 : Int) ≤ x7 ∧ x7 ≤ 1000000; have : (0 : Int) ≤ gI s8 1060 ∧ gI s8 1060 ≤ 48 := hRs8.1 1060; have : (0 : Int) ≤ gI s 1060 ∧ gI s 1060 ≤ 48 := hRs.1 1060; omega)
            refine wp_rg (by have : (0 : Int) ≤ gI s8 1060 ∧ gI s8 1060 ≤ 48 := hRs8.1 1060; have : (0 : Int) ≤ gI s 1060 ∧ gI s 1060 ≤ 48 := hRs.1 1060; omega) ?_
            refine wp_if (fun c13 => ?_) (fun c13 => ?_)
            · skip
              unfold m_x1_take_J119
              refine wp_rg (by have : (0 : Int) ≤ gI s8 1060 ∧ gI s8 1060 ≤ 48 := hRs8.1 1060; have : (0 : Int) ≤ gI s 1060 ∧ gI s 1060 ≤ 48 := hRs.1 1060; omega) ?_
              refine wp_if (fun c14 => ?_) (fun c14 => ?_)
              · skip
                unfold m_x1_take_J133
                unfold m_x1_take_J140
                exact ih44 x3 x7 x7 x6 (x7 + 1) s49 hRs49 (by show x3 = p0; have : (0 : Int) ≤ gI s8 1060 ∧ gI s8 1060 ≤ 48 := hRs8.1 1060; have : (0 : Int) ≤ gI s 1060 ∧ gI s 1060 ≤ 48 := hRs.1 1060; omega) (by show x7 = -1 ∨ (0 ≤ x7 ∧ x7 < gI s 1060 ∧ gA s 54 x7.toNat = 0 ∧ gA s 55 x7.toNat = 0); have : (0 : Int) ≤ gI s8 1060 ∧ gI s8 1060 ≤ 48 := hRs8.1 1060; have : (0 : Int) ≤ gI s 1060 ∧ gI s 1060 ≤ 48 := hRs.1 1060; omega) (by show R2 x7; have : (0 : Int) ≤ gI s8 1060 ∧ gI s8 1060 ≤ 48 := hRs8.1 1060; have : (0 : Int) ≤ gI s 1060 ∧ gI s 1060 ≤ 48 := hRs.1 1060; omega) (by show x6 = 0 ∨ x6 = 1; have : (0 : Int) ≤ gI s8 1060 ∧ gI s8 1060 ≤ 48 := hRs8.1 1060; have : (0 : Int) ≤ gI s 1060 ∧ gI s 1060 ≤ 48 := hRs.1 1060; omega) (by show 0 ≤ (x7 + 1) ∧ (x7 + 1) ≤ 48; have : (0 : Int) ≤ gI s8 1060 ∧ gI s8 1060 ≤ 48 := hRs8.1 1060; have : (0 : Int) ≤ gI s 1060 ∧ gI s 1060 ≤ 48 := hRs.1 1060; omega) (by show gI s49 1060 = gI s 1060; have : (0 : Int) ≤ gI s8 1060 ∧ gI s8 1060 ≤ 48 := hRs8.1 1060; have : (0 : Int) ≤ gI s 1060 ∧ gI s 1060 ≤ 48 := hRs.1 1060; have : gI s49 1060 = gI s8 1060 := q_Ii es49 (by decide); omega) (by show x6 ≤ 1; have : (0 : Int) ≤ gI s8 1060 ∧ gI s8 1060 ≤ 48 := hRs8.1 1060; have : (0 : Int) ≤ gI s 1060 ∧ gI s 1060 ≤ 48 := hRs.1 1060; omega) (((q_Ia es49 : gA s49 54 = gA s8 54)).trans hv44_7) (((q_Ia es49 : gA s49 55 = gA s8 55)).trans hv44_8) (((q_Ia es49 : gA s49 56 = gA s8 56)).trans hv44_9) (((q_Ia es49 : gA s49 57 = gA s8 57)).trans hv44_10) (by have : (0 : Int) ≤ gI s8 1060 ∧ gI s8 1060 ≤ 48 := hRs8.1 1060; have : (0 : Int) ≤ gI s 1060 ∧ gI s 1060 ≤ 48 := hRs.1 1060; omega)
              · skip
                refine wp_rg (by have : (0 : Int) ≤ gI s8 1060 ∧ gI s8 1060 ≤ 48 := hRs8.1 1060; have : (0 : Int) ≤ gI s 1060 ∧ gI s 1060 ≤ 48 := hRs.1 1060; omega) ?_
                refine wp_rg (by have : (0 : Int) ≤ gI s8 1060 ∧ gI s8 1060 ≤ 48 := hRs8.1 1060; have : (0 : Int) ≤ gI s 1060 ∧ gI s 1060 ≤ 48 := hRs.1 1060; omega) ?_
                refine wp_if (fun c15 => ?_) (fun c15 => ?_)
                · skip
                  unfold m_x1_take_J140
                  exact ih44 x3 x4 x5 x6 (x7 + 1) s49 hRs49 (by show x3 = p0; have : (0 : Int) ≤ gI s8 1060 ∧ gI s8 1060 ≤ 48 := hRs8.1 1060; have : (0 : Int) ≤ gI s 1060 ∧ gI s 1060 ≤ 48 := hRs.1 1060; omega) (by show x4 = -1 ∨ (0 ≤ x4 ∧ x4 < gI s 1060 ∧ gA s 54 x4.toNat = 0 ∧ gA s 55 x4.toNat = 0); have : (0 : Int) ≤ gI s8 1060 ∧ gI s8 1060 ≤ 48 := hRs8.1 1060; have : (0 : Int) ≤ gI s 1060 ∧ gI s 1060 ≤ 48 := hRs.1 1060; omega) (by show R2 x5; have : (0 : Int) ≤ gI s8 1060 ∧ gI s8 1060 ≤ 48 := hRs8.1 1060; have : (0 : Int) ≤ gI s 1060 ∧ gI s 1060 ≤ 48 := hRs.1 1060; omega) (by show x6 = 0 ∨ x6 = 1; have : (0 : Int) ≤ gI s8 1060 ∧ gI s8 1060 ≤ 48 := hRs8.1 1060; have : (0 : Int) ≤ gI s 1060 ∧ gI s 1060 ≤ 48 := hRs.1 1060; omega) (by show 0 ≤ (x7 + 1) ∧ (x7 + 1) ≤ 48; have : (0 : Int) ≤ gI s8 1060 ∧ gI s8 1060 ≤ 48 := hRs8.1 1060; have : (0 : Int) ≤ gI s 1060 ∧ gI s 1060 ≤ 48 := hRs.1 1060; omega) (by show gI s49 1060 = gI s 1060; have : (0 : Int) ≤ gI s8 1060 ∧ gI s8 1060 ≤ 48 := hRs8.1 1060; have : (0 : Int) ≤ gI s 1060 ∧ gI s 1060 ≤ 48 := hRs.1 1060; have : gI s49 1060 = gI s8 1060 := q_Ii es49 (by decide); omega) (by show x6 ≤ 1; have : (0 : Int) ≤ gI s8 1060 ∧ gI s8 1060 ≤ 48 := hRs8.1 1060; have : (0 : Int) ≤ gI s 1060 ∧ gI s 1060 ≤ 48 := hRs.1 1060; omega) (((q_Ia es49 : gA s49 54 = gA s8 54)).trans hv44_7) (((q_Ia es49 : gA s49 55 = gA s8 55)).trans hv44_8) (((q_Ia es49 : gA s49 56 = gA s8 56)).trans hv44_9) (((q_Ia es49 : gA s49 57 = gA s8 57)).trans hv44_10) (by have : (0 : Int) ≤ gI s8 1060 ∧ gI s8 1060 ≤ 48 := hRs8.1 1060; have : (0 : Int) ≤ gI s 1060 ∧ gI s 1060 ≤ 48 := hRs.1 1060; omega)
                · skip
                  unfold m_x1_take_J133
                  unfold m_x1_take_J140
                  exact ih44 x3 x7 x7 x6 (x7 + 1) s49 hRs49 (by show x3 = p0; have : (0 : Int) ≤ gI s8 1060 ∧ gI s8 1060 ≤ 48 := hRs8.1 1060; have : (0 : Int) ≤ gI s 1060 ∧ gI s 1060 ≤ 48 := hRs.1 1060; omega) (by show x7 = -1 ∨ (0 ≤ x7 ∧ x7 < gI s 1060 ∧ gA s 54 x7.toNat = 0 ∧ gA s 55 x7.toNat = 0); have : (0 : Int) ≤ gI s8 1060 ∧ gI s8 1060 ≤ 48 := hRs8.1 1060; have : (0 : Int) ≤ gI s 1060 ∧ gI s 1060 ≤ 48 := hRs.1 1060; omega) (by show R2 x7; have : (0 : Int) ≤ gI s8 1060 ∧ gI s8 1060 ≤ 48 := hRs8.1 1060; have : (0 : Int) ≤ gI s 1060 ∧ gI s 1060 ≤ 48 := hRs.1 1060; omega) (by show x6 = 0 ∨ x6 = 1; have : (0 : Int) ≤ gI s8 1060 ∧ gI s8 1060 ≤ 48 := hRs8.1 1060; have : (0 : Int) ≤ gI s 1060 ∧ gI s 1060 ≤ 48 := hRs.1 1060; omega) (by show 0 ≤ (x7 + 1) ∧ (x7 + 1) ≤ 48; have : (0 : Int) ≤ gI s8 1060 ∧ gI s8 1060 ≤ 48 := hRs8.1 1060; have : (0 : Int) ≤ gI s 1060 ∧ gI s 1060 ≤ 48 := hRs.1 1060; omega) (by show gI s49 1060 = gI s 1060; have : (0 : Int) ≤ gI s8 1060 ∧ gI s8 1060 ≤ 48 := hRs8.1 1060; have : (0 : Int) ≤ gI s 1060 ∧ gI s 1060 ≤ 48 := hRs.1 1060; have : gI s49 1060 = gI s8 1060 := q_Ii es49 (by decide); omega) (by show x6 ≤ 1; have : (0 : Int) ≤ gI s8 1060 ∧ gI s8 1060 ≤ 48 := hRs8.1 1060; have : (0 : Int) ≤ gI s 1060 ∧ gI s 1060 ≤ 48 := hRs.1 1060; omega) (((q_Ia es49 : gA s49 54 = gA s8 54)).trans hv44_7) (((q_Ia es49 : gA s49 55 = gA s8 55)).trans hv44_8) (((q_Ia es49 : gA s49 56 = gA s8 56)).trans hv44_9) (((q_Ia es49 : gA s49 57 = gA s8 57)).trans hv44_10) (by have : (0 : Int) ≤ gI s8 1060 ∧ gI s8 1060 ≤ 48 := hRs8.1 1060; have : (0 : Int) ≤ gI s 1060 ∧ gI s 1060 ≤ 48 := hRs.1 1060; omega)
            · skip
              refine wp_rdIn (by have : (0 : Int) ≤ gI s8 1060 ∧ gI s8 1060 ≤ 48 := hRs8.1 1060; have : (0 : Int) ≤ gI s 1060 ∧ gI s 1060 ≤ 48 := hRs.1 1060; omega) (fun y52 ey52 => ?_)
              have by52 : (-2147483648 : Int) ≤ y52 ∧ y52 ≤ 2147483647 := ey52 ▸ hRs49.2.1 35 _ (by show _ < 3; have : (0 : Int) ≤ gI s8 1060 ∧ gI s8 1060 ≤ 48 := hRs8.1 1060; have : (0 : Int) ≤ gI s 1060 ∧ gI s 1060 ≤ 48 := hRs.1 1060; omega)
              refine wp_rdIn (by have : (0 : Int) ≤ gI s8 1060 ∧ gI s8 1060 ≤ 48 := hRs8.1 1060; have : (0 : Int) ≤ gI s 1060 ∧ gI s 1060 ≤ 48 := hRs.1 1060; omega) (fun y53 ey53 => ?_)
              have by53 : (-2147483648 : Int) ≤ y53 ∧ y53 ≤ 2147483647 := ey53 ▸ hRs49.2.1 36 _ (by show _ < 3; have : (0 : Int) ≤ gI s8 1060 ∧ gI s8 1060 ≤ 48 := hRs8.1 1060; have : (0 : Int) ≤ gI s 1060 ∧ gI s 1060 ≤ 48 := hRs.1 1060; omega)
              refine wp_bn (w_x3_value hRs49 (by show R2 y52; have : (0 : Int) ≤ gI s8 1060 ∧ gI s8 1060 ≤ 48 := hRs8.1 1060; have : (0 : Int) ≤ gI s 1060 ∧ gI s 1060 ≤ 48 := hRs.1 1060; omega) (by show R2 y53; have : (0 : Int) ≤ gI s8 1060 ∧ gI s8 1060 ≤ 48 := hRs8.1 1060; have : (0 : Int) ≤ gI s 1060 ∧ gI s 1060 ≤ 48 := hRs.1 1060; omega)) (fun qqr56 eqr56s hqr56s => ?_)
              obtain ⟨qr56r, qr56s⟩ := qqr56
              dsimp only at eqr56s hqr56s ⊢
              have Fqr56s := fr_x3_value eqr56s
              obtain ⟨hRqr56s, hqr56s_0⟩ := hqr56s
              have hqr56s_0 : (-1000000) ≤ qr56r ∧ qr56r ≤ 1000001 := hqr56s_0
              unfold m_x1_take_J119
              refine wp_rg (by have : (0 : Int) ≤ gI s8 1060 ∧ gI s8 1060 ≤ 48 := hRs8.1 1060; have : (0 : Int) ≤ gI s 1060 ∧ gI s 1060 ≤ 48 := hRs.1 1060; omega) ?_
              refine wp_if (fun c16 => ?_) (fun c16 => ?_)
              · skip
                unfold m_x1_take_J133
                unfold m_x1_take_J140
                exact ih44 x3 x7 qr56r x6 (x7 + 1) qr56s hRqr56s (by show x3 = p0; have : (0 : Int) ≤ gI s8 1060 ∧ gI s8 1060 ≤ 48 := hRs8.1 1060; have : (0 : Int) ≤ gI s 1060 ∧ gI s 1060 ≤ 48 := hRs.1 1060; omega) (by show x7 = -1 ∨ (0 ≤ x7 ∧ x7 < gI s 1060 ∧ gA s 54 x7.toNat = 0 ∧ gA s 55 x7.toNat = 0); have : (0 : Int) ≤ gI s8 1060 ∧ gI s8 1060 ≤ 48 := hRs8.1 1060; have : (0 : Int) ≤ gI s 1060 ∧ gI s 1060 ≤ 48 := hRs.1 1060; omega) (by show R2 qr56r; have : (0 : Int) ≤ gI s8 1060 ∧ gI s8 1060 ≤ 48 := hRs8.1 1060; have : (0 : Int) ≤ gI s 1060 ∧ gI s 1060 ≤ 48 := hRs.1 1060; omega) (by show x6 = 0 ∨ x6 = 1; have : (0 : Int) ≤ gI s8 1060 ∧ gI s8 1060 ≤ 48 := hRs8.1 1060; have : (0 : Int) ≤ gI s 1060 ∧ gI s 1060 ≤ 48 := hRs.1 1060; omega) (by show 0 ≤ (x7 + 1) ∧ (x7 + 1) ≤ 48; have : (0 : Int) ≤ gI s8 1060 ∧ gI s8 1060 ≤ 48 := hRs8.1 1060; have : (0 : Int) ≤ gI s 1060 ∧ gI s 1060 ≤ 48 := hRs.1 1060; omega) (by show gI qr56s 1060 = gI s 1060; have : (0 : Int) ≤ gI s8 1060 ∧ gI s8 1060 ≤ 48 := hRs8.1 1060; have : (0 : Int) ≤ gI s 1060 ∧ gI s 1060 ≤ 48 := hRs.1 1060; have : gI qr56s 1060 = gI s49 1060 := Fqr56s.1 1060 (by decide); have : gI s49 1060 = gI s8 1060 := q_Ii es49 (by decide); omega) (by show x6 ≤ 1; have : (0 : Int) ≤ gI s8 1060 ∧ gI s8 1060 ≤ 48 := hRs8.1 1060; have : (0 : Int) ≤ gI s 1060 ∧ gI s 1060 ≤ 48 := hRs.1 1060; omega) ((((Fqr56s.2.1 54 (by decide)).trans (q_Ia es49 : gA s49 54 = gA s8 54))).trans hv44_7) ((((Fqr56s.2.1 55 (by decide)).trans (q_Ia es49 : gA s49 55 = gA s8 55))).trans hv44_8) ((((Fqr56s.2.1 56 (by decide)).trans (q_Ia es49 : gA s49 56 = gA s8 56))).trans hv44_9) ((((Fqr56s.2.1 57 (by decide)).trans (q_Ia es49 : gA s49 57 = gA s8 57))).trans hv44_10) (by have : (0 : Int) ≤ gI s8 1060 ∧ gI s8 1060 ≤ 48 := hRs8.1 1060; have : (0 : Int) ≤ gI s 1060 ∧ gI s 1060 ≤ 48 := hRs.1 1060; omega)
              · skip
                refine wp_rg (by have : (0 : Int) ≤ gI s8 1060 ∧ gI s8 1060 ≤ 48 := hRs8.1 1060; have : (0 : Int) ≤ gI s 1060 ∧ gI s 1060 ≤ 48 := hRs.1 1060; omega) ?_
                refine wp_rg (by have : (0 : Int) ≤ gI s8 1060 ∧ gI s8 1060 ≤ 48 := hRs8.1 1060; have : (0 : Int) ≤ gI s 1060 ∧ gI s 1060 ≤ 48 := hRs.1 1060; omega) ?_
                refine wp_if (fun c17 => ?_) (fun c17 => ?_)
                · skip
                  unfold m_x1_take_J140
                  exact ih44 x3 x4 x5 x6 (x7 + 1) qr56s hRqr56s (by show x3 = p0; have : (0 : Int) ≤ gI s8 1060 ∧ gI s8 1060 ≤ 48 := hRs8.1 1060; have : (0 : Int) ≤ gI s 1060 ∧ gI s 1060 ≤ 48 := hRs.1 1060; omega) (by show x4 = -1 ∨ (0 ≤ x4 ∧ x4 < gI s 1060 ∧ gA s 54 x4.toNat = 0 ∧ gA s 55 x4.toNat = 0); have : (0 : Int) ≤ gI s8 1060 ∧ gI s8 1060 ≤ 48 := hRs8.1 1060; have : (0 : Int) ≤ gI s 1060 ∧ gI s 1060 ≤ 48 := hRs.1 1060; omega) (by show R2 x5; have : (0 : Int) ≤ gI s8 1060 ∧ gI s8 1060 ≤ 48 := hRs8.1 1060; have : (0 : Int) ≤ gI s 1060 ∧ gI s 1060 ≤ 48 := hRs.1 1060; omega) (by show x6 = 0 ∨ x6 = 1; have : (0 : Int) ≤ gI s8 1060 ∧ gI s8 1060 ≤ 48 := hRs8.1 1060; have : (0 : Int) ≤ gI s 1060 ∧ gI s 1060 ≤ 48 := hRs.1 1060; omega) (by show 0 ≤ (x7 + 1) ∧ (x7 + 1) ≤ 48; have : (0 : Int) ≤ gI s8 1060 ∧ gI s8 1060 ≤ 48 := hRs8.1 1060; have : (0 : Int) ≤ gI s 1060 ∧ gI s 1060 ≤ 48 := hRs.1 1060; omega) (by show gI qr56s 1060 = gI s 1060; have : (0 : Int) ≤ gI s8 1060 ∧ gI s8 1060 ≤ 48 := hRs8.1 1060; have : (0 : Int) ≤ gI s 1060 ∧ gI s 1060 ≤ 48 := hRs.1 1060; have : gI qr56s 1060 = gI s49 1060 := Fqr56s.1 1060 (by decide); have : gI s49 1060 = gI s8 1060 := q_Ii es49 (by decide); omega) (by show x6 ≤ 1; have : (0 : Int) ≤ gI s8 1060 ∧ gI s8 1060 ≤ 48 := hRs8.1 1060; have : (0 : Int) ≤ gI s 1060 ∧ gI s 1060 ≤ 48 := hRs.1 1060; omega) ((((Fqr56s.2.1 54 (by decide)).trans (q_Ia es49 : gA s49 54 = gA s8 54))).trans hv44_7) ((((Fqr56s.2.1 55 (by decide)).trans (q_Ia es49 : gA s49 55 = gA s8 55))).trans hv44_8) ((((Fqr56s.2.1 56 (by decide)).trans (q_Ia es49 : gA s49 56 = gA s8 56))).trans hv44_9) ((((Fqr56s.2.1 57 (by decide)).trans (q_Ia es49 : gA s49 57 = gA s8 57))).trans hv44_10) (by have : (0 : Int) ≤ gI s8 1060 ∧ gI s8 1060 ≤ 48 := hRs8.1 1060; have : (0 : Int) ≤ gI s 1060 ∧ gI s 1060 ≤ 48 := hRs.1 1060; omega)
                · skip
                  unfold m_x1_take_J133
                  unfold m_x1_take_J140
                  exact ih44 x3 x7 qr56r x6 (x7 + 1) qr56s hRqr56s (by show x3 = p0; have : (0 : Int) ≤ gI s8 1060 ∧ gI s8 1060 ≤ 48 := hRs8.1 1060; have : (0 : Int) ≤ gI s 1060 ∧ gI s 1060 ≤ 48 := hRs.1 1060; omega) (by show x7 = -1 ∨ (0 ≤ x7 ∧ x7 < gI s 1060 ∧ gA s 54 x7.toNat = 0 ∧ gA s 55 x7.toNat = 0); have : (0 : Int) ≤ gI s8 1060 ∧ gI s8 1060 ≤ 48 := hRs8.1 1060; have : (0 : Int) ≤ gI s 1060 ∧ gI s 1060 ≤ 48 := hRs.1 1060; omega) (by show R2 qr56r; have : (0 : Int) ≤ gI s8 1060 ∧ gI s8 1060 ≤ 48 := hRs8.1 1060; have : (0 : Int) ≤ gI s 1060 ∧ gI s 1060 ≤ 48 := hRs.1 1060; omega) (by show x6 = 0 ∨ x6 = 1; have : (0 : Int) ≤ gI s8 1060 ∧ gI s8 1060 ≤ 48 := hRs8.1 1060; have : (0 : Int) ≤ gI s 1060 ∧ gI s 1060 ≤ 48 := hRs.1 1060; omega) (by show 0 ≤ (x7 + 1) ∧ (x7 + 1) ≤ 48; have : (0 : Int) ≤ gI s8 1060 ∧ gI s8 1060 ≤ 48 := hRs8.1 1060; have : (0 : Int) ≤ gI s 1060 ∧ gI s 1060 ≤ 48 := hRs.1 1060; omega) (by show gI qr56s 1060 = gI s 1060; have : (0 : Int) ≤ gI s8 1060 ∧ gI s8 1060 ≤ 48 := hRs8.1 1060; have : (0 : Int) ≤ gI s 1060 ∧ gI s 1060 ≤ 48 := hRs.1 1060; have : gI qr56s 1060 = gI s49 1060 := Fqr56s.1 1060 (by decide); have : gI s49 1060 = gI s8 1060 := q_Ii es49 (by decide); omega) (by show x6 ≤ 1; have : (0 : Int) ≤ gI s8 1060 ∧ gI s8 1060 ≤ 48 := hRs8.1 1060; have : (0 : Int) ≤ gI s 1060 ∧ gI s 1060 ≤ 48 := hRs.1 1060; omega) ((((Fqr56s.2.1 54 (by decide)).trans (q_Ia es49 : gA s49 54 = gA s8 54))).trans hv44_7) ((((Fqr56s.2.1 55 (by decide)).trans (q_Ia es49 : gA s49 55 = gA s8 55))).trans hv44_8) ((((Fqr56s.2.1 56 (by decide)).trans (q_Ia es49 : gA s49 56 = gA s8 56))).trans hv44_9) ((((Fqr56s.2.1 57 (by decide)).trans (q_Ia es49 : gA s49 57 = gA s8 57))).trans hv44_10) (by have : (0 : Int) ≤ gI s8 1060 ∧ gI s8 1060 ≤ 48 := hRs8.1 1060; have : (0 : Int) ≤ gI s 1060 ∧ gI s 1060 ≤ 48 := hRs.1 1060; omega)
    exact L44 FU p0 (-1) 0 1 0 s64 hRs64 (by show p0 = p0; omega) (by show (-1 : Int) = -1 ∨ (0 ≤ (-1 : Int) ∧ (-1 : Int) < gI s 1060 ∧ gA s 54 (-1 : Int).toNat = 0 ∧ gA s 55 (-1 : Int).toNat = 0); have : (0 : Int) ≤ gI s 1060 ∧ gI s 1060 ≤ 48 := hRs.1 1060; omega) (by show R2 (0 : Int); omega) (by show (1 : Int) = 0 ∨ (1 : Int) = 1; omega) (by show 0 ≤ (0 : Int) ∧ (0 : Int) ≤ 48; omega) (by show gI s64 1060 = gI s 1060; have : (0 : Int) ≤ gI s 1060 ∧ gI s 1060 ≤ 48 := hRs.1 1060; have : gI s64 1060 = gI s63 1060 := q_Ii es64 (by decide); have : gI s63 1060 = gI s 1060 := q_Ii es63 (by decide); omega) (by show (1 : Int) ≤ 1; omega) (((q_Ia es64 : gA s64 54 = gA s63 54).trans (q_Ia es63 : gA s63 54 = gA s 54))) (((q_Ia es64 : gA s64 55 = gA s63 55).trans (q_Ia es63 : gA s63 55 = gA s 55))) (((q_Ia es64 : gA s64 56 = gA s63 56).trans (q_Ia es63 : gA s63 56 = gA s 56))) (((q_Ia es64 : gA s64 57 = gA s63 57).trans (q_Ia es63 : gA s63 57 = gA s 57))) (by have := FU_big; have := FU_big2; omega)
set_option maxHeartbeats 1000000 in
theorem w_x1_layEntries {p0 : Int} {p1 : Int} {p2 : Int} {s : MS} (hRs : Rg s) (hp0 : 0 ≤ p0 ∧ p0 < 48) (hp1 : 0 ≤ p2 ∧ p2 < 48) (hp2 : 0 ≤ p1 ∧ p1 ≤ gA s 57 p0.toNat ∧ gA s 57 p0.toNat ≤ 6) : wp (m_x1_layEntries p0 p1 p2 s) (fun o => (Rg o) ∧ (gA o 57 = upZ (gA s 57) p2.toNat (gA s 57 p0.toNat - p1)) ∧ (gA o 58 = va_cpy (gA s 58) (gA s 58) (6 * p0.toNat + p1.toNat) (6 * p2.toNat) (gA s 57 p0.toNat - p1).toNat) ∧ (gA o 59 = va_cpy (gA s 59) (gA s 59) (6 * p0.toNat + p1.toNat) (6 * p2.toNat) (gA s 57 p0.toNat - p1).toNat)) := by
  unfold m_x1_layEntries
  refine wp_rdIn (by omega) (fun y1 ey1 => ?_)
  have by1 : (-1 : Int) ≤ y1 ∧ y1 ≤ 255 := ey1 ▸ hRs.2.1 57 _ (by show _ < 48; omega)
  refine wp_bn (w_x8_slot hRs) (fun r3 er3 hr3 => ?_)
  have hr3_0 := hr3
  have hr3_0 : r3 = p0 * 6 + p1 := hr3_0
  refine wp_bn (w_x8_slot hRs) (fun r5 er5 hr5 => ?_)
  have hr5_0 := hr5
  have hr5_0 : r5 = p2 * 6 + (0 : Int) := hr5_0
  refine wp_cpg (by omega) ?_
  refine wp_stn (fun s7 es7 => ?_)
  have hRs7 : Rg s7 := es7 ▸ Rg.cpy hRs (Int.le_refl _) (Int.le_refl _) (by show _ ≤ 288; omega)
  refine wp_bn (w_x8_slot hRs7) (fun r9 er9 hr9 => ?_)
  have hr9_0 := hr9
  have hr9_0 : r9 = p0 * 6 + p1 := hr9_0
  refine wp_bn (w_x8_slot hRs7) (fun r11 er11 hr11 => ?_)
  have hr11_0 := hr11
  have hr11_0 : r11 = p2 * 6 + (0 : Int) := hr11_0
  refine wp_cpg (by omega) ?_
  refine wp_stn (fun s13 es13 => ?_)
  have hRs13 : Rg s13 := es13 ▸ Rg.cpy hRs7 (Int.le_refl _) (Int.le_refl _) (by show _ ≤ 288; omega)
  refine wp_inb (by omega) ?_
  refine wp_stn (fun s15 es15 => ?_)
  have hRs15 : Rg s15 := es15 ▸ Rg.uAu hRs13 (by show (-1 : Int) ≤ (y1 - p1) ∧ (y1 - p1) ≤ 255; omega)
  exact wp_some ⟨hRs15, by rw [q_AA es15, ((q_Aa es13 (by decide) : gA s13 57 = gA s7 57).trans (q_Aa es7 (by decide) : gA s7 57 = gA s 57)), ← ey1], by rw [((q_Aa es15 (by decide) : gA s15 58 = gA s13 58).trans (q_Aa es13 (by decide) : gA s13 58 = gA s7 58)), q_AA es7, ey1, show r3.toNat = 6 * p0.toNat + p1.toNat by omega, show r5.toNat = 6 * p2.toNat by omega], by rw [(q_Aa es15 (by decide) : gA s15 59 = gA s13 59), q_AA es13, (q_Aa es7 (by decide) : gA s7 59 = gA s 59), ey1, show r9.toNat = 6 * p0.toNat + p1.toNat by omega, show r11.toNat = 6 * p2.toNat by omega]⟩
set_option maxHeartbeats 1000000 in
theorem w_x1_splits {p0 : Int} {s : MS} (hRs : Rg s) (hp0 : 0 ≤ p0 ∧ p0 < 48) : wp (m_x1_splits p0 s) (fun q => (Rg q.2) ∧ ((q.1 = 0 ∧ gA s 57 p0.toNat < gI s 581) ∨ (q.1 = 1 ∧ (gI s 581 ≤ gA s 57 p0.toNat ∨ 2 ≤ gA s 57 p0.toNat)))) := by
  unfold m_x1_splits
  refine wp_rdIn (by omega) (fun y5 ey5 => ?_)
  have by5 : (-1 : Int) ≤ y5 ∧ y5 ≤ 255 := ey5 ▸ hRs.2.1 57 _ (by show _ < 48; omega)
  refine wp_rg (by omega) ?_
  refine wp_rg (by have : (0 : Int) ≤ gI s 581 ∧ gI s 581 ≤ 6 := hRs.1 581; omega) ?_
  refine wp_if (fun c1 => ?_) (fun c1 => ?_)
  · skip
    refine wp_rdIn (by have : (0 : Int) ≤ gI s 581 ∧ gI s 581 ≤ 6 := hRs.1 581; omega) (fun y9 ey9 => ?_)
    have by9 : (-1 : Int) ≤ y9 ∧ y9 ≤ 255 := ey9 ▸ hRs.2.1 57 _ (by show _ < 48; have : (0 : Int) ≤ gI s 581 ∧ gI s 581 ≤ 6 := hRs.1 581; omega)
    refine wp_rg (by have : (0 : Int) ≤ gI s 581 ∧ gI s 581 ≤ 6 := hRs.1 581; omega) ?_
    refine wp_if (fun c2 => ?_) (fun c2 => ?_)
    · skip
      unfold m_x1_splits_J47
      exact wp_some ⟨hRs, by show ((0 : Int) = 0 ∧ gA s 57 p0.toNat < gI s 581) ∨ ((0 : Int) = 1 ∧ (gI s 581 ≤ gA s 57 p0.toNat ∨ 2 ≤ gA s 57 p0.toNat)); have : (0 : Int) ≤ gI s 581 ∧ gI s 581 ≤ 6 := hRs.1 581; omega⟩
    · skip
      refine wp_rdIn (by have : (0 : Int) ≤ gI s 581 ∧ gI s 581 ≤ 6 := hRs.1 581; omega) (fun y12 ey12 => ?_)
      have by12 : (-2147483648 : Int) ≤ y12 ∧ y12 ≤ 2147483647 := ey12 ▸ hRs.2.1 35 _ (by show _ < 3; have : (0 : Int) ≤ gI s 581 ∧ gI s 581 ≤ 6 := hRs.1 581; omega)
      refine wp_rg (by have : (0 : Int) ≤ gI s 581 ∧ gI s 581 ≤ 6 := hRs.1 581; omega) ?_
      refine wp_if (fun c3 => ?_) (fun c3 => ?_)
      · skip
        unfold m_x1_splits_J47
        exact wp_some ⟨hRs, by show ((0 : Int) = 0 ∧ gA s 57 p0.toNat < gI s 581) ∨ ((0 : Int) = 1 ∧ (gI s 581 ≤ gA s 57 p0.toNat ∨ 2 ≤ gA s 57 p0.toNat)); have : (0 : Int) ≤ gI s 581 ∧ gI s 581 ≤ 6 := hRs.1 581; omega⟩
      · skip
        refine wp_rdIn (by have : (0 : Int) ≤ gI s 581 ∧ gI s 581 ≤ 6 := hRs.1 581; omega) (fun y15 ey15 => ?_)
        have by15 : (-1 : Int) ≤ y15 ∧ y15 ≤ 1000 := ey15 ▸ hRs.2.1 56 _ (by show _ < 48; have : (0 : Int) ≤ gI s 581 ∧ gI s 581 ≤ 6 := hRs.1 581; omega)
        refine wp_stn (fun s16 es16 => ?_)
        have hRs16 : Rg s16 := es16 ▸ Rg.uI hRs (by show (-1000000 : Int) ≤ y15 ∧ y15 ≤ 1000000; have : (0 : Int) ≤ gI s 581 ∧ gI s 581 ≤ 6 := hRs.1 581; omega)
        refine wp_rdIn (by have : (0 : Int) ≤ gI s 581 ∧ gI s 581 ≤ 6 := hRs.1 581; omega) (fun y17 ey17 => ?_)
        have by17 : (-1 : Int) ≤ y17 ∧ y17 ≤ 255 := ey17 ▸ hRs16.2.1 57 _ (by show _ < 48; have : (0 : Int) ≤ gI s 581 ∧ gI s 581 ≤ 6 := hRs.1 581; omega)
        refine wp_stn (fun s18 es18 => ?_)
        have hRs18 : Rg s18 := es18 ▸ Rg.uI hRs16 (by show (-1000000 : Int) ≤ y17 ∧ y17 ≤ 1000000; have : (0 : Int) ≤ gI s 581 ∧ gI s 581 ≤ 6 := hRs.1 581; omega)
        refine wp_rdIn (by have : (0 : Int) ≤ gI s 581 ∧ gI s 581 ≤ 6 := hRs.1 581; omega) (fun y19 ey19 => ?_)
        have by19 : (-2147483648 : Int) ≤ y19 ∧ y19 ≤ 2147483647 := ey19 ▸ hRs18.2.1 35 _ (by show _ < 3; have : (0 : Int) ≤ gI s 581 ∧ gI s 581 ≤ 6 := hRs.1 581; omega)
        refine wp_rdIn (by have : (0 : Int) ≤ gI s 581 ∧ gI s 581 ≤ 6 := hRs.1 581; omega) (fun y20 ey20 => ?_)
        have by20 : (-2147483648 : Int) ≤ y20 ∧ y20 ≤ 2147483647 := ey20 ▸ hRs18.2.1 36 _ (by show _ < 3; have : (0 : Int) ≤ gI s 581 ∧ gI s 581 ≤ 6 := hRs.1 581; omega)
        refine wp_bn (w_x3_value hRs18 (by show R2 y19; have : (0 : Int) ≤ gI s 581 ∧ gI s 581 ≤ 6 := hRs.1 581; omega) (by show R2 y20; have : (0 : Int) ≤ gI s 581 ∧ gI s 581 ≤ 6 := hRs.1 581; omega)) (fun qqr23 eqr23s hqr23s => ?_)
        obtain ⟨qr23r, qr23s⟩ := qqr23
        dsimp only at eqr23s hqr23s ⊢
        have Fqr23s := fr_x3_value eqr23s
        obtain ⟨hRqr23s, hqr23s_0⟩ := hqr23s
        have hqr23s_0 : (-1000000) ≤ qr23r ∧ qr23r ≤ 1000001 := hqr23s_0
        refine wp_rg (by have : (0 : Int) ≤ gI s 581 ∧ gI s 581 ≤ 6 := hRs.1 581; omega) ?_
        refine wp_if (fun c4 => ?_) (fun c4 => ?_)
        · skip
          unfold m_x1_splits_J121
          refine wp_bo (by have : (0 : Int) ≤ gI s 581 ∧ gI s 581 ≤ 6 := hRs.1 581; omega) ?_
          exact wp_some ⟨hRqr23s, by show ((0 : Int) = 0 ∧ gA s 57 p0.toNat < gI s 581) ∨ ((0 : Int) = 1 ∧ (gI s 581 ≤ gA s 57 p0.toNat ∨ 2 ≤ gA s 57 p0.toNat)); have : (0 : Int) ≤ gI s 581 ∧ gI s 581 ≤ 6 := hRs.1 581; omega⟩
        · skip
          unfold m_x1_splits_J121
          refine wp_bo (by have : (0 : Int) ≤ gI s 581 ∧ gI s 581 ≤ 6 := hRs.1 581; omega) ?_
          exact wp_some ⟨hRqr23s, by show ((1 : Int) = 0 ∧ gA s 57 p0.toNat < gI s 581) ∨ ((1 : Int) = 1 ∧ (gI s 581 ≤ gA s 57 p0.toNat ∨ 2 ≤ gA s 57 p0.toNat)); have : (0 : Int) ≤ gI s 581 ∧ gI s 581 ≤ 6 := hRs.1 581; omega⟩
  · skip
    exact wp_some ⟨hRs, by show ((1 : Int) = 0 ∧ gA s 57 p0.toNat < gI s 581) ∨ ((1 : Int) = 1 ∧ (gI s 581 ≤ gA s 57 p0.toNat ∨ 2 ≤ gA s 57 p0.toNat)); have : (0 : Int) ≤ gI s 581 ∧ gI s 581 ≤ 6 := hRs.1 581; omega⟩
set_option maxHeartbeats 1000000 in
theorem w_x1_isWritten {p0 : Int} {s : MS} (hRs : Rg s) (hp0 : R2 p0) : wp (m_x1_isWritten p0 s) (fun r => ((r = 0) ∨ (r = 1 ∧ 0 ≤ p0 ∧ p0 < gI s 1060))) := by
  unfold m_x1_isWritten
  refine wp_bn (w_x8_inUse hRs (by show R2 p0; omega)) (fun r4 er4 hr4 => ?_)
  have hr4_0 := hr4
  have hr4_0 : (r4 = 1 ∧ 0 ≤ p0 ∧ p0 < gI s 1060 ∧ 0 < gA s 54 p0.toNat) ∨ (r4 = 0 ∧ (p0 < 0 ∨ gI s 1060 ≤ p0 ∨ ¬ (0 < gA s 54 p0.toNat))) := hr4_0
  refine wp_rg (by have : (0 : Int) ≤ gI s 1060 ∧ gI s 1060 ≤ 48 := hRs.1 1060; omega) ?_
  refine wp_if (fun c1 => ?_) (fun c1 => ?_)
  · skip
    unfold m_x1_isWritten_J31
    unfold m_x1_isWritten_J32
    refine wp_bo (by have : (0 : Int) ≤ gI s 1060 ∧ gI s 1060 ≤ 48 := hRs.1 1060; omega) ?_
    exact wp_some (by show ((0 : Int) = 0) ∨ ((0 : Int) = 1 ∧ 0 ≤ p0 ∧ p0 < gI s 1060); have : (0 : Int) ≤ gI s 1060 ∧ gI s 1060 ≤ 48 := hRs.1 1060; omega)
  · skip
    refine wp_rgL (R8_and _ _) ?_
    refine wp_if (fun c2 => ?_) (fun c2 => ?_)
    · skip
      unfold m_x1_isWritten_J31
      unfold m_x1_isWritten_J32
      refine wp_bo (by have : (0 : Int) ≤ gI s 1060 ∧ gI s 1060 ≤ 48 := hRs.1 1060; omega) ?_
      exact wp_some (by show ((0 : Int) = 0) ∨ ((0 : Int) = 1 ∧ 0 ≤ p0 ∧ p0 < gI s 1060); have : (0 : Int) ≤ gI s 1060 ∧ gI s 1060 ≤ 48 := hRs.1 1060; omega)
    · skip
      unfold m_x1_isWritten_J32
      refine wp_bo (by have : (0 : Int) ≤ gI s 1060 ∧ gI s 1060 ≤ 48 := hRs.1 1060; omega) ?_
      exact wp_some (by show ((1 : Int) = 0) ∨ ((1 : Int) = 1 ∧ 0 ≤ p0 ∧ p0 < gI s 1060); have : (0 : Int) ≤ gI s 1060 ∧ gI s 1060 ≤ 48 := hRs.1 1060; omega)
set_option maxHeartbeats 1000000 in
theorem w_x1_costOf {p0 : Int} {s : MS} (hRs : Rg s) (hp0 : 0 ≤ p0 ∧ p0 < 48) : wp (m_x1_costOf p0 s) (fun q => (Rg q.2) ∧ ((-1000000) ≤ q.1 ∧ q.1 ≤ 1000001)) := by
  unfold m_x1_costOf
  refine wp_rdIn (by omega) (fun y1 ey1 => ?_)
  have by1 : (-2147483648 : Int) ≤ y1 ∧ y1 ≤ 2147483647 := ey1 ▸ hRs.2.1 35 _ (by show _ < 3; omega)
  refine wp_rg (by omega) ?_
  refine wp_if (fun c1 => ?_) (fun c1 => ?_)
  · skip
    exact wp_some ⟨hRs, by show (-1000000) ≤ (1 : Int) ∧ (1 : Int) ≤ 1000001; omega⟩
  · skip
    refine wp_stn (fun s4 es4 => ?_)
    have hRs4 : Rg s4 := es4 ▸ Rg.uI hRs (by show (-1000000 : Int) ≤ p0 ∧ p0 ≤ 1000000; omega)
    refine wp_rdIn (by omega) (fun y5 ey5 => ?_)
    have by5 : (-1 : Int) ≤ y5 ∧ y5 ≤ 1000 := ey5 ▸ hRs4.2.1 56 _ (by show _ < 48; omega)
    refine wp_stn (fun s6 es6 => ?_)
    have hRs6 : Rg s6 := es6 ▸ Rg.uI hRs4 (by show (-1000000 : Int) ≤ y5 ∧ y5 ≤ 1000000; omega)
    refine wp_rdIn (by omega) (fun y7 ey7 => ?_)
    have by7 : (-1 : Int) ≤ y7 ∧ y7 ≤ 255 := ey7 ▸ hRs6.2.1 57 _ (by show _ < 48; omega)
    refine wp_stn (fun s8 es8 => ?_)
    have hRs8 : Rg s8 := es8 ▸ Rg.uI hRs6 (by show (-1000000 : Int) ≤ y7 ∧ y7 ≤ 1000000; omega)
    refine wp_rdIn (by omega) (fun y9 ey9 => ?_)
    have by9 : (-2147483648 : Int) ≤ y9 ∧ y9 ≤ 2147483647 := ey9 ▸ hRs8.2.1 35 _ (by show _ < 3; omega)
    refine wp_rdIn (by omega) (fun y10 ey10 => ?_)
    have by10 : (-2147483648 : Int) ≤ y10 ∧ y10 ≤ 2147483647 := ey10 ▸ hRs8.2.1 36 _ (by show _ < 3; omega)
    refine wp_bn (w_x3_value hRs8 (by show R2 y9; omega) (by show R2 y10; omega)) (fun qqr13 eqr13s hqr13s => ?_)
    obtain ⟨qr13r, qr13s⟩ := qqr13
    dsimp only at eqr13s hqr13s ⊢
    have Fqr13s := fr_x3_value eqr13s
    obtain ⟨hRqr13s, hqr13s_0⟩ := hqr13s
    have hqr13s_0 : (-1000000) ≤ qr13r ∧ qr13r ≤ 1000001 := hqr13s_0
    exact wp_some ⟨hRqr13s, by show (-1000000) ≤ qr13r ∧ qr13r ≤ 1000001; omega⟩
set_option maxHeartbeats 1000000 in
theorem w_x1_wrote {s : MS} (hRs : Rg s) : wp (m_x1_wrote s) (fun r => (0 ≤ r ∧ r ≤ 48)) := by
  unfold m_x1_wrote
  have L4 : ∀ (n : Nat) (x1 : Int) (x2 : Int), (0 ≤ x1 ∧ x1 ≤ x2 ∧ x2 ≤ 48) → (48 - x2) < (n : Int) → wp (m_x1_wrote_L4 s n x1 x2) (fun r => (0 ≤ r ∧ r ≤ 48)) := by
    refine fr_ind (fun x1 x2 hv4_0 hm4 => ?_) (fun n4 ih4 x1 x2 hv4_0 hm4 => ?_)
    · exfalso; omega
    · show wp (m_x1_wrote_b4 s (m_x1_wrote_L4 s n4) x1 x2) _
      unfold m_x1_wrote_b4
      refine wp_rg (by omega) ?_
      refine wp_rg (by have : (0 : Int) ≤ gI s 1060 ∧ gI s 1060 ≤ 48 := hRs.1 1060; omega) ?_
      refine wp_if (fun c1 => ?_) (fun c1 => ?_)
      · skip
        exact wp_some (by show 0 ≤ x1 ∧ x1 ≤ 48; have : (0 : Int) ≤ gI s 1060 ∧ gI s 1060 ≤ 48 := hRs.1 1060; omega)
      · skip
        refine wp_bn (w_x1_isWritten hRs (by show R2 x2; have : (0 : Int) ≤ gI s 1060 ∧ gI s 1060 ≤ 48 := hRs.1 1060; omega)) (fun r10 er10 hr10 => ?_)
        have hr10_0 := hr10
        have hr10_0 : (r10 = 0) ∨ (r10 = 1 ∧ 0 ≤ x2 ∧ x2 < gI s 1060) := hr10_0
        refine wp_rg (by have : (0 : Int) ≤ gI s 1060 ∧ gI s 1060 ≤ 48 := hRs.1 1060; omega) ?_
        refine wp_if (fun c2 => ?_) (fun c2 => ?_)
        · skip
          unfold m_x1_wrote_J29
          exact ih4 (x1 + 0) (x2 + 1) (by show 0 ≤ (x1 + 0) ∧ (x1 + 0) ≤ (x2 + 1) ∧ (x2 + 1) ≤ 48; have : (0 : Int) ≤ gI s 1060 ∧ gI s 1060 ≤ 48 := hRs.1 1060; omega) (by have : (0 : Int) ≤ gI s 1060 ∧ gI s 1060 ≤ 48 := hRs.1 1060; omega)
        · skip
          unfold m_x1_wrote_J29
          exact ih4 (x1 + 1) (x2 + 1) (by show 0 ≤ (x1 + 1) ∧ (x1 + 1) ≤ (x2 + 1) ∧ (x2 + 1) ≤ 48; have : (0 : Int) ≤ gI s 1060 ∧ gI s 1060 ≤ 48 := hRs.1 1060; omega) (by have : (0 : Int) ≤ gI s 1060 ∧ gI s 1060 ≤ 48 := hRs.1 1060; omega)
  exact L4 FU 0 0 (by show 0 ≤ (0 : Int) ∧ (0 : Int) ≤ (0 : Int) ∧ (0 : Int) ≤ 48; omega) (by have := FU_big; have := FU_big2; omega)
set_option maxHeartbeats 1000000 in
theorem w_x1_price {s : MS} (hRs : Rg s) : wp (m_x1_price s) (fun q => (Rg q.2) ∧ (0 ≤ q.1 ∧ q.1 ≤ 4752)) := by
  unfold m_x1_price
  have L4 : ∀ (n : Nat) (x1 : Int) (x2 : Int) (s3 : MS), Rg s3 → (0 ≤ x2 ∧ x2 ≤ 48) → (0 ≤ x1 ∧ x1 ≤ 99 * x2) → (48 - x2) < (n : Int) → wp (m_x1_price_L4 n x1 x2 s3) (fun q => (Rg q.2) ∧ (0 ≤ q.1 ∧ q.1 ≤ 4752)) := by
    refine fr_ind (fun x1 x2 s3 hRs3 hv4_0 hv4_1 hm4 => ?_) (fun n4 ih4 x1 x2 s3 hRs3 hv4_0 hv4_1 hm4 => ?_)
    · exfalso; omega
    · show wp (m_x1_price_b4 (m_x1_price_L4 n4) x1 x2 s3) _
      unfold m_x1_price_b4
      refine wp_rg (by omega) ?_
      refine wp_rg (by have : (0 : Int) ≤ gI s3 1060 ∧ gI s3 1060 ≤ 48 := hRs3.1 1060; omega) ?_
      refine wp_if (fun c1 => ?_) (fun c1 => ?_)
      · skip
        exact wp_some ⟨hRs3, by show 0 ≤ x1 ∧ x1 ≤ 4752; have : (0 : Int) ≤ gI s3 1060 ∧ gI s3 1060 ≤ 48 := hRs3.1 1060; omega⟩
      · skip
        refine wp_bn (w_x1_isWritten hRs3 (by show R2 x2; have : (0 : Int) ≤ gI s3 1060 ∧ gI s3 1060 ≤ 48 := hRs3.1 1060; omega)) (fun r12 er12 hr12 => ?_)
        have hr12_0 := hr12
        have hr12_0 : (r12 = 0) ∨ (r12 = 1 ∧ 0 ≤ x2 ∧ x2 < gI s3 1060) := hr12_0
        refine wp_rg (by have : (0 : Int) ≤ gI s3 1060 ∧ gI s3 1060 ≤ 48 := hRs3.1 1060; omega) ?_
        refine wp_if (fun c2 => ?_) (fun c2 => ?_)
        · skip
          unfold m_x1_price_J42
          exact ih4 (x1 + 0) (x2 + 1) s3 hRs3 (by show 0 ≤ (x2 + 1) ∧ (x2 + 1) ≤ 48; have : (0 : Int) ≤ gI s3 1060 ∧ gI s3 1060 ≤ 48 := hRs3.1 1060; omega) (by show 0 ≤ (x1 + 0) ∧ (x1 + 0) ≤ 99 * (x2 + 1); have : (0 : Int) ≤ gI s3 1060 ∧ gI s3 1060 ≤ 48 := hRs3.1 1060; omega) (by have : (0 : Int) ≤ gI s3 1060 ∧ gI s3 1060 ≤ 48 := hRs3.1 1060; omega)
        · skip
          refine wp_bn (w_x1_costOf hRs3 (by show 0 ≤ x2 ∧ x2 < 48; have : (0 : Int) ≤ gI s3 1060 ∧ gI s3 1060 ≤ 48 := hRs3.1 1060; omega)) (fun qqr17 eqr17s hqr17s => ?_)
          obtain ⟨qr17r, qr17s⟩ := qqr17
          dsimp only at eqr17s hqr17s ⊢
          have Fqr17s := fr_x1_costOf eqr17s
          obtain ⟨hRqr17s, hqr17s_0⟩ := hqr17s
          have hqr17s_0 : (-1000000) ≤ qr17r ∧ qr17r ≤ 1000001 := hqr17s_0
          have mm := mm_b qr17r
          refine wp_rg (by have : (0 : Int) ≤ gI s3 1060 ∧ gI s3 1060 ≤ 48 := hRs3.1 1060; omega) ?_
          refine wp_rg (by have : (0 : Int) ≤ gI s3 1060 ∧ gI s3 1060 ≤ 48 := hRs3.1 1060; omega) ?_
          unfold m_x1_price_J42
          exact ih4 (x1 + (maxZ 0 (minZ 99 qr17r))) (x2 + 1) qr17s hRqr17s (by show 0 ≤ (x2 + 1) ∧ (x2 + 1) ≤ 48; have : (0 : Int) ≤ gI s3 1060 ∧ gI s3 1060 ≤ 48 := hRs3.1 1060; omega) (by show 0 ≤ (x1 + (maxZ 0 (minZ 99 qr17r))) ∧ (x1 + (maxZ 0 (minZ 99 qr17r))) ≤ 99 * (x2 + 1); have : (0 : Int) ≤ gI s3 1060 ∧ gI s3 1060 ≤ 48 := hRs3.1 1060; omega) (by have : (0 : Int) ≤ gI s3 1060 ∧ gI s3 1060 ≤ 48 := hRs3.1 1060; omega)
  exact L4 FU 0 0 s hRs (by show 0 ≤ (0 : Int) ∧ (0 : Int) ≤ 48; omega) (by show 0 ≤ (0 : Int) ∧ (0 : Int) ≤ 99 * (0 : Int); omega) (by have := FU_big; have := FU_big2; omega)
