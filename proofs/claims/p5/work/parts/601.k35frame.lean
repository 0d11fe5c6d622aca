/-! ===== calls that leave what was told ===== -/
def FX (x o : MS) : Prop := KX x o ∧ gI o 100 = gI x 100 ∧ gI o 101 = gI x 101
def FY (t o : MS) : Prop := KY t o ∧ gI o 7 = gI t 7 ∧ gI o 8 = gI t 8
theorem FX.rf (x : MS) : FX x x := ⟨⟨fun _ _ => rfl, fun _ _ => rfl⟩, rfl, rfl⟩
theorem FY.rf (t : MS) : FY t t := ⟨⟨rfl, fun _ _ => rfl, FB_e rfl rfl rfl rfl, fun _ _ => rfl⟩, rfl, rfl⟩
theorem FX_FA {x o : MS} (h : FA x o) : FX x o := ⟨⟨fun i hi => h.1 i (by omega) (by omega) (by omega) (by omega), fun k hk => h.2 k (by omega) (by omega) (by omega) (by omega) (by omega)⟩, h.1 100 (by omega) (by omega) (by omega) (by omega), h.1 101 (by omega) (by omega) (by omega) (by omega)⟩
theorem FX_of {I A L B : List Nat} {x o : MS} (h : Fr I A L B x o) (hi : ∀ i, i ∈ [12, 100, 101, 580, 581, 582, 583, 584, 741] → i ∉ I) (ha : ∀ k, k ∈ [6, 30, 31, 32, 33, 34, 35, 36, 37, 38] → k ∉ A) : FX x o := ⟨⟨fun i hi' => h.1 i (hi i (by simp; omega)), fun k hk => h.2.1 k (ha k (by simp; omega))⟩, h.1 100 (hi 100 (by decide)), h.1 101 (hi 101 (by decide))⟩
theorem FY_of {I A L B : List Nat} {t o : MS} (h : Fr I A L B t o) (hi : ∀ i, i ∈ [7, 8, 47] → i ∉ I) (ha : ∀ k, k ∈ [39, 42, 43, 44] → k ∉ A) (hw : ∀ k, k ∈ A → (k < 11 ∨ 37 < k) ∧ (k < 79 ∨ 100 < k)) (hb : 40 ∉ B) : FY t o := ⟨⟨h.1 47 (hi 47 (by decide)), fun k hk => h.2.1 k (fun m => by have := hw k m; omega), FB_e (h.2.1 39 (ha 39 (by decide))) (h.2.1 42 (ha 42 (by decide))) (h.2.1 43 (ha 43 (by decide))) (h.2.1 44 (ha 44 (by decide))), fun j _ => by rw [h.2.2.2 40 hb]⟩, h.1 7 (hi 7 (by decide)), h.1 8 (hi 8 (by decide))⟩
theorem PJ_g {x x1 t t1 : MS} (H : PJ x t) (a : FX x x1) (b : FY t t1) (T : TPJ x1 t1) : PJ x1 t1 := ⟨WD_k H.1 a.1 b.1, T, FLT_k H.2.2.1 a.2 b.2, PTJ_k H.2.2.2 a.1 b.1⟩
theorem TPJ_k {x x1 t t1 : MS} (H : TPJ x t) (hl : gI x1 61 = gI t1 1) (h4 : gA x1 4 = gA x 4) (h0 : gA t1 0 = gA t 0) (h61 : gI x1 61 ≤ gI x 61) : TPJ x1 t1 := ⟨hl, TB_k H.2 h4 h0 h61⟩
