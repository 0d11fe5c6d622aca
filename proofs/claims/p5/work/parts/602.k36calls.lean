/-! ===== both sides together ===== -/
def IvS (x : MS) (ts : List MS) (t : MS) : Prop := CI x ts ∧ (Rr t ∧ JI t) ∧ PJ x t
theorem i_feed : ∀ (x : MS) (ts : List MS) (t : MS) (p1 : Int) (p2 : Int) (p3 : Int) (p4 : Int) (p5 : Int), R2 p1 → R2 p2 → R2 p3 → R2 p4 → R2 p5 → IvS x ts t → ∃ (x1 : MS) (r : Int) (t1 : MS) (r2 : Int), m_x11_feed p1 p2 p3 p4 p5 x = some (r, x1) ∧ m_x12_feed p1 p2 p3 p4 p5 t = some (r2, t1) ∧ IvS x1 ts t1 := by
  intro x ts t p1 p2 p3 p4 p5 hp1 hp2 hp3 hp4 hp5 ⟨hC, ⟨hR, hJ⟩, hPJ⟩
  have hl := hPJ.2.1.1
  have r61 : (0 : Int) ≤ gI x 61 ∧ gI x 61 ≤ 1600 := hC.1.1 61
  obtain ⟨q1, e1, g1⟩ := c_feed hC hp1 hp2 hp3 hp4 hp5
  obtain ⟨q2, e2, g2⟩ := j_feed hR hJ
  obtain ⟨r, x1⟩ := q1
  dsimp only at g1
  obtain ⟨r2, t1⟩ := q2
  dsimp only at g2
  exact ⟨x1, r, t1, r2, e1, e2, ⟨g1.1, ⟨g2.1, g2.2.1⟩, PJ_g hPJ (FX_of (fr_x11_feed e1) (by decide) (by decide)) (FY_of (fr_x12_feed e2) (by decide) (by decide) (by decide) (by decide)) (⟨by have a := g1.2; have b := g2.2.2; omega, TB_feed hPJ.2.1.2 hl r61.1 (t_feed1 hC.1 _ e1) (t_feed2 hR _ e2) (by have a := g1.2; omega) (show (0 : Int) ≤ gI x1 61 ∧ gI x1 61 ≤ 1600 from g1.1.1.1 61).2⟩)⟩⟩
theorem i_end : ∀ (x : MS) (ts : List MS) (t : MS) (p1 : Int), R2 p1 → IvS x ts t → ∃ (x1 : MS) (r : Int) (t1 : MS) (r2 : Int), m_x11_end p1 x = some (r, x1) ∧ m_x12_end p1 t = some (r2, t1) ∧ IvS x1 ts t1 := by
  intro x ts t p1 hp1 ⟨hC, ⟨hR, hJ⟩, hPJ⟩
  have hl := hPJ.2.1.1
  have r61 : (0 : Int) ≤ gI x 61 ∧ gI x 61 ≤ 1600 := hC.1.1 61
  obtain ⟨q1, e1, g1⟩ := c_end hC hp1
  obtain ⟨q2, e2, g2⟩ := j_end hR hJ hp1
  obtain ⟨r, x1⟩ := q1
  dsimp only at g1
  obtain ⟨r2, t1⟩ := q2
  dsimp only at g2
  exact ⟨x1, r, t1, r2, e1, e2, ⟨g1.1, ⟨g2.1, g2.2.1⟩, PJ_g hPJ (FX_of (fr_x11_end e1) (by decide) (by decide)) (FY_of (fr_x12_end e2) (by decide) (by decide) (by decide) (by decide)) (TPJ_k hPJ.2.1 (by have a := g1.2; have b := g2.2.2; omega) ((fr_x11_end e1).2.1 4 (by decide)) ((fr_x12_end e2).2.1 0 (by decide)) (by have a := g1.2; omega))⟩⟩
theorem i_store : ∀ (x : MS) (ts : List MS) (t : MS), IvS x ts t → ∃ (x1 : MS) (r : Int) (t1 : MS) (r2 : Int), m_x11_store x = some (r, x1) ∧ m_x12_store t = some (r2, t1) ∧ IvS x1 ts t1 := by
  intro x ts t  ⟨hC, ⟨hR, hJ⟩, hPJ⟩
  have hl := hPJ.2.1.1
  have r61 : (0 : Int) ≤ gI x 61 ∧ gI x 61 ≤ 1600 := hC.1.1 61
  obtain ⟨q1, e1, g1⟩ := c_store hC 
  obtain ⟨q2, e2, g2⟩ := w_x12_store hR  hJ
  have Y := y_store hC hR hJ hPJ q1 e1 q2 e2
  obtain ⟨r, x1⟩ := q1
  dsimp only at g1
  obtain ⟨r2, t1⟩ := q2
  dsimp only at g2
  exact ⟨x1, r, t1, r2, e1, e2, ⟨g1.1, ⟨g2.1, g2.2.1⟩, Y.2⟩⟩
theorem i_fault : ∀ (x : MS) (ts : List MS) (t : MS) (p1 : Int), R2 p1 → IvS x ts t → ∃ (r : Int) (r2 : Int), m_x11_fault p1 x = some r ∧ m_x12_fault p1 t = some r2 ∧ r = r2 ∧ IvS x ts t := by
  intro x ts t p1 hp1 ⟨hC, ⟨hR, hJ⟩, hPJ⟩
  have hl := hPJ.2.1.1
  have r61 : (0 : Int) ≤ gI x 61 ∧ gI x 61 ≤ 1600 := hC.1.1 61
  obtain ⟨r, e1, _⟩ := w_x11_fault hC.1  hp1
  obtain ⟨r2, e2, _⟩ := w_x12_fault hR hp1
  exact ⟨r, r2, e1, e2, y_fault hPJ.2.2.1 _ e1 _ e2, ⟨hC, ⟨hR, hJ⟩, hPJ⟩⟩
theorem i_has : ∀ (x : MS) (ts : List MS) (t : MS) (p1 : Int), R2 p1 → IvS x ts t → ∃ (r : Int) (r2 : Int), m_x11_has p1 x = some r ∧ m_x12_has p1 t = some r2 ∧ IvS x ts t := by
  intro x ts t p1 hp1 ⟨hC, ⟨hR, hJ⟩, hPJ⟩
  have hl := hPJ.2.1.1
  have r61 : (0 : Int) ≤ gI x 61 ∧ gI x 61 ≤ 1600 := hC.1.1 61
  obtain ⟨r, e1, _⟩ := w_x11_has hC.1  hp1
  obtain ⟨r2, e2, _⟩ := w_x12_has hR hp1 (JI_N hJ)
  exact ⟨r, r2, e1, e2, ⟨hC, ⟨hR, hJ⟩, hPJ⟩⟩
theorem i_letter : ∀ (x : MS) (ts : List MS) (t : MS) (p1 : Int) (p2 : Int), R2 p1 → R2 p2 → IvS x ts t → ∃ (r : Int) (r2 : Int), m_x11_letter p1 p2 x = some r ∧ m_x12_letter p1 p2 t = some r2 ∧ IvS x ts t := by
  intro x ts t p1 p2 hp1 hp2 ⟨hC, ⟨hR, hJ⟩, hPJ⟩
  have hl := hPJ.2.1.1
  have r61 : (0 : Int) ≤ gI x 61 ∧ gI x 61 ≤ 1600 := hC.1.1 61
  obtain ⟨r, e1, _⟩ := w_x11_letter hC.1  hp1 hp2
  obtain ⟨r2, e2, _⟩ := w_x12_letter hR hp1 hp2 hJ
  exact ⟨r, r2, e1, e2, ⟨hC, ⟨hR, hJ⟩, hPJ⟩⟩
theorem i_volume : ∀ (x : MS) (ts : List MS) (t : MS) (p1 : Int) (p2 : Int), R2 p1 → R2 p2 → IvS x ts t → ∃ (x1 : MS) (r : Int) (t1 : MS) (r2 : Int), m_x11_volume p1 p2 x = some (r, x1) ∧ m_x12_volume p1 p2 t = some (r2, t1) ∧ IvS x1 ts t1 := by
  intro x ts t p1 p2 hp1 hp2 ⟨hC, ⟨hR, hJ⟩, hPJ⟩
  have hl := hPJ.2.1.1
  have r61 : (0 : Int) ≤ gI x 61 ∧ gI x 61 ≤ 1600 := hC.1.1 61
  obtain ⟨q1, e1, g1⟩ := c_volume hC hp1 hp2
  obtain ⟨q2, e2, g2⟩ := w_x12_volume hR hp1 hp2 hJ
  obtain ⟨r, x1⟩ := q1
  dsimp only at g1
  obtain ⟨r2, t1⟩ := q2
  dsimp only at g2
  exact ⟨x1, r, t1, r2, e1, e2, ⟨g1.1, ⟨g2.1, g2.2.1⟩, PJ_g hPJ (FX_of (fr_x11_volume e1) (by decide) (by decide)) (FY_of (fr_x12_volume e2) (by decide) (by decide) (by decide) (by decide)) (TPJ_k hPJ.2.1 ((g1.2).trans (hl.trans (g2.2.2).symm)) ((fr_x11_volume e1).2.1 4 (by decide)) ((fr_x12_volume e2).2.1 0 (by decide)) (by have a := g1.2; omega))⟩⟩
theorem i_block : ∀ (x : MS) (ts : List MS) (t : MS) (p1 : Int) (p2 : Int), R2 p1 → R2 p2 → IvS x ts t → ∃ (r : Int) (r2 : Int), m_x11_block p1 p2 x = some r ∧ m_x12_block p1 p2 t = some r2 ∧ IvS x ts t := by
  intro x ts t p1 p2 hp1 hp2 ⟨hC, ⟨hR, hJ⟩, hPJ⟩
  have hl := hPJ.2.1.1
  have r61 : (0 : Int) ≤ gI x 61 ∧ gI x 61 ≤ 1600 := hC.1.1 61
  obtain ⟨r, e1, _⟩ := w_x11_block hC.1  hp1 hp2
  obtain ⟨r2, e2, _⟩ := w_x12_block hR hp1 hp2 hJ
  exact ⟨r, r2, e1, e2, ⟨hC, ⟨hR, hJ⟩, hPJ⟩⟩
theorem i_entry : ∀ (x : MS) (ts : List MS) (t : MS) (p1 : Int) (p2 : Int) (p3 : Int), R2 p1 → R2 p2 → R2 p3 → IvS x ts t → ∃ (r : Int) (r2 : Int), m_x11_entry p1 p2 p3 x = some r ∧ m_x12_entry p1 p2 p3 t = some r2 ∧ IvS x ts t := by
  intro x ts t p1 p2 p3 hp1 hp2 hp3 ⟨hC, ⟨hR, hJ⟩, hPJ⟩
  have hl := hPJ.2.1.1
  have r61 : (0 : Int) ≤ gI x 61 ∧ gI x 61 ≤ 1600 := hC.1.1 61
  obtain ⟨r, e1, _⟩ := w_x11_entry hC.1 hC.2.1.1.2.2.2 hp1 hp2 hp3
  obtain ⟨r2, e2, _⟩ := w_x12_entry hR hp1 hp2 hp3 hJ
  exact ⟨r, r2, e1, e2, ⟨hC, ⟨hR, hJ⟩, hPJ⟩⟩
theorem i_kept : ∀ (x : MS) (ts : List MS) (t : MS) (p1 : Int) (p2 : Int), R2 p1 → R2 p2 → IvS x ts t → ∃ (r : Int) (r2 : Int), m_x11_kept p1 p2 x = some r ∧ m_x12_kept p1 p2 t = some r2 ∧ IvS x ts t := by
  intro x ts t p1 p2 hp1 hp2 ⟨hC, ⟨hR, hJ⟩, hPJ⟩
  have hl := hPJ.2.1.1
  have r61 : (0 : Int) ≤ gI x 61 ∧ gI x 61 ≤ 1600 := hC.1.1 61
  obtain ⟨r, e1, _⟩ := w_x11_kept hC.1  hp1 hp2
  obtain ⟨r2, e2, _⟩ := w_x12_kept hR hp1 hp2 hJ
  exact ⟨r, r2, e1, e2, ⟨hC, ⟨hR, hJ⟩, hPJ⟩⟩
theorem i_read : ∀ (x : MS) (ts : List MS) (t : MS) (p1 : Int) (p2 : Int), R2 p1 → R2 p2 → IvS x ts t → ∃ (r : Int) (r2 : Int), m_x11_read p1 p2 x = some r ∧ m_x12_read p1 p2 t = some r2 ∧ IvS x ts t := by
  intro x ts t p1 p2 hp1 hp2 ⟨hC, ⟨hR, hJ⟩, hPJ⟩
  have hl := hPJ.2.1.1
  have r61 : (0 : Int) ≤ gI x 61 ∧ gI x 61 ≤ 1600 := hC.1.1 61
  obtain ⟨r, e1, _⟩ := w_x11_read hC.1 (CI_VR hC) hp1 hp2
  obtain ⟨r2, e2, _⟩ := w_x12_read hR hp1 hp2 hJ
  exact ⟨r, r2, e1, e2, ⟨hC, ⟨hR, hJ⟩, hPJ⟩⟩
theorem i_key : ∀ (x : MS) (ts : List MS) (t : MS) (p1 : Int) (p2 : Int), R2 p1 → R2 p2 → IvS x ts t → ∃ (x1 : MS) (r : Int) (t1 : MS) (r2 : Int), m_x11_key p1 p2 x = some (r, x1) ∧ m_x12_key p1 p2 t = some (r2, t1) ∧ IvS x1 ts t1 := by
  intro x ts t p1 p2 hp1 hp2 ⟨hC, ⟨hR, hJ⟩, hPJ⟩
  have hl := hPJ.2.1.1
  have r61 : (0 : Int) ≤ gI x 61 ∧ gI x 61 ≤ 1600 := hC.1.1 61
  obtain ⟨q1, e1, g1⟩ := c_key hC hp1 hp2
  obtain ⟨q2, e2, g2⟩ := w_x12_key hR hp1 hp2 hJ
  obtain ⟨r, x1⟩ := q1
  dsimp only at g1
  obtain ⟨r2, t1⟩ := q2
  dsimp only at g2
  exact ⟨x1, r, t1, r2, e1, e2, ⟨g1.1, ⟨g2.1, g2.2.1⟩, PJ_g hPJ (FX_of (fr_x11_key e1) (by decide) (by decide)) (FY_of (fr_x12_key e2) (by decide) (by decide) (by decide) (by decide)) (TPJ_k hPJ.2.1 ((g1.2).trans (hl.trans (g2.2.2).symm)) ((fr_x11_key e1).2.1 4 (by decide)) ((fr_x12_key e2).2.1 0 (by decide)) (by have a := g1.2; omega))⟩⟩
theorem i_total : ∀ (x : MS) (ts : List MS) (t : MS) (p1 : Int) (p2 : Int) (p3 : Int), R2 p1 → R2 p2 → R2 p3 → IvS x ts t → ∃ (x1 : MS) (r : Int) (t1 : MS) (r2 : Int), m_x11_total p1 p2 p3 x = some (r, x1) ∧ m_x12_total p1 p2 p3 t = some (r2, t1) ∧ IvS x1 ts t1 := by
  intro x ts t p1 p2 p3 hp1 hp2 hp3 ⟨hC, ⟨hR, hJ⟩, hPJ⟩
  have hl := hPJ.2.1.1
  have r61 : (0 : Int) ≤ gI x 61 ∧ gI x 61 ≤ 1600 := hC.1.1 61
  obtain ⟨q1, e1, g1⟩ := c_total hC hp1 hp2 hp3
  obtain ⟨q2, e2, g2⟩ := w_x12_total hR hp1 hp2 hp3 hJ
  obtain ⟨r, x1⟩ := q1
  dsimp only at g1
  obtain ⟨r2, t1⟩ := q2
  dsimp only at g2
  exact ⟨x1, r, t1, r2, e1, e2, ⟨g1.1, ⟨g2.1, g2.2.1⟩, PJ_g hPJ (FX_of (fr_x11_total e1) (by decide) (by decide)) (FY_of (fr_x12_total e2) (by decide) (by decide) (by decide) (by decide)) (TPJ_k hPJ.2.1 ((g1.2).trans (hl.trans (g2.2.2).symm)) ((fr_x11_total e1).2.1 4 (by decide)) ((fr_x12_total e2).2.1 0 (by decide)) (by have a := g1.2; omega))⟩⟩
theorem i_path : ∀ (x : MS) (ts : List MS) (t : MS) (p1 : Int) (p2 : Int) (p3 : Int), R2 p1 → R2 p2 → R2 p3 → IvS x ts t → ∃ (r : Int) (r2 : Int), m_x11_path p1 p2 p3 x = some r ∧ m_x12_path p1 p2 p3 t = some r2 ∧ IvS x ts t := by
  intro x ts t p1 p2 p3 hp1 hp2 hp3 ⟨hC, ⟨hR, hJ⟩, hPJ⟩
  have hl := hPJ.2.1.1
  have r61 : (0 : Int) ≤ gI x 61 ∧ gI x 61 ≤ 1600 := hC.1.1 61
  obtain ⟨r, e1, _⟩ := w_x11_path hC.1 (CI_VR hC) hp1 hp2 hp3
  obtain ⟨r2, e2, _⟩ := w_x12_path hR hp1 hp2 hp3 hJ
  exact ⟨r, r2, e1, e2, ⟨hC, ⟨hR, hJ⟩, hPJ⟩⟩
theorem i_shared : ∀ (x : MS) (ts : List MS) (t : MS) (p1 : Int) (p2 : Int), R2 p1 → R2 p2 → IvS x ts t → ∃ (x1 : MS) (r : Int) (t1 : MS) (r2 : Int), m_x11_shared p1 p2 x = some (r, x1) ∧ m_x12_shared p1 p2 t = some (r2, t1) ∧ IvS x1 ts t1 := by
  intro x ts t p1 p2 hp1 hp2 ⟨hC, ⟨hR, hJ⟩, hPJ⟩
  have hl := hPJ.2.1.1
  have r61 : (0 : Int) ≤ gI x 61 ∧ gI x 61 ≤ 1600 := hC.1.1 61
  obtain ⟨q1, e1, g1⟩ := c_shared hC hp1 hp2
  obtain ⟨q2, e2, g2⟩ := w_x12_shared hR hp1 hp2 hJ
  obtain ⟨r, x1⟩ := q1
  dsimp only at g1
  obtain ⟨r2, t1⟩ := q2
  dsimp only at g2
  exact ⟨x1, r, t1, r2, e1, e2, ⟨g1.1, ⟨g2.1, g2.2.1⟩, PJ_g hPJ (FX_of (fr_x11_shared e1) (by decide) (by decide)) (FY_of (fr_x12_shared e2) (by decide) (by decide) (by decide) (by decide)) (TPJ_k hPJ.2.1 ((g1.2).trans (hl.trans (g2.2.2).symm)) ((fr_x11_shared e1).2.1 4 (by decide)) ((fr_x12_shared e2).2.1 0 (by decide)) (by have a := g1.2; omega))⟩⟩
theorem i_differs : ∀ (x : MS) (ts : List MS) (t : MS) (p1 : Int) (p2 : Int) (p3 : Int), R2 p1 → R2 p2 → R2 p3 → IvS x ts t → ∃ (x1 : MS) (r : Int) (r2 : Int), m_x11_differs p1 p2 p3 x = some (r, x1) ∧ m_x12_differs p1 p2 p3 t = some r2 ∧ IvS x1 ts t := by
  intro x ts t p1 p2 p3 hp1 hp2 hp3 ⟨hC, ⟨hR, hJ⟩, hPJ⟩
  have hl := hPJ.2.1.1
  have r61 : (0 : Int) ≤ gI x 61 ∧ gI x 61 ≤ 1600 := hC.1.1 61
  obtain ⟨q1, e1, g1⟩ := c_differs hC hp1 hp2 hp3
  obtain ⟨r2, e2, _⟩ := w_x12_differs hR hp1 hp2 hp3 hJ
  obtain ⟨r, x1⟩ := q1
  dsimp only at g1
  exact ⟨x1, r, r2, e1, e2, ⟨g1.1, ⟨hR, hJ⟩, PJ_g hPJ (FX_of (fr_x11_differs e1) (by decide) (by decide)) (FY.rf t) (TPJ_k hPJ.2.1 (g1.2.trans hl) ((fr_x11_differs e1).2.1 4 (by decide)) (rfl) (by have a := g1.2; omega))⟩⟩
theorem i_writes : ∀ (x : MS) (ts : List MS) (t : MS) (p1 : Int) (p2 : Int) (p3 : Int), R2 p1 → R2 p2 → R2 p3 → IvS x ts t → ∃ (x1 : MS) (r : Int) (t1 : MS) (r2 : Int), m_x11_writes p1 p2 p3 x = some (r, x1) ∧ m_x12_writes p1 p2 p3 t = some (r2, t1) ∧ IvS x1 ts t1 := by
  intro x ts t p1 p2 p3 hp1 hp2 hp3 ⟨hC, ⟨hR, hJ⟩, hPJ⟩
  have hl := hPJ.2.1.1
  have r61 : (0 : Int) ≤ gI x 61 ∧ gI x 61 ≤ 1600 := hC.1.1 61
  obtain ⟨q1, e1, g1⟩ := c_writes hC hp1 hp2 hp3
  obtain ⟨q2, e2, g2⟩ := w_x12_writes hR hp1 hp2 hp3 hJ
  obtain ⟨r, x1⟩ := q1
  dsimp only at g1
  obtain ⟨r2, t1⟩ := q2
  dsimp only at g2
  exact ⟨x1, r, t1, r2, e1, e2, ⟨g1.1, ⟨g2.1, g2.2.1⟩, PJ_g hPJ (FX_of (fr_x11_writes e1) (by decide) (by decide)) (FY_of (fr_x12_writes e2) (by decide) (by decide) (by decide) (by decide)) (TPJ_k hPJ.2.1 ((g1.2).trans (hl.trans (g2.2.2).symm)) ((fr_x11_writes e1).2.1 4 (by decide)) ((fr_x12_writes e2).2.1 0 (by decide)) (by have a := g1.2; omega))⟩⟩
theorem i_spread : ∀ (x : MS) (ts : List MS) (t : MS) (p1 : Int) (p2 : Int), R2 p1 → R2 p2 → IvS x ts t → ∃ (x1 : MS) (r : Int) (t1 : MS) (r2 : Int), m_x11_spread p1 p2 x = some (r, x1) ∧ m_x12_spread p1 p2 t = some (r2, t1) ∧ IvS x1 ts t1 := by
  intro x ts t p1 p2 hp1 hp2 ⟨hC, ⟨hR, hJ⟩, hPJ⟩
  have hl := hPJ.2.1.1
  have r61 : (0 : Int) ≤ gI x 61 ∧ gI x 61 ≤ 1600 := hC.1.1 61
  obtain ⟨q1, e1, g1⟩ := c_spread hC hp1 hp2
  obtain ⟨q2, e2, g2⟩ := w_x12_spread hR hp1 hp2 hJ
  obtain ⟨r, x1⟩ := q1
  dsimp only at g1
  obtain ⟨r2, t1⟩ := q2
  dsimp only at g2
  exact ⟨x1, r, t1, r2, e1, e2, ⟨g1.1, ⟨g2.1, g2.2.1⟩, PJ_g hPJ (FX_of (fr_x11_spread e1) (by decide) (by decide)) (FY_of (fr_x12_spread e2) (by decide) (by decide) (by decide) (by decide)) (TPJ_k hPJ.2.1 ((g1.2).trans (hl.trans (g2.2.2).symm)) ((fr_x11_spread e1).2.1 4 (by decide)) ((fr_x12_spread e2).2.1 0 (by decide)) (by have a := g1.2; omega))⟩⟩
theorem i_lost : ∀ (x : MS) (ts : List MS) (t : MS) (p1 : Int), R2 p1 → IvS x ts t → ∃ (x1 : MS) (r : Int) (t1 : MS) (r2 : Int), m_x11_lost p1 x = some (r, x1) ∧ m_x12_lost p1 t = some (r2, t1) ∧ IvS x1 ts t1 := by
  intro x ts t p1 hp1 ⟨hC, ⟨hR, hJ⟩, hPJ⟩
  have hl := hPJ.2.1.1
  have r61 : (0 : Int) ≤ gI x 61 ∧ gI x 61 ≤ 1600 := hC.1.1 61
  obtain ⟨q1, e1, g1⟩ := c_lost hC hp1
  obtain ⟨q2, e2, g2⟩ := w_x12_lost hR hp1 hJ
  obtain ⟨r, x1⟩ := q1
  dsimp only at g1
  obtain ⟨r2, t1⟩ := q2
  dsimp only at g2
  exact ⟨x1, r, t1, r2, e1, e2, ⟨g1.1, ⟨g2.1, g2.2.1⟩, PJ_g hPJ (FX_of (fr_x11_lost e1) (by decide) (by decide)) (FY_of (fr_x12_lost e2) (by decide) (by decide) (by decide) (by decide)) (TPJ_k hPJ.2.1 ((g1.2).trans (hl.trans (g2.2.2).symm)) ((fr_x11_lost e1).2.1 4 (by decide)) ((fr_x12_lost e2).2.1 0 (by decide)) (by have a := g1.2; omega))⟩⟩
theorem i_worst : ∀ (x : MS) (ts : List MS) (t : MS) (p1 : Int), R2 p1 → IvS x ts t → ∃ (x1 : MS) (r : Int) (t1 : MS) (r2 : Int), m_x11_worst p1 x = some (r, x1) ∧ m_x12_worst p1 t = some (r2, t1) ∧ IvS x1 ts t1 := by
  intro x ts t p1 hp1 ⟨hC, ⟨hR, hJ⟩, hPJ⟩
  have hl := hPJ.2.1.1
  have r61 : (0 : Int) ≤ gI x 61 ∧ gI x 61 ≤ 1600 := hC.1.1 61
  obtain ⟨q1, e1, g1⟩ := c_worst hC hp1
  obtain ⟨q2, e2, g2⟩ := w_x12_worst hR hp1 hJ
  obtain ⟨r, x1⟩ := q1
  dsimp only at g1
  obtain ⟨r2, t1⟩ := q2
  dsimp only at g2
  exact ⟨x1, r, t1, r2, e1, e2, ⟨g1.1, ⟨g2.1, g2.2.1⟩, PJ_g hPJ (FX_of (fr_x11_worst e1) (by decide) (by decide)) (FY_of (fr_x12_worst e2) (by decide) (by decide) (by decide) (by decide)) (TPJ_k hPJ.2.1 ((g1.2).trans (hl.trans (g2.2.2).symm)) ((fr_x11_worst e1).2.1 4 (by decide)) ((fr_x12_worst e2).2.1 0 (by decide)) (by have a := g1.2; omega))⟩⟩
theorem i_victim : ∀ (x : MS) (ts : List MS) (t : MS) (p1 : Int), R2 p1 → IvS x ts t → ∃ (x1 : MS) (r : Int) (t1 : MS) (r2 : Int), m_x11_victim p1 x = some (r, x1) ∧ m_x12_victim p1 t = some (r2, t1) ∧ IvS x1 ts t1 := by
  intro x ts t p1 hp1 ⟨hC, ⟨hR, hJ⟩, hPJ⟩
  have hl := hPJ.2.1.1
  have r61 : (0 : Int) ≤ gI x 61 ∧ gI x 61 ≤ 1600 := hC.1.1 61
  obtain ⟨q1, e1, g1⟩ := c_victim hC hp1
  obtain ⟨q2, e2, g2⟩ := w_x12_victim hR hp1 hJ
  obtain ⟨r, x1⟩ := q1
  dsimp only at g1
  obtain ⟨r2, t1⟩ := q2
  dsimp only at g2
  exact ⟨x1, r, t1, r2, e1, e2, ⟨g1.1, ⟨g2.1, g2.2.1⟩, PJ_g hPJ (FX_of (fr_x11_victim e1) (by decide) (by decide)) (FY_of (fr_x12_victim e2) (by decide) (by decide) (by decide) (by decide)) (TPJ_k hPJ.2.1 ((g1.2).trans (hl.trans (g2.2.2).symm)) ((fr_x11_victim e1).2.1 4 (by decide)) ((fr_x12_victim e2).2.1 0 (by decide)) (by have a := g1.2; omega))⟩⟩
theorem i_room : ∀ (x : MS) (ts : List MS) (t : MS) (p1 : Int), R2 p1 → IvS x ts t → ∃ (r : Int) (r2 : Int), m_x11_room p1 x = some r ∧ m_x12_room p1 t = some r2 ∧ IvS x ts t := by
  intro x ts t p1 hp1 ⟨hC, ⟨hR, hJ⟩, hPJ⟩
  have hl := hPJ.2.1.1
  have r61 : (0 : Int) ≤ gI x 61 ∧ gI x 61 ≤ 1600 := hC.1.1 61
  obtain ⟨r, e1, _⟩ := w_x11_room hC.1  hp1
  obtain ⟨r2, e2, _⟩ := w_x12_room hR hp1 hJ
  exact ⟨r, r2, e1, e2, ⟨hC, ⟨hR, hJ⟩, hPJ⟩⟩
theorem i_back : ∀ (x : MS) (ts : List MS) (t : MS) (p1 : Int), R2 p1 → IvS x ts t → ∃ (x1 : MS) (r : Int) (r2 : Int), m_x11_back p1 x = some (r, x1) ∧ m_x12_back p1 t = some r2 ∧ IvS x1 ts t := by
  intro x ts t p1 hp1 ⟨hC, ⟨hR, hJ⟩, hPJ⟩
  have hl := hPJ.2.1.1
  have r61 : (0 : Int) ≤ gI x 61 ∧ gI x 61 ≤ 1600 := hC.1.1 61
  obtain ⟨q1, e1, g1⟩ := c_back hC hp1
  obtain ⟨r2, e2, _⟩ := w_x12_back hR hp1 hJ
  obtain ⟨r, x1⟩ := q1
  dsimp only at g1
  exact ⟨x1, r, r2, e1, e2, ⟨g1.1, ⟨hR, hJ⟩, PJ_g hPJ (FX_of (fr_x11_back e1) (by decide) (by decide)) (FY.rf t) (TPJ_k hPJ.2.1 (g1.2.trans hl) ((fr_x11_back e1).2.1 4 (by decide)) (rfl) (by have a := g1.2; omega))⟩⟩
theorem i_see : ∀ (x : MS) (ts : List MS) (t : MS), IvS x ts t → ∃ (x1 : MS) (r : Int) (t1 : MS) (r2 : Int), m_x11_see x = some (r, x1) ∧ m_x12_see t = some (r2, t1) ∧ IvS x1 ts t1 := by
  intro x ts t  ⟨hC, ⟨hR, hJ⟩, hPJ⟩
  have hl := hPJ.2.1.1
  have r61 : (0 : Int) ≤ gI x 61 ∧ gI x 61 ≤ 1600 := hC.1.1 61
  obtain ⟨q1, e1, g1⟩ := c_see hC 
  obtain ⟨q2, e2, g2⟩ := w_x12_see hR  hJ
  obtain ⟨r, x1⟩ := q1
  dsimp only at g1
  obtain ⟨r2, t1⟩ := q2
  dsimp only at g2
  exact ⟨x1, r, t1, r2, e1, e2, ⟨g1.1, ⟨g2.1, g2.2.1⟩, PJ_g hPJ (FX_of (fr_x11_see e1) (by decide) (by decide)) (FY_of (fr_x12_see e2) (by decide) (by decide) (by decide) (by decide)) (TPJ_0 g1.2 g2.2.2)⟩⟩
theorem i_fits : ∀ (x : MS) (ts : List MS) (t : MS) (p1 : Int), R2 p1 → IvS x ts t → ∃ (x1 : MS) (r : Int) (r2 : Int), m_x11_fits p1 x = some (r, x1) ∧ m_x12_fits p1 t = some r2 ∧ IvS x1 ts t := by
  intro x ts t p1 hp1 ⟨hC, ⟨hR, hJ⟩, hPJ⟩
  have hl := hPJ.2.1.1
  have r61 : (0 : Int) ≤ gI x 61 ∧ gI x 61 ≤ 1600 := hC.1.1 61
  obtain ⟨q1, e1, g1⟩ := c_fits hC hp1
  obtain ⟨r2, e2, _⟩ := w_x12_fits hR hp1 hJ
  obtain ⟨r, x1⟩ := q1
  dsimp only at g1
  exact ⟨x1, r, r2, e1, e2, ⟨g1.1, ⟨hR, hJ⟩, PJ_g hPJ (FX_of (fr_x11_fits e1) (by decide) (by decide)) (FY.rf t) (TPJ_k hPJ.2.1 (g1.2.trans hl) ((fr_x11_fits e1).2.1 4 (by decide)) (rfl) (by have a := g1.2; omega))⟩⟩
theorem i_tells : ∀ (x : MS) (ts : List MS) (t : MS) (p1 : Int), R2 p1 → IvS x ts t → ∃ (x1 : MS) (r : Int) (r2 : Int), m_x11_tells p1 x = some (r, x1) ∧ m_x12_tells p1 t = some r2 ∧ IvS x1 ts t := by
  intro x ts t p1 hp1 ⟨hC, ⟨hR, hJ⟩, hPJ⟩
  have hl := hPJ.2.1.1
  have r61 : (0 : Int) ≤ gI x 61 ∧ gI x 61 ≤ 1600 := hC.1.1 61
  obtain ⟨q1, e1, g1⟩ := c_tells hC hp1
  obtain ⟨r2, e2, _⟩ := w_x12_tells hR hp1 hJ
  obtain ⟨r, x1⟩ := q1
  dsimp only at g1
  exact ⟨x1, r, r2, e1, e2, ⟨g1.1, ⟨hR, hJ⟩, PJ_g hPJ (FX_of (fr_x11_tells e1) (by decide) (by decide)) (FY.rf t) (TPJ_k hPJ.2.1 (g1.2.trans hl) ((fr_x11_tells e1).2.1 4 (by decide)) (rfl) (by have a := g1.2; omega))⟩⟩
theorem i_put : ∀ (x : MS) (ts : List MS) (t : MS) (p1 : Int) (p2 : Int) (p3 : Int), R2 p1 → R2 p2 → R2 p3 → IvS x ts t → ∃ (x1 : MS) (ts1 : List MS) (r : Int) (t1 : MS) (r2 : Int), m_x11_put ts p1 p2 p3 x = some (r, x1, ts1) ∧ m_x12_put p1 p2 p3 t = some (r2, t1) ∧ IvS x1 ts1 t1 := by
  intro x ts t p1 p2 p3 hp1 hp2 hp3 ⟨hC, ⟨hR, hJ⟩, hPJ⟩
  have hl := hPJ.2.1.1
  have r61 : (0 : Int) ≤ gI x 61 ∧ gI x 61 ≤ 1600 := hC.1.1 61
  obtain ⟨q1, e1, g1⟩ := c_put hC hp1 hp2 hp3
  obtain ⟨q2, e2, g2⟩ := w_x12_put hR hp1 hp2 hp3 hJ
  obtain ⟨r, x1, ts1⟩ := q1
  dsimp only at g1
  obtain ⟨r2, t1⟩ := q2
  dsimp only at g2
  exact ⟨x1, ts1, r, t1, r2, e1, e2, ⟨g1.1, ⟨g2.1, g2.2.1⟩, PJ_g hPJ (FX_FA (fa_put _ e1)) (FY_of (fr_x12_put e2) (by decide) (by decide) (by decide) (by decide)) (TPJ_k hPJ.2.1 ((g1.2).trans (hl.trans (g2.2.2).symm)) ((fa_put _ e1).2 4 (by decide) (by decide) (by decide) (by decide) (by decide)) ((fr_x12_put e2).2.1 0 (by decide)) (by have a := g1.2; omega))⟩⟩
theorem i_remove : ∀ (x : MS) (ts : List MS) (t : MS) (p1 : Int) (p2 : Int), R2 p1 → R2 p2 → IvS x ts t → ∃ (x1 : MS) (ts1 : List MS) (r : Int) (t1 : MS) (r2 : Int), m_x11_remove ts p1 p2 x = some (r, x1, ts1) ∧ m_x12_remove p1 p2 t = some (r2, t1) ∧ IvS x1 ts1 t1 := by
  intro x ts t p1 p2 hp1 hp2 ⟨hC, ⟨hR, hJ⟩, hPJ⟩
  have hl := hPJ.2.1.1
  have r61 : (0 : Int) ≤ gI x 61 ∧ gI x 61 ≤ 1600 := hC.1.1 61
  obtain ⟨q1, e1, g1⟩ := c_remove hC hp1 hp2
  obtain ⟨q2, e2, g2⟩ := w_x12_remove hR hp1 hp2 hJ
  obtain ⟨r, x1, ts1⟩ := q1
  dsimp only at g1
  obtain ⟨r2, t1⟩ := q2
  dsimp only at g2
  exact ⟨x1, ts1, r, t1, r2, e1, e2, ⟨g1.1, ⟨g2.1, g2.2.1⟩, PJ_g hPJ (FX_FA (fa_remove _ e1)) (FY_of (fr_x12_remove e2) (by decide) (by decide) (by decide) (by decide)) (TPJ_k hPJ.2.1 ((g1.2).trans (hl.trans (g2.2.2).symm)) ((fa_remove _ e1).2 4 (by decide) (by decide) (by decide) (by decide) (by decide)) ((fr_x12_remove e2).2.1 0 (by decide)) (by have a := g1.2; omega))⟩⟩
theorem i_copy : ∀ (x : MS) (ts : List MS) (t : MS) (p1 : Int), R2 p1 → IvS x ts t → ∃ (x1 : MS) (ts1 : List MS) (r : Int) (t1 : MS) (r2 : Int), m_x11_copy ts p1 x = some (r, x1, ts1) ∧ m_x12_copy p1 t = some (r2, t1) ∧ IvS x1 ts1 t1 := by
  intro x ts t p1 hp1 ⟨hC, ⟨hR, hJ⟩, hPJ⟩
  have hl := hPJ.2.1.1
  have r61 : (0 : Int) ≤ gI x 61 ∧ gI x 61 ≤ 1600 := hC.1.1 61
  obtain ⟨q1, e1, g1⟩ := c_copy hC hp1
  obtain ⟨q2, e2, g2⟩ := w_x12_copy hR hp1 hJ
  obtain ⟨r, x1, ts1⟩ := q1
  dsimp only at g1
  obtain ⟨r2, t1⟩ := q2
  dsimp only at g2
  exact ⟨x1, ts1, r, t1, r2, e1, e2, ⟨g1.1, ⟨g2.1, g2.2.1⟩, PJ_g hPJ (FX_FA (fa_copy _ e1)) (FY_of (fr_x12_copy e2) (by decide) (by decide) (by decide) (by decide)) (TPJ_k hPJ.2.1 ((g1.2).trans (hl.trans (g2.2.2).symm)) ((fa_copy _ e1).2 4 (by decide) (by decide) (by decide) (by decide) (by decide)) ((fr_x12_copy e2).2.1 0 (by decide)) (by have a := g1.2; omega))⟩⟩
theorem i_drop : ∀ (x : MS) (ts : List MS) (t : MS) (p1 : Int), R2 p1 → IvS x ts t → ∃ (x1 : MS) (ts1 : List MS) (r : Int) (t1 : MS) (r2 : Int), m_x11_drop ts p1 x = some (r, x1, ts1) ∧ m_x12_drop p1 t = some (r2, t1) ∧ IvS x1 ts1 t1 := by
  intro x ts t p1 hp1 ⟨hC, ⟨hR, hJ⟩, hPJ⟩
  have hl := hPJ.2.1.1
  have r61 : (0 : Int) ≤ gI x 61 ∧ gI x 61 ≤ 1600 := hC.1.1 61
  obtain ⟨q1, e1, g1⟩ := c_drop hC hp1
  obtain ⟨q2, e2, g2⟩ := w_x12_drop hR hp1 hJ
  obtain ⟨r, x1, ts1⟩ := q1
  dsimp only at g1
  obtain ⟨r2, t1⟩ := q2
  dsimp only at g2
  exact ⟨x1, ts1, r, t1, r2, e1, e2, ⟨g1.1, ⟨g2.1, g2.2.1⟩, PJ_g hPJ (FX_FA (fa_drop _ e1)) (FY_of (fr_x12_drop e2) (by decide) (by decide) (by decide) (by decide)) (TPJ_k hPJ.2.1 ((g1.2).trans (hl.trans (g2.2.2).symm)) ((fa_drop _ e1).2 4 (by decide) (by decide) (by decide) (by decide) (by decide)) ((fr_x12_drop e2).2.1 0 (by decide)) (by have a := g1.2; omega))⟩⟩
theorem i_checkpoint : ∀ (x : MS) (ts : List MS) (t : MS), IvS x ts t → ∃ (x1 : MS) (ts1 : List MS) (r : Int) (t1 : MS) (r2 : Int), m_x11_checkpoint ts x = some (r, x1, ts1) ∧ m_x12_checkpoint t = some (r2, t1) ∧ IvS x1 ts1 t1 := by
  intro x ts t  ⟨hC, ⟨hR, hJ⟩, hPJ⟩
  have hl := hPJ.2.1.1
  have r61 : (0 : Int) ≤ gI x 61 ∧ gI x 61 ≤ 1600 := hC.1.1 61
  obtain ⟨q1, e1, g1⟩ := c_checkpoint hC 
  obtain ⟨q2, e2, g2⟩ := w_x12_checkpoint hR  hJ
  obtain ⟨r, x1, ts1⟩ := q1
  dsimp only at g1
  obtain ⟨r2, t1⟩ := q2
  dsimp only at g2
  exact ⟨x1, ts1, r, t1, r2, e1, e2, ⟨g1.1, ⟨g2.1, g2.2.1⟩, PJ_g hPJ (FX_FA (fa_checkpoint _ e1)) (FY_of (fr_x12_checkpoint e2) (by decide) (by decide) (by decide) (by decide)) (TPJ_k hPJ.2.1 ((g1.2).trans (hl.trans (g2.2.2).symm)) ((fa_checkpoint _ e1).2 4 (by decide) (by decide) (by decide) (by decide) (by decide)) ((fr_x12_checkpoint e2).2.1 0 (by decide)) (by have a := g1.2; omega))⟩⟩
theorem i_crash : ∀ (x : MS) (ts : List MS) (t : MS), IvS x ts t → ∃ (x1 : MS) (ts1 : List MS) (r : Int) (t1 : MS) (r2 : Int), m_x11_crash ts x = some (r, x1, ts1) ∧ m_x12_crash t = some (r2, t1) ∧ IvS x1 ts1 t1 := by
  intro x ts t  ⟨hC, ⟨hR, hJ⟩, hPJ⟩
  have hl := hPJ.2.1.1
  have r61 : (0 : Int) ≤ gI x 61 ∧ gI x 61 ≤ 1600 := hC.1.1 61
  obtain ⟨q1, e1, g1⟩ := c_crash hC 
  obtain ⟨q2, e2, g2⟩ := w_x12_crash hR  hJ
  obtain ⟨r, x1, ts1⟩ := q1
  dsimp only at g1
  obtain ⟨r2, t1⟩ := q2
  dsimp only at g2
  exact ⟨x1, ts1, r, t1, r2, e1, e2, ⟨g1.1, ⟨g2.1, g2.2.1⟩, PJ_g hPJ (FX_FA (fa_crash _ e1)) (FY_of (fr_x12_crash e2) (by decide) (by decide) (by decide) (by decide)) (TPJ_k hPJ.2.1 ((g1.2).trans (hl.trans (g2.2.2).symm)) ((fa_crash _ e1).2 4 (by decide) (by decide) (by decide) (by decide) (by decide)) ((fr_x12_crash e2).2.1 0 (by decide)) (by have a := g1.2; omega))⟩⟩
theorem i_chance : ∀ (x : MS) (ts : List MS) (t : MS) (p1 : Int), R2 p1 → IvS x ts t → ∃ (x1 : MS) (ts1 : List MS) (r : Int) (t1 : MS) (r2 : Int), m_x11_chance ts p1 x = some (r, x1, ts1) ∧ m_x12_chance p1 t = some (r2, t1) ∧ IvS x1 ts1 t1 := by
  intro x ts t p1 hp1 ⟨hC, ⟨hR, hJ⟩, hPJ⟩
  have hl := hPJ.2.1.1
  have r61 : (0 : Int) ≤ gI x 61 ∧ gI x 61 ≤ 1600 := hC.1.1 61
  obtain ⟨q1, e1, g1⟩ := c_chance hC hp1
  obtain ⟨q2, e2, g2⟩ := w_x12_chance hR hp1 hJ
  obtain ⟨r, x1, ts1⟩ := q1
  dsimp only at g1
  obtain ⟨r2, t1⟩ := q2
  dsimp only at g2
  exact ⟨x1, ts1, r, t1, r2, e1, e2, ⟨g1.1, ⟨g2.1, g2.2.1⟩, PJ_g hPJ (FX_FA (fa_chance _ e1)) (FY_of (fr_x12_chance e2) (by decide) (by decide) (by decide) (by decide)) (TPJ_k hPJ.2.1 ((g1.2).trans (hl.trans (g2.2.2).symm)) ((fa_chance _ e1).2 4 (by decide) (by decide) (by decide) (by decide) (by decide)) ((fr_x12_chance e2).2.1 0 (by decide)) (by have a := g1.2; omega))⟩⟩
theorem i_undo : ∀ (x : MS) (ts : List MS) (t : MS), IvS x ts t → ∃ (x1 : MS) (ts1 : List MS) (r : Int) (t1 : MS) (r2 : Int), m_x11_undo ts x = some (r, x1, ts1) ∧ m_x12_undo t = some (r2, t1) ∧ IvS x1 ts1 t1 := by
  intro x ts t  ⟨hC, ⟨hR, hJ⟩, hPJ⟩
  have hl := hPJ.2.1.1
  have r61 : (0 : Int) ≤ gI x 61 ∧ gI x 61 ≤ 1600 := hC.1.1 61
  obtain ⟨q1, e1, g1⟩ := c_undo hC 
  obtain ⟨q2, e2, g2⟩ := r_undo hR hJ
  obtain ⟨r, x1, ts1⟩ := q1
  dsimp only at g1
  obtain ⟨r2, t1⟩ := q2
  dsimp only at g2
  exact ⟨x1, ts1, r, t1, r2, e1, e2, ⟨g1.1, ⟨g2.1, g2.2.1⟩, PJ_g hPJ (FX_FA (fa_undo _ e1)) (FY_of (fr_x12_undo e2) (by decide) (by decide) (by decide) (by decide)) (TPJ_k hPJ.2.1 ((g1.2).trans (hl.trans (g2.2.2).symm)) ((fa_undo _ e1).2 4 (by decide) (by decide) (by decide) (by decide) (by decide)) ((fr_x12_undo e2).2.1 0 (by decide)) (by have a := g1.2; omega))⟩⟩
theorem i_seed : ∀ (x : MS) (ts : List MS) (t : MS) (p1 : Int), R2 p1 → IvS x ts t → ∃ (x1 : MS) (r : Int) (t1 : MS) (r2 : Int), m_x11_seed p1 x = some (r, x1) ∧ m_x12_seed p1 t = some (r2, t1) ∧ IvS x1 ts t1 := by
  intro x ts t p1 hp1 ⟨hC, ⟨hR, hJ⟩, hPJ⟩
  have hl := hPJ.2.1.1
  have r61 : (0 : Int) ≤ gI x 61 ∧ gI x 61 ≤ 1600 := hC.1.1 61
  obtain ⟨q1, e1, g1⟩ := c_seed hC hp1
  obtain ⟨q2, e2, g2⟩ := j_seed hR hJ hp1
  obtain ⟨r, x1⟩ := q1
  dsimp only at g1
  obtain ⟨r2, t1⟩ := q2
  dsimp only at g2
  exact ⟨x1, r, t1, r2, e1, e2, ⟨g1.1, ⟨g2.1, g2.2.1⟩, PJ_g hPJ (FX_of (fr_x11_seed e1) (by decide) (by decide)) (FY_of (fr_x12_seed e2) (by decide) (by decide) (by decide) (by decide)) (TPJ_k hPJ.2.1 ((g1.2).trans (hl.trans (g2.2.2).symm)) ((fr_x11_seed e1).2.1 4 (by decide)) ((fr_x12_seed e2).2.1 0 (by decide)) (by have a := g1.2; omega))⟩⟩
theorem i_ask : ∀ (x : MS) (ts : List MS) (t : MS), IvS x ts t → ∃ (x1 : MS) (r : Int) (t1 : MS) (r2 : Int), m_x11_ask x = some (r, x1) ∧ m_x12_ask t = some (r2, t1) ∧ IvS x1 ts t1 := by
  intro x ts t  ⟨hC, ⟨hR, hJ⟩, hPJ⟩
  have hl := hPJ.2.1.1
  have r61 : (0 : Int) ≤ gI x 61 ∧ gI x 61 ≤ 1600 := hC.1.1 61
  obtain ⟨q1, e1, g1⟩ := c_ask hC 
  obtain ⟨q2, e2, g2⟩ := w_x12_ask hR  hJ
  have Y := y_ask hC hR hJ hPJ q1 e1 q2 e2
  obtain ⟨r, x1⟩ := q1
  dsimp only at g1
  obtain ⟨r2, t1⟩ := q2
  dsimp only at g2
  exact ⟨x1, r, t1, r2, e1, e2, ⟨g1.1, ⟨g2.1, g2.2.1⟩, Y⟩⟩
theorem i_image : ∀ (x : MS) (ts : List MS) (t : MS), IvS x ts t → ∃ (x1 : MS) (r : Int) (t1 : MS) (r2 : Int), m_x11_image x = some (r, x1) ∧ m_x12_image t = some (r2, t1) ∧ IvS x1 ts t1 := by
  intro x ts t  ⟨hC, ⟨hR, hJ⟩, hPJ⟩
  have hl := hPJ.2.1.1
  have r61 : (0 : Int) ≤ gI x 61 ∧ gI x 61 ≤ 1600 := hC.1.1 61
  obtain ⟨q1, e1, g1⟩ := c_image hC 
  obtain ⟨q2, e2, g2⟩ := w_x12_image hR  hJ
  obtain ⟨r, x1⟩ := q1
  dsimp only at g1
  obtain ⟨r2, t1⟩ := q2
  dsimp only at g2
  exact ⟨x1, r, t1, r2, e1, e2, ⟨g1.1, ⟨g2.1, g2.2.1⟩, PJ_g hPJ (FX_of (fr_x11_image e1) (by decide) (by decide)) (FY_of (fr_x12_image e2) (by decide) (by decide) (by decide) (by decide)) (TPJ_k hPJ.2.1 ((g1.2).trans (hl.trans (g2.2.2).symm)) ((fr_x11_image e1).2.1 4 (by decide)) ((fr_x12_image e2).2.1 0 (by decide)) (by have a := g1.2; omega))⟩⟩
theorem i_octet : ∀ (x : MS) (ts : List MS) (t : MS) (p1 : Int), R2 p1 → IvS x ts t → ∃ (r : Int) (r2 : Int), m_x11_octet p1 x = some r ∧ m_x12_octet p1 t = some r2 ∧ IvS x ts t := by
  intro x ts t p1 hp1 ⟨hC, ⟨hR, hJ⟩, hPJ⟩
  have hl := hPJ.2.1.1
  have r61 : (0 : Int) ≤ gI x 61 ∧ gI x 61 ≤ 1600 := hC.1.1 61
  obtain ⟨r, e1, _⟩ := w_x11_octet hC.1  hp1
  obtain ⟨r2, e2, _⟩ := w_x12_octet hR hp1
  exact ⟨r, r2, e1, e2, ⟨hC, ⟨hR, hJ⟩, hPJ⟩⟩
theorem i_on : ∀ (x : MS) (ts : List MS) (t : MS), IvS x ts t → ∃ (x1 : MS) (r : Int) (t1 : MS) (r2 : Int), m_x11_on x = some (r, x1) ∧ m_x12_on t = some (r2, t1) ∧ IvS x1 ts t1 := by
  intro x ts t  ⟨hC, ⟨hR, hJ⟩, hPJ⟩
  have hl := hPJ.2.1.1
  have r61 : (0 : Int) ≤ gI x 61 ∧ gI x 61 ≤ 1600 := hC.1.1 61
  obtain ⟨q1, e1, g1⟩ := c_on hC 
  obtain ⟨q2, e2, g2⟩ := mt_on hR hJ
  obtain ⟨r, x1⟩ := q1
  dsimp only at g1
  obtain ⟨r2, t1⟩ := q2
  dsimp only at g2
  exact ⟨x1, r, t1, r2, e1, e2, ⟨g1.1, ⟨g2.1, g2.2.1⟩, PJ_g hPJ (FX_of (fr_x11_on e1) (by decide) (by decide)) (FY_of (fr_x12_on e2) (by decide) (by decide) (by decide) (by decide)) (TPJ_0 g1.2 g2.2.2)⟩⟩
theorem i_status : ∀ (x : MS) (ts : List MS) (t : MS) (p1 : Int), R2 p1 → IvS x ts t → ∃ (r : Int) (r2 : Int), m_x11_status p1 x = some r ∧ m_x12_status p1 t = some r2 ∧ IvS x ts t := by
  intro x ts t p1 hp1 ⟨hC, ⟨hR, hJ⟩, hPJ⟩
  have hl := hPJ.2.1.1
  have r61 : (0 : Int) ≤ gI x 61 ∧ gI x 61 ≤ 1600 := hC.1.1 61
  obtain ⟨r, e1, _⟩ := w_x11_status hC.1  hp1
  obtain ⟨r2, e2, _⟩ := w_x12_status hR hp1
  exact ⟨r, r2, e1, e2, ⟨hC, ⟨hR, hJ⟩, hPJ⟩⟩
theorem LSt_IvS : LSt IvS := ⟨i_feed, i_end, i_store, i_fault, i_has, i_letter, i_volume, i_block, i_entry, i_kept, i_read, i_key, i_total, i_path, i_shared, i_differs, i_writes, i_spread, i_lost, i_worst, i_victim, i_room, i_back, i_see, i_fits, i_tells, i_put, i_remove, i_copy, i_drop, i_checkpoint, i_crash, i_chance, i_undo, i_seed, i_ask, i_image, i_octet, i_on, i_status⟩
theorem zw_w6 : ∀ j, j < 179 → (zw (zByt.getD j 0)).toInt = w6 j := by decide +kernel
theorem RWD_0 : RWD rw0 := ⟨by decide +kernel, by decide +kernel⟩
theorem IvS_0 (fw fb1 fe1 fb2 fe2 : Nat → Int) (hw : fw = fun j => (zw (zByt.getD j 0)).toInt) : IvS (nfS (cw0 fw fb1 fe1 fb2 fe2)) [] rw0 := by
  refine ⟨CI_start fw fb1 fe1 fb2 fe2, ⟨Rr_rw0, JI_rw0⟩, ⟨fun j hj => ?_, RWD_0⟩, TPJ_0 rfl rfl, ⟨rfl, fun z => absurd rfl z, fun _ => rfl⟩, ⟨rfl, ⟨rfl, by show (0 : Int) ≤ 0; omega, by show (0 : Int) ≤ 8; omega⟩, fun v hv => absurd hv (by show ¬ (v : Int) < 0; omega)⟩, fun z => absurd rfl z, fun _ => rfl⟩
  show (i2 (fw j)).toInt = w6 j
  rw [hw]
  show (i2 ((zw (zByt.getD j 0)).toInt)).toInt = w6 j
  rw [i2_of]
  exact zw_w6 j hj
