/-! ===== sums on both sides: what waits, what is told ===== -/
/-- a step of the class and one of the reference that mean the same -/
def cr (c d : Int) : Prop := (0 ≤ c ∧ (d = 1000 + c ∨ (c = 1 ∧ d = 13))) ∨ ((-12) ≤ c ∧ c ≤ -1 ∧ d = -c) ∨ (c = -13 ∧ d = 60) ∨ (c = -14 ∧ d = 61) ∨ (c = -113 ∧ d = 40) ∨ (c = -111 ∧ d = 41) ∨ (c = -112 ∧ d = 42) ∨ (c = -114 ∧ d = 43) ∨ (c = -115 ∧ d = 44) ∨ (c = -116 ∧ d = 45) ∨ (c = -117 ∧ d = 46) ∨ (c = -118 ∧ d = 47)
/-- what waits above b, the last one first -/
def SKr (f : Nat → Int) (b : Int) : Int → List Int → Prop
  | h, [] => h = b
  | h, k :: K => b < h ∧ f (h - 1).toNat = k ∧ SKr f b (h - 1) K
theorem SKr_le {f : Nat → Int} {b : Int} : ∀ {K : List Int} {h : Int}, SKr f b h K → b ≤ h := by
  intro K
  induction K with
  | nil => intro h H; have : h = b := H; omega
  | cons k K ih => intro h H; have := H.1; omega
theorem SKr_up {f : Nat → Int} {b v : Int} {i : Nat} (hb : 0 ≤ b) : ∀ {K : List Int} {h : Int}, SKr f b h K → h ≤ (i : Int) → SKr (upZ f i v) b h K := by
  intro K
  induction K with
  | nil => intro h H _; exact H
  | cons k K ih =>
    intro h H hi
    have h1 := H.1
    exact ⟨h1, by rw [upZ_n (by omega)]; exact H.2.1, ih H.2.2 (by omega)⟩
theorem SKr_push {f : Nat → Int} {b h v : Int} {K : List Int} (hb : 0 ≤ b) (H : SKr f b h K) : SKr (upZ f h.toNat v) b (h + 1) (v :: K) := by
  have h1 := SKr_le H
  refine ⟨by omega, by rw [show (h + 1 - 1).toNat = h.toNat by omega, upZ_s], ?_⟩
  rw [show h + 1 - 1 = h by omega]
  exact SKr_up hb H (by omega)
theorem SKr_top {f : Nat → Int} {b h k v : Int} {K : List Int} (hb : 0 ≤ b) (H : SKr f b h (k :: K)) : SKr (upZ f (h - 1).toNat v) b h (v :: K) := by
  have h1 := H.1
  exact ⟨h1, upZ_s _ _ _, SKr_up hb H.2.2 (by omega)⟩
/-- steps that the class has and the reference still lets wait -/
def ELr (f : Nat → Int) : Nat → List Int → Prop
  | _, [] => True
  | p, e :: E => cr (f p) e ∧ ELr f (p + 1) E
theorem ELr_up {f : Nat → Int} {v : Int} {i : Nat} : ∀ {E : List Int} {p : Nat}, ELr f p E → p + E.length ≤ i → ELr (upZ f i v) p E := by
  intro E
  induction E with
  | nil => intro p _ _; trivial
  | cons e E ih =>
    intro p H hi
    rw [List.length_cons] at hi
    exact ⟨by rw [upZ_n (by omega)]; exact H.1, ih H.2 (by omega)⟩
theorem ELr_app {f : Nat → Int} {x : Int} : ∀ {E : List Int} {p : Nat}, ELr f p E → cr (f (p + E.length)) x → ELr f p (E ++ [x]) := by
  intro E
  induction E with
  | nil => intro p _ h; exact ⟨h, trivial⟩
  | cons e E ih =>
    intro p H h
    rw [List.length_cons] at h
    exact ⟨H.1, ih H.2 (by rw [show p + 1 + E.length = p + (E.length + 1) by omega]; exact h)⟩
def CO (k0 : Int) (s t : MS) (E : List Int) : Prop := (gI s 941 = k0 + gI t 102 + (E.length : Int) ∧ 0 ≤ gI t 102 ∧ 0 ≤ k0) ∧ (∀ j : Nat, (j : Int) < gI t 102 → cr (gA s 48 (k0.toNat + j)) (gA t 101 j)) ∧ ELr (gA s 48) (k0 + gI t 102).toNat E
/-- both sides in a sum: K waits, E waits with the reference alone -/
def BS (b0 : Int) (f0 : Nat → Int) (t : MS) : Prop := gI t 106 = b0 ∧ ∀ j : Nat, (j : Int) < b0 → gA t 103 j = f0 j
theorem BS_e {b0 : Int} {f0 : Nat → Int} {t o : MS} (h : BS b0 f0 t) (k : gI o 106 = gI t 106) (kA : gA o 103 = gA t 103) : BS b0 f0 o := ⟨k.trans h.1, fun j hj => by rw [kA]; exact h.2 j hj⟩
def OPN (s t : MS) : Prop := (gI t 105 = gI s 106 ∧ gI s 106 ≤ 6) ∧ gI t 48 = gI s 105 ∧ (0 ≤ gI s 105 ∧ gI s 105 ≤ 3)
theorem OPN_e {s s' t o : MS} (h : OPN s t) (a : gI s' 106 = gI s 106) (b : gI s' 105 = gI s 105) (c : gI o 105 = gI t 105) (d : gI o 48 = gI t 48) : OPN s' o := by
  unfold OPN
  rw [a, b, c, d]; exact h
def REL (k0 b0 : Int) (f0 : Nat → Int) (s t : MS) (K E : List Int) : Prop := SY s t ∧ OPN s t ∧ ((0 ≤ gI t 106 ∧ (0 < gI t 106 → ¬ (1 ≤ gA t 103 (gI t 106 - 1).toNat ∧ gA t 103 (gI t 106 - 1).toNat ≤ 4))) ∧ SKr (gA t 103) (gI t 106) (gI t 104) (E ++ K)) ∧ CO k0 s t E ∧ gI s 941 ≤ gI s 108 ∧ BS b0 f0 t
theorem SY_f {s t o : MS} (h : SY s t) (k2 : gI o 2 = gI t 2) (k3 : gI o 3 = gI t 3) (k4 : gI o 4 = gI t 4) (k5 : gI o 5 = gI t 5) (kA : ∀ k, k = 0 ∨ (11 ≤ k ∧ k ≤ 37) ∨ (79 ≤ k ∧ k ≤ 100) → gA o k = gA t k) : SY s o := by
  obtain ⟨⟨h1, h2⟩, ⟨h3, h4⟩, h5, ⟨h6, h7⟩, h8, h10⟩ := h
  refine ⟨⟨by rw [k3]; exact h1, fun j hj => by rw [kA 0 (Or.inl rfl)]; exact h2 j hj⟩, ⟨h3, by rw [k5]; exact h4⟩, h5, ⟨by rw [k2]; exact h6, by rw [k2]; exact h7⟩, ?_, RWD_e h10 (fun k hk => kA k (Or.inr hk))⟩
  unfold RE
  rw [k2, k4]; exact h8
theorem TK_e {s o : MS} (h : TK s) (kI : ∀ i, i = 61 ∨ (107 ≤ i ∧ i ≤ 111) → gI o i = gI s i) (k4 : gA o 4 = gA s 4) : TK o := by
  unfold TK KG
  rw [kI 61 (by omega), kI 107 (by omega), kI 108 (by omega), kI 109 (by omega), kI 110 (by omega), kI 111 (by omega), k4]
  exact h
theorem SY_c {s o t : MS} (h : SY s t) (kI : ∀ i, i = 61 ∨ i = 100 ∨ (107 ≤ i ∧ i ≤ 111) → gI o i = gI s i) (k4 : gA o 4 = gA s 4) (k6 : gA o 6 = gA s 6) : SY o t := by
  obtain ⟨⟨h1, h2⟩, ⟨h3, h4⟩, ⟨h5, h5b, h5c⟩, h6, h8, h10⟩ := h
  refine ⟨⟨by rw [kI 61 (by omega)]; exact h1, fun j hj => by rw [k4]; rw [kI 61 (by omega)] at hj; exact h2 j hj⟩, ⟨by rw [kI 100 (by omega)]; exact h3, h4⟩, ⟨TK_e h5 (fun i hi => kI i (by omega)) k4, W6_e h5b k6, fun j hj => by rw [k4]; rw [kI 61 (by omega)] at hj; exact h5c j hj⟩, ?_, by rw [k4]; exact h8, h10⟩
  rw [k4, kI 61 (by omega), kI 108 (by omega)]; exact h6
/-- the reference moves, no more -/
theorem REL_2 {b0 : Int} {f0 : Nat → Int} {k0 : Int} {s t o : MS} {K E : List Int} (h : REL k0 b0 f0 s t K E) (hS : SY s o) (kI : ∀ i, 48 ≤ i → gI o i = gI t i) (kA : ∀ k, gA o k = gA t k) : REL k0 b0 f0 s o K E := by
  obtain ⟨_, h2, h3, h4, h5⟩ := h
  refine ⟨hS, OPN_e h2 rfl rfl (kI 105 (by decide)) (kI 48 (by decide)), by rw [kI 106 (by decide), kI 104 (by decide), kA]; exact h3, ?_, h5.1, BS_e h5.2 (kI 106 (by decide)) (kA 103)⟩
  unfold CO at h4 ⊢
  rw [kI 102 (by decide), kA]; exact h4
/-- the class goes on -/
theorem REL_adv {b0 : Int} {f0 : Nat → Int} {k0 : Int} {s s' t o : MS} {K E : List Int} (h : REL k0 b0 f0 s t K E) (hN : NX s o) (kI : ∀ i, 48 ≤ i → gI o i = gI t i) (kA : ∀ k, gA o k = gA t k) (e : m_x6_advance s = some s') : REL k0 b0 f0 s' o K E ∧ gI s 109 ≤ gI s' 108 := by
  have F : F_x6_advance s s' := fr_x6_advance e
  obtain ⟨hS, hp⟩ := y_adv hN s' e
  obtain ⟨h1, h2, h3, h4, h5⟩ := h
  have hk := h1.2.2.1.1
  have st : gI s 108 ≤ gI s 109 := by
    rcases hk.2.2 with q | q
    · omega
    · omega
  have h5' := h5.1
  refine ⟨⟨hS, OPN_e h2 (F.1 106 (by decide)) (F.1 105 (by decide)) (kI 105 (by decide)) (kI 48 (by decide)), by rw [kI 106 (by decide), kI 104 (by decide), kA]; exact h3, ?_, by rw [F.1 941 (by decide)]; omega, BS_e h5.2 (kI 106 (by decide)) (kA 103)⟩, hp⟩
  unfold CO at h4 ⊢
  rw [kI 102 (by decide), kA, F.1 941 (by decide), F.2.1 48 (by decide)]; exact h4
theorem y_code {v : Int} {t : MS} : pc (m_x12_qCode v t) (fun o => (gI o 102 = gI t 102 + 1 ∧ gA o 101 = upZ (gA t 101) (gI t 102).toNat v) ∧ (∀ i, i ≠ 102 → gI o i = gI t i) ∧ (∀ k, k ≠ 101 → gA o k = gA t k)) := by
  unfold m_x12_qCode
  refine pc_inb (pc_stn (fun s2 e2 => pc_stn (fun s3 e3 => pc_some ⟨⟨?_, (q_Ia e3).trans (q_AA e2)⟩, fun i hi => (q_Ii e3 hi).trans (q_Ai e2), fun k hk => (q_Ia e3).trans (q_Aa e2 hk)⟩)))
  rw [(q_II e3 : gI s3 102 = _), (q_Ai e2 : gI s2 102 = gI t 102)]
theorem s_add {c : Int} {s : MS} (h : gI s 941 < 1600) : pc (m_x0_add c s) (fun o => (gI o 941 = gI s 941 + 1 ∧ gA o 48 = upZ (gA s 48) (gI s 941).toNat c) ∧ (∀ i, i ≠ 941 → gI o i = gI s i) ∧ (∀ k, k ≠ 48 → gA o k = gA s k)) := by
  unfold m_x0_add m_x0_add_J30
  refine pc_rg (pc_if (fun c => by omega) (fun c => pc_inb (pc_stn (fun s5 e5 => pc_stn (fun s6 e6 => pc_some ⟨⟨?_, (q_Ia e6).trans (q_AA e5)⟩, fun i hi => (q_Ii e6 hi).trans (q_Ai e5), fun k hk => (q_Ia e6).trans (q_Aa e5 hk)⟩)))))
  rw [(q_II e6 : gI s6 941 = _), (q_Ai e5 : gI s5 941 = gI s 941)]
/-- the last one that waits is told -/
theorem y_drop {b0 : Int} {f0 : Nat → Int} {k0 e : Int} {s t : MS} {K E : List Int} (h : REL k0 b0 f0 s t K (e :: E)) : pc (m_x12_qDrops t) (fun o => REL k0 b0 f0 s o K E ∧ (gI o 106 = gI t 106 ∧ gA o 103 = gA t 103)) := by
  obtain ⟨h1, h2, ⟨h3, h3'⟩, ⟨⟨c1, c2, c3⟩, c4, c5⟩, h5⟩ := h
  rw [List.length_cons] at c1
  have hk : gI t 106 < gI t 104 ∧ gA t 103 (gI t 104 - 1).toNat = e ∧ SKr (gA t 103) (gI t 106) (gI t 104 - 1) (E ++ K) := h3'
  unfold m_x12_qDrops
  refine pc_stn (fun s1 e1 => pc_rdI (fun _ => pc_bq y_code (fun s4 h4 => pc_some ?_)))
  obtain ⟨⟨a1, a2⟩, a3, a4⟩ := h4
  have kI : ∀ i, i ≠ 102 → i ≠ 104 → gI s4 i = gI t i := fun i x y => (a3 i x).trans (q_Ii e1 y)
  have kA : ∀ k, k ≠ 101 → gA s4 k = gA t k := fun k x => (a4 k x).trans (q_Ia e1)
  have k104 : gI s4 104 = gI t 104 - 1 := (a3 104 (by decide)).trans (q_II e1)
  have k102 : gI s4 102 = gI t 102 + 1 := by rw [a1, (q_Ii e1 (by decide) : gI s1 102 = gI t 102)]
  have v : gA s1 103 (gI s1 104).toNat = e := by rw [(q_Ia e1 : gA s1 103 = gA t 103), (q_II e1 : gI s1 104 = _)]; exact hk.2.1
  have k101 : gA s4 101 = upZ (gA t 101) (gI t 102).toNat e := by rw [a2, v, (q_Ia e1 : gA s1 101 = gA t 101), (q_Ii e1 (by decide) : gI s1 102 = gI t 102)]
  refine ⟨⟨SY_f h1 (kI 2 (by decide) (by decide)) (kI 3 (by decide) (by decide)) (kI 4 (by decide) (by decide)) (kI 5 (by decide) (by decide)) (fun k hk => kA k (by omega)), OPN_e h2 rfl rfl (kI 105 (by decide) (by decide)) (kI 48 (by decide) (by decide)), by rw [kI 106 (by decide) (by decide), kA 103 (by decide), k104]; exact ⟨h3, hk.2.2⟩, ⟨⟨by omega, by omega, c3⟩, fun j hj => ?_, ?_⟩, h5.1, BS_e h5.2 (kI 106 (by decide) (by decide)) (kA 103 (by decide))⟩, kI 106 (by decide) (by decide), kA 103 (by decide)⟩
  · rw [k101]
    by_cases z : j = (gI t 102).toNat
    · rw [z, upZ_s, show k0.toNat + (gI t 102).toNat = (k0 + gI t 102).toNat by omega]; exact c5.1
    · rw [upZ_n z]; exact c4 j (by omega)
  · rw [k102, show (k0 + (gI t 102 + 1)).toNat = (k0 + gI t 102).toNat + 1 by omega]; exact c5.2
/-- one more waits -/
theorem REL_push {b0 : Int} {f0 : Nat → Int} {k0 x : Int} {s t o : MS} {K : List Int} (h : REL k0 b0 f0 s t K []) (hI : ∀ i, i ≠ 104 → gI o i = gI t i) (hA : ∀ k, k ≠ 103 → gA o k = gA t k) (h4 : gI o 104 = gI t 104 + 1) (h3 : gA o 103 = upZ (gA t 103) (gI t 104).toNat x) : REL k0 b0 f0 s o (x :: K) [] := by
  obtain ⟨h1, h2, ⟨⟨b1, b2⟩, b3⟩, c, h5⟩ := h
  have b3' : SKr (gA t 103) (gI t 106) (gI t 104) K := b3
  have le := SKr_le b3'
  refine ⟨SY_f h1 (hI 2 (by decide)) (hI 3 (by decide)) (hI 4 (by decide)) (hI 5 (by decide)) (fun k hk => hA k (by omega)), OPN_e h2 rfl rfl (hI 105 (by decide)) (hI 48 (by decide)), ?_, ?_, h5.1, (hI 106 (by decide)).trans h5.2.1, fun j hj => ?_⟩
  · rw [hI 106 (by decide), h4, h3]
    exact ⟨⟨b1, fun q => by rw [upZ_n (by omega)]; exact b2 q⟩, SKr_push b1 b3'⟩
  · unfold CO at c ⊢
    rw [hI 102 (by decide), hA 101 (by decide)]; exact c
  · have := h5.2.1
    rw [h3, upZ_n (by omega)]; exact h5.2.2 j hj
/-- the class tells a step that waits with the reference -/
theorem REL_add {b0 : Int} {f0 : Nat → Int} {k0 x c : Int} {s s' t : MS} {K E : List Int} (h : REL k0 b0 f0 s t (x :: K) E) (hc : cr c x) (hb : gI s 941 + 1 ≤ gI s 108) (e : m_x0_add c s = some s') : REL k0 b0 f0 s' t K (E ++ [x]) ∧ gI s' 941 = gI s 941 + 1 ∧ (∀ i, i ≠ 941 → gI s' i = gI s i) := by
  obtain ⟨h1, h2, ⟨b1, b3⟩, ⟨⟨c1, c2, c3⟩, c4, c5⟩, h5⟩ := h
  have k1 := h1.2.2.1.1.1
  obtain ⟨⟨a1, a2⟩, a3, a4⟩ := s_add (by omega) s' e
  refine ⟨⟨SY_c h1 (fun i hi => a3 i (by omega)) (a4 4 (by decide)) (a4 6 (by decide)), OPN_e h2 (a3 106 (by decide)) (a3 105 (by decide)) rfl rfl, ⟨b1, by rw [List.append_assoc]; exact b3⟩, ⟨⟨?_, c2, c3⟩, fun j hj => ?_, ?_⟩, by rw [a1, a3 108 (by decide)]; exact hb, h5.2⟩, a1, a3⟩
  · rw [a1, c1, List.length_append]
    show k0 + gI t 102 + (E.length : Int) + 1 = k0 + gI t 102 + ((E.length + 1 : Nat) : Int)
    omega
  · rw [a2, upZ_n (by omega)]; exact c4 j hj
  · refine ELr_app ?_ ?_
    · rw [a2]; exact ELr_up c5 (by omega)
    · rw [a2, show (k0 + gI t 102).toNat + E.length = (gI s 941).toNat by omega, upZ_s]; exact hc
/-- both sides tell a step -/
theorem CO_both {k0 c d : Int} {s s' t o : MS} (h : CO k0 s t []) (hc : cr c d) (a1 : gI s' 941 = gI s 941 + 1) (a2 : gA s' 48 = upZ (gA s 48) (gI s 941).toNat c) (r1 : gI o 102 = gI t 102 + 1) (r2 : gA o 101 = upZ (gA t 101) (gI t 102).toNat d) : CO k0 s' o [] := by
  obtain ⟨⟨c1, c2, c3⟩, c4, _⟩ := h
  have c1 : gI s 941 = k0 + gI t 102 + 0 := c1
  refine ⟨⟨?_, by omega, c3⟩, fun j hj => ?_, trivial⟩
  · rw [a1, r1, c1]
    show k0 + gI t 102 + 0 + 1 = k0 + (gI t 102 + 1) + ((0 : Nat) : Int)
    omega
  · rw [a2, r2]
    by_cases z : j = (gI t 102).toNat
    · rw [z, upZ_s, show k0.toNat + (gI t 102).toNat = (gI s 941).toNat by omega, upZ_s]; exact hc
    · rw [upZ_n z, upZ_n (by omega)]; exact c4 j (by omega)
theorem REL_mk {b0 : Int} {f0 : Nat → Int} {k0 : Int} {s s' t o : MS} {K E : List Int} (h : REL k0 b0 f0 s t K []) (hS : SY s' o) (ho : OPN s' o) (k6 : gI o 106 = gI t 106) (k4 : gI o 104 = gI t 104) (k3 : gA o 103 = gA t 103) (hC : CO k0 s' o []) (hb : gI s' 941 ≤ gI s' 108) : REL k0 b0 f0 s' o K [] := ⟨hS, ho, by rw [k6, k4, k3]; exact h.2.2.1, hC, hb, BS_e h.2.2.2.2.2 k6 k3⟩
/-- the bracket that is open last -/
def brj : List Int → Int
  | [] => -1
  | k :: K => if 20 ≤ k ∧ k ≤ 24 then k else brj K
def hdk : List Int → Int
  | [] => 0
  | k :: _ => k
theorem y_isBr {p0 : Int} {s : MS} : pc (m_x12_qIsBracket p0 s) (fun r => (r = 1 ∧ 20 ≤ p0 ∧ p0 ≤ 24) ∨ (r = 0 ∧ ¬ (20 ≤ p0 ∧ p0 ≤ 24))) := by
  unfold m_x12_qIsBracket m_x12_qIsBracket_J16 m_x12_qIsBracket_J17
  exact pc_rg (pc_if (fun c => pc_bo (pc_some (Or.inr ⟨rfl, by omega⟩))) (fun c => pc_rg (pc_if (fun c2 => pc_bo (pc_some (Or.inr ⟨rfl, by omega⟩))) (fun c2 => pc_bo (pc_some (Or.inl ⟨rfl, by omega, by omega⟩))))))
theorem y_bracket {t : MS} {L : List Int} (h0 : 0 ≤ gI t 106) (h : SKr (gA t 103) (gI t 106) (gI t 104) L) : pc (m_x12_qBracket t) (fun r => r = brj L) := by
  have LP : ∀ (n : Nat) (M : List Int) (x : Int), SKr (gA t 103) (gI t 106) (x + 1) M → pc (m_x12_qBracket_L7 t n x) (fun r => r = brj M) := by
    refine fr_ind (fun _ _ _ => pc_none) (fun n ih M x H => ?_)
    show pc (m_x12_qBracket_b7 t (m_x12_qBracket_L7 t n) x) _
    unfold m_x12_qBracket_b7 m_x12_qBracket_J33 m_x12_qBracket_J51
    cases M with
    | nil =>
      have e : x + 1 = gI t 106 := H
      exact pc_rg (pc_rg (pc_if (fun c => pc_rg (pc_rg (pc_if (fun c2 => pc_some rfl) (fun c2 => by omega)))) (fun c => by omega)))
    | cons k M =>
      have h1 : gI t 106 < x + 1 := H.1
      have h2 : gA t 103 (x + 1 - 1).toNat = k := H.2.1
      have h3 : SKr (gA t 103) (gI t 106) (x + 1 - 1) M := H.2.2
      rw [show x + 1 - 1 = x by omega] at h2 h3
      refine pc_rg (pc_rg (pc_if (fun c => by omega) (fun c => pc_rdI (fun _ => ?_))))
      rw [h2]
      refine pc_bq y_isBr (fun r13 h13 => pc_rg (pc_if (fun c2 => ?_) (fun c2 => pc_rg (pc_rg (pc_if (fun c3 => by omega) (fun c3 => pc_rdI (fun _ => pc_some ?_)))))))
      · refine pc_mono (ih M (x + -1) (by rw [show x + -1 + 1 = x by omega]; exact h3)) (fun r hr => ?_)
        rw [hr]
        show brj M = if 20 ≤ k ∧ k ≤ 24 then k else brj M
        rw [if_neg (by omega)]
      · show gA t 103 x.toNat = if 20 ≤ k ∧ k ≤ 24 then k else brj M
        rw [if_pos (by omega), h2]
  unfold m_x12_qBracket
  exact LP FU L (gI t 104 - 1) (by rw [show gI t 104 - 1 + 1 = gI t 104 by omega]; exact h)
theorem y_isOn {b0 : Int} {f0 : Nat → Int} {k0 p0 : Int} {s t : MS} {K E : List Int} (h : REL k0 b0 f0 s t K E) (hp : 1 ≤ p0 ∧ p0 ≤ 4) : pc (m_x12_qIsOn p0 t) (fun r => (r = 1 ∧ hdk (E ++ K) = p0) ∨ (r = 0 ∧ hdk (E ++ K) ≠ p0)) := by
  obtain ⟨⟨b1, b2⟩, b3⟩ := h.2.2.1
  unfold m_x12_qIsOn m_x12_qIsOn_J26 m_x12_qIsOn_J27
  cases hL : E ++ K with
  | nil =>
    rw [hL] at b3
    have e : gI t 104 = gI t 106 := b3
    refine pc_rg (pc_if (fun c => pc_bo (pc_some (Or.inr ⟨rfl, by show (0 : Int) ≠ p0; omega⟩))) (fun c => pc_rdI (fun _ => pc_rg (pc_rg (pc_if (fun c2 => ?_) (fun c2 => pc_bo (pc_some (Or.inr ⟨rfl, by show (0 : Int) ≠ p0; omega⟩))))))))
    exfalso
    have q := b2 (by omega)
    rw [e] at c2
    omega
  | cons k L =>
    rw [hL] at b3
    have h1 : gI t 106 < gI t 104 := b3.1
    have h2 : gA t 103 (gI t 104 - 1).toNat = k := b3.2.1
    refine pc_rg (pc_if (fun c => by omega) (fun c => pc_rdI (fun _ => pc_rg (pc_rg (pc_if (fun c2 => pc_bo (pc_some (Or.inl ⟨rfl, by show k = p0; omega⟩))) (fun c2 => pc_bo (pc_some (Or.inr ⟨rfl, by show k ≠ p0; omega⟩))))))))
/-- all that waits above the bracket is told -/
theorem y_dtb {b0 : Int} {f0 : Nat → Int} {k0 b : Int} {s : MS} {K : List Int} (hb : 20 ≤ b ∧ b ≤ 24) : ∀ (n : Nat) (E : List Int) (t : MS), REL k0 b0 f0 s t (b :: K) E → (∀ e, e ∈ E → ¬ (20 ≤ e ∧ e ≤ 24)) → pc (m_x12_qDropsToBracket_L0 n t) (fun o => REL k0 b0 f0 s o (b :: K) [] ∧ (gI o 106 = gI t 106 ∧ ∀ j : Nat, (j : Int) < gI o 104 → gA o 103 j = gA t 103 j)) := by
  refine fr_ind (fun _ _ _ _ => pc_none) (fun n ih E t h hE => ?_)
  show pc (m_x12_qDropsToBracket_b0 (m_x12_qDropsToBracket_L0 n) t) _
  unfold m_x12_qDropsToBracket_b0 m_x12_qDropsToBracket_J35
  obtain ⟨⟨b1, b2⟩, b3⟩ := h.2.2.1
  cases E with
  | nil =>
    have h1 : gI t 106 < gI t 104 := b3.1
    have h2 : gA t 103 (gI t 104 - 1).toNat = b := b3.2.1
    refine pc_rg (pc_rg (pc_if (fun c => by omega) (fun c => pc_rdI (fun _ => ?_))))
    rw [h2]
    exact pc_bq y_isBr (fun r8 h8 => pc_rg (pc_if (fun c2 => by omega) (fun c2 => pc_some ⟨h, rfl, fun _ _ => rfl⟩)))
  | cons e E =>
    have h1 : gI t 106 < gI t 104 := b3.1
    have h2 : gA t 103 (gI t 104 - 1).toNat = e := b3.2.1
    have he := hE e (List.mem_cons_self)
    refine pc_rg (pc_rg (pc_if (fun c => by omega) (fun c => pc_rdI (fun _ => ?_))))
    rw [h2]
    refine pc_bq y_isBr (fun r8 h8 => pc_rg (pc_if (fun c2 => pc_bq (y_drop h) (fun s12 h12 => ?_)) (fun c2 => by omega)))
    refine pc_mono (ih E s12 h12.1 (fun x hx => hE x (List.mem_cons_of_mem _ hx))) (fun o ho => ⟨ho.1, ho.2.1.trans h12.2.1, fun j hj => (ho.2.2 j hj).trans (by rw [h12.2.2])⟩)
/-- times or by: what binds as much is told first -/
theorem y_L162 {b0 : Int} {f0 : Nat → Int} {k0 x : Int} {s : MS} {K : List Int} (hK : ¬ (hdk K = 3 ∨ hdk K = 4)) : ∀ (n : Nat) (E : List Int) (t : MS), REL k0 b0 f0 s t K E → (∀ e, e ∈ E → e = 3 ∨ e = 4) → pc (m_x12_qGoesOn_L162 n x t) (fun q => q.1 = 1 ∧ REL k0 b0 f0 s q.2 (x :: K) []) := by
  refine fr_ind (fun _ _ _ _ => pc_none) (fun n ih E t h hE => ?_)
  show pc (m_x12_qGoesOn_b162 (m_x12_qGoesOn_L162 n) x t) _
  unfold m_x12_qGoesOn_b162 m_x12_qGoesOn_J178
  have drop : (hdk (E ++ K) = 3 ∨ hdk (E ++ K) = 4) → pc (bn (m_x12_qDrops t) (fun s48 => m_x12_qGoesOn_L162 n x s48)) (fun q => q.1 = 1 ∧ REL k0 b0 f0 s q.2 (x :: K) []) := fun hd => by
    cases E with
    | nil => exact absurd hd hK
    | cons e E => exact pc_bq (y_drop h) (fun s48 h48 => ih E s48 h48.1 (fun y hy => hE y (List.mem_cons_of_mem _ hy)))
  refine pc_bq (y_isOn h (by omega)) (fun r50 h50 => pc_rg (pc_if (fun c => pc_bq (y_isOn h (by omega)) (fun r54 h54 => pc_rg (pc_if (fun c2 => pc_inb (pc_stn (fun s58 e58 => pc_stn (fun s59 e59 => pc_some ⟨rfl, ?_⟩)))) (fun c2 => drop ?_)))) (fun c => drop ?_)))
  · have eE : E = [] := by
      cases E with
      | nil => rfl
      | cons e E =>
        have q := hE e (List.mem_cons_self)
        have : hdk (e :: E ++ K) = e := rfl
        omega
    subst eE
    exact REL_push h (fun i hi => (q_Ii e59 hi).trans (q_Ai e58)) (fun k hk => (q_Ia e59).trans (q_Aa e58 hk)) (by rw [(q_II e59 : gI s59 104 = _), (q_Ai e58 : gI s58 104 = gI t 104)]) ((q_Ia e59).trans (q_AA e58))
  · rcases h54 with q | q
    · exact Or.inr q.2
    · omega
  · rcases h50 with q | q
    · exact Or.inl q.2
    · omega
/-- plus or less: all steps of the sum at hand are told first -/
theorem y_L247 {b0 : Int} {f0 : Nat → Int} {k0 x : Int} {s : MS} {K : List Int} (hK : ¬ (1 ≤ hdk K ∧ hdk K ≤ 4)) : ∀ (n : Nat) (E : List Int) (t : MS), REL k0 b0 f0 s t K E → (∀ e, e ∈ E → 1 ≤ e ∧ e ≤ 4) → pc (m_x12_qGoesOn_L247 n x t) (fun q => q.1 = 1 ∧ REL k0 b0 f0 s q.2 (x :: K) []) := by
  refine fr_ind (fun _ _ _ _ => pc_none) (fun n ih E t h hE => ?_)
  show pc (m_x12_qGoesOn_b247 (m_x12_qGoesOn_L247 n) x t) _
  unfold m_x12_qGoesOn_b247 m_x12_qGoesOn_J279
  have drop : (1 ≤ hdk (E ++ K) ∧ hdk (E ++ K) ≤ 4) → pc (bn (m_x12_qDrops t) (fun s17 => m_x12_qGoesOn_L247 n x s17)) (fun q => q.1 = 1 ∧ REL k0 b0 f0 s q.2 (x :: K) []) := fun hd => by
    cases E with
    | nil => exact absurd hd hK
    | cons e E => exact pc_bq (y_drop h) (fun s17 h17 => ih E s17 h17.1 (fun y hy => hE y (List.mem_cons_of_mem _ hy)))
  refine pc_bq (y_isOn h (by omega)) (fun r19 h19 => pc_rg (pc_if (fun c => pc_bq (y_isOn h (by omega)) (fun r23 h23 => pc_rg (pc_if (fun c2 => pc_bq (y_isOn h (by omega)) (fun r27 h27 => pc_rg (pc_if (fun c3 => pc_bq (y_isOn h (by omega)) (fun r31 h31 => pc_rg (pc_if (fun c4 => pc_inb (pc_stn (fun s35 e35 => pc_stn (fun s36 e36 => pc_some ⟨rfl, ?_⟩)))) (fun c4 => drop ?_)))) (fun c3 => drop ?_)))) (fun c2 => drop ?_)))) (fun c => drop ?_)))
  · have eE : E = [] := by
      cases E with
      | nil => rfl
      | cons e E =>
        have q := hE e (List.mem_cons_self)
        have : hdk (e :: E ++ K) = e := rfl
        omega
    subst eE
    exact REL_push h (fun i hi => (q_Ii e36 hi).trans (q_Ai e35)) (fun k hk => (q_Ia e36).trans (q_Aa e35 hk)) (by rw [(q_II e36 : gI s36 104 = _), (q_Ai e35 : gI s35 104 = gI t 104)]) ((q_Ia e36).trans (q_AA e35))
  · rcases h31 with q | q <;> omega
  · rcases h27 with q | q <;> omega
  · rcases h23 with q | q <;> omega
  · rcases h19 with q | q <;> omega
