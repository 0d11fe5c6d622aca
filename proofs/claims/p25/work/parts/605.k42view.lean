/-! ===== both sides' blocks, by rows ===== -/
def hB (s : MS) (b : Nat) : SH := (gA s (b + 2), gA s (b + 3), fun p k => gA s (b + 5) (6 * p + k))
def kB (s : MS) (b : Nat) : Nat → Nat → Int := fun p k => gA s (b + 4) (6 * p + k)
def hR (f : Nat → Int) : SH := (fun p => f (19 + 16 * p), fun p => f (20 + 16 * p), fun p k => if k < 6 then f (27 + 16 * p + k) else 0)
def kR (f : Nat → Int) : Nat → Nat → Int := fun p k => if k < 6 then f (21 + 16 * p + k) else 0
def cR (f : Nat → Int) : Nat → Int := fun p => f (17 + 16 * p)
def vR (f : Nat → Int) : Nat → Int := fun p => f (18 + 16 * p)
theorem hB_54 (s : MS) : hB s 54 = hN s := rfl
theorem kB_54 (s : MS) : kB s 54 = kN s := rfl
theorem hR_M (t : MS) : hR (gA t 49) = hM t := rfl
theorem kR_M (t : MS) : kR (gA t 49) = kM t := rfl
theorem cR_M (t : MS) : cR (gA t 49) = cM t := rfl
theorem vR_M (t : MS) : vR (gA t 49) = vM t := rfl
/-- one store on both sides, the class's rows from b on -/
def TRf (π σ : Nat → Nat) (N : Int) (s : MS) (b : Nat) (f : Nat → Int) : Prop := PNM π σ N ∧ (∀ x, x < 48 → gA s b (π x) = cR f x ∧ gA s (b + 1) (π x) = vR f x) ∧ (∀ x, x < 48 → 0 < cR f x ∨ 0 < vR f x → BR1 π (hB s b) (hR f) (kB s b) (kR f) x) ∧ (∀ v, v < 8 → rtr π (gA s (b + 6) v) (f v) ∧ rtr π (gA s (b + 7) v) (f (8 + v)))
theorem TRf_r {π σ : Nat → Nat} {N : Int} {s : MS} {b : Nat} {f g : Nat → Int} (H : TRf π σ N s b f) (e : ∀ k, k < 785 → g k = f k) : TRf π σ N s b g := by
  obtain ⟨p, c, l, r⟩ := H
  refine ⟨p, fun x hx => ?_, fun x hx q => ?_, fun v hv => ?_⟩
  · have := c x hx
    show gA s b (π x) = g (17 + 16 * x) ∧ gA s (b + 1) (π x) = g (18 + 16 * x)
    rw [e _ (by omega), e _ (by omega)]
    exact this
  · have q' : 0 < cR f x ∨ 0 < vR f x := by
      show 0 < f (17 + 16 * x) ∨ 0 < f (18 + 16 * x)
      rw [← e (17 + 16 * x) (by omega), ← e (18 + 16 * x) (by omega)]
      exact q
    have B := l x hx q'
    unfold BR1 at B ⊢
    have e1 : (hR g).1 x = (hR f).1 x := e _ (by omega)
    have e2 : (hR g).2.1 x = (hR f).2.1 x := e _ (by omega)
    have e3 : ∀ k, (hR g).2.2 x k = (hR f).2.2 x k := fun k => by
      show (if k < 6 then g (27 + 16 * x + k) else 0) = if k < 6 then f (27 + 16 * x + k) else 0
      by_cases z : k < 6
      · rw [if_pos z, if_pos z]; exact e _ (by omega)
      · rw [if_neg z, if_neg z]
    have e4 : ∀ k, kR g x k = kR f x k := fun k => by
      show (if k < 6 then g (21 + 16 * x + k) else 0) = if k < 6 then f (21 + 16 * x + k) else 0
      by_cases z : k < 6
      · rw [if_pos z, if_pos z]; exact e _ (by omega)
      · rw [if_neg z, if_neg z]
    rw [e1, e2]
    exact ⟨B.1, B.2.1, fun k hk => by rw [e3, e4]; exact B.2.2 k hk⟩
  · rw [e _ (by omega), e _ (by omega)]; exact r v hv
/-- rows copied -/
theorem TRf_c {π σ : Nat → Nat} {N : Int} {s o : MS} {a b i j : Nat} {f : Nat → Int} (H : TRf π σ N s a f) (h : BC s o a b i j) (z : ∀ x, x < 48 → 0 < cR f x ∨ 0 < vR f x → (hR f).2.1 x ≤ 6) : TRf π σ N o b f := by
  obtain ⟨p, c, l, r⟩ := H
  refine ⟨p, fun x hx => ?_, fun x hx q => ?_, fun v hv => ?_⟩
  · have := h.1 (π x) (p x hx).1.1
    rw [this.1, this.2.1]; exact c x hx
  · have B := l x hx q
    have px := (p x hx).1.1
    have zz := z x hx q
    have hh := h.1 (π x) px
    refine ⟨?_, ?_, fun k hk => ?_⟩
    · show gA o (b + 2) (π x) = _
      rw [hh.2.2.1]; exact B.1
    · show gA o (b + 3) (π x) = _
      rw [hh.2.2.2]; exact B.2.1
    · have h2 := h.2.1 (6 * π x + k) (by omega)
      have B2 := B.2.2 k hk
      show gA o (b + 4) (6 * π x + k) = _ ∧ (_ → gA o (b + 5) (6 * π x + k) = _) ∧ (_ → gA o (b + 5) (6 * π x + k) = _)
      rw [h2.1, h2.2]; exact B2
  · have := h.2.2.1 v hv
    rw [this.1, this.2]; exact r v hv
/-- the marks: what the act took or changed -/
def WR (π : Nat → Nat) (s t : MS) : Prop := ∀ x, x < 48 → 0 < cM t x → (bW (gL s 1062) (π x) ↔ gA t 54 x ≠ 0)
/-- both sides now -/
def SIM (π σ : Nat → Nat) (s t : MS) : Prop := TRf π σ (gI s 1060) s 54 (gA t 49) ∧ gI s 1060 = gA t 39 5 ∧ WR π s t
