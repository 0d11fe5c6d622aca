/-! ===== contracts over larger worlds ===== -/
theorem Met_imp {l : Launch} {y : MethodName} {ws : List Cond} {rm : Room} {Pc Pc' : Array Value → State → Prop} {Qc Qc' : Array Value → State → Outcome → State → Prop} {mc ms : Nat} {free free' : Addr → Prop} (h : Met l y ws rm Pc Qc mc ms free) (hp : ∀ a s, Pc' a s → Pc a s) (hq : ∀ a st o t, Pc' a st → Qc a st o t → Qc' a st o t) (hf : ∀ q, free q → free' q) : Met l y ws rm Pc' Qc' mc ms free' := by
  intro p e h1 h2 h3 s m args below hfr hap hP hK
  obtain ⟨n, o, g1, g2, g3, g4, L, g5, g6⟩ := h p e h1 h2 h3 s m args below hfr hap (hp _ _ hP) trivial
  exact ⟨n, o, g1, g2, g3, hq _ _ _ _ hP g4, L, g5, fun q hq => hf _ (g6 q hq)⟩
theorem va_P_mem {D : va_G} {cl : List vw_C} {ws ws' : va_W} {H : Heap} (h : va_P D cl ws H) (hm : ∀ q, q ∈ ws' → q ∈ ws) : va_P D cl ws' H := by
  intro k q hk
  obtain ⟨i, hi⟩ := List.getElem?_of_mem (hm q (List.mem_of_getElem? hk))
  exact h i q hi
theorem va_P_app {D : va_G} {cl : List vw_C} {w1 w2 : va_W} {H : Heap} (h1 : va_P D cl w1 H) (h2 : va_P D cl w2 H) : va_P D cl (w1 ++ w2) H := by
  intro k q hk
  rcases List.mem_append.mp (List.mem_of_getElem? hk) with h | h
  · obtain ⟨i, hi⟩ := List.getElem?_of_mem h
    exact h1 i q hi
  · obtain ⟨i, hi⟩ := List.getElem?_of_mem h
    exact h2 i q hi
theorem va_P_l {D : va_G} {cl : List vw_C} {w1 w2 : va_W} {H : Heap} (h : va_P D cl (w1 ++ w2) H) : va_P D cl w1 H := va_P_mem h (fun q hq => List.mem_append_left _ hq)
theorem va_P_r {D : va_G} {cl : List vw_C} {w1 w2 : va_W} {H : Heap} (h : va_P D cl (w1 ++ w2) H) : va_P D cl w2 H := va_P_mem h (fun q hq => List.mem_append_right _ hq)
theorem va_D_iff {A : Nat → Prop} {ws : va_W} : va_D A ws ↔ ws.Pairwise (fun p q => p.1 ≠ q.1) ∧ ∀ q, q ∈ ws → A q.1 := by
  constructor
  · intro h
    refine ⟨List.pairwise_iff_getElem.mpr (fun i j hi hj hij e => ?_), fun q hq => ?_⟩
    · have := h.1 i j _ _ (List.getElem?_eq_getElem hi) (List.getElem?_eq_getElem hj) e
      omega
    · obtain ⟨i, hi⟩ := List.getElem?_of_mem hq
      exact h.2 i q hi
  · intro h
    refine ⟨fun i j x y hi hj e => ?_, fun k q hk => h.2 q (List.mem_of_getElem? hk)⟩
    obtain ⟨hi1, hi2⟩ := List.getElem?_eq_some_iff.mp hi
    obtain ⟨hj1, hj2⟩ := List.getElem?_eq_some_iff.mp hj
    rcases Nat.lt_trichotomy i j with hl | hl | hl
    · exact absurd (by rw [hi2, hj2]; exact e) (List.pairwise_iff_getElem.mp h.1 i j hi1 hj1 hl)
    · exact hl
    · exact absurd (by rw [hi2, hj2]; exact e.symm) (List.pairwise_iff_getElem.mp h.1 j i hj1 hi1 hl)
theorem va_D_perm {A : Nat → Prop} {ws ws' : va_W} (h : va_D A ws) (p : ws'.Perm ws) : va_D A ws' := by
  rw [va_D_iff] at h ⊢
  exact ⟨(p.pairwise_iff (fun h => fun e => h e.symm)).mpr h.1, fun q hq => h.2 q (p.mem_iff.mp hq)⟩
theorem va_D_l {A : Nat → Prop} {w1 w2 : va_W} (h : va_D A (w1 ++ w2)) : va_D A w1 := by
  rw [va_D_iff] at h ⊢
  exact ⟨(List.pairwise_append.mp h.1).1, fun q hq => h.2 q (List.mem_append_left _ hq)⟩
theorem va_A_mem {ws : va_W} {sz q : Nat} : va_A ws sz q ↔ (∃ e, (q, e) ∈ ws) ∨ sz ≤ q := by
  constructor
  · rintro (⟨k, e, h⟩ | h)
    · exact Or.inl ⟨e, List.mem_of_getElem? h⟩
    · exact Or.inr h
  · rintro (⟨e, h⟩ | h)
    · obtain ⟨k, hk⟩ := List.getElem?_of_mem h
      exact Or.inl ⟨k, e, hk⟩
    · exact Or.inr h
theorem va_A_up {w w' : va_W} {sz : Nat} (hm : ∀ q, q ∈ w → q ∈ w') : ∀ q, va_A w sz q → va_A w' sz q := by
  intro q h
  rw [va_A_mem] at h ⊢
  rcases h with ⟨e, h⟩ | h
  · exact Or.inl ⟨e, hm _ h⟩
  · exact Or.inr h
/-- the heart of the frame: beside P lies T, which stays -/
theorem y_beside {D : va_G} {P P' T : va_W} {st t : State} (hz : zW D st.heap.size (P ++ T) st) (hB : zB D (va_A P st.heap.size) P' t) (hF : va_F (va_A P st.heap.size) st t) : zB D (va_A (P ++ T) st.heap.size) (P' ++ T) t ∧ va_F (va_A (P ++ T) st.heap.size) st t := by
  obtain ⟨-, hP, hK, hD⟩ := hz
  obtain ⟨hP', hK', hD'⟩ := hB
  have hD0 := va_D_iff.mp hD
  have hT : va_P D vwCl T st.heap := va_P_r hP
  have hlt : ∀ q, q ∈ T → q.1 < st.heap.size := fun q hq => by
    obtain ⟨k, hk⟩ := List.getElem?_of_mem hq
    exact (hT k q hk).lt
  have hno : ∀ q, q ∈ T → ¬ va_A P st.heap.size q.1 := fun q hq h => by
    rw [va_A_mem] at h
    rcases h with ⟨e, h⟩ | h
    · exact (List.pairwise_append.mp hD0.1).2.2 _ h q hq rfl
    · have := hlt q hq
      omega
  refine ⟨⟨va_P_app hP' (hT.kept (fun k q hq => hF.2 q.1 (hlt q (List.mem_of_getElem? hq)) (hno q (List.mem_of_getElem? hq)))), hK', ?_⟩, hF.1, fun q h1 h2 => hF.2 q h1 (fun h => h2 (va_A_up (fun x hx => List.mem_append_left _ hx) q h))⟩
  rw [va_D_iff] at hD' ⊢
  refine ⟨List.pairwise_append.mpr ⟨hD'.1, (List.pairwise_append.mp hD0.1).2.1, fun x hx y hy e => hno y hy ?_⟩, fun q hq => ?_⟩
  · rw [← e]
    exact hD'.2 x hx
  · rcases List.mem_append.mp hq with h | h
    · exact va_A_up (fun x hx => List.mem_append_left _ hx) q.1 (hD'.2 q h)
    · rw [va_A_mem]
      exact Or.inl ⟨q.2, List.mem_append_right _ h⟩
theorem zW_l {D : va_G} {sz : Nat} {P T : va_W} {U : State} (h : zW D sz (P ++ T) U) : zW D sz P U := ⟨h.1, va_P_l h.2.1, h.2.2.1, va_D_l h.2.2.2⟩
section FR
variable {l : Launch} {y : MethodName} {bytes : ByteArray} {maxL : Nat} {ret : Option FieldType} {rm : Room} {D : va_G} {sz : Nat} {av : List Value} {P P' : va_W}
theorem yRi_f {r : Int32} (T : va_W) (h : yRi l y bytes maxL ret rm D av P r) : yRi l y bytes maxL ret rm D av (P ++ T) r := Met_imp h (fun a s hp => ⟨hp.1, ⟨va_P_l hp.2.1.1, hp.2.1.2⟩, hp.2.2⟩) (fun _ _ _ _ _ hq => hq) (fun _ h => h)
theorem yRl_f {r : Int64} (T : va_W) (h : yRl l y bytes maxL ret rm D av P r) : yRl l y bytes maxL ret rm D av (P ++ T) r := Met_imp h (fun a s hp => ⟨hp.1, ⟨va_P_l hp.2.1.1, hp.2.1.2⟩, hp.2.2⟩) (fun _ _ _ _ _ hq => hq) (fun _ h => h)
theorem yWi_f {r : Int32} (T : va_W) (h : yWi l y bytes maxL ret rm D sz av P P' r) : yWi l y bytes maxL ret rm D sz av (P ++ T) (P' ++ T) r := by
  refine Met_imp h (fun a s hp => ⟨hp.1, zW_l hp.2.1, hp.2.2⟩) (fun a st o t hp hq => ?_) (va_A_up (fun x hx => List.mem_append_left _ hx))
  obtain ⟨-, hz, -⟩ := hp
  obtain ⟨⟨q, u, h1, h2, h3⟩, hF⟩ := hq
  obtain rfl := hz.1
  obtain ⟨g1, g2⟩ := y_beside hz h3 hF
  exact ⟨⟨q, u, h1, h2, g1⟩, g2⟩
theorem yWl_f {r : Int64} (T : va_W) (h : yWl l y bytes maxL ret rm D sz av P P' r) : yWl l y bytes maxL ret rm D sz av (P ++ T) (P' ++ T) r := by
  refine Met_imp h (fun a s hp => ⟨hp.1, zW_l hp.2.1, hp.2.2⟩) (fun a st o t hp hq => ?_) (va_A_up (fun x hx => List.mem_append_left _ hx))
  obtain ⟨-, hz, -⟩ := hp
  obtain ⟨⟨q, u, h1, h2, h3⟩, hF⟩ := hq
  obtain rfl := hz.1
  obtain ⟨g1, g2⟩ := y_beside hz h3 hF
  exact ⟨⟨q, u, h1, h2, g1⟩, g2⟩
theorem yWv_f (T : va_W) (h : yWv l y bytes maxL ret rm D sz av P P') : yWv l y bytes maxL ret rm D sz av (P ++ T) (P' ++ T) := by
  refine Met_imp h (fun a s hp => ⟨hp.1, zW_l hp.2.1, hp.2.2⟩) (fun a st o t hp hq => ?_) (va_A_up (fun x hx => List.mem_append_left _ hx))
  obtain ⟨-, hz, -⟩ := hp
  obtain ⟨⟨u, h1, h2, h3⟩, hF⟩ := hq
  obtain rfl := hz.1
  obtain ⟨g1, g2⟩ := y_beside hz h3 hF
  exact ⟨⟨u, h1, h2, g1⟩, g2⟩
end FR
theorem ap_g {α : Type} {P T : List α} {k : Nat} {q : α} (h : P[k]? = some q) : (P ++ T)[k]? = some q := by
  rw [List.getElem?_append_left (List.getElem?_eq_some_iff.mp h).1]
  exact h
theorem ap_s {α : Type} {P P' T : List α} {k : Nat} {q q0 : α} (h0 : P[k]? = some q0) (h : P.set k q = P') : (P ++ T).set k q = P' ++ T := by
  rw [List.set_append_left _ _ (List.getElem?_eq_some_iff.mp h0).1, h]
theorem pm_swap {α : Type} (X S Y T Z : List α) : (X ++ (S ++ (Y ++ (T ++ Z)))).Perm (X ++ (T ++ (Y ++ (S ++ Z)))) := by
  refine List.Perm.append_left X ?_
  have h1 : (S ++ (Y ++ (T ++ Z))).Perm (S ++ (T ++ (Y ++ Z))) := List.Perm.append_left S (List.perm_append_comm_assoc Y T Z)
  have h2 : (S ++ (T ++ (Y ++ Z))).Perm (T ++ (S ++ (Y ++ Z))) := List.perm_append_comm_assoc S T (Y ++ Z)
  have h3 : (T ++ (S ++ (Y ++ Z))).Perm (T ++ (Y ++ (S ++ Z))) := List.Perm.append_left T (List.perm_append_comm_assoc S Y Z)
  exact (h1.trans h2).trans h3
theorem z_rot {D : va_G} {cl : List vw_C} {A : Nat → Prop} {H : Heap} {x q : Nat × va_E} {r : va_W} (hP : va_P D cl ((x :: r) ++ [q]) H) (hD : va_D A ((x :: r) ++ [q])) : va_P D cl (x :: q :: r) H ∧ va_D A (x :: q :: r) := by
  have p : (x :: q :: r).Perm ((x :: r) ++ [q]) := by
    show (x :: q :: r).Perm (x :: (r ++ [q]))
    refine List.Perm.cons x ?_
    show ([q] ++ r).Perm (r ++ [q])
    exact List.perm_append_comm
  exact ⟨va_P_mem hP (fun y hy => p.mem_iff.mp hy), va_D_perm hD p⟩
theorem z_cls_obj {D : va_G} {s : State} {cA : ClassId} (h : va_K D vwCl (TY D) s) (h2 : va_K D vwCl (TY D ++ [(cA, .object "CloneVolumes$State")]) s) : cA = D.1 17 := by
  obtain ⟨_, _, _, _, _, e2⟩ := (h2.2 5 _ rfl).2
  obtain ⟨_, _, _, _, _, e1⟩ := (h.2 4 _ rfl).2
  exact Option.some.inj (e2.symm.trans e1)
def irl (n : Nat) : List Nat := (List.range n).map (· + 1)
theorem irl_map {α : Type} {x : α} {r : List α} : (irl r.length).map (fun i => (x :: r)[i]?) = r.map some := by
  apply List.ext_getElem
  · simp [irl]
  · intro i h1 h2
    simp [irl]
theorem va_nd_of {l : List Nat} (h : l.Nodup) : va_nd l = true := by
  induction l with
  | nil => rfl
  | cons a r ih =>
    rw [List.nodup_cons] at h
    simp [va_nd, h.1, ih h.2]
theorem irl_nd {n : Nat} : va_nd (irl n) = true := va_nd_of (List.Pairwise.map (S := (· ≠ ·)) (· + 1) (fun a b h e => h (Nat.add_right_cancel e)) List.nodup_range)
theorem irl_dis {n : Nat} : ∀ i ∈ irl n, i ∉ [0] := by
  intro i hi h
  simp [irl] at hi h
  obtain ⟨x, -, e⟩ := hi
  omega
theorem z_rot2 {D : va_G} {cl : List vw_C} {A : Nat → Prop} {H : Heap} {q : Nat × va_E} {r : va_W} (hP : va_P D cl (r ++ [q]) H) (hD : va_D A (r ++ [q])) : va_P D cl (q :: r) H ∧ va_D A (q :: r) := by
  have p : ([q] ++ r).Perm (r ++ [q]) := List.perm_append_comm
  exact ⟨va_P_mem hP (fun y hy => p.mem_iff.mp hy), va_D_perm hD p⟩
theorem c_i2 {F : Nat → Int} {k : Nat} {c : Int32} {v : Int} (hv : c = i2 v) : upd (fun j => i2 (F j)) k c = fun j => i2 (upZ F k v j) := by rw [hv]; exact upZ_i2
