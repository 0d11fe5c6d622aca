-- ===== PART A: goes FIRST, ahead of the names: the tables' words, and 'selects' of the private methods out of them =====
theorem lw_t_1 {w : Cond} (h : w ∈ tables_1_1) : w ∈ tables_1 := (List.mem_append_left _ h)
theorem lw_t_2 {w : Cond} (h : w ∈ tables_1_2) : w ∈ tables_1 := (List.mem_append_right _ (List.mem_append_left _ h))
theorem lw_t_3 {w : Cond} (h : w ∈ tables_1_3) : w ∈ tables_1 := (List.mem_append_right _ (List.mem_append_right _ (List.mem_append_left _ h)))
theorem lw_t_4 {w : Cond} (h : w ∈ tables_1_4) : w ∈ tables_1 := (List.mem_append_right _ (List.mem_append_right _ (List.mem_append_right _ (List.mem_append_left _ h))))
theorem lw_t_5 {w : Cond} (h : w ∈ tables_1_5) : w ∈ tables_1 := (List.mem_append_right _ (List.mem_append_right _ (List.mem_append_right _ (List.mem_append_right _ (List.mem_append_left _ h)))))
theorem lw_t_6 {w : Cond} (h : w ∈ tables_1_6) : w ∈ tables_1 := (List.mem_append_right _ (List.mem_append_right _ (List.mem_append_right _ (List.mem_append_right _ (List.mem_append_right _ (List.mem_append_left _ h))))))
theorem lw_t_7 {w : Cond} (h : w ∈ tables_1_7) : w ∈ tables_1 := (List.mem_append_right _ (List.mem_append_right _ (List.mem_append_right _ (List.mem_append_right _ (List.mem_append_right _ (List.mem_append_right _ (List.mem_append_left _ h)))))))
theorem lw_t_8 {w : Cond} (h : w ∈ tables_1_8) : w ∈ tables_1 := (List.mem_append_right _ (List.mem_append_right _ (List.mem_append_right _ (List.mem_append_right _ (List.mem_append_right _ (List.mem_append_right _ (List.mem_append_right _ (List.mem_append_left _ h))))))))
theorem lw_t_9 {w : Cond} (h : w ∈ tables_1_9) : w ∈ tables_1 := (List.mem_append_right _ (List.mem_append_right _ (List.mem_append_right _ (List.mem_append_right _ (List.mem_append_right _ (List.mem_append_right _ (List.mem_append_right _ (List.mem_append_right _ (List.mem_append_left _ h)))))))))
theorem lw_t_10 {w : Cond} (h : w ∈ tables_1_10) : w ∈ tables_1 := (List.mem_append_right _ (List.mem_append_right _ (List.mem_append_right _ (List.mem_append_right _ (List.mem_append_right _ (List.mem_append_right _ (List.mem_append_right _ (List.mem_append_right _ (List.mem_append_right _ (List.mem_append_left _ h))))))))))
theorem lw_t_11 {w : Cond} (h : w ∈ tables_1_11) : w ∈ tables_1 := (List.mem_append_right _ (List.mem_append_right _ (List.mem_append_right _ (List.mem_append_right _ (List.mem_append_right _ (List.mem_append_right _ (List.mem_append_right _ (List.mem_append_right _ (List.mem_append_right _ (List.mem_append_right _ h))))))))))
/-- a private method of a class that the tables say can be made, by its rows of tables_1 -/
def lw_okq (q : MethodName × Nat) : Prop := (q.1.cls ≠ "java/lang/invoke/MethodHandle" ∧ q.1.cls ≠ "java/lang/invoke/VarHandle") ∧ Cond.instantiable q.1.cls q.2 ∈ tables_1 ∧ Cond.privateMethod q.1 ∈ tables_1 ∧ Cond.instanceMethod q.1 ∈ tables_1
theorem lw_p0 : lw_okq (⟨"CloneVolumes", "refuse", "(I)I"⟩, 13) := ⟨⟨by decide +kernel, by decide +kernel⟩, lw_t_1 (List.mem_of_getElem? (i := 22) (by decide +kernel)), lw_t_3 (List.mem_of_getElem? (i := 72) (by decide +kernel)), lw_t_3 (List.mem_of_getElem? (i := 73) (by decide +kernel))⟩
theorem lw_p1 : lw_okq (⟨"CloneVolumes$Reader", "begin", "(LCloneVolumes$Code;)V"⟩, 12) := ⟨⟨by decide +kernel, by decide +kernel⟩, lw_t_1 (List.mem_of_getElem? (i := 50) (by decide +kernel)), lw_t_3 (List.mem_of_getElem? (i := 93) (by decide +kernel)), lw_t_3 (List.mem_of_getElem? (i := 94) (by decide +kernel))⟩
theorem lw_p2 : lw_okq (⟨"CloneVolumes$Reader", "advance", "()V"⟩, 12) := ⟨⟨by decide +kernel, by decide +kernel⟩, lw_t_1 (List.mem_of_getElem? (i := 50) (by decide +kernel)), lw_t_3 (List.mem_of_getElem? (i := 97) (by decide +kernel)), lw_t_3 (List.mem_of_getElem? (i := 98) (by decide +kernel))⟩
theorem lw_p3 : lw_okq (⟨"CloneVolumes$Reader", "wordNumber", "()I"⟩, 12) := ⟨⟨by decide +kernel, by decide +kernel⟩, lw_t_1 (List.mem_of_getElem? (i := 50) (by decide +kernel)), lw_t_3 (List.mem_of_getElem? (i := 111) (by decide +kernel)), lw_t_3 (List.mem_of_getElem? (i := 112) (by decide +kernel))⟩
theorem lw_p4 : lw_okq (⟨"CloneVolumes$Reader", "readStatement", "(LCloneVolumes$Plan;)V"⟩, 12) := ⟨⟨by decide +kernel, by decide +kernel⟩, lw_t_1 (List.mem_of_getElem? (i := 50) (by decide +kernel)), lw_t_3 (List.mem_of_getElem? (i := 118) (by decide +kernel)), lw_t_3 (List.mem_of_getElem? (i := 119) (by decide +kernel))⟩
theorem lw_p5 : lw_okq (⟨"CloneVolumes$Reader", "fail", "(II)Z"⟩, 12) := ⟨⟨by decide +kernel, by decide +kernel⟩, lw_t_1 (List.mem_of_getElem? (i := 50) (by decide +kernel)), lw_t_3 (List.mem_of_getElem? (i := 122) (by decide +kernel)), lw_t_3 (List.mem_of_getElem? (i := 123) (by decide +kernel))⟩
theorem lw_p6 : lw_okq (⟨"CloneVolumes$Reader", "readBlocks", "(LCloneVolumes$Plan;)V"⟩, 12) := ⟨⟨by decide +kernel, by decide +kernel⟩, lw_t_1 (List.mem_of_getElem? (i := 50) (by decide +kernel)), lw_t_3 (List.mem_of_getElem? (i := 126) (by decide +kernel)), lw_t_3 (List.mem_of_getElem? (i := 127) (by decide +kernel))⟩
theorem lw_p7 : lw_okq (⟨"CloneVolumes$Reader", "expectNumber", "(II)I"⟩, 12) := ⟨⟨by decide +kernel, by decide +kernel⟩, lw_t_1 (List.mem_of_getElem? (i := 50) (by decide +kernel)), lw_t_3 (List.mem_of_getElem? (i := 130) (by decide +kernel)), lw_t_3 (List.mem_of_getElem? (i := 131) (by decide +kernel))⟩
theorem lw_p8 : lw_okq (⟨"CloneVolumes$Reader", "expectWord", "(I)V"⟩, 12) := ⟨⟨by decide +kernel, by decide +kernel⟩, lw_t_1 (List.mem_of_getElem? (i := 50) (by decide +kernel)), lw_t_3 (List.mem_of_getElem? (i := 134) (by decide +kernel)), lw_t_3 (List.mem_of_getElem? (i := 135) (by decide +kernel))⟩
theorem lw_p9 : lw_okq (⟨"CloneVolumes$Reader", "isWord", "(I)Z"⟩, 12) := ⟨⟨by decide +kernel, by decide +kernel⟩, lw_t_1 (List.mem_of_getElem? (i := 50) (by decide +kernel)), lw_t_3 (List.mem_of_getElem? (i := 138) (by decide +kernel)), lw_t_3 (List.mem_of_getElem? (i := 139) (by decide +kernel))⟩
theorem lw_p10 : lw_okq (⟨"CloneVolumes$Reader", "readVolume", "(LCloneVolumes$Plan;I)V"⟩, 12) := ⟨⟨by decide +kernel, by decide +kernel⟩, lw_t_1 (List.mem_of_getElem? (i := 50) (by decide +kernel)), lw_t_3 (List.mem_of_getElem? (i := 142) (by decide +kernel)), lw_t_3 (List.mem_of_getElem? (i := 143) (by decide +kernel))⟩
theorem lw_p11 : lw_okq (⟨"CloneVolumes$Reader", "isName", "()Z"⟩, 12) := ⟨⟨by decide +kernel, by decide +kernel⟩, lw_t_1 (List.mem_of_getElem? (i := 50) (by decide +kernel)), lw_t_3 (List.mem_of_getElem? (i := 146) (by decide +kernel)), lw_t_3 (List.mem_of_getElem? (i := 147) (by decide +kernel))⟩
theorem lw_p12 : lw_okq (⟨"CloneVolumes$Reader", "expectVolume", "(LCloneVolumes$Plan;)I"⟩, 12) := ⟨⟨by decide +kernel, by decide +kernel⟩, lw_t_1 (List.mem_of_getElem? (i := 50) (by decide +kernel)), lw_t_3 (List.mem_of_getElem? (i := 158) (by decide +kernel)), lw_t_3 (List.mem_of_getElem? (i := 159) (by decide +kernel))⟩
theorem lw_p13 : lw_okq (⟨"CloneVolumes$Reader", "readChange", "(LCloneVolumes$Plan;I)V"⟩, 12) := ⟨⟨by decide +kernel, by decide +kernel⟩, lw_t_1 (List.mem_of_getElem? (i := 50) (by decide +kernel)), lw_t_3 (List.mem_of_getElem? (i := 170) (by decide +kernel)), lw_t_3 (List.mem_of_getElem? (i := 171) (by decide +kernel))⟩
theorem lw_p14 : lw_okq (⟨"CloneVolumes$Reader", "beginFormula", "(LCloneVolumes$Plan;I)V"⟩, 12) := ⟨⟨by decide +kernel, by decide +kernel⟩, lw_t_1 (List.mem_of_getElem? (i := 50) (by decide +kernel)), lw_t_3 (List.mem_of_getElem? (i := 174) (by decide +kernel)), lw_t_3 (List.mem_of_getElem? (i := 175) (by decide +kernel))⟩
theorem lw_p15 : lw_okq (⟨"CloneVolumes$Reader", "readSum", "()V"⟩, 12) := ⟨⟨by decide +kernel, by decide +kernel⟩, lw_t_1 (List.mem_of_getElem? (i := 50) (by decide +kernel)), lw_t_3 (List.mem_of_getElem? (i := 178) (by decide +kernel)), lw_t_3 (List.mem_of_getElem? (i := 179) (by decide +kernel))⟩
def lw_privs_1 : List (MethodName × Nat) := [(⟨"CloneVolumes", "refuse", "(I)I"⟩, 13), (⟨"CloneVolumes$Reader", "begin", "(LCloneVolumes$Code;)V"⟩, 12), (⟨"CloneVolumes$Reader", "advance", "()V"⟩, 12), (⟨"CloneVolumes$Reader", "wordNumber", "()I"⟩, 12), (⟨"CloneVolumes$Reader", "readStatement", "(LCloneVolumes$Plan;)V"⟩, 12), (⟨"CloneVolumes$Reader", "fail", "(II)Z"⟩, 12), (⟨"CloneVolumes$Reader", "readBlocks", "(LCloneVolumes$Plan;)V"⟩, 12), (⟨"CloneVolumes$Reader", "expectNumber", "(II)I"⟩, 12), (⟨"CloneVolumes$Reader", "expectWord", "(I)V"⟩, 12), (⟨"CloneVolumes$Reader", "isWord", "(I)Z"⟩, 12), (⟨"CloneVolumes$Reader", "readVolume", "(LCloneVolumes$Plan;I)V"⟩, 12), (⟨"CloneVolumes$Reader", "isName", "()Z"⟩, 12), (⟨"CloneVolumes$Reader", "expectVolume", "(LCloneVolumes$Plan;)I"⟩, 12), (⟨"CloneVolumes$Reader", "readChange", "(LCloneVolumes$Plan;I)V"⟩, 12), (⟨"CloneVolumes$Reader", "beginFormula", "(LCloneVolumes$Plan;I)V"⟩, 12), (⟨"CloneVolumes$Reader", "readSum", "()V"⟩, 12)]
theorem lw_r1 : ∀ q ∈ lw_privs_1, lw_okq q := List.forall_mem_cons.mpr ⟨lw_p0, List.forall_mem_cons.mpr ⟨lw_p1, List.forall_mem_cons.mpr ⟨lw_p2, List.forall_mem_cons.mpr ⟨lw_p3, List.forall_mem_cons.mpr ⟨lw_p4, List.forall_mem_cons.mpr ⟨lw_p5, List.forall_mem_cons.mpr ⟨lw_p6, List.forall_mem_cons.mpr ⟨lw_p7, List.forall_mem_cons.mpr ⟨lw_p8, List.forall_mem_cons.mpr ⟨lw_p9, List.forall_mem_cons.mpr ⟨lw_p10, List.forall_mem_cons.mpr ⟨lw_p11, List.forall_mem_cons.mpr ⟨lw_p12, List.forall_mem_cons.mpr ⟨lw_p13, List.forall_mem_cons.mpr ⟨lw_p14, List.forall_mem_cons.mpr ⟨lw_p15, fun _ h => absurd h List.not_mem_nil⟩⟩⟩⟩⟩⟩⟩⟩⟩⟩⟩⟩⟩⟩⟩⟩
theorem lw_p16 : lw_okq (⟨"CloneVolumes$Reader", "readProduct", "()V"⟩, 12) := ⟨⟨by decide +kernel, by decide +kernel⟩, lw_t_1 (List.mem_of_getElem? (i := 50) (by decide +kernel)), lw_t_3 (List.mem_of_getElem? (i := 182) (by decide +kernel)), lw_t_3 (List.mem_of_getElem? (i := 183) (by decide +kernel))⟩
theorem lw_p17 : lw_okq (⟨"CloneVolumes$Reader", "readPart", "()V"⟩, 12) := ⟨⟨by decide +kernel, by decide +kernel⟩, lw_t_1 (List.mem_of_getElem? (i := 50) (by decide +kernel)), lw_t_3 (List.mem_of_getElem? (i := 186) (by decide +kernel)), lw_t_3 (List.mem_of_getElem? (i := 187) (by decide +kernel))⟩
theorem lw_p18 : lw_okq (⟨"CloneVolumes$Reader", "isSign", "(I)Z"⟩, 12) := ⟨⟨by decide +kernel, by decide +kernel⟩, lw_t_1 (List.mem_of_getElem? (i := 50) (by decide +kernel)), lw_t_3 (List.mem_of_getElem? (i := 195) (by decide +kernel)), lw_t_3 (List.mem_of_getElem? (i := 196) (by decide +kernel))⟩
theorem lw_p19 : lw_okq (⟨"CloneVolumes$Reader", "opens", "()Z"⟩, 12) := ⟨⟨by decide +kernel, by decide +kernel⟩, lw_t_1 (List.mem_of_getElem? (i := 50) (by decide +kernel)), lw_t_3 (List.mem_of_getElem? (i := 199) (by decide +kernel)), lw_t_3 (List.mem_of_getElem? (i := 200) (by decide +kernel))⟩
theorem lw_p20 : lw_okq (⟨"CloneVolumes$Reader", "expectSign", "(I)V"⟩, 12) := ⟨⟨by decide +kernel, by decide +kernel⟩, lw_t_1 (List.mem_of_getElem? (i := 50) (by decide +kernel)), lw_t_3 (List.mem_of_getElem? (i := 203) (by decide +kernel)), lw_t_3 (List.mem_of_getElem? (i := 204) (by decide +kernel))⟩
theorem lw_p21 : lw_okq (⟨"CloneVolumes$Reader", "readChoice", "(I)V"⟩, 12) := ⟨⟨by decide +kernel, by decide +kernel⟩, lw_t_1 (List.mem_of_getElem? (i := 50) (by decide +kernel)), lw_t_3 (List.mem_of_getElem? (i := 207) (by decide +kernel)), lw_t_3 (List.mem_of_getElem? (i := 208) (by decide +kernel))⟩
theorem lw_p22 : lw_okq (⟨"CloneVolumes$Reader", "readOther", "(I)V"⟩, 12) := ⟨⟨by decide +kernel, by decide +kernel⟩, lw_t_1 (List.mem_of_getElem? (i := 50) (by decide +kernel)), lw_t_3 (List.mem_of_getElem? (i := 211) (by decide +kernel)), lw_t_3 (List.mem_of_getElem? (i := 212) (by decide +kernel))⟩
theorem lw_p23 : lw_okq (⟨"CloneVolumes$Reader", "isFact", "()Z"⟩, 12) := ⟨⟨by decide +kernel, by decide +kernel⟩, lw_t_1 (List.mem_of_getElem? (i := 50) (by decide +kernel)), lw_t_3 (List.mem_of_getElem? (i := 215) (by decide +kernel)), lw_t_3 (List.mem_of_getElem? (i := 216) (by decide +kernel))⟩
theorem lw_p24 : lw_okq (⟨"CloneVolumes$Reader", "readTest", "()V"⟩, 12) := ⟨⟨by decide +kernel, by decide +kernel⟩, lw_t_1 (List.mem_of_getElem? (i := 50) (by decide +kernel)), lw_t_3 (List.mem_of_getElem? (i := 219) (by decide +kernel)), lw_t_3 (List.mem_of_getElem? (i := 220) (by decide +kernel))⟩
theorem lw_p25 : lw_okq (⟨"CloneVolumes$Reader", "readBoth", "()V"⟩, 12) := ⟨⟨by decide +kernel, by decide +kernel⟩, lw_t_1 (List.mem_of_getElem? (i := 50) (by decide +kernel)), lw_t_3 (List.mem_of_getElem? (i := 223) (by decide +kernel)), lw_t_3 (List.mem_of_getElem? (i := 224) (by decide +kernel))⟩
theorem lw_p26 : lw_okq (⟨"CloneVolumes$Reader", "readFact", "()V"⟩, 12) := ⟨⟨by decide +kernel, by decide +kernel⟩, lw_t_1 (List.mem_of_getElem? (i := 50) (by decide +kernel)), lw_t_3 (List.mem_of_getElem? (i := 227) (by decide +kernel)), lw_t_3 (List.mem_of_getElem? (i := 228) (by decide +kernel))⟩
theorem lw_p27 : lw_okq (⟨"CloneVolumes$Reader", "comparison", "()I"⟩, 12) := ⟨⟨by decide +kernel, by decide +kernel⟩, lw_t_1 (List.mem_of_getElem? (i := 50) (by decide +kernel)), lw_t_3 (List.mem_of_getElem? (i := 231) (by decide +kernel)), lw_t_3 (List.mem_of_getElem? (i := 232) (by decide +kernel))⟩
theorem lw_p28 : lw_okq (⟨"CloneVolumes$Forest", "plant", "(III)Z"⟩, 9) := ⟨⟨by decide +kernel, by decide +kernel⟩, lw_t_2 (List.mem_of_getElem? (i := 101) (by decide +kernel)), lw_t_4 (List.mem_of_getElem? (i := 15) (by decide +kernel)), lw_t_4 (List.mem_of_getElem? (i := 16) (by decide +kernel))⟩
theorem lw_p29 : lw_okq (⟨"CloneVolumes$Forest", "take", "(II)I"⟩, 9) := ⟨⟨by decide +kernel, by decide +kernel⟩, lw_t_2 (List.mem_of_getElem? (i := 101) (by decide +kernel)), lw_t_4 (List.mem_of_getElem? (i := 19) (by decide +kernel)), lw_t_4 (List.mem_of_getElem? (i := 20) (by decide +kernel))⟩
theorem lw_p30 : lw_okq (⟨"CloneVolumes$Machine", "push", "(I)V"⟩, 10) := ⟨⟨by decide +kernel, by decide +kernel⟩, lw_t_2 (List.mem_of_getElem? (i := 188) (by decide +kernel)), lw_t_4 (List.mem_of_getElem? (i := 35) (by decide +kernel)), lw_t_4 (List.mem_of_getElem? (i := 36) (by decide +kernel))⟩
theorem lw_p31 : lw_okq (⟨"CloneVolumes$Machine", "fact", "(I)I"⟩, 10) := ⟨⟨by decide +kernel, by decide +kernel⟩, lw_t_2 (List.mem_of_getElem? (i := 188) (by decide +kernel)), lw_t_4 (List.mem_of_getElem? (i := 39) (by decide +kernel)), lw_t_4 (List.mem_of_getElem? (i := 40) (by decide +kernel))⟩
def lw_privs_2 : List (MethodName × Nat) := [(⟨"CloneVolumes$Reader", "readProduct", "()V"⟩, 12), (⟨"CloneVolumes$Reader", "readPart", "()V"⟩, 12), (⟨"CloneVolumes$Reader", "isSign", "(I)Z"⟩, 12), (⟨"CloneVolumes$Reader", "opens", "()Z"⟩, 12), (⟨"CloneVolumes$Reader", "expectSign", "(I)V"⟩, 12), (⟨"CloneVolumes$Reader", "readChoice", "(I)V"⟩, 12), (⟨"CloneVolumes$Reader", "readOther", "(I)V"⟩, 12), (⟨"CloneVolumes$Reader", "isFact", "()Z"⟩, 12), (⟨"CloneVolumes$Reader", "readTest", "()V"⟩, 12), (⟨"CloneVolumes$Reader", "readBoth", "()V"⟩, 12), (⟨"CloneVolumes$Reader", "readFact", "()V"⟩, 12), (⟨"CloneVolumes$Reader", "comparison", "()I"⟩, 12), (⟨"CloneVolumes$Forest", "plant", "(III)Z"⟩, 9), (⟨"CloneVolumes$Forest", "take", "(II)I"⟩, 9), (⟨"CloneVolumes$Machine", "push", "(I)V"⟩, 10), (⟨"CloneVolumes$Machine", "fact", "(I)I"⟩, 10)]
theorem lw_r2 : ∀ q ∈ lw_privs_2, lw_okq q := List.forall_mem_cons.mpr ⟨lw_p16, List.forall_mem_cons.mpr ⟨lw_p17, List.forall_mem_cons.mpr ⟨lw_p18, List.forall_mem_cons.mpr ⟨lw_p19, List.forall_mem_cons.mpr ⟨lw_p20, List.forall_mem_cons.mpr ⟨lw_p21, List.forall_mem_cons.mpr ⟨lw_p22, List.forall_mem_cons.mpr ⟨lw_p23, List.forall_mem_cons.mpr ⟨lw_p24, List.forall_mem_cons.mpr ⟨lw_p25, List.forall_mem_cons.mpr ⟨lw_p26, List.forall_mem_cons.mpr ⟨lw_p27, List.forall_mem_cons.mpr ⟨lw_p28, List.forall_mem_cons.mpr ⟨lw_p29, List.forall_mem_cons.mpr ⟨lw_p30, List.forall_mem_cons.mpr ⟨lw_p31, fun _ h => absurd h List.not_mem_nil⟩⟩⟩⟩⟩⟩⟩⟩⟩⟩⟩⟩⟩⟩⟩⟩
theorem lw_p32 : lw_okq (⟨"CloneVolumes$Machine", "pop", "()I"⟩, 10) := ⟨⟨by decide +kernel, by decide +kernel⟩, lw_t_2 (List.mem_of_getElem? (i := 188) (by decide +kernel)), lw_t_4 (List.mem_of_getElem? (i := 43) (by decide +kernel)), lw_t_4 (List.mem_of_getElem? (i := 44) (by decide +kernel))⟩
theorem lw_p33 : lw_okq (⟨"CloneVolumes$Machine", "changed", "(II)I"⟩, 10) := ⟨⟨by decide +kernel, by decide +kernel⟩, lw_t_2 (List.mem_of_getElem? (i := 188) (by decide +kernel)), lw_t_4 (List.mem_of_getElem? (i := 47) (by decide +kernel)), lw_t_4 (List.mem_of_getElem? (i := 48) (by decide +kernel))⟩
theorem lw_p34 : lw_okq (⟨"CloneVolumes$Forest", "owned", "(I)I"⟩, 9) := ⟨⟨by decide +kernel, by decide +kernel⟩, lw_t_2 (List.mem_of_getElem? (i := 101) (by decide +kernel)), lw_t_4 (List.mem_of_getElem? (i := 62) (by decide +kernel)), lw_t_4 (List.mem_of_getElem? (i := 63) (by decide +kernel))⟩
theorem lw_p35 : lw_okq (⟨"CloneVolumes$Forest", "layEntries", "(III)V"⟩, 9) := ⟨⟨by decide +kernel, by decide +kernel⟩, lw_t_2 (List.mem_of_getElem? (i := 101) (by decide +kernel)), lw_t_4 (List.mem_of_getElem? (i := 70) (by decide +kernel)), lw_t_4 (List.mem_of_getElem? (i := 71) (by decide +kernel))⟩
theorem lw_p36 : lw_okq (⟨"CloneVolumes$Forest", "release", "(I[I)I"⟩, 9) := ⟨⟨by decide +kernel, by decide +kernel⟩, lw_t_2 (List.mem_of_getElem? (i := 101) (by decide +kernel)), lw_t_4 (List.mem_of_getElem? (i := 79) (by decide +kernel)), lw_t_4 (List.mem_of_getElem? (i := 80) (by decide +kernel))⟩
theorem lw_p37 : lw_okq (⟨"CloneVolumes$Forest", "splits", "(I)Z"⟩, 9) := ⟨⟨by decide +kernel, by decide +kernel⟩, lw_t_2 (List.mem_of_getElem? (i := 101) (by decide +kernel)), lw_t_4 (List.mem_of_getElem? (i := 83) (by decide +kernel)), lw_t_4 (List.mem_of_getElem? (i := 84) (by decide +kernel))⟩
theorem lw_p38 : lw_okq (⟨"CloneVolumes$Forest", "raiseRoot", "(I)I"⟩, 9) := ⟨⟨by decide +kernel, by decide +kernel⟩, lw_t_2 (List.mem_of_getElem? (i := 101) (by decide +kernel)), lw_t_4 (List.mem_of_getElem? (i := 87) (by decide +kernel)), lw_t_4 (List.mem_of_getElem? (i := 88) (by decide +kernel))⟩
theorem lw_p39 : lw_okq (⟨"CloneVolumes$Forest", "split", "(IIII)I"⟩, 9) := ⟨⟨by decide +kernel, by decide +kernel⟩, lw_t_2 (List.mem_of_getElem? (i := 101) (by decide +kernel)), lw_t_4 (List.mem_of_getElem? (i := 97) (by decide +kernel)), lw_t_4 (List.mem_of_getElem? (i := 98) (by decide +kernel))⟩
theorem lw_p40 : lw_okq (⟨"CloneVolumes$Forest", "plantLow", "(III)V"⟩, 9) := ⟨⟨by decide +kernel, by decide +kernel⟩, lw_t_2 (List.mem_of_getElem? (i := 101) (by decide +kernel)), lw_t_4 (List.mem_of_getElem? (i := 109) (by decide +kernel)), lw_t_4 (List.mem_of_getElem? (i := 110) (by decide +kernel))⟩
theorem lw_p41 : lw_okq (⟨"CloneVolumes$Forest", "uproot", "(II)Z"⟩, 9) := ⟨⟨by decide +kernel, by decide +kernel⟩, lw_t_2 (List.mem_of_getElem? (i := 101) (by decide +kernel)), lw_t_4 (List.mem_of_getElem? (i := 131) (by decide +kernel)), lw_t_4 (List.mem_of_getElem? (i := 132) (by decide +kernel))⟩
theorem lw_p42 : lw_okq (⟨"CloneVolumes$Forest", "prune", "(III)V"⟩, 9) := ⟨⟨by decide +kernel, by decide +kernel⟩, lw_t_2 (List.mem_of_getElem? (i := 101) (by decide +kernel)), lw_t_4 (List.mem_of_getElem? (i := 135) (by decide +kernel)), lw_t_4 (List.mem_of_getElem? (i := 136) (by decide +kernel))⟩
theorem lw_p43 : lw_okq (⟨"CloneVolumes$Forest", "lowerRoot", "(I)V"⟩, 9) := ⟨⟨by decide +kernel, by decide +kernel⟩, lw_t_2 (List.mem_of_getElem? (i := 101) (by decide +kernel)), lw_t_4 (List.mem_of_getElem? (i := 143) (by decide +kernel)), lw_t_4 (List.mem_of_getElem? (i := 144) (by decide +kernel))⟩
theorem lw_p44 : lw_okq (⟨"CloneVolumes", "unlike", "(III)I"⟩, 13) := ⟨⟨by decide +kernel, by decide +kernel⟩, lw_t_1 (List.mem_of_getElem? (i := 22) (by decide +kernel)), lw_t_5 (List.mem_of_getElem? (i := 41) (by decide +kernel)), lw_t_5 (List.mem_of_getElem? (i := 42) (by decide +kernel))⟩
theorem lw_p45 : lw_okq (⟨"CloneVolumes$Forest", "rehearse", "(II)Z"⟩, 9) := ⟨⟨by decide +kernel, by decide +kernel⟩, lw_t_2 (List.mem_of_getElem? (i := 101) (by decide +kernel)), lw_t_5 (List.mem_of_getElem? (i := 54) (by decide +kernel)), lw_t_5 (List.mem_of_getElem? (i := 55) (by decide +kernel))⟩
theorem lw_p46 : lw_okq (⟨"CloneVolumes$Forest", "wrote", "()I"⟩, 9) := ⟨⟨by decide +kernel, by decide +kernel⟩, lw_t_2 (List.mem_of_getElem? (i := 101) (by decide +kernel)), lw_t_5 (List.mem_of_getElem? (i := 62) (by decide +kernel)), lw_t_5 (List.mem_of_getElem? (i := 63) (by decide +kernel))⟩
theorem lw_p47 : lw_okq (⟨"CloneVolumes$Forest", "isWritten", "(I)Z"⟩, 9) := ⟨⟨by decide +kernel, by decide +kernel⟩, lw_t_2 (List.mem_of_getElem? (i := 101) (by decide +kernel)), lw_t_5 (List.mem_of_getElem? (i := 66) (by decide +kernel)), lw_t_5 (List.mem_of_getElem? (i := 67) (by decide +kernel))⟩
def lw_privs_3 : List (MethodName × Nat) := [(⟨"CloneVolumes$Machine", "pop", "()I"⟩, 10), (⟨"CloneVolumes$Machine", "changed", "(II)I"⟩, 10), (⟨"CloneVolumes$Forest", "owned", "(I)I"⟩, 9), (⟨"CloneVolumes$Forest", "layEntries", "(III)V"⟩, 9), (⟨"CloneVolumes$Forest", "release", "(I[I)I"⟩, 9), (⟨"CloneVolumes$Forest", "splits", "(I)Z"⟩, 9), (⟨"CloneVolumes$Forest", "raiseRoot", "(I)I"⟩, 9), (⟨"CloneVolumes$Forest", "split", "(IIII)I"⟩, 9), (⟨"CloneVolumes$Forest", "plantLow", "(III)V"⟩, 9), (⟨"CloneVolumes$Forest", "uproot", "(II)Z"⟩, 9), (⟨"CloneVolumes$Forest", "prune", "(III)V"⟩, 9), (⟨"CloneVolumes$Forest", "lowerRoot", "(I)V"⟩, 9), (⟨"CloneVolumes", "unlike", "(III)I"⟩, 13), (⟨"CloneVolumes$Forest", "rehearse", "(II)Z"⟩, 9), (⟨"CloneVolumes$Forest", "wrote", "()I"⟩, 9), (⟨"CloneVolumes$Forest", "isWritten", "(I)Z"⟩, 9)]
theorem lw_r3 : ∀ q ∈ lw_privs_3, lw_okq q := List.forall_mem_cons.mpr ⟨lw_p32, List.forall_mem_cons.mpr ⟨lw_p33, List.forall_mem_cons.mpr ⟨lw_p34, List.forall_mem_cons.mpr ⟨lw_p35, List.forall_mem_cons.mpr ⟨lw_p36, List.forall_mem_cons.mpr ⟨lw_p37, List.forall_mem_cons.mpr ⟨lw_p38, List.forall_mem_cons.mpr ⟨lw_p39, List.forall_mem_cons.mpr ⟨lw_p40, List.forall_mem_cons.mpr ⟨lw_p41, List.forall_mem_cons.mpr ⟨lw_p42, List.forall_mem_cons.mpr ⟨lw_p43, List.forall_mem_cons.mpr ⟨lw_p44, List.forall_mem_cons.mpr ⟨lw_p45, List.forall_mem_cons.mpr ⟨lw_p46, List.forall_mem_cons.mpr ⟨lw_p47, fun _ h => absurd h List.not_mem_nil⟩⟩⟩⟩⟩⟩⟩⟩⟩⟩⟩⟩⟩⟩⟩⟩
theorem lw_p48 : lw_okq (⟨"CloneVolumes$Forest", "price", "()I"⟩, 9) := ⟨⟨by decide +kernel, by decide +kernel⟩, lw_t_2 (List.mem_of_getElem? (i := 101) (by decide +kernel)), lw_t_5 (List.mem_of_getElem? (i := 75) (by decide +kernel)), lw_t_5 (List.mem_of_getElem? (i := 76) (by decide +kernel))⟩
theorem lw_p49 : lw_okq (⟨"CloneVolumes$Forest", "costOf", "(I)I"⟩, 9) := ⟨⟨by decide +kernel, by decide +kernel⟩, lw_t_2 (List.mem_of_getElem? (i := 101) (by decide +kernel)), lw_t_5 (List.mem_of_getElem? (i := 79) (by decide +kernel)), lw_t_5 (List.mem_of_getElem? (i := 80) (by decide +kernel))⟩
theorem lw_p50 : lw_okq (⟨"CloneVolumes", "growTrees", "()V"⟩, 13) := ⟨⟨by decide +kernel, by decide +kernel⟩, lw_t_1 (List.mem_of_getElem? (i := 22) (by decide +kernel)), lw_t_5 (List.mem_of_getElem? (i := 95) (by decide +kernel)), lw_t_5 (List.mem_of_getElem? (i := 96) (by decide +kernel))⟩
theorem lw_p51 : lw_okq (⟨"CloneVolumes", "lostWith", "(I)I"⟩, 13) := ⟨⟨by decide +kernel, by decide +kernel⟩, lw_t_1 (List.mem_of_getElem? (i := 22) (by decide +kernel)), lw_t_5 (List.mem_of_getElem? (i := 99) (by decide +kernel)), lw_t_5 (List.mem_of_getElem? (i := 100) (by decide +kernel))⟩
theorem lw_p52 : lw_okq (⟨"CloneVolumes$Sight", "agrees", "(LCloneVolumes$State;I)Z"⟩, 6) := ⟨⟨by decide +kernel, by decide +kernel⟩, lw_t_1 (List.mem_of_getElem? (i := 171) (by decide +kernel)), lw_t_5 (List.mem_of_getElem? (i := 148) (by decide +kernel)), lw_t_5 (List.mem_of_getElem? (i := 149) (by decide +kernel))⟩
theorem lw_p53 : lw_okq (⟨"CloneVolumes", "finish", "(II)I"⟩, 13) := ⟨⟨by decide +kernel, by decide +kernel⟩, lw_t_1 (List.mem_of_getElem? (i := 22) (by decide +kernel)), lw_t_5 (List.mem_of_getElem? (i := 171) (by decide +kernel)), lw_t_5 (List.mem_of_getElem? (i := 172) (by decide +kernel))⟩
theorem lw_p54 : lw_okq (⟨"CloneVolumes$Forest", "draw", "(I)I"⟩, 9) := ⟨⟨by decide +kernel, by decide +kernel⟩, lw_t_2 (List.mem_of_getElem? (i := 101) (by decide +kernel)), lw_t_5 (List.mem_of_getElem? (i := 238) (by decide +kernel)), lw_t_5 (List.mem_of_getElem? (i := 239) (by decide +kernel))⟩
theorem lw_p55 : lw_okq (⟨"CloneVolumes$Forest", "volumeAt", "(I)I"⟩, 9) := ⟨⟨by decide +kernel, by decide +kernel⟩, lw_t_2 (List.mem_of_getElem? (i := 101) (by decide +kernel)), lw_t_6 (List.mem_of_getElem? (i := 6) (by decide +kernel)), lw_t_6 (List.mem_of_getElem? (i := 7) (by decide +kernel))⟩
theorem lw_p56 : lw_okq (⟨"CloneVolumes", "answerTest", "(I)J"⟩, 13) := ⟨⟨by decide +kernel, by decide +kernel⟩, lw_t_1 (List.mem_of_getElem? (i := 22) (by decide +kernel)), lw_t_6 (List.mem_of_getElem? (i := 33) (by decide +kernel)), lw_t_6 (List.mem_of_getElem? (i := 34) (by decide +kernel))⟩
theorem lw_p57 : lw_okq (⟨"CloneVolumes", "answerSum", "(I)J"⟩, 13) := ⟨⟨by decide +kernel, by decide +kernel⟩, lw_t_1 (List.mem_of_getElem? (i := 22) (by decide +kernel)), lw_t_6 (List.mem_of_getElem? (i := 43) (by decide +kernel)), lw_t_6 (List.mem_of_getElem? (i := 44) (by decide +kernel))⟩
theorem lw_p58 : lw_okq (⟨"CloneVolumes$Picture", "add", "(I)V"⟩, 6) := ⟨⟨by decide +kernel, by decide +kernel⟩, lw_t_1 (List.mem_of_getElem? (i := 198) (by decide +kernel)), lw_t_6 (List.mem_of_getElem? (i := 58) (by decide +kernel)), lw_t_6 (List.mem_of_getElem? (i := 59) (by decide +kernel))⟩
theorem lw_p59 : lw_okq (⟨"CloneVolumes$Picture", "addPair", "(I)V"⟩, 6) := ⟨⟨by decide +kernel, by decide +kernel⟩, lw_t_1 (List.mem_of_getElem? (i := 198) (by decide +kernel)), lw_t_6 (List.mem_of_getElem? (i := 63) (by decide +kernel)), lw_t_6 (List.mem_of_getElem? (i := 64) (by decide +kernel))⟩
theorem lw_p60 : lw_okq (⟨"CloneVolumes$Picture", "drawBlock", "(LCloneVolumes$State;I)V"⟩, 6) := ⟨⟨by decide +kernel, by decide +kernel⟩, lw_t_1 (List.mem_of_getElem? (i := 198) (by decide +kernel)), lw_t_6 (List.mem_of_getElem? (i := 71) (by decide +kernel)), lw_t_6 (List.mem_of_getElem? (i := 72) (by decide +kernel))⟩
theorem lw_p61 : lw_okq (⟨"CloneVolumes$Picture", "loadHead", "(LCloneVolumes$Tape;LCloneVolumes$State;)Z"⟩, 6) := ⟨⟨by decide +kernel, by decide +kernel⟩, lw_t_1 (List.mem_of_getElem? (i := 198) (by decide +kernel)), lw_t_6 (List.mem_of_getElem? (i := 93) (by decide +kernel)), lw_t_6 (List.mem_of_getElem? (i := 94) (by decide +kernel))⟩
theorem lw_p62 : lw_okq (⟨"CloneVolumes$Picture", "next", "(LCloneVolumes$Tape;)I"⟩, 6) := ⟨⟨by decide +kernel, by decide +kernel⟩, lw_t_1 (List.mem_of_getElem? (i := 198) (by decide +kernel)), lw_t_6 (List.mem_of_getElem? (i := 97) (by decide +kernel)), lw_t_6 (List.mem_of_getElem? (i := 98) (by decide +kernel))⟩
theorem lw_p63 : lw_okq (⟨"CloneVolumes$Picture", "nextPair", "(LCloneVolumes$Tape;)I"⟩, 6) := ⟨⟨by decide +kernel, by decide +kernel⟩, lw_t_1 (List.mem_of_getElem? (i := 198) (by decide +kernel)), lw_t_6 (List.mem_of_getElem? (i := 102) (by decide +kernel)), lw_t_6 (List.mem_of_getElem? (i := 103) (by decide +kernel))⟩
def lw_privs_4 : List (MethodName × Nat) := [(⟨"CloneVolumes$Forest", "price", "()I"⟩, 9), (⟨"CloneVolumes$Forest", "costOf", "(I)I"⟩, 9), (⟨"CloneVolumes", "growTrees", "()V"⟩, 13), (⟨"CloneVolumes", "lostWith", "(I)I"⟩, 13), (⟨"CloneVolumes$Sight", "agrees", "(LCloneVolumes$State;I)Z"⟩, 6), (⟨"CloneVolumes", "finish", "(II)I"⟩, 13), (⟨"CloneVolumes$Forest", "draw", "(I)I"⟩, 9), (⟨"CloneVolumes$Forest", "volumeAt", "(I)I"⟩, 9), (⟨"CloneVolumes", "answerTest", "(I)J"⟩, 13), (⟨"CloneVolumes", "answerSum", "(I)J"⟩, 13), (⟨"CloneVolumes$Picture", "add", "(I)V"⟩, 6), (⟨"CloneVolumes$Picture", "addPair", "(I)V"⟩, 6), (⟨"CloneVolumes$Picture", "drawBlock", "(LCloneVolumes$State;I)V"⟩, 6), (⟨"CloneVolumes$Picture", "loadHead", "(LCloneVolumes$Tape;LCloneVolumes$State;)Z"⟩, 6), (⟨"CloneVolumes$Picture", "next", "(LCloneVolumes$Tape;)I"⟩, 6), (⟨"CloneVolumes$Picture", "nextPair", "(LCloneVolumes$Tape;)I"⟩, 6)]
theorem lw_r4 : ∀ q ∈ lw_privs_4, lw_okq q := List.forall_mem_cons.mpr ⟨lw_p48, List.forall_mem_cons.mpr ⟨lw_p49, List.forall_mem_cons.mpr ⟨lw_p50, List.forall_mem_cons.mpr ⟨lw_p51, List.forall_mem_cons.mpr ⟨lw_p52, List.forall_mem_cons.mpr ⟨lw_p53, List.forall_mem_cons.mpr ⟨lw_p54, List.forall_mem_cons.mpr ⟨lw_p55, List.forall_mem_cons.mpr ⟨lw_p56, List.forall_mem_cons.mpr ⟨lw_p57, List.forall_mem_cons.mpr ⟨lw_p58, List.forall_mem_cons.mpr ⟨lw_p59, List.forall_mem_cons.mpr ⟨lw_p60, List.forall_mem_cons.mpr ⟨lw_p61, List.forall_mem_cons.mpr ⟨lw_p62, List.forall_mem_cons.mpr ⟨lw_p63, fun _ h => absurd h List.not_mem_nil⟩⟩⟩⟩⟩⟩⟩⟩⟩⟩⟩⟩⟩⟩⟩⟩
theorem lw_p64 : lw_okq (⟨"CloneVolumes$Picture", "loadBlock", "(LCloneVolumes$Tape;LCloneVolumes$State;II)Z"⟩, 6) := ⟨⟨by decide +kernel, by decide +kernel⟩, lw_t_1 (List.mem_of_getElem? (i := 198) (by decide +kernel)), lw_t_6 (List.mem_of_getElem? (i := 110) (by decide +kernel)), lw_t_6 (List.mem_of_getElem? (i := 111) (by decide +kernel))⟩
theorem lw_p65 : lw_okq (⟨"CloneVolumes$Picture", "isSound", "(LCloneVolumes$State;)Z"⟩, 6) := ⟨⟨by decide +kernel, by decide +kernel⟩, lw_t_1 (List.mem_of_getElem? (i := 198) (by decide +kernel)), lw_t_6 (List.mem_of_getElem? (i := 115) (by decide +kernel)), lw_t_6 (List.mem_of_getElem? (i := 116) (by decide +kernel))⟩
theorem lw_p66 : lw_okq (⟨"CloneVolumes$Picture", "isSoundBlock", "(LCloneVolumes$State;I)Z"⟩, 6) := ⟨⟨by decide +kernel, by decide +kernel⟩, lw_t_1 (List.mem_of_getElem? (i := 198) (by decide +kernel)), lw_t_6 (List.mem_of_getElem? (i := 119) (by decide +kernel)), lw_t_6 (List.mem_of_getElem? (i := 120) (by decide +kernel))⟩
theorem lw_p67 : lw_okq (⟨"CloneVolumes$Picture", "isSoundChild", "(LCloneVolumes$State;II)Z"⟩, 6) := ⟨⟨by decide +kernel, by decide +kernel⟩, lw_t_1 (List.mem_of_getElem? (i := 198) (by decide +kernel)), lw_t_6 (List.mem_of_getElem? (i := 123) (by decide +kernel)), lw_t_6 (List.mem_of_getElem? (i := 124) (by decide +kernel))⟩
theorem lw_p68 : lw_okq (⟨"CloneVolumes$Picture", "refsAre", "(LCloneVolumes$State;[I[I)Z"⟩, 6) := ⟨⟨by decide +kernel, by decide +kernel⟩, lw_t_1 (List.mem_of_getElem? (i := 198) (by decide +kernel)), lw_t_6 (List.mem_of_getElem? (i := 128) (by decide +kernel)), lw_t_6 (List.mem_of_getElem? (i := 129) (by decide +kernel))⟩
theorem lw_p69 : lw_okq (⟨"CloneVolumesModel", "storeTold", "()V"⟩, 116) := ⟨⟨by decide +kernel, by decide +kernel⟩, lw_t_6 (List.mem_of_getElem? (i := 136) (by decide +kernel)), lw_t_8 (List.mem_of_getElem? (i := 24) (by decide +kernel)), lw_t_8 (List.mem_of_getElem? (i := 25) (by decide +kernel))⟩
theorem lw_p70 : lw_okq (⟨"CloneVolumesModel", "asks", "([C)V"⟩, 116) := ⟨⟨by decide +kernel, by decide +kernel⟩, lw_t_6 (List.mem_of_getElem? (i := 136) (by decide +kernel)), lw_t_8 (List.mem_of_getElem? (i := 28) (by decide +kernel)), lw_t_8 (List.mem_of_getElem? (i := 29) (by decide +kernel))⟩
theorem lw_p71 : lw_okq (⟨"CloneVolumesModel", "takes", "([C)Z"⟩, 116) := ⟨⟨by decide +kernel, by decide +kernel⟩, lw_t_6 (List.mem_of_getElem? (i := 136) (by decide +kernel)), lw_t_8 (List.mem_of_getElem? (i := 32) (by decide +kernel)), lw_t_8 (List.mem_of_getElem? (i := 33) (by decide +kernel))⟩
theorem lw_p72 : lw_okq (⟨"CloneVolumesModel", "isHere", "([C)Z"⟩, 116) := ⟨⟨by decide +kernel, by decide +kernel⟩, lw_t_6 (List.mem_of_getElem? (i := 136) (by decide +kernel)), lw_t_8 (List.mem_of_getElem? (i := 36) (by decide +kernel)), lw_t_8 (List.mem_of_getElem? (i := 37) (by decide +kernel))⟩
theorem lw_p73 : lw_okq (⟨"CloneVolumesModel", "look", "()I"⟩, 116) := ⟨⟨by decide +kernel, by decide +kernel⟩, lw_t_6 (List.mem_of_getElem? (i := 136) (by decide +kernel)), lw_t_8 (List.mem_of_getElem? (i := 40) (by decide +kernel)), lw_t_8 (List.mem_of_getElem? (i := 41) (by decide +kernel))⟩
theorem lw_p74 : lw_okq (⟨"CloneVolumesModel", "fail", "(II)V"⟩, 116) := ⟨⟨by decide +kernel, by decide +kernel⟩, lw_t_6 (List.mem_of_getElem? (i := 136) (by decide +kernel)), lw_t_8 (List.mem_of_getElem? (i := 47) (by decide +kernel)), lw_t_8 (List.mem_of_getElem? (i := 48) (by decide +kernel))⟩
theorem lw_p75 : lw_okq (⟨"CloneVolumesModel", "number", "(II)I"⟩, 116) := ⟨⟨by decide +kernel, by decide +kernel⟩, lw_t_6 (List.mem_of_getElem? (i := 136) (by decide +kernel)), lw_t_8 (List.mem_of_getElem? (i := 51) (by decide +kernel)), lw_t_8 (List.mem_of_getElem? (i := 52) (by decide +kernel))⟩
theorem lw_p76 : lw_okq (⟨"CloneVolumesModel", "asksSign", "(I)V"⟩, 116) := ⟨⟨by decide +kernel, by decide +kernel⟩, lw_t_6 (List.mem_of_getElem? (i := 136) (by decide +kernel)), lw_t_8 (List.mem_of_getElem? (i := 61) (by decide +kernel)), lw_t_8 (List.mem_of_getElem? (i := 62) (by decide +kernel))⟩
theorem lw_p77 : lw_okq (⟨"CloneVolumesModel", "takesSign", "(I)Z"⟩, 116) := ⟨⟨by decide +kernel, by decide +kernel⟩, lw_t_6 (List.mem_of_getElem? (i := 136) (by decide +kernel)), lw_t_8 (List.mem_of_getElem? (i := 65) (by decide +kernel)), lw_t_8 (List.mem_of_getElem? (i := 66) (by decide +kernel))⟩
theorem lw_p78 : lw_okq (⟨"CloneVolumesModel", "statementTold", "()V"⟩, 116) := ⟨⟨by decide +kernel, by decide +kernel⟩, lw_t_6 (List.mem_of_getElem? (i := 136) (by decide +kernel)), lw_t_8 (List.mem_of_getElem? (i := 69) (by decide +kernel)), lw_t_8 (List.mem_of_getElem? (i := 70) (by decide +kernel))⟩
theorem lw_p79 : lw_okq (⟨"CloneVolumesModel", "volumeTold", "(ZI)V"⟩, 116) := ⟨⟨by decide +kernel, by decide +kernel⟩, lw_t_6 (List.mem_of_getElem? (i := 136) (by decide +kernel)), lw_t_8 (List.mem_of_getElem? (i := 73) (by decide +kernel)), lw_t_8 (List.mem_of_getElem? (i := 74) (by decide +kernel))⟩
def lw_privs_5 : List (MethodName × Nat) := [(⟨"CloneVolumes$Picture", "loadBlock", "(LCloneVolumes$Tape;LCloneVolumes$State;II)Z"⟩, 6), (⟨"CloneVolumes$Picture", "isSound", "(LCloneVolumes$State;)Z"⟩, 6), (⟨"CloneVolumes$Picture", "isSoundBlock", "(LCloneVolumes$State;I)Z"⟩, 6), (⟨"CloneVolumes$Picture", "isSoundChild", "(LCloneVolumes$State;II)Z"⟩, 6), (⟨"CloneVolumes$Picture", "refsAre", "(LCloneVolumes$State;[I[I)Z"⟩, 6), (⟨"CloneVolumesModel", "storeTold", "()V"⟩, 116), (⟨"CloneVolumesModel", "asks", "([C)V"⟩, 116), (⟨"CloneVolumesModel", "takes", "([C)Z"⟩, 116), (⟨"CloneVolumesModel", "isHere", "([C)Z"⟩, 116), (⟨"CloneVolumesModel", "look", "()I"⟩, 116), (⟨"CloneVolumesModel", "fail", "(II)V"⟩, 116), (⟨"CloneVolumesModel", "number", "(II)I"⟩, 116), (⟨"CloneVolumesModel", "asksSign", "(I)V"⟩, 116), (⟨"CloneVolumesModel", "takesSign", "(I)Z"⟩, 116), (⟨"CloneVolumesModel", "statementTold", "()V"⟩, 116), (⟨"CloneVolumesModel", "volumeTold", "(ZI)V"⟩, 116)]
theorem lw_r5 : ∀ q ∈ lw_privs_5, lw_okq q := List.forall_mem_cons.mpr ⟨lw_p64, List.forall_mem_cons.mpr ⟨lw_p65, List.forall_mem_cons.mpr ⟨lw_p66, List.forall_mem_cons.mpr ⟨lw_p67, List.forall_mem_cons.mpr ⟨lw_p68, List.forall_mem_cons.mpr ⟨lw_p69, List.forall_mem_cons.mpr ⟨lw_p70, List.forall_mem_cons.mpr ⟨lw_p71, List.forall_mem_cons.mpr ⟨lw_p72, List.forall_mem_cons.mpr ⟨lw_p73, List.forall_mem_cons.mpr ⟨lw_p74, List.forall_mem_cons.mpr ⟨lw_p75, List.forall_mem_cons.mpr ⟨lw_p76, List.forall_mem_cons.mpr ⟨lw_p77, List.forall_mem_cons.mpr ⟨lw_p78, List.forall_mem_cons.mpr ⟨lw_p79, fun _ h => absurd h List.not_mem_nil⟩⟩⟩⟩⟩⟩⟩⟩⟩⟩⟩⟩⟩⟩⟩⟩
theorem lw_p80 : lw_okq (⟨"CloneVolumesModel", "newName", "()J"⟩, 116) := ⟨⟨by decide +kernel, by decide +kernel⟩, lw_t_6 (List.mem_of_getElem? (i := 136) (by decide +kernel)), lw_t_8 (List.mem_of_getElem? (i := 77) (by decide +kernel)), lw_t_8 (List.mem_of_getElem? (i := 78) (by decide +kernel))⟩
theorem lw_p81 : lw_okq (⟨"CloneVolumesModel", "name", "()J"⟩, 116) := ⟨⟨by decide +kernel, by decide +kernel⟩, lw_t_6 (List.mem_of_getElem? (i := 136) (by decide +kernel)), lw_t_8 (List.mem_of_getElem? (i := 81) (by decide +kernel)), lw_t_8 (List.mem_of_getElem? (i := 82) (by decide +kernel))⟩
theorem lw_p82 : lw_okq (⟨"CloneVolumesModel", "isOwnHere", "()Z"⟩, 116) := ⟨⟨by decide +kernel, by decide +kernel⟩, lw_t_6 (List.mem_of_getElem? (i := 136) (by decide +kernel)), lw_t_8 (List.mem_of_getElem? (i := 85) (by decide +kernel)), lw_t_8 (List.mem_of_getElem? (i := 86) (by decide +kernel))⟩
theorem lw_p83 : lw_okq (⟨"CloneVolumesModel", "volumeNamed", "()I"⟩, 116) := ⟨⟨by decide +kernel, by decide +kernel⟩, lw_t_6 (List.mem_of_getElem? (i := 136) (by decide +kernel)), lw_t_8 (List.mem_of_getElem? (i := 91) (by decide +kernel)), lw_t_8 (List.mem_of_getElem? (i := 92) (by decide +kernel))⟩
theorem lw_p84 : lw_okq (⟨"CloneVolumesModel", "actTold", "(IIII)V"⟩, 116) := ⟨⟨by decide +kernel, by decide +kernel⟩, lw_t_6 (List.mem_of_getElem? (i := 136) (by decide +kernel)), lw_t_8 (List.mem_of_getElem? (i := 95) (by decide +kernel)), lw_t_8 (List.mem_of_getElem? (i := 96) (by decide +kernel))⟩
theorem lw_p85 : lw_okq (⟨"CloneVolumesModel", "putTold", "()V"⟩, 116) := ⟨⟨by decide +kernel, by decide +kernel⟩, lw_t_6 (List.mem_of_getElem? (i := 136) (by decide +kernel)), lw_t_8 (List.mem_of_getElem? (i := 99) (by decide +kernel)), lw_t_8 (List.mem_of_getElem? (i := 100) (by decide +kernel))⟩
theorem lw_p86 : lw_okq (⟨"CloneVolumesModel", "removeTold", "()V"⟩, 116) := ⟨⟨by decide +kernel, by decide +kernel⟩, lw_t_6 (List.mem_of_getElem? (i := 136) (by decide +kernel)), lw_t_8 (List.mem_of_getElem? (i := 103) (by decide +kernel)), lw_t_8 (List.mem_of_getElem? (i := 104) (by decide +kernel))⟩
theorem lw_p87 : lw_okq (⟨"CloneVolumesModel", "codesTold", "(II)V"⟩, 116) := ⟨⟨by decide +kernel, by decide +kernel⟩, lw_t_6 (List.mem_of_getElem? (i := 136) (by decide +kernel)), lw_t_8 (List.mem_of_getElem? (i := 107) (by decide +kernel)), lw_t_8 (List.mem_of_getElem? (i := 108) (by decide +kernel))⟩
theorem lw_p88 : lw_okq (⟨"CloneVolumesModel", "qTest", "()V"⟩, 116) := ⟨⟨by decide +kernel, by decide +kernel⟩, lw_t_6 (List.mem_of_getElem? (i := 136) (by decide +kernel)), lw_t_8 (List.mem_of_getElem? (i := 111) (by decide +kernel)), lw_t_8 (List.mem_of_getElem? (i := 112) (by decide +kernel))⟩
theorem lw_p89 : lw_okq (⟨"CloneVolumesModel", "qOpens", "(II)V"⟩, 116) := ⟨⟨by decide +kernel, by decide +kernel⟩, lw_t_6 (List.mem_of_getElem? (i := 136) (by decide +kernel)), lw_t_8 (List.mem_of_getElem? (i := 115) (by decide +kernel)), lw_t_8 (List.mem_of_getElem? (i := 116) (by decide +kernel))⟩
theorem lw_p90 : lw_okq (⟨"CloneVolumesModel", "qFact", "()V"⟩, 116) := ⟨⟨by decide +kernel, by decide +kernel⟩, lw_t_6 (List.mem_of_getElem? (i := 136) (by decide +kernel)), lw_t_8 (List.mem_of_getElem? (i := 119) (by decide +kernel)), lw_t_8 (List.mem_of_getElem? (i := 120) (by decide +kernel))⟩
theorem lw_p91 : lw_okq (⟨"CloneVolumesModel", "qCode", "(I)V"⟩, 116) := ⟨⟨by decide +kernel, by decide +kernel⟩, lw_t_6 (List.mem_of_getElem? (i := 136) (by decide +kernel)), lw_t_8 (List.mem_of_getElem? (i := 123) (by decide +kernel)), lw_t_8 (List.mem_of_getElem? (i := 124) (by decide +kernel))⟩
theorem lw_p92 : lw_okq (⟨"CloneVolumesModel", "qSums", "()V"⟩, 116) := ⟨⟨by decide +kernel, by decide +kernel⟩, lw_t_6 (List.mem_of_getElem? (i := 136) (by decide +kernel)), lw_t_8 (List.mem_of_getElem? (i := 127) (by decide +kernel)), lw_t_8 (List.mem_of_getElem? (i := 128) (by decide +kernel))⟩
theorem lw_p93 : lw_okq (⟨"CloneVolumesModel", "qPartTold", "()V"⟩, 116) := ⟨⟨by decide +kernel, by decide +kernel⟩, lw_t_6 (List.mem_of_getElem? (i := 136) (by decide +kernel)), lw_t_8 (List.mem_of_getElem? (i := 131) (by decide +kernel)), lw_t_8 (List.mem_of_getElem? (i := 132) (by decide +kernel))⟩
theorem lw_p94 : lw_okq (⟨"CloneVolumesModel", "qWordOf", "(II)I"⟩, 116) := ⟨⟨by decide +kernel, by decide +kernel⟩, lw_t_6 (List.mem_of_getElem? (i := 136) (by decide +kernel)), lw_t_8 (List.mem_of_getElem? (i := 135) (by decide +kernel)), lw_t_8 (List.mem_of_getElem? (i := 136) (by decide +kernel))⟩
theorem lw_p95 : lw_okq (⟨"CloneVolumesModel", "qWordHere", "()I"⟩, 116) := ⟨⟨by decide +kernel, by decide +kernel⟩, lw_t_6 (List.mem_of_getElem? (i := 136) (by decide +kernel)), lw_t_8 (List.mem_of_getElem? (i := 139) (by decide +kernel)), lw_t_8 (List.mem_of_getElem? (i := 140) (by decide +kernel))⟩
def lw_privs_6 : List (MethodName × Nat) := [(⟨"CloneVolumesModel", "newName", "()J"⟩, 116), (⟨"CloneVolumesModel", "name", "()J"⟩, 116), (⟨"CloneVolumesModel", "isOwnHere", "()Z"⟩, 116), (⟨"CloneVolumesModel", "volumeNamed", "()I"⟩, 116), (⟨"CloneVolumesModel", "actTold", "(IIII)V"⟩, 116), (⟨"CloneVolumesModel", "putTold", "()V"⟩, 116), (⟨"CloneVolumesModel", "removeTold", "()V"⟩, 116), (⟨"CloneVolumesModel", "codesTold", "(II)V"⟩, 116), (⟨"CloneVolumesModel", "qTest", "()V"⟩, 116), (⟨"CloneVolumesModel", "qOpens", "(II)V"⟩, 116), (⟨"CloneVolumesModel", "qFact", "()V"⟩, 116), (⟨"CloneVolumesModel", "qCode", "(I)V"⟩, 116), (⟨"CloneVolumesModel", "qSums", "()V"⟩, 116), (⟨"CloneVolumesModel", "qPartTold", "()V"⟩, 116), (⟨"CloneVolumesModel", "qWordOf", "(II)I"⟩, 116), (⟨"CloneVolumesModel", "qWordHere", "()I"⟩, 116)]
theorem lw_r6 : ∀ q ∈ lw_privs_6, lw_okq q := List.forall_mem_cons.mpr ⟨lw_p80, List.forall_mem_cons.mpr ⟨lw_p81, List.forall_mem_cons.mpr ⟨lw_p82, List.forall_mem_cons.mpr ⟨lw_p83, List.forall_mem_cons.mpr ⟨lw_p84, List.forall_mem_cons.mpr ⟨lw_p85, List.forall_mem_cons.mpr ⟨lw_p86, List.forall_mem_cons.mpr ⟨lw_p87, List.forall_mem_cons.mpr ⟨lw_p88, List.forall_mem_cons.mpr ⟨lw_p89, List.forall_mem_cons.mpr ⟨lw_p90, List.forall_mem_cons.mpr ⟨lw_p91, List.forall_mem_cons.mpr ⟨lw_p92, List.forall_mem_cons.mpr ⟨lw_p93, List.forall_mem_cons.mpr ⟨lw_p94, List.forall_mem_cons.mpr ⟨lw_p95, fun _ h => absurd h List.not_mem_nil⟩⟩⟩⟩⟩⟩⟩⟩⟩⟩⟩⟩⟩⟩⟩⟩
theorem lw_p96 : lw_okq (⟨"CloneVolumesModel", "isAllowed", "(I)Z"⟩, 116) := ⟨⟨by decide +kernel, by decide +kernel⟩, lw_t_6 (List.mem_of_getElem? (i := 136) (by decide +kernel)), lw_t_8 (List.mem_of_getElem? (i := 143) (by decide +kernel)), lw_t_8 (List.mem_of_getElem? (i := 144) (by decide +kernel))⟩
theorem lw_p97 : lw_okq (⟨"CloneVolumesModel", "qAsksWord", "(I)V"⟩, 116) := ⟨⟨by decide +kernel, by decide +kernel⟩, lw_t_6 (List.mem_of_getElem? (i := 136) (by decide +kernel)), lw_t_8 (List.mem_of_getElem? (i := 147) (by decide +kernel)), lw_t_8 (List.mem_of_getElem? (i := 148) (by decide +kernel))⟩
theorem lw_p98 : lw_okq (⟨"CloneVolumesModel", "qEndsPart", "()V"⟩, 116) := ⟨⟨by decide +kernel, by decide +kernel⟩, lw_t_6 (List.mem_of_getElem? (i := 136) (by decide +kernel)), lw_t_8 (List.mem_of_getElem? (i := 151) (by decide +kernel)), lw_t_8 (List.mem_of_getElem? (i := 152) (by decide +kernel))⟩
theorem lw_p99 : lw_okq (⟨"CloneVolumesModel", "qDrops", "()V"⟩, 116) := ⟨⟨by decide +kernel, by decide +kernel⟩, lw_t_6 (List.mem_of_getElem? (i := 136) (by decide +kernel)), lw_t_8 (List.mem_of_getElem? (i := 155) (by decide +kernel)), lw_t_8 (List.mem_of_getElem? (i := 156) (by decide +kernel))⟩
theorem lw_p100 : lw_okq (⟨"CloneVolumesModel", "qGoesOn", "()Z"⟩, 116) := ⟨⟨by decide +kernel, by decide +kernel⟩, lw_t_6 (List.mem_of_getElem? (i := 136) (by decide +kernel)), lw_t_8 (List.mem_of_getElem? (i := 159) (by decide +kernel)), lw_t_8 (List.mem_of_getElem? (i := 160) (by decide +kernel))⟩
theorem lw_p101 : lw_okq (⟨"CloneVolumesModel", "qBracket", "()I"⟩, 116) := ⟨⟨by decide +kernel, by decide +kernel⟩, lw_t_6 (List.mem_of_getElem? (i := 136) (by decide +kernel)), lw_t_8 (List.mem_of_getElem? (i := 163) (by decide +kernel)), lw_t_8 (List.mem_of_getElem? (i := 164) (by decide +kernel))⟩
theorem lw_p102 : lw_okq (⟨"CloneVolumesModel", "qDropsToBracket", "()V"⟩, 116) := ⟨⟨by decide +kernel, by decide +kernel⟩, lw_t_6 (List.mem_of_getElem? (i := 136) (by decide +kernel)), lw_t_8 (List.mem_of_getElem? (i := 170) (by decide +kernel)), lw_t_8 (List.mem_of_getElem? (i := 171) (by decide +kernel))⟩
theorem lw_p103 : lw_okq (⟨"CloneVolumesModel", "qIsOn", "(I)Z"⟩, 116) := ⟨⟨by decide +kernel, by decide +kernel⟩, lw_t_6 (List.mem_of_getElem? (i := 136) (by decide +kernel)), lw_t_8 (List.mem_of_getElem? (i := 174) (by decide +kernel)), lw_t_8 (List.mem_of_getElem? (i := 175) (by decide +kernel))⟩
theorem lw_p104 : lw_okq (⟨"CloneVolumesModel", "qDropsNots", "()V"⟩, 116) := ⟨⟨by decide +kernel, by decide +kernel⟩, lw_t_6 (List.mem_of_getElem? (i := 136) (by decide +kernel)), lw_t_8 (List.mem_of_getElem? (i := 178) (by decide +kernel)), lw_t_8 (List.mem_of_getElem? (i := 179) (by decide +kernel))⟩
theorem lw_p105 : lw_okq (⟨"CloneVolumesModel", "qGoesOnTest", "()Z"⟩, 116) := ⟨⟨by decide +kernel, by decide +kernel⟩, lw_t_6 (List.mem_of_getElem? (i := 136) (by decide +kernel)), lw_t_8 (List.mem_of_getElem? (i := 182) (by decide +kernel)), lw_t_8 (List.mem_of_getElem? (i := 183) (by decide +kernel))⟩
theorem lw_p106 : lw_okq (⟨"CloneVolumesModel", "qHasSquare", "()Z"⟩, 116) := ⟨⟨by decide +kernel, by decide +kernel⟩, lw_t_6 (List.mem_of_getElem? (i := 136) (by decide +kernel)), lw_t_8 (List.mem_of_getElem? (i := 186) (by decide +kernel)), lw_t_8 (List.mem_of_getElem? (i := 187) (by decide +kernel))⟩
theorem lw_p107 : lw_okq (⟨"CloneVolumesModel", "refuses", "(I)I"⟩, 116) := ⟨⟨by decide +kernel, by decide +kernel⟩, lw_t_6 (List.mem_of_getElem? (i := 136) (by decide +kernel)), lw_t_8 (List.mem_of_getElem? (i := 190) (by decide +kernel)), lw_t_8 (List.mem_of_getElem? (i := 191) (by decide +kernel))⟩
theorem lw_p108 : lw_okq (⟨"CloneVolumesModel", "stands", "()V"⟩, 116) := ⟨⟨by decide +kernel, by decide +kernel⟩, lw_t_6 (List.mem_of_getElem? (i := 136) (by decide +kernel)), lw_t_8 (List.mem_of_getElem? (i := 194) (by decide +kernel)), lw_t_8 (List.mem_of_getElem? (i := 195) (by decide +kernel))⟩
theorem lw_p109 : lw_okq (⟨"CloneVolumesModel", "actGoes", "(IIII)V"⟩, 116) := ⟨⟨by decide +kernel, by decide +kernel⟩, lw_t_6 (List.mem_of_getElem? (i := 136) (by decide +kernel)), lw_t_8 (List.mem_of_getElem? (i := 198) (by decide +kernel)), lw_t_8 (List.mem_of_getElem? (i := 199) (by decide +kernel))⟩
theorem lw_p110 : lw_okq (⟨"CloneVolumesModel", "copies", "(II)V"⟩, 116) := ⟨⟨by decide +kernel, by decide +kernel⟩, lw_t_6 (List.mem_of_getElem? (i := 136) (by decide +kernel)), lw_t_8 (List.mem_of_getElem? (i := 202) (by decide +kernel)), lw_t_8 (List.mem_of_getElem? (i := 203) (by decide +kernel))⟩
theorem lw_p111 : lw_okq (⟨"CloneVolumesModel", "counts", "(II)V"⟩, 116) := ⟨⟨by decide +kernel, by decide +kernel⟩, lw_t_6 (List.mem_of_getElem? (i := 136) (by decide +kernel)), lw_t_8 (List.mem_of_getElem? (i := 206) (by decide +kernel)), lw_t_8 (List.mem_of_getElem? (i := 207) (by decide +kernel))⟩
def lw_privs_7 : List (MethodName × Nat) := [(⟨"CloneVolumesModel", "isAllowed", "(I)Z"⟩, 116), (⟨"CloneVolumesModel", "qAsksWord", "(I)V"⟩, 116), (⟨"CloneVolumesModel", "qEndsPart", "()V"⟩, 116), (⟨"CloneVolumesModel", "qDrops", "()V"⟩, 116), (⟨"CloneVolumesModel", "qGoesOn", "()Z"⟩, 116), (⟨"CloneVolumesModel", "qBracket", "()I"⟩, 116), (⟨"CloneVolumesModel", "qDropsToBracket", "()V"⟩, 116), (⟨"CloneVolumesModel", "qIsOn", "(I)Z"⟩, 116), (⟨"CloneVolumesModel", "qDropsNots", "()V"⟩, 116), (⟨"CloneVolumesModel", "qGoesOnTest", "()Z"⟩, 116), (⟨"CloneVolumesModel", "qHasSquare", "()Z"⟩, 116), (⟨"CloneVolumesModel", "refuses", "(I)I"⟩, 116), (⟨"CloneVolumesModel", "stands", "()V"⟩, 116), (⟨"CloneVolumesModel", "actGoes", "(IIII)V"⟩, 116), (⟨"CloneVolumesModel", "copies", "(II)V"⟩, 116), (⟨"CloneVolumesModel", "counts", "(II)V"⟩, 116)]
theorem lw_r7 : ∀ q ∈ lw_privs_7, lw_okq q := List.forall_mem_cons.mpr ⟨lw_p96, List.forall_mem_cons.mpr ⟨lw_p97, List.forall_mem_cons.mpr ⟨lw_p98, List.forall_mem_cons.mpr ⟨lw_p99, List.forall_mem_cons.mpr ⟨lw_p100, List.forall_mem_cons.mpr ⟨lw_p101, List.forall_mem_cons.mpr ⟨lw_p102, List.forall_mem_cons.mpr ⟨lw_p103, List.forall_mem_cons.mpr ⟨lw_p104, List.forall_mem_cons.mpr ⟨lw_p105, List.forall_mem_cons.mpr ⟨lw_p106, List.forall_mem_cons.mpr ⟨lw_p107, List.forall_mem_cons.mpr ⟨lw_p108, List.forall_mem_cons.mpr ⟨lw_p109, List.forall_mem_cons.mpr ⟨lw_p110, List.forall_mem_cons.mpr ⟨lw_p111, fun _ h => absurd h List.not_mem_nil⟩⟩⟩⟩⟩⟩⟩⟩⟩⟩⟩⟩⟩⟩⟩⟩
theorem lw_p112 : lw_okq (⟨"CloneVolumesModel", "tries", "(IIII)Z"⟩, 116) := ⟨⟨by decide +kernel, by decide +kernel⟩, lw_t_6 (List.mem_of_getElem? (i := 136) (by decide +kernel)), lw_t_8 (List.mem_of_getElem? (i := 210) (by decide +kernel)), lw_t_8 (List.mem_of_getElem? (i := 211) (by decide +kernel))⟩
theorem lw_p113 : lw_okq (⟨"CloneVolumesModel", "valueOf", "(II)I"⟩, 116) := ⟨⟨by decide +kernel, by decide +kernel⟩, lw_t_6 (List.mem_of_getElem? (i := 136) (by decide +kernel)), lw_t_8 (List.mem_of_getElem? (i := 214) (by decide +kernel)), lw_t_8 (List.mem_of_getElem? (i := 215) (by decide +kernel))⟩
theorem lw_p114 : lw_okq (⟨"CloneVolumesModel", "valueFrom", "(II)I"⟩, 116) := ⟨⟨by decide +kernel, by decide +kernel⟩, lw_t_6 (List.mem_of_getElem? (i := 136) (by decide +kernel)), lw_t_8 (List.mem_of_getElem? (i := 218) (by decide +kernel)), lw_t_8 (List.mem_of_getElem? (i := 219) (by decide +kernel))⟩
theorem lw_p115 : lw_okq (⟨"CloneVolumesModel", "levelOf", "(I)I"⟩, 116) := ⟨⟨by decide +kernel, by decide +kernel⟩, lw_t_6 (List.mem_of_getElem? (i := 136) (by decide +kernel)), lw_t_8 (List.mem_of_getElem? (i := 222) (by decide +kernel)), lw_t_8 (List.mem_of_getElem? (i := 223) (by decide +kernel))⟩
theorem lw_p116 : lw_okq (⟨"CloneVolumesModel", "placeFor", "(II)I"⟩, 116) := ⟨⟨by decide +kernel, by decide +kernel⟩, lw_t_6 (List.mem_of_getElem? (i := 136) (by decide +kernel)), lw_t_8 (List.mem_of_getElem? (i := 226) (by decide +kernel)), lw_t_8 (List.mem_of_getElem? (i := 227) (by decide +kernel))⟩
theorem lw_p117 : lw_okq (⟨"CloneVolumesModel", "entriesOf", "(I)I"⟩, 116) := ⟨⟨by decide +kernel, by decide +kernel⟩, lw_t_6 (List.mem_of_getElem? (i := 136) (by decide +kernel)), lw_t_8 (List.mem_of_getElem? (i := 230) (by decide +kernel)), lw_t_8 (List.mem_of_getElem? (i := 231) (by decide +kernel))⟩
theorem lw_p118 : lw_okq (⟨"CloneVolumesModel", "keyAt", "(II)I"⟩, 116) := ⟨⟨by decide +kernel, by decide +kernel⟩, lw_t_6 (List.mem_of_getElem? (i := 136) (by decide +kernel)), lw_t_8 (List.mem_of_getElem? (i := 234) (by decide +kernel)), lw_t_8 (List.mem_of_getElem? (i := 235) (by decide +kernel))⟩
theorem lw_p119 : lw_okq (⟨"CloneVolumesModel", "valueAt", "(II)I"⟩, 116) := ⟨⟨by decide +kernel, by decide +kernel⟩, lw_t_6 (List.mem_of_getElem? (i := 136) (by decide +kernel)), lw_t_8 (List.mem_of_getElem? (i := 238) (by decide +kernel)), lw_t_8 (List.mem_of_getElem? (i := 239) (by decide +kernel))⟩
theorem lw_p120 : lw_okq (⟨"CloneVolumesModel", "placeIn", "(II)I"⟩, 116) := ⟨⟨by decide +kernel, by decide +kernel⟩, lw_t_6 (List.mem_of_getElem? (i := 136) (by decide +kernel)), lw_t_9 (List.mem_of_getElem? (i := 2) (by decide +kernel)), lw_t_9 (List.mem_of_getElem? (i := 3) (by decide +kernel))⟩
theorem lw_p121 : lw_okq (⟨"CloneVolumesModel", "puts", "(III)V"⟩, 116) := ⟨⟨by decide +kernel, by decide +kernel⟩, lw_t_6 (List.mem_of_getElem? (i := 136) (by decide +kernel)), lw_t_9 (List.mem_of_getElem? (i := 6) (by decide +kernel)), lw_t_9 (List.mem_of_getElem? (i := 7) (by decide +kernel))⟩
theorem lw_p122 : lw_okq (⟨"CloneVolumesModel", "taken", "(II)I"⟩, 116) := ⟨⟨by decide +kernel, by decide +kernel⟩, lw_t_6 (List.mem_of_getElem? (i := 136) (by decide +kernel)), lw_t_9 (List.mem_of_getElem? (i := 10) (by decide +kernel)), lw_t_9 (List.mem_of_getElem? (i := 11) (by decide +kernel))⟩
theorem lw_p123 : lw_okq (⟨"CloneVolumesModel", "blockMany", "()I"⟩, 116) := ⟨⟨by decide +kernel, by decide +kernel⟩, lw_t_6 (List.mem_of_getElem? (i := 136) (by decide +kernel)), lw_t_9 (List.mem_of_getElem? (i := 14) (by decide +kernel)), lw_t_9 (List.mem_of_getElem? (i := 15) (by decide +kernel))⟩
theorem lw_p124 : lw_okq (⟨"CloneVolumesModel", "isThere", "(I)Z"⟩, 116) := ⟨⟨by decide +kernel, by decide +kernel⟩, lw_t_6 (List.mem_of_getElem? (i := 136) (by decide +kernel)), lw_t_9 (List.mem_of_getElem? (i := 18) (by decide +kernel)), lw_t_9 (List.mem_of_getElem? (i := 19) (by decide +kernel))⟩
theorem lw_p125 : lw_okq (⟨"CloneVolumesModel", "isUsed", "(I)Z"⟩, 116) := ⟨⟨by decide +kernel, by decide +kernel⟩, lw_t_6 (List.mem_of_getElem? (i := 136) (by decide +kernel)), lw_t_9 (List.mem_of_getElem? (i := 22) (by decide +kernel)), lw_t_9 (List.mem_of_getElem? (i := 23) (by decide +kernel))⟩
theorem lw_p126 : lw_okq (⟨"CloneVolumesModel", "countOf", "(I)I"⟩, 116) := ⟨⟨by decide +kernel, by decide +kernel⟩, lw_t_6 (List.mem_of_getElem? (i := 136) (by decide +kernel)), lw_t_9 (List.mem_of_getElem? (i := 26) (by decide +kernel)), lw_t_9 (List.mem_of_getElem? (i := 27) (by decide +kernel))⟩
theorem lw_p127 : lw_okq (⟨"CloneVolumesModel", "savedOf", "(I)I"⟩, 116) := ⟨⟨by decide +kernel, by decide +kernel⟩, lw_t_6 (List.mem_of_getElem? (i := 136) (by decide +kernel)), lw_t_9 (List.mem_of_getElem? (i := 30) (by decide +kernel)), lw_t_9 (List.mem_of_getElem? (i := 31) (by decide +kernel))⟩
def lw_privs_8 : List (MethodName × Nat) := [(⟨"CloneVolumesModel", "tries", "(IIII)Z"⟩, 116), (⟨"CloneVolumesModel", "valueOf", "(II)I"⟩, 116), (⟨"CloneVolumesModel", "valueFrom", "(II)I"⟩, 116), (⟨"CloneVolumesModel", "levelOf", "(I)I"⟩, 116), (⟨"CloneVolumesModel", "placeFor", "(II)I"⟩, 116), (⟨"CloneVolumesModel", "entriesOf", "(I)I"⟩, 116), (⟨"CloneVolumesModel", "keyAt", "(II)I"⟩, 116), (⟨"CloneVolumesModel", "valueAt", "(II)I"⟩, 116), (⟨"CloneVolumesModel", "placeIn", "(II)I"⟩, 116), (⟨"CloneVolumesModel", "puts", "(III)V"⟩, 116), (⟨"CloneVolumesModel", "taken", "(II)I"⟩, 116), (⟨"CloneVolumesModel", "blockMany", "()I"⟩, 116), (⟨"CloneVolumesModel", "isThere", "(I)Z"⟩, 116), (⟨"CloneVolumesModel", "isUsed", "(I)Z"⟩, 116), (⟨"CloneVolumesModel", "countOf", "(I)I"⟩, 116), (⟨"CloneVolumesModel", "savedOf", "(I)I"⟩, 116)]
theorem lw_r8 : ∀ q ∈ lw_privs_8, lw_okq q := List.forall_mem_cons.mpr ⟨lw_p112, List.forall_mem_cons.mpr ⟨lw_p113, List.forall_mem_cons.mpr ⟨lw_p114, List.forall_mem_cons.mpr ⟨lw_p115, List.forall_mem_cons.mpr ⟨lw_p116, List.forall_mem_cons.mpr ⟨lw_p117, List.forall_mem_cons.mpr ⟨lw_p118, List.forall_mem_cons.mpr ⟨lw_p119, List.forall_mem_cons.mpr ⟨lw_p120, List.forall_mem_cons.mpr ⟨lw_p121, List.forall_mem_cons.mpr ⟨lw_p122, List.forall_mem_cons.mpr ⟨lw_p123, List.forall_mem_cons.mpr ⟨lw_p124, List.forall_mem_cons.mpr ⟨lw_p125, List.forall_mem_cons.mpr ⟨lw_p126, List.forall_mem_cons.mpr ⟨lw_p127, fun _ h => absurd h List.not_mem_nil⟩⟩⟩⟩⟩⟩⟩⟩⟩⟩⟩⟩⟩⟩⟩⟩
theorem lw_p128 : lw_okq (⟨"CloneVolumesModel", "isCoded", "(I)Z"⟩, 116) := ⟨⟨by decide +kernel, by decide +kernel⟩, lw_t_6 (List.mem_of_getElem? (i := 136) (by decide +kernel)), lw_t_9 (List.mem_of_getElem? (i := 34) (by decide +kernel)), lw_t_9 (List.mem_of_getElem? (i := 35) (by decide +kernel))⟩
theorem lw_p129 : lw_okq (⟨"CloneVolumesModel", "codesTell", "(I)J"⟩, 116) := ⟨⟨by decide +kernel, by decide +kernel⟩, lw_t_6 (List.mem_of_getElem? (i := 136) (by decide +kernel)), lw_t_9 (List.mem_of_getElem? (i := 38) (by decide +kernel)), lw_t_9 (List.mem_of_getElem? (i := 39) (by decide +kernel))⟩
theorem lw_p130 : lw_okq (⟨"CloneVolumesModel", "qPuts", "(J)V"⟩, 116) := ⟨⟨by decide +kernel, by decide +kernel⟩, lw_t_6 (List.mem_of_getElem? (i := 136) (by decide +kernel)), lw_t_9 (List.mem_of_getElem? (i := 42) (by decide +kernel)), lw_t_9 (List.mem_of_getElem? (i := 43) (by decide +kernel))⟩
theorem lw_p131 : lw_okq (⟨"CloneVolumesModel", "qPartOf", "(II)J"⟩, 116) := ⟨⟨by decide +kernel, by decide +kernel⟩, lw_t_6 (List.mem_of_getElem? (i := 136) (by decide +kernel)), lw_t_9 (List.mem_of_getElem? (i := 46) (by decide +kernel)), lw_t_9 (List.mem_of_getElem? (i := 47) (by decide +kernel))⟩
theorem lw_p132 : lw_okq (⟨"CloneVolumesModel", "isFresh", "(I)Z"⟩, 116) := ⟨⟨by decide +kernel, by decide +kernel⟩, lw_t_6 (List.mem_of_getElem? (i := 136) (by decide +kernel)), lw_t_9 (List.mem_of_getElem? (i := 50) (by decide +kernel)), lw_t_9 (List.mem_of_getElem? (i := 51) (by decide +kernel))⟩
theorem lw_p133 : lw_okq (⟨"CloneVolumesModel", "qJoins", "(I)V"⟩, 116) := ⟨⟨by decide +kernel, by decide +kernel⟩, lw_t_6 (List.mem_of_getElem? (i := 136) (by decide +kernel)), lw_t_9 (List.mem_of_getElem? (i := 54) (by decide +kernel)), lw_t_9 (List.mem_of_getElem? (i := 55) (by decide +kernel))⟩
theorem lw_p134 : lw_okq (⟨"CloneVolumesModel", "inserts", "(IIII)V"⟩, 116) := ⟨⟨by decide +kernel, by decide +kernel⟩, lw_t_6 (List.mem_of_getElem? (i := 136) (by decide +kernel)), lw_t_9 (List.mem_of_getElem? (i := 66) (by decide +kernel)), lw_t_9 (List.mem_of_getElem? (i := 67) (by decide +kernel))⟩
theorem lw_p135 : lw_okq (⟨"CloneVolumesModel", "setsEntry", "(IIII)V"⟩, 116) := ⟨⟨by decide +kernel, by decide +kernel⟩, lw_t_6 (List.mem_of_getElem? (i := 136) (by decide +kernel)), lw_t_9 (List.mem_of_getElem? (i := 70) (by decide +kernel)), lw_t_9 (List.mem_of_getElem? (i := 71) (by decide +kernel))⟩
theorem lw_p136 : lw_okq (⟨"CloneVolumesModel", "owned", "(I)I"⟩, 116) := ⟨⟨by decide +kernel, by decide +kernel⟩, lw_t_6 (List.mem_of_getElem? (i := 136) (by decide +kernel)), lw_t_9 (List.mem_of_getElem? (i := 74) (by decide +kernel)), lw_t_9 (List.mem_of_getElem? (i := 75) (by decide +kernel))⟩
theorem lw_p137 : lw_okq (⟨"CloneVolumesModel", "falls", "(I)V"⟩, 116) := ⟨⟨by decide +kernel, by decide +kernel⟩, lw_t_6 (List.mem_of_getElem? (i := 136) (by decide +kernel)), lw_t_9 (List.mem_of_getElem? (i := 78) (by decide +kernel)), lw_t_9 (List.mem_of_getElem? (i := 79) (by decide +kernel))⟩
theorem lw_p138 : lw_okq (⟨"CloneVolumesModel", "doesSplit", "(I)Z"⟩, 116) := ⟨⟨by decide +kernel, by decide +kernel⟩, lw_t_6 (List.mem_of_getElem? (i := 136) (by decide +kernel)), lw_t_9 (List.mem_of_getElem? (i := 82) (by decide +kernel)), lw_t_9 (List.mem_of_getElem? (i := 83) (by decide +kernel))⟩
theorem lw_p139 : lw_okq (⟨"CloneVolumesModel", "roomOf", "()I"⟩, 116) := ⟨⟨by decide +kernel, by decide +kernel⟩, lw_t_6 (List.mem_of_getElem? (i := 136) (by decide +kernel)), lw_t_9 (List.mem_of_getElem? (i := 86) (by decide +kernel)), lw_t_9 (List.mem_of_getElem? (i := 87) (by decide +kernel))⟩
theorem lw_p140 : lw_okq (⟨"CloneVolumesModel", "rootSplit", "(III)I"⟩, 116) := ⟨⟨by decide +kernel, by decide +kernel⟩, lw_t_6 (List.mem_of_getElem? (i := 136) (by decide +kernel)), lw_t_9 (List.mem_of_getElem? (i := 90) (by decide +kernel)), lw_t_9 (List.mem_of_getElem? (i := 91) (by decide +kernel))⟩
theorem lw_p141 : lw_okq (⟨"CloneVolumesModel", "half", "(IIII)I"⟩, 116) := ⟨⟨by decide +kernel, by decide +kernel⟩, lw_t_6 (List.mem_of_getElem? (i := 136) (by decide +kernel)), lw_t_9 (List.mem_of_getElem? (i := 94) (by decide +kernel)), lw_t_9 (List.mem_of_getElem? (i := 95) (by decide +kernel))⟩
theorem lw_p142 : lw_okq (⟨"CloneVolumesModel", "putsIn", "(III)V"⟩, 116) := ⟨⟨by decide +kernel, by decide +kernel⟩, lw_t_6 (List.mem_of_getElem? (i := 136) (by decide +kernel)), lw_t_9 (List.mem_of_getElem? (i := 98) (by decide +kernel)), lw_t_9 (List.mem_of_getElem? (i := 99) (by decide +kernel))⟩
theorem lw_p143 : lw_okq (⟨"CloneVolumesModel", "removes", "(II)V"⟩, 116) := ⟨⟨by decide +kernel, by decide +kernel⟩, lw_t_6 (List.mem_of_getElem? (i := 136) (by decide +kernel)), lw_t_9 (List.mem_of_getElem? (i := 102) (by decide +kernel)), lw_t_9 (List.mem_of_getElem? (i := 103) (by decide +kernel))⟩
def lw_privs_9 : List (MethodName × Nat) := [(⟨"CloneVolumesModel", "isCoded", "(I)Z"⟩, 116), (⟨"CloneVolumesModel", "codesTell", "(I)J"⟩, 116), (⟨"CloneVolumesModel", "qPuts", "(J)V"⟩, 116), (⟨"CloneVolumesModel", "qPartOf", "(II)J"⟩, 116), (⟨"CloneVolumesModel", "isFresh", "(I)Z"⟩, 116), (⟨"CloneVolumesModel", "qJoins", "(I)V"⟩, 116), (⟨"CloneVolumesModel", "inserts", "(IIII)V"⟩, 116), (⟨"CloneVolumesModel", "setsEntry", "(IIII)V"⟩, 116), (⟨"CloneVolumesModel", "owned", "(I)I"⟩, 116), (⟨"CloneVolumesModel", "falls", "(I)V"⟩, 116), (⟨"CloneVolumesModel", "doesSplit", "(I)Z"⟩, 116), (⟨"CloneVolumesModel", "roomOf", "()I"⟩, 116), (⟨"CloneVolumesModel", "rootSplit", "(III)I"⟩, 116), (⟨"CloneVolumesModel", "half", "(IIII)I"⟩, 116), (⟨"CloneVolumesModel", "putsIn", "(III)V"⟩, 116), (⟨"CloneVolumesModel", "removes", "(II)V"⟩, 116)]
theorem lw_r9 : ∀ q ∈ lw_privs_9, lw_okq q := List.forall_mem_cons.mpr ⟨lw_p128, List.forall_mem_cons.mpr ⟨lw_p129, List.forall_mem_cons.mpr ⟨lw_p130, List.forall_mem_cons.mpr ⟨lw_p131, List.forall_mem_cons.mpr ⟨lw_p132, List.forall_mem_cons.mpr ⟨lw_p133, List.forall_mem_cons.mpr ⟨lw_p134, List.forall_mem_cons.mpr ⟨lw_p135, List.forall_mem_cons.mpr ⟨lw_p136, List.forall_mem_cons.mpr ⟨lw_p137, List.forall_mem_cons.mpr ⟨lw_p138, List.forall_mem_cons.mpr ⟨lw_p139, List.forall_mem_cons.mpr ⟨lw_p140, List.forall_mem_cons.mpr ⟨lw_p141, List.forall_mem_cons.mpr ⟨lw_p142, List.forall_mem_cons.mpr ⟨lw_p143, fun _ h => absurd h List.not_mem_nil⟩⟩⟩⟩⟩⟩⟩⟩⟩⟩⟩⟩⟩⟩⟩⟩
theorem lw_p144 : lw_okq (⟨"CloneVolumesModel", "cutsEntry", "(II)V"⟩, 116) := ⟨⟨by decide +kernel, by decide +kernel⟩, lw_t_6 (List.mem_of_getElem? (i := 136) (by decide +kernel)), lw_t_9 (List.mem_of_getElem? (i := 106) (by decide +kernel)), lw_t_9 (List.mem_of_getElem? (i := 107) (by decide +kernel))⟩
theorem lw_p145 : lw_okq (⟨"CloneVolumesModel", "lowers", "(I)V"⟩, 116) := ⟨⟨by decide +kernel, by decide +kernel⟩, lw_t_6 (List.mem_of_getElem? (i := 136) (by decide +kernel)), lw_t_9 (List.mem_of_getElem? (i := 110) (by decide +kernel)), lw_t_9 (List.mem_of_getElem? (i := 111) (by decide +kernel))⟩
theorem lw_p146 : lw_okq (⟨"CloneVolumesModel", "checks", "()V"⟩, 116) := ⟨⟨by decide +kernel, by decide +kernel⟩, lw_t_6 (List.mem_of_getElem? (i := 136) (by decide +kernel)), lw_t_9 (List.mem_of_getElem? (i := 114) (by decide +kernel)), lw_t_9 (List.mem_of_getElem? (i := 115) (by decide +kernel))⟩
theorem lw_p147 : lw_okq (⟨"CloneVolumesModel", "volumeMany", "()I"⟩, 116) := ⟨⟨by decide +kernel, by decide +kernel⟩, lw_t_6 (List.mem_of_getElem? (i := 136) (by decide +kernel)), lw_t_9 (List.mem_of_getElem? (i := 126) (by decide +kernel)), lw_t_9 (List.mem_of_getElem? (i := 127) (by decide +kernel))⟩
theorem lw_p148 : lw_okq (⟨"CloneVolumesModel", "isVolume", "(J)Z"⟩, 116) := ⟨⟨by decide +kernel, by decide +kernel⟩, lw_t_6 (List.mem_of_getElem? (i := 136) (by decide +kernel)), lw_t_9 (List.mem_of_getElem? (i := 130) (by decide +kernel)), lw_t_9 (List.mem_of_getElem? (i := 131) (by decide +kernel))⟩
theorem lw_p149 : lw_okq (⟨"CloneVolumesModel", "usedMany", "()I"⟩, 116) := ⟨⟨by decide +kernel, by decide +kernel⟩, lw_t_6 (List.mem_of_getElem? (i := 136) (by decide +kernel)), lw_t_9 (List.mem_of_getElem? (i := 135) (by decide +kernel)), lw_t_9 (List.mem_of_getElem? (i := 136) (by decide +kernel))⟩
theorem lw_p150 : lw_okq (⟨"CloneVolumesModel", "heldMany", "()I"⟩, 116) := ⟨⟨by decide +kernel, by decide +kernel⟩, lw_t_6 (List.mem_of_getElem? (i := 136) (by decide +kernel)), lw_t_9 (List.mem_of_getElem? (i := 139) (by decide +kernel)), lw_t_9 (List.mem_of_getElem? (i := 140) (by decide +kernel))⟩
theorem lw_p151 : lw_okq (⟨"CloneVolumesModel", "isHeld", "(I)Z"⟩, 116) := ⟨⟨by decide +kernel, by decide +kernel⟩, lw_t_6 (List.mem_of_getElem? (i := 136) (by decide +kernel)), lw_t_9 (List.mem_of_getElem? (i := 143) (by decide +kernel)), lw_t_9 (List.mem_of_getElem? (i := 144) (by decide +kernel))⟩
theorem lw_p152 : lw_okq (⟨"CloneVolumesModel", "freeMany", "()I"⟩, 116) := ⟨⟨by decide +kernel, by decide +kernel⟩, lw_t_6 (List.mem_of_getElem? (i := 136) (by decide +kernel)), lw_t_9 (List.mem_of_getElem? (i := 147) (by decide +kernel)), lw_t_9 (List.mem_of_getElem? (i := 148) (by decide +kernel))⟩
theorem lw_p153 : lw_okq (⟨"CloneVolumesModel", "laysTree", "(I)V"⟩, 116) := ⟨⟨by decide +kernel, by decide +kernel⟩, lw_t_6 (List.mem_of_getElem? (i := 136) (by decide +kernel)), lw_t_9 (List.mem_of_getElem? (i := 160) (by decide +kernel)), lw_t_9 (List.mem_of_getElem? (i := 161) (by decide +kernel))⟩
theorem lw_p154 : lw_okq (⟨"CloneVolumesModel", "laysLeaf", "(I)V"⟩, 116) := ⟨⟨by decide +kernel, by decide +kernel⟩, lw_t_6 (List.mem_of_getElem? (i := 136) (by decide +kernel)), lw_t_9 (List.mem_of_getElem? (i := 164) (by decide +kernel)), lw_t_9 (List.mem_of_getElem? (i := 165) (by decide +kernel))⟩
theorem lw_p155 : lw_okq (⟨"CloneVolumesModel", "dropsMany", "(I)I"⟩, 116) := ⟨⟨by decide +kernel, by decide +kernel⟩, lw_t_6 (List.mem_of_getElem? (i := 136) (by decide +kernel)), lw_t_9 (List.mem_of_getElem? (i := 168) (by decide +kernel)), lw_t_9 (List.mem_of_getElem? (i := 169) (by decide +kernel))⟩
theorem lw_p156 : lw_okq (⟨"CloneVolumesModel", "putsAside", "()V"⟩, 116) := ⟨⟨by decide +kernel, by decide +kernel⟩, lw_t_6 (List.mem_of_getElem? (i := 136) (by decide +kernel)), lw_t_9 (List.mem_of_getElem? (i := 172) (by decide +kernel)), lw_t_9 (List.mem_of_getElem? (i := 173) (by decide +kernel))⟩
theorem lw_p157 : lw_okq (⟨"CloneVolumesModel", "clearsTouched", "()V"⟩, 116) := ⟨⟨by decide +kernel, by decide +kernel⟩, lw_t_6 (List.mem_of_getElem? (i := 136) (by decide +kernel)), lw_t_9 (List.mem_of_getElem? (i := 176) (by decide +kernel)), lw_t_9 (List.mem_of_getElem? (i := 177) (by decide +kernel))⟩
theorem lw_p158 : lw_okq (⟨"CloneVolumesModel", "drops", "(I)V"⟩, 116) := ⟨⟨by decide +kernel, by decide +kernel⟩, lw_t_6 (List.mem_of_getElem? (i := 136) (by decide +kernel)), lw_t_9 (List.mem_of_getElem? (i := 180) (by decide +kernel)), lw_t_9 (List.mem_of_getElem? (i := 181) (by decide +kernel))⟩
theorem lw_p159 : lw_okq (⟨"CloneVolumesModel", "takesBack", "()V"⟩, 116) := ⟨⟨by decide +kernel, by decide +kernel⟩, lw_t_6 (List.mem_of_getElem? (i := 136) (by decide +kernel)), lw_t_9 (List.mem_of_getElem? (i := 184) (by decide +kernel)), lw_t_9 (List.mem_of_getElem? (i := 185) (by decide +kernel))⟩
def lw_privs_10 : List (MethodName × Nat) := [(⟨"CloneVolumesModel", "cutsEntry", "(II)V"⟩, 116), (⟨"CloneVolumesModel", "lowers", "(I)V"⟩, 116), (⟨"CloneVolumesModel", "checks", "()V"⟩, 116), (⟨"CloneVolumesModel", "volumeMany", "()I"⟩, 116), (⟨"CloneVolumesModel", "isVolume", "(J)Z"⟩, 116), (⟨"CloneVolumesModel", "usedMany", "()I"⟩, 116), (⟨"CloneVolumesModel", "heldMany", "()I"⟩, 116), (⟨"CloneVolumesModel", "isHeld", "(I)Z"⟩, 116), (⟨"CloneVolumesModel", "freeMany", "()I"⟩, 116), (⟨"CloneVolumesModel", "laysTree", "(I)V"⟩, 116), (⟨"CloneVolumesModel", "laysLeaf", "(I)V"⟩, 116), (⟨"CloneVolumesModel", "dropsMany", "(I)I"⟩, 116), (⟨"CloneVolumesModel", "putsAside", "()V"⟩, 116), (⟨"CloneVolumesModel", "clearsTouched", "()V"⟩, 116), (⟨"CloneVolumesModel", "drops", "(I)V"⟩, 116), (⟨"CloneVolumesModel", "takesBack", "()V"⟩, 116)]
theorem lw_r10 : ∀ q ∈ lw_privs_10, lw_okq q := List.forall_mem_cons.mpr ⟨lw_p144, List.forall_mem_cons.mpr ⟨lw_p145, List.forall_mem_cons.mpr ⟨lw_p146, List.forall_mem_cons.mpr ⟨lw_p147, List.forall_mem_cons.mpr ⟨lw_p148, List.forall_mem_cons.mpr ⟨lw_p149, List.forall_mem_cons.mpr ⟨lw_p150, List.forall_mem_cons.mpr ⟨lw_p151, List.forall_mem_cons.mpr ⟨lw_p152, List.forall_mem_cons.mpr ⟨lw_p153, List.forall_mem_cons.mpr ⟨lw_p154, List.forall_mem_cons.mpr ⟨lw_p155, List.forall_mem_cons.mpr ⟨lw_p156, List.forall_mem_cons.mpr ⟨lw_p157, List.forall_mem_cons.mpr ⟨lw_p158, List.forall_mem_cons.mpr ⟨lw_p159, fun _ h => absurd h List.not_mem_nil⟩⟩⟩⟩⟩⟩⟩⟩⟩⟩⟩⟩⟩⟩⟩⟩
theorem lw_p160 : lw_okq (⟨"CloneVolumesModel", "isBlock", "(J)Z"⟩, 116) := ⟨⟨by decide +kernel, by decide +kernel⟩, lw_t_6 (List.mem_of_getElem? (i := 136) (by decide +kernel)), lw_t_9 (List.mem_of_getElem? (i := 192) (by decide +kernel)), lw_t_9 (List.mem_of_getElem? (i := 193) (by decide +kernel))⟩
theorem lw_p161 : lw_okq (⟨"CloneVolumesModel", "unlike", "(III)I"⟩, 116) := ⟨⟨by decide +kernel, by decide +kernel⟩, lw_t_6 (List.mem_of_getElem? (i := 136) (by decide +kernel)), lw_t_9 (List.mem_of_getElem? (i := 230) (by decide +kernel)), lw_t_9 (List.mem_of_getElem? (i := 231) (by decide +kernel))⟩
theorem lw_p162 : lw_okq (⟨"CloneVolumesModel", "laysWrites", "(II)V"⟩, 116) := ⟨⟨by decide +kernel, by decide +kernel⟩, lw_t_6 (List.mem_of_getElem? (i := 136) (by decide +kernel)), lw_t_9 (List.mem_of_getElem? (i := 238) (by decide +kernel)), lw_t_9 (List.mem_of_getElem? (i := 239) (by decide +kernel))⟩
theorem lw_p163 : lw_okq (⟨"CloneVolumesModel", "writtenMany", "()I"⟩, 116) := ⟨⟨by decide +kernel, by decide +kernel⟩, lw_t_6 (List.mem_of_getElem? (i := 136) (by decide +kernel)), lw_t_10 (List.mem_of_getElem? (i := 2) (by decide +kernel)), lw_t_10 (List.mem_of_getElem? (i := 3) (by decide +kernel))⟩
theorem lw_p164 : lw_okq (⟨"CloneVolumesModel", "writtenCost", "()I"⟩, 116) := ⟨⟨by decide +kernel, by decide +kernel⟩, lw_t_6 (List.mem_of_getElem? (i := 136) (by decide +kernel)), lw_t_10 (List.mem_of_getElem? (i := 6) (by decide +kernel)), lw_t_10 (List.mem_of_getElem? (i := 7) (by decide +kernel))⟩
theorem lw_p165 : lw_okq (⟨"CloneVolumesModel", "costOf", "(I)I"⟩, 116) := ⟨⟨by decide +kernel, by decide +kernel⟩, lw_t_6 (List.mem_of_getElem? (i := 136) (by decide +kernel)), lw_t_10 (List.mem_of_getElem? (i := 10) (by decide +kernel)), lw_t_10 (List.mem_of_getElem? (i := 11) (by decide +kernel))⟩
theorem lw_p166 : lw_okq (⟨"CloneVolumesModel", "laysLost", "()V"⟩, 116) := ⟨⟨by decide +kernel, by decide +kernel⟩, lw_t_6 (List.mem_of_getElem? (i := 136) (by decide +kernel)), lw_t_10 (List.mem_of_getElem? (i := 26) (by decide +kernel)), lw_t_10 (List.mem_of_getElem? (i := 27) (by decide +kernel))⟩
theorem lw_p167 : lw_okq (⟨"CloneVolumesModel", "doesFit", "(I)Z"⟩, 116) := ⟨⟨by decide +kernel, by decide +kernel⟩, lw_t_6 (List.mem_of_getElem? (i := 136) (by decide +kernel)), lw_t_10 (List.mem_of_getElem? (i := 54) (by decide +kernel)), lw_t_10 (List.mem_of_getElem? (i := 55) (by decide +kernel))⟩
theorem lw_p168 : lw_okq (⟨"CloneVolumesModel", "toldOf", "(II)I"⟩, 116) := ⟨⟨by decide +kernel, by decide +kernel⟩, lw_t_6 (List.mem_of_getElem? (i := 136) (by decide +kernel)), lw_t_10 (List.mem_of_getElem? (i := 58) (by decide +kernel)), lw_t_10 (List.mem_of_getElem? (i := 59) (by decide +kernel))⟩
theorem lw_p169 : lw_okq (⟨"CloneVolumesModel", "mostAlike", "(I)I"⟩, 116) := ⟨⟨by decide +kernel, by decide +kernel⟩, lw_t_6 (List.mem_of_getElem? (i := 136) (by decide +kernel)), lw_t_10 (List.mem_of_getElem? (i := 67) (by decide +kernel)), lw_t_10 (List.mem_of_getElem? (i := 68) (by decide +kernel))⟩
theorem lw_p170 : lw_okq (⟨"CloneVolumesModel", "canBe", "(IIII)Z"⟩, 116) := ⟨⟨by decide +kernel, by decide +kernel⟩, lw_t_6 (List.mem_of_getElem? (i := 136) (by decide +kernel)), lw_t_10 (List.mem_of_getElem? (i := 79) (by decide +kernel)), lw_t_10 (List.mem_of_getElem? (i := 80) (by decide +kernel))⟩
theorem lw_p171 : lw_okq (⟨"CloneVolumesModel", "keeps", "()V"⟩, 116) := ⟨⟨by decide +kernel, by decide +kernel⟩, lw_t_6 (List.mem_of_getElem? (i := 136) (by decide +kernel)), lw_t_10 (List.mem_of_getElem? (i := 83) (by decide +kernel)), lw_t_10 (List.mem_of_getElem? (i := 84) (by decide +kernel))⟩
theorem lw_p172 : lw_okq (⟨"CloneVolumesModel", "isKept", "(II)V"⟩, 116) := ⟨⟨by decide +kernel, by decide +kernel⟩, lw_t_6 (List.mem_of_getElem? (i := 136) (by decide +kernel)), lw_t_10 (List.mem_of_getElem? (i := 87) (by decide +kernel)), lw_t_10 (List.mem_of_getElem? (i := 88) (by decide +kernel))⟩
theorem lw_p173 : lw_okq (⟨"CloneVolumesModel", "freeNumber", "()I"⟩, 116) := ⟨⟨by decide +kernel, by decide +kernel⟩, lw_t_6 (List.mem_of_getElem? (i := 136) (by decide +kernel)), lw_t_10 (List.mem_of_getElem? (i := 100) (by decide +kernel)), lw_t_10 (List.mem_of_getElem? (i := 101) (by decide +kernel))⟩
theorem lw_p174 : lw_okq (⟨"CloneVolumesModel", "crashes", "()V"⟩, 116) := ⟨⟨by decide +kernel, by decide +kernel⟩, lw_t_6 (List.mem_of_getElem? (i := 136) (by decide +kernel)), lw_t_10 (List.mem_of_getElem? (i := 116) (by decide +kernel)), lw_t_10 (List.mem_of_getElem? (i := 117) (by decide +kernel))⟩
theorem lw_p175 : lw_okq (⟨"CloneVolumesModel", "isRefused", "(I)Z"⟩, 116) := ⟨⟨by decide +kernel, by decide +kernel⟩, lw_t_6 (List.mem_of_getElem? (i := 136) (by decide +kernel)), lw_t_10 (List.mem_of_getElem? (i := 124) (by decide +kernel)), lw_t_10 (List.mem_of_getElem? (i := 125) (by decide +kernel))⟩
def lw_privs_11 : List (MethodName × Nat) := [(⟨"CloneVolumesModel", "isBlock", "(J)Z"⟩, 116), (⟨"CloneVolumesModel", "unlike", "(III)I"⟩, 116), (⟨"CloneVolumesModel", "laysWrites", "(II)V"⟩, 116), (⟨"CloneVolumesModel", "writtenMany", "()I"⟩, 116), (⟨"CloneVolumesModel", "writtenCost", "()I"⟩, 116), (⟨"CloneVolumesModel", "costOf", "(I)I"⟩, 116), (⟨"CloneVolumesModel", "laysLost", "()V"⟩, 116), (⟨"CloneVolumesModel", "doesFit", "(I)Z"⟩, 116), (⟨"CloneVolumesModel", "toldOf", "(II)I"⟩, 116), (⟨"CloneVolumesModel", "mostAlike", "(I)I"⟩, 116), (⟨"CloneVolumesModel", "canBe", "(IIII)Z"⟩, 116), (⟨"CloneVolumesModel", "keeps", "()V"⟩, 116), (⟨"CloneVolumesModel", "isKept", "(II)V"⟩, 116), (⟨"CloneVolumesModel", "freeNumber", "()I"⟩, 116), (⟨"CloneVolumesModel", "crashes", "()V"⟩, 116), (⟨"CloneVolumesModel", "isRefused", "(I)Z"⟩, 116)]
theorem lw_r11 : ∀ q ∈ lw_privs_11, lw_okq q := List.forall_mem_cons.mpr ⟨lw_p160, List.forall_mem_cons.mpr ⟨lw_p161, List.forall_mem_cons.mpr ⟨lw_p162, List.forall_mem_cons.mpr ⟨lw_p163, List.forall_mem_cons.mpr ⟨lw_p164, List.forall_mem_cons.mpr ⟨lw_p165, List.forall_mem_cons.mpr ⟨lw_p166, List.forall_mem_cons.mpr ⟨lw_p167, List.forall_mem_cons.mpr ⟨lw_p168, List.forall_mem_cons.mpr ⟨lw_p169, List.forall_mem_cons.mpr ⟨lw_p170, List.forall_mem_cons.mpr ⟨lw_p171, List.forall_mem_cons.mpr ⟨lw_p172, List.forall_mem_cons.mpr ⟨lw_p173, List.forall_mem_cons.mpr ⟨lw_p174, List.forall_mem_cons.mpr ⟨lw_p175, fun _ h => absurd h List.not_mem_nil⟩⟩⟩⟩⟩⟩⟩⟩⟩⟩⟩⟩⟩⟩⟩⟩
theorem lw_p176 : lw_okq (⟨"CloneVolumesModel", "isDrawn", "()Z"⟩, 116) := ⟨⟨by decide +kernel, by decide +kernel⟩, lw_t_6 (List.mem_of_getElem? (i := 136) (by decide +kernel)), lw_t_10 (List.mem_of_getElem? (i := 133) (by decide +kernel)), lw_t_10 (List.mem_of_getElem? (i := 134) (by decide +kernel))⟩
theorem lw_p177 : lw_okq (⟨"CloneVolumesModel", "drawOf", "(I)I"⟩, 116) := ⟨⟨by decide +kernel, by decide +kernel⟩, lw_t_6 (List.mem_of_getElem? (i := 136) (by decide +kernel)), lw_t_10 (List.mem_of_getElem? (i := 137) (by decide +kernel)), lw_t_10 (List.mem_of_getElem? (i := 138) (by decide +kernel))⟩
theorem lw_p178 : lw_okq (⟨"CloneVolumesModel", "volumeAt", "(I)I"⟩, 116) := ⟨⟨by decide +kernel, by decide +kernel⟩, lw_t_6 (List.mem_of_getElem? (i := 136) (by decide +kernel)), lw_t_10 (List.mem_of_getElem? (i := 145) (by decide +kernel)), lw_t_10 (List.mem_of_getElem? (i := 146) (by decide +kernel))⟩
theorem lw_p179 : lw_okq (⟨"CloneVolumesModel", "qKind", "()I"⟩, 116) := ⟨⟨by decide +kernel, by decide +kernel⟩, lw_t_6 (List.mem_of_getElem? (i := 136) (by decide +kernel)), lw_t_10 (List.mem_of_getElem? (i := 154) (by decide +kernel)), lw_t_10 (List.mem_of_getElem? (i := 155) (by decide +kernel))⟩
theorem lw_p180 : lw_okq (⟨"CloneVolumesModel", "qTold", "(I)J"⟩, 116) := ⟨⟨by decide +kernel, by decide +kernel⟩, lw_t_6 (List.mem_of_getElem? (i := 136) (by decide +kernel)), lw_t_10 (List.mem_of_getElem? (i := 159) (by decide +kernel)), lw_t_10 (List.mem_of_getElem? (i := 160) (by decide +kernel))⟩
theorem lw_p181 : lw_okq (⟨"CloneVolumesModel", "qOf", "(IJI)J"⟩, 116) := ⟨⟨by decide +kernel, by decide +kernel⟩, lw_t_6 (List.mem_of_getElem? (i := 136) (by decide +kernel)), lw_t_10 (List.mem_of_getElem? (i := 163) (by decide +kernel)), lw_t_10 (List.mem_of_getElem? (i := 164) (by decide +kernel))⟩
theorem lw_p182 : lw_okq (⟨"CloneVolumesModel", "qTakes", "(IJI)V"⟩, 116) := ⟨⟨by decide +kernel, by decide +kernel⟩, lw_t_6 (List.mem_of_getElem? (i := 136) (by decide +kernel)), lw_t_10 (List.mem_of_getElem? (i := 167) (by decide +kernel)), lw_t_10 (List.mem_of_getElem? (i := 168) (by decide +kernel))⟩
theorem lw_p183 : lw_okq (⟨"CloneVolumesModel", "tellsByte", "(I)V"⟩, 116) := ⟨⟨by decide +kernel, by decide +kernel⟩, lw_t_6 (List.mem_of_getElem? (i := 136) (by decide +kernel)), lw_t_10 (List.mem_of_getElem? (i := 184) (by decide +kernel)), lw_t_10 (List.mem_of_getElem? (i := 185) (by decide +kernel))⟩
theorem lw_p184 : lw_okq (⟨"CloneVolumesModel", "tellsTwo", "(I)V"⟩, 116) := ⟨⟨by decide +kernel, by decide +kernel⟩, lw_t_6 (List.mem_of_getElem? (i := 136) (by decide +kernel)), lw_t_10 (List.mem_of_getElem? (i := 188) (by decide +kernel)), lw_t_10 (List.mem_of_getElem? (i := 189) (by decide +kernel))⟩
theorem lw_p185 : lw_okq (⟨"CloneVolumesModel", "rootTold", "(I)I"⟩, 116) := ⟨⟨by decide +kernel, by decide +kernel⟩, lw_t_6 (List.mem_of_getElem? (i := 136) (by decide +kernel)), lw_t_10 (List.mem_of_getElem? (i := 192) (by decide +kernel)), lw_t_10 (List.mem_of_getElem? (i := 193) (by decide +kernel))⟩
theorem lw_p186 : lw_okq (⟨"CloneVolumesModel", "writesBlock", "(I)V"⟩, 116) := ⟨⟨by decide +kernel, by decide +kernel⟩, lw_t_6 (List.mem_of_getElem? (i := 136) (by decide +kernel)), lw_t_10 (List.mem_of_getElem? (i := 196) (by decide +kernel)), lw_t_10 (List.mem_of_getElem? (i := 197) (by decide +kernel))⟩
theorem lw_p187 : lw_okq (⟨"CloneVolumesModel", "isImage", "(I)Z"⟩, 116) := ⟨⟨by decide +kernel, by decide +kernel⟩, lw_t_6 (List.mem_of_getElem? (i := 136) (by decide +kernel)), lw_t_10 (List.mem_of_getElem? (i := 207) (by decide +kernel)), lw_t_10 (List.mem_of_getElem? (i := 208) (by decide +kernel))⟩
theorem lw_p188 : lw_okq (⟨"CloneVolumesModel", "isLaid", "(I)Z"⟩, 116) := ⟨⟨by decide +kernel, by decide +kernel⟩, lw_t_6 (List.mem_of_getElem? (i := 136) (by decide +kernel)), lw_t_10 (List.mem_of_getElem? (i := 211) (by decide +kernel)), lw_t_10 (List.mem_of_getElem? (i := 212) (by decide +kernel))⟩
theorem lw_p189 : lw_okq (⟨"CloneVolumesModel", "byteRead", "(I)I"⟩, 116) := ⟨⟨by decide +kernel, by decide +kernel⟩, lw_t_6 (List.mem_of_getElem? (i := 136) (by decide +kernel)), lw_t_10 (List.mem_of_getElem? (i := 215) (by decide +kernel)), lw_t_10 (List.mem_of_getElem? (i := 216) (by decide +kernel))⟩
theorem lw_p190 : lw_okq (⟨"CloneVolumesModel", "twoRead", "(I)I"⟩, 116) := ⟨⟨by decide +kernel, by decide +kernel⟩, lw_t_6 (List.mem_of_getElem? (i := 136) (by decide +kernel)), lw_t_10 (List.mem_of_getElem? (i := 219) (by decide +kernel)), lw_t_10 (List.mem_of_getElem? (i := 220) (by decide +kernel))⟩
theorem lw_p191 : lw_okq (⟨"CloneVolumesModel", "isLaidBlock", "(II)Z"⟩, 116) := ⟨⟨by decide +kernel, by decide +kernel⟩, lw_t_6 (List.mem_of_getElem? (i := 136) (by decide +kernel)), lw_t_10 (List.mem_of_getElem? (i := 223) (by decide +kernel)), lw_t_10 (List.mem_of_getElem? (i := 224) (by decide +kernel))⟩
def lw_privs_12 : List (MethodName × Nat) := [(⟨"CloneVolumesModel", "isDrawn", "()Z"⟩, 116), (⟨"CloneVolumesModel", "drawOf", "(I)I"⟩, 116), (⟨"CloneVolumesModel", "volumeAt", "(I)I"⟩, 116), (⟨"CloneVolumesModel", "qKind", "()I"⟩, 116), (⟨"CloneVolumesModel", "qTold", "(I)J"⟩, 116), (⟨"CloneVolumesModel", "qOf", "(IJI)J"⟩, 116), (⟨"CloneVolumesModel", "qTakes", "(IJI)V"⟩, 116), (⟨"CloneVolumesModel", "tellsByte", "(I)V"⟩, 116), (⟨"CloneVolumesModel", "tellsTwo", "(I)V"⟩, 116), (⟨"CloneVolumesModel", "rootTold", "(I)I"⟩, 116), (⟨"CloneVolumesModel", "writesBlock", "(I)V"⟩, 116), (⟨"CloneVolumesModel", "isImage", "(I)Z"⟩, 116), (⟨"CloneVolumesModel", "isLaid", "(I)Z"⟩, 116), (⟨"CloneVolumesModel", "byteRead", "(I)I"⟩, 116), (⟨"CloneVolumesModel", "twoRead", "(I)I"⟩, 116), (⟨"CloneVolumesModel", "isLaidBlock", "(II)Z"⟩, 116)]
theorem lw_r12 : ∀ q ∈ lw_privs_12, lw_okq q := List.forall_mem_cons.mpr ⟨lw_p176, List.forall_mem_cons.mpr ⟨lw_p177, List.forall_mem_cons.mpr ⟨lw_p178, List.forall_mem_cons.mpr ⟨lw_p179, List.forall_mem_cons.mpr ⟨lw_p180, List.forall_mem_cons.mpr ⟨lw_p181, List.forall_mem_cons.mpr ⟨lw_p182, List.forall_mem_cons.mpr ⟨lw_p183, List.forall_mem_cons.mpr ⟨lw_p184, List.forall_mem_cons.mpr ⟨lw_p185, List.forall_mem_cons.mpr ⟨lw_p186, List.forall_mem_cons.mpr ⟨lw_p187, List.forall_mem_cons.mpr ⟨lw_p188, List.forall_mem_cons.mpr ⟨lw_p189, List.forall_mem_cons.mpr ⟨lw_p190, List.forall_mem_cons.mpr ⟨lw_p191, fun _ h => absurd h List.not_mem_nil⟩⟩⟩⟩⟩⟩⟩⟩⟩⟩⟩⟩⟩⟩⟩⟩
theorem lw_p192 : lw_okq (⟨"CloneVolumesModel", "areValues", "(I)Z"⟩, 116) := ⟨⟨by decide +kernel, by decide +kernel⟩, lw_t_6 (List.mem_of_getElem? (i := 136) (by decide +kernel)), lw_t_10 (List.mem_of_getElem? (i := 227) (by decide +kernel)), lw_t_10 (List.mem_of_getElem? (i := 228) (by decide +kernel))⟩
theorem lw_p193 : lw_okq (⟨"CloneVolumesModel", "laidOf", "(II)I"⟩, 116) := ⟨⟨by decide +kernel, by decide +kernel⟩, lw_t_6 (List.mem_of_getElem? (i := 136) (by decide +kernel)), lw_t_10 (List.mem_of_getElem? (i := 231) (by decide +kernel)), lw_t_10 (List.mem_of_getElem? (i := 232) (by decide +kernel))⟩
theorem lw_p194 : lw_okq (⟨"CloneVolumesModel", "areCounts", "(I)Z"⟩, 116) := ⟨⟨by decide +kernel, by decide +kernel⟩, lw_t_6 (List.mem_of_getElem? (i := 136) (by decide +kernel)), lw_t_10 (List.mem_of_getElem? (i := 235) (by decide +kernel)), lw_t_10 (List.mem_of_getElem? (i := 236) (by decide +kernel))⟩
theorem lw_p195 : lw_okq (⟨"CloneVolumesModel", "areKeys", "(I)Z"⟩, 116) := ⟨⟨by decide +kernel, by decide +kernel⟩, lw_t_6 (List.mem_of_getElem? (i := 136) (by decide +kernel)), lw_t_10 (List.mem_of_getElem? (i := 239) (by decide +kernel)), lw_t_11 (List.mem_of_getElem? (i := 0) (by decide +kernel))⟩
theorem lw_p196 : lw_okq (⟨"CloneVolumesModel", "areBetween", "(III)Z"⟩, 116) := ⟨⟨by decide +kernel, by decide +kernel⟩, lw_t_6 (List.mem_of_getElem? (i := 136) (by decide +kernel)), lw_t_11 (List.mem_of_getElem? (i := 3) (by decide +kernel)), lw_t_11 (List.mem_of_getElem? (i := 4) (by decide +kernel))⟩
def lw_privs_13 : List (MethodName × Nat) := [(⟨"CloneVolumesModel", "areValues", "(I)Z"⟩, 116), (⟨"CloneVolumesModel", "laidOf", "(II)I"⟩, 116), (⟨"CloneVolumesModel", "areCounts", "(I)Z"⟩, 116), (⟨"CloneVolumesModel", "areKeys", "(I)Z"⟩, 116), (⟨"CloneVolumesModel", "areBetween", "(III)Z"⟩, 116)]
theorem lw_r13 : ∀ q ∈ lw_privs_13, lw_okq q := List.forall_mem_cons.mpr ⟨lw_p192, List.forall_mem_cons.mpr ⟨lw_p193, List.forall_mem_cons.mpr ⟨lw_p194, List.forall_mem_cons.mpr ⟨lw_p195, List.forall_mem_cons.mpr ⟨lw_p196, fun _ h => absurd h List.not_mem_nil⟩⟩⟩⟩⟩
def lw_privs : List (MethodName × Nat) := lw_privs_1 ++ (lw_privs_2 ++ (lw_privs_3 ++ (lw_privs_4 ++ (lw_privs_5 ++ (lw_privs_6 ++ (lw_privs_7 ++ (lw_privs_8 ++ (lw_privs_9 ++ (lw_privs_10 ++ (lw_privs_11 ++ (lw_privs_12 ++ (lw_privs_13))))))))))))
def lw_tbl : List Cond := k2_sels lw_privs ++ tables_1
theorem lw_g_1 {w : Cond} (h : w ∈ tables_1_1) : w ∈ lw_tbl := List.mem_append_right _ (lw_t_1 h)
theorem lw_g_2 {w : Cond} (h : w ∈ tables_1_2) : w ∈ lw_tbl := List.mem_append_right _ (lw_t_2 h)
theorem lw_g_3 {w : Cond} (h : w ∈ tables_1_3) : w ∈ lw_tbl := List.mem_append_right _ (lw_t_3 h)
theorem lw_g_4 {w : Cond} (h : w ∈ tables_1_4) : w ∈ lw_tbl := List.mem_append_right _ (lw_t_4 h)
theorem lw_g_5 {w : Cond} (h : w ∈ tables_1_5) : w ∈ lw_tbl := List.mem_append_right _ (lw_t_5 h)
theorem lw_g_6 {w : Cond} (h : w ∈ tables_1_6) : w ∈ lw_tbl := List.mem_append_right _ (lw_t_6 h)
theorem lw_g_7 {w : Cond} (h : w ∈ tables_1_7) : w ∈ lw_tbl := List.mem_append_right _ (lw_t_7 h)
theorem lw_g_8 {w : Cond} (h : w ∈ tables_1_8) : w ∈ lw_tbl := List.mem_append_right _ (lw_t_8 h)
theorem lw_g_9 {w : Cond} (h : w ∈ tables_1_9) : w ∈ lw_tbl := List.mem_append_right _ (lw_t_9 h)
theorem lw_g_10 {w : Cond} (h : w ∈ tables_1_10) : w ∈ lw_tbl := List.mem_append_right _ (lw_t_10 h)
theorem lw_g_11 {w : Cond} (h : w ∈ tables_1_11) : w ∈ lw_tbl := List.mem_append_right _ (lw_t_11 h)
theorem lw_privs_ok : ∀ q ∈ lw_privs, lw_okq q := by
  show ∀ q ∈ lw_privs_1 ++ (lw_privs_2 ++ (lw_privs_3 ++ (lw_privs_4 ++ (lw_privs_5 ++ (lw_privs_6 ++ (lw_privs_7 ++ (lw_privs_8 ++ (lw_privs_9 ++ (lw_privs_10 ++ (lw_privs_11 ++ (lw_privs_12 ++ (lw_privs_13)))))))))))), lw_okq q
  exact List.forall_mem_append.mpr ⟨lw_r1, List.forall_mem_append.mpr ⟨lw_r2, List.forall_mem_append.mpr ⟨lw_r3, List.forall_mem_append.mpr ⟨lw_r4, List.forall_mem_append.mpr ⟨lw_r5, List.forall_mem_append.mpr ⟨lw_r6, List.forall_mem_append.mpr ⟨lw_r7, List.forall_mem_append.mpr ⟨lw_r8, List.forall_mem_append.mpr ⟨lw_r9, List.forall_mem_append.mpr ⟨lw_r10, List.forall_mem_append.mpr ⟨lw_r11, List.forall_mem_append.mpr ⟨lw_r12, lw_r13⟩⟩⟩⟩⟩⟩⟩⟩⟩⟩⟩⟩
/-! ===== BEGIN words of one list among another's, by their places ===== -/
theorem goodIn_r {big : List Cond} (ws : List Cond) (ps : List Nat) (hp : ws = ps.filterMap (fun i => big[i]?)) (h : ws.all goodWord = true) : GoodIn big ws := by
  intro w hw
  have h1 := List.all_eq_true.mp h w hw
  rw [hp] at hw
  obtain ⟨i, -, hi⟩ := List.mem_filterMap.mp hw
  have hm : w ∈ big := by first | exact List.mem_of_getElem? hi | exact List.getElem?_mem hi
  exact ⟨hm, good_of_word h1⟩
theorem goodIn_app {big a b : List Cond} (ha : GoodIn big a) (hb : GoodIn big b) : GoodIn big (a ++ b) := fun w h => (List.mem_append.mp h).elim (ha w) (hb w)
theorem goodIn_ca {big a b : List Cond} {c : Cond} (ha : GoodIn big (c :: a)) (hb : GoodIn big b) : GoodIn big (c :: (a ++ b)) := fun w h => (List.mem_cons.mp h).elim (fun e => ha w (List.mem_cons.mpr (Or.inl e))) (fun h => (List.mem_append.mp h).elim (fun h => ha w (List.mem_cons.mpr (Or.inr h))) (hb w))
theorem goodIn_sub {big ws : List Cond} (hm : ∀ w ∈ ws, w ∈ big) (h : ws.all goodWord = true) : GoodIn big ws := fun w hw => ⟨hm w hw, good_of_word (List.all_eq_true.mp h w hw)⟩
/-! ===== END ===== -/

def RX0 : String := "CloneVolumes$Code"
def TX0 : u_T := fun k => match k with
  | 0 => ("CloneVolumes$Code", "steps", "[I", true)
  | _ => ("CloneVolumes$Code", "size", "I", false)
def tyX0 : Nat → FieldType := fun k => match k with
  | 0 => .array .int
  | _ => .int
abbrev wsX00 : List Cond := u_ws RX0 TX0 2
theorem nmX0 : ∀ a, a < 2 → ∀ b, b < 2 → a ≠ b → (TX0 a).2.1 ≠ (TX0 b).2.1 := by decide +kernel
theorem tyX0_ok : ∀ k, k < 2 → parseFieldDescriptor (TX0 k).2.2.1 = some (tyX0 k) := by decide +kernel
abbrev cX0_init : ByteArray := prog_2_method_1_code
def yX0_init : MethodName := ⟨RX0, "<init>", "()V"⟩
abbrev cX0_add : ByteArray := prog_2_method_2_code
def yX0_add : MethodName := ⟨RX0, "add", "(I)V"⟩
def RX1 : String := "CloneVolumes$Forest"
def TX1 : u_T := fun k => match k with
  | 0 => ("CloneVolumes$Forest", "now", "LCloneVolumes$State;", true)
  | 1 => ("CloneVolumes$Forest", "before", "LCloneVolumes$State;", false)
  | 2 => ("CloneVolumes$Forest", "inner", "LCloneVolumes$State;", true)
  | 3 => ("CloneVolumes$Forest", "seed", "I", false)
  | 4 => ("CloneVolumes$Forest", "plan", "LCloneVolumes$Plan;", false)
  | 5 => ("CloneVolumes$Forest", "machine", "LCloneVolumes$Machine;", true)
  | 6 => ("CloneVolumes$Forest", "chain", "[I", true)
  | 7 => ("CloneVolumes$Forest", "turns", "[I", true)
  | _ => ("CloneVolumes$Forest", "counts", "[I", true)
def tyX1 : Nat → FieldType := fun k => match k with
  | 0 => .object "CloneVolumes$State"
  | 1 => .object "CloneVolumes$State"
  | 2 => .object "CloneVolumes$State"
  | 3 => .int
  | 4 => .object "CloneVolumes$Plan"
  | 5 => .object "CloneVolumes$Machine"
  | 6 => .array .int
  | 7 => .array .int
  | _ => .array .int
abbrev wsX10 : List Cond := u_ws RX1 TX1 9
theorem nmX1 : ∀ a, a < 9 → ∀ b, b < 9 → a ≠ b → (TX1 a).2.1 ≠ (TX1 b).2.1 := by decide +kernel
theorem tyX1_ok : ∀ k, k < 9 → parseFieldDescriptor (TX1 k).2.2.1 = some (tyX1 k) := by decide +kernel
abbrev cX1_init : ByteArray := prog_3_method_1_code
def yX1_init : MethodName := ⟨RX1, "<init>", "(LCloneVolumes$Plan;)V"⟩
abbrev cX1_build : ByteArray := prog_3_method_2_code
def yX1_build : MethodName := ⟨RX1, "build", "(LCloneVolumes$Plan;)V"⟩
abbrev cX1_begin : ByteArray := prog_3_method_3_code
def yX1_begin : MethodName := ⟨RX1, "begin", "()V"⟩
abbrev cX1_settle : ByteArray := prog_3_method_4_code
def yX1_settle : MethodName := ⟨RX1, "settle", "()I"⟩
abbrev cX1_wrote : ByteArray := prog_3_method_5_code
def yX1_wrote : MethodName := ⟨RX1, "wrote", "()I"⟩
abbrev cX1_price : ByteArray := prog_3_method_6_code
def yX1_price : MethodName := ⟨RX1, "price", "()I"⟩
abbrev cX1_isWritten : ByteArray := prog_3_method_7_code
def yX1_isWritten : MethodName := ⟨RX1, "isWritten", "(I)Z"⟩
abbrev cX1_wouldWrite : ByteArray := prog_3_method_8_code
def yX1_wouldWrite : MethodName := ⟨RX1, "wouldWrite", "(II)I"⟩
abbrev cX1_wouldCost : ByteArray := prog_3_method_9_code
def yX1_wouldCost : MethodName := ⟨RX1, "wouldCost", "(II)I"⟩
abbrev cX1_rehearse : ByteArray := prog_3_method_10_code
def yX1_rehearse : MethodName := ⟨RX1, "rehearse", "(II)Z"⟩
abbrev cX1_costOf : ByteArray := prog_3_method_11_code
def yX1_costOf : MethodName := ⟨RX1, "costOf", "(I)I"⟩
abbrev cX1_splits : ByteArray := prog_3_method_12_code
def yX1_splits : MethodName := ⟨RX1, "splits", "(I)Z"⟩
abbrev cX1_valueFor : ByteArray := prog_3_method_13_code
def yX1_valueFor : MethodName := ⟨RX1, "valueFor", "(ILCloneVolumes$Code;)I"⟩
abbrev cX1_take : ByteArray := prog_3_method_14_code
def yX1_take : MethodName := ⟨RX1, "take", "(II)I"⟩
abbrev cX1_owned : ByteArray := prog_3_method_15_code
def yX1_owned : MethodName := ⟨RX1, "owned", "(I)I"⟩
abbrev cX1_layEntries : ByteArray := prog_3_method_16_code
def yX1_layEntries : MethodName := ⟨RX1, "layEntries", "(III)V"⟩
abbrev cX1_release : ByteArray := prog_3_method_17_code
def yX1_release : MethodName := ⟨RX1, "release", "(I[I)I"⟩
abbrev cX1_freedWith : ByteArray := prog_3_method_18_code
def yX1_freedWith : MethodName := ⟨RX1, "freedWith", "(I)I"⟩
abbrev cX1_share : ByteArray := prog_3_method_19_code
def yX1_share : MethodName := ⟨RX1, "share", "(II)V"⟩
abbrev cX1_letGo : ByteArray := prog_3_method_20_code
def yX1_letGo : MethodName := ⟨RX1, "letGo", "(I)V"⟩
abbrev cX1_tryPlant : ByteArray := prog_3_method_21_code
def yX1_tryPlant : MethodName := ⟨RX1, "tryPlant", "(III)Z"⟩
abbrev cX1_plant : ByteArray := prog_3_method_22_code
def yX1_plant : MethodName := ⟨RX1, "plant", "(III)Z"⟩
abbrev cX1_raiseRoot : ByteArray := prog_3_method_23_code
def yX1_raiseRoot : MethodName := ⟨RX1, "raiseRoot", "(I)I"⟩
abbrev cX1_split : ByteArray := prog_3_method_24_code
def yX1_split : MethodName := ⟨RX1, "split", "(IIII)I"⟩
abbrev cX1_plantLow : ByteArray := prog_3_method_25_code
def yX1_plantLow : MethodName := ⟨RX1, "plantLow", "(III)V"⟩
abbrev cX1_tryUproot : ByteArray := prog_3_method_26_code
def yX1_tryUproot : MethodName := ⟨RX1, "tryUproot", "(II)Z"⟩
abbrev cX1_uproot : ByteArray := prog_3_method_27_code
def yX1_uproot : MethodName := ⟨RX1, "uproot", "(II)Z"⟩
abbrev cX1_prune : ByteArray := prog_3_method_28_code
def yX1_prune : MethodName := ⟨RX1, "prune", "(III)V"⟩
abbrev cX1_lowerRoot : ByteArray := prog_3_method_29_code
def yX1_lowerRoot : MethodName := ⟨RX1, "lowerRoot", "(I)V"⟩
abbrev cX1_draw : ByteArray := prog_3_method_30_code
def yX1_draw : MethodName := ⟨RX1, "draw", "(I)I"⟩
abbrev cX1_actBySeed : ByteArray := prog_3_method_31_code
def yX1_actBySeed : MethodName := ⟨RX1, "actBySeed", "()Z"⟩
abbrev cX1_volumeAt : ByteArray := prog_3_method_32_code
def yX1_volumeAt : MethodName := ⟨RX1, "volumeAt", "(I)I"⟩
def RX2 : String := "CloneVolumes$History"
def TX2 : u_T := fun k => match k with
  | 0 => ("CloneVolumes$History", "acts", "[I", true)
  | 1 => ("CloneVolumes$History", "volumes", "[I", true)
  | 2 => ("CloneVolumes$History", "wrote", "[I", true)
  | 3 => ("CloneVolumes$History", "rows", "I", false)
  | 4 => ("CloneVolumes$History", "past", "[LCloneVolumes$State;", true)
  | _ => ("CloneVolumes$History", "depth", "I", false)
def tyX2 : Nat → FieldType := fun k => match k with
  | 0 => .array .int
  | 1 => .array .int
  | 2 => .array .int
  | 3 => .int
  | 4 => .array (.object "CloneVolumes$State")
  | _ => .int
abbrev wsX20 : List Cond := u_ws RX2 TX2 6
theorem nmX2 : ∀ a, a < 6 → ∀ b, b < 6 → a ≠ b → (TX2 a).2.1 ≠ (TX2 b).2.1 := by decide +kernel
theorem tyX2_ok : ∀ k, k < 6 → parseFieldDescriptor (TX2 k).2.2.1 = some (tyX2 k) := by decide +kernel
abbrev cX2_init : ByteArray := prog_4_method_1_code
def yX2_init : MethodName := ⟨RX2, "<init>", "()V"⟩
abbrev cX2_clear : ByteArray := prog_4_method_2_code
def yX2_clear : MethodName := ⟨RX2, "clear", "()V"⟩
abbrev cX2_toldRows : ByteArray := prog_4_method_3_code
def yX2_toldRows : MethodName := ⟨RX2, "toldRows", "()I"⟩
abbrev cX2_toldOf : ByteArray := prog_4_method_4_code
def yX2_toldOf : MethodName := ⟨RX2, "toldOf", "(II)I"⟩
abbrev cX2_keep : ByteArray := prog_4_method_5_code
def yX2_keep : MethodName := ⟨RX2, "keep", "(III)V"⟩
abbrev cX2_remember : ByteArray := prog_4_method_6_code
def yX2_remember : MethodName := ⟨RX2, "remember", "(LCloneVolumes$State;)LCloneVolumes$State;"⟩
abbrev cX2_forget : ByteArray := prog_4_method_7_code
def yX2_forget : MethodName := ⟨RX2, "forget", "()LCloneVolumes$State;"⟩
def RX3 : String := "CloneVolumes$Machine"
def TX3 : u_T := fun k => match k with
  | 0 => ("CloneVolumes$Machine", "stack", "[I", true)
  | 1 => ("CloneVolumes$Machine", "top", "I", false)
  | 2 => ("CloneVolumes$Machine", "number", "I", false)
  | 3 => ("CloneVolumes$Machine", "source", "I", false)
  | 4 => ("CloneVolumes$Machine", "level", "I", false)
  | 5 => ("CloneVolumes$Machine", "entries", "I", false)
  | 6 => ("CloneVolumes$Machine", "count", "I", false)
  | 7 => ("CloneVolumes$Machine", "fresh", "I", false)
  | 8 => ("CloneVolumes$Machine", "saved", "I", false)
  | _ => ("CloneVolumes$Machine", "state", "LCloneVolumes$State;", true)
def tyX3 : Nat → FieldType := fun k => match k with
  | 0 => .array .int
  | 1 => .int
  | 2 => .int
  | 3 => .int
  | 4 => .int
  | 5 => .int
  | 6 => .int
  | 7 => .int
  | 8 => .int
  | _ => .object "CloneVolumes$State"
abbrev wsX30 : List Cond := u_ws RX3 TX3 10
theorem nmX3 : ∀ a, a < 10 → ∀ b, b < 10 → a ≠ b → (TX3 a).2.1 ≠ (TX3 b).2.1 := by decide +kernel
theorem tyX3_ok : ∀ k, k < 10 → parseFieldDescriptor (TX3 k).2.2.1 = some (tyX3 k) := by decide +kernel
abbrev cX3_init : ByteArray := prog_5_method_1_code
def yX3_init : MethodName := ⟨RX3, "<init>", "(LCloneVolumes$State;)V"⟩
abbrev cX3_value : ByteArray := prog_5_method_2_code
def yX3_value : MethodName := ⟨RX3, "value", "(LCloneVolumes$Code;II)I"⟩
abbrev cX3_push : ByteArray := prog_5_method_3_code
def yX3_push : MethodName := ⟨RX3, "push", "(I)V"⟩
abbrev cX3_pop : ByteArray := prog_5_method_4_code
def yX3_pop : MethodName := ⟨RX3, "pop", "()I"⟩
abbrev cX3_fact : ByteArray := prog_5_method_5_code
def yX3_fact : MethodName := ⟨RX3, "fact", "(I)I"⟩
abbrev cX3_changed : ByteArray := prog_5_method_6_code
def yX3_changed : MethodName := ⟨RX3, "changed", "(II)I"⟩
abbrev cX3_joined : ByteArray := prog_5_method_7_code
def yX3_joined : MethodName := ⟨RX3, "joined", "(III)I"⟩
def RX4 : String := "CloneVolumes$Picture"
def TX4 : u_T := fun k => match k with
  | 0 => ("CloneVolumes$Picture", "bytes", "[I", true)
  | 1 => ("CloneVolumes$Picture", "size", "I", false)
  | 2 => ("CloneVolumes$Picture", "at", "I", false)
  | 3 => ("CloneVolumes$Picture", "lowest", "[I", true)
  | 4 => ("CloneVolumes$Picture", "highest", "[I", true)
  | _ => ("CloneVolumes$Picture", "refs", "[I", true)
def tyX4 : Nat → FieldType := fun k => match k with
  | 0 => .array .int
  | 1 => .int
  | 2 => .int
  | 3 => .array .int
  | 4 => .array .int
  | _ => .array .int
abbrev wsX40 : List Cond := u_ws RX4 TX4 6
theorem nmX4 : ∀ a, a < 6 → ∀ b, b < 6 → a ≠ b → (TX4 a).2.1 ≠ (TX4 b).2.1 := by decide +kernel
theorem tyX4_ok : ∀ k, k < 6 → parseFieldDescriptor (TX4 k).2.2.1 = some (tyX4 k) := by decide +kernel
abbrev cX4_init : ByteArray := prog_6_method_1_code
def yX4_init : MethodName := ⟨RX4, "<init>", "()V"⟩
abbrev cX4_draw : ByteArray := prog_6_method_2_code
def yX4_draw : MethodName := ⟨RX4, "draw", "(LCloneVolumes$State;)I"⟩
abbrev cX4_drawBlock : ByteArray := prog_6_method_3_code
def yX4_drawBlock : MethodName := ⟨RX4, "drawBlock", "(LCloneVolumes$State;I)V"⟩
abbrev cX4_add : ByteArray := prog_6_method_4_code
def yX4_add : MethodName := ⟨RX4, "add", "(I)V"⟩
abbrev cX4_addPair : ByteArray := prog_6_method_5_code
def yX4_addPair : MethodName := ⟨RX4, "addPair", "(I)V"⟩
abbrev cX4_rootByte : ByteArray := prog_6_method_6_code
def yX4_rootByte : MethodName := ⟨RX4, "rootByte", "(I)I"⟩
abbrev cX4_seal : ByteArray := prog_6_method_7_code
def yX4_seal : MethodName := ⟨RX4, "seal", "([II)I"⟩
abbrev cX4_load : ByteArray := prog_6_method_8_code
def yX4_load : MethodName := ⟨RX4, "load", "(LCloneVolumes$Tape;LCloneVolumes$State;II)Z"⟩
abbrev cX4_next : ByteArray := prog_6_method_9_code
def yX4_next : MethodName := ⟨RX4, "next", "(LCloneVolumes$Tape;)I"⟩
abbrev cX4_nextPair : ByteArray := prog_6_method_10_code
def yX4_nextPair : MethodName := ⟨RX4, "nextPair", "(LCloneVolumes$Tape;)I"⟩
abbrev cX4_loadHead : ByteArray := prog_6_method_11_code
def yX4_loadHead : MethodName := ⟨RX4, "loadHead", "(LCloneVolumes$Tape;LCloneVolumes$State;)Z"⟩
abbrev cX4_rootOf : ByteArray := prog_6_method_12_code
def yX4_rootOf : MethodName := ⟨RX4, "rootOf", "(I)I"⟩
abbrev cX4_loadBlock : ByteArray := prog_6_method_13_code
def yX4_loadBlock : MethodName := ⟨RX4, "loadBlock", "(LCloneVolumes$Tape;LCloneVolumes$State;II)Z"⟩
abbrev cX4_isSound : ByteArray := prog_6_method_14_code
def yX4_isSound : MethodName := ⟨RX4, "isSound", "(LCloneVolumes$State;)Z"⟩
abbrev cX4_isSoundBlock : ByteArray := prog_6_method_15_code
def yX4_isSoundBlock : MethodName := ⟨RX4, "isSoundBlock", "(LCloneVolumes$State;I)Z"⟩
abbrev cX4_isSoundChild : ByteArray := prog_6_method_16_code
def yX4_isSoundChild : MethodName := ⟨RX4, "isSoundChild", "(LCloneVolumes$State;II)Z"⟩
abbrev cX4_refsAre : ByteArray := prog_6_method_17_code
def yX4_refsAre : MethodName := ⟨RX4, "refsAre", "(LCloneVolumes$State;[I[I)Z"⟩
def RX5 : String := "CloneVolumes$Plan"
def TX5 : u_T := fun k => match k with
  | 0 => ("CloneVolumes$Plan", "blocks", "I", false)
  | 1 => ("CloneVolumes$Plan", "entriesMost", "I", false)
  | 2 => ("CloneVolumes$Plan", "churn", "I", false)
  | 3 => ("CloneVolumes$Plan", "statements", "I", false)
  | 4 => ("CloneVolumes$Plan", "volumes", "I", false)
  | 5 => ("CloneVolumes$Plan", "changes", "I", false)
  | 6 => ("CloneVolumes$Plan", "names", "[I", true)
  | 7 => ("CloneVolumes$Plan", "kinds", "[I", true)
  | 8 => ("CloneVolumes$Plan", "who", "[I", true)
  | 9 => ("CloneVolumes$Plan", "first", "[I", true)
  | 10 => ("CloneVolumes$Plan", "second", "[I", true)
  | 11 => ("CloneVolumes$Plan", "code", "LCloneVolumes$Code;", true)
  | 12 => ("CloneVolumes$Plan", "begins", "[I", true)
  | _ => ("CloneVolumes$Plan", "ends", "[I", true)
def tyX5 : Nat → FieldType := fun k => match k with
  | 0 => .int
  | 1 => .int
  | 2 => .int
  | 3 => .int
  | 4 => .int
  | 5 => .int
  | 6 => .array .int
  | 7 => .array .int
  | 8 => .array .int
  | 9 => .array .int
  | 10 => .array .int
  | 11 => .object "CloneVolumes$Code"
  | 12 => .array .int
  | _ => .array .int
abbrev wsX50 : List Cond := u_ws RX5 TX5 14
theorem nmX5 : ∀ a, a < 14 → ∀ b, b < 14 → a ≠ b → (TX5 a).2.1 ≠ (TX5 b).2.1 := by decide +kernel
theorem tyX5_ok : ∀ k, k < 14 → parseFieldDescriptor (TX5 k).2.2.1 = some (tyX5 k) := by decide +kernel
abbrev cX5_init : ByteArray := prog_7_method_1_code
def yX5_init : MethodName := ⟨RX5, "<init>", "()V"⟩
abbrev cX5_clear : ByteArray := prog_7_method_2_code
def yX5_clear : MethodName := ⟨RX5, "clear", "()V"⟩
abbrev cX5_volumeNamed : ByteArray := prog_7_method_3_code
def yX5_volumeNamed : MethodName := ⟨RX5, "volumeNamed", "(LCloneVolumes$Tape;II)I"⟩
abbrev cX5_addVolume : ByteArray := prog_7_method_4_code
def yX5_addVolume : MethodName := ⟨RX5, "addVolume", "(LCloneVolumes$Tape;II)I"⟩
abbrev cX5_addChange : ByteArray := prog_7_method_5_code
def yX5_addChange : MethodName := ⟨RX5, "addChange", "(IIII)V"⟩
abbrev cX5_letterAt : ByteArray := prog_7_method_6_code
def yX5_letterAt : MethodName := ⟨RX5, "letterAt", "(LCloneVolumes$Tape;II)I"⟩
def RX6 : String := "CloneVolumes$Reader"
def TX6 : u_T := fun k => match k with
  | 0 => ("CloneVolumes$Reader", "fault", "I", false)
  | 1 => ("CloneVolumes$Reader", "place", "I", false)
  | 2 => ("CloneVolumes$Reader", "tape", "LCloneVolumes$Tape;", true)
  | 3 => ("CloneVolumes$Reader", "words", "[C", true)
  | 4 => ("CloneVolumes$Reader", "code", "LCloneVolumes$Code;", false)
  | 5 => ("CloneVolumes$Reader", "mode", "I", false)
  | 6 => ("CloneVolumes$Reader", "open", "I", false)
  | 7 => ("CloneVolumes$Reader", "kind", "I", false)
  | 8 => ("CloneVolumes$Reader", "start", "I", false)
  | 9 => ("CloneVolumes$Reader", "stop", "I", false)
  | 10 => ("CloneVolumes$Reader", "word", "I", false)
  | _ => ("CloneVolumes$Reader", "sign", "I", false)
def tyX6 : Nat → FieldType := fun k => match k with
  | 0 => .int
  | 1 => .int
  | 2 => .object "CloneVolumes$Tape"
  | 3 => .array .char
  | 4 => .object "CloneVolumes$Code"
  | 5 => .int
  | 6 => .int
  | 7 => .int
  | 8 => .int
  | 9 => .int
  | 10 => .int
  | _ => .int
abbrev wsX60 : List Cond := u_ws RX6 TX6 12
theorem nmX6 : ∀ a, a < 12 → ∀ b, b < 12 → a ≠ b → (TX6 a).2.1 ≠ (TX6 b).2.1 := by decide +kernel
theorem tyX6_ok : ∀ k, k < 12 → parseFieldDescriptor (TX6 k).2.2.1 = some (tyX6 k) := by decide +kernel
abbrev cX6_init : ByteArray := prog_8_method_1_code
def yX6_init : MethodName := ⟨RX6, "<init>", "(LCloneVolumes$Tape;)V"⟩
abbrev cX6_readStore : ByteArray := prog_8_method_2_code
def yX6_readStore : MethodName := ⟨RX6, "readStore", "(LCloneVolumes$Plan;)Z"⟩
abbrev cX6_readQuestion : ByteArray := prog_8_method_3_code
def yX6_readQuestion : MethodName := ⟨RX6, "readQuestion", "(LCloneVolumes$Code;)I"⟩
abbrev cX6_begin : ByteArray := prog_8_method_4_code
def yX6_begin : MethodName := ⟨RX6, "begin", "(LCloneVolumes$Code;)V"⟩
abbrev cX6_fail : ByteArray := prog_8_method_5_code
def yX6_fail : MethodName := ⟨RX6, "fail", "(II)Z"⟩
abbrev cX6_advance : ByteArray := prog_8_method_6_code
def yX6_advance : MethodName := ⟨RX6, "advance", "()V"⟩
abbrev cX6_wordNumber : ByteArray := prog_8_method_7_code
def yX6_wordNumber : MethodName := ⟨RX6, "wordNumber", "()I"⟩
abbrev cX6_isBlank : ByteArray := prog_8_method_8_code
def yX6_isBlank : MethodName := ⟨RX6, "isBlank", "(I)Z"⟩
abbrev cX6_isLetter : ByteArray := prog_8_method_9_code
def yX6_isLetter : MethodName := ⟨RX6, "isLetter", "(I)Z"⟩
abbrev cX6_isDigit : ByteArray := prog_8_method_10_code
def yX6_isDigit : MethodName := ⟨RX6, "isDigit", "(I)Z"⟩
abbrev cX6_isWord : ByteArray := prog_8_method_11_code
def yX6_isWord : MethodName := ⟨RX6, "isWord", "(I)Z"⟩
abbrev cX6_isSign : ByteArray := prog_8_method_12_code
def yX6_isSign : MethodName := ⟨RX6, "isSign", "(I)Z"⟩
abbrev cX6_expectWord : ByteArray := prog_8_method_13_code
def yX6_expectWord : MethodName := ⟨RX6, "expectWord", "(I)V"⟩
abbrev cX6_expectSign : ByteArray := prog_8_method_14_code
def yX6_expectSign : MethodName := ⟨RX6, "expectSign", "(I)V"⟩
abbrev cX6_expectNumber : ByteArray := prog_8_method_15_code
def yX6_expectNumber : MethodName := ⟨RX6, "expectNumber", "(II)I"⟩
abbrev cX6_isName : ByteArray := prog_8_method_16_code
def yX6_isName : MethodName := ⟨RX6, "isName", "()Z"⟩
abbrev cX6_expectVolume : ByteArray := prog_8_method_17_code
def yX6_expectVolume : MethodName := ⟨RX6, "expectVolume", "(LCloneVolumes$Plan;)I"⟩
abbrev cX6_readStatement : ByteArray := prog_8_method_18_code
def yX6_readStatement : MethodName := ⟨RX6, "readStatement", "(LCloneVolumes$Plan;)V"⟩
abbrev cX6_readBlocks : ByteArray := prog_8_method_19_code
def yX6_readBlocks : MethodName := ⟨RX6, "readBlocks", "(LCloneVolumes$Plan;)V"⟩
abbrev cX6_readVolume : ByteArray := prog_8_method_20_code
def yX6_readVolume : MethodName := ⟨RX6, "readVolume", "(LCloneVolumes$Plan;I)V"⟩
abbrev cX6_readChange : ByteArray := prog_8_method_21_code
def yX6_readChange : MethodName := ⟨RX6, "readChange", "(LCloneVolumes$Plan;I)V"⟩
abbrev cX6_beginFormula : ByteArray := prog_8_method_22_code
def yX6_beginFormula : MethodName := ⟨RX6, "beginFormula", "(LCloneVolumes$Plan;I)V"⟩
abbrev cX6_readTest : ByteArray := prog_8_method_23_code
def yX6_readTest : MethodName := ⟨RX6, "readTest", "()V"⟩
abbrev cX6_readBoth : ByteArray := prog_8_method_24_code
def yX6_readBoth : MethodName := ⟨RX6, "readBoth", "()V"⟩
abbrev cX6_readFact : ByteArray := prog_8_method_25_code
def yX6_readFact : MethodName := ⟨RX6, "readFact", "()V"⟩
abbrev cX6_comparison : ByteArray := prog_8_method_26_code
def yX6_comparison : MethodName := ⟨RX6, "comparison", "()I"⟩
abbrev cX6_readSum : ByteArray := prog_8_method_27_code
def yX6_readSum : MethodName := ⟨RX6, "readSum", "()V"⟩
abbrev cX6_readProduct : ByteArray := prog_8_method_28_code
def yX6_readProduct : MethodName := ⟨RX6, "readProduct", "()V"⟩
abbrev cX6_readPart : ByteArray := prog_8_method_29_code
def yX6_readPart : MethodName := ⟨RX6, "readPart", "()V"⟩
abbrev cX6_readChoice : ByteArray := prog_8_method_30_code
def yX6_readChoice : MethodName := ⟨RX6, "readChoice", "(I)V"⟩
abbrev cX6_readOther : ByteArray := prog_8_method_31_code
def yX6_readOther : MethodName := ⟨RX6, "readOther", "(I)V"⟩
abbrev cX6_opens : ByteArray := prog_8_method_32_code
def yX6_opens : MethodName := ⟨RX6, "opens", "()Z"⟩
abbrev cX6_isFact : ByteArray := prog_8_method_33_code
def yX6_isFact : MethodName := ⟨RX6, "isFact", "()Z"⟩
def RX7 : String := "CloneVolumes$Sight"
def TX7 : u_T := fun k => match k with
  | 0 => ("CloneVolumes$Sight", "rows", "I", false)
  | 1 => ("CloneVolumes$Sight", "keys", "[I", true)
  | 2 => ("CloneVolumes$Sight", "values", "[I", true)
  | 3 => ("CloneVolumes$Sight", "fit", "[I", true)
  | 4 => ("CloneVolumes$Sight", "fits", "I", false)
  | _ => ("CloneVolumes$Sight", "readings", "[I", true)
def tyX7 : Nat → FieldType := fun k => match k with
  | 0 => .int
  | 1 => .array .int
  | 2 => .array .int
  | 3 => .array .int
  | 4 => .int
  | _ => .array .int
abbrev wsX70 : List Cond := u_ws RX7 TX7 6
theorem nmX7 : ∀ a, a < 6 → ∀ b, b < 6 → a ≠ b → (TX7 a).2.1 ≠ (TX7 b).2.1 := by decide +kernel
theorem tyX7_ok : ∀ k, k < 6 → parseFieldDescriptor (TX7 k).2.2.1 = some (tyX7 k) := by decide +kernel
abbrev cX7_init : ByteArray := prog_9_method_1_code
def yX7_init : MethodName := ⟨RX7, "<init>", "()V"⟩
abbrev cX7_take : ByteArray := prog_9_method_2_code
def yX7_take : MethodName := ⟨RX7, "take", "(LCloneVolumes$Tape;)Z"⟩
abbrev cX7_findFits : ByteArray := prog_9_method_3_code
def yX7_findFits : MethodName := ⟨RX7, "findFits", "(LCloneVolumes$State;)I"⟩
abbrev cX7_agrees : ByteArray := prog_9_method_4_code
def yX7_agrees : MethodName := ⟨RX7, "agrees", "(LCloneVolumes$State;I)Z"⟩
abbrev cX7_mostLeft : ByteArray := prog_9_method_5_code
def yX7_mostLeft : MethodName := ⟨RX7, "mostLeft", "(LCloneVolumes$State;I)I"⟩
abbrev cX7_reading : ByteArray := prog_9_method_6_code
def yX7_reading : MethodName := ⟨RX7, "reading", "(LCloneVolumes$State;II)I"⟩
def RX8 : String := "CloneVolumes$State"
def TX8 : u_T := fun k => match k with
  | 0 => ("CloneVolumes$State", "blocks", "I", false)
  | 1 => ("CloneVolumes$State", "spent", "I", false)
  | 2 => ("CloneVolumes$State", "written", "J", false)
  | 3 => ("CloneVolumes$State", "count", "[I", true)
  | 4 => ("CloneVolumes$State", "saved", "[I", true)
  | 5 => ("CloneVolumes$State", "level", "[I", true)
  | 6 => ("CloneVolumes$State", "size", "[I", true)
  | 7 => ("CloneVolumes$State", "keys", "[I", true)
  | 8 => ("CloneVolumes$State", "values", "[I", true)
  | 9 => ("CloneVolumes$State", "roots", "[I", true)
  | _ => ("CloneVolumes$State", "savedRoots", "[I", true)
def tyX8 : Nat → FieldType := fun k => match k with
  | 0 => .int
  | 1 => .int
  | 2 => .long
  | 3 => .array .int
  | 4 => .array .int
  | 5 => .array .int
  | 6 => .array .int
  | 7 => .array .int
  | 8 => .array .int
  | 9 => .array .int
  | _ => .array .int
abbrev wsX80 : List Cond := u_ws RX8 TX8 11
theorem nmX8 : ∀ a, a < 11 → ∀ b, b < 11 → a ≠ b → (TX8 a).2.1 ≠ (TX8 b).2.1 := by decide +kernel
theorem tyX8_ok : ∀ k, k < 11 → parseFieldDescriptor (TX8 k).2.2.1 = some (tyX8 k) := by decide +kernel
abbrev cX8_init : ByteArray := prog_10_method_1_code
def yX8_init : MethodName := ⟨RX8, "<init>", "()V"⟩
abbrev cX8_clear : ByteArray := prog_10_method_2_code
def yX8_clear : MethodName := ⟨RX8, "clear", "(I)V"⟩
abbrev cX8_become : ByteArray := prog_10_method_3_code
def yX8_become : MethodName := ⟨RX8, "become", "(LCloneVolumes$State;)V"⟩
abbrev cX8_save : ByteArray := prog_10_method_4_code
def yX8_save : MethodName := ⟨RX8, "save", "()V"⟩
abbrev cX8_fallBack : ByteArray := prog_10_method_5_code
def yX8_fallBack : MethodName := ⟨RX8, "fallBack", "()V"⟩
abbrev cX8_isVolume : ByteArray := prog_10_method_6_code
def yX8_isVolume : MethodName := ⟨RX8, "isVolume", "(I)Z"⟩
abbrev cX8_isBlock : ByteArray := prog_10_method_7_code
def yX8_isBlock : MethodName := ⟨RX8, "isBlock", "(I)Z"⟩
abbrev cX8_inUse : ByteArray := prog_10_method_8_code
def yX8_inUse : MethodName := ⟨RX8, "inUse", "(I)Z"⟩
abbrev cX8_isHeld : ByteArray := prog_10_method_9_code
def yX8_isHeld : MethodName := ⟨RX8, "isHeld", "(I)Z"⟩
abbrev cX8_isFresh : ByteArray := prog_10_method_10_code
def yX8_isFresh : MethodName := ⟨RX8, "isFresh", "(I)Z"⟩
abbrev cX8_isFree : ByteArray := prog_10_method_11_code
def yX8_isFree : MethodName := ⟨RX8, "isFree", "(I)Z"⟩
abbrev cX8_levelOf : ByteArray := prog_10_method_12_code
def yX8_levelOf : MethodName := ⟨RX8, "levelOf", "(I)I"⟩
abbrev cX8_sizeOf : ByteArray := prog_10_method_13_code
def yX8_sizeOf : MethodName := ⟨RX8, "sizeOf", "(I)I"⟩
abbrev cX8_volumes : ByteArray := prog_10_method_14_code
def yX8_volumes : MethodName := ⟨RX8, "volumes", "()I"⟩
abbrev cX8_freeNumber : ByteArray := prog_10_method_15_code
def yX8_freeNumber : MethodName := ⟨RX8, "freeNumber", "()I"⟩
abbrev cX8_used : ByteArray := prog_10_method_16_code
def yX8_used : MethodName := ⟨RX8, "used", "()I"⟩
abbrev cX8_held : ByteArray := prog_10_method_17_code
def yX8_held : MethodName := ⟨RX8, "held", "()I"⟩
abbrev cX8_freshBlocks : ByteArray := prog_10_method_18_code
def yX8_freshBlocks : MethodName := ⟨RX8, "freshBlocks", "()I"⟩
abbrev cX8_keptBlocks : ByteArray := prog_10_method_19_code
def yX8_keptBlocks : MethodName := ⟨RX8, "keptBlocks", "()I"⟩
abbrev cX8_slot : ByteArray := prog_10_method_20_code
def yX8_slot : MethodName := ⟨RX8, "slot", "(II)I"⟩
abbrev cX8_entryFor : ByteArray := prog_10_method_21_code
def yX8_entryFor : MethodName := ⟨RX8, "entryFor", "(II)I"⟩
abbrev cX8_below : ByteArray := prog_10_method_22_code
def yX8_below : MethodName := ⟨RX8, "below", "(II)I"⟩
abbrev cX8_find : ByteArray := prog_10_method_23_code
def yX8_find : MethodName := ⟨RX8, "find", "(II)I"⟩
abbrev cX8_valueAt : ByteArray := prog_10_method_24_code
def yX8_valueAt : MethodName := ⟨RX8, "valueAt", "(II)I"⟩
abbrev cX8_insert : ByteArray := prog_10_method_25_code
def yX8_insert : MethodName := ⟨RX8, "insert", "(IIII)V"⟩
abbrev cX8_delete : ByteArray := prog_10_method_26_code
def yX8_delete : MethodName := ⟨RX8, "delete", "(II)V"⟩
abbrev cX8_set : ByteArray := prog_10_method_27_code
def yX8_set : MethodName := ⟨RX8, "set", "(III)V"⟩
abbrev cX8_mark : ByteArray := prog_10_method_28_code
def yX8_mark : MethodName := ⟨RX8, "mark", "(I)V"⟩
def RX9 : String := "CloneVolumes$Tape"
def TX9 : u_T := fun k => match k with
  | 0 => ("CloneVolumes$Tape", "bytes", "[I", true)
  | _ => ("CloneVolumes$Tape", "length", "I", false)
def tyX9 : Nat → FieldType := fun k => match k with
  | 0 => .array .int
  | _ => .int
abbrev wsX90 : List Cond := u_ws RX9 TX9 2
theorem nmX9 : ∀ a, a < 2 → ∀ b, b < 2 → a ≠ b → (TX9 a).2.1 ≠ (TX9 b).2.1 := by decide +kernel
theorem tyX9_ok : ∀ k, k < 2 → parseFieldDescriptor (TX9 k).2.2.1 = some (tyX9 k) := by decide +kernel
abbrev cX9_init : ByteArray := prog_11_method_1_code
def yX9_init : MethodName := ⟨RX9, "<init>", "()V"⟩
abbrev cX9_hasRoom : ByteArray := prog_11_method_2_code
def yX9_hasRoom : MethodName := ⟨RX9, "hasRoom", "()Z"⟩
abbrev cX9_append : ByteArray := prog_11_method_3_code
def yX9_append : MethodName := ⟨RX9, "append", "(I)V"⟩
abbrev cX9_at : ByteArray := prog_11_method_4_code
def yX9_at : MethodName := ⟨RX9, "at", "(I)I"⟩
abbrev cX9_pair : ByteArray := prog_11_method_5_code
def yX9_pair : MethodName := ⟨RX9, "pair", "(I)I"⟩
def RX10 : String := "CloneVolumes$Walk"
def TX10 : u_T := fun k => match k with
  | 0 => ("CloneVolumes$Walk", "row", "[I", true)
  | 1 => ("CloneVolumes$Walk", "length", "I", false)
  | 2 => ("CloneVolumes$Walk", "keys", "[I", true)
  | _ => ("CloneVolumes$Walk", "values", "[I", true)
def tyX10 : Nat → FieldType := fun k => match k with
  | 0 => .array .int
  | 1 => .int
  | 2 => .array .int
  | _ => .array .int
abbrev wsX100 : List Cond := u_ws RX10 TX10 4
theorem nmX10 : ∀ a, a < 4 → ∀ b, b < 4 → a ≠ b → (TX10 a).2.1 ≠ (TX10 b).2.1 := by decide +kernel
theorem tyX10_ok : ∀ k, k < 4 → parseFieldDescriptor (TX10 k).2.2.1 = some (tyX10 k) := by decide +kernel
abbrev cX10_init : ByteArray := prog_12_method_1_code
def yX10_init : MethodName := ⟨RX10, "<init>", "()V"⟩
abbrev cX10_tree : ByteArray := prog_12_method_2_code
def yX10_tree : MethodName := ⟨RX10, "tree", "(LCloneVolumes$State;I)J"⟩
abbrev cX10_gather : ByteArray := prog_12_method_3_code
def yX10_gather : MethodName := ⟨RX10, "gather", "(LCloneVolumes$State;I)I"⟩
def RX11 : String := "CloneVolumes"
def TX11 : u_T := fun k => match k with
  | 0 => ("CloneVolumes", "tape", "LCloneVolumes$Tape;", true)
  | 1 => ("CloneVolumes", "reader", "LCloneVolumes$Reader;", true)
  | 2 => ("CloneVolumes", "history", "LCloneVolumes$History;", true)
  | 3 => ("CloneVolumes", "sight", "LCloneVolumes$Sight;", true)
  | 4 => ("CloneVolumes", "picture", "LCloneVolumes$Picture;", true)
  | 5 => ("CloneVolumes", "walk", "LCloneVolumes$Walk;", true)
  | 6 => ("CloneVolumes", "otherWalk", "LCloneVolumes$Walk;", true)
  | 7 => ("CloneVolumes", "trees", "[J", true)
  | 8 => ("CloneVolumes", "refused", "[I", true)
  | 9 => ("CloneVolumes", "plan", "LCloneVolumes$Plan;", false)
  | 10 => ("CloneVolumes", "spare", "LCloneVolumes$Plan;", false)
  | 11 => ("CloneVolumes", "forest", "LCloneVolumes$Forest;", true)
  | _ => ("CloneVolumes", "told", "Z", false)
def tyX11 : Nat → FieldType := fun k => match k with
  | 0 => .object "CloneVolumes$Tape"
  | 1 => .object "CloneVolumes$Reader"
  | 2 => .object "CloneVolumes$History"
  | 3 => .object "CloneVolumes$Sight"
  | 4 => .object "CloneVolumes$Picture"
  | 5 => .object "CloneVolumes$Walk"
  | 6 => .object "CloneVolumes$Walk"
  | 7 => .array .long
  | 8 => .array .int
  | 9 => .object "CloneVolumes$Plan"
  | 10 => .object "CloneVolumes$Plan"
  | 11 => .object "CloneVolumes$Forest"
  | _ => .boolean
abbrev wsX110 : List Cond := u_ws RX11 TX11 13
theorem nmX11 : ∀ a, a < 13 → ∀ b, b < 13 → a ≠ b → (TX11 a).2.1 ≠ (TX11 b).2.1 := by decide +kernel
theorem tyX11_ok : ∀ k, k < 13 → parseFieldDescriptor (TX11 k).2.2.1 = some (tyX11 k) := by decide +kernel
abbrev cX11_init : ByteArray := prog_1_method_1_code
def yX11_init : MethodName := ⟨RX11, "<init>", "()V"⟩
abbrev cX11_feed : ByteArray := prog_1_method_2_code
def yX11_feed : MethodName := ⟨RX11, "feed", "(IIIII)I"⟩
abbrev cX11_end : ByteArray := prog_1_method_3_code
def yX11_end : MethodName := ⟨RX11, "end", "(I)Z"⟩
abbrev cX11_store : ByteArray := prog_1_method_4_code
def yX11_store : MethodName := ⟨RX11, "store", "()I"⟩
abbrev cX11_fault : ByteArray := prog_1_method_5_code
def yX11_fault : MethodName := ⟨RX11, "fault", "(I)I"⟩
abbrev cX11_has : ByteArray := prog_1_method_6_code
def yX11_has : MethodName := ⟨RX11, "has", "(I)I"⟩
abbrev cX11_letter : ByteArray := prog_1_method_7_code
def yX11_letter : MethodName := ⟨RX11, "letter", "(II)I"⟩
abbrev cX11_volume : ByteArray := prog_1_method_8_code
def yX11_volume : MethodName := ⟨RX11, "volume", "(II)I"⟩
abbrev cX11_block : ByteArray := prog_1_method_9_code
def yX11_block : MethodName := ⟨RX11, "block", "(II)I"⟩
abbrev cX11_entry : ByteArray := prog_1_method_10_code
def yX11_entry : MethodName := ⟨RX11, "entry", "(III)I"⟩
abbrev cX11_kept : ByteArray := prog_1_method_11_code
def yX11_kept : MethodName := ⟨RX11, "kept", "(II)I"⟩
abbrev cX11_read : ByteArray := prog_1_method_12_code
def yX11_read : MethodName := ⟨RX11, "read", "(II)I"⟩
abbrev cX11_key : ByteArray := prog_1_method_13_code
def yX11_key : MethodName := ⟨RX11, "key", "(II)I"⟩
abbrev cX11_total : ByteArray := prog_1_method_14_code
def yX11_total : MethodName := ⟨RX11, "total", "(III)I"⟩
abbrev cX11_path : ByteArray := prog_1_method_15_code
def yX11_path : MethodName := ⟨RX11, "path", "(III)I"⟩
abbrev cX11_shared : ByteArray := prog_1_method_16_code
def yX11_shared : MethodName := ⟨RX11, "shared", "(II)I"⟩
abbrev cX11_differs : ByteArray := prog_1_method_17_code
def yX11_differs : MethodName := ⟨RX11, "differs", "(III)I"⟩
abbrev cX11_writes : ByteArray := prog_1_method_18_code
def yX11_writes : MethodName := ⟨RX11, "writes", "(III)I"⟩
abbrev cX11_spread : ByteArray := prog_1_method_19_code
def yX11_spread : MethodName := ⟨RX11, "spread", "(II)I"⟩
abbrev cX11_lost : ByteArray := prog_1_method_20_code
def yX11_lost : MethodName := ⟨RX11, "lost", "(I)I"⟩
abbrev cX11_worst : ByteArray := prog_1_method_21_code
def yX11_worst : MethodName := ⟨RX11, "worst", "(I)I"⟩
abbrev cX11_victim : ByteArray := prog_1_method_22_code
def yX11_victim : MethodName := ⟨RX11, "victim", "(I)I"⟩
abbrev cX11_room : ByteArray := prog_1_method_23_code
def yX11_room : MethodName := ⟨RX11, "room", "(I)I"⟩
abbrev cX11_back : ByteArray := prog_1_method_24_code
def yX11_back : MethodName := ⟨RX11, "back", "(I)I"⟩
abbrev cX11_see : ByteArray := prog_1_method_25_code
def yX11_see : MethodName := ⟨RX11, "see", "()I"⟩
abbrev cX11_fits : ByteArray := prog_1_method_26_code
def yX11_fits : MethodName := ⟨RX11, "fits", "(I)I"⟩
abbrev cX11_tells : ByteArray := prog_1_method_27_code
def yX11_tells : MethodName := ⟨RX11, "tells", "(I)I"⟩
abbrev cX11_put : ByteArray := prog_1_method_28_code
def yX11_put : MethodName := ⟨RX11, "put", "(III)I"⟩
abbrev cX11_remove : ByteArray := prog_1_method_29_code
def yX11_remove : MethodName := ⟨RX11, "remove", "(II)I"⟩
abbrev cX11_copy : ByteArray := prog_1_method_30_code
def yX11_copy : MethodName := ⟨RX11, "copy", "(I)I"⟩
abbrev cX11_drop : ByteArray := prog_1_method_31_code
def yX11_drop : MethodName := ⟨RX11, "drop", "(I)I"⟩
abbrev cX11_checkpoint : ByteArray := prog_1_method_32_code
def yX11_checkpoint : MethodName := ⟨RX11, "checkpoint", "()I"⟩
abbrev cX11_crash : ByteArray := prog_1_method_33_code
def yX11_crash : MethodName := ⟨RX11, "crash", "()I"⟩
abbrev cX11_chance : ByteArray := prog_1_method_34_code
def yX11_chance : MethodName := ⟨RX11, "chance", "(I)I"⟩
abbrev cX11_undo : ByteArray := prog_1_method_35_code
def yX11_undo : MethodName := ⟨RX11, "undo", "()Z"⟩
abbrev cX11_seed : ByteArray := prog_1_method_36_code
def yX11_seed : MethodName := ⟨RX11, "seed", "(I)Z"⟩
abbrev cX11_ask : ByteArray := prog_1_method_37_code
def yX11_ask : MethodName := ⟨RX11, "ask", "()J"⟩
abbrev cX11_image : ByteArray := prog_1_method_38_code
def yX11_image : MethodName := ⟨RX11, "image", "()I"⟩
abbrev cX11_octet : ByteArray := prog_1_method_39_code
def yX11_octet : MethodName := ⟨RX11, "octet", "(I)I"⟩
abbrev cX11_on : ByteArray := prog_1_method_40_code
def yX11_on : MethodName := ⟨RX11, "on", "()Z"⟩
abbrev cX11_status : ByteArray := prog_1_method_41_code
def yX11_status : MethodName := ⟨RX11, "status", "(I)I"⟩
abbrev cX11_refuse : ByteArray := prog_1_method_42_code
def yX11_refuse : MethodName := ⟨RX11, "refuse", "(I)I"⟩
abbrev cX11_isKey : ByteArray := prog_1_method_43_code
def yX11_isKey : MethodName := ⟨RX11, "isKey", "(I)Z"⟩
abbrev cX11_oneOf : ByteArray := prog_1_method_44_code
def yX11_oneOf : MethodName := ⟨RX11, "oneOf", "(III)I"⟩
abbrev cX11_finish : ByteArray := prog_1_method_45_code
def yX11_finish : MethodName := ⟨RX11, "finish", "(II)I"⟩
abbrev cX11_unlike : ByteArray := prog_1_method_46_code
def yX11_unlike : MethodName := ⟨RX11, "unlike", "(III)I"⟩
abbrev cX11_growTrees : ByteArray := prog_1_method_47_code
def yX11_growTrees : MethodName := ⟨RX11, "growTrees", "()V"⟩
abbrev cX11_lostWith : ByteArray := prog_1_method_48_code
def yX11_lostWith : MethodName := ⟨RX11, "lostWith", "(I)I"⟩
abbrev cX11_answerTest : ByteArray := prog_1_method_49_code
def yX11_answerTest : MethodName := ⟨RX11, "answerTest", "(I)J"⟩
abbrev cX11_answerSum : ByteArray := prog_1_method_50_code
def yX11_answerSum : MethodName := ⟨RX11, "answerSum", "(I)J"⟩
def RX12 : String := "CloneVolumesModel"
def TX12 : u_T := fun k => match k with
  | 0 => ("CloneVolumesModel", "tape", "[I", true)
  | 1 => ("CloneVolumesModel", "taped", "I", false)
  | 2 => ("CloneVolumesModel", "at", "I", false)
  | 3 => ("CloneVolumesModel", "end", "I", false)
  | 4 => ("CloneVolumesModel", "ended", "I", false)
  | 5 => ("CloneVolumesModel", "bad", "I", false)
  | 6 => ("CloneVolumesModel", "badPlace", "I", false)
  | 7 => ("CloneVolumesModel", "fault", "I", false)
  | 8 => ("CloneVolumesModel", "faultPlace", "I", false)
  | 9 => ("CloneVolumesModel", "refused", "[I", true)
  | 10 => ("CloneVolumesModel", "numberPlace", "I", false)
  | 11 => ("CloneVolumesModel", "blocksWord", "[C", true)
  | 12 => ("CloneVolumesModel", "roomWord", "[C", true)
  | 13 => ("CloneVolumesModel", "volumeWord", "[C", true)
  | 14 => ("CloneVolumesModel", "cloneWord", "[C", true)
  | 15 => ("CloneVolumesModel", "ofWord", "[C", true)
  | 16 => ("CloneVolumesModel", "putWord", "[C", true)
  | 17 => ("CloneVolumesModel", "removeWord", "[C", true)
  | 18 => ("CloneVolumesModel", "picksWord", "[C", true)
  | 19 => ("CloneVolumesModel", "splitsWord", "[C", true)
  | 20 => ("CloneVolumesModel", "costsWord", "[C", true)
  | 21 => ("CloneVolumesModel", "churnWord", "[C", true)
  | 22 => ("CloneVolumesModel", "blockWord", "[C", true)
  | 23 => ("CloneVolumesModel", "fromWord", "[C", true)
  | 24 => ("CloneVolumesModel", "levelWord", "[C", true)
  | 25 => ("CloneVolumesModel", "entriesWord", "[C", true)
  | 26 => ("CloneVolumesModel", "numberWord", "[C", true)
  | 27 => ("CloneVolumesModel", "countWord", "[C", true)
  | 28 => ("CloneVolumesModel", "freshWord", "[C", true)
  | 29 => ("CloneVolumesModel", "savedWord", "[C", true)
  | 30 => ("CloneVolumesModel", "refsWord", "[C", true)
  | 31 => ("CloneVolumesModel", "keyWord", "[C", true)
  | 32 => ("CloneVolumesModel", "orWord", "[C", true)
  | 33 => ("CloneVolumesModel", "andWord", "[C", true)
  | 34 => ("CloneVolumesModel", "notWord", "[C", true)
  | 35 => ("CloneVolumesModel", "allWord", "[C", true)
  | 36 => ("CloneVolumesModel", "minWord", "[C", true)
  | 37 => ("CloneVolumesModel", "maxWord", "[C", true)
  | 38 => ("CloneVolumesModel", "namePlace", "I", false)
  | 39 => ("CloneVolumesModel", "many", "[I", true)
  | 40 => ("CloneVolumesModel", "names", "[J", true)
  | 41 => ("CloneVolumesModel", "acts", "[I", true)
  | 42 => ("CloneVolumesModel", "codeFrom", "[I", true)
  | 43 => ("CloneVolumesModel", "codeEnd", "[I", true)
  | 44 => ("CloneVolumesModel", "codes", "[I", true)
  | 45 => ("CloneVolumesModel", "coded", "I", false)
  | 46 => ("CloneVolumesModel", "statements", "I", false)
  | 47 => ("CloneVolumesModel", "isTold", "Z", false)
  | 48 => ("CloneVolumesModel", "textKind", "I", false)
  | 49 => ("CloneVolumesModel", "now", "[I", true)
  | 50 => ("CloneVolumesModel", "askBlock", "I", false)
  | 51 => ("CloneVolumesModel", "askFrom", "I", false)
  | 52 => ("CloneVolumesModel", "askLevel", "I", false)
  | 53 => ("CloneVolumesModel", "askEntries", "I", false)
  | 54 => ("CloneVolumesModel", "isTouched", "[Z", true)
  | 55 => ("CloneVolumesModel", "isFull", "Z", false)
  | 56 => ("CloneVolumesModel", "fallRow", "[I", true)
  | 57 => ("CloneVolumesModel", "wayBlocks", "[I", true)
  | 58 => ("CloneVolumesModel", "wayPlaces", "[I", true)
  | 59 => ("CloneVolumesModel", "tried", "[I", true)
  | 60 => ("CloneVolumesModel", "wasTouched", "[Z", true)
  | 61 => ("CloneVolumesModel", "aside", "[I", true)
  | 62 => ("CloneVolumesModel", "treeRow", "[I", true)
  | 63 => ("CloneVolumesModel", "isInTree", "[Z", true)
  | 64 => ("CloneVolumesModel", "keyRow", "[I", true)
  | 65 => ("CloneVolumesModel", "valueRow", "[I", true)
  | 66 => ("CloneVolumesModel", "leafRow", "[I", true)
  | 67 => ("CloneVolumesModel", "keyMany", "I", false)
  | 68 => ("CloneVolumesModel", "treeMany", "I", false)
  | 69 => ("CloneVolumesModel", "wasInTree", "[Z", true)
  | 70 => ("CloneVolumesModel", "writeMany", "I", false)
  | 71 => ("CloneVolumesModel", "writeCost", "I", false)
  | 72 => ("CloneVolumesModel", "lostBy", "[I", true)
  | 73 => ("CloneVolumesModel", "rowMany", "I", false)
  | 74 => ("CloneVolumesModel", "rows", "[I", true)
  | 75 => ("CloneVolumesModel", "kept0", "[I", true)
  | 76 => ("CloneVolumesModel", "undoable", "I", false)
  | 77 => ("CloneVolumesModel", "newest", "I", false)
  | 78 => ("CloneVolumesModel", "seeded", "J", false)
  | 79 => ("CloneVolumesModel", "firstAsked", "[C", true)
  | 80 => ("CloneVolumesModel", "lastAsked", "[C", true)
  | 81 => ("CloneVolumesModel", "oftenAsked", "[C", true)
  | 82 => ("CloneVolumesModel", "totalAsked", "[C", true)
  | 83 => ("CloneVolumesModel", "mostAsked", "[C", true)
  | 84 => ("CloneVolumesModel", "leastAsked", "[C", true)
  | 85 => ("CloneVolumesModel", "notAsked", "[C", true)
  | 86 => ("CloneVolumesModel", "andAsked", "[C", true)
  | 87 => ("CloneVolumesModel", "orAsked", "[C", true)
  | 88 => ("CloneVolumesModel", "allAsked", "[C", true)
  | 89 => ("CloneVolumesModel", "minAsked", "[C", true)
  | 90 => ("CloneVolumesModel", "maxAsked", "[C", true)
  | 91 => ("CloneVolumesModel", "levelAsked", "[C", true)
  | 92 => ("CloneVolumesModel", "blockAsked", "[C", true)
  | 93 => ("CloneVolumesModel", "fromAsked", "[C", true)
  | 94 => ("CloneVolumesModel", "entriesAsked", "[C", true)
  | 95 => ("CloneVolumesModel", "numberAsked", "[C", true)
  | 96 => ("CloneVolumesModel", "countAsked", "[C", true)
  | 97 => ("CloneVolumesModel", "freshAsked", "[C", true)
  | 98 => ("CloneVolumesModel", "savedAsked", "[C", true)
  | 99 => ("CloneVolumesModel", "refsAsked", "[C", true)
  | 100 => ("CloneVolumesModel", "keyAsked", "[C", true)
  | 101 => ("CloneVolumesModel", "qCodes", "[I", true)
  | 102 => ("CloneVolumesModel", "qCoded", "I", false)
  | 103 => ("CloneVolumesModel", "qWait", "[I", true)
  | 104 => ("CloneVolumesModel", "qWaits", "I", false)
  | 105 => ("CloneVolumesModel", "qOpened", "I", false)
  | 106 => ("CloneVolumesModel", "qBase", "I", false)
  | 107 => ("CloneVolumesModel", "qPile", "[J", true)
  | 108 => ("CloneVolumesModel", "qPiled", "I", false)
  | 109 => ("CloneVolumesModel", "qAnswer", "J", false)
  | 110 => ("CloneVolumesModel", "qIsNew", "Z", false)
  | 111 => ("CloneVolumesModel", "octet", "[I", true)
  | 112 => ("CloneVolumesModel", "octets", "I", false)
  | 113 => ("CloneVolumesModel", "laid", "[I", true)
  | 114 => ("CloneVolumesModel", "read0", "I", false)
  | _ => ("CloneVolumesModel", "recount", "[I", true)
def tyX12 : Nat → FieldType := fun k => match k with
  | 0 => .array .int
  | 1 => .int
  | 2 => .int
  | 3 => .int
  | 4 => .int
  | 5 => .int
  | 6 => .int
  | 7 => .int
  | 8 => .int
  | 9 => .array .int
  | 10 => .int
  | 11 => .array .char
  | 12 => .array .char
  | 13 => .array .char
  | 14 => .array .char
  | 15 => .array .char
  | 16 => .array .char
  | 17 => .array .char
  | 18 => .array .char
  | 19 => .array .char
  | 20 => .array .char
  | 21 => .array .char
  | 22 => .array .char
  | 23 => .array .char
  | 24 => .array .char
  | 25 => .array .char
  | 26 => .array .char
  | 27 => .array .char
  | 28 => .array .char
  | 29 => .array .char
  | 30 => .array .char
  | 31 => .array .char
  | 32 => .array .char
  | 33 => .array .char
  | 34 => .array .char
  | 35 => .array .char
  | 36 => .array .char
  | 37 => .array .char
  | 38 => .int
  | 39 => .array .int
  | 40 => .array .long
  | 41 => .array .int
  | 42 => .array .int
  | 43 => .array .int
  | 44 => .array .int
  | 45 => .int
  | 46 => .int
  | 47 => .boolean
  | 48 => .int
  | 49 => .array .int
  | 50 => .int
  | 51 => .int
  | 52 => .int
  | 53 => .int
  | 54 => .array .boolean
  | 55 => .boolean
  | 56 => .array .int
  | 57 => .array .int
  | 58 => .array .int
  | 59 => .array .int
  | 60 => .array .boolean
  | 61 => .array .int
  | 62 => .array .int
  | 63 => .array .boolean
  | 64 => .array .int
  | 65 => .array .int
  | 66 => .array .int
  | 67 => .int
  | 68 => .int
  | 69 => .array .boolean
  | 70 => .int
  | 71 => .int
  | 72 => .array .int
  | 73 => .int
  | 74 => .array .int
  | 75 => .array .int
  | 76 => .int
  | 77 => .int
  | 78 => .long
  | 79 => .array .char
  | 80 => .array .char
  | 81 => .array .char
  | 82 => .array .char
  | 83 => .array .char
  | 84 => .array .char
  | 85 => .array .char
  | 86 => .array .char
  | 87 => .array .char
  | 88 => .array .char
  | 89 => .array .char
  | 90 => .array .char
  | 91 => .array .char
  | 92 => .array .char
  | 93 => .array .char
  | 94 => .array .char
  | 95 => .array .char
  | 96 => .array .char
  | 97 => .array .char
  | 98 => .array .char
  | 99 => .array .char
  | 100 => .array .char
  | 101 => .array .int
  | 102 => .int
  | 103 => .array .int
  | 104 => .int
  | 105 => .int
  | 106 => .int
  | 107 => .array .long
  | 108 => .int
  | 109 => .long
  | 110 => .boolean
  | 111 => .array .int
  | 112 => .int
  | 113 => .array .int
  | 114 => .int
  | _ => .array .int
abbrev wsX120 : List Cond := u_ws RX12 TX12 116
theorem nmX12 : ∀ a, a < 116 → ∀ b, b < 116 → a ≠ b → (TX12 a).2.1 ≠ (TX12 b).2.1 := by decide +kernel
theorem tyX12_ok : ∀ k, k < 116 → parseFieldDescriptor (TX12 k).2.2.1 = some (tyX12 k) := by decide +kernel
abbrev cX12_init : ByteArray := prog_14_method_1_code
def yX12_init : MethodName := ⟨RX12, "<init>", "()V"⟩
abbrev cX12_isIn : ByteArray := prog_14_method_2_code
def yX12_isIn : MethodName := ⟨RX12, "isIn", "(JJJ)Z"⟩
abbrev cX12_clamp : ByteArray := prog_14_method_3_code
def yX12_clamp : MethodName := ⟨RX12, "clamp", "(J)I"⟩
abbrev cX12_feed : ByteArray := prog_14_method_4_code
def yX12_feed : MethodName := ⟨RX12, "feed", "(IIIII)I"⟩
abbrev cX12_end : ByteArray := prog_14_method_5_code
def yX12_end : MethodName := ⟨RX12, "end", "(I)Z"⟩
abbrev cX12_fail : ByteArray := prog_14_method_6_code
def yX12_fail : MethodName := ⟨RX12, "fail", "(II)V"⟩
abbrev cX12_isLetter : ByteArray := prog_14_method_7_code
def yX12_isLetter : MethodName := ⟨RX12, "isLetter", "(I)Z"⟩
abbrev cX12_isDigit : ByteArray := prog_14_method_8_code
def yX12_isDigit : MethodName := ⟨RX12, "isDigit", "(I)Z"⟩
abbrev cX12_look : ByteArray := prog_14_method_9_code
def yX12_look : MethodName := ⟨RX12, "look", "()I"⟩
abbrev cX12_isHere : ByteArray := prog_14_method_10_code
def yX12_isHere : MethodName := ⟨RX12, "isHere", "([C)Z"⟩
abbrev cX12_takes : ByteArray := prog_14_method_11_code
def yX12_takes : MethodName := ⟨RX12, "takes", "([C)Z"⟩
abbrev cX12_asks : ByteArray := prog_14_method_12_code
def yX12_asks : MethodName := ⟨RX12, "asks", "([C)V"⟩
abbrev cX12_takesSign : ByteArray := prog_14_method_13_code
def yX12_takesSign : MethodName := ⟨RX12, "takesSign", "(I)Z"⟩
abbrev cX12_asksSign : ByteArray := prog_14_method_14_code
def yX12_asksSign : MethodName := ⟨RX12, "asksSign", "(I)V"⟩
abbrev cX12_number : ByteArray := prog_14_method_15_code
def yX12_number : MethodName := ⟨RX12, "number", "(II)I"⟩
abbrev cX12_isOwnHere : ByteArray := prog_14_method_16_code
def yX12_isOwnHere : MethodName := ⟨RX12, "isOwnHere", "()Z"⟩
abbrev cX12_name : ByteArray := prog_14_method_17_code
def yX12_name : MethodName := ⟨RX12, "name", "()J"⟩
abbrev cX12_isAllowed : ByteArray := prog_14_method_18_code
def yX12_isAllowed : MethodName := ⟨RX12, "isAllowed", "(I)Z"⟩
abbrev cX12_storeTold : ByteArray := prog_14_method_19_code
def yX12_storeTold : MethodName := ⟨RX12, "storeTold", "()V"⟩
abbrev cX12_actTold : ByteArray := prog_14_method_20_code
def yX12_actTold : MethodName := ⟨RX12, "actTold", "(IIII)V"⟩
abbrev cX12_newName : ByteArray := prog_14_method_21_code
def yX12_newName : MethodName := ⟨RX12, "newName", "()J"⟩
abbrev cX12_volumeNamed : ByteArray := prog_14_method_22_code
def yX12_volumeNamed : MethodName := ⟨RX12, "volumeNamed", "()I"⟩
abbrev cX12_volumeTold : ByteArray := prog_14_method_23_code
def yX12_volumeTold : MethodName := ⟨RX12, "volumeTold", "(ZI)V"⟩
abbrev cX12_putTold : ByteArray := prog_14_method_24_code
def yX12_putTold : MethodName := ⟨RX12, "putTold", "()V"⟩
abbrev cX12_removeTold : ByteArray := prog_14_method_25_code
def yX12_removeTold : MethodName := ⟨RX12, "removeTold", "()V"⟩
abbrev cX12_codesTold : ByteArray := prog_14_method_26_code
def yX12_codesTold : MethodName := ⟨RX12, "codesTold", "(II)V"⟩
abbrev cX12_statementTold : ByteArray := prog_14_method_27_code
def yX12_statementTold : MethodName := ⟨RX12, "statementTold", "()V"⟩
abbrev cX12_store : ByteArray := prog_14_method_28_code
def yX12_store : MethodName := ⟨RX12, "store", "()I"⟩
abbrev cX12_stands : ByteArray := prog_14_method_29_code
def yX12_stands : MethodName := ⟨RX12, "stands", "()V"⟩
abbrev cX12_actGoes : ByteArray := prog_14_method_30_code
def yX12_actGoes : MethodName := ⟨RX12, "actGoes", "(IIII)V"⟩
abbrev cX12_fault : ByteArray := prog_14_method_31_code
def yX12_fault : MethodName := ⟨RX12, "fault", "(I)I"⟩
abbrev cX12_blockMany : ByteArray := prog_14_method_32_code
def yX12_blockMany : MethodName := ⟨RX12, "blockMany", "()I"⟩
abbrev cX12_roomOf : ByteArray := prog_14_method_33_code
def yX12_roomOf : MethodName := ⟨RX12, "roomOf", "()I"⟩
abbrev cX12_isBlock : ByteArray := prog_14_method_34_code
def yX12_isBlock : MethodName := ⟨RX12, "isBlock", "(J)Z"⟩
abbrev cX12_countOf : ByteArray := prog_14_method_35_code
def yX12_countOf : MethodName := ⟨RX12, "countOf", "(I)I"⟩
abbrev cX12_savedOf : ByteArray := prog_14_method_36_code
def yX12_savedOf : MethodName := ⟨RX12, "savedOf", "(I)I"⟩
abbrev cX12_levelOf : ByteArray := prog_14_method_37_code
def yX12_levelOf : MethodName := ⟨RX12, "levelOf", "(I)I"⟩
abbrev cX12_entriesOf : ByteArray := prog_14_method_38_code
def yX12_entriesOf : MethodName := ⟨RX12, "entriesOf", "(I)I"⟩
abbrev cX12_keyAt : ByteArray := prog_14_method_39_code
def yX12_keyAt : MethodName := ⟨RX12, "keyAt", "(II)I"⟩
abbrev cX12_valueAt : ByteArray := prog_14_method_40_code
def yX12_valueAt : MethodName := ⟨RX12, "valueAt", "(II)I"⟩
abbrev cX12_counts : ByteArray := prog_14_method_41_code
def yX12_counts : MethodName := ⟨RX12, "counts", "(II)V"⟩
abbrev cX12_isUsed : ByteArray := prog_14_method_42_code
def yX12_isUsed : MethodName := ⟨RX12, "isUsed", "(I)Z"⟩
abbrev cX12_isThere : ByteArray := prog_14_method_43_code
def yX12_isThere : MethodName := ⟨RX12, "isThere", "(I)Z"⟩
abbrev cX12_isFresh : ByteArray := prog_14_method_44_code
def yX12_isFresh : MethodName := ⟨RX12, "isFresh", "(I)Z"⟩
abbrev cX12_isHeld : ByteArray := prog_14_method_45_code
def yX12_isHeld : MethodName := ⟨RX12, "isHeld", "(I)Z"⟩
abbrev cX12_isVolume : ByteArray := prog_14_method_46_code
def yX12_isVolume : MethodName := ⟨RX12, "isVolume", "(J)Z"⟩
abbrev cX12_isCoded : ByteArray := prog_14_method_47_code
def yX12_isCoded : MethodName := ⟨RX12, "isCoded", "(I)Z"⟩
abbrev cX12_codesTell : ByteArray := prog_14_method_48_code
def yX12_codesTell : MethodName := ⟨RX12, "codesTell", "(I)J"⟩
abbrev cX12_clearsTouched : ByteArray := prog_14_method_49_code
def yX12_clearsTouched : MethodName := ⟨RX12, "clearsTouched", "()V"⟩
abbrev cX12_costOf : ByteArray := prog_14_method_50_code
def yX12_costOf : MethodName := ⟨RX12, "costOf", "(I)I"⟩
abbrev cX12_writtenMany : ByteArray := prog_14_method_51_code
def yX12_writtenMany : MethodName := ⟨RX12, "writtenMany", "()I"⟩
abbrev cX12_writtenCost : ByteArray := prog_14_method_52_code
def yX12_writtenCost : MethodName := ⟨RX12, "writtenCost", "()I"⟩
abbrev cX12_isKept : ByteArray := prog_14_method_53_code
def yX12_isKept : MethodName := ⟨RX12, "isKept", "(II)V"⟩
abbrev cX12_taken : ByteArray := prog_14_method_54_code
def yX12_taken : MethodName := ⟨RX12, "taken", "(II)I"⟩
abbrev cX12_falls : ByteArray := prog_14_method_55_code
def yX12_falls : MethodName := ⟨RX12, "falls", "(I)V"⟩
abbrev cX12_owned : ByteArray := prog_14_method_56_code
def yX12_owned : MethodName := ⟨RX12, "owned", "(I)I"⟩
abbrev cX12_setsEntry : ByteArray := prog_14_method_57_code
def yX12_setsEntry : MethodName := ⟨RX12, "setsEntry", "(IIII)V"⟩
abbrev cX12_inserts : ByteArray := prog_14_method_58_code
def yX12_inserts : MethodName := ⟨RX12, "inserts", "(IIII)V"⟩
abbrev cX12_cutsEntry : ByteArray := prog_14_method_59_code
def yX12_cutsEntry : MethodName := ⟨RX12, "cutsEntry", "(II)V"⟩
abbrev cX12_placeFor : ByteArray := prog_14_method_60_code
def yX12_placeFor : MethodName := ⟨RX12, "placeFor", "(II)I"⟩
abbrev cX12_placeIn : ByteArray := prog_14_method_61_code
def yX12_placeIn : MethodName := ⟨RX12, "placeIn", "(II)I"⟩
abbrev cX12_doesSplit : ByteArray := prog_14_method_62_code
def yX12_doesSplit : MethodName := ⟨RX12, "doesSplit", "(I)Z"⟩
abbrev cX12_half : ByteArray := prog_14_method_63_code
def yX12_half : MethodName := ⟨RX12, "half", "(IIII)I"⟩
abbrev cX12_rootSplit : ByteArray := prog_14_method_64_code
def yX12_rootSplit : MethodName := ⟨RX12, "rootSplit", "(III)I"⟩
abbrev cX12_puts : ByteArray := prog_14_method_65_code
def yX12_puts : MethodName := ⟨RX12, "puts", "(III)V"⟩
abbrev cX12_putsIn : ByteArray := prog_14_method_66_code
def yX12_putsIn : MethodName := ⟨RX12, "putsIn", "(III)V"⟩
abbrev cX12_removes : ByteArray := prog_14_method_67_code
def yX12_removes : MethodName := ⟨RX12, "removes", "(II)V"⟩
abbrev cX12_lowers : ByteArray := prog_14_method_68_code
def yX12_lowers : MethodName := ⟨RX12, "lowers", "(I)V"⟩
abbrev cX12_tries : ByteArray := prog_14_method_69_code
def yX12_tries : MethodName := ⟨RX12, "tries", "(IIII)Z"⟩
abbrev cX12_copies : ByteArray := prog_14_method_70_code
def yX12_copies : MethodName := ⟨RX12, "copies", "(II)V"⟩
abbrev cX12_drops : ByteArray := prog_14_method_71_code
def yX12_drops : MethodName := ⟨RX12, "drops", "(I)V"⟩
abbrev cX12_checks : ByteArray := prog_14_method_72_code
def yX12_checks : MethodName := ⟨RX12, "checks", "()V"⟩
abbrev cX12_crashes : ByteArray := prog_14_method_73_code
def yX12_crashes : MethodName := ⟨RX12, "crashes", "()V"⟩
abbrev cX12_putsAside : ByteArray := prog_14_method_74_code
def yX12_putsAside : MethodName := ⟨RX12, "putsAside", "()V"⟩
abbrev cX12_takesBack : ByteArray := prog_14_method_75_code
def yX12_takesBack : MethodName := ⟨RX12, "takesBack", "()V"⟩
abbrev cX12_volumeMany : ByteArray := prog_14_method_76_code
def yX12_volumeMany : MethodName := ⟨RX12, "volumeMany", "()I"⟩
abbrev cX12_usedMany : ByteArray := prog_14_method_77_code
def yX12_usedMany : MethodName := ⟨RX12, "usedMany", "()I"⟩
abbrev cX12_heldMany : ByteArray := prog_14_method_78_code
def yX12_heldMany : MethodName := ⟨RX12, "heldMany", "()I"⟩
abbrev cX12_freeMany : ByteArray := prog_14_method_79_code
def yX12_freeMany : MethodName := ⟨RX12, "freeMany", "()I"⟩
abbrev cX12_has : ByteArray := prog_14_method_80_code
def yX12_has : MethodName := ⟨RX12, "has", "(I)I"⟩
abbrev cX12_letter : ByteArray := prog_14_method_81_code
def yX12_letter : MethodName := ⟨RX12, "letter", "(II)I"⟩
abbrev cX12_laysTree : ByteArray := prog_14_method_82_code
def yX12_laysTree : MethodName := ⟨RX12, "laysTree", "(I)V"⟩
abbrev cX12_laysLeaf : ByteArray := prog_14_method_83_code
def yX12_laysLeaf : MethodName := ⟨RX12, "laysLeaf", "(I)V"⟩
abbrev cX12_dropsMany : ByteArray := prog_14_method_84_code
def yX12_dropsMany : MethodName := ⟨RX12, "dropsMany", "(I)I"⟩
abbrev cX12_volume : ByteArray := prog_14_method_85_code
def yX12_volume : MethodName := ⟨RX12, "volume", "(II)I"⟩
abbrev cX12_block : ByteArray := prog_14_method_86_code
def yX12_block : MethodName := ⟨RX12, "block", "(II)I"⟩
abbrev cX12_entry : ByteArray := prog_14_method_87_code
def yX12_entry : MethodName := ⟨RX12, "entry", "(III)I"⟩
abbrev cX12_kept : ByteArray := prog_14_method_88_code
def yX12_kept : MethodName := ⟨RX12, "kept", "(II)I"⟩
abbrev cX12_valueFrom : ByteArray := prog_14_method_89_code
def yX12_valueFrom : MethodName := ⟨RX12, "valueFrom", "(II)I"⟩
abbrev cX12_valueOf : ByteArray := prog_14_method_90_code
def yX12_valueOf : MethodName := ⟨RX12, "valueOf", "(II)I"⟩
abbrev cX12_read : ByteArray := prog_14_method_91_code
def yX12_read : MethodName := ⟨RX12, "read", "(II)I"⟩
abbrev cX12_key : ByteArray := prog_14_method_92_code
def yX12_key : MethodName := ⟨RX12, "key", "(II)I"⟩
abbrev cX12_total : ByteArray := prog_14_method_93_code
def yX12_total : MethodName := ⟨RX12, "total", "(III)I"⟩
abbrev cX12_path : ByteArray := prog_14_method_94_code
def yX12_path : MethodName := ⟨RX12, "path", "(III)I"⟩
abbrev cX12_shared : ByteArray := prog_14_method_95_code
def yX12_shared : MethodName := ⟨RX12, "shared", "(II)I"⟩
abbrev cX12_unlike : ByteArray := prog_14_method_96_code
def yX12_unlike : MethodName := ⟨RX12, "unlike", "(III)I"⟩
abbrev cX12_differs : ByteArray := prog_14_method_97_code
def yX12_differs : MethodName := ⟨RX12, "differs", "(III)I"⟩
abbrev cX12_laysWrites : ByteArray := prog_14_method_98_code
def yX12_laysWrites : MethodName := ⟨RX12, "laysWrites", "(II)V"⟩
abbrev cX12_writes : ByteArray := prog_14_method_99_code
def yX12_writes : MethodName := ⟨RX12, "writes", "(III)I"⟩
abbrev cX12_spread : ByteArray := prog_14_method_100_code
def yX12_spread : MethodName := ⟨RX12, "spread", "(II)I"⟩
abbrev cX12_laysLost : ByteArray := prog_14_method_101_code
def yX12_laysLost : MethodName := ⟨RX12, "laysLost", "()V"⟩
abbrev cX12_lost : ByteArray := prog_14_method_102_code
def yX12_lost : MethodName := ⟨RX12, "lost", "(I)I"⟩
abbrev cX12_worst : ByteArray := prog_14_method_103_code
def yX12_worst : MethodName := ⟨RX12, "worst", "(I)I"⟩
abbrev cX12_victim : ByteArray := prog_14_method_104_code
def yX12_victim : MethodName := ⟨RX12, "victim", "(I)I"⟩
abbrev cX12_room : ByteArray := prog_14_method_105_code
def yX12_room : MethodName := ⟨RX12, "room", "(I)I"⟩
abbrev cX12_back : ByteArray := prog_14_method_106_code
def yX12_back : MethodName := ⟨RX12, "back", "(I)I"⟩
abbrev cX12_see : ByteArray := prog_14_method_107_code
def yX12_see : MethodName := ⟨RX12, "see", "()I"⟩
abbrev cX12_toldOf : ByteArray := prog_14_method_108_code
def yX12_toldOf : MethodName := ⟨RX12, "toldOf", "(II)I"⟩
abbrev cX12_doesFit : ByteArray := prog_14_method_109_code
def yX12_doesFit : MethodName := ⟨RX12, "doesFit", "(I)Z"⟩
abbrev cX12_fits : ByteArray := prog_14_method_110_code
def yX12_fits : MethodName := ⟨RX12, "fits", "(I)I"⟩
abbrev cX12_mostAlike : ByteArray := prog_14_method_111_code
def yX12_mostAlike : MethodName := ⟨RX12, "mostAlike", "(I)I"⟩
abbrev cX12_tells : ByteArray := prog_14_method_112_code
def yX12_tells : MethodName := ⟨RX12, "tells", "(I)I"⟩
abbrev cX12_keeps : ByteArray := prog_14_method_113_code
def yX12_keeps : MethodName := ⟨RX12, "keeps", "()V"⟩
abbrev cX12_undo : ByteArray := prog_14_method_114_code
def yX12_undo : MethodName := ⟨RX12, "undo", "()Z"⟩
abbrev cX12_refuses : ByteArray := prog_14_method_115_code
def yX12_refuses : MethodName := ⟨RX12, "refuses", "(I)I"⟩
abbrev cX12_isRefused : ByteArray := prog_14_method_116_code
def yX12_isRefused : MethodName := ⟨RX12, "isRefused", "(I)Z"⟩
abbrev cX12_put : ByteArray := prog_14_method_117_code
def yX12_put : MethodName := ⟨RX12, "put", "(III)I"⟩
abbrev cX12_canBe : ByteArray := prog_14_method_118_code
def yX12_canBe : MethodName := ⟨RX12, "canBe", "(IIII)Z"⟩
abbrev cX12_remove : ByteArray := prog_14_method_119_code
def yX12_remove : MethodName := ⟨RX12, "remove", "(II)I"⟩
abbrev cX12_freeNumber : ByteArray := prog_14_method_120_code
def yX12_freeNumber : MethodName := ⟨RX12, "freeNumber", "()I"⟩
abbrev cX12_copy : ByteArray := prog_14_method_121_code
def yX12_copy : MethodName := ⟨RX12, "copy", "(I)I"⟩
abbrev cX12_drop : ByteArray := prog_14_method_122_code
def yX12_drop : MethodName := ⟨RX12, "drop", "(I)I"⟩
abbrev cX12_checkpoint : ByteArray := prog_14_method_123_code
def yX12_checkpoint : MethodName := ⟨RX12, "checkpoint", "()I"⟩
abbrev cX12_crash : ByteArray := prog_14_method_124_code
def yX12_crash : MethodName := ⟨RX12, "crash", "()I"⟩
abbrev cX12_seed : ByteArray := prog_14_method_125_code
def yX12_seed : MethodName := ⟨RX12, "seed", "(I)Z"⟩
abbrev cX12_drawOf : ByteArray := prog_14_method_126_code
def yX12_drawOf : MethodName := ⟨RX12, "drawOf", "(I)I"⟩
abbrev cX12_volumeAt : ByteArray := prog_14_method_127_code
def yX12_volumeAt : MethodName := ⟨RX12, "volumeAt", "(I)I"⟩
abbrev cX12_isDrawn : ByteArray := prog_14_method_128_code
def yX12_isDrawn : MethodName := ⟨RX12, "isDrawn", "()Z"⟩
abbrev cX12_chance : ByteArray := prog_14_method_129_code
def yX12_chance : MethodName := ⟨RX12, "chance", "(I)I"⟩
abbrev cX12_qCode : ByteArray := prog_14_method_130_code
def yX12_qCode : MethodName := ⟨RX12, "qCode", "(I)V"⟩
abbrev cX12_qOpens : ByteArray := prog_14_method_131_code
def yX12_qOpens : MethodName := ⟨RX12, "qOpens", "(II)V"⟩
abbrev cX12_qIsOn : ByteArray := prog_14_method_132_code
def yX12_qIsOn : MethodName := ⟨RX12, "qIsOn", "(I)Z"⟩
abbrev cX12_qDrops : ByteArray := prog_14_method_133_code
def yX12_qDrops : MethodName := ⟨RX12, "qDrops", "()V"⟩
abbrev cX12_qIsBracket : ByteArray := prog_14_method_134_code
def yX12_qIsBracket : MethodName := ⟨RX12, "qIsBracket", "(I)Z"⟩
abbrev cX12_qBracket : ByteArray := prog_14_method_135_code
def yX12_qBracket : MethodName := ⟨RX12, "qBracket", "()I"⟩
abbrev cX12_qDropsToBracket : ByteArray := prog_14_method_136_code
def yX12_qDropsToBracket : MethodName := ⟨RX12, "qDropsToBracket", "()V"⟩
abbrev cX12_qWordHere : ByteArray := prog_14_method_137_code
def yX12_qWordHere : MethodName := ⟨RX12, "qWordHere", "()I"⟩
abbrev cX12_qWordOf : ByteArray := prog_14_method_138_code
def yX12_qWordOf : MethodName := ⟨RX12, "qWordOf", "(II)I"⟩
abbrev cX12_qAsksWord : ByteArray := prog_14_method_139_code
def yX12_qAsksWord : MethodName := ⟨RX12, "qAsksWord", "(I)V"⟩
abbrev cX12_qEndsPart : ByteArray := prog_14_method_140_code
def yX12_qEndsPart : MethodName := ⟨RX12, "qEndsPart", "()V"⟩
abbrev cX12_qPartTold : ByteArray := prog_14_method_141_code
def yX12_qPartTold : MethodName := ⟨RX12, "qPartTold", "()V"⟩
abbrev cX12_qGoesOn : ByteArray := prog_14_method_142_code
def yX12_qGoesOn : MethodName := ⟨RX12, "qGoesOn", "()Z"⟩
abbrev cX12_qSums : ByteArray := prog_14_method_143_code
def yX12_qSums : MethodName := ⟨RX12, "qSums", "()V"⟩
abbrev cX12_qFact : ByteArray := prog_14_method_144_code
def yX12_qFact : MethodName := ⟨RX12, "qFact", "()V"⟩
abbrev cX12_qHasSquare : ByteArray := prog_14_method_145_code
def yX12_qHasSquare : MethodName := ⟨RX12, "qHasSquare", "()Z"⟩
abbrev cX12_qDropsNots : ByteArray := prog_14_method_146_code
def yX12_qDropsNots : MethodName := ⟨RX12, "qDropsNots", "()V"⟩
abbrev cX12_qTest : ByteArray := prog_14_method_147_code
def yX12_qTest : MethodName := ⟨RX12, "qTest", "()V"⟩
abbrev cX12_qGoesOnTest : ByteArray := prog_14_method_148_code
def yX12_qGoesOnTest : MethodName := ⟨RX12, "qGoesOnTest", "()Z"⟩
abbrev cX12_qClip : ByteArray := prog_14_method_149_code
def yX12_qClip : MethodName := ⟨RX12, "qClip", "(J)J"⟩
abbrev cX12_qFloor : ByteArray := prog_14_method_150_code
def yX12_qFloor : MethodName := ⟨RX12, "qFloor", "(JJ)J"⟩
abbrev cX12_qPuts : ByteArray := prog_14_method_151_code
def yX12_qPuts : MethodName := ⟨RX12, "qPuts", "(J)V"⟩
abbrev cX12_qJoins : ByteArray := prog_14_method_152_code
def yX12_qJoins : MethodName := ⟨RX12, "qJoins", "(I)V"⟩
abbrev cX12_qPartOf : ByteArray := prog_14_method_153_code
def yX12_qPartOf : MethodName := ⟨RX12, "qPartOf", "(II)J"⟩
abbrev cX12_qOf : ByteArray := prog_14_method_154_code
def yX12_qOf : MethodName := ⟨RX12, "qOf", "(IJI)J"⟩
abbrev cX12_qTold : ByteArray := prog_14_method_155_code
def yX12_qTold : MethodName := ⟨RX12, "qTold", "(I)J"⟩
abbrev cX12_qKind : ByteArray := prog_14_method_156_code
def yX12_qKind : MethodName := ⟨RX12, "qKind", "()I"⟩
abbrev cX12_qTakes : ByteArray := prog_14_method_157_code
def yX12_qTakes : MethodName := ⟨RX12, "qTakes", "(IJI)V"⟩
abbrev cX12_ask : ByteArray := prog_14_method_158_code
def yX12_ask : MethodName := ⟨RX12, "ask", "()J"⟩
abbrev cX12_checked : ByteArray := prog_14_method_159_code
def yX12_checked : MethodName := ⟨RX12, "checked", "([II)I"⟩
abbrev cX12_tellsByte : ByteArray := prog_14_method_160_code
def yX12_tellsByte : MethodName := ⟨RX12, "tellsByte", "(I)V"⟩
abbrev cX12_tellsTwo : ByteArray := prog_14_method_161_code
def yX12_tellsTwo : MethodName := ⟨RX12, "tellsTwo", "(I)V"⟩
abbrev cX12_octet : ByteArray := prog_14_method_163_code
def yX12_octet : MethodName := ⟨RX12, "octet", "(I)I"⟩
abbrev cX12_status : ByteArray := prog_14_method_164_code
def yX12_status : MethodName := ⟨RX12, "status", "(I)I"⟩
abbrev cX12_writesBlock : ByteArray := prog_14_method_165_code
def yX12_writesBlock : MethodName := ⟨RX12, "writesBlock", "(I)V"⟩
abbrev cX12_rootTold : ByteArray := prog_14_method_166_code
def yX12_rootTold : MethodName := ⟨RX12, "rootTold", "(I)I"⟩
abbrev cX12_image : ByteArray := prog_14_method_167_code
def yX12_image : MethodName := ⟨RX12, "image", "()I"⟩
abbrev cX12_byteRead : ByteArray := prog_14_method_168_code
def yX12_byteRead : MethodName := ⟨RX12, "byteRead", "(I)I"⟩
abbrev cX12_twoRead : ByteArray := prog_14_method_169_code
def yX12_twoRead : MethodName := ⟨RX12, "twoRead", "(I)I"⟩
abbrev cX12_laidOf : ByteArray := prog_14_method_170_code
def yX12_laidOf : MethodName := ⟨RX12, "laidOf", "(II)I"⟩
abbrev cX12_isLaidBlock : ByteArray := prog_14_method_171_code
def yX12_isLaidBlock : MethodName := ⟨RX12, "isLaidBlock", "(II)Z"⟩
abbrev cX12_isLaid : ByteArray := prog_14_method_172_code
def yX12_isLaid : MethodName := ⟨RX12, "isLaid", "(I)Z"⟩
abbrev cX12_areValues : ByteArray := prog_14_method_173_code
def yX12_areValues : MethodName := ⟨RX12, "areValues", "(I)Z"⟩
abbrev cX12_areCounts : ByteArray := prog_14_method_174_code
def yX12_areCounts : MethodName := ⟨RX12, "areCounts", "(I)Z"⟩
abbrev cX12_areBetween : ByteArray := prog_14_method_175_code
def yX12_areBetween : MethodName := ⟨RX12, "areBetween", "(III)Z"⟩
abbrev cX12_areKeys : ByteArray := prog_14_method_176_code
def yX12_areKeys : MethodName := ⟨RX12, "areKeys", "(I)Z"⟩
abbrev cX12_isImage : ByteArray := prog_14_method_177_code
def yX12_isImage : MethodName := ⟨RX12, "isImage", "(I)Z"⟩
abbrev cX12_on : ByteArray := prog_14_method_178_code
def yX12_on : MethodName := ⟨RX12, "on", "()Z"⟩
def RJ13 : String := "java/lang/Long"
abbrev cJ13_bitCount_95d88 : ByteArray := prog_15_method_50_code
def yJ13_bitCount_95d88 : MethodName := ⟨RJ13, "bitCount", "(J)I"⟩
def RJ9 : String := "java/lang/Math"
abbrev cJ9_max_7cf53 : ByteArray := prog_16_method_65_code
def yJ9_max_7cf53 : MethodName := ⟨RJ9, "max", "(II)I"⟩
abbrev cJ9_min_7cf53 : ByteArray := prog_16_method_69_code
def yJ9_min_7cf53 : MethodName := ⟨RJ9, "min", "(II)I"⟩
def RJ0 : String := "java/lang/String"
abbrev cJ0_toCharArray_70df3 : ByteArray := prog_17_method_129_code
def yJ0_toCharArray_70df3 : MethodName := ⟨RJ0, "toCharArray", "()[C"⟩
abbrev cJ0_isLatin1_aae02 : ByteArray := prog_17_method_154_code
def yJ0_isLatin1_aae02 : MethodName := ⟨RJ0, "isLatin1", "()Z"⟩
abbrev cJ0_checkBoundsOffCount_cabcc : ByteArray := prog_17_method_157_code
def yJ0_checkBoundsOffCount_cabcc : MethodName := ⟨RJ0, "checkBoundsOffCount", "(III)I"⟩
def RJ1 : String := "java/lang/StringLatin1"
abbrev cJ1_toChars_9d188 : ByteArray := prog_18_method_9_code
def yJ1_toChars_9d188 : MethodName := ⟨RJ1, "toChars", "([B)[C"⟩
abbrev cJ1_inflate_03870 : ByteArray := prog_18_method_49_code
def yJ1_inflate_03870 : MethodName := ⟨RJ1, "inflate", "([BI[CII)V"⟩
def RJ2 : String := "java/lang/StringUTF16"
abbrev cJ2_getChar_3b067 : ByteArray := prog_19_method_5_code
def yJ2_getChar_3b067 : MethodName := ⟨RJ2, "getChar", "([BI)C"⟩
abbrev cJ2_length_9d52b : ByteArray := prog_19_method_6_code
def yJ2_length_9d52b : MethodName := ⟨RJ2, "length", "([B)I"⟩
abbrev cJ2_toChars_9d188 : ByteArray := prog_19_method_13_code
def yJ2_toChars_9d188 : MethodName := ⟨RJ2, "toChars", "([B)[C"⟩
abbrev cJ2_getChars_a1a8b : ByteArray := prog_19_method_26_code
def yJ2_getChars_a1a8b : MethodName := ⟨RJ2, "getChars", "([BII[CI)V"⟩
abbrev cJ2_checkBoundsOffCount_d044e : ByteArray := prog_19_method_94_code
def yJ2_checkBoundsOffCount_d044e : MethodName := ⟨RJ2, "checkBoundsOffCount", "(II[B)V"⟩
def RJ10 : String := "java/lang/System"
def RJ3 : String := "jdk/internal/util/Preconditions"
abbrev cJ3_checkFromIndexSize_8c36e : ByteArray := prog_21_method_13_code
def yJ3_checkFromIndexSize_8c36e : MethodName := ⟨RJ3, "checkFromIndexSize", "(IIILjava/util/function/BiFunction;)I"⟩
def RL : String := "CloneVolumesLaw"
abbrev vwCl : List vw_C := [(RX0, TX0, 2), (RX1, TX1, 9), (RX2, TX2, 6), (RX3, TX3, 10), (RX4, TX4, 6), (RX5, TX5, 14), (RX6, TX6, 12), (RX7, TX7, 6), (RX8, TX8, 11), (RX9, TX9, 2), (RX10, TX10, 4), (RX11, TX11, 13), (RX12, TX12, 116)]
/-! ===== one list of words for all contracts: the good ones of the tables ===== -/
def lw_gd : List Cond := lw_tbl.filter goodWord
theorem zm {w : Cond} (h : w ∈ lw_tbl) (g : goodWord w = true) : w ∈ lw_gd := List.mem_filter.mpr ⟨h, g⟩
theorem lw_gd_in {w : Cond} (h : w ∈ lw_gd) : w ∈ lw_tbl := (List.mem_filter.mp h).1
theorem lw_gd_ok {w : Cond} (h : w ∈ lw_gd) : (w.onTables && w.keeps) = true ∨ ∃ ty, w = .arrayClass ty := good_of_word (List.mem_filter.mp h).2
abbrev wz (y : MethodName) (b : ByteArray) (n : Nat) (ret : Option FieldType) : List Cond := .code y b n ret :: lw_gd
theorem zG {y : MethodName} {b : ByteArray} {n : Nat} {ret : Option FieldType} (h : Cond.code y b n ret ∈ lw_gd) : GoodIn lw_gd (wz y b n ret) := fun w hw => (List.mem_cons.mp hw).elim (fun e => by rw [e]; exact ⟨h, lw_gd_ok h⟩) (fun q => ⟨q, lw_gd_ok q⟩)
theorem zgV {own C : String} {idx : Nat} {y : MethodName} {b : ByteArray} {n : Nat} {ret : Option FieldType} (h1 : Cond.methodLink own idx y ∈ lw_gd) (h2 : Cond.instanceMethod y ∈ lw_gd) (h3 : Cond.selects C y y ∈ lw_gd) (h4 : Cond.initialized C ∈ lw_gd) (h5 : Cond.code y b n ret ∈ lw_gd) : GoodIn lw_gd (wsV own idx C y (wz y b n ret)) := by
  intro w hw
  rcases List.mem_append.mp hw with hw | hw
  · simp only [List.mem_cons, List.not_mem_nil, or_false] at hw
    rcases hw with rfl | rfl | rfl | rfl
    · exact ⟨h1, lw_gd_ok h1⟩
    · exact ⟨h2, lw_gd_ok h2⟩
    · exact ⟨h3, lw_gd_ok h3⟩
    · exact ⟨h4, lw_gd_ok h4⟩
  · exact zG h5 w hw
theorem zgS {own : String} {idx : Nat} {y : MethodName} {b : ByteArray} {n : Nat} {ret : Option FieldType} (h1 : Cond.methodLink own idx y ∈ lw_gd) (h2 : Cond.static y ∈ lw_gd) (h4 : Cond.initialized own ∈ lw_gd) (h5 : Cond.code y b n ret ∈ lw_gd) : GoodIn lw_gd (wsS own idx y (wz y b n ret)) := by
  intro w hw
  rcases List.mem_append.mp hw with hw | hw
  · simp only [List.mem_cons, List.not_mem_nil, or_false] at hw
    rcases hw with rfl | rfl | rfl
    · exact ⟨h1, lw_gd_ok h1⟩
    · exact ⟨h2, lw_gd_ok h2⟩
    · exact ⟨h4, lw_gd_ok h4⟩
  · exact zG h5 w hw
theorem zgT {own : String} {idx : Nat} {y : MethodName} {b : ByteArray} {n : Nat} {ret : Option FieldType} (h1 : Cond.methodLink own idx y ∈ lw_gd) (h2 : Cond.static y ∈ lw_gd) (h4 : Cond.initialized y.cls ∈ lw_gd) (h5 : Cond.code y b n ret ∈ lw_gd) : GoodIn lw_gd (va_wsS own idx y (wz y b n ret)) := by
  intro w hw
  rcases List.mem_append.mp hw with hw | hw
  · simp only [List.mem_cons, List.not_mem_nil, or_false] at hw
    rcases hw with rfl | rfl | rfl
    · exact ⟨h1, lw_gd_ok h1⟩
    · exact ⟨h2, lw_gd_ok h2⟩
    · exact ⟨h4, lw_gd_ok h4⟩
  · exact zG h5 w hw
/-- the classes of the rows: int, char, long, boolean -/
abbrev TY (D : va_G) : List (ClassId × FieldType) := [(D.1 13, .int), (D.1 14, .char), (D.1 15, .long), (D.1 16, .boolean), (D.1 17, .object "CloneVolumes$State")]
/-- a world that is read alone -/
abbrev zP (D : va_G) (WS : va_W) (U : State) : Prop := va_P D vwCl WS U.heap ∧ va_K D vwCl (TY D) U
/-- a world that is written -/
abbrev zW (D : va_G) (sz : Nat) (WS : va_W) (U : State) : Prop := U.heap.size = sz ∧ va_P D vwCl WS U.heap ∧ va_K D vwCl (TY D) U ∧ va_D (fun _ => True) WS
/-- the world behind -/
abbrev zB (D : va_G) (A : Nat → Prop) (WS : va_W) (t : State) : Prop := va_P D vwCl WS t.heap ∧ va_K D vwCl (TY D) t ∧ va_D A WS
theorem zPb (av : List Value) (D : va_G) (WS : va_W) : FrameBlind (va_Pc av (zP D WS)) := fun a U g mk q => ⟨q.1, q.2.1, va_K.moved (u := U) (U := U.calling g mk a) (Vm.Alike.refl U.vm) q.2.2⟩
theorem zWb (av : List Value) (D : va_G) (sz : Nat) (WS : va_W) : FrameBlind (va_Pc av (zW D sz WS)) := fun a U g mk q => ⟨q.1, q.2.1, q.2.2.1, va_K.moved (u := U) (U := U.calling g mk a) (Vm.Alike.refl U.vm) q.2.2.2.1, q.2.2.2.2⟩
theorem zKeep {D : va_G} {ws : va_W} {H H1 : Heap} (hP : va_P D vwCl ws H) (hk : ∀ q : Nat, q < H.size → ¬ (fun _ => False : Nat → Prop) q → H1[q]? = H[q]?) : va_P D vwCl ws H1 := hP.kept (fun k q hq => hk q.1 ((hP k q hq).lt) (fun h => h))
theorem z_fm {α β : Type} {f : α → Option β} {is : List α} {WS : List β} (h : is.map f = WS.map some) : is.filterMap f = WS := by
  have e : (is.map f).filterMap id = is.filterMap f := by rw [List.filterMap_map]; rfl
  rw [← e, h, List.filterMap_map]
  simp
section ZC
variable {p : Program} {l : Launch} {e : Env} {R : Room} {s : State} {m : MethodId} {args : Array Value} {below : List Frame} {meth : Method} {c : Code} {H : Heap} {locs : List Loc} {cells slots : Nat} {Q : State → Prop}
variable {cc bytes : ByteArray} {pc : Nat} {ls : Array Slot} {rest st0 : List Value} {D : va_G} {A : Nat → Prop} {ws WS wr : va_W} {H0 : Heap} {y : MethodName} {maxL nL mc ms n idx : Nat} {ret : Option FieldType} {rm : Room} {own C : String} {b : Addr} {As : List Value}
/-- a pure method of an object: an int or a boolean -/
theorem zcV {post : Int32 → Prop} (S : CallFix p m c cc nL s args lw_gd own) (hM : Met l y (wz y bytes maxL ret) rm (va_Pc (.ref b :: As) (zP D WS)) (va_Qi (fun r (_ : Unit) => post r) (fun _ _ => True) (fun _ => False)) 0 0 (fun _ => False)) (hT : GoodIn lw_gd (wsV own idx C y (wz y bytes maxL ret))) (hrc : rm.cells = 0) (hrs : rm.slots = 0)
    (hd : y.cls = C ∧ y.cls ≠ "java/lang/invoke/MethodHandle" ∧ y.cls ≠ "java/lang/invoke/VarHandle" ∧ (parseMethodDescriptor y.desc).map (fun d => d.parameters.length) = some n) (hR : rm.frames + 1 ≤ R.frames ∧ 8 + (maxL + 11) + rm.locals ≤ R.locals)
    (hK : va_K D vwCl (TY D) s) (hP : va_P D vwCl ws H) (hS : va_S A H0 H locs) (is : List Nat) (hs : is.filterMap (fun i => ws[i]?) = WS) {ci : Nat} {fs : List Value} {q : vw_C} (q0 : Nat) (he : WS[q0]? = some (b, .inr (ci, fs))) (hc : vwCl[ci]? = some q) (hq : q.1 = C)
    (hn : As.length = n) (hsize : ls.size = nL) (hst : st0 = As.reverse ++ .ref b :: rest) (hW : (rest.map fun v => v.category).sum ≤ 8) (hdg : decode cc pc = .ok (.invokevirtual idx, 3)) (hf : cells ≤ R.cells ∧ slots ≤ R.slots)
    (kk : ∀ (r : Int32) (H : Heap) (locs : List Loc), post r → va_P D vwCl ws H → va_S A H0 H locs → W p l e R s m args below meth c H locs cells slots Q (F0 m (pc + 3) ls (.int r :: rest))) : W p l e R s m args below meth c H locs cells slots Q (F0 m pc ls st0) := by
  subst hq
  have hPc : va_P D vwCl WS H := hP.sub is hs
  refine va_calli (va_runV (g := F0 m pc ls st0) (b := b) (As := As) (rest := rest) (Pc := va_Pc (.ref b :: As) (zP D WS)) (mc := 0) (ms := 0) S hM (cwV n S.2.2.2.2 hT rfl hrc hrs hd hR) ⟨zPb _ D WS, va_recv hK hPc hc he, fun U hU hW => ⟨rfl, by rw [hU]; exact hPc, va_K.moved hW.alike hK⟩⟩ rfl hn hsize hst (lv_room hW) hdg ⟨hf.1, hf.2⟩) hS (fun _ _ h => h.elim) (fun _ h => h.elim) (fun r u t H1 locs1 ht hvm hw hB hz1 hk1 hS1 => ?_)
  exact kk r H1 locs1 hw (zKeep hP hk1) hS1
/-- a pure static method of the own class -/
theorem zcS {post : Int32 → Prop} (S : CallFix p m c cc nL s args lw_gd own) (hM : Met l y (wz y bytes maxL ret) rm (va_Pc As (zP D WS)) (va_Qi (fun r (_ : Unit) => post r) (fun _ _ => True) (fun _ => False)) 0 0 (fun _ => False)) (hT : GoodIn lw_gd (va_wsS own idx y (wz y bytes maxL ret))) (hrc : rm.cells = 0) (hrs : rm.slots = 0)
    (hd : y.cls ≠ "java/lang/invoke/MethodHandle" ∧ y.cls ≠ "java/lang/invoke/VarHandle" ∧ (parseMethodDescriptor y.desc).map (fun d => d.parameters.length) = some n) (hR : rm.frames + 1 ≤ R.frames ∧ 8 + (maxL + 11) + rm.locals ≤ R.locals)
    (hK : va_K D vwCl (TY D) s) (hP : va_P D vwCl ws H) (hS : va_S A H0 H locs) (is : List Nat) (hs : is.filterMap (fun i => ws[i]?) = WS)
    (hn : As.length = n) (hsize : ls.size = nL) (hst : st0 = As.reverse ++ rest) (hW : (rest.map fun v => v.category).sum ≤ 8) (hdg : decode cc pc = .ok (.invokestatic idx, 3)) (hf : cells ≤ R.cells ∧ slots ≤ R.slots)
    (kk : ∀ (r : Int32) (H : Heap) (locs : List Loc), post r → va_P D vwCl ws H → va_S A H0 H locs → W p l e R s m args below meth c H locs cells slots Q (F0 m (pc + 3) ls (.int r :: rest))) : W p l e R s m args below meth c H locs cells slots Q (F0 m pc ls st0) := by
  have hPc : va_P D vwCl WS H := hP.sub is hs
  refine va_calli (va_runS (g := F0 m pc ls st0) (As := As) (rest := rest) (Pc := va_Pc As (zP D WS)) (mc := 0) (ms := 0) S hM (va_cwS n S.2.2.2.2 hT rfl hrc hrs hd hR) ⟨zPb _ D WS, fun U hU hW => ⟨rfl, by rw [hU]; exact hPc, va_K.moved hW.alike hK⟩⟩ rfl hn hsize hst (lv_room hW) hdg ⟨hf.1, hf.2⟩) hS (fun _ _ h => h.elim) (fun _ h => h.elim) (fun r u t H1 locs1 ht hvm hw hB hz1 hk1 hS1 => ?_)
  exact kk r H1 locs1 hw (zKeep hP hk1) hS1
/-- a method of an object that writes: an int or a boolean -/
theorem zwV {Sg : Type} {post : Int32 → Sg → Prop} {W' : Sg → va_W} (S : CallFix p m c cc nL s args lw_gd own) (hM : Met l y (wz y bytes maxL ret) rm (va_Pc (.ref b :: As) (zW D H.size WS)) (va_Qi post (fun u t => zB D (va_A WS H.size) (W' u) t) (va_A WS H.size)) mc ms (va_A WS H.size)) (hT : GoodIn lw_gd (wsV own idx C y (wz y bytes maxL ret))) (hrc : rm.cells = mc) (hrs : rm.slots = ms)
    (hd : y.cls = C ∧ y.cls ≠ "java/lang/invoke/MethodHandle" ∧ y.cls ≠ "java/lang/invoke/VarHandle" ∧ (parseMethodDescriptor y.desc).map (fun d => d.parameters.length) = some n) (hR : rm.frames + 1 ≤ R.frames ∧ 8 + (maxL + 11) + rm.locals ≤ R.locals)
    (hK : va_K D vwCl (TY D) s) (hP : va_P D vwCl ws H) (hD : va_D A ws) (hS : va_S A H0 H locs) (hA : ∀ q : Nat, H0.size ≤ q → A q) (is ir : List Nat) (hs : is.map (fun i => ws[i]?) = WS.map some) (hr : ir.map (fun i => ws[i]?) = wr.map some) (hni : va_nd is = true) (hnr : va_nd ir = true) (hdis : ∀ i ∈ ir, i ∉ is) {ci : Nat} {fs : List Value} {q : vw_C} (q0 : Nat) (he : WS[q0]? = some (b, .inr (ci, fs))) (hc : vwCl[ci]? = some q) (hq : q.1 = C)
    (hn : As.length = n) (hsize : ls.size = nL) (hst : st0 = As.reverse ++ .ref b :: rest) (hW : (rest.map fun v => v.category).sum ≤ 8) (hdg : decode cc pc = .ok (.invokevirtual idx, 3)) (hf : cells + mc ≤ R.cells ∧ slots + ms ≤ R.slots)
    (kk : ∀ (r : Int32) (u : Sg) (H : Heap) (locs : List Loc), post r u → va_P D vwCl (wr ++ W' u) H → va_D A (wr ++ W' u) → va_S A H0 H locs → W p l e R s m args below meth c H locs (cells + mc) (slots + ms) Q (F0 m (pc + 3) ls (.int r :: rest))) : W p l e R s m args below meth c H locs cells slots Q (F0 m pc ls st0) := by
  subst hq
  have hPc : va_P D vwCl WS H := hP.sub is (z_fm hs)
  have hDc : va_D A WS := hD.sub is hni hs
  have hFc := va_free (wc := WS) hD hS hA is hs
  refine va_calli (va_runV (g := F0 m pc ls st0) (b := b) (As := As) (rest := rest) (Pc := va_Pc (.ref b :: As) (zW D H.size WS)) S hM (cwV n S.2.2.2.2 hT rfl hrc hrs hd hR) ⟨zWb _ D _ WS, va_recv hK hPc hc he, fun U hU hW => ⟨rfl, by rw [hU], by rw [hU]; exact hPc, va_K.moved hW.alike hK, hDc.weaken (fun _ _ _ _ => trivial)⟩⟩ rfl hn hsize hst (lv_room hW) hdg hf) hS (fun q _ h => hFc q h) hFc (fun r u t H1 locs1 ht hvm hw hB hz1 hk1 hS1 => ?_)
  obtain ⟨hP1, hK1, hD1⟩ := hB
  rw [ht] at hP1
  obtain ⟨hP2, hD2⟩ := va_join (wr := wr) (w1 := W' u) hP hD is ir hs hr hnr hdis hk1 hFc hP1 hD1
  exact kk r u H1 locs1 hw hP2 hD2 hS1
/-- the same, void -/
theorem zwVv {Sg : Type} {post : Sg → Prop} {W' : Sg → va_W} (S : CallFix p m c cc nL s args lw_gd own) (hM : Met l y (wz y bytes maxL ret) rm (va_Pc (.ref b :: As) (zW D H.size WS)) (va_Qv post (fun u t => zB D (va_A WS H.size) (W' u) t) (va_A WS H.size)) mc ms (va_A WS H.size)) (hT : GoodIn lw_gd (wsV own idx C y (wz y bytes maxL ret))) (hrc : rm.cells = mc) (hrs : rm.slots = ms)
    (hd : y.cls = C ∧ y.cls ≠ "java/lang/invoke/MethodHandle" ∧ y.cls ≠ "java/lang/invoke/VarHandle" ∧ (parseMethodDescriptor y.desc).map (fun d => d.parameters.length) = some n) (hR : rm.frames + 1 ≤ R.frames ∧ 8 + (maxL + 11) + rm.locals ≤ R.locals)
    (hK : va_K D vwCl (TY D) s) (hP : va_P D vwCl ws H) (hD : va_D A ws) (hS : va_S A H0 H locs) (hA : ∀ q : Nat, H0.size ≤ q → A q) (is ir : List Nat) (hs : is.map (fun i => ws[i]?) = WS.map some) (hr : ir.map (fun i => ws[i]?) = wr.map some) (hni : va_nd is = true) (hnr : va_nd ir = true) (hdis : ∀ i ∈ ir, i ∉ is) {ci : Nat} {fs : List Value} {q : vw_C} (q0 : Nat) (he : WS[q0]? = some (b, .inr (ci, fs))) (hc : vwCl[ci]? = some q) (hq : q.1 = C)
    (hn : As.length = n) (hsize : ls.size = nL) (hst : st0 = As.reverse ++ .ref b :: rest) (hW : (rest.map fun v => v.category).sum ≤ 8) (hdg : decode cc pc = .ok (.invokevirtual idx, 3)) (hf : cells + mc ≤ R.cells ∧ slots + ms ≤ R.slots)
    (kk : ∀ (u : Sg) (H : Heap) (locs : List Loc), post u → va_P D vwCl (wr ++ W' u) H → va_D A (wr ++ W' u) → va_S A H0 H locs → W p l e R s m args below meth c H locs (cells + mc) (slots + ms) Q (F0 m (pc + 3) ls rest)) : W p l e R s m args below meth c H locs cells slots Q (F0 m pc ls st0) := by
  subst hq
  have hPc : va_P D vwCl WS H := hP.sub is (z_fm hs)
  have hDc : va_D A WS := hD.sub is hni hs
  have hFc := va_free (wc := WS) hD hS hA is hs
  refine va_callv (va_runV (g := F0 m pc ls st0) (b := b) (As := As) (rest := rest) (Pc := va_Pc (.ref b :: As) (zW D H.size WS)) S hM (cwV n S.2.2.2.2 hT rfl hrc hrs hd hR) ⟨zWb _ D _ WS, va_recv hK hPc hc he, fun U hU hW => ⟨rfl, by rw [hU], by rw [hU]; exact hPc, va_K.moved hW.alike hK, hDc.weaken (fun _ _ _ _ => trivial)⟩⟩ rfl hn hsize hst (lv_room hW) hdg hf) hS (fun q _ h => hFc q h) hFc (fun u t H1 locs1 ht hvm hw hB hz1 hk1 hS1 => ?_)
  obtain ⟨hP1, hK1, hD1⟩ := hB
  rw [ht] at hP1
  obtain ⟨hP2, hD2⟩ := va_join (wr := wr) (w1 := W' u) hP hD is ir hs hr hnr hdis hk1 hFc hP1 hD1
  exact kk u H1 locs1 hw hP2 hD2 hS1
/-- a constructor -/
theorem zwI {Sg : Type} {post : Sg → Prop} {W' : Sg → va_W} (S : CallFix p m c cc nL s args lw_gd own) (hM : Met l y (wz y bytes maxL none) rm (va_Pc (.ref b :: As) (zW D H.size WS)) (va_Qv post (fun u t => zB D (va_A WS H.size) (W' u) t) (va_A WS H.size)) mc ms (va_A WS H.size)) (hcm : Cond.code y bytes maxL none ∈ lw_gd) (hrc : rm.cells = mc) (hrs : rm.slots = ms) (hini : Cond.initialized y.cls ∈ lw_gd) (hli : Cond.methodLink own idx y ∈ lw_gd) (him : Cond.instanceMethod y ∈ lw_gd) (hy1 : y.name = "<init>")
    (hd : y.cls ≠ "java/lang/invoke/MethodHandle" ∧ y.cls ≠ "java/lang/invoke/VarHandle" ∧ (parseMethodDescriptor y.desc).map (fun d => d.parameters.length) = some n) (hR : rm.frames + 1 ≤ R.frames ∧ 8 + (maxL + 11) + rm.locals ≤ R.locals)
    (hK : va_K D vwCl (TY D) s) (hP : va_P D vwCl ws H) (hD : va_D A ws) (hS : va_S A H0 H locs) (hA : ∀ q : Nat, H0.size ≤ q → A q) (is ir : List Nat) (hs : is.map (fun i => ws[i]?) = WS.map some) (hr : ir.map (fun i => ws[i]?) = wr.map some) (hni : va_nd is = true) (hnr : va_nd ir = true) (hdis : ∀ i ∈ ir, i ∉ is)
    (hn : As.length = n) (hsize : ls.size = nL) (hst : st0 = As.reverse ++ .ref b :: rest) (hW : (rest.map fun v => v.category).sum ≤ 8) (hdg : decode cc pc = .ok (.invokespecial idx, 3)) (hf : cells + mc ≤ R.cells ∧ slots + ms ≤ R.slots)
    (kk : ∀ (u : Sg) (H : Heap) (locs : List Loc), post u → va_P D vwCl (wr ++ W' u) H → va_D A (wr ++ W' u) → va_S A H0 H locs → W p l e R s m args below meth c H locs (cells + mc) (slots + ms) Q (F0 m (pc + 3) ls rest)) : W p l e R s m args below meth c H locs cells slots Q (F0 m pc ls st0) := by
  have ht := S.2.2.2.2
  have hPc : va_P D vwCl WS H := hP.sub is (z_fm hs)
  have hDc : va_D A WS := hD.sub is hni hs
  have hFc := va_free (wc := WS) hD hS hA is hs
  refine va_callv (va_runI (g := F0 m pc ls st0) (b := b) (As := As) (rest := rest) (Pc := va_Pc (.ref b :: As) (zW D H.size WS)) S hM (cwI n ht (zG hcm) rfl hrc hrs (ht _ hini) (ht _ hli) (ht _ him) hy1 hd hR) ⟨zWb _ D _ WS, fun U hU hW => ⟨rfl, by rw [hU], by rw [hU]; exact hPc, va_K.moved hW.alike hK, hDc.weaken (fun _ _ _ _ => trivial)⟩⟩ rfl hn hsize hst (lv_room hW) hdg hf) hS (fun q _ h => hFc q h) hFc (fun u t H1 locs1 ht hvm hw hB hz1 hk1 hS1 => ?_)
  obtain ⟨hP1, hK1, hD1⟩ := hB
  rw [ht] at hP1
  obtain ⟨hP2, hD2⟩ := va_join (wr := wr) (w1 := W' u) hP hD is ir hs hr hnr hdis hk1 hFc hP1 hD1
  exact kk u H1 locs1 hw hP2 hD2 hS1
/-- a method whose answer is null, and that writes nothing -/
def zQn : Array Value → State → Outcome → State → Prop := fun _ st oc t => oc = .returned (some .null) ∧ va_F (fun _ => False) st t
theorem zcVn (S : CallFix p m c cc nL s args lw_gd own) (hM : Met l y (wz y bytes maxL ret) rm (va_Pc (.ref b :: As) (zP D WS)) zQn 0 0 (fun _ => False)) (hT : GoodIn lw_gd (wsV own idx C y (wz y bytes maxL ret))) (hrc : rm.cells = 0) (hrs : rm.slots = 0)
    (hd : y.cls = C ∧ y.cls ≠ "java/lang/invoke/MethodHandle" ∧ y.cls ≠ "java/lang/invoke/VarHandle" ∧ (parseMethodDescriptor y.desc).map (fun d => d.parameters.length) = some n) (hR : rm.frames + 1 ≤ R.frames ∧ 8 + (maxL + 11) + rm.locals ≤ R.locals)
    (hK : va_K D vwCl (TY D) s) (hP : va_P D vwCl ws H) (hS : va_S A H0 H locs) (is : List Nat) (hs : is.filterMap (fun i => ws[i]?) = WS) {ci : Nat} {fs : List Value} {q : vw_C} (q0 : Nat) (he : WS[q0]? = some (b, .inr (ci, fs))) (hc : vwCl[ci]? = some q) (hq : q.1 = C)
    (hn : As.length = n) (hsize : ls.size = nL) (hst : st0 = As.reverse ++ .ref b :: rest) (hW : (rest.map fun v => v.category).sum ≤ 8) (hdg : decode cc pc = .ok (.invokevirtual idx, 3)) (hf : cells ≤ R.cells ∧ slots ≤ R.slots)
    (kk : ∀ (H : Heap) (locs : List Loc), va_P D vwCl ws H → va_S A H0 H locs → W p l e R s m args below meth c H locs cells slots Q (F0 m (pc + 3) ls (.null :: rest))) : W p l e R s m args below meth c H locs cells slots Q (F0 m pc ls st0) := by
  subst hq
  have hPc : va_P D vwCl WS H := hP.sub is hs
  have hr := va_runV (locs := locs) (cells := cells) (slots := slots) (below := below) (meth := meth) (e := e) (g := F0 m pc ls st0) (b := b) (As := As) (rest := rest) (Pc := va_Pc (.ref b :: As) (zP D WS)) (mc := 0) (ms := 0) S hM (cwV n S.2.2.2.2 hT rfl hrc hrs hd hR) ⟨zPb _ D WS, va_recv hK hPc hc he, fun U hU hW => ⟨rfl, by rw [hU]; exact hPc, va_K.moved hW.alike hK⟩⟩ rfl hn hsize hst (lv_room hW) hdg ⟨hf.1, hf.2⟩
  intro T hT X
  obtain ⟨v, st₀, t, T', L, h0, X', hL, e1, e2, ⟨hv, hz, hk⟩, st⟩ := hr T hT X
  cases hv
  rw [h0] at hz hk
  obtain ⟨t2, a1, b1⟩ := kk T'.heap (locs ++ L) (zKeep hP (fun q h1 h2 => by rw [e1]; exact hk q h1 h2)) ⟨Nat.le_trans hS.1 (by rw [e1]; exact hz), fun q h1 h2 => by rw [e1, hk q (Nat.lt_of_lt_of_le h1 hS.1) (fun z => z)]; exact hS.2.1 q h1 h2, fun q hq => by
      rcases List.mem_append.mp hq with h | h
      · exact hS.2.2 q h
      · exact (hL q h).elim⟩ T' rfl X'
  exact ⟨t2, st t2 a1, b1⟩
/-- a method of an object that writes: a long -/
theorem zwVl {Sg : Type} {post : Int64 → Sg → Prop} {W' : Sg → va_W} (S : CallFix p m c cc nL s args lw_gd own) (hM : Met l y (wz y bytes maxL ret) rm (va_Pc (.ref b :: As) (zW D H.size WS)) (va_Ql post (fun u t => zB D (va_A WS H.size) (W' u) t) (va_A WS H.size)) mc ms (va_A WS H.size)) (hT : GoodIn lw_gd (wsV own idx C y (wz y bytes maxL ret))) (hrc : rm.cells = mc) (hrs : rm.slots = ms)
    (hd : y.cls = C ∧ y.cls ≠ "java/lang/invoke/MethodHandle" ∧ y.cls ≠ "java/lang/invoke/VarHandle" ∧ (parseMethodDescriptor y.desc).map (fun d => d.parameters.length) = some n) (hR : rm.frames + 1 ≤ R.frames ∧ 8 + (maxL + 11) + rm.locals ≤ R.locals)
    (hK : va_K D vwCl (TY D) s) (hP : va_P D vwCl ws H) (hD : va_D A ws) (hS : va_S A H0 H locs) (hA : ∀ q : Nat, H0.size ≤ q → A q) (is ir : List Nat) (hs : is.map (fun i => ws[i]?) = WS.map some) (hr : ir.map (fun i => ws[i]?) = wr.map some) (hni : va_nd is = true) (hnr : va_nd ir = true) (hdis : ∀ i ∈ ir, i ∉ is) {ci : Nat} {fs : List Value} {q : vw_C} (q0 : Nat) (he : WS[q0]? = some (b, .inr (ci, fs))) (hc : vwCl[ci]? = some q) (hq : q.1 = C)
    (hn : As.length = n) (hsize : ls.size = nL) (hst : st0 = As.reverse ++ .ref b :: rest) (hW : (rest.map fun v => v.category).sum ≤ 8) (hdg : decode cc pc = .ok (.invokevirtual idx, 3)) (hf : cells + mc ≤ R.cells ∧ slots + ms ≤ R.slots)
    (kk : ∀ (r : Int64) (u : Sg) (H : Heap) (locs : List Loc), post r u → va_P D vwCl (wr ++ W' u) H → va_D A (wr ++ W' u) → va_S A H0 H locs → W p l e R s m args below meth c H locs (cells + mc) (slots + ms) Q (F0 m (pc + 3) ls (.long r :: rest))) : W p l e R s m args below meth c H locs cells slots Q (F0 m pc ls st0) := by
  subst hq
  have hPc : va_P D vwCl WS H := hP.sub is (z_fm hs)
  have hDc : va_D A WS := hD.sub is hni hs
  have hFc := va_free (wc := WS) hD hS hA is hs
  refine va_calll (va_runV (g := F0 m pc ls st0) (b := b) (As := As) (rest := rest) (Pc := va_Pc (.ref b :: As) (zW D H.size WS)) S hM (cwV n S.2.2.2.2 hT rfl hrc hrs hd hR) ⟨zWb _ D _ WS, va_recv hK hPc hc he, fun U hU hW => ⟨rfl, by rw [hU], by rw [hU]; exact hPc, va_K.moved hW.alike hK, hDc.weaken (fun _ _ _ _ => trivial)⟩⟩ rfl hn hsize hst (lv_room hW) hdg hf) hS (fun q _ h => hFc q h) hFc (fun r u t H1 locs1 ht hvm hw hB hz1 hk1 hS1 => ?_)
  obtain ⟨hP1, hK1, hD1⟩ := hB
  rw [ht] at hP1
  obtain ⟨hP2, hD2⟩ := va_join (wr := wr) (w1 := W' u) hP hD is ir hs hr hnr hdis hk1 hFc hP1 hD1
  exact kk r u H1 locs1 hw hP2 hD2 hS1
end ZC
/-! ===== numbers ===== -/
theorem z_lt {x y : Int32} {a b : Int} (hx : x.toInt = a) (hy : y.toInt = b) (h : x < y) : a < b := by rw [← hx, ← hy]; exact Int32.lt_iff_toInt_lt.mp h
theorem z_le {x y : Int32} {a b : Int} (hx : x.toInt = a) (hy : y.toInt = b) (h : x ≤ y) : a ≤ b := by rw [← hx, ← hy]; exact Int32.le_iff_toInt_le.mp h
theorem z_nlt {x y : Int32} {a b : Int} (hx : x.toInt = a) (hy : y.toInt = b) (h : ¬ x < y) : b ≤ a := by rw [← hx, ← hy]; exact Int.not_lt.mp (fun q => h (Int32.lt_iff_toInt_lt.mpr q))
theorem z_nle {x y : Int32} {a b : Int} (hx : x.toInt = a) (hy : y.toInt = b) (h : ¬ x ≤ y) : b < a := by rw [← hx, ← hy]; exact Int.not_le.mp (fun q => h (Int32.le_iff_toInt_le.mpr q))
theorem z_eq {x y : Int32} {a b : Int} (hx : x.toInt = a) (hy : y.toInt = b) (h : x = y) : a = b := by rw [← hx, ← hy, h]
theorem z_ne {x y : Int32} {a b : Int} (hx : x.toInt = a) (hy : y.toInt = b) (h : ¬ x = y) : ¬ a = b := by rw [← hx, ← hy]; exact fun q => h (Int32.toInt_inj.mp q)
theorem zt_lt {X Y a b : Int} (hx : X = a) (hy : Y = b) (h : X < Y) : a < b := by rw [← hx, ← hy]; exact h
theorem zt_gt {X Y a b : Int} (hx : X = a) (hy : Y = b) (h : Y < X) : b < a := by rw [← hx, ← hy]; exact h
theorem zt_le {X Y a b : Int} (hx : X = a) (hy : Y = b) (h : X ≤ Y) : a ≤ b := by rw [← hx, ← hy]; exact h
theorem zt_ge {X Y a b : Int} (hx : X = a) (hy : Y = b) (h : Y ≤ X) : b ≤ a := by rw [← hx, ← hy]; exact h
theorem zt_eq {X Y a b : Int} (hx : X = a) (hy : Y = b) (h : X = Y) : a = b := by rw [← hx, ← hy]; exact h
theorem zt_ne {X Y a b : Int} (hx : X = a) (hy : Y = b) (h : ¬ X = Y) : ¬ a = b := by rw [← hx, ← hy]; exact h
theorem zu_lt {X Y a b : Int} (hx : X = a) (hy : Y = b) (h : a < b) : X < Y := by rw [hx, hy]; exact h
theorem zu_gt {X Y a b : Int} (hx : X = a) (hy : Y = b) (h : b < a) : Y < X := by rw [hx, hy]; exact h
theorem zu_le {X Y a b : Int} (hx : X = a) (hy : Y = b) (h : a ≤ b) : X ≤ Y := by rw [hx, hy]; exact h
theorem zu_ge {X Y a b : Int} (hx : X = a) (hy : Y = b) (h : b ≤ a) : Y ≤ X := by rw [hx, hy]; exact h
theorem zu_eq {X Y a b : Int} (hx : X = a) (hy : Y = b) (h : a = b) : X = Y := by rw [hx, hy]; exact h
theorem zu_ne {X Y a b : Int} (hx : X = a) (hy : Y = b) (h : ¬ a = b) : ¬ X = Y := by rw [hx, hy]; exact h
theorem zc_lt {x y : Int64} {a b : Int} (hx : x.toInt = a) (hy : y.toInt = b) (h : lg_cmp x y < 0) : a < b := by rw [← hx, ← hy]; exact Int64.lt_iff_toInt_lt.mp ((lg_cmp_lt x y).mp h)
theorem zc_lt_n {x y : Int64} {a b : Int} (hx : x.toInt = a) (hy : y.toInt = b) (h : ¬ lg_cmp x y < 0) : b ≤ a := by rw [← hx, ← hy]; exact Int.not_lt.mp (fun q => h ((lg_cmp_lt x y).mpr (Int64.lt_iff_toInt_lt.mpr q)))
theorem zc_ge {x y : Int64} {a b : Int} (hx : x.toInt = a) (hy : y.toInt = b) (h : 0 ≤ lg_cmp x y) : b ≤ a := by rw [← hx, ← hy]; exact Int64.le_iff_toInt_le.mp ((lg_cmp_ge x y).mp h)
theorem zc_ge_n {x y : Int64} {a b : Int} (hx : x.toInt = a) (hy : y.toInt = b) (h : ¬ 0 ≤ lg_cmp x y) : a < b := by rw [← hx, ← hy]; exact Int.not_le.mp (fun q => h ((lg_cmp_ge x y).mpr (Int64.le_iff_toInt_le.mpr q)))
theorem zc_gt {x y : Int64} {a b : Int} (hx : x.toInt = a) (hy : y.toInt = b) (h : 0 < lg_cmp x y) : b < a := by rw [← hx, ← hy]; exact Int64.lt_iff_toInt_lt.mp ((lg_cmp_gt x y).mp h)
theorem zc_gt_n {x y : Int64} {a b : Int} (hx : x.toInt = a) (hy : y.toInt = b) (h : ¬ 0 < lg_cmp x y) : a ≤ b := by rw [← hx, ← hy]; exact Int.not_lt.mp (fun q => h ((lg_cmp_gt x y).mpr (Int64.lt_iff_toInt_lt.mpr q)))
theorem zc_le {x y : Int64} {a b : Int} (hx : x.toInt = a) (hy : y.toInt = b) (h : lg_cmp x y ≤ 0) : a ≤ b := by rw [← hx, ← hy]; exact Int64.le_iff_toInt_le.mp ((lg_cmp_le x y).mp h)
theorem zc_le_n {x y : Int64} {a b : Int} (hx : x.toInt = a) (hy : y.toInt = b) (h : ¬ lg_cmp x y ≤ 0) : b < a := by rw [← hx, ← hy]; exact Int.not_le.mp (fun q => h ((lg_cmp_le x y).mpr (Int64.le_iff_toInt_le.mpr q)))
theorem zc_eq {x y : Int64} {a b : Int} (hx : x.toInt = a) (hy : y.toInt = b) (h : lg_cmp x y = 0) : a = b := by rw [← hx, ← hy, (lg_cmp_eq x y).mp h]
theorem zc_eq_n {x y : Int64} {a b : Int} (hx : x.toInt = a) (hy : y.toInt = b) (h : ¬ lg_cmp x y = 0) : ¬ a = b := by rw [← hx, ← hy]; exact fun q => h ((lg_cmp_eq x y).mpr (Int64.toInt_inj.mp q))
theorem zc_ne {x y : Int64} {a b : Int} (hx : x.toInt = a) (hy : y.toInt = b) (h : ¬ lg_cmp x y = 0) : ¬ a = b := zc_eq_n hx hy h
theorem zc_ne_n {x y : Int64} {a b : Int} (hx : x.toInt = a) (hy : y.toInt = b) (h : lg_cmp x y = 0) : a = b := zc_eq hx hy h
theorem z_abs {P : Prop} (c : P) (h : ¬ P) : False := h c
theorem z_in {x : Int32} {n : Nat} (h1 : 0 ≤ x.toInt) (h2 : x.toInt < (n : Int)) : vp_in x n := by
  have h3 : ¬ x < 0 := fun q => by have := Int32.lt_iff_toInt_lt.mp q; have e : (0 : Int32).toInt = 0 := rfl; omega
  obtain ⟨j, hj, rfl⟩ := nI_of h3
  rw [nI_toInt hj] at h2
  exact fun q => q.elim h3 (fun q => by rw [nI_clamp hj] at q; omega)
theorem z_updc (c : Int32) (k : Nat) : upd (fun _ => c) k c = fun _ => c := by funext j; simp [upd]
theorem z_updLc (c : Int64) (k : Nat) : vp_updL (fun _ => c) k c = fun _ => c := by funext j; simp [vp_updL]
theorem z_updz (k : Nat) : upd (fun _ => 0) k (vp_nar .boolean 0) = fun _ => 0 := by
  rw [show vp_nar .boolean 0 = 0 from by decide]; exact z_updc 0 k
theorem z_cls_int {D : va_G} {s : State} {cA : ClassId} (h : va_K D vwCl (TY D) s) (h2 : va_K D vwCl (TY D ++ [(cA, .int)]) s) : cA = D.1 13 := Option.some.inj ((h2.2 5 _ rfl).2.symm.trans (h.2 0 _ rfl).2)
theorem z_cls_char {D : va_G} {s : State} {cA : ClassId} (h : va_K D vwCl (TY D) s) (h2 : va_K D vwCl (TY D ++ [(cA, .char)]) s) : cA = D.1 14 := Option.some.inj ((h2.2 5 _ rfl).2.symm.trans (h.2 1 _ rfl).2)
theorem z_cls_long {D : va_G} {s : State} {cA : ClassId} (h : va_K D vwCl (TY D) s) (h2 : va_K D vwCl (TY D ++ [(cA, .long)]) s) : cA = D.1 15 := Option.some.inj ((h2.2 5 _ rfl).2.symm.trans (h.2 2 _ rfl).2)
theorem z_cls_boolean {D : va_G} {s : State} {cA : ClassId} (h : va_K D vwCl (TY D) s) (h2 : va_K D vwCl (TY D ++ [(cA, .boolean)]) s) : cA = D.1 16 := Option.some.inj ((h2.2 5 _ rfl).2.symm.trans (h.2 3 _ rfl).2)
section ZT
variable {p : Program} {l : Launch} {e : Env} {R : Room} {s : State} {m : MethodId} {args : Array Value} {below : List Frame} {meth : Method} {c : Code} {H : Heap} {locs : List Loc} {cells slots : Nat} {Q : State → Prop} {pc : Nat} {ls : Array Slot} {rest : List Value}
theorem z_topi {x y : Int32} (h : x = y) (k : W p l e R s m args below meth c H locs cells slots Q (F0 m pc ls (.int y :: rest))) : W p l e R s m args below meth c H locs cells slots Q (F0 m pc ls (.int x :: rest)) := h ▸ k
theorem z_topl {x y : Int64} (h : x = y) (k : W p l e R s m args below meth c H locs cells slots Q (F0 m pc ls (.long y :: rest))) : W p l e R s m args below meth c H locs cells slots Q (F0 m pc ls (.long x :: rest)) := h ▸ k
/-- a loop that counts up to N -/
theorem z_loop {σ : Type} {N : Nat} {st : List Value} (Inv : Nat → σ → Heap → List Loc → Array Slot → Prop)
    (body : ∀ (i : Nat) (u : σ) (H : Heap) (locs : List Loc) (ls : Array Slot), i ≤ N → Inv i u H locs ls → (∀ (u' : σ) (H' : Heap) (locs' : List Loc) (ls' : Array Slot), i < N → Inv (i + 1) u' H' locs' ls' → W p l e R s m args below meth c H' locs' cells slots Q (F0 m pc ls' st)) → W p l e R s m args below meth c H locs cells slots Q (F0 m pc ls st))
    (i0 : Nat) (u0 : σ) (hi : i0 ≤ N) (h0 : Inv i0 u0 H locs ls) : W p l e R s m args below meth c H locs cells slots Q (F0 m pc ls st) := by
  have go : ∀ (n i : Nat), i ≤ N → N < i + n → ∀ (u : σ) (H : Heap) (locs : List Loc) (ls : Array Slot), Inv i u H locs ls → W p l e R s m args below meth c H locs cells slots Q (F0 m pc ls st) := by
    intro n
    induction n with
    | zero => intro i h1 h2; omega
    | succ n ih =>
      intro i h1 h2 u H locs ls hI
      exact body i u H locs ls h1 hI (fun u' H' locs' ls' h3 hI' => ih (i + 1) (by omega) (by omega) u' H' locs' ls' hI')
  exact go (N + 1) i0 hi (by omega) u0 H locs ls h0
end ZT
theorem z_inc (i : Nat) : nI i + Int32.ofInt 1 = nI (i + 1) := by
  rw [show (Int32.ofInt 1) = 1 from by decide]; exact nI_1 i
theorem z_nadd (a b : Nat) : nI a + nI b = nI (a + b) := nI_add a b
theorem z_nmul (a b : Nat) : nI a * nI b = nI (a * b) := by unfold nI; rw [← Int32.ofNat_mul]
theorem z_nsub {a b : Nat} (h : b ≤ a) : nI a - nI b = nI (a - b) := by
  have e : nI (a - b) + nI b = nI a := by rw [nI_add, Nat.sub_add_cancel h]
  rw [← e]; exact Int32.add_sub_cancel _ _
theorem lw_g_x_1_2 {w : Cond} (h : w ∈ tables_1_1 ++ (tables_1_2)) : w ∈ lw_tbl := (List.mem_append.mp h).elim lw_g_1 (fun h => lw_g_2 h)
theorem lw_g_x_7_8 {w : Cond} (h : w ∈ tables_1_7 ++ (tables_1_8)) : w ∈ lw_tbl := (List.mem_append.mp h).elim lw_g_7 (fun h => lw_g_8 h)
set_option maxRecDepth 20000 in
theorem inX0 : ∀ w ∈ u_ws RX0 TX0 2, w ∈ lw_gd := fun w h => zm (lw_g_2 ((goodIn_r (big := tables_1_2) (u_ws RX0 TX0 2) [24, 26] (by decide +kernel) (by decide +kernel)) w h).1) (List.all_eq_true.mp (by decide +kernel : (u_ws RX0 TX0 2).all goodWord = true) w h)
set_option maxRecDepth 20000 in
theorem inX1 : ∀ w ∈ u_ws RX1 TX1 9, w ∈ lw_gd := fun w h => zm (lw_g_3 ((goodIn_r (big := tables_1_3) (u_ws RX1 TX1 9) [4, 6, 8, 10, 12, 14, 16, 18, 20] (by decide +kernel) (by decide +kernel)) w h).1) (List.all_eq_true.mp (by decide +kernel : (u_ws RX1 TX1 9).all goodWord = true) w h)
set_option maxRecDepth 20000 in
theorem inX2 : ∀ w ∈ u_ws RX2 TX2 6, w ∈ lw_gd := fun w h => zm (lw_g_1 ((goodIn_r (big := tables_1_1) (u_ws RX2 TX2 6) [157, 159, 161, 163, 165, 167] (by decide +kernel) (by decide +kernel)) w h).1) (List.all_eq_true.mp (by decide +kernel : (u_ws RX2 TX2 6).all goodWord = true) w h)
set_option maxRecDepth 20000 in
theorem inX3 : ∀ w ∈ u_ws RX3 TX3 10, w ∈ lw_gd := fun w h => zm (lw_g_2 ((goodIn_r (big := tables_1_2) (u_ws RX3 TX3 10) [210, 212, 214, 216, 218, 220, 222, 224, 226, 228] (by decide +kernel) (by decide +kernel)) w h).1) (List.all_eq_true.mp (by decide +kernel : (u_ws RX3 TX3 10).all goodWord = true) w h)
set_option maxRecDepth 20000 in
theorem inX4 : ∀ w ∈ u_ws RX4 TX4 6, w ∈ lw_gd := fun w h => zm (lw_g_1 ((goodIn_r (big := tables_1_1) (u_ws RX4 TX4 6) [211, 213, 215, 217, 219, 221] (by decide +kernel) (by decide +kernel)) w h).1) (List.all_eq_true.mp (by decide +kernel : (u_ws RX4 TX4 6).all goodWord = true) w h)
set_option maxRecDepth 20000 in
theorem inX5 : ∀ w ∈ u_ws RX5 TX5 14, w ∈ lw_gd := fun w h => zm (lw_g_2 ((goodIn_r (big := tables_1_2) (u_ws RX5 TX5 14) [71, 73, 75, 77, 79, 81, 83, 85, 87, 89, 91, 93, 95, 97] (by decide +kernel) (by decide +kernel)) w h).1) (List.all_eq_true.mp (by decide +kernel : (u_ws RX5 TX5 14).all goodWord = true) w h)
set_option maxRecDepth 20000 in
theorem inX6 : ∀ w ∈ u_ws RX6 TX6 12, w ∈ lw_gd := fun w h => zm (lw_g_1 ((goodIn_r (big := tables_1_1) (u_ws RX6 TX6 12) [115, 117, 119, 121, 123, 125, 127, 129, 131, 133, 135, 137] (by decide +kernel) (by decide +kernel)) w h).1) (List.all_eq_true.mp (by decide +kernel : (u_ws RX6 TX6 12).all goodWord = true) w h)
set_option maxRecDepth 20000 in
theorem inX7 : ∀ w ∈ u_ws RX7 TX7 6, w ∈ lw_gd := fun w h => zm (lw_g_1 ((goodIn_r (big := tables_1_1) (u_ws RX7 TX7 6) [184, 186, 188, 190, 192, 194] (by decide +kernel) (by decide +kernel)) w h).1) (List.all_eq_true.mp (by decide +kernel : (u_ws RX7 TX7 6).all goodWord = true) w h)
set_option maxRecDepth 20000 in
theorem inX8 : ∀ w ∈ u_ws RX8 TX8 11, w ∈ lw_gd := fun w h => zm (lw_g_2 ((goodIn_r (big := tables_1_2) (u_ws RX8 TX8 11) [164, 166, 168, 170, 172, 174, 176, 178, 180, 182, 184] (by decide +kernel) (by decide +kernel)) w h).1) (List.all_eq_true.mp (by decide +kernel : (u_ws RX8 TX8 11).all goodWord = true) w h)
set_option maxRecDepth 20000 in
theorem inX9 : ∀ w ∈ u_ws RX9 TX9 2, w ∈ lw_gd := fun w h => zm (lw_g_1 ((goodIn_r (big := tables_1_1) (u_ws RX9 TX9 2) [43, 45] (by decide +kernel) (by decide +kernel)) w h).1) (List.all_eq_true.mp (by decide +kernel : (u_ws RX9 TX9 2).all goodWord = true) w h)
set_option maxRecDepth 20000 in
theorem inX10 : ∀ w ∈ u_ws RX10 TX10 4, w ∈ lw_gd := fun w h => zm (lw_g_x_1_2 ((goodIn_r (big := tables_1_1 ++ (tables_1_2)) (u_ws RX10 TX10 4) [236, 238, 240, 242] (by decide +kernel) (by decide +kernel)) w h).1) (List.all_eq_true.mp (by decide +kernel : (u_ws RX10 TX10 4).all goodWord = true) w h)
set_option maxRecDepth 20000 in
theorem inX11 : ∀ w ∈ u_ws RX11 TX11 13, w ∈ lw_gd := fun w h => zm (lw_g_3 ((goodIn_r (big := tables_1_3) (u_ws RX11 TX11 13) [36, 38, 40, 42, 44, 46, 48, 50, 52, 54, 56, 58, 60] (by decide +kernel) (by decide +kernel)) w h).1) (List.all_eq_true.mp (by decide +kernel : (u_ws RX11 TX11 13).all goodWord = true) w h)
set_option maxRecDepth 20000 in
theorem inX12 : ∀ w ∈ u_ws RX12 TX12 116, w ∈ lw_gd := fun w h => zm (lw_g_x_7_8 ((goodIn_r (big := tables_1_7 ++ (tables_1_8)) (u_ws RX12 TX12 116) [17, 19, 21, 23, 25, 27, 29, 31, 33, 35, 37, 39, 41, 43, 45, 47, 49, 51, 53, 55, 57, 59, 61, 63, 65, 67, 69, 71, 73, 75, 77, 79, 81, 83, 85, 87, 89, 91, 93, 95, 97, 99, 101, 103, 105, 107, 109, 111, 113, 115, 117, 119, 121, 123, 125, 127, 129, 131, 133, 135, 137, 139, 141, 143, 145, 147, 149, 151, 153, 155, 157, 159, 161, 163, 165, 167, 169, 171, 173, 175, 177, 179, 181, 183, 185, 187, 189, 191, 193, 195, 197, 199, 201, 203, 205, 207, 209, 211, 213, 215, 217, 219, 221, 223, 225, 227, 229, 231, 233, 235, 237, 239, 241, 243, 245, 247] (by decide +kernel) (by decide +kernel)) w h).1) (List.all_eq_true.mp (by decide +kernel : (u_ws RX12 TX12 116).all goodWord = true) w h)
/-- the fields of the reference: what changes in a first call has a name -/
abbrev mO (a : Nat → Nat) (t1 t2 t3 t4 t5 t6 t7 t8 t45 t46 : Int32) (t78 : Int64) (t112 : Int32) : List Value := Value.ref (a 0) :: Value.int t1 :: Value.int t2 :: Value.int t3 :: Value.int t4 :: Value.int t5 :: Value.int t6 :: Value.int t7 :: Value.int t8 :: Value.ref (a 9) :: Value.int 0 :: Value.ref (a 11) :: Value.ref (a 12) :: Value.ref (a 13) :: Value.ref (a 14) :: Value.ref (a 15) :: Value.ref (a 16) :: Value.ref (a 17) :: Value.ref (a 18) :: Value.ref (a 19) :: Value.ref (a 20) :: Value.ref (a 21) :: Value.ref (a 22) :: Value.ref (a 23) :: Value.ref (a 24) :: Value.ref (a 25) :: Value.ref (a 26) :: Value.ref (a 27) :: Value.ref (a 28) :: Value.ref (a 29) :: Value.ref (a 30) :: Value.ref (a 31) :: Value.ref (a 32) :: Value.ref (a 33) :: Value.ref (a 34) :: Value.ref (a 35) :: Value.ref (a 36) :: Value.ref (a 37) :: Value.int 0 :: Value.ref (a 39) :: Value.ref (a 40) :: Value.ref (a 41) :: Value.ref (a 42) :: Value.ref (a 43) :: Value.ref (a 44) :: Value.int t45 :: Value.int t46 :: Value.int 0 :: Value.int 0 :: Value.ref (a 49) :: Value.int 0 :: Value.int 0 :: Value.int 0 :: Value.int 0 :: Value.ref (a 54) :: Value.int 0 :: Value.ref (a 56) :: Value.ref (a 57) :: Value.ref (a 58) :: Value.ref (a 59) :: Value.ref (a 60) :: Value.ref (a 61) :: Value.ref (a 62) :: Value.ref (a 63) :: Value.ref (a 64) :: Value.ref (a 65) :: Value.ref (a 66) :: Value.int 0 :: Value.int 0 :: Value.ref (a 69) :: Value.int 0 :: Value.int 0 :: Value.ref (a 72) :: Value.int 0 :: Value.ref (a 74) :: Value.ref (a 75) :: Value.int 0 :: Value.int 0 :: Value.long t78 :: Value.ref (a 79) :: Value.ref (a 80) :: Value.ref (a 81) :: Value.ref (a 82) :: Value.ref (a 83) :: Value.ref (a 84) :: Value.ref (a 85) :: Value.ref (a 86) :: Value.ref (a 87) :: Value.ref (a 88) :: Value.ref (a 89) :: Value.ref (a 90) :: Value.ref (a 91) :: Value.ref (a 92) :: Value.ref (a 93) :: Value.ref (a 94) :: Value.ref (a 95) :: Value.ref (a 96) :: Value.ref (a 97) :: Value.ref (a 98) :: Value.ref (a 99) :: Value.ref (a 100) :: Value.ref (a 101) :: Value.int 0 :: Value.ref (a 103) :: Value.int 0 :: Value.int 0 :: Value.int 0 :: Value.ref (a 107) :: Value.int 0 :: Value.long 0 :: Value.int 0 :: Value.ref (a 111) :: Value.int t112 :: Value.ref (a 113) :: Value.int 0 :: Value.ref (a 115) :: []
/-- the same, new -/
abbrev mD : List Value := Value.null :: Value.int 0 :: Value.int 0 :: Value.int 0 :: Value.int 0 :: Value.int 0 :: Value.int 0 :: Value.int 0 :: Value.int 0 :: Value.null :: Value.int 0 :: Value.null :: Value.null :: Value.null :: Value.null :: Value.null :: Value.null :: Value.null :: Value.null :: Value.null :: Value.null :: Value.null :: Value.null :: Value.null :: Value.null :: Value.null :: Value.null :: Value.null :: Value.null :: Value.null :: Value.null :: Value.null :: Value.null :: Value.null :: Value.null :: Value.null :: Value.null :: Value.null :: Value.int 0 :: Value.null :: Value.null :: Value.null :: Value.null :: Value.null :: Value.null :: Value.int 0 :: Value.int 0 :: Value.int 0 :: Value.int 0 :: Value.null :: Value.int 0 :: Value.int 0 :: Value.int 0 :: Value.int 0 :: Value.null :: Value.int 0 :: Value.null :: Value.null :: Value.null :: Value.null :: Value.null :: Value.null :: Value.null :: Value.null :: Value.null :: Value.null :: Value.null :: Value.int 0 :: Value.int 0 :: Value.null :: Value.int 0 :: Value.int 0 :: Value.null :: Value.int 0 :: Value.null :: Value.null :: Value.int 0 :: Value.int 0 :: Value.long 0 :: Value.null :: Value.null :: Value.null :: Value.null :: Value.null :: Value.null :: Value.null :: Value.null :: Value.null :: Value.null :: Value.null :: Value.null :: Value.null :: Value.null :: Value.null :: Value.null :: Value.null :: Value.null :: Value.null :: Value.null :: Value.null :: Value.null :: Value.null :: Value.int 0 :: Value.null :: Value.int 0 :: Value.int 0 :: Value.int 0 :: Value.null :: Value.int 0 :: Value.long 0 :: Value.int 0 :: Value.null :: Value.int 0 :: Value.null :: Value.int 0 :: Value.null :: []
/-! ===== what the constructors need of the start: links between nest mates, the one text ===== -/
def zText : String := "blocks room volume clone of put remove picks splits costs churn block from level entries number count fresh saved refs key or and not all min max first last often total most least"
def zN (qS : Nat) (U : State) : Prop := va_Nw (.methodLinkNest RX11 11 yX9_init "CloneVolumes") U ∧ va_Nw (.methodLinkNest RX11 27 yX2_init "CloneVolumes") U ∧ va_Nw (.methodLinkNest RX11 34 yX7_init "CloneVolumes") U ∧ va_Nw (.methodLinkNest RX11 41 yX4_init "CloneVolumes") U ∧ va_Nw (.methodLinkNest RX11 48 yX10_init "CloneVolumes") U ∧ va_Nw (.methodLinkNest RX5 29 yX0_init "CloneVolumes") U ∧ va_AO "CloneVolumes$State" U ∧ vk_R RX6 15 zText qS U
def zE (b0 qS vS : Nat) (fS : Nat → Int32) (U : State) (H : Heap) : Prop := va_O "java/lang/String" qS (fun q => b0 ≤ q) U H ∧ va_OF "java/lang/String" "coder" "B" (.int 0) qS (fun q => b0 ≤ q) U H ∧ va_OF "java/lang/String" "value" "[B" (.ref vS) qS (fun q => b0 ≤ q) U H ∧ va_T .byte vS 179 (fun j => .int (fS j)) (fun q => b0 ≤ q) U H ∧ va_Z "java/lang/String" "COMPACT_STRINGS" "Z" (.int 1) (fun q => b0 ≤ q) U H
def EE (b0 qS vS : Nat) (fS : Nat → Int32) (U : State) : Prop := zN qS U ∧ zE b0 qS vS fS U U.heap
theorem zN.same {qS : Nat} {u U : State} (h : u.vm = U.vm) (e : zN qS u) : zN qS U := by
  obtain ⟨h1, h2, h3, h4, h5, h6, h7, h8⟩ := e
  exact ⟨va_Nw.same rfl h h1, va_Nw.same rfl h h2, va_Nw.same rfl h h3, va_Nw.same rfl h h4, va_Nw.same rfl h h5, va_Nw.same rfl h h6, va_AO.moved (by rw [h]; exact Vm.Alike.refl U.vm) h7, vk_R.same h.symm h8⟩
theorem zN.warm {qS : Nat} {s U : State} (hW : s.WarmedH U.vm) (e : zN qS s) : zN qS U := by
  obtain ⟨h1, h2, h3, h4, h5, h6, h7, h8⟩ := e
  exact ⟨va_Nw.warmM hW h1, va_Nw.warmM hW h2, va_Nw.warmM hW h3, va_Nw.warmM hW h4, va_Nw.warmM hW h5, va_Nw.warmM hW h6, va_AO.moved hW.alike h7, vk_R.warm hW h8⟩
theorem zE.moved {b0 qS vS : Nat} {fS : Nat → Int32} {u U : State} {H : Heap} (hvm : u.vm.Alike U.vm) (h : zE b0 qS vS fS u H) : zE b0 qS vS fS U H := ⟨h.1.moved hvm, h.2.1.moved hvm, h.2.2.1.moved hvm, h.2.2.2.1.moved hvm, h.2.2.2.2.moved hvm⟩
theorem zE.kept {b0 qS vS : Nat} {fS : Nat → Int32} {U : State} {H H1 : Heap} (h : zE b0 qS vS fS U H) (hq : ∀ a : Nat, a < H.size → ¬ (fun q => b0 ≤ q : Nat → Prop) a → H1[a]? = H[a]?) : zE b0 qS vS fS U H1 := ⟨h.1.kept hq, h.2.1.kept hq, h.2.2.1.kept hq, h.2.2.2.1.kept hq, h.2.2.2.2.kept hq⟩
theorem EE.blind {b0 qS vS : Nat} {fS : Nat → Int32} (a : Array Value) (U : State) (g : JFrame) (mk : MethodId) (h : EE b0 qS vS fS U) : EE b0 qS vS fS (U.calling g mk a) := ⟨zN.same (u := U) (U := U.calling g mk a) rfl h.1, zE.moved (u := U) (U := U.calling g mk a) (Vm.Alike.refl U.vm) h.2⟩
theorem EE.go {b0 qS vS : Nat} {fS : Nat → Int32} {s U : State} {A : Nat → Prop} {H : Heap} {locs : List Loc} (h : EE b0 qS vS fS s) (hS : va_S A s.heap H locs) (hb : ∀ q, A q → b0 ≤ q) (hU : U.heap = H) (hW : s.WarmedH U.vm) : EE b0 qS vS fS U := ⟨zN.warm hW h.1, by rw [hU]; exact zE.moved hW.alike (h.2.kept (fun a h1 h2 => hS.2.1 a h1 (fun z => h2 (hb a z))))⟩
theorem zWEb (av : List Value) (D : va_G) (sz : Nat) (WS : va_W) (b0 qS vS : Nat) (fS : Nat → Int32) : FrameBlind (va_Pc av (fun U => zW D sz WS U ∧ EE b0 qS vS fS U)) := fun a U g mk q => ⟨q.1, ⟨q.2.1.1, q.2.1.2.1, va_K.moved (u := U) (U := U.calling g mk a) (Vm.Alike.refl U.vm) q.2.1.2.2.1, q.2.1.2.2.2⟩, EE.blind a U g mk q.2.2⟩
section ZI
variable {p : Program} {l : Launch} {e : Env} {R : Room} {s : State} {m : MethodId} {args : Array Value} {below : List Frame} {meth : Method} {c : Code} {H : Heap} {locs : List Loc} {cells slots : Nat} {Q : State → Prop}
variable {cc bytes : ByteArray} {pc : Nat} {ls : Array Slot} {rest st0 : List Value} {D : va_G} {A : Nat → Prop} {ws WS wr : va_W} {H0 : Heap} {y : MethodName} {maxL nL mc ms n idx : Nat} {ret : Option FieldType} {rm : Room} {own C : String} {b : Addr} {As : List Value} {b0 qS vS : Nat} {fS : Nat → Int32}
/-- a constructor of a nest mate -/
theorem zwIN {Sg : Type} {post : Sg → Prop} {W' : Sg → va_W} {host : String} (S : CallFix p m c cc nL s args lw_gd own) (hM : Met l y (wz y bytes maxL none) rm (va_Pc (.ref b :: As) (zW D H.size WS)) (va_Qv post (fun u t => zB D (va_A WS H.size) (W' u) t) (va_A WS H.size)) mc ms (va_A WS H.size)) (hcm : Cond.code y bytes maxL none ∈ lw_gd) (hrc : rm.cells = mc) (hrs : rm.slots = ms) (hini : Cond.initialized y.cls ∈ lw_gd) (hli : va_Nw (.methodLinkNest own idx y host) s) (him : Cond.instanceMethod y ∈ lw_gd) (hy1 : y.name = "<init>")
    (hd : y.cls ≠ "java/lang/invoke/MethodHandle" ∧ y.cls ≠ "java/lang/invoke/VarHandle" ∧ (parseMethodDescriptor y.desc).map (fun d => d.parameters.length) = some n) (hR : rm.frames + 1 ≤ R.frames ∧ 8 + (maxL + 11) + rm.locals ≤ R.locals)
    (hK : va_K D vwCl (TY D) s) (hP : va_P D vwCl ws H) (hD : va_D A ws) (hS : va_S A H0 H locs) (hA : ∀ q : Nat, H0.size ≤ q → A q) (is ir : List Nat) (hs : is.map (fun i => ws[i]?) = WS.map some) (hr : ir.map (fun i => ws[i]?) = wr.map some) (hni : va_nd is = true) (hnr : va_nd ir = true) (hdis : ∀ i ∈ ir, i ∉ is)
    (hn : As.length = n) (hsize : ls.size = nL) (hst : st0 = As.reverse ++ .ref b :: rest) (hW : (rest.map fun v => v.category).sum ≤ 8) (hdg : decode cc pc = .ok (.invokespecial idx, 3)) (hf : cells + mc ≤ R.cells ∧ slots + ms ≤ R.slots)
    (kk : ∀ (u : Sg) (H : Heap) (locs : List Loc), post u → va_P D vwCl (wr ++ W' u) H → va_D A (wr ++ W' u) → va_S A H0 H locs → W p l e R s m args below meth c H locs (cells + mc) (slots + ms) Q (F0 m (pc + 3) ls rest)) : W p l e R s m args below meth c H locs cells slots Q (F0 m pc ls st0) := by
  have ht := S.2.2.2.2
  have hPc : va_P D vwCl WS H := hP.sub is (z_fm hs)
  have hDc : va_D A WS := hD.sub is hni hs
  have hFc := va_free (wc := WS) hD hS hA is hs
  refine va_callv (va_runIN (g := F0 m pc ls st0) (b := b) (As := As) (rest := rest) (Pc := va_Pc (.ref b :: As) (zW D H.size WS)) S hM ⟨va_cnB n ht (zG hcm) rfl hrc hrs hli (ht _ hini) hd hR, hy1, ht _ him⟩ ⟨zWb _ D _ WS, fun U hU hW => ⟨rfl, by rw [hU], by rw [hU]; exact hPc, va_K.moved hW.alike hK, hDc.weaken (fun _ _ _ _ => trivial)⟩⟩ rfl hn hsize hst (lv_room hW) hdg hf) hS (fun q _ h => hFc q h) hFc (fun u t H1 locs1 ht hvm hw hB hz1 hk1 hS1 => ?_)
  obtain ⟨hP1, hK1, hD1⟩ := hB
  rw [ht] at hP1
  obtain ⟨hP2, hD2⟩ := va_join (wr := wr) (w1 := W' u) hP hD is ir hs hr hnr hdis hk1 hFc hP1 hD1
  exact kk u H1 locs1 hw hP2 hD2 hS1
/-- the same, that needs the start -/
theorem zwINE {Sg : Type} {post : Sg → Prop} {W' : Sg → va_W} {host : String} (S : CallFix p m c cc nL s args lw_gd own) (hM : (∀ q, va_A WS H.size q → b0 ≤ q) → Met l y (wz y bytes maxL none) rm (va_Pc (.ref b :: As) (fun U => zW D H.size WS U ∧ EE b0 qS vS fS U)) (va_Qv post (fun u t => zB D (va_A WS H.size) (W' u) t) (va_A WS H.size)) mc ms (va_A WS H.size)) (hcm : Cond.code y bytes maxL none ∈ lw_gd) (hrc : rm.cells = mc) (hrs : rm.slots = ms) (hini : Cond.initialized y.cls ∈ lw_gd) (hli : va_Nw (.methodLinkNest own idx y host) s) (him : Cond.instanceMethod y ∈ lw_gd) (hy1 : y.name = "<init>")
    (hd : y.cls ≠ "java/lang/invoke/MethodHandle" ∧ y.cls ≠ "java/lang/invoke/VarHandle" ∧ (parseMethodDescriptor y.desc).map (fun d => d.parameters.length) = some n) (hR : rm.frames + 1 ≤ R.frames ∧ 8 + (maxL + 11) + rm.locals ≤ R.locals)
    (hK : va_K D vwCl (TY D) s) (hP : va_P D vwCl ws H) (hD : va_D A ws) (hS : va_S A s.heap H locs) (hA : ∀ q : Nat, s.heap.size ≤ q → A q) (hE : EE b0 qS vS fS s) (hAb : ∀ q, A q → b0 ≤ q) (is ir : List Nat) (hs : is.map (fun i => ws[i]?) = WS.map some) (hr : ir.map (fun i => ws[i]?) = wr.map some) (hni : va_nd is = true) (hnr : va_nd ir = true) (hdis : ∀ i ∈ ir, i ∉ is)
    (hn : As.length = n) (hsize : ls.size = nL) (hst : st0 = As.reverse ++ .ref b :: rest) (hW : (rest.map fun v => v.category).sum ≤ 8) (hdg : decode cc pc = .ok (.invokespecial idx, 3)) (hf : cells + mc ≤ R.cells ∧ slots + ms ≤ R.slots)
    (kk : ∀ (u : Sg) (H : Heap) (locs : List Loc), post u → va_P D vwCl (wr ++ W' u) H → va_D A (wr ++ W' u) → va_S A s.heap H locs → W p l e R s m args below meth c H locs (cells + mc) (slots + ms) Q (F0 m (pc + 3) ls rest)) : W p l e R s m args below meth c H locs cells slots Q (F0 m pc ls st0) := by
  have ht := S.2.2.2.2
  have hPc : va_P D vwCl WS H := hP.sub is (z_fm hs)
  have hDc : va_D A WS := hD.sub is hni hs
  have hFc := va_free (wc := WS) hD hS hA is hs
  refine va_callv (va_runIN (g := F0 m pc ls st0) (b := b) (As := As) (rest := rest) (Pc := va_Pc (.ref b :: As) (fun U => zW D H.size WS U ∧ EE b0 qS vS fS U)) S (hM (fun q h => hAb q (hFc q h))) ⟨va_cnB n ht (zG hcm) rfl hrc hrs hli (ht _ hini) hd hR, hy1, ht _ him⟩ ⟨zWEb _ D _ WS _ _ _ _, fun U hU hW => ⟨rfl, ⟨by rw [hU], by rw [hU]; exact hPc, va_K.moved hW.alike hK, hDc.weaken (fun _ _ _ _ => trivial)⟩, hE.go hS hAb hU hW⟩⟩ rfl hn hsize hst (lv_room hW) hdg hf) hS (fun q _ h => hFc q h) hFc (fun u t H1 locs1 ht hvm hw hB hz1 hk1 hS1 => ?_)
  obtain ⟨hP1, hK1, hD1⟩ := hB
  rw [ht] at hP1
  obtain ⟨hP2, hD2⟩ := va_join (wr := wr) (w1 := W' u) hP hD is ir hs hr hnr hdis hk1 hFc hP1 hD1
  exact kk u H1 locs1 hw hP2 hD2 hS1
/-- a constructor that needs the start -/
theorem zwIE {Sg : Type} {post : Sg → Prop} {W' : Sg → va_W} (S : CallFix p m c cc nL s args lw_gd own) (hM : (∀ q, va_A WS H.size q → b0 ≤ q) → Met l y (wz y bytes maxL none) rm (va_Pc (.ref b :: As) (fun U => zW D H.size WS U ∧ EE b0 qS vS fS U)) (va_Qv post (fun u t => zB D (va_A WS H.size) (W' u) t) (va_A WS H.size)) mc ms (va_A WS H.size)) (hcm : Cond.code y bytes maxL none ∈ lw_gd) (hrc : rm.cells = mc) (hrs : rm.slots = ms) (hini : Cond.initialized y.cls ∈ lw_gd) (hli : Cond.methodLink own idx y ∈ lw_gd) (him : Cond.instanceMethod y ∈ lw_gd) (hy1 : y.name = "<init>")
    (hd : y.cls ≠ "java/lang/invoke/MethodHandle" ∧ y.cls ≠ "java/lang/invoke/VarHandle" ∧ (parseMethodDescriptor y.desc).map (fun d => d.parameters.length) = some n) (hR : rm.frames + 1 ≤ R.frames ∧ 8 + (maxL + 11) + rm.locals ≤ R.locals)
    (hK : va_K D vwCl (TY D) s) (hP : va_P D vwCl ws H) (hD : va_D A ws) (hS : va_S A s.heap H locs) (hA : ∀ q : Nat, s.heap.size ≤ q → A q) (hE : EE b0 qS vS fS s) (hAb : ∀ q, A q → b0 ≤ q) (is ir : List Nat) (hs : is.map (fun i => ws[i]?) = WS.map some) (hr : ir.map (fun i => ws[i]?) = wr.map some) (hni : va_nd is = true) (hnr : va_nd ir = true) (hdis : ∀ i ∈ ir, i ∉ is)
    (hn : As.length = n) (hsize : ls.size = nL) (hst : st0 = As.reverse ++ .ref b :: rest) (hW : (rest.map fun v => v.category).sum ≤ 8) (hdg : decode cc pc = .ok (.invokespecial idx, 3)) (hf : cells + mc ≤ R.cells ∧ slots + ms ≤ R.slots)
    (kk : ∀ (u : Sg) (H : Heap) (locs : List Loc), post u → va_P D vwCl (wr ++ W' u) H → va_D A (wr ++ W' u) → va_S A s.heap H locs → W p l e R s m args below meth c H locs (cells + mc) (slots + ms) Q (F0 m (pc + 3) ls rest)) : W p l e R s m args below meth c H locs cells slots Q (F0 m pc ls st0) := by
  have ht := S.2.2.2.2
  have hPc : va_P D vwCl WS H := hP.sub is (z_fm hs)
  have hDc : va_D A WS := hD.sub is hni hs
  have hFc := va_free (wc := WS) hD hS hA is hs
  refine va_callv (va_runI (g := F0 m pc ls st0) (b := b) (As := As) (rest := rest) (Pc := va_Pc (.ref b :: As) (fun U => zW D H.size WS U ∧ EE b0 qS vS fS U)) S (hM (fun q h => hAb q (hFc q h))) (cwI n ht (zG hcm) rfl hrc hrs (ht _ hini) (ht _ hli) (ht _ him) hy1 hd hR) ⟨zWEb _ D _ WS _ _ _ _, fun U hU hW => ⟨rfl, ⟨by rw [hU], by rw [hU]; exact hPc, va_K.moved hW.alike hK, hDc.weaken (fun _ _ _ _ => trivial)⟩, hE.go hS hAb hU hW⟩⟩ rfl hn hsize hst (lv_room hW) hdg hf) hS (fun q _ h => hFc q h) hFc (fun u t H1 locs1 ht hvm hw hB hz1 hk1 hS1 => ?_)
  obtain ⟨hP1, hK1, hD1⟩ := hB
  rw [ht] at hP1
  obtain ⟨hP2, hD2⟩ := va_join (wr := wr) (w1 := W' u) hP hD is ir hs hr hnr hdis hk1 hFc hP1 hD1
  exact kk u H1 locs1 hw hP2 hD2 hS1
end ZI
theorem z_cong {D : va_G} {ws : va_W} {H : Heap} {k q n : Nat} {c : ClassId} {f g : Nat → Int32} {A : Nat → Prop} (hP : va_P D vwCl ws H) (hD : va_D A ws) (h : ws[k]? = some (q, .inl (c, n, .inl f))) (e : ∀ j, j < n → f j = g j) : va_P D vwCl (ws.set k (q, .inl (c, n, .inl g))) H := by
  refine hP.set hD h ?_ (fun _ _ => rfl)
  have h1 := hP k _ h
  show H[q]? = some (vp_cell _ _)
  rw [show H[q]? = some (vp_cell c (n, .inl f)) from h1]
  congr 1
  show arrV c n (fun j => .int (f j)) = arrV c n (fun j => .int (g j))
  unfold arrV
  congr 1
  apply Array.ext
  · simp
  · intro j h1 h2
    simp at h1
    simp [e j h1]
theorem z_upd_inv {f g : Nat → Int32} {i : Nat} {c : Int32} (h : ∀ j, j < i → f j = c) (e : upd f (nI i).toNatClampNeg c = g) (hi : i < 2 ^ 31) : ∀ j, j < i + 1 → g j = c := by
  intro j hj
  rw [← e, nI_clamp hi]
  unfold upd
  by_cases hji : j = i
  · rw [if_pos hji]
  · rw [if_neg hji]; exact h j (by omega)
/-! ===== the lifted state: ints, longs, rows of ints, rows of longs, by number ===== -/
def i2 (z : Int) : Int32 := Int32.ofInt z
def i8 (z : Int) : Int64 := Int64.ofInt z
abbrev MS : Type := (Nat → Int) × (Nat → Int) × (Nat → Nat → Int) × (Nat → Nat → Int)
def gI (s : MS) (k : Nat) : Int := s.1 k
def gL (s : MS) (k : Nat) : Int := s.2.1 k
def gA (s : MS) (k : Nat) : Nat → Int := s.2.2.1 k
def gB (s : MS) (k : Nat) : Nat → Int := s.2.2.2 k
def sI (s : MS) (k : Nat) (v : Int) : MS := (fun j => if j = k then v else s.1 j, s.2)
def sL (s : MS) (k : Nat) (v : Int) : MS := (s.1, fun j => if j = k then v else s.2.1 j, s.2.2)
def sA (s : MS) (k : Nat) (f : Nat → Int) : MS := (s.1, s.2.1, fun j => if j = k then f else s.2.2.1 j, s.2.2.2)
def sB (s : MS) (k : Nat) (f : Nat → Int) : MS := (s.1, s.2.1, s.2.2.1, fun j => if j = k then f else s.2.2.2 j)
def upZ (f : Nat → Int) (i : Nat) (v : Int) : Nat → Int := fun j => if j = i then v else f j
/-! ===== what a step asks; none: the machine would throw, or a number leaves its range before it is compared ===== -/
def rdI {α : Type} (f : Nat → Int) (n : Nat) (i : Int) (k : Int → Option α) : Option α := if 0 ≤ i ∧ i < (n : Int) then k (f i.toNat) else none
def rdL {α : Type} (f : Nat → Int) (n : Nat) (i : Int) (k : Int → Option α) : Option α := if 0 ≤ i ∧ i < (n : Int) then k (f i.toNat) else none
def inb {α : Type} (n : Nat) (i : Int) (k : Option α) : Option α := if 0 ≤ i ∧ i < (n : Int) then k else none
abbrev R2 (x : Int) : Prop := -2147483648 ≤ x ∧ x ≤ 2147483647
abbrev R8 (x : Int) : Prop := -9223372036854775808 ≤ x ∧ x ≤ 9223372036854775807
def rg {α : Type} (x : Int) (k : Option α) : Option α := if R2 x then k else none
def rgL {α : Type} (x : Int) (k : Option α) : Option α := if R8 x then k else none
def dv {α : Type} (x y : Int) (k : Option α) : Option α := if (R2 x ∧ R2 y) ∧ ¬ y = 0 then k else none
def dvL {α : Type} (x y : Int) (k : Option α) : Option α := if (R8 x ∧ R8 y) ∧ ¬ y = 0 then k else none
def bo {α : Type} (v : Int) (k : Option α) : Option α := if v = 0 ∨ v = 1 then k else none
def eqg {α : Type} (x y : Int) (k : Option α) : Option α := if x = y then k else none
def cpg {α : Type} (sp dp n : Int) (n0 n1 : Nat) (k : Option α) : Option α := if (0 ≤ sp ∧ 0 ≤ dp ∧ 0 ≤ n) ∧ sp + n ≤ (n0 : Int) ∧ dp + n ≤ (n1 : Int) then k else none
def bn {α β : Type} (x : Option α) (k : α → Option β) : Option β := x.bind k
def ushr (x y : Int32) : Int32 := (x.toUInt32 >>> (y.toUInt32 &&& Int32.toUInt32 31)).toInt32
def ushrL (x : Int64) (y : Int32) : Int64 := (x.toUInt64 >>> (y.toInt64.toUInt64 &&& Int64.toUInt64 63)).toInt64
def shlL (x : Int64) (y : Int32) : Int64 := x <<< (y.toInt64 &&& 63)
def andZ (x y : Int) : Int := (i2 x &&& i2 y).toInt
def orZ (x y : Int) : Int := (i2 x ||| i2 y).toInt
def shlZ (x y : Int) : Int := (i2 x <<< (i2 y &&& 31)).toInt
def shrZ (x y : Int) : Int := (i2 x >>> (i2 y &&& 31)).toInt
def ushrZ (x y : Int) : Int := (ushr (i2 x) (i2 y)).toInt
def andL (x y : Int) : Int := (i8 x &&& i8 y).toInt
def orL (x y : Int) : Int := (i8 x ||| i8 y).toInt
def ushrLZ (x y : Int) : Int := (ushrL (i8 x) (i2 y)).toInt
def shlLZ (x y : Int) : Int := (shlL (i8 x) (i2 y)).toInt
def minZ (x y : Int) : Int := if y < x then y else x
def maxZ (x y : Int) : Int := if x < y then y else x
theorem i2_of (x : Int32) : i2 x.toInt = x := Int32.ofInt_toInt x
theorem i8_of (x : Int64) : i8 x.toInt = x := Int64.ofInt_toInt x
theorem i2_t {z : Int} (h : R2 z) : (i2 z).toInt = z := Int32.toInt_ofInt_of_le (by omega) (by omega)
theorem i8_t {z : Int} (h : R8 z) : (i8 z).toInt = z := Int64.toInt_ofInt_of_le (by omega) (by omega)
theorem i2_add (x y : Int) : i2 x + i2 y = i2 (x + y) := (Int32.ofInt_add x y).symm
theorem i2_sub (x y : Int) : i2 x - i2 y = i2 (x - y) := (Int32.ofInt_sub x y).symm
theorem i2_mul (x y : Int) : i2 x * i2 y = i2 (x * y) := (Int32.ofInt_mul x y).symm
theorem i8_add (x y : Int) : i8 x + i8 y = i8 (x + y) := (Int64.ofInt_add x y).symm
theorem i8_sub (x y : Int) : i8 x - i8 y = i8 (x - y) := (Int64.ofInt_sub x y).symm
theorem i8_mul (x y : Int) : i8 x * i8 y = i8 (x * y) := (Int64.ofInt_mul x y).symm
theorem i2_lt {x y : Int} (hx : R2 x) (hy : R2 y) : i2 x < i2 y ↔ x < y := by rw [Int32.lt_iff_toInt_lt, i2_t hx, i2_t hy]
theorem i2_le {x y : Int} (hx : R2 x) (hy : R2 y) : i2 x ≤ i2 y ↔ x ≤ y := by rw [Int32.le_iff_toInt_le, i2_t hx, i2_t hy]
theorem i2_eq {x y : Int} (hx : R2 x) (hy : R2 y) : i2 x = i2 y ↔ x = y := by rw [← Int32.toInt_inj, i2_t hx, i2_t hy]
theorem i8_lt {x y : Int} (hx : R8 x) (hy : R8 y) : i8 x < i8 y ↔ x < y := by rw [Int64.lt_iff_toInt_lt, i8_t hx, i8_t hy]
theorem i8_le {x y : Int} (hx : R8 x) (hy : R8 y) : i8 x ≤ i8 y ↔ x ≤ y := by rw [Int64.le_iff_toInt_le, i8_t hx, i8_t hy]
theorem i8_eq {x y : Int} (hx : R8 x) (hy : R8 y) : i8 x = i8 y ↔ x = y := by rw [← Int64.toInt_inj, i8_t hx, i8_t hy]
theorem l_lt {x y : Int} (hx : R8 x) (hy : R8 y) : lg_cmp (i8 x) (i8 y) < 0 ↔ x < y := (lg_cmp_lt _ _).trans (i8_lt hx hy)
theorem l_le {x y : Int} (hx : R8 x) (hy : R8 y) : lg_cmp (i8 x) (i8 y) ≤ 0 ↔ x ≤ y := (lg_cmp_le _ _).trans (i8_le hx hy)
theorem l_gt {x y : Int} (hx : R8 x) (hy : R8 y) : 0 < lg_cmp (i8 x) (i8 y) ↔ y < x := (lg_cmp_gt _ _).trans (i8_lt hy hx)
theorem l_ge {x y : Int} (hx : R8 x) (hy : R8 y) : 0 ≤ lg_cmp (i8 x) (i8 y) ↔ y ≤ x := (lg_cmp_ge _ _).trans (i8_le hy hx)
theorem l_eq {x y : Int} (hx : R8 x) (hy : R8 y) : lg_cmp (i8 x) (i8 y) = 0 ↔ x = y := (lg_cmp_eq _ _).trans (i8_eq hx hy)
theorem i2_l {x : Int} (h : R2 x) : (i2 x).toInt64 = i8 x := by rw [← Int64.toInt_inj, Int32.toInt_toInt64, i2_t h, i8_t (by omega)]
theorem i8_i (x : Int) : (i8 x).toInt32 = i2 x := Int64.toInt32_ofInt
theorem nI_i2 (n : Nat) : Int32.ofNat n = i2 (n : Int) := rfl
theorem i2_clamp {i : Int} {n : Nat} (h : 0 ≤ i ∧ i < (n : Int)) (hn : (n : Int) ≤ 2147483647) : (i2 i).toNatClampNeg = i.toNat := Int32.toNatClampNeg_ofInt_of_le (by omega) (by omega)
theorem i2_in {i : Int} {n : Nat} (h : 0 ≤ i ∧ i < (n : Int)) (hn : (n : Int) ≤ 2147483647) : vp_in (i2 i) n := vp_in_iff.mpr (by rw [i2_t (by omega)]; exact h)
theorem i2_min {x y : Int} (hx : R2 x) (hy : R2 y) : (if i2 y < i2 x then i2 y else i2 x) = i2 (minZ x y) := by
  unfold minZ
  by_cases h : y < x
  · rw [if_pos h, if_pos ((i2_lt hy hx).mpr h)]
  · rw [if_neg h, if_neg (mt (i2_lt hy hx).mp h)]
theorem i2_max {x y : Int} (hx : R2 x) (hy : R2 y) : (if i2 x < i2 y then i2 y else i2 x) = i2 (maxZ x y) := by
  unfold maxZ
  by_cases h : x < y
  · rw [if_pos h, if_pos ((i2_lt hx hy).mpr h)]
  · rw [if_neg h, if_neg (mt (i2_lt hx hy).mp h)]
theorem rg_e {α : Type} {x : Int} {k : Option α} {o : α} (h : rg x k = some o) : R2 x ∧ k = some o := by
  unfold rg at h
  split at h
  · exact ⟨‹_›, h⟩
  · cases h
theorem rgL_e {α : Type} {x : Int} {k : Option α} {o : α} (h : rgL x k = some o) : R8 x ∧ k = some o := by
  unfold rgL at h
  split at h
  · exact ⟨‹_›, h⟩
  · cases h
theorem dv_e {α : Type} {x y : Int} {k : Option α} {o : α} (h : dv x y k = some o) : ((R2 x ∧ R2 y) ∧ ¬ y = 0) ∧ k = some o := by
  unfold dv at h
  split at h
  · exact ⟨‹_›, h⟩
  · cases h
theorem dvL_e {α : Type} {x y : Int} {k : Option α} {o : α} (h : dvL x y k = some o) : ((R8 x ∧ R8 y) ∧ ¬ y = 0) ∧ k = some o := by
  unfold dvL at h
  split at h
  · exact ⟨‹_›, h⟩
  · cases h
theorem dv_nz {x y : Int} (h : (R2 x ∧ R2 y) ∧ ¬ y = 0) : ¬ i2 y = 0 := fun q => h.2 ((i2_eq (y := 0) h.1.2 (by decide)).mp q)
theorem dvL_nz {x y : Int} (h : (R8 x ∧ R8 y) ∧ ¬ y = 0) : ¬ i8 y = 0 := fun q => h.2 ((i8_eq (y := 0) h.1.2 (by decide)).mp q)
theorem dv_d {x y : Int} (h : (R2 x ∧ R2 y) ∧ ¬ y = 0) : i2 x / i2 y = i2 (Int.tdiv x y) := (Int32.ofInt_tdiv (by show (-2147483648 : Int) ≤ x; exact h.1.1.1) (by show x ≤ (2147483647 : Int); exact h.1.1.2) (by show (-2147483648 : Int) ≤ y; exact h.1.2.1) (by show y ≤ (2147483647 : Int); exact h.1.2.2)).symm
theorem dvL_d {x y : Int} (h : (R8 x ∧ R8 y) ∧ ¬ y = 0) : i8 x / i8 y = i8 (Int.tdiv x y) := (Int64.ofInt_tdiv (by show (-9223372036854775808 : Int) ≤ x; exact h.1.1.1) (by show x ≤ (9223372036854775807 : Int); exact h.1.1.2) (by show (-9223372036854775808 : Int) ≤ y; exact h.1.2.1) (by show y ≤ (9223372036854775807 : Int); exact h.1.2.2)).symm
theorem dv_r {x y : Int} (h : (R2 x ∧ R2 y) ∧ ¬ y = 0) : i2 x - i2 x / i2 y * i2 y = i2 (Int.tmod x y) := by
  rw [dv_d h, i2_mul, i2_sub, Int.tmod_def, Int.mul_comm]
theorem dvL_r {x y : Int} (h : (R8 x ∧ R8 y) ∧ ¬ y = 0) : i8 x - i8 x / i8 y * i8 y = i8 (Int.tmod x y) := by
  rw [dvL_d h, i8_mul, i8_sub, Int.tmod_def, Int.mul_comm]
theorem upZ_i2 {f : Nat → Int} {i : Nat} {v : Int} : upd (fun j => i2 (f j)) i (i2 v) = fun j => i2 (upZ f i v j) := by
  funext j
  unfold upd upZ
  by_cases h : j = i
  · rw [if_pos h, if_pos h]
  · rw [if_neg h, if_neg h]
theorem upZ_i8 {f : Nat → Int} {i : Nat} {v : Int} : vp_updL (fun j => i8 (f j)) i (i8 v) = fun j => i8 (upZ f i v j) := by
  funext j
  unfold vp_updL upZ
  by_cases h : j = i
  · rw [if_pos h, if_pos h]
  · rw [if_neg h, if_neg h]
theorem cpy_i2 {f g : Nat → Int} {sp dp n : Nat} : va_cpy (fun j => i2 (f j)) (fun j => i2 (g j)) sp dp n = fun j => i2 (va_cpy f g sp dp n j) := by
  funext j
  unfold va_cpy
  by_cases h : dp ≤ j ∧ j < dp + n
  · rw [if_pos h, if_pos h]
  · rw [if_neg h, if_neg h]
/-- a loop, so many times at most -/
def lp {T : Type} (z : T) (b : T → T) : Nat → T
  | 0 => z
  | n + 1 => b (lp z b n)
/-- more than any loop here goes -/
def FU : Nat := 10 ^ 60
theorem rdI_e {α : Type} {f : Nat → Int} {n : Nat} {i : Int} {k : Int → Option α} {o : α} (h : rdI f n i k = some o) : ∃ x, f i.toNat = x ∧ (0 ≤ i ∧ i < (n : Int)) ∧ k x = some o := by
  unfold rdI at h
  split at h
  · exact ⟨_, rfl, ‹_›, h⟩
  · cases h
theorem rdL_e {α : Type} {f : Nat → Int} {n : Nat} {i : Int} {k : Int → Option α} {o : α} (h : rdL f n i k = some o) : ∃ x, f i.toNat = x ∧ (0 ≤ i ∧ i < (n : Int)) ∧ k x = some o := by
  unfold rdL at h
  split at h
  · exact ⟨_, rfl, ‹_›, h⟩
  · cases h
theorem inb_e {α : Type} {n : Nat} {i : Int} {k : Option α} {o : α} (h : inb n i k = some o) : (0 ≤ i ∧ i < (n : Int)) ∧ k = some o := by
  unfold inb at h
  split at h
  · exact ⟨‹_›, h⟩
  · cases h
theorem bo_e {α : Type} {v : Int} {k : Option α} {o : α} (h : bo v k = some o) : (v = 0 ∨ v = 1) ∧ k = some o := by
  unfold bo at h
  split at h
  · exact ⟨‹_›, h⟩
  · cases h
theorem bo_n {v : Int} (h : v = 0 ∨ v = 1) : narrow .boolean (.int (i2 v)) = .int (i2 v) := by
  rcases h with rfl | rfl <;> decide
theorem bo_f {v : Int} (h : v = 0 ∨ v = 1) : fits .boolean (.int (i2 v)) = true := by
  rcases h with rfl | rfl <;> decide
theorem bo_v {v : Int} (h : v = 0 ∨ v = 1) : vp_nar .boolean (i2 v) = i2 v := by
  rcases h with rfl | rfl <;> decide
theorem eqg_e {α : Type} {x y : Int} {k : Option α} {o : α} (h : eqg x y k = some o) : x = y ∧ k = some o := by
  unfold eqg at h
  split at h
  · exact ⟨‹_›, h⟩
  · cases h
theorem cpg_e {α : Type} {sp dp n : Int} {n0 n1 : Nat} {k : Option α} {o : α} (h : cpg sp dp n n0 n1 k = some o) : ((0 ≤ sp ∧ 0 ≤ dp ∧ 0 ≤ n) ∧ sp + n ≤ (n0 : Int) ∧ dp + n ≤ (n1 : Int)) ∧ k = some o := by
  unfold cpg at h
  split at h
  · exact ⟨‹_›, h⟩
  · cases h
theorem bn_e {α β : Type} {x : Option α} {k : α → Option β} {o : β} (h : bn x k = some o) : ∃ r, x = some r ∧ k r = some o := Option.bind_eq_some_iff.mp h
theorem if_t {α : Type} {c : Prop} [Decidable c] {x y : α} {o : α} (hc : c) (h : (if c then x else y) = o) : x = o := by rw [if_pos hc] at h; exact h
theorem if_f {α : Type} {c : Prop} [Decidable c] {x y : α} {o : α} (hc : ¬ c) (h : (if c then x else y) = o) : y = o := by rw [if_neg hc] at h; exact h
/-- cells with the same addresses are as far apart -/
theorem va_D_same {A : Nat → Prop} {ws ws' : va_W} (h : va_D A ws) (e : ws'.map Prod.fst = ws.map Prod.fst) : va_D A ws' := by
  have key : ∀ (k : Nat) (q : Nat × va_E), ws'[k]? = some q → ∃ q', ws[k]? = some q' ∧ q'.1 = q.1 := by
    intro k q hk
    have h1 : (ws'.map Prod.fst)[k]? = some q.1 := by rw [List.getElem?_map, hk]; rfl
    rw [e, List.getElem?_map] at h1
    cases hi : ws[k]? with
    | none => rw [hi] at h1; cases h1
    | some q' => rw [hi] at h1; exact ⟨q', rfl, Option.some.inj h1⟩
  refine ⟨fun i j x y hi hj hxy => ?_, fun k q hk => ?_⟩
  · obtain ⟨x', h1, e1⟩ := key i x hi
    obtain ⟨y', h2, e2⟩ := key j y hj
    exact h.1 i j x' y' h1 h2 (by rw [e1, e2]; exact hxy)
  · obtain ⟨q', h1, e1⟩ := key k q hk
    rw [← e1]
    exact h.2 k q' h1
theorem va_A_same {ws ws' : va_W} {sz : Nat} (e : ws'.map Prod.fst = ws.map Prod.fst) : va_A ws' sz = va_A ws sz := by
  have key : ∀ {w1 w2 : va_W}, w1.map Prod.fst = w2.map Prod.fst → ∀ q, va_A w1 sz q → va_A w2 sz q := by
    intro w1 w2 e q h
    rcases h with ⟨k, x, h⟩ | h
    · have h1 : (w1.map Prod.fst)[k]? = some q := by rw [List.getElem?_map, h]; rfl
      rw [e, List.getElem?_map] at h1
      cases hi : w2[k]? with
      | none => rw [hi] at h1; cases h1
      | some q' => rw [hi] at h1; exact Or.inl ⟨k, q'.2, by rw [hi]; obtain ⟨x1, x2⟩ := q'; exact congrArg some (by simp at h1; simp [h1])⟩
    · exact Or.inr h
  funext q
  exact propext ⟨key e q, key e.symm q⟩
/-! ===== the one link between nest mates that a method needs ===== -/
def NN (U : State) : Prop := va_Nw (.methodLinkNest RX4 125 yX11_isKey "CloneVolumes") U
theorem NN.warm {s U : State} (hW : s.WarmedH U.vm) (h : NN s) : NN U := va_Nw.warmM hW h
theorem NN.call {U : State} (a : Array Value) (g : JFrame) (mk : MethodId) (h : NN U) : NN (U.calling g mk a) := va_Nw.same (u := U) (U := U.calling g mk a) rfl rfl h
abbrev yP (D : va_G) (WS : va_W) (U : State) : Prop := zP D WS U ∧ NN U
abbrev yW (D : va_G) (sz : Nat) (WS : va_W) (U : State) : Prop := zW D sz WS U ∧ NN U
theorem yPb (av : List Value) (D : va_G) (WS : va_W) : FrameBlind (va_Pc av (yP D WS)) := fun a U g mk q => ⟨q.1, ⟨q.2.1.1, va_K.moved (u := U) (U := U.calling g mk a) (Vm.Alike.refl U.vm) q.2.1.2⟩, q.2.2.call a g mk⟩
theorem yWb (av : List Value) (D : va_G) (sz : Nat) (WS : va_W) : FrameBlind (va_Pc av (yW D sz WS)) := fun a U g mk q => ⟨q.1, ⟨q.2.1.1, q.2.1.2.1, va_K.moved (u := U) (U := U.calling g mk a) (Vm.Alike.refl U.vm) q.2.1.2.2.1, q.2.1.2.2.2⟩, q.2.2.call a g mk⟩
section LF
variable {p : Program} {l : Launch} {e : Env} {R : Room} {s : State} {m : MethodId} {args : Array Value} {below : List Frame} {meth : Method} {c : Code} {H : Heap} {locs : List Loc} {cells slots : Nat} {Q : State → Prop}
variable {cc bytes : ByteArray} {pc : Nat} {ls : Array Slot} {rest st0 : List Value} {D : va_G} {A : Nat → Prop} {ws ws' : va_W} {H0 : Heap} {y : MethodName} {maxL nL mc ms n idx : Nat} {ret : Option FieldType} {rm : Room} {own C : String} {b a : Addr} {As : List Value}
/-- a place where roads meet -/
theorem y_head {σ : Type} {pcJ : Nat} {g0 : JFrame} (Inv : σ → Heap → List Loc → Array Slot → Prop) (stk : σ → List Value) (J : ∀ (u : σ) (H : Heap) (locs : List Loc) (ls : Array Slot), Inv u H locs ls → W p l e R s m args below meth c H locs cells slots Q (F0 m pcJ ls (stk u)))
    (k : (∀ (u : σ) (H : Heap) (locs : List Loc) (ls : Array Slot), Inv u H locs ls → W p l e R s m args below meth c H locs cells slots Q (F0 m pcJ ls (stk u))) → W p l e R s m args below meth c H locs cells slots Q g0) : W p l e R s m args below meth c H locs cells slots Q g0 := k J
/-- a loop's head -/
theorem y_loop {σ : Type} {pcJ : Nat} {g0 : JFrame} (Inv : Nat → σ → Heap → List Loc → Array Slot → Prop) (stk : σ → List Value) (z : ∀ (u : σ) (H : Heap) (locs : List Loc) (ls : Array Slot), ¬ Inv 0 u H locs ls)
    (step : ∀ n : Nat, (∀ (u : σ) (H : Heap) (locs : List Loc) (ls : Array Slot), Inv n u H locs ls → W p l e R s m args below meth c H locs cells slots Q (F0 m pcJ ls (stk u))) → ∀ (u : σ) (H : Heap) (locs : List Loc) (ls : Array Slot), Inv (n + 1) u H locs ls → W p l e R s m args below meth c H locs cells slots Q (F0 m pcJ ls (stk u)))
    (k : (∀ (n : Nat) (u : σ) (H : Heap) (locs : List Loc) (ls : Array Slot), Inv n u H locs ls → W p l e R s m args below meth c H locs cells slots Q (F0 m pcJ ls (stk u))) → W p l e R s m args below meth c H locs cells slots Q g0) : W p l e R s m args below meth c H locs cells slots Q g0 := by
  refine k (fun n => ?_)
  induction n with
  | zero => exact fun u H locs ls hI => (z u H locs ls hI).elim
  | succ n ih => exact step n ih
theorem ya_iald {i x : Int} (hexec : p.tables.exec = Jvm.exec) (hb : c.code = cc) (hK : va_K D vwCl (TY D) s) (hP : va_P D vwCl ws H) (q0 t0 : Nat) {cA : ClassId} {n : Nat} {f : Nat → Int} (ha : ws[q0]? = some (a, .inl (cA, n, .inl (fun j => i2 (f j))))) (ht : (TY D)[t0]? = some (cA, .int)) (hn : (n : Int) ≤ 2147483647) (hv : f i.toNat = x) (hin : 0 ≤ i ∧ i < (n : Int)) (hdg : decode cc pc = .ok (.iaload, 1))
    (kk : W p l e R s m args below meth c H locs cells slots Q (F0 m (pc + 1) ls (.int (i2 x) :: rest))) : W p l e R s m args below meth c H locs cells slots Q (F0 m pc ls (.int (i2 i) :: .ref a :: rest)) := va_iald hexec hb hK hP q0 t0 ha ht (i2_in hin hn) hdg (by rw [i2_clamp hin hn, hv]; exact kk)
theorem ya_cald {i x : Int} (hexec : p.tables.exec = Jvm.exec) (hb : c.code = cc) (hK : va_K D vwCl (TY D) s) (hP : va_P D vwCl ws H) (q0 t0 : Nat) {cA : ClassId} {n : Nat} {f : Nat → Int} (ha : ws[q0]? = some (a, .inl (cA, n, .inl (fun j => i2 (f j))))) (ht : (TY D)[t0]? = some (cA, .char)) (hn : (n : Int) ≤ 2147483647) (hv : f i.toNat = x) (hin : 0 ≤ i ∧ i < (n : Int)) (hdg : decode cc pc = .ok (.caload, 1))
    (kk : W p l e R s m args below meth c H locs cells slots Q (F0 m (pc + 1) ls (.int (i2 x) :: rest))) : W p l e R s m args below meth c H locs cells slots Q (F0 m pc ls (.int (i2 i) :: .ref a :: rest)) := va_cald hexec hb hK hP q0 t0 ha ht (i2_in hin hn) hdg (by rw [i2_clamp hin hn, hv]; exact kk)
theorem ya_zald {i x : Int} (hexec : p.tables.exec = Jvm.exec) (hb : c.code = cc) (hK : va_K D vwCl (TY D) s) (hP : va_P D vwCl ws H) (q0 t0 : Nat) {cA : ClassId} {n : Nat} {f : Nat → Int} (ha : ws[q0]? = some (a, .inl (cA, n, .inl (fun j => i2 (f j))))) (ht : (TY D)[t0]? = some (cA, .boolean)) (hn : (n : Int) ≤ 2147483647) (hv : f i.toNat = x) (hin : 0 ≤ i ∧ i < (n : Int)) (hdg : decode cc pc = .ok (.baload, 1))
    (kk : W p l e R s m args below meth c H locs cells slots Q (F0 m (pc + 1) ls (.int (i2 x) :: rest))) : W p l e R s m args below meth c H locs cells slots Q (F0 m pc ls (.int (i2 i) :: .ref a :: rest)) := va_zald hexec hb hK hP q0 t0 ha ht (i2_in hin hn) hdg (by rw [i2_clamp hin hn, hv]; exact kk)
theorem ya_lald {i x : Int} (hexec : p.tables.exec = Jvm.exec) (hb : c.code = cc) (hK : va_K D vwCl (TY D) s) (hP : va_P D vwCl ws H) (q0 t0 : Nat) {cA : ClassId} {n : Nat} {f : Nat → Int} (ha : ws[q0]? = some (a, .inl (cA, n, .inr (.inl (fun j => i8 (f j)))))) (ht : (TY D)[t0]? = some (cA, .long)) (hn : (n : Int) ≤ 2147483647) (hv : f i.toNat = x) (hin : 0 ≤ i ∧ i < (n : Int)) (hdg : decode cc pc = .ok (.laload, 1))
    (kk : W p l e R s m args below meth c H locs cells slots Q (F0 m (pc + 1) ls (.long (i8 x) :: rest))) : W p l e R s m args below meth c H locs cells slots Q (F0 m pc ls (.int (i2 i) :: .ref a :: rest)) := va_lald hexec hb hK hP q0 t0 ha ht (i2_in hin hn) hdg (by rw [i2_clamp hin hn, hv]; exact kk)
theorem ya_iast {i x : Int} (hexec : p.tables.exec = Jvm.exec) (hb : c.code = cc) (hK : va_K D vwCl (TY D) s) (hP : va_P D vwCl ws H) (hD : va_D A ws) (hS : va_S A H0 H locs) (q0 t0 : Nat) {cA : ClassId} {n : Nat} {f : Nat → Int} (ha : ws[q0]? = some (a, .inl (cA, n, .inl (fun j => i2 (f j))))) (ht : (TY D)[t0]? = some (cA, .int)) (hn : (n : Int) ≤ 2147483647) (hin : 0 ≤ i ∧ i < (n : Int)) (hdg : decode cc pc = .ok (.iastore, 1)) (hw : ws.set q0 (a, .inl (cA, n, .inl (fun j => i2 (upZ f i.toNat x j)))) = ws')
    (kk : ∀ (H : Heap) (locs : List Loc), va_P D vwCl ws' H → va_S A H0 H locs → W p l e R s m args below meth c H locs cells slots Q (F0 m (pc + 1) ls rest)) : W p l e R s m args below meth c H locs cells slots Q (F0 m pc ls (.int (i2 x) :: .int (i2 i) :: .ref a :: rest)) := by
  subst hw
  refine va_iast hexec hb hK hP hD hS q0 t0 ha ht (i2_in hin hn) hdg (fun H1 l1 h1 _ h3 => kk H1 l1 ?_ h3)
  rw [i2_clamp hin hn, upZ_i2] at h1
  exact h1
theorem ya_zast {i x : Int} (hexec : p.tables.exec = Jvm.exec) (hb : c.code = cc) (hK : va_K D vwCl (TY D) s) (hP : va_P D vwCl ws H) (hD : va_D A ws) (hS : va_S A H0 H locs) (q0 t0 : Nat) {cA : ClassId} {n : Nat} {f : Nat → Int} (ha : ws[q0]? = some (a, .inl (cA, n, .inl (fun j => i2 (f j))))) (ht : (TY D)[t0]? = some (cA, .boolean)) (hn : (n : Int) ≤ 2147483647) (hin : 0 ≤ i ∧ i < (n : Int)) (hbo : x = 0 ∨ x = 1) (hdg : decode cc pc = .ok (.bastore, 1)) (hw : ws.set q0 (a, .inl (cA, n, .inl (fun j => i2 (upZ f i.toNat x j)))) = ws')
    (kk : ∀ (H : Heap) (locs : List Loc), va_P D vwCl ws' H → va_S A H0 H locs → W p l e R s m args below meth c H locs cells slots Q (F0 m (pc + 1) ls rest)) : W p l e R s m args below meth c H locs cells slots Q (F0 m pc ls (.int (i2 x) :: .int (i2 i) :: .ref a :: rest)) := by
  subst hw
  refine va_zast hexec hb hK hP hD hS q0 t0 ha ht (i2_in hin hn) hdg (fun H1 l1 h1 _ h3 => kk H1 l1 ?_ h3)
  rw [i2_clamp hin hn, bo_v hbo, upZ_i2] at h1
  exact h1
theorem ya_last {i x : Int} (hexec : p.tables.exec = Jvm.exec) (hb : c.code = cc) (hK : va_K D vwCl (TY D) s) (hP : va_P D vwCl ws H) (hD : va_D A ws) (hS : va_S A H0 H locs) (q0 t0 : Nat) {cA : ClassId} {n : Nat} {f : Nat → Int} (ha : ws[q0]? = some (a, .inl (cA, n, .inr (.inl (fun j => i8 (f j)))))) (ht : (TY D)[t0]? = some (cA, .long)) (hn : (n : Int) ≤ 2147483647) (hin : 0 ≤ i ∧ i < (n : Int)) (hdg : decode cc pc = .ok (.lastore, 1)) (hw : ws.set q0 (a, .inl (cA, n, .inr (.inl (fun j => i8 (upZ f i.toNat x j))))) = ws')
    (kk : ∀ (H : Heap) (locs : List Loc), va_P D vwCl ws' H → va_S A H0 H locs → W p l e R s m args below meth c H locs cells slots Q (F0 m (pc + 1) ls rest)) : W p l e R s m args below meth c H locs cells slots Q (F0 m pc ls (.long (i8 x) :: .int (i2 i) :: .ref a :: rest)) := by
  subst hw
  refine va_last hexec hb hK hP hD hS q0 t0 ha ht (i2_in hin hn) hdg (fun H1 l1 h1 _ h3 => kk H1 l1 ?_ h3)
  rw [i2_clamp hin hn, upZ_i8] at h1
  exact h1
theorem ya_put (hexec : p.tables.exec = Jvm.exec) (hb : c.code = cc) {own ref C : String} {T : u_T} {N ci index : Nat} {Ts : List Cond} (hts : ∀ w ∈ Ts, w.before args s = true) (hin : ∀ w ∈ u_ws C T N, w ∈ Ts) (ty0 : Nat → FieldType) (hty : ∀ k, k < N → parseFieldDescriptor (T k).2.2.1 = some (ty0 k)) (hnm : ∀ a, a < N → ∀ b, b < N → a ≠ b → (T a).2.1 ≠ (T b).2.1) (hown : s.vm.findClass own = some m.cls) (hK : va_K D vwCl (TY D) s) (hP : va_P D vwCl ws H) (hD : va_D A ws) (hS0 : va_S A H0 H locs) (q0 : Nat) {fs : List Value} (he : ws[q0]? = some (a, .inr (ci, fs))) (hc : vwCl[ci]? = some (C, T, N)) (k : Nat) (hk : k < N) (hlink : (Cond.fieldLink own index ref (T k).2.1 (T k).2.2.1).before args s = true) (hsame : ∀ x, s.fieldFound? (T k).1 (T k).2.1 (T k).2.2.1 = some x → s.fieldFound? ref (T k).2.1 (T k).2.2.1 = some x) (hfin : (T k).2.2.2 = false) {ty : FieldType} {v : Value} (hd : parseFieldDescriptor (T k).2.2.1 = some ty) (hn : narrow ty v = v) (hfit : fits ty v = true) (hl : k < fs.length)
    (hdg : decode cc pc = .ok (.putfield index, 3)) (hw : ws.set q0 (a, .inr (ci, fs.set k v)) = ws') (kk : ∀ (H : Heap) (locs : List Loc), va_P D vwCl ws' H → va_S A H0 H locs → W p l e R s m args below meth c H locs cells slots Q (F0 m (pc + 3) ls rest)) : W p l e R s m args below meth c H locs cells slots Q (F0 m pc ls (v :: .ref a :: rest)) := by
  subst hw
  exact va_put hexec hb hts hin ty0 hty hnm hown hK hP hD hS0 q0 he hc k hk hlink hsame hfin hd hn hfit hl hdg (fun H1 l1 h1 _ h3 => kk H1 l1 h1 h3)
theorem ya_copyi {sp dp n : Int} (hexec : p.tables.exec = Jvm.exec) (hb : c.code = cc) (hml : c.maxLocals = ls.size) {own : String} {index : Nat} (hown : s.vm.findClass own = some m.cls) (hlink : (Cond.methodLink own index arraycopyName).before args s = true) (hnat : (Cond.native arraycopyName).before args s = true) (hstat : (Cond.static arraycopyName).before args s = true) (hini : (Cond.initialized "java/lang/System").before args s = true)
    (hK : va_K D vwCl (TY D) s) (hP : va_P D vwCl ws H) (hD : va_D A ws) (hS : va_S A H0 H locs) (q0 q1 : Nat) {a0 : Nat} {n0 n1 : Nat} {f g : Nat → Int} (ha0 : ws[q0]? = some (a0, .inl (D.1 13, n0, .inl (fun j => i2 (f j))))) (ha1 : ws[q1]? = some (a, .inl (D.1 13, n1, .inl (fun j => i2 (g j))))) (hn0 : (n0 : Int) ≤ 2147483647) (hn1 : (n1 : Int) ≤ 2147483647)
    (hg : (0 ≤ sp ∧ 0 ≤ dp ∧ 0 ≤ n) ∧ sp + n ≤ (n0 : Int) ∧ dp + n ≤ (n1 : Int))
    (hframes : 1 ≤ R.frames) (hlocals : (rest.map fun v => v.category).sum + (nativeFrameWords "java/lang/System" "arraycopy" 5 + 11) ≤ R.locals) (hdg : decode cc pc = .ok (.invokestatic index, 3)) (hw : ws.set q1 (a, .inl (D.1 13, n1, .inl (fun j => i2 (va_cpy f g sp.toNat dp.toNat n.toNat j)))) = ws')
    (kk : ∀ (H : Heap) (locs : List Loc), va_P D vwCl ws' H → va_S A H0 H locs → W p l e R s m args below meth c H locs cells slots Q (F0 m (pc + 3) ls rest)) : W p l e R s m args below meth c H locs cells slots Q (F0 m pc ls (.int (i2 n) :: .int (i2 dp) :: .ref a :: .int (i2 sp) :: .ref a0 :: rest)) := by
  subst hw
  have e1 : (i2 sp).toNatClampNeg = sp.toNat := Int32.toNatClampNeg_ofInt_of_le (by omega) (by omega)
  have e2 : (i2 dp).toNatClampNeg = dp.toNat := Int32.toNatClampNeg_ofInt_of_le (by omega) (by omega)
  have e3 : (i2 n).toNatClampNeg = n.toNat := Int32.toNatClampNeg_ofInt_of_le (by omega) (by omega)
  refine va_copyi (t0 := 0) (t1 := 0) hexec hb hml hown hlink hnat hstat hini hK hP hD hS q0 q1 ha0 ha1 rfl rfl rfl (mt (i2_lt (y := 0) (by omega) (by decide)).mp (by omega)) (mt (i2_lt (y := 0) (by omega) (by decide)).mp (by omega)) (mt (i2_lt (y := 0) (by omega) (by decide)).mp (by omega)) (by rw [e1, e3]; omega) (by rw [e2, e3]; omega) (fun _ _ => rfl) hframes hlocals hdg (fun H1 l1 h1 _ h3 => kk H1 l1 ?_ h3)
  rw [e1, e2, e3, cpy_i2] at h1
  exact h1
/-- the contracts' two shapes: a world that is read, a world that is written -/
abbrev yRi (l : Launch) (y : MethodName) (bytes : ByteArray) (maxL : Nat) (ret : Option FieldType) (rm : Room) (D : va_G) (av : List Value) (ws : va_W) (r : Int32) : Prop := Met l y (wz y bytes maxL ret) rm (va_Pc av (yP D ws)) (va_Qi (fun q (_ : Unit) => q = r) (fun _ _ => True) (fun _ => False)) 0 0 (fun _ => False)
abbrev yRl (l : Launch) (y : MethodName) (bytes : ByteArray) (maxL : Nat) (ret : Option FieldType) (rm : Room) (D : va_G) (av : List Value) (ws : va_W) (r : Int64) : Prop := Met l y (wz y bytes maxL ret) rm (va_Pc av (yP D ws)) (va_Ql (fun q (_ : Unit) => q = r) (fun _ _ => True) (fun _ => False)) 0 0 (fun _ => False)
abbrev yWi (l : Launch) (y : MethodName) (bytes : ByteArray) (maxL : Nat) (ret : Option FieldType) (rm : Room) (D : va_G) (sz : Nat) (av : List Value) (ws ws' : va_W) (r : Int32) : Prop := Met l y (wz y bytes maxL ret) rm (va_Pc av (yW D sz ws)) (va_Qi (fun q (_ : Unit) => q = r) (fun _ t => zB D (va_A ws sz) ws' t) (va_A ws sz)) 0 0 (va_A ws sz)
abbrev yWl (l : Launch) (y : MethodName) (bytes : ByteArray) (maxL : Nat) (ret : Option FieldType) (rm : Room) (D : va_G) (sz : Nat) (av : List Value) (ws ws' : va_W) (r : Int64) : Prop := Met l y (wz y bytes maxL ret) rm (va_Pc av (yW D sz ws)) (va_Ql (fun q (_ : Unit) => q = r) (fun _ t => zB D (va_A ws sz) ws' t) (va_A ws sz)) 0 0 (va_A ws sz)
abbrev yWv (l : Launch) (y : MethodName) (bytes : ByteArray) (maxL : Nat) (ret : Option FieldType) (rm : Room) (D : va_G) (sz : Nat) (av : List Value) (ws ws' : va_W) : Prop := Met l y (wz y bytes maxL ret) rm (va_Pc av (yW D sz ws)) (va_Qv (fun (_ : Unit) => True) (fun _ t => zB D (va_A ws sz) ws' t) (va_A ws sz)) 0 0 (va_A ws sz)
theorem ycV {r0 : Int32} (S : CallFix p m c cc nL s args lw_gd own) (hM : yRi l y bytes maxL ret rm D (.ref b :: As) ws r0) (hT : GoodIn lw_gd (wsV own idx C y (wz y bytes maxL ret))) (hrc : rm.cells = 0) (hrs : rm.slots = 0)
    (hd : y.cls = C ∧ y.cls ≠ "java/lang/invoke/MethodHandle" ∧ y.cls ≠ "java/lang/invoke/VarHandle" ∧ (parseMethodDescriptor y.desc).map (fun d => d.parameters.length) = some n) (hR : rm.frames + 1 ≤ R.frames ∧ 8 + (maxL + 11) + rm.locals ≤ R.locals)
    (hN : NN s) (hK : va_K D vwCl (TY D) s) (hP : va_P D vwCl ws H) (hS : va_S A H0 H locs) {ci : Nat} {fs : List Value} {q : vw_C} (q0 : Nat) (he : ws[q0]? = some (b, .inr (ci, fs))) (hc : vwCl[ci]? = some q) (hq : q.1 = C)
    (hn : As.length = n) (hsize : ls.size = nL) (hst : st0 = As.reverse ++ .ref b :: rest) (hW : (rest.map fun v => v.category).sum ≤ 8) (hdg : decode cc pc = .ok (.invokevirtual idx, 3)) (hf : cells ≤ R.cells ∧ slots ≤ R.slots)
    (kk : ∀ (H : Heap) (locs : List Loc), va_P D vwCl ws H → va_S A H0 H locs → W p l e R s m args below meth c H locs cells slots Q (F0 m (pc + 3) ls (.int r0 :: rest))) : W p l e R s m args below meth c H locs cells slots Q (F0 m pc ls st0) := by
  subst hq
  refine va_calli (va_runV (g := F0 m pc ls st0) (b := b) (As := As) (rest := rest) (Pc := va_Pc (.ref b :: As) (yP D ws)) (mc := 0) (ms := 0) S hM (cwV n S.2.2.2.2 hT rfl hrc hrs hd hR) ⟨yPb _ D ws, va_recv hK hP hc he, fun U hU hW => ⟨rfl, ⟨by rw [hU]; exact hP, va_K.moved hW.alike hK⟩, NN.warm hW hN⟩⟩ rfl hn hsize hst (lv_room hW) hdg ⟨hf.1, hf.2⟩) hS (fun _ _ h => h.elim) (fun _ h => h.elim) (fun r u t H1 locs1 ht hvm hw hB hz1 hk1 hS1 => ?_)
  subst hw
  exact kk H1 locs1 (zKeep hP hk1) hS1
theorem ycVl {r0 : Int64} (S : CallFix p m c cc nL s args lw_gd own) (hM : yRl l y bytes maxL ret rm D (.ref b :: As) ws r0) (hT : GoodIn lw_gd (wsV own idx C y (wz y bytes maxL ret))) (hrc : rm.cells = 0) (hrs : rm.slots = 0)
    (hd : y.cls = C ∧ y.cls ≠ "java/lang/invoke/MethodHandle" ∧ y.cls ≠ "java/lang/invoke/VarHandle" ∧ (parseMethodDescriptor y.desc).map (fun d => d.parameters.length) = some n) (hR : rm.frames + 1 ≤ R.frames ∧ 8 + (maxL + 11) + rm.locals ≤ R.locals)
    (hN : NN s) (hK : va_K D vwCl (TY D) s) (hP : va_P D vwCl ws H) (hS : va_S A H0 H locs) {ci : Nat} {fs : List Value} {q : vw_C} (q0 : Nat) (he : ws[q0]? = some (b, .inr (ci, fs))) (hc : vwCl[ci]? = some q) (hq : q.1 = C)
    (hn : As.length = n) (hsize : ls.size = nL) (hst : st0 = As.reverse ++ .ref b :: rest) (hW : (rest.map fun v => v.category).sum ≤ 8) (hdg : decode cc pc = .ok (.invokevirtual idx, 3)) (hf : cells ≤ R.cells ∧ slots ≤ R.slots)
    (kk : ∀ (H : Heap) (locs : List Loc), va_P D vwCl ws H → va_S A H0 H locs → W p l e R s m args below meth c H locs cells slots Q (F0 m (pc + 3) ls (.long r0 :: rest))) : W p l e R s m args below meth c H locs cells slots Q (F0 m pc ls st0) := by
  subst hq
  refine va_calll (va_runV (g := F0 m pc ls st0) (b := b) (As := As) (rest := rest) (Pc := va_Pc (.ref b :: As) (yP D ws)) (mc := 0) (ms := 0) S hM (cwV n S.2.2.2.2 hT rfl hrc hrs hd hR) ⟨yPb _ D ws, va_recv hK hP hc he, fun U hU hW => ⟨rfl, ⟨by rw [hU]; exact hP, va_K.moved hW.alike hK⟩, NN.warm hW hN⟩⟩ rfl hn hsize hst (lv_room hW) hdg ⟨hf.1, hf.2⟩) hS (fun _ _ h => h.elim) (fun _ h => h.elim) (fun r u t H1 locs1 ht hvm hw hB hz1 hk1 hS1 => ?_)
  subst hw
  exact kk H1 locs1 (zKeep hP hk1) hS1
theorem ycS {r0 : Int32} (S : CallFix p m c cc nL s args lw_gd own) (hM : yRi l y bytes maxL ret rm D As ws r0) (hT : GoodIn lw_gd (va_wsS own idx y (wz y bytes maxL ret))) (hrc : rm.cells = 0) (hrs : rm.slots = 0)
    (hd : y.cls ≠ "java/lang/invoke/MethodHandle" ∧ y.cls ≠ "java/lang/invoke/VarHandle" ∧ (parseMethodDescriptor y.desc).map (fun d => d.parameters.length) = some n) (hR : rm.frames + 1 ≤ R.frames ∧ 8 + (maxL + 11) + rm.locals ≤ R.locals)
    (hN : NN s) (hK : va_K D vwCl (TY D) s) (hP : va_P D vwCl ws H) (hS : va_S A H0 H locs)
    (hn : As.length = n) (hsize : ls.size = nL) (hst : st0 = As.reverse ++ rest) (hW : (rest.map fun v => v.category).sum ≤ 8) (hdg : decode cc pc = .ok (.invokestatic idx, 3)) (hf : cells ≤ R.cells ∧ slots ≤ R.slots)
    (kk : ∀ (H : Heap) (locs : List Loc), va_P D vwCl ws H → va_S A H0 H locs → W p l e R s m args below meth c H locs cells slots Q (F0 m (pc + 3) ls (.int r0 :: rest))) : W p l e R s m args below meth c H locs cells slots Q (F0 m pc ls st0) := by
  refine va_calli (va_runS (g := F0 m pc ls st0) (As := As) (rest := rest) (Pc := va_Pc As (yP D ws)) (mc := 0) (ms := 0) S hM (va_cwS n S.2.2.2.2 hT rfl hrc hrs hd hR) ⟨yPb _ D ws, fun U hU hW => ⟨rfl, ⟨by rw [hU]; exact hP, va_K.moved hW.alike hK⟩, NN.warm hW hN⟩⟩ rfl hn hsize hst (lv_room hW) hdg ⟨hf.1, hf.2⟩) hS (fun _ _ h => h.elim) (fun _ h => h.elim) (fun r u t H1 locs1 ht hvm hw hB hz1 hk1 hS1 => ?_)
  subst hw
  exact kk H1 locs1 (zKeep hP hk1) hS1
theorem ycSl {r0 : Int64} (S : CallFix p m c cc nL s args lw_gd own) (hM : yRl l y bytes maxL ret rm D As ws r0) (hT : GoodIn lw_gd (va_wsS own idx y (wz y bytes maxL ret))) (hrc : rm.cells = 0) (hrs : rm.slots = 0)
    (hd : y.cls ≠ "java/lang/invoke/MethodHandle" ∧ y.cls ≠ "java/lang/invoke/VarHandle" ∧ (parseMethodDescriptor y.desc).map (fun d => d.parameters.length) = some n) (hR : rm.frames + 1 ≤ R.frames ∧ 8 + (maxL + 11) + rm.locals ≤ R.locals)
    (hN : NN s) (hK : va_K D vwCl (TY D) s) (hP : va_P D vwCl ws H) (hS : va_S A H0 H locs)
    (hn : As.length = n) (hsize : ls.size = nL) (hst : st0 = As.reverse ++ rest) (hW : (rest.map fun v => v.category).sum ≤ 8) (hdg : decode cc pc = .ok (.invokestatic idx, 3)) (hf : cells ≤ R.cells ∧ slots ≤ R.slots)
    (kk : ∀ (H : Heap) (locs : List Loc), va_P D vwCl ws H → va_S A H0 H locs → W p l e R s m args below meth c H locs cells slots Q (F0 m (pc + 3) ls (.long r0 :: rest))) : W p l e R s m args below meth c H locs cells slots Q (F0 m pc ls st0) := by
  refine va_calll (va_runS (g := F0 m pc ls st0) (As := As) (rest := rest) (Pc := va_Pc As (yP D ws)) (mc := 0) (ms := 0) S hM (va_cwS n S.2.2.2.2 hT rfl hrc hrs hd hR) ⟨yPb _ D ws, fun U hU hW => ⟨rfl, ⟨by rw [hU]; exact hP, va_K.moved hW.alike hK⟩, NN.warm hW hN⟩⟩ rfl hn hsize hst (lv_room hW) hdg ⟨hf.1, hf.2⟩) hS (fun _ _ h => h.elim) (fun _ h => h.elim) (fun r u t H1 locs1 ht hvm hw hB hz1 hk1 hS1 => ?_)
  subst hw
  exact kk H1 locs1 (zKeep hP hk1) hS1
theorem ycN {r0 : Int32} {host : String} (S : CallFix p m c cc nL s args lw_gd own) (hM : yRi l y bytes maxL ret rm D As ws r0) (hcm : Cond.code y bytes maxL ret ∈ lw_gd) (hini : Cond.initialized y.cls ∈ lw_gd) (hli : va_Nw (.methodLinkNest own idx y host) s) (hst1 : Cond.static y ∈ lw_gd) (hrc : rm.cells = 0) (hrs : rm.slots = 0)
    (hd : y.cls ≠ "java/lang/invoke/MethodHandle" ∧ y.cls ≠ "java/lang/invoke/VarHandle" ∧ (parseMethodDescriptor y.desc).map (fun d => d.parameters.length) = some n) (hR : rm.frames + 1 ≤ R.frames ∧ 8 + (maxL + 11) + rm.locals ≤ R.locals)
    (hN : NN s) (hK : va_K D vwCl (TY D) s) (hP : va_P D vwCl ws H) (hS : va_S A H0 H locs)
    (hn : As.length = n) (hsize : ls.size = nL) (hst : st0 = As.reverse ++ rest) (hW : (rest.map fun v => v.category).sum ≤ 8) (hdg : decode cc pc = .ok (.invokestatic idx, 3)) (hf : cells ≤ R.cells ∧ slots ≤ R.slots)
    (kk : ∀ (H : Heap) (locs : List Loc), va_P D vwCl ws H → va_S A H0 H locs → W p l e R s m args below meth c H locs cells slots Q (F0 m (pc + 3) ls (.int r0 :: rest))) : W p l e R s m args below meth c H locs cells slots Q (F0 m pc ls st0) := by
  have ht := S.2.2.2.2
  refine va_calli (va_runSN (g := F0 m pc ls st0) (As := As) (rest := rest) (Pc := va_Pc As (yP D ws)) (mc := 0) (ms := 0) S hM ⟨va_cnB n ht (zG hcm) rfl hrc hrs hli (ht _ hini) hd hR, ht _ hst1, trivial⟩ ⟨yPb _ D ws, fun U hU hW => ⟨rfl, ⟨by rw [hU]; exact hP, va_K.moved hW.alike hK⟩, NN.warm hW hN⟩⟩ rfl hn hsize hst (lv_room hW) hdg ⟨hf.1, hf.2⟩) hS (fun _ _ h => h.elim) (fun _ h => h.elim) (fun r u t H1 locs1 ht hvm hw hB hz1 hk1 hS1 => ?_)
  subst hw
  exact kk H1 locs1 (zKeep hP hk1) hS1
theorem y_free {A0 : Nat → Prop} {ws : va_W} {H0 H : Heap} {locs : List Loc} (hD : va_D A0 ws) (hS : va_S A0 H0 H locs) (hA : ∀ q, H0.size ≤ q → A0 q) : ∀ q, va_A ws H.size q → A0 q := by
  intro q h
  rcases h with ⟨k, e, h⟩ | h
  · exact hD.2 k (q, e) h
  · exact hA q (Nat.le_trans hS.1 h)
theorem ywV {r0 : Int32} (S : CallFix p m c cc nL s args lw_gd own) (hM : yWi l y bytes maxL ret rm D H.size (.ref b :: As) ws ws' r0) (hT : GoodIn lw_gd (wsV own idx C y (wz y bytes maxL ret))) (hrc : rm.cells = 0) (hrs : rm.slots = 0)
    (hd : y.cls = C ∧ y.cls ≠ "java/lang/invoke/MethodHandle" ∧ y.cls ≠ "java/lang/invoke/VarHandle" ∧ (parseMethodDescriptor y.desc).map (fun d => d.parameters.length) = some n) (hR : rm.frames + 1 ≤ R.frames ∧ 8 + (maxL + 11) + rm.locals ≤ R.locals)
    (hN : NN s) (hK : va_K D vwCl (TY D) s) (hP : va_P D vwCl ws H) (hD : va_D A ws) (hS : va_S A H0 H locs) (hA : ∀ q : Nat, H0.size ≤ q → A q) {ci : Nat} {fs : List Value} {q : vw_C} (q0 : Nat) (he : ws[q0]? = some (b, .inr (ci, fs))) (hc : vwCl[ci]? = some q) (hq : q.1 = C)
    (hn : As.length = n) (hsize : ls.size = nL) (hst : st0 = As.reverse ++ .ref b :: rest) (hW : (rest.map fun v => v.category).sum ≤ 8) (hdg : decode cc pc = .ok (.invokevirtual idx, 3)) (hf : cells ≤ R.cells ∧ slots ≤ R.slots)
    (kk : ∀ (H : Heap) (locs : List Loc), va_P D vwCl ws' H → va_S A H0 H locs → W p l e R s m args below meth c H locs cells slots Q (F0 m (pc + 3) ls (.int r0 :: rest))) : W p l e R s m args below meth c H locs cells slots Q (F0 m pc ls st0) := by
  subst hq
  have hFc := y_free hD hS hA
  refine va_calli (va_runV (g := F0 m pc ls st0) (b := b) (As := As) (rest := rest) (Pc := va_Pc (.ref b :: As) (yW D H.size ws)) S hM (cwV n S.2.2.2.2 hT rfl hrc hrs hd hR) ⟨yWb _ D _ ws, va_recv hK hP hc he, fun U hU hW => ⟨rfl, ⟨by rw [hU], by rw [hU]; exact hP, va_K.moved hW.alike hK, hD.weaken (fun _ _ _ _ => trivial)⟩, NN.warm hW hN⟩⟩ rfl hn hsize hst (lv_room hW) hdg hf) hS (fun q _ h => hFc q h) hFc (fun r u t H1 locs1 ht hvm hw hB hz1 hk1 hS1 => ?_)
  obtain ⟨hP1, hK1, hD1⟩ := hB
  rw [ht] at hP1
  subst hw
  exact kk H1 locs1 hP1 hS1
theorem ywVl {r0 : Int64} (S : CallFix p m c cc nL s args lw_gd own) (hM : yWl l y bytes maxL ret rm D H.size (.ref b :: As) ws ws' r0) (hT : GoodIn lw_gd (wsV own idx C y (wz y bytes maxL ret))) (hrc : rm.cells = 0) (hrs : rm.slots = 0)
    (hd : y.cls = C ∧ y.cls ≠ "java/lang/invoke/MethodHandle" ∧ y.cls ≠ "java/lang/invoke/VarHandle" ∧ (parseMethodDescriptor y.desc).map (fun d => d.parameters.length) = some n) (hR : rm.frames + 1 ≤ R.frames ∧ 8 + (maxL + 11) + rm.locals ≤ R.locals)
    (hN : NN s) (hK : va_K D vwCl (TY D) s) (hP : va_P D vwCl ws H) (hD : va_D A ws) (hS : va_S A H0 H locs) (hA : ∀ q : Nat, H0.size ≤ q → A q) {ci : Nat} {fs : List Value} {q : vw_C} (q0 : Nat) (he : ws[q0]? = some (b, .inr (ci, fs))) (hc : vwCl[ci]? = some q) (hq : q.1 = C)
    (hn : As.length = n) (hsize : ls.size = nL) (hst : st0 = As.reverse ++ .ref b :: rest) (hW : (rest.map fun v => v.category).sum ≤ 8) (hdg : decode cc pc = .ok (.invokevirtual idx, 3)) (hf : cells ≤ R.cells ∧ slots ≤ R.slots)
    (kk : ∀ (H : Heap) (locs : List Loc), va_P D vwCl ws' H → va_S A H0 H locs → W p l e R s m args below meth c H locs cells slots Q (F0 m (pc + 3) ls (.long r0 :: rest))) : W p l e R s m args below meth c H locs cells slots Q (F0 m pc ls st0) := by
  subst hq
  have hFc := y_free hD hS hA
  refine va_calll (va_runV (g := F0 m pc ls st0) (b := b) (As := As) (rest := rest) (Pc := va_Pc (.ref b :: As) (yW D H.size ws)) S hM (cwV n S.2.2.2.2 hT rfl hrc hrs hd hR) ⟨yWb _ D _ ws, va_recv hK hP hc he, fun U hU hW => ⟨rfl, ⟨by rw [hU], by rw [hU]; exact hP, va_K.moved hW.alike hK, hD.weaken (fun _ _ _ _ => trivial)⟩, NN.warm hW hN⟩⟩ rfl hn hsize hst (lv_room hW) hdg hf) hS (fun q _ h => hFc q h) hFc (fun r u t H1 locs1 ht hvm hw hB hz1 hk1 hS1 => ?_)
  obtain ⟨hP1, hK1, hD1⟩ := hB
  rw [ht] at hP1
  subst hw
  exact kk H1 locs1 hP1 hS1
theorem ywVv (S : CallFix p m c cc nL s args lw_gd own) (hM : yWv l y bytes maxL ret rm D H.size (.ref b :: As) ws ws') (hT : GoodIn lw_gd (wsV own idx C y (wz y bytes maxL ret))) (hrc : rm.cells = 0) (hrs : rm.slots = 0)
    (hd : y.cls = C ∧ y.cls ≠ "java/lang/invoke/MethodHandle" ∧ y.cls ≠ "java/lang/invoke/VarHandle" ∧ (parseMethodDescriptor y.desc).map (fun d => d.parameters.length) = some n) (hR : rm.frames + 1 ≤ R.frames ∧ 8 + (maxL + 11) + rm.locals ≤ R.locals)
    (hN : NN s) (hK : va_K D vwCl (TY D) s) (hP : va_P D vwCl ws H) (hD : va_D A ws) (hS : va_S A H0 H locs) (hA : ∀ q : Nat, H0.size ≤ q → A q) {ci : Nat} {fs : List Value} {q : vw_C} (q0 : Nat) (he : ws[q0]? = some (b, .inr (ci, fs))) (hc : vwCl[ci]? = some q) (hq : q.1 = C)
    (hn : As.length = n) (hsize : ls.size = nL) (hst : st0 = As.reverse ++ .ref b :: rest) (hW : (rest.map fun v => v.category).sum ≤ 8) (hdg : decode cc pc = .ok (.invokevirtual idx, 3)) (hf : cells ≤ R.cells ∧ slots ≤ R.slots)
    (kk : ∀ (H : Heap) (locs : List Loc), va_P D vwCl ws' H → va_S A H0 H locs → W p l e R s m args below meth c H locs cells slots Q (F0 m (pc + 3) ls rest)) : W p l e R s m args below meth c H locs cells slots Q (F0 m pc ls st0) := by
  subst hq
  have hFc := y_free hD hS hA
  refine va_callv (va_runV (g := F0 m pc ls st0) (b := b) (As := As) (rest := rest) (Pc := va_Pc (.ref b :: As) (yW D H.size ws)) S hM (cwV n S.2.2.2.2 hT rfl hrc hrs hd hR) ⟨yWb _ D _ ws, va_recv hK hP hc he, fun U hU hW => ⟨rfl, ⟨by rw [hU], by rw [hU]; exact hP, va_K.moved hW.alike hK, hD.weaken (fun _ _ _ _ => trivial)⟩, NN.warm hW hN⟩⟩ rfl hn hsize hst (lv_room hW) hdg hf) hS (fun q _ h => hFc q h) hFc (fun u t H1 locs1 ht hvm hw hB hz1 hk1 hS1 => ?_)
  obtain ⟨hP1, hK1, hD1⟩ := hB
  rw [ht] at hP1
  exact kk H1 locs1 hP1 hS1
end LF
/-- a state gets a name -/
def stn {α : Type} (t : MS) (k : MS → Option α) : Option α := k t
theorem st_e {α : Type} {t : MS} {k : MS → Option α} {o : α} (h : stn t k = some o) : ∃ s, t = s ∧ k s = some o := ⟨t, rfl, h⟩
