section
-- ===== PART A: goes FIRST, ahead of the names: the tables' words, and 'selects' of the private methods out of them =====
/-- a private method of a class that the tables say can be made, by its rows of tables_1 -/
def lw_okq (q : MethodName × Nat) : Prop := (q.1.cls ≠ "java/lang/invoke/MethodHandle" ∧ q.1.cls ≠ "java/lang/invoke/VarHandle") ∧ Cond.instantiable q.1.cls q.2 ∈ tables_1 ∧ Cond.privateMethod q.1 ∈ tables_1 ∧ Cond.instanceMethod q.1 ∈ tables_1
theorem lw_p0 : lw_okq (⟨"CloneVolumes", "refuse", "(I)I"⟩, 13) := ⟨⟨by decide +kernel, by decide +kernel⟩, List.mem_of_getElem? (i := 22) (by decide +kernel), List.mem_of_getElem? (i := 552) (by decide +kernel), List.mem_of_getElem? (i := 553) (by decide +kernel)⟩
theorem lw_p1 : lw_okq (⟨"CloneVolumes$Reader", "begin", "(LCloneVolumes$Code;)V"⟩, 12) := ⟨⟨by decide +kernel, by decide +kernel⟩, List.mem_of_getElem? (i := 50) (by decide +kernel), List.mem_of_getElem? (i := 573) (by decide +kernel), List.mem_of_getElem? (i := 574) (by decide +kernel)⟩
theorem lw_p2 : lw_okq (⟨"CloneVolumes$Reader", "advance", "()V"⟩, 12) := ⟨⟨by decide +kernel, by decide +kernel⟩, List.mem_of_getElem? (i := 50) (by decide +kernel), List.mem_of_getElem? (i := 577) (by decide +kernel), List.mem_of_getElem? (i := 578) (by decide +kernel)⟩
theorem lw_p3 : lw_okq (⟨"CloneVolumes$Reader", "wordNumber", "()I"⟩, 12) := ⟨⟨by decide +kernel, by decide +kernel⟩, List.mem_of_getElem? (i := 50) (by decide +kernel), List.mem_of_getElem? (i := 591) (by decide +kernel), List.mem_of_getElem? (i := 592) (by decide +kernel)⟩
theorem lw_p4 : lw_okq (⟨"CloneVolumes$Reader", "readStatement", "(LCloneVolumes$Plan;)V"⟩, 12) := ⟨⟨by decide +kernel, by decide +kernel⟩, List.mem_of_getElem? (i := 50) (by decide +kernel), List.mem_of_getElem? (i := 598) (by decide +kernel), List.mem_of_getElem? (i := 599) (by decide +kernel)⟩
theorem lw_p5 : lw_okq (⟨"CloneVolumes$Reader", "fail", "(II)Z"⟩, 12) := ⟨⟨by decide +kernel, by decide +kernel⟩, List.mem_of_getElem? (i := 50) (by decide +kernel), List.mem_of_getElem? (i := 602) (by decide +kernel), List.mem_of_getElem? (i := 603) (by decide +kernel)⟩
theorem lw_p6 : lw_okq (⟨"CloneVolumes$Reader", "readBlocks", "(LCloneVolumes$Plan;)V"⟩, 12) := ⟨⟨by decide +kernel, by decide +kernel⟩, List.mem_of_getElem? (i := 50) (by decide +kernel), List.mem_of_getElem? (i := 606) (by decide +kernel), List.mem_of_getElem? (i := 607) (by decide +kernel)⟩
theorem lw_p7 : lw_okq (⟨"CloneVolumes$Reader", "expectNumber", "(II)I"⟩, 12) := ⟨⟨by decide +kernel, by decide +kernel⟩, List.mem_of_getElem? (i := 50) (by decide +kernel), List.mem_of_getElem? (i := 610) (by decide +kernel), List.mem_of_getElem? (i := 611) (by decide +kernel)⟩
theorem lw_p8 : lw_okq (⟨"CloneVolumes$Reader", "expectWord", "(I)V"⟩, 12) := ⟨⟨by decide +kernel, by decide +kernel⟩, List.mem_of_getElem? (i := 50) (by decide +kernel), List.mem_of_getElem? (i := 614) (by decide +kernel), List.mem_of_getElem? (i := 615) (by decide +kernel)⟩
theorem lw_p9 : lw_okq (⟨"CloneVolumes$Reader", "isWord", "(I)Z"⟩, 12) := ⟨⟨by decide +kernel, by decide +kernel⟩, List.mem_of_getElem? (i := 50) (by decide +kernel), List.mem_of_getElem? (i := 618) (by decide +kernel), List.mem_of_getElem? (i := 619) (by decide +kernel)⟩
theorem lw_p10 : lw_okq (⟨"CloneVolumes$Reader", "readVolume", "(LCloneVolumes$Plan;I)V"⟩, 12) := ⟨⟨by decide +kernel, by decide +kernel⟩, List.mem_of_getElem? (i := 50) (by decide +kernel), List.mem_of_getElem? (i := 622) (by decide +kernel), List.mem_of_getElem? (i := 623) (by decide +kernel)⟩
theorem lw_p11 : lw_okq (⟨"CloneVolumes$Reader", "isName", "()Z"⟩, 12) := ⟨⟨by decide +kernel, by decide +kernel⟩, List.mem_of_getElem? (i := 50) (by decide +kernel), List.mem_of_getElem? (i := 626) (by decide +kernel), List.mem_of_getElem? (i := 627) (by decide +kernel)⟩
theorem lw_p12 : lw_okq (⟨"CloneVolumes$Reader", "expectVolume", "(LCloneVolumes$Plan;)I"⟩, 12) := ⟨⟨by decide +kernel, by decide +kernel⟩, List.mem_of_getElem? (i := 50) (by decide +kernel), List.mem_of_getElem? (i := 638) (by decide +kernel), List.mem_of_getElem? (i := 639) (by decide +kernel)⟩
theorem lw_p13 : lw_okq (⟨"CloneVolumes$Reader", "readChange", "(LCloneVolumes$Plan;I)V"⟩, 12) := ⟨⟨by decide +kernel, by decide +kernel⟩, List.mem_of_getElem? (i := 50) (by decide +kernel), List.mem_of_getElem? (i := 650) (by decide +kernel), List.mem_of_getElem? (i := 651) (by decide +kernel)⟩
theorem lw_p14 : lw_okq (⟨"CloneVolumes$Reader", "beginFormula", "(LCloneVolumes$Plan;I)V"⟩, 12) := ⟨⟨by decide +kernel, by decide +kernel⟩, List.mem_of_getElem? (i := 50) (by decide +kernel), List.mem_of_getElem? (i := 654) (by decide +kernel), List.mem_of_getElem? (i := 655) (by decide +kernel)⟩
theorem lw_p15 : lw_okq (⟨"CloneVolumes$Reader", "readSum", "()V"⟩, 12) := ⟨⟨by decide +kernel, by decide +kernel⟩, List.mem_of_getElem? (i := 50) (by decide +kernel), List.mem_of_getElem? (i := 658) (by decide +kernel), List.mem_of_getElem? (i := 659) (by decide +kernel)⟩
def lw_privs_1 : List (MethodName × Nat) := [(⟨"CloneVolumes", "refuse", "(I)I"⟩, 13), (⟨"CloneVolumes$Reader", "begin", "(LCloneVolumes$Code;)V"⟩, 12), (⟨"CloneVolumes$Reader", "advance", "()V"⟩, 12), (⟨"CloneVolumes$Reader", "wordNumber", "()I"⟩, 12), (⟨"CloneVolumes$Reader", "readStatement", "(LCloneVolumes$Plan;)V"⟩, 12), (⟨"CloneVolumes$Reader", "fail", "(II)Z"⟩, 12), (⟨"CloneVolumes$Reader", "readBlocks", "(LCloneVolumes$Plan;)V"⟩, 12), (⟨"CloneVolumes$Reader", "expectNumber", "(II)I"⟩, 12), (⟨"CloneVolumes$Reader", "expectWord", "(I)V"⟩, 12), (⟨"CloneVolumes$Reader", "isWord", "(I)Z"⟩, 12), (⟨"CloneVolumes$Reader", "readVolume", "(LCloneVolumes$Plan;I)V"⟩, 12), (⟨"CloneVolumes$Reader", "isName", "()Z"⟩, 12), (⟨"CloneVolumes$Reader", "expectVolume", "(LCloneVolumes$Plan;)I"⟩, 12), (⟨"CloneVolumes$Reader", "readChange", "(LCloneVolumes$Plan;I)V"⟩, 12), (⟨"CloneVolumes$Reader", "beginFormula", "(LCloneVolumes$Plan;I)V"⟩, 12), (⟨"CloneVolumes$Reader", "readSum", "()V"⟩, 12)]
theorem lw_r1 : ∀ q ∈ lw_privs_1, lw_okq q := List.forall_mem_cons.mpr ⟨lw_p0, List.forall_mem_cons.mpr ⟨lw_p1, List.forall_mem_cons.mpr ⟨lw_p2, List.forall_mem_cons.mpr ⟨lw_p3, List.forall_mem_cons.mpr ⟨lw_p4, List.forall_mem_cons.mpr ⟨lw_p5, List.forall_mem_cons.mpr ⟨lw_p6, List.forall_mem_cons.mpr ⟨lw_p7, List.forall_mem_cons.mpr ⟨lw_p8, List.forall_mem_cons.mpr ⟨lw_p9, List.forall_mem_cons.mpr ⟨lw_p10, List.forall_mem_cons.mpr ⟨lw_p11, List.forall_mem_cons.mpr ⟨lw_p12, List.forall_mem_cons.mpr ⟨lw_p13, List.forall_mem_cons.mpr ⟨lw_p14, List.forall_mem_cons.mpr ⟨lw_p15, fun _ h => absurd h List.not_mem_nil⟩⟩⟩⟩⟩⟩⟩⟩⟩⟩⟩⟩⟩⟩⟩⟩
theorem lw_p16 : lw_okq (⟨"CloneVolumes$Reader", "readProduct", "()V"⟩, 12) := ⟨⟨by decide +kernel, by decide +kernel⟩, List.mem_of_getElem? (i := 50) (by decide +kernel), List.mem_of_getElem? (i := 662) (by decide +kernel), List.mem_of_getElem? (i := 663) (by decide +kernel)⟩
theorem lw_p17 : lw_okq (⟨"CloneVolumes$Reader", "readPart", "()V"⟩, 12) := ⟨⟨by decide +kernel, by decide +kernel⟩, List.mem_of_getElem? (i := 50) (by decide +kernel), List.mem_of_getElem? (i := 666) (by decide +kernel), List.mem_of_getElem? (i := 667) (by decide +kernel)⟩
theorem lw_p18 : lw_okq (⟨"CloneVolumes$Reader", "isSign", "(I)Z"⟩, 12) := ⟨⟨by decide +kernel, by decide +kernel⟩, List.mem_of_getElem? (i := 50) (by decide +kernel), List.mem_of_getElem? (i := 675) (by decide +kernel), List.mem_of_getElem? (i := 676) (by decide +kernel)⟩
theorem lw_p19 : lw_okq (⟨"CloneVolumes$Reader", "opens", "()Z"⟩, 12) := ⟨⟨by decide +kernel, by decide +kernel⟩, List.mem_of_getElem? (i := 50) (by decide +kernel), List.mem_of_getElem? (i := 679) (by decide +kernel), List.mem_of_getElem? (i := 680) (by decide +kernel)⟩
theorem lw_p20 : lw_okq (⟨"CloneVolumes$Reader", "expectSign", "(I)V"⟩, 12) := ⟨⟨by decide +kernel, by decide +kernel⟩, List.mem_of_getElem? (i := 50) (by decide +kernel), List.mem_of_getElem? (i := 683) (by decide +kernel), List.mem_of_getElem? (i := 684) (by decide +kernel)⟩
theorem lw_p21 : lw_okq (⟨"CloneVolumes$Reader", "readChoice", "(I)V"⟩, 12) := ⟨⟨by decide +kernel, by decide +kernel⟩, List.mem_of_getElem? (i := 50) (by decide +kernel), List.mem_of_getElem? (i := 687) (by decide +kernel), List.mem_of_getElem? (i := 688) (by decide +kernel)⟩
theorem lw_p22 : lw_okq (⟨"CloneVolumes$Reader", "readOther", "(I)V"⟩, 12) := ⟨⟨by decide +kernel, by decide +kernel⟩, List.mem_of_getElem? (i := 50) (by decide +kernel), List.mem_of_getElem? (i := 691) (by decide +kernel), List.mem_of_getElem? (i := 692) (by decide +kernel)⟩
theorem lw_p23 : lw_okq (⟨"CloneVolumes$Reader", "isFact", "()Z"⟩, 12) := ⟨⟨by decide +kernel, by decide +kernel⟩, List.mem_of_getElem? (i := 50) (by decide +kernel), List.mem_of_getElem? (i := 695) (by decide +kernel), List.mem_of_getElem? (i := 696) (by decide +kernel)⟩
theorem lw_p24 : lw_okq (⟨"CloneVolumes$Reader", "readTest", "()V"⟩, 12) := ⟨⟨by decide +kernel, by decide +kernel⟩, List.mem_of_getElem? (i := 50) (by decide +kernel), List.mem_of_getElem? (i := 699) (by decide +kernel), List.mem_of_getElem? (i := 700) (by decide +kernel)⟩
theorem lw_p25 : lw_okq (⟨"CloneVolumes$Reader", "readBoth", "()V"⟩, 12) := ⟨⟨by decide +kernel, by decide +kernel⟩, List.mem_of_getElem? (i := 50) (by decide +kernel), List.mem_of_getElem? (i := 703) (by decide +kernel), List.mem_of_getElem? (i := 704) (by decide +kernel)⟩
theorem lw_p26 : lw_okq (⟨"CloneVolumes$Reader", "readFact", "()V"⟩, 12) := ⟨⟨by decide +kernel, by decide +kernel⟩, List.mem_of_getElem? (i := 50) (by decide +kernel), List.mem_of_getElem? (i := 707) (by decide +kernel), List.mem_of_getElem? (i := 708) (by decide +kernel)⟩
theorem lw_p27 : lw_okq (⟨"CloneVolumes$Reader", "comparison", "()I"⟩, 12) := ⟨⟨by decide +kernel, by decide +kernel⟩, List.mem_of_getElem? (i := 50) (by decide +kernel), List.mem_of_getElem? (i := 711) (by decide +kernel), List.mem_of_getElem? (i := 712) (by decide +kernel)⟩
theorem lw_p28 : lw_okq (⟨"CloneVolumes$Forest", "plant", "(III)Z"⟩, 9) := ⟨⟨by decide +kernel, by decide +kernel⟩, List.mem_of_getElem? (i := 341) (by decide +kernel), List.mem_of_getElem? (i := 735) (by decide +kernel), List.mem_of_getElem? (i := 736) (by decide +kernel)⟩
theorem lw_p29 : lw_okq (⟨"CloneVolumes$Forest", "take", "(II)I"⟩, 9) := ⟨⟨by decide +kernel, by decide +kernel⟩, List.mem_of_getElem? (i := 341) (by decide +kernel), List.mem_of_getElem? (i := 739) (by decide +kernel), List.mem_of_getElem? (i := 740) (by decide +kernel)⟩
theorem lw_p30 : lw_okq (⟨"CloneVolumes$Machine", "push", "(I)V"⟩, 10) := ⟨⟨by decide +kernel, by decide +kernel⟩, List.mem_of_getElem? (i := 428) (by decide +kernel), List.mem_of_getElem? (i := 755) (by decide +kernel), List.mem_of_getElem? (i := 756) (by decide +kernel)⟩
theorem lw_p31 : lw_okq (⟨"CloneVolumes$Machine", "fact", "(I)I"⟩, 10) := ⟨⟨by decide +kernel, by decide +kernel⟩, List.mem_of_getElem? (i := 428) (by decide +kernel), List.mem_of_getElem? (i := 759) (by decide +kernel), List.mem_of_getElem? (i := 760) (by decide +kernel)⟩
def lw_privs_2 : List (MethodName × Nat) := [(⟨"CloneVolumes$Reader", "readProduct", "()V"⟩, 12), (⟨"CloneVolumes$Reader", "readPart", "()V"⟩, 12), (⟨"CloneVolumes$Reader", "isSign", "(I)Z"⟩, 12), (⟨"CloneVolumes$Reader", "opens", "()Z"⟩, 12), (⟨"CloneVolumes$Reader", "expectSign", "(I)V"⟩, 12), (⟨"CloneVolumes$Reader", "readChoice", "(I)V"⟩, 12), (⟨"CloneVolumes$Reader", "readOther", "(I)V"⟩, 12), (⟨"CloneVolumes$Reader", "isFact", "()Z"⟩, 12), (⟨"CloneVolumes$Reader", "readTest", "()V"⟩, 12), (⟨"CloneVolumes$Reader", "readBoth", "()V"⟩, 12), (⟨"CloneVolumes$Reader", "readFact", "()V"⟩, 12), (⟨"CloneVolumes$Reader", "comparison", "()I"⟩, 12), (⟨"CloneVolumes$Forest", "plant", "(III)Z"⟩, 9), (⟨"CloneVolumes$Forest", "take", "(II)I"⟩, 9), (⟨"CloneVolumes$Machine", "push", "(I)V"⟩, 10), (⟨"CloneVolumes$Machine", "fact", "(I)I"⟩, 10)]
theorem lw_r2 : ∀ q ∈ lw_privs_2, lw_okq q := List.forall_mem_cons.mpr ⟨lw_p16, List.forall_mem_cons.mpr ⟨lw_p17, List.forall_mem_cons.mpr ⟨lw_p18, List.forall_mem_cons.mpr ⟨lw_p19, List.forall_mem_cons.mpr ⟨lw_p20, List.forall_mem_cons.mpr ⟨lw_p21, List.forall_mem_cons.mpr ⟨lw_p22, List.forall_mem_cons.mpr ⟨lw_p23, List.forall_mem_cons.mpr ⟨lw_p24, List.forall_mem_cons.mpr ⟨lw_p25, List.forall_mem_cons.mpr ⟨lw_p26, List.forall_mem_cons.mpr ⟨lw_p27, List.forall_mem_cons.mpr ⟨lw_p28, List.forall_mem_cons.mpr ⟨lw_p29, List.forall_mem_cons.mpr ⟨lw_p30, List.forall_mem_cons.mpr ⟨lw_p31, fun _ h => absurd h List.not_mem_nil⟩⟩⟩⟩⟩⟩⟩⟩⟩⟩⟩⟩⟩⟩⟩⟩
theorem lw_p32 : lw_okq (⟨"CloneVolumes$Machine", "pop", "()I"⟩, 10) := ⟨⟨by decide +kernel, by decide +kernel⟩, List.mem_of_getElem? (i := 428) (by decide +kernel), List.mem_of_getElem? (i := 763) (by decide +kernel), List.mem_of_getElem? (i := 764) (by decide +kernel)⟩
theorem lw_p33 : lw_okq (⟨"CloneVolumes$Machine", "changed", "(II)I"⟩, 10) := ⟨⟨by decide +kernel, by decide +kernel⟩, List.mem_of_getElem? (i := 428) (by decide +kernel), List.mem_of_getElem? (i := 767) (by decide +kernel), List.mem_of_getElem? (i := 768) (by decide +kernel)⟩
theorem lw_p34 : lw_okq (⟨"CloneVolumes$Forest", "owned", "(I)I"⟩, 9) := ⟨⟨by decide +kernel, by decide +kernel⟩, List.mem_of_getElem? (i := 341) (by decide +kernel), List.mem_of_getElem? (i := 782) (by decide +kernel), List.mem_of_getElem? (i := 783) (by decide +kernel)⟩
theorem lw_p35 : lw_okq (⟨"CloneVolumes$Forest", "layEntries", "(III)V"⟩, 9) := ⟨⟨by decide +kernel, by decide +kernel⟩, List.mem_of_getElem? (i := 341) (by decide +kernel), List.mem_of_getElem? (i := 790) (by decide +kernel), List.mem_of_getElem? (i := 791) (by decide +kernel)⟩
theorem lw_p36 : lw_okq (⟨"CloneVolumes$Forest", "release", "(I[I)I"⟩, 9) := ⟨⟨by decide +kernel, by decide +kernel⟩, List.mem_of_getElem? (i := 341) (by decide +kernel), List.mem_of_getElem? (i := 799) (by decide +kernel), List.mem_of_getElem? (i := 800) (by decide +kernel)⟩
theorem lw_p37 : lw_okq (⟨"CloneVolumes$Forest", "splits", "(I)Z"⟩, 9) := ⟨⟨by decide +kernel, by decide +kernel⟩, List.mem_of_getElem? (i := 341) (by decide +kernel), List.mem_of_getElem? (i := 803) (by decide +kernel), List.mem_of_getElem? (i := 804) (by decide +kernel)⟩
theorem lw_p38 : lw_okq (⟨"CloneVolumes$Forest", "raiseRoot", "(I)I"⟩, 9) := ⟨⟨by decide +kernel, by decide +kernel⟩, List.mem_of_getElem? (i := 341) (by decide +kernel), List.mem_of_getElem? (i := 807) (by decide +kernel), List.mem_of_getElem? (i := 808) (by decide +kernel)⟩
theorem lw_p39 : lw_okq (⟨"CloneVolumes$Forest", "split", "(IIII)I"⟩, 9) := ⟨⟨by decide +kernel, by decide +kernel⟩, List.mem_of_getElem? (i := 341) (by decide +kernel), List.mem_of_getElem? (i := 817) (by decide +kernel), List.mem_of_getElem? (i := 818) (by decide +kernel)⟩
theorem lw_p40 : lw_okq (⟨"CloneVolumes$Forest", "plantLow", "(III)V"⟩, 9) := ⟨⟨by decide +kernel, by decide +kernel⟩, List.mem_of_getElem? (i := 341) (by decide +kernel), List.mem_of_getElem? (i := 829) (by decide +kernel), List.mem_of_getElem? (i := 830) (by decide +kernel)⟩
theorem lw_p41 : lw_okq (⟨"CloneVolumes$Forest", "uproot", "(II)Z"⟩, 9) := ⟨⟨by decide +kernel, by decide +kernel⟩, List.mem_of_getElem? (i := 341) (by decide +kernel), List.mem_of_getElem? (i := 851) (by decide +kernel), List.mem_of_getElem? (i := 852) (by decide +kernel)⟩
theorem lw_p42 : lw_okq (⟨"CloneVolumes$Forest", "prune", "(III)V"⟩, 9) := ⟨⟨by decide +kernel, by decide +kernel⟩, List.mem_of_getElem? (i := 341) (by decide +kernel), List.mem_of_getElem? (i := 855) (by decide +kernel), List.mem_of_getElem? (i := 856) (by decide +kernel)⟩
theorem lw_p43 : lw_okq (⟨"CloneVolumes$Forest", "lowerRoot", "(I)V"⟩, 9) := ⟨⟨by decide +kernel, by decide +kernel⟩, List.mem_of_getElem? (i := 341) (by decide +kernel), List.mem_of_getElem? (i := 863) (by decide +kernel), List.mem_of_getElem? (i := 864) (by decide +kernel)⟩
theorem lw_p44 : lw_okq (⟨"CloneVolumes", "unlike", "(III)I"⟩, 13) := ⟨⟨by decide +kernel, by decide +kernel⟩, List.mem_of_getElem? (i := 22) (by decide +kernel), List.mem_of_getElem? (i := 1001) (by decide +kernel), List.mem_of_getElem? (i := 1002) (by decide +kernel)⟩
theorem lw_p45 : lw_okq (⟨"CloneVolumes$Forest", "rehearse", "(II)Z"⟩, 9) := ⟨⟨by decide +kernel, by decide +kernel⟩, List.mem_of_getElem? (i := 341) (by decide +kernel), List.mem_of_getElem? (i := 1014) (by decide +kernel), List.mem_of_getElem? (i := 1015) (by decide +kernel)⟩
theorem lw_p46 : lw_okq (⟨"CloneVolumes$Forest", "wrote", "()I"⟩, 9) := ⟨⟨by decide +kernel, by decide +kernel⟩, List.mem_of_getElem? (i := 341) (by decide +kernel), List.mem_of_getElem? (i := 1022) (by decide +kernel), List.mem_of_getElem? (i := 1023) (by decide +kernel)⟩
theorem lw_p47 : lw_okq (⟨"CloneVolumes$Forest", "isWritten", "(I)Z"⟩, 9) := ⟨⟨by decide +kernel, by decide +kernel⟩, List.mem_of_getElem? (i := 341) (by decide +kernel), List.mem_of_getElem? (i := 1026) (by decide +kernel), List.mem_of_getElem? (i := 1027) (by decide +kernel)⟩
def lw_privs_3 : List (MethodName × Nat) := [(⟨"CloneVolumes$Machine", "pop", "()I"⟩, 10), (⟨"CloneVolumes$Machine", "changed", "(II)I"⟩, 10), (⟨"CloneVolumes$Forest", "owned", "(I)I"⟩, 9), (⟨"CloneVolumes$Forest", "layEntries", "(III)V"⟩, 9), (⟨"CloneVolumes$Forest", "release", "(I[I)I"⟩, 9), (⟨"CloneVolumes$Forest", "splits", "(I)Z"⟩, 9), (⟨"CloneVolumes$Forest", "raiseRoot", "(I)I"⟩, 9), (⟨"CloneVolumes$Forest", "split", "(IIII)I"⟩, 9), (⟨"CloneVolumes$Forest", "plantLow", "(III)V"⟩, 9), (⟨"CloneVolumes$Forest", "uproot", "(II)Z"⟩, 9), (⟨"CloneVolumes$Forest", "prune", "(III)V"⟩, 9), (⟨"CloneVolumes$Forest", "lowerRoot", "(I)V"⟩, 9), (⟨"CloneVolumes", "unlike", "(III)I"⟩, 13), (⟨"CloneVolumes$Forest", "rehearse", "(II)Z"⟩, 9), (⟨"CloneVolumes$Forest", "wrote", "()I"⟩, 9), (⟨"CloneVolumes$Forest", "isWritten", "(I)Z"⟩, 9)]
theorem lw_r3 : ∀ q ∈ lw_privs_3, lw_okq q := List.forall_mem_cons.mpr ⟨lw_p32, List.forall_mem_cons.mpr ⟨lw_p33, List.forall_mem_cons.mpr ⟨lw_p34, List.forall_mem_cons.mpr ⟨lw_p35, List.forall_mem_cons.mpr ⟨lw_p36, List.forall_mem_cons.mpr ⟨lw_p37, List.forall_mem_cons.mpr ⟨lw_p38, List.forall_mem_cons.mpr ⟨lw_p39, List.forall_mem_cons.mpr ⟨lw_p40, List.forall_mem_cons.mpr ⟨lw_p41, List.forall_mem_cons.mpr ⟨lw_p42, List.forall_mem_cons.mpr ⟨lw_p43, List.forall_mem_cons.mpr ⟨lw_p44, List.forall_mem_cons.mpr ⟨lw_p45, List.forall_mem_cons.mpr ⟨lw_p46, List.forall_mem_cons.mpr ⟨lw_p47, fun _ h => absurd h List.not_mem_nil⟩⟩⟩⟩⟩⟩⟩⟩⟩⟩⟩⟩⟩⟩⟩⟩
theorem lw_p48 : lw_okq (⟨"CloneVolumes$Forest", "price", "()I"⟩, 9) := ⟨⟨by decide +kernel, by decide +kernel⟩, List.mem_of_getElem? (i := 341) (by decide +kernel), List.mem_of_getElem? (i := 1035) (by decide +kernel), List.mem_of_getElem? (i := 1036) (by decide +kernel)⟩
theorem lw_p49 : lw_okq (⟨"CloneVolumes$Forest", "costOf", "(I)I"⟩, 9) := ⟨⟨by decide +kernel, by decide +kernel⟩, List.mem_of_getElem? (i := 341) (by decide +kernel), List.mem_of_getElem? (i := 1039) (by decide +kernel), List.mem_of_getElem? (i := 1040) (by decide +kernel)⟩
theorem lw_p50 : lw_okq (⟨"CloneVolumes", "growTrees", "()V"⟩, 13) := ⟨⟨by decide +kernel, by decide +kernel⟩, List.mem_of_getElem? (i := 22) (by decide +kernel), List.mem_of_getElem? (i := 1055) (by decide +kernel), List.mem_of_getElem? (i := 1056) (by decide +kernel)⟩
theorem lw_p51 : lw_okq (⟨"CloneVolumes", "lostWith", "(I)I"⟩, 13) := ⟨⟨by decide +kernel, by decide +kernel⟩, List.mem_of_getElem? (i := 22) (by decide +kernel), List.mem_of_getElem? (i := 1059) (by decide +kernel), List.mem_of_getElem? (i := 1060) (by decide +kernel)⟩
theorem lw_p52 : lw_okq (⟨"CloneVolumes$Sight", "agrees", "(LCloneVolumes$State;I)Z"⟩, 6) := ⟨⟨by decide +kernel, by decide +kernel⟩, List.mem_of_getElem? (i := 171) (by decide +kernel), List.mem_of_getElem? (i := 1108) (by decide +kernel), List.mem_of_getElem? (i := 1109) (by decide +kernel)⟩
theorem lw_p53 : lw_okq (⟨"CloneVolumes", "finish", "(II)I"⟩, 13) := ⟨⟨by decide +kernel, by decide +kernel⟩, List.mem_of_getElem? (i := 22) (by decide +kernel), List.mem_of_getElem? (i := 1131) (by decide +kernel), List.mem_of_getElem? (i := 1132) (by decide +kernel)⟩
theorem lw_p54 : lw_okq (⟨"CloneVolumes$Forest", "draw", "(I)I"⟩, 9) := ⟨⟨by decide +kernel, by decide +kernel⟩, List.mem_of_getElem? (i := 341) (by decide +kernel), List.mem_of_getElem? (i := 1198) (by decide +kernel), List.mem_of_getElem? (i := 1199) (by decide +kernel)⟩
theorem lw_p55 : lw_okq (⟨"CloneVolumes$Forest", "volumeAt", "(I)I"⟩, 9) := ⟨⟨by decide +kernel, by decide +kernel⟩, List.mem_of_getElem? (i := 341) (by decide +kernel), List.mem_of_getElem? (i := 1206) (by decide +kernel), List.mem_of_getElem? (i := 1207) (by decide +kernel)⟩
theorem lw_p56 : lw_okq (⟨"CloneVolumes", "answerTest", "(I)J"⟩, 13) := ⟨⟨by decide +kernel, by decide +kernel⟩, List.mem_of_getElem? (i := 22) (by decide +kernel), List.mem_of_getElem? (i := 1233) (by decide +kernel), List.mem_of_getElem? (i := 1234) (by decide +kernel)⟩
theorem lw_p57 : lw_okq (⟨"CloneVolumes", "answerSum", "(I)J"⟩, 13) := ⟨⟨by decide +kernel, by decide +kernel⟩, List.mem_of_getElem? (i := 22) (by decide +kernel), List.mem_of_getElem? (i := 1243) (by decide +kernel), List.mem_of_getElem? (i := 1244) (by decide +kernel)⟩
theorem lw_p58 : lw_okq (⟨"CloneVolumes$Picture", "add", "(I)V"⟩, 6) := ⟨⟨by decide +kernel, by decide +kernel⟩, List.mem_of_getElem? (i := 198) (by decide +kernel), List.mem_of_getElem? (i := 1258) (by decide +kernel), List.mem_of_getElem? (i := 1259) (by decide +kernel)⟩
theorem lw_p59 : lw_okq (⟨"CloneVolumes$Picture", "addPair", "(I)V"⟩, 6) := ⟨⟨by decide +kernel, by decide +kernel⟩, List.mem_of_getElem? (i := 198) (by decide +kernel), List.mem_of_getElem? (i := 1263) (by decide +kernel), List.mem_of_getElem? (i := 1264) (by decide +kernel)⟩
theorem lw_p60 : lw_okq (⟨"CloneVolumes$Picture", "drawBlock", "(LCloneVolumes$State;I)V"⟩, 6) := ⟨⟨by decide +kernel, by decide +kernel⟩, List.mem_of_getElem? (i := 198) (by decide +kernel), List.mem_of_getElem? (i := 1271) (by decide +kernel), List.mem_of_getElem? (i := 1272) (by decide +kernel)⟩
theorem lw_p61 : lw_okq (⟨"CloneVolumes$Picture", "loadHead", "(LCloneVolumes$Tape;LCloneVolumes$State;)Z"⟩, 6) := ⟨⟨by decide +kernel, by decide +kernel⟩, List.mem_of_getElem? (i := 198) (by decide +kernel), List.mem_of_getElem? (i := 1293) (by decide +kernel), List.mem_of_getElem? (i := 1294) (by decide +kernel)⟩
theorem lw_p62 : lw_okq (⟨"CloneVolumes$Picture", "next", "(LCloneVolumes$Tape;)I"⟩, 6) := ⟨⟨by decide +kernel, by decide +kernel⟩, List.mem_of_getElem? (i := 198) (by decide +kernel), List.mem_of_getElem? (i := 1297) (by decide +kernel), List.mem_of_getElem? (i := 1298) (by decide +kernel)⟩
theorem lw_p63 : lw_okq (⟨"CloneVolumes$Picture", "nextPair", "(LCloneVolumes$Tape;)I"⟩, 6) := ⟨⟨by decide +kernel, by decide +kernel⟩, List.mem_of_getElem? (i := 198) (by decide +kernel), List.mem_of_getElem? (i := 1302) (by decide +kernel), List.mem_of_getElem? (i := 1303) (by decide +kernel)⟩
def lw_privs_4 : List (MethodName × Nat) := [(⟨"CloneVolumes$Forest", "price", "()I"⟩, 9), (⟨"CloneVolumes$Forest", "costOf", "(I)I"⟩, 9), (⟨"CloneVolumes", "growTrees", "()V"⟩, 13), (⟨"CloneVolumes", "lostWith", "(I)I"⟩, 13), (⟨"CloneVolumes$Sight", "agrees", "(LCloneVolumes$State;I)Z"⟩, 6), (⟨"CloneVolumes", "finish", "(II)I"⟩, 13), (⟨"CloneVolumes$Forest", "draw", "(I)I"⟩, 9), (⟨"CloneVolumes$Forest", "volumeAt", "(I)I"⟩, 9), (⟨"CloneVolumes", "answerTest", "(I)J"⟩, 13), (⟨"CloneVolumes", "answerSum", "(I)J"⟩, 13), (⟨"CloneVolumes$Picture", "add", "(I)V"⟩, 6), (⟨"CloneVolumes$Picture", "addPair", "(I)V"⟩, 6), (⟨"CloneVolumes$Picture", "drawBlock", "(LCloneVolumes$State;I)V"⟩, 6), (⟨"CloneVolumes$Picture", "loadHead", "(LCloneVolumes$Tape;LCloneVolumes$State;)Z"⟩, 6), (⟨"CloneVolumes$Picture", "next", "(LCloneVolumes$Tape;)I"⟩, 6), (⟨"CloneVolumes$Picture", "nextPair", "(LCloneVolumes$Tape;)I"⟩, 6)]
theorem lw_r4 : ∀ q ∈ lw_privs_4, lw_okq q := List.forall_mem_cons.mpr ⟨lw_p48, List.forall_mem_cons.mpr ⟨lw_p49, List.forall_mem_cons.mpr ⟨lw_p50, List.forall_mem_cons.mpr ⟨lw_p51, List.forall_mem_cons.mpr ⟨lw_p52, List.forall_mem_cons.mpr ⟨lw_p53, List.forall_mem_cons.mpr ⟨lw_p54, List.forall_mem_cons.mpr ⟨lw_p55, List.forall_mem_cons.mpr ⟨lw_p56, List.forall_mem_cons.mpr ⟨lw_p57, List.forall_mem_cons.mpr ⟨lw_p58, List.forall_mem_cons.mpr ⟨lw_p59, List.forall_mem_cons.mpr ⟨lw_p60, List.forall_mem_cons.mpr ⟨lw_p61, List.forall_mem_cons.mpr ⟨lw_p62, List.forall_mem_cons.mpr ⟨lw_p63, fun _ h => absurd h List.not_mem_nil⟩⟩⟩⟩⟩⟩⟩⟩⟩⟩⟩⟩⟩⟩⟩⟩
theorem lw_p64 : lw_okq (⟨"CloneVolumes$Picture", "loadBlock", "(LCloneVolumes$Tape;LCloneVolumes$State;II)Z"⟩, 6) := ⟨⟨by decide +kernel, by decide +kernel⟩, List.mem_of_getElem? (i := 198) (by decide +kernel), List.mem_of_getElem? (i := 1310) (by decide +kernel), List.mem_of_getElem? (i := 1311) (by decide +kernel)⟩
theorem lw_p65 : lw_okq (⟨"CloneVolumes$Picture", "isSound", "(LCloneVolumes$State;)Z"⟩, 6) := ⟨⟨by decide +kernel, by decide +kernel⟩, List.mem_of_getElem? (i := 198) (by decide +kernel), List.mem_of_getElem? (i := 1315) (by decide +kernel), List.mem_of_getElem? (i := 1316) (by decide +kernel)⟩
theorem lw_p66 : lw_okq (⟨"CloneVolumes$Picture", "isSoundBlock", "(LCloneVolumes$State;I)Z"⟩, 6) := ⟨⟨by decide +kernel, by decide +kernel⟩, List.mem_of_getElem? (i := 198) (by decide +kernel), List.mem_of_getElem? (i := 1319) (by decide +kernel), List.mem_of_getElem? (i := 1320) (by decide +kernel)⟩
theorem lw_p67 : lw_okq (⟨"CloneVolumes$Picture", "isSoundChild", "(LCloneVolumes$State;II)Z"⟩, 6) := ⟨⟨by decide +kernel, by decide +kernel⟩, List.mem_of_getElem? (i := 198) (by decide +kernel), List.mem_of_getElem? (i := 1323) (by decide +kernel), List.mem_of_getElem? (i := 1324) (by decide +kernel)⟩
theorem lw_p68 : lw_okq (⟨"CloneVolumes$Picture", "refsAre", "(LCloneVolumes$State;[I[I)Z"⟩, 6) := ⟨⟨by decide +kernel, by decide +kernel⟩, List.mem_of_getElem? (i := 198) (by decide +kernel), List.mem_of_getElem? (i := 1328) (by decide +kernel), List.mem_of_getElem? (i := 1329) (by decide +kernel)⟩
theorem lw_p69 : lw_okq (⟨"CloneVolumesModel", "storeTold", "()V"⟩, 116) := ⟨⟨by decide +kernel, by decide +kernel⟩, List.mem_of_getElem? (i := 1336) (by decide +kernel), List.mem_of_getElem? (i := 1704) (by decide +kernel), List.mem_of_getElem? (i := 1705) (by decide +kernel)⟩
theorem lw_p70 : lw_okq (⟨"CloneVolumesModel", "asks", "([C)V"⟩, 116) := ⟨⟨by decide +kernel, by decide +kernel⟩, List.mem_of_getElem? (i := 1336) (by decide +kernel), List.mem_of_getElem? (i := 1708) (by decide +kernel), List.mem_of_getElem? (i := 1709) (by decide +kernel)⟩
theorem lw_p71 : lw_okq (⟨"CloneVolumesModel", "takes", "([C)Z"⟩, 116) := ⟨⟨by decide +kernel, by decide +kernel⟩, List.mem_of_getElem? (i := 1336) (by decide +kernel), List.mem_of_getElem? (i := 1712) (by decide +kernel), List.mem_of_getElem? (i := 1713) (by decide +kernel)⟩
theorem lw_p72 : lw_okq (⟨"CloneVolumesModel", "isHere", "([C)Z"⟩, 116) := ⟨⟨by decide +kernel, by decide +kernel⟩, List.mem_of_getElem? (i := 1336) (by decide +kernel), List.mem_of_getElem? (i := 1716) (by decide +kernel), List.mem_of_getElem? (i := 1717) (by decide +kernel)⟩
theorem lw_p73 : lw_okq (⟨"CloneVolumesModel", "look", "()I"⟩, 116) := ⟨⟨by decide +kernel, by decide +kernel⟩, List.mem_of_getElem? (i := 1336) (by decide +kernel), List.mem_of_getElem? (i := 1720) (by decide +kernel), List.mem_of_getElem? (i := 1721) (by decide +kernel)⟩
theorem lw_p74 : lw_okq (⟨"CloneVolumesModel", "fail", "(II)V"⟩, 116) := ⟨⟨by decide +kernel, by decide +kernel⟩, List.mem_of_getElem? (i := 1336) (by decide +kernel), List.mem_of_getElem? (i := 1727) (by decide +kernel), List.mem_of_getElem? (i := 1728) (by decide +kernel)⟩
theorem lw_p75 : lw_okq (⟨"CloneVolumesModel", "number", "(II)I"⟩, 116) := ⟨⟨by decide +kernel, by decide +kernel⟩, List.mem_of_getElem? (i := 1336) (by decide +kernel), List.mem_of_getElem? (i := 1731) (by decide +kernel), List.mem_of_getElem? (i := 1732) (by decide +kernel)⟩
theorem lw_p76 : lw_okq (⟨"CloneVolumesModel", "asksSign", "(I)V"⟩, 116) := ⟨⟨by decide +kernel, by decide +kernel⟩, List.mem_of_getElem? (i := 1336) (by decide +kernel), List.mem_of_getElem? (i := 1741) (by decide +kernel), List.mem_of_getElem? (i := 1742) (by decide +kernel)⟩
theorem lw_p77 : lw_okq (⟨"CloneVolumesModel", "takesSign", "(I)Z"⟩, 116) := ⟨⟨by decide +kernel, by decide +kernel⟩, List.mem_of_getElem? (i := 1336) (by decide +kernel), List.mem_of_getElem? (i := 1745) (by decide +kernel), List.mem_of_getElem? (i := 1746) (by decide +kernel)⟩
theorem lw_p78 : lw_okq (⟨"CloneVolumesModel", "statementTold", "()V"⟩, 116) := ⟨⟨by decide +kernel, by decide +kernel⟩, List.mem_of_getElem? (i := 1336) (by decide +kernel), List.mem_of_getElem? (i := 1749) (by decide +kernel), List.mem_of_getElem? (i := 1750) (by decide +kernel)⟩
theorem lw_p79 : lw_okq (⟨"CloneVolumesModel", "volumeTold", "(ZI)V"⟩, 116) := ⟨⟨by decide +kernel, by decide +kernel⟩, List.mem_of_getElem? (i := 1336) (by decide +kernel), List.mem_of_getElem? (i := 1753) (by decide +kernel), List.mem_of_getElem? (i := 1754) (by decide +kernel)⟩
def lw_privs_5 : List (MethodName × Nat) := [(⟨"CloneVolumes$Picture", "loadBlock", "(LCloneVolumes$Tape;LCloneVolumes$State;II)Z"⟩, 6), (⟨"CloneVolumes$Picture", "isSound", "(LCloneVolumes$State;)Z"⟩, 6), (⟨"CloneVolumes$Picture", "isSoundBlock", "(LCloneVolumes$State;I)Z"⟩, 6), (⟨"CloneVolumes$Picture", "isSoundChild", "(LCloneVolumes$State;II)Z"⟩, 6), (⟨"CloneVolumes$Picture", "refsAre", "(LCloneVolumes$State;[I[I)Z"⟩, 6), (⟨"CloneVolumesModel", "storeTold", "()V"⟩, 116), (⟨"CloneVolumesModel", "asks", "([C)V"⟩, 116), (⟨"CloneVolumesModel", "takes", "([C)Z"⟩, 116), (⟨"CloneVolumesModel", "isHere", "([C)Z"⟩, 116), (⟨"CloneVolumesModel", "look", "()I"⟩, 116), (⟨"CloneVolumesModel", "fail", "(II)V"⟩, 116), (⟨"CloneVolumesModel", "number", "(II)I"⟩, 116), (⟨"CloneVolumesModel", "asksSign", "(I)V"⟩, 116), (⟨"CloneVolumesModel", "takesSign", "(I)Z"⟩, 116), (⟨"CloneVolumesModel", "statementTold", "()V"⟩, 116), (⟨"CloneVolumesModel", "volumeTold", "(ZI)V"⟩, 116)]
theorem lw_r5 : ∀ q ∈ lw_privs_5, lw_okq q := List.forall_mem_cons.mpr ⟨lw_p64, List.forall_mem_cons.mpr ⟨lw_p65, List.forall_mem_cons.mpr ⟨lw_p66, List.forall_mem_cons.mpr ⟨lw_p67, List.forall_mem_cons.mpr ⟨lw_p68, List.forall_mem_cons.mpr ⟨lw_p69, List.forall_mem_cons.mpr ⟨lw_p70, List.forall_mem_cons.mpr ⟨lw_p71, List.forall_mem_cons.mpr ⟨lw_p72, List.forall_mem_cons.mpr ⟨lw_p73, List.forall_mem_cons.mpr ⟨lw_p74, List.forall_mem_cons.mpr ⟨lw_p75, List.forall_mem_cons.mpr ⟨lw_p76, List.forall_mem_cons.mpr ⟨lw_p77, List.forall_mem_cons.mpr ⟨lw_p78, List.forall_mem_cons.mpr ⟨lw_p79, fun _ h => absurd h List.not_mem_nil⟩⟩⟩⟩⟩⟩⟩⟩⟩⟩⟩⟩⟩⟩⟩⟩
theorem lw_p80 : lw_okq (⟨"CloneVolumesModel", "newName", "()J"⟩, 116) := ⟨⟨by decide +kernel, by decide +kernel⟩, List.mem_of_getElem? (i := 1336) (by decide +kernel), List.mem_of_getElem? (i := 1757) (by decide +kernel), List.mem_of_getElem? (i := 1758) (by decide +kernel)⟩
theorem lw_p81 : lw_okq (⟨"CloneVolumesModel", "name", "()J"⟩, 116) := ⟨⟨by decide +kernel, by decide +kernel⟩, List.mem_of_getElem? (i := 1336) (by decide +kernel), List.mem_of_getElem? (i := 1761) (by decide +kernel), List.mem_of_getElem? (i := 1762) (by decide +kernel)⟩
theorem lw_p82 : lw_okq (⟨"CloneVolumesModel", "isOwnHere", "()Z"⟩, 116) := ⟨⟨by decide +kernel, by decide +kernel⟩, List.mem_of_getElem? (i := 1336) (by decide +kernel), List.mem_of_getElem? (i := 1765) (by decide +kernel), List.mem_of_getElem? (i := 1766) (by decide +kernel)⟩
theorem lw_p83 : lw_okq (⟨"CloneVolumesModel", "volumeNamed", "()I"⟩, 116) := ⟨⟨by decide +kernel, by decide +kernel⟩, List.mem_of_getElem? (i := 1336) (by decide +kernel), List.mem_of_getElem? (i := 1771) (by decide +kernel), List.mem_of_getElem? (i := 1772) (by decide +kernel)⟩
theorem lw_p84 : lw_okq (⟨"CloneVolumesModel", "actTold", "(IIII)V"⟩, 116) := ⟨⟨by decide +kernel, by decide +kernel⟩, List.mem_of_getElem? (i := 1336) (by decide +kernel), List.mem_of_getElem? (i := 1775) (by decide +kernel), List.mem_of_getElem? (i := 1776) (by decide +kernel)⟩
theorem lw_p85 : lw_okq (⟨"CloneVolumesModel", "putTold", "()V"⟩, 116) := ⟨⟨by decide +kernel, by decide +kernel⟩, List.mem_of_getElem? (i := 1336) (by decide +kernel), List.mem_of_getElem? (i := 1779) (by decide +kernel), List.mem_of_getElem? (i := 1780) (by decide +kernel)⟩
theorem lw_p86 : lw_okq (⟨"CloneVolumesModel", "removeTold", "()V"⟩, 116) := ⟨⟨by decide +kernel, by decide +kernel⟩, List.mem_of_getElem? (i := 1336) (by decide +kernel), List.mem_of_getElem? (i := 1783) (by decide +kernel), List.mem_of_getElem? (i := 1784) (by decide +kernel)⟩
theorem lw_p87 : lw_okq (⟨"CloneVolumesModel", "codesTold", "(II)V"⟩, 116) := ⟨⟨by decide +kernel, by decide +kernel⟩, List.mem_of_getElem? (i := 1336) (by decide +kernel), List.mem_of_getElem? (i := 1787) (by decide +kernel), List.mem_of_getElem? (i := 1788) (by decide +kernel)⟩
theorem lw_p88 : lw_okq (⟨"CloneVolumesModel", "qTest", "()V"⟩, 116) := ⟨⟨by decide +kernel, by decide +kernel⟩, List.mem_of_getElem? (i := 1336) (by decide +kernel), List.mem_of_getElem? (i := 1791) (by decide +kernel), List.mem_of_getElem? (i := 1792) (by decide +kernel)⟩
theorem lw_p89 : lw_okq (⟨"CloneVolumesModel", "qOpens", "(II)V"⟩, 116) := ⟨⟨by decide +kernel, by decide +kernel⟩, List.mem_of_getElem? (i := 1336) (by decide +kernel), List.mem_of_getElem? (i := 1795) (by decide +kernel), List.mem_of_getElem? (i := 1796) (by decide +kernel)⟩
theorem lw_p90 : lw_okq (⟨"CloneVolumesModel", "qFact", "()V"⟩, 116) := ⟨⟨by decide +kernel, by decide +kernel⟩, List.mem_of_getElem? (i := 1336) (by decide +kernel), List.mem_of_getElem? (i := 1799) (by decide +kernel), List.mem_of_getElem? (i := 1800) (by decide +kernel)⟩
theorem lw_p91 : lw_okq (⟨"CloneVolumesModel", "qCode", "(I)V"⟩, 116) := ⟨⟨by decide +kernel, by decide +kernel⟩, List.mem_of_getElem? (i := 1336) (by decide +kernel), List.mem_of_getElem? (i := 1803) (by decide +kernel), List.mem_of_getElem? (i := 1804) (by decide +kernel)⟩
theorem lw_p92 : lw_okq (⟨"CloneVolumesModel", "qSums", "()V"⟩, 116) := ⟨⟨by decide +kernel, by decide +kernel⟩, List.mem_of_getElem? (i := 1336) (by decide +kernel), List.mem_of_getElem? (i := 1807) (by decide +kernel), List.mem_of_getElem? (i := 1808) (by decide +kernel)⟩
theorem lw_p93 : lw_okq (⟨"CloneVolumesModel", "qPartTold", "()V"⟩, 116) := ⟨⟨by decide +kernel, by decide +kernel⟩, List.mem_of_getElem? (i := 1336) (by decide +kernel), List.mem_of_getElem? (i := 1811) (by decide +kernel), List.mem_of_getElem? (i := 1812) (by decide +kernel)⟩
theorem lw_p94 : lw_okq (⟨"CloneVolumesModel", "qWordOf", "(II)I"⟩, 116) := ⟨⟨by decide +kernel, by decide +kernel⟩, List.mem_of_getElem? (i := 1336) (by decide +kernel), List.mem_of_getElem? (i := 1815) (by decide +kernel), List.mem_of_getElem? (i := 1816) (by decide +kernel)⟩
theorem lw_p95 : lw_okq (⟨"CloneVolumesModel", "qWordHere", "()I"⟩, 116) := ⟨⟨by decide +kernel, by decide +kernel⟩, List.mem_of_getElem? (i := 1336) (by decide +kernel), List.mem_of_getElem? (i := 1819) (by decide +kernel), List.mem_of_getElem? (i := 1820) (by decide +kernel)⟩
def lw_privs_6 : List (MethodName × Nat) := [(⟨"CloneVolumesModel", "newName", "()J"⟩, 116), (⟨"CloneVolumesModel", "name", "()J"⟩, 116), (⟨"CloneVolumesModel", "isOwnHere", "()Z"⟩, 116), (⟨"CloneVolumesModel", "volumeNamed", "()I"⟩, 116), (⟨"CloneVolumesModel", "actTold", "(IIII)V"⟩, 116), (⟨"CloneVolumesModel", "putTold", "()V"⟩, 116), (⟨"CloneVolumesModel", "removeTold", "()V"⟩, 116), (⟨"CloneVolumesModel", "codesTold", "(II)V"⟩, 116), (⟨"CloneVolumesModel", "qTest", "()V"⟩, 116), (⟨"CloneVolumesModel", "qOpens", "(II)V"⟩, 116), (⟨"CloneVolumesModel", "qFact", "()V"⟩, 116), (⟨"CloneVolumesModel", "qCode", "(I)V"⟩, 116), (⟨"CloneVolumesModel", "qSums", "()V"⟩, 116), (⟨"CloneVolumesModel", "qPartTold", "()V"⟩, 116), (⟨"CloneVolumesModel", "qWordOf", "(II)I"⟩, 116), (⟨"CloneVolumesModel", "qWordHere", "()I"⟩, 116)]
theorem lw_r6 : ∀ q ∈ lw_privs_6, lw_okq q := List.forall_mem_cons.mpr ⟨lw_p80, List.forall_mem_cons.mpr ⟨lw_p81, List.forall_mem_cons.mpr ⟨lw_p82, List.forall_mem_cons.mpr ⟨lw_p83, List.forall_mem_cons.mpr ⟨lw_p84, List.forall_mem_cons.mpr ⟨lw_p85, List.forall_mem_cons.mpr ⟨lw_p86, List.forall_mem_cons.mpr ⟨lw_p87, List.forall_mem_cons.mpr ⟨lw_p88, List.forall_mem_cons.mpr ⟨lw_p89, List.forall_mem_cons.mpr ⟨lw_p90, List.forall_mem_cons.mpr ⟨lw_p91, List.forall_mem_cons.mpr ⟨lw_p92, List.forall_mem_cons.mpr ⟨lw_p93, List.forall_mem_cons.mpr ⟨lw_p94, List.forall_mem_cons.mpr ⟨lw_p95, fun _ h => absurd h List.not_mem_nil⟩⟩⟩⟩⟩⟩⟩⟩⟩⟩⟩⟩⟩⟩⟩⟩
theorem lw_p96 : lw_okq (⟨"CloneVolumesModel", "isAllowed", "(I)Z"⟩, 116) := ⟨⟨by decide +kernel, by decide +kernel⟩, List.mem_of_getElem? (i := 1336) (by decide +kernel), List.mem_of_getElem? (i := 1823) (by decide +kernel), List.mem_of_getElem? (i := 1824) (by decide +kernel)⟩
theorem lw_p97 : lw_okq (⟨"CloneVolumesModel", "qAsksWord", "(I)V"⟩, 116) := ⟨⟨by decide +kernel, by decide +kernel⟩, List.mem_of_getElem? (i := 1336) (by decide +kernel), List.mem_of_getElem? (i := 1827) (by decide +kernel), List.mem_of_getElem? (i := 1828) (by decide +kernel)⟩
theorem lw_p98 : lw_okq (⟨"CloneVolumesModel", "qEndsPart", "()V"⟩, 116) := ⟨⟨by decide +kernel, by decide +kernel⟩, List.mem_of_getElem? (i := 1336) (by decide +kernel), List.mem_of_getElem? (i := 1831) (by decide +kernel), List.mem_of_getElem? (i := 1832) (by decide +kernel)⟩
theorem lw_p99 : lw_okq (⟨"CloneVolumesModel", "qDrops", "()V"⟩, 116) := ⟨⟨by decide +kernel, by decide +kernel⟩, List.mem_of_getElem? (i := 1336) (by decide +kernel), List.mem_of_getElem? (i := 1835) (by decide +kernel), List.mem_of_getElem? (i := 1836) (by decide +kernel)⟩
theorem lw_p100 : lw_okq (⟨"CloneVolumesModel", "qGoesOn", "()Z"⟩, 116) := ⟨⟨by decide +kernel, by decide +kernel⟩, List.mem_of_getElem? (i := 1336) (by decide +kernel), List.mem_of_getElem? (i := 1839) (by decide +kernel), List.mem_of_getElem? (i := 1840) (by decide +kernel)⟩
theorem lw_p101 : lw_okq (⟨"CloneVolumesModel", "qBracket", "()I"⟩, 116) := ⟨⟨by decide +kernel, by decide +kernel⟩, List.mem_of_getElem? (i := 1336) (by decide +kernel), List.mem_of_getElem? (i := 1843) (by decide +kernel), List.mem_of_getElem? (i := 1844) (by decide +kernel)⟩
theorem lw_p102 : lw_okq (⟨"CloneVolumesModel", "qDropsToBracket", "()V"⟩, 116) := ⟨⟨by decide +kernel, by decide +kernel⟩, List.mem_of_getElem? (i := 1336) (by decide +kernel), List.mem_of_getElem? (i := 1850) (by decide +kernel), List.mem_of_getElem? (i := 1851) (by decide +kernel)⟩
theorem lw_p103 : lw_okq (⟨"CloneVolumesModel", "qIsOn", "(I)Z"⟩, 116) := ⟨⟨by decide +kernel, by decide +kernel⟩, List.mem_of_getElem? (i := 1336) (by decide +kernel), List.mem_of_getElem? (i := 1854) (by decide +kernel), List.mem_of_getElem? (i := 1855) (by decide +kernel)⟩
theorem lw_p104 : lw_okq (⟨"CloneVolumesModel", "qDropsNots", "()V"⟩, 116) := ⟨⟨by decide +kernel, by decide +kernel⟩, List.mem_of_getElem? (i := 1336) (by decide +kernel), List.mem_of_getElem? (i := 1858) (by decide +kernel), List.mem_of_getElem? (i := 1859) (by decide +kernel)⟩
theorem lw_p105 : lw_okq (⟨"CloneVolumesModel", "qGoesOnTest", "()Z"⟩, 116) := ⟨⟨by decide +kernel, by decide +kernel⟩, List.mem_of_getElem? (i := 1336) (by decide +kernel), List.mem_of_getElem? (i := 1862) (by decide +kernel), List.mem_of_getElem? (i := 1863) (by decide +kernel)⟩
theorem lw_p106 : lw_okq (⟨"CloneVolumesModel", "qHasSquare", "()Z"⟩, 116) := ⟨⟨by decide +kernel, by decide +kernel⟩, List.mem_of_getElem? (i := 1336) (by decide +kernel), List.mem_of_getElem? (i := 1866) (by decide +kernel), List.mem_of_getElem? (i := 1867) (by decide +kernel)⟩
theorem lw_p107 : lw_okq (⟨"CloneVolumesModel", "refuses", "(I)I"⟩, 116) := ⟨⟨by decide +kernel, by decide +kernel⟩, List.mem_of_getElem? (i := 1336) (by decide +kernel), List.mem_of_getElem? (i := 1870) (by decide +kernel), List.mem_of_getElem? (i := 1871) (by decide +kernel)⟩
theorem lw_p108 : lw_okq (⟨"CloneVolumesModel", "stands", "()V"⟩, 116) := ⟨⟨by decide +kernel, by decide +kernel⟩, List.mem_of_getElem? (i := 1336) (by decide +kernel), List.mem_of_getElem? (i := 1874) (by decide +kernel), List.mem_of_getElem? (i := 1875) (by decide +kernel)⟩
theorem lw_p109 : lw_okq (⟨"CloneVolumesModel", "actGoes", "(IIII)V"⟩, 116) := ⟨⟨by decide +kernel, by decide +kernel⟩, List.mem_of_getElem? (i := 1336) (by decide +kernel), List.mem_of_getElem? (i := 1878) (by decide +kernel), List.mem_of_getElem? (i := 1879) (by decide +kernel)⟩
theorem lw_p110 : lw_okq (⟨"CloneVolumesModel", "copies", "(II)V"⟩, 116) := ⟨⟨by decide +kernel, by decide +kernel⟩, List.mem_of_getElem? (i := 1336) (by decide +kernel), List.mem_of_getElem? (i := 1882) (by decide +kernel), List.mem_of_getElem? (i := 1883) (by decide +kernel)⟩
theorem lw_p111 : lw_okq (⟨"CloneVolumesModel", "counts", "(II)V"⟩, 116) := ⟨⟨by decide +kernel, by decide +kernel⟩, List.mem_of_getElem? (i := 1336) (by decide +kernel), List.mem_of_getElem? (i := 1886) (by decide +kernel), List.mem_of_getElem? (i := 1887) (by decide +kernel)⟩
def lw_privs_7 : List (MethodName × Nat) := [(⟨"CloneVolumesModel", "isAllowed", "(I)Z"⟩, 116), (⟨"CloneVolumesModel", "qAsksWord", "(I)V"⟩, 116), (⟨"CloneVolumesModel", "qEndsPart", "()V"⟩, 116), (⟨"CloneVolumesModel", "qDrops", "()V"⟩, 116), (⟨"CloneVolumesModel", "qGoesOn", "()Z"⟩, 116), (⟨"CloneVolumesModel", "qBracket", "()I"⟩, 116), (⟨"CloneVolumesModel", "qDropsToBracket", "()V"⟩, 116), (⟨"CloneVolumesModel", "qIsOn", "(I)Z"⟩, 116), (⟨"CloneVolumesModel", "qDropsNots", "()V"⟩, 116), (⟨"CloneVolumesModel", "qGoesOnTest", "()Z"⟩, 116), (⟨"CloneVolumesModel", "qHasSquare", "()Z"⟩, 116), (⟨"CloneVolumesModel", "refuses", "(I)I"⟩, 116), (⟨"CloneVolumesModel", "stands", "()V"⟩, 116), (⟨"CloneVolumesModel", "actGoes", "(IIII)V"⟩, 116), (⟨"CloneVolumesModel", "copies", "(II)V"⟩, 116), (⟨"CloneVolumesModel", "counts", "(II)V"⟩, 116)]
theorem lw_r7 : ∀ q ∈ lw_privs_7, lw_okq q := List.forall_mem_cons.mpr ⟨lw_p96, List.forall_mem_cons.mpr ⟨lw_p97, List.forall_mem_cons.mpr ⟨lw_p98, List.forall_mem_cons.mpr ⟨lw_p99, List.forall_mem_cons.mpr ⟨lw_p100, List.forall_mem_cons.mpr ⟨lw_p101, List.forall_mem_cons.mpr ⟨lw_p102, List.forall_mem_cons.mpr ⟨lw_p103, List.forall_mem_cons.mpr ⟨lw_p104, List.forall_mem_cons.mpr ⟨lw_p105, List.forall_mem_cons.mpr ⟨lw_p106, List.forall_mem_cons.mpr ⟨lw_p107, List.forall_mem_cons.mpr ⟨lw_p108, List.forall_mem_cons.mpr ⟨lw_p109, List.forall_mem_cons.mpr ⟨lw_p110, List.forall_mem_cons.mpr ⟨lw_p111, fun _ h => absurd h List.not_mem_nil⟩⟩⟩⟩⟩⟩⟩⟩⟩⟩⟩⟩⟩⟩⟩⟩
theorem lw_p112 : lw_okq (⟨"CloneVolumesModel", "tries", "(IIII)Z"⟩, 116) := ⟨⟨by decide +kernel, by decide +kernel⟩, List.mem_of_getElem? (i := 1336) (by decide +kernel), List.mem_of_getElem? (i := 1890) (by decide +kernel), List.mem_of_getElem? (i := 1891) (by decide +kernel)⟩
theorem lw_p113 : lw_okq (⟨"CloneVolumesModel", "valueOf", "(II)I"⟩, 116) := ⟨⟨by decide +kernel, by decide +kernel⟩, List.mem_of_getElem? (i := 1336) (by decide +kernel), List.mem_of_getElem? (i := 1894) (by decide +kernel), List.mem_of_getElem? (i := 1895) (by decide +kernel)⟩
theorem lw_p114 : lw_okq (⟨"CloneVolumesModel", "valueFrom", "(II)I"⟩, 116) := ⟨⟨by decide +kernel, by decide +kernel⟩, List.mem_of_getElem? (i := 1336) (by decide +kernel), List.mem_of_getElem? (i := 1898) (by decide +kernel), List.mem_of_getElem? (i := 1899) (by decide +kernel)⟩
theorem lw_p115 : lw_okq (⟨"CloneVolumesModel", "levelOf", "(I)I"⟩, 116) := ⟨⟨by decide +kernel, by decide +kernel⟩, List.mem_of_getElem? (i := 1336) (by decide +kernel), List.mem_of_getElem? (i := 1902) (by decide +kernel), List.mem_of_getElem? (i := 1903) (by decide +kernel)⟩
theorem lw_p116 : lw_okq (⟨"CloneVolumesModel", "placeFor", "(II)I"⟩, 116) := ⟨⟨by decide +kernel, by decide +kernel⟩, List.mem_of_getElem? (i := 1336) (by decide +kernel), List.mem_of_getElem? (i := 1906) (by decide +kernel), List.mem_of_getElem? (i := 1907) (by decide +kernel)⟩
theorem lw_p117 : lw_okq (⟨"CloneVolumesModel", "entriesOf", "(I)I"⟩, 116) := ⟨⟨by decide +kernel, by decide +kernel⟩, List.mem_of_getElem? (i := 1336) (by decide +kernel), List.mem_of_getElem? (i := 1910) (by decide +kernel), List.mem_of_getElem? (i := 1911) (by decide +kernel)⟩
theorem lw_p118 : lw_okq (⟨"CloneVolumesModel", "keyAt", "(II)I"⟩, 116) := ⟨⟨by decide +kernel, by decide +kernel⟩, List.mem_of_getElem? (i := 1336) (by decide +kernel), List.mem_of_getElem? (i := 1914) (by decide +kernel), List.mem_of_getElem? (i := 1915) (by decide +kernel)⟩
theorem lw_p119 : lw_okq (⟨"CloneVolumesModel", "valueAt", "(II)I"⟩, 116) := ⟨⟨by decide +kernel, by decide +kernel⟩, List.mem_of_getElem? (i := 1336) (by decide +kernel), List.mem_of_getElem? (i := 1918) (by decide +kernel), List.mem_of_getElem? (i := 1919) (by decide +kernel)⟩
theorem lw_p120 : lw_okq (⟨"CloneVolumesModel", "placeIn", "(II)I"⟩, 116) := ⟨⟨by decide +kernel, by decide +kernel⟩, List.mem_of_getElem? (i := 1336) (by decide +kernel), List.mem_of_getElem? (i := 1922) (by decide +kernel), List.mem_of_getElem? (i := 1923) (by decide +kernel)⟩
theorem lw_p121 : lw_okq (⟨"CloneVolumesModel", "puts", "(III)V"⟩, 116) := ⟨⟨by decide +kernel, by decide +kernel⟩, List.mem_of_getElem? (i := 1336) (by decide +kernel), List.mem_of_getElem? (i := 1926) (by decide +kernel), List.mem_of_getElem? (i := 1927) (by decide +kernel)⟩
theorem lw_p122 : lw_okq (⟨"CloneVolumesModel", "taken", "(II)I"⟩, 116) := ⟨⟨by decide +kernel, by decide +kernel⟩, List.mem_of_getElem? (i := 1336) (by decide +kernel), List.mem_of_getElem? (i := 1930) (by decide +kernel), List.mem_of_getElem? (i := 1931) (by decide +kernel)⟩
theorem lw_p123 : lw_okq (⟨"CloneVolumesModel", "blockMany", "()I"⟩, 116) := ⟨⟨by decide +kernel, by decide +kernel⟩, List.mem_of_getElem? (i := 1336) (by decide +kernel), List.mem_of_getElem? (i := 1934) (by decide +kernel), List.mem_of_getElem? (i := 1935) (by decide +kernel)⟩
theorem lw_p124 : lw_okq (⟨"CloneVolumesModel", "isThere", "(I)Z"⟩, 116) := ⟨⟨by decide +kernel, by decide +kernel⟩, List.mem_of_getElem? (i := 1336) (by decide +kernel), List.mem_of_getElem? (i := 1938) (by decide +kernel), List.mem_of_getElem? (i := 1939) (by decide +kernel)⟩
theorem lw_p125 : lw_okq (⟨"CloneVolumesModel", "isUsed", "(I)Z"⟩, 116) := ⟨⟨by decide +kernel, by decide +kernel⟩, List.mem_of_getElem? (i := 1336) (by decide +kernel), List.mem_of_getElem? (i := 1942) (by decide +kernel), List.mem_of_getElem? (i := 1943) (by decide +kernel)⟩
theorem lw_p126 : lw_okq (⟨"CloneVolumesModel", "countOf", "(I)I"⟩, 116) := ⟨⟨by decide +kernel, by decide +kernel⟩, List.mem_of_getElem? (i := 1336) (by decide +kernel), List.mem_of_getElem? (i := 1946) (by decide +kernel), List.mem_of_getElem? (i := 1947) (by decide +kernel)⟩
theorem lw_p127 : lw_okq (⟨"CloneVolumesModel", "savedOf", "(I)I"⟩, 116) := ⟨⟨by decide +kernel, by decide +kernel⟩, List.mem_of_getElem? (i := 1336) (by decide +kernel), List.mem_of_getElem? (i := 1950) (by decide +kernel), List.mem_of_getElem? (i := 1951) (by decide +kernel)⟩
def lw_privs_8 : List (MethodName × Nat) := [(⟨"CloneVolumesModel", "tries", "(IIII)Z"⟩, 116), (⟨"CloneVolumesModel", "valueOf", "(II)I"⟩, 116), (⟨"CloneVolumesModel", "valueFrom", "(II)I"⟩, 116), (⟨"CloneVolumesModel", "levelOf", "(I)I"⟩, 116), (⟨"CloneVolumesModel", "placeFor", "(II)I"⟩, 116), (⟨"CloneVolumesModel", "entriesOf", "(I)I"⟩, 116), (⟨"CloneVolumesModel", "keyAt", "(II)I"⟩, 116), (⟨"CloneVolumesModel", "valueAt", "(II)I"⟩, 116), (⟨"CloneVolumesModel", "placeIn", "(II)I"⟩, 116), (⟨"CloneVolumesModel", "puts", "(III)V"⟩, 116), (⟨"CloneVolumesModel", "taken", "(II)I"⟩, 116), (⟨"CloneVolumesModel", "blockMany", "()I"⟩, 116), (⟨"CloneVolumesModel", "isThere", "(I)Z"⟩, 116), (⟨"CloneVolumesModel", "isUsed", "(I)Z"⟩, 116), (⟨"CloneVolumesModel", "countOf", "(I)I"⟩, 116), (⟨"CloneVolumesModel", "savedOf", "(I)I"⟩, 116)]
theorem lw_r8 : ∀ q ∈ lw_privs_8, lw_okq q := List.forall_mem_cons.mpr ⟨lw_p112, List.forall_mem_cons.mpr ⟨lw_p113, List.forall_mem_cons.mpr ⟨lw_p114, List.forall_mem_cons.mpr ⟨lw_p115, List.forall_mem_cons.mpr ⟨lw_p116, List.forall_mem_cons.mpr ⟨lw_p117, List.forall_mem_cons.mpr ⟨lw_p118, List.forall_mem_cons.mpr ⟨lw_p119, List.forall_mem_cons.mpr ⟨lw_p120, List.forall_mem_cons.mpr ⟨lw_p121, List.forall_mem_cons.mpr ⟨lw_p122, List.forall_mem_cons.mpr ⟨lw_p123, List.forall_mem_cons.mpr ⟨lw_p124, List.forall_mem_cons.mpr ⟨lw_p125, List.forall_mem_cons.mpr ⟨lw_p126, List.forall_mem_cons.mpr ⟨lw_p127, fun _ h => absurd h List.not_mem_nil⟩⟩⟩⟩⟩⟩⟩⟩⟩⟩⟩⟩⟩⟩⟩⟩
theorem lw_p128 : lw_okq (⟨"CloneVolumesModel", "isCoded", "(I)Z"⟩, 116) := ⟨⟨by decide +kernel, by decide +kernel⟩, List.mem_of_getElem? (i := 1336) (by decide +kernel), List.mem_of_getElem? (i := 1954) (by decide +kernel), List.mem_of_getElem? (i := 1955) (by decide +kernel)⟩
theorem lw_p129 : lw_okq (⟨"CloneVolumesModel", "codesTell", "(I)J"⟩, 116) := ⟨⟨by decide +kernel, by decide +kernel⟩, List.mem_of_getElem? (i := 1336) (by decide +kernel), List.mem_of_getElem? (i := 1958) (by decide +kernel), List.mem_of_getElem? (i := 1959) (by decide +kernel)⟩
theorem lw_p130 : lw_okq (⟨"CloneVolumesModel", "qPuts", "(J)V"⟩, 116) := ⟨⟨by decide +kernel, by decide +kernel⟩, List.mem_of_getElem? (i := 1336) (by decide +kernel), List.mem_of_getElem? (i := 1962) (by decide +kernel), List.mem_of_getElem? (i := 1963) (by decide +kernel)⟩
theorem lw_p131 : lw_okq (⟨"CloneVolumesModel", "qPartOf", "(II)J"⟩, 116) := ⟨⟨by decide +kernel, by decide +kernel⟩, List.mem_of_getElem? (i := 1336) (by decide +kernel), List.mem_of_getElem? (i := 1966) (by decide +kernel), List.mem_of_getElem? (i := 1967) (by decide +kernel)⟩
theorem lw_p132 : lw_okq (⟨"CloneVolumesModel", "isFresh", "(I)Z"⟩, 116) := ⟨⟨by decide +kernel, by decide +kernel⟩, List.mem_of_getElem? (i := 1336) (by decide +kernel), List.mem_of_getElem? (i := 1970) (by decide +kernel), List.mem_of_getElem? (i := 1971) (by decide +kernel)⟩
theorem lw_p133 : lw_okq (⟨"CloneVolumesModel", "qJoins", "(I)V"⟩, 116) := ⟨⟨by decide +kernel, by decide +kernel⟩, List.mem_of_getElem? (i := 1336) (by decide +kernel), List.mem_of_getElem? (i := 1974) (by decide +kernel), List.mem_of_getElem? (i := 1975) (by decide +kernel)⟩
theorem lw_p134 : lw_okq (⟨"CloneVolumesModel", "inserts", "(IIII)V"⟩, 116) := ⟨⟨by decide +kernel, by decide +kernel⟩, List.mem_of_getElem? (i := 1336) (by decide +kernel), List.mem_of_getElem? (i := 1986) (by decide +kernel), List.mem_of_getElem? (i := 1987) (by decide +kernel)⟩
theorem lw_p135 : lw_okq (⟨"CloneVolumesModel", "setsEntry", "(IIII)V"⟩, 116) := ⟨⟨by decide +kernel, by decide +kernel⟩, List.mem_of_getElem? (i := 1336) (by decide +kernel), List.mem_of_getElem? (i := 1990) (by decide +kernel), List.mem_of_getElem? (i := 1991) (by decide +kernel)⟩
theorem lw_p136 : lw_okq (⟨"CloneVolumesModel", "owned", "(I)I"⟩, 116) := ⟨⟨by decide +kernel, by decide +kernel⟩, List.mem_of_getElem? (i := 1336) (by decide +kernel), List.mem_of_getElem? (i := 1994) (by decide +kernel), List.mem_of_getElem? (i := 1995) (by decide +kernel)⟩
theorem lw_p137 : lw_okq (⟨"CloneVolumesModel", "falls", "(I)V"⟩, 116) := ⟨⟨by decide +kernel, by decide +kernel⟩, List.mem_of_getElem? (i := 1336) (by decide +kernel), List.mem_of_getElem? (i := 1998) (by decide +kernel), List.mem_of_getElem? (i := 1999) (by decide +kernel)⟩
theorem lw_p138 : lw_okq (⟨"CloneVolumesModel", "doesSplit", "(I)Z"⟩, 116) := ⟨⟨by decide +kernel, by decide +kernel⟩, List.mem_of_getElem? (i := 1336) (by decide +kernel), List.mem_of_getElem? (i := 2002) (by decide +kernel), List.mem_of_getElem? (i := 2003) (by decide +kernel)⟩
theorem lw_p139 : lw_okq (⟨"CloneVolumesModel", "roomOf", "()I"⟩, 116) := ⟨⟨by decide +kernel, by decide +kernel⟩, List.mem_of_getElem? (i := 1336) (by decide +kernel), List.mem_of_getElem? (i := 2006) (by decide +kernel), List.mem_of_getElem? (i := 2007) (by decide +kernel)⟩
theorem lw_p140 : lw_okq (⟨"CloneVolumesModel", "rootSplit", "(III)I"⟩, 116) := ⟨⟨by decide +kernel, by decide +kernel⟩, List.mem_of_getElem? (i := 1336) (by decide +kernel), List.mem_of_getElem? (i := 2010) (by decide +kernel), List.mem_of_getElem? (i := 2011) (by decide +kernel)⟩
theorem lw_p141 : lw_okq (⟨"CloneVolumesModel", "half", "(IIII)I"⟩, 116) := ⟨⟨by decide +kernel, by decide +kernel⟩, List.mem_of_getElem? (i := 1336) (by decide +kernel), List.mem_of_getElem? (i := 2014) (by decide +kernel), List.mem_of_getElem? (i := 2015) (by decide +kernel)⟩
theorem lw_p142 : lw_okq (⟨"CloneVolumesModel", "putsIn", "(III)V"⟩, 116) := ⟨⟨by decide +kernel, by decide +kernel⟩, List.mem_of_getElem? (i := 1336) (by decide +kernel), List.mem_of_getElem? (i := 2018) (by decide +kernel), List.mem_of_getElem? (i := 2019) (by decide +kernel)⟩
theorem lw_p143 : lw_okq (⟨"CloneVolumesModel", "removes", "(II)V"⟩, 116) := ⟨⟨by decide +kernel, by decide +kernel⟩, List.mem_of_getElem? (i := 1336) (by decide +kernel), List.mem_of_getElem? (i := 2022) (by decide +kernel), List.mem_of_getElem? (i := 2023) (by decide +kernel)⟩
def lw_privs_9 : List (MethodName × Nat) := [(⟨"CloneVolumesModel", "isCoded", "(I)Z"⟩, 116), (⟨"CloneVolumesModel", "codesTell", "(I)J"⟩, 116), (⟨"CloneVolumesModel", "qPuts", "(J)V"⟩, 116), (⟨"CloneVolumesModel", "qPartOf", "(II)J"⟩, 116), (⟨"CloneVolumesModel", "isFresh", "(I)Z"⟩, 116), (⟨"CloneVolumesModel", "qJoins", "(I)V"⟩, 116), (⟨"CloneVolumesModel", "inserts", "(IIII)V"⟩, 116), (⟨"CloneVolumesModel", "setsEntry", "(IIII)V"⟩, 116), (⟨"CloneVolumesModel", "owned", "(I)I"⟩, 116), (⟨"CloneVolumesModel", "falls", "(I)V"⟩, 116), (⟨"CloneVolumesModel", "doesSplit", "(I)Z"⟩, 116), (⟨"CloneVolumesModel", "roomOf", "()I"⟩, 116), (⟨"CloneVolumesModel", "rootSplit", "(III)I"⟩, 116), (⟨"CloneVolumesModel", "half", "(IIII)I"⟩, 116), (⟨"CloneVolumesModel", "putsIn", "(III)V"⟩, 116), (⟨"CloneVolumesModel", "removes", "(II)V"⟩, 116)]
theorem lw_r9 : ∀ q ∈ lw_privs_9, lw_okq q := List.forall_mem_cons.mpr ⟨lw_p128, List.forall_mem_cons.mpr ⟨lw_p129, List.forall_mem_cons.mpr ⟨lw_p130, List.forall_mem_cons.mpr ⟨lw_p131, List.forall_mem_cons.mpr ⟨lw_p132, List.forall_mem_cons.mpr ⟨lw_p133, List.forall_mem_cons.mpr ⟨lw_p134, List.forall_mem_cons.mpr ⟨lw_p135, List.forall_mem_cons.mpr ⟨lw_p136, List.forall_mem_cons.mpr ⟨lw_p137, List.forall_mem_cons.mpr ⟨lw_p138, List.forall_mem_cons.mpr ⟨lw_p139, List.forall_mem_cons.mpr ⟨lw_p140, List.forall_mem_cons.mpr ⟨lw_p141, List.forall_mem_cons.mpr ⟨lw_p142, List.forall_mem_cons.mpr ⟨lw_p143, fun _ h => absurd h List.not_mem_nil⟩⟩⟩⟩⟩⟩⟩⟩⟩⟩⟩⟩⟩⟩⟩⟩
theorem lw_p144 : lw_okq (⟨"CloneVolumesModel", "cutsEntry", "(II)V"⟩, 116) := ⟨⟨by decide +kernel, by decide +kernel⟩, List.mem_of_getElem? (i := 1336) (by decide +kernel), List.mem_of_getElem? (i := 2026) (by decide +kernel), List.mem_of_getElem? (i := 2027) (by decide +kernel)⟩
theorem lw_p145 : lw_okq (⟨"CloneVolumesModel", "lowers", "(I)V"⟩, 116) := ⟨⟨by decide +kernel, by decide +kernel⟩, List.mem_of_getElem? (i := 1336) (by decide +kernel), List.mem_of_getElem? (i := 2030) (by decide +kernel), List.mem_of_getElem? (i := 2031) (by decide +kernel)⟩
theorem lw_p146 : lw_okq (⟨"CloneVolumesModel", "checks", "()V"⟩, 116) := ⟨⟨by decide +kernel, by decide +kernel⟩, List.mem_of_getElem? (i := 1336) (by decide +kernel), List.mem_of_getElem? (i := 2034) (by decide +kernel), List.mem_of_getElem? (i := 2035) (by decide +kernel)⟩
theorem lw_p147 : lw_okq (⟨"CloneVolumesModel", "volumeMany", "()I"⟩, 116) := ⟨⟨by decide +kernel, by decide +kernel⟩, List.mem_of_getElem? (i := 1336) (by decide +kernel), List.mem_of_getElem? (i := 2046) (by decide +kernel), List.mem_of_getElem? (i := 2047) (by decide +kernel)⟩
theorem lw_p148 : lw_okq (⟨"CloneVolumesModel", "isVolume", "(J)Z"⟩, 116) := ⟨⟨by decide +kernel, by decide +kernel⟩, List.mem_of_getElem? (i := 1336) (by decide +kernel), List.mem_of_getElem? (i := 2050) (by decide +kernel), List.mem_of_getElem? (i := 2051) (by decide +kernel)⟩
theorem lw_p149 : lw_okq (⟨"CloneVolumesModel", "usedMany", "()I"⟩, 116) := ⟨⟨by decide +kernel, by decide +kernel⟩, List.mem_of_getElem? (i := 1336) (by decide +kernel), List.mem_of_getElem? (i := 2055) (by decide +kernel), List.mem_of_getElem? (i := 2056) (by decide +kernel)⟩
theorem lw_p150 : lw_okq (⟨"CloneVolumesModel", "heldMany", "()I"⟩, 116) := ⟨⟨by decide +kernel, by decide +kernel⟩, List.mem_of_getElem? (i := 1336) (by decide +kernel), List.mem_of_getElem? (i := 2059) (by decide +kernel), List.mem_of_getElem? (i := 2060) (by decide +kernel)⟩
theorem lw_p151 : lw_okq (⟨"CloneVolumesModel", "isHeld", "(I)Z"⟩, 116) := ⟨⟨by decide +kernel, by decide +kernel⟩, List.mem_of_getElem? (i := 1336) (by decide +kernel), List.mem_of_getElem? (i := 2063) (by decide +kernel), List.mem_of_getElem? (i := 2064) (by decide +kernel)⟩
theorem lw_p152 : lw_okq (⟨"CloneVolumesModel", "freeMany", "()I"⟩, 116) := ⟨⟨by decide +kernel, by decide +kernel⟩, List.mem_of_getElem? (i := 1336) (by decide +kernel), List.mem_of_getElem? (i := 2067) (by decide +kernel), List.mem_of_getElem? (i := 2068) (by decide +kernel)⟩
theorem lw_p153 : lw_okq (⟨"CloneVolumesModel", "laysTree", "(I)V"⟩, 116) := ⟨⟨by decide +kernel, by decide +kernel⟩, List.mem_of_getElem? (i := 1336) (by decide +kernel), List.mem_of_getElem? (i := 2080) (by decide +kernel), List.mem_of_getElem? (i := 2081) (by decide +kernel)⟩
theorem lw_p154 : lw_okq (⟨"CloneVolumesModel", "laysLeaf", "(I)V"⟩, 116) := ⟨⟨by decide +kernel, by decide +kernel⟩, List.mem_of_getElem? (i := 1336) (by decide +kernel), List.mem_of_getElem? (i := 2084) (by decide +kernel), List.mem_of_getElem? (i := 2085) (by decide +kernel)⟩
theorem lw_p155 : lw_okq (⟨"CloneVolumesModel", "dropsMany", "(I)I"⟩, 116) := ⟨⟨by decide +kernel, by decide +kernel⟩, List.mem_of_getElem? (i := 1336) (by decide +kernel), List.mem_of_getElem? (i := 2088) (by decide +kernel), List.mem_of_getElem? (i := 2089) (by decide +kernel)⟩
theorem lw_p156 : lw_okq (⟨"CloneVolumesModel", "putsAside", "()V"⟩, 116) := ⟨⟨by decide +kernel, by decide +kernel⟩, List.mem_of_getElem? (i := 1336) (by decide +kernel), List.mem_of_getElem? (i := 2092) (by decide +kernel), List.mem_of_getElem? (i := 2093) (by decide +kernel)⟩
theorem lw_p157 : lw_okq (⟨"CloneVolumesModel", "clearsTouched", "()V"⟩, 116) := ⟨⟨by decide +kernel, by decide +kernel⟩, List.mem_of_getElem? (i := 1336) (by decide +kernel), List.mem_of_getElem? (i := 2096) (by decide +kernel), List.mem_of_getElem? (i := 2097) (by decide +kernel)⟩
theorem lw_p158 : lw_okq (⟨"CloneVolumesModel", "drops", "(I)V"⟩, 116) := ⟨⟨by decide +kernel, by decide +kernel⟩, List.mem_of_getElem? (i := 1336) (by decide +kernel), List.mem_of_getElem? (i := 2100) (by decide +kernel), List.mem_of_getElem? (i := 2101) (by decide +kernel)⟩
theorem lw_p159 : lw_okq (⟨"CloneVolumesModel", "takesBack", "()V"⟩, 116) := ⟨⟨by decide +kernel, by decide +kernel⟩, List.mem_of_getElem? (i := 1336) (by decide +kernel), List.mem_of_getElem? (i := 2104) (by decide +kernel), List.mem_of_getElem? (i := 2105) (by decide +kernel)⟩
def lw_privs_10 : List (MethodName × Nat) := [(⟨"CloneVolumesModel", "cutsEntry", "(II)V"⟩, 116), (⟨"CloneVolumesModel", "lowers", "(I)V"⟩, 116), (⟨"CloneVolumesModel", "checks", "()V"⟩, 116), (⟨"CloneVolumesModel", "volumeMany", "()I"⟩, 116), (⟨"CloneVolumesModel", "isVolume", "(J)Z"⟩, 116), (⟨"CloneVolumesModel", "usedMany", "()I"⟩, 116), (⟨"CloneVolumesModel", "heldMany", "()I"⟩, 116), (⟨"CloneVolumesModel", "isHeld", "(I)Z"⟩, 116), (⟨"CloneVolumesModel", "freeMany", "()I"⟩, 116), (⟨"CloneVolumesModel", "laysTree", "(I)V"⟩, 116), (⟨"CloneVolumesModel", "laysLeaf", "(I)V"⟩, 116), (⟨"CloneVolumesModel", "dropsMany", "(I)I"⟩, 116), (⟨"CloneVolumesModel", "putsAside", "()V"⟩, 116), (⟨"CloneVolumesModel", "clearsTouched", "()V"⟩, 116), (⟨"CloneVolumesModel", "drops", "(I)V"⟩, 116), (⟨"CloneVolumesModel", "takesBack", "()V"⟩, 116)]
theorem lw_r10 : ∀ q ∈ lw_privs_10, lw_okq q := List.forall_mem_cons.mpr ⟨lw_p144, List.forall_mem_cons.mpr ⟨lw_p145, List.forall_mem_cons.mpr ⟨lw_p146, List.forall_mem_cons.mpr ⟨lw_p147, List.forall_mem_cons.mpr ⟨lw_p148, List.forall_mem_cons.mpr ⟨lw_p149, List.forall_mem_cons.mpr ⟨lw_p150, List.forall_mem_cons.mpr ⟨lw_p151, List.forall_mem_cons.mpr ⟨lw_p152, List.forall_mem_cons.mpr ⟨lw_p153, List.forall_mem_cons.mpr ⟨lw_p154, List.forall_mem_cons.mpr ⟨lw_p155, List.forall_mem_cons.mpr ⟨lw_p156, List.forall_mem_cons.mpr ⟨lw_p157, List.forall_mem_cons.mpr ⟨lw_p158, List.forall_mem_cons.mpr ⟨lw_p159, fun _ h => absurd h List.not_mem_nil⟩⟩⟩⟩⟩⟩⟩⟩⟩⟩⟩⟩⟩⟩⟩⟩
theorem lw_p160 : lw_okq (⟨"CloneVolumesModel", "isBlock", "(J)Z"⟩, 116) := ⟨⟨by decide +kernel, by decide +kernel⟩, List.mem_of_getElem? (i := 1336) (by decide +kernel), List.mem_of_getElem? (i := 2112) (by decide +kernel), List.mem_of_getElem? (i := 2113) (by decide +kernel)⟩
theorem lw_p161 : lw_okq (⟨"CloneVolumesModel", "unlike", "(III)I"⟩, 116) := ⟨⟨by decide +kernel, by decide +kernel⟩, List.mem_of_getElem? (i := 1336) (by decide +kernel), List.mem_of_getElem? (i := 2150) (by decide +kernel), List.mem_of_getElem? (i := 2151) (by decide +kernel)⟩
theorem lw_p162 : lw_okq (⟨"CloneVolumesModel", "laysWrites", "(II)V"⟩, 116) := ⟨⟨by decide +kernel, by decide +kernel⟩, List.mem_of_getElem? (i := 1336) (by decide +kernel), List.mem_of_getElem? (i := 2158) (by decide +kernel), List.mem_of_getElem? (i := 2159) (by decide +kernel)⟩
theorem lw_p163 : lw_okq (⟨"CloneVolumesModel", "writtenMany", "()I"⟩, 116) := ⟨⟨by decide +kernel, by decide +kernel⟩, List.mem_of_getElem? (i := 1336) (by decide +kernel), List.mem_of_getElem? (i := 2162) (by decide +kernel), List.mem_of_getElem? (i := 2163) (by decide +kernel)⟩
theorem lw_p164 : lw_okq (⟨"CloneVolumesModel", "writtenCost", "()I"⟩, 116) := ⟨⟨by decide +kernel, by decide +kernel⟩, List.mem_of_getElem? (i := 1336) (by decide +kernel), List.mem_of_getElem? (i := 2166) (by decide +kernel), List.mem_of_getElem? (i := 2167) (by decide +kernel)⟩
theorem lw_p165 : lw_okq (⟨"CloneVolumesModel", "costOf", "(I)I"⟩, 116) := ⟨⟨by decide +kernel, by decide +kernel⟩, List.mem_of_getElem? (i := 1336) (by decide +kernel), List.mem_of_getElem? (i := 2170) (by decide +kernel), List.mem_of_getElem? (i := 2171) (by decide +kernel)⟩
theorem lw_p166 : lw_okq (⟨"CloneVolumesModel", "laysLost", "()V"⟩, 116) := ⟨⟨by decide +kernel, by decide +kernel⟩, List.mem_of_getElem? (i := 1336) (by decide +kernel), List.mem_of_getElem? (i := 2186) (by decide +kernel), List.mem_of_getElem? (i := 2187) (by decide +kernel)⟩
theorem lw_p167 : lw_okq (⟨"CloneVolumesModel", "doesFit", "(I)Z"⟩, 116) := ⟨⟨by decide +kernel, by decide +kernel⟩, List.mem_of_getElem? (i := 1336) (by decide +kernel), List.mem_of_getElem? (i := 2214) (by decide +kernel), List.mem_of_getElem? (i := 2215) (by decide +kernel)⟩
theorem lw_p168 : lw_okq (⟨"CloneVolumesModel", "toldOf", "(II)I"⟩, 116) := ⟨⟨by decide +kernel, by decide +kernel⟩, List.mem_of_getElem? (i := 1336) (by decide +kernel), List.mem_of_getElem? (i := 2218) (by decide +kernel), List.mem_of_getElem? (i := 2219) (by decide +kernel)⟩
theorem lw_p169 : lw_okq (⟨"CloneVolumesModel", "mostAlike", "(I)I"⟩, 116) := ⟨⟨by decide +kernel, by decide +kernel⟩, List.mem_of_getElem? (i := 1336) (by decide +kernel), List.mem_of_getElem? (i := 2227) (by decide +kernel), List.mem_of_getElem? (i := 2228) (by decide +kernel)⟩
theorem lw_p170 : lw_okq (⟨"CloneVolumesModel", "canBe", "(IIII)Z"⟩, 116) := ⟨⟨by decide +kernel, by decide +kernel⟩, List.mem_of_getElem? (i := 1336) (by decide +kernel), List.mem_of_getElem? (i := 2239) (by decide +kernel), List.mem_of_getElem? (i := 2240) (by decide +kernel)⟩
theorem lw_p171 : lw_okq (⟨"CloneVolumesModel", "keeps", "()V"⟩, 116) := ⟨⟨by decide +kernel, by decide +kernel⟩, List.mem_of_getElem? (i := 1336) (by decide +kernel), List.mem_of_getElem? (i := 2243) (by decide +kernel), List.mem_of_getElem? (i := 2244) (by decide +kernel)⟩
theorem lw_p172 : lw_okq (⟨"CloneVolumesModel", "isKept", "(II)V"⟩, 116) := ⟨⟨by decide +kernel, by decide +kernel⟩, List.mem_of_getElem? (i := 1336) (by decide +kernel), List.mem_of_getElem? (i := 2247) (by decide +kernel), List.mem_of_getElem? (i := 2248) (by decide +kernel)⟩
theorem lw_p173 : lw_okq (⟨"CloneVolumesModel", "freeNumber", "()I"⟩, 116) := ⟨⟨by decide +kernel, by decide +kernel⟩, List.mem_of_getElem? (i := 1336) (by decide +kernel), List.mem_of_getElem? (i := 2260) (by decide +kernel), List.mem_of_getElem? (i := 2261) (by decide +kernel)⟩
theorem lw_p174 : lw_okq (⟨"CloneVolumesModel", "crashes", "()V"⟩, 116) := ⟨⟨by decide +kernel, by decide +kernel⟩, List.mem_of_getElem? (i := 1336) (by decide +kernel), List.mem_of_getElem? (i := 2276) (by decide +kernel), List.mem_of_getElem? (i := 2277) (by decide +kernel)⟩
theorem lw_p175 : lw_okq (⟨"CloneVolumesModel", "isRefused", "(I)Z"⟩, 116) := ⟨⟨by decide +kernel, by decide +kernel⟩, List.mem_of_getElem? (i := 1336) (by decide +kernel), List.mem_of_getElem? (i := 2284) (by decide +kernel), List.mem_of_getElem? (i := 2285) (by decide +kernel)⟩
def lw_privs_11 : List (MethodName × Nat) := [(⟨"CloneVolumesModel", "isBlock", "(J)Z"⟩, 116), (⟨"CloneVolumesModel", "unlike", "(III)I"⟩, 116), (⟨"CloneVolumesModel", "laysWrites", "(II)V"⟩, 116), (⟨"CloneVolumesModel", "writtenMany", "()I"⟩, 116), (⟨"CloneVolumesModel", "writtenCost", "()I"⟩, 116), (⟨"CloneVolumesModel", "costOf", "(I)I"⟩, 116), (⟨"CloneVolumesModel", "laysLost", "()V"⟩, 116), (⟨"CloneVolumesModel", "doesFit", "(I)Z"⟩, 116), (⟨"CloneVolumesModel", "toldOf", "(II)I"⟩, 116), (⟨"CloneVolumesModel", "mostAlike", "(I)I"⟩, 116), (⟨"CloneVolumesModel", "canBe", "(IIII)Z"⟩, 116), (⟨"CloneVolumesModel", "keeps", "()V"⟩, 116), (⟨"CloneVolumesModel", "isKept", "(II)V"⟩, 116), (⟨"CloneVolumesModel", "freeNumber", "()I"⟩, 116), (⟨"CloneVolumesModel", "crashes", "()V"⟩, 116), (⟨"CloneVolumesModel", "isRefused", "(I)Z"⟩, 116)]
theorem lw_r11 : ∀ q ∈ lw_privs_11, lw_okq q := List.forall_mem_cons.mpr ⟨lw_p160, List.forall_mem_cons.mpr ⟨lw_p161, List.forall_mem_cons.mpr ⟨lw_p162, List.forall_mem_cons.mpr ⟨lw_p163, List.forall_mem_cons.mpr ⟨lw_p164, List.forall_mem_cons.mpr ⟨lw_p165, List.forall_mem_cons.mpr ⟨lw_p166, List.forall_mem_cons.mpr ⟨lw_p167, List.forall_mem_cons.mpr ⟨lw_p168, List.forall_mem_cons.mpr ⟨lw_p169, List.forall_mem_cons.mpr ⟨lw_p170, List.forall_mem_cons.mpr ⟨lw_p171, List.forall_mem_cons.mpr ⟨lw_p172, List.forall_mem_cons.mpr ⟨lw_p173, List.forall_mem_cons.mpr ⟨lw_p174, List.forall_mem_cons.mpr ⟨lw_p175, fun _ h => absurd h List.not_mem_nil⟩⟩⟩⟩⟩⟩⟩⟩⟩⟩⟩⟩⟩⟩⟩⟩
theorem lw_p176 : lw_okq (⟨"CloneVolumesModel", "isDrawn", "()Z"⟩, 116) := ⟨⟨by decide +kernel, by decide +kernel⟩, List.mem_of_getElem? (i := 1336) (by decide +kernel), List.mem_of_getElem? (i := 2293) (by decide +kernel), List.mem_of_getElem? (i := 2294) (by decide +kernel)⟩
theorem lw_p177 : lw_okq (⟨"CloneVolumesModel", "drawOf", "(I)I"⟩, 116) := ⟨⟨by decide +kernel, by decide +kernel⟩, List.mem_of_getElem? (i := 1336) (by decide +kernel), List.mem_of_getElem? (i := 2297) (by decide +kernel), List.mem_of_getElem? (i := 2298) (by decide +kernel)⟩
theorem lw_p178 : lw_okq (⟨"CloneVolumesModel", "volumeAt", "(I)I"⟩, 116) := ⟨⟨by decide +kernel, by decide +kernel⟩, List.mem_of_getElem? (i := 1336) (by decide +kernel), List.mem_of_getElem? (i := 2305) (by decide +kernel), List.mem_of_getElem? (i := 2306) (by decide +kernel)⟩
theorem lw_p179 : lw_okq (⟨"CloneVolumesModel", "qKind", "()I"⟩, 116) := ⟨⟨by decide +kernel, by decide +kernel⟩, List.mem_of_getElem? (i := 1336) (by decide +kernel), List.mem_of_getElem? (i := 2314) (by decide +kernel), List.mem_of_getElem? (i := 2315) (by decide +kernel)⟩
theorem lw_p180 : lw_okq (⟨"CloneVolumesModel", "qTold", "(I)J"⟩, 116) := ⟨⟨by decide +kernel, by decide +kernel⟩, List.mem_of_getElem? (i := 1336) (by decide +kernel), List.mem_of_getElem? (i := 2319) (by decide +kernel), List.mem_of_getElem? (i := 2320) (by decide +kernel)⟩
theorem lw_p181 : lw_okq (⟨"CloneVolumesModel", "qOf", "(IJI)J"⟩, 116) := ⟨⟨by decide +kernel, by decide +kernel⟩, List.mem_of_getElem? (i := 1336) (by decide +kernel), List.mem_of_getElem? (i := 2323) (by decide +kernel), List.mem_of_getElem? (i := 2324) (by decide +kernel)⟩
theorem lw_p182 : lw_okq (⟨"CloneVolumesModel", "qTakes", "(IJI)V"⟩, 116) := ⟨⟨by decide +kernel, by decide +kernel⟩, List.mem_of_getElem? (i := 1336) (by decide +kernel), List.mem_of_getElem? (i := 2327) (by decide +kernel), List.mem_of_getElem? (i := 2328) (by decide +kernel)⟩
theorem lw_p183 : lw_okq (⟨"CloneVolumesModel", "tellsByte", "(I)V"⟩, 116) := ⟨⟨by decide +kernel, by decide +kernel⟩, List.mem_of_getElem? (i := 1336) (by decide +kernel), List.mem_of_getElem? (i := 2344) (by decide +kernel), List.mem_of_getElem? (i := 2345) (by decide +kernel)⟩
theorem lw_p184 : lw_okq (⟨"CloneVolumesModel", "tellsTwo", "(I)V"⟩, 116) := ⟨⟨by decide +kernel, by decide +kernel⟩, List.mem_of_getElem? (i := 1336) (by decide +kernel), List.mem_of_getElem? (i := 2348) (by decide +kernel), List.mem_of_getElem? (i := 2349) (by decide +kernel)⟩
theorem lw_p185 : lw_okq (⟨"CloneVolumesModel", "rootTold", "(I)I"⟩, 116) := ⟨⟨by decide +kernel, by decide +kernel⟩, List.mem_of_getElem? (i := 1336) (by decide +kernel), List.mem_of_getElem? (i := 2352) (by decide +kernel), List.mem_of_getElem? (i := 2353) (by decide +kernel)⟩
theorem lw_p186 : lw_okq (⟨"CloneVolumesModel", "writesBlock", "(I)V"⟩, 116) := ⟨⟨by decide +kernel, by decide +kernel⟩, List.mem_of_getElem? (i := 1336) (by decide +kernel), List.mem_of_getElem? (i := 2356) (by decide +kernel), List.mem_of_getElem? (i := 2357) (by decide +kernel)⟩
theorem lw_p187 : lw_okq (⟨"CloneVolumesModel", "isImage", "(I)Z"⟩, 116) := ⟨⟨by decide +kernel, by decide +kernel⟩, List.mem_of_getElem? (i := 1336) (by decide +kernel), List.mem_of_getElem? (i := 2367) (by decide +kernel), List.mem_of_getElem? (i := 2368) (by decide +kernel)⟩
theorem lw_p188 : lw_okq (⟨"CloneVolumesModel", "isLaid", "(I)Z"⟩, 116) := ⟨⟨by decide +kernel, by decide +kernel⟩, List.mem_of_getElem? (i := 1336) (by decide +kernel), List.mem_of_getElem? (i := 2371) (by decide +kernel), List.mem_of_getElem? (i := 2372) (by decide +kernel)⟩
theorem lw_p189 : lw_okq (⟨"CloneVolumesModel", "byteRead", "(I)I"⟩, 116) := ⟨⟨by decide +kernel, by decide +kernel⟩, List.mem_of_getElem? (i := 1336) (by decide +kernel), List.mem_of_getElem? (i := 2375) (by decide +kernel), List.mem_of_getElem? (i := 2376) (by decide +kernel)⟩
theorem lw_p190 : lw_okq (⟨"CloneVolumesModel", "twoRead", "(I)I"⟩, 116) := ⟨⟨by decide +kernel, by decide +kernel⟩, List.mem_of_getElem? (i := 1336) (by decide +kernel), List.mem_of_getElem? (i := 2379) (by decide +kernel), List.mem_of_getElem? (i := 2380) (by decide +kernel)⟩
theorem lw_p191 : lw_okq (⟨"CloneVolumesModel", "isLaidBlock", "(II)Z"⟩, 116) := ⟨⟨by decide +kernel, by decide +kernel⟩, List.mem_of_getElem? (i := 1336) (by decide +kernel), List.mem_of_getElem? (i := 2383) (by decide +kernel), List.mem_of_getElem? (i := 2384) (by decide +kernel)⟩
def lw_privs_12 : List (MethodName × Nat) := [(⟨"CloneVolumesModel", "isDrawn", "()Z"⟩, 116), (⟨"CloneVolumesModel", "drawOf", "(I)I"⟩, 116), (⟨"CloneVolumesModel", "volumeAt", "(I)I"⟩, 116), (⟨"CloneVolumesModel", "qKind", "()I"⟩, 116), (⟨"CloneVolumesModel", "qTold", "(I)J"⟩, 116), (⟨"CloneVolumesModel", "qOf", "(IJI)J"⟩, 116), (⟨"CloneVolumesModel", "qTakes", "(IJI)V"⟩, 116), (⟨"CloneVolumesModel", "tellsByte", "(I)V"⟩, 116), (⟨"CloneVolumesModel", "tellsTwo", "(I)V"⟩, 116), (⟨"CloneVolumesModel", "rootTold", "(I)I"⟩, 116), (⟨"CloneVolumesModel", "writesBlock", "(I)V"⟩, 116), (⟨"CloneVolumesModel", "isImage", "(I)Z"⟩, 116), (⟨"CloneVolumesModel", "isLaid", "(I)Z"⟩, 116), (⟨"CloneVolumesModel", "byteRead", "(I)I"⟩, 116), (⟨"CloneVolumesModel", "twoRead", "(I)I"⟩, 116), (⟨"CloneVolumesModel", "isLaidBlock", "(II)Z"⟩, 116)]
theorem lw_r12 : ∀ q ∈ lw_privs_12, lw_okq q := List.forall_mem_cons.mpr ⟨lw_p176, List.forall_mem_cons.mpr ⟨lw_p177, List.forall_mem_cons.mpr ⟨lw_p178, List.forall_mem_cons.mpr ⟨lw_p179, List.forall_mem_cons.mpr ⟨lw_p180, List.forall_mem_cons.mpr ⟨lw_p181, List.forall_mem_cons.mpr ⟨lw_p182, List.forall_mem_cons.mpr ⟨lw_p183, List.forall_mem_cons.mpr ⟨lw_p184, List.forall_mem_cons.mpr ⟨lw_p185, List.forall_mem_cons.mpr ⟨lw_p186, List.forall_mem_cons.mpr ⟨lw_p187, List.forall_mem_cons.mpr ⟨lw_p188, List.forall_mem_cons.mpr ⟨lw_p189, List.forall_mem_cons.mpr ⟨lw_p190, List.forall_mem_cons.mpr ⟨lw_p191, fun _ h => absurd h List.not_mem_nil⟩⟩⟩⟩⟩⟩⟩⟩⟩⟩⟩⟩⟩⟩⟩⟩
theorem lw_p192 : lw_okq (⟨"CloneVolumesModel", "areValues", "(I)Z"⟩, 116) := ⟨⟨by decide +kernel, by decide +kernel⟩, List.mem_of_getElem? (i := 1336) (by decide +kernel), List.mem_of_getElem? (i := 2387) (by decide +kernel), List.mem_of_getElem? (i := 2388) (by decide +kernel)⟩
theorem lw_p193 : lw_okq (⟨"CloneVolumesModel", "laidOf", "(II)I"⟩, 116) := ⟨⟨by decide +kernel, by decide +kernel⟩, List.mem_of_getElem? (i := 1336) (by decide +kernel), List.mem_of_getElem? (i := 2391) (by decide +kernel), List.mem_of_getElem? (i := 2392) (by decide +kernel)⟩
theorem lw_p194 : lw_okq (⟨"CloneVolumesModel", "areCounts", "(I)Z"⟩, 116) := ⟨⟨by decide +kernel, by decide +kernel⟩, List.mem_of_getElem? (i := 1336) (by decide +kernel), List.mem_of_getElem? (i := 2395) (by decide +kernel), List.mem_of_getElem? (i := 2396) (by decide +kernel)⟩
theorem lw_p195 : lw_okq (⟨"CloneVolumesModel", "areKeys", "(I)Z"⟩, 116) := ⟨⟨by decide +kernel, by decide +kernel⟩, List.mem_of_getElem? (i := 1336) (by decide +kernel), List.mem_of_getElem? (i := 2399) (by decide +kernel), List.mem_of_getElem? (i := 2400) (by decide +kernel)⟩
theorem lw_p196 : lw_okq (⟨"CloneVolumesModel", "areBetween", "(III)Z"⟩, 116) := ⟨⟨by decide +kernel, by decide +kernel⟩, List.mem_of_getElem? (i := 1336) (by decide +kernel), List.mem_of_getElem? (i := 2403) (by decide +kernel), List.mem_of_getElem? (i := 2404) (by decide +kernel)⟩
def lw_privs_13 : List (MethodName × Nat) := [(⟨"CloneVolumesModel", "areValues", "(I)Z"⟩, 116), (⟨"CloneVolumesModel", "laidOf", "(II)I"⟩, 116), (⟨"CloneVolumesModel", "areCounts", "(I)Z"⟩, 116), (⟨"CloneVolumesModel", "areKeys", "(I)Z"⟩, 116), (⟨"CloneVolumesModel", "areBetween", "(III)Z"⟩, 116)]
theorem lw_r13 : ∀ q ∈ lw_privs_13, lw_okq q := List.forall_mem_cons.mpr ⟨lw_p192, List.forall_mem_cons.mpr ⟨lw_p193, List.forall_mem_cons.mpr ⟨lw_p194, List.forall_mem_cons.mpr ⟨lw_p195, List.forall_mem_cons.mpr ⟨lw_p196, fun _ h => absurd h List.not_mem_nil⟩⟩⟩⟩⟩
def lw_privs : List (MethodName × Nat) := lw_privs_1 ++ (lw_privs_2 ++ (lw_privs_3 ++ (lw_privs_4 ++ (lw_privs_5 ++ (lw_privs_6 ++ (lw_privs_7 ++ (lw_privs_8 ++ (lw_privs_9 ++ (lw_privs_10 ++ (lw_privs_11 ++ (lw_privs_12 ++ (lw_privs_13))))))))))))
def lw_tbl : List Cond := k2_sels lw_privs ++ tables_1
theorem lw_privs_ok : ∀ q ∈ lw_privs, lw_okq q := by
  show ∀ q ∈ lw_privs_1 ++ (lw_privs_2 ++ (lw_privs_3 ++ (lw_privs_4 ++ (lw_privs_5 ++ (lw_privs_6 ++ (lw_privs_7 ++ (lw_privs_8 ++ (lw_privs_9 ++ (lw_privs_10 ++ (lw_privs_11 ++ (lw_privs_12 ++ (lw_privs_13)))))))))))), lw_okq q
  exact List.forall_mem_append.mpr ⟨lw_r1, List.forall_mem_append.mpr ⟨lw_r2, List.forall_mem_append.mpr ⟨lw_r3, List.forall_mem_append.mpr ⟨lw_r4, List.forall_mem_append.mpr ⟨lw_r5, List.forall_mem_append.mpr ⟨lw_r6, List.forall_mem_append.mpr ⟨lw_r7, List.forall_mem_append.mpr ⟨lw_r8, List.forall_mem_append.mpr ⟨lw_r9, List.forall_mem_append.mpr ⟨lw_r10, List.forall_mem_append.mpr ⟨lw_r11, List.forall_mem_append.mpr ⟨lw_r12, lw_r13⟩⟩⟩⟩⟩⟩⟩⟩⟩⟩⟩⟩
end
section
/-! ===== BEGIN words of one list among another's, by their places ===== -/
theorem goodIn_r {big : List Cond} (ws : List Cond) (ps : List Nat) (hp : ws = ps.filterMap (fun i => big[i]?)) (h : ws.all goodWord = true) : GoodIn big ws := by
  intro w hw
  have h1 := List.all_eq_true.mp h w hw
  rw [hp] at hw
  obtain ⟨i, -, hi⟩ := List.mem_filterMap.mp hw
  have hm : w ∈ big := by first | exact List.mem_of_getElem? hi | exact List.getElem?_mem hi
  exact ⟨hm, good_of_word h1⟩
theorem goodIn_app {big a b : List Cond} (ha : GoodIn big a) (hb : GoodIn big b) : GoodIn big (a ++ b) := fun w h => (List.mem_append.mp h).elim (ha w) (hb w)
theorem goodIn_ca {big a b : List Cond} {c : Cond} (ha : GoodIn big (c :: a)) (hb : GoodIn big b) : GoodIn big (c :: (a ++ b)) := fun w h => (List.mem_cons.mp h).elim (fun e => ha w (List.mem_cons.mpr (Or.inl e))) (fun h => (List.mem_append.mp h).elim (fun h => ha w (List.mem_cons.mpr (Or.inr h))) (hb w))
theorem goodIn_sub {big ws : List Cond} (hm : ∀ w ∈ ws, w ∈ big) (h : ws.all goodWord = true) : GoodIn big ws := fun w hw => ⟨hm w hw, good_of_word (List.all_eq_true.mp h w hw)⟩
/-! ===== END ===== -/

def RX0 : String := "CloneVolumes$Code"
def TX0 : u_T := fun k => match k with
  | 0 => ("CloneVolumes$Code", "steps", "[I", true)
  | _ => ("CloneVolumes$Code", "size", "I", false)
def tyX0 : Nat → FieldType := fun k => match k with
  | 0 => .array .int
  | _ => .int
abbrev wsX00 : List Cond := u_ws RX0 TX0 2
theorem nmX0 : ∀ a, a < 2 → ∀ b, b < 2 → a ≠ b → (TX0 a).2.1 ≠ (TX0 b).2.1 := by decide +kernel
theorem tyX0_ok : ∀ k, k < 2 → parseFieldDescriptor (TX0 k).2.2.1 = some (tyX0 k) := by decide +kernel
abbrev cX0_init : ByteArray := prog_2_method_1_code
def yX0_init : MethodName := ⟨RX0, "<init>", "()V"⟩
abbrev cX0_add : ByteArray := prog_2_method_2_code
def yX0_add : MethodName := ⟨RX0, "add", "(I)V"⟩
def RX1 : String := "CloneVolumes$Forest"
def TX1 : u_T := fun k => match k with
  | 0 => ("CloneVolumes$Forest", "now", "LCloneVolumes$State;", true)
  | 1 => ("CloneVolumes$Forest", "before", "LCloneVolumes$State;", false)
  | 2 => ("CloneVolumes$Forest", "inner", "LCloneVolumes$State;", true)
  | 3 => ("CloneVolumes$Forest", "seed", "I", false)
  | 4 => ("CloneVolumes$Forest", "plan", "LCloneVolumes$Plan;", false)
  | 5 => ("CloneVolumes$Forest", "machine", "LCloneVolumes$Machine;", true)
  | 6 => ("CloneVolumes$Forest", "chain", "[I", true)
  | 7 => ("CloneVolumes$Forest", "turns", "[I", true)
  | _ => ("CloneVolumes$Forest", "counts", "[I", true)
def tyX1 : Nat → FieldType := fun k => match k with
  | 0 => .object "CloneVolumes$State"
  | 1 => .object "CloneVolumes$State"
  | 2 => .object "CloneVolumes$State"
  | 3 => .int
  | 4 => .object "CloneVolumes$Plan"
  | 5 => .object "CloneVolumes$Machine"
  | 6 => .array .int
  | 7 => .array .int
  | _ => .array .int
abbrev wsX10 : List Cond := u_ws RX1 TX1 9
theorem nmX1 : ∀ a, a < 9 → ∀ b, b < 9 → a ≠ b → (TX1 a).2.1 ≠ (TX1 b).2.1 := by decide +kernel
theorem tyX1_ok : ∀ k, k < 9 → parseFieldDescriptor (TX1 k).2.2.1 = some (tyX1 k) := by decide +kernel
abbrev cX1_init : ByteArray := prog_3_method_1_code
def yX1_init : MethodName := ⟨RX1, "<init>", "(LCloneVolumes$Plan;)V"⟩
abbrev cX1_build : ByteArray := prog_3_method_2_code
def yX1_build : MethodName := ⟨RX1, "build", "(LCloneVolumes$Plan;)V"⟩
abbrev cX1_begin : ByteArray := prog_3_method_3_code
def yX1_begin : MethodName := ⟨RX1, "begin", "()V"⟩
abbrev cX1_settle : ByteArray := prog_3_method_4_code
def yX1_settle : MethodName := ⟨RX1, "settle", "()I"⟩
abbrev cX1_wrote : ByteArray := prog_3_method_5_code
def yX1_wrote : MethodName := ⟨RX1, "wrote", "()I"⟩
abbrev cX1_price : ByteArray := prog_3_method_6_code
def yX1_price : MethodName := ⟨RX1, "price", "()I"⟩
abbrev cX1_isWritten : ByteArray := prog_3_method_7_code
def yX1_isWritten : MethodName := ⟨RX1, "isWritten", "(I)Z"⟩
abbrev cX1_wouldWrite : ByteArray := prog_3_method_8_code
def yX1_wouldWrite : MethodName := ⟨RX1, "wouldWrite", "(II)I"⟩
abbrev cX1_wouldCost : ByteArray := prog_3_method_9_code
def yX1_wouldCost : MethodName := ⟨RX1, "wouldCost", "(II)I"⟩
abbrev cX1_rehearse : ByteArray := prog_3_method_10_code
def yX1_rehearse : MethodName := ⟨RX1, "rehearse", "(II)Z"⟩
abbrev cX1_costOf : ByteArray := prog_3_method_11_code
def yX1_costOf : MethodName := ⟨RX1, "costOf", "(I)I"⟩
abbrev cX1_splits : ByteArray := prog_3_method_12_code
def yX1_splits : MethodName := ⟨RX1, "splits", "(I)Z"⟩
abbrev cX1_valueFor : ByteArray := prog_3_method_13_code
def yX1_valueFor : MethodName := ⟨RX1, "valueFor", "(ILCloneVolumes$Code;)I"⟩
abbrev cX1_take : ByteArray := prog_3_method_14_code
def yX1_take : MethodName := ⟨RX1, "take", "(II)I"⟩
abbrev cX1_owned : ByteArray := prog_3_method_15_code
def yX1_owned : MethodName := ⟨RX1, "owned", "(I)I"⟩
abbrev cX1_layEntries : ByteArray := prog_3_method_16_code
def yX1_layEntries : MethodName := ⟨RX1, "layEntries", "(III)V"⟩
abbrev cX1_release : ByteArray := prog_3_method_17_code
def yX1_release : MethodName := ⟨RX1, "release", "(I[I)I"⟩
abbrev cX1_freedWith : ByteArray := prog_3_method_18_code
def yX1_freedWith : MethodName := ⟨RX1, "freedWith", "(I)I"⟩
abbrev cX1_share : ByteArray := prog_3_method_19_code
def yX1_share : MethodName := ⟨RX1, "share", "(II)V"⟩
abbrev cX1_letGo : ByteArray := prog_3_method_20_code
def yX1_letGo : MethodName := ⟨RX1, "letGo", "(I)V"⟩
abbrev cX1_tryPlant : ByteArray := prog_3_method_21_code
def yX1_tryPlant : MethodName := ⟨RX1, "tryPlant", "(III)Z"⟩
abbrev cX1_plant : ByteArray := prog_3_method_22_code
def yX1_plant : MethodName := ⟨RX1, "plant", "(III)Z"⟩
abbrev cX1_raiseRoot : ByteArray := prog_3_method_23_code
def yX1_raiseRoot : MethodName := ⟨RX1, "raiseRoot", "(I)I"⟩
abbrev cX1_split : ByteArray := prog_3_method_24_code
def yX1_split : MethodName := ⟨RX1, "split", "(IIII)I"⟩
abbrev cX1_plantLow : ByteArray := prog_3_method_25_code
def yX1_plantLow : MethodName := ⟨RX1, "plantLow", "(III)V"⟩
abbrev cX1_tryUproot : ByteArray := prog_3_method_26_code
def yX1_tryUproot : MethodName := ⟨RX1, "tryUproot", "(II)Z"⟩
abbrev cX1_uproot : ByteArray := prog_3_method_27_code
def yX1_uproot : MethodName := ⟨RX1, "uproot", "(II)Z"⟩
abbrev cX1_prune : ByteArray := prog_3_method_28_code
def yX1_prune : MethodName := ⟨RX1, "prune", "(III)V"⟩
abbrev cX1_lowerRoot : ByteArray := prog_3_method_29_code
def yX1_lowerRoot : MethodName := ⟨RX1, "lowerRoot", "(I)V"⟩
abbrev cX1_draw : ByteArray := prog_3_method_30_code
def yX1_draw : MethodName := ⟨RX1, "draw", "(I)I"⟩
abbrev cX1_actBySeed : ByteArray := prog_3_method_31_code
def yX1_actBySeed : MethodName := ⟨RX1, "actBySeed", "()Z"⟩
abbrev cX1_volumeAt : ByteArray := prog_3_method_32_code
def yX1_volumeAt : MethodName := ⟨RX1, "volumeAt", "(I)I"⟩
def RX2 : String := "CloneVolumes$History"
def TX2 : u_T := fun k => match k with
  | 0 => ("CloneVolumes$History", "acts", "[I", true)
  | 1 => ("CloneVolumes$History", "volumes", "[I", true)
  | 2 => ("CloneVolumes$History", "wrote", "[I", true)
  | 3 => ("CloneVolumes$History", "rows", "I", false)
  | 4 => ("CloneVolumes$History", "past", "[LCloneVolumes$State;", true)
  | _ => ("CloneVolumes$History", "depth", "I", false)
def tyX2 : Nat → FieldType := fun k => match k with
  | 0 => .array .int
  | 1 => .array .int
  | 2 => .array .int
  | 3 => .int
  | 4 => .array (.object "CloneVolumes$State")
  | _ => .int
abbrev wsX20 : List Cond := u_ws RX2 TX2 6
theorem nmX2 : ∀ a, a < 6 → ∀ b, b < 6 → a ≠ b → (TX2 a).2.1 ≠ (TX2 b).2.1 := by decide +kernel
theorem tyX2_ok : ∀ k, k < 6 → parseFieldDescriptor (TX2 k).2.2.1 = some (tyX2 k) := by decide +kernel
abbrev cX2_init : ByteArray := prog_4_method_1_code
def yX2_init : MethodName := ⟨RX2, "<init>", "()V"⟩
abbrev cX2_clear : ByteArray := prog_4_method_2_code
def yX2_clear : MethodName := ⟨RX2, "clear", "()V"⟩
abbrev cX2_toldRows : ByteArray := prog_4_method_3_code
def yX2_toldRows : MethodName := ⟨RX2, "toldRows", "()I"⟩
abbrev cX2_toldOf : ByteArray := prog_4_method_4_code
def yX2_toldOf : MethodName := ⟨RX2, "toldOf", "(II)I"⟩
abbrev cX2_keep : ByteArray := prog_4_method_5_code
def yX2_keep : MethodName := ⟨RX2, "keep", "(III)V"⟩
abbrev cX2_remember : ByteArray := prog_4_method_6_code
def yX2_remember : MethodName := ⟨RX2, "remember", "(LCloneVolumes$State;)LCloneVolumes$State;"⟩
abbrev cX2_forget : ByteArray := prog_4_method_7_code
def yX2_forget : MethodName := ⟨RX2, "forget", "()LCloneVolumes$State;"⟩
def RX3 : String := "CloneVolumes$Machine"
def TX3 : u_T := fun k => match k with
  | 0 => ("CloneVolumes$Machine", "stack", "[I", true)
  | 1 => ("CloneVolumes$Machine", "top", "I", false)
  | 2 => ("CloneVolumes$Machine", "number", "I", false)
  | 3 => ("CloneVolumes$Machine", "source", "I", false)
  | 4 => ("CloneVolumes$Machine", "level", "I", false)
  | 5 => ("CloneVolumes$Machine", "entries", "I", false)
  | 6 => ("CloneVolumes$Machine", "count", "I", false)
  | 7 => ("CloneVolumes$Machine", "fresh", "I", false)
  | 8 => ("CloneVolumes$Machine", "saved", "I", false)
  | _ => ("CloneVolumes$Machine", "state", "LCloneVolumes$State;", true)
def tyX3 : Nat → FieldType := fun k => match k with
  | 0 => .array .int
  | 1 => .int
  | 2 => .int
  | 3 => .int
  | 4 => .int
  | 5 => .int
  | 6 => .int
  | 7 => .int
  | 8 => .int
  | _ => .object "CloneVolumes$State"
abbrev wsX30 : List Cond := u_ws RX3 TX3 10
theorem nmX3 : ∀ a, a < 10 → ∀ b, b < 10 → a ≠ b → (TX3 a).2.1 ≠ (TX3 b).2.1 := by decide +kernel
theorem tyX3_ok : ∀ k, k < 10 → parseFieldDescriptor (TX3 k).2.2.1 = some (tyX3 k) := by decide +kernel
abbrev cX3_init : ByteArray := prog_5_method_1_code
def yX3_init : MethodName := ⟨RX3, "<init>", "(LCloneVolumes$State;)V"⟩
abbrev cX3_value : ByteArray := prog_5_method_2_code
def yX3_value : MethodName := ⟨RX3, "value", "(LCloneVolumes$Code;II)I"⟩
abbrev cX3_push : ByteArray := prog_5_method_3_code
def yX3_push : MethodName := ⟨RX3, "push", "(I)V"⟩
abbrev cX3_pop : ByteArray := prog_5_method_4_code
def yX3_pop : MethodName := ⟨RX3, "pop", "()I"⟩
abbrev cX3_fact : ByteArray := prog_5_method_5_code
def yX3_fact : MethodName := ⟨RX3, "fact", "(I)I"⟩
abbrev cX3_changed : ByteArray := prog_5_method_6_code
def yX3_changed : MethodName := ⟨RX3, "changed", "(II)I"⟩
abbrev cX3_joined : ByteArray := prog_5_method_7_code
def yX3_joined : MethodName := ⟨RX3, "joined", "(III)I"⟩
def RX4 : String := "CloneVolumes$Picture"
def TX4 : u_T := fun k => match k with
  | 0 => ("CloneVolumes$Picture", "bytes", "[I", true)
  | 1 => ("CloneVolumes$Picture", "size", "I", false)
  | 2 => ("CloneVolumes$Picture", "at", "I", false)
  | 3 => ("CloneVolumes$Picture", "lowest", "[I", true)
  | 4 => ("CloneVolumes$Picture", "highest", "[I", true)
  | _ => ("CloneVolumes$Picture", "refs", "[I", true)
def tyX4 : Nat → FieldType := fun k => match k with
  | 0 => .array .int
  | 1 => .int
  | 2 => .int
  | 3 => .array .int
  | 4 => .array .int
  | _ => .array .int
abbrev wsX40 : List Cond := u_ws RX4 TX4 6
theorem nmX4 : ∀ a, a < 6 → ∀ b, b < 6 → a ≠ b → (TX4 a).2.1 ≠ (TX4 b).2.1 := by decide +kernel
theorem tyX4_ok : ∀ k, k < 6 → parseFieldDescriptor (TX4 k).2.2.1 = some (tyX4 k) := by decide +kernel
abbrev cX4_init : ByteArray := prog_6_method_1_code
def yX4_init : MethodName := ⟨RX4, "<init>", "()V"⟩
abbrev cX4_draw : ByteArray := prog_6_method_2_code
def yX4_draw : MethodName := ⟨RX4, "draw", "(LCloneVolumes$State;)I"⟩
abbrev cX4_drawBlock : ByteArray := prog_6_method_3_code
def yX4_drawBlock : MethodName := ⟨RX4, "drawBlock", "(LCloneVolumes$State;I)V"⟩
abbrev cX4_add : ByteArray := prog_6_method_4_code
def yX4_add : MethodName := ⟨RX4, "add", "(I)V"⟩
abbrev cX4_addPair : ByteArray := prog_6_method_5_code
def yX4_addPair : MethodName := ⟨RX4, "addPair", "(I)V"⟩
abbrev cX4_rootByte : ByteArray := prog_6_method_6_code
def yX4_rootByte : MethodName := ⟨RX4, "rootByte", "(I)I"⟩
abbrev cX4_seal : ByteArray := prog_6_method_7_code
def yX4_seal : MethodName := ⟨RX4, "seal", "([II)I"⟩
abbrev cX4_load : ByteArray := prog_6_method_8_code
def yX4_load : MethodName := ⟨RX4, "load", "(LCloneVolumes$Tape;LCloneVolumes$State;II)Z"⟩
abbrev cX4_next : ByteArray := prog_6_method_9_code
def yX4_next : MethodName := ⟨RX4, "next", "(LCloneVolumes$Tape;)I"⟩
abbrev cX4_nextPair : ByteArray := prog_6_method_10_code
def yX4_nextPair : MethodName := ⟨RX4, "nextPair", "(LCloneVolumes$Tape;)I"⟩
abbrev cX4_loadHead : ByteArray := prog_6_method_11_code
def yX4_loadHead : MethodName := ⟨RX4, "loadHead", "(LCloneVolumes$Tape;LCloneVolumes$State;)Z"⟩
abbrev cX4_rootOf : ByteArray := prog_6_method_12_code
def yX4_rootOf : MethodName := ⟨RX4, "rootOf", "(I)I"⟩
abbrev cX4_loadBlock : ByteArray := prog_6_method_13_code
def yX4_loadBlock : MethodName := ⟨RX4, "loadBlock", "(LCloneVolumes$Tape;LCloneVolumes$State;II)Z"⟩
abbrev cX4_isSound : ByteArray := prog_6_method_14_code
def yX4_isSound : MethodName := ⟨RX4, "isSound", "(LCloneVolumes$State;)Z"⟩
abbrev cX4_isSoundBlock : ByteArray := prog_6_method_15_code
def yX4_isSoundBlock : MethodName := ⟨RX4, "isSoundBlock", "(LCloneVolumes$State;I)Z"⟩
abbrev cX4_isSoundChild : ByteArray := prog_6_method_16_code
def yX4_isSoundChild : MethodName := ⟨RX4, "isSoundChild", "(LCloneVolumes$State;II)Z"⟩
abbrev cX4_refsAre : ByteArray := prog_6_method_17_code
def yX4_refsAre : MethodName := ⟨RX4, "refsAre", "(LCloneVolumes$State;[I[I)Z"⟩
def RX5 : String := "CloneVolumes$Plan"
def TX5 : u_T := fun k => match k with
  | 0 => ("CloneVolumes$Plan", "blocks", "I", false)
  | 1 => ("CloneVolumes$Plan", "entriesMost", "I", false)
  | 2 => ("CloneVolumes$Plan", "churn", "I", false)
  | 3 => ("CloneVolumes$Plan", "statements", "I", false)
  | 4 => ("CloneVolumes$Plan", "volumes", "I", false)
  | 5 => ("CloneVolumes$Plan", "changes", "I", false)
  | 6 => ("CloneVolumes$Plan", "names", "[I", true)
  | 7 => ("CloneVolumes$Plan", "kinds", "[I", true)
  | 8 => ("CloneVolumes$Plan", "who", "[I", true)
  | 9 => ("CloneVolumes$Plan", "first", "[I", true)
  | 10 => ("CloneVolumes$Plan", "second", "[I", true)
  | 11 => ("CloneVolumes$Plan", "code", "LCloneVolumes$Code;", true)
  | 12 => ("CloneVolumes$Plan", "begins", "[I", true)
  | _ => ("CloneVolumes$Plan", "ends", "[I", true)
def tyX5 : Nat → FieldType := fun k => match k with
  | 0 => .int
  | 1 => .int
  | 2 => .int
  | 3 => .int
  | 4 => .int
  | 5 => .int
  | 6 => .array .int
  | 7 => .array .int
  | 8 => .array .int
  | 9 => .array .int
  | 10 => .array .int
  | 11 => .object "CloneVolumes$Code"
  | 12 => .array .int
  | _ => .array .int
abbrev wsX50 : List Cond := u_ws RX5 TX5 14
theorem nmX5 : ∀ a, a < 14 → ∀ b, b < 14 → a ≠ b → (TX5 a).2.1 ≠ (TX5 b).2.1 := by decide +kernel
theorem tyX5_ok : ∀ k, k < 14 → parseFieldDescriptor (TX5 k).2.2.1 = some (tyX5 k) := by decide +kernel
abbrev cX5_init : ByteArray := prog_7_method_1_code
def yX5_init : MethodName := ⟨RX5, "<init>", "()V"⟩
abbrev cX5_clear : ByteArray := prog_7_method_2_code
def yX5_clear : MethodName := ⟨RX5, "clear", "()V"⟩
abbrev cX5_volumeNamed : ByteArray := prog_7_method_3_code
def yX5_volumeNamed : MethodName := ⟨RX5, "volumeNamed", "(LCloneVolumes$Tape;II)I"⟩
abbrev cX5_addVolume : ByteArray := prog_7_method_4_code
def yX5_addVolume : MethodName := ⟨RX5, "addVolume", "(LCloneVolumes$Tape;II)I"⟩
abbrev cX5_addChange : ByteArray := prog_7_method_5_code
def yX5_addChange : MethodName := ⟨RX5, "addChange", "(IIII)V"⟩
abbrev cX5_letterAt : ByteArray := prog_7_method_6_code
def yX5_letterAt : MethodName := ⟨RX5, "letterAt", "(LCloneVolumes$Tape;II)I"⟩
def RX6 : String := "CloneVolumes$Reader"
def TX6 : u_T := fun k => match k with
  | 0 => ("CloneVolumes$Reader", "fault", "I", false)
  | 1 => ("CloneVolumes$Reader", "place", "I", false)
  | 2 => ("CloneVolumes$Reader", "tape", "LCloneVolumes$Tape;", true)
  | 3 => ("CloneVolumes$Reader", "words", "[C", true)
  | 4 => ("CloneVolumes$Reader", "code", "LCloneVolumes$Code;", false)
  | 5 => ("CloneVolumes$Reader", "mode", "I", false)
  | 6 => ("CloneVolumes$Reader", "open", "I", false)
  | 7 => ("CloneVolumes$Reader", "kind", "I", false)
  | 8 => ("CloneVolumes$Reader", "start", "I", false)
  | 9 => ("CloneVolumes$Reader", "stop", "I", false)
  | 10 => ("CloneVolumes$Reader", "word", "I", false)
  | _ => ("CloneVolumes$Reader", "sign", "I", false)
def tyX6 : Nat → FieldType := fun k => match k with
  | 0 => .int
  | 1 => .int
  | 2 => .object "CloneVolumes$Tape"
  | 3 => .array .char
  | 4 => .object "CloneVolumes$Code"
  | 5 => .int
  | 6 => .int
  | 7 => .int
  | 8 => .int
  | 9 => .int
  | 10 => .int
  | _ => .int
abbrev wsX60 : List Cond := u_ws RX6 TX6 12
theorem nmX6 : ∀ a, a < 12 → ∀ b, b < 12 → a ≠ b → (TX6 a).2.1 ≠ (TX6 b).2.1 := by decide +kernel
theorem tyX6_ok : ∀ k, k < 12 → parseFieldDescriptor (TX6 k).2.2.1 = some (tyX6 k) := by decide +kernel
abbrev cX6_init : ByteArray := prog_8_method_1_code
def yX6_init : MethodName := ⟨RX6, "<init>", "(LCloneVolumes$Tape;)V"⟩
abbrev cX6_readStore : ByteArray := prog_8_method_2_code
def yX6_readStore : MethodName := ⟨RX6, "readStore", "(LCloneVolumes$Plan;)Z"⟩
abbrev cX6_readQuestion : ByteArray := prog_8_method_3_code
def yX6_readQuestion : MethodName := ⟨RX6, "readQuestion", "(LCloneVolumes$Code;)I"⟩
abbrev cX6_begin : ByteArray := prog_8_method_4_code
def yX6_begin : MethodName := ⟨RX6, "begin", "(LCloneVolumes$Code;)V"⟩
abbrev cX6_fail : ByteArray := prog_8_method_5_code
def yX6_fail : MethodName := ⟨RX6, "fail", "(II)Z"⟩
abbrev cX6_advance : ByteArray := prog_8_method_6_code
def yX6_advance : MethodName := ⟨RX6, "advance", "()V"⟩
abbrev cX6_wordNumber : ByteArray := prog_8_method_7_code
def yX6_wordNumber : MethodName := ⟨RX6, "wordNumber", "()I"⟩
abbrev cX6_isBlank : ByteArray := prog_8_method_8_code
def yX6_isBlank : MethodName := ⟨RX6, "isBlank", "(I)Z"⟩
abbrev cX6_isLetter : ByteArray := prog_8_method_9_code
def yX6_isLetter : MethodName := ⟨RX6, "isLetter", "(I)Z"⟩
abbrev cX6_isDigit : ByteArray := prog_8_method_10_code
def yX6_isDigit : MethodName := ⟨RX6, "isDigit", "(I)Z"⟩
abbrev cX6_isWord : ByteArray := prog_8_method_11_code
def yX6_isWord : MethodName := ⟨RX6, "isWord", "(I)Z"⟩
abbrev cX6_isSign : ByteArray := prog_8_method_12_code
def yX6_isSign : MethodName := ⟨RX6, "isSign", "(I)Z"⟩
abbrev cX6_expectWord : ByteArray := prog_8_method_13_code
def yX6_expectWord : MethodName := ⟨RX6, "expectWord", "(I)V"⟩
abbrev cX6_expectSign : ByteArray := prog_8_method_14_code
def yX6_expectSign : MethodName := ⟨RX6, "expectSign", "(I)V"⟩
abbrev cX6_expectNumber : ByteArray := prog_8_method_15_code
def yX6_expectNumber : MethodName := ⟨RX6, "expectNumber", "(II)I"⟩
abbrev cX6_isName : ByteArray := prog_8_method_16_code
def yX6_isName : MethodName := ⟨RX6, "isName", "()Z"⟩
abbrev cX6_expectVolume : ByteArray := prog_8_method_17_code
def yX6_expectVolume : MethodName := ⟨RX6, "expectVolume", "(LCloneVolumes$Plan;)I"⟩
abbrev cX6_readStatement : ByteArray := prog_8_method_18_code
def yX6_readStatement : MethodName := ⟨RX6, "readStatement", "(LCloneVolumes$Plan;)V"⟩
abbrev cX6_readBlocks : ByteArray := prog_8_method_19_code
def yX6_readBlocks : MethodName := ⟨RX6, "readBlocks", "(LCloneVolumes$Plan;)V"⟩
abbrev cX6_readVolume : ByteArray := prog_8_method_20_code
def yX6_readVolume : MethodName := ⟨RX6, "readVolume", "(LCloneVolumes$Plan;I)V"⟩
abbrev cX6_readChange : ByteArray := prog_8_method_21_code
def yX6_readChange : MethodName := ⟨RX6, "readChange", "(LCloneVolumes$Plan;I)V"⟩
abbrev cX6_beginFormula : ByteArray := prog_8_method_22_code
def yX6_beginFormula : MethodName := ⟨RX6, "beginFormula", "(LCloneVolumes$Plan;I)V"⟩
abbrev cX6_readTest : ByteArray := prog_8_method_23_code
def yX6_readTest : MethodName := ⟨RX6, "readTest", "()V"⟩
abbrev cX6_readBoth : ByteArray := prog_8_method_24_code
def yX6_readBoth : MethodName := ⟨RX6, "readBoth", "()V"⟩
abbrev cX6_readFact : ByteArray := prog_8_method_25_code
def yX6_readFact : MethodName := ⟨RX6, "readFact", "()V"⟩
abbrev cX6_comparison : ByteArray := prog_8_method_26_code
def yX6_comparison : MethodName := ⟨RX6, "comparison", "()I"⟩
abbrev cX6_readSum : ByteArray := prog_8_method_27_code
def yX6_readSum : MethodName := ⟨RX6, "readSum", "()V"⟩
abbrev cX6_readProduct : ByteArray := prog_8_method_28_code
def yX6_readProduct : MethodName := ⟨RX6, "readProduct", "()V"⟩
abbrev cX6_readPart : ByteArray := prog_8_method_29_code
def yX6_readPart : MethodName := ⟨RX6, "readPart", "()V"⟩
abbrev cX6_readChoice : ByteArray := prog_8_method_30_code
def yX6_readChoice : MethodName := ⟨RX6, "readChoice", "(I)V"⟩
abbrev cX6_readOther : ByteArray := prog_8_method_31_code
def yX6_readOther : MethodName := ⟨RX6, "readOther", "(I)V"⟩
abbrev cX6_opens : ByteArray := prog_8_method_32_code
def yX6_opens : MethodName := ⟨RX6, "opens", "()Z"⟩
abbrev cX6_isFact : ByteArray := prog_8_method_33_code
def yX6_isFact : MethodName := ⟨RX6, "isFact", "()Z"⟩
def RX7 : String := "CloneVolumes$Sight"
def TX7 : u_T := fun k => match k with
  | 0 => ("CloneVolumes$Sight", "rows", "I", false)
  | 1 => ("CloneVolumes$Sight", "keys", "[I", true)
  | 2 => ("CloneVolumes$Sight", "values", "[I", true)
  | 3 => ("CloneVolumes$Sight", "fit", "[I", true)
  | 4 => ("CloneVolumes$Sight", "fits", "I", false)
  | _ => ("CloneVolumes$Sight", "readings", "[I", true)
def tyX7 : Nat → FieldType := fun k => match k with
  | 0 => .int
  | 1 => .array .int
  | 2 => .array .int
  | 3 => .array .int
  | 4 => .int
  | _ => .array .int
abbrev wsX70 : List Cond := u_ws RX7 TX7 6
theorem nmX7 : ∀ a, a < 6 → ∀ b, b < 6 → a ≠ b → (TX7 a).2.1 ≠ (TX7 b).2.1 := by decide +kernel
theorem tyX7_ok : ∀ k, k < 6 → parseFieldDescriptor (TX7 k).2.2.1 = some (tyX7 k) := by decide +kernel
abbrev cX7_init : ByteArray := prog_9_method_1_code
def yX7_init : MethodName := ⟨RX7, "<init>", "()V"⟩
abbrev cX7_take : ByteArray := prog_9_method_2_code
def yX7_take : MethodName := ⟨RX7, "take", "(LCloneVolumes$Tape;)Z"⟩
abbrev cX7_findFits : ByteArray := prog_9_method_3_code
def yX7_findFits : MethodName := ⟨RX7, "findFits", "(LCloneVolumes$State;)I"⟩
abbrev cX7_agrees : ByteArray := prog_9_method_4_code
def yX7_agrees : MethodName := ⟨RX7, "agrees", "(LCloneVolumes$State;I)Z"⟩
abbrev cX7_mostLeft : ByteArray := prog_9_method_5_code
def yX7_mostLeft : MethodName := ⟨RX7, "mostLeft", "(LCloneVolumes$State;I)I"⟩
abbrev cX7_reading : ByteArray := prog_9_method_6_code
def yX7_reading : MethodName := ⟨RX7, "reading", "(LCloneVolumes$State;II)I"⟩
def RX8 : String := "CloneVolumes$State"
def TX8 : u_T := fun k => match k with
  | 0 => ("CloneVolumes$State", "blocks", "I", false)
  | 1 => ("CloneVolumes$State", "spent", "I", false)
  | 2 => ("CloneVolumes$State", "written", "J", false)
  | 3 => ("CloneVolumes$State", "count", "[I", true)
  | 4 => ("CloneVolumes$State", "saved", "[I", true)
  | 5 => ("CloneVolumes$State", "level", "[I", true)
  | 6 => ("CloneVolumes$State", "size", "[I", true)
  | 7 => ("CloneVolumes$State", "keys", "[I", true)
  | 8 => ("CloneVolumes$State", "values", "[I", true)
  | 9 => ("CloneVolumes$State", "roots", "[I", true)
  | _ => ("CloneVolumes$State", "savedRoots", "[I", true)
def tyX8 : Nat → FieldType := fun k => match k with
  | 0 => .int
  | 1 => .int
  | 2 => .long
  | 3 => .array .int
  | 4 => .array .int
  | 5 => .array .int
  | 6 => .array .int
  | 7 => .array .int
  | 8 => .array .int
  | 9 => .array .int
  | _ => .array .int
abbrev wsX80 : List Cond := u_ws RX8 TX8 11
theorem nmX8 : ∀ a, a < 11 → ∀ b, b < 11 → a ≠ b → (TX8 a).2.1 ≠ (TX8 b).2.1 := by decide +kernel
theorem tyX8_ok : ∀ k, k < 11 → parseFieldDescriptor (TX8 k).2.2.1 = some (tyX8 k) := by decide +kernel
abbrev cX8_init : ByteArray := prog_10_method_1_code
def yX8_init : MethodName := ⟨RX8, "<init>", "()V"⟩
abbrev cX8_clear : ByteArray := prog_10_method_2_code
def yX8_clear : MethodName := ⟨RX8, "clear", "(I)V"⟩
abbrev cX8_become : ByteArray := prog_10_method_3_code
def yX8_become : MethodName := ⟨RX8, "become", "(LCloneVolumes$State;)V"⟩
abbrev cX8_save : ByteArray := prog_10_method_4_code
def yX8_save : MethodName := ⟨RX8, "save", "()V"⟩
abbrev cX8_fallBack : ByteArray := prog_10_method_5_code
def yX8_fallBack : MethodName := ⟨RX8, "fallBack", "()V"⟩
abbrev cX8_isVolume : ByteArray := prog_10_method_6_code
def yX8_isVolume : MethodName := ⟨RX8, "isVolume", "(I)Z"⟩
abbrev cX8_isBlock : ByteArray := prog_10_method_7_code
def yX8_isBlock : MethodName := ⟨RX8, "isBlock", "(I)Z"⟩
abbrev cX8_inUse : ByteArray := prog_10_method_8_code
def yX8_inUse : MethodName := ⟨RX8, "inUse", "(I)Z"⟩
abbrev cX8_isHeld : ByteArray := prog_10_method_9_code
def yX8_isHeld : MethodName := ⟨RX8, "isHeld", "(I)Z"⟩
abbrev cX8_isFresh : ByteArray := prog_10_method_10_code
def yX8_isFresh : MethodName := ⟨RX8, "isFresh", "(I)Z"⟩
abbrev cX8_isFree : ByteArray := prog_10_method_11_code
def yX8_isFree : MethodName := ⟨RX8, "isFree", "(I)Z"⟩
abbrev cX8_levelOf : ByteArray := prog_10_method_12_code
def yX8_levelOf : MethodName := ⟨RX8, "levelOf", "(I)I"⟩
abbrev cX8_sizeOf : ByteArray := prog_10_method_13_code
def yX8_sizeOf : MethodName := ⟨RX8, "sizeOf", "(I)I"⟩
abbrev cX8_volumes : ByteArray := prog_10_method_14_code
def yX8_volumes : MethodName := ⟨RX8, "volumes", "()I"⟩
abbrev cX8_freeNumber : ByteArray := prog_10_method_15_code
def yX8_freeNumber : MethodName := ⟨RX8, "freeNumber", "()I"⟩
abbrev cX8_used : ByteArray := prog_10_method_16_code
def yX8_used : MethodName := ⟨RX8, "used", "()I"⟩
abbrev cX8_held : ByteArray := prog_10_method_17_code
def yX8_held : MethodName := ⟨RX8, "held", "()I"⟩
abbrev cX8_freshBlocks : ByteArray := prog_10_method_18_code
def yX8_freshBlocks : MethodName := ⟨RX8, "freshBlocks", "()I"⟩
abbrev cX8_keptBlocks : ByteArray := prog_10_method_19_code
def yX8_keptBlocks : MethodName := ⟨RX8, "keptBlocks", "()I"⟩
abbrev cX8_slot : ByteArray := prog_10_method_20_code
def yX8_slot : MethodName := ⟨RX8, "slot", "(II)I"⟩
abbrev cX8_entryFor : ByteArray := prog_10_method_21_code
def yX8_entryFor : MethodName := ⟨RX8, "entryFor", "(II)I"⟩
abbrev cX8_below : ByteArray := prog_10_method_22_code
def yX8_below : MethodName := ⟨RX8, "below", "(II)I"⟩
abbrev cX8_find : ByteArray := prog_10_method_23_code
def yX8_find : MethodName := ⟨RX8, "find", "(II)I"⟩
abbrev cX8_valueAt : ByteArray := prog_10_method_24_code
def yX8_valueAt : MethodName := ⟨RX8, "valueAt", "(II)I"⟩
abbrev cX8_insert : ByteArray := prog_10_method_25_code
def yX8_insert : MethodName := ⟨RX8, "insert", "(IIII)V"⟩
abbrev cX8_delete : ByteArray := prog_10_method_26_code
def yX8_delete : MethodName := ⟨RX8, "delete", "(II)V"⟩
abbrev cX8_set : ByteArray := prog_10_method_27_code
def yX8_set : MethodName := ⟨RX8, "set", "(III)V"⟩
abbrev cX8_mark : ByteArray := prog_10_method_28_code
def yX8_mark : MethodName := ⟨RX8, "mark", "(I)V"⟩
def RX9 : String := "CloneVolumes$Tape"
def TX9 : u_T := fun k => match k with
  | 0 => ("CloneVolumes$Tape", "bytes", "[I", true)
  | _ => ("CloneVolumes$Tape", "length", "I", false)
def tyX9 : Nat → FieldType := fun k => match k with
  | 0 => .array .int
  | _ => .int
abbrev wsX90 : List Cond := u_ws RX9 TX9 2
theorem nmX9 : ∀ a, a < 2 → ∀ b, b < 2 → a ≠ b → (TX9 a).2.1 ≠ (TX9 b).2.1 := by decide +kernel
theorem tyX9_ok : ∀ k, k < 2 → parseFieldDescriptor (TX9 k).2.2.1 = some (tyX9 k) := by decide +kernel
abbrev cX9_init : ByteArray := prog_11_method_1_code
def yX9_init : MethodName := ⟨RX9, "<init>", "()V"⟩
abbrev cX9_hasRoom : ByteArray := prog_11_method_2_code
def yX9_hasRoom : MethodName := ⟨RX9, "hasRoom", "()Z"⟩
abbrev cX9_append : ByteArray := prog_11_method_3_code
def yX9_append : MethodName := ⟨RX9, "append", "(I)V"⟩
abbrev cX9_at : ByteArray := prog_11_method_4_code
def yX9_at : MethodName := ⟨RX9, "at", "(I)I"⟩
abbrev cX9_pair : ByteArray := prog_11_method_5_code
def yX9_pair : MethodName := ⟨RX9, "pair", "(I)I"⟩
def RX10 : String := "CloneVolumes$Walk"
def TX10 : u_T := fun k => match k with
  | 0 => ("CloneVolumes$Walk", "row", "[I", true)
  | 1 => ("CloneVolumes$Walk", "length", "I", false)
  | 2 => ("CloneVolumes$Walk", "keys", "[I", true)
  | _ => ("CloneVolumes$Walk", "values", "[I", true)
def tyX10 : Nat → FieldType := fun k => match k with
  | 0 => .array .int
  | 1 => .int
  | 2 => .array .int
  | _ => .array .int
abbrev wsX100 : List Cond := u_ws RX10 TX10 4
theorem nmX10 : ∀ a, a < 4 → ∀ b, b < 4 → a ≠ b → (TX10 a).2.1 ≠ (TX10 b).2.1 := by decide +kernel
theorem tyX10_ok : ∀ k, k < 4 → parseFieldDescriptor (TX10 k).2.2.1 = some (tyX10 k) := by decide +kernel
abbrev cX10_init : ByteArray := prog_12_method_1_code
def yX10_init : MethodName := ⟨RX10, "<init>", "()V"⟩
abbrev cX10_tree : ByteArray := prog_12_method_2_code
def yX10_tree : MethodName := ⟨RX10, "tree", "(LCloneVolumes$State;I)J"⟩
abbrev cX10_gather : ByteArray := prog_12_method_3_code
def yX10_gather : MethodName := ⟨RX10, "gather", "(LCloneVolumes$State;I)I"⟩
def RX11 : String := "CloneVolumes"
def TX11 : u_T := fun k => match k with
  | 0 => ("CloneVolumes", "tape", "LCloneVolumes$Tape;", true)
  | 1 => ("CloneVolumes", "reader", "LCloneVolumes$Reader;", true)
  | 2 => ("CloneVolumes", "history", "LCloneVolumes$History;", true)
  | 3 => ("CloneVolumes", "sight", "LCloneVolumes$Sight;", true)
  | 4 => ("CloneVolumes", "picture", "LCloneVolumes$Picture;", true)
  | 5 => ("CloneVolumes", "walk", "LCloneVolumes$Walk;", true)
  | 6 => ("CloneVolumes", "otherWalk", "LCloneVolumes$Walk;", true)
  | 7 => ("CloneVolumes", "trees", "[J", true)
  | 8 => ("CloneVolumes", "refused", "[I", true)
  | 9 => ("CloneVolumes", "plan", "LCloneVolumes$Plan;", false)
  | 10 => ("CloneVolumes", "spare", "LCloneVolumes$Plan;", false)
  | 11 => ("CloneVolumes", "forest", "LCloneVolumes$Forest;", true)
  | _ => ("CloneVolumes", "told", "Z", false)
def tyX11 : Nat → FieldType := fun k => match k with
  | 0 => .object "CloneVolumes$Tape"
  | 1 => .object "CloneVolumes$Reader"
  | 2 => .object "CloneVolumes$History"
  | 3 => .object "CloneVolumes$Sight"
  | 4 => .object "CloneVolumes$Picture"
  | 5 => .object "CloneVolumes$Walk"
  | 6 => .object "CloneVolumes$Walk"
  | 7 => .array .long
  | 8 => .array .int
  | 9 => .object "CloneVolumes$Plan"
  | 10 => .object "CloneVolumes$Plan"
  | 11 => .object "CloneVolumes$Forest"
  | _ => .boolean
abbrev wsX110 : List Cond := u_ws RX11 TX11 13
theorem nmX11 : ∀ a, a < 13 → ∀ b, b < 13 → a ≠ b → (TX11 a).2.1 ≠ (TX11 b).2.1 := by decide +kernel
theorem tyX11_ok : ∀ k, k < 13 → parseFieldDescriptor (TX11 k).2.2.1 = some (tyX11 k) := by decide +kernel
abbrev cX11_init : ByteArray := prog_1_method_1_code
def yX11_init : MethodName := ⟨RX11, "<init>", "()V"⟩
abbrev cX11_feed : ByteArray := prog_1_method_2_code
def yX11_feed : MethodName := ⟨RX11, "feed", "(IIIII)I"⟩
abbrev cX11_end : ByteArray := prog_1_method_3_code
def yX11_end : MethodName := ⟨RX11, "end", "(I)Z"⟩
abbrev cX11_store : ByteArray := prog_1_method_4_code
def yX11_store : MethodName := ⟨RX11, "store", "()I"⟩
abbrev cX11_fault : ByteArray := prog_1_method_5_code
def yX11_fault : MethodName := ⟨RX11, "fault", "(I)I"⟩
abbrev cX11_has : ByteArray := prog_1_method_6_code
def yX11_has : MethodName := ⟨RX11, "has", "(I)I"⟩
abbrev cX11_letter : ByteArray := prog_1_method_7_code
def yX11_letter : MethodName := ⟨RX11, "letter", "(II)I"⟩
abbrev cX11_volume : ByteArray := prog_1_method_8_code
def yX11_volume : MethodName := ⟨RX11, "volume", "(II)I"⟩
abbrev cX11_block : ByteArray := prog_1_method_9_code
def yX11_block : MethodName := ⟨RX11, "block", "(II)I"⟩
abbrev cX11_entry : ByteArray := prog_1_method_10_code
def yX11_entry : MethodName := ⟨RX11, "entry", "(III)I"⟩
abbrev cX11_kept : ByteArray := prog_1_method_11_code
def yX11_kept : MethodName := ⟨RX11, "kept", "(II)I"⟩
abbrev cX11_read : ByteArray := prog_1_method_12_code
def yX11_read : MethodName := ⟨RX11, "read", "(II)I"⟩
abbrev cX11_key : ByteArray := prog_1_method_13_code
def yX11_key : MethodName := ⟨RX11, "key", "(II)I"⟩
abbrev cX11_total : ByteArray := prog_1_method_14_code
def yX11_total : MethodName := ⟨RX11, "total", "(III)I"⟩
abbrev cX11_path : ByteArray := prog_1_method_15_code
def yX11_path : MethodName := ⟨RX11, "path", "(III)I"⟩
abbrev cX11_shared : ByteArray := prog_1_method_16_code
def yX11_shared : MethodName := ⟨RX11, "shared", "(II)I"⟩
abbrev cX11_differs : ByteArray := prog_1_method_17_code
def yX11_differs : MethodName := ⟨RX11, "differs", "(III)I"⟩
abbrev cX11_writes : ByteArray := prog_1_method_18_code
def yX11_writes : MethodName := ⟨RX11, "writes", "(III)I"⟩
abbrev cX11_spread : ByteArray := prog_1_method_19_code
def yX11_spread : MethodName := ⟨RX11, "spread", "(II)I"⟩
abbrev cX11_lost : ByteArray := prog_1_method_20_code
def yX11_lost : MethodName := ⟨RX11, "lost", "(I)I"⟩
abbrev cX11_worst : ByteArray := prog_1_method_21_code
def yX11_worst : MethodName := ⟨RX11, "worst", "(I)I"⟩
abbrev cX11_victim : ByteArray := prog_1_method_22_code
def yX11_victim : MethodName := ⟨RX11, "victim", "(I)I"⟩
abbrev cX11_room : ByteArray := prog_1_method_23_code
def yX11_room : MethodName := ⟨RX11, "room", "(I)I"⟩
abbrev cX11_back : ByteArray := prog_1_method_24_code
def yX11_back : MethodName := ⟨RX11, "back", "(I)I"⟩
abbrev cX11_see : ByteArray := prog_1_method_25_code
def yX11_see : MethodName := ⟨RX11, "see", "()I"⟩
abbrev cX11_fits : ByteArray := prog_1_method_26_code
def yX11_fits : MethodName := ⟨RX11, "fits", "(I)I"⟩
abbrev cX11_tells : ByteArray := prog_1_method_27_code
def yX11_tells : MethodName := ⟨RX11, "tells", "(I)I"⟩
abbrev cX11_put : ByteArray := prog_1_method_28_code
def yX11_put : MethodName := ⟨RX11, "put", "(III)I"⟩
abbrev cX11_remove : ByteArray := prog_1_method_29_code
def yX11_remove : MethodName := ⟨RX11, "remove", "(II)I"⟩
abbrev cX11_copy : ByteArray := prog_1_method_30_code
def yX11_copy : MethodName := ⟨RX11, "copy", "(I)I"⟩
abbrev cX11_drop : ByteArray := prog_1_method_31_code
def yX11_drop : MethodName := ⟨RX11, "drop", "(I)I"⟩
abbrev cX11_checkpoint : ByteArray := prog_1_method_32_code
def yX11_checkpoint : MethodName := ⟨RX11, "checkpoint", "()I"⟩
abbrev cX11_crash : ByteArray := prog_1_method_33_code
def yX11_crash : MethodName := ⟨RX11, "crash", "()I"⟩
abbrev cX11_chance : ByteArray := prog_1_method_34_code
def yX11_chance : MethodName := ⟨RX11, "chance", "(I)I"⟩
abbrev cX11_undo : ByteArray := prog_1_method_35_code
def yX11_undo : MethodName := ⟨RX11, "undo", "()Z"⟩
abbrev cX11_seed : ByteArray := prog_1_method_36_code
def yX11_seed : MethodName := ⟨RX11, "seed", "(I)Z"⟩
abbrev cX11_ask : ByteArray := prog_1_method_37_code
def yX11_ask : MethodName := ⟨RX11, "ask", "()J"⟩
abbrev cX11_image : ByteArray := prog_1_method_38_code
def yX11_image : MethodName := ⟨RX11, "image", "()I"⟩
abbrev cX11_octet : ByteArray := prog_1_method_39_code
def yX11_octet : MethodName := ⟨RX11, "octet", "(I)I"⟩
abbrev cX11_on : ByteArray := prog_1_method_40_code
def yX11_on : MethodName := ⟨RX11, "on", "()Z"⟩
abbrev cX11_status : ByteArray := prog_1_method_41_code
def yX11_status : MethodName := ⟨RX11, "status", "(I)I"⟩
abbrev cX11_refuse : ByteArray := prog_1_method_42_code
def yX11_refuse : MethodName := ⟨RX11, "refuse", "(I)I"⟩
abbrev cX11_isKey : ByteArray := prog_1_method_43_code
def yX11_isKey : MethodName := ⟨RX11, "isKey", "(I)Z"⟩
abbrev cX11_oneOf : ByteArray := prog_1_method_44_code
def yX11_oneOf : MethodName := ⟨RX11, "oneOf", "(III)I"⟩
abbrev cX11_finish : ByteArray := prog_1_method_45_code
def yX11_finish : MethodName := ⟨RX11, "finish", "(II)I"⟩
abbrev cX11_unlike : ByteArray := prog_1_method_46_code
def yX11_unlike : MethodName := ⟨RX11, "unlike", "(III)I"⟩
abbrev cX11_growTrees : ByteArray := prog_1_method_47_code
def yX11_growTrees : MethodName := ⟨RX11, "growTrees", "()V"⟩
abbrev cX11_lostWith : ByteArray := prog_1_method_48_code
def yX11_lostWith : MethodName := ⟨RX11, "lostWith", "(I)I"⟩
abbrev cX11_answerTest : ByteArray := prog_1_method_49_code
def yX11_answerTest : MethodName := ⟨RX11, "answerTest", "(I)J"⟩
abbrev cX11_answerSum : ByteArray := prog_1_method_50_code
def yX11_answerSum : MethodName := ⟨RX11, "answerSum", "(I)J"⟩
def RX12 : String := "CloneVolumesModel"
def TX12 : u_T := fun k => match k with
  | 0 => ("CloneVolumesModel", "tape", "[I", true)
  | 1 => ("CloneVolumesModel", "taped", "I", false)
  | 2 => ("CloneVolumesModel", "at", "I", false)
  | 3 => ("CloneVolumesModel", "end", "I", false)
  | 4 => ("CloneVolumesModel", "ended", "I", false)
  | 5 => ("CloneVolumesModel", "bad", "I", false)
  | 6 => ("CloneVolumesModel", "badPlace", "I", false)
  | 7 => ("CloneVolumesModel", "fault", "I", false)
  | 8 => ("CloneVolumesModel", "faultPlace", "I", false)
  | 9 => ("CloneVolumesModel", "refused", "[I", true)
  | 10 => ("CloneVolumesModel", "numberPlace", "I", false)
  | 11 => ("CloneVolumesModel", "blocksWord", "[C", true)
  | 12 => ("CloneVolumesModel", "roomWord", "[C", true)
  | 13 => ("CloneVolumesModel", "volumeWord", "[C", true)
  | 14 => ("CloneVolumesModel", "cloneWord", "[C", true)
  | 15 => ("CloneVolumesModel", "ofWord", "[C", true)
  | 16 => ("CloneVolumesModel", "putWord", "[C", true)
  | 17 => ("CloneVolumesModel", "removeWord", "[C", true)
  | 18 => ("CloneVolumesModel", "picksWord", "[C", true)
  | 19 => ("CloneVolumesModel", "splitsWord", "[C", true)
  | 20 => ("CloneVolumesModel", "costsWord", "[C", true)
  | 21 => ("CloneVolumesModel", "churnWord", "[C", true)
  | 22 => ("CloneVolumesModel", "blockWord", "[C", true)
  | 23 => ("CloneVolumesModel", "fromWord", "[C", true)
  | 24 => ("CloneVolumesModel", "levelWord", "[C", true)
  | 25 => ("CloneVolumesModel", "entriesWord", "[C", true)
  | 26 => ("CloneVolumesModel", "numberWord", "[C", true)
  | 27 => ("CloneVolumesModel", "countWord", "[C", true)
  | 28 => ("CloneVolumesModel", "freshWord", "[C", true)
  | 29 => ("CloneVolumesModel", "savedWord", "[C", true)
  | 30 => ("CloneVolumesModel", "refsWord", "[C", true)
  | 31 => ("CloneVolumesModel", "keyWord", "[C", true)
  | 32 => ("CloneVolumesModel", "orWord", "[C", true)
  | 33 => ("CloneVolumesModel", "andWord", "[C", true)
  | 34 => ("CloneVolumesModel", "notWord", "[C", true)
  | 35 => ("CloneVolumesModel", "allWord", "[C", true)
  | 36 => ("CloneVolumesModel", "minWord", "[C", true)
  | 37 => ("CloneVolumesModel", "maxWord", "[C", true)
  | 38 => ("CloneVolumesModel", "namePlace", "I", false)
  | 39 => ("CloneVolumesModel", "many", "[I", true)
  | 40 => ("CloneVolumesModel", "names", "[J", true)
  | 41 => ("CloneVolumesModel", "acts", "[I", true)
  | 42 => ("CloneVolumesModel", "codeFrom", "[I", true)
  | 43 => ("CloneVolumesModel", "codeEnd", "[I", true)
  | 44 => ("CloneVolumesModel", "codes", "[I", true)
  | 45 => ("CloneVolumesModel", "coded", "I", false)
  | 46 => ("CloneVolumesModel", "statements", "I", false)
  | 47 => ("CloneVolumesModel", "isTold", "Z", false)
  | 48 => ("CloneVolumesModel", "textKind", "I", false)
  | 49 => ("CloneVolumesModel", "now", "[I", true)
  | 50 => ("CloneVolumesModel", "askBlock", "I", false)
  | 51 => ("CloneVolumesModel", "askFrom", "I", false)
  | 52 => ("CloneVolumesModel", "askLevel", "I", false)
  | 53 => ("CloneVolumesModel", "askEntries", "I", false)
  | 54 => ("CloneVolumesModel", "isTouched", "[Z", true)
  | 55 => ("CloneVolumesModel", "isFull", "Z", false)
  | 56 => ("CloneVolumesModel", "fallRow", "[I", true)
  | 57 => ("CloneVolumesModel", "wayBlocks", "[I", true)
  | 58 => ("CloneVolumesModel", "wayPlaces", "[I", true)
  | 59 => ("CloneVolumesModel", "tried", "[I", true)
  | 60 => ("CloneVolumesModel", "wasTouched", "[Z", true)
  | 61 => ("CloneVolumesModel", "aside", "[I", true)
  | 62 => ("CloneVolumesModel", "treeRow", "[I", true)
  | 63 => ("CloneVolumesModel", "isInTree", "[Z", true)
  | 64 => ("CloneVolumesModel", "keyRow", "[I", true)
  | 65 => ("CloneVolumesModel", "valueRow", "[I", true)
  | 66 => ("CloneVolumesModel", "leafRow", "[I", true)
  | 67 => ("CloneVolumesModel", "keyMany", "I", false)
  | 68 => ("CloneVolumesModel", "treeMany", "I", false)
  | 69 => ("CloneVolumesModel", "wasInTree", "[Z", true)
  | 70 => ("CloneVolumesModel", "writeMany", "I", false)
  | 71 => ("CloneVolumesModel", "writeCost", "I", false)
  | 72 => ("CloneVolumesModel", "lostBy", "[I", true)
  | 73 => ("CloneVolumesModel", "rowMany", "I", false)
  | 74 => ("CloneVolumesModel", "rows", "[I", true)
  | 75 => ("CloneVolumesModel", "kept0", "[I", true)
  | 76 => ("CloneVolumesModel", "undoable", "I", false)
  | 77 => ("CloneVolumesModel", "newest", "I", false)
  | 78 => ("CloneVolumesModel", "seeded", "J", false)
  | 79 => ("CloneVolumesModel", "firstAsked", "[C", true)
  | 80 => ("CloneVolumesModel", "lastAsked", "[C", true)
  | 81 => ("CloneVolumesModel", "oftenAsked", "[C", true)
  | 82 => ("CloneVolumesModel", "totalAsked", "[C", true)
  | 83 => ("CloneVolumesModel", "mostAsked", "[C", true)
  | 84 => ("CloneVolumesModel", "leastAsked", "[C", true)
  | 85 => ("CloneVolumesModel", "notAsked", "[C", true)
  | 86 => ("CloneVolumesModel", "andAsked", "[C", true)
  | 87 => ("CloneVolumesModel", "orAsked", "[C", true)
  | 88 => ("CloneVolumesModel", "allAsked", "[C", true)
  | 89 => ("CloneVolumesModel", "minAsked", "[C", true)
  | 90 => ("CloneVolumesModel", "maxAsked", "[C", true)
  | 91 => ("CloneVolumesModel", "levelAsked", "[C", true)
  | 92 => ("CloneVolumesModel", "blockAsked", "[C", true)
  | 93 => ("CloneVolumesModel", "fromAsked", "[C", true)
  | 94 => ("CloneVolumesModel", "entriesAsked", "[C", true)
  | 95 => ("CloneVolumesModel", "numberAsked", "[C", true)
  | 96 => ("CloneVolumesModel", "countAsked", "[C", true)
  | 97 => ("CloneVolumesModel", "freshAsked", "[C", true)
  | 98 => ("CloneVolumesModel", "savedAsked", "[C", true)
  | 99 => ("CloneVolumesModel", "refsAsked", "[C", true)
  | 100 => ("CloneVolumesModel", "keyAsked", "[C", true)
  | 101 => ("CloneVolumesModel", "qCodes", "[I", true)
  | 102 => ("CloneVolumesModel", "qCoded", "I", false)
  | 103 => ("CloneVolumesModel", "qWait", "[I", true)
  | 104 => ("CloneVolumesModel", "qWaits", "I", false)
  | 105 => ("CloneVolumesModel", "qOpened", "I", false)
  | 106 => ("CloneVolumesModel", "qBase", "I", false)
  | 107 => ("CloneVolumesModel", "qPile", "[J", true)
  | 108 => ("CloneVolumesModel", "qPiled", "I", false)
  | 109 => ("CloneVolumesModel", "qAnswer", "J", false)
  | 110 => ("CloneVolumesModel", "qIsNew", "Z", false)
  | 111 => ("CloneVolumesModel", "octet", "[I", true)
  | 112 => ("CloneVolumesModel", "octets", "I", false)
  | 113 => ("CloneVolumesModel", "laid", "[I", true)
  | 114 => ("CloneVolumesModel", "read0", "I", false)
  | _ => ("CloneVolumesModel", "recount", "[I", true)
def tyX12 : Nat → FieldType := fun k => match k with
  | 0 => .array .int
  | 1 => .int
  | 2 => .int
  | 3 => .int
  | 4 => .int
  | 5 => .int
  | 6 => .int
  | 7 => .int
  | 8 => .int
  | 9 => .array .int
  | 10 => .int
  | 11 => .array .char
  | 12 => .array .char
  | 13 => .array .char
  | 14 => .array .char
  | 15 => .array .char
  | 16 => .array .char
  | 17 => .array .char
  | 18 => .array .char
  | 19 => .array .char
  | 20 => .array .char
  | 21 => .array .char
  | 22 => .array .char
  | 23 => .array .char
  | 24 => .array .char
  | 25 => .array .char
  | 26 => .array .char
  | 27 => .array .char
  | 28 => .array .char
  | 29 => .array .char
  | 30 => .array .char
  | 31 => .array .char
  | 32 => .array .char
  | 33 => .array .char
  | 34 => .array .char
  | 35 => .array .char
  | 36 => .array .char
  | 37 => .array .char
  | 38 => .int
  | 39 => .array .int
  | 40 => .array .long
  | 41 => .array .int
  | 42 => .array .int
  | 43 => .array .int
  | 44 => .array .int
  | 45 => .int
  | 46 => .int
  | 47 => .boolean
  | 48 => .int
  | 49 => .array .int
  | 50 => .int
  | 51 => .int
  | 52 => .int
  | 53 => .int
  | 54 => .array .boolean
  | 55 => .boolean
  | 56 => .array .int
  | 57 => .array .int
  | 58 => .array .int
  | 59 => .array .int
  | 60 => .array .boolean
  | 61 => .array .int
  | 62 => .array .int
  | 63 => .array .boolean
  | 64 => .array .int
  | 65 => .array .int
  | 66 => .array .int
  | 67 => .int
  | 68 => .int
  | 69 => .array .boolean
  | 70 => .int
  | 71 => .int
  | 72 => .array .int
  | 73 => .int
  | 74 => .array .int
  | 75 => .array .int
  | 76 => .int
  | 77 => .int
  | 78 => .long
  | 79 => .array .char
  | 80 => .array .char
  | 81 => .array .char
  | 82 => .array .char
  | 83 => .array .char
  | 84 => .array .char
  | 85 => .array .char
  | 86 => .array .char
  | 87 => .array .char
  | 88 => .array .char
  | 89 => .array .char
  | 90 => .array .char
  | 91 => .array .char
  | 92 => .array .char
  | 93 => .array .char
  | 94 => .array .char
  | 95 => .array .char
  | 96 => .array .char
  | 97 => .array .char
  | 98 => .array .char
  | 99 => .array .char
  | 100 => .array .char
  | 101 => .array .int
  | 102 => .int
  | 103 => .array .int
  | 104 => .int
  | 105 => .int
  | 106 => .int
  | 107 => .array .long
  | 108 => .int
  | 109 => .long
  | 110 => .boolean
  | 111 => .array .int
  | 112 => .int
  | 113 => .array .int
  | 114 => .int
  | _ => .array .int
abbrev wsX120 : List Cond := u_ws RX12 TX12 116
theorem nmX12 : ∀ a, a < 116 → ∀ b, b < 116 → a ≠ b → (TX12 a).2.1 ≠ (TX12 b).2.1 := by decide +kernel
theorem tyX12_ok : ∀ k, k < 116 → parseFieldDescriptor (TX12 k).2.2.1 = some (tyX12 k) := by decide +kernel
abbrev cX12_init : ByteArray := prog_14_method_1_code
def yX12_init : MethodName := ⟨RX12, "<init>", "()V"⟩
abbrev cX12_isIn : ByteArray := prog_14_method_2_code
def yX12_isIn : MethodName := ⟨RX12, "isIn", "(JJJ)Z"⟩
abbrev cX12_clamp : ByteArray := prog_14_method_3_code
def yX12_clamp : MethodName := ⟨RX12, "clamp", "(J)I"⟩
abbrev cX12_feed : ByteArray := prog_14_method_4_code
def yX12_feed : MethodName := ⟨RX12, "feed", "(IIIII)I"⟩
abbrev cX12_end : ByteArray := prog_14_method_5_code
def yX12_end : MethodName := ⟨RX12, "end", "(I)Z"⟩
abbrev cX12_fail : ByteArray := prog_14_method_6_code
def yX12_fail : MethodName := ⟨RX12, "fail", "(II)V"⟩
abbrev cX12_isLetter : ByteArray := prog_14_method_7_code
def yX12_isLetter : MethodName := ⟨RX12, "isLetter", "(I)Z"⟩
abbrev cX12_isDigit : ByteArray := prog_14_method_8_code
def yX12_isDigit : MethodName := ⟨RX12, "isDigit", "(I)Z"⟩
abbrev cX12_look : ByteArray := prog_14_method_9_code
def yX12_look : MethodName := ⟨RX12, "look", "()I"⟩
abbrev cX12_isHere : ByteArray := prog_14_method_10_code
def yX12_isHere : MethodName := ⟨RX12, "isHere", "([C)Z"⟩
abbrev cX12_takes : ByteArray := prog_14_method_11_code
def yX12_takes : MethodName := ⟨RX12, "takes", "([C)Z"⟩
abbrev cX12_asks : ByteArray := prog_14_method_12_code
def yX12_asks : MethodName := ⟨RX12, "asks", "([C)V"⟩
abbrev cX12_takesSign : ByteArray := prog_14_method_13_code
def yX12_takesSign : MethodName := ⟨RX12, "takesSign", "(I)Z"⟩
abbrev cX12_asksSign : ByteArray := prog_14_method_14_code
def yX12_asksSign : MethodName := ⟨RX12, "asksSign", "(I)V"⟩
abbrev cX12_number : ByteArray := prog_14_method_15_code
def yX12_number : MethodName := ⟨RX12, "number", "(II)I"⟩
abbrev cX12_isOwnHere : ByteArray := prog_14_method_16_code
def yX12_isOwnHere : MethodName := ⟨RX12, "isOwnHere", "()Z"⟩
abbrev cX12_name : ByteArray := prog_14_method_17_code
def yX12_name : MethodName := ⟨RX12, "name", "()J"⟩
abbrev cX12_isAllowed : ByteArray := prog_14_method_18_code
def yX12_isAllowed : MethodName := ⟨RX12, "isAllowed", "(I)Z"⟩
abbrev cX12_storeTold : ByteArray := prog_14_method_19_code
def yX12_storeTold : MethodName := ⟨RX12, "storeTold", "()V"⟩
abbrev cX12_actTold : ByteArray := prog_14_method_20_code
def yX12_actTold : MethodName := ⟨RX12, "actTold", "(IIII)V"⟩
abbrev cX12_newName : ByteArray := prog_14_method_21_code
def yX12_newName : MethodName := ⟨RX12, "newName", "()J"⟩
abbrev cX12_volumeNamed : ByteArray := prog_14_method_22_code
def yX12_volumeNamed : MethodName := ⟨RX12, "volumeNamed", "()I"⟩
abbrev cX12_volumeTold : ByteArray := prog_14_method_23_code
def yX12_volumeTold : MethodName := ⟨RX12, "volumeTold", "(ZI)V"⟩
abbrev cX12_putTold : ByteArray := prog_14_method_24_code
def yX12_putTold : MethodName := ⟨RX12, "putTold", "()V"⟩
abbrev cX12_removeTold : ByteArray := prog_14_method_25_code
def yX12_removeTold : MethodName := ⟨RX12, "removeTold", "()V"⟩
abbrev cX12_codesTold : ByteArray := prog_14_method_26_code
def yX12_codesTold : MethodName := ⟨RX12, "codesTold", "(II)V"⟩
abbrev cX12_statementTold : ByteArray := prog_14_method_27_code
def yX12_statementTold : MethodName := ⟨RX12, "statementTold", "()V"⟩
abbrev cX12_store : ByteArray := prog_14_method_28_code
def yX12_store : MethodName := ⟨RX12, "store", "()I"⟩
abbrev cX12_stands : ByteArray := prog_14_method_29_code
def yX12_stands : MethodName := ⟨RX12, "stands", "()V"⟩
abbrev cX12_actGoes : ByteArray := prog_14_method_30_code
def yX12_actGoes : MethodName := ⟨RX12, "actGoes", "(IIII)V"⟩
abbrev cX12_fault : ByteArray := prog_14_method_31_code
def yX12_fault : MethodName := ⟨RX12, "fault", "(I)I"⟩
abbrev cX12_blockMany : ByteArray := prog_14_method_32_code
def yX12_blockMany : MethodName := ⟨RX12, "blockMany", "()I"⟩
abbrev cX12_roomOf : ByteArray := prog_14_method_33_code
def yX12_roomOf : MethodName := ⟨RX12, "roomOf", "()I"⟩
abbrev cX12_isBlock : ByteArray := prog_14_method_34_code
def yX12_isBlock : MethodName := ⟨RX12, "isBlock", "(J)Z"⟩
abbrev cX12_countOf : ByteArray := prog_14_method_35_code
def yX12_countOf : MethodName := ⟨RX12, "countOf", "(I)I"⟩
abbrev cX12_savedOf : ByteArray := prog_14_method_36_code
def yX12_savedOf : MethodName := ⟨RX12, "savedOf", "(I)I"⟩
abbrev cX12_levelOf : ByteArray := prog_14_method_37_code
def yX12_levelOf : MethodName := ⟨RX12, "levelOf", "(I)I"⟩
abbrev cX12_entriesOf : ByteArray := prog_14_method_38_code
def yX12_entriesOf : MethodName := ⟨RX12, "entriesOf", "(I)I"⟩
abbrev cX12_keyAt : ByteArray := prog_14_method_39_code
def yX12_keyAt : MethodName := ⟨RX12, "keyAt", "(II)I"⟩
abbrev cX12_valueAt : ByteArray := prog_14_method_40_code
def yX12_valueAt : MethodName := ⟨RX12, "valueAt", "(II)I"⟩
abbrev cX12_counts : ByteArray := prog_14_method_41_code
def yX12_counts : MethodName := ⟨RX12, "counts", "(II)V"⟩
abbrev cX12_isUsed : ByteArray := prog_14_method_42_code
def yX12_isUsed : MethodName := ⟨RX12, "isUsed", "(I)Z"⟩
abbrev cX12_isThere : ByteArray := prog_14_method_43_code
def yX12_isThere : MethodName := ⟨RX12, "isThere", "(I)Z"⟩
abbrev cX12_isFresh : ByteArray := prog_14_method_44_code
def yX12_isFresh : MethodName := ⟨RX12, "isFresh", "(I)Z"⟩
abbrev cX12_isHeld : ByteArray := prog_14_method_45_code
def yX12_isHeld : MethodName := ⟨RX12, "isHeld", "(I)Z"⟩
abbrev cX12_isVolume : ByteArray := prog_14_method_46_code
def yX12_isVolume : MethodName := ⟨RX12, "isVolume", "(J)Z"⟩
abbrev cX12_isCoded : ByteArray := prog_14_method_47_code
def yX12_isCoded : MethodName := ⟨RX12, "isCoded", "(I)Z"⟩
abbrev cX12_codesTell : ByteArray := prog_14_method_48_code
def yX12_codesTell : MethodName := ⟨RX12, "codesTell", "(I)J"⟩
abbrev cX12_clearsTouched : ByteArray := prog_14_method_49_code
def yX12_clearsTouched : MethodName := ⟨RX12, "clearsTouched", "()V"⟩
abbrev cX12_costOf : ByteArray := prog_14_method_50_code
def yX12_costOf : MethodName := ⟨RX12, "costOf", "(I)I"⟩
abbrev cX12_writtenMany : ByteArray := prog_14_method_51_code
def yX12_writtenMany : MethodName := ⟨RX12, "writtenMany", "()I"⟩
abbrev cX12_writtenCost : ByteArray := prog_14_method_52_code
def yX12_writtenCost : MethodName := ⟨RX12, "writtenCost", "()I"⟩
abbrev cX12_isKept : ByteArray := prog_14_method_53_code
def yX12_isKept : MethodName := ⟨RX12, "isKept", "(II)V"⟩
abbrev cX12_taken : ByteArray := prog_14_method_54_code
def yX12_taken : MethodName := ⟨RX12, "taken", "(II)I"⟩
abbrev cX12_falls : ByteArray := prog_14_method_55_code
def yX12_falls : MethodName := ⟨RX12, "falls", "(I)V"⟩
abbrev cX12_owned : ByteArray := prog_14_method_56_code
def yX12_owned : MethodName := ⟨RX12, "owned", "(I)I"⟩
abbrev cX12_setsEntry : ByteArray := prog_14_method_57_code
def yX12_setsEntry : MethodName := ⟨RX12, "setsEntry", "(IIII)V"⟩
abbrev cX12_inserts : ByteArray := prog_14_method_58_code
def yX12_inserts : MethodName := ⟨RX12, "inserts", "(IIII)V"⟩
abbrev cX12_cutsEntry : ByteArray := prog_14_method_59_code
def yX12_cutsEntry : MethodName := ⟨RX12, "cutsEntry", "(II)V"⟩
abbrev cX12_placeFor : ByteArray := prog_14_method_60_code
def yX12_placeFor : MethodName := ⟨RX12, "placeFor", "(II)I"⟩
abbrev cX12_placeIn : ByteArray := prog_14_method_61_code
def yX12_placeIn : MethodName := ⟨RX12, "placeIn", "(II)I"⟩
abbrev cX12_doesSplit : ByteArray := prog_14_method_62_code
def yX12_doesSplit : MethodName := ⟨RX12, "doesSplit", "(I)Z"⟩
abbrev cX12_half : ByteArray := prog_14_method_63_code
def yX12_half : MethodName := ⟨RX12, "half", "(IIII)I"⟩
abbrev cX12_rootSplit : ByteArray := prog_14_method_64_code
def yX12_rootSplit : MethodName := ⟨RX12, "rootSplit", "(III)I"⟩
abbrev cX12_puts : ByteArray := prog_14_method_65_code
def yX12_puts : MethodName := ⟨RX12, "puts", "(III)V"⟩
abbrev cX12_putsIn : ByteArray := prog_14_method_66_code
def yX12_putsIn : MethodName := ⟨RX12, "putsIn", "(III)V"⟩
abbrev cX12_removes : ByteArray := prog_14_method_67_code
def yX12_removes : MethodName := ⟨RX12, "removes", "(II)V"⟩
abbrev cX12_lowers : ByteArray := prog_14_method_68_code
def yX12_lowers : MethodName := ⟨RX12, "lowers", "(I)V"⟩
abbrev cX12_tries : ByteArray := prog_14_method_69_code
def yX12_tries : MethodName := ⟨RX12, "tries", "(IIII)Z"⟩
abbrev cX12_copies : ByteArray := prog_14_method_70_code
def yX12_copies : MethodName := ⟨RX12, "copies", "(II)V"⟩
abbrev cX12_drops : ByteArray := prog_14_method_71_code
def yX12_drops : MethodName := ⟨RX12, "drops", "(I)V"⟩
abbrev cX12_checks : ByteArray := prog_14_method_72_code
def yX12_checks : MethodName := ⟨RX12, "checks", "()V"⟩
abbrev cX12_crashes : ByteArray := prog_14_method_73_code
def yX12_crashes : MethodName := ⟨RX12, "crashes", "()V"⟩
abbrev cX12_putsAside : ByteArray := prog_14_method_74_code
def yX12_putsAside : MethodName := ⟨RX12, "putsAside", "()V"⟩
abbrev cX12_takesBack : ByteArray := prog_14_method_75_code
def yX12_takesBack : MethodName := ⟨RX12, "takesBack", "()V"⟩
abbrev cX12_volumeMany : ByteArray := prog_14_method_76_code
def yX12_volumeMany : MethodName := ⟨RX12, "volumeMany", "()I"⟩
abbrev cX12_usedMany : ByteArray := prog_14_method_77_code
def yX12_usedMany : MethodName := ⟨RX12, "usedMany", "()I"⟩
abbrev cX12_heldMany : ByteArray := prog_14_method_78_code
def yX12_heldMany : MethodName := ⟨RX12, "heldMany", "()I"⟩
abbrev cX12_freeMany : ByteArray := prog_14_method_79_code
def yX12_freeMany : MethodName := ⟨RX12, "freeMany", "()I"⟩
abbrev cX12_has : ByteArray := prog_14_method_80_code
def yX12_has : MethodName := ⟨RX12, "has", "(I)I"⟩
abbrev cX12_letter : ByteArray := prog_14_method_81_code
def yX12_letter : MethodName := ⟨RX12, "letter", "(II)I"⟩
abbrev cX12_laysTree : ByteArray := prog_14_method_82_code
def yX12_laysTree : MethodName := ⟨RX12, "laysTree", "(I)V"⟩
abbrev cX12_laysLeaf : ByteArray := prog_14_method_83_code
def yX12_laysLeaf : MethodName := ⟨RX12, "laysLeaf", "(I)V"⟩
abbrev cX12_dropsMany : ByteArray := prog_14_method_84_code
def yX12_dropsMany : MethodName := ⟨RX12, "dropsMany", "(I)I"⟩
abbrev cX12_volume : ByteArray := prog_14_method_85_code
def yX12_volume : MethodName := ⟨RX12, "volume", "(II)I"⟩
abbrev cX12_block : ByteArray := prog_14_method_86_code
def yX12_block : MethodName := ⟨RX12, "block", "(II)I"⟩
abbrev cX12_entry : ByteArray := prog_14_method_87_code
def yX12_entry : MethodName := ⟨RX12, "entry", "(III)I"⟩
abbrev cX12_kept : ByteArray := prog_14_method_88_code
def yX12_kept : MethodName := ⟨RX12, "kept", "(II)I"⟩
abbrev cX12_valueFrom : ByteArray := prog_14_method_89_code
def yX12_valueFrom : MethodName := ⟨RX12, "valueFrom", "(II)I"⟩
abbrev cX12_valueOf : ByteArray := prog_14_method_90_code
def yX12_valueOf : MethodName := ⟨RX12, "valueOf", "(II)I"⟩
abbrev cX12_read : ByteArray := prog_14_method_91_code
def yX12_read : MethodName := ⟨RX12, "read", "(II)I"⟩
abbrev cX12_key : ByteArray := prog_14_method_92_code
def yX12_key : MethodName := ⟨RX12, "key", "(II)I"⟩
abbrev cX12_total : ByteArray := prog_14_method_93_code
def yX12_total : MethodName := ⟨RX12, "total", "(III)I"⟩
abbrev cX12_path : ByteArray := prog_14_method_94_code
def yX12_path : MethodName := ⟨RX12, "path", "(III)I"⟩
abbrev cX12_shared : ByteArray := prog_14_method_95_code
def yX12_shared : MethodName := ⟨RX12, "shared", "(II)I"⟩
abbrev cX12_unlike : ByteArray := prog_14_method_96_code
def yX12_unlike : MethodName := ⟨RX12, "unlike", "(III)I"⟩
abbrev cX12_differs : ByteArray := prog_14_method_97_code
def yX12_differs : MethodName := ⟨RX12, "differs", "(III)I"⟩
abbrev cX12_laysWrites : ByteArray := prog_14_method_98_code
def yX12_laysWrites : MethodName := ⟨RX12, "laysWrites", "(II)V"⟩
abbrev cX12_writes : ByteArray := prog_14_method_99_code
def yX12_writes : MethodName := ⟨RX12, "writes", "(III)I"⟩
abbrev cX12_spread : ByteArray := prog_14_method_100_code
def yX12_spread : MethodName := ⟨RX12, "spread", "(II)I"⟩
abbrev cX12_laysLost : ByteArray := prog_14_method_101_code
def yX12_laysLost : MethodName := ⟨RX12, "laysLost", "()V"⟩
abbrev cX12_lost : ByteArray := prog_14_method_102_code
def yX12_lost : MethodName := ⟨RX12, "lost", "(I)I"⟩
abbrev cX12_worst : ByteArray := prog_14_method_103_code
def yX12_worst : MethodName := ⟨RX12, "worst", "(I)I"⟩
abbrev cX12_victim : ByteArray := prog_14_method_104_code
def yX12_victim : MethodName := ⟨RX12, "victim", "(I)I"⟩
abbrev cX12_room : ByteArray := prog_14_method_105_code
def yX12_room : MethodName := ⟨RX12, "room", "(I)I"⟩
abbrev cX12_back : ByteArray := prog_14_method_106_code
def yX12_back : MethodName := ⟨RX12, "back", "(I)I"⟩
abbrev cX12_see : ByteArray := prog_14_method_107_code
def yX12_see : MethodName := ⟨RX12, "see", "()I"⟩
abbrev cX12_toldOf : ByteArray := prog_14_method_108_code
def yX12_toldOf : MethodName := ⟨RX12, "toldOf", "(II)I"⟩
abbrev cX12_doesFit : ByteArray := prog_14_method_109_code
def yX12_doesFit : MethodName := ⟨RX12, "doesFit", "(I)Z"⟩
abbrev cX12_fits : ByteArray := prog_14_method_110_code
def yX12_fits : MethodName := ⟨RX12, "fits", "(I)I"⟩
abbrev cX12_mostAlike : ByteArray := prog_14_method_111_code
def yX12_mostAlike : MethodName := ⟨RX12, "mostAlike", "(I)I"⟩
abbrev cX12_tells : ByteArray := prog_14_method_112_code
def yX12_tells : MethodName := ⟨RX12, "tells", "(I)I"⟩
abbrev cX12_keeps : ByteArray := prog_14_method_113_code
def yX12_keeps : MethodName := ⟨RX12, "keeps", "()V"⟩
abbrev cX12_undo : ByteArray := prog_14_method_114_code
def yX12_undo : MethodName := ⟨RX12, "undo", "()Z"⟩
abbrev cX12_refuses : ByteArray := prog_14_method_115_code
def yX12_refuses : MethodName := ⟨RX12, "refuses", "(I)I"⟩
abbrev cX12_isRefused : ByteArray := prog_14_method_116_code
def yX12_isRefused : MethodName := ⟨RX12, "isRefused", "(I)Z"⟩
abbrev cX12_put : ByteArray := prog_14_method_117_code
def yX12_put : MethodName := ⟨RX12, "put", "(III)I"⟩
abbrev cX12_canBe : ByteArray := prog_14_method_118_code
def yX12_canBe : MethodName := ⟨RX12, "canBe", "(IIII)Z"⟩
abbrev cX12_remove : ByteArray := prog_14_method_119_code
def yX12_remove : MethodName := ⟨RX12, "remove", "(II)I"⟩
abbrev cX12_freeNumber : ByteArray := prog_14_method_120_code
def yX12_freeNumber : MethodName := ⟨RX12, "freeNumber", "()I"⟩
abbrev cX12_copy : ByteArray := prog_14_method_121_code
def yX12_copy : MethodName := ⟨RX12, "copy", "(I)I"⟩
abbrev cX12_drop : ByteArray := prog_14_method_122_code
def yX12_drop : MethodName := ⟨RX12, "drop", "(I)I"⟩
abbrev cX12_checkpoint : ByteArray := prog_14_method_123_code
def yX12_checkpoint : MethodName := ⟨RX12, "checkpoint", "()I"⟩
abbrev cX12_crash : ByteArray := prog_14_method_124_code
def yX12_crash : MethodName := ⟨RX12, "crash", "()I"⟩
abbrev cX12_seed : ByteArray := prog_14_method_125_code
def yX12_seed : MethodName := ⟨RX12, "seed", "(I)Z"⟩
abbrev cX12_drawOf : ByteArray := prog_14_method_126_code
def yX12_drawOf : MethodName := ⟨RX12, "drawOf", "(I)I"⟩
abbrev cX12_volumeAt : ByteArray := prog_14_method_127_code
def yX12_volumeAt : MethodName := ⟨RX12, "volumeAt", "(I)I"⟩
abbrev cX12_isDrawn : ByteArray := prog_14_method_128_code
def yX12_isDrawn : MethodName := ⟨RX12, "isDrawn", "()Z"⟩
abbrev cX12_chance : ByteArray := prog_14_method_129_code
def yX12_chance : MethodName := ⟨RX12, "chance", "(I)I"⟩
abbrev cX12_qCode : ByteArray := prog_14_method_130_code
def yX12_qCode : MethodName := ⟨RX12, "qCode", "(I)V"⟩
abbrev cX12_qOpens : ByteArray := prog_14_method_131_code
def yX12_qOpens : MethodName := ⟨RX12, "qOpens", "(II)V"⟩
abbrev cX12_qIsOn : ByteArray := prog_14_method_132_code
def yX12_qIsOn : MethodName := ⟨RX12, "qIsOn", "(I)Z"⟩
abbrev cX12_qDrops : ByteArray := prog_14_method_133_code
def yX12_qDrops : MethodName := ⟨RX12, "qDrops", "()V"⟩
abbrev cX12_qIsBracket : ByteArray := prog_14_method_134_code
def yX12_qIsBracket : MethodName := ⟨RX12, "qIsBracket", "(I)Z"⟩
abbrev cX12_qBracket : ByteArray := prog_14_method_135_code
def yX12_qBracket : MethodName := ⟨RX12, "qBracket", "()I"⟩
abbrev cX12_qDropsToBracket : ByteArray := prog_14_method_136_code
def yX12_qDropsToBracket : MethodName := ⟨RX12, "qDropsToBracket", "()V"⟩
abbrev cX12_qWordHere : ByteArray := prog_14_method_137_code
def yX12_qWordHere : MethodName := ⟨RX12, "qWordHere", "()I"⟩
abbrev cX12_qWordOf : ByteArray := prog_14_method_138_code
def yX12_qWordOf : MethodName := ⟨RX12, "qWordOf", "(II)I"⟩
abbrev cX12_qAsksWord : ByteArray := prog_14_method_139_code
def yX12_qAsksWord : MethodName := ⟨RX12, "qAsksWord", "(I)V"⟩
abbrev cX12_qEndsPart : ByteArray := prog_14_method_140_code
def yX12_qEndsPart : MethodName := ⟨RX12, "qEndsPart", "()V"⟩
abbrev cX12_qPartTold : ByteArray := prog_14_method_141_code
def yX12_qPartTold : MethodName := ⟨RX12, "qPartTold", "()V"⟩
abbrev cX12_qGoesOn : ByteArray := prog_14_method_142_code
def yX12_qGoesOn : MethodName := ⟨RX12, "qGoesOn", "()Z"⟩
abbrev cX12_qSums : ByteArray := prog_14_method_143_code
def yX12_qSums : MethodName := ⟨RX12, "qSums", "()V"⟩
abbrev cX12_qFact : ByteArray := prog_14_method_144_code
def yX12_qFact : MethodName := ⟨RX12, "qFact", "()V"⟩
abbrev cX12_qHasSquare : ByteArray := prog_14_method_145_code
def yX12_qHasSquare : MethodName := ⟨RX12, "qHasSquare", "()Z"⟩
abbrev cX12_qDropsNots : ByteArray := prog_14_method_146_code
def yX12_qDropsNots : MethodName := ⟨RX12, "qDropsNots", "()V"⟩
abbrev cX12_qTest : ByteArray := prog_14_method_147_code
def yX12_qTest : MethodName := ⟨RX12, "qTest", "()V"⟩
abbrev cX12_qGoesOnTest : ByteArray := prog_14_method_148_code
def yX12_qGoesOnTest : MethodName := ⟨RX12, "qGoesOnTest", "()Z"⟩
abbrev cX12_qClip : ByteArray := prog_14_method_149_code
def yX12_qClip : MethodName := ⟨RX12, "qClip", "(J)J"⟩
abbrev cX12_qFloor : ByteArray := prog_14_method_150_code
def yX12_qFloor : MethodName := ⟨RX12, "qFloor", "(JJ)J"⟩
abbrev cX12_qPuts : ByteArray := prog_14_method_151_code
def yX12_qPuts : MethodName := ⟨RX12, "qPuts", "(J)V"⟩
abbrev cX12_qJoins : ByteArray := prog_14_method_152_code
def yX12_qJoins : MethodName := ⟨RX12, "qJoins", "(I)V"⟩
abbrev cX12_qPartOf : ByteArray := prog_14_method_153_code
def yX12_qPartOf : MethodName := ⟨RX12, "qPartOf", "(II)J"⟩
abbrev cX12_qOf : ByteArray := prog_14_method_154_code
def yX12_qOf : MethodName := ⟨RX12, "qOf", "(IJI)J"⟩
abbrev cX12_qTold : ByteArray := prog_14_method_155_code
def yX12_qTold : MethodName := ⟨RX12, "qTold", "(I)J"⟩
abbrev cX12_qKind : ByteArray := prog_14_method_156_code
def yX12_qKind : MethodName := ⟨RX12, "qKind", "()I"⟩
abbrev cX12_qTakes : ByteArray := prog_14_method_157_code
def yX12_qTakes : MethodName := ⟨RX12, "qTakes", "(IJI)V"⟩
abbrev cX12_ask : ByteArray := prog_14_method_158_code
def yX12_ask : MethodName := ⟨RX12, "ask", "()J"⟩
abbrev cX12_checked : ByteArray := prog_14_method_159_code
def yX12_checked : MethodName := ⟨RX12, "checked", "([II)I"⟩
abbrev cX12_tellsByte : ByteArray := prog_14_method_160_code
def yX12_tellsByte : MethodName := ⟨RX12, "tellsByte", "(I)V"⟩
abbrev cX12_tellsTwo : ByteArray := prog_14_method_161_code
def yX12_tellsTwo : MethodName := ⟨RX12, "tellsTwo", "(I)V"⟩
abbrev cX12_octet : ByteArray := prog_14_method_163_code
def yX12_octet : MethodName := ⟨RX12, "octet", "(I)I"⟩
abbrev cX12_status : ByteArray := prog_14_method_164_code
def yX12_status : MethodName := ⟨RX12, "status", "(I)I"⟩
abbrev cX12_writesBlock : ByteArray := prog_14_method_165_code
def yX12_writesBlock : MethodName := ⟨RX12, "writesBlock", "(I)V"⟩
abbrev cX12_rootTold : ByteArray := prog_14_method_166_code
def yX12_rootTold : MethodName := ⟨RX12, "rootTold", "(I)I"⟩
abbrev cX12_image : ByteArray := prog_14_method_167_code
def yX12_image : MethodName := ⟨RX12, "image", "()I"⟩
abbrev cX12_byteRead : ByteArray := prog_14_method_168_code
def yX12_byteRead : MethodName := ⟨RX12, "byteRead", "(I)I"⟩
abbrev cX12_twoRead : ByteArray := prog_14_method_169_code
def yX12_twoRead : MethodName := ⟨RX12, "twoRead", "(I)I"⟩
abbrev cX12_laidOf : ByteArray := prog_14_method_170_code
def yX12_laidOf : MethodName := ⟨RX12, "laidOf", "(II)I"⟩
abbrev cX12_isLaidBlock : ByteArray := prog_14_method_171_code
def yX12_isLaidBlock : MethodName := ⟨RX12, "isLaidBlock", "(II)Z"⟩
abbrev cX12_isLaid : ByteArray := prog_14_method_172_code
def yX12_isLaid : MethodName := ⟨RX12, "isLaid", "(I)Z"⟩
abbrev cX12_areValues : ByteArray := prog_14_method_173_code
def yX12_areValues : MethodName := ⟨RX12, "areValues", "(I)Z"⟩
abbrev cX12_areCounts : ByteArray := prog_14_method_174_code
def yX12_areCounts : MethodName := ⟨RX12, "areCounts", "(I)Z"⟩
abbrev cX12_areBetween : ByteArray := prog_14_method_175_code
def yX12_areBetween : MethodName := ⟨RX12, "areBetween", "(III)Z"⟩
abbrev cX12_areKeys : ByteArray := prog_14_method_176_code
def yX12_areKeys : MethodName := ⟨RX12, "areKeys", "(I)Z"⟩
abbrev cX12_isImage : ByteArray := prog_14_method_177_code
def yX12_isImage : MethodName := ⟨RX12, "isImage", "(I)Z"⟩
abbrev cX12_on : ByteArray := prog_14_method_178_code
def yX12_on : MethodName := ⟨RX12, "on", "()Z"⟩
def RJ13 : String := "java/lang/Long"
abbrev cJ13_bitCount_95d88 : ByteArray := prog_15_method_50_code
def yJ13_bitCount_95d88 : MethodName := ⟨RJ13, "bitCount", "(J)I"⟩
def RJ9 : String := "java/lang/Math"
abbrev cJ9_max_7cf53 : ByteArray := prog_16_method_65_code
def yJ9_max_7cf53 : MethodName := ⟨RJ9, "max", "(II)I"⟩
abbrev cJ9_min_7cf53 : ByteArray := prog_16_method_69_code
def yJ9_min_7cf53 : MethodName := ⟨RJ9, "min", "(II)I"⟩
def RJ0 : String := "java/lang/String"
abbrev cJ0_toCharArray_70df3 : ByteArray := prog_17_method_129_code
def yJ0_toCharArray_70df3 : MethodName := ⟨RJ0, "toCharArray", "()[C"⟩
abbrev cJ0_isLatin1_aae02 : ByteArray := prog_17_method_154_code
def yJ0_isLatin1_aae02 : MethodName := ⟨RJ0, "isLatin1", "()Z"⟩
abbrev cJ0_checkBoundsOffCount_cabcc : ByteArray := prog_17_method_157_code
def yJ0_checkBoundsOffCount_cabcc : MethodName := ⟨RJ0, "checkBoundsOffCount", "(III)I"⟩
def RJ1 : String := "java/lang/StringLatin1"
abbrev cJ1_toChars_9d188 : ByteArray := prog_18_method_9_code
def yJ1_toChars_9d188 : MethodName := ⟨RJ1, "toChars", "([B)[C"⟩
abbrev cJ1_inflate_03870 : ByteArray := prog_18_method_49_code
def yJ1_inflate_03870 : MethodName := ⟨RJ1, "inflate", "([BI[CII)V"⟩
def RJ2 : String := "java/lang/StringUTF16"
abbrev cJ2_getChar_3b067 : ByteArray := prog_19_method_5_code
def yJ2_getChar_3b067 : MethodName := ⟨RJ2, "getChar", "([BI)C"⟩
abbrev cJ2_length_9d52b : ByteArray := prog_19_method_6_code
def yJ2_length_9d52b : MethodName := ⟨RJ2, "length", "([B)I"⟩
abbrev cJ2_toChars_9d188 : ByteArray := prog_19_method_13_code
def yJ2_toChars_9d188 : MethodName := ⟨RJ2, "toChars", "([B)[C"⟩
abbrev cJ2_getChars_a1a8b : ByteArray := prog_19_method_26_code
def yJ2_getChars_a1a8b : MethodName := ⟨RJ2, "getChars", "([BII[CI)V"⟩
abbrev cJ2_checkBoundsOffCount_d044e : ByteArray := prog_19_method_94_code
def yJ2_checkBoundsOffCount_d044e : MethodName := ⟨RJ2, "checkBoundsOffCount", "(II[B)V"⟩
def RJ10 : String := "java/lang/System"
def RJ3 : String := "jdk/internal/util/Preconditions"
abbrev cJ3_checkFromIndexSize_8c36e : ByteArray := prog_21_method_13_code
def yJ3_checkFromIndexSize_8c36e : MethodName := ⟨RJ3, "checkFromIndexSize", "(IIILjava/util/function/BiFunction;)I"⟩
def RL : String := "CloneVolumesLaw"
abbrev vwCl : List vw_C := [(RX0, TX0, 2), (RX1, TX1, 9), (RX2, TX2, 6), (RX3, TX3, 10), (RX4, TX4, 6), (RX5, TX5, 14), (RX6, TX6, 12), (RX7, TX7, 6), (RX8, TX8, 11), (RX9, TX9, 2), (RX10, TX10, 4), (RX11, TX11, 13), (RX12, TX12, 116)]
end
section
/-! ===== one list of words for all contracts: the good ones of the tables ===== -/
def lw_gd : List Cond := lw_tbl.filter goodWord
theorem zm {w : Cond} (h : w ∈ lw_tbl) (g : goodWord w = true) : w ∈ lw_gd := List.mem_filter.mpr ⟨h, g⟩
theorem lw_gd_in {w : Cond} (h : w ∈ lw_gd) : w ∈ lw_tbl := (List.mem_filter.mp h).1
theorem lw_gd_ok {w : Cond} (h : w ∈ lw_gd) : (w.onTables && w.keeps) = true ∨ ∃ ty, w = .arrayClass ty := good_of_word (List.mem_filter.mp h).2
abbrev wz (y : MethodName) (b : ByteArray) (n : Nat) (ret : Option FieldType) : List Cond := .code y b n ret :: lw_gd
theorem zG {y : MethodName} {b : ByteArray} {n : Nat} {ret : Option FieldType} (h : Cond.code y b n ret ∈ lw_gd) : GoodIn lw_gd (wz y b n ret) := fun w hw => (List.mem_cons.mp hw).elim (fun e => by rw [e]; exact ⟨h, lw_gd_ok h⟩) (fun q => ⟨q, lw_gd_ok q⟩)
theorem zgV {own C : String} {idx : Nat} {y : MethodName} {b : ByteArray} {n : Nat} {ret : Option FieldType} (h1 : Cond.methodLink own idx y ∈ lw_gd) (h2 : Cond.instanceMethod y ∈ lw_gd) (h3 : Cond.selects C y y ∈ lw_gd) (h4 : Cond.initialized C ∈ lw_gd) (h5 : Cond.code y b n ret ∈ lw_gd) : GoodIn lw_gd (wsV own idx C y (wz y b n ret)) := by
  intro w hw
  rcases List.mem_append.mp hw with hw | hw
  · simp only [List.mem_cons, List.not_mem_nil, or_false] at hw
    rcases hw with rfl | rfl | rfl | rfl
    · exact ⟨h1, lw_gd_ok h1⟩
    · exact ⟨h2, lw_gd_ok h2⟩
    · exact ⟨h3, lw_gd_ok h3⟩
    · exact ⟨h4, lw_gd_ok h4⟩
  · exact zG h5 w hw
theorem zgS {own : String} {idx : Nat} {y : MethodName} {b : ByteArray} {n : Nat} {ret : Option FieldType} (h1 : Cond.methodLink own idx y ∈ lw_gd) (h2 : Cond.static y ∈ lw_gd) (h4 : Cond.initialized own ∈ lw_gd) (h5 : Cond.code y b n ret ∈ lw_gd) : GoodIn lw_gd (wsS own idx y (wz y b n ret)) := by
  intro w hw
  rcases List.mem_append.mp hw with hw | hw
  · simp only [List.mem_cons, List.not_mem_nil, or_false] at hw
    rcases hw with rfl | rfl | rfl
    · exact ⟨h1, lw_gd_ok h1⟩
    · exact ⟨h2, lw_gd_ok h2⟩
    · exact ⟨h4, lw_gd_ok h4⟩
  · exact zG h5 w hw
theorem zgT {own : String} {idx : Nat} {y : MethodName} {b : ByteArray} {n : Nat} {ret : Option FieldType} (h1 : Cond.methodLink own idx y ∈ lw_gd) (h2 : Cond.static y ∈ lw_gd) (h4 : Cond.initialized y.cls ∈ lw_gd) (h5 : Cond.code y b n ret ∈ lw_gd) : GoodIn lw_gd (va_wsS own idx y (wz y b n ret)) := by
  intro w hw
  rcases List.mem_append.mp hw with hw | hw
  · simp only [List.mem_cons, List.not_mem_nil, or_false] at hw
    rcases hw with rfl | rfl | rfl
    · exact ⟨h1, lw_gd_ok h1⟩
    · exact ⟨h2, lw_gd_ok h2⟩
    · exact ⟨h4, lw_gd_ok h4⟩
  · exact zG h5 w hw
/-- the classes of the rows: int, char, long, boolean, State -/
abbrev TY (D : va_G) : List (ClassId × FieldType) := [(D.1 13, .int), (D.1 14, .char), (D.1 15, .long), (D.1 16, .boolean), (D.1 17, .object "CloneVolumes$State")]
/-- a world that is read alone -/
abbrev zP (D : va_G) (WS : va_W) (U : State) : Prop := va_P D vwCl WS U.heap ∧ va_K D vwCl (TY D) U
/-- a world that is written -/
abbrev zW (D : va_G) (sz : Nat) (WS : va_W) (U : State) : Prop := U.heap.size = sz ∧ va_P D vwCl WS U.heap ∧ va_K D vwCl (TY D) U ∧ va_D (fun _ => True) WS
/-- the world behind -/
abbrev zB (D : va_G) (A : Nat → Prop) (WS : va_W) (t : State) : Prop := va_P D vwCl WS t.heap ∧ va_K D vwCl (TY D) t ∧ va_D A WS
theorem zPb (av : List Value) (D : va_G) (WS : va_W) : FrameBlind (va_Pc av (zP D WS)) := fun a U g mk q => ⟨q.1, q.2.1, va_K.moved (u := U) (U := U.calling g mk a) (Vm.Alike.refl U.vm) q.2.2⟩
theorem zWb (av : List Value) (D : va_G) (sz : Nat) (WS : va_W) : FrameBlind (va_Pc av (zW D sz WS)) := fun a U g mk q => ⟨q.1, q.2.1, q.2.2.1, va_K.moved (u := U) (U := U.calling g mk a) (Vm.Alike.refl U.vm) q.2.2.2.1, q.2.2.2.2⟩
theorem zKeep {D : va_G} {ws : va_W} {H H1 : Heap} (hP : va_P D vwCl ws H) (hk : ∀ q : Nat, q < H.size → ¬ (fun _ => False : Nat → Prop) q → H1[q]? = H[q]?) : va_P D vwCl ws H1 := hP.kept (fun k q hq => hk q.1 ((hP k q hq).lt) (fun h => h))
theorem z_fm {α β : Type} {f : α → Option β} {is : List α} {WS : List β} (h : is.map f = WS.map some) : is.filterMap f = WS := by
  have e : (is.map f).filterMap id = is.filterMap f := by rw [List.filterMap_map]; rfl
  rw [← e, h, List.filterMap_map]
  simp
section ZC
variable {p : Program} {l : Launch} {e : Env} {R : Room} {s : State} {m : MethodId} {args : Array Value} {below : List Frame} {meth : Method} {c : Code} {H : Heap} {locs : List Loc} {cells slots : Nat} {Q : State → Prop}
variable {cc bytes : ByteArray} {pc : Nat} {ls : Array Slot} {rest st0 : List Value} {D : va_G} {A : Nat → Prop} {ws WS wr : va_W} {H0 : Heap} {y : MethodName} {maxL nL mc ms n idx : Nat} {ret : Option FieldType} {rm : Room} {own C : String} {b : Addr} {As : List Value}
/-- a pure method of an object: an int or a boolean -/
theorem zcV {post : Int32 → Prop} (S : CallFix p m c cc nL s args lw_gd own) (hM : Met l y (wz y bytes maxL ret) rm (va_Pc (.ref b :: As) (zP D WS)) (va_Qi (fun r (_ : Unit) => post r) (fun _ _ => True) (fun _ => False)) 0 0 (fun _ => False)) (hT : GoodIn lw_gd (wsV own idx C y (wz y bytes maxL ret))) (hrc : rm.cells = 0) (hrs : rm.slots = 0)
    (hd : y.cls = C ∧ y.cls ≠ "java/lang/invoke/MethodHandle" ∧ y.cls ≠ "java/lang/invoke/VarHandle" ∧ (parseMethodDescriptor y.desc).map (fun d => d.parameters.length) = some n) (hR : rm.frames + 1 ≤ R.frames ∧ 8 + (maxL + 11) + rm.locals ≤ R.locals)
    (hK : va_K D vwCl (TY D) s) (hP : va_P D vwCl ws H) (hS : va_S A H0 H locs) (is : List Nat) (hs : is.filterMap (fun i => ws[i]?) = WS) {ci : Nat} {fs : List Value} {q : vw_C} (q0 : Nat) (he : WS[q0]? = some (b, .inr (ci, fs))) (hc : vwCl[ci]? = some q) (hq : q.1 = C)
    (hn : As.length = n) (hsize : ls.size = nL) (hst : st0 = As.reverse ++ .ref b :: rest) (hW : (rest.map fun v => v.category).sum ≤ 8) (hdg : decode cc pc = .ok (.invokevirtual idx, 3)) (hf : cells ≤ R.cells ∧ slots ≤ R.slots)
    (kk : ∀ (r : Int32) (H : Heap) (locs : List Loc), post r → va_P D vwCl ws H → va_S A H0 H locs → W p l e R s m args below meth c H locs cells slots Q (F0 m (pc + 3) ls (.int r :: rest))) : W p l e R s m args below meth c H locs cells slots Q (F0 m pc ls st0) := by
  subst hq
  have hPc : va_P D vwCl WS H := hP.sub is hs
  refine va_calli (va_runV (g := F0 m pc ls st0) (b := b) (As := As) (rest := rest) (Pc := va_Pc (.ref b :: As) (zP D WS)) (mc := 0) (ms := 0) S hM (cwV n S.2.2.2.2 hT rfl hrc hrs hd hR) ⟨zPb _ D WS, va_recv hK hPc hc he, fun U hU hW => ⟨rfl, by rw [hU]; exact hPc, va_K.moved hW.alike hK⟩⟩ rfl hn hsize hst (lv_room hW) hdg ⟨hf.1, hf.2⟩) hS (fun _ _ h => h.elim) (fun _ h => h.elim) (fun r u t H1 locs1 ht hvm hw hB hz1 hk1 hS1 => ?_)
  exact kk r H1 locs1 hw (zKeep hP hk1) hS1
/-- a pure static method of the own class -/
theorem zcS {post : Int32 → Prop} (S : CallFix p m c cc nL s args lw_gd own) (hM : Met l y (wz y bytes maxL ret) rm (va_Pc As (zP D WS)) (va_Qi (fun r (_ : Unit) => post r) (fun _ _ => True) (fun _ => False)) 0 0 (fun _ => False)) (hT : GoodIn lw_gd (va_wsS own idx y (wz y bytes maxL ret))) (hrc : rm.cells = 0) (hrs : rm.slots = 0)
    (hd : y.cls ≠ "java/lang/invoke/MethodHandle" ∧ y.cls ≠ "java/lang/invoke/VarHandle" ∧ (parseMethodDescriptor y.desc).map (fun d => d.parameters.length) = some n) (hR : rm.frames + 1 ≤ R.frames ∧ 8 + (maxL + 11) + rm.locals ≤ R.locals)
    (hK : va_K D vwCl (TY D) s) (hP : va_P D vwCl ws H) (hS : va_S A H0 H locs) (is : List Nat) (hs : is.filterMap (fun i => ws[i]?) = WS)
    (hn : As.length = n) (hsize : ls.size = nL) (hst : st0 = As.reverse ++ rest) (hW : (rest.map fun v => v.category).sum ≤ 8) (hdg : decode cc pc = .ok (.invokestatic idx, 3)) (hf : cells ≤ R.cells ∧ slots ≤ R.slots)
    (kk : ∀ (r : Int32) (H : Heap) (locs : List Loc), post r → va_P D vwCl ws H → va_S A H0 H locs → W p l e R s m args below meth c H locs cells slots Q (F0 m (pc + 3) ls (.int r :: rest))) : W p l e R s m args below meth c H locs cells slots Q (F0 m pc ls st0) := by
  have hPc : va_P D vwCl WS H := hP.sub is hs
  refine va_calli (va_runS (g := F0 m pc ls st0) (As := As) (rest := rest) (Pc := va_Pc As (zP D WS)) (mc := 0) (ms := 0) S hM (va_cwS n S.2.2.2.2 hT rfl hrc hrs hd hR) ⟨zPb _ D WS, fun U hU hW => ⟨rfl, by rw [hU]; exact hPc, va_K.moved hW.alike hK⟩⟩ rfl hn hsize hst (lv_room hW) hdg ⟨hf.1, hf.2⟩) hS (fun _ _ h => h.elim) (fun _ h => h.elim) (fun r u t H1 locs1 ht hvm hw hB hz1 hk1 hS1 => ?_)
  exact kk r H1 locs1 hw (zKeep hP hk1) hS1
/-- a method of an object that writes: an int or a boolean -/
theorem zwV {Sg : Type} {post : Int32 → Sg → Prop} {W' : Sg → va_W} (S : CallFix p m c cc nL s args lw_gd own) (hM : Met l y (wz y bytes maxL ret) rm (va_Pc (.ref b :: As) (zW D H.size WS)) (va_Qi post (fun u t => zB D (va_A WS H.size) (W' u) t) (va_A WS H.size)) mc ms (va_A WS H.size)) (hT : GoodIn lw_gd (wsV own idx C y (wz y bytes maxL ret))) (hrc : rm.cells = mc) (hrs : rm.slots = ms)
    (hd : y.cls = C ∧ y.cls ≠ "java/lang/invoke/MethodHandle" ∧ y.cls ≠ "java/lang/invoke/VarHandle" ∧ (parseMethodDescriptor y.desc).map (fun d => d.parameters.length) = some n) (hR : rm.frames + 1 ≤ R.frames ∧ 8 + (maxL + 11) + rm.locals ≤ R.locals)
    (hK : va_K D vwCl (TY D) s) (hP : va_P D vwCl ws H) (hD : va_D A ws) (hS : va_S A H0 H locs) (hA : ∀ q : Nat, H0.size ≤ q → A q) (is ir : List Nat) (hs : is.map (fun i => ws[i]?) = WS.map some) (hr : ir.map (fun i => ws[i]?) = wr.map some) (hni : va_nd is = true) (hnr : va_nd ir = true) (hdis : ∀ i ∈ ir, i ∉ is) {ci : Nat} {fs : List Value} {q : vw_C} (q0 : Nat) (he : WS[q0]? = some (b, .inr (ci, fs))) (hc : vwCl[ci]? = some q) (hq : q.1 = C)
    (hn : As.length = n) (hsize : ls.size = nL) (hst : st0 = As.reverse ++ .ref b :: rest) (hW : (rest.map fun v => v.category).sum ≤ 8) (hdg : decode cc pc = .ok (.invokevirtual idx, 3)) (hf : cells + mc ≤ R.cells ∧ slots + ms ≤ R.slots)
    (kk : ∀ (r : Int32) (u : Sg) (H : Heap) (locs : List Loc), post r u → va_P D vwCl (wr ++ W' u) H → va_D A (wr ++ W' u) → va_S A H0 H locs → W p l e R s m args below meth c H locs (cells + mc) (slots + ms) Q (F0 m (pc + 3) ls (.int r :: rest))) : W p l e R s m args below meth c H locs cells slots Q (F0 m pc ls st0) := by
  subst hq
  have hPc : va_P D vwCl WS H := hP.sub is (z_fm hs)
  have hDc : va_D A WS := hD.sub is hni hs
  have hFc := va_free (wc := WS) hD hS hA is hs
  refine va_calli (va_runV (g := F0 m pc ls st0) (b := b) (As := As) (rest := rest) (Pc := va_Pc (.ref b :: As) (zW D H.size WS)) S hM (cwV n S.2.2.2.2 hT rfl hrc hrs hd hR) ⟨zWb _ D _ WS, va_recv hK hPc hc he, fun U hU hW => ⟨rfl, by rw [hU], by rw [hU]; exact hPc, va_K.moved hW.alike hK, hDc.weaken (fun _ _ _ _ => trivial)⟩⟩ rfl hn hsize hst (lv_room hW) hdg hf) hS (fun q _ h => hFc q h) hFc (fun r u t H1 locs1 ht hvm hw hB hz1 hk1 hS1 => ?_)
  obtain ⟨hP1, hK1, hD1⟩ := hB
  rw [ht] at hP1
  obtain ⟨hP2, hD2⟩ := va_join (wr := wr) (w1 := W' u) hP hD is ir hs hr hnr hdis hk1 hFc hP1 hD1
  exact kk r u H1 locs1 hw hP2 hD2 hS1
/-- the same, void -/
theorem zwVv {Sg : Type} {post : Sg → Prop} {W' : Sg → va_W} (S : CallFix p m c cc nL s args lw_gd own) (hM : Met l y (wz y bytes maxL ret) rm (va_Pc (.ref b :: As) (zW D H.size WS)) (va_Qv post (fun u t => zB D (va_A WS H.size) (W' u) t) (va_A WS H.size)) mc ms (va_A WS H.size)) (hT : GoodIn lw_gd (wsV own idx C y (wz y bytes maxL ret))) (hrc : rm.cells = mc) (hrs : rm.slots = ms)
    (hd : y.cls = C ∧ y.cls ≠ "java/lang/invoke/MethodHandle" ∧ y.cls ≠ "java/lang/invoke/VarHandle" ∧ (parseMethodDescriptor y.desc).map (fun d => d.parameters.length) = some n) (hR : rm.frames + 1 ≤ R.frames ∧ 8 + (maxL + 11) + rm.locals ≤ R.locals)
    (hK : va_K D vwCl (TY D) s) (hP : va_P D vwCl ws H) (hD : va_D A ws) (hS : va_S A H0 H locs) (hA : ∀ q : Nat, H0.size ≤ q → A q) (is ir : List Nat) (hs : is.map (fun i => ws[i]?) = WS.map some) (hr : ir.map (fun i => ws[i]?) = wr.map some) (hni : va_nd is = true) (hnr : va_nd ir = true) (hdis : ∀ i ∈ ir, i ∉ is) {ci : Nat} {fs : List Value} {q : vw_C} (q0 : Nat) (he : WS[q0]? = some (b, .inr (ci, fs))) (hc : vwCl[ci]? = some q) (hq : q.1 = C)
    (hn : As.length = n) (hsize : ls.size = nL) (hst : st0 = As.reverse ++ .ref b :: rest) (hW : (rest.map fun v => v.category).sum ≤ 8) (hdg : decode cc pc = .ok (.invokevirtual idx, 3)) (hf : cells + mc ≤ R.cells ∧ slots + ms ≤ R.slots)
    (kk : ∀ (u : Sg) (H : Heap) (locs : List Loc), post u → va_P D vwCl (wr ++ W' u) H → va_D A (wr ++ W' u) → va_S A H0 H locs → W p l e R s m args below meth c H locs (cells + mc) (slots + ms) Q (F0 m (pc + 3) ls rest)) : W p l e R s m args below meth c H locs cells slots Q (F0 m pc ls st0) := by
  subst hq
  have hPc : va_P D vwCl WS H := hP.sub is (z_fm hs)
  have hDc : va_D A WS := hD.sub is hni hs
  have hFc := va_free (wc := WS) hD hS hA is hs
  refine va_callv (va_runV (g := F0 m pc ls st0) (b := b) (As := As) (rest := rest) (Pc := va_Pc (.ref b :: As) (zW D H.size WS)) S hM (cwV n S.2.2.2.2 hT rfl hrc hrs hd hR) ⟨zWb _ D _ WS, va_recv hK hPc hc he, fun U hU hW => ⟨rfl, by rw [hU], by rw [hU]; exact hPc, va_K.moved hW.alike hK, hDc.weaken (fun _ _ _ _ => trivial)⟩⟩ rfl hn hsize hst (lv_room hW) hdg hf) hS (fun q _ h => hFc q h) hFc (fun u t H1 locs1 ht hvm hw hB hz1 hk1 hS1 => ?_)
  obtain ⟨hP1, hK1, hD1⟩ := hB
  rw [ht] at hP1
  obtain ⟨hP2, hD2⟩ := va_join (wr := wr) (w1 := W' u) hP hD is ir hs hr hnr hdis hk1 hFc hP1 hD1
  exact kk u H1 locs1 hw hP2 hD2 hS1
/-- a constructor -/
theorem zwI {Sg : Type} {post : Sg → Prop} {W' : Sg → va_W} (S : CallFix p m c cc nL s args lw_gd own) (hM : Met l y (wz y bytes maxL none) rm (va_Pc (.ref b :: As) (zW D H.size WS)) (va_Qv post (fun u t => zB D (va_A WS H.size) (W' u) t) (va_A WS H.size)) mc ms (va_A WS H.size)) (hcm : Cond.code y bytes maxL none ∈ lw_gd) (hrc : rm.cells = mc) (hrs : rm.slots = ms) (hini : Cond.initialized y.cls ∈ lw_gd) (hli : Cond.methodLink own idx y ∈ lw_gd) (him : Cond.instanceMethod y ∈ lw_gd) (hy1 : y.name = "<init>")
    (hd : y.cls ≠ "java/lang/invoke/MethodHandle" ∧ y.cls ≠ "java/lang/invoke/VarHandle" ∧ (parseMethodDescriptor y.desc).map (fun d => d.parameters.length) = some n) (hR : rm.frames + 1 ≤ R.frames ∧ 8 + (maxL + 11) + rm.locals ≤ R.locals)
    (hK : va_K D vwCl (TY D) s) (hP : va_P D vwCl ws H) (hD : va_D A ws) (hS : va_S A H0 H locs) (hA : ∀ q : Nat, H0.size ≤ q → A q) (is ir : List Nat) (hs : is.map (fun i => ws[i]?) = WS.map some) (hr : ir.map (fun i => ws[i]?) = wr.map some) (hni : va_nd is = true) (hnr : va_nd ir = true) (hdis : ∀ i ∈ ir, i ∉ is)
    (hn : As.length = n) (hsize : ls.size = nL) (hst : st0 = As.reverse ++ .ref b :: rest) (hW : (rest.map fun v => v.category).sum ≤ 8) (hdg : decode cc pc = .ok (.invokespecial idx, 3)) (hf : cells + mc ≤ R.cells ∧ slots + ms ≤ R.slots)
    (kk : ∀ (u : Sg) (H : Heap) (locs : List Loc), post u → va_P D vwCl (wr ++ W' u) H → va_D A (wr ++ W' u) → va_S A H0 H locs → W p l e R s m args below meth c H locs (cells + mc) (slots + ms) Q (F0 m (pc + 3) ls rest)) : W p l e R s m args below meth c H locs cells slots Q (F0 m pc ls st0) := by
  have ht := S.2.2.2.2
  have hPc : va_P D vwCl WS H := hP.sub is (z_fm hs)
  have hDc : va_D A WS := hD.sub is hni hs
  have hFc := va_free (wc := WS) hD hS hA is hs
  refine va_callv (va_runI (g := F0 m pc ls st0) (b := b) (As := As) (rest := rest) (Pc := va_Pc (.ref b :: As) (zW D H.size WS)) S hM (cwI n ht (zG hcm) rfl hrc hrs (ht _ hini) (ht _ hli) (ht _ him) hy1 hd hR) ⟨zWb _ D _ WS, fun U hU hW => ⟨rfl, by rw [hU], by rw [hU]; exact hPc, va_K.moved hW.alike hK, hDc.weaken (fun _ _ _ _ => trivial)⟩⟩ rfl hn hsize hst (lv_room hW) hdg hf) hS (fun q _ h => hFc q h) hFc (fun u t H1 locs1 ht hvm hw hB hz1 hk1 hS1 => ?_)
  obtain ⟨hP1, hK1, hD1⟩ := hB
  rw [ht] at hP1
  obtain ⟨hP2, hD2⟩ := va_join (wr := wr) (w1 := W' u) hP hD is ir hs hr hnr hdis hk1 hFc hP1 hD1
  exact kk u H1 locs1 hw hP2 hD2 hS1
/-- a method whose answer is null, and that writes nothing -/
def zQn : Array Value → State → Outcome → State → Prop := fun _ st oc t => oc = .returned (some .null) ∧ va_F (fun _ => False) st t
theorem zcVn (S : CallFix p m c cc nL s args lw_gd own) (hM : Met l y (wz y bytes maxL ret) rm (va_Pc (.ref b :: As) (zP D WS)) zQn 0 0 (fun _ => False)) (hT : GoodIn lw_gd (wsV own idx C y (wz y bytes maxL ret))) (hrc : rm.cells = 0) (hrs : rm.slots = 0)
    (hd : y.cls = C ∧ y.cls ≠ "java/lang/invoke/MethodHandle" ∧ y.cls ≠ "java/lang/invoke/VarHandle" ∧ (parseMethodDescriptor y.desc).map (fun d => d.parameters.length) = some n) (hR : rm.frames + 1 ≤ R.frames ∧ 8 + (maxL + 11) + rm.locals ≤ R.locals)
    (hK : va_K D vwCl (TY D) s) (hP : va_P D vwCl ws H) (hS : va_S A H0 H locs) (is : List Nat) (hs : is.filterMap (fun i => ws[i]?) = WS) {ci : Nat} {fs : List Value} {q : vw_C} (q0 : Nat) (he : WS[q0]? = some (b, .inr (ci, fs))) (hc : vwCl[ci]? = some q) (hq : q.1 = C)
    (hn : As.length = n) (hsize : ls.size = nL) (hst : st0 = As.reverse ++ .ref b :: rest) (hW : (rest.map fun v => v.category).sum ≤ 8) (hdg : decode cc pc = .ok (.invokevirtual idx, 3)) (hf : cells ≤ R.cells ∧ slots ≤ R.slots)
    (kk : ∀ (H : Heap) (locs : List Loc), va_P D vwCl ws H → va_S A H0 H locs → W p l e R s m args below meth c H locs cells slots Q (F0 m (pc + 3) ls (.null :: rest))) : W p l e R s m args below meth c H locs cells slots Q (F0 m pc ls st0) := by
  subst hq
  have hPc : va_P D vwCl WS H := hP.sub is hs
  have hr := va_runV (locs := locs) (cells := cells) (slots := slots) (below := below) (meth := meth) (e := e) (g := F0 m pc ls st0) (b := b) (As := As) (rest := rest) (Pc := va_Pc (.ref b :: As) (zP D WS)) (mc := 0) (ms := 0) S hM (cwV n S.2.2.2.2 hT rfl hrc hrs hd hR) ⟨zPb _ D WS, va_recv hK hPc hc he, fun U hU hW => ⟨rfl, by rw [hU]; exact hPc, va_K.moved hW.alike hK⟩⟩ rfl hn hsize hst (lv_room hW) hdg ⟨hf.1, hf.2⟩
  intro T hT X
  obtain ⟨v, st₀, t, T', L, h0, X', hL, e1, e2, ⟨hv, hz, hk⟩, st⟩ := hr T hT X
  cases hv
  rw [h0] at hz hk
  obtain ⟨t2, a1, b1⟩ := kk T'.heap (locs ++ L) (zKeep hP (fun q h1 h2 => by rw [e1]; exact hk q h1 h2)) ⟨Nat.le_trans hS.1 (by rw [e1]; exact hz), fun q h1 h2 => by rw [e1, hk q (Nat.lt_of_lt_of_le h1 hS.1) (fun z => z)]; exact hS.2.1 q h1 h2, fun q hq => by
      rcases List.mem_append.mp hq with h | h
      · exact hS.2.2 q h
      · exact (hL q h).elim⟩ T' rfl X'
  exact ⟨t2, st t2 a1, b1⟩
/-- a method of an object that writes: a long -/
theorem zwVl {Sg : Type} {post : Int64 → Sg → Prop} {W' : Sg → va_W} (S : CallFix p m c cc nL s args lw_gd own) (hM : Met l y (wz y bytes maxL ret) rm (va_Pc (.ref b :: As) (zW D H.size WS)) (va_Ql post (fun u t => zB D (va_A WS H.size) (W' u) t) (va_A WS H.size)) mc ms (va_A WS H.size)) (hT : GoodIn lw_gd (wsV own idx C y (wz y bytes maxL ret))) (hrc : rm.cells = mc) (hrs : rm.slots = ms)
    (hd : y.cls = C ∧ y.cls ≠ "java/lang/invoke/MethodHandle" ∧ y.cls ≠ "java/lang/invoke/VarHandle" ∧ (parseMethodDescriptor y.desc).map (fun d => d.parameters.length) = some n) (hR : rm.frames + 1 ≤ R.frames ∧ 8 + (maxL + 11) + rm.locals ≤ R.locals)
    (hK : va_K D vwCl (TY D) s) (hP : va_P D vwCl ws H) (hD : va_D A ws) (hS : va_S A H0 H locs) (hA : ∀ q : Nat, H0.size ≤ q → A q) (is ir : List Nat) (hs : is.map (fun i => ws[i]?) = WS.map some) (hr : ir.map (fun i => ws[i]?) = wr.map some) (hni : va_nd is = true) (hnr : va_nd ir = true) (hdis : ∀ i ∈ ir, i ∉ is) {ci : Nat} {fs : List Value} {q : vw_C} (q0 : Nat) (he : WS[q0]? = some (b, .inr (ci, fs))) (hc : vwCl[ci]? = some q) (hq : q.1 = C)
    (hn : As.length = n) (hsize : ls.size = nL) (hst : st0 = As.reverse ++ .ref b :: rest) (hW : (rest.map fun v => v.category).sum ≤ 8) (hdg : decode cc pc = .ok (.invokevirtual idx, 3)) (hf : cells + mc ≤ R.cells ∧ slots + ms ≤ R.slots)
    (kk : ∀ (r : Int64) (u : Sg) (H : Heap) (locs : List Loc), post r u → va_P D vwCl (wr ++ W' u) H → va_D A (wr ++ W' u) → va_S A H0 H locs → W p l e R s m args below meth c H locs (cells + mc) (slots + ms) Q (F0 m (pc + 3) ls (.long r :: rest))) : W p l e R s m args below meth c H locs cells slots Q (F0 m pc ls st0) := by
  subst hq
  have hPc : va_P D vwCl WS H := hP.sub is (z_fm hs)
  have hDc : va_D A WS := hD.sub is hni hs
  have hFc := va_free (wc := WS) hD hS hA is hs
  refine va_calll (va_runV (g := F0 m pc ls st0) (b := b) (As := As) (rest := rest) (Pc := va_Pc (.ref b :: As) (zW D H.size WS)) S hM (cwV n S.2.2.2.2 hT rfl hrc hrs hd hR) ⟨zWb _ D _ WS, va_recv hK hPc hc he, fun U hU hW => ⟨rfl, by rw [hU], by rw [hU]; exact hPc, va_K.moved hW.alike hK, hDc.weaken (fun _ _ _ _ => trivial)⟩⟩ rfl hn hsize hst (lv_room hW) hdg hf) hS (fun q _ h => hFc q h) hFc (fun r u t H1 locs1 ht hvm hw hB hz1 hk1 hS1 => ?_)
  obtain ⟨hP1, hK1, hD1⟩ := hB
  rw [ht] at hP1
  obtain ⟨hP2, hD2⟩ := va_join (wr := wr) (w1 := W' u) hP hD is ir hs hr hnr hdis hk1 hFc hP1 hD1
  exact kk r u H1 locs1 hw hP2 hD2 hS1
end ZC
/-! ===== numbers ===== -/
theorem z_lt {x y : Int32} {a b : Int} (hx : x.toInt = a) (hy : y.toInt = b) (h : x < y) : a < b := by rw [← hx, ← hy]; exact Int32.lt_iff_toInt_lt.mp h
theorem z_le {x y : Int32} {a b : Int} (hx : x.toInt = a) (hy : y.toInt = b) (h : x ≤ y) : a ≤ b := by rw [← hx, ← hy]; exact Int32.le_iff_toInt_le.mp h
theorem z_nlt {x y : Int32} {a b : Int} (hx : x.toInt = a) (hy : y.toInt = b) (h : ¬ x < y) : b ≤ a := by rw [← hx, ← hy]; exact Int.not_lt.mp (fun q => h (Int32.lt_iff_toInt_lt.mpr q))
theorem z_nle {x y : Int32} {a b : Int} (hx : x.toInt = a) (hy : y.toInt = b) (h : ¬ x ≤ y) : b < a := by rw [← hx, ← hy]; exact Int.not_le.mp (fun q => h (Int32.le_iff_toInt_le.mpr q))
theorem z_eq {x y : Int32} {a b : Int} (hx : x.toInt = a) (hy : y.toInt = b) (h : x = y) : a = b := by rw [← hx, ← hy, h]
theorem z_ne {x y : Int32} {a b : Int} (hx : x.toInt = a) (hy : y.toInt = b) (h : ¬ x = y) : ¬ a = b := by rw [← hx, ← hy]; exact fun q => h (Int32.toInt_inj.mp q)
theorem zt_lt {X Y a b : Int} (hx : X = a) (hy : Y = b) (h : X < Y) : a < b := by rw [← hx, ← hy]; exact h
theorem zt_gt {X Y a b : Int} (hx : X = a) (hy : Y = b) (h : Y < X) : b < a := by rw [← hx, ← hy]; exact h
theorem zt_le {X Y a b : Int} (hx : X = a) (hy : Y = b) (h : X ≤ Y) : a ≤ b := by rw [← hx, ← hy]; exact h
theorem zt_ge {X Y a b : Int} (hx : X = a) (hy : Y = b) (h : Y ≤ X) : b ≤ a := by rw [← hx, ← hy]; exact h
theorem zt_eq {X Y a b : Int} (hx : X = a) (hy : Y = b) (h : X = Y) : a = b := by rw [← hx, ← hy]; exact h
theorem zt_ne {X Y a b : Int} (hx : X = a) (hy : Y = b) (h : ¬ X = Y) : ¬ a = b := by rw [← hx, ← hy]; exact h
theorem zu_lt {X Y a b : Int} (hx : X = a) (hy : Y = b) (h : a < b) : X < Y := by rw [hx, hy]; exact h
theorem zu_gt {X Y a b : Int} (hx : X = a) (hy : Y = b) (h : b < a) : Y < X := by rw [hx, hy]; exact h
theorem zu_le {X Y a b : Int} (hx : X = a) (hy : Y = b) (h : a ≤ b) : X ≤ Y := by rw [hx, hy]; exact h
theorem zu_ge {X Y a b : Int} (hx : X = a) (hy : Y = b) (h : b ≤ a) : Y ≤ X := by rw [hx, hy]; exact h
theorem zu_eq {X Y a b : Int} (hx : X = a) (hy : Y = b) (h : a = b) : X = Y := by rw [hx, hy]; exact h
theorem zu_ne {X Y a b : Int} (hx : X = a) (hy : Y = b) (h : ¬ a = b) : ¬ X = Y := by rw [hx, hy]; exact h
theorem zc_lt {x y : Int64} {a b : Int} (hx : x.toInt = a) (hy : y.toInt = b) (h : lg_cmp x y < 0) : a < b := by rw [← hx, ← hy]; exact Int64.lt_iff_toInt_lt.mp ((lg_cmp_lt x y).mp h)
theorem zc_lt_n {x y : Int64} {a b : Int} (hx : x.toInt = a) (hy : y.toInt = b) (h : ¬ lg_cmp x y < 0) : b ≤ a := by rw [← hx, ← hy]; exact Int.not_lt.mp (fun q => h ((lg_cmp_lt x y).mpr (Int64.lt_iff_toInt_lt.mpr q)))
theorem zc_ge {x y : Int64} {a b : Int} (hx : x.toInt = a) (hy : y.toInt = b) (h : 0 ≤ lg_cmp x y) : b ≤ a := by rw [← hx, ← hy]; exact Int64.le_iff_toInt_le.mp ((lg_cmp_ge x y).mp h)
theorem zc_ge_n {x y : Int64} {a b : Int} (hx : x.toInt = a) (hy : y.toInt = b) (h : ¬ 0 ≤ lg_cmp x y) : a < b := by rw [← hx, ← hy]; exact Int.not_le.mp (fun q => h ((lg_cmp_ge x y).mpr (Int64.le_iff_toInt_le.mpr q)))
theorem zc_gt {x y : Int64} {a b : Int} (hx : x.toInt = a) (hy : y.toInt = b) (h : 0 < lg_cmp x y) : b < a := by rw [← hx, ← hy]; exact Int64.lt_iff_toInt_lt.mp ((lg_cmp_gt x y).mp h)
theorem zc_gt_n {x y : Int64} {a b : Int} (hx : x.toInt = a) (hy : y.toInt = b) (h : ¬ 0 < lg_cmp x y) : a ≤ b := by rw [← hx, ← hy]; exact Int.not_lt.mp (fun q => h ((lg_cmp_gt x y).mpr (Int64.lt_iff_toInt_lt.mpr q)))
theorem zc_le {x y : Int64} {a b : Int} (hx : x.toInt = a) (hy : y.toInt = b) (h : lg_cmp x y ≤ 0) : a ≤ b := by rw [← hx, ← hy]; exact Int64.le_iff_toInt_le.mp ((lg_cmp_le x y).mp h)
theorem zc_le_n {x y : Int64} {a b : Int} (hx : x.toInt = a) (hy : y.toInt = b) (h : ¬ lg_cmp x y ≤ 0) : b < a := by rw [← hx, ← hy]; exact Int.not_le.mp (fun q => h ((lg_cmp_le x y).mpr (Int64.le_iff_toInt_le.mpr q)))
theorem zc_eq {x y : Int64} {a b : Int} (hx : x.toInt = a) (hy : y.toInt = b) (h : lg_cmp x y = 0) : a = b := by rw [← hx, ← hy, (lg_cmp_eq x y).mp h]
theorem zc_eq_n {x y : Int64} {a b : Int} (hx : x.toInt = a) (hy : y.toInt = b) (h : ¬ lg_cmp x y = 0) : ¬ a = b := by rw [← hx, ← hy]; exact fun q => h ((lg_cmp_eq x y).mpr (Int64.toInt_inj.mp q))
theorem zc_ne {x y : Int64} {a b : Int} (hx : x.toInt = a) (hy : y.toInt = b) (h : ¬ lg_cmp x y = 0) : ¬ a = b := zc_eq_n hx hy h
theorem zc_ne_n {x y : Int64} {a b : Int} (hx : x.toInt = a) (hy : y.toInt = b) (h : lg_cmp x y = 0) : a = b := zc_eq hx hy h
theorem z_abs {P : Prop} (c : P) (h : ¬ P) : False := h c
theorem z_in {x : Int32} {n : Nat} (h1 : 0 ≤ x.toInt) (h2 : x.toInt < (n : Int)) : vp_in x n := by
  have h3 : ¬ x < 0 := fun q => by have := Int32.lt_iff_toInt_lt.mp q; have e : (0 : Int32).toInt = 0 := rfl; omega
  obtain ⟨j, hj, rfl⟩ := nI_of h3
  rw [nI_toInt hj] at h2
  exact fun q => q.elim h3 (fun q => by rw [nI_clamp hj] at q; omega)
theorem z_updc (c : Int32) (k : Nat) : upd (fun _ => c) k c = fun _ => c := by funext j; simp [upd]
theorem z_updLc (c : Int64) (k : Nat) : vp_updL (fun _ => c) k c = fun _ => c := by funext j; simp [vp_updL]
theorem z_updz (k : Nat) : upd (fun _ => 0) k (vp_nar .boolean 0) = fun _ => 0 := by
  rw [show vp_nar .boolean 0 = 0 from by decide]; exact z_updc 0 k
theorem z_cls_int {D : va_G} {s : State} {cA : ClassId} (h : va_K D vwCl (TY D) s) (h2 : va_K D vwCl (TY D ++ [(cA, .int)]) s) : cA = D.1 13 := Option.some.inj ((h2.2 5 _ rfl).2.symm.trans (h.2 0 _ rfl).2)
theorem z_cls_char {D : va_G} {s : State} {cA : ClassId} (h : va_K D vwCl (TY D) s) (h2 : va_K D vwCl (TY D ++ [(cA, .char)]) s) : cA = D.1 14 := Option.some.inj ((h2.2 5 _ rfl).2.symm.trans (h.2 1 _ rfl).2)
theorem z_cls_long {D : va_G} {s : State} {cA : ClassId} (h : va_K D vwCl (TY D) s) (h2 : va_K D vwCl (TY D ++ [(cA, .long)]) s) : cA = D.1 15 := Option.some.inj ((h2.2 5 _ rfl).2.symm.trans (h.2 2 _ rfl).2)
theorem z_cls_boolean {D : va_G} {s : State} {cA : ClassId} (h : va_K D vwCl (TY D) s) (h2 : va_K D vwCl (TY D ++ [(cA, .boolean)]) s) : cA = D.1 16 := Option.some.inj ((h2.2 5 _ rfl).2.symm.trans (h.2 3 _ rfl).2)
section ZT
variable {p : Program} {l : Launch} {e : Env} {R : Room} {s : State} {m : MethodId} {args : Array Value} {below : List Frame} {meth : Method} {c : Code} {H : Heap} {locs : List Loc} {cells slots : Nat} {Q : State → Prop} {pc : Nat} {ls : Array Slot} {rest : List Value}
theorem z_topi {x y : Int32} (h : x = y) (k : W p l e R s m args below meth c H locs cells slots Q (F0 m pc ls (.int y :: rest))) : W p l e R s m args below meth c H locs cells slots Q (F0 m pc ls (.int x :: rest)) := h ▸ k
theorem z_topl {x y : Int64} (h : x = y) (k : W p l e R s m args below meth c H locs cells slots Q (F0 m pc ls (.long y :: rest))) : W p l e R s m args below meth c H locs cells slots Q (F0 m pc ls (.long x :: rest)) := h ▸ k
/-- a loop that counts up to N -/
theorem z_loop {σ : Type} {N : Nat} {st : List Value} (Inv : Nat → σ → Heap → List Loc → Array Slot → Prop)
    (body : ∀ (i : Nat) (u : σ) (H : Heap) (locs : List Loc) (ls : Array Slot), i ≤ N → Inv i u H locs ls → (∀ (u' : σ) (H' : Heap) (locs' : List Loc) (ls' : Array Slot), i < N → Inv (i + 1) u' H' locs' ls' → W p l e R s m args below meth c H' locs' cells slots Q (F0 m pc ls' st)) → W p l e R s m args below meth c H locs cells slots Q (F0 m pc ls st))
    (i0 : Nat) (u0 : σ) (hi : i0 ≤ N) (h0 : Inv i0 u0 H locs ls) : W p l e R s m args below meth c H locs cells slots Q (F0 m pc ls st) := by
  have go : ∀ (n i : Nat), i ≤ N → N < i + n → ∀ (u : σ) (H : Heap) (locs : List Loc) (ls : Array Slot), Inv i u H locs ls → W p l e R s m args below meth c H locs cells slots Q (F0 m pc ls st) := by
    intro n
    induction n with
    | zero => intro i h1 h2; omega
    | succ n ih =>
      intro i h1 h2 u H locs ls hI
      exact body i u H locs ls h1 hI (fun u' H' locs' ls' h3 hI' => ih (i + 1) (by omega) (by omega) u' H' locs' ls' hI')
  exact go (N + 1) i0 hi (by omega) u0 H locs ls h0
end ZT
theorem z_inc (i : Nat) : nI i + Int32.ofInt 1 = nI (i + 1) := by
  rw [show (Int32.ofInt 1) = 1 from by decide]; exact nI_1 i
end
section
set_option maxRecDepth 20000 in
theorem inX0 : ∀ w ∈ u_ws RX0 TX0 2, w ∈ lw_gd := fun w h => zm ((goodIn_r (big := lw_tbl) (u_ws RX0 TX0 2) [461, 463] (by decide +kernel) (by decide +kernel)) w h).1 (List.all_eq_true.mp (by decide +kernel : (u_ws RX0 TX0 2).all goodWord = true) w h)
set_option maxRecDepth 20000 in
theorem inX1 : ∀ w ∈ u_ws RX1 TX1 9, w ∈ lw_gd := fun w h => zm ((goodIn_r (big := lw_tbl) (u_ws RX1 TX1 9) [681, 683, 685, 687, 689, 691, 693, 695, 697] (by decide +kernel) (by decide +kernel)) w h).1 (List.all_eq_true.mp (by decide +kernel : (u_ws RX1 TX1 9).all goodWord = true) w h)
set_option maxRecDepth 20000 in
theorem inX2 : ∀ w ∈ u_ws RX2 TX2 6, w ∈ lw_gd := fun w h => zm ((goodIn_r (big := lw_tbl) (u_ws RX2 TX2 6) [354, 356, 358, 360, 362, 364] (by decide +kernel) (by decide +kernel)) w h).1 (List.all_eq_true.mp (by decide +kernel : (u_ws RX2 TX2 6).all goodWord = true) w h)
set_option maxRecDepth 20000 in
theorem inX3 : ∀ w ∈ u_ws RX3 TX3 10, w ∈ lw_gd := fun w h => zm ((goodIn_r (big := lw_tbl) (u_ws RX3 TX3 10) [647, 649, 651, 653, 655, 657, 659, 661, 663, 665] (by decide +kernel) (by decide +kernel)) w h).1 (List.all_eq_true.mp (by decide +kernel : (u_ws RX3 TX3 10).all goodWord = true) w h)
set_option maxRecDepth 20000 in
theorem inX4 : ∀ w ∈ u_ws RX4 TX4 6, w ∈ lw_gd := fun w h => zm ((goodIn_r (big := lw_tbl) (u_ws RX4 TX4 6) [408, 410, 412, 414, 416, 418] (by decide +kernel) (by decide +kernel)) w h).1 (List.all_eq_true.mp (by decide +kernel : (u_ws RX4 TX4 6).all goodWord = true) w h)
set_option maxRecDepth 20000 in
theorem inX5 : ∀ w ∈ u_ws RX5 TX5 14, w ∈ lw_gd := fun w h => zm ((goodIn_r (big := lw_tbl) (u_ws RX5 TX5 14) [508, 510, 512, 514, 516, 518, 520, 522, 524, 526, 528, 530, 532, 534] (by decide +kernel) (by decide +kernel)) w h).1 (List.all_eq_true.mp (by decide +kernel : (u_ws RX5 TX5 14).all goodWord = true) w h)
set_option maxRecDepth 20000 in
theorem inX6 : ∀ w ∈ u_ws RX6 TX6 12, w ∈ lw_gd := fun w h => zm ((goodIn_r (big := lw_tbl) (u_ws RX6 TX6 12) [312, 314, 316, 318, 320, 322, 324, 326, 328, 330, 332, 334] (by decide +kernel) (by decide +kernel)) w h).1 (List.all_eq_true.mp (by decide +kernel : (u_ws RX6 TX6 12).all goodWord = true) w h)
set_option maxRecDepth 20000 in
theorem inX7 : ∀ w ∈ u_ws RX7 TX7 6, w ∈ lw_gd := fun w h => zm ((goodIn_r (big := lw_tbl) (u_ws RX7 TX7 6) [381, 383, 385, 387, 389, 391] (by decide +kernel) (by decide +kernel)) w h).1 (List.all_eq_true.mp (by decide +kernel : (u_ws RX7 TX7 6).all goodWord = true) w h)
set_option maxRecDepth 20000 in
theorem inX8 : ∀ w ∈ u_ws RX8 TX8 11, w ∈ lw_gd := fun w h => zm ((goodIn_r (big := lw_tbl) (u_ws RX8 TX8 11) [601, 603, 605, 607, 609, 611, 613, 615, 617, 619, 621] (by decide +kernel) (by decide +kernel)) w h).1 (List.all_eq_true.mp (by decide +kernel : (u_ws RX8 TX8 11).all goodWord = true) w h)
set_option maxRecDepth 20000 in
theorem inX9 : ∀ w ∈ u_ws RX9 TX9 2, w ∈ lw_gd := fun w h => zm ((goodIn_r (big := lw_tbl) (u_ws RX9 TX9 2) [240, 242] (by decide +kernel) (by decide +kernel)) w h).1 (List.all_eq_true.mp (by decide +kernel : (u_ws RX9 TX9 2).all goodWord = true) w h)
set_option maxRecDepth 20000 in
theorem inX10 : ∀ w ∈ u_ws RX10 TX10 4, w ∈ lw_gd := fun w h => zm ((goodIn_r (big := lw_tbl) (u_ws RX10 TX10 4) [433, 435, 437, 439] (by decide +kernel) (by decide +kernel)) w h).1 (List.all_eq_true.mp (by decide +kernel : (u_ws RX10 TX10 4).all goodWord = true) w h)
set_option maxRecDepth 20000 in
theorem inX11 : ∀ w ∈ u_ws RX11 TX11 13, w ∈ lw_gd := fun w h => zm ((goodIn_r (big := lw_tbl) (u_ws RX11 TX11 13) [713, 715, 717, 719, 721, 723, 725, 727, 729, 731, 733, 735, 737] (by decide +kernel) (by decide +kernel)) w h).1 (List.all_eq_true.mp (by decide +kernel : (u_ws RX11 TX11 13).all goodWord = true) w h)
set_option maxRecDepth 20000 in
theorem inX12 : ∀ w ∈ u_ws RX12 TX12 116, w ∈ lw_gd := fun w h => zm ((goodIn_r (big := lw_tbl) (u_ws RX12 TX12 116) [1654, 1656, 1658, 1660, 1662, 1664, 1666, 1668, 1670, 1672, 1674, 1676, 1678, 1680, 1682, 1684, 1686, 1688, 1690, 1692, 1694, 1696, 1698, 1700, 1702, 1704, 1706, 1708, 1710, 1712, 1714, 1716, 1718, 1720, 1722, 1724, 1726, 1728, 1730, 1732, 1734, 1736, 1738, 1740, 1742, 1744, 1746, 1748, 1750, 1752, 1754, 1756, 1758, 1760, 1762, 1764, 1766, 1768, 1770, 1772, 1774, 1776, 1778, 1780, 1782, 1784, 1786, 1788, 1790, 1792, 1794, 1796, 1798, 1800, 1802, 1804, 1806, 1808, 1810, 1812, 1814, 1816, 1818, 1820, 1822, 1824, 1826, 1828, 1830, 1832, 1834, 1836, 1838, 1840, 1842, 1844, 1846, 1848, 1850, 1852, 1854, 1856, 1858, 1860, 1862, 1864, 1866, 1868, 1870, 1872, 1874, 1876, 1878, 1880, 1882, 1884] (by decide +kernel) (by decide +kernel)) w h).1 (List.all_eq_true.mp (by decide +kernel : (u_ws RX12 TX12 116).all goodWord = true) w h)
end
section
theorem fl_X8_30 : Cond.fieldLink RX8 30 "CloneVolumes$State" "roots" "[I" ∈ lw_gd := zm (List.mem_of_getElem? (i := 593) (by decide +kernel)) rfl
theorem fl_X8_40 : Cond.fieldLink RX8 40 "CloneVolumes$State" "blocks" "I" ∈ lw_gd := zm (List.mem_of_getElem? (i := 553) (by decide +kernel)) rfl
theorem ml_X8_67 : Cond.methodLink RX8 67 yX8_isVolume ∈ lw_gd := zm (List.mem_of_getElem? (i := 1083) (by decide +kernel)) rfl
theorem im_X8_isVolume : Cond.instanceMethod yX8_isVolume ∈ lw_gd := zm (List.mem_of_getElem? (i := 1084) (by decide +kernel)) rfl
theorem se_X8_isVolume : Cond.selects RX8 yX8_isVolume yX8_isVolume ∈ lw_gd := zm (List.mem_of_getElem? (i := 1085) (by decide +kernel)) rfl
theorem in_X8 : Cond.initialized RX8 ∈ lw_gd := zm (List.mem_of_getElem? (i := 212) (by decide +kernel)) rfl
theorem co_X8_isVolume : Cond.code yX8_isVolume cX8_isVolume 2 (some .boolean) ∈ lw_gd := zm (List.mem_of_getElem? (i := 1086) (by decide +kernel)) rfl
theorem fl_X2_27 : Cond.fieldLink RX2 27 "CloneVolumes$History" "rows" "I" ∈ lw_gd := zm (List.mem_of_getElem? (i := 350) (by decide +kernel)) rfl
theorem ml_X2_34 : Cond.methodLink RX2 34 Lib.Math.min.name ∈ lw_gd := zm (List.mem_of_getElem? (i := 1103) (by decide +kernel)) rfl
theorem st_mmin : Cond.static Lib.Math.min.name ∈ lw_gd := zm (List.mem_of_getElem? (i := 1104) (by decide +kernel)) rfl
theorem in_math : Cond.initialized "java/lang/Math" ∈ lw_gd := zm (List.mem_of_getElem? (i := 216) (by decide +kernel)) rfl
theorem co_mmin : Cond.code Lib.Math.min.name Lib.Math.min.code 2 (some .int) ∈ lw_gd := zm (List.mem_of_getElem? (i := 1105) (by decide +kernel)) rfl
theorem ml_X2_40 : Cond.methodLink RX2 40 yX2_toldRows ∈ lw_gd := zm (List.mem_of_getElem? (i := 1167) (by decide +kernel)) rfl
theorem im_X2_toldRows : Cond.instanceMethod yX2_toldRows ∈ lw_gd := zm (List.mem_of_getElem? (i := 1100) (by decide +kernel)) rfl
theorem se_X2_toldRows : Cond.selects RX2 yX2_toldRows yX2_toldRows ∈ lw_gd := zm (List.mem_of_getElem? (i := 1101) (by decide +kernel)) rfl
theorem in_X2 : Cond.initialized RX2 ∈ lw_gd := zm (List.mem_of_getElem? (i := 205) (by decide +kernel)) rfl
theorem co_X2_toldRows : Cond.code yX2_toldRows cX2_toldRows 1 (some .int) ∈ lw_gd := zm (List.mem_of_getElem? (i := 1102) (by decide +kernel)) rfl
theorem fl_X2_31 : Cond.fieldLink RX2 31 "CloneVolumes$History" "depth" "I" ∈ lw_gd := zm (List.mem_of_getElem? (i := 352) (by decide +kernel)) rfl
theorem fl_X7_24 : Cond.fieldLink RX7 24 "CloneVolumes$Tape" "length" "I" ∈ lw_gd := zm (List.mem_of_getElem? (i := 236) (by decide +kernel)) rfl
theorem fl_X9_15 : Cond.fieldLink RX9 15 "CloneVolumes$Tape" "length" "I" ∈ lw_gd := zm (List.mem_of_getElem? (i := 235) (by decide +kernel)) rfl
theorem dX11_isKey_0 : decode cX11_isKey 0 = .ok (.iload_n 0, 1) := by decide +kernel
theorem dX11_isKey_1 : decode cX11_isKey 1 = .ok (.ifCond .lt 14, 3) := by decide +kernel
theorem dX11_isKey_4 : decode cX11_isKey 4 = .ok (.iload_n 0, 1) := by decide +kernel
theorem dX11_isKey_5 : decode cX11_isKey 5 = .ok (.sipush 999, 3) := by decide +kernel
theorem dX11_isKey_8 : decode cX11_isKey 8 = .ok (.if_icmp .gt 7, 3) := by decide +kernel
theorem dX11_isKey_11 : decode cX11_isKey 11 = .ok (.iconst 1, 1) := by decide +kernel
theorem dX11_isKey_12 : decode cX11_isKey 12 = .ok (.goto 4, 3) := by decide +kernel
theorem dX11_isKey_15 : decode cX11_isKey 15 = .ok (.iconst 0, 1) := by decide +kernel
theorem dX11_isKey_16 : decode cX11_isKey 16 = .ok (.ireturn, 1) := by decide +kernel
theorem dX11_oneOf_0 : decode cX11_oneOf 0 = .ok (.iload_n 0, 1) := by decide +kernel
theorem dX11_oneOf_1 : decode cX11_oneOf 1 = .ok (.ifCond .ne 5, 3) := by decide +kernel
theorem dX11_oneOf_4 : decode cX11_oneOf 4 = .ok (.iload_n 1, 1) := by decide +kernel
theorem dX11_oneOf_5 : decode cX11_oneOf 5 = .ok (.ireturn, 1) := by decide +kernel
theorem dX11_oneOf_6 : decode cX11_oneOf 6 = .ok (.iload_n 0, 1) := by decide +kernel
theorem dX11_oneOf_7 : decode cX11_oneOf 7 = .ok (.iconst 1, 1) := by decide +kernel
theorem dX11_oneOf_8 : decode cX11_oneOf 8 = .ok (.if_icmp .ne 7, 3) := by decide +kernel
theorem dX11_oneOf_11 : decode cX11_oneOf 11 = .ok (.iload_n 2, 1) := by decide +kernel
theorem dX11_oneOf_12 : decode cX11_oneOf 12 = .ok (.goto 4, 3) := by decide +kernel
theorem dX11_oneOf_15 : decode cX11_oneOf 15 = .ok (.iconst (-1), 1) := by decide +kernel
theorem dX11_oneOf_16 : decode cX11_oneOf 16 = .ok (.ireturn, 1) := by decide +kernel
theorem dX2_forget_0 : decode cX2_forget 0 = .ok (.aload_n 0, 1) := by decide +kernel
theorem dX2_forget_1 : decode cX2_forget 1 = .ok (.getfield 31, 3) := by decide +kernel
theorem dX2_forget_4 : decode cX2_forget 4 = .ok (.ifCond .eq 10, 3) := by decide +kernel
theorem dX2_forget_14 : decode cX2_forget 14 = .ok (.aconst_null, 1) := by decide +kernel
theorem dX2_forget_15 : decode cX2_forget 15 = .ok (.areturn, 1) := by decide +kernel
theorem dX2_toldOf_0 : decode cX2_toldOf 0 = .ok (.iload_n 1, 1) := by decide +kernel
theorem dX2_toldOf_1 : decode cX2_toldOf 1 = .ok (.ifCond .lt 11, 3) := by decide +kernel
theorem dX2_toldOf_4 : decode cX2_toldOf 4 = .ok (.iload_n 1, 1) := by decide +kernel
theorem dX2_toldOf_5 : decode cX2_toldOf 5 = .ok (.aload_n 0, 1) := by decide +kernel
theorem dX2_toldOf_6 : decode cX2_toldOf 6 = .ok (.invokevirtual 40, 3) := by decide +kernel
theorem dX2_toldOf_9 : decode cX2_toldOf 9 = .ok (.if_icmp .lt 5, 3) := by decide +kernel
theorem dX2_toldOf_12 : decode cX2_toldOf 12 = .ok (.iconst (-1), 1) := by decide +kernel
theorem dX2_toldOf_13 : decode cX2_toldOf 13 = .ok (.ireturn, 1) := by decide +kernel
theorem dX2_toldRows_0 : decode cX2_toldRows 0 = .ok (.aload_n 0, 1) := by decide +kernel
theorem dX2_toldRows_1 : decode cX2_toldRows 1 = .ok (.getfield 27, 3) := by decide +kernel
theorem dX2_toldRows_4 : decode cX2_toldRows 4 = .ok (.bipush 40, 2) := by decide +kernel
theorem dX2_toldRows_6 : decode cX2_toldRows 6 = .ok (.invokestatic 34, 3) := by decide +kernel
theorem dX2_toldRows_9 : decode cX2_toldRows 9 = .ok (.ireturn, 1) := by decide +kernel
theorem dX7_take_0 : decode cX7_take 0 = .ok (.aload_n 1, 1) := by decide +kernel
theorem dX7_take_1 : decode cX7_take 1 = .ok (.getfield 24, 3) := by decide +kernel
theorem dX7_take_4 : decode cX7_take 4 = .ok (.iconst 4, 1) := by decide +kernel
theorem dX7_take_5 : decode cX7_take 5 = .ok (.idiv, 1) := by decide +kernel
theorem dX7_take_6 : decode cX7_take 6 = .ok (.istore_n 2, 1) := by decide +kernel
theorem dX7_take_7 : decode cX7_take 7 = .ok (.aload_n 1, 1) := by decide +kernel
theorem dX7_take_8 : decode cX7_take 8 = .ok (.getfield 24, 3) := by decide +kernel
theorem dX7_take_11 : decode cX7_take 11 = .ok (.iconst 4, 1) := by decide +kernel
theorem dX7_take_12 : decode cX7_take 12 = .ok (.irem, 1) := by decide +kernel
theorem dX7_take_13 : decode cX7_take 13 = .ok (.ifCond .ne 14, 3) := by decide +kernel
theorem dX7_take_16 : decode cX7_take 16 = .ok (.iload_n 2, 1) := by decide +kernel
theorem dX7_take_17 : decode cX7_take 17 = .ok (.iconst 1, 1) := by decide +kernel
theorem dX7_take_18 : decode cX7_take 18 = .ok (.if_icmp .lt 9, 3) := by decide +kernel
theorem dX7_take_27 : decode cX7_take 27 = .ok (.iconst 0, 1) := by decide +kernel
theorem dX7_take_28 : decode cX7_take 28 = .ok (.ireturn, 1) := by decide +kernel
theorem dX8_freeNumber_0 : decode cX8_freeNumber 0 = .ok (.iconst 0, 1) := by decide +kernel
theorem dX8_freeNumber_1 : decode cX8_freeNumber 1 = .ok (.istore_n 1, 1) := by decide +kernel
theorem dX8_freeNumber_2 : decode cX8_freeNumber 2 = .ok (.iload_n 1, 1) := by decide +kernel
theorem dX8_freeNumber_3 : decode cX8_freeNumber 3 = .ok (.bipush 8, 2) := by decide +kernel
theorem dX8_freeNumber_5 : decode cX8_freeNumber 5 = .ok (.if_icmp .ge 19, 3) := by decide +kernel
theorem dX8_freeNumber_8 : decode cX8_freeNumber 8 = .ok (.aload_n 0, 1) := by decide +kernel
theorem dX8_freeNumber_9 : decode cX8_freeNumber 9 = .ok (.iload_n 1, 1) := by decide +kernel
theorem dX8_freeNumber_10 : decode cX8_freeNumber 10 = .ok (.invokevirtual 67, 3) := by decide +kernel
theorem dX8_freeNumber_13 : decode cX8_freeNumber 13 = .ok (.ifCond .ne 5, 3) := by decide +kernel
theorem dX8_freeNumber_16 : decode cX8_freeNumber 16 = .ok (.iload_n 1, 1) := by decide +kernel
theorem dX8_freeNumber_17 : decode cX8_freeNumber 17 = .ok (.ireturn, 1) := by decide +kernel
theorem dX8_held_0 : decode cX8_held 0 = .ok (.iconst 0, 1) := by decide +kernel
theorem dX8_held_1 : decode cX8_held 1 = .ok (.istore_n 1, 1) := by decide +kernel
theorem dX8_held_2 : decode cX8_held 2 = .ok (.iconst 0, 1) := by decide +kernel
theorem dX8_held_3 : decode cX8_held 3 = .ok (.istore_n 2, 1) := by decide +kernel
theorem dX8_held_4 : decode cX8_held 4 = .ok (.iload_n 2, 1) := by decide +kernel
theorem dX8_held_5 : decode cX8_held 5 = .ok (.aload_n 0, 1) := by decide +kernel
theorem dX8_held_6 : decode cX8_held 6 = .ok (.getfield 40, 3) := by decide +kernel
theorem dX8_held_9 : decode cX8_held 9 = .ok (.if_icmp .ge 25, 3) := by decide +kernel
theorem dX8_held_34 : decode cX8_held 34 = .ok (.iload_n 1, 1) := by decide +kernel
theorem dX8_held_35 : decode cX8_held 35 = .ok (.ireturn, 1) := by decide +kernel
theorem dX8_isBlock_0 : decode cX8_isBlock 0 = .ok (.iload_n 1, 1) := by decide +kernel
theorem dX8_isBlock_1 : decode cX8_isBlock 1 = .ok (.ifCond .lt 15, 3) := by decide +kernel
theorem dX8_isBlock_4 : decode cX8_isBlock 4 = .ok (.iload_n 1, 1) := by decide +kernel
theorem dX8_isBlock_5 : decode cX8_isBlock 5 = .ok (.aload_n 0, 1) := by decide +kernel
theorem dX8_isBlock_6 : decode cX8_isBlock 6 = .ok (.getfield 40, 3) := by decide +kernel
theorem dX8_isBlock_9 : decode cX8_isBlock 9 = .ok (.if_icmp .ge 7, 3) := by decide +kernel
theorem dX8_isBlock_16 : decode cX8_isBlock 16 = .ok (.iconst 0, 1) := by decide +kernel
theorem dX8_isBlock_17 : decode cX8_isBlock 17 = .ok (.ireturn, 1) := by decide +kernel
theorem dX8_isVolume_0 : decode cX8_isVolume 0 = .ok (.iload_n 1, 1) := by decide +kernel
theorem dX8_isVolume_1 : decode cX8_isVolume 1 = .ok (.ifCond .lt 24, 3) := by decide +kernel
theorem dX8_isVolume_4 : decode cX8_isVolume 4 = .ok (.iload_n 1, 1) := by decide +kernel
theorem dX8_isVolume_5 : decode cX8_isVolume 5 = .ok (.bipush 8, 2) := by decide +kernel
theorem dX8_isVolume_7 : decode cX8_isVolume 7 = .ok (.if_icmp .ge 18, 3) := by decide +kernel
theorem dX8_isVolume_10 : decode cX8_isVolume 10 = .ok (.aload_n 0, 1) := by decide +kernel
theorem dX8_isVolume_11 : decode cX8_isVolume 11 = .ok (.getfield 30, 3) := by decide +kernel
theorem dX8_isVolume_14 : decode cX8_isVolume 14 = .ok (.iload_n 1, 1) := by decide +kernel
theorem dX8_isVolume_15 : decode cX8_isVolume 15 = .ok (.iaload, 1) := by decide +kernel
theorem dX8_isVolume_16 : decode cX8_isVolume 16 = .ok (.bipush (-2), 2) := by decide +kernel
theorem dX8_isVolume_18 : decode cX8_isVolume 18 = .ok (.if_icmp .eq 7, 3) := by decide +kernel
theorem dX8_isVolume_25 : decode cX8_isVolume 25 = .ok (.iconst 0, 1) := by decide +kernel
theorem dX8_isVolume_26 : decode cX8_isVolume 26 = .ok (.ireturn, 1) := by decide +kernel
theorem dX8_used_0 : decode cX8_used 0 = .ok (.iconst 0, 1) := by decide +kernel
theorem dX8_used_1 : decode cX8_used 1 = .ok (.istore_n 1, 1) := by decide +kernel
theorem dX8_used_2 : decode cX8_used 2 = .ok (.iconst 0, 1) := by decide +kernel
theorem dX8_used_3 : decode cX8_used 3 = .ok (.istore_n 2, 1) := by decide +kernel
theorem dX8_used_4 : decode cX8_used 4 = .ok (.iload_n 2, 1) := by decide +kernel
theorem dX8_used_5 : decode cX8_used 5 = .ok (.aload_n 0, 1) := by decide +kernel
theorem dX8_used_6 : decode cX8_used 6 = .ok (.getfield 40, 3) := by decide +kernel
theorem dX8_used_9 : decode cX8_used 9 = .ok (.if_icmp .ge 26, 3) := by decide +kernel
theorem dX8_used_35 : decode cX8_used 35 = .ok (.iload_n 1, 1) := by decide +kernel
theorem dX8_used_36 : decode cX8_used 36 = .ok (.ireturn, 1) := by decide +kernel
theorem dX8_volumes_0 : decode cX8_volumes 0 = .ok (.iconst 0, 1) := by decide +kernel
theorem dX8_volumes_1 : decode cX8_volumes 1 = .ok (.istore_n 1, 1) := by decide +kernel
theorem dX8_volumes_2 : decode cX8_volumes 2 = .ok (.iconst 0, 1) := by decide +kernel
theorem dX8_volumes_3 : decode cX8_volumes 3 = .ok (.istore_n 2, 1) := by decide +kernel
theorem dX8_volumes_4 : decode cX8_volumes 4 = .ok (.iload_n 2, 1) := by decide +kernel
theorem dX8_volumes_5 : decode cX8_volumes 5 = .ok (.bipush 8, 2) := by decide +kernel
theorem dX8_volumes_7 : decode cX8_volumes 7 = .ok (.if_icmp .ge 25, 3) := by decide +kernel
theorem dX8_volumes_10 : decode cX8_volumes 10 = .ok (.iload_n 1, 1) := by decide +kernel
theorem dX8_volumes_11 : decode cX8_volumes 11 = .ok (.aload_n 0, 1) := by decide +kernel
theorem dX8_volumes_12 : decode cX8_volumes 12 = .ok (.iload_n 2, 1) := by decide +kernel
theorem dX8_volumes_13 : decode cX8_volumes 13 = .ok (.invokevirtual 67, 3) := by decide +kernel
theorem dX8_volumes_16 : decode cX8_volumes 16 = .ok (.ifCond .eq 7, 3) := by decide +kernel
theorem dX8_volumes_23 : decode cX8_volumes 23 = .ok (.iconst 0, 1) := by decide +kernel
theorem dX8_volumes_24 : decode cX8_volumes 24 = .ok (.iadd, 1) := by decide +kernel
theorem dX8_volumes_25 : decode cX8_volumes 25 = .ok (.istore_n 1, 1) := by decide +kernel
theorem dX8_volumes_26 : decode cX8_volumes 26 = .ok (.iinc 2 1, 3) := by decide +kernel
theorem dX8_volumes_29 : decode cX8_volumes 29 = .ok (.goto (-25), 3) := by decide +kernel
theorem dX8_volumes_32 : decode cX8_volumes 32 = .ok (.iload_n 1, 1) := by decide +kernel
theorem dX8_volumes_33 : decode cX8_volumes 33 = .ok (.ireturn, 1) := by decide +kernel
theorem dX9_at_0 : decode cX9_at 0 = .ok (.iload_n 1, 1) := by decide +kernel
theorem dX9_at_1 : decode cX9_at 1 = .ok (.ifCond .lt 20, 3) := by decide +kernel
theorem dX9_at_4 : decode cX9_at 4 = .ok (.iload_n 1, 1) := by decide +kernel
theorem dX9_at_5 : decode cX9_at 5 = .ok (.aload_n 0, 1) := by decide +kernel
theorem dX9_at_6 : decode cX9_at 6 = .ok (.getfield 15, 3) := by decide +kernel
theorem dX9_at_9 : decode cX9_at 9 = .ok (.if_icmp .ge 12, 3) := by decide +kernel
theorem dX9_at_21 : decode cX9_at 21 = .ok (.iconst (-1), 1) := by decide +kernel
theorem dX9_at_22 : decode cX9_at 22 = .ok (.ireturn, 1) := by decide +kernel
theorem dX9_hasRoom_0 : decode cX9_hasRoom 0 = .ok (.aload_n 0, 1) := by decide +kernel
theorem dX9_hasRoom_1 : decode cX9_hasRoom 1 = .ok (.getfield 15, 3) := by decide +kernel
theorem dX9_hasRoom_4 : decode cX9_hasRoom 4 = .ok (.bipush 20, 2) := by decide +kernel
theorem dX9_hasRoom_6 : decode cX9_hasRoom 6 = .ok (.iadd, 1) := by decide +kernel
theorem dX9_hasRoom_7 : decode cX9_hasRoom 7 = .ok (.sipush 1600, 3) := by decide +kernel
theorem dX9_hasRoom_10 : decode cX9_hasRoom 10 = .ok (.if_icmp .gt 7, 3) := by decide +kernel
theorem dX9_hasRoom_13 : decode cX9_hasRoom 13 = .ok (.iconst 1, 1) := by decide +kernel
theorem dX9_hasRoom_14 : decode cX9_hasRoom 14 = .ok (.goto 4, 3) := by decide +kernel
theorem dX9_hasRoom_18 : decode cX9_hasRoom 18 = .ok (.ireturn, 1) := by decide +kernel
set_option maxHeartbeats 4000000 in
set_option maxRecDepth 100000 in
theorem k_X8_isVolume (l : Launch) (D : va_G) (a : Nat → Nat) (p0 : Int32) : Met l yX8_isVolume (wz yX8_isVolume cX8_isVolume 2 (some .boolean)) { frames := 0, cells := 0, slots := 0, locals := 0 } (va_Pc [.ref (a 13), .int p0] (zP D [((a 13), .inr (8, [.int 0, .int 0, .long 0, .ref (a 60), .ref (a 61), .ref (a 62), .ref (a 63), .ref (a 64), .ref (a 65), .ref (a 66), .ref (a 67)])), ((a 66), .inl (D.1 13, 8, .inl (fun _ => (-2))))])) (va_Qi (fun r (_ : Unit) => r = 0) (fun _ _ => True) (fun _ => False)) 0 0 (fun _ => False) := by
  refine Met.ofW (cc := cX8_isVolume) (maxL := 2) (ret := (some .boolean)) (by decide) rfl ?_
  intro p e s m args below meth c s₁ B hml hv
  obtain ⟨rfl, hP, hK⟩ := hv
  have hx := B.exec
  have hb := B.bytes
  have hr := B.returns
  have hts := atoms_spec (ws := wz yX8_isVolume cX8_isVolume 2 (some .boolean)) B.pre
  have ht : ∀ w ∈ lw_gd, w.before _ s = true := fun w h => hts w (List.mem_cons_of_mem _ h)
  have hown : s.vm.findClass RX8 = some m.cls := findClass_of_methodNamed B.named
  have hlocks := B.notSynchronized
  have hS : va_S (fun _ => False) s.heap s.heap [] := va_S.rf
  have hl := lv_entry ([.ref (a 13), .int p0]) (n := 2) (Nat.le_of_ble_eq_true rfl)
  rw [lg_entry_eq]
  generalize (lg_sl ([.ref (a 13), .int p0]) ++ List.replicate (2 - (lg_sl ([.ref (a 13), .int p0])).length) Slot.unset).toArray = ls at hl ⊢
  have hl : lv_has ls 2 [(0, .ref (a 13)), (1, .int p0)] := hl
  refine lv_iload_n hx hb dX8_isVolume_0 rfl (lv_at hl 1 rfl) ?_
  refine lv_if_lt (tgt := 25) hx hb dX8_isVolume_1 (by decide) (fun c_1 => ?_) (fun c_1 => ?_)
  · have g_2 : p0.toInt < 0 := z_lt rfl (by decide) c_1
    refine lv_iconst (v := 0) hx hb dX8_isVolume_25 (by decide) ?_
    exact W.zret (v := 0) hx hb hr (by decide) (fun t ht hW => ⟨⟨0, (), rfl, rfl, trivial⟩, hS.F ht⟩) hS.2.2 dX8_isVolume_26
  · have g_2 : 0 ≤ p0.toInt := z_nlt rfl (by decide) c_1
    refine lv_iload_n hx hb dX8_isVolume_4 rfl (lv_at hl 1 rfl) ?_
    refine lv_bipush (v := 8) hx hb dX8_isVolume_5 (by decide) ?_
    refine lv_icmp_ge (tgt := 25) hx hb dX8_isVolume_7 (by decide) (fun c_3 => ?_) (fun c_3 => ?_)
    · have g_4 : 8 ≤ p0.toInt := z_le (by decide) rfl c_3
      refine lv_iconst (v := 0) hx hb dX8_isVolume_25 (by decide) ?_
      exact W.zret (v := 0) hx hb hr (by decide) (fun t ht hW => ⟨⟨0, (), rfl, rfl, trivial⟩, hS.F ht⟩) hS.2.2 dX8_isVolume_26
    · have g_4 : p0.toInt < 8 := z_nle (by decide) rfl c_3
      refine lv_aload_n hx hb dX8_isVolume_10 rfl (lv_at hl 0 rfl) ?_
      refine va_get (D := D) (ci := 8) (v := .ref (a 66)) (C := RX8) (T := TX8) (N := 11) hx hb ht inX8 hown hK hP 0 rfl rfl 9 (by decide) (ht (.fieldLink RX8 30 "CloneVolumes$State" "roots" "[I") fl_X8_30) (fun _ h9 => h9) rfl dX8_isVolume_11 ?_
      refine lv_iload_n hx hb dX8_isVolume_14 rfl (lv_at hl 1 rfl) ?_
      refine va_iald hx hb hK hP 1 0 rfl rfl (z_in (by omega) (by omega)) dX8_isVolume_15 ?_
      refine z_topi (y := (-2)) (by decide) ?_
      refine lv_bipush (v := (-2)) hx hb dX8_isVolume_16 (by decide) ?_
      refine lv_icmp_eq (tgt := 25) hx hb dX8_isVolume_18 (by decide) (fun _ => ?_) (fun c_5 => (z_abs c_5 (by decide)).elim)
      refine lv_iconst (v := 0) hx hb dX8_isVolume_25 (by decide) ?_
      exact W.zret (v := 0) hx hb hr (by decide) (fun t ht hW => ⟨⟨0, (), rfl, rfl, trivial⟩, hS.F ht⟩) hS.2.2 dX8_isVolume_26
set_option maxHeartbeats 4000000 in
set_option maxRecDepth 100000 in
theorem k_X8_isBlock (l : Launch) (D : va_G) (a : Nat → Nat) (p0 : Int32) : Met l yX8_isBlock (wz yX8_isBlock cX8_isBlock 2 (some .boolean)) { frames := 0, cells := 0, slots := 0, locals := 0 } (va_Pc [.ref (a 13), .int p0] (zP D [((a 13), .inr (8, [.int 0, .int 0, .long 0, .ref (a 60), .ref (a 61), .ref (a 62), .ref (a 63), .ref (a 64), .ref (a 65), .ref (a 66), .ref (a 67)]))])) (va_Qi (fun r (_ : Unit) => r = 0) (fun _ _ => True) (fun _ => False)) 0 0 (fun _ => False) := by
  refine Met.ofW (cc := cX8_isBlock) (maxL := 2) (ret := (some .boolean)) (by decide) rfl ?_
  intro p e s m args below meth c s₁ B hml hv
  obtain ⟨rfl, hP, hK⟩ := hv
  have hx := B.exec
  have hb := B.bytes
  have hr := B.returns
  have hts := atoms_spec (ws := wz yX8_isBlock cX8_isBlock 2 (some .boolean)) B.pre
  have ht : ∀ w ∈ lw_gd, w.before _ s = true := fun w h => hts w (List.mem_cons_of_mem _ h)
  have hown : s.vm.findClass RX8 = some m.cls := findClass_of_methodNamed B.named
  have hlocks := B.notSynchronized
  have hS : va_S (fun _ => False) s.heap s.heap [] := va_S.rf
  have hl := lv_entry ([.ref (a 13), .int p0]) (n := 2) (Nat.le_of_ble_eq_true rfl)
  rw [lg_entry_eq]
  generalize (lg_sl ([.ref (a 13), .int p0]) ++ List.replicate (2 - (lg_sl ([.ref (a 13), .int p0])).length) Slot.unset).toArray = ls at hl ⊢
  have hl : lv_has ls 2 [(0, .ref (a 13)), (1, .int p0)] := hl
  refine lv_iload_n hx hb dX8_isBlock_0 rfl (lv_at hl 1 rfl) ?_
  refine lv_if_lt (tgt := 16) hx hb dX8_isBlock_1 (by decide) (fun c_1 => ?_) (fun c_1 => ?_)
  · have g_2 : p0.toInt < 0 := z_lt rfl (by decide) c_1
    refine lv_iconst (v := 0) hx hb dX8_isBlock_16 (by decide) ?_
    exact W.zret (v := 0) hx hb hr (by decide) (fun t ht hW => ⟨⟨0, (), rfl, rfl, trivial⟩, hS.F ht⟩) hS.2.2 dX8_isBlock_17
  · have g_2 : 0 ≤ p0.toInt := z_nlt rfl (by decide) c_1
    refine lv_iload_n hx hb dX8_isBlock_4 rfl (lv_at hl 1 rfl) ?_
    refine lv_aload_n hx hb dX8_isBlock_5 rfl (lv_at hl 0 rfl) ?_
    refine va_get (D := D) (ci := 8) (v := .int 0) (C := RX8) (T := TX8) (N := 11) hx hb ht inX8 hown hK hP 0 rfl rfl 0 (by decide) (ht (.fieldLink RX8 40 "CloneVolumes$State" "blocks" "I") fl_X8_40) (fun _ h9 => h9) rfl dX8_isBlock_6 ?_
    refine lv_icmp_ge (tgt := 16) hx hb dX8_isBlock_9 (by decide) (fun c_3 => ?_) (fun c_3 => ?_)
    · have g_4 : 0 ≤ p0.toInt := z_le (by decide) rfl c_3
      refine lv_iconst (v := 0) hx hb dX8_isBlock_16 (by decide) ?_
      exact W.zret (v := 0) hx hb hr (by decide) (fun t ht hW => ⟨⟨0, (), rfl, rfl, trivial⟩, hS.F ht⟩) hS.2.2 dX8_isBlock_17
    · exfalso
      have g_4 : p0.toInt < 0 := z_nle (by decide) rfl c_3
      omega
set_option maxHeartbeats 4000000 in
set_option maxRecDepth 100000 in
theorem k_X11_isKey (l : Launch) (D : va_G) (p0 : Int32) : Met l yX11_isKey (wz yX11_isKey cX11_isKey 1 (some .boolean)) { frames := 0, cells := 0, slots := 0, locals := 0 } (va_Pc [.int p0] (zP D [])) (va_Qi (fun r (_ : Unit) => (r = 0 ∧ p0.toInt < 0) ∨ (r = 0 ∧ 0 ≤ p0.toInt ∧ 999 < p0.toInt) ∨ (r = 1 ∧ 0 ≤ p0.toInt ∧ p0.toInt ≤ 999)) (fun _ _ => True) (fun _ => False)) 0 0 (fun _ => False) := by
  refine Met.ofW (cc := cX11_isKey) (maxL := 1) (ret := (some .boolean)) (by decide) rfl ?_
  intro p e s m args below meth c s₁ B hml hv
  obtain ⟨rfl, hP, hK⟩ := hv
  have hx := B.exec
  have hb := B.bytes
  have hr := B.returns
  have hts := atoms_spec (ws := wz yX11_isKey cX11_isKey 1 (some .boolean)) B.pre
  have ht : ∀ w ∈ lw_gd, w.before _ s = true := fun w h => hts w (List.mem_cons_of_mem _ h)
  have hown : s.vm.findClass RX11 = some m.cls := findClass_of_methodNamed B.named
  have hlocks := B.notSynchronized
  have hS : va_S (fun _ => False) s.heap s.heap [] := va_S.rf
  have hl := lv_entry ([.int p0]) (n := 1) (Nat.le_of_ble_eq_true rfl)
  rw [lg_entry_eq]
  generalize (lg_sl ([.int p0]) ++ List.replicate (1 - (lg_sl ([.int p0])).length) Slot.unset).toArray = ls at hl ⊢
  have hl : lv_has ls 1 [(0, .int p0)] := hl
  refine lv_iload_n hx hb dX11_isKey_0 rfl (lv_at hl 0 rfl) ?_
  refine lv_if_lt (tgt := 15) hx hb dX11_isKey_1 (by decide) (fun c_1 => ?_) (fun c_1 => ?_)
  · have g_2 : p0.toInt < 0 := z_lt rfl (by decide) c_1
    refine lv_iconst (v := 0) hx hb dX11_isKey_15 (by decide) ?_
    exact W.zret (v := 0) hx hb hr (by decide) (fun t ht hW => ⟨⟨0, (), rfl, Or.inl (⟨rfl, zu_lt rfl (by decide) g_2⟩), trivial⟩, hS.F ht⟩) hS.2.2 dX11_isKey_16
  · have g_2 : 0 ≤ p0.toInt := z_nlt rfl (by decide) c_1
    refine lv_iload_n hx hb dX11_isKey_4 rfl (lv_at hl 0 rfl) ?_
    refine lv_sipush (v := 999) hx hb dX11_isKey_5 (by decide) ?_
    refine lv_icmp_gt (tgt := 15) hx hb dX11_isKey_8 (by decide) (fun c_3 => ?_) (fun c_3 => ?_)
    · have g_4 : 999 < p0.toInt := z_lt (by decide) rfl c_3
      refine lv_iconst (v := 0) hx hb dX11_isKey_15 (by decide) ?_
      exact W.zret (v := 0) hx hb hr (by decide) (fun t ht hW => ⟨⟨0, (), rfl, Or.inr (Or.inl (⟨rfl, zu_ge rfl (by decide) g_2, zu_gt rfl (by decide) g_4⟩)), trivial⟩, hS.F ht⟩) hS.2.2 dX11_isKey_16
    · have g_4 : p0.toInt ≤ 999 := z_nlt (by decide) rfl c_3
      refine lv_iconst (v := 1) hx hb dX11_isKey_11 (by decide) ?_
      refine lv_goto (tgt := 16) hx hb dX11_isKey_12 (by decide) ?_
      exact W.zret (v := 1) hx hb hr (by decide) (fun t ht hW => ⟨⟨1, (), rfl, Or.inr (Or.inr (⟨rfl, zu_ge rfl (by decide) g_2, zu_le rfl (by decide) g_4⟩)), trivial⟩, hS.F ht⟩) hS.2.2 dX11_isKey_16
set_option maxHeartbeats 4000000 in
set_option maxRecDepth 100000 in
theorem k_X11_oneOf (l : Launch) (D : va_G) (p0 p1 p2 : Int32) : Met l yX11_oneOf (wz yX11_oneOf cX11_oneOf 3 (some .int)) { frames := 0, cells := 0, slots := 0, locals := 0 } (va_Pc [.int p0, .int p1, .int p2] (zP D [])) (va_Qi (fun r (_ : Unit) => (r = (-1) ∧ ¬ p0.toInt = 0 ∧ ¬ p0.toInt = 1) ∨ (r = p2 ∧ ¬ p0.toInt = 0 ∧ p0.toInt = 1) ∨ (r = p1 ∧ p0.toInt = 0)) (fun _ _ => True) (fun _ => False)) 0 0 (fun _ => False) := by
  refine Met.ofW (cc := cX11_oneOf) (maxL := 3) (ret := (some .int)) (by decide) rfl ?_
  intro p e s m args below meth c s₁ B hml hv
  obtain ⟨rfl, hP, hK⟩ := hv
  have hx := B.exec
  have hb := B.bytes
  have hr := B.returns
  have hts := atoms_spec (ws := wz yX11_oneOf cX11_oneOf 3 (some .int)) B.pre
  have ht : ∀ w ∈ lw_gd, w.before _ s = true := fun w h => hts w (List.mem_cons_of_mem _ h)
  have hown : s.vm.findClass RX11 = some m.cls := findClass_of_methodNamed B.named
  have hlocks := B.notSynchronized
  have hS : va_S (fun _ => False) s.heap s.heap [] := va_S.rf
  have hl := lv_entry ([.int p0, .int p1, .int p2]) (n := 3) (Nat.le_of_ble_eq_true rfl)
  rw [lg_entry_eq]
  generalize (lg_sl ([.int p0, .int p1, .int p2]) ++ List.replicate (3 - (lg_sl ([.int p0, .int p1, .int p2])).length) Slot.unset).toArray = ls at hl ⊢
  have hl : lv_has ls 3 [(0, .int p0), (1, .int p1), (2, .int p2)] := hl
  refine lv_iload_n hx hb dX11_oneOf_0 rfl (lv_at hl 0 rfl) ?_
  refine lv_if_ne (tgt := 6) hx hb dX11_oneOf_1 (by decide) (fun c_1 => ?_) (fun c_1 => ?_)
  · have g_2 : ¬ p0.toInt = 0 := z_ne rfl (by decide) c_1
    refine lv_iload_n hx hb dX11_oneOf_6 rfl (lv_at hl 0 rfl) ?_
    refine lv_iconst (v := 1) hx hb dX11_oneOf_7 (by decide) ?_
    refine lv_icmp_ne (tgt := 15) hx hb dX11_oneOf_8 (by decide) (fun c_3 => ?_) (fun c_3 => ?_)
    · have g_4 : ¬ p0.toInt = 1 := z_ne rfl (by decide) c_3
      refine lv_iconst (v := (-1)) hx hb dX11_oneOf_15 (by decide) ?_
      exact W.iret (v := (-1)) hx hb hr (fun t ht hW => ⟨⟨(-1), (), rfl, Or.inl (⟨rfl, zu_ne rfl (by decide) g_2, zu_ne rfl (by decide) g_4⟩), trivial⟩, hS.F ht⟩) hS.2.2 dX11_oneOf_16
    · have g_4 : p0.toInt = 1 := z_eq rfl (by decide) c_3
      refine lv_iload_n hx hb dX11_oneOf_11 rfl (lv_at hl 2 rfl) ?_
      refine lv_goto (tgt := 16) hx hb dX11_oneOf_12 (by decide) ?_
      exact W.iret (v := p2) hx hb hr (fun t ht hW => ⟨⟨p2, (), rfl, Or.inr (Or.inl (⟨rfl, zu_ne rfl (by decide) g_2, zu_eq rfl (by decide) g_4⟩)), trivial⟩, hS.F ht⟩) hS.2.2 dX11_oneOf_16
  · have g_2 : p0.toInt = 0 := z_eq rfl (by decide) c_1
    refine lv_iload_n hx hb dX11_oneOf_4 rfl (lv_at hl 1 rfl) ?_
    exact W.iret (v := p1) hx hb hr (fun t ht hW => ⟨⟨p1, (), rfl, Or.inr (Or.inr (⟨rfl, zu_eq rfl (by decide) g_2⟩)), trivial⟩, hS.F ht⟩) hS.2.2 dX11_oneOf_5
set_option maxHeartbeats 4000000 in
set_option maxRecDepth 100000 in
theorem k_X8_volumes (l : Launch) (D : va_G) (a : Nat → Nat)  : Met l yX8_volumes (wz yX8_volumes cX8_volumes 3 (some .int)) { frames := 1, cells := 0, slots := 0, locals := 60 } (va_Pc [.ref (a 13)] (zP D [((a 13), .inr (8, [.int 0, .int 0, .long 0, .ref (a 60), .ref (a 61), .ref (a 62), .ref (a 63), .ref (a 64), .ref (a 65), .ref (a 66), .ref (a 67)])), ((a 66), .inl (D.1 13, 8, .inl (fun _ => (-2))))])) (va_Qi (fun r (_ : Unit) => r = 0) (fun _ _ => True) (fun _ => False)) 0 0 (fun _ => False) := by
  refine Met.ofW (cc := cX8_volumes) (maxL := 3) (ret := (some .int)) (by decide) rfl ?_
  intro p e s m args below meth c s₁ B hml hv
  obtain ⟨rfl, hP, hK⟩ := hv
  have hx := B.exec
  have hb := B.bytes
  have hr := B.returns
  have hts := atoms_spec (ws := wz yX8_volumes cX8_volumes 3 (some .int)) B.pre
  have ht : ∀ w ∈ lw_gd, w.before _ s = true := fun w h => hts w (List.mem_cons_of_mem _ h)
  have hown : s.vm.findClass RX8 = some m.cls := findClass_of_methodNamed B.named
  have hlocks := B.notSynchronized
  have hS : va_S (fun _ => False) s.heap s.heap [] := va_S.rf
  have hl := lv_entry ([.ref (a 13)]) (n := 3) (Nat.le_of_ble_eq_true rfl)
  rw [lg_entry_eq]
  generalize (lg_sl ([.ref (a 13)]) ++ List.replicate (3 - (lg_sl ([.ref (a 13)])).length) Slot.unset).toArray = ls at hl ⊢
  have hl : lv_has ls 3 [(0, .ref (a 13))] := hl
  refine lv_iconst (v := 0) hx hb dX8_volumes_0 (by decide) ?_
  refine lv_istore_n (lv' := [(1, .int 0), (0, .ref (a 13))]) hx hb dX8_volumes_1 rfl hl (by decide) rfl (fun ls hl => ?_)
  refine lv_iconst (v := 0) hx hb dX8_volumes_2 (by decide) ?_
  refine lv_istore_n (lv' := [(2, .int 0), (1, .int 0), (0, .ref (a 13))]) hx hb dX8_volumes_3 rfl hl (by decide) rfl (fun ls hl => ?_)
  refine z_loop (σ := Unit) (N := 8) (fun i u H locs ls => va_P D vwCl [((a 13), .inr (8, [.int 0, .int 0, .long 0, .ref (a 60), .ref (a 61), .ref (a 62), .ref (a 63), .ref (a 64), .ref (a 65), .ref (a 66), .ref (a 67)])), ((a 66), .inl (D.1 13, 8, .inl (fun _ => (-2))))] H ∧ va_S (fun _ => False) s.heap H locs ∧ lv_has ls 3 [(2, .int (nI i)), (1, .int 0), (0, .ref (a 13))]) (fun i_1 _u H locs ls hi_i_1 hI ih_4 => ?_) 0 () (by decide) ⟨hP, hS, lv_sub hl [0, 1, 2] rfl⟩
  obtain ⟨hP, hS, hl⟩ := hI
  have hP : va_P D vwCl [((a 13), .inr (8, [.int 0, .int 0, .long 0, .ref (a 60), .ref (a 61), .ref (a 62), .ref (a 63), .ref (a 64), .ref (a 65), .ref (a 66), .ref (a 67)])), ((a 66), .inl (D.1 13, 8, .inl (fun _ => (-2))))] H := hP
  have hl : lv_has ls 3 [(2, .int (nI i_1)), (1, .int 0), (0, .ref (a 13))] := hl
  refine lv_iload_n hx hb dX8_volumes_4 rfl (lv_at hl 0 rfl) ?_
  refine lv_bipush (v := 8) hx hb dX8_volumes_5 (by decide) ?_
  refine lv_icmp_ge (tgt := 32) hx hb dX8_volumes_7 (by decide) (fun c_2 => ?_) (fun c_2 => ?_)
  · have g_3 : 8 ≤ ((i_1 : Nat) : Int) := z_le (by decide) (nI_toInt (by omega)) c_2
    obtain rfl : i_1 = 8 := by omega
    have hP : va_P D vwCl [((a 13), .inr (8, [.int 0, .int 0, .long 0, .ref (a 60), .ref (a 61), .ref (a 62), .ref (a 63), .ref (a 64), .ref (a 65), .ref (a 66), .ref (a 67)])), ((a 66), .inl (D.1 13, 8, .inl (fun _ => (-2))))] H := hP
    have hl : lv_has ls 3 [(2, .int 8), (1, .int 0), (0, .ref (a 13))] := hl
    refine lv_iload_n hx hb dX8_volumes_32 rfl (lv_at hl 1 rfl) ?_
    exact W.iret (v := 0) hx hb hr (fun t ht hW => ⟨⟨0, (), rfl, rfl, trivial⟩, hS.F ht⟩) hS.2.2 dX8_volumes_33
  · have g_3 : ((i_1 : Nat) : Int) < 8 := z_nle (by decide) (nI_toInt (by omega)) c_2
    refine lv_iload_n hx hb dX8_volumes_10 rfl (lv_at hl 1 rfl) ?_
    refine lv_aload_n hx hb dX8_volumes_11 rfl (lv_at hl 2 rfl) ?_
    refine lv_iload_n hx hb dX8_volumes_12 rfl (lv_at hl 0 rfl) ?_
    refine zcV (As := [.int (nI i_1)]) (rest := [.int 0]) (C := RX8) (n := 1) ⟨hx, hb, hml, hown, ht⟩ (k_X8_isVolume l D a (nI i_1)) (zgV ml_X8_67 im_X8_isVolume se_X8_isVolume in_X8 co_X8_isVolume) rfl rfl (by decide +kernel) ⟨Nat.le_of_ble_eq_true rfl, Nat.le_of_ble_eq_true rfl⟩ hK hP hS [0, 1] rfl 0 rfl rfl rfl rfl hl.1 rfl (Nat.le_of_ble_eq_true rfl) dX8_volumes_13 ⟨Nat.le_of_ble_eq_true rfl, Nat.le_of_ble_eq_true rfl⟩ (fun r_4 H locs hw hP hS => ?_)
    subst hw
    refine lv_if_eq (tgt := 23) hx hb dX8_volumes_16 (by decide) (fun _ => ?_) (fun c_5 => (z_abs c_5 (by decide)).elim)
    refine lv_iconst (v := 0) hx hb dX8_volumes_23 (by decide) ?_
    refine lv_iadd hx hb dX8_volumes_24 ?_
    refine z_topi (y := 0) (by decide) ?_
    refine lv_istore_n (lv' := [(1, .int 0), (2, .int (nI i_1)), (0, .ref (a 13))]) hx hb dX8_volumes_25 rfl hl (by decide) rfl (fun ls hl => ?_)
    refine lv_iinc (v := nI (i_1 + 1)) (lv' := [(2, .int (nI (i_1 + 1))), (1, .int 0), (0, .ref (a 13))]) hx hb dX8_volumes_26 hl (k := 1) rfl (z_inc _) (by decide) rfl (fun ls hl => ?_)
    refine lv_goto (tgt := 4) hx hb dX8_volumes_29 (by decide) ?_
    exact ih_4 () _ _ _ (by omega) ⟨hP.sub [0, 1] rfl, hS, lv_sub hl [0, 1, 2] rfl⟩
set_option maxHeartbeats 4000000 in
set_option maxRecDepth 100000 in
theorem k_X8_freeNumber (l : Launch) (D : va_G) (a : Nat → Nat)  : Met l yX8_freeNumber (wz yX8_freeNumber cX8_freeNumber 2 (some .int)) { frames := 1, cells := 0, slots := 0, locals := 60 } (va_Pc [.ref (a 13)] (zP D [((a 13), .inr (8, [.int 0, .int 0, .long 0, .ref (a 60), .ref (a 61), .ref (a 62), .ref (a 63), .ref (a 64), .ref (a 65), .ref (a 66), .ref (a 67)])), ((a 66), .inl (D.1 13, 8, .inl (fun _ => (-2))))])) (va_Qi (fun r (_ : Unit) => r = 0) (fun _ _ => True) (fun _ => False)) 0 0 (fun _ => False) := by
  refine Met.ofW (cc := cX8_freeNumber) (maxL := 2) (ret := (some .int)) (by decide) rfl ?_
  intro p e s m args below meth c s₁ B hml hv
  obtain ⟨rfl, hP, hK⟩ := hv
  have hx := B.exec
  have hb := B.bytes
  have hr := B.returns
  have hts := atoms_spec (ws := wz yX8_freeNumber cX8_freeNumber 2 (some .int)) B.pre
  have ht : ∀ w ∈ lw_gd, w.before _ s = true := fun w h => hts w (List.mem_cons_of_mem _ h)
  have hown : s.vm.findClass RX8 = some m.cls := findClass_of_methodNamed B.named
  have hlocks := B.notSynchronized
  have hS : va_S (fun _ => False) s.heap s.heap [] := va_S.rf
  have hl := lv_entry ([.ref (a 13)]) (n := 2) (Nat.le_of_ble_eq_true rfl)
  rw [lg_entry_eq]
  generalize (lg_sl ([.ref (a 13)]) ++ List.replicate (2 - (lg_sl ([.ref (a 13)])).length) Slot.unset).toArray = ls at hl ⊢
  have hl : lv_has ls 2 [(0, .ref (a 13))] := hl
  refine lv_iconst (v := 0) hx hb dX8_freeNumber_0 (by decide) ?_
  refine lv_istore_n (lv' := [(1, .int 0), (0, .ref (a 13))]) hx hb dX8_freeNumber_1 rfl hl (by decide) rfl (fun ls hl => ?_)
  refine lv_iload_n hx hb dX8_freeNumber_2 rfl (lv_at hl 0 rfl) ?_
  refine lv_bipush (v := 8) hx hb dX8_freeNumber_3 (by decide) ?_
  refine lv_icmp_ge (tgt := 24) hx hb dX8_freeNumber_5 (by decide) (fun c_1 => (z_abs c_1 (by decide)).elim) (fun _ => ?_)
  refine lv_aload_n hx hb dX8_freeNumber_8 rfl (lv_at hl 1 rfl) ?_
  refine lv_iload_n hx hb dX8_freeNumber_9 rfl (lv_at hl 0 rfl) ?_
  refine zcV (As := [.int 0]) (rest := []) (C := RX8) (n := 1) ⟨hx, hb, hml, hown, ht⟩ (k_X8_isVolume l D a 0) (zgV ml_X8_67 im_X8_isVolume se_X8_isVolume in_X8 co_X8_isVolume) rfl rfl (by decide +kernel) ⟨Nat.le_of_ble_eq_true rfl, Nat.le_of_ble_eq_true rfl⟩ hK hP hS [0, 1] rfl 0 rfl rfl rfl rfl hl.1 rfl (Nat.le_of_ble_eq_true rfl) dX8_freeNumber_10 ⟨Nat.le_of_ble_eq_true rfl, Nat.le_of_ble_eq_true rfl⟩ (fun r_3 H locs hw hP hS => ?_)
  subst hw
  refine lv_if_ne (tgt := 18) hx hb dX8_freeNumber_13 (by decide) (fun c_4 => (z_abs c_4 (by decide)).elim) (fun _ => ?_)
  refine lv_iload_n hx hb dX8_freeNumber_16 rfl (lv_at hl 0 rfl) ?_
  exact W.iret (v := 0) hx hb hr (fun t ht hW => ⟨⟨0, (), rfl, rfl, trivial⟩, hS.F ht⟩) hS.2.2 dX8_freeNumber_17
set_option maxHeartbeats 4000000 in
set_option maxRecDepth 100000 in
theorem k_X8_used (l : Launch) (D : va_G) (a : Nat → Nat)  : Met l yX8_used (wz yX8_used cX8_used 3 (some .int)) { frames := 0, cells := 0, slots := 0, locals := 0 } (va_Pc [.ref (a 13)] (zP D [((a 13), .inr (8, [.int 0, .int 0, .long 0, .ref (a 60), .ref (a 61), .ref (a 62), .ref (a 63), .ref (a 64), .ref (a 65), .ref (a 66), .ref (a 67)]))])) (va_Qi (fun r (_ : Unit) => r = 0) (fun _ _ => True) (fun _ => False)) 0 0 (fun _ => False) := by
  refine Met.ofW (cc := cX8_used) (maxL := 3) (ret := (some .int)) (by decide) rfl ?_
  intro p e s m args below meth c s₁ B hml hv
  obtain ⟨rfl, hP, hK⟩ := hv
  have hx := B.exec
  have hb := B.bytes
  have hr := B.returns
  have hts := atoms_spec (ws := wz yX8_used cX8_used 3 (some .int)) B.pre
  have ht : ∀ w ∈ lw_gd, w.before _ s = true := fun w h => hts w (List.mem_cons_of_mem _ h)
  have hown : s.vm.findClass RX8 = some m.cls := findClass_of_methodNamed B.named
  have hlocks := B.notSynchronized
  have hS : va_S (fun _ => False) s.heap s.heap [] := va_S.rf
  have hl := lv_entry ([.ref (a 13)]) (n := 3) (Nat.le_of_ble_eq_true rfl)
  rw [lg_entry_eq]
  generalize (lg_sl ([.ref (a 13)]) ++ List.replicate (3 - (lg_sl ([.ref (a 13)])).length) Slot.unset).toArray = ls at hl ⊢
  have hl : lv_has ls 3 [(0, .ref (a 13))] := hl
  refine lv_iconst (v := 0) hx hb dX8_used_0 (by decide) ?_
  refine lv_istore_n (lv' := [(1, .int 0), (0, .ref (a 13))]) hx hb dX8_used_1 rfl hl (by decide) rfl (fun ls hl => ?_)
  refine lv_iconst (v := 0) hx hb dX8_used_2 (by decide) ?_
  refine lv_istore_n (lv' := [(2, .int 0), (1, .int 0), (0, .ref (a 13))]) hx hb dX8_used_3 rfl hl (by decide) rfl (fun ls hl => ?_)
  refine lv_iload_n hx hb dX8_used_4 rfl (lv_at hl 0 rfl) ?_
  refine lv_aload_n hx hb dX8_used_5 rfl (lv_at hl 2 rfl) ?_
  refine va_get (D := D) (ci := 8) (v := .int 0) (C := RX8) (T := TX8) (N := 11) hx hb ht inX8 hown hK hP 0 rfl rfl 0 (by decide) (ht (.fieldLink RX8 40 "CloneVolumes$State" "blocks" "I") fl_X8_40) (fun _ h9 => h9) rfl dX8_used_6 ?_
  refine lv_icmp_ge (tgt := 35) hx hb dX8_used_9 (by decide) (fun _ => ?_) (fun c_1 => (z_abs c_1 (by decide)).elim)
  refine lv_iload_n hx hb dX8_used_35 rfl (lv_at hl 1 rfl) ?_
  exact W.iret (v := 0) hx hb hr (fun t ht hW => ⟨⟨0, (), rfl, rfl, trivial⟩, hS.F ht⟩) hS.2.2 dX8_used_36
set_option maxHeartbeats 4000000 in
set_option maxRecDepth 100000 in
theorem k_X8_held (l : Launch) (D : va_G) (a : Nat → Nat)  : Met l yX8_held (wz yX8_held cX8_held 3 (some .int)) { frames := 0, cells := 0, slots := 0, locals := 0 } (va_Pc [.ref (a 13)] (zP D [((a 13), .inr (8, [.int 0, .int 0, .long 0, .ref (a 60), .ref (a 61), .ref (a 62), .ref (a 63), .ref (a 64), .ref (a 65), .ref (a 66), .ref (a 67)]))])) (va_Qi (fun r (_ : Unit) => r = 0) (fun _ _ => True) (fun _ => False)) 0 0 (fun _ => False) := by
  refine Met.ofW (cc := cX8_held) (maxL := 3) (ret := (some .int)) (by decide) rfl ?_
  intro p e s m args below meth c s₁ B hml hv
  obtain ⟨rfl, hP, hK⟩ := hv
  have hx := B.exec
  have hb := B.bytes
  have hr := B.returns
  have hts := atoms_spec (ws := wz yX8_held cX8_held 3 (some .int)) B.pre
  have ht : ∀ w ∈ lw_gd, w.before _ s = true := fun w h => hts w (List.mem_cons_of_mem _ h)
  have hown : s.vm.findClass RX8 = some m.cls := findClass_of_methodNamed B.named
  have hlocks := B.notSynchronized
  have hS : va_S (fun _ => False) s.heap s.heap [] := va_S.rf
  have hl := lv_entry ([.ref (a 13)]) (n := 3) (Nat.le_of_ble_eq_true rfl)
  rw [lg_entry_eq]
  generalize (lg_sl ([.ref (a 13)]) ++ List.replicate (3 - (lg_sl ([.ref (a 13)])).length) Slot.unset).toArray = ls at hl ⊢
  have hl : lv_has ls 3 [(0, .ref (a 13))] := hl
  refine lv_iconst (v := 0) hx hb dX8_held_0 (by decide) ?_
  refine lv_istore_n (lv' := [(1, .int 0), (0, .ref (a 13))]) hx hb dX8_held_1 rfl hl (by decide) rfl (fun ls hl => ?_)
  refine lv_iconst (v := 0) hx hb dX8_held_2 (by decide) ?_
  refine lv_istore_n (lv' := [(2, .int 0), (1, .int 0), (0, .ref (a 13))]) hx hb dX8_held_3 rfl hl (by decide) rfl (fun ls hl => ?_)
  refine lv_iload_n hx hb dX8_held_4 rfl (lv_at hl 0 rfl) ?_
  refine lv_aload_n hx hb dX8_held_5 rfl (lv_at hl 2 rfl) ?_
  refine va_get (D := D) (ci := 8) (v := .int 0) (C := RX8) (T := TX8) (N := 11) hx hb ht inX8 hown hK hP 0 rfl rfl 0 (by decide) (ht (.fieldLink RX8 40 "CloneVolumes$State" "blocks" "I") fl_X8_40) (fun _ h9 => h9) rfl dX8_held_6 ?_
  refine lv_icmp_ge (tgt := 34) hx hb dX8_held_9 (by decide) (fun _ => ?_) (fun c_1 => (z_abs c_1 (by decide)).elim)
  refine lv_iload_n hx hb dX8_held_34 rfl (lv_at hl 1 rfl) ?_
  exact W.iret (v := 0) hx hb hr (fun t ht hW => ⟨⟨0, (), rfl, rfl, trivial⟩, hS.F ht⟩) hS.2.2 dX8_held_35
set_option maxHeartbeats 4000000 in
set_option maxRecDepth 100000 in
theorem k_X2_toldRows (l : Launch) (D : va_G) (a : Nat → Nat)  : Met l yX2_toldRows (wz yX2_toldRows cX2_toldRows 1 (some .int)) { frames := 1, cells := 0, slots := 0, locals := 60 } (va_Pc [.ref (a 3)] (zP D [((a 3), .inr (2, [.ref (a 22), .ref (a 23), .ref (a 24), .int 0, .ref (a 25), .int 0]))])) (va_Qi (fun r (_ : Unit) => r = 0) (fun _ _ => True) (fun _ => False)) 0 0 (fun _ => False) := by
  refine Met.ofW (cc := cX2_toldRows) (maxL := 1) (ret := (some .int)) (by decide) rfl ?_
  intro p e s m args below meth c s₁ B hml hv
  obtain ⟨rfl, hP, hK⟩ := hv
  have hx := B.exec
  have hb := B.bytes
  have hr := B.returns
  have hts := atoms_spec (ws := wz yX2_toldRows cX2_toldRows 1 (some .int)) B.pre
  have ht : ∀ w ∈ lw_gd, w.before _ s = true := fun w h => hts w (List.mem_cons_of_mem _ h)
  have hown : s.vm.findClass RX2 = some m.cls := findClass_of_methodNamed B.named
  have hlocks := B.notSynchronized
  have hS : va_S (fun _ => False) s.heap s.heap [] := va_S.rf
  have hl := lv_entry ([.ref (a 3)]) (n := 1) (Nat.le_of_ble_eq_true rfl)
  rw [lg_entry_eq]
  generalize (lg_sl ([.ref (a 3)]) ++ List.replicate (1 - (lg_sl ([.ref (a 3)])).length) Slot.unset).toArray = ls at hl ⊢
  have hl : lv_has ls 1 [(0, .ref (a 3))] := hl
  refine lv_aload_n hx hb dX2_toldRows_0 rfl (lv_at hl 0 rfl) ?_
  refine va_get (D := D) (ci := 2) (v := .int 0) (C := RX2) (T := TX2) (N := 6) hx hb ht inX2 hown hK hP 0 rfl rfl 3 (by decide) (ht (.fieldLink RX2 27 "CloneVolumes$History" "rows" "I") fl_X2_27) (fun _ h9 => h9) rfl dX2_toldRows_1 ?_
  refine lv_bipush (v := 40) hx hb dX2_toldRows_4 (by decide) ?_
  refine va_mmin hx hb (by rw [hml]; exact hl.1.symm) hown (ht _ ml_X2_34) (ht _ st_mmin) (ht _ in_math) (ht _ co_mmin) (Nat.le_of_ble_eq_true rfl) (Nat.le_of_ble_eq_true rfl) (Nat.le_of_ble_eq_true rfl) (Nat.le_of_ble_eq_true rfl) dX2_toldRows_6 ?_
  refine z_topi (y := 0) (by decide) ?_
  exact W.iret (v := 0) hx hb hr (fun t ht hW => ⟨⟨0, (), rfl, rfl, trivial⟩, hS.F ht⟩) hS.2.2 dX2_toldRows_9
set_option maxHeartbeats 4000000 in
set_option maxRecDepth 100000 in
theorem k_X2_toldOf (l : Launch) (D : va_G) (a : Nat → Nat) (p0 : Int32) (p1 : Int32) : Met l yX2_toldOf (wz yX2_toldOf cX2_toldOf 4 (some .int)) { frames := 2, cells := 0, slots := 0, locals := 120 } (va_Pc [.ref (a 3), .int p0, .int p1] (zP D [((a 3), .inr (2, [.ref (a 22), .ref (a 23), .ref (a 24), .int 0, .ref (a 25), .int 0]))])) (va_Qi (fun r (_ : Unit) => r = (-1)) (fun _ _ => True) (fun _ => False)) 0 0 (fun _ => False) := by
  refine Met.ofW (cc := cX2_toldOf) (maxL := 4) (ret := (some .int)) (by decide) rfl ?_
  intro p e s m args below meth c s₁ B hml hv
  obtain ⟨rfl, hP, hK⟩ := hv
  have hx := B.exec
  have hb := B.bytes
  have hr := B.returns
  have hts := atoms_spec (ws := wz yX2_toldOf cX2_toldOf 4 (some .int)) B.pre
  have ht : ∀ w ∈ lw_gd, w.before _ s = true := fun w h => hts w (List.mem_cons_of_mem _ h)
  have hown : s.vm.findClass RX2 = some m.cls := findClass_of_methodNamed B.named
  have hlocks := B.notSynchronized
  have hS : va_S (fun _ => False) s.heap s.heap [] := va_S.rf
  have hl := lv_entry ([.ref (a 3), .int p0, .int p1]) (n := 4) (Nat.le_of_ble_eq_true rfl)
  rw [lg_entry_eq]
  generalize (lg_sl ([.ref (a 3), .int p0, .int p1]) ++ List.replicate (4 - (lg_sl ([.ref (a 3), .int p0, .int p1])).length) Slot.unset).toArray = ls at hl ⊢
  have hl : lv_has ls 4 [(0, .ref (a 3)), (1, .int p0), (2, .int p1)] := hl
  refine lv_iload_n hx hb dX2_toldOf_0 rfl (lv_at hl 1 rfl) ?_
  refine lv_if_lt (tgt := 12) hx hb dX2_toldOf_1 (by decide) (fun c_1 => ?_) (fun c_1 => ?_)
  · have g_2 : p0.toInt < 0 := z_lt rfl (by decide) c_1
    refine lv_iconst (v := (-1)) hx hb dX2_toldOf_12 (by decide) ?_
    exact W.iret (v := (-1)) hx hb hr (fun t ht hW => ⟨⟨(-1), (), rfl, rfl, trivial⟩, hS.F ht⟩) hS.2.2 dX2_toldOf_13
  · have g_2 : 0 ≤ p0.toInt := z_nlt rfl (by decide) c_1
    refine lv_iload_n hx hb dX2_toldOf_4 rfl (lv_at hl 1 rfl) ?_
    refine lv_aload_n hx hb dX2_toldOf_5 rfl (lv_at hl 0 rfl) ?_
    refine zcV (As := []) (rest := [.int p0]) (C := RX2) (n := 0) ⟨hx, hb, hml, hown, ht⟩ (k_X2_toldRows l D a) (zgV ml_X2_40 im_X2_toldRows se_X2_toldRows in_X2 co_X2_toldRows) rfl rfl (by decide +kernel) ⟨Nat.le_of_ble_eq_true rfl, Nat.le_of_ble_eq_true rfl⟩ hK hP hS [0] rfl 0 rfl rfl rfl rfl hl.1 rfl (Nat.le_of_ble_eq_true rfl) dX2_toldOf_6 ⟨Nat.le_of_ble_eq_true rfl, Nat.le_of_ble_eq_true rfl⟩ (fun r_3 H locs hw hP hS => ?_)
    subst hw
    refine lv_icmp_lt (tgt := 14) hx hb dX2_toldOf_9 (by decide) (fun c_4 => ?_) (fun c_4 => ?_)
    · exfalso
      have g_5 : p0.toInt < 0 := z_lt rfl (by decide) c_4
      omega
    · have g_5 : 0 ≤ p0.toInt := z_nlt rfl (by decide) c_4
      refine lv_iconst (v := (-1)) hx hb dX2_toldOf_12 (by decide) ?_
      exact W.iret (v := (-1)) hx hb hr (fun t ht hW => ⟨⟨(-1), (), rfl, rfl, trivial⟩, hS.F ht⟩) hS.2.2 dX2_toldOf_13
set_option maxHeartbeats 4000000 in
set_option maxRecDepth 100000 in
theorem k_X2_forget (l : Launch) (D : va_G) (a : Nat → Nat)  : Met l yX2_forget (wz yX2_forget cX2_forget 1 (some (.object "CloneVolumes$State"))) { frames := 0, cells := 0, slots := 0, locals := 0 } (va_Pc [.ref (a 3)] (zP D [((a 3), .inr (2, [.ref (a 22), .ref (a 23), .ref (a 24), .int 0, .ref (a 25), .int 0]))])) zQn 0 0 (fun _ => False) := by
  refine Met.ofW (cc := cX2_forget) (maxL := 1) (ret := (some (.object "CloneVolumes$State"))) (by decide) rfl ?_
  intro p e s m args below meth c s₁ B hml hv
  obtain ⟨rfl, hP, hK⟩ := hv
  have hx := B.exec
  have hb := B.bytes
  have hr := B.returns
  have hts := atoms_spec (ws := wz yX2_forget cX2_forget 1 (some (.object "CloneVolumes$State"))) B.pre
  have ht : ∀ w ∈ lw_gd, w.before _ s = true := fun w h => hts w (List.mem_cons_of_mem _ h)
  have hown : s.vm.findClass RX2 = some m.cls := findClass_of_methodNamed B.named
  have hlocks := B.notSynchronized
  have hS : va_S (fun _ => False) s.heap s.heap [] := va_S.rf
  have hl := lv_entry ([.ref (a 3)]) (n := 1) (Nat.le_of_ble_eq_true rfl)
  rw [lg_entry_eq]
  generalize (lg_sl ([.ref (a 3)]) ++ List.replicate (1 - (lg_sl ([.ref (a 3)])).length) Slot.unset).toArray = ls at hl ⊢
  have hl : lv_has ls 1 [(0, .ref (a 3))] := hl
  refine lv_aload_n hx hb dX2_forget_0 rfl (lv_at hl 0 rfl) ?_
  refine va_get (D := D) (ci := 2) (v := .int 0) (C := RX2) (T := TX2) (N := 6) hx hb ht inX2 hown hK hP 0 rfl rfl 5 (by decide) (ht (.fieldLink RX2 31 "CloneVolumes$History" "depth" "I") fl_X2_31) (fun _ h9 => h9) rfl dX2_forget_1 ?_
  refine lv_if_eq (tgt := 14) hx hb dX2_forget_4 (by decide) (fun _ => ?_) (fun c_1 => (z_abs c_1 (by decide)).elim)
  refine lv_null hx hb dX2_forget_14 ?_
  exact W.aret (v := .null) hx hb hr (Or.inl ⟨_, rfl⟩) (Or.inl rfl) (fun t ht hW => ⟨rfl, hS.F ht⟩) hS.2.2 dX2_forget_15
set_option maxHeartbeats 4000000 in
set_option maxRecDepth 100000 in
theorem k_X7_take (l : Launch) (D : va_G) (a : Nat → Nat)  : Met l yX7_take (wz yX7_take cX7_take 4 (some .boolean)) { frames := 0, cells := 0, slots := 0, locals := 0 } (va_Pc [.ref (a 4), .ref (a 1)] (zP D [((a 4), .inr (7, [.int 0, .ref (a 26), .ref (a 27), .ref (a 28), .int 0, .ref (a 29)])), ((a 1), .inr (9, [.ref (a 20), .int 0]))])) (va_Qi (fun r (_ : Unit) => r = 0) (fun _ _ => True) (fun _ => False)) 0 0 (fun _ => False) := by
  refine Met.ofW (cc := cX7_take) (maxL := 4) (ret := (some .boolean)) (by decide) rfl ?_
  intro p e s m args below meth c s₁ B hml hv
  obtain ⟨rfl, hP, hK⟩ := hv
  have hx := B.exec
  have hb := B.bytes
  have hr := B.returns
  have hts := atoms_spec (ws := wz yX7_take cX7_take 4 (some .boolean)) B.pre
  have ht : ∀ w ∈ lw_gd, w.before _ s = true := fun w h => hts w (List.mem_cons_of_mem _ h)
  have hown : s.vm.findClass RX7 = some m.cls := findClass_of_methodNamed B.named
  have hlocks := B.notSynchronized
  have hS : va_S (fun _ => False) s.heap s.heap [] := va_S.rf
  have hl := lv_entry ([.ref (a 4), .ref (a 1)]) (n := 4) (Nat.le_of_ble_eq_true rfl)
  rw [lg_entry_eq]
  generalize (lg_sl ([.ref (a 4), .ref (a 1)]) ++ List.replicate (4 - (lg_sl ([.ref (a 4), .ref (a 1)])).length) Slot.unset).toArray = ls at hl ⊢
  have hl : lv_has ls 4 [(0, .ref (a 4)), (1, .ref (a 1))] := hl
  refine lv_aload_n hx hb dX7_take_0 rfl (lv_at hl 1 rfl) ?_
  refine va_get (D := D) (ci := 9) (v := .int 0) (C := RX9) (T := TX9) (N := 2) hx hb ht inX9 hown hK hP 1 rfl rfl 1 (by decide) (ht (.fieldLink RX7 24 "CloneVolumes$Tape" "length" "I") fl_X7_24) (fun _ h9 => h9) rfl dX7_take_1 ?_
  refine lv_iconst (v := 4) hx hb dX7_take_4 (by decide) ?_
  refine lv_idiv hx hb dX7_take_5 (by decide) ?_
  refine z_topi (y := 0) (by decide) ?_
  refine lv_istore_n (lv' := [(2, .int 0), (0, .ref (a 4)), (1, .ref (a 1))]) hx hb dX7_take_6 rfl hl (by decide) rfl (fun ls hl => ?_)
  refine lv_aload_n hx hb dX7_take_7 rfl (lv_at hl 2 rfl) ?_
  refine va_get (D := D) (ci := 9) (v := .int 0) (C := RX9) (T := TX9) (N := 2) hx hb ht inX9 hown hK hP 1 rfl rfl 1 (by decide) (ht (.fieldLink RX7 24 "CloneVolumes$Tape" "length" "I") fl_X7_24) (fun _ h9 => h9) rfl dX7_take_8 ?_
  refine lv_iconst (v := 4) hx hb dX7_take_11 (by decide) ?_
  refine lv_irem hx hb dX7_take_12 (by decide) ?_
  refine z_topi (y := 0) (by decide) ?_
  refine lv_if_ne (tgt := 27) hx hb dX7_take_13 (by decide) (fun c_1 => (z_abs c_1 (by decide)).elim) (fun _ => ?_)
  refine lv_iload_n hx hb dX7_take_16 rfl (lv_at hl 0 rfl) ?_
  refine lv_iconst (v := 1) hx hb dX7_take_17 (by decide) ?_
  refine lv_icmp_lt (tgt := 27) hx hb dX7_take_18 (by decide) (fun _ => ?_) (fun c_3 => (z_abs c_3 (by decide)).elim)
  refine lv_iconst (v := 0) hx hb dX7_take_27 (by decide) ?_
  exact W.zret (v := 0) hx hb hr (by decide) (fun t ht hW => ⟨⟨0, (), rfl, rfl, trivial⟩, hS.F ht⟩) hS.2.2 dX7_take_28
set_option maxHeartbeats 4000000 in
set_option maxRecDepth 100000 in
theorem k_X9_hasRoom (l : Launch) (D : va_G) (a : Nat → Nat)  : Met l yX9_hasRoom (wz yX9_hasRoom cX9_hasRoom 1 (some .boolean)) { frames := 0, cells := 0, slots := 0, locals := 0 } (va_Pc [.ref (a 1)] (zP D [((a 1), .inr (9, [.ref (a 20), .int 0]))])) (va_Qi (fun r (_ : Unit) => r = 1) (fun _ _ => True) (fun _ => False)) 0 0 (fun _ => False) := by
  refine Met.ofW (cc := cX9_hasRoom) (maxL := 1) (ret := (some .boolean)) (by decide) rfl ?_
  intro p e s m args below meth c s₁ B hml hv
  obtain ⟨rfl, hP, hK⟩ := hv
  have hx := B.exec
  have hb := B.bytes
  have hr := B.returns
  have hts := atoms_spec (ws := wz yX9_hasRoom cX9_hasRoom 1 (some .boolean)) B.pre
  have ht : ∀ w ∈ lw_gd, w.before _ s = true := fun w h => hts w (List.mem_cons_of_mem _ h)
  have hown : s.vm.findClass RX9 = some m.cls := findClass_of_methodNamed B.named
  have hlocks := B.notSynchronized
  have hS : va_S (fun _ => False) s.heap s.heap [] := va_S.rf
  have hl := lv_entry ([.ref (a 1)]) (n := 1) (Nat.le_of_ble_eq_true rfl)
  rw [lg_entry_eq]
  generalize (lg_sl ([.ref (a 1)]) ++ List.replicate (1 - (lg_sl ([.ref (a 1)])).length) Slot.unset).toArray = ls at hl ⊢
  have hl : lv_has ls 1 [(0, .ref (a 1))] := hl
  refine lv_aload_n hx hb dX9_hasRoom_0 rfl (lv_at hl 0 rfl) ?_
  refine va_get (D := D) (ci := 9) (v := .int 0) (C := RX9) (T := TX9) (N := 2) hx hb ht inX9 hown hK hP 0 rfl rfl 1 (by decide) (ht (.fieldLink RX9 15 "CloneVolumes$Tape" "length" "I") fl_X9_15) (fun _ h9 => h9) rfl dX9_hasRoom_1 ?_
  refine lv_bipush (v := 20) hx hb dX9_hasRoom_4 (by decide) ?_
  refine lv_iadd hx hb dX9_hasRoom_6 ?_
  refine z_topi (y := 20) (by decide) ?_
  refine lv_sipush (v := 1600) hx hb dX9_hasRoom_7 (by decide) ?_
  refine lv_icmp_gt (tgt := 17) hx hb dX9_hasRoom_10 (by decide) (fun c_1 => (z_abs c_1 (by decide)).elim) (fun _ => ?_)
  refine lv_iconst (v := 1) hx hb dX9_hasRoom_13 (by decide) ?_
  refine lv_goto (tgt := 18) hx hb dX9_hasRoom_14 (by decide) ?_
  exact W.zret (v := 1) hx hb hr (by decide) (fun t ht hW => ⟨⟨1, (), rfl, rfl, trivial⟩, hS.F ht⟩) hS.2.2 dX9_hasRoom_18
set_option maxHeartbeats 4000000 in
set_option maxRecDepth 100000 in
theorem k_X9_at (l : Launch) (D : va_G) (a : Nat → Nat) (p0 : Int32) : Met l yX9_at (wz yX9_at cX9_at 2 (some .int)) { frames := 0, cells := 0, slots := 0, locals := 0 } (va_Pc [.ref (a 1), .int p0] (zP D [((a 1), .inr (9, [.ref (a 20), .int 0]))])) (va_Qi (fun r (_ : Unit) => r = (-1)) (fun _ _ => True) (fun _ => False)) 0 0 (fun _ => False) := by
  refine Met.ofW (cc := cX9_at) (maxL := 2) (ret := (some .int)) (by decide) rfl ?_
  intro p e s m args below meth c s₁ B hml hv
  obtain ⟨rfl, hP, hK⟩ := hv
  have hx := B.exec
  have hb := B.bytes
  have hr := B.returns
  have hts := atoms_spec (ws := wz yX9_at cX9_at 2 (some .int)) B.pre
  have ht : ∀ w ∈ lw_gd, w.before _ s = true := fun w h => hts w (List.mem_cons_of_mem _ h)
  have hown : s.vm.findClass RX9 = some m.cls := findClass_of_methodNamed B.named
  have hlocks := B.notSynchronized
  have hS : va_S (fun _ => False) s.heap s.heap [] := va_S.rf
  have hl := lv_entry ([.ref (a 1), .int p0]) (n := 2) (Nat.le_of_ble_eq_true rfl)
  rw [lg_entry_eq]
  generalize (lg_sl ([.ref (a 1), .int p0]) ++ List.replicate (2 - (lg_sl ([.ref (a 1), .int p0])).length) Slot.unset).toArray = ls at hl ⊢
  have hl : lv_has ls 2 [(0, .ref (a 1)), (1, .int p0)] := hl
  refine lv_iload_n hx hb dX9_at_0 rfl (lv_at hl 1 rfl) ?_
  refine lv_if_lt (tgt := 21) hx hb dX9_at_1 (by decide) (fun c_1 => ?_) (fun c_1 => ?_)
  · have g_2 : p0.toInt < 0 := z_lt rfl (by decide) c_1
    refine lv_iconst (v := (-1)) hx hb dX9_at_21 (by decide) ?_
    exact W.iret (v := (-1)) hx hb hr (fun t ht hW => ⟨⟨(-1), (), rfl, rfl, trivial⟩, hS.F ht⟩) hS.2.2 dX9_at_22
  · have g_2 : 0 ≤ p0.toInt := z_nlt rfl (by decide) c_1
    refine lv_iload_n hx hb dX9_at_4 rfl (lv_at hl 1 rfl) ?_
    refine lv_aload_n hx hb dX9_at_5 rfl (lv_at hl 0 rfl) ?_
    refine va_get (D := D) (ci := 9) (v := .int 0) (C := RX9) (T := TX9) (N := 2) hx hb ht inX9 hown hK hP 0 rfl rfl 1 (by decide) (ht (.fieldLink RX9 15 "CloneVolumes$Tape" "length" "I") fl_X9_15) (fun _ h9 => h9) rfl dX9_at_6 ?_
    refine lv_icmp_ge (tgt := 21) hx hb dX9_at_9 (by decide) (fun c_3 => ?_) (fun c_3 => ?_)
    · have g_4 : 0 ≤ p0.toInt := z_le (by decide) rfl c_3
      refine lv_iconst (v := (-1)) hx hb dX9_at_21 (by decide) ?_
      exact W.iret (v := (-1)) hx hb hr (fun t ht hW => ⟨⟨(-1), (), rfl, rfl, trivial⟩, hS.F ht⟩) hS.2.2 dX9_at_22
    · exfalso
      have g_4 : p0.toInt < 0 := z_nle (by decide) rfl c_3
      omega
end
section
theorem fl_X11_60 : Cond.fieldLink RX11 60 "CloneVolumes" "refused" "[I" ∈ lw_gd := zm (List.mem_of_getElem? (i := 708) (by decide +kernel)) rfl
theorem fl_X11_21 : Cond.fieldLink RX11 21 "CloneVolumes" "reader" "LCloneVolumes$Reader;" ∈ lw_gd := zm (List.mem_of_getElem? (i := 701) (by decide +kernel)) rfl
theorem fl_X11_119 : Cond.fieldLink RX11 119 "CloneVolumes$Reader" "fault" "I" ∈ lw_gd := zm (List.mem_of_getElem? (i := 299) (by decide +kernel)) rfl
theorem fl_X11_112 : Cond.fieldLink RX11 112 "CloneVolumes" "told" "Z" ∈ lw_gd := zm (List.mem_of_getElem? (i := 712) (by decide +kernel)) rfl
theorem fl_X11_79 : Cond.fieldLink RX11 79 "CloneVolumes" "forest" "LCloneVolumes$Forest;" ∈ lw_gd := zm (List.mem_of_getElem? (i := 711) (by decide +kernel)) rfl
theorem fl_X11_125 : Cond.fieldLink RX11 125 "CloneVolumes$Forest" "now" "LCloneVolumes$State;" ∈ lw_gd := zm (List.mem_of_getElem? (i := 669) (by decide +kernel)) rfl
theorem ml_X11_161 : Cond.methodLink RX11 161 yX8_isVolume ∈ lw_gd := zm (List.mem_of_getElem? (i := 1114) (by decide +kernel)) rfl
theorem ml_X11_188 : Cond.methodLink RX11 188 yX8_isBlock ∈ lw_gd := zm (List.mem_of_getElem? (i := 1139) (by decide +kernel)) rfl
theorem im_X8_isBlock : Cond.instanceMethod yX8_isBlock ∈ lw_gd := zm (List.mem_of_getElem? (i := 944) (by decide +kernel)) rfl
theorem se_X8_isBlock : Cond.selects RX8 yX8_isBlock yX8_isBlock ∈ lw_gd := zm (List.mem_of_getElem? (i := 945) (by decide +kernel)) rfl
theorem co_X8_isBlock : Cond.code yX8_isBlock cX8_isBlock 2 (some .boolean) ∈ lw_gd := zm (List.mem_of_getElem? (i := 946) (by decide +kernel)) rfl
theorem fl_X11_28 : Cond.fieldLink RX11 28 "CloneVolumes" "history" "LCloneVolumes$History;" ∈ lw_gd := zm (List.mem_of_getElem? (i := 702) (by decide +kernel)) rfl
theorem ml_X11_219 : Cond.methodLink RX11 219 yX2_toldOf ∈ lw_gd := zm (List.mem_of_getElem? (i := 1163) (by decide +kernel)) rfl
theorem im_X2_toldOf : Cond.instanceMethod yX2_toldOf ∈ lw_gd := zm (List.mem_of_getElem? (i := 1164) (by decide +kernel)) rfl
theorem se_X2_toldOf : Cond.selects RX2 yX2_toldOf yX2_toldOf ∈ lw_gd := zm (List.mem_of_getElem? (i := 1165) (by decide +kernel)) rfl
theorem co_X2_toldOf : Cond.code yX2_toldOf cX2_toldOf 4 (some .int) ∈ lw_gd := zm (List.mem_of_getElem? (i := 1166) (by decide +kernel)) rfl
theorem ml_X11_249 : Cond.methodLink RX11 249 yX11_oneOf ∈ lw_gd := zm (List.mem_of_getElem? (i := 1263) (by decide +kernel)) rfl
theorem st_X11_oneOf : Cond.static yX11_oneOf ∈ lw_gd := zm (List.mem_of_getElem? (i := 1264) (by decide +kernel)) rfl
theorem in_X11 : Cond.initialized RX11 ∈ lw_gd := zm (List.mem_of_getElem? (i := 198) (by decide +kernel)) rfl
theorem co_X11_oneOf : Cond.code yX11_oneOf cX11_oneOf 3 (some .int) ∈ lw_gd := zm (List.mem_of_getElem? (i := 1265) (by decide +kernel)) rfl
theorem fl_X11_42 : Cond.fieldLink RX11 42 "CloneVolumes" "picture" "LCloneVolumes$Picture;" ∈ lw_gd := zm (List.mem_of_getElem? (i := 704) (by decide +kernel)) rfl
theorem fl_X11_339 : Cond.fieldLink RX11 339 "CloneVolumes$Picture" "size" "I" ∈ lw_gd := zm (List.mem_of_getElem? (i := 403) (by decide +kernel)) rfl
theorem fl_X11_129 : Cond.fieldLink RX11 129 "CloneVolumes$State" "blocks" "I" ∈ lw_gd := zm (List.mem_of_getElem? (i := 557) (by decide +kernel)) rfl
theorem ml_X11_134 : Cond.methodLink RX11 134 yX8_volumes ∈ lw_gd := zm (List.mem_of_getElem? (i := 1079) (by decide +kernel)) rfl
theorem im_X8_volumes : Cond.instanceMethod yX8_volumes ∈ lw_gd := zm (List.mem_of_getElem? (i := 1080) (by decide +kernel)) rfl
theorem se_X8_volumes : Cond.selects RX8 yX8_volumes yX8_volumes ∈ lw_gd := zm (List.mem_of_getElem? (i := 1081) (by decide +kernel)) rfl
theorem co_X8_volumes : Cond.code yX8_volumes cX8_volumes 3 (some .int) ∈ lw_gd := zm (List.mem_of_getElem? (i := 1082) (by decide +kernel)) rfl
theorem ml_X11_138 : Cond.methodLink RX11 138 yX8_used ∈ lw_gd := zm (List.mem_of_getElem? (i := 1087) (by decide +kernel)) rfl
theorem im_X8_used : Cond.instanceMethod yX8_used ∈ lw_gd := zm (List.mem_of_getElem? (i := 1088) (by decide +kernel)) rfl
theorem se_X8_used : Cond.selects RX8 yX8_used yX8_used ∈ lw_gd := zm (List.mem_of_getElem? (i := 1089) (by decide +kernel)) rfl
theorem co_X8_used : Cond.code yX8_used cX8_used 3 (some .int) ∈ lw_gd := zm (List.mem_of_getElem? (i := 1090) (by decide +kernel)) rfl
theorem ml_X11_141 : Cond.methodLink RX11 141 yX8_held ∈ lw_gd := zm (List.mem_of_getElem? (i := 1091) (by decide +kernel)) rfl
theorem im_X8_held : Cond.instanceMethod yX8_held ∈ lw_gd := zm (List.mem_of_getElem? (i := 1092) (by decide +kernel)) rfl
theorem se_X8_held : Cond.selects RX8 yX8_held yX8_held ∈ lw_gd := zm (List.mem_of_getElem? (i := 1093) (by decide +kernel)) rfl
theorem co_X8_held : Cond.code yX8_held cX8_held 3 (some .int) ∈ lw_gd := zm (List.mem_of_getElem? (i := 1094) (by decide +kernel)) rfl
theorem fl_X11_144 : Cond.fieldLink RX11 144 "CloneVolumes$State" "spent" "I" ∈ lw_gd := zm (List.mem_of_getElem? (i := 561) (by decide +kernel)) rfl
theorem ml_X11_147 : Cond.methodLink RX11 147 yX2_toldRows ∈ lw_gd := zm (List.mem_of_getElem? (i := 1099) (by decide +kernel)) rfl
theorem fl_X11_35 : Cond.fieldLink RX11 35 "CloneVolumes" "sight" "LCloneVolumes$Sight;" ∈ lw_gd := zm (List.mem_of_getElem? (i := 703) (by decide +kernel)) rfl
theorem fl_X11_109 : Cond.fieldLink RX11 109 "CloneVolumes$Sight" "rows" "I" ∈ lw_gd := zm (List.mem_of_getElem? (i := 374) (by decide +kernel)) rfl
theorem fl_X11_150 : Cond.fieldLink RX11 150 "CloneVolumes$History" "depth" "I" ∈ lw_gd := zm (List.mem_of_getElem? (i := 353) (by decide +kernel)) rfl
theorem dX11_back_0 : decode cX11_back 0 = .ok (.aload_n 0, 1) := by decide +kernel
theorem dX11_back_1 : decode cX11_back 1 = .ok (.getfield 79, 3) := by decide +kernel
theorem dX11_back_4 : decode cX11_back 4 = .ok (.getfield 125, 3) := by decide +kernel
theorem dX11_back_7 : decode cX11_back 7 = .ok (.astore_n 2, 1) := by decide +kernel
theorem dX11_back_8 : decode cX11_back 8 = .ok (.aload_n 2, 1) := by decide +kernel
theorem dX11_back_9 : decode cX11_back 9 = .ok (.iload_n 1, 1) := by decide +kernel
theorem dX11_back_10 : decode cX11_back 10 = .ok (.invokevirtual 161, 3) := by decide +kernel
theorem dX11_back_13 : decode cX11_back 13 = .ok (.ifCond .eq 14, 3) := by decide +kernel
theorem dX11_back_27 : decode cX11_back 27 = .ok (.iconst (-1), 1) := by decide +kernel
theorem dX11_back_28 : decode cX11_back 28 = .ok (.ireturn, 1) := by decide +kernel
theorem dX11_block_0 : decode cX11_block 0 = .ok (.aload_n 0, 1) := by decide +kernel
theorem dX11_block_1 : decode cX11_block 1 = .ok (.getfield 79, 3) := by decide +kernel
theorem dX11_block_4 : decode cX11_block 4 = .ok (.getfield 125, 3) := by decide +kernel
theorem dX11_block_7 : decode cX11_block 7 = .ok (.astore_n 3, 1) := by decide +kernel
theorem dX11_block_8 : decode cX11_block 8 = .ok (.aload_n 3, 1) := by decide +kernel
theorem dX11_block_9 : decode cX11_block 9 = .ok (.iload_n 1, 1) := by decide +kernel
theorem dX11_block_10 : decode cX11_block 10 = .ok (.invokevirtual 188, 3) := by decide +kernel
theorem dX11_block_13 : decode cX11_block 13 = .ok (.ifCond .ne 5, 3) := by decide +kernel
theorem dX11_block_16 : decode cX11_block 16 = .ok (.iconst (-1), 1) := by decide +kernel
theorem dX11_block_17 : decode cX11_block 17 = .ok (.ireturn, 1) := by decide +kernel
theorem dX11_differs_0 : decode cX11_differs 0 = .ok (.aload_n 0, 1) := by decide +kernel
theorem dX11_differs_1 : decode cX11_differs 1 = .ok (.getfield 79, 3) := by decide +kernel
theorem dX11_differs_4 : decode cX11_differs 4 = .ok (.getfield 125, 3) := by decide +kernel
theorem dX11_differs_7 : decode cX11_differs 7 = .ok (.astore 4, 2) := by decide +kernel
theorem dX11_differs_9 : decode cX11_differs 9 = .ok (.aload 4, 2) := by decide +kernel
theorem dX11_differs_11 : decode cX11_differs 11 = .ok (.iload_n 1, 1) := by decide +kernel
theorem dX11_differs_12 : decode cX11_differs 12 = .ok (.invokevirtual 161, 3) := by decide +kernel
theorem dX11_differs_15 : decode cX11_differs 15 = .ok (.ifCond .eq 12, 3) := by decide +kernel
theorem dX11_differs_27 : decode cX11_differs 27 = .ok (.iconst (-1), 1) := by decide +kernel
theorem dX11_differs_28 : decode cX11_differs 28 = .ok (.ireturn, 1) := by decide +kernel
theorem dX11_entry_0 : decode cX11_entry 0 = .ok (.aload_n 0, 1) := by decide +kernel
theorem dX11_entry_1 : decode cX11_entry 1 = .ok (.getfield 79, 3) := by decide +kernel
theorem dX11_entry_4 : decode cX11_entry 4 = .ok (.getfield 125, 3) := by decide +kernel
theorem dX11_entry_7 : decode cX11_entry 7 = .ok (.astore 4, 2) := by decide +kernel
theorem dX11_entry_9 : decode cX11_entry 9 = .ok (.aload 4, 2) := by decide +kernel
theorem dX11_entry_11 : decode cX11_entry 11 = .ok (.iload_n 1, 1) := by decide +kernel
theorem dX11_entry_12 : decode cX11_entry 12 = .ok (.invokevirtual 188, 3) := by decide +kernel
theorem dX11_entry_15 : decode cX11_entry 15 = .ok (.ifCond .eq 17, 3) := by decide +kernel
theorem dX11_entry_32 : decode cX11_entry 32 = .ok (.iconst (-1), 1) := by decide +kernel
theorem dX11_entry_33 : decode cX11_entry 33 = .ok (.ireturn, 1) := by decide +kernel
theorem dX11_fault_0 : decode cX11_fault 0 = .ok (.iload_n 1, 1) := by decide +kernel
theorem dX11_fault_1 : decode cX11_fault 1 = .ok (.ifCond .ne 11, 3) := by decide +kernel
theorem dX11_fault_4 : decode cX11_fault 4 = .ok (.aload_n 0, 1) := by decide +kernel
theorem dX11_fault_5 : decode cX11_fault 5 = .ok (.getfield 21, 3) := by decide +kernel
theorem dX11_fault_8 : decode cX11_fault 8 = .ok (.getfield 119, 3) := by decide +kernel
theorem dX11_fault_11 : decode cX11_fault 11 = .ok (.ireturn, 1) := by decide +kernel
theorem dX11_fault_12 : decode cX11_fault 12 = .ok (.iload_n 1, 1) := by decide +kernel
theorem dX11_fault_13 : decode cX11_fault 13 = .ok (.iconst 1, 1) := by decide +kernel
theorem dX11_fault_14 : decode cX11_fault 14 = .ok (.if_icmp .ne 23, 3) := by decide +kernel
theorem dX11_fault_17 : decode cX11_fault 17 = .ok (.aload_n 0, 1) := by decide +kernel
theorem dX11_fault_18 : decode cX11_fault 18 = .ok (.getfield 21, 3) := by decide +kernel
theorem dX11_fault_21 : decode cX11_fault 21 = .ok (.getfield 119, 3) := by decide +kernel
theorem dX11_fault_24 : decode cX11_fault 24 = .ok (.ifCond .eq 13, 3) := by decide +kernel
theorem dX11_fault_37 : decode cX11_fault 37 = .ok (.iconst (-1), 1) := by decide +kernel
theorem dX11_fault_38 : decode cX11_fault 38 = .ok (.ireturn, 1) := by decide +kernel
theorem dX11_has_0 : decode cX11_has 0 = .ok (.aload_n 0, 1) := by decide +kernel
theorem dX11_has_1 : decode cX11_has 1 = .ok (.getfield 79, 3) := by decide +kernel
theorem dX11_has_4 : decode cX11_has 4 = .ok (.getfield 125, 3) := by decide +kernel
theorem dX11_has_7 : decode cX11_has 7 = .ok (.astore_n 2, 1) := by decide +kernel
theorem dX11_has_8 : decode cX11_has 8 = .ok (.iload_n 1, 1) := by decide +kernel
theorem dX11_has_9 : decode cX11_has 9 = .ok (.tableswitch 138 0 9 #[55, 60, 65, 70, 75, 90, 95, 103, 111, 119], 55) := by decide +kernel
theorem dX11_has_64 : decode cX11_has 64 = .ok (.aload_n 2, 1) := by decide +kernel
theorem dX11_has_65 : decode cX11_has 65 = .ok (.getfield 129, 3) := by decide +kernel
theorem dX11_has_68 : decode cX11_has 68 = .ok (.ireturn, 1) := by decide +kernel
theorem dX11_has_69 : decode cX11_has 69 = .ok (.aload_n 2, 1) := by decide +kernel
theorem dX11_has_70 : decode cX11_has 70 = .ok (.invokevirtual 134, 3) := by decide +kernel
theorem dX11_has_73 : decode cX11_has 73 = .ok (.ireturn, 1) := by decide +kernel
theorem dX11_has_74 : decode cX11_has 74 = .ok (.aload_n 2, 1) := by decide +kernel
theorem dX11_has_75 : decode cX11_has 75 = .ok (.invokevirtual 138, 3) := by decide +kernel
theorem dX11_has_78 : decode cX11_has 78 = .ok (.ireturn, 1) := by decide +kernel
theorem dX11_has_79 : decode cX11_has 79 = .ok (.aload_n 2, 1) := by decide +kernel
theorem dX11_has_80 : decode cX11_has 80 = .ok (.invokevirtual 141, 3) := by decide +kernel
theorem dX11_has_83 : decode cX11_has 83 = .ok (.ireturn, 1) := by decide +kernel
theorem dX11_has_84 : decode cX11_has 84 = .ok (.aload_n 2, 1) := by decide +kernel
theorem dX11_has_85 : decode cX11_has 85 = .ok (.getfield 129, 3) := by decide +kernel
theorem dX11_has_88 : decode cX11_has 88 = .ok (.aload_n 2, 1) := by decide +kernel
theorem dX11_has_89 : decode cX11_has 89 = .ok (.invokevirtual 138, 3) := by decide +kernel
theorem dX11_has_92 : decode cX11_has 92 = .ok (.isub, 1) := by decide +kernel
theorem dX11_has_93 : decode cX11_has 93 = .ok (.aload_n 2, 1) := by decide +kernel
theorem dX11_has_94 : decode cX11_has 94 = .ok (.invokevirtual 141, 3) := by decide +kernel
theorem dX11_has_97 : decode cX11_has 97 = .ok (.isub, 1) := by decide +kernel
theorem dX11_has_98 : decode cX11_has 98 = .ok (.ireturn, 1) := by decide +kernel
theorem dX11_has_99 : decode cX11_has 99 = .ok (.aload_n 2, 1) := by decide +kernel
theorem dX11_has_100 : decode cX11_has 100 = .ok (.getfield 144, 3) := by decide +kernel
theorem dX11_has_103 : decode cX11_has 103 = .ok (.ireturn, 1) := by decide +kernel
theorem dX11_has_104 : decode cX11_has 104 = .ok (.aload_n 0, 1) := by decide +kernel
theorem dX11_has_105 : decode cX11_has 105 = .ok (.getfield 28, 3) := by decide +kernel
theorem dX11_has_108 : decode cX11_has 108 = .ok (.invokevirtual 147, 3) := by decide +kernel
theorem dX11_has_111 : decode cX11_has 111 = .ok (.ireturn, 1) := by decide +kernel
theorem dX11_has_112 : decode cX11_has 112 = .ok (.aload_n 0, 1) := by decide +kernel
theorem dX11_has_113 : decode cX11_has 113 = .ok (.getfield 35, 3) := by decide +kernel
theorem dX11_has_116 : decode cX11_has 116 = .ok (.getfield 109, 3) := by decide +kernel
theorem dX11_has_119 : decode cX11_has 119 = .ok (.ireturn, 1) := by decide +kernel
theorem dX11_has_120 : decode cX11_has 120 = .ok (.aload_n 0, 1) := by decide +kernel
theorem dX11_has_121 : decode cX11_has 121 = .ok (.getfield 28, 3) := by decide +kernel
theorem dX11_has_124 : decode cX11_has 124 = .ok (.getfield 150, 3) := by decide +kernel
theorem dX11_has_127 : decode cX11_has 127 = .ok (.ireturn, 1) := by decide +kernel
theorem dX11_has_128 : decode cX11_has 128 = .ok (.aload_n 0, 1) := by decide +kernel
theorem dX11_has_129 : decode cX11_has 129 = .ok (.getfield 112, 3) := by decide +kernel
theorem dX11_has_132 : decode cX11_has 132 = .ok (.ifCond .eq 13, 3) := by decide +kernel
theorem dX11_has_145 : decode cX11_has 145 = .ok (.iconst 0, 1) := by decide +kernel
theorem dX11_has_146 : decode cX11_has 146 = .ok (.ireturn, 1) := by decide +kernel
theorem dX11_has_147 : decode cX11_has 147 = .ok (.iconst (-1), 1) := by decide +kernel
theorem dX11_has_148 : decode cX11_has 148 = .ok (.ireturn, 1) := by decide +kernel
theorem dX11_kept_0 : decode cX11_kept 0 = .ok (.aload_n 0, 1) := by decide +kernel
theorem dX11_kept_1 : decode cX11_kept 1 = .ok (.getfield 28, 3) := by decide +kernel
theorem dX11_kept_4 : decode cX11_kept 4 = .ok (.iload_n 1, 1) := by decide +kernel
theorem dX11_kept_5 : decode cX11_kept 5 = .ok (.iload_n 2, 1) := by decide +kernel
theorem dX11_kept_6 : decode cX11_kept 6 = .ok (.invokevirtual 219, 3) := by decide +kernel
theorem dX11_kept_9 : decode cX11_kept 9 = .ok (.ireturn, 1) := by decide +kernel
theorem dX11_key_0 : decode cX11_key 0 = .ok (.aload_n 0, 1) := by decide +kernel
theorem dX11_key_1 : decode cX11_key 1 = .ok (.getfield 79, 3) := by decide +kernel
theorem dX11_key_4 : decode cX11_key 4 = .ok (.getfield 125, 3) := by decide +kernel
theorem dX11_key_7 : decode cX11_key 7 = .ok (.astore_n 3, 1) := by decide +kernel
theorem dX11_key_8 : decode cX11_key 8 = .ok (.aload_n 3, 1) := by decide +kernel
theorem dX11_key_9 : decode cX11_key 9 = .ok (.iload_n 1, 1) := by decide +kernel
theorem dX11_key_10 : decode cX11_key 10 = .ok (.invokevirtual 161, 3) := by decide +kernel
theorem dX11_key_13 : decode cX11_key 13 = .ok (.ifCond .eq 25, 3) := by decide +kernel
theorem dX11_key_38 : decode cX11_key 38 = .ok (.iconst (-1), 1) := by decide +kernel
theorem dX11_key_39 : decode cX11_key 39 = .ok (.ireturn, 1) := by decide +kernel
theorem dX11_letter_0 : decode cX11_letter 0 = .ok (.aload_n 0, 1) := by decide +kernel
theorem dX11_letter_1 : decode cX11_letter 1 = .ok (.getfield 112, 3) := by decide +kernel
theorem dX11_letter_4 : decode cX11_letter 4 = .ok (.ifCond .eq 28, 3) := by decide +kernel
theorem dX11_letter_32 : decode cX11_letter 32 = .ok (.iconst (-1), 1) := by decide +kernel
theorem dX11_letter_33 : decode cX11_letter 33 = .ok (.ireturn, 1) := by decide +kernel
theorem dX11_lost_0 : decode cX11_lost 0 = .ok (.aload_n 0, 1) := by decide +kernel
theorem dX11_lost_1 : decode cX11_lost 1 = .ok (.getfield 79, 3) := by decide +kernel
theorem dX11_lost_4 : decode cX11_lost 4 = .ok (.getfield 125, 3) := by decide +kernel
theorem dX11_lost_7 : decode cX11_lost 7 = .ok (.iload_n 1, 1) := by decide +kernel
theorem dX11_lost_8 : decode cX11_lost 8 = .ok (.invokevirtual 188, 3) := by decide +kernel
theorem dX11_lost_11 : decode cX11_lost 11 = .ok (.ifCond .ne 5, 3) := by decide +kernel
theorem dX11_lost_14 : decode cX11_lost 14 = .ok (.iconst (-1), 1) := by decide +kernel
theorem dX11_lost_15 : decode cX11_lost 15 = .ok (.ireturn, 1) := by decide +kernel
theorem dX11_octet_0 : decode cX11_octet 0 = .ok (.iload_n 1, 1) := by decide +kernel
theorem dX11_octet_1 : decode cX11_octet 1 = .ok (.ifCond .lt 26, 3) := by decide +kernel
theorem dX11_octet_4 : decode cX11_octet 4 = .ok (.iload_n 1, 1) := by decide +kernel
theorem dX11_octet_5 : decode cX11_octet 5 = .ok (.aload_n 0, 1) := by decide +kernel
theorem dX11_octet_6 : decode cX11_octet 6 = .ok (.getfield 42, 3) := by decide +kernel
theorem dX11_octet_9 : decode cX11_octet 9 = .ok (.getfield 339, 3) := by decide +kernel
theorem dX11_octet_12 : decode cX11_octet 12 = .ok (.if_icmp .ge 15, 3) := by decide +kernel
theorem dX11_octet_27 : decode cX11_octet 27 = .ok (.iconst (-1), 1) := by decide +kernel
theorem dX11_octet_28 : decode cX11_octet 28 = .ok (.ireturn, 1) := by decide +kernel
theorem dX11_path_0 : decode cX11_path 0 = .ok (.aload_n 0, 1) := by decide +kernel
theorem dX11_path_1 : decode cX11_path 1 = .ok (.getfield 79, 3) := by decide +kernel
theorem dX11_path_4 : decode cX11_path 4 = .ok (.getfield 125, 3) := by decide +kernel
theorem dX11_path_7 : decode cX11_path 7 = .ok (.astore 4, 2) := by decide +kernel
theorem dX11_path_9 : decode cX11_path 9 = .ok (.aload 4, 2) := by decide +kernel
theorem dX11_path_11 : decode cX11_path 11 = .ok (.iload_n 1, 1) := by decide +kernel
theorem dX11_path_12 : decode cX11_path 12 = .ok (.invokevirtual 161, 3) := by decide +kernel
theorem dX11_path_15 : decode cX11_path 15 = .ok (.ifCond .eq 14, 3) := by decide +kernel
theorem dX11_path_29 : decode cX11_path 29 = .ok (.iconst (-1), 1) := by decide +kernel
theorem dX11_path_30 : decode cX11_path 30 = .ok (.ireturn, 1) := by decide +kernel
theorem dX11_read_0 : decode cX11_read 0 = .ok (.aload_n 0, 1) := by decide +kernel
theorem dX11_read_1 : decode cX11_read 1 = .ok (.getfield 79, 3) := by decide +kernel
theorem dX11_read_4 : decode cX11_read 4 = .ok (.getfield 125, 3) := by decide +kernel
theorem dX11_read_7 : decode cX11_read 7 = .ok (.iload_n 1, 1) := by decide +kernel
theorem dX11_read_8 : decode cX11_read 8 = .ok (.invokevirtual 161, 3) := by decide +kernel
theorem dX11_read_11 : decode cX11_read 11 = .ok (.ifCond .eq 29, 3) := by decide +kernel
theorem dX11_read_40 : decode cX11_read 40 = .ok (.iconst (-1), 1) := by decide +kernel
theorem dX11_read_41 : decode cX11_read 41 = .ok (.ireturn, 1) := by decide +kernel
theorem dX11_room_0 : decode cX11_room 0 = .ok (.aload_n 0, 1) := by decide +kernel
theorem dX11_room_1 : decode cX11_room 1 = .ok (.getfield 79, 3) := by decide +kernel
theorem dX11_room_4 : decode cX11_room 4 = .ok (.getfield 125, 3) := by decide +kernel
theorem dX11_room_7 : decode cX11_room 7 = .ok (.astore_n 2, 1) := by decide +kernel
theorem dX11_room_8 : decode cX11_room 8 = .ok (.aload_n 0, 1) := by decide +kernel
theorem dX11_room_9 : decode cX11_room 9 = .ok (.getfield 112, 3) := by decide +kernel
theorem dX11_room_12 : decode cX11_room 12 = .ok (.ifCond .ne 5, 3) := by decide +kernel
theorem dX11_room_15 : decode cX11_room 15 = .ok (.iconst (-1), 1) := by decide +kernel
theorem dX11_room_16 : decode cX11_room 16 = .ok (.ireturn, 1) := by decide +kernel
theorem dX11_shared_0 : decode cX11_shared 0 = .ok (.aload_n 0, 1) := by decide +kernel
theorem dX11_shared_1 : decode cX11_shared 1 = .ok (.getfield 79, 3) := by decide +kernel
theorem dX11_shared_4 : decode cX11_shared 4 = .ok (.getfield 125, 3) := by decide +kernel
theorem dX11_shared_7 : decode cX11_shared 7 = .ok (.astore_n 3, 1) := by decide +kernel
theorem dX11_shared_8 : decode cX11_shared 8 = .ok (.aload_n 3, 1) := by decide +kernel
theorem dX11_shared_9 : decode cX11_shared 9 = .ok (.iload_n 1, 1) := by decide +kernel
theorem dX11_shared_10 : decode cX11_shared 10 = .ok (.invokevirtual 161, 3) := by decide +kernel
theorem dX11_shared_13 : decode cX11_shared 13 = .ok (.ifCond .eq 11, 3) := by decide +kernel
theorem dX11_shared_24 : decode cX11_shared 24 = .ok (.iconst (-1), 1) := by decide +kernel
theorem dX11_shared_25 : decode cX11_shared 25 = .ok (.ireturn, 1) := by decide +kernel
theorem dX11_spread_0 : decode cX11_spread 0 = .ok (.aload_n 0, 1) := by decide +kernel
theorem dX11_spread_1 : decode cX11_spread 1 = .ok (.getfield 79, 3) := by decide +kernel
theorem dX11_spread_4 : decode cX11_spread 4 = .ok (.getfield 125, 3) := by decide +kernel
theorem dX11_spread_7 : decode cX11_spread 7 = .ok (.iload_n 1, 1) := by decide +kernel
theorem dX11_spread_8 : decode cX11_spread 8 = .ok (.invokevirtual 161, 3) := by decide +kernel
theorem dX11_spread_11 : decode cX11_spread 11 = .ok (.ifCond .eq 8, 3) := by decide +kernel
theorem dX11_spread_19 : decode cX11_spread 19 = .ok (.iconst (-1), 1) := by decide +kernel
theorem dX11_spread_20 : decode cX11_spread 20 = .ok (.ireturn, 1) := by decide +kernel
theorem dX11_status_0 : decode cX11_status 0 = .ok (.iload_n 1, 1) := by decide +kernel
theorem dX11_status_1 : decode cX11_status 1 = .ok (.ifCond .lt 18, 3) := by decide +kernel
theorem dX11_status_4 : decode cX11_status 4 = .ok (.iload_n 1, 1) := by decide +kernel
theorem dX11_status_5 : decode cX11_status 5 = .ok (.bipush 6, 2) := by decide +kernel
theorem dX11_status_7 : decode cX11_status 7 = .ok (.if_icmp .ge 12, 3) := by decide +kernel
theorem dX11_status_10 : decode cX11_status 10 = .ok (.aload_n 0, 1) := by decide +kernel
theorem dX11_status_11 : decode cX11_status 11 = .ok (.getfield 60, 3) := by decide +kernel
theorem dX11_status_14 : decode cX11_status 14 = .ok (.iload_n 1, 1) := by decide +kernel
theorem dX11_status_15 : decode cX11_status 15 = .ok (.iaload, 1) := by decide +kernel
theorem dX11_status_16 : decode cX11_status 16 = .ok (.goto 4, 3) := by decide +kernel
theorem dX11_status_19 : decode cX11_status 19 = .ok (.iconst (-1), 1) := by decide +kernel
theorem dX11_status_20 : decode cX11_status 20 = .ok (.ireturn, 1) := by decide +kernel
theorem dX11_total_0 : decode cX11_total 0 = .ok (.aload_n 0, 1) := by decide +kernel
theorem dX11_total_1 : decode cX11_total 1 = .ok (.getfield 79, 3) := by decide +kernel
theorem dX11_total_4 : decode cX11_total 4 = .ok (.getfield 125, 3) := by decide +kernel
theorem dX11_total_7 : decode cX11_total 7 = .ok (.astore 4, 2) := by decide +kernel
theorem dX11_total_9 : decode cX11_total 9 = .ok (.aload 4, 2) := by decide +kernel
theorem dX11_total_11 : decode cX11_total 11 = .ok (.iload_n 1, 1) := by decide +kernel
theorem dX11_total_12 : decode cX11_total 12 = .ok (.invokevirtual 161, 3) := by decide +kernel
theorem dX11_total_15 : decode cX11_total 15 = .ok (.ifCond .ne 5, 3) := by decide +kernel
theorem dX11_total_18 : decode cX11_total 18 = .ok (.iconst (-1), 1) := by decide +kernel
theorem dX11_total_19 : decode cX11_total 19 = .ok (.ireturn, 1) := by decide +kernel
theorem dX11_victim_0 : decode cX11_victim 0 = .ok (.aload_n 0, 1) := by decide +kernel
theorem dX11_victim_1 : decode cX11_victim 1 = .ok (.getfield 79, 3) := by decide +kernel
theorem dX11_victim_4 : decode cX11_victim 4 = .ok (.getfield 125, 3) := by decide +kernel
theorem dX11_victim_7 : decode cX11_victim 7 = .ok (.astore_n 2, 1) := by decide +kernel
theorem dX11_victim_8 : decode cX11_victim 8 = .ok (.iconst (-1), 1) := by decide +kernel
theorem dX11_victim_9 : decode cX11_victim 9 = .ok (.istore_n 3, 1) := by decide +kernel
theorem dX11_victim_10 : decode cX11_victim 10 = .ok (.iconst (-1), 1) := by decide +kernel
theorem dX11_victim_11 : decode cX11_victim 11 = .ok (.istore 4, 2) := by decide +kernel
theorem dX11_victim_13 : decode cX11_victim 13 = .ok (.iconst 0, 1) := by decide +kernel
theorem dX11_victim_14 : decode cX11_victim 14 = .ok (.istore 5, 2) := by decide +kernel
theorem dX11_victim_16 : decode cX11_victim 16 = .ok (.iload 5, 2) := by decide +kernel
theorem dX11_victim_18 : decode cX11_victim 18 = .ok (.bipush 8, 2) := by decide +kernel
theorem dX11_victim_20 : decode cX11_victim 20 = .ok (.if_icmp .ge 52, 3) := by decide +kernel
theorem dX11_victim_23 : decode cX11_victim 23 = .ok (.aload_n 2, 1) := by decide +kernel
theorem dX11_victim_24 : decode cX11_victim 24 = .ok (.iload 5, 2) := by decide +kernel
theorem dX11_victim_26 : decode cX11_victim 26 = .ok (.invokevirtual 161, 3) := by decide +kernel
theorem dX11_victim_29 : decode cX11_victim 29 = .ok (.ifCond .eq 20, 3) := by decide +kernel
theorem dX11_victim_49 : decode cX11_victim 49 = .ok (.iconst (-1), 1) := by decide +kernel
theorem dX11_victim_50 : decode cX11_victim 50 = .ok (.istore 6, 2) := by decide +kernel
theorem dX11_victim_52 : decode cX11_victim 52 = .ok (.iload 6, 2) := by decide +kernel
theorem dX11_victim_54 : decode cX11_victim 54 = .ok (.iload 4, 2) := by decide +kernel
theorem dX11_victim_56 : decode cX11_victim 56 = .ok (.if_icmp .le 10, 3) := by decide +kernel
theorem dX11_victim_66 : decode cX11_victim 66 = .ok (.iinc 5 1, 3) := by decide +kernel
theorem dX11_victim_69 : decode cX11_victim 69 = .ok (.goto (-53), 3) := by decide +kernel
theorem dX11_victim_72 : decode cX11_victim 72 = .ok (.iload_n 1, 1) := by decide +kernel
theorem dX11_victim_73 : decode cX11_victim 73 = .ok (.iload_n 3, 1) := by decide +kernel
theorem dX11_victim_74 : decode cX11_victim 74 = .ok (.iload 4, 2) := by decide +kernel
theorem dX11_victim_76 : decode cX11_victim 76 = .ok (.invokestatic 249, 3) := by decide +kernel
theorem dX11_victim_79 : decode cX11_victim 79 = .ok (.ireturn, 1) := by decide +kernel
theorem dX11_volume_0 : decode cX11_volume 0 = .ok (.aload_n 0, 1) := by decide +kernel
theorem dX11_volume_1 : decode cX11_volume 1 = .ok (.getfield 79, 3) := by decide +kernel
theorem dX11_volume_4 : decode cX11_volume 4 = .ok (.getfield 125, 3) := by decide +kernel
theorem dX11_volume_7 : decode cX11_volume 7 = .ok (.astore_n 3, 1) := by decide +kernel
theorem dX11_volume_8 : decode cX11_volume 8 = .ok (.aload_n 3, 1) := by decide +kernel
theorem dX11_volume_9 : decode cX11_volume 9 = .ok (.iload_n 1, 1) := by decide +kernel
theorem dX11_volume_10 : decode cX11_volume 10 = .ok (.invokevirtual 161, 3) := by decide +kernel
theorem dX11_volume_13 : decode cX11_volume 13 = .ok (.ifCond .ne 5, 3) := by decide +kernel
theorem dX11_volume_16 : decode cX11_volume 16 = .ok (.iconst (-1), 1) := by decide +kernel
theorem dX11_volume_17 : decode cX11_volume 17 = .ok (.ireturn, 1) := by decide +kernel
theorem dX11_writes_0 : decode cX11_writes 0 = .ok (.aload_n 0, 1) := by decide +kernel
theorem dX11_writes_1 : decode cX11_writes 1 = .ok (.getfield 79, 3) := by decide +kernel
theorem dX11_writes_4 : decode cX11_writes 4 = .ok (.getfield 125, 3) := by decide +kernel
theorem dX11_writes_7 : decode cX11_writes 7 = .ok (.iload_n 1, 1) := by decide +kernel
theorem dX11_writes_8 : decode cX11_writes 8 = .ok (.invokevirtual 161, 3) := by decide +kernel
theorem dX11_writes_11 : decode cX11_writes 11 = .ok (.ifCond .eq 10, 3) := by decide +kernel
theorem dX11_writes_21 : decode cX11_writes 21 = .ok (.iconst (-1), 1) := by decide +kernel
theorem dX11_writes_22 : decode cX11_writes 22 = .ok (.ireturn, 1) := by decide +kernel
set_option maxHeartbeats 4000000 in
set_option maxRecDepth 100000 in
theorem k_X11_status (l : Launch) (D : va_G) (a : Nat → Nat) (p0 : Int32) : Met l yX11_status (wz yX11_status cX11_status 2 (some .int)) { frames := 0, cells := 0, slots := 0, locals := 0 } (va_Pc [.ref (a 0), .int p0] (zP D [((a 0), .inr (11, [.ref (a 1), .ref (a 2), .ref (a 3), .ref (a 4), .ref (a 5), .ref (a 6), .ref (a 7), .ref (a 8), .ref (a 9), .ref (a 10), .ref (a 11), .ref (a 12), .int 0])), ((a 9), .inl (D.1 13, 6, .inl (fun _ => 0)))])) (va_Qi (fun r (_ : Unit) => (r = (-1) ∧ p0.toInt < 0) ∨ (r = (-1) ∧ 0 ≤ p0.toInt ∧ 6 ≤ p0.toInt) ∨ (r = 0 ∧ 0 ≤ p0.toInt ∧ p0.toInt < 6)) (fun _ _ => True) (fun _ => False)) 0 0 (fun _ => False) := by
  refine Met.ofW (cc := cX11_status) (maxL := 2) (ret := (some .int)) (by decide) rfl ?_
  intro p e s m args below meth c s₁ B hml hv
  obtain ⟨rfl, hP, hK⟩ := hv
  have hx := B.exec
  have hb := B.bytes
  have hr := B.returns
  have hts := atoms_spec (ws := wz yX11_status cX11_status 2 (some .int)) B.pre
  have ht : ∀ w ∈ lw_gd, w.before _ s = true := fun w h => hts w (List.mem_cons_of_mem _ h)
  have hown : s.vm.findClass RX11 = some m.cls := findClass_of_methodNamed B.named
  have hlocks := B.notSynchronized
  have hS : va_S (fun _ => False) s.heap s.heap [] := va_S.rf
  have hl := lv_entry ([.ref (a 0), .int p0]) (n := 2) (Nat.le_of_ble_eq_true rfl)
  rw [lg_entry_eq]
  generalize (lg_sl ([.ref (a 0), .int p0]) ++ List.replicate (2 - (lg_sl ([.ref (a 0), .int p0])).length) Slot.unset).toArray = ls at hl ⊢
  have hl : lv_has ls 2 [(0, .ref (a 0)), (1, .int p0)] := hl
  refine lv_iload_n hx hb dX11_status_0 rfl (lv_at hl 1 rfl) ?_
  refine lv_if_lt (tgt := 19) hx hb dX11_status_1 (by decide) (fun c_1 => ?_) (fun c_1 => ?_)
  · have g_2 : p0.toInt < 0 := z_lt rfl (by decide) c_1
    refine lv_iconst (v := (-1)) hx hb dX11_status_19 (by decide) ?_
    exact W.iret (v := (-1)) hx hb hr (fun t ht hW => ⟨⟨(-1), (), rfl, Or.inl (⟨rfl, zu_lt rfl (by decide) g_2⟩), trivial⟩, hS.F ht⟩) hS.2.2 dX11_status_20
  · have g_2 : 0 ≤ p0.toInt := z_nlt rfl (by decide) c_1
    refine lv_iload_n hx hb dX11_status_4 rfl (lv_at hl 1 rfl) ?_
    refine lv_bipush (v := 6) hx hb dX11_status_5 (by decide) ?_
    refine lv_icmp_ge (tgt := 19) hx hb dX11_status_7 (by decide) (fun c_3 => ?_) (fun c_3 => ?_)
    · have g_4 : 6 ≤ p0.toInt := z_le (by decide) rfl c_3
      refine lv_iconst (v := (-1)) hx hb dX11_status_19 (by decide) ?_
      exact W.iret (v := (-1)) hx hb hr (fun t ht hW => ⟨⟨(-1), (), rfl, Or.inr (Or.inl (⟨rfl, zu_ge rfl (by decide) g_2, zu_ge rfl (by decide) g_4⟩)), trivial⟩, hS.F ht⟩) hS.2.2 dX11_status_20
    · have g_4 : p0.toInt < 6 := z_nle (by decide) rfl c_3
      refine lv_aload_n hx hb dX11_status_10 rfl (lv_at hl 0 rfl) ?_
      refine va_get (D := D) (ci := 11) (v := .ref (a 9)) (C := RX11) (T := TX11) (N := 13) hx hb ht inX11 hown hK hP 0 rfl rfl 8 (by decide) (ht (.fieldLink RX11 60 "CloneVolumes" "refused" "[I") fl_X11_60) (fun _ h9 => h9) rfl dX11_status_11 ?_
      refine lv_iload_n hx hb dX11_status_14 rfl (lv_at hl 1 rfl) ?_
      refine va_iald hx hb hK hP 1 0 rfl rfl (z_in (by omega) (by omega)) dX11_status_15 ?_
      refine z_topi (y := 0) (by decide) ?_
      refine lv_goto (tgt := 20) hx hb dX11_status_16 (by decide) ?_
      exact W.iret (v := 0) hx hb hr (fun t ht hW => ⟨⟨0, (), rfl, Or.inr (Or.inr (⟨rfl, zu_ge rfl (by decide) g_2, zu_lt rfl (by decide) g_4⟩)), trivial⟩, hS.F ht⟩) hS.2.2 dX11_status_20
set_option maxHeartbeats 4000000 in
set_option maxRecDepth 100000 in
theorem k_X11_fault (l : Launch) (D : va_G) (a : Nat → Nat) (p0 : Int32) : Met l yX11_fault (wz yX11_fault cX11_fault 2 (some .int)) { frames := 0, cells := 0, slots := 0, locals := 0 } (va_Pc [.ref (a 0), .int p0] (zP D [((a 0), .inr (11, [.ref (a 1), .ref (a 2), .ref (a 3), .ref (a 4), .ref (a 5), .ref (a 6), .ref (a 7), .ref (a 8), .ref (a 9), .ref (a 10), .ref (a 11), .ref (a 12), .int 0])), ((a 2), .inr (6, [.int 0, .int (-1), .ref (a 1), .ref (a 21), .null, .int 0, .int 0, .int 0, .int 0, .int 0, .int 0, .int 0]))])) (va_Qi (fun r (_ : Unit) => (r = (-1) ∧ ¬ p0.toInt = 0 ∧ ¬ p0.toInt = 1) ∨ (r = (-1) ∧ ¬ p0.toInt = 0 ∧ p0.toInt = 1) ∨ (r = 0 ∧ p0.toInt = 0)) (fun _ _ => True) (fun _ => False)) 0 0 (fun _ => False) := by
  refine Met.ofW (cc := cX11_fault) (maxL := 2) (ret := (some .int)) (by decide) rfl ?_
  intro p e s m args below meth c s₁ B hml hv
  obtain ⟨rfl, hP, hK⟩ := hv
  have hx := B.exec
  have hb := B.bytes
  have hr := B.returns
  have hts := atoms_spec (ws := wz yX11_fault cX11_fault 2 (some .int)) B.pre
  have ht : ∀ w ∈ lw_gd, w.before _ s = true := fun w h => hts w (List.mem_cons_of_mem _ h)
  have hown : s.vm.findClass RX11 = some m.cls := findClass_of_methodNamed B.named
  have hlocks := B.notSynchronized
  have hS : va_S (fun _ => False) s.heap s.heap [] := va_S.rf
  have hl := lv_entry ([.ref (a 0), .int p0]) (n := 2) (Nat.le_of_ble_eq_true rfl)
  rw [lg_entry_eq]
  generalize (lg_sl ([.ref (a 0), .int p0]) ++ List.replicate (2 - (lg_sl ([.ref (a 0), .int p0])).length) Slot.unset).toArray = ls at hl ⊢
  have hl : lv_has ls 2 [(0, .ref (a 0)), (1, .int p0)] := hl
  refine lv_iload_n hx hb dX11_fault_0 rfl (lv_at hl 1 rfl) ?_
  refine lv_if_ne (tgt := 12) hx hb dX11_fault_1 (by decide) (fun c_1 => ?_) (fun c_1 => ?_)
  · have g_2 : ¬ p0.toInt = 0 := z_ne rfl (by decide) c_1
    refine lv_iload_n hx hb dX11_fault_12 rfl (lv_at hl 1 rfl) ?_
    refine lv_iconst (v := 1) hx hb dX11_fault_13 (by decide) ?_
    refine lv_icmp_ne (tgt := 37) hx hb dX11_fault_14 (by decide) (fun c_3 => ?_) (fun c_3 => ?_)
    · have g_4 : ¬ p0.toInt = 1 := z_ne rfl (by decide) c_3
      refine lv_iconst (v := (-1)) hx hb dX11_fault_37 (by decide) ?_
      exact W.iret (v := (-1)) hx hb hr (fun t ht hW => ⟨⟨(-1), (), rfl, Or.inl (⟨rfl, zu_ne rfl (by decide) g_2, zu_ne rfl (by decide) g_4⟩), trivial⟩, hS.F ht⟩) hS.2.2 dX11_fault_38
    · have g_4 : p0.toInt = 1 := z_eq rfl (by decide) c_3
      refine lv_aload_n hx hb dX11_fault_17 rfl (lv_at hl 0 rfl) ?_
      refine va_get (D := D) (ci := 11) (v := .ref (a 2)) (C := RX11) (T := TX11) (N := 13) hx hb ht inX11 hown hK hP 0 rfl rfl 1 (by decide) (ht (.fieldLink RX11 21 "CloneVolumes" "reader" "LCloneVolumes$Reader;") fl_X11_21) (fun _ h9 => h9) rfl dX11_fault_18 ?_
      refine va_get (D := D) (ci := 6) (v := .int 0) (C := RX6) (T := TX6) (N := 12) hx hb ht inX6 hown hK hP 1 rfl rfl 0 (by decide) (ht (.fieldLink RX11 119 "CloneVolumes$Reader" "fault" "I") fl_X11_119) (fun _ h9 => h9) rfl dX11_fault_21 ?_
      refine lv_if_eq (tgt := 37) hx hb dX11_fault_24 (by decide) (fun _ => ?_) (fun c_5 => (z_abs c_5 (by decide)).elim)
      refine lv_iconst (v := (-1)) hx hb dX11_fault_37 (by decide) ?_
      exact W.iret (v := (-1)) hx hb hr (fun t ht hW => ⟨⟨(-1), (), rfl, Or.inr (Or.inl (⟨rfl, zu_ne rfl (by decide) g_2, zu_eq rfl (by decide) g_4⟩)), trivial⟩, hS.F ht⟩) hS.2.2 dX11_fault_38
  · have g_2 : p0.toInt = 0 := z_eq rfl (by decide) c_1
    refine lv_aload_n hx hb dX11_fault_4 rfl (lv_at hl 0 rfl) ?_
    refine va_get (D := D) (ci := 11) (v := .ref (a 2)) (C := RX11) (T := TX11) (N := 13) hx hb ht inX11 hown hK hP 0 rfl rfl 1 (by decide) (ht (.fieldLink RX11 21 "CloneVolumes" "reader" "LCloneVolumes$Reader;") fl_X11_21) (fun _ h9 => h9) rfl dX11_fault_5 ?_
    refine va_get (D := D) (ci := 6) (v := .int 0) (C := RX6) (T := TX6) (N := 12) hx hb ht inX6 hown hK hP 1 rfl rfl 0 (by decide) (ht (.fieldLink RX11 119 "CloneVolumes$Reader" "fault" "I") fl_X11_119) (fun _ h9 => h9) rfl dX11_fault_8 ?_
    exact W.iret (v := 0) hx hb hr (fun t ht hW => ⟨⟨0, (), rfl, Or.inr (Or.inr (⟨rfl, zu_eq rfl (by decide) g_2⟩)), trivial⟩, hS.F ht⟩) hS.2.2 dX11_fault_11
set_option maxHeartbeats 4000000 in
set_option maxRecDepth 100000 in
theorem k_X11_letter (l : Launch) (D : va_G) (a : Nat → Nat) (p0 : Int32) (p1 : Int32) : Met l yX11_letter (wz yX11_letter cX11_letter 3 (some .int)) { frames := 0, cells := 0, slots := 0, locals := 0 } (va_Pc [.ref (a 0), .int p0, .int p1] (zP D [((a 0), .inr (11, [.ref (a 1), .ref (a 2), .ref (a 3), .ref (a 4), .ref (a 5), .ref (a 6), .ref (a 7), .ref (a 8), .ref (a 9), .ref (a 10), .ref (a 11), .ref (a 12), .int 0]))])) (va_Qi (fun r (_ : Unit) => r = (-1)) (fun _ _ => True) (fun _ => False)) 0 0 (fun _ => False) := by
  refine Met.ofW (cc := cX11_letter) (maxL := 3) (ret := (some .int)) (by decide) rfl ?_
  intro p e s m args below meth c s₁ B hml hv
  obtain ⟨rfl, hP, hK⟩ := hv
  have hx := B.exec
  have hb := B.bytes
  have hr := B.returns
  have hts := atoms_spec (ws := wz yX11_letter cX11_letter 3 (some .int)) B.pre
  have ht : ∀ w ∈ lw_gd, w.before _ s = true := fun w h => hts w (List.mem_cons_of_mem _ h)
  have hown : s.vm.findClass RX11 = some m.cls := findClass_of_methodNamed B.named
  have hlocks := B.notSynchronized
  have hS : va_S (fun _ => False) s.heap s.heap [] := va_S.rf
  have hl := lv_entry ([.ref (a 0), .int p0, .int p1]) (n := 3) (Nat.le_of_ble_eq_true rfl)
  rw [lg_entry_eq]
  generalize (lg_sl ([.ref (a 0), .int p0, .int p1]) ++ List.replicate (3 - (lg_sl ([.ref (a 0), .int p0, .int p1])).length) Slot.unset).toArray = ls at hl ⊢
  have hl : lv_has ls 3 [(0, .ref (a 0)), (1, .int p0), (2, .int p1)] := hl
  refine lv_aload_n hx hb dX11_letter_0 rfl (lv_at hl 0 rfl) ?_
  refine va_get (D := D) (ci := 11) (v := .int 0) (C := RX11) (T := TX11) (N := 13) hx hb ht inX11 hown hK hP 0 rfl rfl 12 (by decide) (ht (.fieldLink RX11 112 "CloneVolumes" "told" "Z") fl_X11_112) (fun _ h9 => h9) rfl dX11_letter_1 ?_
  refine lv_if_eq (tgt := 32) hx hb dX11_letter_4 (by decide) (fun _ => ?_) (fun c_1 => (z_abs c_1 (by decide)).elim)
  refine lv_iconst (v := (-1)) hx hb dX11_letter_32 (by decide) ?_
  exact W.iret (v := (-1)) hx hb hr (fun t ht hW => ⟨⟨(-1), (), rfl, rfl, trivial⟩, hS.F ht⟩) hS.2.2 dX11_letter_33
set_option maxHeartbeats 4000000 in
set_option maxRecDepth 100000 in
theorem k_X11_volume (l : Launch) (D : va_G) (a : Nat → Nat) (p0 : Int32) (p1 : Int32) : Met l yX11_volume (wz yX11_volume cX11_volume 5 (some .int)) { frames := 1, cells := 0, slots := 0, locals := 60 } (va_Pc [.ref (a 0), .int p0, .int p1] (zP D [((a 0), .inr (11, [.ref (a 1), .ref (a 2), .ref (a 3), .ref (a 4), .ref (a 5), .ref (a 6), .ref (a 7), .ref (a 8), .ref (a 9), .ref (a 10), .ref (a 11), .ref (a 12), .int 0])), ((a 12), .inr (1, [.ref (a 13), .ref (a 14), .ref (a 15), .int 1, .ref (a 10), .ref (a 16), .ref (a 17), .ref (a 18), .ref (a 19)])), ((a 13), .inr (8, [.int 0, .int 0, .long 0, .ref (a 60), .ref (a 61), .ref (a 62), .ref (a 63), .ref (a 64), .ref (a 65), .ref (a 66), .ref (a 67)])), ((a 66), .inl (D.1 13, 8, .inl (fun _ => (-2))))])) (va_Qi (fun r (_ : Unit) => r = (-1)) (fun _ _ => True) (fun _ => False)) 0 0 (fun _ => False) := by
  refine Met.ofW (cc := cX11_volume) (maxL := 5) (ret := (some .int)) (by decide) rfl ?_
  intro p e s m args below meth c s₁ B hml hv
  obtain ⟨rfl, hP, hK⟩ := hv
  have hx := B.exec
  have hb := B.bytes
  have hr := B.returns
  have hts := atoms_spec (ws := wz yX11_volume cX11_volume 5 (some .int)) B.pre
  have ht : ∀ w ∈ lw_gd, w.before _ s = true := fun w h => hts w (List.mem_cons_of_mem _ h)
  have hown : s.vm.findClass RX11 = some m.cls := findClass_of_methodNamed B.named
  have hlocks := B.notSynchronized
  have hS : va_S (fun _ => False) s.heap s.heap [] := va_S.rf
  have hl := lv_entry ([.ref (a 0), .int p0, .int p1]) (n := 5) (Nat.le_of_ble_eq_true rfl)
  rw [lg_entry_eq]
  generalize (lg_sl ([.ref (a 0), .int p0, .int p1]) ++ List.replicate (5 - (lg_sl ([.ref (a 0), .int p0, .int p1])).length) Slot.unset).toArray = ls at hl ⊢
  have hl : lv_has ls 5 [(0, .ref (a 0)), (1, .int p0), (2, .int p1)] := hl
  refine lv_aload_n hx hb dX11_volume_0 rfl (lv_at hl 0 rfl) ?_
  refine va_get (D := D) (ci := 11) (v := .ref (a 12)) (C := RX11) (T := TX11) (N := 13) hx hb ht inX11 hown hK hP 0 rfl rfl 11 (by decide) (ht (.fieldLink RX11 79 "CloneVolumes" "forest" "LCloneVolumes$Forest;") fl_X11_79) (fun _ h9 => h9) rfl dX11_volume_1 ?_
  refine va_get (D := D) (ci := 1) (v := .ref (a 13)) (C := RX1) (T := TX1) (N := 9) hx hb ht inX1 hown hK hP 1 rfl rfl 0 (by decide) (ht (.fieldLink RX11 125 "CloneVolumes$Forest" "now" "LCloneVolumes$State;") fl_X11_125) (fun _ h9 => h9) rfl dX11_volume_4 ?_
  refine lv_astore_n (lv' := [(3, .ref (a 13)), (0, .ref (a 0)), (1, .int p0), (2, .int p1)]) hx hb dX11_volume_7 rfl hl (by decide) rfl (fun ls hl => ?_)
  refine lv_aload_n hx hb dX11_volume_8 rfl (lv_at hl 0 rfl) ?_
  refine lv_iload_n hx hb dX11_volume_9 rfl (lv_at hl 2 rfl) ?_
  refine zcV (As := [.int p0]) (rest := []) (C := RX8) (n := 1) ⟨hx, hb, hml, hown, ht⟩ (k_X8_isVolume l D a p0) (zgV ml_X11_161 im_X8_isVolume se_X8_isVolume in_X8 co_X8_isVolume) rfl rfl (by decide +kernel) ⟨Nat.le_of_ble_eq_true rfl, Nat.le_of_ble_eq_true rfl⟩ hK hP hS [2, 3] rfl 0 rfl rfl rfl rfl hl.1 rfl (Nat.le_of_ble_eq_true rfl) dX11_volume_10 ⟨Nat.le_of_ble_eq_true rfl, Nat.le_of_ble_eq_true rfl⟩ (fun r_1 H locs hw hP hS => ?_)
  subst hw
  refine lv_if_ne (tgt := 18) hx hb dX11_volume_13 (by decide) (fun c_2 => (z_abs c_2 (by decide)).elim) (fun _ => ?_)
  refine lv_iconst (v := (-1)) hx hb dX11_volume_16 (by decide) ?_
  exact W.iret (v := (-1)) hx hb hr (fun t ht hW => ⟨⟨(-1), (), rfl, rfl, trivial⟩, hS.F ht⟩) hS.2.2 dX11_volume_17
set_option maxHeartbeats 4000000 in
set_option maxRecDepth 100000 in
theorem k_X11_block (l : Launch) (D : va_G) (a : Nat → Nat) (p0 : Int32) (p1 : Int32) : Met l yX11_block (wz yX11_block cX11_block 4 (some .int)) { frames := 1, cells := 0, slots := 0, locals := 60 } (va_Pc [.ref (a 0), .int p0, .int p1] (zP D [((a 0), .inr (11, [.ref (a 1), .ref (a 2), .ref (a 3), .ref (a 4), .ref (a 5), .ref (a 6), .ref (a 7), .ref (a 8), .ref (a 9), .ref (a 10), .ref (a 11), .ref (a 12), .int 0])), ((a 12), .inr (1, [.ref (a 13), .ref (a 14), .ref (a 15), .int 1, .ref (a 10), .ref (a 16), .ref (a 17), .ref (a 18), .ref (a 19)])), ((a 13), .inr (8, [.int 0, .int 0, .long 0, .ref (a 60), .ref (a 61), .ref (a 62), .ref (a 63), .ref (a 64), .ref (a 65), .ref (a 66), .ref (a 67)]))])) (va_Qi (fun r (_ : Unit) => r = (-1)) (fun _ _ => True) (fun _ => False)) 0 0 (fun _ => False) := by
  refine Met.ofW (cc := cX11_block) (maxL := 4) (ret := (some .int)) (by decide) rfl ?_
  intro p e s m args below meth c s₁ B hml hv
  obtain ⟨rfl, hP, hK⟩ := hv
  have hx := B.exec
  have hb := B.bytes
  have hr := B.returns
  have hts := atoms_spec (ws := wz yX11_block cX11_block 4 (some .int)) B.pre
  have ht : ∀ w ∈ lw_gd, w.before _ s = true := fun w h => hts w (List.mem_cons_of_mem _ h)
  have hown : s.vm.findClass RX11 = some m.cls := findClass_of_methodNamed B.named
  have hlocks := B.notSynchronized
  have hS : va_S (fun _ => False) s.heap s.heap [] := va_S.rf
  have hl := lv_entry ([.ref (a 0), .int p0, .int p1]) (n := 4) (Nat.le_of_ble_eq_true rfl)
  rw [lg_entry_eq]
  generalize (lg_sl ([.ref (a 0), .int p0, .int p1]) ++ List.replicate (4 - (lg_sl ([.ref (a 0), .int p0, .int p1])).length) Slot.unset).toArray = ls at hl ⊢
  have hl : lv_has ls 4 [(0, .ref (a 0)), (1, .int p0), (2, .int p1)] := hl
  refine lv_aload_n hx hb dX11_block_0 rfl (lv_at hl 0 rfl) ?_
  refine va_get (D := D) (ci := 11) (v := .ref (a 12)) (C := RX11) (T := TX11) (N := 13) hx hb ht inX11 hown hK hP 0 rfl rfl 11 (by decide) (ht (.fieldLink RX11 79 "CloneVolumes" "forest" "LCloneVolumes$Forest;") fl_X11_79) (fun _ h9 => h9) rfl dX11_block_1 ?_
  refine va_get (D := D) (ci := 1) (v := .ref (a 13)) (C := RX1) (T := TX1) (N := 9) hx hb ht inX1 hown hK hP 1 rfl rfl 0 (by decide) (ht (.fieldLink RX11 125 "CloneVolumes$Forest" "now" "LCloneVolumes$State;") fl_X11_125) (fun _ h9 => h9) rfl dX11_block_4 ?_
  refine lv_astore_n (lv' := [(3, .ref (a 13)), (0, .ref (a 0)), (1, .int p0), (2, .int p1)]) hx hb dX11_block_7 rfl hl (by decide) rfl (fun ls hl => ?_)
  refine lv_aload_n hx hb dX11_block_8 rfl (lv_at hl 0 rfl) ?_
  refine lv_iload_n hx hb dX11_block_9 rfl (lv_at hl 2 rfl) ?_
  refine zcV (As := [.int p0]) (rest := []) (C := RX8) (n := 1) ⟨hx, hb, hml, hown, ht⟩ (k_X8_isBlock l D a p0) (zgV ml_X11_188 im_X8_isBlock se_X8_isBlock in_X8 co_X8_isBlock) rfl rfl (by decide +kernel) ⟨Nat.le_of_ble_eq_true rfl, Nat.le_of_ble_eq_true rfl⟩ hK hP hS [2] rfl 0 rfl rfl rfl rfl hl.1 rfl (Nat.le_of_ble_eq_true rfl) dX11_block_10 ⟨Nat.le_of_ble_eq_true rfl, Nat.le_of_ble_eq_true rfl⟩ (fun r_1 H locs hw hP hS => ?_)
  subst hw
  refine lv_if_ne (tgt := 18) hx hb dX11_block_13 (by decide) (fun c_2 => (z_abs c_2 (by decide)).elim) (fun _ => ?_)
  refine lv_iconst (v := (-1)) hx hb dX11_block_16 (by decide) ?_
  exact W.iret (v := (-1)) hx hb hr (fun t ht hW => ⟨⟨(-1), (), rfl, rfl, trivial⟩, hS.F ht⟩) hS.2.2 dX11_block_17
set_option maxHeartbeats 4000000 in
set_option maxRecDepth 100000 in
theorem k_X11_entry (l : Launch) (D : va_G) (a : Nat → Nat) (p0 : Int32) (p1 : Int32) (p2 : Int32) : Met l yX11_entry (wz yX11_entry cX11_entry 6 (some .int)) { frames := 1, cells := 0, slots := 0, locals := 60 } (va_Pc [.ref (a 0), .int p0, .int p1, .int p2] (zP D [((a 0), .inr (11, [.ref (a 1), .ref (a 2), .ref (a 3), .ref (a 4), .ref (a 5), .ref (a 6), .ref (a 7), .ref (a 8), .ref (a 9), .ref (a 10), .ref (a 11), .ref (a 12), .int 0])), ((a 12), .inr (1, [.ref (a 13), .ref (a 14), .ref (a 15), .int 1, .ref (a 10), .ref (a 16), .ref (a 17), .ref (a 18), .ref (a 19)])), ((a 13), .inr (8, [.int 0, .int 0, .long 0, .ref (a 60), .ref (a 61), .ref (a 62), .ref (a 63), .ref (a 64), .ref (a 65), .ref (a 66), .ref (a 67)]))])) (va_Qi (fun r (_ : Unit) => r = (-1)) (fun _ _ => True) (fun _ => False)) 0 0 (fun _ => False) := by
  refine Met.ofW (cc := cX11_entry) (maxL := 6) (ret := (some .int)) (by decide) rfl ?_
  intro p e s m args below meth c s₁ B hml hv
  obtain ⟨rfl, hP, hK⟩ := hv
  have hx := B.exec
  have hb := B.bytes
  have hr := B.returns
  have hts := atoms_spec (ws := wz yX11_entry cX11_entry 6 (some .int)) B.pre
  have ht : ∀ w ∈ lw_gd, w.before _ s = true := fun w h => hts w (List.mem_cons_of_mem _ h)
  have hown : s.vm.findClass RX11 = some m.cls := findClass_of_methodNamed B.named
  have hlocks := B.notSynchronized
  have hS : va_S (fun _ => False) s.heap s.heap [] := va_S.rf
  have hl := lv_entry ([.ref (a 0), .int p0, .int p1, .int p2]) (n := 6) (Nat.le_of_ble_eq_true rfl)
  rw [lg_entry_eq]
  generalize (lg_sl ([.ref (a 0), .int p0, .int p1, .int p2]) ++ List.replicate (6 - (lg_sl ([.ref (a 0), .int p0, .int p1, .int p2])).length) Slot.unset).toArray = ls at hl ⊢
  have hl : lv_has ls 6 [(0, .ref (a 0)), (1, .int p0), (2, .int p1), (3, .int p2)] := hl
  refine lv_aload_n hx hb dX11_entry_0 rfl (lv_at hl 0 rfl) ?_
  refine va_get (D := D) (ci := 11) (v := .ref (a 12)) (C := RX11) (T := TX11) (N := 13) hx hb ht inX11 hown hK hP 0 rfl rfl 11 (by decide) (ht (.fieldLink RX11 79 "CloneVolumes" "forest" "LCloneVolumes$Forest;") fl_X11_79) (fun _ h9 => h9) rfl dX11_entry_1 ?_
  refine va_get (D := D) (ci := 1) (v := .ref (a 13)) (C := RX1) (T := TX1) (N := 9) hx hb ht inX1 hown hK hP 1 rfl rfl 0 (by decide) (ht (.fieldLink RX11 125 "CloneVolumes$Forest" "now" "LCloneVolumes$State;") fl_X11_125) (fun _ h9 => h9) rfl dX11_entry_4 ?_
  refine lv_astore (lv' := [(4, .ref (a 13)), (0, .ref (a 0)), (1, .int p0), (2, .int p1), (3, .int p2)]) hx hb dX11_entry_7 hl (by decide) rfl (fun ls hl => ?_)
  refine lv_aload hx hb dX11_entry_9 (lv_at hl 0 rfl) ?_
  refine lv_iload_n hx hb dX11_entry_11 rfl (lv_at hl 2 rfl) ?_
  refine zcV (As := [.int p0]) (rest := []) (C := RX8) (n := 1) ⟨hx, hb, hml, hown, ht⟩ (k_X8_isBlock l D a p0) (zgV ml_X11_188 im_X8_isBlock se_X8_isBlock in_X8 co_X8_isBlock) rfl rfl (by decide +kernel) ⟨Nat.le_of_ble_eq_true rfl, Nat.le_of_ble_eq_true rfl⟩ hK hP hS [2] rfl 0 rfl rfl rfl rfl hl.1 rfl (Nat.le_of_ble_eq_true rfl) dX11_entry_12 ⟨Nat.le_of_ble_eq_true rfl, Nat.le_of_ble_eq_true rfl⟩ (fun r_1 H locs hw hP hS => ?_)
  subst hw
  refine lv_if_eq (tgt := 32) hx hb dX11_entry_15 (by decide) (fun _ => ?_) (fun c_2 => (z_abs c_2 (by decide)).elim)
  refine lv_iconst (v := (-1)) hx hb dX11_entry_32 (by decide) ?_
  exact W.iret (v := (-1)) hx hb hr (fun t ht hW => ⟨⟨(-1), (), rfl, rfl, trivial⟩, hS.F ht⟩) hS.2.2 dX11_entry_33
set_option maxHeartbeats 4000000 in
set_option maxRecDepth 100000 in
theorem k_X11_kept (l : Launch) (D : va_G) (a : Nat → Nat) (p0 : Int32) (p1 : Int32) : Met l yX11_kept (wz yX11_kept cX11_kept 3 (some .int)) { frames := 3, cells := 0, slots := 0, locals := 180 } (va_Pc [.ref (a 0), .int p0, .int p1] (zP D [((a 0), .inr (11, [.ref (a 1), .ref (a 2), .ref (a 3), .ref (a 4), .ref (a 5), .ref (a 6), .ref (a 7), .ref (a 8), .ref (a 9), .ref (a 10), .ref (a 11), .ref (a 12), .int 0])), ((a 3), .inr (2, [.ref (a 22), .ref (a 23), .ref (a 24), .int 0, .ref (a 25), .int 0]))])) (va_Qi (fun r (_ : Unit) => r = (-1)) (fun _ _ => True) (fun _ => False)) 0 0 (fun _ => False) := by
  refine Met.ofW (cc := cX11_kept) (maxL := 3) (ret := (some .int)) (by decide) rfl ?_
  intro p e s m args below meth c s₁ B hml hv
  obtain ⟨rfl, hP, hK⟩ := hv
  have hx := B.exec
  have hb := B.bytes
  have hr := B.returns
  have hts := atoms_spec (ws := wz yX11_kept cX11_kept 3 (some .int)) B.pre
  have ht : ∀ w ∈ lw_gd, w.before _ s = true := fun w h => hts w (List.mem_cons_of_mem _ h)
  have hown : s.vm.findClass RX11 = some m.cls := findClass_of_methodNamed B.named
  have hlocks := B.notSynchronized
  have hS : va_S (fun _ => False) s.heap s.heap [] := va_S.rf
  have hl := lv_entry ([.ref (a 0), .int p0, .int p1]) (n := 3) (Nat.le_of_ble_eq_true rfl)
  rw [lg_entry_eq]
  generalize (lg_sl ([.ref (a 0), .int p0, .int p1]) ++ List.replicate (3 - (lg_sl ([.ref (a 0), .int p0, .int p1])).length) Slot.unset).toArray = ls at hl ⊢
  have hl : lv_has ls 3 [(0, .ref (a 0)), (1, .int p0), (2, .int p1)] := hl
  refine lv_aload_n hx hb dX11_kept_0 rfl (lv_at hl 0 rfl) ?_
  refine va_get (D := D) (ci := 11) (v := .ref (a 3)) (C := RX11) (T := TX11) (N := 13) hx hb ht inX11 hown hK hP 0 rfl rfl 2 (by decide) (ht (.fieldLink RX11 28 "CloneVolumes" "history" "LCloneVolumes$History;") fl_X11_28) (fun _ h9 => h9) rfl dX11_kept_1 ?_
  refine lv_iload_n hx hb dX11_kept_4 rfl (lv_at hl 1 rfl) ?_
  refine lv_iload_n hx hb dX11_kept_5 rfl (lv_at hl 2 rfl) ?_
  refine zcV (As := [.int p0, .int p1]) (rest := []) (C := RX2) (n := 2) ⟨hx, hb, hml, hown, ht⟩ (k_X2_toldOf l D a p0 p1) (zgV ml_X11_219 im_X2_toldOf se_X2_toldOf in_X2 co_X2_toldOf) rfl rfl (by decide +kernel) ⟨Nat.le_of_ble_eq_true rfl, Nat.le_of_ble_eq_true rfl⟩ hK hP hS [1] rfl 0 rfl rfl rfl rfl hl.1 rfl (Nat.le_of_ble_eq_true rfl) dX11_kept_6 ⟨Nat.le_of_ble_eq_true rfl, Nat.le_of_ble_eq_true rfl⟩ (fun r_1 H locs hw hP hS => ?_)
  subst hw
  exact W.iret (v := (-1)) hx hb hr (fun t ht hW => ⟨⟨(-1), (), rfl, rfl, trivial⟩, hS.F ht⟩) hS.2.2 dX11_kept_9
set_option maxHeartbeats 4000000 in
set_option maxRecDepth 100000 in
theorem k_X11_read (l : Launch) (D : va_G) (a : Nat → Nat) (p0 : Int32) (p1 : Int32) : Met l yX11_read (wz yX11_read cX11_read 3 (some .int)) { frames := 1, cells := 0, slots := 0, locals := 60 } (va_Pc [.ref (a 0), .int p0, .int p1] (zP D [((a 0), .inr (11, [.ref (a 1), .ref (a 2), .ref (a 3), .ref (a 4), .ref (a 5), .ref (a 6), .ref (a 7), .ref (a 8), .ref (a 9), .ref (a 10), .ref (a 11), .ref (a 12), .int 0])), ((a 12), .inr (1, [.ref (a 13), .ref (a 14), .ref (a 15), .int 1, .ref (a 10), .ref (a 16), .ref (a 17), .ref (a 18), .ref (a 19)])), ((a 13), .inr (8, [.int 0, .int 0, .long 0, .ref (a 60), .ref (a 61), .ref (a 62), .ref (a 63), .ref (a 64), .ref (a 65), .ref (a 66), .ref (a 67)])), ((a 66), .inl (D.1 13, 8, .inl (fun _ => (-2))))])) (va_Qi (fun r (_ : Unit) => r = (-1)) (fun _ _ => True) (fun _ => False)) 0 0 (fun _ => False) := by
  refine Met.ofW (cc := cX11_read) (maxL := 3) (ret := (some .int)) (by decide) rfl ?_
  intro p e s m args below meth c s₁ B hml hv
  obtain ⟨rfl, hP, hK⟩ := hv
  have hx := B.exec
  have hb := B.bytes
  have hr := B.returns
  have hts := atoms_spec (ws := wz yX11_read cX11_read 3 (some .int)) B.pre
  have ht : ∀ w ∈ lw_gd, w.before _ s = true := fun w h => hts w (List.mem_cons_of_mem _ h)
  have hown : s.vm.findClass RX11 = some m.cls := findClass_of_methodNamed B.named
  have hlocks := B.notSynchronized
  have hS : va_S (fun _ => False) s.heap s.heap [] := va_S.rf
  have hl := lv_entry ([.ref (a 0), .int p0, .int p1]) (n := 3) (Nat.le_of_ble_eq_true rfl)
  rw [lg_entry_eq]
  generalize (lg_sl ([.ref (a 0), .int p0, .int p1]) ++ List.replicate (3 - (lg_sl ([.ref (a 0), .int p0, .int p1])).length) Slot.unset).toArray = ls at hl ⊢
  have hl : lv_has ls 3 [(0, .ref (a 0)), (1, .int p0), (2, .int p1)] := hl
  refine lv_aload_n hx hb dX11_read_0 rfl (lv_at hl 0 rfl) ?_
  refine va_get (D := D) (ci := 11) (v := .ref (a 12)) (C := RX11) (T := TX11) (N := 13) hx hb ht inX11 hown hK hP 0 rfl rfl 11 (by decide) (ht (.fieldLink RX11 79 "CloneVolumes" "forest" "LCloneVolumes$Forest;") fl_X11_79) (fun _ h9 => h9) rfl dX11_read_1 ?_
  refine va_get (D := D) (ci := 1) (v := .ref (a 13)) (C := RX1) (T := TX1) (N := 9) hx hb ht inX1 hown hK hP 1 rfl rfl 0 (by decide) (ht (.fieldLink RX11 125 "CloneVolumes$Forest" "now" "LCloneVolumes$State;") fl_X11_125) (fun _ h9 => h9) rfl dX11_read_4 ?_
  refine lv_iload_n hx hb dX11_read_7 rfl (lv_at hl 1 rfl) ?_
  refine zcV (As := [.int p0]) (rest := []) (C := RX8) (n := 1) ⟨hx, hb, hml, hown, ht⟩ (k_X8_isVolume l D a p0) (zgV ml_X11_161 im_X8_isVolume se_X8_isVolume in_X8 co_X8_isVolume) rfl rfl (by decide +kernel) ⟨Nat.le_of_ble_eq_true rfl, Nat.le_of_ble_eq_true rfl⟩ hK hP hS [2, 3] rfl 0 rfl rfl rfl rfl hl.1 rfl (Nat.le_of_ble_eq_true rfl) dX11_read_8 ⟨Nat.le_of_ble_eq_true rfl, Nat.le_of_ble_eq_true rfl⟩ (fun r_1 H locs hw hP hS => ?_)
  subst hw
  refine lv_if_eq (tgt := 40) hx hb dX11_read_11 (by decide) (fun _ => ?_) (fun c_2 => (z_abs c_2 (by decide)).elim)
  refine lv_iconst (v := (-1)) hx hb dX11_read_40 (by decide) ?_
  exact W.iret (v := (-1)) hx hb hr (fun t ht hW => ⟨⟨(-1), (), rfl, rfl, trivial⟩, hS.F ht⟩) hS.2.2 dX11_read_41
set_option maxHeartbeats 4000000 in
set_option maxRecDepth 100000 in
theorem k_X11_key (l : Launch) (D : va_G) (a : Nat → Nat) (p0 : Int32) (p1 : Int32) : Met l yX11_key (wz yX11_key cX11_key 4 (some .int)) { frames := 1, cells := 0, slots := 0, locals := 60 } (va_Pc [.ref (a 0), .int p0, .int p1] (zP D [((a 0), .inr (11, [.ref (a 1), .ref (a 2), .ref (a 3), .ref (a 4), .ref (a 5), .ref (a 6), .ref (a 7), .ref (a 8), .ref (a 9), .ref (a 10), .ref (a 11), .ref (a 12), .int 0])), ((a 12), .inr (1, [.ref (a 13), .ref (a 14), .ref (a 15), .int 1, .ref (a 10), .ref (a 16), .ref (a 17), .ref (a 18), .ref (a 19)])), ((a 13), .inr (8, [.int 0, .int 0, .long 0, .ref (a 60), .ref (a 61), .ref (a 62), .ref (a 63), .ref (a 64), .ref (a 65), .ref (a 66), .ref (a 67)])), ((a 66), .inl (D.1 13, 8, .inl (fun _ => (-2))))])) (va_Qi (fun r (_ : Unit) => r = (-1)) (fun _ _ => True) (fun _ => False)) 0 0 (fun _ => False) := by
  refine Met.ofW (cc := cX11_key) (maxL := 4) (ret := (some .int)) (by decide) rfl ?_
  intro p e s m args below meth c s₁ B hml hv
  obtain ⟨rfl, hP, hK⟩ := hv
  have hx := B.exec
  have hb := B.bytes
  have hr := B.returns
  have hts := atoms_spec (ws := wz yX11_key cX11_key 4 (some .int)) B.pre
  have ht : ∀ w ∈ lw_gd, w.before _ s = true := fun w h => hts w (List.mem_cons_of_mem _ h)
  have hown : s.vm.findClass RX11 = some m.cls := findClass_of_methodNamed B.named
  have hlocks := B.notSynchronized
  have hS : va_S (fun _ => False) s.heap s.heap [] := va_S.rf
  have hl := lv_entry ([.ref (a 0), .int p0, .int p1]) (n := 4) (Nat.le_of_ble_eq_true rfl)
  rw [lg_entry_eq]
  generalize (lg_sl ([.ref (a 0), .int p0, .int p1]) ++ List.replicate (4 - (lg_sl ([.ref (a 0), .int p0, .int p1])).length) Slot.unset).toArray = ls at hl ⊢
  have hl : lv_has ls 4 [(0, .ref (a 0)), (1, .int p0), (2, .int p1)] := hl
  refine lv_aload_n hx hb dX11_key_0 rfl (lv_at hl 0 rfl) ?_
  refine va_get (D := D) (ci := 11) (v := .ref (a 12)) (C := RX11) (T := TX11) (N := 13) hx hb ht inX11 hown hK hP 0 rfl rfl 11 (by decide) (ht (.fieldLink RX11 79 "CloneVolumes" "forest" "LCloneVolumes$Forest;") fl_X11_79) (fun _ h9 => h9) rfl dX11_key_1 ?_
  refine va_get (D := D) (ci := 1) (v := .ref (a 13)) (C := RX1) (T := TX1) (N := 9) hx hb ht inX1 hown hK hP 1 rfl rfl 0 (by decide) (ht (.fieldLink RX11 125 "CloneVolumes$Forest" "now" "LCloneVolumes$State;") fl_X11_125) (fun _ h9 => h9) rfl dX11_key_4 ?_
  refine lv_astore_n (lv' := [(3, .ref (a 13)), (0, .ref (a 0)), (1, .int p0), (2, .int p1)]) hx hb dX11_key_7 rfl hl (by decide) rfl (fun ls hl => ?_)
  refine lv_aload_n hx hb dX11_key_8 rfl (lv_at hl 0 rfl) ?_
  refine lv_iload_n hx hb dX11_key_9 rfl (lv_at hl 2 rfl) ?_
  refine zcV (As := [.int p0]) (rest := []) (C := RX8) (n := 1) ⟨hx, hb, hml, hown, ht⟩ (k_X8_isVolume l D a p0) (zgV ml_X11_161 im_X8_isVolume se_X8_isVolume in_X8 co_X8_isVolume) rfl rfl (by decide +kernel) ⟨Nat.le_of_ble_eq_true rfl, Nat.le_of_ble_eq_true rfl⟩ hK hP hS [2, 3] rfl 0 rfl rfl rfl rfl hl.1 rfl (Nat.le_of_ble_eq_true rfl) dX11_key_10 ⟨Nat.le_of_ble_eq_true rfl, Nat.le_of_ble_eq_true rfl⟩ (fun r_1 H locs hw hP hS => ?_)
  subst hw
  refine lv_if_eq (tgt := 38) hx hb dX11_key_13 (by decide) (fun _ => ?_) (fun c_2 => (z_abs c_2 (by decide)).elim)
  refine lv_iconst (v := (-1)) hx hb dX11_key_38 (by decide) ?_
  exact W.iret (v := (-1)) hx hb hr (fun t ht hW => ⟨⟨(-1), (), rfl, rfl, trivial⟩, hS.F ht⟩) hS.2.2 dX11_key_39
set_option maxHeartbeats 4000000 in
set_option maxRecDepth 100000 in
theorem k_X11_total (l : Launch) (D : va_G) (a : Nat → Nat) (p0 : Int32) (p1 : Int32) (p2 : Int32) : Met l yX11_total (wz yX11_total cX11_total 8 (some .int)) { frames := 1, cells := 0, slots := 0, locals := 60 } (va_Pc [.ref (a 0), .int p0, .int p1, .int p2] (zP D [((a 0), .inr (11, [.ref (a 1), .ref (a 2), .ref (a 3), .ref (a 4), .ref (a 5), .ref (a 6), .ref (a 7), .ref (a 8), .ref (a 9), .ref (a 10), .ref (a 11), .ref (a 12), .int 0])), ((a 12), .inr (1, [.ref (a 13), .ref (a 14), .ref (a 15), .int 1, .ref (a 10), .ref (a 16), .ref (a 17), .ref (a 18), .ref (a 19)])), ((a 13), .inr (8, [.int 0, .int 0, .long 0, .ref (a 60), .ref (a 61), .ref (a 62), .ref (a 63), .ref (a 64), .ref (a 65), .ref (a 66), .ref (a 67)])), ((a 66), .inl (D.1 13, 8, .inl (fun _ => (-2))))])) (va_Qi (fun r (_ : Unit) => r = (-1)) (fun _ _ => True) (fun _ => False)) 0 0 (fun _ => False) := by
  refine Met.ofW (cc := cX11_total) (maxL := 8) (ret := (some .int)) (by decide) rfl ?_
  intro p e s m args below meth c s₁ B hml hv
  obtain ⟨rfl, hP, hK⟩ := hv
  have hx := B.exec
  have hb := B.bytes
  have hr := B.returns
  have hts := atoms_spec (ws := wz yX11_total cX11_total 8 (some .int)) B.pre
  have ht : ∀ w ∈ lw_gd, w.before _ s = true := fun w h => hts w (List.mem_cons_of_mem _ h)
  have hown : s.vm.findClass RX11 = some m.cls := findClass_of_methodNamed B.named
  have hlocks := B.notSynchronized
  have hS : va_S (fun _ => False) s.heap s.heap [] := va_S.rf
  have hl := lv_entry ([.ref (a 0), .int p0, .int p1, .int p2]) (n := 8) (Nat.le_of_ble_eq_true rfl)
  rw [lg_entry_eq]
  generalize (lg_sl ([.ref (a 0), .int p0, .int p1, .int p2]) ++ List.replicate (8 - (lg_sl ([.ref (a 0), .int p0, .int p1, .int p2])).length) Slot.unset).toArray = ls at hl ⊢
  have hl : lv_has ls 8 [(0, .ref (a 0)), (1, .int p0), (2, .int p1), (3, .int p2)] := hl
  refine lv_aload_n hx hb dX11_total_0 rfl (lv_at hl 0 rfl) ?_
  refine va_get (D := D) (ci := 11) (v := .ref (a 12)) (C := RX11) (T := TX11) (N := 13) hx hb ht inX11 hown hK hP 0 rfl rfl 11 (by decide) (ht (.fieldLink RX11 79 "CloneVolumes" "forest" "LCloneVolumes$Forest;") fl_X11_79) (fun _ h9 => h9) rfl dX11_total_1 ?_
  refine va_get (D := D) (ci := 1) (v := .ref (a 13)) (C := RX1) (T := TX1) (N := 9) hx hb ht inX1 hown hK hP 1 rfl rfl 0 (by decide) (ht (.fieldLink RX11 125 "CloneVolumes$Forest" "now" "LCloneVolumes$State;") fl_X11_125) (fun _ h9 => h9) rfl dX11_total_4 ?_
  refine lv_astore (lv' := [(4, .ref (a 13)), (0, .ref (a 0)), (1, .int p0), (2, .int p1), (3, .int p2)]) hx hb dX11_total_7 hl (by decide) rfl (fun ls hl => ?_)
  refine lv_aload hx hb dX11_total_9 (lv_at hl 0 rfl) ?_
  refine lv_iload_n hx hb dX11_total_11 rfl (lv_at hl 2 rfl) ?_
  refine zcV (As := [.int p0]) (rest := []) (C := RX8) (n := 1) ⟨hx, hb, hml, hown, ht⟩ (k_X8_isVolume l D a p0) (zgV ml_X11_161 im_X8_isVolume se_X8_isVolume in_X8 co_X8_isVolume) rfl rfl (by decide +kernel) ⟨Nat.le_of_ble_eq_true rfl, Nat.le_of_ble_eq_true rfl⟩ hK hP hS [2, 3] rfl 0 rfl rfl rfl rfl hl.1 rfl (Nat.le_of_ble_eq_true rfl) dX11_total_12 ⟨Nat.le_of_ble_eq_true rfl, Nat.le_of_ble_eq_true rfl⟩ (fun r_1 H locs hw hP hS => ?_)
  subst hw
  refine lv_if_ne (tgt := 20) hx hb dX11_total_15 (by decide) (fun c_2 => (z_abs c_2 (by decide)).elim) (fun _ => ?_)
  refine lv_iconst (v := (-1)) hx hb dX11_total_18 (by decide) ?_
  exact W.iret (v := (-1)) hx hb hr (fun t ht hW => ⟨⟨(-1), (), rfl, rfl, trivial⟩, hS.F ht⟩) hS.2.2 dX11_total_19
set_option maxHeartbeats 4000000 in
set_option maxRecDepth 100000 in
theorem k_X11_path (l : Launch) (D : va_G) (a : Nat → Nat) (p0 : Int32) (p1 : Int32) (p2 : Int32) : Met l yX11_path (wz yX11_path cX11_path 7 (some .int)) { frames := 1, cells := 0, slots := 0, locals := 60 } (va_Pc [.ref (a 0), .int p0, .int p1, .int p2] (zP D [((a 0), .inr (11, [.ref (a 1), .ref (a 2), .ref (a 3), .ref (a 4), .ref (a 5), .ref (a 6), .ref (a 7), .ref (a 8), .ref (a 9), .ref (a 10), .ref (a 11), .ref (a 12), .int 0])), ((a 12), .inr (1, [.ref (a 13), .ref (a 14), .ref (a 15), .int 1, .ref (a 10), .ref (a 16), .ref (a 17), .ref (a 18), .ref (a 19)])), ((a 13), .inr (8, [.int 0, .int 0, .long 0, .ref (a 60), .ref (a 61), .ref (a 62), .ref (a 63), .ref (a 64), .ref (a 65), .ref (a 66), .ref (a 67)])), ((a 66), .inl (D.1 13, 8, .inl (fun _ => (-2))))])) (va_Qi (fun r (_ : Unit) => r = (-1)) (fun _ _ => True) (fun _ => False)) 0 0 (fun _ => False) := by
  refine Met.ofW (cc := cX11_path) (maxL := 7) (ret := (some .int)) (by decide) rfl ?_
  intro p e s m args below meth c s₁ B hml hv
  obtain ⟨rfl, hP, hK⟩ := hv
  have hx := B.exec
  have hb := B.bytes
  have hr := B.returns
  have hts := atoms_spec (ws := wz yX11_path cX11_path 7 (some .int)) B.pre
  have ht : ∀ w ∈ lw_gd, w.before _ s = true := fun w h => hts w (List.mem_cons_of_mem _ h)
  have hown : s.vm.findClass RX11 = some m.cls := findClass_of_methodNamed B.named
  have hlocks := B.notSynchronized
  have hS : va_S (fun _ => False) s.heap s.heap [] := va_S.rf
  have hl := lv_entry ([.ref (a 0), .int p0, .int p1, .int p2]) (n := 7) (Nat.le_of_ble_eq_true rfl)
  rw [lg_entry_eq]
  generalize (lg_sl ([.ref (a 0), .int p0, .int p1, .int p2]) ++ List.replicate (7 - (lg_sl ([.ref (a 0), .int p0, .int p1, .int p2])).length) Slot.unset).toArray = ls at hl ⊢
  have hl : lv_has ls 7 [(0, .ref (a 0)), (1, .int p0), (2, .int p1), (3, .int p2)] := hl
  refine lv_aload_n hx hb dX11_path_0 rfl (lv_at hl 0 rfl) ?_
  refine va_get (D := D) (ci := 11) (v := .ref (a 12)) (C := RX11) (T := TX11) (N := 13) hx hb ht inX11 hown hK hP 0 rfl rfl 11 (by decide) (ht (.fieldLink RX11 79 "CloneVolumes" "forest" "LCloneVolumes$Forest;") fl_X11_79) (fun _ h9 => h9) rfl dX11_path_1 ?_
  refine va_get (D := D) (ci := 1) (v := .ref (a 13)) (C := RX1) (T := TX1) (N := 9) hx hb ht inX1 hown hK hP 1 rfl rfl 0 (by decide) (ht (.fieldLink RX11 125 "CloneVolumes$Forest" "now" "LCloneVolumes$State;") fl_X11_125) (fun _ h9 => h9) rfl dX11_path_4 ?_
  refine lv_astore (lv' := [(4, .ref (a 13)), (0, .ref (a 0)), (1, .int p0), (2, .int p1), (3, .int p2)]) hx hb dX11_path_7 hl (by decide) rfl (fun ls hl => ?_)
  refine lv_aload hx hb dX11_path_9 (lv_at hl 0 rfl) ?_
  refine lv_iload_n hx hb dX11_path_11 rfl (lv_at hl 2 rfl) ?_
  refine zcV (As := [.int p0]) (rest := []) (C := RX8) (n := 1) ⟨hx, hb, hml, hown, ht⟩ (k_X8_isVolume l D a p0) (zgV ml_X11_161 im_X8_isVolume se_X8_isVolume in_X8 co_X8_isVolume) rfl rfl (by decide +kernel) ⟨Nat.le_of_ble_eq_true rfl, Nat.le_of_ble_eq_true rfl⟩ hK hP hS [2, 3] rfl 0 rfl rfl rfl rfl hl.1 rfl (Nat.le_of_ble_eq_true rfl) dX11_path_12 ⟨Nat.le_of_ble_eq_true rfl, Nat.le_of_ble_eq_true rfl⟩ (fun r_1 H locs hw hP hS => ?_)
  subst hw
  refine lv_if_eq (tgt := 29) hx hb dX11_path_15 (by decide) (fun _ => ?_) (fun c_2 => (z_abs c_2 (by decide)).elim)
  refine lv_iconst (v := (-1)) hx hb dX11_path_29 (by decide) ?_
  exact W.iret (v := (-1)) hx hb hr (fun t ht hW => ⟨⟨(-1), (), rfl, rfl, trivial⟩, hS.F ht⟩) hS.2.2 dX11_path_30
set_option maxHeartbeats 4000000 in
set_option maxRecDepth 100000 in
theorem k_X11_shared (l : Launch) (D : va_G) (a : Nat → Nat) (p0 : Int32) (p1 : Int32) : Met l yX11_shared (wz yX11_shared cX11_shared 4 (some .int)) { frames := 1, cells := 0, slots := 0, locals := 60 } (va_Pc [.ref (a 0), .int p0, .int p1] (zP D [((a 0), .inr (11, [.ref (a 1), .ref (a 2), .ref (a 3), .ref (a 4), .ref (a 5), .ref (a 6), .ref (a 7), .ref (a 8), .ref (a 9), .ref (a 10), .ref (a 11), .ref (a 12), .int 0])), ((a 12), .inr (1, [.ref (a 13), .ref (a 14), .ref (a 15), .int 1, .ref (a 10), .ref (a 16), .ref (a 17), .ref (a 18), .ref (a 19)])), ((a 13), .inr (8, [.int 0, .int 0, .long 0, .ref (a 60), .ref (a 61), .ref (a 62), .ref (a 63), .ref (a 64), .ref (a 65), .ref (a 66), .ref (a 67)])), ((a 66), .inl (D.1 13, 8, .inl (fun _ => (-2))))])) (va_Qi (fun r (_ : Unit) => r = (-1)) (fun _ _ => True) (fun _ => False)) 0 0 (fun _ => False) := by
  refine Met.ofW (cc := cX11_shared) (maxL := 4) (ret := (some .int)) (by decide) rfl ?_
  intro p e s m args below meth c s₁ B hml hv
  obtain ⟨rfl, hP, hK⟩ := hv
  have hx := B.exec
  have hb := B.bytes
  have hr := B.returns
  have hts := atoms_spec (ws := wz yX11_shared cX11_shared 4 (some .int)) B.pre
  have ht : ∀ w ∈ lw_gd, w.before _ s = true := fun w h => hts w (List.mem_cons_of_mem _ h)
  have hown : s.vm.findClass RX11 = some m.cls := findClass_of_methodNamed B.named
  have hlocks := B.notSynchronized
  have hS : va_S (fun _ => False) s.heap s.heap [] := va_S.rf
  have hl := lv_entry ([.ref (a 0), .int p0, .int p1]) (n := 4) (Nat.le_of_ble_eq_true rfl)
  rw [lg_entry_eq]
  generalize (lg_sl ([.ref (a 0), .int p0, .int p1]) ++ List.replicate (4 - (lg_sl ([.ref (a 0), .int p0, .int p1])).length) Slot.unset).toArray = ls at hl ⊢
  have hl : lv_has ls 4 [(0, .ref (a 0)), (1, .int p0), (2, .int p1)] := hl
  refine lv_aload_n hx hb dX11_shared_0 rfl (lv_at hl 0 rfl) ?_
  refine va_get (D := D) (ci := 11) (v := .ref (a 12)) (C := RX11) (T := TX11) (N := 13) hx hb ht inX11 hown hK hP 0 rfl rfl 11 (by decide) (ht (.fieldLink RX11 79 "CloneVolumes" "forest" "LCloneVolumes$Forest;") fl_X11_79) (fun _ h9 => h9) rfl dX11_shared_1 ?_
  refine va_get (D := D) (ci := 1) (v := .ref (a 13)) (C := RX1) (T := TX1) (N := 9) hx hb ht inX1 hown hK hP 1 rfl rfl 0 (by decide) (ht (.fieldLink RX11 125 "CloneVolumes$Forest" "now" "LCloneVolumes$State;") fl_X11_125) (fun _ h9 => h9) rfl dX11_shared_4 ?_
  refine lv_astore_n (lv' := [(3, .ref (a 13)), (0, .ref (a 0)), (1, .int p0), (2, .int p1)]) hx hb dX11_shared_7 rfl hl (by decide) rfl (fun ls hl => ?_)
  refine lv_aload_n hx hb dX11_shared_8 rfl (lv_at hl 0 rfl) ?_
  refine lv_iload_n hx hb dX11_shared_9 rfl (lv_at hl 2 rfl) ?_
  refine zcV (As := [.int p0]) (rest := []) (C := RX8) (n := 1) ⟨hx, hb, hml, hown, ht⟩ (k_X8_isVolume l D a p0) (zgV ml_X11_161 im_X8_isVolume se_X8_isVolume in_X8 co_X8_isVolume) rfl rfl (by decide +kernel) ⟨Nat.le_of_ble_eq_true rfl, Nat.le_of_ble_eq_true rfl⟩ hK hP hS [2, 3] rfl 0 rfl rfl rfl rfl hl.1 rfl (Nat.le_of_ble_eq_true rfl) dX11_shared_10 ⟨Nat.le_of_ble_eq_true rfl, Nat.le_of_ble_eq_true rfl⟩ (fun r_1 H locs hw hP hS => ?_)
  subst hw
  refine lv_if_eq (tgt := 24) hx hb dX11_shared_13 (by decide) (fun _ => ?_) (fun c_2 => (z_abs c_2 (by decide)).elim)
  refine lv_iconst (v := (-1)) hx hb dX11_shared_24 (by decide) ?_
  exact W.iret (v := (-1)) hx hb hr (fun t ht hW => ⟨⟨(-1), (), rfl, rfl, trivial⟩, hS.F ht⟩) hS.2.2 dX11_shared_25
set_option maxHeartbeats 4000000 in
set_option maxRecDepth 100000 in
theorem k_X11_differs (l : Launch) (D : va_G) (a : Nat → Nat) (p0 : Int32) (p1 : Int32) (p2 : Int32) : Met l yX11_differs (wz yX11_differs cX11_differs 5 (some .int)) { frames := 1, cells := 0, slots := 0, locals := 60 } (va_Pc [.ref (a 0), .int p0, .int p1, .int p2] (zP D [((a 0), .inr (11, [.ref (a 1), .ref (a 2), .ref (a 3), .ref (a 4), .ref (a 5), .ref (a 6), .ref (a 7), .ref (a 8), .ref (a 9), .ref (a 10), .ref (a 11), .ref (a 12), .int 0])), ((a 12), .inr (1, [.ref (a 13), .ref (a 14), .ref (a 15), .int 1, .ref (a 10), .ref (a 16), .ref (a 17), .ref (a 18), .ref (a 19)])), ((a 13), .inr (8, [.int 0, .int 0, .long 0, .ref (a 60), .ref (a 61), .ref (a 62), .ref (a 63), .ref (a 64), .ref (a 65), .ref (a 66), .ref (a 67)])), ((a 66), .inl (D.1 13, 8, .inl (fun _ => (-2))))])) (va_Qi (fun r (_ : Unit) => r = (-1)) (fun _ _ => True) (fun _ => False)) 0 0 (fun _ => False) := by
  refine Met.ofW (cc := cX11_differs) (maxL := 5) (ret := (some .int)) (by decide) rfl ?_
  intro p e s m args below meth c s₁ B hml hv
  obtain ⟨rfl, hP, hK⟩ := hv
  have hx := B.exec
  have hb := B.bytes
  have hr := B.returns
  have hts := atoms_spec (ws := wz yX11_differs cX11_differs 5 (some .int)) B.pre
  have ht : ∀ w ∈ lw_gd, w.before _ s = true := fun w h => hts w (List.mem_cons_of_mem _ h)
  have hown : s.vm.findClass RX11 = some m.cls := findClass_of_methodNamed B.named
  have hlocks := B.notSynchronized
  have hS : va_S (fun _ => False) s.heap s.heap [] := va_S.rf
  have hl := lv_entry ([.ref (a 0), .int p0, .int p1, .int p2]) (n := 5) (Nat.le_of_ble_eq_true rfl)
  rw [lg_entry_eq]
  generalize (lg_sl ([.ref (a 0), .int p0, .int p1, .int p2]) ++ List.replicate (5 - (lg_sl ([.ref (a 0), .int p0, .int p1, .int p2])).length) Slot.unset).toArray = ls at hl ⊢
  have hl : lv_has ls 5 [(0, .ref (a 0)), (1, .int p0), (2, .int p1), (3, .int p2)] := hl
  refine lv_aload_n hx hb dX11_differs_0 rfl (lv_at hl 0 rfl) ?_
  refine va_get (D := D) (ci := 11) (v := .ref (a 12)) (C := RX11) (T := TX11) (N := 13) hx hb ht inX11 hown hK hP 0 rfl rfl 11 (by decide) (ht (.fieldLink RX11 79 "CloneVolumes" "forest" "LCloneVolumes$Forest;") fl_X11_79) (fun _ h9 => h9) rfl dX11_differs_1 ?_
  refine va_get (D := D) (ci := 1) (v := .ref (a 13)) (C := RX1) (T := TX1) (N := 9) hx hb ht inX1 hown hK hP 1 rfl rfl 0 (by decide) (ht (.fieldLink RX11 125 "CloneVolumes$Forest" "now" "LCloneVolumes$State;") fl_X11_125) (fun _ h9 => h9) rfl dX11_differs_4 ?_
  refine lv_astore (lv' := [(4, .ref (a 13)), (0, .ref (a 0)), (1, .int p0), (2, .int p1), (3, .int p2)]) hx hb dX11_differs_7 hl (by decide) rfl (fun ls hl => ?_)
  refine lv_aload hx hb dX11_differs_9 (lv_at hl 0 rfl) ?_
  refine lv_iload_n hx hb dX11_differs_11 rfl (lv_at hl 2 rfl) ?_
  refine zcV (As := [.int p0]) (rest := []) (C := RX8) (n := 1) ⟨hx, hb, hml, hown, ht⟩ (k_X8_isVolume l D a p0) (zgV ml_X11_161 im_X8_isVolume se_X8_isVolume in_X8 co_X8_isVolume) rfl rfl (by decide +kernel) ⟨Nat.le_of_ble_eq_true rfl, Nat.le_of_ble_eq_true rfl⟩ hK hP hS [2, 3] rfl 0 rfl rfl rfl rfl hl.1 rfl (Nat.le_of_ble_eq_true rfl) dX11_differs_12 ⟨Nat.le_of_ble_eq_true rfl, Nat.le_of_ble_eq_true rfl⟩ (fun r_1 H locs hw hP hS => ?_)
  subst hw
  refine lv_if_eq (tgt := 27) hx hb dX11_differs_15 (by decide) (fun _ => ?_) (fun c_2 => (z_abs c_2 (by decide)).elim)
  refine lv_iconst (v := (-1)) hx hb dX11_differs_27 (by decide) ?_
  exact W.iret (v := (-1)) hx hb hr (fun t ht hW => ⟨⟨(-1), (), rfl, rfl, trivial⟩, hS.F ht⟩) hS.2.2 dX11_differs_28
set_option maxHeartbeats 4000000 in
set_option maxRecDepth 100000 in
theorem k_X11_writes (l : Launch) (D : va_G) (a : Nat → Nat) (p0 : Int32) (p1 : Int32) (p2 : Int32) : Met l yX11_writes (wz yX11_writes cX11_writes 4 (some .int)) { frames := 1, cells := 0, slots := 0, locals := 60 } (va_Pc [.ref (a 0), .int p0, .int p1, .int p2] (zP D [((a 0), .inr (11, [.ref (a 1), .ref (a 2), .ref (a 3), .ref (a 4), .ref (a 5), .ref (a 6), .ref (a 7), .ref (a 8), .ref (a 9), .ref (a 10), .ref (a 11), .ref (a 12), .int 0])), ((a 12), .inr (1, [.ref (a 13), .ref (a 14), .ref (a 15), .int 1, .ref (a 10), .ref (a 16), .ref (a 17), .ref (a 18), .ref (a 19)])), ((a 13), .inr (8, [.int 0, .int 0, .long 0, .ref (a 60), .ref (a 61), .ref (a 62), .ref (a 63), .ref (a 64), .ref (a 65), .ref (a 66), .ref (a 67)])), ((a 66), .inl (D.1 13, 8, .inl (fun _ => (-2))))])) (va_Qi (fun r (_ : Unit) => r = (-1)) (fun _ _ => True) (fun _ => False)) 0 0 (fun _ => False) := by
  refine Met.ofW (cc := cX11_writes) (maxL := 4) (ret := (some .int)) (by decide) rfl ?_
  intro p e s m args below meth c s₁ B hml hv
  obtain ⟨rfl, hP, hK⟩ := hv
  have hx := B.exec
  have hb := B.bytes
  have hr := B.returns
  have hts := atoms_spec (ws := wz yX11_writes cX11_writes 4 (some .int)) B.pre
  have ht : ∀ w ∈ lw_gd, w.before _ s = true := fun w h => hts w (List.mem_cons_of_mem _ h)
  have hown : s.vm.findClass RX11 = some m.cls := findClass_of_methodNamed B.named
  have hlocks := B.notSynchronized
  have hS : va_S (fun _ => False) s.heap s.heap [] := va_S.rf
  have hl := lv_entry ([.ref (a 0), .int p0, .int p1, .int p2]) (n := 4) (Nat.le_of_ble_eq_true rfl)
  rw [lg_entry_eq]
  generalize (lg_sl ([.ref (a 0), .int p0, .int p1, .int p2]) ++ List.replicate (4 - (lg_sl ([.ref (a 0), .int p0, .int p1, .int p2])).length) Slot.unset).toArray = ls at hl ⊢
  have hl : lv_has ls 4 [(0, .ref (a 0)), (1, .int p0), (2, .int p1), (3, .int p2)] := hl
  refine lv_aload_n hx hb dX11_writes_0 rfl (lv_at hl 0 rfl) ?_
  refine va_get (D := D) (ci := 11) (v := .ref (a 12)) (C := RX11) (T := TX11) (N := 13) hx hb ht inX11 hown hK hP 0 rfl rfl 11 (by decide) (ht (.fieldLink RX11 79 "CloneVolumes" "forest" "LCloneVolumes$Forest;") fl_X11_79) (fun _ h9 => h9) rfl dX11_writes_1 ?_
  refine va_get (D := D) (ci := 1) (v := .ref (a 13)) (C := RX1) (T := TX1) (N := 9) hx hb ht inX1 hown hK hP 1 rfl rfl 0 (by decide) (ht (.fieldLink RX11 125 "CloneVolumes$Forest" "now" "LCloneVolumes$State;") fl_X11_125) (fun _ h9 => h9) rfl dX11_writes_4 ?_
  refine lv_iload_n hx hb dX11_writes_7 rfl (lv_at hl 1 rfl) ?_
  refine zcV (As := [.int p0]) (rest := []) (C := RX8) (n := 1) ⟨hx, hb, hml, hown, ht⟩ (k_X8_isVolume l D a p0) (zgV ml_X11_161 im_X8_isVolume se_X8_isVolume in_X8 co_X8_isVolume) rfl rfl (by decide +kernel) ⟨Nat.le_of_ble_eq_true rfl, Nat.le_of_ble_eq_true rfl⟩ hK hP hS [2, 3] rfl 0 rfl rfl rfl rfl hl.1 rfl (Nat.le_of_ble_eq_true rfl) dX11_writes_8 ⟨Nat.le_of_ble_eq_true rfl, Nat.le_of_ble_eq_true rfl⟩ (fun r_1 H locs hw hP hS => ?_)
  subst hw
  refine lv_if_eq (tgt := 21) hx hb dX11_writes_11 (by decide) (fun _ => ?_) (fun c_2 => (z_abs c_2 (by decide)).elim)
  refine lv_iconst (v := (-1)) hx hb dX11_writes_21 (by decide) ?_
  exact W.iret (v := (-1)) hx hb hr (fun t ht hW => ⟨⟨(-1), (), rfl, rfl, trivial⟩, hS.F ht⟩) hS.2.2 dX11_writes_22
set_option maxHeartbeats 4000000 in
set_option maxRecDepth 100000 in
theorem k_X11_spread (l : Launch) (D : va_G) (a : Nat → Nat) (p0 : Int32) (p1 : Int32) : Met l yX11_spread (wz yX11_spread cX11_spread 5 (some .int)) { frames := 1, cells := 0, slots := 0, locals := 60 } (va_Pc [.ref (a 0), .int p0, .int p1] (zP D [((a 0), .inr (11, [.ref (a 1), .ref (a 2), .ref (a 3), .ref (a 4), .ref (a 5), .ref (a 6), .ref (a 7), .ref (a 8), .ref (a 9), .ref (a 10), .ref (a 11), .ref (a 12), .int 0])), ((a 12), .inr (1, [.ref (a 13), .ref (a 14), .ref (a 15), .int 1, .ref (a 10), .ref (a 16), .ref (a 17), .ref (a 18), .ref (a 19)])), ((a 13), .inr (8, [.int 0, .int 0, .long 0, .ref (a 60), .ref (a 61), .ref (a 62), .ref (a 63), .ref (a 64), .ref (a 65), .ref (a 66), .ref (a 67)])), ((a 66), .inl (D.1 13, 8, .inl (fun _ => (-2))))])) (va_Qi (fun r (_ : Unit) => r = (-1)) (fun _ _ => True) (fun _ => False)) 0 0 (fun _ => False) := by
  refine Met.ofW (cc := cX11_spread) (maxL := 5) (ret := (some .int)) (by decide) rfl ?_
  intro p e s m args below meth c s₁ B hml hv
  obtain ⟨rfl, hP, hK⟩ := hv
  have hx := B.exec
  have hb := B.bytes
  have hr := B.returns
  have hts := atoms_spec (ws := wz yX11_spread cX11_spread 5 (some .int)) B.pre
  have ht : ∀ w ∈ lw_gd, w.before _ s = true := fun w h => hts w (List.mem_cons_of_mem _ h)
  have hown : s.vm.findClass RX11 = some m.cls := findClass_of_methodNamed B.named
  have hlocks := B.notSynchronized
  have hS : va_S (fun _ => False) s.heap s.heap [] := va_S.rf
  have hl := lv_entry ([.ref (a 0), .int p0, .int p1]) (n := 5) (Nat.le_of_ble_eq_true rfl)
  rw [lg_entry_eq]
  generalize (lg_sl ([.ref (a 0), .int p0, .int p1]) ++ List.replicate (5 - (lg_sl ([.ref (a 0), .int p0, .int p1])).length) Slot.unset).toArray = ls at hl ⊢
  have hl : lv_has ls 5 [(0, .ref (a 0)), (1, .int p0), (2, .int p1)] := hl
  refine lv_aload_n hx hb dX11_spread_0 rfl (lv_at hl 0 rfl) ?_
  refine va_get (D := D) (ci := 11) (v := .ref (a 12)) (C := RX11) (T := TX11) (N := 13) hx hb ht inX11 hown hK hP 0 rfl rfl 11 (by decide) (ht (.fieldLink RX11 79 "CloneVolumes" "forest" "LCloneVolumes$Forest;") fl_X11_79) (fun _ h9 => h9) rfl dX11_spread_1 ?_
  refine va_get (D := D) (ci := 1) (v := .ref (a 13)) (C := RX1) (T := TX1) (N := 9) hx hb ht inX1 hown hK hP 1 rfl rfl 0 (by decide) (ht (.fieldLink RX11 125 "CloneVolumes$Forest" "now" "LCloneVolumes$State;") fl_X11_125) (fun _ h9 => h9) rfl dX11_spread_4 ?_
  refine lv_iload_n hx hb dX11_spread_7 rfl (lv_at hl 1 rfl) ?_
  refine zcV (As := [.int p0]) (rest := []) (C := RX8) (n := 1) ⟨hx, hb, hml, hown, ht⟩ (k_X8_isVolume l D a p0) (zgV ml_X11_161 im_X8_isVolume se_X8_isVolume in_X8 co_X8_isVolume) rfl rfl (by decide +kernel) ⟨Nat.le_of_ble_eq_true rfl, Nat.le_of_ble_eq_true rfl⟩ hK hP hS [2, 3] rfl 0 rfl rfl rfl rfl hl.1 rfl (Nat.le_of_ble_eq_true rfl) dX11_spread_8 ⟨Nat.le_of_ble_eq_true rfl, Nat.le_of_ble_eq_true rfl⟩ (fun r_1 H locs hw hP hS => ?_)
  subst hw
  refine lv_if_eq (tgt := 19) hx hb dX11_spread_11 (by decide) (fun _ => ?_) (fun c_2 => (z_abs c_2 (by decide)).elim)
  refine lv_iconst (v := (-1)) hx hb dX11_spread_19 (by decide) ?_
  exact W.iret (v := (-1)) hx hb hr (fun t ht hW => ⟨⟨(-1), (), rfl, rfl, trivial⟩, hS.F ht⟩) hS.2.2 dX11_spread_20
set_option maxHeartbeats 4000000 in
set_option maxRecDepth 100000 in
theorem k_X11_lost (l : Launch) (D : va_G) (a : Nat → Nat) (p0 : Int32) : Met l yX11_lost (wz yX11_lost cX11_lost 2 (some .int)) { frames := 1, cells := 0, slots := 0, locals := 60 } (va_Pc [.ref (a 0), .int p0] (zP D [((a 0), .inr (11, [.ref (a 1), .ref (a 2), .ref (a 3), .ref (a 4), .ref (a 5), .ref (a 6), .ref (a 7), .ref (a 8), .ref (a 9), .ref (a 10), .ref (a 11), .ref (a 12), .int 0])), ((a 12), .inr (1, [.ref (a 13), .ref (a 14), .ref (a 15), .int 1, .ref (a 10), .ref (a 16), .ref (a 17), .ref (a 18), .ref (a 19)])), ((a 13), .inr (8, [.int 0, .int 0, .long 0, .ref (a 60), .ref (a 61), .ref (a 62), .ref (a 63), .ref (a 64), .ref (a 65), .ref (a 66), .ref (a 67)]))])) (va_Qi (fun r (_ : Unit) => r = (-1)) (fun _ _ => True) (fun _ => False)) 0 0 (fun _ => False) := by
  refine Met.ofW (cc := cX11_lost) (maxL := 2) (ret := (some .int)) (by decide) rfl ?_
  intro p e s m args below meth c s₁ B hml hv
  obtain ⟨rfl, hP, hK⟩ := hv
  have hx := B.exec
  have hb := B.bytes
  have hr := B.returns
  have hts := atoms_spec (ws := wz yX11_lost cX11_lost 2 (some .int)) B.pre
  have ht : ∀ w ∈ lw_gd, w.before _ s = true := fun w h => hts w (List.mem_cons_of_mem _ h)
  have hown : s.vm.findClass RX11 = some m.cls := findClass_of_methodNamed B.named
  have hlocks := B.notSynchronized
  have hS : va_S (fun _ => False) s.heap s.heap [] := va_S.rf
  have hl := lv_entry ([.ref (a 0), .int p0]) (n := 2) (Nat.le_of_ble_eq_true rfl)
  rw [lg_entry_eq]
  generalize (lg_sl ([.ref (a 0), .int p0]) ++ List.replicate (2 - (lg_sl ([.ref (a 0), .int p0])).length) Slot.unset).toArray = ls at hl ⊢
  have hl : lv_has ls 2 [(0, .ref (a 0)), (1, .int p0)] := hl
  refine lv_aload_n hx hb dX11_lost_0 rfl (lv_at hl 0 rfl) ?_
  refine va_get (D := D) (ci := 11) (v := .ref (a 12)) (C := RX11) (T := TX11) (N := 13) hx hb ht inX11 hown hK hP 0 rfl rfl 11 (by decide) (ht (.fieldLink RX11 79 "CloneVolumes" "forest" "LCloneVolumes$Forest;") fl_X11_79) (fun _ h9 => h9) rfl dX11_lost_1 ?_
  refine va_get (D := D) (ci := 1) (v := .ref (a 13)) (C := RX1) (T := TX1) (N := 9) hx hb ht inX1 hown hK hP 1 rfl rfl 0 (by decide) (ht (.fieldLink RX11 125 "CloneVolumes$Forest" "now" "LCloneVolumes$State;") fl_X11_125) (fun _ h9 => h9) rfl dX11_lost_4 ?_
  refine lv_iload_n hx hb dX11_lost_7 rfl (lv_at hl 1 rfl) ?_
  refine zcV (As := [.int p0]) (rest := []) (C := RX8) (n := 1) ⟨hx, hb, hml, hown, ht⟩ (k_X8_isBlock l D a p0) (zgV ml_X11_188 im_X8_isBlock se_X8_isBlock in_X8 co_X8_isBlock) rfl rfl (by decide +kernel) ⟨Nat.le_of_ble_eq_true rfl, Nat.le_of_ble_eq_true rfl⟩ hK hP hS [2] rfl 0 rfl rfl rfl rfl hl.1 rfl (Nat.le_of_ble_eq_true rfl) dX11_lost_8 ⟨Nat.le_of_ble_eq_true rfl, Nat.le_of_ble_eq_true rfl⟩ (fun r_1 H locs hw hP hS => ?_)
  subst hw
  refine lv_if_ne (tgt := 16) hx hb dX11_lost_11 (by decide) (fun c_2 => (z_abs c_2 (by decide)).elim) (fun _ => ?_)
  refine lv_iconst (v := (-1)) hx hb dX11_lost_14 (by decide) ?_
  exact W.iret (v := (-1)) hx hb hr (fun t ht hW => ⟨⟨(-1), (), rfl, rfl, trivial⟩, hS.F ht⟩) hS.2.2 dX11_lost_15
set_option maxHeartbeats 4000000 in
set_option maxRecDepth 100000 in
theorem k_X11_victim (l : Launch) (D : va_G) (a : Nat → Nat) (p0 : Int32) : Met l yX11_victim (wz yX11_victim cX11_victim 7 (some .int)) { frames := 1, cells := 0, slots := 0, locals := 60 } (va_Pc [.ref (a 0), .int p0] (zP D [((a 0), .inr (11, [.ref (a 1), .ref (a 2), .ref (a 3), .ref (a 4), .ref (a 5), .ref (a 6), .ref (a 7), .ref (a 8), .ref (a 9), .ref (a 10), .ref (a 11), .ref (a 12), .int 0])), ((a 12), .inr (1, [.ref (a 13), .ref (a 14), .ref (a 15), .int 1, .ref (a 10), .ref (a 16), .ref (a 17), .ref (a 18), .ref (a 19)])), ((a 13), .inr (8, [.int 0, .int 0, .long 0, .ref (a 60), .ref (a 61), .ref (a 62), .ref (a 63), .ref (a 64), .ref (a 65), .ref (a 66), .ref (a 67)])), ((a 66), .inl (D.1 13, 8, .inl (fun _ => (-2))))])) (va_Qi (fun r (_ : Unit) => r = (-1)) (fun _ _ => True) (fun _ => False)) 0 0 (fun _ => False) := by
  refine Met.ofW (cc := cX11_victim) (maxL := 7) (ret := (some .int)) (by decide) rfl ?_
  intro p e s m args below meth c s₁ B hml hv
  obtain ⟨rfl, hP, hK⟩ := hv
  have hx := B.exec
  have hb := B.bytes
  have hr := B.returns
  have hts := atoms_spec (ws := wz yX11_victim cX11_victim 7 (some .int)) B.pre
  have ht : ∀ w ∈ lw_gd, w.before _ s = true := fun w h => hts w (List.mem_cons_of_mem _ h)
  have hown : s.vm.findClass RX11 = some m.cls := findClass_of_methodNamed B.named
  have hlocks := B.notSynchronized
  have hS : va_S (fun _ => False) s.heap s.heap [] := va_S.rf
  have hl := lv_entry ([.ref (a 0), .int p0]) (n := 7) (Nat.le_of_ble_eq_true rfl)
  rw [lg_entry_eq]
  generalize (lg_sl ([.ref (a 0), .int p0]) ++ List.replicate (7 - (lg_sl ([.ref (a 0), .int p0])).length) Slot.unset).toArray = ls at hl ⊢
  have hl : lv_has ls 7 [(0, .ref (a 0)), (1, .int p0)] := hl
  refine lv_aload_n hx hb dX11_victim_0 rfl (lv_at hl 0 rfl) ?_
  refine va_get (D := D) (ci := 11) (v := .ref (a 12)) (C := RX11) (T := TX11) (N := 13) hx hb ht inX11 hown hK hP 0 rfl rfl 11 (by decide) (ht (.fieldLink RX11 79 "CloneVolumes" "forest" "LCloneVolumes$Forest;") fl_X11_79) (fun _ h9 => h9) rfl dX11_victim_1 ?_
  refine va_get (D := D) (ci := 1) (v := .ref (a 13)) (C := RX1) (T := TX1) (N := 9) hx hb ht inX1 hown hK hP 1 rfl rfl 0 (by decide) (ht (.fieldLink RX11 125 "CloneVolumes$Forest" "now" "LCloneVolumes$State;") fl_X11_125) (fun _ h9 => h9) rfl dX11_victim_4 ?_
  refine lv_astore_n (lv' := [(2, .ref (a 13)), (0, .ref (a 0)), (1, .int p0)]) hx hb dX11_victim_7 rfl hl (by decide) rfl (fun ls hl => ?_)
  refine lv_iconst (v := (-1)) hx hb dX11_victim_8 (by decide) ?_
  refine lv_istore_n (lv' := [(3, .int (-1)), (2, .ref (a 13)), (0, .ref (a 0)), (1, .int p0)]) hx hb dX11_victim_9 rfl hl (by decide) rfl (fun ls hl => ?_)
  refine lv_iconst (v := (-1)) hx hb dX11_victim_10 (by decide) ?_
  refine lv_istore (lv' := [(4, .int (-1)), (3, .int (-1)), (2, .ref (a 13)), (0, .ref (a 0)), (1, .int p0)]) hx hb dX11_victim_11 hl (by decide) rfl (fun ls hl => ?_)
  refine lv_iconst (v := 0) hx hb dX11_victim_13 (by decide) ?_
  refine lv_istore (lv' := [(5, .int 0), (4, .int (-1)), (3, .int (-1)), (2, .ref (a 13)), (0, .ref (a 0)), (1, .int p0)]) hx hb dX11_victim_14 hl (by decide) rfl (fun ls hl => ?_)
  refine z_loop (σ := Unit) (N := 8) (fun i u H locs ls => va_P D vwCl [((a 0), .inr (11, [.ref (a 1), .ref (a 2), .ref (a 3), .ref (a 4), .ref (a 5), .ref (a 6), .ref (a 7), .ref (a 8), .ref (a 9), .ref (a 10), .ref (a 11), .ref (a 12), .int 0])), ((a 12), .inr (1, [.ref (a 13), .ref (a 14), .ref (a 15), .int 1, .ref (a 10), .ref (a 16), .ref (a 17), .ref (a 18), .ref (a 19)])), ((a 13), .inr (8, [.int 0, .int 0, .long 0, .ref (a 60), .ref (a 61), .ref (a 62), .ref (a 63), .ref (a 64), .ref (a 65), .ref (a 66), .ref (a 67)])), ((a 66), .inl (D.1 13, 8, .inl (fun _ => (-2))))] H ∧ va_S (fun _ => False) s.heap H locs ∧ lv_has ls 7 [(5, .int (nI i)), (4, .int (-1)), (3, .int (-1)), (2, .ref (a 13)), (0, .ref (a 0)), (1, .int p0)]) (fun i_1 _u H locs ls hi_i_1 hI ih_16 => ?_) 0 () (by decide) ⟨hP, hS, lv_sub hl [0, 1, 2, 3, 4, 5] rfl⟩
  obtain ⟨hP, hS, hl⟩ := hI
  have hP : va_P D vwCl [((a 0), .inr (11, [.ref (a 1), .ref (a 2), .ref (a 3), .ref (a 4), .ref (a 5), .ref (a 6), .ref (a 7), .ref (a 8), .ref (a 9), .ref (a 10), .ref (a 11), .ref (a 12), .int 0])), ((a 12), .inr (1, [.ref (a 13), .ref (a 14), .ref (a 15), .int 1, .ref (a 10), .ref (a 16), .ref (a 17), .ref (a 18), .ref (a 19)])), ((a 13), .inr (8, [.int 0, .int 0, .long 0, .ref (a 60), .ref (a 61), .ref (a 62), .ref (a 63), .ref (a 64), .ref (a 65), .ref (a 66), .ref (a 67)])), ((a 66), .inl (D.1 13, 8, .inl (fun _ => (-2))))] H := hP
  have hl : lv_has ls 7 [(5, .int (nI i_1)), (4, .int (-1)), (3, .int (-1)), (2, .ref (a 13)), (0, .ref (a 0)), (1, .int p0)] := hl
  refine lv_iload hx hb dX11_victim_16 (lv_at hl 0 rfl) ?_
  refine lv_bipush (v := 8) hx hb dX11_victim_18 (by decide) ?_
  refine lv_icmp_ge (tgt := 72) hx hb dX11_victim_20 (by decide) (fun c_2 => ?_) (fun c_2 => ?_)
  · have g_3 : 8 ≤ ((i_1 : Nat) : Int) := z_le (by decide) (nI_toInt (by omega)) c_2
    obtain rfl : i_1 = 8 := by omega
    have hP : va_P D vwCl [((a 0), .inr (11, [.ref (a 1), .ref (a 2), .ref (a 3), .ref (a 4), .ref (a 5), .ref (a 6), .ref (a 7), .ref (a 8), .ref (a 9), .ref (a 10), .ref (a 11), .ref (a 12), .int 0])), ((a 12), .inr (1, [.ref (a 13), .ref (a 14), .ref (a 15), .int 1, .ref (a 10), .ref (a 16), .ref (a 17), .ref (a 18), .ref (a 19)])), ((a 13), .inr (8, [.int 0, .int 0, .long 0, .ref (a 60), .ref (a 61), .ref (a 62), .ref (a 63), .ref (a 64), .ref (a 65), .ref (a 66), .ref (a 67)])), ((a 66), .inl (D.1 13, 8, .inl (fun _ => (-2))))] H := hP
    have hl : lv_has ls 7 [(5, .int 8), (4, .int (-1)), (3, .int (-1)), (2, .ref (a 13)), (0, .ref (a 0)), (1, .int p0)] := hl
    refine lv_iload_n hx hb dX11_victim_72 rfl (lv_at hl 5 rfl) ?_
    refine lv_iload_n hx hb dX11_victim_73 rfl (lv_at hl 2 rfl) ?_
    refine lv_iload hx hb dX11_victim_74 (lv_at hl 1 rfl) ?_
    refine zcS (As := [.int p0, .int (-1), .int (-1)]) (rest := []) (n := 3) ⟨hx, hb, hml, hown, ht⟩ (k_X11_oneOf l D p0 (-1) (-1)) (zgT ml_X11_249 st_X11_oneOf in_X11 co_X11_oneOf) rfl rfl (by decide +kernel) ⟨Nat.le_of_ble_eq_true rfl, Nat.le_of_ble_eq_true rfl⟩ hK hP hS [] rfl rfl hl.1 rfl (Nat.le_of_ble_eq_true rfl) dX11_victim_76 ⟨Nat.le_of_ble_eq_true rfl, Nat.le_of_ble_eq_true rfl⟩ (fun r_4 H locs hw hP hS => ?_)
    rcases hw with ⟨rfl, g_5, g_6⟩ | ⟨rfl, g_7, g_8⟩ | ⟨rfl, g_9⟩
    · skip
      have g_5 : ¬ p0.toInt = 0 := zt_ne rfl (by decide) g_5
      have g_6 : ¬ p0.toInt = 1 := zt_ne rfl (by decide) g_6
      exact W.iret (v := (-1)) hx hb hr (fun t ht hW => ⟨⟨(-1), (), rfl, rfl, trivial⟩, hS.F ht⟩) hS.2.2 dX11_victim_79
    · skip
      have g_7 : ¬ p0.toInt = 0 := zt_ne rfl (by decide) g_7
      have g_8 : p0.toInt = 1 := zt_eq rfl (by decide) g_8
      exact W.iret (v := (-1)) hx hb hr (fun t ht hW => ⟨⟨(-1), (), rfl, rfl, trivial⟩, hS.F ht⟩) hS.2.2 dX11_victim_79
    · skip
      have g_9 : p0.toInt = 0 := zt_eq rfl (by decide) g_9
      exact W.iret (v := (-1)) hx hb hr (fun t ht hW => ⟨⟨(-1), (), rfl, rfl, trivial⟩, hS.F ht⟩) hS.2.2 dX11_victim_79
  · have g_3 : ((i_1 : Nat) : Int) < 8 := z_nle (by decide) (nI_toInt (by omega)) c_2
    refine lv_aload_n hx hb dX11_victim_23 rfl (lv_at hl 3 rfl) ?_
    refine lv_iload hx hb dX11_victim_24 (lv_at hl 0 rfl) ?_
    refine zcV (As := [.int (nI i_1)]) (rest := []) (C := RX8) (n := 1) ⟨hx, hb, hml, hown, ht⟩ (k_X8_isVolume l D a (nI i_1)) (zgV ml_X11_161 im_X8_isVolume se_X8_isVolume in_X8 co_X8_isVolume) rfl rfl (by decide +kernel) ⟨Nat.le_of_ble_eq_true rfl, Nat.le_of_ble_eq_true rfl⟩ hK hP hS [2, 3] rfl 0 rfl rfl rfl rfl hl.1 rfl (Nat.le_of_ble_eq_true rfl) dX11_victim_26 ⟨Nat.le_of_ble_eq_true rfl, Nat.le_of_ble_eq_true rfl⟩ (fun r_10 H locs hw hP hS => ?_)
    subst hw
    refine lv_if_eq (tgt := 49) hx hb dX11_victim_29 (by decide) (fun _ => ?_) (fun c_11 => (z_abs c_11 (by decide)).elim)
    refine lv_iconst (v := (-1)) hx hb dX11_victim_49 (by decide) ?_
    refine lv_istore (lv' := [(6, .int (-1)), (5, .int (nI i_1)), (4, .int (-1)), (3, .int (-1)), (2, .ref (a 13)), (0, .ref (a 0)), (1, .int p0)]) hx hb dX11_victim_50 hl (by decide) rfl (fun ls hl => ?_)
    refine lv_iload hx hb dX11_victim_52 (lv_at hl 0 rfl) ?_
    refine lv_iload hx hb dX11_victim_54 (lv_at hl 2 rfl) ?_
    refine lv_icmp_le (tgt := 66) hx hb dX11_victim_56 (by decide) (fun _ => ?_) (fun c_13 => (z_abs c_13 (by decide)).elim)
    refine lv_iinc (v := nI (i_1 + 1)) (lv' := [(5, .int (nI (i_1 + 1))), (6, .int (-1)), (4, .int (-1)), (3, .int (-1)), (2, .ref (a 13)), (0, .ref (a 0)), (1, .int p0)]) hx hb dX11_victim_66 hl (k := 1) rfl (z_inc _) (by decide) rfl (fun ls hl => ?_)
    refine lv_goto (tgt := 16) hx hb dX11_victim_69 (by decide) ?_
    exact ih_16 () _ _ _ (by omega) ⟨hP.sub [0, 1, 2, 3] rfl, hS, lv_sub hl [0, 2, 3, 4, 5, 6] rfl⟩
set_option maxHeartbeats 4000000 in
set_option maxRecDepth 100000 in
theorem k_X11_room (l : Launch) (D : va_G) (a : Nat → Nat) (p0 : Int32) : Met l yX11_room (wz yX11_room cX11_room 3 (some .int)) { frames := 0, cells := 0, slots := 0, locals := 0 } (va_Pc [.ref (a 0), .int p0] (zP D [((a 0), .inr (11, [.ref (a 1), .ref (a 2), .ref (a 3), .ref (a 4), .ref (a 5), .ref (a 6), .ref (a 7), .ref (a 8), .ref (a 9), .ref (a 10), .ref (a 11), .ref (a 12), .int 0])), ((a 12), .inr (1, [.ref (a 13), .ref (a 14), .ref (a 15), .int 1, .ref (a 10), .ref (a 16), .ref (a 17), .ref (a 18), .ref (a 19)]))])) (va_Qi (fun r (_ : Unit) => r = (-1)) (fun _ _ => True) (fun _ => False)) 0 0 (fun _ => False) := by
  refine Met.ofW (cc := cX11_room) (maxL := 3) (ret := (some .int)) (by decide) rfl ?_
  intro p e s m args below meth c s₁ B hml hv
  obtain ⟨rfl, hP, hK⟩ := hv
  have hx := B.exec
  have hb := B.bytes
  have hr := B.returns
  have hts := atoms_spec (ws := wz yX11_room cX11_room 3 (some .int)) B.pre
  have ht : ∀ w ∈ lw_gd, w.before _ s = true := fun w h => hts w (List.mem_cons_of_mem _ h)
  have hown : s.vm.findClass RX11 = some m.cls := findClass_of_methodNamed B.named
  have hlocks := B.notSynchronized
  have hS : va_S (fun _ => False) s.heap s.heap [] := va_S.rf
  have hl := lv_entry ([.ref (a 0), .int p0]) (n := 3) (Nat.le_of_ble_eq_true rfl)
  rw [lg_entry_eq]
  generalize (lg_sl ([.ref (a 0), .int p0]) ++ List.replicate (3 - (lg_sl ([.ref (a 0), .int p0])).length) Slot.unset).toArray = ls at hl ⊢
  have hl : lv_has ls 3 [(0, .ref (a 0)), (1, .int p0)] := hl
  refine lv_aload_n hx hb dX11_room_0 rfl (lv_at hl 0 rfl) ?_
  refine va_get (D := D) (ci := 11) (v := .ref (a 12)) (C := RX11) (T := TX11) (N := 13) hx hb ht inX11 hown hK hP 0 rfl rfl 11 (by decide) (ht (.fieldLink RX11 79 "CloneVolumes" "forest" "LCloneVolumes$Forest;") fl_X11_79) (fun _ h9 => h9) rfl dX11_room_1 ?_
  refine va_get (D := D) (ci := 1) (v := .ref (a 13)) (C := RX1) (T := TX1) (N := 9) hx hb ht inX1 hown hK hP 1 rfl rfl 0 (by decide) (ht (.fieldLink RX11 125 "CloneVolumes$Forest" "now" "LCloneVolumes$State;") fl_X11_125) (fun _ h9 => h9) rfl dX11_room_4 ?_
  refine lv_astore_n (lv' := [(2, .ref (a 13)), (0, .ref (a 0)), (1, .int p0)]) hx hb dX11_room_7 rfl hl (by decide) rfl (fun ls hl => ?_)
  refine lv_aload_n hx hb dX11_room_8 rfl (lv_at hl 1 rfl) ?_
  refine va_get (D := D) (ci := 11) (v := .int 0) (C := RX11) (T := TX11) (N := 13) hx hb ht inX11 hown hK hP 0 rfl rfl 12 (by decide) (ht (.fieldLink RX11 112 "CloneVolumes" "told" "Z") fl_X11_112) (fun _ h9 => h9) rfl dX11_room_9 ?_
  refine lv_if_ne (tgt := 17) hx hb dX11_room_12 (by decide) (fun c_1 => (z_abs c_1 (by decide)).elim) (fun _ => ?_)
  refine lv_iconst (v := (-1)) hx hb dX11_room_15 (by decide) ?_
  exact W.iret (v := (-1)) hx hb hr (fun t ht hW => ⟨⟨(-1), (), rfl, rfl, trivial⟩, hS.F ht⟩) hS.2.2 dX11_room_16
set_option maxHeartbeats 4000000 in
set_option maxRecDepth 100000 in
theorem k_X11_back (l : Launch) (D : va_G) (a : Nat → Nat) (p0 : Int32) : Met l yX11_back (wz yX11_back cX11_back 3 (some .int)) { frames := 1, cells := 0, slots := 0, locals := 60 } (va_Pc [.ref (a 0), .int p0] (zP D [((a 0), .inr (11, [.ref (a 1), .ref (a 2), .ref (a 3), .ref (a 4), .ref (a 5), .ref (a 6), .ref (a 7), .ref (a 8), .ref (a 9), .ref (a 10), .ref (a 11), .ref (a 12), .int 0])), ((a 12), .inr (1, [.ref (a 13), .ref (a 14), .ref (a 15), .int 1, .ref (a 10), .ref (a 16), .ref (a 17), .ref (a 18), .ref (a 19)])), ((a 13), .inr (8, [.int 0, .int 0, .long 0, .ref (a 60), .ref (a 61), .ref (a 62), .ref (a 63), .ref (a 64), .ref (a 65), .ref (a 66), .ref (a 67)])), ((a 66), .inl (D.1 13, 8, .inl (fun _ => (-2))))])) (va_Qi (fun r (_ : Unit) => r = (-1)) (fun _ _ => True) (fun _ => False)) 0 0 (fun _ => False) := by
  refine Met.ofW (cc := cX11_back) (maxL := 3) (ret := (some .int)) (by decide) rfl ?_
  intro p e s m args below meth c s₁ B hml hv
  obtain ⟨rfl, hP, hK⟩ := hv
  have hx := B.exec
  have hb := B.bytes
  have hr := B.returns
  have hts := atoms_spec (ws := wz yX11_back cX11_back 3 (some .int)) B.pre
  have ht : ∀ w ∈ lw_gd, w.before _ s = true := fun w h => hts w (List.mem_cons_of_mem _ h)
  have hown : s.vm.findClass RX11 = some m.cls := findClass_of_methodNamed B.named
  have hlocks := B.notSynchronized
  have hS : va_S (fun _ => False) s.heap s.heap [] := va_S.rf
  have hl := lv_entry ([.ref (a 0), .int p0]) (n := 3) (Nat.le_of_ble_eq_true rfl)
  rw [lg_entry_eq]
  generalize (lg_sl ([.ref (a 0), .int p0]) ++ List.replicate (3 - (lg_sl ([.ref (a 0), .int p0])).length) Slot.unset).toArray = ls at hl ⊢
  have hl : lv_has ls 3 [(0, .ref (a 0)), (1, .int p0)] := hl
  refine lv_aload_n hx hb dX11_back_0 rfl (lv_at hl 0 rfl) ?_
  refine va_get (D := D) (ci := 11) (v := .ref (a 12)) (C := RX11) (T := TX11) (N := 13) hx hb ht inX11 hown hK hP 0 rfl rfl 11 (by decide) (ht (.fieldLink RX11 79 "CloneVolumes" "forest" "LCloneVolumes$Forest;") fl_X11_79) (fun _ h9 => h9) rfl dX11_back_1 ?_
  refine va_get (D := D) (ci := 1) (v := .ref (a 13)) (C := RX1) (T := TX1) (N := 9) hx hb ht inX1 hown hK hP 1 rfl rfl 0 (by decide) (ht (.fieldLink RX11 125 "CloneVolumes$Forest" "now" "LCloneVolumes$State;") fl_X11_125) (fun _ h9 => h9) rfl dX11_back_4 ?_
  refine lv_astore_n (lv' := [(2, .ref (a 13)), (0, .ref (a 0)), (1, .int p0)]) hx hb dX11_back_7 rfl hl (by decide) rfl (fun ls hl => ?_)
  refine lv_aload_n hx hb dX11_back_8 rfl (lv_at hl 0 rfl) ?_
  refine lv_iload_n hx hb dX11_back_9 rfl (lv_at hl 2 rfl) ?_
  refine zcV (As := [.int p0]) (rest := []) (C := RX8) (n := 1) ⟨hx, hb, hml, hown, ht⟩ (k_X8_isVolume l D a p0) (zgV ml_X11_161 im_X8_isVolume se_X8_isVolume in_X8 co_X8_isVolume) rfl rfl (by decide +kernel) ⟨Nat.le_of_ble_eq_true rfl, Nat.le_of_ble_eq_true rfl⟩ hK hP hS [2, 3] rfl 0 rfl rfl rfl rfl hl.1 rfl (Nat.le_of_ble_eq_true rfl) dX11_back_10 ⟨Nat.le_of_ble_eq_true rfl, Nat.le_of_ble_eq_true rfl⟩ (fun r_1 H locs hw hP hS => ?_)
  subst hw
  refine lv_if_eq (tgt := 27) hx hb dX11_back_13 (by decide) (fun _ => ?_) (fun c_2 => (z_abs c_2 (by decide)).elim)
  refine lv_iconst (v := (-1)) hx hb dX11_back_27 (by decide) ?_
  exact W.iret (v := (-1)) hx hb hr (fun t ht hW => ⟨⟨(-1), (), rfl, rfl, trivial⟩, hS.F ht⟩) hS.2.2 dX11_back_28
set_option maxHeartbeats 4000000 in
set_option maxRecDepth 100000 in
theorem k_X11_octet (l : Launch) (D : va_G) (a : Nat → Nat) (p0 : Int32) : Met l yX11_octet (wz yX11_octet cX11_octet 2 (some .int)) { frames := 0, cells := 0, slots := 0, locals := 0 } (va_Pc [.ref (a 0), .int p0] (zP D [((a 0), .inr (11, [.ref (a 1), .ref (a 2), .ref (a 3), .ref (a 4), .ref (a 5), .ref (a 6), .ref (a 7), .ref (a 8), .ref (a 9), .ref (a 10), .ref (a 11), .ref (a 12), .int 0])), ((a 5), .inr (4, [.ref (a 30), .int 0, .int 0, .ref (a 31), .ref (a 32), .ref (a 33)]))])) (va_Qi (fun r (_ : Unit) => r = (-1)) (fun _ _ => True) (fun _ => False)) 0 0 (fun _ => False) := by
  refine Met.ofW (cc := cX11_octet) (maxL := 2) (ret := (some .int)) (by decide) rfl ?_
  intro p e s m args below meth c s₁ B hml hv
  obtain ⟨rfl, hP, hK⟩ := hv
  have hx := B.exec
  have hb := B.bytes
  have hr := B.returns
  have hts := atoms_spec (ws := wz yX11_octet cX11_octet 2 (some .int)) B.pre
  have ht : ∀ w ∈ lw_gd, w.before _ s = true := fun w h => hts w (List.mem_cons_of_mem _ h)
  have hown : s.vm.findClass RX11 = some m.cls := findClass_of_methodNamed B.named
  have hlocks := B.notSynchronized
  have hS : va_S (fun _ => False) s.heap s.heap [] := va_S.rf
  have hl := lv_entry ([.ref (a 0), .int p0]) (n := 2) (Nat.le_of_ble_eq_true rfl)
  rw [lg_entry_eq]
  generalize (lg_sl ([.ref (a 0), .int p0]) ++ List.replicate (2 - (lg_sl ([.ref (a 0), .int p0])).length) Slot.unset).toArray = ls at hl ⊢
  have hl : lv_has ls 2 [(0, .ref (a 0)), (1, .int p0)] := hl
  refine lv_iload_n hx hb dX11_octet_0 rfl (lv_at hl 1 rfl) ?_
  refine lv_if_lt (tgt := 27) hx hb dX11_octet_1 (by decide) (fun c_1 => ?_) (fun c_1 => ?_)
  · have g_2 : p0.toInt < 0 := z_lt rfl (by decide) c_1
    refine lv_iconst (v := (-1)) hx hb dX11_octet_27 (by decide) ?_
    exact W.iret (v := (-1)) hx hb hr (fun t ht hW => ⟨⟨(-1), (), rfl, rfl, trivial⟩, hS.F ht⟩) hS.2.2 dX11_octet_28
  · have g_2 : 0 ≤ p0.toInt := z_nlt rfl (by decide) c_1
    refine lv_iload_n hx hb dX11_octet_4 rfl (lv_at hl 1 rfl) ?_
    refine lv_aload_n hx hb dX11_octet_5 rfl (lv_at hl 0 rfl) ?_
    refine va_get (D := D) (ci := 11) (v := .ref (a 5)) (C := RX11) (T := TX11) (N := 13) hx hb ht inX11 hown hK hP 0 rfl rfl 4 (by decide) (ht (.fieldLink RX11 42 "CloneVolumes" "picture" "LCloneVolumes$Picture;") fl_X11_42) (fun _ h9 => h9) rfl dX11_octet_6 ?_
    refine va_get (D := D) (ci := 4) (v := .int 0) (C := RX4) (T := TX4) (N := 6) hx hb ht inX4 hown hK hP 1 rfl rfl 1 (by decide) (ht (.fieldLink RX11 339 "CloneVolumes$Picture" "size" "I") fl_X11_339) (fun _ h9 => h9) rfl dX11_octet_9 ?_
    refine lv_icmp_ge (tgt := 27) hx hb dX11_octet_12 (by decide) (fun c_3 => ?_) (fun c_3 => ?_)
    · have g_4 : 0 ≤ p0.toInt := z_le (by decide) rfl c_3
      refine lv_iconst (v := (-1)) hx hb dX11_octet_27 (by decide) ?_
      exact W.iret (v := (-1)) hx hb hr (fun t ht hW => ⟨⟨(-1), (), rfl, rfl, trivial⟩, hS.F ht⟩) hS.2.2 dX11_octet_28
    · exfalso
      have g_4 : p0.toInt < 0 := z_nle (by decide) rfl c_3
      omega
set_option maxHeartbeats 4000000 in
set_option maxRecDepth 100000 in
theorem k_X11_has (l : Launch) (D : va_G) (a : Nat → Nat) (p0 : Int32) : Met l yX11_has (wz yX11_has cX11_has 3 (some .int)) { frames := 2, cells := 0, slots := 0, locals := 120 } (va_Pc [.ref (a 0), .int p0] (zP D [((a 0), .inr (11, [.ref (a 1), .ref (a 2), .ref (a 3), .ref (a 4), .ref (a 5), .ref (a 6), .ref (a 7), .ref (a 8), .ref (a 9), .ref (a 10), .ref (a 11), .ref (a 12), .int 0])), ((a 12), .inr (1, [.ref (a 13), .ref (a 14), .ref (a 15), .int 1, .ref (a 10), .ref (a 16), .ref (a 17), .ref (a 18), .ref (a 19)])), ((a 13), .inr (8, [.int 0, .int 0, .long 0, .ref (a 60), .ref (a 61), .ref (a 62), .ref (a 63), .ref (a 64), .ref (a 65), .ref (a 66), .ref (a 67)])), ((a 66), .inl (D.1 13, 8, .inl (fun _ => (-2)))), ((a 3), .inr (2, [.ref (a 22), .ref (a 23), .ref (a 24), .int 0, .ref (a 25), .int 0])), ((a 4), .inr (7, [.int 0, .ref (a 26), .ref (a 27), .ref (a 28), .int 0, .ref (a 29)]))])) (va_Qi (fun r (_ : Unit) => (r = 0 ∧ p0.toInt = 0) ∨ (r = 0 ∧ ¬ p0.toInt = 0 ∧ p0.toInt = 1) ∨ (r = 0 ∧ ¬ p0.toInt = 0 ∧ ¬ p0.toInt = 1 ∧ p0.toInt = 2) ∨ (r = 0 ∧ ¬ p0.toInt = 0 ∧ ¬ p0.toInt = 1 ∧ ¬ p0.toInt = 2 ∧ p0.toInt = 3) ∨ (r = 0 ∧ ¬ p0.toInt = 0 ∧ ¬ p0.toInt = 1 ∧ ¬ p0.toInt = 2 ∧ ¬ p0.toInt = 3 ∧ p0.toInt = 4) ∨ (r = 0 ∧ ¬ p0.toInt = 0 ∧ ¬ p0.toInt = 1 ∧ ¬ p0.toInt = 2 ∧ ¬ p0.toInt = 3 ∧ ¬ p0.toInt = 4 ∧ p0.toInt = 5) ∨ (r = 0 ∧ ¬ p0.toInt = 0 ∧ ¬ p0.toInt = 1 ∧ ¬ p0.toInt = 2 ∧ ¬ p0.toInt = 3 ∧ ¬ p0.toInt = 4 ∧ ¬ p0.toInt = 5 ∧ p0.toInt = 6) ∨ (r = 0 ∧ ¬ p0.toInt = 0 ∧ ¬ p0.toInt = 1 ∧ ¬ p0.toInt = 2 ∧ ¬ p0.toInt = 3 ∧ ¬ p0.toInt = 4 ∧ ¬ p0.toInt = 5 ∧ ¬ p0.toInt = 6 ∧ p0.toInt = 7) ∨ (r = 0 ∧ ¬ p0.toInt = 0 ∧ ¬ p0.toInt = 1 ∧ ¬ p0.toInt = 2 ∧ ¬ p0.toInt = 3 ∧ ¬ p0.toInt = 4 ∧ ¬ p0.toInt = 5 ∧ ¬ p0.toInt = 6 ∧ ¬ p0.toInt = 7 ∧ p0.toInt = 8) ∨ (r = 0 ∧ ¬ p0.toInt = 0 ∧ ¬ p0.toInt = 1 ∧ ¬ p0.toInt = 2 ∧ ¬ p0.toInt = 3 ∧ ¬ p0.toInt = 4 ∧ ¬ p0.toInt = 5 ∧ ¬ p0.toInt = 6 ∧ ¬ p0.toInt = 7 ∧ ¬ p0.toInt = 8 ∧ p0.toInt = 9) ∨ (r = (-1) ∧ ¬ p0.toInt = 0 ∧ ¬ p0.toInt = 1 ∧ ¬ p0.toInt = 2 ∧ ¬ p0.toInt = 3 ∧ ¬ p0.toInt = 4 ∧ ¬ p0.toInt = 5 ∧ ¬ p0.toInt = 6 ∧ ¬ p0.toInt = 7 ∧ ¬ p0.toInt = 8 ∧ ¬ p0.toInt = 9)) (fun _ _ => True) (fun _ => False)) 0 0 (fun _ => False) := by
  refine Met.ofW (cc := cX11_has) (maxL := 3) (ret := (some .int)) (by decide) rfl ?_
  intro p e s m args below meth c s₁ B hml hv
  obtain ⟨rfl, hP, hK⟩ := hv
  have hx := B.exec
  have hb := B.bytes
  have hr := B.returns
  have hts := atoms_spec (ws := wz yX11_has cX11_has 3 (some .int)) B.pre
  have ht : ∀ w ∈ lw_gd, w.before _ s = true := fun w h => hts w (List.mem_cons_of_mem _ h)
  have hown : s.vm.findClass RX11 = some m.cls := findClass_of_methodNamed B.named
  have hlocks := B.notSynchronized
  have hS : va_S (fun _ => False) s.heap s.heap [] := va_S.rf
  have hl := lv_entry ([.ref (a 0), .int p0]) (n := 3) (Nat.le_of_ble_eq_true rfl)
  rw [lg_entry_eq]
  generalize (lg_sl ([.ref (a 0), .int p0]) ++ List.replicate (3 - (lg_sl ([.ref (a 0), .int p0])).length) Slot.unset).toArray = ls at hl ⊢
  have hl : lv_has ls 3 [(0, .ref (a 0)), (1, .int p0)] := hl
  refine lv_aload_n hx hb dX11_has_0 rfl (lv_at hl 0 rfl) ?_
  refine va_get (D := D) (ci := 11) (v := .ref (a 12)) (C := RX11) (T := TX11) (N := 13) hx hb ht inX11 hown hK hP 0 rfl rfl 11 (by decide) (ht (.fieldLink RX11 79 "CloneVolumes" "forest" "LCloneVolumes$Forest;") fl_X11_79) (fun _ h9 => h9) rfl dX11_has_1 ?_
  refine va_get (D := D) (ci := 1) (v := .ref (a 13)) (C := RX1) (T := TX1) (N := 9) hx hb ht inX1 hown hK hP 1 rfl rfl 0 (by decide) (ht (.fieldLink RX11 125 "CloneVolumes$Forest" "now" "LCloneVolumes$State;") fl_X11_125) (fun _ h9 => h9) rfl dX11_has_4 ?_
  refine lv_astore_n (lv' := [(2, .ref (a 13)), (0, .ref (a 0)), (1, .int p0)]) hx hb dX11_has_7 rfl hl (by decide) rfl (fun ls hl => ?_)
  refine lv_iload_n hx hb dX11_has_8 rfl (lv_at hl 2 rfl) ?_
  by_cases c_1 : p0 = 0
  · have g_2 : p0.toInt = 0 := z_eq rfl (by decide) c_1
    refine lv_tableIn (off := 55) (tgt := 64) hx hb dX11_has_9 (by omega) (by omega) (by rw [g_2]; decide) (by decide) ?_
    refine lv_aload_n hx hb dX11_has_64 rfl (lv_at hl 0 rfl) ?_
    refine va_get (D := D) (ci := 8) (v := .int 0) (C := RX8) (T := TX8) (N := 11) hx hb ht inX8 hown hK hP 2 rfl rfl 0 (by decide) (ht (.fieldLink RX11 129 "CloneVolumes$State" "blocks" "I") fl_X11_129) (fun _ h9 => h9) rfl dX11_has_65 ?_
    exact W.iret (v := 0) hx hb hr (fun t ht hW => ⟨⟨0, (), rfl, Or.inl (⟨rfl, zu_eq rfl (by decide) g_2⟩), trivial⟩, hS.F ht⟩) hS.2.2 dX11_has_68
  · have g_2 : ¬ p0.toInt = 0 := z_ne rfl (by decide) c_1
    by_cases c_3 : p0 = 1
    · have g_4 : p0.toInt = 1 := z_eq rfl (by decide) c_3
      refine lv_tableIn (off := 60) (tgt := 69) hx hb dX11_has_9 (by omega) (by omega) (by rw [g_4]; decide) (by decide) ?_
      refine lv_aload_n hx hb dX11_has_69 rfl (lv_at hl 0 rfl) ?_
      refine zcV (As := []) (rest := []) (C := RX8) (n := 0) ⟨hx, hb, hml, hown, ht⟩ (k_X8_volumes l D a) (zgV ml_X11_134 im_X8_volumes se_X8_volumes in_X8 co_X8_volumes) rfl rfl (by decide +kernel) ⟨Nat.le_of_ble_eq_true rfl, Nat.le_of_ble_eq_true rfl⟩ hK hP hS [2, 3] rfl 0 rfl rfl rfl rfl hl.1 rfl (Nat.le_of_ble_eq_true rfl) dX11_has_70 ⟨Nat.le_of_ble_eq_true rfl, Nat.le_of_ble_eq_true rfl⟩ (fun r_5 H locs hw hP hS => ?_)
      subst hw
      exact W.iret (v := 0) hx hb hr (fun t ht hW => ⟨⟨0, (), rfl, Or.inr (Or.inl (⟨rfl, zu_ne rfl (by decide) g_2, zu_eq rfl (by decide) g_4⟩)), trivial⟩, hS.F ht⟩) hS.2.2 dX11_has_73
    · have g_4 : ¬ p0.toInt = 1 := z_ne rfl (by decide) c_3
      by_cases c_6 : p0 = 2
      · have g_7 : p0.toInt = 2 := z_eq rfl (by decide) c_6
        refine lv_tableIn (off := 65) (tgt := 74) hx hb dX11_has_9 (by omega) (by omega) (by rw [g_7]; decide) (by decide) ?_
        refine lv_aload_n hx hb dX11_has_74 rfl (lv_at hl 0 rfl) ?_
        refine zcV (As := []) (rest := []) (C := RX8) (n := 0) ⟨hx, hb, hml, hown, ht⟩ (k_X8_used l D a) (zgV ml_X11_138 im_X8_used se_X8_used in_X8 co_X8_used) rfl rfl (by decide +kernel) ⟨Nat.le_of_ble_eq_true rfl, Nat.le_of_ble_eq_true rfl⟩ hK hP hS [2] rfl 0 rfl rfl rfl rfl hl.1 rfl (Nat.le_of_ble_eq_true rfl) dX11_has_75 ⟨Nat.le_of_ble_eq_true rfl, Nat.le_of_ble_eq_true rfl⟩ (fun r_8 H locs hw hP hS => ?_)
        subst hw
        exact W.iret (v := 0) hx hb hr (fun t ht hW => ⟨⟨0, (), rfl, Or.inr (Or.inr (Or.inl (⟨rfl, zu_ne rfl (by decide) g_2, zu_ne rfl (by decide) g_4, zu_eq rfl (by decide) g_7⟩))), trivial⟩, hS.F ht⟩) hS.2.2 dX11_has_78
      · have g_7 : ¬ p0.toInt = 2 := z_ne rfl (by decide) c_6
        by_cases c_9 : p0 = 3
        · have g_10 : p0.toInt = 3 := z_eq rfl (by decide) c_9
          refine lv_tableIn (off := 70) (tgt := 79) hx hb dX11_has_9 (by omega) (by omega) (by rw [g_10]; decide) (by decide) ?_
          refine lv_aload_n hx hb dX11_has_79 rfl (lv_at hl 0 rfl) ?_
          refine zcV (As := []) (rest := []) (C := RX8) (n := 0) ⟨hx, hb, hml, hown, ht⟩ (k_X8_held l D a) (zgV ml_X11_141 im_X8_held se_X8_held in_X8 co_X8_held) rfl rfl (by decide +kernel) ⟨Nat.le_of_ble_eq_true rfl, Nat.le_of_ble_eq_true rfl⟩ hK hP hS [2] rfl 0 rfl rfl rfl rfl hl.1 rfl (Nat.le_of_ble_eq_true rfl) dX11_has_80 ⟨Nat.le_of_ble_eq_true rfl, Nat.le_of_ble_eq_true rfl⟩ (fun r_11 H locs hw hP hS => ?_)
          subst hw
          exact W.iret (v := 0) hx hb hr (fun t ht hW => ⟨⟨0, (), rfl, Or.inr (Or.inr (Or.inr (Or.inl (⟨rfl, zu_ne rfl (by decide) g_2, zu_ne rfl (by decide) g_4, zu_ne rfl (by decide) g_7, zu_eq rfl (by decide) g_10⟩)))), trivial⟩, hS.F ht⟩) hS.2.2 dX11_has_83
        · have g_10 : ¬ p0.toInt = 3 := z_ne rfl (by decide) c_9
          by_cases c_12 : p0 = 4
          · have g_13 : p0.toInt = 4 := z_eq rfl (by decide) c_12
            refine lv_tableIn (off := 75) (tgt := 84) hx hb dX11_has_9 (by omega) (by omega) (by rw [g_13]; decide) (by decide) ?_
            refine lv_aload_n hx hb dX11_has_84 rfl (lv_at hl 0 rfl) ?_
            refine va_get (D := D) (ci := 8) (v := .int 0) (C := RX8) (T := TX8) (N := 11) hx hb ht inX8 hown hK hP 2 rfl rfl 0 (by decide) (ht (.fieldLink RX11 129 "CloneVolumes$State" "blocks" "I") fl_X11_129) (fun _ h9 => h9) rfl dX11_has_85 ?_
            refine lv_aload_n hx hb dX11_has_88 rfl (lv_at hl 0 rfl) ?_
            refine zcV (As := []) (rest := [.int 0]) (C := RX8) (n := 0) ⟨hx, hb, hml, hown, ht⟩ (k_X8_used l D a) (zgV ml_X11_138 im_X8_used se_X8_used in_X8 co_X8_used) rfl rfl (by decide +kernel) ⟨Nat.le_of_ble_eq_true rfl, Nat.le_of_ble_eq_true rfl⟩ hK hP hS [2] rfl 0 rfl rfl rfl rfl hl.1 rfl (Nat.le_of_ble_eq_true rfl) dX11_has_89 ⟨Nat.le_of_ble_eq_true rfl, Nat.le_of_ble_eq_true rfl⟩ (fun r_14 H locs hw hP hS => ?_)
            subst hw
            refine lv_isub hx hb dX11_has_92 ?_
            refine z_topi (y := 0) (by decide) ?_
            refine lv_aload_n hx hb dX11_has_93 rfl (lv_at hl 0 rfl) ?_
            refine zcV (As := []) (rest := [.int 0]) (C := RX8) (n := 0) ⟨hx, hb, hml, hown, ht⟩ (k_X8_held l D a) (zgV ml_X11_141 im_X8_held se_X8_held in_X8 co_X8_held) rfl rfl (by decide +kernel) ⟨Nat.le_of_ble_eq_true rfl, Nat.le_of_ble_eq_true rfl⟩ hK hP hS [2] rfl 0 rfl rfl rfl rfl hl.1 rfl (Nat.le_of_ble_eq_true rfl) dX11_has_94 ⟨Nat.le_of_ble_eq_true rfl, Nat.le_of_ble_eq_true rfl⟩ (fun r_15 H locs hw hP hS => ?_)
            subst hw
            refine lv_isub hx hb dX11_has_97 ?_
            refine z_topi (y := 0) (by decide) ?_
            exact W.iret (v := 0) hx hb hr (fun t ht hW => ⟨⟨0, (), rfl, Or.inr (Or.inr (Or.inr (Or.inr (Or.inl (⟨rfl, zu_ne rfl (by decide) g_2, zu_ne rfl (by decide) g_4, zu_ne rfl (by decide) g_7, zu_ne rfl (by decide) g_10, zu_eq rfl (by decide) g_13⟩))))), trivial⟩, hS.F ht⟩) hS.2.2 dX11_has_98
          · have g_13 : ¬ p0.toInt = 4 := z_ne rfl (by decide) c_12
            by_cases c_16 : p0 = 5
            · have g_17 : p0.toInt = 5 := z_eq rfl (by decide) c_16
              refine lv_tableIn (off := 90) (tgt := 99) hx hb dX11_has_9 (by omega) (by omega) (by rw [g_17]; decide) (by decide) ?_
              refine lv_aload_n hx hb dX11_has_99 rfl (lv_at hl 0 rfl) ?_
              refine va_get (D := D) (ci := 8) (v := .int 0) (C := RX8) (T := TX8) (N := 11) hx hb ht inX8 hown hK hP 2 rfl rfl 1 (by decide) (ht (.fieldLink RX11 144 "CloneVolumes$State" "spent" "I") fl_X11_144) (fun _ h9 => h9) rfl dX11_has_100 ?_
              exact W.iret (v := 0) hx hb hr (fun t ht hW => ⟨⟨0, (), rfl, Or.inr (Or.inr (Or.inr (Or.inr (Or.inr (Or.inl (⟨rfl, zu_ne rfl (by decide) g_2, zu_ne rfl (by decide) g_4, zu_ne rfl (by decide) g_7, zu_ne rfl (by decide) g_10, zu_ne rfl (by decide) g_13, zu_eq rfl (by decide) g_17⟩)))))), trivial⟩, hS.F ht⟩) hS.2.2 dX11_has_103
            · have g_17 : ¬ p0.toInt = 5 := z_ne rfl (by decide) c_16
              by_cases c_18 : p0 = 6
              · have g_19 : p0.toInt = 6 := z_eq rfl (by decide) c_18
                refine lv_tableIn (off := 95) (tgt := 104) hx hb dX11_has_9 (by omega) (by omega) (by rw [g_19]; decide) (by decide) ?_
                refine lv_aload_n hx hb dX11_has_104 rfl (lv_at hl 1 rfl) ?_
                refine va_get (D := D) (ci := 11) (v := .ref (a 3)) (C := RX11) (T := TX11) (N := 13) hx hb ht inX11 hown hK hP 0 rfl rfl 2 (by decide) (ht (.fieldLink RX11 28 "CloneVolumes" "history" "LCloneVolumes$History;") fl_X11_28) (fun _ h9 => h9) rfl dX11_has_105 ?_
                refine zcV (As := []) (rest := []) (C := RX2) (n := 0) ⟨hx, hb, hml, hown, ht⟩ (k_X2_toldRows l D a) (zgV ml_X11_147 im_X2_toldRows se_X2_toldRows in_X2 co_X2_toldRows) rfl rfl (by decide +kernel) ⟨Nat.le_of_ble_eq_true rfl, Nat.le_of_ble_eq_true rfl⟩ hK hP hS [4] rfl 0 rfl rfl rfl rfl hl.1 rfl (Nat.le_of_ble_eq_true rfl) dX11_has_108 ⟨Nat.le_of_ble_eq_true rfl, Nat.le_of_ble_eq_true rfl⟩ (fun r_20 H locs hw hP hS => ?_)
                subst hw
                exact W.iret (v := 0) hx hb hr (fun t ht hW => ⟨⟨0, (), rfl, Or.inr (Or.inr (Or.inr (Or.inr (Or.inr (Or.inr (Or.inl (⟨rfl, zu_ne rfl (by decide) g_2, zu_ne rfl (by decide) g_4, zu_ne rfl (by decide) g_7, zu_ne rfl (by decide) g_10, zu_ne rfl (by decide) g_13, zu_ne rfl (by decide) g_17, zu_eq rfl (by decide) g_19⟩))))))), trivial⟩, hS.F ht⟩) hS.2.2 dX11_has_111
              · have g_19 : ¬ p0.toInt = 6 := z_ne rfl (by decide) c_18
                by_cases c_21 : p0 = 7
                · have g_22 : p0.toInt = 7 := z_eq rfl (by decide) c_21
                  refine lv_tableIn (off := 103) (tgt := 112) hx hb dX11_has_9 (by omega) (by omega) (by rw [g_22]; decide) (by decide) ?_
                  refine lv_aload_n hx hb dX11_has_112 rfl (lv_at hl 1 rfl) ?_
                  refine va_get (D := D) (ci := 11) (v := .ref (a 4)) (C := RX11) (T := TX11) (N := 13) hx hb ht inX11 hown hK hP 0 rfl rfl 3 (by decide) (ht (.fieldLink RX11 35 "CloneVolumes" "sight" "LCloneVolumes$Sight;") fl_X11_35) (fun _ h9 => h9) rfl dX11_has_113 ?_
                  refine va_get (D := D) (ci := 7) (v := .int 0) (C := RX7) (T := TX7) (N := 6) hx hb ht inX7 hown hK hP 5 rfl rfl 0 (by decide) (ht (.fieldLink RX11 109 "CloneVolumes$Sight" "rows" "I") fl_X11_109) (fun _ h9 => h9) rfl dX11_has_116 ?_
                  exact W.iret (v := 0) hx hb hr (fun t ht hW => ⟨⟨0, (), rfl, Or.inr (Or.inr (Or.inr (Or.inr (Or.inr (Or.inr (Or.inr (Or.inl (⟨rfl, zu_ne rfl (by decide) g_2, zu_ne rfl (by decide) g_4, zu_ne rfl (by decide) g_7, zu_ne rfl (by decide) g_10, zu_ne rfl (by decide) g_13, zu_ne rfl (by decide) g_17, zu_ne rfl (by decide) g_19, zu_eq rfl (by decide) g_22⟩)))))))), trivial⟩, hS.F ht⟩) hS.2.2 dX11_has_119
                · have g_22 : ¬ p0.toInt = 7 := z_ne rfl (by decide) c_21
                  by_cases c_23 : p0 = 8
                  · have g_24 : p0.toInt = 8 := z_eq rfl (by decide) c_23
                    refine lv_tableIn (off := 111) (tgt := 120) hx hb dX11_has_9 (by omega) (by omega) (by rw [g_24]; decide) (by decide) ?_
                    refine lv_aload_n hx hb dX11_has_120 rfl (lv_at hl 1 rfl) ?_
                    refine va_get (D := D) (ci := 11) (v := .ref (a 3)) (C := RX11) (T := TX11) (N := 13) hx hb ht inX11 hown hK hP 0 rfl rfl 2 (by decide) (ht (.fieldLink RX11 28 "CloneVolumes" "history" "LCloneVolumes$History;") fl_X11_28) (fun _ h9 => h9) rfl dX11_has_121 ?_
                    refine va_get (D := D) (ci := 2) (v := .int 0) (C := RX2) (T := TX2) (N := 6) hx hb ht inX2 hown hK hP 4 rfl rfl 5 (by decide) (ht (.fieldLink RX11 150 "CloneVolumes$History" "depth" "I") fl_X11_150) (fun _ h9 => h9) rfl dX11_has_124 ?_
                    exact W.iret (v := 0) hx hb hr (fun t ht hW => ⟨⟨0, (), rfl, Or.inr (Or.inr (Or.inr (Or.inr (Or.inr (Or.inr (Or.inr (Or.inr (Or.inl (⟨rfl, zu_ne rfl (by decide) g_2, zu_ne rfl (by decide) g_4, zu_ne rfl (by decide) g_7, zu_ne rfl (by decide) g_10, zu_ne rfl (by decide) g_13, zu_ne rfl (by decide) g_17, zu_ne rfl (by decide) g_19, zu_ne rfl (by decide) g_22, zu_eq rfl (by decide) g_24⟩))))))))), trivial⟩, hS.F ht⟩) hS.2.2 dX11_has_127
                  · have g_24 : ¬ p0.toInt = 8 := z_ne rfl (by decide) c_23
                    by_cases c_25 : p0 = 9
                    · have g_26 : p0.toInt = 9 := z_eq rfl (by decide) c_25
                      refine lv_tableIn (off := 119) (tgt := 128) hx hb dX11_has_9 (by omega) (by omega) (by rw [g_26]; decide) (by decide) ?_
                      refine lv_aload_n hx hb dX11_has_128 rfl (lv_at hl 1 rfl) ?_
                      refine va_get (D := D) (ci := 11) (v := .int 0) (C := RX11) (T := TX11) (N := 13) hx hb ht inX11 hown hK hP 0 rfl rfl 12 (by decide) (ht (.fieldLink RX11 112 "CloneVolumes" "told" "Z") fl_X11_112) (fun _ h9 => h9) rfl dX11_has_129 ?_
                      refine lv_if_eq (tgt := 145) hx hb dX11_has_132 (by decide) (fun _ => ?_) (fun c_27 => (z_abs c_27 (by decide)).elim)
                      refine lv_iconst (v := 0) hx hb dX11_has_145 (by decide) ?_
                      exact W.iret (v := 0) hx hb hr (fun t ht hW => ⟨⟨0, (), rfl, Or.inr (Or.inr (Or.inr (Or.inr (Or.inr (Or.inr (Or.inr (Or.inr (Or.inr (Or.inl (⟨rfl, zu_ne rfl (by decide) g_2, zu_ne rfl (by decide) g_4, zu_ne rfl (by decide) g_7, zu_ne rfl (by decide) g_10, zu_ne rfl (by decide) g_13, zu_ne rfl (by decide) g_17, zu_ne rfl (by decide) g_19, zu_ne rfl (by decide) g_22, zu_ne rfl (by decide) g_24, zu_eq rfl (by decide) g_26⟩)))))))))), trivial⟩, hS.F ht⟩) hS.2.2 dX11_has_146
                    · have g_26 : ¬ p0.toInt = 9 := z_ne rfl (by decide) c_25
                      refine lv_tableOut (tgt := 147) hx hb dX11_has_9 (by omega) (by decide) ?_
                      refine lv_iconst (v := (-1)) hx hb dX11_has_147 (by decide) ?_
                      exact W.iret (v := (-1)) hx hb hr (fun t ht hW => ⟨⟨(-1), (), rfl, Or.inr (Or.inr (Or.inr (Or.inr (Or.inr (Or.inr (Or.inr (Or.inr (Or.inr (Or.inr (⟨rfl, zu_ne rfl (by decide) g_2, zu_ne rfl (by decide) g_4, zu_ne rfl (by decide) g_7, zu_ne rfl (by decide) g_10, zu_ne rfl (by decide) g_13, zu_ne rfl (by decide) g_17, zu_ne rfl (by decide) g_19, zu_ne rfl (by decide) g_22, zu_ne rfl (by decide) g_24, zu_ne rfl (by decide) g_26⟩)))))))))), trivial⟩, hS.F ht⟩) hS.2.2 dX11_has_148
end
section
theorem fl_X9_9 : Cond.fieldLink RX9 9 "CloneVolumes$Tape" "bytes" "[I" ∈ lw_gd := zm (List.mem_of_getElem? (i := 232) (by decide +kernel)) rfl
theorem fl_X11_12 : Cond.fieldLink RX11 12 "CloneVolumes" "tape" "LCloneVolumes$Tape;" ∈ lw_gd := zm (List.mem_of_getElem? (i := 700) (by decide +kernel)) rfl
theorem ml_X11_83 : Cond.methodLink RX11 83 yX9_hasRoom ∈ lw_gd := zm (List.mem_of_getElem? (i := 744) (by decide +kernel)) rfl
theorem im_X9_hasRoom : Cond.instanceMethod yX9_hasRoom ∈ lw_gd := zm (List.mem_of_getElem? (i := 745) (by decide +kernel)) rfl
theorem se_X9_hasRoom : Cond.selects RX9 yX9_hasRoom yX9_hasRoom ∈ lw_gd := zm (List.mem_of_getElem? (i := 746) (by decide +kernel)) rfl
theorem in_X9 : Cond.initialized RX9 ∈ lw_gd := zm (List.mem_of_getElem? (i := 199) (by decide +kernel)) rfl
theorem co_X9_hasRoom : Cond.code yX9_hasRoom cX9_hasRoom 1 (some .boolean) ∈ lw_gd := zm (List.mem_of_getElem? (i := 747) (by decide +kernel)) rfl
theorem ml_X11_91 : Cond.methodLink RX11 91 yX9_append ∈ lw_gd := zm (List.mem_of_getElem? (i := 752) (by decide +kernel)) rfl
theorem im_X9_append : Cond.instanceMethod yX9_append ∈ lw_gd := zm (List.mem_of_getElem? (i := 753) (by decide +kernel)) rfl
theorem se_X9_append : Cond.selects RX9 yX9_append yX9_append ∈ lw_gd := zm (List.mem_of_getElem? (i := 754) (by decide +kernel)) rfl
theorem co_X9_append : Cond.code yX9_append cX9_append 3 none ∈ lw_gd := zm (List.mem_of_getElem? (i := 755) (by decide +kernel)) rfl
theorem fl_X11_95 : Cond.fieldLink RX11 95 "CloneVolumes$Tape" "length" "I" ∈ lw_gd := zm (List.mem_of_getElem? (i := 237) (by decide +kernel)) rfl
theorem ml_X11_87 : Cond.methodLink RX11 87 yX11_refuse ∈ lw_gd := zm (List.mem_of_getElem? (i := 748) (by decide +kernel)) rfl
theorem im_X11_refuse : Cond.instanceMethod yX11_refuse ∈ lw_gd := zm (List.mem_of_getElem? (i := 750) (by decide +kernel)) rfl
theorem se_X11_refuse : Cond.selects RX11 yX11_refuse yX11_refuse ∈ lw_gd := zm (List.mem_of_getElem? (i := 0) (by decide +kernel)) rfl
theorem co_X11_refuse : Cond.code yX11_refuse cX11_refuse 2 (some .int) ∈ lw_gd := zm (List.mem_of_getElem? (i := 751) (by decide +kernel)) rfl
theorem fl_X11_316 : Cond.fieldLink RX11 316 "CloneVolumes$Forest" "seed" "I" ∈ lw_gd := zm (List.mem_of_getElem? (i := 675) (by decide +kernel)) rfl
theorem ml_X11_258 : Cond.methodLink RX11 258 yX7_take ∈ lw_gd := zm (List.mem_of_getElem? (i := 1286) (by decide +kernel)) rfl
theorem im_X7_take : Cond.instanceMethod yX7_take ∈ lw_gd := zm (List.mem_of_getElem? (i := 1287) (by decide +kernel)) rfl
theorem se_X7_take : Cond.selects RX7 yX7_take yX7_take ∈ lw_gd := zm (List.mem_of_getElem? (i := 1288) (by decide +kernel)) rfl
theorem in_X7 : Cond.initialized RX7 ∈ lw_gd := zm (List.mem_of_getElem? (i := 206) (by decide +kernel)) rfl
theorem co_X7_take : Cond.code yX7_take cX7_take 4 (some .boolean) ∈ lw_gd := zm (List.mem_of_getElem? (i := 1289) (by decide +kernel)) rfl
theorem ml_X11_308 : Cond.methodLink RX11 308 yX2_forget ∈ lw_gd := zm (List.mem_of_getElem? (i := 1411) (by decide +kernel)) rfl
theorem im_X2_forget : Cond.instanceMethod yX2_forget ∈ lw_gd := zm (List.mem_of_getElem? (i := 1412) (by decide +kernel)) rfl
theorem se_X2_forget : Cond.selects RX2 yX2_forget yX2_forget ∈ lw_gd := zm (List.mem_of_getElem? (i := 1413) (by decide +kernel)) rfl
theorem co_X2_forget : Cond.code yX2_forget cX2_forget 1 (some (.object "CloneVolumes$State")) ∈ lw_gd := zm (List.mem_of_getElem? (i := 1414) (by decide +kernel)) rfl
theorem ml_X11_286 : Cond.methodLink RX11 286 yX8_freeNumber ∈ lw_gd := zm (List.mem_of_getElem? (i := 1355) (by decide +kernel)) rfl
theorem im_X8_freeNumber : Cond.instanceMethod yX8_freeNumber ∈ lw_gd := zm (List.mem_of_getElem? (i := 1356) (by decide +kernel)) rfl
theorem se_X8_freeNumber : Cond.selects RX8 yX8_freeNumber yX8_freeNumber ∈ lw_gd := zm (List.mem_of_getElem? (i := 1357) (by decide +kernel)) rfl
theorem co_X8_freeNumber : Cond.code yX8_freeNumber cX8_freeNumber 2 (some .int) ∈ lw_gd := zm (List.mem_of_getElem? (i := 1358) (by decide +kernel)) rfl
theorem cl_X11_319 : Cond.constantLong RX11 319 (-1000000000000000) ∈ lw_gd := zm (List.mem_of_getElem? (i := 1424) (by decide +kernel)) rfl
theorem dX11_ask_0 : decode cX11_ask 0 = .ok (.aload_n 0, 1) := by decide +kernel
theorem dX11_ask_1 : decode cX11_ask 1 = .ok (.getfield 112, 3) := by decide +kernel
theorem dX11_ask_4 : decode cX11_ask 4 = .ok (.ifCond .ne 15, 3) := by decide +kernel
theorem dX11_ask_7 : decode cX11_ask 7 = .ok (.aload_n 0, 1) := by decide +kernel
theorem dX11_ask_8 : decode cX11_ask 8 = .ok (.getfield 12, 3) := by decide +kernel
theorem dX11_ask_11 : decode cX11_ask 11 = .ok (.iconst 0, 1) := by decide +kernel
theorem dX11_ask_12 : decode cX11_ask 12 = .ok (.putfield 95, 3) := by decide +kernel
theorem dX11_ask_15 : decode cX11_ask 15 = .ok (.ldc2_w 319, 3) := by decide +kernel
theorem dX11_ask_18 : decode cX11_ask 18 = .ok (.lreturn, 1) := by decide +kernel
theorem dX11_chance_0 : decode cX11_chance 0 = .ok (.aload_n 0, 1) := by decide +kernel
theorem dX11_chance_1 : decode cX11_chance 1 = .ok (.getfield 112, 3) := by decide +kernel
theorem dX11_chance_4 : decode cX11_chance 4 = .ok (.ifCond .eq 14, 3) := by decide +kernel
theorem dX11_chance_18 : decode cX11_chance 18 = .ok (.aload_n 0, 1) := by decide +kernel
theorem dX11_chance_19 : decode cX11_chance 19 = .ok (.iconst 3, 1) := by decide +kernel
theorem dX11_chance_20 : decode cX11_chance 20 = .ok (.invokevirtual 87, 3) := by decide +kernel
theorem dX11_chance_23 : decode cX11_chance 23 = .ok (.ireturn, 1) := by decide +kernel
theorem dX11_checkpoint_0 : decode cX11_checkpoint 0 = .ok (.aload_n 0, 1) := by decide +kernel
theorem dX11_checkpoint_1 : decode cX11_checkpoint 1 = .ok (.getfield 112, 3) := by decide +kernel
theorem dX11_checkpoint_4 : decode cX11_checkpoint 4 = .ok (.ifCond .ne 9, 3) := by decide +kernel
theorem dX11_checkpoint_7 : decode cX11_checkpoint 7 = .ok (.aload_n 0, 1) := by decide +kernel
theorem dX11_checkpoint_8 : decode cX11_checkpoint 8 = .ok (.iconst 3, 1) := by decide +kernel
theorem dX11_checkpoint_9 : decode cX11_checkpoint 9 = .ok (.invokevirtual 87, 3) := by decide +kernel
theorem dX11_checkpoint_12 : decode cX11_checkpoint 12 = .ok (.ireturn, 1) := by decide +kernel
theorem dX11_copy_0 : decode cX11_copy 0 = .ok (.aload_n 0, 1) := by decide +kernel
theorem dX11_copy_1 : decode cX11_copy 1 = .ok (.getfield 79, 3) := by decide +kernel
theorem dX11_copy_4 : decode cX11_copy 4 = .ok (.getfield 125, 3) := by decide +kernel
theorem dX11_copy_7 : decode cX11_copy 7 = .ok (.invokevirtual 286, 3) := by decide +kernel
theorem dX11_copy_10 : decode cX11_copy 10 = .ok (.istore_n 2, 1) := by decide +kernel
theorem dX11_copy_11 : decode cX11_copy 11 = .ok (.aload_n 0, 1) := by decide +kernel
theorem dX11_copy_12 : decode cX11_copy 12 = .ok (.getfield 79, 3) := by decide +kernel
theorem dX11_copy_15 : decode cX11_copy 15 = .ok (.getfield 125, 3) := by decide +kernel
theorem dX11_copy_18 : decode cX11_copy 18 = .ok (.iload_n 1, 1) := by decide +kernel
theorem dX11_copy_19 : decode cX11_copy 19 = .ok (.invokevirtual 161, 3) := by decide +kernel
theorem dX11_copy_22 : decode cX11_copy 22 = .ok (.ifCond .eq 8, 3) := by decide +kernel
theorem dX11_copy_30 : decode cX11_copy 30 = .ok (.aload_n 0, 1) := by decide +kernel
theorem dX11_copy_31 : decode cX11_copy 31 = .ok (.iconst 2, 1) := by decide +kernel
theorem dX11_copy_32 : decode cX11_copy 32 = .ok (.invokevirtual 87, 3) := by decide +kernel
theorem dX11_copy_35 : decode cX11_copy 35 = .ok (.ireturn, 1) := by decide +kernel
theorem dX11_crash_0 : decode cX11_crash 0 = .ok (.aload_n 0, 1) := by decide +kernel
theorem dX11_crash_1 : decode cX11_crash 1 = .ok (.getfield 112, 3) := by decide +kernel
theorem dX11_crash_4 : decode cX11_crash 4 = .ok (.ifCond .ne 9, 3) := by decide +kernel
theorem dX11_crash_7 : decode cX11_crash 7 = .ok (.aload_n 0, 1) := by decide +kernel
theorem dX11_crash_8 : decode cX11_crash 8 = .ok (.iconst 3, 1) := by decide +kernel
theorem dX11_crash_9 : decode cX11_crash 9 = .ok (.invokevirtual 87, 3) := by decide +kernel
theorem dX11_crash_12 : decode cX11_crash 12 = .ok (.ireturn, 1) := by decide +kernel
theorem dX11_drop_0 : decode cX11_drop 0 = .ok (.aload_n 0, 1) := by decide +kernel
theorem dX11_drop_1 : decode cX11_drop 1 = .ok (.getfield 79, 3) := by decide +kernel
theorem dX11_drop_4 : decode cX11_drop 4 = .ok (.getfield 125, 3) := by decide +kernel
theorem dX11_drop_7 : decode cX11_drop 7 = .ok (.iload_n 1, 1) := by decide +kernel
theorem dX11_drop_8 : decode cX11_drop 8 = .ok (.invokevirtual 161, 3) := by decide +kernel
theorem dX11_drop_11 : decode cX11_drop 11 = .ok (.ifCond .ne 9, 3) := by decide +kernel
theorem dX11_drop_14 : decode cX11_drop 14 = .ok (.aload_n 0, 1) := by decide +kernel
theorem dX11_drop_15 : decode cX11_drop 15 = .ok (.iconst 2, 1) := by decide +kernel
theorem dX11_drop_16 : decode cX11_drop 16 = .ok (.invokevirtual 87, 3) := by decide +kernel
theorem dX11_drop_19 : decode cX11_drop 19 = .ok (.ireturn, 1) := by decide +kernel
theorem dX11_end_0 : decode cX11_end 0 = .ok (.iload_n 1, 1) := by decide +kernel
theorem dX11_end_1 : decode cX11_end 1 = .ok (.ifCond .lt 14, 3) := by decide +kernel
theorem dX11_end_4 : decode cX11_end 4 = .ok (.iload_n 1, 1) := by decide +kernel
theorem dX11_end_5 : decode cX11_end 5 = .ok (.aload_n 0, 1) := by decide +kernel
theorem dX11_end_6 : decode cX11_end 6 = .ok (.getfield 12, 3) := by decide +kernel
theorem dX11_end_9 : decode cX11_end 9 = .ok (.getfield 95, 3) := by decide +kernel
theorem dX11_end_12 : decode cX11_end 12 = .ok (.if_icmp .le 11, 3) := by decide +kernel
theorem dX11_end_15 : decode cX11_end 15 = .ok (.aload_n 0, 1) := by decide +kernel
theorem dX11_end_16 : decode cX11_end 16 = .ok (.iconst 0, 1) := by decide +kernel
theorem dX11_end_17 : decode cX11_end 17 = .ok (.invokevirtual 87, 3) := by decide +kernel
theorem dX11_end_20 : decode cX11_end 20 = .ok (.pop, 1) := by decide +kernel
theorem dX11_end_21 : decode cX11_end 21 = .ok (.iconst 0, 1) := by decide +kernel
theorem dX11_end_22 : decode cX11_end 22 = .ok (.ireturn, 1) := by decide +kernel
theorem dX11_end_23 : decode cX11_end 23 = .ok (.aload_n 0, 1) := by decide +kernel
theorem dX11_end_24 : decode cX11_end 24 = .ok (.getfield 12, 3) := by decide +kernel
theorem dX11_end_27 : decode cX11_end 27 = .ok (.iload_n 1, 1) := by decide +kernel
theorem dX11_end_28 : decode cX11_end 28 = .ok (.putfield 95, 3) := by decide +kernel
theorem dX11_end_31 : decode cX11_end 31 = .ok (.iconst 1, 1) := by decide +kernel
theorem dX11_end_32 : decode cX11_end 32 = .ok (.ireturn, 1) := by decide +kernel
theorem dX11_feed_0 : decode cX11_feed 0 = .ok (.aload_n 0, 1) := by decide +kernel
theorem dX11_feed_1 : decode cX11_feed 1 = .ok (.getfield 12, 3) := by decide +kernel
theorem dX11_feed_4 : decode cX11_feed 4 = .ok (.invokevirtual 83, 3) := by decide +kernel
theorem dX11_feed_7 : decode cX11_feed 7 = .ok (.ifCond .ne 9, 3) := by decide +kernel
theorem dX11_feed_16 : decode cX11_feed 16 = .ok (.aload_n 0, 1) := by decide +kernel
theorem dX11_feed_17 : decode cX11_feed 17 = .ok (.getfield 12, 3) := by decide +kernel
theorem dX11_feed_20 : decode cX11_feed 20 = .ok (.iload_n 1, 1) := by decide +kernel
theorem dX11_feed_21 : decode cX11_feed 21 = .ok (.invokevirtual 91, 3) := by decide +kernel
theorem dX11_feed_24 : decode cX11_feed 24 = .ok (.aload_n 0, 1) := by decide +kernel
theorem dX11_feed_25 : decode cX11_feed 25 = .ok (.getfield 12, 3) := by decide +kernel
theorem dX11_feed_28 : decode cX11_feed 28 = .ok (.iload_n 2, 1) := by decide +kernel
theorem dX11_feed_29 : decode cX11_feed 29 = .ok (.invokevirtual 91, 3) := by decide +kernel
theorem dX11_feed_32 : decode cX11_feed 32 = .ok (.aload_n 0, 1) := by decide +kernel
theorem dX11_feed_33 : decode cX11_feed 33 = .ok (.getfield 12, 3) := by decide +kernel
theorem dX11_feed_36 : decode cX11_feed 36 = .ok (.iload_n 3, 1) := by decide +kernel
theorem dX11_feed_37 : decode cX11_feed 37 = .ok (.invokevirtual 91, 3) := by decide +kernel
theorem dX11_feed_40 : decode cX11_feed 40 = .ok (.aload_n 0, 1) := by decide +kernel
theorem dX11_feed_41 : decode cX11_feed 41 = .ok (.getfield 12, 3) := by decide +kernel
theorem dX11_feed_44 : decode cX11_feed 44 = .ok (.iload 4, 2) := by decide +kernel
theorem dX11_feed_46 : decode cX11_feed 46 = .ok (.invokevirtual 91, 3) := by decide +kernel
theorem dX11_feed_49 : decode cX11_feed 49 = .ok (.aload_n 0, 1) := by decide +kernel
theorem dX11_feed_50 : decode cX11_feed 50 = .ok (.getfield 12, 3) := by decide +kernel
theorem dX11_feed_53 : decode cX11_feed 53 = .ok (.iload 5, 2) := by decide +kernel
theorem dX11_feed_55 : decode cX11_feed 55 = .ok (.invokevirtual 91, 3) := by decide +kernel
theorem dX11_feed_58 : decode cX11_feed 58 = .ok (.aload_n 0, 1) := by decide +kernel
theorem dX11_feed_59 : decode cX11_feed 59 = .ok (.getfield 12, 3) := by decide +kernel
theorem dX11_feed_62 : decode cX11_feed 62 = .ok (.getfield 95, 3) := by decide +kernel
theorem dX11_feed_65 : decode cX11_feed 65 = .ok (.ireturn, 1) := by decide +kernel
theorem dX11_on_0 : decode cX11_on 0 = .ok (.aload_n 0, 1) := by decide +kernel
theorem dX11_on_1 : decode cX11_on 1 = .ok (.getfield 112, 3) := by decide +kernel
theorem dX11_on_4 : decode cX11_on 4 = .ok (.ifCond .eq 42, 3) := by decide +kernel
theorem dX11_on_46 : decode cX11_on 46 = .ok (.iconst 0, 1) := by decide +kernel
theorem dX11_on_47 : decode cX11_on 47 = .ok (.istore_n 1, 1) := by decide +kernel
theorem dX11_on_48 : decode cX11_on 48 = .ok (.aload_n 0, 1) := by decide +kernel
theorem dX11_on_49 : decode cX11_on 49 = .ok (.getfield 12, 3) := by decide +kernel
theorem dX11_on_52 : decode cX11_on 52 = .ok (.iconst 0, 1) := by decide +kernel
theorem dX11_on_53 : decode cX11_on 53 = .ok (.putfield 95, 3) := by decide +kernel
theorem dX11_on_56 : decode cX11_on 56 = .ok (.iload_n 1, 1) := by decide +kernel
theorem dX11_on_57 : decode cX11_on 57 = .ok (.ifCond .ne 11, 3) := by decide +kernel
theorem dX11_on_60 : decode cX11_on 60 = .ok (.aload_n 0, 1) := by decide +kernel
theorem dX11_on_61 : decode cX11_on 61 = .ok (.iconst 5, 1) := by decide +kernel
theorem dX11_on_62 : decode cX11_on 62 = .ok (.invokevirtual 87, 3) := by decide +kernel
theorem dX11_on_65 : decode cX11_on 65 = .ok (.pop, 1) := by decide +kernel
theorem dX11_on_66 : decode cX11_on 66 = .ok (.iconst 0, 1) := by decide +kernel
theorem dX11_on_67 : decode cX11_on 67 = .ok (.ireturn, 1) := by decide +kernel
theorem dX11_put_0 : decode cX11_put 0 = .ok (.aload_n 0, 1) := by decide +kernel
theorem dX11_put_1 : decode cX11_put 1 = .ok (.getfield 79, 3) := by decide +kernel
theorem dX11_put_4 : decode cX11_put 4 = .ok (.getfield 125, 3) := by decide +kernel
theorem dX11_put_7 : decode cX11_put 7 = .ok (.iload_n 1, 1) := by decide +kernel
theorem dX11_put_8 : decode cX11_put 8 = .ok (.invokevirtual 161, 3) := by decide +kernel
theorem dX11_put_11 : decode cX11_put 11 = .ok (.ifCond .eq 17, 3) := by decide +kernel
theorem dX11_put_28 : decode cX11_put 28 = .ok (.aload_n 0, 1) := by decide +kernel
theorem dX11_put_29 : decode cX11_put 29 = .ok (.iconst 2, 1) := by decide +kernel
theorem dX11_put_30 : decode cX11_put 30 = .ok (.invokevirtual 87, 3) := by decide +kernel
theorem dX11_put_33 : decode cX11_put 33 = .ok (.ireturn, 1) := by decide +kernel
theorem dX11_refuse_0 : decode cX11_refuse 0 = .ok (.aload_n 0, 1) := by decide +kernel
theorem dX11_refuse_1 : decode cX11_refuse 1 = .ok (.getfield 60, 3) := by decide +kernel
theorem dX11_refuse_4 : decode cX11_refuse 4 = .ok (.iload_n 1, 1) := by decide +kernel
theorem dX11_refuse_5 : decode cX11_refuse 5 = .ok (.dup2, 1) := by decide +kernel
theorem dX11_refuse_6 : decode cX11_refuse 6 = .ok (.iaload, 1) := by decide +kernel
theorem dX11_refuse_7 : decode cX11_refuse 7 = .ok (.iconst 1, 1) := by decide +kernel
theorem dX11_refuse_8 : decode cX11_refuse 8 = .ok (.iadd, 1) := by decide +kernel
theorem dX11_refuse_9 : decode cX11_refuse 9 = .ok (.iastore, 1) := by decide +kernel
theorem dX11_refuse_10 : decode cX11_refuse 10 = .ok (.iconst (-1), 1) := by decide +kernel
theorem dX11_refuse_11 : decode cX11_refuse 11 = .ok (.ireturn, 1) := by decide +kernel
theorem dX11_remove_0 : decode cX11_remove 0 = .ok (.aload_n 0, 1) := by decide +kernel
theorem dX11_remove_1 : decode cX11_remove 1 = .ok (.getfield 79, 3) := by decide +kernel
theorem dX11_remove_4 : decode cX11_remove 4 = .ok (.getfield 125, 3) := by decide +kernel
theorem dX11_remove_7 : decode cX11_remove 7 = .ok (.iload_n 1, 1) := by decide +kernel
theorem dX11_remove_8 : decode cX11_remove 8 = .ok (.invokevirtual 161, 3) := by decide +kernel
theorem dX11_remove_11 : decode cX11_remove 11 = .ok (.ifCond .ne 9, 3) := by decide +kernel
theorem dX11_remove_14 : decode cX11_remove 14 = .ok (.aload_n 0, 1) := by decide +kernel
theorem dX11_remove_15 : decode cX11_remove 15 = .ok (.iconst 2, 1) := by decide +kernel
theorem dX11_remove_16 : decode cX11_remove 16 = .ok (.invokevirtual 87, 3) := by decide +kernel
theorem dX11_remove_19 : decode cX11_remove 19 = .ok (.ireturn, 1) := by decide +kernel
theorem dX11_see_0 : decode cX11_see 0 = .ok (.aload_n 0, 1) := by decide +kernel
theorem dX11_see_1 : decode cX11_see 1 = .ok (.getfield 35, 3) := by decide +kernel
theorem dX11_see_4 : decode cX11_see 4 = .ok (.aload_n 0, 1) := by decide +kernel
theorem dX11_see_5 : decode cX11_see 5 = .ok (.getfield 12, 3) := by decide +kernel
theorem dX11_see_8 : decode cX11_see 8 = .ok (.invokevirtual 258, 3) := by decide +kernel
theorem dX11_see_11 : decode cX11_see 11 = .ok (.istore_n 1, 1) := by decide +kernel
theorem dX11_see_12 : decode cX11_see 12 = .ok (.aload_n 0, 1) := by decide +kernel
theorem dX11_see_13 : decode cX11_see 13 = .ok (.getfield 12, 3) := by decide +kernel
theorem dX11_see_16 : decode cX11_see 16 = .ok (.iconst 0, 1) := by decide +kernel
theorem dX11_see_17 : decode cX11_see 17 = .ok (.putfield 95, 3) := by decide +kernel
theorem dX11_see_20 : decode cX11_see 20 = .ok (.iload_n 1, 1) := by decide +kernel
theorem dX11_see_21 : decode cX11_see 21 = .ok (.ifCond .eq 13, 3) := by decide +kernel
theorem dX11_see_34 : decode cX11_see 34 = .ok (.aload_n 0, 1) := by decide +kernel
theorem dX11_see_35 : decode cX11_see 35 = .ok (.iconst 1, 1) := by decide +kernel
theorem dX11_see_36 : decode cX11_see 36 = .ok (.invokevirtual 87, 3) := by decide +kernel
theorem dX11_see_39 : decode cX11_see 39 = .ok (.ireturn, 1) := by decide +kernel
theorem dX11_seed_0 : decode cX11_seed 0 = .ok (.iload_n 1, 1) := by decide +kernel
theorem dX11_seed_1 : decode cX11_seed 1 = .ok (.ifCond .ge 11, 3) := by decide +kernel
theorem dX11_seed_4 : decode cX11_seed 4 = .ok (.aload_n 0, 1) := by decide +kernel
theorem dX11_seed_5 : decode cX11_seed 5 = .ok (.iconst 5, 1) := by decide +kernel
theorem dX11_seed_6 : decode cX11_seed 6 = .ok (.invokevirtual 87, 3) := by decide +kernel
theorem dX11_seed_9 : decode cX11_seed 9 = .ok (.pop, 1) := by decide +kernel
theorem dX11_seed_10 : decode cX11_seed 10 = .ok (.iconst 0, 1) := by decide +kernel
theorem dX11_seed_11 : decode cX11_seed 11 = .ok (.ireturn, 1) := by decide +kernel
theorem dX11_seed_12 : decode cX11_seed 12 = .ok (.aload_n 0, 1) := by decide +kernel
theorem dX11_seed_13 : decode cX11_seed 13 = .ok (.getfield 79, 3) := by decide +kernel
theorem dX11_seed_16 : decode cX11_seed 16 = .ok (.iload_n 1, 1) := by decide +kernel
theorem dX11_seed_17 : decode cX11_seed 17 = .ok (.putfield 316, 3) := by decide +kernel
theorem dX11_seed_20 : decode cX11_seed 20 = .ok (.iconst 1, 1) := by decide +kernel
theorem dX11_seed_21 : decode cX11_seed 21 = .ok (.ireturn, 1) := by decide +kernel
theorem dX11_undo_0 : decode cX11_undo 0 = .ok (.aload_n 0, 1) := by decide +kernel
theorem dX11_undo_1 : decode cX11_undo 1 = .ok (.getfield 28, 3) := by decide +kernel
theorem dX11_undo_4 : decode cX11_undo 4 = .ok (.invokevirtual 308, 3) := by decide +kernel
theorem dX11_undo_7 : decode cX11_undo 7 = .ok (.astore_n 1, 1) := by decide +kernel
theorem dX11_undo_8 : decode cX11_undo 8 = .ok (.aload_n 1, 1) := by decide +kernel
theorem dX11_undo_9 : decode cX11_undo 9 = .ok (.ifnonnull 11, 3) := by decide +kernel
theorem dX11_undo_12 : decode cX11_undo 12 = .ok (.aload_n 0, 1) := by decide +kernel
theorem dX11_undo_13 : decode cX11_undo 13 = .ok (.iconst 4, 1) := by decide +kernel
theorem dX11_undo_14 : decode cX11_undo 14 = .ok (.invokevirtual 87, 3) := by decide +kernel
theorem dX11_undo_17 : decode cX11_undo 17 = .ok (.pop, 1) := by decide +kernel
theorem dX11_undo_18 : decode cX11_undo 18 = .ok (.iconst 0, 1) := by decide +kernel
theorem dX11_undo_19 : decode cX11_undo 19 = .ok (.ireturn, 1) := by decide +kernel
theorem dX9_append_0 : decode cX9_append 0 = .ok (.bipush 24, 2) := by decide +kernel
theorem dX9_append_2 : decode cX9_append 2 = .ok (.istore_n 2, 1) := by decide +kernel
theorem dX9_append_3 : decode cX9_append 3 = .ok (.iload_n 2, 1) := by decide +kernel
theorem dX9_append_4 : decode cX9_append 4 = .ok (.ifCond .lt 45, 3) := by decide +kernel
theorem dX9_append_7 : decode cX9_append 7 = .ok (.aload_n 0, 1) := by decide +kernel
theorem dX9_append_8 : decode cX9_append 8 = .ok (.getfield 15, 3) := by decide +kernel
theorem dX9_append_11 : decode cX9_append 11 = .ok (.sipush 1600, 3) := by decide +kernel
theorem dX9_append_14 : decode cX9_append 14 = .ok (.if_icmp .ge 35, 3) := by decide +kernel
theorem dX9_append_17 : decode cX9_append 17 = .ok (.aload_n 0, 1) := by decide +kernel
theorem dX9_append_18 : decode cX9_append 18 = .ok (.getfield 9, 3) := by decide +kernel
theorem dX9_append_21 : decode cX9_append 21 = .ok (.aload_n 0, 1) := by decide +kernel
theorem dX9_append_22 : decode cX9_append 22 = .ok (.getfield 15, 3) := by decide +kernel
theorem dX9_append_25 : decode cX9_append 25 = .ok (.iload_n 1, 1) := by decide +kernel
theorem dX9_append_26 : decode cX9_append 26 = .ok (.iload_n 2, 1) := by decide +kernel
theorem dX9_append_27 : decode cX9_append 27 = .ok (.iushr, 1) := by decide +kernel
theorem dX9_append_28 : decode cX9_append 28 = .ok (.sipush 255, 3) := by decide +kernel
theorem dX9_append_31 : decode cX9_append 31 = .ok (.iand, 1) := by decide +kernel
theorem dX9_append_32 : decode cX9_append 32 = .ok (.iastore, 1) := by decide +kernel
theorem dX9_append_33 : decode cX9_append 33 = .ok (.aload_n 0, 1) := by decide +kernel
theorem dX9_append_34 : decode cX9_append 34 = .ok (.dup, 1) := by decide +kernel
theorem dX9_append_35 : decode cX9_append 35 = .ok (.getfield 15, 3) := by decide +kernel
theorem dX9_append_38 : decode cX9_append 38 = .ok (.iconst 1, 1) := by decide +kernel
theorem dX9_append_39 : decode cX9_append 39 = .ok (.iadd, 1) := by decide +kernel
theorem dX9_append_40 : decode cX9_append 40 = .ok (.putfield 15, 3) := by decide +kernel
theorem dX9_append_43 : decode cX9_append 43 = .ok (.iinc 2 (-8), 3) := by decide +kernel
theorem dX9_append_46 : decode cX9_append 46 = .ok (.goto (-43), 3) := by decide +kernel
theorem dX9_append_49 : decode cX9_append 49 = .ok (.return_, 1) := by decide +kernel
set_option maxHeartbeats 4000000 in
set_option maxRecDepth 100000 in
theorem k_X11_refuse (l : Launch) (D : va_G) (sz : Nat) (a : Nat → Nat) (p0 : Int32) (h_1 : 0 ≤ p0.toInt ∧ p0.toInt < 6) : Met l yX11_refuse (wz yX11_refuse cX11_refuse 2 (some .int)) { frames := 0, cells := 0, slots := 0, locals := 0 } (va_Pc [.ref (a 0), .int p0] (zW D sz [((a 0), .inr (11, [.ref (a 1), .ref (a 2), .ref (a 3), .ref (a 4), .ref (a 5), .ref (a 6), .ref (a 7), .ref (a 8), .ref (a 9), .ref (a 10), .ref (a 11), .ref (a 12), .int 0])), ((a 9), .inl (D.1 13, 6, .inl (fun _ => 0)))])) (va_Qi (fun r (_ : Unit) => r = (-1)) (fun u t => zB D (va_A [((a 0), .inr (11, [.ref (a 1), .ref (a 2), .ref (a 3), .ref (a 4), .ref (a 5), .ref (a 6), .ref (a 7), .ref (a 8), .ref (a 9), .ref (a 10), .ref (a 11), .ref (a 12), .int 0])), ((a 9), .inl (D.1 13, 6, .inl (fun _ => 0)))] sz) ((fun (_ : Unit) => []) u) t) (va_A [((a 0), .inr (11, [.ref (a 1), .ref (a 2), .ref (a 3), .ref (a 4), .ref (a 5), .ref (a 6), .ref (a 7), .ref (a 8), .ref (a 9), .ref (a 10), .ref (a 11), .ref (a 12), .int 0])), ((a 9), .inl (D.1 13, 6, .inl (fun _ => 0)))] sz)) 0 0 (va_A [((a 0), .inr (11, [.ref (a 1), .ref (a 2), .ref (a 3), .ref (a 4), .ref (a 5), .ref (a 6), .ref (a 7), .ref (a 8), .ref (a 9), .ref (a 10), .ref (a 11), .ref (a 12), .int 0])), ((a 9), .inl (D.1 13, 6, .inl (fun _ => 0)))] sz) := by
  refine Met.ofW (cc := cX11_refuse) (maxL := 2) (ret := (some .int)) (by decide) rfl ?_
  intro p e s m args below meth c s₁ B hml hv
  obtain ⟨rfl, hsz, hP, hK, hD0⟩ := hv
  have hx := B.exec
  have hb := B.bytes
  have hr := B.returns
  have hts := atoms_spec (ws := wz yX11_refuse cX11_refuse 2 (some .int)) B.pre
  have ht : ∀ w ∈ lw_gd, w.before _ s = true := fun w h => hts w (List.mem_cons_of_mem _ h)
  have hown : s.vm.findClass RX11 = some m.cls := findClass_of_methodNamed B.named
  have hlocks := B.notSynchronized
  subst hsz
  have hD := hD0.self (sz := s.heap.size)
  generalize hAe : va_A [((a 0), .inr (11, [.ref (a 1), .ref (a 2), .ref (a 3), .ref (a 4), .ref (a 5), .ref (a 6), .ref (a 7), .ref (a 8), .ref (a 9), .ref (a 10), .ref (a 11), .ref (a 12), .int 0])), ((a 9), .inl (D.1 13, 6, .inl (fun _ => 0)))] s.heap.size = A at hD ⊢
  have hA : ∀ q : Nat, s.heap.size ≤ q → A q := fun q h => by rw [← hAe]; exact Or.inr h
  have hS : va_S A s.heap s.heap [] := va_S.rf
  have hl := lv_entry ([.ref (a 0), .int p0]) (n := 2) (Nat.le_of_ble_eq_true rfl)
  rw [lg_entry_eq]
  generalize (lg_sl ([.ref (a 0), .int p0]) ++ List.replicate (2 - (lg_sl ([.ref (a 0), .int p0])).length) Slot.unset).toArray = ls at hl ⊢
  have hl : lv_has ls 2 [(0, .ref (a 0)), (1, .int p0)] := hl
  refine lv_aload_n hx hb dX11_refuse_0 rfl (lv_at hl 0 rfl) ?_
  refine va_get (D := D) (ci := 11) (v := .ref (a 9)) (C := RX11) (T := TX11) (N := 13) hx hb ht inX11 hown hK hP 0 rfl rfl 8 (by decide) (ht (.fieldLink RX11 60 "CloneVolumes" "refused" "[I") fl_X11_60) (fun _ h9 => h9) rfl dX11_refuse_1 ?_
  refine lv_iload_n hx hb dX11_refuse_4 rfl (lv_at hl 1 rfl) ?_
  refine lv_dup2_11 hx hb dX11_refuse_5 rfl rfl ?_
  refine va_iald hx hb hK hP 1 0 rfl rfl (z_in (by omega) (by omega)) dX11_refuse_6 ?_
  refine z_topi (y := 0) (by decide) ?_
  refine lv_iconst (v := 1) hx hb dX11_refuse_7 (by decide) ?_
  refine lv_iadd hx hb dX11_refuse_8 ?_
  refine z_topi (y := 1) (by decide) ?_
  refine va_iast hx hb hK hP hD hS 1 0 rfl rfl (z_in (by omega) (by omega)) dX11_refuse_9 (fun H locs hP hD hS => ?_)
  generalize hf_1 : upd _ _ _ = f_1 at hP hD
  have hP : va_P D vwCl [((a 0), .inr (11, [.ref (a 1), .ref (a 2), .ref (a 3), .ref (a 4), .ref (a 5), .ref (a 6), .ref (a 7), .ref (a 8), .ref (a 9), .ref (a 10), .ref (a 11), .ref (a 12), .int 0])), ((a 9), .inl (D.1 13, 6, .inl f_1))] H := hP
  have hD : va_D A [((a 0), .inr (11, [.ref (a 1), .ref (a 2), .ref (a 3), .ref (a 4), .ref (a 5), .ref (a 6), .ref (a 7), .ref (a 8), .ref (a 9), .ref (a 10), .ref (a 11), .ref (a 12), .int 0])), ((a 9), .inl (D.1 13, 6, .inl f_1))] := hD
  refine lv_iconst (v := (-1)) hx hb dX11_refuse_10 (by decide) ?_
  have hP9 := hP.sub (ws' := []) [] rfl
  have hD9 := hD.sub (ws' := []) [] (by decide) rfl
  refine W.widen (k := 0) (n := 0) (Nat.le_of_ble_eq_true rfl) (Nat.le_of_ble_eq_true rfl) ?_
  exact W.iret (v := (-1)) hx hb hr (fun t ht hW => ⟨⟨(-1), (), rfl, rfl, by rw [ht]; exact hP9, va_K.moved hW.alike hK, hD9⟩, hS.F ht⟩) hS.2.2 dX11_refuse_11
set_option maxHeartbeats 4000000 in
set_option maxRecDepth 100000 in
theorem k_X9_append (l : Launch) (D : va_G) (sz : Nat) (a : Nat → Nat) (k : Nat) (h_1 : k ≤ 16) (f : Nat → Int32) (p0 : Int32) : Met l yX9_append (wz yX9_append cX9_append 3 none) { frames := 0, cells := 0, slots := 0, locals := 0 } (va_Pc [.ref (a 1), .int p0] (zW D sz [((a 1), .inr (9, [.ref (a 20), .int (nI k)])), ((a 20), .inl (D.1 13, 1600, .inl f))])) (va_Qv (fun (_ : (Nat → Int32)) => True) (fun u t => zB D (va_A [((a 1), .inr (9, [.ref (a 20), .int (nI k)])), ((a 20), .inl (D.1 13, 1600, .inl f))] sz) ((fun (u : (Nat → Int32)) => [((a 1), .inr (9, [.ref (a 20), .int (nI (k + 1 + 1 + 1 + 1))])), ((a 20), .inl (D.1 13, 1600, .inl u))]) u) t) (va_A [((a 1), .inr (9, [.ref (a 20), .int (nI k)])), ((a 20), .inl (D.1 13, 1600, .inl f))] sz)) 0 0 (va_A [((a 1), .inr (9, [.ref (a 20), .int (nI k)])), ((a 20), .inl (D.1 13, 1600, .inl f))] sz) := by
  refine Met.ofW (cc := cX9_append) (maxL := 3) (ret := none) (by decide) rfl ?_
  intro p e s m args below meth c s₁ B hml hv
  obtain ⟨rfl, hsz, hP, hK, hD0⟩ := hv
  have hx := B.exec
  have hb := B.bytes
  have hr := B.returns
  have hts := atoms_spec (ws := wz yX9_append cX9_append 3 none) B.pre
  have ht : ∀ w ∈ lw_gd, w.before _ s = true := fun w h => hts w (List.mem_cons_of_mem _ h)
  have hown : s.vm.findClass RX9 = some m.cls := findClass_of_methodNamed B.named
  have hlocks := B.notSynchronized
  subst hsz
  have hD := hD0.self (sz := s.heap.size)
  generalize hAe : va_A [((a 1), .inr (9, [.ref (a 20), .int (nI k)])), ((a 20), .inl (D.1 13, 1600, .inl f))] s.heap.size = A at hD ⊢
  have hA : ∀ q : Nat, s.heap.size ≤ q → A q := fun q h => by rw [← hAe]; exact Or.inr h
  have hS : va_S A s.heap s.heap [] := va_S.rf
  have hl := lv_entry ([.ref (a 1), .int p0]) (n := 3) (Nat.le_of_ble_eq_true rfl)
  rw [lg_entry_eq]
  generalize (lg_sl ([.ref (a 1), .int p0]) ++ List.replicate (3 - (lg_sl ([.ref (a 1), .int p0])).length) Slot.unset).toArray = ls at hl ⊢
  have hl : lv_has ls 3 [(0, .ref (a 1)), (1, .int p0)] := hl
  refine lv_bipush (v := 24) hx hb dX9_append_0 (by decide) ?_
  refine lv_istore_n (lv' := [(2, .int 24), (0, .ref (a 1)), (1, .int p0)]) hx hb dX9_append_2 rfl hl (by decide) rfl (fun ls hl => ?_)
  refine lv_iload_n hx hb dX9_append_3 rfl (lv_at hl 0 rfl) ?_
  refine lv_if_lt (tgt := 49) hx hb dX9_append_4 (by decide) (fun c_1 => (z_abs c_1 (by decide)).elim) (fun _ => ?_)
  refine lv_aload_n hx hb dX9_append_7 rfl (lv_at hl 1 rfl) ?_
  refine va_get (D := D) (ci := 9) (v := .int (nI k)) (C := RX9) (T := TX9) (N := 2) hx hb ht inX9 hown hK hP 0 rfl rfl 1 (by decide) (ht (.fieldLink RX9 15 "CloneVolumes$Tape" "length" "I") fl_X9_15) (fun _ h9 => h9) rfl dX9_append_8 ?_
  refine lv_sipush (v := 1600) hx hb dX9_append_11 (by decide) ?_
  refine lv_icmp_ge (tgt := 49) hx hb dX9_append_14 (by decide) (fun c_3 => ?_) (fun c_3 => ?_)
  · exfalso
    have g_4 : 1600 ≤ ((k : Nat) : Int) := z_le (by decide) (nI_toInt (by omega)) c_3
    omega
  · have g_4 : ((k : Nat) : Int) < 1600 := z_nle (by decide) (nI_toInt (by omega)) c_3
    refine lv_aload_n hx hb dX9_append_17 rfl (lv_at hl 1 rfl) ?_
    refine va_get (D := D) (ci := 9) (v := .ref (a 20)) (C := RX9) (T := TX9) (N := 2) hx hb ht inX9 hown hK hP 0 rfl rfl 0 (by decide) (ht (.fieldLink RX9 9 "CloneVolumes$Tape" "bytes" "[I") fl_X9_9) (fun _ h9 => h9) rfl dX9_append_18 ?_
    refine lv_aload_n hx hb dX9_append_21 rfl (lv_at hl 1 rfl) ?_
    refine va_get (D := D) (ci := 9) (v := .int (nI k)) (C := RX9) (T := TX9) (N := 2) hx hb ht inX9 hown hK hP 0 rfl rfl 1 (by decide) (ht (.fieldLink RX9 15 "CloneVolumes$Tape" "length" "I") fl_X9_15) (fun _ h9 => h9) rfl dX9_append_22 ?_
    refine lv_iload_n hx hb dX9_append_25 rfl (lv_at hl 2 rfl) ?_
    refine lv_iload_n hx hb dX9_append_26 rfl (lv_at hl 0 rfl) ?_
    obtain ⟨x_5, ex_5⟩ : ∃ z : Int32, (p0.toUInt32 >>> ((24 : Int32).toUInt32 &&& Int32.toUInt32 31)).toInt32 = z := ⟨_, rfl⟩
    refine lv_iushr (v := x_5) hx hb dX9_append_27 ex_5 ?_
    refine lv_sipush (v := 255) hx hb dX9_append_28 (by decide) ?_
    refine lv_iand hx hb dX9_append_31 ?_
    refine lv_topi (fun x_6 ex_6 => ?_)
    refine va_iast hx hb hK hP hD hS 1 0 rfl rfl (vp_in_nI (by omega) (by omega)) dX9_append_32 (fun H locs hP hD hS => ?_)
    generalize hf_7 : upd _ _ _ = f_7 at hP hD
    have hP : va_P D vwCl [((a 1), .inr (9, [.ref (a 20), .int (nI k)])), ((a 20), .inl (D.1 13, 1600, .inl f_7))] H := hP
    have hD : va_D A [((a 1), .inr (9, [.ref (a 20), .int (nI k)])), ((a 20), .inl (D.1 13, 1600, .inl f_7))] := hD
    refine lv_aload_n hx hb dX9_append_33 rfl (lv_at hl 1 rfl) ?_
    refine lv_dup hx hb dX9_append_34 rfl ?_
    refine va_get (D := D) (ci := 9) (v := .int (nI k)) (C := RX9) (T := TX9) (N := 2) hx hb ht inX9 hown hK hP 0 rfl rfl 1 (by decide) (ht (.fieldLink RX9 15 "CloneVolumes$Tape" "length" "I") fl_X9_15) (fun _ h9 => h9) rfl dX9_append_35 ?_
    refine lv_iconst (v := 1) hx hb dX9_append_38 (by decide) ?_
    refine lv_iadd hx hb dX9_append_39 ?_
    refine z_topi (y := nI (k + 1)) (nI_add _ _) ?_
    refine va_put (D := D) (ci := 9) (v := .int (nI (k + 1))) (ty := .int) (C := RX9) (T := TX9) (N := 2) hx hb ht inX9 tyX9 tyX9_ok nmX9 hown hK hP hD hS 0 rfl rfl 1 (by decide) (ht (.fieldLink RX9 15 "CloneVolumes$Tape" "length" "I") fl_X9_15) (fun _ h9 => h9) rfl (by decide +kernel) rfl rfl (Nat.le_of_ble_eq_true rfl) dX9_append_40 (fun H locs hP hD hS => ?_)
    have hP : va_P D vwCl [((a 1), .inr (9, [.ref (a 20), .int (nI (k + 1))])), ((a 20), .inl (D.1 13, 1600, .inl f_7))] H := hP
    have hD : va_D A [((a 1), .inr (9, [.ref (a 20), .int (nI (k + 1))])), ((a 20), .inl (D.1 13, 1600, .inl f_7))] := hD
    refine lv_iinc (v := 16) (lv' := [(2, .int 16), (0, .ref (a 1)), (1, .int p0)]) hx hb dX9_append_43 hl (k := 0) rfl (by decide) (by decide) rfl (fun ls hl => ?_)
    refine lv_goto (tgt := 3) hx hb dX9_append_46 (by decide) ?_
    refine lv_iload_n hx hb dX9_append_3 rfl (lv_at hl 0 rfl) ?_
    refine lv_if_lt (tgt := 49) hx hb dX9_append_4 (by decide) (fun c_8 => (z_abs c_8 (by decide)).elim) (fun _ => ?_)
    refine lv_aload_n hx hb dX9_append_7 rfl (lv_at hl 1 rfl) ?_
    refine va_get (D := D) (ci := 9) (v := .int (nI (k + 1))) (C := RX9) (T := TX9) (N := 2) hx hb ht inX9 hown hK hP 0 rfl rfl 1 (by decide) (ht (.fieldLink RX9 15 "CloneVolumes$Tape" "length" "I") fl_X9_15) (fun _ h9 => h9) rfl dX9_append_8 ?_
    refine lv_sipush (v := 1600) hx hb dX9_append_11 (by decide) ?_
    refine lv_icmp_ge (tgt := 49) hx hb dX9_append_14 (by decide) (fun c_10 => ?_) (fun c_10 => ?_)
    · exfalso
      have g_11 : 1600 ≤ ((k + 1 : Nat) : Int) := z_le (by decide) (nI_toInt (by omega)) c_10
      omega
    · have g_11 : ((k + 1 : Nat) : Int) < 1600 := z_nle (by decide) (nI_toInt (by omega)) c_10
      refine lv_aload_n hx hb dX9_append_17 rfl (lv_at hl 1 rfl) ?_
      refine va_get (D := D) (ci := 9) (v := .ref (a 20)) (C := RX9) (T := TX9) (N := 2) hx hb ht inX9 hown hK hP 0 rfl rfl 0 (by decide) (ht (.fieldLink RX9 9 "CloneVolumes$Tape" "bytes" "[I") fl_X9_9) (fun _ h9 => h9) rfl dX9_append_18 ?_
      refine lv_aload_n hx hb dX9_append_21 rfl (lv_at hl 1 rfl) ?_
      refine va_get (D := D) (ci := 9) (v := .int (nI (k + 1))) (C := RX9) (T := TX9) (N := 2) hx hb ht inX9 hown hK hP 0 rfl rfl 1 (by decide) (ht (.fieldLink RX9 15 "CloneVolumes$Tape" "length" "I") fl_X9_15) (fun _ h9 => h9) rfl dX9_append_22 ?_
      refine lv_iload_n hx hb dX9_append_25 rfl (lv_at hl 2 rfl) ?_
      refine lv_iload_n hx hb dX9_append_26 rfl (lv_at hl 0 rfl) ?_
      obtain ⟨x_12, ex_12⟩ : ∃ z : Int32, (p0.toUInt32 >>> ((16 : Int32).toUInt32 &&& Int32.toUInt32 31)).toInt32 = z := ⟨_, rfl⟩
      refine lv_iushr (v := x_12) hx hb dX9_append_27 ex_12 ?_
      refine lv_sipush (v := 255) hx hb dX9_append_28 (by decide) ?_
      refine lv_iand hx hb dX9_append_31 ?_
      refine lv_topi (fun x_13 ex_13 => ?_)
      refine va_iast hx hb hK hP hD hS 1 0 rfl rfl (vp_in_nI (by omega) (by omega)) dX9_append_32 (fun H locs hP hD hS => ?_)
      generalize hf_14 : upd _ _ _ = f_14 at hP hD
      have hP : va_P D vwCl [((a 1), .inr (9, [.ref (a 20), .int (nI (k + 1))])), ((a 20), .inl (D.1 13, 1600, .inl f_14))] H := hP
      have hD : va_D A [((a 1), .inr (9, [.ref (a 20), .int (nI (k + 1))])), ((a 20), .inl (D.1 13, 1600, .inl f_14))] := hD
      refine lv_aload_n hx hb dX9_append_33 rfl (lv_at hl 1 rfl) ?_
      refine lv_dup hx hb dX9_append_34 rfl ?_
      refine va_get (D := D) (ci := 9) (v := .int (nI (k + 1))) (C := RX9) (T := TX9) (N := 2) hx hb ht inX9 hown hK hP 0 rfl rfl 1 (by decide) (ht (.fieldLink RX9 15 "CloneVolumes$Tape" "length" "I") fl_X9_15) (fun _ h9 => h9) rfl dX9_append_35 ?_
      refine lv_iconst (v := 1) hx hb dX9_append_38 (by decide) ?_
      refine lv_iadd hx hb dX9_append_39 ?_
      refine z_topi (y := nI (k + 1 + 1)) (nI_add _ _) ?_
      refine va_put (D := D) (ci := 9) (v := .int (nI (k + 1 + 1))) (ty := .int) (C := RX9) (T := TX9) (N := 2) hx hb ht inX9 tyX9 tyX9_ok nmX9 hown hK hP hD hS 0 rfl rfl 1 (by decide) (ht (.fieldLink RX9 15 "CloneVolumes$Tape" "length" "I") fl_X9_15) (fun _ h9 => h9) rfl (by decide +kernel) rfl rfl (Nat.le_of_ble_eq_true rfl) dX9_append_40 (fun H locs hP hD hS => ?_)
      have hP : va_P D vwCl [((a 1), .inr (9, [.ref (a 20), .int (nI (k + 1 + 1))])), ((a 20), .inl (D.1 13, 1600, .inl f_14))] H := hP
      have hD : va_D A [((a 1), .inr (9, [.ref (a 20), .int (nI (k + 1 + 1))])), ((a 20), .inl (D.1 13, 1600, .inl f_14))] := hD
      refine lv_iinc (v := 8) (lv' := [(2, .int 8), (0, .ref (a 1)), (1, .int p0)]) hx hb dX9_append_43 hl (k := 0) rfl (by decide) (by decide) rfl (fun ls hl => ?_)
      refine lv_goto (tgt := 3) hx hb dX9_append_46 (by decide) ?_
      refine lv_iload_n hx hb dX9_append_3 rfl (lv_at hl 0 rfl) ?_
      refine lv_if_lt (tgt := 49) hx hb dX9_append_4 (by decide) (fun c_15 => (z_abs c_15 (by decide)).elim) (fun _ => ?_)
      refine lv_aload_n hx hb dX9_append_7 rfl (lv_at hl 1 rfl) ?_
      refine va_get (D := D) (ci := 9) (v := .int (nI (k + 1 + 1))) (C := RX9) (T := TX9) (N := 2) hx hb ht inX9 hown hK hP 0 rfl rfl 1 (by decide) (ht (.fieldLink RX9 15 "CloneVolumes$Tape" "length" "I") fl_X9_15) (fun _ h9 => h9) rfl dX9_append_8 ?_
      refine lv_sipush (v := 1600) hx hb dX9_append_11 (by decide) ?_
      refine lv_icmp_ge (tgt := 49) hx hb dX9_append_14 (by decide) (fun c_17 => ?_) (fun c_17 => ?_)
      · exfalso
        have g_18 : 1600 ≤ ((k + 1 + 1 : Nat) : Int) := z_le (by decide) (nI_toInt (by omega)) c_17
        omega
      · have g_18 : ((k + 1 + 1 : Nat) : Int) < 1600 := z_nle (by decide) (nI_toInt (by omega)) c_17
        refine lv_aload_n hx hb dX9_append_17 rfl (lv_at hl 1 rfl) ?_
        refine va_get (D := D) (ci := 9) (v := .ref (a 20)) (C := RX9) (T := TX9) (N := 2) hx hb ht inX9 hown hK hP 0 rfl rfl 0 (by decide) (ht (.fieldLink RX9 9 "CloneVolumes$Tape" "bytes" "[I") fl_X9_9) (fun _ h9 => h9) rfl dX9_append_18 ?_
        refine lv_aload_n hx hb dX9_append_21 rfl (lv_at hl 1 rfl) ?_
        refine va_get (D := D) (ci := 9) (v := .int (nI (k + 1 + 1))) (C := RX9) (T := TX9) (N := 2) hx hb ht inX9 hown hK hP 0 rfl rfl 1 (by decide) (ht (.fieldLink RX9 15 "CloneVolumes$Tape" "length" "I") fl_X9_15) (fun _ h9 => h9) rfl dX9_append_22 ?_
        refine lv_iload_n hx hb dX9_append_25 rfl (lv_at hl 2 rfl) ?_
        refine lv_iload_n hx hb dX9_append_26 rfl (lv_at hl 0 rfl) ?_
        obtain ⟨x_19, ex_19⟩ : ∃ z : Int32, (p0.toUInt32 >>> ((8 : Int32).toUInt32 &&& Int32.toUInt32 31)).toInt32 = z := ⟨_, rfl⟩
        refine lv_iushr (v := x_19) hx hb dX9_append_27 ex_19 ?_
        refine lv_sipush (v := 255) hx hb dX9_append_28 (by decide) ?_
        refine lv_iand hx hb dX9_append_31 ?_
        refine lv_topi (fun x_20 ex_20 => ?_)
        refine va_iast hx hb hK hP hD hS 1 0 rfl rfl (vp_in_nI (by omega) (by omega)) dX9_append_32 (fun H locs hP hD hS => ?_)
        generalize hf_21 : upd _ _ _ = f_21 at hP hD
        have hP : va_P D vwCl [((a 1), .inr (9, [.ref (a 20), .int (nI (k + 1 + 1))])), ((a 20), .inl (D.1 13, 1600, .inl f_21))] H := hP
        have hD : va_D A [((a 1), .inr (9, [.ref (a 20), .int (nI (k + 1 + 1))])), ((a 20), .inl (D.1 13, 1600, .inl f_21))] := hD
        refine lv_aload_n hx hb dX9_append_33 rfl (lv_at hl 1 rfl) ?_
        refine lv_dup hx hb dX9_append_34 rfl ?_
        refine va_get (D := D) (ci := 9) (v := .int (nI (k + 1 + 1))) (C := RX9) (T := TX9) (N := 2) hx hb ht inX9 hown hK hP 0 rfl rfl 1 (by decide) (ht (.fieldLink RX9 15 "CloneVolumes$Tape" "length" "I") fl_X9_15) (fun _ h9 => h9) rfl dX9_append_35 ?_
        refine lv_iconst (v := 1) hx hb dX9_append_38 (by decide) ?_
        refine lv_iadd hx hb dX9_append_39 ?_
        refine z_topi (y := nI (k + 1 + 1 + 1)) (nI_add _ _) ?_
        refine va_put (D := D) (ci := 9) (v := .int (nI (k + 1 + 1 + 1))) (ty := .int) (C := RX9) (T := TX9) (N := 2) hx hb ht inX9 tyX9 tyX9_ok nmX9 hown hK hP hD hS 0 rfl rfl 1 (by decide) (ht (.fieldLink RX9 15 "CloneVolumes$Tape" "length" "I") fl_X9_15) (fun _ h9 => h9) rfl (by decide +kernel) rfl rfl (Nat.le_of_ble_eq_true rfl) dX9_append_40 (fun H locs hP hD hS => ?_)
        have hP : va_P D vwCl [((a 1), .inr (9, [.ref (a 20), .int (nI (k + 1 + 1 + 1))])), ((a 20), .inl (D.1 13, 1600, .inl f_21))] H := hP
        have hD : va_D A [((a 1), .inr (9, [.ref (a 20), .int (nI (k + 1 + 1 + 1))])), ((a 20), .inl (D.1 13, 1600, .inl f_21))] := hD
        refine lv_iinc (v := 0) (lv' := [(2, .int 0), (0, .ref (a 1)), (1, .int p0)]) hx hb dX9_append_43 hl (k := 0) rfl (by decide) (by decide) rfl (fun ls hl => ?_)
        refine lv_goto (tgt := 3) hx hb dX9_append_46 (by decide) ?_
        refine lv_iload_n hx hb dX9_append_3 rfl (lv_at hl 0 rfl) ?_
        refine lv_if_lt (tgt := 49) hx hb dX9_append_4 (by decide) (fun c_22 => (z_abs c_22 (by decide)).elim) (fun _ => ?_)
        refine lv_aload_n hx hb dX9_append_7 rfl (lv_at hl 1 rfl) ?_
        refine va_get (D := D) (ci := 9) (v := .int (nI (k + 1 + 1 + 1))) (C := RX9) (T := TX9) (N := 2) hx hb ht inX9 hown hK hP 0 rfl rfl 1 (by decide) (ht (.fieldLink RX9 15 "CloneVolumes$Tape" "length" "I") fl_X9_15) (fun _ h9 => h9) rfl dX9_append_8 ?_
        refine lv_sipush (v := 1600) hx hb dX9_append_11 (by decide) ?_
        refine lv_icmp_ge (tgt := 49) hx hb dX9_append_14 (by decide) (fun c_24 => ?_) (fun c_24 => ?_)
        · exfalso
          have g_25 : 1600 ≤ ((k + 1 + 1 + 1 : Nat) : Int) := z_le (by decide) (nI_toInt (by omega)) c_24
          omega
        · have g_25 : ((k + 1 + 1 + 1 : Nat) : Int) < 1600 := z_nle (by decide) (nI_toInt (by omega)) c_24
          refine lv_aload_n hx hb dX9_append_17 rfl (lv_at hl 1 rfl) ?_
          refine va_get (D := D) (ci := 9) (v := .ref (a 20)) (C := RX9) (T := TX9) (N := 2) hx hb ht inX9 hown hK hP 0 rfl rfl 0 (by decide) (ht (.fieldLink RX9 9 "CloneVolumes$Tape" "bytes" "[I") fl_X9_9) (fun _ h9 => h9) rfl dX9_append_18 ?_
          refine lv_aload_n hx hb dX9_append_21 rfl (lv_at hl 1 rfl) ?_
          refine va_get (D := D) (ci := 9) (v := .int (nI (k + 1 + 1 + 1))) (C := RX9) (T := TX9) (N := 2) hx hb ht inX9 hown hK hP 0 rfl rfl 1 (by decide) (ht (.fieldLink RX9 15 "CloneVolumes$Tape" "length" "I") fl_X9_15) (fun _ h9 => h9) rfl dX9_append_22 ?_
          refine lv_iload_n hx hb dX9_append_25 rfl (lv_at hl 2 rfl) ?_
          refine lv_iload_n hx hb dX9_append_26 rfl (lv_at hl 0 rfl) ?_
          obtain ⟨x_26, ex_26⟩ : ∃ z : Int32, (p0.toUInt32 >>> ((0 : Int32).toUInt32 &&& Int32.toUInt32 31)).toInt32 = z := ⟨_, rfl⟩
          refine lv_iushr (v := x_26) hx hb dX9_append_27 ex_26 ?_
          refine lv_sipush (v := 255) hx hb dX9_append_28 (by decide) ?_
          refine lv_iand hx hb dX9_append_31 ?_
          refine lv_topi (fun x_27 ex_27 => ?_)
          refine va_iast hx hb hK hP hD hS 1 0 rfl rfl (vp_in_nI (by omega) (by omega)) dX9_append_32 (fun H locs hP hD hS => ?_)
          generalize hf_28 : upd _ _ _ = f_28 at hP hD
          have hP : va_P D vwCl [((a 1), .inr (9, [.ref (a 20), .int (nI (k + 1 + 1 + 1))])), ((a 20), .inl (D.1 13, 1600, .inl f_28))] H := hP
          have hD : va_D A [((a 1), .inr (9, [.ref (a 20), .int (nI (k + 1 + 1 + 1))])), ((a 20), .inl (D.1 13, 1600, .inl f_28))] := hD
          refine lv_aload_n hx hb dX9_append_33 rfl (lv_at hl 1 rfl) ?_
          refine lv_dup hx hb dX9_append_34 rfl ?_
          refine va_get (D := D) (ci := 9) (v := .int (nI (k + 1 + 1 + 1))) (C := RX9) (T := TX9) (N := 2) hx hb ht inX9 hown hK hP 0 rfl rfl 1 (by decide) (ht (.fieldLink RX9 15 "CloneVolumes$Tape" "length" "I") fl_X9_15) (fun _ h9 => h9) rfl dX9_append_35 ?_
          refine lv_iconst (v := 1) hx hb dX9_append_38 (by decide) ?_
          refine lv_iadd hx hb dX9_append_39 ?_
          refine z_topi (y := nI (k + 1 + 1 + 1 + 1)) (nI_add _ _) ?_
          refine va_put (D := D) (ci := 9) (v := .int (nI (k + 1 + 1 + 1 + 1))) (ty := .int) (C := RX9) (T := TX9) (N := 2) hx hb ht inX9 tyX9 tyX9_ok nmX9 hown hK hP hD hS 0 rfl rfl 1 (by decide) (ht (.fieldLink RX9 15 "CloneVolumes$Tape" "length" "I") fl_X9_15) (fun _ h9 => h9) rfl (by decide +kernel) rfl rfl (Nat.le_of_ble_eq_true rfl) dX9_append_40 (fun H locs hP hD hS => ?_)
          have hP : va_P D vwCl [((a 1), .inr (9, [.ref (a 20), .int (nI (k + 1 + 1 + 1 + 1))])), ((a 20), .inl (D.1 13, 1600, .inl f_28))] H := hP
          have hD : va_D A [((a 1), .inr (9, [.ref (a 20), .int (nI (k + 1 + 1 + 1 + 1))])), ((a 20), .inl (D.1 13, 1600, .inl f_28))] := hD
          refine lv_iinc (v := (-8)) (lv' := [(2, .int (-8)), (0, .ref (a 1)), (1, .int p0)]) hx hb dX9_append_43 hl (k := 0) rfl (by decide) (by decide) rfl (fun ls hl => ?_)
          refine lv_goto (tgt := 3) hx hb dX9_append_46 (by decide) ?_
          refine lv_iload_n hx hb dX9_append_3 rfl (lv_at hl 0 rfl) ?_
          refine lv_if_lt (tgt := 49) hx hb dX9_append_4 (by decide) (fun _ => ?_) (fun c_29 => (z_abs c_29 (by decide)).elim)
          have hP9 := hP.sub (ws' := [((a 1), .inr (9, [.ref (a 20), .int (nI (k + 1 + 1 + 1 + 1))])), ((a 20), .inl (D.1 13, 1600, .inl f_28))]) [0, 1] rfl
          have hD9 := hD.sub (ws' := [((a 1), .inr (9, [.ref (a 20), .int (nI (k + 1 + 1 + 1 + 1))])), ((a 20), .inl (D.1 13, 1600, .inl f_28))]) [0, 1] (by decide) rfl
          refine W.widen (k := 0) (n := 0) (Nat.le_of_ble_eq_true rfl) (Nat.le_of_ble_eq_true rfl) ?_
          exact W.vret hx hb hr (fun t ht hW => ⟨⟨f_28, rfl, trivial, by rw [ht]; exact hP9, va_K.moved hW.alike hK, hD9⟩, hS.F ht⟩) hS.2.2 dX9_append_49
set_option maxHeartbeats 4000000 in
set_option maxRecDepth 100000 in
theorem k_X11_feed (l : Launch) (D : va_G) (sz : Nat) (a : Nat → Nat) (p0 : Int32) (p1 : Int32) (p2 : Int32) (p3 : Int32) (p4 : Int32) : Met l yX11_feed (wz yX11_feed cX11_feed 6 (some .int)) { frames := 1, cells := 0, slots := 0, locals := 60 } (va_Pc [.ref (a 0), .int p0, .int p1, .int p2, .int p3, .int p4] (zW D sz [((a 0), .inr (11, [.ref (a 1), .ref (a 2), .ref (a 3), .ref (a 4), .ref (a 5), .ref (a 6), .ref (a 7), .ref (a 8), .ref (a 9), .ref (a 10), .ref (a 11), .ref (a 12), .int 0])), ((a 1), .inr (9, [.ref (a 20), .int 0])), ((a 20), .inl (D.1 13, 1600, .inl (fun _ => 0)))])) (va_Qi (fun r (_ : Unit) => r = 20) (fun u t => zB D (va_A [((a 0), .inr (11, [.ref (a 1), .ref (a 2), .ref (a 3), .ref (a 4), .ref (a 5), .ref (a 6), .ref (a 7), .ref (a 8), .ref (a 9), .ref (a 10), .ref (a 11), .ref (a 12), .int 0])), ((a 1), .inr (9, [.ref (a 20), .int 0])), ((a 20), .inl (D.1 13, 1600, .inl (fun _ => 0)))] sz) ((fun (_ : Unit) => []) u) t) (va_A [((a 0), .inr (11, [.ref (a 1), .ref (a 2), .ref (a 3), .ref (a 4), .ref (a 5), .ref (a 6), .ref (a 7), .ref (a 8), .ref (a 9), .ref (a 10), .ref (a 11), .ref (a 12), .int 0])), ((a 1), .inr (9, [.ref (a 20), .int 0])), ((a 20), .inl (D.1 13, 1600, .inl (fun _ => 0)))] sz)) 0 0 (va_A [((a 0), .inr (11, [.ref (a 1), .ref (a 2), .ref (a 3), .ref (a 4), .ref (a 5), .ref (a 6), .ref (a 7), .ref (a 8), .ref (a 9), .ref (a 10), .ref (a 11), .ref (a 12), .int 0])), ((a 1), .inr (9, [.ref (a 20), .int 0])), ((a 20), .inl (D.1 13, 1600, .inl (fun _ => 0)))] sz) := by
  refine Met.ofW (cc := cX11_feed) (maxL := 6) (ret := (some .int)) (by decide) rfl ?_
  intro p e s m args below meth c s₁ B hml hv
  obtain ⟨rfl, hsz, hP, hK, hD0⟩ := hv
  have hx := B.exec
  have hb := B.bytes
  have hr := B.returns
  have hts := atoms_spec (ws := wz yX11_feed cX11_feed 6 (some .int)) B.pre
  have ht : ∀ w ∈ lw_gd, w.before _ s = true := fun w h => hts w (List.mem_cons_of_mem _ h)
  have hown : s.vm.findClass RX11 = some m.cls := findClass_of_methodNamed B.named
  have hlocks := B.notSynchronized
  subst hsz
  have hD := hD0.self (sz := s.heap.size)
  generalize hAe : va_A [((a 0), .inr (11, [.ref (a 1), .ref (a 2), .ref (a 3), .ref (a 4), .ref (a 5), .ref (a 6), .ref (a 7), .ref (a 8), .ref (a 9), .ref (a 10), .ref (a 11), .ref (a 12), .int 0])), ((a 1), .inr (9, [.ref (a 20), .int 0])), ((a 20), .inl (D.1 13, 1600, .inl (fun _ => 0)))] s.heap.size = A at hD ⊢
  have hA : ∀ q : Nat, s.heap.size ≤ q → A q := fun q h => by rw [← hAe]; exact Or.inr h
  have hS : va_S A s.heap s.heap [] := va_S.rf
  have hl := lv_entry ([.ref (a 0), .int p0, .int p1, .int p2, .int p3, .int p4]) (n := 6) (Nat.le_of_ble_eq_true rfl)
  rw [lg_entry_eq]
  generalize (lg_sl ([.ref (a 0), .int p0, .int p1, .int p2, .int p3, .int p4]) ++ List.replicate (6 - (lg_sl ([.ref (a 0), .int p0, .int p1, .int p2, .int p3, .int p4])).length) Slot.unset).toArray = ls at hl ⊢
  have hl : lv_has ls 6 [(0, .ref (a 0)), (1, .int p0), (2, .int p1), (3, .int p2), (4, .int p3), (5, .int p4)] := hl
  refine lv_aload_n hx hb dX11_feed_0 rfl (lv_at hl 0 rfl) ?_
  refine va_get (D := D) (ci := 11) (v := .ref (a 1)) (C := RX11) (T := TX11) (N := 13) hx hb ht inX11 hown hK hP 0 rfl rfl 0 (by decide) (ht (.fieldLink RX11 12 "CloneVolumes" "tape" "LCloneVolumes$Tape;") fl_X11_12) (fun _ h9 => h9) rfl dX11_feed_1 ?_
  refine zcV (As := []) (rest := []) (C := RX9) (n := 0) ⟨hx, hb, hml, hown, ht⟩ (k_X9_hasRoom l D a) (zgV ml_X11_83 im_X9_hasRoom se_X9_hasRoom in_X9 co_X9_hasRoom) rfl rfl (by decide +kernel) ⟨Nat.le_of_ble_eq_true rfl, Nat.le_of_ble_eq_true rfl⟩ hK hP hS [1] rfl 0 rfl rfl rfl rfl hl.1 rfl (Nat.le_of_ble_eq_true rfl) dX11_feed_4 ⟨Nat.le_of_ble_eq_true rfl, Nat.le_of_ble_eq_true rfl⟩ (fun r_1 H locs hw hP hS => ?_)
  subst hw
  refine lv_if_ne (tgt := 16) hx hb dX11_feed_7 (by decide) (fun _ => ?_) (fun c_2 => (z_abs c_2 (by decide)).elim)
  refine lv_aload_n hx hb dX11_feed_16 rfl (lv_at hl 0 rfl) ?_
  refine va_get (D := D) (ci := 11) (v := .ref (a 1)) (C := RX11) (T := TX11) (N := 13) hx hb ht inX11 hown hK hP 0 rfl rfl 0 (by decide) (ht (.fieldLink RX11 12 "CloneVolumes" "tape" "LCloneVolumes$Tape;") fl_X11_12) (fun _ h9 => h9) rfl dX11_feed_17 ?_
  refine lv_iload_n hx hb dX11_feed_20 rfl (lv_at hl 1 rfl) ?_
  refine zwVv (As := [.int p0]) (rest := []) (C := RX9) (n := 1) (wr := [((a 0), .inr (11, [.ref (a 1), .ref (a 2), .ref (a 3), .ref (a 4), .ref (a 5), .ref (a 6), .ref (a 7), .ref (a 8), .ref (a 9), .ref (a 10), .ref (a 11), .ref (a 12), .int 0]))]) ⟨hx, hb, hml, hown, ht⟩ (k_X9_append l D _ a 0 (by first | decide | omega) (fun _ => 0) p0) (zgV ml_X11_91 im_X9_append se_X9_append in_X9 co_X9_append) rfl rfl (by decide +kernel) ⟨Nat.le_of_ble_eq_true rfl, Nat.le_of_ble_eq_true rfl⟩ hK hP hD hS hA [1, 2] [0] rfl rfl rfl rfl (by decide) 0 rfl rfl rfl rfl hl.1 rfl (Nat.le_of_ble_eq_true rfl) dX11_feed_21 ⟨Nat.le_of_ble_eq_true rfl, Nat.le_of_ble_eq_true rfl⟩ (fun u_4 H locs hw hP hD hS => ?_)
  have hP : va_P D vwCl [((a 0), .inr (11, [.ref (a 1), .ref (a 2), .ref (a 3), .ref (a 4), .ref (a 5), .ref (a 6), .ref (a 7), .ref (a 8), .ref (a 9), .ref (a 10), .ref (a 11), .ref (a 12), .int 0])), ((a 1), .inr (9, [.ref (a 20), .int 4])), ((a 20), .inl (D.1 13, 1600, .inl u_4))] H := hP
  have hD : va_D A [((a 0), .inr (11, [.ref (a 1), .ref (a 2), .ref (a 3), .ref (a 4), .ref (a 5), .ref (a 6), .ref (a 7), .ref (a 8), .ref (a 9), .ref (a 10), .ref (a 11), .ref (a 12), .int 0])), ((a 1), .inr (9, [.ref (a 20), .int 4])), ((a 20), .inl (D.1 13, 1600, .inl u_4))] := hD
  refine lv_aload_n hx hb dX11_feed_24 rfl (lv_at hl 0 rfl) ?_
  refine va_get (D := D) (ci := 11) (v := .ref (a 1)) (C := RX11) (T := TX11) (N := 13) hx hb ht inX11 hown hK hP 0 rfl rfl 0 (by decide) (ht (.fieldLink RX11 12 "CloneVolumes" "tape" "LCloneVolumes$Tape;") fl_X11_12) (fun _ h9 => h9) rfl dX11_feed_25 ?_
  refine lv_iload_n hx hb dX11_feed_28 rfl (lv_at hl 2 rfl) ?_
  refine zwVv (As := [.int p1]) (rest := []) (C := RX9) (n := 1) (wr := [((a 0), .inr (11, [.ref (a 1), .ref (a 2), .ref (a 3), .ref (a 4), .ref (a 5), .ref (a 6), .ref (a 7), .ref (a 8), .ref (a 9), .ref (a 10), .ref (a 11), .ref (a 12), .int 0]))]) ⟨hx, hb, hml, hown, ht⟩ (k_X9_append l D _ a 4 (by first | decide | omega) u_4 p1) (zgV ml_X11_91 im_X9_append se_X9_append in_X9 co_X9_append) rfl rfl (by decide +kernel) ⟨Nat.le_of_ble_eq_true rfl, Nat.le_of_ble_eq_true rfl⟩ hK hP hD hS hA [1, 2] [0] rfl rfl rfl rfl (by decide) 0 rfl rfl rfl rfl hl.1 rfl (Nat.le_of_ble_eq_true rfl) dX11_feed_29 ⟨Nat.le_of_ble_eq_true rfl, Nat.le_of_ble_eq_true rfl⟩ (fun u_6 H locs hw hP hD hS => ?_)
  have hP : va_P D vwCl [((a 0), .inr (11, [.ref (a 1), .ref (a 2), .ref (a 3), .ref (a 4), .ref (a 5), .ref (a 6), .ref (a 7), .ref (a 8), .ref (a 9), .ref (a 10), .ref (a 11), .ref (a 12), .int 0])), ((a 1), .inr (9, [.ref (a 20), .int 8])), ((a 20), .inl (D.1 13, 1600, .inl u_6))] H := hP
  have hD : va_D A [((a 0), .inr (11, [.ref (a 1), .ref (a 2), .ref (a 3), .ref (a 4), .ref (a 5), .ref (a 6), .ref (a 7), .ref (a 8), .ref (a 9), .ref (a 10), .ref (a 11), .ref (a 12), .int 0])), ((a 1), .inr (9, [.ref (a 20), .int 8])), ((a 20), .inl (D.1 13, 1600, .inl u_6))] := hD
  refine lv_aload_n hx hb dX11_feed_32 rfl (lv_at hl 0 rfl) ?_
  refine va_get (D := D) (ci := 11) (v := .ref (a 1)) (C := RX11) (T := TX11) (N := 13) hx hb ht inX11 hown hK hP 0 rfl rfl 0 (by decide) (ht (.fieldLink RX11 12 "CloneVolumes" "tape" "LCloneVolumes$Tape;") fl_X11_12) (fun _ h9 => h9) rfl dX11_feed_33 ?_
  refine lv_iload_n hx hb dX11_feed_36 rfl (lv_at hl 3 rfl) ?_
  refine zwVv (As := [.int p2]) (rest := []) (C := RX9) (n := 1) (wr := [((a 0), .inr (11, [.ref (a 1), .ref (a 2), .ref (a 3), .ref (a 4), .ref (a 5), .ref (a 6), .ref (a 7), .ref (a 8), .ref (a 9), .ref (a 10), .ref (a 11), .ref (a 12), .int 0]))]) ⟨hx, hb, hml, hown, ht⟩ (k_X9_append l D _ a 8 (by first | decide | omega) u_6 p2) (zgV ml_X11_91 im_X9_append se_X9_append in_X9 co_X9_append) rfl rfl (by decide +kernel) ⟨Nat.le_of_ble_eq_true rfl, Nat.le_of_ble_eq_true rfl⟩ hK hP hD hS hA [1, 2] [0] rfl rfl rfl rfl (by decide) 0 rfl rfl rfl rfl hl.1 rfl (Nat.le_of_ble_eq_true rfl) dX11_feed_37 ⟨Nat.le_of_ble_eq_true rfl, Nat.le_of_ble_eq_true rfl⟩ (fun u_8 H locs hw hP hD hS => ?_)
  have hP : va_P D vwCl [((a 0), .inr (11, [.ref (a 1), .ref (a 2), .ref (a 3), .ref (a 4), .ref (a 5), .ref (a 6), .ref (a 7), .ref (a 8), .ref (a 9), .ref (a 10), .ref (a 11), .ref (a 12), .int 0])), ((a 1), .inr (9, [.ref (a 20), .int 12])), ((a 20), .inl (D.1 13, 1600, .inl u_8))] H := hP
  have hD : va_D A [((a 0), .inr (11, [.ref (a 1), .ref (a 2), .ref (a 3), .ref (a 4), .ref (a 5), .ref (a 6), .ref (a 7), .ref (a 8), .ref (a 9), .ref (a 10), .ref (a 11), .ref (a 12), .int 0])), ((a 1), .inr (9, [.ref (a 20), .int 12])), ((a 20), .inl (D.1 13, 1600, .inl u_8))] := hD
  refine lv_aload_n hx hb dX11_feed_40 rfl (lv_at hl 0 rfl) ?_
  refine va_get (D := D) (ci := 11) (v := .ref (a 1)) (C := RX11) (T := TX11) (N := 13) hx hb ht inX11 hown hK hP 0 rfl rfl 0 (by decide) (ht (.fieldLink RX11 12 "CloneVolumes" "tape" "LCloneVolumes$Tape;") fl_X11_12) (fun _ h9 => h9) rfl dX11_feed_41 ?_
  refine lv_iload hx hb dX11_feed_44 (lv_at hl 4 rfl) ?_
  refine zwVv (As := [.int p3]) (rest := []) (C := RX9) (n := 1) (wr := [((a 0), .inr (11, [.ref (a 1), .ref (a 2), .ref (a 3), .ref (a 4), .ref (a 5), .ref (a 6), .ref (a 7), .ref (a 8), .ref (a 9), .ref (a 10), .ref (a 11), .ref (a 12), .int 0]))]) ⟨hx, hb, hml, hown, ht⟩ (k_X9_append l D _ a 12 (by first | decide | omega) u_8 p3) (zgV ml_X11_91 im_X9_append se_X9_append in_X9 co_X9_append) rfl rfl (by decide +kernel) ⟨Nat.le_of_ble_eq_true rfl, Nat.le_of_ble_eq_true rfl⟩ hK hP hD hS hA [1, 2] [0] rfl rfl rfl rfl (by decide) 0 rfl rfl rfl rfl hl.1 rfl (Nat.le_of_ble_eq_true rfl) dX11_feed_46 ⟨Nat.le_of_ble_eq_true rfl, Nat.le_of_ble_eq_true rfl⟩ (fun u_10 H locs hw hP hD hS => ?_)
  have hP : va_P D vwCl [((a 0), .inr (11, [.ref (a 1), .ref (a 2), .ref (a 3), .ref (a 4), .ref (a 5), .ref (a 6), .ref (a 7), .ref (a 8), .ref (a 9), .ref (a 10), .ref (a 11), .ref (a 12), .int 0])), ((a 1), .inr (9, [.ref (a 20), .int 16])), ((a 20), .inl (D.1 13, 1600, .inl u_10))] H := hP
  have hD : va_D A [((a 0), .inr (11, [.ref (a 1), .ref (a 2), .ref (a 3), .ref (a 4), .ref (a 5), .ref (a 6), .ref (a 7), .ref (a 8), .ref (a 9), .ref (a 10), .ref (a 11), .ref (a 12), .int 0])), ((a 1), .inr (9, [.ref (a 20), .int 16])), ((a 20), .inl (D.1 13, 1600, .inl u_10))] := hD
  refine lv_aload_n hx hb dX11_feed_49 rfl (lv_at hl 0 rfl) ?_
  refine va_get (D := D) (ci := 11) (v := .ref (a 1)) (C := RX11) (T := TX11) (N := 13) hx hb ht inX11 hown hK hP 0 rfl rfl 0 (by decide) (ht (.fieldLink RX11 12 "CloneVolumes" "tape" "LCloneVolumes$Tape;") fl_X11_12) (fun _ h9 => h9) rfl dX11_feed_50 ?_
  refine lv_iload hx hb dX11_feed_53 (lv_at hl 5 rfl) ?_
  refine zwVv (As := [.int p4]) (rest := []) (C := RX9) (n := 1) (wr := [((a 0), .inr (11, [.ref (a 1), .ref (a 2), .ref (a 3), .ref (a 4), .ref (a 5), .ref (a 6), .ref (a 7), .ref (a 8), .ref (a 9), .ref (a 10), .ref (a 11), .ref (a 12), .int 0]))]) ⟨hx, hb, hml, hown, ht⟩ (k_X9_append l D _ a 16 (by first | decide | omega) u_10 p4) (zgV ml_X11_91 im_X9_append se_X9_append in_X9 co_X9_append) rfl rfl (by decide +kernel) ⟨Nat.le_of_ble_eq_true rfl, Nat.le_of_ble_eq_true rfl⟩ hK hP hD hS hA [1, 2] [0] rfl rfl rfl rfl (by decide) 0 rfl rfl rfl rfl hl.1 rfl (Nat.le_of_ble_eq_true rfl) dX11_feed_55 ⟨Nat.le_of_ble_eq_true rfl, Nat.le_of_ble_eq_true rfl⟩ (fun u_12 H locs hw hP hD hS => ?_)
  have hP : va_P D vwCl [((a 0), .inr (11, [.ref (a 1), .ref (a 2), .ref (a 3), .ref (a 4), .ref (a 5), .ref (a 6), .ref (a 7), .ref (a 8), .ref (a 9), .ref (a 10), .ref (a 11), .ref (a 12), .int 0])), ((a 1), .inr (9, [.ref (a 20), .int 20])), ((a 20), .inl (D.1 13, 1600, .inl u_12))] H := hP
  have hD : va_D A [((a 0), .inr (11, [.ref (a 1), .ref (a 2), .ref (a 3), .ref (a 4), .ref (a 5), .ref (a 6), .ref (a 7), .ref (a 8), .ref (a 9), .ref (a 10), .ref (a 11), .ref (a 12), .int 0])), ((a 1), .inr (9, [.ref (a 20), .int 20])), ((a 20), .inl (D.1 13, 1600, .inl u_12))] := hD
  refine lv_aload_n hx hb dX11_feed_58 rfl (lv_at hl 0 rfl) ?_
  refine va_get (D := D) (ci := 11) (v := .ref (a 1)) (C := RX11) (T := TX11) (N := 13) hx hb ht inX11 hown hK hP 0 rfl rfl 0 (by decide) (ht (.fieldLink RX11 12 "CloneVolumes" "tape" "LCloneVolumes$Tape;") fl_X11_12) (fun _ h9 => h9) rfl dX11_feed_59 ?_
  refine va_get (D := D) (ci := 9) (v := .int 20) (C := RX9) (T := TX9) (N := 2) hx hb ht inX9 hown hK hP 1 rfl rfl 1 (by decide) (ht (.fieldLink RX11 95 "CloneVolumes$Tape" "length" "I") fl_X11_95) (fun _ h9 => h9) rfl dX11_feed_62 ?_
  have hP9 := hP.sub (ws' := []) [] rfl
  have hD9 := hD.sub (ws' := []) [] (by decide) rfl
  refine W.widen (k := 0) (n := 0) (Nat.le_of_ble_eq_true rfl) (Nat.le_of_ble_eq_true rfl) ?_
  exact W.iret (v := 20) hx hb hr (fun t ht hW => ⟨⟨20, (), rfl, rfl, by rw [ht]; exact hP9, va_K.moved hW.alike hK, hD9⟩, hS.F ht⟩) hS.2.2 dX11_feed_65
set_option maxHeartbeats 4000000 in
set_option maxRecDepth 100000 in
theorem k_X11_end (l : Launch) (D : va_G) (sz : Nat) (a : Nat → Nat) (p0 : Int32) : Met l yX11_end (wz yX11_end cX11_end 2 (some .boolean)) { frames := 1, cells := 0, slots := 0, locals := 60 } (va_Pc [.ref (a 0), .int p0] (zW D sz [((a 0), .inr (11, [.ref (a 1), .ref (a 2), .ref (a 3), .ref (a 4), .ref (a 5), .ref (a 6), .ref (a 7), .ref (a 8), .ref (a 9), .ref (a 10), .ref (a 11), .ref (a 12), .int 0])), ((a 1), .inr (9, [.ref (a 20), .int 0])), ((a 9), .inl (D.1 13, 6, .inl (fun _ => 0)))])) (va_Qi (fun r (_ : Unit) => (r = 0 ∧ p0.toInt < 0) ∨ (r = 1 ∧ 0 ≤ p0.toInt ∧ p0.toInt ≤ 0) ∨ (r = 0 ∧ 0 ≤ p0.toInt ∧ 0 < p0.toInt)) (fun u t => zB D (va_A [((a 0), .inr (11, [.ref (a 1), .ref (a 2), .ref (a 3), .ref (a 4), .ref (a 5), .ref (a 6), .ref (a 7), .ref (a 8), .ref (a 9), .ref (a 10), .ref (a 11), .ref (a 12), .int 0])), ((a 1), .inr (9, [.ref (a 20), .int 0])), ((a 9), .inl (D.1 13, 6, .inl (fun _ => 0)))] sz) ((fun (_ : Unit) => []) u) t) (va_A [((a 0), .inr (11, [.ref (a 1), .ref (a 2), .ref (a 3), .ref (a 4), .ref (a 5), .ref (a 6), .ref (a 7), .ref (a 8), .ref (a 9), .ref (a 10), .ref (a 11), .ref (a 12), .int 0])), ((a 1), .inr (9, [.ref (a 20), .int 0])), ((a 9), .inl (D.1 13, 6, .inl (fun _ => 0)))] sz)) 0 0 (va_A [((a 0), .inr (11, [.ref (a 1), .ref (a 2), .ref (a 3), .ref (a 4), .ref (a 5), .ref (a 6), .ref (a 7), .ref (a 8), .ref (a 9), .ref (a 10), .ref (a 11), .ref (a 12), .int 0])), ((a 1), .inr (9, [.ref (a 20), .int 0])), ((a 9), .inl (D.1 13, 6, .inl (fun _ => 0)))] sz) := by
  refine Met.ofW (cc := cX11_end) (maxL := 2) (ret := (some .boolean)) (by decide) rfl ?_
  intro p e s m args below meth c s₁ B hml hv
  obtain ⟨rfl, hsz, hP, hK, hD0⟩ := hv
  have hx := B.exec
  have hb := B.bytes
  have hr := B.returns
  have hts := atoms_spec (ws := wz yX11_end cX11_end 2 (some .boolean)) B.pre
  have ht : ∀ w ∈ lw_gd, w.before _ s = true := fun w h => hts w (List.mem_cons_of_mem _ h)
  have hown : s.vm.findClass RX11 = some m.cls := findClass_of_methodNamed B.named
  have hlocks := B.notSynchronized
  subst hsz
  have hD := hD0.self (sz := s.heap.size)
  generalize hAe : va_A [((a 0), .inr (11, [.ref (a 1), .ref (a 2), .ref (a 3), .ref (a 4), .ref (a 5), .ref (a 6), .ref (a 7), .ref (a 8), .ref (a 9), .ref (a 10), .ref (a 11), .ref (a 12), .int 0])), ((a 1), .inr (9, [.ref (a 20), .int 0])), ((a 9), .inl (D.1 13, 6, .inl (fun _ => 0)))] s.heap.size = A at hD ⊢
  have hA : ∀ q : Nat, s.heap.size ≤ q → A q := fun q h => by rw [← hAe]; exact Or.inr h
  have hS : va_S A s.heap s.heap [] := va_S.rf
  have hl := lv_entry ([.ref (a 0), .int p0]) (n := 2) (Nat.le_of_ble_eq_true rfl)
  rw [lg_entry_eq]
  generalize (lg_sl ([.ref (a 0), .int p0]) ++ List.replicate (2 - (lg_sl ([.ref (a 0), .int p0])).length) Slot.unset).toArray = ls at hl ⊢
  have hl : lv_has ls 2 [(0, .ref (a 0)), (1, .int p0)] := hl
  refine lv_iload_n hx hb dX11_end_0 rfl (lv_at hl 1 rfl) ?_
  refine lv_if_lt (tgt := 15) hx hb dX11_end_1 (by decide) (fun c_1 => ?_) (fun c_1 => ?_)
  · have g_2 : p0.toInt < 0 := z_lt rfl (by decide) c_1
    refine lv_aload_n hx hb dX11_end_15 rfl (lv_at hl 0 rfl) ?_
    refine lv_iconst (v := 0) hx hb dX11_end_16 (by decide) ?_
    refine zwV (As := [.int 0]) (rest := []) (C := RX11) (n := 1) (wr := [((a 1), .inr (9, [.ref (a 20), .int 0]))]) ⟨hx, hb, hml, hown, ht⟩ (k_X11_refuse l D _ a 0 (by first | decide | omega)) (zgV ml_X11_87 im_X11_refuse se_X11_refuse in_X11 co_X11_refuse) rfl rfl (by decide +kernel) ⟨Nat.le_of_ble_eq_true rfl, Nat.le_of_ble_eq_true rfl⟩ hK hP hD hS hA [0, 2] [1] rfl rfl rfl rfl (by decide) 0 rfl rfl rfl rfl hl.1 rfl (Nat.le_of_ble_eq_true rfl) dX11_end_17 ⟨Nat.le_of_ble_eq_true rfl, Nat.le_of_ble_eq_true rfl⟩ (fun r_4 u_3 H locs hw hP hD hS => ?_)
    have hP : va_P D vwCl [((a 1), .inr (9, [.ref (a 20), .int 0]))] H := hP
    have hD : va_D A [((a 1), .inr (9, [.ref (a 20), .int 0]))] := hD
    subst hw
    refine lv_pop hx hb dX11_end_20 rfl ?_
    refine lv_iconst (v := 0) hx hb dX11_end_21 (by decide) ?_
    have hP9 := hP.sub (ws' := []) [] rfl
    have hD9 := hD.sub (ws' := []) [] (by decide) rfl
    refine W.widen (k := 0) (n := 0) (Nat.le_of_ble_eq_true rfl) (Nat.le_of_ble_eq_true rfl) ?_
    exact W.zret (v := 0) hx hb hr (by decide) (fun t ht hW => ⟨⟨0, (), rfl, Or.inl (⟨rfl, zu_lt rfl (by decide) g_2⟩), by rw [ht]; exact hP9, va_K.moved hW.alike hK, hD9⟩, hS.F ht⟩) hS.2.2 dX11_end_22
  · have g_2 : 0 ≤ p0.toInt := z_nlt rfl (by decide) c_1
    refine lv_iload_n hx hb dX11_end_4 rfl (lv_at hl 1 rfl) ?_
    refine lv_aload_n hx hb dX11_end_5 rfl (lv_at hl 0 rfl) ?_
    refine va_get (D := D) (ci := 11) (v := .ref (a 1)) (C := RX11) (T := TX11) (N := 13) hx hb ht inX11 hown hK hP 0 rfl rfl 0 (by decide) (ht (.fieldLink RX11 12 "CloneVolumes" "tape" "LCloneVolumes$Tape;") fl_X11_12) (fun _ h9 => h9) rfl dX11_end_6 ?_
    refine va_get (D := D) (ci := 9) (v := .int 0) (C := RX9) (T := TX9) (N := 2) hx hb ht inX9 hown hK hP 1 rfl rfl 1 (by decide) (ht (.fieldLink RX11 95 "CloneVolumes$Tape" "length" "I") fl_X11_95) (fun _ h9 => h9) rfl dX11_end_9 ?_
    refine lv_icmp_le (tgt := 23) hx hb dX11_end_12 (by decide) (fun c_5 => ?_) (fun c_5 => ?_)
    · have g_6 : p0.toInt ≤ 0 := z_le rfl (by decide) c_5
      refine lv_aload_n hx hb dX11_end_23 rfl (lv_at hl 0 rfl) ?_
      refine va_get (D := D) (ci := 11) (v := .ref (a 1)) (C := RX11) (T := TX11) (N := 13) hx hb ht inX11 hown hK hP 0 rfl rfl 0 (by decide) (ht (.fieldLink RX11 12 "CloneVolumes" "tape" "LCloneVolumes$Tape;") fl_X11_12) (fun _ h9 => h9) rfl dX11_end_24 ?_
      refine lv_iload_n hx hb dX11_end_27 rfl (lv_at hl 1 rfl) ?_
      refine va_put (D := D) (ci := 9) (v := .int p0) (ty := .int) (C := RX9) (T := TX9) (N := 2) hx hb ht inX9 tyX9 tyX9_ok nmX9 hown hK hP hD hS 1 rfl rfl 1 (by decide) (ht (.fieldLink RX11 95 "CloneVolumes$Tape" "length" "I") fl_X11_95) (fun _ h9 => h9) rfl (by decide +kernel) rfl rfl (Nat.le_of_ble_eq_true rfl) dX11_end_28 (fun H locs hP hD hS => ?_)
      have hP : va_P D vwCl [((a 0), .inr (11, [.ref (a 1), .ref (a 2), .ref (a 3), .ref (a 4), .ref (a 5), .ref (a 6), .ref (a 7), .ref (a 8), .ref (a 9), .ref (a 10), .ref (a 11), .ref (a 12), .int 0])), ((a 1), .inr (9, [.ref (a 20), .int p0])), ((a 9), .inl (D.1 13, 6, .inl (fun _ => 0)))] H := hP
      have hD : va_D A [((a 0), .inr (11, [.ref (a 1), .ref (a 2), .ref (a 3), .ref (a 4), .ref (a 5), .ref (a 6), .ref (a 7), .ref (a 8), .ref (a 9), .ref (a 10), .ref (a 11), .ref (a 12), .int 0])), ((a 1), .inr (9, [.ref (a 20), .int p0])), ((a 9), .inl (D.1 13, 6, .inl (fun _ => 0)))] := hD
      refine lv_iconst (v := 1) hx hb dX11_end_31 (by decide) ?_
      have hP9 := hP.sub (ws' := []) [] rfl
      have hD9 := hD.sub (ws' := []) [] (by decide) rfl
      refine W.widen (k := 0) (n := 0) (Nat.le_of_ble_eq_true rfl) (Nat.le_of_ble_eq_true rfl) ?_
      exact W.zret (v := 1) hx hb hr (by decide) (fun t ht hW => ⟨⟨1, (), rfl, Or.inr (Or.inl (⟨rfl, zu_ge rfl (by decide) g_2, zu_le rfl (by decide) g_6⟩)), by rw [ht]; exact hP9, va_K.moved hW.alike hK, hD9⟩, hS.F ht⟩) hS.2.2 dX11_end_32
    · have g_6 : 0 < p0.toInt := z_nle rfl (by decide) c_5
      refine lv_aload_n hx hb dX11_end_15 rfl (lv_at hl 0 rfl) ?_
      refine lv_iconst (v := 0) hx hb dX11_end_16 (by decide) ?_
      refine zwV (As := [.int 0]) (rest := []) (C := RX11) (n := 1) (wr := [((a 1), .inr (9, [.ref (a 20), .int 0]))]) ⟨hx, hb, hml, hown, ht⟩ (k_X11_refuse l D _ a 0 (by first | decide | omega)) (zgV ml_X11_87 im_X11_refuse se_X11_refuse in_X11 co_X11_refuse) rfl rfl (by decide +kernel) ⟨Nat.le_of_ble_eq_true rfl, Nat.le_of_ble_eq_true rfl⟩ hK hP hD hS hA [0, 2] [1] rfl rfl rfl rfl (by decide) 0 rfl rfl rfl rfl hl.1 rfl (Nat.le_of_ble_eq_true rfl) dX11_end_17 ⟨Nat.le_of_ble_eq_true rfl, Nat.le_of_ble_eq_true rfl⟩ (fun r_8 u_7 H locs hw hP hD hS => ?_)
      have hP : va_P D vwCl [((a 1), .inr (9, [.ref (a 20), .int 0]))] H := hP
      have hD : va_D A [((a 1), .inr (9, [.ref (a 20), .int 0]))] := hD
      subst hw
      refine lv_pop hx hb dX11_end_20 rfl ?_
      refine lv_iconst (v := 0) hx hb dX11_end_21 (by decide) ?_
      have hP9 := hP.sub (ws' := []) [] rfl
      have hD9 := hD.sub (ws' := []) [] (by decide) rfl
      refine W.widen (k := 0) (n := 0) (Nat.le_of_ble_eq_true rfl) (Nat.le_of_ble_eq_true rfl) ?_
      exact W.zret (v := 0) hx hb hr (by decide) (fun t ht hW => ⟨⟨0, (), rfl, Or.inr (Or.inr (⟨rfl, zu_ge rfl (by decide) g_2, zu_gt rfl (by decide) g_6⟩)), by rw [ht]; exact hP9, va_K.moved hW.alike hK, hD9⟩, hS.F ht⟩) hS.2.2 dX11_end_22
set_option maxHeartbeats 4000000 in
set_option maxRecDepth 100000 in
theorem k_X11_seed (l : Launch) (D : va_G) (sz : Nat) (a : Nat → Nat) (p0 : Int32) : Met l yX11_seed (wz yX11_seed cX11_seed 2 (some .boolean)) { frames := 1, cells := 0, slots := 0, locals := 60 } (va_Pc [.ref (a 0), .int p0] (zW D sz [((a 0), .inr (11, [.ref (a 1), .ref (a 2), .ref (a 3), .ref (a 4), .ref (a 5), .ref (a 6), .ref (a 7), .ref (a 8), .ref (a 9), .ref (a 10), .ref (a 11), .ref (a 12), .int 0])), ((a 12), .inr (1, [.ref (a 13), .ref (a 14), .ref (a 15), .int 1, .ref (a 10), .ref (a 16), .ref (a 17), .ref (a 18), .ref (a 19)])), ((a 9), .inl (D.1 13, 6, .inl (fun _ => 0)))])) (va_Qi (fun r (_ : Unit) => (r = 1 ∧ 0 ≤ p0.toInt) ∨ (r = 0 ∧ p0.toInt < 0)) (fun u t => zB D (va_A [((a 0), .inr (11, [.ref (a 1), .ref (a 2), .ref (a 3), .ref (a 4), .ref (a 5), .ref (a 6), .ref (a 7), .ref (a 8), .ref (a 9), .ref (a 10), .ref (a 11), .ref (a 12), .int 0])), ((a 12), .inr (1, [.ref (a 13), .ref (a 14), .ref (a 15), .int 1, .ref (a 10), .ref (a 16), .ref (a 17), .ref (a 18), .ref (a 19)])), ((a 9), .inl (D.1 13, 6, .inl (fun _ => 0)))] sz) ((fun (_ : Unit) => []) u) t) (va_A [((a 0), .inr (11, [.ref (a 1), .ref (a 2), .ref (a 3), .ref (a 4), .ref (a 5), .ref (a 6), .ref (a 7), .ref (a 8), .ref (a 9), .ref (a 10), .ref (a 11), .ref (a 12), .int 0])), ((a 12), .inr (1, [.ref (a 13), .ref (a 14), .ref (a 15), .int 1, .ref (a 10), .ref (a 16), .ref (a 17), .ref (a 18), .ref (a 19)])), ((a 9), .inl (D.1 13, 6, .inl (fun _ => 0)))] sz)) 0 0 (va_A [((a 0), .inr (11, [.ref (a 1), .ref (a 2), .ref (a 3), .ref (a 4), .ref (a 5), .ref (a 6), .ref (a 7), .ref (a 8), .ref (a 9), .ref (a 10), .ref (a 11), .ref (a 12), .int 0])), ((a 12), .inr (1, [.ref (a 13), .ref (a 14), .ref (a 15), .int 1, .ref (a 10), .ref (a 16), .ref (a 17), .ref (a 18), .ref (a 19)])), ((a 9), .inl (D.1 13, 6, .inl (fun _ => 0)))] sz) := by
  refine Met.ofW (cc := cX11_seed) (maxL := 2) (ret := (some .boolean)) (by decide) rfl ?_
  intro p e s m args below meth c s₁ B hml hv
  obtain ⟨rfl, hsz, hP, hK, hD0⟩ := hv
  have hx := B.exec
  have hb := B.bytes
  have hr := B.returns
  have hts := atoms_spec (ws := wz yX11_seed cX11_seed 2 (some .boolean)) B.pre
  have ht : ∀ w ∈ lw_gd, w.before _ s = true := fun w h => hts w (List.mem_cons_of_mem _ h)
  have hown : s.vm.findClass RX11 = some m.cls := findClass_of_methodNamed B.named
  have hlocks := B.notSynchronized
  subst hsz
  have hD := hD0.self (sz := s.heap.size)
  generalize hAe : va_A [((a 0), .inr (11, [.ref (a 1), .ref (a 2), .ref (a 3), .ref (a 4), .ref (a 5), .ref (a 6), .ref (a 7), .ref (a 8), .ref (a 9), .ref (a 10), .ref (a 11), .ref (a 12), .int 0])), ((a 12), .inr (1, [.ref (a 13), .ref (a 14), .ref (a 15), .int 1, .ref (a 10), .ref (a 16), .ref (a 17), .ref (a 18), .ref (a 19)])), ((a 9), .inl (D.1 13, 6, .inl (fun _ => 0)))] s.heap.size = A at hD ⊢
  have hA : ∀ q : Nat, s.heap.size ≤ q → A q := fun q h => by rw [← hAe]; exact Or.inr h
  have hS : va_S A s.heap s.heap [] := va_S.rf
  have hl := lv_entry ([.ref (a 0), .int p0]) (n := 2) (Nat.le_of_ble_eq_true rfl)
  rw [lg_entry_eq]
  generalize (lg_sl ([.ref (a 0), .int p0]) ++ List.replicate (2 - (lg_sl ([.ref (a 0), .int p0])).length) Slot.unset).toArray = ls at hl ⊢
  have hl : lv_has ls 2 [(0, .ref (a 0)), (1, .int p0)] := hl
  refine lv_iload_n hx hb dX11_seed_0 rfl (lv_at hl 1 rfl) ?_
  refine lv_if_ge (tgt := 12) hx hb dX11_seed_1 (by decide) (fun c_1 => ?_) (fun c_1 => ?_)
  · have g_2 : 0 ≤ p0.toInt := z_le (by decide) rfl c_1
    refine lv_aload_n hx hb dX11_seed_12 rfl (lv_at hl 0 rfl) ?_
    refine va_get (D := D) (ci := 11) (v := .ref (a 12)) (C := RX11) (T := TX11) (N := 13) hx hb ht inX11 hown hK hP 0 rfl rfl 11 (by decide) (ht (.fieldLink RX11 79 "CloneVolumes" "forest" "LCloneVolumes$Forest;") fl_X11_79) (fun _ h9 => h9) rfl dX11_seed_13 ?_
    refine lv_iload_n hx hb dX11_seed_16 rfl (lv_at hl 1 rfl) ?_
    refine va_put (D := D) (ci := 1) (v := .int p0) (ty := .int) (C := RX1) (T := TX1) (N := 9) hx hb ht inX1 tyX1 tyX1_ok nmX1 hown hK hP hD hS 1 rfl rfl 3 (by decide) (ht (.fieldLink RX11 316 "CloneVolumes$Forest" "seed" "I") fl_X11_316) (fun _ h9 => h9) rfl (by decide +kernel) rfl rfl (Nat.le_of_ble_eq_true rfl) dX11_seed_17 (fun H locs hP hD hS => ?_)
    have hP : va_P D vwCl [((a 0), .inr (11, [.ref (a 1), .ref (a 2), .ref (a 3), .ref (a 4), .ref (a 5), .ref (a 6), .ref (a 7), .ref (a 8), .ref (a 9), .ref (a 10), .ref (a 11), .ref (a 12), .int 0])), ((a 12), .inr (1, [.ref (a 13), .ref (a 14), .ref (a 15), .int p0, .ref (a 10), .ref (a 16), .ref (a 17), .ref (a 18), .ref (a 19)])), ((a 9), .inl (D.1 13, 6, .inl (fun _ => 0)))] H := hP
    have hD : va_D A [((a 0), .inr (11, [.ref (a 1), .ref (a 2), .ref (a 3), .ref (a 4), .ref (a 5), .ref (a 6), .ref (a 7), .ref (a 8), .ref (a 9), .ref (a 10), .ref (a 11), .ref (a 12), .int 0])), ((a 12), .inr (1, [.ref (a 13), .ref (a 14), .ref (a 15), .int p0, .ref (a 10), .ref (a 16), .ref (a 17), .ref (a 18), .ref (a 19)])), ((a 9), .inl (D.1 13, 6, .inl (fun _ => 0)))] := hD
    refine lv_iconst (v := 1) hx hb dX11_seed_20 (by decide) ?_
    have hP9 := hP.sub (ws' := []) [] rfl
    have hD9 := hD.sub (ws' := []) [] (by decide) rfl
    refine W.widen (k := 0) (n := 0) (Nat.le_of_ble_eq_true rfl) (Nat.le_of_ble_eq_true rfl) ?_
    exact W.zret (v := 1) hx hb hr (by decide) (fun t ht hW => ⟨⟨1, (), rfl, Or.inl (⟨rfl, zu_ge rfl (by decide) g_2⟩), by rw [ht]; exact hP9, va_K.moved hW.alike hK, hD9⟩, hS.F ht⟩) hS.2.2 dX11_seed_21
  · have g_2 : p0.toInt < 0 := z_nle (by decide) rfl c_1
    refine lv_aload_n hx hb dX11_seed_4 rfl (lv_at hl 0 rfl) ?_
    refine lv_iconst (v := 5) hx hb dX11_seed_5 (by decide) ?_
    refine zwV (As := [.int 5]) (rest := []) (C := RX11) (n := 1) (wr := [((a 12), .inr (1, [.ref (a 13), .ref (a 14), .ref (a 15), .int 1, .ref (a 10), .ref (a 16), .ref (a 17), .ref (a 18), .ref (a 19)]))]) ⟨hx, hb, hml, hown, ht⟩ (k_X11_refuse l D _ a 5 (by first | decide | omega)) (zgV ml_X11_87 im_X11_refuse se_X11_refuse in_X11 co_X11_refuse) rfl rfl (by decide +kernel) ⟨Nat.le_of_ble_eq_true rfl, Nat.le_of_ble_eq_true rfl⟩ hK hP hD hS hA [0, 2] [1] rfl rfl rfl rfl (by decide) 0 rfl rfl rfl rfl hl.1 rfl (Nat.le_of_ble_eq_true rfl) dX11_seed_6 ⟨Nat.le_of_ble_eq_true rfl, Nat.le_of_ble_eq_true rfl⟩ (fun r_4 u_3 H locs hw hP hD hS => ?_)
    have hP : va_P D vwCl [((a 12), .inr (1, [.ref (a 13), .ref (a 14), .ref (a 15), .int 1, .ref (a 10), .ref (a 16), .ref (a 17), .ref (a 18), .ref (a 19)]))] H := hP
    have hD : va_D A [((a 12), .inr (1, [.ref (a 13), .ref (a 14), .ref (a 15), .int 1, .ref (a 10), .ref (a 16), .ref (a 17), .ref (a 18), .ref (a 19)]))] := hD
    subst hw
    refine lv_pop hx hb dX11_seed_9 rfl ?_
    refine lv_iconst (v := 0) hx hb dX11_seed_10 (by decide) ?_
    have hP9 := hP.sub (ws' := []) [] rfl
    have hD9 := hD.sub (ws' := []) [] (by decide) rfl
    refine W.widen (k := 0) (n := 0) (Nat.le_of_ble_eq_true rfl) (Nat.le_of_ble_eq_true rfl) ?_
    exact W.zret (v := 0) hx hb hr (by decide) (fun t ht hW => ⟨⟨0, (), rfl, Or.inr (⟨rfl, zu_lt rfl (by decide) g_2⟩), by rw [ht]; exact hP9, va_K.moved hW.alike hK, hD9⟩, hS.F ht⟩) hS.2.2 dX11_seed_11
set_option maxHeartbeats 4000000 in
set_option maxRecDepth 100000 in
theorem k_X11_see (l : Launch) (D : va_G) (sz : Nat) (a : Nat → Nat)  : Met l yX11_see (wz yX11_see cX11_see 2 (some .int)) { frames := 1, cells := 0, slots := 0, locals := 60 } (va_Pc [.ref (a 0)] (zW D sz [((a 0), .inr (11, [.ref (a 1), .ref (a 2), .ref (a 3), .ref (a 4), .ref (a 5), .ref (a 6), .ref (a 7), .ref (a 8), .ref (a 9), .ref (a 10), .ref (a 11), .ref (a 12), .int 0])), ((a 4), .inr (7, [.int 0, .ref (a 26), .ref (a 27), .ref (a 28), .int 0, .ref (a 29)])), ((a 1), .inr (9, [.ref (a 20), .int 0])), ((a 9), .inl (D.1 13, 6, .inl (fun _ => 0)))])) (va_Qi (fun r (_ : Unit) => r = (-1)) (fun u t => zB D (va_A [((a 0), .inr (11, [.ref (a 1), .ref (a 2), .ref (a 3), .ref (a 4), .ref (a 5), .ref (a 6), .ref (a 7), .ref (a 8), .ref (a 9), .ref (a 10), .ref (a 11), .ref (a 12), .int 0])), ((a 4), .inr (7, [.int 0, .ref (a 26), .ref (a 27), .ref (a 28), .int 0, .ref (a 29)])), ((a 1), .inr (9, [.ref (a 20), .int 0])), ((a 9), .inl (D.1 13, 6, .inl (fun _ => 0)))] sz) ((fun (_ : Unit) => []) u) t) (va_A [((a 0), .inr (11, [.ref (a 1), .ref (a 2), .ref (a 3), .ref (a 4), .ref (a 5), .ref (a 6), .ref (a 7), .ref (a 8), .ref (a 9), .ref (a 10), .ref (a 11), .ref (a 12), .int 0])), ((a 4), .inr (7, [.int 0, .ref (a 26), .ref (a 27), .ref (a 28), .int 0, .ref (a 29)])), ((a 1), .inr (9, [.ref (a 20), .int 0])), ((a 9), .inl (D.1 13, 6, .inl (fun _ => 0)))] sz)) 0 0 (va_A [((a 0), .inr (11, [.ref (a 1), .ref (a 2), .ref (a 3), .ref (a 4), .ref (a 5), .ref (a 6), .ref (a 7), .ref (a 8), .ref (a 9), .ref (a 10), .ref (a 11), .ref (a 12), .int 0])), ((a 4), .inr (7, [.int 0, .ref (a 26), .ref (a 27), .ref (a 28), .int 0, .ref (a 29)])), ((a 1), .inr (9, [.ref (a 20), .int 0])), ((a 9), .inl (D.1 13, 6, .inl (fun _ => 0)))] sz) := by
  refine Met.ofW (cc := cX11_see) (maxL := 2) (ret := (some .int)) (by decide) rfl ?_
  intro p e s m args below meth c s₁ B hml hv
  obtain ⟨rfl, hsz, hP, hK, hD0⟩ := hv
  have hx := B.exec
  have hb := B.bytes
  have hr := B.returns
  have hts := atoms_spec (ws := wz yX11_see cX11_see 2 (some .int)) B.pre
  have ht : ∀ w ∈ lw_gd, w.before _ s = true := fun w h => hts w (List.mem_cons_of_mem _ h)
  have hown : s.vm.findClass RX11 = some m.cls := findClass_of_methodNamed B.named
  have hlocks := B.notSynchronized
  subst hsz
  have hD := hD0.self (sz := s.heap.size)
  generalize hAe : va_A [((a 0), .inr (11, [.ref (a 1), .ref (a 2), .ref (a 3), .ref (a 4), .ref (a 5), .ref (a 6), .ref (a 7), .ref (a 8), .ref (a 9), .ref (a 10), .ref (a 11), .ref (a 12), .int 0])), ((a 4), .inr (7, [.int 0, .ref (a 26), .ref (a 27), .ref (a 28), .int 0, .ref (a 29)])), ((a 1), .inr (9, [.ref (a 20), .int 0])), ((a 9), .inl (D.1 13, 6, .inl (fun _ => 0)))] s.heap.size = A at hD ⊢
  have hA : ∀ q : Nat, s.heap.size ≤ q → A q := fun q h => by rw [← hAe]; exact Or.inr h
  have hS : va_S A s.heap s.heap [] := va_S.rf
  have hl := lv_entry ([.ref (a 0)]) (n := 2) (Nat.le_of_ble_eq_true rfl)
  rw [lg_entry_eq]
  generalize (lg_sl ([.ref (a 0)]) ++ List.replicate (2 - (lg_sl ([.ref (a 0)])).length) Slot.unset).toArray = ls at hl ⊢
  have hl : lv_has ls 2 [(0, .ref (a 0))] := hl
  refine lv_aload_n hx hb dX11_see_0 rfl (lv_at hl 0 rfl) ?_
  refine va_get (D := D) (ci := 11) (v := .ref (a 4)) (C := RX11) (T := TX11) (N := 13) hx hb ht inX11 hown hK hP 0 rfl rfl 3 (by decide) (ht (.fieldLink RX11 35 "CloneVolumes" "sight" "LCloneVolumes$Sight;") fl_X11_35) (fun _ h9 => h9) rfl dX11_see_1 ?_
  refine lv_aload_n hx hb dX11_see_4 rfl (lv_at hl 0 rfl) ?_
  refine va_get (D := D) (ci := 11) (v := .ref (a 1)) (C := RX11) (T := TX11) (N := 13) hx hb ht inX11 hown hK hP 0 rfl rfl 0 (by decide) (ht (.fieldLink RX11 12 "CloneVolumes" "tape" "LCloneVolumes$Tape;") fl_X11_12) (fun _ h9 => h9) rfl dX11_see_5 ?_
  refine zcV (As := [.ref (a 1)]) (rest := []) (C := RX7) (n := 1) ⟨hx, hb, hml, hown, ht⟩ (k_X7_take l D a) (zgV ml_X11_258 im_X7_take se_X7_take in_X7 co_X7_take) rfl rfl (by decide +kernel) ⟨Nat.le_of_ble_eq_true rfl, Nat.le_of_ble_eq_true rfl⟩ hK hP hS [1, 2] rfl 0 rfl rfl rfl rfl hl.1 rfl (Nat.le_of_ble_eq_true rfl) dX11_see_8 ⟨Nat.le_of_ble_eq_true rfl, Nat.le_of_ble_eq_true rfl⟩ (fun r_1 H locs hw hP hS => ?_)
  subst hw
  refine lv_istore_n (lv' := [(1, .int 0), (0, .ref (a 0))]) hx hb dX11_see_11 rfl hl (by decide) rfl (fun ls hl => ?_)
  refine lv_aload_n hx hb dX11_see_12 rfl (lv_at hl 1 rfl) ?_
  refine va_get (D := D) (ci := 11) (v := .ref (a 1)) (C := RX11) (T := TX11) (N := 13) hx hb ht inX11 hown hK hP 0 rfl rfl 0 (by decide) (ht (.fieldLink RX11 12 "CloneVolumes" "tape" "LCloneVolumes$Tape;") fl_X11_12) (fun _ h9 => h9) rfl dX11_see_13 ?_
  refine lv_iconst (v := 0) hx hb dX11_see_16 (by decide) ?_
  refine va_put (D := D) (ci := 9) (v := .int 0) (ty := .int) (C := RX9) (T := TX9) (N := 2) hx hb ht inX9 tyX9 tyX9_ok nmX9 hown hK hP hD hS 2 rfl rfl 1 (by decide) (ht (.fieldLink RX11 95 "CloneVolumes$Tape" "length" "I") fl_X11_95) (fun _ h9 => h9) rfl (by decide +kernel) rfl rfl (Nat.le_of_ble_eq_true rfl) dX11_see_17 (fun H locs hP hD hS => ?_)
  have hP : va_P D vwCl [((a 0), .inr (11, [.ref (a 1), .ref (a 2), .ref (a 3), .ref (a 4), .ref (a 5), .ref (a 6), .ref (a 7), .ref (a 8), .ref (a 9), .ref (a 10), .ref (a 11), .ref (a 12), .int 0])), ((a 4), .inr (7, [.int 0, .ref (a 26), .ref (a 27), .ref (a 28), .int 0, .ref (a 29)])), ((a 1), .inr (9, [.ref (a 20), .int 0])), ((a 9), .inl (D.1 13, 6, .inl (fun _ => 0)))] H := hP
  have hD : va_D A [((a 0), .inr (11, [.ref (a 1), .ref (a 2), .ref (a 3), .ref (a 4), .ref (a 5), .ref (a 6), .ref (a 7), .ref (a 8), .ref (a 9), .ref (a 10), .ref (a 11), .ref (a 12), .int 0])), ((a 4), .inr (7, [.int 0, .ref (a 26), .ref (a 27), .ref (a 28), .int 0, .ref (a 29)])), ((a 1), .inr (9, [.ref (a 20), .int 0])), ((a 9), .inl (D.1 13, 6, .inl (fun _ => 0)))] := hD
  refine lv_iload_n hx hb dX11_see_20 rfl (lv_at hl 0 rfl) ?_
  refine lv_if_eq (tgt := 34) hx hb dX11_see_21 (by decide) (fun _ => ?_) (fun c_2 => (z_abs c_2 (by decide)).elim)
  refine lv_aload_n hx hb dX11_see_34 rfl (lv_at hl 1 rfl) ?_
  refine lv_iconst (v := 1) hx hb dX11_see_35 (by decide) ?_
  refine zwV (As := [.int 1]) (rest := []) (C := RX11) (n := 1) (wr := [((a 4), .inr (7, [.int 0, .ref (a 26), .ref (a 27), .ref (a 28), .int 0, .ref (a 29)])), ((a 1), .inr (9, [.ref (a 20), .int 0]))]) ⟨hx, hb, hml, hown, ht⟩ (k_X11_refuse l D _ a 1 (by first | decide | omega)) (zgV ml_X11_87 im_X11_refuse se_X11_refuse in_X11 co_X11_refuse) rfl rfl (by decide +kernel) ⟨Nat.le_of_ble_eq_true rfl, Nat.le_of_ble_eq_true rfl⟩ hK hP hD hS hA [0, 3] [1, 2] rfl rfl rfl rfl (by decide) 0 rfl rfl rfl rfl hl.1 rfl (Nat.le_of_ble_eq_true rfl) dX11_see_36 ⟨Nat.le_of_ble_eq_true rfl, Nat.le_of_ble_eq_true rfl⟩ (fun r_5 u_4 H locs hw hP hD hS => ?_)
  have hP : va_P D vwCl [((a 4), .inr (7, [.int 0, .ref (a 26), .ref (a 27), .ref (a 28), .int 0, .ref (a 29)])), ((a 1), .inr (9, [.ref (a 20), .int 0]))] H := hP
  have hD : va_D A [((a 4), .inr (7, [.int 0, .ref (a 26), .ref (a 27), .ref (a 28), .int 0, .ref (a 29)])), ((a 1), .inr (9, [.ref (a 20), .int 0]))] := hD
  subst hw
  have hP9 := hP.sub (ws' := []) [] rfl
  have hD9 := hD.sub (ws' := []) [] (by decide) rfl
  refine W.widen (k := 0) (n := 0) (Nat.le_of_ble_eq_true rfl) (Nat.le_of_ble_eq_true rfl) ?_
  exact W.iret (v := (-1)) hx hb hr (fun t ht hW => ⟨⟨(-1), (), rfl, rfl, by rw [ht]; exact hP9, va_K.moved hW.alike hK, hD9⟩, hS.F ht⟩) hS.2.2 dX11_see_39
set_option maxHeartbeats 4000000 in
set_option maxRecDepth 100000 in
theorem k_X11_undo (l : Launch) (D : va_G) (sz : Nat) (a : Nat → Nat)  : Met l yX11_undo (wz yX11_undo cX11_undo 2 (some .boolean)) { frames := 1, cells := 0, slots := 0, locals := 60 } (va_Pc [.ref (a 0)] (zW D sz [((a 0), .inr (11, [.ref (a 1), .ref (a 2), .ref (a 3), .ref (a 4), .ref (a 5), .ref (a 6), .ref (a 7), .ref (a 8), .ref (a 9), .ref (a 10), .ref (a 11), .ref (a 12), .int 0])), ((a 3), .inr (2, [.ref (a 22), .ref (a 23), .ref (a 24), .int 0, .ref (a 25), .int 0])), ((a 9), .inl (D.1 13, 6, .inl (fun _ => 0)))])) (va_Qi (fun r (_ : Unit) => r = 0) (fun u t => zB D (va_A [((a 0), .inr (11, [.ref (a 1), .ref (a 2), .ref (a 3), .ref (a 4), .ref (a 5), .ref (a 6), .ref (a 7), .ref (a 8), .ref (a 9), .ref (a 10), .ref (a 11), .ref (a 12), .int 0])), ((a 3), .inr (2, [.ref (a 22), .ref (a 23), .ref (a 24), .int 0, .ref (a 25), .int 0])), ((a 9), .inl (D.1 13, 6, .inl (fun _ => 0)))] sz) ((fun (_ : Unit) => []) u) t) (va_A [((a 0), .inr (11, [.ref (a 1), .ref (a 2), .ref (a 3), .ref (a 4), .ref (a 5), .ref (a 6), .ref (a 7), .ref (a 8), .ref (a 9), .ref (a 10), .ref (a 11), .ref (a 12), .int 0])), ((a 3), .inr (2, [.ref (a 22), .ref (a 23), .ref (a 24), .int 0, .ref (a 25), .int 0])), ((a 9), .inl (D.1 13, 6, .inl (fun _ => 0)))] sz)) 0 0 (va_A [((a 0), .inr (11, [.ref (a 1), .ref (a 2), .ref (a 3), .ref (a 4), .ref (a 5), .ref (a 6), .ref (a 7), .ref (a 8), .ref (a 9), .ref (a 10), .ref (a 11), .ref (a 12), .int 0])), ((a 3), .inr (2, [.ref (a 22), .ref (a 23), .ref (a 24), .int 0, .ref (a 25), .int 0])), ((a 9), .inl (D.1 13, 6, .inl (fun _ => 0)))] sz) := by
  refine Met.ofW (cc := cX11_undo) (maxL := 2) (ret := (some .boolean)) (by decide) rfl ?_
  intro p e s m args below meth c s₁ B hml hv
  obtain ⟨rfl, hsz, hP, hK, hD0⟩ := hv
  have hx := B.exec
  have hb := B.bytes
  have hr := B.returns
  have hts := atoms_spec (ws := wz yX11_undo cX11_undo 2 (some .boolean)) B.pre
  have ht : ∀ w ∈ lw_gd, w.before _ s = true := fun w h => hts w (List.mem_cons_of_mem _ h)
  have hown : s.vm.findClass RX11 = some m.cls := findClass_of_methodNamed B.named
  have hlocks := B.notSynchronized
  subst hsz
  have hD := hD0.self (sz := s.heap.size)
  generalize hAe : va_A [((a 0), .inr (11, [.ref (a 1), .ref (a 2), .ref (a 3), .ref (a 4), .ref (a 5), .ref (a 6), .ref (a 7), .ref (a 8), .ref (a 9), .ref (a 10), .ref (a 11), .ref (a 12), .int 0])), ((a 3), .inr (2, [.ref (a 22), .ref (a 23), .ref (a 24), .int 0, .ref (a 25), .int 0])), ((a 9), .inl (D.1 13, 6, .inl (fun _ => 0)))] s.heap.size = A at hD ⊢
  have hA : ∀ q : Nat, s.heap.size ≤ q → A q := fun q h => by rw [← hAe]; exact Or.inr h
  have hS : va_S A s.heap s.heap [] := va_S.rf
  have hl := lv_entry ([.ref (a 0)]) (n := 2) (Nat.le_of_ble_eq_true rfl)
  rw [lg_entry_eq]
  generalize (lg_sl ([.ref (a 0)]) ++ List.replicate (2 - (lg_sl ([.ref (a 0)])).length) Slot.unset).toArray = ls at hl ⊢
  have hl : lv_has ls 2 [(0, .ref (a 0))] := hl
  refine lv_aload_n hx hb dX11_undo_0 rfl (lv_at hl 0 rfl) ?_
  refine va_get (D := D) (ci := 11) (v := .ref (a 3)) (C := RX11) (T := TX11) (N := 13) hx hb ht inX11 hown hK hP 0 rfl rfl 2 (by decide) (ht (.fieldLink RX11 28 "CloneVolumes" "history" "LCloneVolumes$History;") fl_X11_28) (fun _ h9 => h9) rfl dX11_undo_1 ?_
  refine zcVn (As := []) (rest := []) (C := RX2) (n := 0) ⟨hx, hb, hml, hown, ht⟩ (k_X2_forget l D a) (zgV ml_X11_308 im_X2_forget se_X2_forget in_X2 co_X2_forget) rfl rfl (by decide +kernel) ⟨Nat.le_of_ble_eq_true rfl, Nat.le_of_ble_eq_true rfl⟩ hK hP hS [1] rfl 0 rfl rfl rfl rfl hl.1 rfl (Nat.le_of_ble_eq_true rfl) dX11_undo_4 ⟨Nat.le_of_ble_eq_true rfl, Nat.le_of_ble_eq_true rfl⟩ (fun H locs hP hS => ?_)
  refine lv_astore_nN (lv' := [(1, .null), (0, .ref (a 0))]) hx hb dX11_undo_7 rfl hl (by decide) rfl (fun ls hl => ?_)
  refine lv_aload_nN hx hb dX11_undo_8 rfl (lv_at hl 0 rfl) ?_
  refine lv_ifnonnullN hx hb dX11_undo_9 ?_
  refine lv_aload_n hx hb dX11_undo_12 rfl (lv_at hl 1 rfl) ?_
  refine lv_iconst (v := 4) hx hb dX11_undo_13 (by decide) ?_
  refine zwV (As := [.int 4]) (rest := []) (C := RX11) (n := 1) (wr := [((a 3), .inr (2, [.ref (a 22), .ref (a 23), .ref (a 24), .int 0, .ref (a 25), .int 0]))]) ⟨hx, hb, hml, hown, ht⟩ (k_X11_refuse l D _ a 4 (by first | decide | omega)) (zgV ml_X11_87 im_X11_refuse se_X11_refuse in_X11 co_X11_refuse) rfl rfl (by decide +kernel) ⟨Nat.le_of_ble_eq_true rfl, Nat.le_of_ble_eq_true rfl⟩ hK hP hD hS hA [0, 2] [1] rfl rfl rfl rfl (by decide) 0 rfl rfl rfl rfl hl.1 rfl (Nat.le_of_ble_eq_true rfl) dX11_undo_14 ⟨Nat.le_of_ble_eq_true rfl, Nat.le_of_ble_eq_true rfl⟩ (fun r_3 u_2 H locs hw hP hD hS => ?_)
  have hP : va_P D vwCl [((a 3), .inr (2, [.ref (a 22), .ref (a 23), .ref (a 24), .int 0, .ref (a 25), .int 0]))] H := hP
  have hD : va_D A [((a 3), .inr (2, [.ref (a 22), .ref (a 23), .ref (a 24), .int 0, .ref (a 25), .int 0]))] := hD
  subst hw
  refine lv_pop hx hb dX11_undo_17 rfl ?_
  refine lv_iconst (v := 0) hx hb dX11_undo_18 (by decide) ?_
  have hP9 := hP.sub (ws' := []) [] rfl
  have hD9 := hD.sub (ws' := []) [] (by decide) rfl
  refine W.widen (k := 0) (n := 0) (Nat.le_of_ble_eq_true rfl) (Nat.le_of_ble_eq_true rfl) ?_
  exact W.zret (v := 0) hx hb hr (by decide) (fun t ht hW => ⟨⟨0, (), rfl, rfl, by rw [ht]; exact hP9, va_K.moved hW.alike hK, hD9⟩, hS.F ht⟩) hS.2.2 dX11_undo_19
set_option maxHeartbeats 4000000 in
set_option maxRecDepth 100000 in
theorem k_X11_put (l : Launch) (D : va_G) (sz : Nat) (a : Nat → Nat) (p0 : Int32) (p1 : Int32) (p2 : Int32) : Met l yX11_put (wz yX11_put cX11_put 4 (some .int)) { frames := 1, cells := 0, slots := 0, locals := 60 } (va_Pc [.ref (a 0), .int p0, .int p1, .int p2] (zW D sz [((a 0), .inr (11, [.ref (a 1), .ref (a 2), .ref (a 3), .ref (a 4), .ref (a 5), .ref (a 6), .ref (a 7), .ref (a 8), .ref (a 9), .ref (a 10), .ref (a 11), .ref (a 12), .int 0])), ((a 12), .inr (1, [.ref (a 13), .ref (a 14), .ref (a 15), .int 1, .ref (a 10), .ref (a 16), .ref (a 17), .ref (a 18), .ref (a 19)])), ((a 13), .inr (8, [.int 0, .int 0, .long 0, .ref (a 60), .ref (a 61), .ref (a 62), .ref (a 63), .ref (a 64), .ref (a 65), .ref (a 66), .ref (a 67)])), ((a 66), .inl (D.1 13, 8, .inl (fun _ => (-2)))), ((a 9), .inl (D.1 13, 6, .inl (fun _ => 0)))])) (va_Qi (fun r (_ : Unit) => r = (-1)) (fun u t => zB D (va_A [((a 0), .inr (11, [.ref (a 1), .ref (a 2), .ref (a 3), .ref (a 4), .ref (a 5), .ref (a 6), .ref (a 7), .ref (a 8), .ref (a 9), .ref (a 10), .ref (a 11), .ref (a 12), .int 0])), ((a 12), .inr (1, [.ref (a 13), .ref (a 14), .ref (a 15), .int 1, .ref (a 10), .ref (a 16), .ref (a 17), .ref (a 18), .ref (a 19)])), ((a 13), .inr (8, [.int 0, .int 0, .long 0, .ref (a 60), .ref (a 61), .ref (a 62), .ref (a 63), .ref (a 64), .ref (a 65), .ref (a 66), .ref (a 67)])), ((a 66), .inl (D.1 13, 8, .inl (fun _ => (-2)))), ((a 9), .inl (D.1 13, 6, .inl (fun _ => 0)))] sz) ((fun (_ : Unit) => []) u) t) (va_A [((a 0), .inr (11, [.ref (a 1), .ref (a 2), .ref (a 3), .ref (a 4), .ref (a 5), .ref (a 6), .ref (a 7), .ref (a 8), .ref (a 9), .ref (a 10), .ref (a 11), .ref (a 12), .int 0])), ((a 12), .inr (1, [.ref (a 13), .ref (a 14), .ref (a 15), .int 1, .ref (a 10), .ref (a 16), .ref (a 17), .ref (a 18), .ref (a 19)])), ((a 13), .inr (8, [.int 0, .int 0, .long 0, .ref (a 60), .ref (a 61), .ref (a 62), .ref (a 63), .ref (a 64), .ref (a 65), .ref (a 66), .ref (a 67)])), ((a 66), .inl (D.1 13, 8, .inl (fun _ => (-2)))), ((a 9), .inl (D.1 13, 6, .inl (fun _ => 0)))] sz)) 0 0 (va_A [((a 0), .inr (11, [.ref (a 1), .ref (a 2), .ref (a 3), .ref (a 4), .ref (a 5), .ref (a 6), .ref (a 7), .ref (a 8), .ref (a 9), .ref (a 10), .ref (a 11), .ref (a 12), .int 0])), ((a 12), .inr (1, [.ref (a 13), .ref (a 14), .ref (a 15), .int 1, .ref (a 10), .ref (a 16), .ref (a 17), .ref (a 18), .ref (a 19)])), ((a 13), .inr (8, [.int 0, .int 0, .long 0, .ref (a 60), .ref (a 61), .ref (a 62), .ref (a 63), .ref (a 64), .ref (a 65), .ref (a 66), .ref (a 67)])), ((a 66), .inl (D.1 13, 8, .inl (fun _ => (-2)))), ((a 9), .inl (D.1 13, 6, .inl (fun _ => 0)))] sz) := by
  refine Met.ofW (cc := cX11_put) (maxL := 4) (ret := (some .int)) (by decide) rfl ?_
  intro p e s m args below meth c s₁ B hml hv
  obtain ⟨rfl, hsz, hP, hK, hD0⟩ := hv
  have hx := B.exec
  have hb := B.bytes
  have hr := B.returns
  have hts := atoms_spec (ws := wz yX11_put cX11_put 4 (some .int)) B.pre
  have ht : ∀ w ∈ lw_gd, w.before _ s = true := fun w h => hts w (List.mem_cons_of_mem _ h)
  have hown : s.vm.findClass RX11 = some m.cls := findClass_of_methodNamed B.named
  have hlocks := B.notSynchronized
  subst hsz
  have hD := hD0.self (sz := s.heap.size)
  generalize hAe : va_A [((a 0), .inr (11, [.ref (a 1), .ref (a 2), .ref (a 3), .ref (a 4), .ref (a 5), .ref (a 6), .ref (a 7), .ref (a 8), .ref (a 9), .ref (a 10), .ref (a 11), .ref (a 12), .int 0])), ((a 12), .inr (1, [.ref (a 13), .ref (a 14), .ref (a 15), .int 1, .ref (a 10), .ref (a 16), .ref (a 17), .ref (a 18), .ref (a 19)])), ((a 13), .inr (8, [.int 0, .int 0, .long 0, .ref (a 60), .ref (a 61), .ref (a 62), .ref (a 63), .ref (a 64), .ref (a 65), .ref (a 66), .ref (a 67)])), ((a 66), .inl (D.1 13, 8, .inl (fun _ => (-2)))), ((a 9), .inl (D.1 13, 6, .inl (fun _ => 0)))] s.heap.size = A at hD ⊢
  have hA : ∀ q : Nat, s.heap.size ≤ q → A q := fun q h => by rw [← hAe]; exact Or.inr h
  have hS : va_S A s.heap s.heap [] := va_S.rf
  have hl := lv_entry ([.ref (a 0), .int p0, .int p1, .int p2]) (n := 4) (Nat.le_of_ble_eq_true rfl)
  rw [lg_entry_eq]
  generalize (lg_sl ([.ref (a 0), .int p0, .int p1, .int p2]) ++ List.replicate (4 - (lg_sl ([.ref (a 0), .int p0, .int p1, .int p2])).length) Slot.unset).toArray = ls at hl ⊢
  have hl : lv_has ls 4 [(0, .ref (a 0)), (1, .int p0), (2, .int p1), (3, .int p2)] := hl
  refine lv_aload_n hx hb dX11_put_0 rfl (lv_at hl 0 rfl) ?_
  refine va_get (D := D) (ci := 11) (v := .ref (a 12)) (C := RX11) (T := TX11) (N := 13) hx hb ht inX11 hown hK hP 0 rfl rfl 11 (by decide) (ht (.fieldLink RX11 79 "CloneVolumes" "forest" "LCloneVolumes$Forest;") fl_X11_79) (fun _ h9 => h9) rfl dX11_put_1 ?_
  refine va_get (D := D) (ci := 1) (v := .ref (a 13)) (C := RX1) (T := TX1) (N := 9) hx hb ht inX1 hown hK hP 1 rfl rfl 0 (by decide) (ht (.fieldLink RX11 125 "CloneVolumes$Forest" "now" "LCloneVolumes$State;") fl_X11_125) (fun _ h9 => h9) rfl dX11_put_4 ?_
  refine lv_iload_n hx hb dX11_put_7 rfl (lv_at hl 1 rfl) ?_
  refine zcV (As := [.int p0]) (rest := []) (C := RX8) (n := 1) ⟨hx, hb, hml, hown, ht⟩ (k_X8_isVolume l D a p0) (zgV ml_X11_161 im_X8_isVolume se_X8_isVolume in_X8 co_X8_isVolume) rfl rfl (by decide +kernel) ⟨Nat.le_of_ble_eq_true rfl, Nat.le_of_ble_eq_true rfl⟩ hK hP hS [2, 3] rfl 0 rfl rfl rfl rfl hl.1 rfl (Nat.le_of_ble_eq_true rfl) dX11_put_8 ⟨Nat.le_of_ble_eq_true rfl, Nat.le_of_ble_eq_true rfl⟩ (fun r_1 H locs hw hP hS => ?_)
  subst hw
  refine lv_if_eq (tgt := 28) hx hb dX11_put_11 (by decide) (fun _ => ?_) (fun c_2 => (z_abs c_2 (by decide)).elim)
  refine lv_aload_n hx hb dX11_put_28 rfl (lv_at hl 0 rfl) ?_
  refine lv_iconst (v := 2) hx hb dX11_put_29 (by decide) ?_
  refine zwV (As := [.int 2]) (rest := []) (C := RX11) (n := 1) (wr := [((a 12), .inr (1, [.ref (a 13), .ref (a 14), .ref (a 15), .int 1, .ref (a 10), .ref (a 16), .ref (a 17), .ref (a 18), .ref (a 19)])), ((a 13), .inr (8, [.int 0, .int 0, .long 0, .ref (a 60), .ref (a 61), .ref (a 62), .ref (a 63), .ref (a 64), .ref (a 65), .ref (a 66), .ref (a 67)])), ((a 66), .inl (D.1 13, 8, .inl (fun _ => (-2))))]) ⟨hx, hb, hml, hown, ht⟩ (k_X11_refuse l D _ a 2 (by first | decide | omega)) (zgV ml_X11_87 im_X11_refuse se_X11_refuse in_X11 co_X11_refuse) rfl rfl (by decide +kernel) ⟨Nat.le_of_ble_eq_true rfl, Nat.le_of_ble_eq_true rfl⟩ hK hP hD hS hA [0, 4] [1, 2, 3] rfl rfl rfl rfl (by decide) 0 rfl rfl rfl rfl hl.1 rfl (Nat.le_of_ble_eq_true rfl) dX11_put_30 ⟨Nat.le_of_ble_eq_true rfl, Nat.le_of_ble_eq_true rfl⟩ (fun r_5 u_4 H locs hw hP hD hS => ?_)
  have hP : va_P D vwCl [((a 12), .inr (1, [.ref (a 13), .ref (a 14), .ref (a 15), .int 1, .ref (a 10), .ref (a 16), .ref (a 17), .ref (a 18), .ref (a 19)])), ((a 13), .inr (8, [.int 0, .int 0, .long 0, .ref (a 60), .ref (a 61), .ref (a 62), .ref (a 63), .ref (a 64), .ref (a 65), .ref (a 66), .ref (a 67)])), ((a 66), .inl (D.1 13, 8, .inl (fun _ => (-2))))] H := hP
  have hD : va_D A [((a 12), .inr (1, [.ref (a 13), .ref (a 14), .ref (a 15), .int 1, .ref (a 10), .ref (a 16), .ref (a 17), .ref (a 18), .ref (a 19)])), ((a 13), .inr (8, [.int 0, .int 0, .long 0, .ref (a 60), .ref (a 61), .ref (a 62), .ref (a 63), .ref (a 64), .ref (a 65), .ref (a 66), .ref (a 67)])), ((a 66), .inl (D.1 13, 8, .inl (fun _ => (-2))))] := hD
  subst hw
  have hP9 := hP.sub (ws' := []) [] rfl
  have hD9 := hD.sub (ws' := []) [] (by decide) rfl
  refine W.widen (k := 0) (n := 0) (Nat.le_of_ble_eq_true rfl) (Nat.le_of_ble_eq_true rfl) ?_
  exact W.iret (v := (-1)) hx hb hr (fun t ht hW => ⟨⟨(-1), (), rfl, rfl, by rw [ht]; exact hP9, va_K.moved hW.alike hK, hD9⟩, hS.F ht⟩) hS.2.2 dX11_put_33
set_option maxHeartbeats 4000000 in
set_option maxRecDepth 100000 in
theorem k_X11_remove (l : Launch) (D : va_G) (sz : Nat) (a : Nat → Nat) (p0 : Int32) (p1 : Int32) : Met l yX11_remove (wz yX11_remove cX11_remove 3 (some .int)) { frames := 1, cells := 0, slots := 0, locals := 60 } (va_Pc [.ref (a 0), .int p0, .int p1] (zW D sz [((a 0), .inr (11, [.ref (a 1), .ref (a 2), .ref (a 3), .ref (a 4), .ref (a 5), .ref (a 6), .ref (a 7), .ref (a 8), .ref (a 9), .ref (a 10), .ref (a 11), .ref (a 12), .int 0])), ((a 12), .inr (1, [.ref (a 13), .ref (a 14), .ref (a 15), .int 1, .ref (a 10), .ref (a 16), .ref (a 17), .ref (a 18), .ref (a 19)])), ((a 13), .inr (8, [.int 0, .int 0, .long 0, .ref (a 60), .ref (a 61), .ref (a 62), .ref (a 63), .ref (a 64), .ref (a 65), .ref (a 66), .ref (a 67)])), ((a 66), .inl (D.1 13, 8, .inl (fun _ => (-2)))), ((a 9), .inl (D.1 13, 6, .inl (fun _ => 0)))])) (va_Qi (fun r (_ : Unit) => r = (-1)) (fun u t => zB D (va_A [((a 0), .inr (11, [.ref (a 1), .ref (a 2), .ref (a 3), .ref (a 4), .ref (a 5), .ref (a 6), .ref (a 7), .ref (a 8), .ref (a 9), .ref (a 10), .ref (a 11), .ref (a 12), .int 0])), ((a 12), .inr (1, [.ref (a 13), .ref (a 14), .ref (a 15), .int 1, .ref (a 10), .ref (a 16), .ref (a 17), .ref (a 18), .ref (a 19)])), ((a 13), .inr (8, [.int 0, .int 0, .long 0, .ref (a 60), .ref (a 61), .ref (a 62), .ref (a 63), .ref (a 64), .ref (a 65), .ref (a 66), .ref (a 67)])), ((a 66), .inl (D.1 13, 8, .inl (fun _ => (-2)))), ((a 9), .inl (D.1 13, 6, .inl (fun _ => 0)))] sz) ((fun (_ : Unit) => []) u) t) (va_A [((a 0), .inr (11, [.ref (a 1), .ref (a 2), .ref (a 3), .ref (a 4), .ref (a 5), .ref (a 6), .ref (a 7), .ref (a 8), .ref (a 9), .ref (a 10), .ref (a 11), .ref (a 12), .int 0])), ((a 12), .inr (1, [.ref (a 13), .ref (a 14), .ref (a 15), .int 1, .ref (a 10), .ref (a 16), .ref (a 17), .ref (a 18), .ref (a 19)])), ((a 13), .inr (8, [.int 0, .int 0, .long 0, .ref (a 60), .ref (a 61), .ref (a 62), .ref (a 63), .ref (a 64), .ref (a 65), .ref (a 66), .ref (a 67)])), ((a 66), .inl (D.1 13, 8, .inl (fun _ => (-2)))), ((a 9), .inl (D.1 13, 6, .inl (fun _ => 0)))] sz)) 0 0 (va_A [((a 0), .inr (11, [.ref (a 1), .ref (a 2), .ref (a 3), .ref (a 4), .ref (a 5), .ref (a 6), .ref (a 7), .ref (a 8), .ref (a 9), .ref (a 10), .ref (a 11), .ref (a 12), .int 0])), ((a 12), .inr (1, [.ref (a 13), .ref (a 14), .ref (a 15), .int 1, .ref (a 10), .ref (a 16), .ref (a 17), .ref (a 18), .ref (a 19)])), ((a 13), .inr (8, [.int 0, .int 0, .long 0, .ref (a 60), .ref (a 61), .ref (a 62), .ref (a 63), .ref (a 64), .ref (a 65), .ref (a 66), .ref (a 67)])), ((a 66), .inl (D.1 13, 8, .inl (fun _ => (-2)))), ((a 9), .inl (D.1 13, 6, .inl (fun _ => 0)))] sz) := by
  refine Met.ofW (cc := cX11_remove) (maxL := 3) (ret := (some .int)) (by decide) rfl ?_
  intro p e s m args below meth c s₁ B hml hv
  obtain ⟨rfl, hsz, hP, hK, hD0⟩ := hv
  have hx := B.exec
  have hb := B.bytes
  have hr := B.returns
  have hts := atoms_spec (ws := wz yX11_remove cX11_remove 3 (some .int)) B.pre
  have ht : ∀ w ∈ lw_gd, w.before _ s = true := fun w h => hts w (List.mem_cons_of_mem _ h)
  have hown : s.vm.findClass RX11 = some m.cls := findClass_of_methodNamed B.named
  have hlocks := B.notSynchronized
  subst hsz
  have hD := hD0.self (sz := s.heap.size)
  generalize hAe : va_A [((a 0), .inr (11, [.ref (a 1), .ref (a 2), .ref (a 3), .ref (a 4), .ref (a 5), .ref (a 6), .ref (a 7), .ref (a 8), .ref (a 9), .ref (a 10), .ref (a 11), .ref (a 12), .int 0])), ((a 12), .inr (1, [.ref (a 13), .ref (a 14), .ref (a 15), .int 1, .ref (a 10), .ref (a 16), .ref (a 17), .ref (a 18), .ref (a 19)])), ((a 13), .inr (8, [.int 0, .int 0, .long 0, .ref (a 60), .ref (a 61), .ref (a 62), .ref (a 63), .ref (a 64), .ref (a 65), .ref (a 66), .ref (a 67)])), ((a 66), .inl (D.1 13, 8, .inl (fun _ => (-2)))), ((a 9), .inl (D.1 13, 6, .inl (fun _ => 0)))] s.heap.size = A at hD ⊢
  have hA : ∀ q : Nat, s.heap.size ≤ q → A q := fun q h => by rw [← hAe]; exact Or.inr h
  have hS : va_S A s.heap s.heap [] := va_S.rf
  have hl := lv_entry ([.ref (a 0), .int p0, .int p1]) (n := 3) (Nat.le_of_ble_eq_true rfl)
  rw [lg_entry_eq]
  generalize (lg_sl ([.ref (a 0), .int p0, .int p1]) ++ List.replicate (3 - (lg_sl ([.ref (a 0), .int p0, .int p1])).length) Slot.unset).toArray = ls at hl ⊢
  have hl : lv_has ls 3 [(0, .ref (a 0)), (1, .int p0), (2, .int p1)] := hl
  refine lv_aload_n hx hb dX11_remove_0 rfl (lv_at hl 0 rfl) ?_
  refine va_get (D := D) (ci := 11) (v := .ref (a 12)) (C := RX11) (T := TX11) (N := 13) hx hb ht inX11 hown hK hP 0 rfl rfl 11 (by decide) (ht (.fieldLink RX11 79 "CloneVolumes" "forest" "LCloneVolumes$Forest;") fl_X11_79) (fun _ h9 => h9) rfl dX11_remove_1 ?_
  refine va_get (D := D) (ci := 1) (v := .ref (a 13)) (C := RX1) (T := TX1) (N := 9) hx hb ht inX1 hown hK hP 1 rfl rfl 0 (by decide) (ht (.fieldLink RX11 125 "CloneVolumes$Forest" "now" "LCloneVolumes$State;") fl_X11_125) (fun _ h9 => h9) rfl dX11_remove_4 ?_
  refine lv_iload_n hx hb dX11_remove_7 rfl (lv_at hl 1 rfl) ?_
  refine zcV (As := [.int p0]) (rest := []) (C := RX8) (n := 1) ⟨hx, hb, hml, hown, ht⟩ (k_X8_isVolume l D a p0) (zgV ml_X11_161 im_X8_isVolume se_X8_isVolume in_X8 co_X8_isVolume) rfl rfl (by decide +kernel) ⟨Nat.le_of_ble_eq_true rfl, Nat.le_of_ble_eq_true rfl⟩ hK hP hS [2, 3] rfl 0 rfl rfl rfl rfl hl.1 rfl (Nat.le_of_ble_eq_true rfl) dX11_remove_8 ⟨Nat.le_of_ble_eq_true rfl, Nat.le_of_ble_eq_true rfl⟩ (fun r_1 H locs hw hP hS => ?_)
  subst hw
  refine lv_if_ne (tgt := 20) hx hb dX11_remove_11 (by decide) (fun c_2 => (z_abs c_2 (by decide)).elim) (fun _ => ?_)
  refine lv_aload_n hx hb dX11_remove_14 rfl (lv_at hl 0 rfl) ?_
  refine lv_iconst (v := 2) hx hb dX11_remove_15 (by decide) ?_
  refine zwV (As := [.int 2]) (rest := []) (C := RX11) (n := 1) (wr := [((a 12), .inr (1, [.ref (a 13), .ref (a 14), .ref (a 15), .int 1, .ref (a 10), .ref (a 16), .ref (a 17), .ref (a 18), .ref (a 19)])), ((a 13), .inr (8, [.int 0, .int 0, .long 0, .ref (a 60), .ref (a 61), .ref (a 62), .ref (a 63), .ref (a 64), .ref (a 65), .ref (a 66), .ref (a 67)])), ((a 66), .inl (D.1 13, 8, .inl (fun _ => (-2))))]) ⟨hx, hb, hml, hown, ht⟩ (k_X11_refuse l D _ a 2 (by first | decide | omega)) (zgV ml_X11_87 im_X11_refuse se_X11_refuse in_X11 co_X11_refuse) rfl rfl (by decide +kernel) ⟨Nat.le_of_ble_eq_true rfl, Nat.le_of_ble_eq_true rfl⟩ hK hP hD hS hA [0, 4] [1, 2, 3] rfl rfl rfl rfl (by decide) 0 rfl rfl rfl rfl hl.1 rfl (Nat.le_of_ble_eq_true rfl) dX11_remove_16 ⟨Nat.le_of_ble_eq_true rfl, Nat.le_of_ble_eq_true rfl⟩ (fun r_5 u_4 H locs hw hP hD hS => ?_)
  have hP : va_P D vwCl [((a 12), .inr (1, [.ref (a 13), .ref (a 14), .ref (a 15), .int 1, .ref (a 10), .ref (a 16), .ref (a 17), .ref (a 18), .ref (a 19)])), ((a 13), .inr (8, [.int 0, .int 0, .long 0, .ref (a 60), .ref (a 61), .ref (a 62), .ref (a 63), .ref (a 64), .ref (a 65), .ref (a 66), .ref (a 67)])), ((a 66), .inl (D.1 13, 8, .inl (fun _ => (-2))))] H := hP
  have hD : va_D A [((a 12), .inr (1, [.ref (a 13), .ref (a 14), .ref (a 15), .int 1, .ref (a 10), .ref (a 16), .ref (a 17), .ref (a 18), .ref (a 19)])), ((a 13), .inr (8, [.int 0, .int 0, .long 0, .ref (a 60), .ref (a 61), .ref (a 62), .ref (a 63), .ref (a 64), .ref (a 65), .ref (a 66), .ref (a 67)])), ((a 66), .inl (D.1 13, 8, .inl (fun _ => (-2))))] := hD
  subst hw
  have hP9 := hP.sub (ws' := []) [] rfl
  have hD9 := hD.sub (ws' := []) [] (by decide) rfl
  refine W.widen (k := 0) (n := 0) (Nat.le_of_ble_eq_true rfl) (Nat.le_of_ble_eq_true rfl) ?_
  exact W.iret (v := (-1)) hx hb hr (fun t ht hW => ⟨⟨(-1), (), rfl, rfl, by rw [ht]; exact hP9, va_K.moved hW.alike hK, hD9⟩, hS.F ht⟩) hS.2.2 dX11_remove_19
set_option maxHeartbeats 4000000 in
set_option maxRecDepth 100000 in
theorem k_X11_copy (l : Launch) (D : va_G) (sz : Nat) (a : Nat → Nat) (p0 : Int32) : Met l yX11_copy (wz yX11_copy cX11_copy 3 (some .int)) { frames := 2, cells := 0, slots := 0, locals := 120 } (va_Pc [.ref (a 0), .int p0] (zW D sz [((a 0), .inr (11, [.ref (a 1), .ref (a 2), .ref (a 3), .ref (a 4), .ref (a 5), .ref (a 6), .ref (a 7), .ref (a 8), .ref (a 9), .ref (a 10), .ref (a 11), .ref (a 12), .int 0])), ((a 12), .inr (1, [.ref (a 13), .ref (a 14), .ref (a 15), .int 1, .ref (a 10), .ref (a 16), .ref (a 17), .ref (a 18), .ref (a 19)])), ((a 13), .inr (8, [.int 0, .int 0, .long 0, .ref (a 60), .ref (a 61), .ref (a 62), .ref (a 63), .ref (a 64), .ref (a 65), .ref (a 66), .ref (a 67)])), ((a 66), .inl (D.1 13, 8, .inl (fun _ => (-2)))), ((a 9), .inl (D.1 13, 6, .inl (fun _ => 0)))])) (va_Qi (fun r (_ : Unit) => r = (-1)) (fun u t => zB D (va_A [((a 0), .inr (11, [.ref (a 1), .ref (a 2), .ref (a 3), .ref (a 4), .ref (a 5), .ref (a 6), .ref (a 7), .ref (a 8), .ref (a 9), .ref (a 10), .ref (a 11), .ref (a 12), .int 0])), ((a 12), .inr (1, [.ref (a 13), .ref (a 14), .ref (a 15), .int 1, .ref (a 10), .ref (a 16), .ref (a 17), .ref (a 18), .ref (a 19)])), ((a 13), .inr (8, [.int 0, .int 0, .long 0, .ref (a 60), .ref (a 61), .ref (a 62), .ref (a 63), .ref (a 64), .ref (a 65), .ref (a 66), .ref (a 67)])), ((a 66), .inl (D.1 13, 8, .inl (fun _ => (-2)))), ((a 9), .inl (D.1 13, 6, .inl (fun _ => 0)))] sz) ((fun (_ : Unit) => []) u) t) (va_A [((a 0), .inr (11, [.ref (a 1), .ref (a 2), .ref (a 3), .ref (a 4), .ref (a 5), .ref (a 6), .ref (a 7), .ref (a 8), .ref (a 9), .ref (a 10), .ref (a 11), .ref (a 12), .int 0])), ((a 12), .inr (1, [.ref (a 13), .ref (a 14), .ref (a 15), .int 1, .ref (a 10), .ref (a 16), .ref (a 17), .ref (a 18), .ref (a 19)])), ((a 13), .inr (8, [.int 0, .int 0, .long 0, .ref (a 60), .ref (a 61), .ref (a 62), .ref (a 63), .ref (a 64), .ref (a 65), .ref (a 66), .ref (a 67)])), ((a 66), .inl (D.1 13, 8, .inl (fun _ => (-2)))), ((a 9), .inl (D.1 13, 6, .inl (fun _ => 0)))] sz)) 0 0 (va_A [((a 0), .inr (11, [.ref (a 1), .ref (a 2), .ref (a 3), .ref (a 4), .ref (a 5), .ref (a 6), .ref (a 7), .ref (a 8), .ref (a 9), .ref (a 10), .ref (a 11), .ref (a 12), .int 0])), ((a 12), .inr (1, [.ref (a 13), .ref (a 14), .ref (a 15), .int 1, .ref (a 10), .ref (a 16), .ref (a 17), .ref (a 18), .ref (a 19)])), ((a 13), .inr (8, [.int 0, .int 0, .long 0, .ref (a 60), .ref (a 61), .ref (a 62), .ref (a 63), .ref (a 64), .ref (a 65), .ref (a 66), .ref (a 67)])), ((a 66), .inl (D.1 13, 8, .inl (fun _ => (-2)))), ((a 9), .inl (D.1 13, 6, .inl (fun _ => 0)))] sz) := by
  refine Met.ofW (cc := cX11_copy) (maxL := 3) (ret := (some .int)) (by decide) rfl ?_
  intro p e s m args below meth c s₁ B hml hv
  obtain ⟨rfl, hsz, hP, hK, hD0⟩ := hv
  have hx := B.exec
  have hb := B.bytes
  have hr := B.returns
  have hts := atoms_spec (ws := wz yX11_copy cX11_copy 3 (some .int)) B.pre
  have ht : ∀ w ∈ lw_gd, w.before _ s = true := fun w h => hts w (List.mem_cons_of_mem _ h)
  have hown : s.vm.findClass RX11 = some m.cls := findClass_of_methodNamed B.named
  have hlocks := B.notSynchronized
  subst hsz
  have hD := hD0.self (sz := s.heap.size)
  generalize hAe : va_A [((a 0), .inr (11, [.ref (a 1), .ref (a 2), .ref (a 3), .ref (a 4), .ref (a 5), .ref (a 6), .ref (a 7), .ref (a 8), .ref (a 9), .ref (a 10), .ref (a 11), .ref (a 12), .int 0])), ((a 12), .inr (1, [.ref (a 13), .ref (a 14), .ref (a 15), .int 1, .ref (a 10), .ref (a 16), .ref (a 17), .ref (a 18), .ref (a 19)])), ((a 13), .inr (8, [.int 0, .int 0, .long 0, .ref (a 60), .ref (a 61), .ref (a 62), .ref (a 63), .ref (a 64), .ref (a 65), .ref (a 66), .ref (a 67)])), ((a 66), .inl (D.1 13, 8, .inl (fun _ => (-2)))), ((a 9), .inl (D.1 13, 6, .inl (fun _ => 0)))] s.heap.size = A at hD ⊢
  have hA : ∀ q : Nat, s.heap.size ≤ q → A q := fun q h => by rw [← hAe]; exact Or.inr h
  have hS : va_S A s.heap s.heap [] := va_S.rf
  have hl := lv_entry ([.ref (a 0), .int p0]) (n := 3) (Nat.le_of_ble_eq_true rfl)
  rw [lg_entry_eq]
  generalize (lg_sl ([.ref (a 0), .int p0]) ++ List.replicate (3 - (lg_sl ([.ref (a 0), .int p0])).length) Slot.unset).toArray = ls at hl ⊢
  have hl : lv_has ls 3 [(0, .ref (a 0)), (1, .int p0)] := hl
  refine lv_aload_n hx hb dX11_copy_0 rfl (lv_at hl 0 rfl) ?_
  refine va_get (D := D) (ci := 11) (v := .ref (a 12)) (C := RX11) (T := TX11) (N := 13) hx hb ht inX11 hown hK hP 0 rfl rfl 11 (by decide) (ht (.fieldLink RX11 79 "CloneVolumes" "forest" "LCloneVolumes$Forest;") fl_X11_79) (fun _ h9 => h9) rfl dX11_copy_1 ?_
  refine va_get (D := D) (ci := 1) (v := .ref (a 13)) (C := RX1) (T := TX1) (N := 9) hx hb ht inX1 hown hK hP 1 rfl rfl 0 (by decide) (ht (.fieldLink RX11 125 "CloneVolumes$Forest" "now" "LCloneVolumes$State;") fl_X11_125) (fun _ h9 => h9) rfl dX11_copy_4 ?_
  refine zcV (As := []) (rest := []) (C := RX8) (n := 0) ⟨hx, hb, hml, hown, ht⟩ (k_X8_freeNumber l D a) (zgV ml_X11_286 im_X8_freeNumber se_X8_freeNumber in_X8 co_X8_freeNumber) rfl rfl (by decide +kernel) ⟨Nat.le_of_ble_eq_true rfl, Nat.le_of_ble_eq_true rfl⟩ hK hP hS [2, 3] rfl 0 rfl rfl rfl rfl hl.1 rfl (Nat.le_of_ble_eq_true rfl) dX11_copy_7 ⟨Nat.le_of_ble_eq_true rfl, Nat.le_of_ble_eq_true rfl⟩ (fun r_1 H locs hw hP hS => ?_)
  subst hw
  refine lv_istore_n (lv' := [(2, .int 0), (0, .ref (a 0)), (1, .int p0)]) hx hb dX11_copy_10 rfl hl (by decide) rfl (fun ls hl => ?_)
  refine lv_aload_n hx hb dX11_copy_11 rfl (lv_at hl 1 rfl) ?_
  refine va_get (D := D) (ci := 11) (v := .ref (a 12)) (C := RX11) (T := TX11) (N := 13) hx hb ht inX11 hown hK hP 0 rfl rfl 11 (by decide) (ht (.fieldLink RX11 79 "CloneVolumes" "forest" "LCloneVolumes$Forest;") fl_X11_79) (fun _ h9 => h9) rfl dX11_copy_12 ?_
  refine va_get (D := D) (ci := 1) (v := .ref (a 13)) (C := RX1) (T := TX1) (N := 9) hx hb ht inX1 hown hK hP 1 rfl rfl 0 (by decide) (ht (.fieldLink RX11 125 "CloneVolumes$Forest" "now" "LCloneVolumes$State;") fl_X11_125) (fun _ h9 => h9) rfl dX11_copy_15 ?_
  refine lv_iload_n hx hb dX11_copy_18 rfl (lv_at hl 2 rfl) ?_
  refine zcV (As := [.int p0]) (rest := []) (C := RX8) (n := 1) ⟨hx, hb, hml, hown, ht⟩ (k_X8_isVolume l D a p0) (zgV ml_X11_161 im_X8_isVolume se_X8_isVolume in_X8 co_X8_isVolume) rfl rfl (by decide +kernel) ⟨Nat.le_of_ble_eq_true rfl, Nat.le_of_ble_eq_true rfl⟩ hK hP hS [2, 3] rfl 0 rfl rfl rfl rfl hl.1 rfl (Nat.le_of_ble_eq_true rfl) dX11_copy_19 ⟨Nat.le_of_ble_eq_true rfl, Nat.le_of_ble_eq_true rfl⟩ (fun r_2 H locs hw hP hS => ?_)
  subst hw
  refine lv_if_eq (tgt := 30) hx hb dX11_copy_22 (by decide) (fun _ => ?_) (fun c_3 => (z_abs c_3 (by decide)).elim)
  refine lv_aload_n hx hb dX11_copy_30 rfl (lv_at hl 1 rfl) ?_
  refine lv_iconst (v := 2) hx hb dX11_copy_31 (by decide) ?_
  refine zwV (As := [.int 2]) (rest := []) (C := RX11) (n := 1) (wr := [((a 12), .inr (1, [.ref (a 13), .ref (a 14), .ref (a 15), .int 1, .ref (a 10), .ref (a 16), .ref (a 17), .ref (a 18), .ref (a 19)])), ((a 13), .inr (8, [.int 0, .int 0, .long 0, .ref (a 60), .ref (a 61), .ref (a 62), .ref (a 63), .ref (a 64), .ref (a 65), .ref (a 66), .ref (a 67)])), ((a 66), .inl (D.1 13, 8, .inl (fun _ => (-2))))]) ⟨hx, hb, hml, hown, ht⟩ (k_X11_refuse l D _ a 2 (by first | decide | omega)) (zgV ml_X11_87 im_X11_refuse se_X11_refuse in_X11 co_X11_refuse) rfl rfl (by decide +kernel) ⟨Nat.le_of_ble_eq_true rfl, Nat.le_of_ble_eq_true rfl⟩ hK hP hD hS hA [0, 4] [1, 2, 3] rfl rfl rfl rfl (by decide) 0 rfl rfl rfl rfl hl.1 rfl (Nat.le_of_ble_eq_true rfl) dX11_copy_32 ⟨Nat.le_of_ble_eq_true rfl, Nat.le_of_ble_eq_true rfl⟩ (fun r_6 u_5 H locs hw hP hD hS => ?_)
  have hP : va_P D vwCl [((a 12), .inr (1, [.ref (a 13), .ref (a 14), .ref (a 15), .int 1, .ref (a 10), .ref (a 16), .ref (a 17), .ref (a 18), .ref (a 19)])), ((a 13), .inr (8, [.int 0, .int 0, .long 0, .ref (a 60), .ref (a 61), .ref (a 62), .ref (a 63), .ref (a 64), .ref (a 65), .ref (a 66), .ref (a 67)])), ((a 66), .inl (D.1 13, 8, .inl (fun _ => (-2))))] H := hP
  have hD : va_D A [((a 12), .inr (1, [.ref (a 13), .ref (a 14), .ref (a 15), .int 1, .ref (a 10), .ref (a 16), .ref (a 17), .ref (a 18), .ref (a 19)])), ((a 13), .inr (8, [.int 0, .int 0, .long 0, .ref (a 60), .ref (a 61), .ref (a 62), .ref (a 63), .ref (a 64), .ref (a 65), .ref (a 66), .ref (a 67)])), ((a 66), .inl (D.1 13, 8, .inl (fun _ => (-2))))] := hD
  subst hw
  have hP9 := hP.sub (ws' := []) [] rfl
  have hD9 := hD.sub (ws' := []) [] (by decide) rfl
  refine W.widen (k := 0) (n := 0) (Nat.le_of_ble_eq_true rfl) (Nat.le_of_ble_eq_true rfl) ?_
  exact W.iret (v := (-1)) hx hb hr (fun t ht hW => ⟨⟨(-1), (), rfl, rfl, by rw [ht]; exact hP9, va_K.moved hW.alike hK, hD9⟩, hS.F ht⟩) hS.2.2 dX11_copy_35
set_option maxHeartbeats 4000000 in
set_option maxRecDepth 100000 in
theorem k_X11_drop (l : Launch) (D : va_G) (sz : Nat) (a : Nat → Nat) (p0 : Int32) : Met l yX11_drop (wz yX11_drop cX11_drop 3 (some .int)) { frames := 1, cells := 0, slots := 0, locals := 60 } (va_Pc [.ref (a 0), .int p0] (zW D sz [((a 0), .inr (11, [.ref (a 1), .ref (a 2), .ref (a 3), .ref (a 4), .ref (a 5), .ref (a 6), .ref (a 7), .ref (a 8), .ref (a 9), .ref (a 10), .ref (a 11), .ref (a 12), .int 0])), ((a 12), .inr (1, [.ref (a 13), .ref (a 14), .ref (a 15), .int 1, .ref (a 10), .ref (a 16), .ref (a 17), .ref (a 18), .ref (a 19)])), ((a 13), .inr (8, [.int 0, .int 0, .long 0, .ref (a 60), .ref (a 61), .ref (a 62), .ref (a 63), .ref (a 64), .ref (a 65), .ref (a 66), .ref (a 67)])), ((a 66), .inl (D.1 13, 8, .inl (fun _ => (-2)))), ((a 9), .inl (D.1 13, 6, .inl (fun _ => 0)))])) (va_Qi (fun r (_ : Unit) => r = (-1)) (fun u t => zB D (va_A [((a 0), .inr (11, [.ref (a 1), .ref (a 2), .ref (a 3), .ref (a 4), .ref (a 5), .ref (a 6), .ref (a 7), .ref (a 8), .ref (a 9), .ref (a 10), .ref (a 11), .ref (a 12), .int 0])), ((a 12), .inr (1, [.ref (a 13), .ref (a 14), .ref (a 15), .int 1, .ref (a 10), .ref (a 16), .ref (a 17), .ref (a 18), .ref (a 19)])), ((a 13), .inr (8, [.int 0, .int 0, .long 0, .ref (a 60), .ref (a 61), .ref (a 62), .ref (a 63), .ref (a 64), .ref (a 65), .ref (a 66), .ref (a 67)])), ((a 66), .inl (D.1 13, 8, .inl (fun _ => (-2)))), ((a 9), .inl (D.1 13, 6, .inl (fun _ => 0)))] sz) ((fun (_ : Unit) => []) u) t) (va_A [((a 0), .inr (11, [.ref (a 1), .ref (a 2), .ref (a 3), .ref (a 4), .ref (a 5), .ref (a 6), .ref (a 7), .ref (a 8), .ref (a 9), .ref (a 10), .ref (a 11), .ref (a 12), .int 0])), ((a 12), .inr (1, [.ref (a 13), .ref (a 14), .ref (a 15), .int 1, .ref (a 10), .ref (a 16), .ref (a 17), .ref (a 18), .ref (a 19)])), ((a 13), .inr (8, [.int 0, .int 0, .long 0, .ref (a 60), .ref (a 61), .ref (a 62), .ref (a 63), .ref (a 64), .ref (a 65), .ref (a 66), .ref (a 67)])), ((a 66), .inl (D.1 13, 8, .inl (fun _ => (-2)))), ((a 9), .inl (D.1 13, 6, .inl (fun _ => 0)))] sz)) 0 0 (va_A [((a 0), .inr (11, [.ref (a 1), .ref (a 2), .ref (a 3), .ref (a 4), .ref (a 5), .ref (a 6), .ref (a 7), .ref (a 8), .ref (a 9), .ref (a 10), .ref (a 11), .ref (a 12), .int 0])), ((a 12), .inr (1, [.ref (a 13), .ref (a 14), .ref (a 15), .int 1, .ref (a 10), .ref (a 16), .ref (a 17), .ref (a 18), .ref (a 19)])), ((a 13), .inr (8, [.int 0, .int 0, .long 0, .ref (a 60), .ref (a 61), .ref (a 62), .ref (a 63), .ref (a 64), .ref (a 65), .ref (a 66), .ref (a 67)])), ((a 66), .inl (D.1 13, 8, .inl (fun _ => (-2)))), ((a 9), .inl (D.1 13, 6, .inl (fun _ => 0)))] sz) := by
  refine Met.ofW (cc := cX11_drop) (maxL := 3) (ret := (some .int)) (by decide) rfl ?_
  intro p e s m args below meth c s₁ B hml hv
  obtain ⟨rfl, hsz, hP, hK, hD0⟩ := hv
  have hx := B.exec
  have hb := B.bytes
  have hr := B.returns
  have hts := atoms_spec (ws := wz yX11_drop cX11_drop 3 (some .int)) B.pre
  have ht : ∀ w ∈ lw_gd, w.before _ s = true := fun w h => hts w (List.mem_cons_of_mem _ h)
  have hown : s.vm.findClass RX11 = some m.cls := findClass_of_methodNamed B.named
  have hlocks := B.notSynchronized
  subst hsz
  have hD := hD0.self (sz := s.heap.size)
  generalize hAe : va_A [((a 0), .inr (11, [.ref (a 1), .ref (a 2), .ref (a 3), .ref (a 4), .ref (a 5), .ref (a 6), .ref (a 7), .ref (a 8), .ref (a 9), .ref (a 10), .ref (a 11), .ref (a 12), .int 0])), ((a 12), .inr (1, [.ref (a 13), .ref (a 14), .ref (a 15), .int 1, .ref (a 10), .ref (a 16), .ref (a 17), .ref (a 18), .ref (a 19)])), ((a 13), .inr (8, [.int 0, .int 0, .long 0, .ref (a 60), .ref (a 61), .ref (a 62), .ref (a 63), .ref (a 64), .ref (a 65), .ref (a 66), .ref (a 67)])), ((a 66), .inl (D.1 13, 8, .inl (fun _ => (-2)))), ((a 9), .inl (D.1 13, 6, .inl (fun _ => 0)))] s.heap.size = A at hD ⊢
  have hA : ∀ q : Nat, s.heap.size ≤ q → A q := fun q h => by rw [← hAe]; exact Or.inr h
  have hS : va_S A s.heap s.heap [] := va_S.rf
  have hl := lv_entry ([.ref (a 0), .int p0]) (n := 3) (Nat.le_of_ble_eq_true rfl)
  rw [lg_entry_eq]
  generalize (lg_sl ([.ref (a 0), .int p0]) ++ List.replicate (3 - (lg_sl ([.ref (a 0), .int p0])).length) Slot.unset).toArray = ls at hl ⊢
  have hl : lv_has ls 3 [(0, .ref (a 0)), (1, .int p0)] := hl
  refine lv_aload_n hx hb dX11_drop_0 rfl (lv_at hl 0 rfl) ?_
  refine va_get (D := D) (ci := 11) (v := .ref (a 12)) (C := RX11) (T := TX11) (N := 13) hx hb ht inX11 hown hK hP 0 rfl rfl 11 (by decide) (ht (.fieldLink RX11 79 "CloneVolumes" "forest" "LCloneVolumes$Forest;") fl_X11_79) (fun _ h9 => h9) rfl dX11_drop_1 ?_
  refine va_get (D := D) (ci := 1) (v := .ref (a 13)) (C := RX1) (T := TX1) (N := 9) hx hb ht inX1 hown hK hP 1 rfl rfl 0 (by decide) (ht (.fieldLink RX11 125 "CloneVolumes$Forest" "now" "LCloneVolumes$State;") fl_X11_125) (fun _ h9 => h9) rfl dX11_drop_4 ?_
  refine lv_iload_n hx hb dX11_drop_7 rfl (lv_at hl 1 rfl) ?_
  refine zcV (As := [.int p0]) (rest := []) (C := RX8) (n := 1) ⟨hx, hb, hml, hown, ht⟩ (k_X8_isVolume l D a p0) (zgV ml_X11_161 im_X8_isVolume se_X8_isVolume in_X8 co_X8_isVolume) rfl rfl (by decide +kernel) ⟨Nat.le_of_ble_eq_true rfl, Nat.le_of_ble_eq_true rfl⟩ hK hP hS [2, 3] rfl 0 rfl rfl rfl rfl hl.1 rfl (Nat.le_of_ble_eq_true rfl) dX11_drop_8 ⟨Nat.le_of_ble_eq_true rfl, Nat.le_of_ble_eq_true rfl⟩ (fun r_1 H locs hw hP hS => ?_)
  subst hw
  refine lv_if_ne (tgt := 20) hx hb dX11_drop_11 (by decide) (fun c_2 => (z_abs c_2 (by decide)).elim) (fun _ => ?_)
  refine lv_aload_n hx hb dX11_drop_14 rfl (lv_at hl 0 rfl) ?_
  refine lv_iconst (v := 2) hx hb dX11_drop_15 (by decide) ?_
  refine zwV (As := [.int 2]) (rest := []) (C := RX11) (n := 1) (wr := [((a 12), .inr (1, [.ref (a 13), .ref (a 14), .ref (a 15), .int 1, .ref (a 10), .ref (a 16), .ref (a 17), .ref (a 18), .ref (a 19)])), ((a 13), .inr (8, [.int 0, .int 0, .long 0, .ref (a 60), .ref (a 61), .ref (a 62), .ref (a 63), .ref (a 64), .ref (a 65), .ref (a 66), .ref (a 67)])), ((a 66), .inl (D.1 13, 8, .inl (fun _ => (-2))))]) ⟨hx, hb, hml, hown, ht⟩ (k_X11_refuse l D _ a 2 (by first | decide | omega)) (zgV ml_X11_87 im_X11_refuse se_X11_refuse in_X11 co_X11_refuse) rfl rfl (by decide +kernel) ⟨Nat.le_of_ble_eq_true rfl, Nat.le_of_ble_eq_true rfl⟩ hK hP hD hS hA [0, 4] [1, 2, 3] rfl rfl rfl rfl (by decide) 0 rfl rfl rfl rfl hl.1 rfl (Nat.le_of_ble_eq_true rfl) dX11_drop_16 ⟨Nat.le_of_ble_eq_true rfl, Nat.le_of_ble_eq_true rfl⟩ (fun r_5 u_4 H locs hw hP hD hS => ?_)
  have hP : va_P D vwCl [((a 12), .inr (1, [.ref (a 13), .ref (a 14), .ref (a 15), .int 1, .ref (a 10), .ref (a 16), .ref (a 17), .ref (a 18), .ref (a 19)])), ((a 13), .inr (8, [.int 0, .int 0, .long 0, .ref (a 60), .ref (a 61), .ref (a 62), .ref (a 63), .ref (a 64), .ref (a 65), .ref (a 66), .ref (a 67)])), ((a 66), .inl (D.1 13, 8, .inl (fun _ => (-2))))] H := hP
  have hD : va_D A [((a 12), .inr (1, [.ref (a 13), .ref (a 14), .ref (a 15), .int 1, .ref (a 10), .ref (a 16), .ref (a 17), .ref (a 18), .ref (a 19)])), ((a 13), .inr (8, [.int 0, .int 0, .long 0, .ref (a 60), .ref (a 61), .ref (a 62), .ref (a 63), .ref (a 64), .ref (a 65), .ref (a 66), .ref (a 67)])), ((a 66), .inl (D.1 13, 8, .inl (fun _ => (-2))))] := hD
  subst hw
  have hP9 := hP.sub (ws' := []) [] rfl
  have hD9 := hD.sub (ws' := []) [] (by decide) rfl
  refine W.widen (k := 0) (n := 0) (Nat.le_of_ble_eq_true rfl) (Nat.le_of_ble_eq_true rfl) ?_
  exact W.iret (v := (-1)) hx hb hr (fun t ht hW => ⟨⟨(-1), (), rfl, rfl, by rw [ht]; exact hP9, va_K.moved hW.alike hK, hD9⟩, hS.F ht⟩) hS.2.2 dX11_drop_19
set_option maxHeartbeats 4000000 in
set_option maxRecDepth 100000 in
theorem k_X11_checkpoint (l : Launch) (D : va_G) (sz : Nat) (a : Nat → Nat)  : Met l yX11_checkpoint (wz yX11_checkpoint cX11_checkpoint 2 (some .int)) { frames := 1, cells := 0, slots := 0, locals := 60 } (va_Pc [.ref (a 0)] (zW D sz [((a 0), .inr (11, [.ref (a 1), .ref (a 2), .ref (a 3), .ref (a 4), .ref (a 5), .ref (a 6), .ref (a 7), .ref (a 8), .ref (a 9), .ref (a 10), .ref (a 11), .ref (a 12), .int 0])), ((a 9), .inl (D.1 13, 6, .inl (fun _ => 0)))])) (va_Qi (fun r (_ : Unit) => r = (-1)) (fun u t => zB D (va_A [((a 0), .inr (11, [.ref (a 1), .ref (a 2), .ref (a 3), .ref (a 4), .ref (a 5), .ref (a 6), .ref (a 7), .ref (a 8), .ref (a 9), .ref (a 10), .ref (a 11), .ref (a 12), .int 0])), ((a 9), .inl (D.1 13, 6, .inl (fun _ => 0)))] sz) ((fun (_ : Unit) => []) u) t) (va_A [((a 0), .inr (11, [.ref (a 1), .ref (a 2), .ref (a 3), .ref (a 4), .ref (a 5), .ref (a 6), .ref (a 7), .ref (a 8), .ref (a 9), .ref (a 10), .ref (a 11), .ref (a 12), .int 0])), ((a 9), .inl (D.1 13, 6, .inl (fun _ => 0)))] sz)) 0 0 (va_A [((a 0), .inr (11, [.ref (a 1), .ref (a 2), .ref (a 3), .ref (a 4), .ref (a 5), .ref (a 6), .ref (a 7), .ref (a 8), .ref (a 9), .ref (a 10), .ref (a 11), .ref (a 12), .int 0])), ((a 9), .inl (D.1 13, 6, .inl (fun _ => 0)))] sz) := by
  refine Met.ofW (cc := cX11_checkpoint) (maxL := 2) (ret := (some .int)) (by decide) rfl ?_
  intro p e s m args below meth c s₁ B hml hv
  obtain ⟨rfl, hsz, hP, hK, hD0⟩ := hv
  have hx := B.exec
  have hb := B.bytes
  have hr := B.returns
  have hts := atoms_spec (ws := wz yX11_checkpoint cX11_checkpoint 2 (some .int)) B.pre
  have ht : ∀ w ∈ lw_gd, w.before _ s = true := fun w h => hts w (List.mem_cons_of_mem _ h)
  have hown : s.vm.findClass RX11 = some m.cls := findClass_of_methodNamed B.named
  have hlocks := B.notSynchronized
  subst hsz
  have hD := hD0.self (sz := s.heap.size)
  generalize hAe : va_A [((a 0), .inr (11, [.ref (a 1), .ref (a 2), .ref (a 3), .ref (a 4), .ref (a 5), .ref (a 6), .ref (a 7), .ref (a 8), .ref (a 9), .ref (a 10), .ref (a 11), .ref (a 12), .int 0])), ((a 9), .inl (D.1 13, 6, .inl (fun _ => 0)))] s.heap.size = A at hD ⊢
  have hA : ∀ q : Nat, s.heap.size ≤ q → A q := fun q h => by rw [← hAe]; exact Or.inr h
  have hS : va_S A s.heap s.heap [] := va_S.rf
  have hl := lv_entry ([.ref (a 0)]) (n := 2) (Nat.le_of_ble_eq_true rfl)
  rw [lg_entry_eq]
  generalize (lg_sl ([.ref (a 0)]) ++ List.replicate (2 - (lg_sl ([.ref (a 0)])).length) Slot.unset).toArray = ls at hl ⊢
  have hl : lv_has ls 2 [(0, .ref (a 0))] := hl
  refine lv_aload_n hx hb dX11_checkpoint_0 rfl (lv_at hl 0 rfl) ?_
  refine va_get (D := D) (ci := 11) (v := .int 0) (C := RX11) (T := TX11) (N := 13) hx hb ht inX11 hown hK hP 0 rfl rfl 12 (by decide) (ht (.fieldLink RX11 112 "CloneVolumes" "told" "Z") fl_X11_112) (fun _ h9 => h9) rfl dX11_checkpoint_1 ?_
  refine lv_if_ne (tgt := 13) hx hb dX11_checkpoint_4 (by decide) (fun c_1 => (z_abs c_1 (by decide)).elim) (fun _ => ?_)
  refine lv_aload_n hx hb dX11_checkpoint_7 rfl (lv_at hl 0 rfl) ?_
  refine lv_iconst (v := 3) hx hb dX11_checkpoint_8 (by decide) ?_
  refine zwV (As := [.int 3]) (rest := []) (C := RX11) (n := 1) (wr := []) ⟨hx, hb, hml, hown, ht⟩ (k_X11_refuse l D _ a 3 (by first | decide | omega)) (zgV ml_X11_87 im_X11_refuse se_X11_refuse in_X11 co_X11_refuse) rfl rfl (by decide +kernel) ⟨Nat.le_of_ble_eq_true rfl, Nat.le_of_ble_eq_true rfl⟩ hK hP hD hS hA [0, 1] [] rfl rfl rfl rfl (by decide) 0 rfl rfl rfl rfl hl.1 rfl (Nat.le_of_ble_eq_true rfl) dX11_checkpoint_9 ⟨Nat.le_of_ble_eq_true rfl, Nat.le_of_ble_eq_true rfl⟩ (fun r_4 u_3 H locs hw hP hD hS => ?_)
  have hP : va_P D vwCl [] H := hP
  have hD : va_D A [] := hD
  subst hw
  have hP9 := hP.sub (ws' := []) [] rfl
  have hD9 := hD.sub (ws' := []) [] (by decide) rfl
  refine W.widen (k := 0) (n := 0) (Nat.le_of_ble_eq_true rfl) (Nat.le_of_ble_eq_true rfl) ?_
  exact W.iret (v := (-1)) hx hb hr (fun t ht hW => ⟨⟨(-1), (), rfl, rfl, by rw [ht]; exact hP9, va_K.moved hW.alike hK, hD9⟩, hS.F ht⟩) hS.2.2 dX11_checkpoint_12
set_option maxHeartbeats 4000000 in
set_option maxRecDepth 100000 in
theorem k_X11_crash (l : Launch) (D : va_G) (sz : Nat) (a : Nat → Nat)  : Met l yX11_crash (wz yX11_crash cX11_crash 2 (some .int)) { frames := 1, cells := 0, slots := 0, locals := 60 } (va_Pc [.ref (a 0)] (zW D sz [((a 0), .inr (11, [.ref (a 1), .ref (a 2), .ref (a 3), .ref (a 4), .ref (a 5), .ref (a 6), .ref (a 7), .ref (a 8), .ref (a 9), .ref (a 10), .ref (a 11), .ref (a 12), .int 0])), ((a 9), .inl (D.1 13, 6, .inl (fun _ => 0)))])) (va_Qi (fun r (_ : Unit) => r = (-1)) (fun u t => zB D (va_A [((a 0), .inr (11, [.ref (a 1), .ref (a 2), .ref (a 3), .ref (a 4), .ref (a 5), .ref (a 6), .ref (a 7), .ref (a 8), .ref (a 9), .ref (a 10), .ref (a 11), .ref (a 12), .int 0])), ((a 9), .inl (D.1 13, 6, .inl (fun _ => 0)))] sz) ((fun (_ : Unit) => []) u) t) (va_A [((a 0), .inr (11, [.ref (a 1), .ref (a 2), .ref (a 3), .ref (a 4), .ref (a 5), .ref (a 6), .ref (a 7), .ref (a 8), .ref (a 9), .ref (a 10), .ref (a 11), .ref (a 12), .int 0])), ((a 9), .inl (D.1 13, 6, .inl (fun _ => 0)))] sz)) 0 0 (va_A [((a 0), .inr (11, [.ref (a 1), .ref (a 2), .ref (a 3), .ref (a 4), .ref (a 5), .ref (a 6), .ref (a 7), .ref (a 8), .ref (a 9), .ref (a 10), .ref (a 11), .ref (a 12), .int 0])), ((a 9), .inl (D.1 13, 6, .inl (fun _ => 0)))] sz) := by
  refine Met.ofW (cc := cX11_crash) (maxL := 2) (ret := (some .int)) (by decide) rfl ?_
  intro p e s m args below meth c s₁ B hml hv
  obtain ⟨rfl, hsz, hP, hK, hD0⟩ := hv
  have hx := B.exec
  have hb := B.bytes
  have hr := B.returns
  have hts := atoms_spec (ws := wz yX11_crash cX11_crash 2 (some .int)) B.pre
  have ht : ∀ w ∈ lw_gd, w.before _ s = true := fun w h => hts w (List.mem_cons_of_mem _ h)
  have hown : s.vm.findClass RX11 = some m.cls := findClass_of_methodNamed B.named
  have hlocks := B.notSynchronized
  subst hsz
  have hD := hD0.self (sz := s.heap.size)
  generalize hAe : va_A [((a 0), .inr (11, [.ref (a 1), .ref (a 2), .ref (a 3), .ref (a 4), .ref (a 5), .ref (a 6), .ref (a 7), .ref (a 8), .ref (a 9), .ref (a 10), .ref (a 11), .ref (a 12), .int 0])), ((a 9), .inl (D.1 13, 6, .inl (fun _ => 0)))] s.heap.size = A at hD ⊢
  have hA : ∀ q : Nat, s.heap.size ≤ q → A q := fun q h => by rw [← hAe]; exact Or.inr h
  have hS : va_S A s.heap s.heap [] := va_S.rf
  have hl := lv_entry ([.ref (a 0)]) (n := 2) (Nat.le_of_ble_eq_true rfl)
  rw [lg_entry_eq]
  generalize (lg_sl ([.ref (a 0)]) ++ List.replicate (2 - (lg_sl ([.ref (a 0)])).length) Slot.unset).toArray = ls at hl ⊢
  have hl : lv_has ls 2 [(0, .ref (a 0))] := hl
  refine lv_aload_n hx hb dX11_crash_0 rfl (lv_at hl 0 rfl) ?_
  refine va_get (D := D) (ci := 11) (v := .int 0) (C := RX11) (T := TX11) (N := 13) hx hb ht inX11 hown hK hP 0 rfl rfl 12 (by decide) (ht (.fieldLink RX11 112 "CloneVolumes" "told" "Z") fl_X11_112) (fun _ h9 => h9) rfl dX11_crash_1 ?_
  refine lv_if_ne (tgt := 13) hx hb dX11_crash_4 (by decide) (fun c_1 => (z_abs c_1 (by decide)).elim) (fun _ => ?_)
  refine lv_aload_n hx hb dX11_crash_7 rfl (lv_at hl 0 rfl) ?_
  refine lv_iconst (v := 3) hx hb dX11_crash_8 (by decide) ?_
  refine zwV (As := [.int 3]) (rest := []) (C := RX11) (n := 1) (wr := []) ⟨hx, hb, hml, hown, ht⟩ (k_X11_refuse l D _ a 3 (by first | decide | omega)) (zgV ml_X11_87 im_X11_refuse se_X11_refuse in_X11 co_X11_refuse) rfl rfl (by decide +kernel) ⟨Nat.le_of_ble_eq_true rfl, Nat.le_of_ble_eq_true rfl⟩ hK hP hD hS hA [0, 1] [] rfl rfl rfl rfl (by decide) 0 rfl rfl rfl rfl hl.1 rfl (Nat.le_of_ble_eq_true rfl) dX11_crash_9 ⟨Nat.le_of_ble_eq_true rfl, Nat.le_of_ble_eq_true rfl⟩ (fun r_4 u_3 H locs hw hP hD hS => ?_)
  have hP : va_P D vwCl [] H := hP
  have hD : va_D A [] := hD
  subst hw
  have hP9 := hP.sub (ws' := []) [] rfl
  have hD9 := hD.sub (ws' := []) [] (by decide) rfl
  refine W.widen (k := 0) (n := 0) (Nat.le_of_ble_eq_true rfl) (Nat.le_of_ble_eq_true rfl) ?_
  exact W.iret (v := (-1)) hx hb hr (fun t ht hW => ⟨⟨(-1), (), rfl, rfl, by rw [ht]; exact hP9, va_K.moved hW.alike hK, hD9⟩, hS.F ht⟩) hS.2.2 dX11_crash_12
set_option maxHeartbeats 4000000 in
set_option maxRecDepth 100000 in
theorem k_X11_chance (l : Launch) (D : va_G) (sz : Nat) (a : Nat → Nat) (p0 : Int32) : Met l yX11_chance (wz yX11_chance cX11_chance 4 (some .int)) { frames := 1, cells := 0, slots := 0, locals := 60 } (va_Pc [.ref (a 0), .int p0] (zW D sz [((a 0), .inr (11, [.ref (a 1), .ref (a 2), .ref (a 3), .ref (a 4), .ref (a 5), .ref (a 6), .ref (a 7), .ref (a 8), .ref (a 9), .ref (a 10), .ref (a 11), .ref (a 12), .int 0])), ((a 9), .inl (D.1 13, 6, .inl (fun _ => 0)))])) (va_Qi (fun r (_ : Unit) => r = (-1)) (fun u t => zB D (va_A [((a 0), .inr (11, [.ref (a 1), .ref (a 2), .ref (a 3), .ref (a 4), .ref (a 5), .ref (a 6), .ref (a 7), .ref (a 8), .ref (a 9), .ref (a 10), .ref (a 11), .ref (a 12), .int 0])), ((a 9), .inl (D.1 13, 6, .inl (fun _ => 0)))] sz) ((fun (_ : Unit) => []) u) t) (va_A [((a 0), .inr (11, [.ref (a 1), .ref (a 2), .ref (a 3), .ref (a 4), .ref (a 5), .ref (a 6), .ref (a 7), .ref (a 8), .ref (a 9), .ref (a 10), .ref (a 11), .ref (a 12), .int 0])), ((a 9), .inl (D.1 13, 6, .inl (fun _ => 0)))] sz)) 0 0 (va_A [((a 0), .inr (11, [.ref (a 1), .ref (a 2), .ref (a 3), .ref (a 4), .ref (a 5), .ref (a 6), .ref (a 7), .ref (a 8), .ref (a 9), .ref (a 10), .ref (a 11), .ref (a 12), .int 0])), ((a 9), .inl (D.1 13, 6, .inl (fun _ => 0)))] sz) := by
  refine Met.ofW (cc := cX11_chance) (maxL := 4) (ret := (some .int)) (by decide) rfl ?_
  intro p e s m args below meth c s₁ B hml hv
  obtain ⟨rfl, hsz, hP, hK, hD0⟩ := hv
  have hx := B.exec
  have hb := B.bytes
  have hr := B.returns
  have hts := atoms_spec (ws := wz yX11_chance cX11_chance 4 (some .int)) B.pre
  have ht : ∀ w ∈ lw_gd, w.before _ s = true := fun w h => hts w (List.mem_cons_of_mem _ h)
  have hown : s.vm.findClass RX11 = some m.cls := findClass_of_methodNamed B.named
  have hlocks := B.notSynchronized
  subst hsz
  have hD := hD0.self (sz := s.heap.size)
  generalize hAe : va_A [((a 0), .inr (11, [.ref (a 1), .ref (a 2), .ref (a 3), .ref (a 4), .ref (a 5), .ref (a 6), .ref (a 7), .ref (a 8), .ref (a 9), .ref (a 10), .ref (a 11), .ref (a 12), .int 0])), ((a 9), .inl (D.1 13, 6, .inl (fun _ => 0)))] s.heap.size = A at hD ⊢
  have hA : ∀ q : Nat, s.heap.size ≤ q → A q := fun q h => by rw [← hAe]; exact Or.inr h
  have hS : va_S A s.heap s.heap [] := va_S.rf
  have hl := lv_entry ([.ref (a 0), .int p0]) (n := 4) (Nat.le_of_ble_eq_true rfl)
  rw [lg_entry_eq]
  generalize (lg_sl ([.ref (a 0), .int p0]) ++ List.replicate (4 - (lg_sl ([.ref (a 0), .int p0])).length) Slot.unset).toArray = ls at hl ⊢
  have hl : lv_has ls 4 [(0, .ref (a 0)), (1, .int p0)] := hl
  refine lv_aload_n hx hb dX11_chance_0 rfl (lv_at hl 0 rfl) ?_
  refine va_get (D := D) (ci := 11) (v := .int 0) (C := RX11) (T := TX11) (N := 13) hx hb ht inX11 hown hK hP 0 rfl rfl 12 (by decide) (ht (.fieldLink RX11 112 "CloneVolumes" "told" "Z") fl_X11_112) (fun _ h9 => h9) rfl dX11_chance_1 ?_
  refine lv_if_eq (tgt := 18) hx hb dX11_chance_4 (by decide) (fun _ => ?_) (fun c_1 => (z_abs c_1 (by decide)).elim)
  refine lv_aload_n hx hb dX11_chance_18 rfl (lv_at hl 0 rfl) ?_
  refine lv_iconst (v := 3) hx hb dX11_chance_19 (by decide) ?_
  refine zwV (As := [.int 3]) (rest := []) (C := RX11) (n := 1) (wr := []) ⟨hx, hb, hml, hown, ht⟩ (k_X11_refuse l D _ a 3 (by first | decide | omega)) (zgV ml_X11_87 im_X11_refuse se_X11_refuse in_X11 co_X11_refuse) rfl rfl (by decide +kernel) ⟨Nat.le_of_ble_eq_true rfl, Nat.le_of_ble_eq_true rfl⟩ hK hP hD hS hA [0, 1] [] rfl rfl rfl rfl (by decide) 0 rfl rfl rfl rfl hl.1 rfl (Nat.le_of_ble_eq_true rfl) dX11_chance_20 ⟨Nat.le_of_ble_eq_true rfl, Nat.le_of_ble_eq_true rfl⟩ (fun r_4 u_3 H locs hw hP hD hS => ?_)
  have hP : va_P D vwCl [] H := hP
  have hD : va_D A [] := hD
  subst hw
  have hP9 := hP.sub (ws' := []) [] rfl
  have hD9 := hD.sub (ws' := []) [] (by decide) rfl
  refine W.widen (k := 0) (n := 0) (Nat.le_of_ble_eq_true rfl) (Nat.le_of_ble_eq_true rfl) ?_
  exact W.iret (v := (-1)) hx hb hr (fun t ht hW => ⟨⟨(-1), (), rfl, rfl, by rw [ht]; exact hP9, va_K.moved hW.alike hK, hD9⟩, hS.F ht⟩) hS.2.2 dX11_chance_23
set_option maxHeartbeats 4000000 in
set_option maxRecDepth 100000 in
theorem k_X11_on (l : Launch) (D : va_G) (sz : Nat) (a : Nat → Nat)  : Met l yX11_on (wz yX11_on cX11_on 2 (some .boolean)) { frames := 1, cells := 0, slots := 0, locals := 60 } (va_Pc [.ref (a 0)] (zW D sz [((a 0), .inr (11, [.ref (a 1), .ref (a 2), .ref (a 3), .ref (a 4), .ref (a 5), .ref (a 6), .ref (a 7), .ref (a 8), .ref (a 9), .ref (a 10), .ref (a 11), .ref (a 12), .int 0])), ((a 1), .inr (9, [.ref (a 20), .int 0])), ((a 9), .inl (D.1 13, 6, .inl (fun _ => 0)))])) (va_Qi (fun r (_ : Unit) => r = 0) (fun u t => zB D (va_A [((a 0), .inr (11, [.ref (a 1), .ref (a 2), .ref (a 3), .ref (a 4), .ref (a 5), .ref (a 6), .ref (a 7), .ref (a 8), .ref (a 9), .ref (a 10), .ref (a 11), .ref (a 12), .int 0])), ((a 1), .inr (9, [.ref (a 20), .int 0])), ((a 9), .inl (D.1 13, 6, .inl (fun _ => 0)))] sz) ((fun (_ : Unit) => []) u) t) (va_A [((a 0), .inr (11, [.ref (a 1), .ref (a 2), .ref (a 3), .ref (a 4), .ref (a 5), .ref (a 6), .ref (a 7), .ref (a 8), .ref (a 9), .ref (a 10), .ref (a 11), .ref (a 12), .int 0])), ((a 1), .inr (9, [.ref (a 20), .int 0])), ((a 9), .inl (D.1 13, 6, .inl (fun _ => 0)))] sz)) 0 0 (va_A [((a 0), .inr (11, [.ref (a 1), .ref (a 2), .ref (a 3), .ref (a 4), .ref (a 5), .ref (a 6), .ref (a 7), .ref (a 8), .ref (a 9), .ref (a 10), .ref (a 11), .ref (a 12), .int 0])), ((a 1), .inr (9, [.ref (a 20), .int 0])), ((a 9), .inl (D.1 13, 6, .inl (fun _ => 0)))] sz) := by
  refine Met.ofW (cc := cX11_on) (maxL := 2) (ret := (some .boolean)) (by decide) rfl ?_
  intro p e s m args below meth c s₁ B hml hv
  obtain ⟨rfl, hsz, hP, hK, hD0⟩ := hv
  have hx := B.exec
  have hb := B.bytes
  have hr := B.returns
  have hts := atoms_spec (ws := wz yX11_on cX11_on 2 (some .boolean)) B.pre
  have ht : ∀ w ∈ lw_gd, w.before _ s = true := fun w h => hts w (List.mem_cons_of_mem _ h)
  have hown : s.vm.findClass RX11 = some m.cls := findClass_of_methodNamed B.named
  have hlocks := B.notSynchronized
  subst hsz
  have hD := hD0.self (sz := s.heap.size)
  generalize hAe : va_A [((a 0), .inr (11, [.ref (a 1), .ref (a 2), .ref (a 3), .ref (a 4), .ref (a 5), .ref (a 6), .ref (a 7), .ref (a 8), .ref (a 9), .ref (a 10), .ref (a 11), .ref (a 12), .int 0])), ((a 1), .inr (9, [.ref (a 20), .int 0])), ((a 9), .inl (D.1 13, 6, .inl (fun _ => 0)))] s.heap.size = A at hD ⊢
  have hA : ∀ q : Nat, s.heap.size ≤ q → A q := fun q h => by rw [← hAe]; exact Or.inr h
  have hS : va_S A s.heap s.heap [] := va_S.rf
  have hl := lv_entry ([.ref (a 0)]) (n := 2) (Nat.le_of_ble_eq_true rfl)
  rw [lg_entry_eq]
  generalize (lg_sl ([.ref (a 0)]) ++ List.replicate (2 - (lg_sl ([.ref (a 0)])).length) Slot.unset).toArray = ls at hl ⊢
  have hl : lv_has ls 2 [(0, .ref (a 0))] := hl
  refine lv_aload_n hx hb dX11_on_0 rfl (lv_at hl 0 rfl) ?_
  refine va_get (D := D) (ci := 11) (v := .int 0) (C := RX11) (T := TX11) (N := 13) hx hb ht inX11 hown hK hP 0 rfl rfl 12 (by decide) (ht (.fieldLink RX11 112 "CloneVolumes" "told" "Z") fl_X11_112) (fun _ h9 => h9) rfl dX11_on_1 ?_
  refine lv_if_eq (tgt := 46) hx hb dX11_on_4 (by decide) (fun _ => ?_) (fun c_1 => (z_abs c_1 (by decide)).elim)
  refine lv_iconst (v := 0) hx hb dX11_on_46 (by decide) ?_
  refine lv_istore_n (lv' := [(1, .int 0), (0, .ref (a 0))]) hx hb dX11_on_47 rfl hl (by decide) rfl (fun ls hl => ?_)
  refine lv_aload_n hx hb dX11_on_48 rfl (lv_at hl 1 rfl) ?_
  refine va_get (D := D) (ci := 11) (v := .ref (a 1)) (C := RX11) (T := TX11) (N := 13) hx hb ht inX11 hown hK hP 0 rfl rfl 0 (by decide) (ht (.fieldLink RX11 12 "CloneVolumes" "tape" "LCloneVolumes$Tape;") fl_X11_12) (fun _ h9 => h9) rfl dX11_on_49 ?_
  refine lv_iconst (v := 0) hx hb dX11_on_52 (by decide) ?_
  refine va_put (D := D) (ci := 9) (v := .int 0) (ty := .int) (C := RX9) (T := TX9) (N := 2) hx hb ht inX9 tyX9 tyX9_ok nmX9 hown hK hP hD hS 1 rfl rfl 1 (by decide) (ht (.fieldLink RX11 95 "CloneVolumes$Tape" "length" "I") fl_X11_95) (fun _ h9 => h9) rfl (by decide +kernel) rfl rfl (Nat.le_of_ble_eq_true rfl) dX11_on_53 (fun H locs hP hD hS => ?_)
  have hP : va_P D vwCl [((a 0), .inr (11, [.ref (a 1), .ref (a 2), .ref (a 3), .ref (a 4), .ref (a 5), .ref (a 6), .ref (a 7), .ref (a 8), .ref (a 9), .ref (a 10), .ref (a 11), .ref (a 12), .int 0])), ((a 1), .inr (9, [.ref (a 20), .int 0])), ((a 9), .inl (D.1 13, 6, .inl (fun _ => 0)))] H := hP
  have hD : va_D A [((a 0), .inr (11, [.ref (a 1), .ref (a 2), .ref (a 3), .ref (a 4), .ref (a 5), .ref (a 6), .ref (a 7), .ref (a 8), .ref (a 9), .ref (a 10), .ref (a 11), .ref (a 12), .int 0])), ((a 1), .inr (9, [.ref (a 20), .int 0])), ((a 9), .inl (D.1 13, 6, .inl (fun _ => 0)))] := hD
  refine lv_iload_n hx hb dX11_on_56 rfl (lv_at hl 0 rfl) ?_
  refine lv_if_ne (tgt := 68) hx hb dX11_on_57 (by decide) (fun c_3 => (z_abs c_3 (by decide)).elim) (fun _ => ?_)
  refine lv_aload_n hx hb dX11_on_60 rfl (lv_at hl 1 rfl) ?_
  refine lv_iconst (v := 5) hx hb dX11_on_61 (by decide) ?_
  refine zwV (As := [.int 5]) (rest := []) (C := RX11) (n := 1) (wr := [((a 1), .inr (9, [.ref (a 20), .int 0]))]) ⟨hx, hb, hml, hown, ht⟩ (k_X11_refuse l D _ a 5 (by first | decide | omega)) (zgV ml_X11_87 im_X11_refuse se_X11_refuse in_X11 co_X11_refuse) rfl rfl (by decide +kernel) ⟨Nat.le_of_ble_eq_true rfl, Nat.le_of_ble_eq_true rfl⟩ hK hP hD hS hA [0, 2] [1] rfl rfl rfl rfl (by decide) 0 rfl rfl rfl rfl hl.1 rfl (Nat.le_of_ble_eq_true rfl) dX11_on_62 ⟨Nat.le_of_ble_eq_true rfl, Nat.le_of_ble_eq_true rfl⟩ (fun r_6 u_5 H locs hw hP hD hS => ?_)
  have hP : va_P D vwCl [((a 1), .inr (9, [.ref (a 20), .int 0]))] H := hP
  have hD : va_D A [((a 1), .inr (9, [.ref (a 20), .int 0]))] := hD
  subst hw
  refine lv_pop hx hb dX11_on_65 rfl ?_
  refine lv_iconst (v := 0) hx hb dX11_on_66 (by decide) ?_
  have hP9 := hP.sub (ws' := []) [] rfl
  have hD9 := hD.sub (ws' := []) [] (by decide) rfl
  refine W.widen (k := 0) (n := 0) (Nat.le_of_ble_eq_true rfl) (Nat.le_of_ble_eq_true rfl) ?_
  exact W.zret (v := 0) hx hb hr (by decide) (fun t ht hW => ⟨⟨0, (), rfl, rfl, by rw [ht]; exact hP9, va_K.moved hW.alike hK, hD9⟩, hS.F ht⟩) hS.2.2 dX11_on_67
set_option maxHeartbeats 4000000 in
set_option maxRecDepth 100000 in
theorem k_X11_ask (l : Launch) (D : va_G) (sz : Nat) (a : Nat → Nat)  : Met l yX11_ask (wz yX11_ask cX11_ask 2 (some .long)) { frames := 0, cells := 0, slots := 0, locals := 0 } (va_Pc [.ref (a 0)] (zW D sz [((a 0), .inr (11, [.ref (a 1), .ref (a 2), .ref (a 3), .ref (a 4), .ref (a 5), .ref (a 6), .ref (a 7), .ref (a 8), .ref (a 9), .ref (a 10), .ref (a 11), .ref (a 12), .int 0])), ((a 1), .inr (9, [.ref (a 20), .int 0]))])) (va_Ql (fun r (_ : Unit) => r = (-1000000000000000)) (fun u t => zB D (va_A [((a 0), .inr (11, [.ref (a 1), .ref (a 2), .ref (a 3), .ref (a 4), .ref (a 5), .ref (a 6), .ref (a 7), .ref (a 8), .ref (a 9), .ref (a 10), .ref (a 11), .ref (a 12), .int 0])), ((a 1), .inr (9, [.ref (a 20), .int 0]))] sz) ((fun (_ : Unit) => []) u) t) (va_A [((a 0), .inr (11, [.ref (a 1), .ref (a 2), .ref (a 3), .ref (a 4), .ref (a 5), .ref (a 6), .ref (a 7), .ref (a 8), .ref (a 9), .ref (a 10), .ref (a 11), .ref (a 12), .int 0])), ((a 1), .inr (9, [.ref (a 20), .int 0]))] sz)) 0 0 (va_A [((a 0), .inr (11, [.ref (a 1), .ref (a 2), .ref (a 3), .ref (a 4), .ref (a 5), .ref (a 6), .ref (a 7), .ref (a 8), .ref (a 9), .ref (a 10), .ref (a 11), .ref (a 12), .int 0])), ((a 1), .inr (9, [.ref (a 20), .int 0]))] sz) := by
  refine Met.ofW (cc := cX11_ask) (maxL := 2) (ret := (some .long)) (by decide) rfl ?_
  intro p e s m args below meth c s₁ B hml hv
  obtain ⟨rfl, hsz, hP, hK, hD0⟩ := hv
  have hx := B.exec
  have hb := B.bytes
  have hr := B.returns
  have hts := atoms_spec (ws := wz yX11_ask cX11_ask 2 (some .long)) B.pre
  have ht : ∀ w ∈ lw_gd, w.before _ s = true := fun w h => hts w (List.mem_cons_of_mem _ h)
  have hown : s.vm.findClass RX11 = some m.cls := findClass_of_methodNamed B.named
  have hlocks := B.notSynchronized
  subst hsz
  have hD := hD0.self (sz := s.heap.size)
  generalize hAe : va_A [((a 0), .inr (11, [.ref (a 1), .ref (a 2), .ref (a 3), .ref (a 4), .ref (a 5), .ref (a 6), .ref (a 7), .ref (a 8), .ref (a 9), .ref (a 10), .ref (a 11), .ref (a 12), .int 0])), ((a 1), .inr (9, [.ref (a 20), .int 0]))] s.heap.size = A at hD ⊢
  have hA : ∀ q : Nat, s.heap.size ≤ q → A q := fun q h => by rw [← hAe]; exact Or.inr h
  have hS : va_S A s.heap s.heap [] := va_S.rf
  have hl := lv_entry ([.ref (a 0)]) (n := 2) (Nat.le_of_ble_eq_true rfl)
  rw [lg_entry_eq]
  generalize (lg_sl ([.ref (a 0)]) ++ List.replicate (2 - (lg_sl ([.ref (a 0)])).length) Slot.unset).toArray = ls at hl ⊢
  have hl : lv_has ls 2 [(0, .ref (a 0))] := hl
  refine lv_aload_n hx hb dX11_ask_0 rfl (lv_at hl 0 rfl) ?_
  refine va_get (D := D) (ci := 11) (v := .int 0) (C := RX11) (T := TX11) (N := 13) hx hb ht inX11 hown hK hP 0 rfl rfl 12 (by decide) (ht (.fieldLink RX11 112 "CloneVolumes" "told" "Z") fl_X11_112) (fun _ h9 => h9) rfl dX11_ask_1 ?_
  refine lv_if_ne (tgt := 19) hx hb dX11_ask_4 (by decide) (fun c_1 => (z_abs c_1 (by decide)).elim) (fun _ => ?_)
  refine lv_aload_n hx hb dX11_ask_7 rfl (lv_at hl 0 rfl) ?_
  refine va_get (D := D) (ci := 11) (v := .ref (a 1)) (C := RX11) (T := TX11) (N := 13) hx hb ht inX11 hown hK hP 0 rfl rfl 0 (by decide) (ht (.fieldLink RX11 12 "CloneVolumes" "tape" "LCloneVolumes$Tape;") fl_X11_12) (fun _ h9 => h9) rfl dX11_ask_8 ?_
  refine lv_iconst (v := 0) hx hb dX11_ask_11 (by decide) ?_
  refine va_put (D := D) (ci := 9) (v := .int 0) (ty := .int) (C := RX9) (T := TX9) (N := 2) hx hb ht inX9 tyX9 tyX9_ok nmX9 hown hK hP hD hS 1 rfl rfl 1 (by decide) (ht (.fieldLink RX11 95 "CloneVolumes$Tape" "length" "I") fl_X11_95) (fun _ h9 => h9) rfl (by decide +kernel) rfl rfl (Nat.le_of_ble_eq_true rfl) dX11_ask_12 (fun H locs hP hD hS => ?_)
  have hP : va_P D vwCl [((a 0), .inr (11, [.ref (a 1), .ref (a 2), .ref (a 3), .ref (a 4), .ref (a 5), .ref (a 6), .ref (a 7), .ref (a 8), .ref (a 9), .ref (a 10), .ref (a 11), .ref (a 12), .int 0])), ((a 1), .inr (9, [.ref (a 20), .int 0]))] H := hP
  have hD : va_D A [((a 0), .inr (11, [.ref (a 1), .ref (a 2), .ref (a 3), .ref (a 4), .ref (a 5), .ref (a 6), .ref (a 7), .ref (a 8), .ref (a 9), .ref (a 10), .ref (a 11), .ref (a 12), .int 0])), ((a 1), .inr (9, [.ref (a 20), .int 0]))] := hD
  refine lv_ldc2 (own := RX11) (v := (-1000000000000000)) hx hb hown (ht _ cl_X11_319) dX11_ask_15 ?_
  have hP9 := hP.sub (ws' := []) [] rfl
  have hD9 := hD.sub (ws' := []) [] (by decide) rfl
  refine W.widen (k := 0) (n := 0) (Nat.le_of_ble_eq_true rfl) (Nat.le_of_ble_eq_true rfl) ?_
  exact W.lret (v := (-1000000000000000)) hx hb hr (fun t ht hW => ⟨⟨(-1000000000000000), (), rfl, rfl, by rw [ht]; exact hP9, va_K.moved hW.alike hK, hD9⟩, hS.F ht⟩) hS.2.2 dX11_ask_18
end
section
theorem fl_X7_37 : Cond.fieldLink RX7 37 "CloneVolumes$Sight" "fits" "I" ∈ lw_gd := zm (List.mem_of_getElem? (i := 379) (by decide +kernel)) rfl
theorem ml_X7_40 : Cond.methodLink RX7 40 yX8_isVolume ∈ lw_gd := zm (List.mem_of_getElem? (i := 1303) (by decide +kernel)) rfl
theorem ml_X11_262 : Cond.methodLink RX11 262 yX7_findFits ∈ lw_gd := zm (List.mem_of_getElem? (i := 1299) (by decide +kernel)) rfl
theorem im_X7_findFits : Cond.instanceMethod yX7_findFits ∈ lw_gd := zm (List.mem_of_getElem? (i := 1300) (by decide +kernel)) rfl
theorem se_X7_findFits : Cond.selects RX7 yX7_findFits yX7_findFits ∈ lw_gd := zm (List.mem_of_getElem? (i := 1301) (by decide +kernel)) rfl
theorem co_X7_findFits : Cond.code yX7_findFits cX7_findFits 3 (some .int) ∈ lw_gd := zm (List.mem_of_getElem? (i := 1302) (by decide +kernel)) rfl
theorem fl_X11_56 : Cond.fieldLink RX11 56 "CloneVolumes" "trees" "[J" ∈ lw_gd := zm (List.mem_of_getElem? (i := 707) (by decide +kernel)) rfl
theorem ml_X11_243 : Cond.methodLink RX11 243 yX11_growTrees ∈ lw_gd := zm (List.mem_of_getElem? (i := 1251) (by decide +kernel)) rfl
theorem im_X11_growTrees : Cond.instanceMethod yX11_growTrees ∈ lw_gd := zm (List.mem_of_getElem? (i := 1253) (by decide +kernel)) rfl
theorem se_X11_growTrees : Cond.selects RX11 yX11_growTrees yX11_growTrees ∈ lw_gd := zm (List.mem_of_getElem? (i := 50) (by decide +kernel)) rfl
theorem co_X11_growTrees : Cond.code yX11_growTrees cX11_growTrees 3 none ∈ lw_gd := zm (List.mem_of_getElem? (i := 1254) (by decide +kernel)) rfl
theorem dX11_fits_0 : decode cX11_fits 0 = .ok (.aload_n 0, 1) := by decide +kernel
theorem dX11_fits_1 : decode cX11_fits 1 = .ok (.getfield 35, 3) := by decide +kernel
theorem dX11_fits_4 : decode cX11_fits 4 = .ok (.aload_n 0, 1) := by decide +kernel
theorem dX11_fits_5 : decode cX11_fits 5 = .ok (.getfield 79, 3) := by decide +kernel
theorem dX11_fits_8 : decode cX11_fits 8 = .ok (.getfield 125, 3) := by decide +kernel
theorem dX11_fits_11 : decode cX11_fits 11 = .ok (.invokevirtual 262, 3) := by decide +kernel
theorem dX11_fits_14 : decode cX11_fits 14 = .ok (.istore_n 2, 1) := by decide +kernel
theorem dX11_fits_15 : decode cX11_fits 15 = .ok (.iload_n 1, 1) := by decide +kernel
theorem dX11_fits_16 : decode cX11_fits 16 = .ok (.iconst (-1), 1) := by decide +kernel
theorem dX11_fits_17 : decode cX11_fits 17 = .ok (.if_icmp .ne 5, 3) := by decide +kernel
theorem dX11_fits_20 : decode cX11_fits 20 = .ok (.iload_n 2, 1) := by decide +kernel
theorem dX11_fits_21 : decode cX11_fits 21 = .ok (.ireturn, 1) := by decide +kernel
theorem dX11_fits_22 : decode cX11_fits 22 = .ok (.iload_n 1, 1) := by decide +kernel
theorem dX11_fits_23 : decode cX11_fits 23 = .ok (.ifCond .lt 20, 3) := by decide +kernel
theorem dX11_fits_26 : decode cX11_fits 26 = .ok (.iload_n 1, 1) := by decide +kernel
theorem dX11_fits_27 : decode cX11_fits 27 = .ok (.iload_n 2, 1) := by decide +kernel
theorem dX11_fits_28 : decode cX11_fits 28 = .ok (.if_icmp .ge 15, 3) := by decide +kernel
theorem dX11_fits_43 : decode cX11_fits 43 = .ok (.iconst (-1), 1) := by decide +kernel
theorem dX11_fits_44 : decode cX11_fits 44 = .ok (.ireturn, 1) := by decide +kernel
theorem dX11_growTrees_0 : decode cX11_growTrees 0 = .ok (.aload_n 0, 1) := by decide +kernel
theorem dX11_growTrees_1 : decode cX11_growTrees 1 = .ok (.getfield 79, 3) := by decide +kernel
theorem dX11_growTrees_4 : decode cX11_growTrees 4 = .ok (.getfield 125, 3) := by decide +kernel
theorem dX11_growTrees_7 : decode cX11_growTrees 7 = .ok (.astore_n 1, 1) := by decide +kernel
theorem dX11_growTrees_8 : decode cX11_growTrees 8 = .ok (.iconst 0, 1) := by decide +kernel
theorem dX11_growTrees_9 : decode cX11_growTrees 9 = .ok (.istore_n 2, 1) := by decide +kernel
theorem dX11_growTrees_10 : decode cX11_growTrees 10 = .ok (.iload_n 2, 1) := by decide +kernel
theorem dX11_growTrees_11 : decode cX11_growTrees 11 = .ok (.bipush 8, 2) := by decide +kernel
theorem dX11_growTrees_13 : decode cX11_growTrees 13 = .ok (.if_icmp .ge 41, 3) := by decide +kernel
theorem dX11_growTrees_16 : decode cX11_growTrees 16 = .ok (.aload_n 0, 1) := by decide +kernel
theorem dX11_growTrees_17 : decode cX11_growTrees 17 = .ok (.getfield 56, 3) := by decide +kernel
theorem dX11_growTrees_20 : decode cX11_growTrees 20 = .ok (.iload_n 2, 1) := by decide +kernel
theorem dX11_growTrees_21 : decode cX11_growTrees 21 = .ok (.aload_n 1, 1) := by decide +kernel
theorem dX11_growTrees_22 : decode cX11_growTrees 22 = .ok (.iload_n 2, 1) := by decide +kernel
theorem dX11_growTrees_23 : decode cX11_growTrees 23 = .ok (.invokevirtual 161, 3) := by decide +kernel
theorem dX11_growTrees_26 : decode cX11_growTrees 26 = .ok (.ifCond .eq 20, 3) := by decide +kernel
theorem dX11_growTrees_46 : decode cX11_growTrees 46 = .ok (.lconst 0, 1) := by decide +kernel
theorem dX11_growTrees_47 : decode cX11_growTrees 47 = .ok (.lastore, 1) := by decide +kernel
theorem dX11_growTrees_48 : decode cX11_growTrees 48 = .ok (.iinc 2 1, 3) := by decide +kernel
theorem dX11_growTrees_51 : decode cX11_growTrees 51 = .ok (.goto (-41), 3) := by decide +kernel
theorem dX11_growTrees_54 : decode cX11_growTrees 54 = .ok (.return_, 1) := by decide +kernel
theorem dX11_tells_0 : decode cX11_tells 0 = .ok (.aload_n 0, 1) := by decide +kernel
theorem dX11_tells_1 : decode cX11_tells 1 = .ok (.getfield 35, 3) := by decide +kernel
theorem dX11_tells_4 : decode cX11_tells 4 = .ok (.aload_n 0, 1) := by decide +kernel
theorem dX11_tells_5 : decode cX11_tells 5 = .ok (.getfield 79, 3) := by decide +kernel
theorem dX11_tells_8 : decode cX11_tells 8 = .ok (.getfield 125, 3) := by decide +kernel
theorem dX11_tells_11 : decode cX11_tells 11 = .ok (.invokevirtual 262, 3) := by decide +kernel
theorem dX11_tells_14 : decode cX11_tells 14 = .ok (.ifCond .ne 5, 3) := by decide +kernel
theorem dX11_tells_17 : decode cX11_tells 17 = .ok (.iconst (-1), 1) := by decide +kernel
theorem dX11_tells_18 : decode cX11_tells 18 = .ok (.ireturn, 1) := by decide +kernel
theorem dX11_worst_0 : decode cX11_worst 0 = .ok (.aload_n 0, 1) := by decide +kernel
theorem dX11_worst_1 : decode cX11_worst 1 = .ok (.invokevirtual 243, 3) := by decide +kernel
theorem dX11_worst_4 : decode cX11_worst 4 = .ok (.iconst (-1), 1) := by decide +kernel
theorem dX11_worst_5 : decode cX11_worst 5 = .ok (.istore_n 2, 1) := by decide +kernel
theorem dX11_worst_6 : decode cX11_worst 6 = .ok (.iconst 0, 1) := by decide +kernel
theorem dX11_worst_7 : decode cX11_worst 7 = .ok (.istore_n 3, 1) := by decide +kernel
theorem dX11_worst_8 : decode cX11_worst 8 = .ok (.iconst 0, 1) := by decide +kernel
theorem dX11_worst_9 : decode cX11_worst 9 = .ok (.istore 4, 2) := by decide +kernel
theorem dX11_worst_11 : decode cX11_worst 11 = .ok (.iload 4, 2) := by decide +kernel
theorem dX11_worst_13 : decode cX11_worst 13 = .ok (.aload_n 0, 1) := by decide +kernel
theorem dX11_worst_14 : decode cX11_worst 14 = .ok (.getfield 79, 3) := by decide +kernel
theorem dX11_worst_17 : decode cX11_worst 17 = .ok (.getfield 125, 3) := by decide +kernel
theorem dX11_worst_20 : decode cX11_worst 20 = .ok (.getfield 129, 3) := by decide +kernel
theorem dX11_worst_23 : decode cX11_worst 23 = .ok (.if_icmp .ge 29, 3) := by decide +kernel
theorem dX11_worst_52 : decode cX11_worst 52 = .ok (.iload_n 2, 1) := by decide +kernel
theorem dX11_worst_53 : decode cX11_worst 53 = .ok (.iconst (-1), 1) := by decide +kernel
theorem dX11_worst_54 : decode cX11_worst 54 = .ok (.if_icmp .ne 5, 3) := by decide +kernel
theorem dX11_worst_57 : decode cX11_worst 57 = .ok (.iconst (-1), 1) := by decide +kernel
theorem dX11_worst_58 : decode cX11_worst 58 = .ok (.ireturn, 1) := by decide +kernel
theorem dX7_findFits_0 : decode cX7_findFits 0 = .ok (.aload_n 0, 1) := by decide +kernel
theorem dX7_findFits_1 : decode cX7_findFits 1 = .ok (.iconst 0, 1) := by decide +kernel
theorem dX7_findFits_2 : decode cX7_findFits 2 = .ok (.putfield 37, 3) := by decide +kernel
theorem dX7_findFits_5 : decode cX7_findFits 5 = .ok (.iconst 0, 1) := by decide +kernel
theorem dX7_findFits_6 : decode cX7_findFits 6 = .ok (.istore_n 2, 1) := by decide +kernel
theorem dX7_findFits_7 : decode cX7_findFits 7 = .ok (.iload_n 2, 1) := by decide +kernel
theorem dX7_findFits_8 : decode cX7_findFits 8 = .ok (.bipush 8, 2) := by decide +kernel
theorem dX7_findFits_10 : decode cX7_findFits 10 = .ok (.if_icmp .ge 46, 3) := by decide +kernel
theorem dX7_findFits_13 : decode cX7_findFits 13 = .ok (.aload_n 1, 1) := by decide +kernel
theorem dX7_findFits_14 : decode cX7_findFits 14 = .ok (.iload_n 2, 1) := by decide +kernel
theorem dX7_findFits_15 : decode cX7_findFits 15 = .ok (.invokevirtual 40, 3) := by decide +kernel
theorem dX7_findFits_18 : decode cX7_findFits 18 = .ok (.ifCond .eq 32, 3) := by decide +kernel
theorem dX7_findFits_50 : decode cX7_findFits 50 = .ok (.iinc 2 1, 3) := by decide +kernel
theorem dX7_findFits_53 : decode cX7_findFits 53 = .ok (.goto (-46), 3) := by decide +kernel
theorem dX7_findFits_56 : decode cX7_findFits 56 = .ok (.aload_n 0, 1) := by decide +kernel
theorem dX7_findFits_57 : decode cX7_findFits 57 = .ok (.getfield 37, 3) := by decide +kernel
theorem dX7_findFits_60 : decode cX7_findFits 60 = .ok (.ireturn, 1) := by decide +kernel
set_option maxHeartbeats 4000000 in
set_option maxRecDepth 100000 in
theorem k_X7_findFits (l : Launch) (D : va_G) (sz : Nat) (a : Nat → Nat)  : Met l yX7_findFits (wz yX7_findFits cX7_findFits 3 (some .int)) { frames := 1, cells := 0, slots := 0, locals := 60 } (va_Pc [.ref (a 4), .ref (a 13)] (zW D sz [((a 4), .inr (7, [.int 0, .ref (a 26), .ref (a 27), .ref (a 28), .int 0, .ref (a 29)])), ((a 13), .inr (8, [.int 0, .int 0, .long 0, .ref (a 60), .ref (a 61), .ref (a 62), .ref (a 63), .ref (a 64), .ref (a 65), .ref (a 66), .ref (a 67)])), ((a 66), .inl (D.1 13, 8, .inl (fun _ => (-2))))])) (va_Qi (fun r (_ : Unit) => r = 0) (fun u t => zB D (va_A [((a 4), .inr (7, [.int 0, .ref (a 26), .ref (a 27), .ref (a 28), .int 0, .ref (a 29)])), ((a 13), .inr (8, [.int 0, .int 0, .long 0, .ref (a 60), .ref (a 61), .ref (a 62), .ref (a 63), .ref (a 64), .ref (a 65), .ref (a 66), .ref (a 67)])), ((a 66), .inl (D.1 13, 8, .inl (fun _ => (-2))))] sz) ((fun (_ : Unit) => []) u) t) (va_A [((a 4), .inr (7, [.int 0, .ref (a 26), .ref (a 27), .ref (a 28), .int 0, .ref (a 29)])), ((a 13), .inr (8, [.int 0, .int 0, .long 0, .ref (a 60), .ref (a 61), .ref (a 62), .ref (a 63), .ref (a 64), .ref (a 65), .ref (a 66), .ref (a 67)])), ((a 66), .inl (D.1 13, 8, .inl (fun _ => (-2))))] sz)) 0 0 (va_A [((a 4), .inr (7, [.int 0, .ref (a 26), .ref (a 27), .ref (a 28), .int 0, .ref (a 29)])), ((a 13), .inr (8, [.int 0, .int 0, .long 0, .ref (a 60), .ref (a 61), .ref (a 62), .ref (a 63), .ref (a 64), .ref (a 65), .ref (a 66), .ref (a 67)])), ((a 66), .inl (D.1 13, 8, .inl (fun _ => (-2))))] sz) := by
  refine Met.ofW (cc := cX7_findFits) (maxL := 3) (ret := (some .int)) (by decide) rfl ?_
  intro p e s m args below meth c s₁ B hml hv
  obtain ⟨rfl, hsz, hP, hK, hD0⟩ := hv
  have hx := B.exec
  have hb := B.bytes
  have hr := B.returns
  have hts := atoms_spec (ws := wz yX7_findFits cX7_findFits 3 (some .int)) B.pre
  have ht : ∀ w ∈ lw_gd, w.before _ s = true := fun w h => hts w (List.mem_cons_of_mem _ h)
  have hown : s.vm.findClass RX7 = some m.cls := findClass_of_methodNamed B.named
  have hlocks := B.notSynchronized
  subst hsz
  have hD := hD0.self (sz := s.heap.size)
  generalize hAe : va_A [((a 4), .inr (7, [.int 0, .ref (a 26), .ref (a 27), .ref (a 28), .int 0, .ref (a 29)])), ((a 13), .inr (8, [.int 0, .int 0, .long 0, .ref (a 60), .ref (a 61), .ref (a 62), .ref (a 63), .ref (a 64), .ref (a 65), .ref (a 66), .ref (a 67)])), ((a 66), .inl (D.1 13, 8, .inl (fun _ => (-2))))] s.heap.size = A at hD ⊢
  have hA : ∀ q : Nat, s.heap.size ≤ q → A q := fun q h => by rw [← hAe]; exact Or.inr h
  have hS : va_S A s.heap s.heap [] := va_S.rf
  have hl := lv_entry ([.ref (a 4), .ref (a 13)]) (n := 3) (Nat.le_of_ble_eq_true rfl)
  rw [lg_entry_eq]
  generalize (lg_sl ([.ref (a 4), .ref (a 13)]) ++ List.replicate (3 - (lg_sl ([.ref (a 4), .ref (a 13)])).length) Slot.unset).toArray = ls at hl ⊢
  have hl : lv_has ls 3 [(0, .ref (a 4)), (1, .ref (a 13))] := hl
  refine lv_aload_n hx hb dX7_findFits_0 rfl (lv_at hl 0 rfl) ?_
  refine lv_iconst (v := 0) hx hb dX7_findFits_1 (by decide) ?_
  refine va_put (D := D) (ci := 7) (v := .int 0) (ty := .int) (C := RX7) (T := TX7) (N := 6) hx hb ht inX7 tyX7 tyX7_ok nmX7 hown hK hP hD hS 0 rfl rfl 4 (by decide) (ht (.fieldLink RX7 37 "CloneVolumes$Sight" "fits" "I") fl_X7_37) (fun _ h9 => h9) rfl (by decide +kernel) rfl rfl (Nat.le_of_ble_eq_true rfl) dX7_findFits_2 (fun H locs hP hD hS => ?_)
  have hP : va_P D vwCl [((a 4), .inr (7, [.int 0, .ref (a 26), .ref (a 27), .ref (a 28), .int 0, .ref (a 29)])), ((a 13), .inr (8, [.int 0, .int 0, .long 0, .ref (a 60), .ref (a 61), .ref (a 62), .ref (a 63), .ref (a 64), .ref (a 65), .ref (a 66), .ref (a 67)])), ((a 66), .inl (D.1 13, 8, .inl (fun _ => (-2))))] H := hP
  have hD : va_D A [((a 4), .inr (7, [.int 0, .ref (a 26), .ref (a 27), .ref (a 28), .int 0, .ref (a 29)])), ((a 13), .inr (8, [.int 0, .int 0, .long 0, .ref (a 60), .ref (a 61), .ref (a 62), .ref (a 63), .ref (a 64), .ref (a 65), .ref (a 66), .ref (a 67)])), ((a 66), .inl (D.1 13, 8, .inl (fun _ => (-2))))] := hD
  refine lv_iconst (v := 0) hx hb dX7_findFits_5 (by decide) ?_
  refine lv_istore_n (lv' := [(2, .int 0), (0, .ref (a 4)), (1, .ref (a 13))]) hx hb dX7_findFits_6 rfl hl (by decide) rfl (fun ls hl => ?_)
  refine z_loop (σ := Unit) (N := 8) (fun i u H locs ls => va_P D vwCl [((a 4), .inr (7, [.int 0, .ref (a 26), .ref (a 27), .ref (a 28), .int 0, .ref (a 29)])), ((a 13), .inr (8, [.int 0, .int 0, .long 0, .ref (a 60), .ref (a 61), .ref (a 62), .ref (a 63), .ref (a 64), .ref (a 65), .ref (a 66), .ref (a 67)])), ((a 66), .inl (D.1 13, 8, .inl (fun _ => (-2))))] H ∧ va_D A [((a 4), .inr (7, [.int 0, .ref (a 26), .ref (a 27), .ref (a 28), .int 0, .ref (a 29)])), ((a 13), .inr (8, [.int 0, .int 0, .long 0, .ref (a 60), .ref (a 61), .ref (a 62), .ref (a 63), .ref (a 64), .ref (a 65), .ref (a 66), .ref (a 67)])), ((a 66), .inl (D.1 13, 8, .inl (fun _ => (-2))))] ∧ va_S A s.heap H locs ∧ lv_has ls 3 [(2, .int (nI i)), (0, .ref (a 4)), (1, .ref (a 13))]) (fun i_1 _u H locs ls hi_i_1 hI ih_7 => ?_) 0 () (by decide) ⟨hP, hD, hS, lv_sub hl [0, 1, 2] rfl⟩
  obtain ⟨hP, hD, hS, hl⟩ := hI
  have hP : va_P D vwCl [((a 4), .inr (7, [.int 0, .ref (a 26), .ref (a 27), .ref (a 28), .int 0, .ref (a 29)])), ((a 13), .inr (8, [.int 0, .int 0, .long 0, .ref (a 60), .ref (a 61), .ref (a 62), .ref (a 63), .ref (a 64), .ref (a 65), .ref (a 66), .ref (a 67)])), ((a 66), .inl (D.1 13, 8, .inl (fun _ => (-2))))] H := hP
  have hD : va_D A [((a 4), .inr (7, [.int 0, .ref (a 26), .ref (a 27), .ref (a 28), .int 0, .ref (a 29)])), ((a 13), .inr (8, [.int 0, .int 0, .long 0, .ref (a 60), .ref (a 61), .ref (a 62), .ref (a 63), .ref (a 64), .ref (a 65), .ref (a 66), .ref (a 67)])), ((a 66), .inl (D.1 13, 8, .inl (fun _ => (-2))))] := hD
  have hl : lv_has ls 3 [(2, .int (nI i_1)), (0, .ref (a 4)), (1, .ref (a 13))] := hl
  refine lv_iload_n hx hb dX7_findFits_7 rfl (lv_at hl 0 rfl) ?_
  refine lv_bipush (v := 8) hx hb dX7_findFits_8 (by decide) ?_
  refine lv_icmp_ge (tgt := 56) hx hb dX7_findFits_10 (by decide) (fun c_2 => ?_) (fun c_2 => ?_)
  · have g_3 : 8 ≤ ((i_1 : Nat) : Int) := z_le (by decide) (nI_toInt (by omega)) c_2
    obtain rfl : i_1 = 8 := by omega
    have hP : va_P D vwCl [((a 4), .inr (7, [.int 0, .ref (a 26), .ref (a 27), .ref (a 28), .int 0, .ref (a 29)])), ((a 13), .inr (8, [.int 0, .int 0, .long 0, .ref (a 60), .ref (a 61), .ref (a 62), .ref (a 63), .ref (a 64), .ref (a 65), .ref (a 66), .ref (a 67)])), ((a 66), .inl (D.1 13, 8, .inl (fun _ => (-2))))] H := hP
    have hD : va_D A [((a 4), .inr (7, [.int 0, .ref (a 26), .ref (a 27), .ref (a 28), .int 0, .ref (a 29)])), ((a 13), .inr (8, [.int 0, .int 0, .long 0, .ref (a 60), .ref (a 61), .ref (a 62), .ref (a 63), .ref (a 64), .ref (a 65), .ref (a 66), .ref (a 67)])), ((a 66), .inl (D.1 13, 8, .inl (fun _ => (-2))))] := hD
    have hl : lv_has ls 3 [(2, .int 8), (0, .ref (a 4)), (1, .ref (a 13))] := hl
    refine lv_aload_n hx hb dX7_findFits_56 rfl (lv_at hl 1 rfl) ?_
    refine va_get (D := D) (ci := 7) (v := .int 0) (C := RX7) (T := TX7) (N := 6) hx hb ht inX7 hown hK hP 0 rfl rfl 4 (by decide) (ht (.fieldLink RX7 37 "CloneVolumes$Sight" "fits" "I") fl_X7_37) (fun _ h9 => h9) rfl dX7_findFits_57 ?_
    have hP9 := hP.sub (ws' := []) [] rfl
    have hD9 := hD.sub (ws' := []) [] (by decide) rfl
    refine W.widen (k := 0) (n := 0) (Nat.le_of_ble_eq_true rfl) (Nat.le_of_ble_eq_true rfl) ?_
    exact W.iret (v := 0) hx hb hr (fun t ht hW => ⟨⟨0, (), rfl, rfl, by rw [ht]; exact hP9, va_K.moved hW.alike hK, hD9⟩, hS.F ht⟩) hS.2.2 dX7_findFits_60
  · have g_3 : ((i_1 : Nat) : Int) < 8 := z_nle (by decide) (nI_toInt (by omega)) c_2
    refine lv_aload_n hx hb dX7_findFits_13 rfl (lv_at hl 2 rfl) ?_
    refine lv_iload_n hx hb dX7_findFits_14 rfl (lv_at hl 0 rfl) ?_
    refine zcV (As := [.int (nI i_1)]) (rest := []) (C := RX8) (n := 1) ⟨hx, hb, hml, hown, ht⟩ (k_X8_isVolume l D a (nI i_1)) (zgV ml_X7_40 im_X8_isVolume se_X8_isVolume in_X8 co_X8_isVolume) rfl rfl (by decide +kernel) ⟨Nat.le_of_ble_eq_true rfl, Nat.le_of_ble_eq_true rfl⟩ hK hP hS [1, 2] rfl 0 rfl rfl rfl rfl hl.1 rfl (Nat.le_of_ble_eq_true rfl) dX7_findFits_15 ⟨Nat.le_of_ble_eq_true rfl, Nat.le_of_ble_eq_true rfl⟩ (fun r_4 H locs hw hP hS => ?_)
    subst hw
    refine lv_if_eq (tgt := 50) hx hb dX7_findFits_18 (by decide) (fun _ => ?_) (fun c_5 => (z_abs c_5 (by decide)).elim)
    refine lv_iinc (v := nI (i_1 + 1)) (lv' := [(2, .int (nI (i_1 + 1))), (0, .ref (a 4)), (1, .ref (a 13))]) hx hb dX7_findFits_50 hl (k := 0) rfl (z_inc _) (by decide) rfl (fun ls hl => ?_)
    refine lv_goto (tgt := 7) hx hb dX7_findFits_53 (by decide) ?_
    exact ih_7 () _ _ _ (by omega) ⟨hP.sub [0, 1, 2] rfl, hD.sub [0, 1, 2] (by decide) rfl, hS, lv_sub hl [0, 1, 2] rfl⟩
set_option maxHeartbeats 4000000 in
set_option maxRecDepth 100000 in
theorem k_X11_fits (l : Launch) (D : va_G) (sz : Nat) (a : Nat → Nat) (p0 : Int32) : Met l yX11_fits (wz yX11_fits cX11_fits 3 (some .int)) { frames := 2, cells := 0, slots := 0, locals := 120 } (va_Pc [.ref (a 0), .int p0] (zW D sz [((a 0), .inr (11, [.ref (a 1), .ref (a 2), .ref (a 3), .ref (a 4), .ref (a 5), .ref (a 6), .ref (a 7), .ref (a 8), .ref (a 9), .ref (a 10), .ref (a 11), .ref (a 12), .int 0])), ((a 4), .inr (7, [.int 0, .ref (a 26), .ref (a 27), .ref (a 28), .int 0, .ref (a 29)])), ((a 12), .inr (1, [.ref (a 13), .ref (a 14), .ref (a 15), .int 1, .ref (a 10), .ref (a 16), .ref (a 17), .ref (a 18), .ref (a 19)])), ((a 13), .inr (8, [.int 0, .int 0, .long 0, .ref (a 60), .ref (a 61), .ref (a 62), .ref (a 63), .ref (a 64), .ref (a 65), .ref (a 66), .ref (a 67)])), ((a 66), .inl (D.1 13, 8, .inl (fun _ => (-2))))])) (va_Qi (fun r (_ : Unit) => (r = (-1) ∧ ¬ p0.toInt = (-1) ∧ p0.toInt < 0) ∨ (r = (-1) ∧ ¬ p0.toInt = (-1) ∧ 0 ≤ p0.toInt ∧ 0 ≤ p0.toInt) ∨ (r = 0 ∧ p0.toInt = (-1))) (fun u t => zB D (va_A [((a 0), .inr (11, [.ref (a 1), .ref (a 2), .ref (a 3), .ref (a 4), .ref (a 5), .ref (a 6), .ref (a 7), .ref (a 8), .ref (a 9), .ref (a 10), .ref (a 11), .ref (a 12), .int 0])), ((a 4), .inr (7, [.int 0, .ref (a 26), .ref (a 27), .ref (a 28), .int 0, .ref (a 29)])), ((a 12), .inr (1, [.ref (a 13), .ref (a 14), .ref (a 15), .int 1, .ref (a 10), .ref (a 16), .ref (a 17), .ref (a 18), .ref (a 19)])), ((a 13), .inr (8, [.int 0, .int 0, .long 0, .ref (a 60), .ref (a 61), .ref (a 62), .ref (a 63), .ref (a 64), .ref (a 65), .ref (a 66), .ref (a 67)])), ((a 66), .inl (D.1 13, 8, .inl (fun _ => (-2))))] sz) ((fun (_ : Unit) => []) u) t) (va_A [((a 0), .inr (11, [.ref (a 1), .ref (a 2), .ref (a 3), .ref (a 4), .ref (a 5), .ref (a 6), .ref (a 7), .ref (a 8), .ref (a 9), .ref (a 10), .ref (a 11), .ref (a 12), .int 0])), ((a 4), .inr (7, [.int 0, .ref (a 26), .ref (a 27), .ref (a 28), .int 0, .ref (a 29)])), ((a 12), .inr (1, [.ref (a 13), .ref (a 14), .ref (a 15), .int 1, .ref (a 10), .ref (a 16), .ref (a 17), .ref (a 18), .ref (a 19)])), ((a 13), .inr (8, [.int 0, .int 0, .long 0, .ref (a 60), .ref (a 61), .ref (a 62), .ref (a 63), .ref (a 64), .ref (a 65), .ref (a 66), .ref (a 67)])), ((a 66), .inl (D.1 13, 8, .inl (fun _ => (-2))))] sz)) 0 0 (va_A [((a 0), .inr (11, [.ref (a 1), .ref (a 2), .ref (a 3), .ref (a 4), .ref (a 5), .ref (a 6), .ref (a 7), .ref (a 8), .ref (a 9), .ref (a 10), .ref (a 11), .ref (a 12), .int 0])), ((a 4), .inr (7, [.int 0, .ref (a 26), .ref (a 27), .ref (a 28), .int 0, .ref (a 29)])), ((a 12), .inr (1, [.ref (a 13), .ref (a 14), .ref (a 15), .int 1, .ref (a 10), .ref (a 16), .ref (a 17), .ref (a 18), .ref (a 19)])), ((a 13), .inr (8, [.int 0, .int 0, .long 0, .ref (a 60), .ref (a 61), .ref (a 62), .ref (a 63), .ref (a 64), .ref (a 65), .ref (a 66), .ref (a 67)])), ((a 66), .inl (D.1 13, 8, .inl (fun _ => (-2))))] sz) := by
  refine Met.ofW (cc := cX11_fits) (maxL := 3) (ret := (some .int)) (by decide) rfl ?_
  intro p e s m args below meth c s₁ B hml hv
  obtain ⟨rfl, hsz, hP, hK, hD0⟩ := hv
  have hx := B.exec
  have hb := B.bytes
  have hr := B.returns
  have hts := atoms_spec (ws := wz yX11_fits cX11_fits 3 (some .int)) B.pre
  have ht : ∀ w ∈ lw_gd, w.before _ s = true := fun w h => hts w (List.mem_cons_of_mem _ h)
  have hown : s.vm.findClass RX11 = some m.cls := findClass_of_methodNamed B.named
  have hlocks := B.notSynchronized
  subst hsz
  have hD := hD0.self (sz := s.heap.size)
  generalize hAe : va_A [((a 0), .inr (11, [.ref (a 1), .ref (a 2), .ref (a 3), .ref (a 4), .ref (a 5), .ref (a 6), .ref (a 7), .ref (a 8), .ref (a 9), .ref (a 10), .ref (a 11), .ref (a 12), .int 0])), ((a 4), .inr (7, [.int 0, .ref (a 26), .ref (a 27), .ref (a 28), .int 0, .ref (a 29)])), ((a 12), .inr (1, [.ref (a 13), .ref (a 14), .ref (a 15), .int 1, .ref (a 10), .ref (a 16), .ref (a 17), .ref (a 18), .ref (a 19)])), ((a 13), .inr (8, [.int 0, .int 0, .long 0, .ref (a 60), .ref (a 61), .ref (a 62), .ref (a 63), .ref (a 64), .ref (a 65), .ref (a 66), .ref (a 67)])), ((a 66), .inl (D.1 13, 8, .inl (fun _ => (-2))))] s.heap.size = A at hD ⊢
  have hA : ∀ q : Nat, s.heap.size ≤ q → A q := fun q h => by rw [← hAe]; exact Or.inr h
  have hS : va_S A s.heap s.heap [] := va_S.rf
  have hl := lv_entry ([.ref (a 0), .int p0]) (n := 3) (Nat.le_of_ble_eq_true rfl)
  rw [lg_entry_eq]
  generalize (lg_sl ([.ref (a 0), .int p0]) ++ List.replicate (3 - (lg_sl ([.ref (a 0), .int p0])).length) Slot.unset).toArray = ls at hl ⊢
  have hl : lv_has ls 3 [(0, .ref (a 0)), (1, .int p0)] := hl
  refine lv_aload_n hx hb dX11_fits_0 rfl (lv_at hl 0 rfl) ?_
  refine va_get (D := D) (ci := 11) (v := .ref (a 4)) (C := RX11) (T := TX11) (N := 13) hx hb ht inX11 hown hK hP 0 rfl rfl 3 (by decide) (ht (.fieldLink RX11 35 "CloneVolumes" "sight" "LCloneVolumes$Sight;") fl_X11_35) (fun _ h9 => h9) rfl dX11_fits_1 ?_
  refine lv_aload_n hx hb dX11_fits_4 rfl (lv_at hl 0 rfl) ?_
  refine va_get (D := D) (ci := 11) (v := .ref (a 12)) (C := RX11) (T := TX11) (N := 13) hx hb ht inX11 hown hK hP 0 rfl rfl 11 (by decide) (ht (.fieldLink RX11 79 "CloneVolumes" "forest" "LCloneVolumes$Forest;") fl_X11_79) (fun _ h9 => h9) rfl dX11_fits_5 ?_
  refine va_get (D := D) (ci := 1) (v := .ref (a 13)) (C := RX1) (T := TX1) (N := 9) hx hb ht inX1 hown hK hP 2 rfl rfl 0 (by decide) (ht (.fieldLink RX11 125 "CloneVolumes$Forest" "now" "LCloneVolumes$State;") fl_X11_125) (fun _ h9 => h9) rfl dX11_fits_8 ?_
  refine zwV (As := [.ref (a 13)]) (rest := []) (C := RX7) (n := 1) (wr := [((a 0), .inr (11, [.ref (a 1), .ref (a 2), .ref (a 3), .ref (a 4), .ref (a 5), .ref (a 6), .ref (a 7), .ref (a 8), .ref (a 9), .ref (a 10), .ref (a 11), .ref (a 12), .int 0])), ((a 12), .inr (1, [.ref (a 13), .ref (a 14), .ref (a 15), .int 1, .ref (a 10), .ref (a 16), .ref (a 17), .ref (a 18), .ref (a 19)]))]) ⟨hx, hb, hml, hown, ht⟩ (k_X7_findFits l D _ a) (zgV ml_X11_262 im_X7_findFits se_X7_findFits in_X7 co_X7_findFits) rfl rfl (by decide +kernel) ⟨Nat.le_of_ble_eq_true rfl, Nat.le_of_ble_eq_true rfl⟩ hK hP hD hS hA [1, 3, 4] [0, 2] rfl rfl rfl rfl (by decide) 0 rfl rfl rfl rfl hl.1 rfl (Nat.le_of_ble_eq_true rfl) dX11_fits_11 ⟨Nat.le_of_ble_eq_true rfl, Nat.le_of_ble_eq_true rfl⟩ (fun r_2 u_1 H locs hw hP hD hS => ?_)
  have hP : va_P D vwCl [((a 0), .inr (11, [.ref (a 1), .ref (a 2), .ref (a 3), .ref (a 4), .ref (a 5), .ref (a 6), .ref (a 7), .ref (a 8), .ref (a 9), .ref (a 10), .ref (a 11), .ref (a 12), .int 0])), ((a 12), .inr (1, [.ref (a 13), .ref (a 14), .ref (a 15), .int 1, .ref (a 10), .ref (a 16), .ref (a 17), .ref (a 18), .ref (a 19)]))] H := hP
  have hD : va_D A [((a 0), .inr (11, [.ref (a 1), .ref (a 2), .ref (a 3), .ref (a 4), .ref (a 5), .ref (a 6), .ref (a 7), .ref (a 8), .ref (a 9), .ref (a 10), .ref (a 11), .ref (a 12), .int 0])), ((a 12), .inr (1, [.ref (a 13), .ref (a 14), .ref (a 15), .int 1, .ref (a 10), .ref (a 16), .ref (a 17), .ref (a 18), .ref (a 19)]))] := hD
  subst hw
  refine lv_istore_n (lv' := [(2, .int 0), (0, .ref (a 0)), (1, .int p0)]) hx hb dX11_fits_14 rfl hl (by decide) rfl (fun ls hl => ?_)
  refine lv_iload_n hx hb dX11_fits_15 rfl (lv_at hl 2 rfl) ?_
  refine lv_iconst (v := (-1)) hx hb dX11_fits_16 (by decide) ?_
  refine lv_icmp_ne (tgt := 22) hx hb dX11_fits_17 (by decide) (fun c_3 => ?_) (fun c_3 => ?_)
  · have g_4 : ¬ p0.toInt = (-1) := z_ne rfl (by decide) c_3
    refine lv_iload_n hx hb dX11_fits_22 rfl (lv_at hl 2 rfl) ?_
    refine lv_if_lt (tgt := 43) hx hb dX11_fits_23 (by decide) (fun c_5 => ?_) (fun c_5 => ?_)
    · have g_6 : p0.toInt < 0 := z_lt rfl (by decide) c_5
      refine lv_iconst (v := (-1)) hx hb dX11_fits_43 (by decide) ?_
      have hP9 := hP.sub (ws' := []) [] rfl
      have hD9 := hD.sub (ws' := []) [] (by decide) rfl
      refine W.widen (k := 0) (n := 0) (Nat.le_of_ble_eq_true rfl) (Nat.le_of_ble_eq_true rfl) ?_
      exact W.iret (v := (-1)) hx hb hr (fun t ht hW => ⟨⟨(-1), (), rfl, Or.inl (⟨rfl, zu_ne rfl (by decide) g_4, zu_lt rfl (by decide) g_6⟩), by rw [ht]; exact hP9, va_K.moved hW.alike hK, hD9⟩, hS.F ht⟩) hS.2.2 dX11_fits_44
    · have g_6 : 0 ≤ p0.toInt := z_nlt rfl (by decide) c_5
      refine lv_iload_n hx hb dX11_fits_26 rfl (lv_at hl 2 rfl) ?_
      refine lv_iload_n hx hb dX11_fits_27 rfl (lv_at hl 0 rfl) ?_
      refine lv_icmp_ge (tgt := 43) hx hb dX11_fits_28 (by decide) (fun c_7 => ?_) (fun c_7 => ?_)
      · have g_8 : 0 ≤ p0.toInt := z_le (by decide) rfl c_7
        refine lv_iconst (v := (-1)) hx hb dX11_fits_43 (by decide) ?_
        have hP9 := hP.sub (ws' := []) [] rfl
        have hD9 := hD.sub (ws' := []) [] (by decide) rfl
        refine W.widen (k := 0) (n := 0) (Nat.le_of_ble_eq_true rfl) (Nat.le_of_ble_eq_true rfl) ?_
        exact W.iret (v := (-1)) hx hb hr (fun t ht hW => ⟨⟨(-1), (), rfl, Or.inr (Or.inl (⟨rfl, zu_ne rfl (by decide) g_4, zu_ge rfl (by decide) g_6, zu_ge rfl (by decide) g_8⟩)), by rw [ht]; exact hP9, va_K.moved hW.alike hK, hD9⟩, hS.F ht⟩) hS.2.2 dX11_fits_44
      · exfalso
        have g_8 : p0.toInt < 0 := z_nle (by decide) rfl c_7
        omega
  · have g_4 : p0.toInt = (-1) := z_eq rfl (by decide) c_3
    refine lv_iload_n hx hb dX11_fits_20 rfl (lv_at hl 0 rfl) ?_
    have hP9 := hP.sub (ws' := []) [] rfl
    have hD9 := hD.sub (ws' := []) [] (by decide) rfl
    refine W.widen (k := 0) (n := 0) (Nat.le_of_ble_eq_true rfl) (Nat.le_of_ble_eq_true rfl) ?_
    exact W.iret (v := 0) hx hb hr (fun t ht hW => ⟨⟨0, (), rfl, Or.inr (Or.inr (⟨rfl, zu_eq rfl (by decide) g_4⟩)), by rw [ht]; exact hP9, va_K.moved hW.alike hK, hD9⟩, hS.F ht⟩) hS.2.2 dX11_fits_21
set_option maxHeartbeats 4000000 in
set_option maxRecDepth 100000 in
theorem k_X11_tells (l : Launch) (D : va_G) (sz : Nat) (a : Nat → Nat) (p0 : Int32) : Met l yX11_tells (wz yX11_tells cX11_tells 6 (some .int)) { frames := 2, cells := 0, slots := 0, locals := 120 } (va_Pc [.ref (a 0), .int p0] (zW D sz [((a 0), .inr (11, [.ref (a 1), .ref (a 2), .ref (a 3), .ref (a 4), .ref (a 5), .ref (a 6), .ref (a 7), .ref (a 8), .ref (a 9), .ref (a 10), .ref (a 11), .ref (a 12), .int 0])), ((a 4), .inr (7, [.int 0, .ref (a 26), .ref (a 27), .ref (a 28), .int 0, .ref (a 29)])), ((a 12), .inr (1, [.ref (a 13), .ref (a 14), .ref (a 15), .int 1, .ref (a 10), .ref (a 16), .ref (a 17), .ref (a 18), .ref (a 19)])), ((a 13), .inr (8, [.int 0, .int 0, .long 0, .ref (a 60), .ref (a 61), .ref (a 62), .ref (a 63), .ref (a 64), .ref (a 65), .ref (a 66), .ref (a 67)])), ((a 66), .inl (D.1 13, 8, .inl (fun _ => (-2))))])) (va_Qi (fun r (_ : Unit) => r = (-1)) (fun u t => zB D (va_A [((a 0), .inr (11, [.ref (a 1), .ref (a 2), .ref (a 3), .ref (a 4), .ref (a 5), .ref (a 6), .ref (a 7), .ref (a 8), .ref (a 9), .ref (a 10), .ref (a 11), .ref (a 12), .int 0])), ((a 4), .inr (7, [.int 0, .ref (a 26), .ref (a 27), .ref (a 28), .int 0, .ref (a 29)])), ((a 12), .inr (1, [.ref (a 13), .ref (a 14), .ref (a 15), .int 1, .ref (a 10), .ref (a 16), .ref (a 17), .ref (a 18), .ref (a 19)])), ((a 13), .inr (8, [.int 0, .int 0, .long 0, .ref (a 60), .ref (a 61), .ref (a 62), .ref (a 63), .ref (a 64), .ref (a 65), .ref (a 66), .ref (a 67)])), ((a 66), .inl (D.1 13, 8, .inl (fun _ => (-2))))] sz) ((fun (_ : Unit) => []) u) t) (va_A [((a 0), .inr (11, [.ref (a 1), .ref (a 2), .ref (a 3), .ref (a 4), .ref (a 5), .ref (a 6), .ref (a 7), .ref (a 8), .ref (a 9), .ref (a 10), .ref (a 11), .ref (a 12), .int 0])), ((a 4), .inr (7, [.int 0, .ref (a 26), .ref (a 27), .ref (a 28), .int 0, .ref (a 29)])), ((a 12), .inr (1, [.ref (a 13), .ref (a 14), .ref (a 15), .int 1, .ref (a 10), .ref (a 16), .ref (a 17), .ref (a 18), .ref (a 19)])), ((a 13), .inr (8, [.int 0, .int 0, .long 0, .ref (a 60), .ref (a 61), .ref (a 62), .ref (a 63), .ref (a 64), .ref (a 65), .ref (a 66), .ref (a 67)])), ((a 66), .inl (D.1 13, 8, .inl (fun _ => (-2))))] sz)) 0 0 (va_A [((a 0), .inr (11, [.ref (a 1), .ref (a 2), .ref (a 3), .ref (a 4), .ref (a 5), .ref (a 6), .ref (a 7), .ref (a 8), .ref (a 9), .ref (a 10), .ref (a 11), .ref (a 12), .int 0])), ((a 4), .inr (7, [.int 0, .ref (a 26), .ref (a 27), .ref (a 28), .int 0, .ref (a 29)])), ((a 12), .inr (1, [.ref (a 13), .ref (a 14), .ref (a 15), .int 1, .ref (a 10), .ref (a 16), .ref (a 17), .ref (a 18), .ref (a 19)])), ((a 13), .inr (8, [.int 0, .int 0, .long 0, .ref (a 60), .ref (a 61), .ref (a 62), .ref (a 63), .ref (a 64), .ref (a 65), .ref (a 66), .ref (a 67)])), ((a 66), .inl (D.1 13, 8, .inl (fun _ => (-2))))] sz) := by
  refine Met.ofW (cc := cX11_tells) (maxL := 6) (ret := (some .int)) (by decide) rfl ?_
  intro p e s m args below meth c s₁ B hml hv
  obtain ⟨rfl, hsz, hP, hK, hD0⟩ := hv
  have hx := B.exec
  have hb := B.bytes
  have hr := B.returns
  have hts := atoms_spec (ws := wz yX11_tells cX11_tells 6 (some .int)) B.pre
  have ht : ∀ w ∈ lw_gd, w.before _ s = true := fun w h => hts w (List.mem_cons_of_mem _ h)
  have hown : s.vm.findClass RX11 = some m.cls := findClass_of_methodNamed B.named
  have hlocks := B.notSynchronized
  subst hsz
  have hD := hD0.self (sz := s.heap.size)
  generalize hAe : va_A [((a 0), .inr (11, [.ref (a 1), .ref (a 2), .ref (a 3), .ref (a 4), .ref (a 5), .ref (a 6), .ref (a 7), .ref (a 8), .ref (a 9), .ref (a 10), .ref (a 11), .ref (a 12), .int 0])), ((a 4), .inr (7, [.int 0, .ref (a 26), .ref (a 27), .ref (a 28), .int 0, .ref (a 29)])), ((a 12), .inr (1, [.ref (a 13), .ref (a 14), .ref (a 15), .int 1, .ref (a 10), .ref (a 16), .ref (a 17), .ref (a 18), .ref (a 19)])), ((a 13), .inr (8, [.int 0, .int 0, .long 0, .ref (a 60), .ref (a 61), .ref (a 62), .ref (a 63), .ref (a 64), .ref (a 65), .ref (a 66), .ref (a 67)])), ((a 66), .inl (D.1 13, 8, .inl (fun _ => (-2))))] s.heap.size = A at hD ⊢
  have hA : ∀ q : Nat, s.heap.size ≤ q → A q := fun q h => by rw [← hAe]; exact Or.inr h
  have hS : va_S A s.heap s.heap [] := va_S.rf
  have hl := lv_entry ([.ref (a 0), .int p0]) (n := 6) (Nat.le_of_ble_eq_true rfl)
  rw [lg_entry_eq]
  generalize (lg_sl ([.ref (a 0), .int p0]) ++ List.replicate (6 - (lg_sl ([.ref (a 0), .int p0])).length) Slot.unset).toArray = ls at hl ⊢
  have hl : lv_has ls 6 [(0, .ref (a 0)), (1, .int p0)] := hl
  refine lv_aload_n hx hb dX11_tells_0 rfl (lv_at hl 0 rfl) ?_
  refine va_get (D := D) (ci := 11) (v := .ref (a 4)) (C := RX11) (T := TX11) (N := 13) hx hb ht inX11 hown hK hP 0 rfl rfl 3 (by decide) (ht (.fieldLink RX11 35 "CloneVolumes" "sight" "LCloneVolumes$Sight;") fl_X11_35) (fun _ h9 => h9) rfl dX11_tells_1 ?_
  refine lv_aload_n hx hb dX11_tells_4 rfl (lv_at hl 0 rfl) ?_
  refine va_get (D := D) (ci := 11) (v := .ref (a 12)) (C := RX11) (T := TX11) (N := 13) hx hb ht inX11 hown hK hP 0 rfl rfl 11 (by decide) (ht (.fieldLink RX11 79 "CloneVolumes" "forest" "LCloneVolumes$Forest;") fl_X11_79) (fun _ h9 => h9) rfl dX11_tells_5 ?_
  refine va_get (D := D) (ci := 1) (v := .ref (a 13)) (C := RX1) (T := TX1) (N := 9) hx hb ht inX1 hown hK hP 2 rfl rfl 0 (by decide) (ht (.fieldLink RX11 125 "CloneVolumes$Forest" "now" "LCloneVolumes$State;") fl_X11_125) (fun _ h9 => h9) rfl dX11_tells_8 ?_
  refine zwV (As := [.ref (a 13)]) (rest := []) (C := RX7) (n := 1) (wr := [((a 0), .inr (11, [.ref (a 1), .ref (a 2), .ref (a 3), .ref (a 4), .ref (a 5), .ref (a 6), .ref (a 7), .ref (a 8), .ref (a 9), .ref (a 10), .ref (a 11), .ref (a 12), .int 0])), ((a 12), .inr (1, [.ref (a 13), .ref (a 14), .ref (a 15), .int 1, .ref (a 10), .ref (a 16), .ref (a 17), .ref (a 18), .ref (a 19)]))]) ⟨hx, hb, hml, hown, ht⟩ (k_X7_findFits l D _ a) (zgV ml_X11_262 im_X7_findFits se_X7_findFits in_X7 co_X7_findFits) rfl rfl (by decide +kernel) ⟨Nat.le_of_ble_eq_true rfl, Nat.le_of_ble_eq_true rfl⟩ hK hP hD hS hA [1, 3, 4] [0, 2] rfl rfl rfl rfl (by decide) 0 rfl rfl rfl rfl hl.1 rfl (Nat.le_of_ble_eq_true rfl) dX11_tells_11 ⟨Nat.le_of_ble_eq_true rfl, Nat.le_of_ble_eq_true rfl⟩ (fun r_2 u_1 H locs hw hP hD hS => ?_)
  have hP : va_P D vwCl [((a 0), .inr (11, [.ref (a 1), .ref (a 2), .ref (a 3), .ref (a 4), .ref (a 5), .ref (a 6), .ref (a 7), .ref (a 8), .ref (a 9), .ref (a 10), .ref (a 11), .ref (a 12), .int 0])), ((a 12), .inr (1, [.ref (a 13), .ref (a 14), .ref (a 15), .int 1, .ref (a 10), .ref (a 16), .ref (a 17), .ref (a 18), .ref (a 19)]))] H := hP
  have hD : va_D A [((a 0), .inr (11, [.ref (a 1), .ref (a 2), .ref (a 3), .ref (a 4), .ref (a 5), .ref (a 6), .ref (a 7), .ref (a 8), .ref (a 9), .ref (a 10), .ref (a 11), .ref (a 12), .int 0])), ((a 12), .inr (1, [.ref (a 13), .ref (a 14), .ref (a 15), .int 1, .ref (a 10), .ref (a 16), .ref (a 17), .ref (a 18), .ref (a 19)]))] := hD
  subst hw
  refine lv_if_ne (tgt := 19) hx hb dX11_tells_14 (by decide) (fun c_3 => (z_abs c_3 (by decide)).elim) (fun _ => ?_)
  refine lv_iconst (v := (-1)) hx hb dX11_tells_17 (by decide) ?_
  have hP9 := hP.sub (ws' := []) [] rfl
  have hD9 := hD.sub (ws' := []) [] (by decide) rfl
  refine W.widen (k := 0) (n := 0) (Nat.le_of_ble_eq_true rfl) (Nat.le_of_ble_eq_true rfl) ?_
  exact W.iret (v := (-1)) hx hb hr (fun t ht hW => ⟨⟨(-1), (), rfl, rfl, by rw [ht]; exact hP9, va_K.moved hW.alike hK, hD9⟩, hS.F ht⟩) hS.2.2 dX11_tells_18
set_option maxHeartbeats 4000000 in
set_option maxRecDepth 100000 in
theorem k_X11_growTrees (l : Launch) (D : va_G) (sz : Nat) (a : Nat → Nat)  : Met l yX11_growTrees (wz yX11_growTrees cX11_growTrees 3 none) { frames := 1, cells := 0, slots := 0, locals := 60 } (va_Pc [.ref (a 0)] (zW D sz [((a 0), .inr (11, [.ref (a 1), .ref (a 2), .ref (a 3), .ref (a 4), .ref (a 5), .ref (a 6), .ref (a 7), .ref (a 8), .ref (a 9), .ref (a 10), .ref (a 11), .ref (a 12), .int 0])), ((a 12), .inr (1, [.ref (a 13), .ref (a 14), .ref (a 15), .int 1, .ref (a 10), .ref (a 16), .ref (a 17), .ref (a 18), .ref (a 19)])), ((a 13), .inr (8, [.int 0, .int 0, .long 0, .ref (a 60), .ref (a 61), .ref (a 62), .ref (a 63), .ref (a 64), .ref (a 65), .ref (a 66), .ref (a 67)])), ((a 66), .inl (D.1 13, 8, .inl (fun _ => (-2)))), ((a 8), .inl (D.1 15, 8, .inr (.inl (fun _ => 0))))])) (va_Qv (fun (_ : Unit) => True) (fun u t => zB D (va_A [((a 0), .inr (11, [.ref (a 1), .ref (a 2), .ref (a 3), .ref (a 4), .ref (a 5), .ref (a 6), .ref (a 7), .ref (a 8), .ref (a 9), .ref (a 10), .ref (a 11), .ref (a 12), .int 0])), ((a 12), .inr (1, [.ref (a 13), .ref (a 14), .ref (a 15), .int 1, .ref (a 10), .ref (a 16), .ref (a 17), .ref (a 18), .ref (a 19)])), ((a 13), .inr (8, [.int 0, .int 0, .long 0, .ref (a 60), .ref (a 61), .ref (a 62), .ref (a 63), .ref (a 64), .ref (a 65), .ref (a 66), .ref (a 67)])), ((a 66), .inl (D.1 13, 8, .inl (fun _ => (-2)))), ((a 8), .inl (D.1 15, 8, .inr (.inl (fun _ => 0))))] sz) ((fun (u : Unit) => [((a 0), .inr (11, [.ref (a 1), .ref (a 2), .ref (a 3), .ref (a 4), .ref (a 5), .ref (a 6), .ref (a 7), .ref (a 8), .ref (a 9), .ref (a 10), .ref (a 11), .ref (a 12), .int 0])), ((a 12), .inr (1, [.ref (a 13), .ref (a 14), .ref (a 15), .int 1, .ref (a 10), .ref (a 16), .ref (a 17), .ref (a 18), .ref (a 19)])), ((a 13), .inr (8, [.int 0, .int 0, .long 0, .ref (a 60), .ref (a 61), .ref (a 62), .ref (a 63), .ref (a 64), .ref (a 65), .ref (a 66), .ref (a 67)]))]) u) t) (va_A [((a 0), .inr (11, [.ref (a 1), .ref (a 2), .ref (a 3), .ref (a 4), .ref (a 5), .ref (a 6), .ref (a 7), .ref (a 8), .ref (a 9), .ref (a 10), .ref (a 11), .ref (a 12), .int 0])), ((a 12), .inr (1, [.ref (a 13), .ref (a 14), .ref (a 15), .int 1, .ref (a 10), .ref (a 16), .ref (a 17), .ref (a 18), .ref (a 19)])), ((a 13), .inr (8, [.int 0, .int 0, .long 0, .ref (a 60), .ref (a 61), .ref (a 62), .ref (a 63), .ref (a 64), .ref (a 65), .ref (a 66), .ref (a 67)])), ((a 66), .inl (D.1 13, 8, .inl (fun _ => (-2)))), ((a 8), .inl (D.1 15, 8, .inr (.inl (fun _ => 0))))] sz)) 0 0 (va_A [((a 0), .inr (11, [.ref (a 1), .ref (a 2), .ref (a 3), .ref (a 4), .ref (a 5), .ref (a 6), .ref (a 7), .ref (a 8), .ref (a 9), .ref (a 10), .ref (a 11), .ref (a 12), .int 0])), ((a 12), .inr (1, [.ref (a 13), .ref (a 14), .ref (a 15), .int 1, .ref (a 10), .ref (a 16), .ref (a 17), .ref (a 18), .ref (a 19)])), ((a 13), .inr (8, [.int 0, .int 0, .long 0, .ref (a 60), .ref (a 61), .ref (a 62), .ref (a 63), .ref (a 64), .ref (a 65), .ref (a 66), .ref (a 67)])), ((a 66), .inl (D.1 13, 8, .inl (fun _ => (-2)))), ((a 8), .inl (D.1 15, 8, .inr (.inl (fun _ => 0))))] sz) := by
  refine Met.ofW (cc := cX11_growTrees) (maxL := 3) (ret := none) (by decide) rfl ?_
  intro p e s m args below meth c s₁ B hml hv
  obtain ⟨rfl, hsz, hP, hK, hD0⟩ := hv
  have hx := B.exec
  have hb := B.bytes
  have hr := B.returns
  have hts := atoms_spec (ws := wz yX11_growTrees cX11_growTrees 3 none) B.pre
  have ht : ∀ w ∈ lw_gd, w.before _ s = true := fun w h => hts w (List.mem_cons_of_mem _ h)
  have hown : s.vm.findClass RX11 = some m.cls := findClass_of_methodNamed B.named
  have hlocks := B.notSynchronized
  subst hsz
  have hD := hD0.self (sz := s.heap.size)
  generalize hAe : va_A [((a 0), .inr (11, [.ref (a 1), .ref (a 2), .ref (a 3), .ref (a 4), .ref (a 5), .ref (a 6), .ref (a 7), .ref (a 8), .ref (a 9), .ref (a 10), .ref (a 11), .ref (a 12), .int 0])), ((a 12), .inr (1, [.ref (a 13), .ref (a 14), .ref (a 15), .int 1, .ref (a 10), .ref (a 16), .ref (a 17), .ref (a 18), .ref (a 19)])), ((a 13), .inr (8, [.int 0, .int 0, .long 0, .ref (a 60), .ref (a 61), .ref (a 62), .ref (a 63), .ref (a 64), .ref (a 65), .ref (a 66), .ref (a 67)])), ((a 66), .inl (D.1 13, 8, .inl (fun _ => (-2)))), ((a 8), .inl (D.1 15, 8, .inr (.inl (fun _ => 0))))] s.heap.size = A at hD ⊢
  have hA : ∀ q : Nat, s.heap.size ≤ q → A q := fun q h => by rw [← hAe]; exact Or.inr h
  have hS : va_S A s.heap s.heap [] := va_S.rf
  have hl := lv_entry ([.ref (a 0)]) (n := 3) (Nat.le_of_ble_eq_true rfl)
  rw [lg_entry_eq]
  generalize (lg_sl ([.ref (a 0)]) ++ List.replicate (3 - (lg_sl ([.ref (a 0)])).length) Slot.unset).toArray = ls at hl ⊢
  have hl : lv_has ls 3 [(0, .ref (a 0))] := hl
  refine lv_aload_n hx hb dX11_growTrees_0 rfl (lv_at hl 0 rfl) ?_
  refine va_get (D := D) (ci := 11) (v := .ref (a 12)) (C := RX11) (T := TX11) (N := 13) hx hb ht inX11 hown hK hP 0 rfl rfl 11 (by decide) (ht (.fieldLink RX11 79 "CloneVolumes" "forest" "LCloneVolumes$Forest;") fl_X11_79) (fun _ h9 => h9) rfl dX11_growTrees_1 ?_
  refine va_get (D := D) (ci := 1) (v := .ref (a 13)) (C := RX1) (T := TX1) (N := 9) hx hb ht inX1 hown hK hP 1 rfl rfl 0 (by decide) (ht (.fieldLink RX11 125 "CloneVolumes$Forest" "now" "LCloneVolumes$State;") fl_X11_125) (fun _ h9 => h9) rfl dX11_growTrees_4 ?_
  refine lv_astore_n (lv' := [(1, .ref (a 13)), (0, .ref (a 0))]) hx hb dX11_growTrees_7 rfl hl (by decide) rfl (fun ls hl => ?_)
  refine lv_iconst (v := 0) hx hb dX11_growTrees_8 (by decide) ?_
  refine lv_istore_n (lv' := [(2, .int 0), (1, .ref (a 13)), (0, .ref (a 0))]) hx hb dX11_growTrees_9 rfl hl (by decide) rfl (fun ls hl => ?_)
  refine z_loop (σ := Unit) (N := 8) (fun i u H locs ls => va_P D vwCl [((a 0), .inr (11, [.ref (a 1), .ref (a 2), .ref (a 3), .ref (a 4), .ref (a 5), .ref (a 6), .ref (a 7), .ref (a 8), .ref (a 9), .ref (a 10), .ref (a 11), .ref (a 12), .int 0])), ((a 12), .inr (1, [.ref (a 13), .ref (a 14), .ref (a 15), .int 1, .ref (a 10), .ref (a 16), .ref (a 17), .ref (a 18), .ref (a 19)])), ((a 13), .inr (8, [.int 0, .int 0, .long 0, .ref (a 60), .ref (a 61), .ref (a 62), .ref (a 63), .ref (a 64), .ref (a 65), .ref (a 66), .ref (a 67)])), ((a 66), .inl (D.1 13, 8, .inl (fun _ => (-2)))), ((a 8), .inl (D.1 15, 8, .inr (.inl (fun _ => 0))))] H ∧ va_D A [((a 0), .inr (11, [.ref (a 1), .ref (a 2), .ref (a 3), .ref (a 4), .ref (a 5), .ref (a 6), .ref (a 7), .ref (a 8), .ref (a 9), .ref (a 10), .ref (a 11), .ref (a 12), .int 0])), ((a 12), .inr (1, [.ref (a 13), .ref (a 14), .ref (a 15), .int 1, .ref (a 10), .ref (a 16), .ref (a 17), .ref (a 18), .ref (a 19)])), ((a 13), .inr (8, [.int 0, .int 0, .long 0, .ref (a 60), .ref (a 61), .ref (a 62), .ref (a 63), .ref (a 64), .ref (a 65), .ref (a 66), .ref (a 67)])), ((a 66), .inl (D.1 13, 8, .inl (fun _ => (-2)))), ((a 8), .inl (D.1 15, 8, .inr (.inl (fun _ => 0))))] ∧ va_S A s.heap H locs ∧ lv_has ls 3 [(2, .int (nI i)), (1, .ref (a 13)), (0, .ref (a 0))]) (fun i_1 _u H locs ls hi_i_1 hI ih_10 => ?_) 0 () (by decide) ⟨hP, hD, hS, lv_sub hl [0, 1, 2] rfl⟩
  obtain ⟨hP, hD, hS, hl⟩ := hI
  have hP : va_P D vwCl [((a 0), .inr (11, [.ref (a 1), .ref (a 2), .ref (a 3), .ref (a 4), .ref (a 5), .ref (a 6), .ref (a 7), .ref (a 8), .ref (a 9), .ref (a 10), .ref (a 11), .ref (a 12), .int 0])), ((a 12), .inr (1, [.ref (a 13), .ref (a 14), .ref (a 15), .int 1, .ref (a 10), .ref (a 16), .ref (a 17), .ref (a 18), .ref (a 19)])), ((a 13), .inr (8, [.int 0, .int 0, .long 0, .ref (a 60), .ref (a 61), .ref (a 62), .ref (a 63), .ref (a 64), .ref (a 65), .ref (a 66), .ref (a 67)])), ((a 66), .inl (D.1 13, 8, .inl (fun _ => (-2)))), ((a 8), .inl (D.1 15, 8, .inr (.inl (fun _ => 0))))] H := hP
  have hD : va_D A [((a 0), .inr (11, [.ref (a 1), .ref (a 2), .ref (a 3), .ref (a 4), .ref (a 5), .ref (a 6), .ref (a 7), .ref (a 8), .ref (a 9), .ref (a 10), .ref (a 11), .ref (a 12), .int 0])), ((a 12), .inr (1, [.ref (a 13), .ref (a 14), .ref (a 15), .int 1, .ref (a 10), .ref (a 16), .ref (a 17), .ref (a 18), .ref (a 19)])), ((a 13), .inr (8, [.int 0, .int 0, .long 0, .ref (a 60), .ref (a 61), .ref (a 62), .ref (a 63), .ref (a 64), .ref (a 65), .ref (a 66), .ref (a 67)])), ((a 66), .inl (D.1 13, 8, .inl (fun _ => (-2)))), ((a 8), .inl (D.1 15, 8, .inr (.inl (fun _ => 0))))] := hD
  have hl : lv_has ls 3 [(2, .int (nI i_1)), (1, .ref (a 13)), (0, .ref (a 0))] := hl
  refine lv_iload_n hx hb dX11_growTrees_10 rfl (lv_at hl 0 rfl) ?_
  refine lv_bipush (v := 8) hx hb dX11_growTrees_11 (by decide) ?_
  refine lv_icmp_ge (tgt := 54) hx hb dX11_growTrees_13 (by decide) (fun c_2 => ?_) (fun c_2 => ?_)
  · have g_3 : 8 ≤ ((i_1 : Nat) : Int) := z_le (by decide) (nI_toInt (by omega)) c_2
    obtain rfl : i_1 = 8 := by omega
    have hP : va_P D vwCl [((a 0), .inr (11, [.ref (a 1), .ref (a 2), .ref (a 3), .ref (a 4), .ref (a 5), .ref (a 6), .ref (a 7), .ref (a 8), .ref (a 9), .ref (a 10), .ref (a 11), .ref (a 12), .int 0])), ((a 12), .inr (1, [.ref (a 13), .ref (a 14), .ref (a 15), .int 1, .ref (a 10), .ref (a 16), .ref (a 17), .ref (a 18), .ref (a 19)])), ((a 13), .inr (8, [.int 0, .int 0, .long 0, .ref (a 60), .ref (a 61), .ref (a 62), .ref (a 63), .ref (a 64), .ref (a 65), .ref (a 66), .ref (a 67)])), ((a 66), .inl (D.1 13, 8, .inl (fun _ => (-2)))), ((a 8), .inl (D.1 15, 8, .inr (.inl (fun _ => 0))))] H := hP
    have hD : va_D A [((a 0), .inr (11, [.ref (a 1), .ref (a 2), .ref (a 3), .ref (a 4), .ref (a 5), .ref (a 6), .ref (a 7), .ref (a 8), .ref (a 9), .ref (a 10), .ref (a 11), .ref (a 12), .int 0])), ((a 12), .inr (1, [.ref (a 13), .ref (a 14), .ref (a 15), .int 1, .ref (a 10), .ref (a 16), .ref (a 17), .ref (a 18), .ref (a 19)])), ((a 13), .inr (8, [.int 0, .int 0, .long 0, .ref (a 60), .ref (a 61), .ref (a 62), .ref (a 63), .ref (a 64), .ref (a 65), .ref (a 66), .ref (a 67)])), ((a 66), .inl (D.1 13, 8, .inl (fun _ => (-2)))), ((a 8), .inl (D.1 15, 8, .inr (.inl (fun _ => 0))))] := hD
    have hl : lv_has ls 3 [(2, .int 8), (1, .ref (a 13)), (0, .ref (a 0))] := hl
    have hP9 := hP.sub (ws' := [((a 0), .inr (11, [.ref (a 1), .ref (a 2), .ref (a 3), .ref (a 4), .ref (a 5), .ref (a 6), .ref (a 7), .ref (a 8), .ref (a 9), .ref (a 10), .ref (a 11), .ref (a 12), .int 0])), ((a 12), .inr (1, [.ref (a 13), .ref (a 14), .ref (a 15), .int 1, .ref (a 10), .ref (a 16), .ref (a 17), .ref (a 18), .ref (a 19)])), ((a 13), .inr (8, [.int 0, .int 0, .long 0, .ref (a 60), .ref (a 61), .ref (a 62), .ref (a 63), .ref (a 64), .ref (a 65), .ref (a 66), .ref (a 67)]))]) [0, 1, 2] rfl
    have hD9 := hD.sub (ws' := [((a 0), .inr (11, [.ref (a 1), .ref (a 2), .ref (a 3), .ref (a 4), .ref (a 5), .ref (a 6), .ref (a 7), .ref (a 8), .ref (a 9), .ref (a 10), .ref (a 11), .ref (a 12), .int 0])), ((a 12), .inr (1, [.ref (a 13), .ref (a 14), .ref (a 15), .int 1, .ref (a 10), .ref (a 16), .ref (a 17), .ref (a 18), .ref (a 19)])), ((a 13), .inr (8, [.int 0, .int 0, .long 0, .ref (a 60), .ref (a 61), .ref (a 62), .ref (a 63), .ref (a 64), .ref (a 65), .ref (a 66), .ref (a 67)]))]) [0, 1, 2] (by decide) rfl
    refine W.widen (k := 0) (n := 0) (Nat.le_of_ble_eq_true rfl) (Nat.le_of_ble_eq_true rfl) ?_
    exact W.vret hx hb hr (fun t ht hW => ⟨⟨(), rfl, trivial, by rw [ht]; exact hP9, va_K.moved hW.alike hK, hD9⟩, hS.F ht⟩) hS.2.2 dX11_growTrees_54
  · have g_3 : ((i_1 : Nat) : Int) < 8 := z_nle (by decide) (nI_toInt (by omega)) c_2
    refine lv_aload_n hx hb dX11_growTrees_16 rfl (lv_at hl 2 rfl) ?_
    refine va_get (D := D) (ci := 11) (v := .ref (a 8)) (C := RX11) (T := TX11) (N := 13) hx hb ht inX11 hown hK hP 0 rfl rfl 7 (by decide) (ht (.fieldLink RX11 56 "CloneVolumes" "trees" "[J") fl_X11_56) (fun _ h9 => h9) rfl dX11_growTrees_17 ?_
    refine lv_iload_n hx hb dX11_growTrees_20 rfl (lv_at hl 0 rfl) ?_
    refine lv_aload_n hx hb dX11_growTrees_21 rfl (lv_at hl 1 rfl) ?_
    refine lv_iload_n hx hb dX11_growTrees_22 rfl (lv_at hl 0 rfl) ?_
    refine zcV (As := [.int (nI i_1)]) (rest := [.int (nI i_1), .ref (a 8)]) (C := RX8) (n := 1) ⟨hx, hb, hml, hown, ht⟩ (k_X8_isVolume l D a (nI i_1)) (zgV ml_X11_161 im_X8_isVolume se_X8_isVolume in_X8 co_X8_isVolume) rfl rfl (by decide +kernel) ⟨Nat.le_of_ble_eq_true rfl, Nat.le_of_ble_eq_true rfl⟩ hK hP hS [2, 3] rfl 0 rfl rfl rfl rfl hl.1 rfl (Nat.le_of_ble_eq_true rfl) dX11_growTrees_23 ⟨Nat.le_of_ble_eq_true rfl, Nat.le_of_ble_eq_true rfl⟩ (fun r_4 H locs hw hP hS => ?_)
    subst hw
    refine lv_if_eq (tgt := 46) hx hb dX11_growTrees_26 (by decide) (fun _ => ?_) (fun c_5 => (z_abs c_5 (by decide)).elim)
    refine lv_lconst (v := 0) hx hb dX11_growTrees_46 (by decide) ?_
    refine va_last hx hb hK hP hD hS 4 2 rfl rfl (vp_in_nI (by omega) (by omega)) dX11_growTrees_47 (fun H locs hP hD hS => ?_)
    rw [z_updLc] at hP hD
    have hP : va_P D vwCl [((a 0), .inr (11, [.ref (a 1), .ref (a 2), .ref (a 3), .ref (a 4), .ref (a 5), .ref (a 6), .ref (a 7), .ref (a 8), .ref (a 9), .ref (a 10), .ref (a 11), .ref (a 12), .int 0])), ((a 12), .inr (1, [.ref (a 13), .ref (a 14), .ref (a 15), .int 1, .ref (a 10), .ref (a 16), .ref (a 17), .ref (a 18), .ref (a 19)])), ((a 13), .inr (8, [.int 0, .int 0, .long 0, .ref (a 60), .ref (a 61), .ref (a 62), .ref (a 63), .ref (a 64), .ref (a 65), .ref (a 66), .ref (a 67)])), ((a 66), .inl (D.1 13, 8, .inl (fun _ => (-2)))), ((a 8), .inl (D.1 15, 8, .inr (.inl (fun _ => 0))))] H := hP
    have hD : va_D A [((a 0), .inr (11, [.ref (a 1), .ref (a 2), .ref (a 3), .ref (a 4), .ref (a 5), .ref (a 6), .ref (a 7), .ref (a 8), .ref (a 9), .ref (a 10), .ref (a 11), .ref (a 12), .int 0])), ((a 12), .inr (1, [.ref (a 13), .ref (a 14), .ref (a 15), .int 1, .ref (a 10), .ref (a 16), .ref (a 17), .ref (a 18), .ref (a 19)])), ((a 13), .inr (8, [.int 0, .int 0, .long 0, .ref (a 60), .ref (a 61), .ref (a 62), .ref (a 63), .ref (a 64), .ref (a 65), .ref (a 66), .ref (a 67)])), ((a 66), .inl (D.1 13, 8, .inl (fun _ => (-2)))), ((a 8), .inl (D.1 15, 8, .inr (.inl (fun _ => 0))))] := hD
    refine lv_iinc (v := nI (i_1 + 1)) (lv' := [(2, .int (nI (i_1 + 1))), (1, .ref (a 13)), (0, .ref (a 0))]) hx hb dX11_growTrees_48 hl (k := 0) rfl (z_inc _) (by decide) rfl (fun ls hl => ?_)
    refine lv_goto (tgt := 10) hx hb dX11_growTrees_51 (by decide) ?_
    exact ih_10 () _ _ _ (by omega) ⟨hP.sub [0, 1, 2, 3, 4] rfl, hD.sub [0, 1, 2, 3, 4] (by decide) rfl, hS, lv_sub hl [0, 1, 2] rfl⟩
set_option maxHeartbeats 4000000 in
set_option maxRecDepth 100000 in
theorem k_X11_worst (l : Launch) (D : va_G) (sz : Nat) (a : Nat → Nat) (p0 : Int32) : Met l yX11_worst (wz yX11_worst cX11_worst 6 (some .int)) { frames := 2, cells := 0, slots := 0, locals := 120 } (va_Pc [.ref (a 0), .int p0] (zW D sz [((a 0), .inr (11, [.ref (a 1), .ref (a 2), .ref (a 3), .ref (a 4), .ref (a 5), .ref (a 6), .ref (a 7), .ref (a 8), .ref (a 9), .ref (a 10), .ref (a 11), .ref (a 12), .int 0])), ((a 12), .inr (1, [.ref (a 13), .ref (a 14), .ref (a 15), .int 1, .ref (a 10), .ref (a 16), .ref (a 17), .ref (a 18), .ref (a 19)])), ((a 13), .inr (8, [.int 0, .int 0, .long 0, .ref (a 60), .ref (a 61), .ref (a 62), .ref (a 63), .ref (a 64), .ref (a 65), .ref (a 66), .ref (a 67)])), ((a 66), .inl (D.1 13, 8, .inl (fun _ => (-2)))), ((a 8), .inl (D.1 15, 8, .inr (.inl (fun _ => 0))))])) (va_Qi (fun r (_ : Unit) => r = (-1)) (fun u t => zB D (va_A [((a 0), .inr (11, [.ref (a 1), .ref (a 2), .ref (a 3), .ref (a 4), .ref (a 5), .ref (a 6), .ref (a 7), .ref (a 8), .ref (a 9), .ref (a 10), .ref (a 11), .ref (a 12), .int 0])), ((a 12), .inr (1, [.ref (a 13), .ref (a 14), .ref (a 15), .int 1, .ref (a 10), .ref (a 16), .ref (a 17), .ref (a 18), .ref (a 19)])), ((a 13), .inr (8, [.int 0, .int 0, .long 0, .ref (a 60), .ref (a 61), .ref (a 62), .ref (a 63), .ref (a 64), .ref (a 65), .ref (a 66), .ref (a 67)])), ((a 66), .inl (D.1 13, 8, .inl (fun _ => (-2)))), ((a 8), .inl (D.1 15, 8, .inr (.inl (fun _ => 0))))] sz) ((fun (_ : Unit) => []) u) t) (va_A [((a 0), .inr (11, [.ref (a 1), .ref (a 2), .ref (a 3), .ref (a 4), .ref (a 5), .ref (a 6), .ref (a 7), .ref (a 8), .ref (a 9), .ref (a 10), .ref (a 11), .ref (a 12), .int 0])), ((a 12), .inr (1, [.ref (a 13), .ref (a 14), .ref (a 15), .int 1, .ref (a 10), .ref (a 16), .ref (a 17), .ref (a 18), .ref (a 19)])), ((a 13), .inr (8, [.int 0, .int 0, .long 0, .ref (a 60), .ref (a 61), .ref (a 62), .ref (a 63), .ref (a 64), .ref (a 65), .ref (a 66), .ref (a 67)])), ((a 66), .inl (D.1 13, 8, .inl (fun _ => (-2)))), ((a 8), .inl (D.1 15, 8, .inr (.inl (fun _ => 0))))] sz)) 0 0 (va_A [((a 0), .inr (11, [.ref (a 1), .ref (a 2), .ref (a 3), .ref (a 4), .ref (a 5), .ref (a 6), .ref (a 7), .ref (a 8), .ref (a 9), .ref (a 10), .ref (a 11), .ref (a 12), .int 0])), ((a 12), .inr (1, [.ref (a 13), .ref (a 14), .ref (a 15), .int 1, .ref (a 10), .ref (a 16), .ref (a 17), .ref (a 18), .ref (a 19)])), ((a 13), .inr (8, [.int 0, .int 0, .long 0, .ref (a 60), .ref (a 61), .ref (a 62), .ref (a 63), .ref (a 64), .ref (a 65), .ref (a 66), .ref (a 67)])), ((a 66), .inl (D.1 13, 8, .inl (fun _ => (-2)))), ((a 8), .inl (D.1 15, 8, .inr (.inl (fun _ => 0))))] sz) := by
  refine Met.ofW (cc := cX11_worst) (maxL := 6) (ret := (some .int)) (by decide) rfl ?_
  intro p e s m args below meth c s₁ B hml hv
  obtain ⟨rfl, hsz, hP, hK, hD0⟩ := hv
  have hx := B.exec
  have hb := B.bytes
  have hr := B.returns
  have hts := atoms_spec (ws := wz yX11_worst cX11_worst 6 (some .int)) B.pre
  have ht : ∀ w ∈ lw_gd, w.before _ s = true := fun w h => hts w (List.mem_cons_of_mem _ h)
  have hown : s.vm.findClass RX11 = some m.cls := findClass_of_methodNamed B.named
  have hlocks := B.notSynchronized
  subst hsz
  have hD := hD0.self (sz := s.heap.size)
  generalize hAe : va_A [((a 0), .inr (11, [.ref (a 1), .ref (a 2), .ref (a 3), .ref (a 4), .ref (a 5), .ref (a 6), .ref (a 7), .ref (a 8), .ref (a 9), .ref (a 10), .ref (a 11), .ref (a 12), .int 0])), ((a 12), .inr (1, [.ref (a 13), .ref (a 14), .ref (a 15), .int 1, .ref (a 10), .ref (a 16), .ref (a 17), .ref (a 18), .ref (a 19)])), ((a 13), .inr (8, [.int 0, .int 0, .long 0, .ref (a 60), .ref (a 61), .ref (a 62), .ref (a 63), .ref (a 64), .ref (a 65), .ref (a 66), .ref (a 67)])), ((a 66), .inl (D.1 13, 8, .inl (fun _ => (-2)))), ((a 8), .inl (D.1 15, 8, .inr (.inl (fun _ => 0))))] s.heap.size = A at hD ⊢
  have hA : ∀ q : Nat, s.heap.size ≤ q → A q := fun q h => by rw [← hAe]; exact Or.inr h
  have hS : va_S A s.heap s.heap [] := va_S.rf
  have hl := lv_entry ([.ref (a 0), .int p0]) (n := 6) (Nat.le_of_ble_eq_true rfl)
  rw [lg_entry_eq]
  generalize (lg_sl ([.ref (a 0), .int p0]) ++ List.replicate (6 - (lg_sl ([.ref (a 0), .int p0])).length) Slot.unset).toArray = ls at hl ⊢
  have hl : lv_has ls 6 [(0, .ref (a 0)), (1, .int p0)] := hl
  refine lv_aload_n hx hb dX11_worst_0 rfl (lv_at hl 0 rfl) ?_
  refine zwVv (As := []) (rest := []) (C := RX11) (n := 0) (wr := []) ⟨hx, hb, hml, hown, ht⟩ (k_X11_growTrees l D _ a) (zgV ml_X11_243 im_X11_growTrees se_X11_growTrees in_X11 co_X11_growTrees) rfl rfl (by decide +kernel) ⟨Nat.le_of_ble_eq_true rfl, Nat.le_of_ble_eq_true rfl⟩ hK hP hD hS hA [0, 1, 2, 3, 4] [] rfl rfl rfl rfl (by decide) 0 rfl rfl rfl rfl hl.1 rfl (Nat.le_of_ble_eq_true rfl) dX11_worst_1 ⟨Nat.le_of_ble_eq_true rfl, Nat.le_of_ble_eq_true rfl⟩ (fun u_1 H locs hw hP hD hS => ?_)
  have hP : va_P D vwCl [((a 0), .inr (11, [.ref (a 1), .ref (a 2), .ref (a 3), .ref (a 4), .ref (a 5), .ref (a 6), .ref (a 7), .ref (a 8), .ref (a 9), .ref (a 10), .ref (a 11), .ref (a 12), .int 0])), ((a 12), .inr (1, [.ref (a 13), .ref (a 14), .ref (a 15), .int 1, .ref (a 10), .ref (a 16), .ref (a 17), .ref (a 18), .ref (a 19)])), ((a 13), .inr (8, [.int 0, .int 0, .long 0, .ref (a 60), .ref (a 61), .ref (a 62), .ref (a 63), .ref (a 64), .ref (a 65), .ref (a 66), .ref (a 67)]))] H := hP
  have hD : va_D A [((a 0), .inr (11, [.ref (a 1), .ref (a 2), .ref (a 3), .ref (a 4), .ref (a 5), .ref (a 6), .ref (a 7), .ref (a 8), .ref (a 9), .ref (a 10), .ref (a 11), .ref (a 12), .int 0])), ((a 12), .inr (1, [.ref (a 13), .ref (a 14), .ref (a 15), .int 1, .ref (a 10), .ref (a 16), .ref (a 17), .ref (a 18), .ref (a 19)])), ((a 13), .inr (8, [.int 0, .int 0, .long 0, .ref (a 60), .ref (a 61), .ref (a 62), .ref (a 63), .ref (a 64), .ref (a 65), .ref (a 66), .ref (a 67)]))] := hD
  refine lv_iconst (v := (-1)) hx hb dX11_worst_4 (by decide) ?_
  refine lv_istore_n (lv' := [(2, .int (-1)), (0, .ref (a 0)), (1, .int p0)]) hx hb dX11_worst_5 rfl hl (by decide) rfl (fun ls hl => ?_)
  refine lv_iconst (v := 0) hx hb dX11_worst_6 (by decide) ?_
  refine lv_istore_n (lv' := [(3, .int 0), (2, .int (-1)), (0, .ref (a 0)), (1, .int p0)]) hx hb dX11_worst_7 rfl hl (by decide) rfl (fun ls hl => ?_)
  refine lv_iconst (v := 0) hx hb dX11_worst_8 (by decide) ?_
  refine lv_istore (lv' := [(4, .int 0), (3, .int 0), (2, .int (-1)), (0, .ref (a 0)), (1, .int p0)]) hx hb dX11_worst_9 hl (by decide) rfl (fun ls hl => ?_)
  refine lv_iload hx hb dX11_worst_11 (lv_at hl 0 rfl) ?_
  refine lv_aload_n hx hb dX11_worst_13 rfl (lv_at hl 3 rfl) ?_
  refine va_get (D := D) (ci := 11) (v := .ref (a 12)) (C := RX11) (T := TX11) (N := 13) hx hb ht inX11 hown hK hP 0 rfl rfl 11 (by decide) (ht (.fieldLink RX11 79 "CloneVolumes" "forest" "LCloneVolumes$Forest;") fl_X11_79) (fun _ h9 => h9) rfl dX11_worst_14 ?_
  refine va_get (D := D) (ci := 1) (v := .ref (a 13)) (C := RX1) (T := TX1) (N := 9) hx hb ht inX1 hown hK hP 1 rfl rfl 0 (by decide) (ht (.fieldLink RX11 125 "CloneVolumes$Forest" "now" "LCloneVolumes$State;") fl_X11_125) (fun _ h9 => h9) rfl dX11_worst_17 ?_
  refine va_get (D := D) (ci := 8) (v := .int 0) (C := RX8) (T := TX8) (N := 11) hx hb ht inX8 hown hK hP 2 rfl rfl 0 (by decide) (ht (.fieldLink RX11 129 "CloneVolumes$State" "blocks" "I") fl_X11_129) (fun _ h9 => h9) rfl dX11_worst_20 ?_
  refine lv_icmp_ge (tgt := 52) hx hb dX11_worst_23 (by decide) (fun _ => ?_) (fun c_3 => (z_abs c_3 (by decide)).elim)
  refine lv_iload_n hx hb dX11_worst_52 rfl (lv_at hl 2 rfl) ?_
  refine lv_iconst (v := (-1)) hx hb dX11_worst_53 (by decide) ?_
  refine lv_icmp_ne (tgt := 59) hx hb dX11_worst_54 (by decide) (fun c_5 => (z_abs c_5 (by decide)).elim) (fun _ => ?_)
  refine lv_iconst (v := (-1)) hx hb dX11_worst_57 (by decide) ?_
  have hP9 := hP.sub (ws' := []) [] rfl
  have hD9 := hD.sub (ws' := []) [] (by decide) rfl
  refine W.widen (k := 0) (n := 0) (Nat.le_of_ble_eq_true rfl) (Nat.le_of_ble_eq_true rfl) ?_
  exact W.iret (v := (-1)) hx hb hr (fun t ht hW => ⟨⟨(-1), (), rfl, rfl, by rw [ht]; exact hP9, va_K.moved hW.alike hK, hD9⟩, hS.F ht⟩) hS.2.2 dX11_worst_58
end
section
theorem fl_X5_43 : Cond.fieldLink RX5 43 "CloneVolumes$Plan" "statements" "I" ∈ lw_gd := zm (List.mem_of_getElem? (i := 480) (by decide +kernel)) rfl
theorem fl_X5_47 : Cond.fieldLink RX5 47 "CloneVolumes$Plan" "volumes" "I" ∈ lw_gd := zm (List.mem_of_getElem? (i := 483) (by decide +kernel)) rfl
theorem fl_X5_50 : Cond.fieldLink RX5 50 "CloneVolumes$Plan" "changes" "I" ∈ lw_gd := zm (List.mem_of_getElem? (i := 486) (by decide +kernel)) rfl
theorem fl_X5_53 : Cond.fieldLink RX5 53 "CloneVolumes$Plan" "churn" "I" ∈ lw_gd := zm (List.mem_of_getElem? (i := 477) (by decide +kernel)) rfl
theorem fl_X5_30 : Cond.fieldLink RX5 30 "CloneVolumes$Plan" "code" "LCloneVolumes$Code;" ∈ lw_gd := zm (List.mem_of_getElem? (i := 498) (by decide +kernel)) rfl
theorem fl_X5_56 : Cond.fieldLink RX5 56 "CloneVolumes$Code" "size" "I" ∈ lw_gd := zm (List.mem_of_getElem? (i := 458) (by decide +kernel)) rfl
theorem fl_X5_34 : Cond.fieldLink RX5 34 "CloneVolumes$Plan" "begins" "[I" ∈ lw_gd := zm (List.mem_of_getElem? (i := 502) (by decide +kernel)) rfl
theorem fl_X5_37 : Cond.fieldLink RX5 37 "CloneVolumes$Plan" "ends" "[I" ∈ lw_gd := zm (List.mem_of_getElem? (i := 505) (by decide +kernel)) rfl
theorem fl_X6_61 : Cond.fieldLink RX6 61 "CloneVolumes$Reader" "fault" "I" ∈ lw_gd := zm (List.mem_of_getElem? (i := 298) (by decide +kernel)) rfl
theorem fl_X6_88 : Cond.fieldLink RX6 88 "CloneVolumes$Reader" "stop" "I" ∈ lw_gd := zm (List.mem_of_getElem? (i := 309) (by decide +kernel)) rfl
theorem fl_X6_51 : Cond.fieldLink RX6 51 "CloneVolumes$Reader" "start" "I" ∈ lw_gd := zm (List.mem_of_getElem? (i := 308) (by decide +kernel)) rfl
theorem fl_X6_27 : Cond.fieldLink RX6 27 "CloneVolumes$Reader" "tape" "LCloneVolumes$Tape;" ∈ lw_gd := zm (List.mem_of_getElem? (i := 302) (by decide +kernel)) rfl
theorem fl_X6_91 : Cond.fieldLink RX6 91 "CloneVolumes$Tape" "length" "I" ∈ lw_gd := zm (List.mem_of_getElem? (i := 238) (by decide +kernel)) rfl
theorem fl_X6_72 : Cond.fieldLink RX6 72 "CloneVolumes$Reader" "word" "I" ∈ lw_gd := zm (List.mem_of_getElem? (i := 310) (by decide +kernel)) rfl
theorem ml_X6_104 : Cond.methodLink RX6 104 yX9_at ∈ lw_gd := zm (List.mem_of_getElem? (i := 780) (by decide +kernel)) rfl
theorem im_X9_at : Cond.instanceMethod yX9_at ∈ lw_gd := zm (List.mem_of_getElem? (i := 781) (by decide +kernel)) rfl
theorem se_X9_at : Cond.selects RX9 yX9_at yX9_at ∈ lw_gd := zm (List.mem_of_getElem? (i := 782) (by decide +kernel)) rfl
theorem co_X9_at : Cond.code yX9_at cX9_at 2 (some .int) ∈ lw_gd := zm (List.mem_of_getElem? (i := 783) (by decide +kernel)) rfl
theorem fl_X6_108 : Cond.fieldLink RX6 108 "CloneVolumes$Reader" "sign" "I" ∈ lw_gd := zm (List.mem_of_getElem? (i := 311) (by decide +kernel)) rfl
theorem fl_X6_44 : Cond.fieldLink RX6 44 "CloneVolumes$Reader" "kind" "I" ∈ lw_gd := zm (List.mem_of_getElem? (i := 307) (by decide +kernel)) rfl
theorem fl_X6_84 : Cond.fieldLink RX6 84 "CloneVolumes$Reader" "code" "LCloneVolumes$Code;" ∈ lw_gd := zm (List.mem_of_getElem? (i := 304) (by decide +kernel)) rfl
theorem fl_X6_9 : Cond.fieldLink RX6 9 "CloneVolumes$Reader" "place" "I" ∈ lw_gd := zm (List.mem_of_getElem? (i := 300) (by decide +kernel)) rfl
theorem fl_X6_85 : Cond.fieldLink RX6 85 "CloneVolumes$Reader" "open" "I" ∈ lw_gd := zm (List.mem_of_getElem? (i := 306) (by decide +kernel)) rfl
theorem ml_X6_75 : Cond.methodLink RX6 75 yX6_advance ∈ lw_gd := zm (List.mem_of_getElem? (i := 773) (by decide +kernel)) rfl
theorem im_X6_advance : Cond.instanceMethod yX6_advance ∈ lw_gd := zm (List.mem_of_getElem? (i := 775) (by decide +kernel)) rfl
theorem se_X6_advance : Cond.selects RX6 yX6_advance yX6_advance ∈ lw_gd := zm (List.mem_of_getElem? (i := 2) (by decide +kernel)) rfl
theorem in_X6 : Cond.initialized RX6 ∈ lw_gd := zm (List.mem_of_getElem? (i := 200) (by decide +kernel)) rfl
theorem co_X6_advance : Cond.code yX6_advance cX6_advance 2 none ∈ lw_gd := zm (List.mem_of_getElem? (i := 776) (by decide +kernel)) rfl
theorem ml_X6_31 : Cond.methodLink RX6 31 yX5_clear ∈ lw_gd := zm (List.mem_of_getElem? (i := 768) (by decide +kernel)) rfl
theorem im_X5_clear : Cond.instanceMethod yX5_clear ∈ lw_gd := zm (List.mem_of_getElem? (i := 468) (by decide +kernel)) rfl
theorem se_X5_clear : Cond.selects RX5 yX5_clear yX5_clear ∈ lw_gd := zm (List.mem_of_getElem? (i := 469) (by decide +kernel)) rfl
theorem in_X5 : Cond.initialized RX5 ∈ lw_gd := zm (List.mem_of_getElem? (i := 209) (by decide +kernel)) rfl
theorem co_X5_clear : Cond.code yX5_clear cX5_clear 2 none ∈ lw_gd := zm (List.mem_of_getElem? (i := 470) (by decide +kernel)) rfl
theorem fl_X6_36 : Cond.fieldLink RX6 36 "CloneVolumes$Plan" "code" "LCloneVolumes$Code;" ∈ lw_gd := zm (List.mem_of_getElem? (i := 499) (by decide +kernel)) rfl
theorem ml_X6_40 : Cond.methodLink RX6 40 yX6_begin ∈ lw_gd := zm (List.mem_of_getElem? (i := 769) (by decide +kernel)) rfl
theorem im_X6_begin : Cond.instanceMethod yX6_begin ∈ lw_gd := zm (List.mem_of_getElem? (i := 771) (by decide +kernel)) rfl
theorem se_X6_begin : Cond.selects RX6 yX6_begin yX6_begin ∈ lw_gd := zm (List.mem_of_getElem? (i := 1) (by decide +kernel)) rfl
theorem co_X6_begin : Cond.code yX6_begin cX6_begin 2 none ∈ lw_gd := zm (List.mem_of_getElem? (i := 772) (by decide +kernel)) rfl
theorem fl_X6_58 : Cond.fieldLink RX6 58 "CloneVolumes$Plan" "statements" "I" ∈ lw_gd := zm (List.mem_of_getElem? (i := 481) (by decide +kernel)) rfl
theorem ml_X6_54 : Cond.methodLink RX6 54 yX6_fail ∈ lw_gd := zm (List.mem_of_getElem? (i := 798) (by decide +kernel)) rfl
theorem im_X6_fail : Cond.instanceMethod yX6_fail ∈ lw_gd := zm (List.mem_of_getElem? (i := 800) (by decide +kernel)) rfl
theorem se_X6_fail : Cond.selects RX6 yX6_fail yX6_fail ∈ lw_gd := zm (List.mem_of_getElem? (i := 5) (by decide +kernel)) rfl
theorem co_X6_fail : Cond.code yX6_fail cX6_fail 3 (some .boolean) ∈ lw_gd := zm (List.mem_of_getElem? (i := 801) (by decide +kernel)) rfl
theorem fl_X11_71 : Cond.fieldLink RX11 71 "CloneVolumes" "spare" "LCloneVolumes$Plan;" ∈ lw_gd := zm (List.mem_of_getElem? (i := 710) (by decide +kernel)) rfl
theorem ml_X11_99 : Cond.methodLink RX11 99 yX6_readStore ∈ lw_gd := zm (List.mem_of_getElem? (i := 764) (by decide +kernel)) rfl
theorem im_X6_readStore : Cond.instanceMethod yX6_readStore ∈ lw_gd := zm (List.mem_of_getElem? (i := 765) (by decide +kernel)) rfl
theorem se_X6_readStore : Cond.selects RX6 yX6_readStore yX6_readStore ∈ lw_gd := zm (List.mem_of_getElem? (i := 766) (by decide +kernel)) rfl
theorem co_X6_readStore : Cond.code yX6_readStore cX6_readStore 3 (some .boolean) ∈ lw_gd := zm (List.mem_of_getElem? (i := 767) (by decide +kernel)) rfl
theorem dX11_store_0 : decode cX11_store 0 = .ok (.aload_n 0, 1) := by decide +kernel
theorem dX11_store_1 : decode cX11_store 1 = .ok (.getfield 21, 3) := by decide +kernel
theorem dX11_store_4 : decode cX11_store 4 = .ok (.aload_n 0, 1) := by decide +kernel
theorem dX11_store_5 : decode cX11_store 5 = .ok (.getfield 71, 3) := by decide +kernel
theorem dX11_store_8 : decode cX11_store 8 = .ok (.invokevirtual 99, 3) := by decide +kernel
theorem dX11_store_11 : decode cX11_store 11 = .ok (.istore_n 1, 1) := by decide +kernel
theorem dX11_store_12 : decode cX11_store 12 = .ok (.aload_n 0, 1) := by decide +kernel
theorem dX11_store_13 : decode cX11_store 13 = .ok (.getfield 12, 3) := by decide +kernel
theorem dX11_store_16 : decode cX11_store 16 = .ok (.iconst 0, 1) := by decide +kernel
theorem dX11_store_17 : decode cX11_store 17 = .ok (.putfield 95, 3) := by decide +kernel
theorem dX11_store_20 : decode cX11_store 20 = .ok (.iload_n 1, 1) := by decide +kernel
theorem dX11_store_21 : decode cX11_store 21 = .ok (.ifCond .ne 9, 3) := by decide +kernel
theorem dX11_store_24 : decode cX11_store 24 = .ok (.aload_n 0, 1) := by decide +kernel
theorem dX11_store_25 : decode cX11_store 25 = .ok (.iconst 1, 1) := by decide +kernel
theorem dX11_store_26 : decode cX11_store 26 = .ok (.invokevirtual 87, 3) := by decide +kernel
theorem dX11_store_29 : decode cX11_store 29 = .ok (.ireturn, 1) := by decide +kernel
theorem dX5_clear_0 : decode cX5_clear 0 = .ok (.aload_n 0, 1) := by decide +kernel
theorem dX5_clear_1 : decode cX5_clear 1 = .ok (.iconst 0, 1) := by decide +kernel
theorem dX5_clear_2 : decode cX5_clear 2 = .ok (.putfield 43, 3) := by decide +kernel
theorem dX5_clear_5 : decode cX5_clear 5 = .ok (.aload_n 0, 1) := by decide +kernel
theorem dX5_clear_6 : decode cX5_clear 6 = .ok (.iconst 0, 1) := by decide +kernel
theorem dX5_clear_7 : decode cX5_clear 7 = .ok (.putfield 47, 3) := by decide +kernel
theorem dX5_clear_10 : decode cX5_clear 10 = .ok (.aload_n 0, 1) := by decide +kernel
theorem dX5_clear_11 : decode cX5_clear 11 = .ok (.iconst 0, 1) := by decide +kernel
theorem dX5_clear_12 : decode cX5_clear 12 = .ok (.putfield 50, 3) := by decide +kernel
theorem dX5_clear_15 : decode cX5_clear 15 = .ok (.aload_n 0, 1) := by decide +kernel
theorem dX5_clear_16 : decode cX5_clear 16 = .ok (.iconst 0, 1) := by decide +kernel
theorem dX5_clear_17 : decode cX5_clear 17 = .ok (.putfield 53, 3) := by decide +kernel
theorem dX5_clear_20 : decode cX5_clear 20 = .ok (.aload_n 0, 1) := by decide +kernel
theorem dX5_clear_21 : decode cX5_clear 21 = .ok (.getfield 30, 3) := by decide +kernel
theorem dX5_clear_24 : decode cX5_clear 24 = .ok (.iconst 0, 1) := by decide +kernel
theorem dX5_clear_25 : decode cX5_clear 25 = .ok (.putfield 56, 3) := by decide +kernel
theorem dX5_clear_28 : decode cX5_clear 28 = .ok (.iconst 0, 1) := by decide +kernel
theorem dX5_clear_29 : decode cX5_clear 29 = .ok (.istore_n 1, 1) := by decide +kernel
theorem dX5_clear_30 : decode cX5_clear 30 = .ok (.iload_n 1, 1) := by decide +kernel
theorem dX5_clear_31 : decode cX5_clear 31 = .ok (.iconst 3, 1) := by decide +kernel
theorem dX5_clear_32 : decode cX5_clear 32 = .ok (.if_icmp .ge 23, 3) := by decide +kernel
theorem dX5_clear_35 : decode cX5_clear 35 = .ok (.aload_n 0, 1) := by decide +kernel
theorem dX5_clear_36 : decode cX5_clear 36 = .ok (.getfield 34, 3) := by decide +kernel
theorem dX5_clear_39 : decode cX5_clear 39 = .ok (.iload_n 1, 1) := by decide +kernel
theorem dX5_clear_40 : decode cX5_clear 40 = .ok (.iconst (-1), 1) := by decide +kernel
theorem dX5_clear_41 : decode cX5_clear 41 = .ok (.iastore, 1) := by decide +kernel
theorem dX5_clear_42 : decode cX5_clear 42 = .ok (.aload_n 0, 1) := by decide +kernel
theorem dX5_clear_43 : decode cX5_clear 43 = .ok (.getfield 37, 3) := by decide +kernel
theorem dX5_clear_46 : decode cX5_clear 46 = .ok (.iload_n 1, 1) := by decide +kernel
theorem dX5_clear_47 : decode cX5_clear 47 = .ok (.iconst (-1), 1) := by decide +kernel
theorem dX5_clear_48 : decode cX5_clear 48 = .ok (.iastore, 1) := by decide +kernel
theorem dX5_clear_49 : decode cX5_clear 49 = .ok (.iinc 1 1, 3) := by decide +kernel
theorem dX5_clear_52 : decode cX5_clear 52 = .ok (.goto (-22), 3) := by decide +kernel
theorem dX5_clear_55 : decode cX5_clear 55 = .ok (.return_, 1) := by decide +kernel
theorem dX6_advance_0 : decode cX6_advance 0 = .ok (.aload_n 0, 1) := by decide +kernel
theorem dX6_advance_1 : decode cX6_advance 1 = .ok (.getfield 61, 3) := by decide +kernel
theorem dX6_advance_4 : decode cX6_advance 4 = .ok (.ifCond .eq 4, 3) := by decide +kernel
theorem dX6_advance_8 : decode cX6_advance 8 = .ok (.aload_n 0, 1) := by decide +kernel
theorem dX6_advance_9 : decode cX6_advance 9 = .ok (.aload_n 0, 1) := by decide +kernel
theorem dX6_advance_10 : decode cX6_advance 10 = .ok (.getfield 88, 3) := by decide +kernel
theorem dX6_advance_13 : decode cX6_advance 13 = .ok (.putfield 51, 3) := by decide +kernel
theorem dX6_advance_16 : decode cX6_advance 16 = .ok (.aload_n 0, 1) := by decide +kernel
theorem dX6_advance_17 : decode cX6_advance 17 = .ok (.getfield 51, 3) := by decide +kernel
theorem dX6_advance_20 : decode cX6_advance 20 = .ok (.aload_n 0, 1) := by decide +kernel
theorem dX6_advance_21 : decode cX6_advance 21 = .ok (.getfield 27, 3) := by decide +kernel
theorem dX6_advance_24 : decode cX6_advance 24 = .ok (.getfield 91, 3) := by decide +kernel
theorem dX6_advance_27 : decode cX6_advance 27 = .ok (.if_icmp .ge 34, 3) := by decide +kernel
theorem dX6_advance_61 : decode cX6_advance 61 = .ok (.aload_n 0, 1) := by decide +kernel
theorem dX6_advance_62 : decode cX6_advance 62 = .ok (.aload_n 0, 1) := by decide +kernel
theorem dX6_advance_63 : decode cX6_advance 63 = .ok (.getfield 51, 3) := by decide +kernel
theorem dX6_advance_66 : decode cX6_advance 66 = .ok (.putfield 88, 3) := by decide +kernel
theorem dX6_advance_69 : decode cX6_advance 69 = .ok (.aload_n 0, 1) := by decide +kernel
theorem dX6_advance_70 : decode cX6_advance 70 = .ok (.iconst (-1), 1) := by decide +kernel
theorem dX6_advance_71 : decode cX6_advance 71 = .ok (.putfield 72, 3) := by decide +kernel
theorem dX6_advance_74 : decode cX6_advance 74 = .ok (.aload_n 0, 1) := by decide +kernel
theorem dX6_advance_75 : decode cX6_advance 75 = .ok (.aload_n 0, 1) := by decide +kernel
theorem dX6_advance_76 : decode cX6_advance 76 = .ok (.getfield 27, 3) := by decide +kernel
theorem dX6_advance_79 : decode cX6_advance 79 = .ok (.aload_n 0, 1) := by decide +kernel
theorem dX6_advance_80 : decode cX6_advance 80 = .ok (.getfield 51, 3) := by decide +kernel
theorem dX6_advance_83 : decode cX6_advance 83 = .ok (.invokevirtual 104, 3) := by decide +kernel
theorem dX6_advance_86 : decode cX6_advance 86 = .ok (.putfield 108, 3) := by decide +kernel
theorem dX6_advance_89 : decode cX6_advance 89 = .ok (.aload_n 0, 1) := by decide +kernel
theorem dX6_advance_90 : decode cX6_advance 90 = .ok (.getfield 108, 3) := by decide +kernel
theorem dX6_advance_93 : decode cX6_advance 93 = .ok (.iconst (-1), 1) := by decide +kernel
theorem dX6_advance_94 : decode cX6_advance 94 = .ok (.if_icmp .ne 11, 3) := by decide +kernel
theorem dX6_advance_97 : decode cX6_advance 97 = .ok (.aload_n 0, 1) := by decide +kernel
theorem dX6_advance_98 : decode cX6_advance 98 = .ok (.iconst 0, 1) := by decide +kernel
theorem dX6_advance_99 : decode cX6_advance 99 = .ok (.putfield 44, 3) := by decide +kernel
theorem dX6_advance_102 : decode cX6_advance 102 = .ok (.goto 149, 3) := by decide +kernel
theorem dX6_advance_251 : decode cX6_advance 251 = .ok (.aload_n 0, 1) := by decide +kernel
theorem dX6_advance_252 : decode cX6_advance 252 = .ok (.getfield 27, 3) := by decide +kernel
theorem dX6_advance_255 : decode cX6_advance 255 = .ok (.aload_n 0, 1) := by decide +kernel
theorem dX6_advance_256 : decode cX6_advance 256 = .ok (.getfield 51, 3) := by decide +kernel
theorem dX6_advance_259 : decode cX6_advance 259 = .ok (.iconst 1, 1) := by decide +kernel
theorem dX6_advance_260 : decode cX6_advance 260 = .ok (.isub, 1) := by decide +kernel
theorem dX6_advance_261 : decode cX6_advance 261 = .ok (.invokevirtual 104, 3) := by decide +kernel
theorem dX6_advance_264 : decode cX6_advance 264 = .ok (.istore_n 1, 1) := by decide +kernel
theorem dX6_advance_265 : decode cX6_advance 265 = .ok (.aload_n 0, 1) := by decide +kernel
theorem dX6_advance_266 : decode cX6_advance 266 = .ok (.getfield 44, 3) := by decide +kernel
theorem dX6_advance_269 : decode cX6_advance 269 = .ok (.iconst 1, 1) := by decide +kernel
theorem dX6_advance_270 : decode cX6_advance 270 = .ok (.if_icmp .eq 11, 3) := by decide +kernel
theorem dX6_advance_273 : decode cX6_advance 273 = .ok (.aload_n 0, 1) := by decide +kernel
theorem dX6_advance_274 : decode cX6_advance 274 = .ok (.getfield 44, 3) := by decide +kernel
theorem dX6_advance_277 : decode cX6_advance 277 = .ok (.iconst 2, 1) := by decide +kernel
theorem dX6_advance_278 : decode cX6_advance 278 = .ok (.if_icmp .ne 22, 3) := by decide +kernel
theorem dX6_advance_300 : decode cX6_advance 300 = .ok (.return_, 1) := by decide +kernel
theorem dX6_begin_0 : decode cX6_begin 0 = .ok (.aload_n 0, 1) := by decide +kernel
theorem dX6_begin_1 : decode cX6_begin 1 = .ok (.aload_n 1, 1) := by decide +kernel
theorem dX6_begin_2 : decode cX6_begin 2 = .ok (.putfield 84, 3) := by decide +kernel
theorem dX6_begin_5 : decode cX6_begin 5 = .ok (.aload_n 0, 1) := by decide +kernel
theorem dX6_begin_6 : decode cX6_begin 6 = .ok (.iconst 0, 1) := by decide +kernel
theorem dX6_begin_7 : decode cX6_begin 7 = .ok (.putfield 61, 3) := by decide +kernel
theorem dX6_begin_10 : decode cX6_begin 10 = .ok (.aload_n 0, 1) := by decide +kernel
theorem dX6_begin_11 : decode cX6_begin 11 = .ok (.iconst (-1), 1) := by decide +kernel
theorem dX6_begin_12 : decode cX6_begin 12 = .ok (.putfield 9, 3) := by decide +kernel
theorem dX6_begin_15 : decode cX6_begin 15 = .ok (.aload_n 0, 1) := by decide +kernel
theorem dX6_begin_16 : decode cX6_begin 16 = .ok (.iconst 0, 1) := by decide +kernel
theorem dX6_begin_17 : decode cX6_begin 17 = .ok (.putfield 85, 3) := by decide +kernel
theorem dX6_begin_20 : decode cX6_begin 20 = .ok (.aload_n 0, 1) := by decide +kernel
theorem dX6_begin_21 : decode cX6_begin 21 = .ok (.iconst 0, 1) := by decide +kernel
theorem dX6_begin_22 : decode cX6_begin 22 = .ok (.putfield 88, 3) := by decide +kernel
theorem dX6_begin_25 : decode cX6_begin 25 = .ok (.aload_n 0, 1) := by decide +kernel
theorem dX6_begin_26 : decode cX6_begin 26 = .ok (.invokevirtual 75, 3) := by decide +kernel
theorem dX6_begin_29 : decode cX6_begin 29 = .ok (.return_, 1) := by decide +kernel
theorem dX6_fail_0 : decode cX6_fail 0 = .ok (.aload_n 0, 1) := by decide +kernel
theorem dX6_fail_1 : decode cX6_fail 1 = .ok (.getfield 61, 3) := by decide +kernel
theorem dX6_fail_4 : decode cX6_fail 4 = .ok (.ifCond .ne 18, 3) := by decide +kernel
theorem dX6_fail_7 : decode cX6_fail 7 = .ok (.aload_n 0, 1) := by decide +kernel
theorem dX6_fail_8 : decode cX6_fail 8 = .ok (.iload_n 1, 1) := by decide +kernel
theorem dX6_fail_9 : decode cX6_fail 9 = .ok (.putfield 61, 3) := by decide +kernel
theorem dX6_fail_12 : decode cX6_fail 12 = .ok (.aload_n 0, 1) := by decide +kernel
theorem dX6_fail_13 : decode cX6_fail 13 = .ok (.iload_n 2, 1) := by decide +kernel
theorem dX6_fail_14 : decode cX6_fail 14 = .ok (.putfield 9, 3) := by decide +kernel
theorem dX6_fail_17 : decode cX6_fail 17 = .ok (.aload_n 0, 1) := by decide +kernel
theorem dX6_fail_18 : decode cX6_fail 18 = .ok (.iconst 0, 1) := by decide +kernel
theorem dX6_fail_19 : decode cX6_fail 19 = .ok (.putfield 44, 3) := by decide +kernel
theorem dX6_fail_22 : decode cX6_fail 22 = .ok (.iconst 0, 1) := by decide +kernel
theorem dX6_fail_23 : decode cX6_fail 23 = .ok (.ireturn, 1) := by decide +kernel
theorem dX6_readStore_0 : decode cX6_readStore 0 = .ok (.aload_n 1, 1) := by decide +kernel
theorem dX6_readStore_1 : decode cX6_readStore 1 = .ok (.invokevirtual 31, 3) := by decide +kernel
theorem dX6_readStore_4 : decode cX6_readStore 4 = .ok (.aload_n 0, 1) := by decide +kernel
theorem dX6_readStore_5 : decode cX6_readStore 5 = .ok (.aload_n 1, 1) := by decide +kernel
theorem dX6_readStore_6 : decode cX6_readStore 6 = .ok (.getfield 36, 3) := by decide +kernel
theorem dX6_readStore_9 : decode cX6_readStore 9 = .ok (.invokevirtual 40, 3) := by decide +kernel
theorem dX6_readStore_12 : decode cX6_readStore 12 = .ok (.iconst 0, 1) := by decide +kernel
theorem dX6_readStore_13 : decode cX6_readStore 13 = .ok (.istore_n 2, 1) := by decide +kernel
theorem dX6_readStore_14 : decode cX6_readStore 14 = .ok (.iload_n 2, 1) := by decide +kernel
theorem dX6_readStore_15 : decode cX6_readStore 15 = .ok (.bipush 60, 2) := by decide +kernel
theorem dX6_readStore_17 : decode cX6_readStore 17 = .ok (.if_icmp .ge 21, 3) := by decide +kernel
theorem dX6_readStore_20 : decode cX6_readStore 20 = .ok (.aload_n 0, 1) := by decide +kernel
theorem dX6_readStore_21 : decode cX6_readStore 21 = .ok (.getfield 44, 3) := by decide +kernel
theorem dX6_readStore_24 : decode cX6_readStore 24 = .ok (.ifCond .eq 14, 3) := by decide +kernel
theorem dX6_readStore_38 : decode cX6_readStore 38 = .ok (.aload_n 0, 1) := by decide +kernel
theorem dX6_readStore_39 : decode cX6_readStore 39 = .ok (.getfield 44, 3) := by decide +kernel
theorem dX6_readStore_42 : decode cX6_readStore 42 = .ok (.ifCond .eq 16, 3) := by decide +kernel
theorem dX6_readStore_58 : decode cX6_readStore 58 = .ok (.aload_n 1, 1) := by decide +kernel
theorem dX6_readStore_59 : decode cX6_readStore 59 = .ok (.getfield 58, 3) := by decide +kernel
theorem dX6_readStore_62 : decode cX6_readStore 62 = .ok (.ifCond .ne 13, 3) := by decide +kernel
theorem dX6_readStore_65 : decode cX6_readStore 65 = .ok (.aload_n 0, 1) := by decide +kernel
theorem dX6_readStore_66 : decode cX6_readStore 66 = .ok (.iconst 1, 1) := by decide +kernel
theorem dX6_readStore_67 : decode cX6_readStore 67 = .ok (.aload_n 0, 1) := by decide +kernel
theorem dX6_readStore_68 : decode cX6_readStore 68 = .ok (.getfield 51, 3) := by decide +kernel
theorem dX6_readStore_71 : decode cX6_readStore 71 = .ok (.invokevirtual 54, 3) := by decide +kernel
theorem dX6_readStore_74 : decode cX6_readStore 74 = .ok (.pop, 1) := by decide +kernel
theorem dX6_readStore_75 : decode cX6_readStore 75 = .ok (.aload_n 0, 1) := by decide +kernel
theorem dX6_readStore_76 : decode cX6_readStore 76 = .ok (.getfield 61, 3) := by decide +kernel
theorem dX6_readStore_79 : decode cX6_readStore 79 = .ok (.ifCond .ne 7, 3) := by decide +kernel
theorem dX6_readStore_86 : decode cX6_readStore 86 = .ok (.iconst 0, 1) := by decide +kernel
theorem dX6_readStore_87 : decode cX6_readStore 87 = .ok (.ireturn, 1) := by decide +kernel
set_option maxHeartbeats 4000000 in
set_option maxRecDepth 100000 in
theorem k_X5_clear (l : Launch) (D : va_G) (sz : Nat) (h0 h1 h2 h3 x1 x2 x3 x4 x5 x6 : Nat) (fb fe : Nat → Int32) : Met l yX5_clear (wz yX5_clear cX5_clear 2 none) { frames := 0, cells := 0, slots := 0, locals := 0 } (va_Pc [.ref h0] (zW D sz [(h0, .inr (5, [.int 0, .int 0, .int 0, .int 0, .int 0, .int 0, .ref x1, .ref x2, .ref x3, .ref x4, .ref x5, .ref h1, .ref h2, .ref h3])), (h1, .inr (0, [.ref x6, .int 0])), (h2, .inl (D.1 13, 3, .inl fb)), (h3, .inl (D.1 13, 3, .inl fe))])) (va_Qv (fun (_ : ((Nat → Int32) × (Nat → Int32))) => True) (fun u t => zB D (va_A [(h0, .inr (5, [.int 0, .int 0, .int 0, .int 0, .int 0, .int 0, .ref x1, .ref x2, .ref x3, .ref x4, .ref x5, .ref h1, .ref h2, .ref h3])), (h1, .inr (0, [.ref x6, .int 0])), (h2, .inl (D.1 13, 3, .inl fb)), (h3, .inl (D.1 13, 3, .inl fe))] sz) ((fun (u : ((Nat → Int32) × (Nat → Int32))) => [(h0, .inr (5, [.int 0, .int 0, .int 0, .int 0, .int 0, .int 0, .ref x1, .ref x2, .ref x3, .ref x4, .ref x5, .ref h1, .ref h2, .ref h3])), (h1, .inr (0, [.ref x6, .int 0])), (h2, .inl (D.1 13, 3, .inl u.1)), (h3, .inl (D.1 13, 3, .inl u.2))]) u) t) (va_A [(h0, .inr (5, [.int 0, .int 0, .int 0, .int 0, .int 0, .int 0, .ref x1, .ref x2, .ref x3, .ref x4, .ref x5, .ref h1, .ref h2, .ref h3])), (h1, .inr (0, [.ref x6, .int 0])), (h2, .inl (D.1 13, 3, .inl fb)), (h3, .inl (D.1 13, 3, .inl fe))] sz)) 0 0 (va_A [(h0, .inr (5, [.int 0, .int 0, .int 0, .int 0, .int 0, .int 0, .ref x1, .ref x2, .ref x3, .ref x4, .ref x5, .ref h1, .ref h2, .ref h3])), (h1, .inr (0, [.ref x6, .int 0])), (h2, .inl (D.1 13, 3, .inl fb)), (h3, .inl (D.1 13, 3, .inl fe))] sz) := by
  refine Met.ofW (cc := cX5_clear) (maxL := 2) (ret := none) (by decide) rfl ?_
  intro p e s m args below meth c s₁ B hml hv
  obtain ⟨rfl, hsz, hP, hK, hD0⟩ := hv
  have hx := B.exec
  have hb := B.bytes
  have hr := B.returns
  have hts := atoms_spec (ws := wz yX5_clear cX5_clear 2 none) B.pre
  have ht : ∀ w ∈ lw_gd, w.before _ s = true := fun w h => hts w (List.mem_cons_of_mem _ h)
  have hown : s.vm.findClass RX5 = some m.cls := findClass_of_methodNamed B.named
  have hlocks := B.notSynchronized
  subst hsz
  have hD := hD0.self (sz := s.heap.size)
  generalize hAe : va_A [(h0, .inr (5, [.int 0, .int 0, .int 0, .int 0, .int 0, .int 0, .ref x1, .ref x2, .ref x3, .ref x4, .ref x5, .ref h1, .ref h2, .ref h3])), (h1, .inr (0, [.ref x6, .int 0])), (h2, .inl (D.1 13, 3, .inl fb)), (h3, .inl (D.1 13, 3, .inl fe))] s.heap.size = A at hD ⊢
  have hA : ∀ q : Nat, s.heap.size ≤ q → A q := fun q h => by rw [← hAe]; exact Or.inr h
  have hS : va_S A s.heap s.heap [] := va_S.rf
  have hl := lv_entry ([.ref h0]) (n := 2) (Nat.le_of_ble_eq_true rfl)
  rw [lg_entry_eq]
  generalize (lg_sl ([.ref h0]) ++ List.replicate (2 - (lg_sl ([.ref h0])).length) Slot.unset).toArray = ls at hl ⊢
  have hl : lv_has ls 2 [(0, .ref h0)] := hl
  refine lv_aload_n hx hb dX5_clear_0 rfl (lv_at hl 0 rfl) ?_
  refine lv_iconst (v := 0) hx hb dX5_clear_1 (by decide) ?_
  refine va_put (D := D) (ci := 5) (v := .int 0) (ty := .int) (C := RX5) (T := TX5) (N := 14) hx hb ht inX5 tyX5 tyX5_ok nmX5 hown hK hP hD hS 0 rfl rfl 3 (by decide) (ht (.fieldLink RX5 43 "CloneVolumes$Plan" "statements" "I") fl_X5_43) (fun _ h9 => h9) rfl (by decide +kernel) rfl rfl (Nat.le_of_ble_eq_true rfl) dX5_clear_2 (fun H locs hP hD hS => ?_)
  have hP : va_P D vwCl [(h0, .inr (5, [.int 0, .int 0, .int 0, .int 0, .int 0, .int 0, .ref x1, .ref x2, .ref x3, .ref x4, .ref x5, .ref h1, .ref h2, .ref h3])), (h1, .inr (0, [.ref x6, .int 0])), (h2, .inl (D.1 13, 3, .inl fb)), (h3, .inl (D.1 13, 3, .inl fe))] H := hP
  have hD : va_D A [(h0, .inr (5, [.int 0, .int 0, .int 0, .int 0, .int 0, .int 0, .ref x1, .ref x2, .ref x3, .ref x4, .ref x5, .ref h1, .ref h2, .ref h3])), (h1, .inr (0, [.ref x6, .int 0])), (h2, .inl (D.1 13, 3, .inl fb)), (h3, .inl (D.1 13, 3, .inl fe))] := hD
  refine lv_aload_n hx hb dX5_clear_5 rfl (lv_at hl 0 rfl) ?_
  refine lv_iconst (v := 0) hx hb dX5_clear_6 (by decide) ?_
  refine va_put (D := D) (ci := 5) (v := .int 0) (ty := .int) (C := RX5) (T := TX5) (N := 14) hx hb ht inX5 tyX5 tyX5_ok nmX5 hown hK hP hD hS 0 rfl rfl 4 (by decide) (ht (.fieldLink RX5 47 "CloneVolumes$Plan" "volumes" "I") fl_X5_47) (fun _ h9 => h9) rfl (by decide +kernel) rfl rfl (Nat.le_of_ble_eq_true rfl) dX5_clear_7 (fun H locs hP hD hS => ?_)
  have hP : va_P D vwCl [(h0, .inr (5, [.int 0, .int 0, .int 0, .int 0, .int 0, .int 0, .ref x1, .ref x2, .ref x3, .ref x4, .ref x5, .ref h1, .ref h2, .ref h3])), (h1, .inr (0, [.ref x6, .int 0])), (h2, .inl (D.1 13, 3, .inl fb)), (h3, .inl (D.1 13, 3, .inl fe))] H := hP
  have hD : va_D A [(h0, .inr (5, [.int 0, .int 0, .int 0, .int 0, .int 0, .int 0, .ref x1, .ref x2, .ref x3, .ref x4, .ref x5, .ref h1, .ref h2, .ref h3])), (h1, .inr (0, [.ref x6, .int 0])), (h2, .inl (D.1 13, 3, .inl fb)), (h3, .inl (D.1 13, 3, .inl fe))] := hD
  refine lv_aload_n hx hb dX5_clear_10 rfl (lv_at hl 0 rfl) ?_
  refine lv_iconst (v := 0) hx hb dX5_clear_11 (by decide) ?_
  refine va_put (D := D) (ci := 5) (v := .int 0) (ty := .int) (C := RX5) (T := TX5) (N := 14) hx hb ht inX5 tyX5 tyX5_ok nmX5 hown hK hP hD hS 0 rfl rfl 5 (by decide) (ht (.fieldLink RX5 50 "CloneVolumes$Plan" "changes" "I") fl_X5_50) (fun _ h9 => h9) rfl (by decide +kernel) rfl rfl (Nat.le_of_ble_eq_true rfl) dX5_clear_12 (fun H locs hP hD hS => ?_)
  have hP : va_P D vwCl [(h0, .inr (5, [.int 0, .int 0, .int 0, .int 0, .int 0, .int 0, .ref x1, .ref x2, .ref x3, .ref x4, .ref x5, .ref h1, .ref h2, .ref h3])), (h1, .inr (0, [.ref x6, .int 0])), (h2, .inl (D.1 13, 3, .inl fb)), (h3, .inl (D.1 13, 3, .inl fe))] H := hP
  have hD : va_D A [(h0, .inr (5, [.int 0, .int 0, .int 0, .int 0, .int 0, .int 0, .ref x1, .ref x2, .ref x3, .ref x4, .ref x5, .ref h1, .ref h2, .ref h3])), (h1, .inr (0, [.ref x6, .int 0])), (h2, .inl (D.1 13, 3, .inl fb)), (h3, .inl (D.1 13, 3, .inl fe))] := hD
  refine lv_aload_n hx hb dX5_clear_15 rfl (lv_at hl 0 rfl) ?_
  refine lv_iconst (v := 0) hx hb dX5_clear_16 (by decide) ?_
  refine va_put (D := D) (ci := 5) (v := .int 0) (ty := .int) (C := RX5) (T := TX5) (N := 14) hx hb ht inX5 tyX5 tyX5_ok nmX5 hown hK hP hD hS 0 rfl rfl 2 (by decide) (ht (.fieldLink RX5 53 "CloneVolumes$Plan" "churn" "I") fl_X5_53) (fun _ h9 => h9) rfl (by decide +kernel) rfl rfl (Nat.le_of_ble_eq_true rfl) dX5_clear_17 (fun H locs hP hD hS => ?_)
  have hP : va_P D vwCl [(h0, .inr (5, [.int 0, .int 0, .int 0, .int 0, .int 0, .int 0, .ref x1, .ref x2, .ref x3, .ref x4, .ref x5, .ref h1, .ref h2, .ref h3])), (h1, .inr (0, [.ref x6, .int 0])), (h2, .inl (D.1 13, 3, .inl fb)), (h3, .inl (D.1 13, 3, .inl fe))] H := hP
  have hD : va_D A [(h0, .inr (5, [.int 0, .int 0, .int 0, .int 0, .int 0, .int 0, .ref x1, .ref x2, .ref x3, .ref x4, .ref x5, .ref h1, .ref h2, .ref h3])), (h1, .inr (0, [.ref x6, .int 0])), (h2, .inl (D.1 13, 3, .inl fb)), (h3, .inl (D.1 13, 3, .inl fe))] := hD
  refine lv_aload_n hx hb dX5_clear_20 rfl (lv_at hl 0 rfl) ?_
  refine va_get (D := D) (ci := 5) (v := .ref h1) (C := RX5) (T := TX5) (N := 14) hx hb ht inX5 hown hK hP 0 rfl rfl 11 (by decide) (ht (.fieldLink RX5 30 "CloneVolumes$Plan" "code" "LCloneVolumes$Code;") fl_X5_30) (fun _ h9 => h9) rfl dX5_clear_21 ?_
  refine lv_iconst (v := 0) hx hb dX5_clear_24 (by decide) ?_
  refine va_put (D := D) (ci := 0) (v := .int 0) (ty := .int) (C := RX0) (T := TX0) (N := 2) hx hb ht inX0 tyX0 tyX0_ok nmX0 hown hK hP hD hS 1 rfl rfl 1 (by decide) (ht (.fieldLink RX5 56 "CloneVolumes$Code" "size" "I") fl_X5_56) (fun _ h9 => h9) rfl (by decide +kernel) rfl rfl (Nat.le_of_ble_eq_true rfl) dX5_clear_25 (fun H locs hP hD hS => ?_)
  have hP : va_P D vwCl [(h0, .inr (5, [.int 0, .int 0, .int 0, .int 0, .int 0, .int 0, .ref x1, .ref x2, .ref x3, .ref x4, .ref x5, .ref h1, .ref h2, .ref h3])), (h1, .inr (0, [.ref x6, .int 0])), (h2, .inl (D.1 13, 3, .inl fb)), (h3, .inl (D.1 13, 3, .inl fe))] H := hP
  have hD : va_D A [(h0, .inr (5, [.int 0, .int 0, .int 0, .int 0, .int 0, .int 0, .ref x1, .ref x2, .ref x3, .ref x4, .ref x5, .ref h1, .ref h2, .ref h3])), (h1, .inr (0, [.ref x6, .int 0])), (h2, .inl (D.1 13, 3, .inl fb)), (h3, .inl (D.1 13, 3, .inl fe))] := hD
  refine lv_iconst (v := 0) hx hb dX5_clear_28 (by decide) ?_
  refine lv_istore_n (lv' := [(1, .int 0), (0, .ref h0)]) hx hb dX5_clear_29 rfl hl (by decide) rfl (fun ls hl => ?_)
  refine lv_iload_n hx hb dX5_clear_30 rfl (lv_at hl 0 rfl) ?_
  refine lv_iconst (v := 3) hx hb dX5_clear_31 (by decide) ?_
  refine lv_icmp_ge (tgt := 55) hx hb dX5_clear_32 (by decide) (fun c_1 => (z_abs c_1 (by decide)).elim) (fun _ => ?_)
  refine lv_aload_n hx hb dX5_clear_35 rfl (lv_at hl 1 rfl) ?_
  refine va_get (D := D) (ci := 5) (v := .ref h2) (C := RX5) (T := TX5) (N := 14) hx hb ht inX5 hown hK hP 0 rfl rfl 12 (by decide) (ht (.fieldLink RX5 34 "CloneVolumes$Plan" "begins" "[I") fl_X5_34) (fun _ h9 => h9) rfl dX5_clear_36 ?_
  refine lv_iload_n hx hb dX5_clear_39 rfl (lv_at hl 0 rfl) ?_
  refine lv_iconst (v := (-1)) hx hb dX5_clear_40 (by decide) ?_
  refine va_iast hx hb hK hP hD hS 2 0 rfl rfl (z_in (by decide) (by decide)) dX5_clear_41 (fun H locs hP hD hS => ?_)
  generalize hf_3 : upd _ _ _ = f_3 at hP hD
  have hP : va_P D vwCl [(h0, .inr (5, [.int 0, .int 0, .int 0, .int 0, .int 0, .int 0, .ref x1, .ref x2, .ref x3, .ref x4, .ref x5, .ref h1, .ref h2, .ref h3])), (h1, .inr (0, [.ref x6, .int 0])), (h2, .inl (D.1 13, 3, .inl f_3)), (h3, .inl (D.1 13, 3, .inl fe))] H := hP
  have hD : va_D A [(h0, .inr (5, [.int 0, .int 0, .int 0, .int 0, .int 0, .int 0, .ref x1, .ref x2, .ref x3, .ref x4, .ref x5, .ref h1, .ref h2, .ref h3])), (h1, .inr (0, [.ref x6, .int 0])), (h2, .inl (D.1 13, 3, .inl f_3)), (h3, .inl (D.1 13, 3, .inl fe))] := hD
  refine lv_aload_n hx hb dX5_clear_42 rfl (lv_at hl 1 rfl) ?_
  refine va_get (D := D) (ci := 5) (v := .ref h3) (C := RX5) (T := TX5) (N := 14) hx hb ht inX5 hown hK hP 0 rfl rfl 13 (by decide) (ht (.fieldLink RX5 37 "CloneVolumes$Plan" "ends" "[I") fl_X5_37) (fun _ h9 => h9) rfl dX5_clear_43 ?_
  refine lv_iload_n hx hb dX5_clear_46 rfl (lv_at hl 0 rfl) ?_
  refine lv_iconst (v := (-1)) hx hb dX5_clear_47 (by decide) ?_
  refine va_iast hx hb hK hP hD hS 3 0 rfl rfl (z_in (by decide) (by decide)) dX5_clear_48 (fun H locs hP hD hS => ?_)
  generalize hf_4 : upd _ _ _ = f_4 at hP hD
  have hP : va_P D vwCl [(h0, .inr (5, [.int 0, .int 0, .int 0, .int 0, .int 0, .int 0, .ref x1, .ref x2, .ref x3, .ref x4, .ref x5, .ref h1, .ref h2, .ref h3])), (h1, .inr (0, [.ref x6, .int 0])), (h2, .inl (D.1 13, 3, .inl f_3)), (h3, .inl (D.1 13, 3, .inl f_4))] H := hP
  have hD : va_D A [(h0, .inr (5, [.int 0, .int 0, .int 0, .int 0, .int 0, .int 0, .ref x1, .ref x2, .ref x3, .ref x4, .ref x5, .ref h1, .ref h2, .ref h3])), (h1, .inr (0, [.ref x6, .int 0])), (h2, .inl (D.1 13, 3, .inl f_3)), (h3, .inl (D.1 13, 3, .inl f_4))] := hD
  refine lv_iinc (v := 1) (lv' := [(1, .int 1), (0, .ref h0)]) hx hb dX5_clear_49 hl (k := 0) rfl (by decide) (by decide) rfl (fun ls hl => ?_)
  refine lv_goto (tgt := 30) hx hb dX5_clear_52 (by decide) ?_
  refine lv_iload_n hx hb dX5_clear_30 rfl (lv_at hl 0 rfl) ?_
  refine lv_iconst (v := 3) hx hb dX5_clear_31 (by decide) ?_
  refine lv_icmp_ge (tgt := 55) hx hb dX5_clear_32 (by decide) (fun c_5 => (z_abs c_5 (by decide)).elim) (fun _ => ?_)
  refine lv_aload_n hx hb dX5_clear_35 rfl (lv_at hl 1 rfl) ?_
  refine va_get (D := D) (ci := 5) (v := .ref h2) (C := RX5) (T := TX5) (N := 14) hx hb ht inX5 hown hK hP 0 rfl rfl 12 (by decide) (ht (.fieldLink RX5 34 "CloneVolumes$Plan" "begins" "[I") fl_X5_34) (fun _ h9 => h9) rfl dX5_clear_36 ?_
  refine lv_iload_n hx hb dX5_clear_39 rfl (lv_at hl 0 rfl) ?_
  refine lv_iconst (v := (-1)) hx hb dX5_clear_40 (by decide) ?_
  refine va_iast hx hb hK hP hD hS 2 0 rfl rfl (z_in (by decide) (by decide)) dX5_clear_41 (fun H locs hP hD hS => ?_)
  generalize hf_7 : upd _ _ _ = f_7 at hP hD
  have hP : va_P D vwCl [(h0, .inr (5, [.int 0, .int 0, .int 0, .int 0, .int 0, .int 0, .ref x1, .ref x2, .ref x3, .ref x4, .ref x5, .ref h1, .ref h2, .ref h3])), (h1, .inr (0, [.ref x6, .int 0])), (h2, .inl (D.1 13, 3, .inl f_7)), (h3, .inl (D.1 13, 3, .inl f_4))] H := hP
  have hD : va_D A [(h0, .inr (5, [.int 0, .int 0, .int 0, .int 0, .int 0, .int 0, .ref x1, .ref x2, .ref x3, .ref x4, .ref x5, .ref h1, .ref h2, .ref h3])), (h1, .inr (0, [.ref x6, .int 0])), (h2, .inl (D.1 13, 3, .inl f_7)), (h3, .inl (D.1 13, 3, .inl f_4))] := hD
  refine lv_aload_n hx hb dX5_clear_42 rfl (lv_at hl 1 rfl) ?_
  refine va_get (D := D) (ci := 5) (v := .ref h3) (C := RX5) (T := TX5) (N := 14) hx hb ht inX5 hown hK hP 0 rfl rfl 13 (by decide) (ht (.fieldLink RX5 37 "CloneVolumes$Plan" "ends" "[I") fl_X5_37) (fun _ h9 => h9) rfl dX5_clear_43 ?_
  refine lv_iload_n hx hb dX5_clear_46 rfl (lv_at hl 0 rfl) ?_
  refine lv_iconst (v := (-1)) hx hb dX5_clear_47 (by decide) ?_
  refine va_iast hx hb hK hP hD hS 3 0 rfl rfl (z_in (by decide) (by decide)) dX5_clear_48 (fun H locs hP hD hS => ?_)
  generalize hf_8 : upd _ _ _ = f_8 at hP hD
  have hP : va_P D vwCl [(h0, .inr (5, [.int 0, .int 0, .int 0, .int 0, .int 0, .int 0, .ref x1, .ref x2, .ref x3, .ref x4, .ref x5, .ref h1, .ref h2, .ref h3])), (h1, .inr (0, [.ref x6, .int 0])), (h2, .inl (D.1 13, 3, .inl f_7)), (h3, .inl (D.1 13, 3, .inl f_8))] H := hP
  have hD : va_D A [(h0, .inr (5, [.int 0, .int 0, .int 0, .int 0, .int 0, .int 0, .ref x1, .ref x2, .ref x3, .ref x4, .ref x5, .ref h1, .ref h2, .ref h3])), (h1, .inr (0, [.ref x6, .int 0])), (h2, .inl (D.1 13, 3, .inl f_7)), (h3, .inl (D.1 13, 3, .inl f_8))] := hD
  refine lv_iinc (v := 2) (lv' := [(1, .int 2), (0, .ref h0)]) hx hb dX5_clear_49 hl (k := 0) rfl (by decide) (by decide) rfl (fun ls hl => ?_)
  refine lv_goto (tgt := 30) hx hb dX5_clear_52 (by decide) ?_
  refine lv_iload_n hx hb dX5_clear_30 rfl (lv_at hl 0 rfl) ?_
  refine lv_iconst (v := 3) hx hb dX5_clear_31 (by decide) ?_
  refine lv_icmp_ge (tgt := 55) hx hb dX5_clear_32 (by decide) (fun c_9 => (z_abs c_9 (by decide)).elim) (fun _ => ?_)
  refine lv_aload_n hx hb dX5_clear_35 rfl (lv_at hl 1 rfl) ?_
  refine va_get (D := D) (ci := 5) (v := .ref h2) (C := RX5) (T := TX5) (N := 14) hx hb ht inX5 hown hK hP 0 rfl rfl 12 (by decide) (ht (.fieldLink RX5 34 "CloneVolumes$Plan" "begins" "[I") fl_X5_34) (fun _ h9 => h9) rfl dX5_clear_36 ?_
  refine lv_iload_n hx hb dX5_clear_39 rfl (lv_at hl 0 rfl) ?_
  refine lv_iconst (v := (-1)) hx hb dX5_clear_40 (by decide) ?_
  refine va_iast hx hb hK hP hD hS 2 0 rfl rfl (z_in (by decide) (by decide)) dX5_clear_41 (fun H locs hP hD hS => ?_)
  generalize hf_11 : upd _ _ _ = f_11 at hP hD
  have hP : va_P D vwCl [(h0, .inr (5, [.int 0, .int 0, .int 0, .int 0, .int 0, .int 0, .ref x1, .ref x2, .ref x3, .ref x4, .ref x5, .ref h1, .ref h2, .ref h3])), (h1, .inr (0, [.ref x6, .int 0])), (h2, .inl (D.1 13, 3, .inl f_11)), (h3, .inl (D.1 13, 3, .inl f_8))] H := hP
  have hD : va_D A [(h0, .inr (5, [.int 0, .int 0, .int 0, .int 0, .int 0, .int 0, .ref x1, .ref x2, .ref x3, .ref x4, .ref x5, .ref h1, .ref h2, .ref h3])), (h1, .inr (0, [.ref x6, .int 0])), (h2, .inl (D.1 13, 3, .inl f_11)), (h3, .inl (D.1 13, 3, .inl f_8))] := hD
  refine lv_aload_n hx hb dX5_clear_42 rfl (lv_at hl 1 rfl) ?_
  refine va_get (D := D) (ci := 5) (v := .ref h3) (C := RX5) (T := TX5) (N := 14) hx hb ht inX5 hown hK hP 0 rfl rfl 13 (by decide) (ht (.fieldLink RX5 37 "CloneVolumes$Plan" "ends" "[I") fl_X5_37) (fun _ h9 => h9) rfl dX5_clear_43 ?_
  refine lv_iload_n hx hb dX5_clear_46 rfl (lv_at hl 0 rfl) ?_
  refine lv_iconst (v := (-1)) hx hb dX5_clear_47 (by decide) ?_
  refine va_iast hx hb hK hP hD hS 3 0 rfl rfl (z_in (by decide) (by decide)) dX5_clear_48 (fun H locs hP hD hS => ?_)
  generalize hf_12 : upd _ _ _ = f_12 at hP hD
  have hP : va_P D vwCl [(h0, .inr (5, [.int 0, .int 0, .int 0, .int 0, .int 0, .int 0, .ref x1, .ref x2, .ref x3, .ref x4, .ref x5, .ref h1, .ref h2, .ref h3])), (h1, .inr (0, [.ref x6, .int 0])), (h2, .inl (D.1 13, 3, .inl f_11)), (h3, .inl (D.1 13, 3, .inl f_12))] H := hP
  have hD : va_D A [(h0, .inr (5, [.int 0, .int 0, .int 0, .int 0, .int 0, .int 0, .ref x1, .ref x2, .ref x3, .ref x4, .ref x5, .ref h1, .ref h2, .ref h3])), (h1, .inr (0, [.ref x6, .int 0])), (h2, .inl (D.1 13, 3, .inl f_11)), (h3, .inl (D.1 13, 3, .inl f_12))] := hD
  refine lv_iinc (v := 3) (lv' := [(1, .int 3), (0, .ref h0)]) hx hb dX5_clear_49 hl (k := 0) rfl (by decide) (by decide) rfl (fun ls hl => ?_)
  refine lv_goto (tgt := 30) hx hb dX5_clear_52 (by decide) ?_
  refine lv_iload_n hx hb dX5_clear_30 rfl (lv_at hl 0 rfl) ?_
  refine lv_iconst (v := 3) hx hb dX5_clear_31 (by decide) ?_
  refine lv_icmp_ge (tgt := 55) hx hb dX5_clear_32 (by decide) (fun _ => ?_) (fun c_13 => (z_abs c_13 (by decide)).elim)
  have hP9 := hP.sub (ws' := [(h0, .inr (5, [.int 0, .int 0, .int 0, .int 0, .int 0, .int 0, .ref x1, .ref x2, .ref x3, .ref x4, .ref x5, .ref h1, .ref h2, .ref h3])), (h1, .inr (0, [.ref x6, .int 0])), (h2, .inl (D.1 13, 3, .inl f_11)), (h3, .inl (D.1 13, 3, .inl f_12))]) [0, 1, 2, 3] rfl
  have hD9 := hD.sub (ws' := [(h0, .inr (5, [.int 0, .int 0, .int 0, .int 0, .int 0, .int 0, .ref x1, .ref x2, .ref x3, .ref x4, .ref x5, .ref h1, .ref h2, .ref h3])), (h1, .inr (0, [.ref x6, .int 0])), (h2, .inl (D.1 13, 3, .inl f_11)), (h3, .inl (D.1 13, 3, .inl f_12))]) [0, 1, 2, 3] (by decide) rfl
  refine W.widen (k := 0) (n := 0) (Nat.le_of_ble_eq_true rfl) (Nat.le_of_ble_eq_true rfl) ?_
  exact W.vret hx hb hr (fun t ht hW => ⟨⟨(f_11, f_12), rfl, trivial, by rw [ht]; exact hP9, va_K.moved hW.alike hK, hD9⟩, hS.F ht⟩) hS.2.2 dX5_clear_55
set_option maxHeartbeats 4000000 in
set_option maxRecDepth 100000 in
theorem k_X6_advance (l : Launch) (D : va_G) (sz : Nat) (a : Nat → Nat)  : Met l yX6_advance (wz yX6_advance cX6_advance 2 none) { frames := 1, cells := 0, slots := 0, locals := 60 } (va_Pc [.ref (a 2)] (zW D sz [((a 2), .inr (6, [.int 0, .int (-1), .ref (a 1), .ref (a 21), .ref (a 55), .int 0, .int 0, .int 0, .int 0, .int 0, .int 0, .int 0])), ((a 1), .inr (9, [.ref (a 20), .int 0]))])) (va_Qv (fun (_ : Unit) => True) (fun u t => zB D (va_A [((a 2), .inr (6, [.int 0, .int (-1), .ref (a 1), .ref (a 21), .ref (a 55), .int 0, .int 0, .int 0, .int 0, .int 0, .int 0, .int 0])), ((a 1), .inr (9, [.ref (a 20), .int 0]))] sz) ((fun (u : Unit) => [((a 2), .inr (6, [.int 0, .int (-1), .ref (a 1), .ref (a 21), .ref (a 55), .int 0, .int 0, .int 0, .int 0, .int 0, .int (-1), .int (-1)])), ((a 1), .inr (9, [.ref (a 20), .int 0]))]) u) t) (va_A [((a 2), .inr (6, [.int 0, .int (-1), .ref (a 1), .ref (a 21), .ref (a 55), .int 0, .int 0, .int 0, .int 0, .int 0, .int 0, .int 0])), ((a 1), .inr (9, [.ref (a 20), .int 0]))] sz)) 0 0 (va_A [((a 2), .inr (6, [.int 0, .int (-1), .ref (a 1), .ref (a 21), .ref (a 55), .int 0, .int 0, .int 0, .int 0, .int 0, .int 0, .int 0])), ((a 1), .inr (9, [.ref (a 20), .int 0]))] sz) := by
  refine Met.ofW (cc := cX6_advance) (maxL := 2) (ret := none) (by decide) rfl ?_
  intro p e s m args below meth c s₁ B hml hv
  obtain ⟨rfl, hsz, hP, hK, hD0⟩ := hv
  have hx := B.exec
  have hb := B.bytes
  have hr := B.returns
  have hts := atoms_spec (ws := wz yX6_advance cX6_advance 2 none) B.pre
  have ht : ∀ w ∈ lw_gd, w.before _ s = true := fun w h => hts w (List.mem_cons_of_mem _ h)
  have hown : s.vm.findClass RX6 = some m.cls := findClass_of_methodNamed B.named
  have hlocks := B.notSynchronized
  subst hsz
  have hD := hD0.self (sz := s.heap.size)
  generalize hAe : va_A [((a 2), .inr (6, [.int 0, .int (-1), .ref (a 1), .ref (a 21), .ref (a 55), .int 0, .int 0, .int 0, .int 0, .int 0, .int 0, .int 0])), ((a 1), .inr (9, [.ref (a 20), .int 0]))] s.heap.size = A at hD ⊢
  have hA : ∀ q : Nat, s.heap.size ≤ q → A q := fun q h => by rw [← hAe]; exact Or.inr h
  have hS : va_S A s.heap s.heap [] := va_S.rf
  have hl := lv_entry ([.ref (a 2)]) (n := 2) (Nat.le_of_ble_eq_true rfl)
  rw [lg_entry_eq]
  generalize (lg_sl ([.ref (a 2)]) ++ List.replicate (2 - (lg_sl ([.ref (a 2)])).length) Slot.unset).toArray = ls at hl ⊢
  have hl : lv_has ls 2 [(0, .ref (a 2))] := hl
  refine lv_aload_n hx hb dX6_advance_0 rfl (lv_at hl 0 rfl) ?_
  refine va_get (D := D) (ci := 6) (v := .int 0) (C := RX6) (T := TX6) (N := 12) hx hb ht inX6 hown hK hP 0 rfl rfl 0 (by decide) (ht (.fieldLink RX6 61 "CloneVolumes$Reader" "fault" "I") fl_X6_61) (fun _ h9 => h9) rfl dX6_advance_1 ?_
  refine lv_if_eq (tgt := 8) hx hb dX6_advance_4 (by decide) (fun _ => ?_) (fun c_1 => (z_abs c_1 (by decide)).elim)
  refine lv_aload_n hx hb dX6_advance_8 rfl (lv_at hl 0 rfl) ?_
  refine lv_aload_n hx hb dX6_advance_9 rfl (lv_at hl 0 rfl) ?_
  refine va_get (D := D) (ci := 6) (v := .int 0) (C := RX6) (T := TX6) (N := 12) hx hb ht inX6 hown hK hP 0 rfl rfl 9 (by decide) (ht (.fieldLink RX6 88 "CloneVolumes$Reader" "stop" "I") fl_X6_88) (fun _ h9 => h9) rfl dX6_advance_10 ?_
  refine va_put (D := D) (ci := 6) (v := .int 0) (ty := .int) (C := RX6) (T := TX6) (N := 12) hx hb ht inX6 tyX6 tyX6_ok nmX6 hown hK hP hD hS 0 rfl rfl 8 (by decide) (ht (.fieldLink RX6 51 "CloneVolumes$Reader" "start" "I") fl_X6_51) (fun _ h9 => h9) rfl (by decide +kernel) rfl rfl (Nat.le_of_ble_eq_true rfl) dX6_advance_13 (fun H locs hP hD hS => ?_)
  have hP : va_P D vwCl [((a 2), .inr (6, [.int 0, .int (-1), .ref (a 1), .ref (a 21), .ref (a 55), .int 0, .int 0, .int 0, .int 0, .int 0, .int 0, .int 0])), ((a 1), .inr (9, [.ref (a 20), .int 0]))] H := hP
  have hD : va_D A [((a 2), .inr (6, [.int 0, .int (-1), .ref (a 1), .ref (a 21), .ref (a 55), .int 0, .int 0, .int 0, .int 0, .int 0, .int 0, .int 0])), ((a 1), .inr (9, [.ref (a 20), .int 0]))] := hD
  refine lv_aload_n hx hb dX6_advance_16 rfl (lv_at hl 0 rfl) ?_
  refine va_get (D := D) (ci := 6) (v := .int 0) (C := RX6) (T := TX6) (N := 12) hx hb ht inX6 hown hK hP 0 rfl rfl 8 (by decide) (ht (.fieldLink RX6 51 "CloneVolumes$Reader" "start" "I") fl_X6_51) (fun _ h9 => h9) rfl dX6_advance_17 ?_
  refine lv_aload_n hx hb dX6_advance_20 rfl (lv_at hl 0 rfl) ?_
  refine va_get (D := D) (ci := 6) (v := .ref (a 1)) (C := RX6) (T := TX6) (N := 12) hx hb ht inX6 hown hK hP 0 rfl rfl 2 (by decide) (ht (.fieldLink RX6 27 "CloneVolumes$Reader" "tape" "LCloneVolumes$Tape;") fl_X6_27) (fun _ h9 => h9) rfl dX6_advance_21 ?_
  refine va_get (D := D) (ci := 9) (v := .int 0) (C := RX9) (T := TX9) (N := 2) hx hb ht inX9 hown hK hP 1 rfl rfl 1 (by decide) (ht (.fieldLink RX6 91 "CloneVolumes$Tape" "length" "I") fl_X6_91) (fun _ h9 => h9) rfl dX6_advance_24 ?_
  refine lv_icmp_ge (tgt := 61) hx hb dX6_advance_27 (by decide) (fun _ => ?_) (fun c_3 => (z_abs c_3 (by decide)).elim)
  refine lv_aload_n hx hb dX6_advance_61 rfl (lv_at hl 0 rfl) ?_
  refine lv_aload_n hx hb dX6_advance_62 rfl (lv_at hl 0 rfl) ?_
  refine va_get (D := D) (ci := 6) (v := .int 0) (C := RX6) (T := TX6) (N := 12) hx hb ht inX6 hown hK hP 0 rfl rfl 8 (by decide) (ht (.fieldLink RX6 51 "CloneVolumes$Reader" "start" "I") fl_X6_51) (fun _ h9 => h9) rfl dX6_advance_63 ?_
  refine va_put (D := D) (ci := 6) (v := .int 0) (ty := .int) (C := RX6) (T := TX6) (N := 12) hx hb ht inX6 tyX6 tyX6_ok nmX6 hown hK hP hD hS 0 rfl rfl 9 (by decide) (ht (.fieldLink RX6 88 "CloneVolumes$Reader" "stop" "I") fl_X6_88) (fun _ h9 => h9) rfl (by decide +kernel) rfl rfl (Nat.le_of_ble_eq_true rfl) dX6_advance_66 (fun H locs hP hD hS => ?_)
  have hP : va_P D vwCl [((a 2), .inr (6, [.int 0, .int (-1), .ref (a 1), .ref (a 21), .ref (a 55), .int 0, .int 0, .int 0, .int 0, .int 0, .int 0, .int 0])), ((a 1), .inr (9, [.ref (a 20), .int 0]))] H := hP
  have hD : va_D A [((a 2), .inr (6, [.int 0, .int (-1), .ref (a 1), .ref (a 21), .ref (a 55), .int 0, .int 0, .int 0, .int 0, .int 0, .int 0, .int 0])), ((a 1), .inr (9, [.ref (a 20), .int 0]))] := hD
  refine lv_aload_n hx hb dX6_advance_69 rfl (lv_at hl 0 rfl) ?_
  refine lv_iconst (v := (-1)) hx hb dX6_advance_70 (by decide) ?_
  refine va_put (D := D) (ci := 6) (v := .int (-1)) (ty := .int) (C := RX6) (T := TX6) (N := 12) hx hb ht inX6 tyX6 tyX6_ok nmX6 hown hK hP hD hS 0 rfl rfl 10 (by decide) (ht (.fieldLink RX6 72 "CloneVolumes$Reader" "word" "I") fl_X6_72) (fun _ h9 => h9) rfl (by decide +kernel) rfl rfl (Nat.le_of_ble_eq_true rfl) dX6_advance_71 (fun H locs hP hD hS => ?_)
  have hP : va_P D vwCl [((a 2), .inr (6, [.int 0, .int (-1), .ref (a 1), .ref (a 21), .ref (a 55), .int 0, .int 0, .int 0, .int 0, .int 0, .int (-1), .int 0])), ((a 1), .inr (9, [.ref (a 20), .int 0]))] H := hP
  have hD : va_D A [((a 2), .inr (6, [.int 0, .int (-1), .ref (a 1), .ref (a 21), .ref (a 55), .int 0, .int 0, .int 0, .int 0, .int 0, .int (-1), .int 0])), ((a 1), .inr (9, [.ref (a 20), .int 0]))] := hD
  refine lv_aload_n hx hb dX6_advance_74 rfl (lv_at hl 0 rfl) ?_
  refine lv_aload_n hx hb dX6_advance_75 rfl (lv_at hl 0 rfl) ?_
  refine va_get (D := D) (ci := 6) (v := .ref (a 1)) (C := RX6) (T := TX6) (N := 12) hx hb ht inX6 hown hK hP 0 rfl rfl 2 (by decide) (ht (.fieldLink RX6 27 "CloneVolumes$Reader" "tape" "LCloneVolumes$Tape;") fl_X6_27) (fun _ h9 => h9) rfl dX6_advance_76 ?_
  refine lv_aload_n hx hb dX6_advance_79 rfl (lv_at hl 0 rfl) ?_
  refine va_get (D := D) (ci := 6) (v := .int 0) (C := RX6) (T := TX6) (N := 12) hx hb ht inX6 hown hK hP 0 rfl rfl 8 (by decide) (ht (.fieldLink RX6 51 "CloneVolumes$Reader" "start" "I") fl_X6_51) (fun _ h9 => h9) rfl dX6_advance_80 ?_
  refine zcV (As := [.int 0]) (rest := [.ref (a 2)]) (C := RX9) (n := 1) ⟨hx, hb, hml, hown, ht⟩ (k_X9_at l D a 0) (zgV ml_X6_104 im_X9_at se_X9_at in_X9 co_X9_at) rfl rfl (by decide +kernel) ⟨Nat.le_of_ble_eq_true rfl, Nat.le_of_ble_eq_true rfl⟩ hK hP hS [1] rfl 0 rfl rfl rfl rfl hl.1 rfl (Nat.le_of_ble_eq_true rfl) dX6_advance_83 ⟨Nat.le_of_ble_eq_true rfl, Nat.le_of_ble_eq_true rfl⟩ (fun r_5 H locs hw hP hS => ?_)
  subst hw
  refine va_put (D := D) (ci := 6) (v := .int (-1)) (ty := .int) (C := RX6) (T := TX6) (N := 12) hx hb ht inX6 tyX6 tyX6_ok nmX6 hown hK hP hD hS 0 rfl rfl 11 (by decide) (ht (.fieldLink RX6 108 "CloneVolumes$Reader" "sign" "I") fl_X6_108) (fun _ h9 => h9) rfl (by decide +kernel) rfl rfl (Nat.le_of_ble_eq_true rfl) dX6_advance_86 (fun H locs hP hD hS => ?_)
  have hP : va_P D vwCl [((a 2), .inr (6, [.int 0, .int (-1), .ref (a 1), .ref (a 21), .ref (a 55), .int 0, .int 0, .int 0, .int 0, .int 0, .int (-1), .int (-1)])), ((a 1), .inr (9, [.ref (a 20), .int 0]))] H := hP
  have hD : va_D A [((a 2), .inr (6, [.int 0, .int (-1), .ref (a 1), .ref (a 21), .ref (a 55), .int 0, .int 0, .int 0, .int 0, .int 0, .int (-1), .int (-1)])), ((a 1), .inr (9, [.ref (a 20), .int 0]))] := hD
  refine lv_aload_n hx hb dX6_advance_89 rfl (lv_at hl 0 rfl) ?_
  refine va_get (D := D) (ci := 6) (v := .int (-1)) (C := RX6) (T := TX6) (N := 12) hx hb ht inX6 hown hK hP 0 rfl rfl 11 (by decide) (ht (.fieldLink RX6 108 "CloneVolumes$Reader" "sign" "I") fl_X6_108) (fun _ h9 => h9) rfl dX6_advance_90 ?_
  refine lv_iconst (v := (-1)) hx hb dX6_advance_93 (by decide) ?_
  refine lv_icmp_ne (tgt := 105) hx hb dX6_advance_94 (by decide) (fun c_6 => (z_abs c_6 (by decide)).elim) (fun _ => ?_)
  refine lv_aload_n hx hb dX6_advance_97 rfl (lv_at hl 0 rfl) ?_
  refine lv_iconst (v := 0) hx hb dX6_advance_98 (by decide) ?_
  refine va_put (D := D) (ci := 6) (v := .int 0) (ty := .int) (C := RX6) (T := TX6) (N := 12) hx hb ht inX6 tyX6 tyX6_ok nmX6 hown hK hP hD hS 0 rfl rfl 7 (by decide) (ht (.fieldLink RX6 44 "CloneVolumes$Reader" "kind" "I") fl_X6_44) (fun _ h9 => h9) rfl (by decide +kernel) rfl rfl (Nat.le_of_ble_eq_true rfl) dX6_advance_99 (fun H locs hP hD hS => ?_)
  have hP : va_P D vwCl [((a 2), .inr (6, [.int 0, .int (-1), .ref (a 1), .ref (a 21), .ref (a 55), .int 0, .int 0, .int 0, .int 0, .int 0, .int (-1), .int (-1)])), ((a 1), .inr (9, [.ref (a 20), .int 0]))] H := hP
  have hD : va_D A [((a 2), .inr (6, [.int 0, .int (-1), .ref (a 1), .ref (a 21), .ref (a 55), .int 0, .int 0, .int 0, .int 0, .int 0, .int (-1), .int (-1)])), ((a 1), .inr (9, [.ref (a 20), .int 0]))] := hD
  refine lv_goto (tgt := 251) hx hb dX6_advance_102 (by decide) ?_
  refine lv_aload_n hx hb dX6_advance_251 rfl (lv_at hl 0 rfl) ?_
  refine va_get (D := D) (ci := 6) (v := .ref (a 1)) (C := RX6) (T := TX6) (N := 12) hx hb ht inX6 hown hK hP 0 rfl rfl 2 (by decide) (ht (.fieldLink RX6 27 "CloneVolumes$Reader" "tape" "LCloneVolumes$Tape;") fl_X6_27) (fun _ h9 => h9) rfl dX6_advance_252 ?_
  refine lv_aload_n hx hb dX6_advance_255 rfl (lv_at hl 0 rfl) ?_
  refine va_get (D := D) (ci := 6) (v := .int 0) (C := RX6) (T := TX6) (N := 12) hx hb ht inX6 hown hK hP 0 rfl rfl 8 (by decide) (ht (.fieldLink RX6 51 "CloneVolumes$Reader" "start" "I") fl_X6_51) (fun _ h9 => h9) rfl dX6_advance_256 ?_
  refine lv_iconst (v := 1) hx hb dX6_advance_259 (by decide) ?_
  refine lv_isub hx hb dX6_advance_260 ?_
  refine z_topi (y := (-1)) (by decide) ?_
  refine zcV (As := [.int (-1)]) (rest := []) (C := RX9) (n := 1) ⟨hx, hb, hml, hown, ht⟩ (k_X9_at l D a (-1)) (zgV ml_X6_104 im_X9_at se_X9_at in_X9 co_X9_at) rfl rfl (by decide +kernel) ⟨Nat.le_of_ble_eq_true rfl, Nat.le_of_ble_eq_true rfl⟩ hK hP hS [1] rfl 0 rfl rfl rfl rfl hl.1 rfl (Nat.le_of_ble_eq_true rfl) dX6_advance_261 ⟨Nat.le_of_ble_eq_true rfl, Nat.le_of_ble_eq_true rfl⟩ (fun r_8 H locs hw hP hS => ?_)
  subst hw
  refine lv_istore_n (lv' := [(1, .int (-1)), (0, .ref (a 2))]) hx hb dX6_advance_264 rfl hl (by decide) rfl (fun ls hl => ?_)
  refine lv_aload_n hx hb dX6_advance_265 rfl (lv_at hl 1 rfl) ?_
  refine va_get (D := D) (ci := 6) (v := .int 0) (C := RX6) (T := TX6) (N := 12) hx hb ht inX6 hown hK hP 0 rfl rfl 7 (by decide) (ht (.fieldLink RX6 44 "CloneVolumes$Reader" "kind" "I") fl_X6_44) (fun _ h9 => h9) rfl dX6_advance_266 ?_
  refine lv_iconst (v := 1) hx hb dX6_advance_269 (by decide) ?_
  refine lv_icmp_eq (tgt := 281) hx hb dX6_advance_270 (by decide) (fun c_9 => (z_abs c_9 (by decide)).elim) (fun _ => ?_)
  refine lv_aload_n hx hb dX6_advance_273 rfl (lv_at hl 1 rfl) ?_
  refine va_get (D := D) (ci := 6) (v := .int 0) (C := RX6) (T := TX6) (N := 12) hx hb ht inX6 hown hK hP 0 rfl rfl 7 (by decide) (ht (.fieldLink RX6 44 "CloneVolumes$Reader" "kind" "I") fl_X6_44) (fun _ h9 => h9) rfl dX6_advance_274 ?_
  refine lv_iconst (v := 2) hx hb dX6_advance_277 (by decide) ?_
  refine lv_icmp_ne (tgt := 300) hx hb dX6_advance_278 (by decide) (fun _ => ?_) (fun c_11 => (z_abs c_11 (by decide)).elim)
  have hP9 := hP.sub (ws' := [((a 2), .inr (6, [.int 0, .int (-1), .ref (a 1), .ref (a 21), .ref (a 55), .int 0, .int 0, .int 0, .int 0, .int 0, .int (-1), .int (-1)])), ((a 1), .inr (9, [.ref (a 20), .int 0]))]) [0, 1] rfl
  have hD9 := hD.sub (ws' := [((a 2), .inr (6, [.int 0, .int (-1), .ref (a 1), .ref (a 21), .ref (a 55), .int 0, .int 0, .int 0, .int 0, .int 0, .int (-1), .int (-1)])), ((a 1), .inr (9, [.ref (a 20), .int 0]))]) [0, 1] (by decide) rfl
  refine W.widen (k := 0) (n := 0) (Nat.le_of_ble_eq_true rfl) (Nat.le_of_ble_eq_true rfl) ?_
  exact W.vret hx hb hr (fun t ht hW => ⟨⟨(), rfl, trivial, by rw [ht]; exact hP9, va_K.moved hW.alike hK, hD9⟩, hS.F ht⟩) hS.2.2 dX6_advance_300
set_option maxHeartbeats 4000000 in
set_option maxRecDepth 100000 in
theorem k_X6_begin (l : Launch) (D : va_G) (sz : Nat) (a : Nat → Nat)  : Met l yX6_begin (wz yX6_begin cX6_begin 2 none) { frames := 2, cells := 0, slots := 0, locals := 120 } (va_Pc [.ref (a 2), .ref (a 55)] (zW D sz [((a 2), .inr (6, [.int 0, .int (-1), .ref (a 1), .ref (a 21), .null, .int 0, .int 0, .int 0, .int 0, .int 0, .int 0, .int 0])), ((a 1), .inr (9, [.ref (a 20), .int 0]))])) (va_Qv (fun (_ : Unit) => True) (fun u t => zB D (va_A [((a 2), .inr (6, [.int 0, .int (-1), .ref (a 1), .ref (a 21), .null, .int 0, .int 0, .int 0, .int 0, .int 0, .int 0, .int 0])), ((a 1), .inr (9, [.ref (a 20), .int 0]))] sz) ((fun (u : Unit) => [((a 2), .inr (6, [.int 0, .int (-1), .ref (a 1), .ref (a 21), .ref (a 55), .int 0, .int 0, .int 0, .int 0, .int 0, .int (-1), .int (-1)])), ((a 1), .inr (9, [.ref (a 20), .int 0]))]) u) t) (va_A [((a 2), .inr (6, [.int 0, .int (-1), .ref (a 1), .ref (a 21), .null, .int 0, .int 0, .int 0, .int 0, .int 0, .int 0, .int 0])), ((a 1), .inr (9, [.ref (a 20), .int 0]))] sz)) 0 0 (va_A [((a 2), .inr (6, [.int 0, .int (-1), .ref (a 1), .ref (a 21), .null, .int 0, .int 0, .int 0, .int 0, .int 0, .int 0, .int 0])), ((a 1), .inr (9, [.ref (a 20), .int 0]))] sz) := by
  refine Met.ofW (cc := cX6_begin) (maxL := 2) (ret := none) (by decide) rfl ?_
  intro p e s m args below meth c s₁ B hml hv
  obtain ⟨rfl, hsz, hP, hK, hD0⟩ := hv
  have hx := B.exec
  have hb := B.bytes
  have hr := B.returns
  have hts := atoms_spec (ws := wz yX6_begin cX6_begin 2 none) B.pre
  have ht : ∀ w ∈ lw_gd, w.before _ s = true := fun w h => hts w (List.mem_cons_of_mem _ h)
  have hown : s.vm.findClass RX6 = some m.cls := findClass_of_methodNamed B.named
  have hlocks := B.notSynchronized
  subst hsz
  have hD := hD0.self (sz := s.heap.size)
  generalize hAe : va_A [((a 2), .inr (6, [.int 0, .int (-1), .ref (a 1), .ref (a 21), .null, .int 0, .int 0, .int 0, .int 0, .int 0, .int 0, .int 0])), ((a 1), .inr (9, [.ref (a 20), .int 0]))] s.heap.size = A at hD ⊢
  have hA : ∀ q : Nat, s.heap.size ≤ q → A q := fun q h => by rw [← hAe]; exact Or.inr h
  have hS : va_S A s.heap s.heap [] := va_S.rf
  have hl := lv_entry ([.ref (a 2), .ref (a 55)]) (n := 2) (Nat.le_of_ble_eq_true rfl)
  rw [lg_entry_eq]
  generalize (lg_sl ([.ref (a 2), .ref (a 55)]) ++ List.replicate (2 - (lg_sl ([.ref (a 2), .ref (a 55)])).length) Slot.unset).toArray = ls at hl ⊢
  have hl : lv_has ls 2 [(0, .ref (a 2)), (1, .ref (a 55))] := hl
  refine lv_aload_n hx hb dX6_begin_0 rfl (lv_at hl 0 rfl) ?_
  refine lv_aload_n hx hb dX6_begin_1 rfl (lv_at hl 1 rfl) ?_
  refine va_put (D := D) (ci := 6) (v := .ref (a 55)) (ty := .object "CloneVolumes$Code") (C := RX6) (T := TX6) (N := 12) hx hb ht inX6 tyX6 tyX6_ok nmX6 hown hK hP hD hS 0 rfl rfl 4 (by decide) (ht (.fieldLink RX6 84 "CloneVolumes$Reader" "code" "LCloneVolumes$Code;") fl_X6_84) (fun _ h9 => h9) rfl (by decide +kernel) rfl rfl (Nat.le_of_ble_eq_true rfl) dX6_begin_2 (fun H locs hP hD hS => ?_)
  have hP : va_P D vwCl [((a 2), .inr (6, [.int 0, .int (-1), .ref (a 1), .ref (a 21), .ref (a 55), .int 0, .int 0, .int 0, .int 0, .int 0, .int 0, .int 0])), ((a 1), .inr (9, [.ref (a 20), .int 0]))] H := hP
  have hD : va_D A [((a 2), .inr (6, [.int 0, .int (-1), .ref (a 1), .ref (a 21), .ref (a 55), .int 0, .int 0, .int 0, .int 0, .int 0, .int 0, .int 0])), ((a 1), .inr (9, [.ref (a 20), .int 0]))] := hD
  refine lv_aload_n hx hb dX6_begin_5 rfl (lv_at hl 0 rfl) ?_
  refine lv_iconst (v := 0) hx hb dX6_begin_6 (by decide) ?_
  refine va_put (D := D) (ci := 6) (v := .int 0) (ty := .int) (C := RX6) (T := TX6) (N := 12) hx hb ht inX6 tyX6 tyX6_ok nmX6 hown hK hP hD hS 0 rfl rfl 0 (by decide) (ht (.fieldLink RX6 61 "CloneVolumes$Reader" "fault" "I") fl_X6_61) (fun _ h9 => h9) rfl (by decide +kernel) rfl rfl (Nat.le_of_ble_eq_true rfl) dX6_begin_7 (fun H locs hP hD hS => ?_)
  have hP : va_P D vwCl [((a 2), .inr (6, [.int 0, .int (-1), .ref (a 1), .ref (a 21), .ref (a 55), .int 0, .int 0, .int 0, .int 0, .int 0, .int 0, .int 0])), ((a 1), .inr (9, [.ref (a 20), .int 0]))] H := hP
  have hD : va_D A [((a 2), .inr (6, [.int 0, .int (-1), .ref (a 1), .ref (a 21), .ref (a 55), .int 0, .int 0, .int 0, .int 0, .int 0, .int 0, .int 0])), ((a 1), .inr (9, [.ref (a 20), .int 0]))] := hD
  refine lv_aload_n hx hb dX6_begin_10 rfl (lv_at hl 0 rfl) ?_
  refine lv_iconst (v := (-1)) hx hb dX6_begin_11 (by decide) ?_
  refine va_put (D := D) (ci := 6) (v := .int (-1)) (ty := .int) (C := RX6) (T := TX6) (N := 12) hx hb ht inX6 tyX6 tyX6_ok nmX6 hown hK hP hD hS 0 rfl rfl 1 (by decide) (ht (.fieldLink RX6 9 "CloneVolumes$Reader" "place" "I") fl_X6_9) (fun _ h9 => h9) rfl (by decide +kernel) rfl rfl (Nat.le_of_ble_eq_true rfl) dX6_begin_12 (fun H locs hP hD hS => ?_)
  have hP : va_P D vwCl [((a 2), .inr (6, [.int 0, .int (-1), .ref (a 1), .ref (a 21), .ref (a 55), .int 0, .int 0, .int 0, .int 0, .int 0, .int 0, .int 0])), ((a 1), .inr (9, [.ref (a 20), .int 0]))] H := hP
  have hD : va_D A [((a 2), .inr (6, [.int 0, .int (-1), .ref (a 1), .ref (a 21), .ref (a 55), .int 0, .int 0, .int 0, .int 0, .int 0, .int 0, .int 0])), ((a 1), .inr (9, [.ref (a 20), .int 0]))] := hD
  refine lv_aload_n hx hb dX6_begin_15 rfl (lv_at hl 0 rfl) ?_
  refine lv_iconst (v := 0) hx hb dX6_begin_16 (by decide) ?_
  refine va_put (D := D) (ci := 6) (v := .int 0) (ty := .int) (C := RX6) (T := TX6) (N := 12) hx hb ht inX6 tyX6 tyX6_ok nmX6 hown hK hP hD hS 0 rfl rfl 6 (by decide) (ht (.fieldLink RX6 85 "CloneVolumes$Reader" "open" "I") fl_X6_85) (fun _ h9 => h9) rfl (by decide +kernel) rfl rfl (Nat.le_of_ble_eq_true rfl) dX6_begin_17 (fun H locs hP hD hS => ?_)
  have hP : va_P D vwCl [((a 2), .inr (6, [.int 0, .int (-1), .ref (a 1), .ref (a 21), .ref (a 55), .int 0, .int 0, .int 0, .int 0, .int 0, .int 0, .int 0])), ((a 1), .inr (9, [.ref (a 20), .int 0]))] H := hP
  have hD : va_D A [((a 2), .inr (6, [.int 0, .int (-1), .ref (a 1), .ref (a 21), .ref (a 55), .int 0, .int 0, .int 0, .int 0, .int 0, .int 0, .int 0])), ((a 1), .inr (9, [.ref (a 20), .int 0]))] := hD
  refine lv_aload_n hx hb dX6_begin_20 rfl (lv_at hl 0 rfl) ?_
  refine lv_iconst (v := 0) hx hb dX6_begin_21 (by decide) ?_
  refine va_put (D := D) (ci := 6) (v := .int 0) (ty := .int) (C := RX6) (T := TX6) (N := 12) hx hb ht inX6 tyX6 tyX6_ok nmX6 hown hK hP hD hS 0 rfl rfl 9 (by decide) (ht (.fieldLink RX6 88 "CloneVolumes$Reader" "stop" "I") fl_X6_88) (fun _ h9 => h9) rfl (by decide +kernel) rfl rfl (Nat.le_of_ble_eq_true rfl) dX6_begin_22 (fun H locs hP hD hS => ?_)
  have hP : va_P D vwCl [((a 2), .inr (6, [.int 0, .int (-1), .ref (a 1), .ref (a 21), .ref (a 55), .int 0, .int 0, .int 0, .int 0, .int 0, .int 0, .int 0])), ((a 1), .inr (9, [.ref (a 20), .int 0]))] H := hP
  have hD : va_D A [((a 2), .inr (6, [.int 0, .int (-1), .ref (a 1), .ref (a 21), .ref (a 55), .int 0, .int 0, .int 0, .int 0, .int 0, .int 0, .int 0])), ((a 1), .inr (9, [.ref (a 20), .int 0]))] := hD
  refine lv_aload_n hx hb dX6_begin_25 rfl (lv_at hl 0 rfl) ?_
  refine zwVv (As := []) (rest := []) (C := RX6) (n := 0) (wr := []) ⟨hx, hb, hml, hown, ht⟩ (k_X6_advance l D _ a) (zgV ml_X6_75 im_X6_advance se_X6_advance in_X6 co_X6_advance) rfl rfl (by decide +kernel) ⟨Nat.le_of_ble_eq_true rfl, Nat.le_of_ble_eq_true rfl⟩ hK hP hD hS hA [0, 1] [] rfl rfl rfl rfl (by decide) 0 rfl rfl rfl rfl hl.1 rfl (Nat.le_of_ble_eq_true rfl) dX6_begin_26 ⟨Nat.le_of_ble_eq_true rfl, Nat.le_of_ble_eq_true rfl⟩ (fun u_1 H locs hw hP hD hS => ?_)
  have hP : va_P D vwCl [((a 2), .inr (6, [.int 0, .int (-1), .ref (a 1), .ref (a 21), .ref (a 55), .int 0, .int 0, .int 0, .int 0, .int 0, .int (-1), .int (-1)])), ((a 1), .inr (9, [.ref (a 20), .int 0]))] H := hP
  have hD : va_D A [((a 2), .inr (6, [.int 0, .int (-1), .ref (a 1), .ref (a 21), .ref (a 55), .int 0, .int 0, .int 0, .int 0, .int 0, .int (-1), .int (-1)])), ((a 1), .inr (9, [.ref (a 20), .int 0]))] := hD
  have hP9 := hP.sub (ws' := [((a 2), .inr (6, [.int 0, .int (-1), .ref (a 1), .ref (a 21), .ref (a 55), .int 0, .int 0, .int 0, .int 0, .int 0, .int (-1), .int (-1)])), ((a 1), .inr (9, [.ref (a 20), .int 0]))]) [0, 1] rfl
  have hD9 := hD.sub (ws' := [((a 2), .inr (6, [.int 0, .int (-1), .ref (a 1), .ref (a 21), .ref (a 55), .int 0, .int 0, .int 0, .int 0, .int 0, .int (-1), .int (-1)])), ((a 1), .inr (9, [.ref (a 20), .int 0]))]) [0, 1] (by decide) rfl
  refine W.widen (k := 0) (n := 0) (Nat.le_of_ble_eq_true rfl) (Nat.le_of_ble_eq_true rfl) ?_
  exact W.vret hx hb hr (fun t ht hW => ⟨⟨(), rfl, trivial, by rw [ht]; exact hP9, va_K.moved hW.alike hK, hD9⟩, hS.F ht⟩) hS.2.2 dX6_begin_29
set_option maxHeartbeats 4000000 in
set_option maxRecDepth 100000 in
theorem k_X6_fail (l : Launch) (D : va_G) (sz : Nat) (a : Nat → Nat)  : Met l yX6_fail (wz yX6_fail cX6_fail 3 (some .boolean)) { frames := 0, cells := 0, slots := 0, locals := 0 } (va_Pc [.ref (a 2), .int 1, .int 0] (zW D sz [((a 2), .inr (6, [.int 0, .int (-1), .ref (a 1), .ref (a 21), .ref (a 55), .int 0, .int 0, .int 0, .int 0, .int 0, .int (-1), .int (-1)]))])) (va_Qi (fun r (_ : Unit) => r = 0) (fun u t => zB D (va_A [((a 2), .inr (6, [.int 0, .int (-1), .ref (a 1), .ref (a 21), .ref (a 55), .int 0, .int 0, .int 0, .int 0, .int 0, .int (-1), .int (-1)]))] sz) ((fun (u : Unit) => [((a 2), .inr (6, [.int 1, .int 0, .ref (a 1), .ref (a 21), .ref (a 55), .int 0, .int 0, .int 0, .int 0, .int 0, .int (-1), .int (-1)]))]) u) t) (va_A [((a 2), .inr (6, [.int 0, .int (-1), .ref (a 1), .ref (a 21), .ref (a 55), .int 0, .int 0, .int 0, .int 0, .int 0, .int (-1), .int (-1)]))] sz)) 0 0 (va_A [((a 2), .inr (6, [.int 0, .int (-1), .ref (a 1), .ref (a 21), .ref (a 55), .int 0, .int 0, .int 0, .int 0, .int 0, .int (-1), .int (-1)]))] sz) := by
  refine Met.ofW (cc := cX6_fail) (maxL := 3) (ret := (some .boolean)) (by decide) rfl ?_
  intro p e s m args below meth c s₁ B hml hv
  obtain ⟨rfl, hsz, hP, hK, hD0⟩ := hv
  have hx := B.exec
  have hb := B.bytes
  have hr := B.returns
  have hts := atoms_spec (ws := wz yX6_fail cX6_fail 3 (some .boolean)) B.pre
  have ht : ∀ w ∈ lw_gd, w.before _ s = true := fun w h => hts w (List.mem_cons_of_mem _ h)
  have hown : s.vm.findClass RX6 = some m.cls := findClass_of_methodNamed B.named
  have hlocks := B.notSynchronized
  subst hsz
  have hD := hD0.self (sz := s.heap.size)
  generalize hAe : va_A [((a 2), .inr (6, [.int 0, .int (-1), .ref (a 1), .ref (a 21), .ref (a 55), .int 0, .int 0, .int 0, .int 0, .int 0, .int (-1), .int (-1)]))] s.heap.size = A at hD ⊢
  have hA : ∀ q : Nat, s.heap.size ≤ q → A q := fun q h => by rw [← hAe]; exact Or.inr h
  have hS : va_S A s.heap s.heap [] := va_S.rf
  have hl := lv_entry ([.ref (a 2), .int 1, .int 0]) (n := 3) (Nat.le_of_ble_eq_true rfl)
  rw [lg_entry_eq]
  generalize (lg_sl ([.ref (a 2), .int 1, .int 0]) ++ List.replicate (3 - (lg_sl ([.ref (a 2), .int 1, .int 0])).length) Slot.unset).toArray = ls at hl ⊢
  have hl : lv_has ls 3 [(0, .ref (a 2)), (1, .int 1), (2, .int 0)] := hl
  refine lv_aload_n hx hb dX6_fail_0 rfl (lv_at hl 0 rfl) ?_
  refine va_get (D := D) (ci := 6) (v := .int 0) (C := RX6) (T := TX6) (N := 12) hx hb ht inX6 hown hK hP 0 rfl rfl 0 (by decide) (ht (.fieldLink RX6 61 "CloneVolumes$Reader" "fault" "I") fl_X6_61) (fun _ h9 => h9) rfl dX6_fail_1 ?_
  refine lv_if_ne (tgt := 22) hx hb dX6_fail_4 (by decide) (fun c_1 => (z_abs c_1 (by decide)).elim) (fun _ => ?_)
  refine lv_aload_n hx hb dX6_fail_7 rfl (lv_at hl 0 rfl) ?_
  refine lv_iload_n hx hb dX6_fail_8 rfl (lv_at hl 1 rfl) ?_
  refine va_put (D := D) (ci := 6) (v := .int 1) (ty := .int) (C := RX6) (T := TX6) (N := 12) hx hb ht inX6 tyX6 tyX6_ok nmX6 hown hK hP hD hS 0 rfl rfl 0 (by decide) (ht (.fieldLink RX6 61 "CloneVolumes$Reader" "fault" "I") fl_X6_61) (fun _ h9 => h9) rfl (by decide +kernel) rfl rfl (Nat.le_of_ble_eq_true rfl) dX6_fail_9 (fun H locs hP hD hS => ?_)
  have hP : va_P D vwCl [((a 2), .inr (6, [.int 1, .int (-1), .ref (a 1), .ref (a 21), .ref (a 55), .int 0, .int 0, .int 0, .int 0, .int 0, .int (-1), .int (-1)]))] H := hP
  have hD : va_D A [((a 2), .inr (6, [.int 1, .int (-1), .ref (a 1), .ref (a 21), .ref (a 55), .int 0, .int 0, .int 0, .int 0, .int 0, .int (-1), .int (-1)]))] := hD
  refine lv_aload_n hx hb dX6_fail_12 rfl (lv_at hl 0 rfl) ?_
  refine lv_iload_n hx hb dX6_fail_13 rfl (lv_at hl 2 rfl) ?_
  refine va_put (D := D) (ci := 6) (v := .int 0) (ty := .int) (C := RX6) (T := TX6) (N := 12) hx hb ht inX6 tyX6 tyX6_ok nmX6 hown hK hP hD hS 0 rfl rfl 1 (by decide) (ht (.fieldLink RX6 9 "CloneVolumes$Reader" "place" "I") fl_X6_9) (fun _ h9 => h9) rfl (by decide +kernel) rfl rfl (Nat.le_of_ble_eq_true rfl) dX6_fail_14 (fun H locs hP hD hS => ?_)
  have hP : va_P D vwCl [((a 2), .inr (6, [.int 1, .int 0, .ref (a 1), .ref (a 21), .ref (a 55), .int 0, .int 0, .int 0, .int 0, .int 0, .int (-1), .int (-1)]))] H := hP
  have hD : va_D A [((a 2), .inr (6, [.int 1, .int 0, .ref (a 1), .ref (a 21), .ref (a 55), .int 0, .int 0, .int 0, .int 0, .int 0, .int (-1), .int (-1)]))] := hD
  refine lv_aload_n hx hb dX6_fail_17 rfl (lv_at hl 0 rfl) ?_
  refine lv_iconst (v := 0) hx hb dX6_fail_18 (by decide) ?_
  refine va_put (D := D) (ci := 6) (v := .int 0) (ty := .int) (C := RX6) (T := TX6) (N := 12) hx hb ht inX6 tyX6 tyX6_ok nmX6 hown hK hP hD hS 0 rfl rfl 7 (by decide) (ht (.fieldLink RX6 44 "CloneVolumes$Reader" "kind" "I") fl_X6_44) (fun _ h9 => h9) rfl (by decide +kernel) rfl rfl (Nat.le_of_ble_eq_true rfl) dX6_fail_19 (fun H locs hP hD hS => ?_)
  have hP : va_P D vwCl [((a 2), .inr (6, [.int 1, .int 0, .ref (a 1), .ref (a 21), .ref (a 55), .int 0, .int 0, .int 0, .int 0, .int 0, .int (-1), .int (-1)]))] H := hP
  have hD : va_D A [((a 2), .inr (6, [.int 1, .int 0, .ref (a 1), .ref (a 21), .ref (a 55), .int 0, .int 0, .int 0, .int 0, .int 0, .int (-1), .int (-1)]))] := hD
  refine lv_iconst (v := 0) hx hb dX6_fail_22 (by decide) ?_
  have hP9 := hP.sub (ws' := [((a 2), .inr (6, [.int 1, .int 0, .ref (a 1), .ref (a 21), .ref (a 55), .int 0, .int 0, .int 0, .int 0, .int 0, .int (-1), .int (-1)]))]) [0] rfl
  have hD9 := hD.sub (ws' := [((a 2), .inr (6, [.int 1, .int 0, .ref (a 1), .ref (a 21), .ref (a 55), .int 0, .int 0, .int 0, .int 0, .int 0, .int (-1), .int (-1)]))]) [0] (by decide) rfl
  refine W.widen (k := 0) (n := 0) (Nat.le_of_ble_eq_true rfl) (Nat.le_of_ble_eq_true rfl) ?_
  exact W.zret (v := 0) hx hb hr (by decide) (fun t ht hW => ⟨⟨0, (), rfl, rfl, by rw [ht]; exact hP9, va_K.moved hW.alike hK, hD9⟩, hS.F ht⟩) hS.2.2 dX6_fail_23
set_option maxHeartbeats 4000000 in
set_option maxRecDepth 100000 in
theorem k_X6_readStore (l : Launch) (D : va_G) (sz : Nat) (a : Nat → Nat) (fb fe : Nat → Int32) : Met l yX6_readStore (wz yX6_readStore cX6_readStore 3 (some .boolean)) { frames := 3, cells := 0, slots := 0, locals := 180 } (va_Pc [.ref (a 2), .ref (a 11)] (zW D sz [((a 2), .inr (6, [.int 0, .int (-1), .ref (a 1), .ref (a 21), .null, .int 0, .int 0, .int 0, .int 0, .int 0, .int 0, .int 0])), ((a 1), .inr (9, [.ref (a 20), .int 0])), ((a 11), .inr (5, [.int 0, .int 0, .int 0, .int 0, .int 0, .int 0, .ref (a 50), .ref (a 51), .ref (a 52), .ref (a 53), .ref (a 54), .ref (a 55), .ref (a 56), .ref (a 57)])), ((a 55), .inr (0, [.ref (a 58), .int 0])), ((a 56), .inl (D.1 13, 3, .inl fb)), ((a 57), .inl (D.1 13, 3, .inl fe))])) (va_Qi (fun r (_ : Unit) => r = 0) (fun u t => zB D (va_A [((a 2), .inr (6, [.int 0, .int (-1), .ref (a 1), .ref (a 21), .null, .int 0, .int 0, .int 0, .int 0, .int 0, .int 0, .int 0])), ((a 1), .inr (9, [.ref (a 20), .int 0])), ((a 11), .inr (5, [.int 0, .int 0, .int 0, .int 0, .int 0, .int 0, .ref (a 50), .ref (a 51), .ref (a 52), .ref (a 53), .ref (a 54), .ref (a 55), .ref (a 56), .ref (a 57)])), ((a 55), .inr (0, [.ref (a 58), .int 0])), ((a 56), .inl (D.1 13, 3, .inl fb)), ((a 57), .inl (D.1 13, 3, .inl fe))] sz) ((fun (u : Unit) => [((a 1), .inr (9, [.ref (a 20), .int 0]))]) u) t) (va_A [((a 2), .inr (6, [.int 0, .int (-1), .ref (a 1), .ref (a 21), .null, .int 0, .int 0, .int 0, .int 0, .int 0, .int 0, .int 0])), ((a 1), .inr (9, [.ref (a 20), .int 0])), ((a 11), .inr (5, [.int 0, .int 0, .int 0, .int 0, .int 0, .int 0, .ref (a 50), .ref (a 51), .ref (a 52), .ref (a 53), .ref (a 54), .ref (a 55), .ref (a 56), .ref (a 57)])), ((a 55), .inr (0, [.ref (a 58), .int 0])), ((a 56), .inl (D.1 13, 3, .inl fb)), ((a 57), .inl (D.1 13, 3, .inl fe))] sz)) 0 0 (va_A [((a 2), .inr (6, [.int 0, .int (-1), .ref (a 1), .ref (a 21), .null, .int 0, .int 0, .int 0, .int 0, .int 0, .int 0, .int 0])), ((a 1), .inr (9, [.ref (a 20), .int 0])), ((a 11), .inr (5, [.int 0, .int 0, .int 0, .int 0, .int 0, .int 0, .ref (a 50), .ref (a 51), .ref (a 52), .ref (a 53), .ref (a 54), .ref (a 55), .ref (a 56), .ref (a 57)])), ((a 55), .inr (0, [.ref (a 58), .int 0])), ((a 56), .inl (D.1 13, 3, .inl fb)), ((a 57), .inl (D.1 13, 3, .inl fe))] sz) := by
  refine Met.ofW (cc := cX6_readStore) (maxL := 3) (ret := (some .boolean)) (by decide) rfl ?_
  intro p e s m args below meth c s₁ B hml hv
  obtain ⟨rfl, hsz, hP, hK, hD0⟩ := hv
  have hx := B.exec
  have hb := B.bytes
  have hr := B.returns
  have hts := atoms_spec (ws := wz yX6_readStore cX6_readStore 3 (some .boolean)) B.pre
  have ht : ∀ w ∈ lw_gd, w.before _ s = true := fun w h => hts w (List.mem_cons_of_mem _ h)
  have hown : s.vm.findClass RX6 = some m.cls := findClass_of_methodNamed B.named
  have hlocks := B.notSynchronized
  subst hsz
  have hD := hD0.self (sz := s.heap.size)
  generalize hAe : va_A [((a 2), .inr (6, [.int 0, .int (-1), .ref (a 1), .ref (a 21), .null, .int 0, .int 0, .int 0, .int 0, .int 0, .int 0, .int 0])), ((a 1), .inr (9, [.ref (a 20), .int 0])), ((a 11), .inr (5, [.int 0, .int 0, .int 0, .int 0, .int 0, .int 0, .ref (a 50), .ref (a 51), .ref (a 52), .ref (a 53), .ref (a 54), .ref (a 55), .ref (a 56), .ref (a 57)])), ((a 55), .inr (0, [.ref (a 58), .int 0])), ((a 56), .inl (D.1 13, 3, .inl fb)), ((a 57), .inl (D.1 13, 3, .inl fe))] s.heap.size = A at hD ⊢
  have hA : ∀ q : Nat, s.heap.size ≤ q → A q := fun q h => by rw [← hAe]; exact Or.inr h
  have hS : va_S A s.heap s.heap [] := va_S.rf
  have hl := lv_entry ([.ref (a 2), .ref (a 11)]) (n := 3) (Nat.le_of_ble_eq_true rfl)
  rw [lg_entry_eq]
  generalize (lg_sl ([.ref (a 2), .ref (a 11)]) ++ List.replicate (3 - (lg_sl ([.ref (a 2), .ref (a 11)])).length) Slot.unset).toArray = ls at hl ⊢
  have hl : lv_has ls 3 [(0, .ref (a 2)), (1, .ref (a 11))] := hl
  refine lv_aload_n hx hb dX6_readStore_0 rfl (lv_at hl 1 rfl) ?_
  refine zwVv (As := []) (rest := []) (C := RX5) (n := 0) (wr := [((a 2), .inr (6, [.int 0, .int (-1), .ref (a 1), .ref (a 21), .null, .int 0, .int 0, .int 0, .int 0, .int 0, .int 0, .int 0])), ((a 1), .inr (9, [.ref (a 20), .int 0]))]) ⟨hx, hb, hml, hown, ht⟩ (k_X5_clear l D _ (a 11) (a 55) (a 56) (a 57) (a 50) (a 51) (a 52) (a 53) (a 54) (a 58) fb fe) (zgV ml_X6_31 im_X5_clear se_X5_clear in_X5 co_X5_clear) rfl rfl (by decide +kernel) ⟨Nat.le_of_ble_eq_true rfl, Nat.le_of_ble_eq_true rfl⟩ hK hP hD hS hA [2, 3, 4, 5] [0, 1] rfl rfl rfl rfl (by decide) 0 rfl rfl rfl rfl hl.1 rfl (Nat.le_of_ble_eq_true rfl) dX6_readStore_1 ⟨Nat.le_of_ble_eq_true rfl, Nat.le_of_ble_eq_true rfl⟩ (fun u_1 H locs hw hP hD hS => ?_)
  obtain ⟨f_3, f_4⟩ := u_1
  have hP : va_P D vwCl [((a 2), .inr (6, [.int 0, .int (-1), .ref (a 1), .ref (a 21), .null, .int 0, .int 0, .int 0, .int 0, .int 0, .int 0, .int 0])), ((a 1), .inr (9, [.ref (a 20), .int 0])), ((a 11), .inr (5, [.int 0, .int 0, .int 0, .int 0, .int 0, .int 0, .ref (a 50), .ref (a 51), .ref (a 52), .ref (a 53), .ref (a 54), .ref (a 55), .ref (a 56), .ref (a 57)])), ((a 55), .inr (0, [.ref (a 58), .int 0])), ((a 56), .inl (D.1 13, 3, .inl f_3)), ((a 57), .inl (D.1 13, 3, .inl f_4))] H := hP
  have hD : va_D A [((a 2), .inr (6, [.int 0, .int (-1), .ref (a 1), .ref (a 21), .null, .int 0, .int 0, .int 0, .int 0, .int 0, .int 0, .int 0])), ((a 1), .inr (9, [.ref (a 20), .int 0])), ((a 11), .inr (5, [.int 0, .int 0, .int 0, .int 0, .int 0, .int 0, .ref (a 50), .ref (a 51), .ref (a 52), .ref (a 53), .ref (a 54), .ref (a 55), .ref (a 56), .ref (a 57)])), ((a 55), .inr (0, [.ref (a 58), .int 0])), ((a 56), .inl (D.1 13, 3, .inl f_3)), ((a 57), .inl (D.1 13, 3, .inl f_4))] := hD
  refine lv_aload_n hx hb dX6_readStore_4 rfl (lv_at hl 0 rfl) ?_
  refine lv_aload_n hx hb dX6_readStore_5 rfl (lv_at hl 1 rfl) ?_
  refine va_get (D := D) (ci := 5) (v := .ref (a 55)) (C := RX5) (T := TX5) (N := 14) hx hb ht inX5 hown hK hP 2 rfl rfl 11 (by decide) (ht (.fieldLink RX6 36 "CloneVolumes$Plan" "code" "LCloneVolumes$Code;") fl_X6_36) (fun _ h9 => h9) rfl dX6_readStore_6 ?_
  refine zwVv (As := [.ref (a 55)]) (rest := []) (C := RX6) (n := 1) (wr := [((a 11), .inr (5, [.int 0, .int 0, .int 0, .int 0, .int 0, .int 0, .ref (a 50), .ref (a 51), .ref (a 52), .ref (a 53), .ref (a 54), .ref (a 55), .ref (a 56), .ref (a 57)])), ((a 55), .inr (0, [.ref (a 58), .int 0])), ((a 56), .inl (D.1 13, 3, .inl f_3)), ((a 57), .inl (D.1 13, 3, .inl f_4))]) ⟨hx, hb, hml, hown, ht⟩ (k_X6_begin l D _ a) (zgV ml_X6_40 im_X6_begin se_X6_begin in_X6 co_X6_begin) rfl rfl (by decide +kernel) ⟨Nat.le_of_ble_eq_true rfl, Nat.le_of_ble_eq_true rfl⟩ hK hP hD hS hA [0, 1] [2, 3, 4, 5] rfl rfl rfl rfl (by decide) 0 rfl rfl rfl rfl hl.1 rfl (Nat.le_of_ble_eq_true rfl) dX6_readStore_9 ⟨Nat.le_of_ble_eq_true rfl, Nat.le_of_ble_eq_true rfl⟩ (fun u_5 H locs hw hP hD hS => ?_)
  have hP : va_P D vwCl [((a 11), .inr (5, [.int 0, .int 0, .int 0, .int 0, .int 0, .int 0, .ref (a 50), .ref (a 51), .ref (a 52), .ref (a 53), .ref (a 54), .ref (a 55), .ref (a 56), .ref (a 57)])), ((a 55), .inr (0, [.ref (a 58), .int 0])), ((a 56), .inl (D.1 13, 3, .inl f_3)), ((a 57), .inl (D.1 13, 3, .inl f_4)), ((a 2), .inr (6, [.int 0, .int (-1), .ref (a 1), .ref (a 21), .ref (a 55), .int 0, .int 0, .int 0, .int 0, .int 0, .int (-1), .int (-1)])), ((a 1), .inr (9, [.ref (a 20), .int 0]))] H := hP
  have hD : va_D A [((a 11), .inr (5, [.int 0, .int 0, .int 0, .int 0, .int 0, .int 0, .ref (a 50), .ref (a 51), .ref (a 52), .ref (a 53), .ref (a 54), .ref (a 55), .ref (a 56), .ref (a 57)])), ((a 55), .inr (0, [.ref (a 58), .int 0])), ((a 56), .inl (D.1 13, 3, .inl f_3)), ((a 57), .inl (D.1 13, 3, .inl f_4)), ((a 2), .inr (6, [.int 0, .int (-1), .ref (a 1), .ref (a 21), .ref (a 55), .int 0, .int 0, .int 0, .int 0, .int 0, .int (-1), .int (-1)])), ((a 1), .inr (9, [.ref (a 20), .int 0]))] := hD
  refine lv_iconst (v := 0) hx hb dX6_readStore_12 (by decide) ?_
  refine lv_istore_n (lv' := [(2, .int 0), (0, .ref (a 2)), (1, .ref (a 11))]) hx hb dX6_readStore_13 rfl hl (by decide) rfl (fun ls hl => ?_)
  refine lv_iload_n hx hb dX6_readStore_14 rfl (lv_at hl 0 rfl) ?_
  refine lv_bipush (v := 60) hx hb dX6_readStore_15 (by decide) ?_
  refine lv_icmp_ge (tgt := 38) hx hb dX6_readStore_17 (by decide) (fun c_7 => (z_abs c_7 (by decide)).elim) (fun _ => ?_)
  refine lv_aload_n hx hb dX6_readStore_20 rfl (lv_at hl 1 rfl) ?_
  refine va_get (D := D) (ci := 6) (v := .int 0) (C := RX6) (T := TX6) (N := 12) hx hb ht inX6 hown hK hP 4 rfl rfl 7 (by decide) (ht (.fieldLink RX6 44 "CloneVolumes$Reader" "kind" "I") fl_X6_44) (fun _ h9 => h9) rfl dX6_readStore_21 ?_
  refine lv_if_eq (tgt := 38) hx hb dX6_readStore_24 (by decide) (fun _ => ?_) (fun c_9 => (z_abs c_9 (by decide)).elim)
  refine lv_aload_n hx hb dX6_readStore_38 rfl (lv_at hl 1 rfl) ?_
  refine va_get (D := D) (ci := 6) (v := .int 0) (C := RX6) (T := TX6) (N := 12) hx hb ht inX6 hown hK hP 4 rfl rfl 7 (by decide) (ht (.fieldLink RX6 44 "CloneVolumes$Reader" "kind" "I") fl_X6_44) (fun _ h9 => h9) rfl dX6_readStore_39 ?_
  refine lv_if_eq (tgt := 58) hx hb dX6_readStore_42 (by decide) (fun _ => ?_) (fun c_11 => (z_abs c_11 (by decide)).elim)
  refine lv_aload_n hx hb dX6_readStore_58 rfl (lv_at hl 2 rfl) ?_
  refine va_get (D := D) (ci := 5) (v := .int 0) (C := RX5) (T := TX5) (N := 14) hx hb ht inX5 hown hK hP 0 rfl rfl 3 (by decide) (ht (.fieldLink RX6 58 "CloneVolumes$Plan" "statements" "I") fl_X6_58) (fun _ h9 => h9) rfl dX6_readStore_59 ?_
  refine lv_if_ne (tgt := 75) hx hb dX6_readStore_62 (by decide) (fun c_13 => (z_abs c_13 (by decide)).elim) (fun _ => ?_)
  refine lv_aload_n hx hb dX6_readStore_65 rfl (lv_at hl 1 rfl) ?_
  refine lv_iconst (v := 1) hx hb dX6_readStore_66 (by decide) ?_
  refine lv_aload_n hx hb dX6_readStore_67 rfl (lv_at hl 1 rfl) ?_
  refine va_get (D := D) (ci := 6) (v := .int 0) (C := RX6) (T := TX6) (N := 12) hx hb ht inX6 hown hK hP 4 rfl rfl 8 (by decide) (ht (.fieldLink RX6 51 "CloneVolumes$Reader" "start" "I") fl_X6_51) (fun _ h9 => h9) rfl dX6_readStore_68 ?_
  refine zwV (As := [.int 1, .int 0]) (rest := []) (C := RX6) (n := 2) (wr := [((a 11), .inr (5, [.int 0, .int 0, .int 0, .int 0, .int 0, .int 0, .ref (a 50), .ref (a 51), .ref (a 52), .ref (a 53), .ref (a 54), .ref (a 55), .ref (a 56), .ref (a 57)])), ((a 55), .inr (0, [.ref (a 58), .int 0])), ((a 56), .inl (D.1 13, 3, .inl f_3)), ((a 57), .inl (D.1 13, 3, .inl f_4)), ((a 1), .inr (9, [.ref (a 20), .int 0]))]) ⟨hx, hb, hml, hown, ht⟩ (k_X6_fail l D _ a) (zgV ml_X6_54 im_X6_fail se_X6_fail in_X6 co_X6_fail) rfl rfl (by decide +kernel) ⟨Nat.le_of_ble_eq_true rfl, Nat.le_of_ble_eq_true rfl⟩ hK hP hD hS hA [4] [0, 1, 2, 3, 5] rfl rfl rfl rfl (by decide) 0 rfl rfl rfl rfl hl.1 rfl (Nat.le_of_ble_eq_true rfl) dX6_readStore_71 ⟨Nat.le_of_ble_eq_true rfl, Nat.le_of_ble_eq_true rfl⟩ (fun r_16 u_15 H locs hw hP hD hS => ?_)
  have hP : va_P D vwCl [((a 11), .inr (5, [.int 0, .int 0, .int 0, .int 0, .int 0, .int 0, .ref (a 50), .ref (a 51), .ref (a 52), .ref (a 53), .ref (a 54), .ref (a 55), .ref (a 56), .ref (a 57)])), ((a 55), .inr (0, [.ref (a 58), .int 0])), ((a 56), .inl (D.1 13, 3, .inl f_3)), ((a 57), .inl (D.1 13, 3, .inl f_4)), ((a 1), .inr (9, [.ref (a 20), .int 0])), ((a 2), .inr (6, [.int 1, .int 0, .ref (a 1), .ref (a 21), .ref (a 55), .int 0, .int 0, .int 0, .int 0, .int 0, .int (-1), .int (-1)]))] H := hP
  have hD : va_D A [((a 11), .inr (5, [.int 0, .int 0, .int 0, .int 0, .int 0, .int 0, .ref (a 50), .ref (a 51), .ref (a 52), .ref (a 53), .ref (a 54), .ref (a 55), .ref (a 56), .ref (a 57)])), ((a 55), .inr (0, [.ref (a 58), .int 0])), ((a 56), .inl (D.1 13, 3, .inl f_3)), ((a 57), .inl (D.1 13, 3, .inl f_4)), ((a 1), .inr (9, [.ref (a 20), .int 0])), ((a 2), .inr (6, [.int 1, .int 0, .ref (a 1), .ref (a 21), .ref (a 55), .int 0, .int 0, .int 0, .int 0, .int 0, .int (-1), .int (-1)]))] := hD
  subst hw
  refine lv_pop hx hb dX6_readStore_74 rfl ?_
  refine lv_aload_n hx hb dX6_readStore_75 rfl (lv_at hl 1 rfl) ?_
  refine va_get (D := D) (ci := 6) (v := .int 1) (C := RX6) (T := TX6) (N := 12) hx hb ht inX6 hown hK hP 5 rfl rfl 0 (by decide) (ht (.fieldLink RX6 61 "CloneVolumes$Reader" "fault" "I") fl_X6_61) (fun _ h9 => h9) rfl dX6_readStore_76 ?_
  refine lv_if_ne (tgt := 86) hx hb dX6_readStore_79 (by decide) (fun _ => ?_) (fun c_17 => (z_abs c_17 (by decide)).elim)
  refine lv_iconst (v := 0) hx hb dX6_readStore_86 (by decide) ?_
  have hP9 := hP.sub (ws' := [((a 1), .inr (9, [.ref (a 20), .int 0]))]) [4] rfl
  have hD9 := hD.sub (ws' := [((a 1), .inr (9, [.ref (a 20), .int 0]))]) [4] (by decide) rfl
  refine W.widen (k := 0) (n := 0) (Nat.le_of_ble_eq_true rfl) (Nat.le_of_ble_eq_true rfl) ?_
  exact W.zret (v := 0) hx hb hr (by decide) (fun t ht hW => ⟨⟨0, (), rfl, rfl, by rw [ht]; exact hP9, va_K.moved hW.alike hK, hD9⟩, hS.F ht⟩) hS.2.2 dX6_readStore_87
set_option maxHeartbeats 4000000 in
set_option maxRecDepth 100000 in
theorem k_X11_store (l : Launch) (D : va_G) (sz : Nat) (a : Nat → Nat) (fb fe : Nat → Int32) : Met l yX11_store (wz yX11_store cX11_store 3 (some .int)) { frames := 4, cells := 0, slots := 0, locals := 240 } (va_Pc [.ref (a 0)] (zW D sz [((a 0), .inr (11, [.ref (a 1), .ref (a 2), .ref (a 3), .ref (a 4), .ref (a 5), .ref (a 6), .ref (a 7), .ref (a 8), .ref (a 9), .ref (a 10), .ref (a 11), .ref (a 12), .int 0])), ((a 2), .inr (6, [.int 0, .int (-1), .ref (a 1), .ref (a 21), .null, .int 0, .int 0, .int 0, .int 0, .int 0, .int 0, .int 0])), ((a 1), .inr (9, [.ref (a 20), .int 0])), ((a 11), .inr (5, [.int 0, .int 0, .int 0, .int 0, .int 0, .int 0, .ref (a 50), .ref (a 51), .ref (a 52), .ref (a 53), .ref (a 54), .ref (a 55), .ref (a 56), .ref (a 57)])), ((a 55), .inr (0, [.ref (a 58), .int 0])), ((a 56), .inl (D.1 13, 3, .inl fb)), ((a 57), .inl (D.1 13, 3, .inl fe)), ((a 9), .inl (D.1 13, 6, .inl (fun _ => 0)))])) (va_Qi (fun r (_ : Unit) => r = (-1)) (fun u t => zB D (va_A [((a 0), .inr (11, [.ref (a 1), .ref (a 2), .ref (a 3), .ref (a 4), .ref (a 5), .ref (a 6), .ref (a 7), .ref (a 8), .ref (a 9), .ref (a 10), .ref (a 11), .ref (a 12), .int 0])), ((a 2), .inr (6, [.int 0, .int (-1), .ref (a 1), .ref (a 21), .null, .int 0, .int 0, .int 0, .int 0, .int 0, .int 0, .int 0])), ((a 1), .inr (9, [.ref (a 20), .int 0])), ((a 11), .inr (5, [.int 0, .int 0, .int 0, .int 0, .int 0, .int 0, .ref (a 50), .ref (a 51), .ref (a 52), .ref (a 53), .ref (a 54), .ref (a 55), .ref (a 56), .ref (a 57)])), ((a 55), .inr (0, [.ref (a 58), .int 0])), ((a 56), .inl (D.1 13, 3, .inl fb)), ((a 57), .inl (D.1 13, 3, .inl fe)), ((a 9), .inl (D.1 13, 6, .inl (fun _ => 0)))] sz) ((fun (_ : Unit) => []) u) t) (va_A [((a 0), .inr (11, [.ref (a 1), .ref (a 2), .ref (a 3), .ref (a 4), .ref (a 5), .ref (a 6), .ref (a 7), .ref (a 8), .ref (a 9), .ref (a 10), .ref (a 11), .ref (a 12), .int 0])), ((a 2), .inr (6, [.int 0, .int (-1), .ref (a 1), .ref (a 21), .null, .int 0, .int 0, .int 0, .int 0, .int 0, .int 0, .int 0])), ((a 1), .inr (9, [.ref (a 20), .int 0])), ((a 11), .inr (5, [.int 0, .int 0, .int 0, .int 0, .int 0, .int 0, .ref (a 50), .ref (a 51), .ref (a 52), .ref (a 53), .ref (a 54), .ref (a 55), .ref (a 56), .ref (a 57)])), ((a 55), .inr (0, [.ref (a 58), .int 0])), ((a 56), .inl (D.1 13, 3, .inl fb)), ((a 57), .inl (D.1 13, 3, .inl fe)), ((a 9), .inl (D.1 13, 6, .inl (fun _ => 0)))] sz)) 0 0 (va_A [((a 0), .inr (11, [.ref (a 1), .ref (a 2), .ref (a 3), .ref (a 4), .ref (a 5), .ref (a 6), .ref (a 7), .ref (a 8), .ref (a 9), .ref (a 10), .ref (a 11), .ref (a 12), .int 0])), ((a 2), .inr (6, [.int 0, .int (-1), .ref (a 1), .ref (a 21), .null, .int 0, .int 0, .int 0, .int 0, .int 0, .int 0, .int 0])), ((a 1), .inr (9, [.ref (a 20), .int 0])), ((a 11), .inr (5, [.int 0, .int 0, .int 0, .int 0, .int 0, .int 0, .ref (a 50), .ref (a 51), .ref (a 52), .ref (a 53), .ref (a 54), .ref (a 55), .ref (a 56), .ref (a 57)])), ((a 55), .inr (0, [.ref (a 58), .int 0])), ((a 56), .inl (D.1 13, 3, .inl fb)), ((a 57), .inl (D.1 13, 3, .inl fe)), ((a 9), .inl (D.1 13, 6, .inl (fun _ => 0)))] sz) := by
  refine Met.ofW (cc := cX11_store) (maxL := 3) (ret := (some .int)) (by decide) rfl ?_
  intro p e s m args below meth c s₁ B hml hv
  obtain ⟨rfl, hsz, hP, hK, hD0⟩ := hv
  have hx := B.exec
  have hb := B.bytes
  have hr := B.returns
  have hts := atoms_spec (ws := wz yX11_store cX11_store 3 (some .int)) B.pre
  have ht : ∀ w ∈ lw_gd, w.before _ s = true := fun w h => hts w (List.mem_cons_of_mem _ h)
  have hown : s.vm.findClass RX11 = some m.cls := findClass_of_methodNamed B.named
  have hlocks := B.notSynchronized
  subst hsz
  have hD := hD0.self (sz := s.heap.size)
  generalize hAe : va_A [((a 0), .inr (11, [.ref (a 1), .ref (a 2), .ref (a 3), .ref (a 4), .ref (a 5), .ref (a 6), .ref (a 7), .ref (a 8), .ref (a 9), .ref (a 10), .ref (a 11), .ref (a 12), .int 0])), ((a 2), .inr (6, [.int 0, .int (-1), .ref (a 1), .ref (a 21), .null, .int 0, .int 0, .int 0, .int 0, .int 0, .int 0, .int 0])), ((a 1), .inr (9, [.ref (a 20), .int 0])), ((a 11), .inr (5, [.int 0, .int 0, .int 0, .int 0, .int 0, .int 0, .ref (a 50), .ref (a 51), .ref (a 52), .ref (a 53), .ref (a 54), .ref (a 55), .ref (a 56), .ref (a 57)])), ((a 55), .inr (0, [.ref (a 58), .int 0])), ((a 56), .inl (D.1 13, 3, .inl fb)), ((a 57), .inl (D.1 13, 3, .inl fe)), ((a 9), .inl (D.1 13, 6, .inl (fun _ => 0)))] s.heap.size = A at hD ⊢
  have hA : ∀ q : Nat, s.heap.size ≤ q → A q := fun q h => by rw [← hAe]; exact Or.inr h
  have hS : va_S A s.heap s.heap [] := va_S.rf
  have hl := lv_entry ([.ref (a 0)]) (n := 3) (Nat.le_of_ble_eq_true rfl)
  rw [lg_entry_eq]
  generalize (lg_sl ([.ref (a 0)]) ++ List.replicate (3 - (lg_sl ([.ref (a 0)])).length) Slot.unset).toArray = ls at hl ⊢
  have hl : lv_has ls 3 [(0, .ref (a 0))] := hl
  refine lv_aload_n hx hb dX11_store_0 rfl (lv_at hl 0 rfl) ?_
  refine va_get (D := D) (ci := 11) (v := .ref (a 2)) (C := RX11) (T := TX11) (N := 13) hx hb ht inX11 hown hK hP 0 rfl rfl 1 (by decide) (ht (.fieldLink RX11 21 "CloneVolumes" "reader" "LCloneVolumes$Reader;") fl_X11_21) (fun _ h9 => h9) rfl dX11_store_1 ?_
  refine lv_aload_n hx hb dX11_store_4 rfl (lv_at hl 0 rfl) ?_
  refine va_get (D := D) (ci := 11) (v := .ref (a 11)) (C := RX11) (T := TX11) (N := 13) hx hb ht inX11 hown hK hP 0 rfl rfl 10 (by decide) (ht (.fieldLink RX11 71 "CloneVolumes" "spare" "LCloneVolumes$Plan;") fl_X11_71) (fun _ h9 => h9) rfl dX11_store_5 ?_
  refine zwV (As := [.ref (a 11)]) (rest := []) (C := RX6) (n := 1) (wr := [((a 0), .inr (11, [.ref (a 1), .ref (a 2), .ref (a 3), .ref (a 4), .ref (a 5), .ref (a 6), .ref (a 7), .ref (a 8), .ref (a 9), .ref (a 10), .ref (a 11), .ref (a 12), .int 0])), ((a 9), .inl (D.1 13, 6, .inl (fun _ => 0)))]) ⟨hx, hb, hml, hown, ht⟩ (k_X6_readStore l D _ a fb fe) (zgV ml_X11_99 im_X6_readStore se_X6_readStore in_X6 co_X6_readStore) rfl rfl (by decide +kernel) ⟨Nat.le_of_ble_eq_true rfl, Nat.le_of_ble_eq_true rfl⟩ hK hP hD hS hA [1, 2, 3, 4, 5, 6] [0, 7] rfl rfl rfl rfl (by decide) 0 rfl rfl rfl rfl hl.1 rfl (Nat.le_of_ble_eq_true rfl) dX11_store_8 ⟨Nat.le_of_ble_eq_true rfl, Nat.le_of_ble_eq_true rfl⟩ (fun r_2 u_1 H locs hw hP hD hS => ?_)
  have hP : va_P D vwCl [((a 0), .inr (11, [.ref (a 1), .ref (a 2), .ref (a 3), .ref (a 4), .ref (a 5), .ref (a 6), .ref (a 7), .ref (a 8), .ref (a 9), .ref (a 10), .ref (a 11), .ref (a 12), .int 0])), ((a 9), .inl (D.1 13, 6, .inl (fun _ => 0))), ((a 1), .inr (9, [.ref (a 20), .int 0]))] H := hP
  have hD : va_D A [((a 0), .inr (11, [.ref (a 1), .ref (a 2), .ref (a 3), .ref (a 4), .ref (a 5), .ref (a 6), .ref (a 7), .ref (a 8), .ref (a 9), .ref (a 10), .ref (a 11), .ref (a 12), .int 0])), ((a 9), .inl (D.1 13, 6, .inl (fun _ => 0))), ((a 1), .inr (9, [.ref (a 20), .int 0]))] := hD
  subst hw
  refine lv_istore_n (lv' := [(1, .int 0), (0, .ref (a 0))]) hx hb dX11_store_11 rfl hl (by decide) rfl (fun ls hl => ?_)
  refine lv_aload_n hx hb dX11_store_12 rfl (lv_at hl 1 rfl) ?_
  refine va_get (D := D) (ci := 11) (v := .ref (a 1)) (C := RX11) (T := TX11) (N := 13) hx hb ht inX11 hown hK hP 0 rfl rfl 0 (by decide) (ht (.fieldLink RX11 12 "CloneVolumes" "tape" "LCloneVolumes$Tape;") fl_X11_12) (fun _ h9 => h9) rfl dX11_store_13 ?_
  refine lv_iconst (v := 0) hx hb dX11_store_16 (by decide) ?_
  refine va_put (D := D) (ci := 9) (v := .int 0) (ty := .int) (C := RX9) (T := TX9) (N := 2) hx hb ht inX9 tyX9 tyX9_ok nmX9 hown hK hP hD hS 2 rfl rfl 1 (by decide) (ht (.fieldLink RX11 95 "CloneVolumes$Tape" "length" "I") fl_X11_95) (fun _ h9 => h9) rfl (by decide +kernel) rfl rfl (Nat.le_of_ble_eq_true rfl) dX11_store_17 (fun H locs hP hD hS => ?_)
  have hP : va_P D vwCl [((a 0), .inr (11, [.ref (a 1), .ref (a 2), .ref (a 3), .ref (a 4), .ref (a 5), .ref (a 6), .ref (a 7), .ref (a 8), .ref (a 9), .ref (a 10), .ref (a 11), .ref (a 12), .int 0])), ((a 9), .inl (D.1 13, 6, .inl (fun _ => 0))), ((a 1), .inr (9, [.ref (a 20), .int 0]))] H := hP
  have hD : va_D A [((a 0), .inr (11, [.ref (a 1), .ref (a 2), .ref (a 3), .ref (a 4), .ref (a 5), .ref (a 6), .ref (a 7), .ref (a 8), .ref (a 9), .ref (a 10), .ref (a 11), .ref (a 12), .int 0])), ((a 9), .inl (D.1 13, 6, .inl (fun _ => 0))), ((a 1), .inr (9, [.ref (a 20), .int 0]))] := hD
  refine lv_iload_n hx hb dX11_store_20 rfl (lv_at hl 0 rfl) ?_
  refine lv_if_ne (tgt := 30) hx hb dX11_store_21 (by decide) (fun c_3 => (z_abs c_3 (by decide)).elim) (fun _ => ?_)
  refine lv_aload_n hx hb dX11_store_24 rfl (lv_at hl 1 rfl) ?_
  refine lv_iconst (v := 1) hx hb dX11_store_25 (by decide) ?_
  refine zwV (As := [.int 1]) (rest := []) (C := RX11) (n := 1) (wr := [((a 1), .inr (9, [.ref (a 20), .int 0]))]) ⟨hx, hb, hml, hown, ht⟩ (k_X11_refuse l D _ a 1 (by first | decide | omega)) (zgV ml_X11_87 im_X11_refuse se_X11_refuse in_X11 co_X11_refuse) rfl rfl (by decide +kernel) ⟨Nat.le_of_ble_eq_true rfl, Nat.le_of_ble_eq_true rfl⟩ hK hP hD hS hA [0, 1] [2] rfl rfl rfl rfl (by decide) 0 rfl rfl rfl rfl hl.1 rfl (Nat.le_of_ble_eq_true rfl) dX11_store_26 ⟨Nat.le_of_ble_eq_true rfl, Nat.le_of_ble_eq_true rfl⟩ (fun r_6 u_5 H locs hw hP hD hS => ?_)
  have hP : va_P D vwCl [((a 1), .inr (9, [.ref (a 20), .int 0]))] H := hP
  have hD : va_D A [((a 1), .inr (9, [.ref (a 20), .int 0]))] := hD
  subst hw
  have hP9 := hP.sub (ws' := []) [] rfl
  have hD9 := hD.sub (ws' := []) [] (by decide) rfl
  refine W.widen (k := 0) (n := 0) (Nat.le_of_ble_eq_true rfl) (Nat.le_of_ble_eq_true rfl) ?_
  exact W.iret (v := (-1)) hx hb hr (fun t ht hW => ⟨⟨(-1), (), rfl, rfl, by rw [ht]; exact hP9, va_K.moved hW.alike hK, hD9⟩, hS.F ht⟩) hS.2.2 dX11_store_29
end
section
theorem fl_X4_24 : Cond.fieldLink RX4 24 "CloneVolumes$Picture" "size" "I" ∈ lw_gd := zm (List.mem_of_getElem? (i := 402) (by decide +kernel)) rfl
theorem fl_X4_11 : Cond.fieldLink RX4 11 "CloneVolumes$Picture" "bytes" "[I" ∈ lw_gd := zm (List.mem_of_getElem? (i := 400) (by decide +kernel)) rfl
theorem ml_X4_33 : Cond.methodLink RX4 33 yX4_add ∈ lw_gd := zm (List.mem_of_getElem? (i := 1454) (by decide +kernel)) rfl
theorem im_X4_add : Cond.instanceMethod yX4_add ∈ lw_gd := zm (List.mem_of_getElem? (i := 1456) (by decide +kernel)) rfl
theorem se_X4_add : Cond.selects RX4 yX4_add yX4_add ∈ lw_gd := zm (List.mem_of_getElem? (i := 58) (by decide +kernel)) rfl
theorem in_X4 : Cond.initialized RX4 ∈ lw_gd := zm (List.mem_of_getElem? (i := 207) (by decide +kernel)) rfl
theorem co_X4_add : Cond.code yX4_add cX4_add 2 none ∈ lw_gd := zm (List.mem_of_getElem? (i := 1457) (by decide +kernel)) rfl
theorem fl_X4_28 : Cond.fieldLink RX4 28 "CloneVolumes$State" "spent" "I" ∈ lw_gd := zm (List.mem_of_getElem? (i := 559) (by decide +kernel)) rfl
theorem ck_X4_37 : Cond.constant RX4 37 65535 ∈ lw_gd := zm (List.mem_of_getElem? (i := 1458) (by decide +kernel)) rfl
theorem ml_X4_38 : Cond.methodLink RX4 38 yX4_addPair ∈ lw_gd := zm (List.mem_of_getElem? (i := 1459) (by decide +kernel)) rfl
theorem im_X4_addPair : Cond.instanceMethod yX4_addPair ∈ lw_gd := zm (List.mem_of_getElem? (i := 1461) (by decide +kernel)) rfl
theorem se_X4_addPair : Cond.selects RX4 yX4_addPair yX4_addPair ∈ lw_gd := zm (List.mem_of_getElem? (i := 59) (by decide +kernel)) rfl
theorem co_X4_addPair : Cond.code yX4_addPair cX4_addPair 2 none ∈ lw_gd := zm (List.mem_of_getElem? (i := 1462) (by decide +kernel)) rfl
theorem fl_X4_51 : Cond.fieldLink RX4 51 "CloneVolumes$State" "blocks" "I" ∈ lw_gd := zm (List.mem_of_getElem? (i := 554) (by decide +kernel)) rfl
theorem ml_X4_68 : Cond.methodLink RX4 68 yX4_seal ∈ lw_gd := zm (List.mem_of_getElem? (i := 1472) (by decide +kernel)) rfl
theorem st_X4_seal : Cond.static yX4_seal ∈ lw_gd := zm (List.mem_of_getElem? (i := 1473) (by decide +kernel)) rfl
theorem co_X4_seal : Cond.code yX4_seal cX4_seal 4 (some .int) ∈ lw_gd := zm (List.mem_of_getElem? (i := 1474) (by decide +kernel)) rfl
theorem fl_X4_41 : Cond.fieldLink RX4 41 "CloneVolumes$State" "roots" "[I" ∈ lw_gd := zm (List.mem_of_getElem? (i := 594) (by decide +kernel)) rfl
theorem ml_X4_44 : Cond.methodLink RX4 44 yX4_rootByte ∈ lw_gd := zm (List.mem_of_getElem? (i := 1463) (by decide +kernel)) rfl
theorem st_X4_rootByte : Cond.static yX4_rootByte ∈ lw_gd := zm (List.mem_of_getElem? (i := 1464) (by decide +kernel)) rfl
theorem co_X4_rootByte : Cond.code yX4_rootByte cX4_rootByte 1 (some .int) ∈ lw_gd := zm (List.mem_of_getElem? (i := 1465) (by decide +kernel)) rfl
theorem fl_X4_48 : Cond.fieldLink RX4 48 "CloneVolumes$State" "savedRoots" "[I" ∈ lw_gd := zm (List.mem_of_getElem? (i := 599) (by decide +kernel)) rfl
theorem ml_X11_336 : Cond.methodLink RX11 336 yX4_draw ∈ lw_gd := zm (List.mem_of_getElem? (i := 1450) (by decide +kernel)) rfl
theorem im_X4_draw : Cond.instanceMethod yX4_draw ∈ lw_gd := zm (List.mem_of_getElem? (i := 1451) (by decide +kernel)) rfl
theorem se_X4_draw : Cond.selects RX4 yX4_draw yX4_draw ∈ lw_gd := zm (List.mem_of_getElem? (i := 1452) (by decide +kernel)) rfl
theorem co_X4_draw : Cond.code yX4_draw cX4_draw 3 (some .int) ∈ lw_gd := zm (List.mem_of_getElem? (i := 1453) (by decide +kernel)) rfl
theorem dX11_image_0 : decode cX11_image 0 = .ok (.aload_n 0, 1) := by decide +kernel
theorem dX11_image_1 : decode cX11_image 1 = .ok (.getfield 42, 3) := by decide +kernel
theorem dX11_image_4 : decode cX11_image 4 = .ok (.aload_n 0, 1) := by decide +kernel
theorem dX11_image_5 : decode cX11_image 5 = .ok (.getfield 79, 3) := by decide +kernel
theorem dX11_image_8 : decode cX11_image 8 = .ok (.getfield 125, 3) := by decide +kernel
theorem dX11_image_11 : decode cX11_image 11 = .ok (.invokevirtual 336, 3) := by decide +kernel
theorem dX11_image_14 : decode cX11_image 14 = .ok (.ireturn, 1) := by decide +kernel
theorem dX4_add_0 : decode cX4_add 0 = .ok (.aload_n 0, 1) := by decide +kernel
theorem dX4_add_1 : decode cX4_add 1 = .ok (.getfield 24, 3) := by decide +kernel
theorem dX4_add_4 : decode cX4_add 4 = .ok (.aload_n 0, 1) := by decide +kernel
theorem dX4_add_5 : decode cX4_add 5 = .ok (.getfield 11, 3) := by decide +kernel
theorem dX4_add_8 : decode cX4_add 8 = .ok (.arraylength, 1) := by decide +kernel
theorem dX4_add_9 : decode cX4_add 9 = .ok (.if_icmp .ge 27, 3) := by decide +kernel
theorem dX4_add_12 : decode cX4_add 12 = .ok (.aload_n 0, 1) := by decide +kernel
theorem dX4_add_13 : decode cX4_add 13 = .ok (.getfield 11, 3) := by decide +kernel
theorem dX4_add_16 : decode cX4_add 16 = .ok (.aload_n 0, 1) := by decide +kernel
theorem dX4_add_17 : decode cX4_add 17 = .ok (.getfield 24, 3) := by decide +kernel
theorem dX4_add_20 : decode cX4_add 20 = .ok (.iload_n 1, 1) := by decide +kernel
theorem dX4_add_21 : decode cX4_add 21 = .ok (.sipush 255, 3) := by decide +kernel
theorem dX4_add_24 : decode cX4_add 24 = .ok (.iand, 1) := by decide +kernel
theorem dX4_add_25 : decode cX4_add 25 = .ok (.iastore, 1) := by decide +kernel
theorem dX4_add_26 : decode cX4_add 26 = .ok (.aload_n 0, 1) := by decide +kernel
theorem dX4_add_27 : decode cX4_add 27 = .ok (.dup, 1) := by decide +kernel
theorem dX4_add_28 : decode cX4_add 28 = .ok (.getfield 24, 3) := by decide +kernel
theorem dX4_add_31 : decode cX4_add 31 = .ok (.iconst 1, 1) := by decide +kernel
theorem dX4_add_32 : decode cX4_add 32 = .ok (.iadd, 1) := by decide +kernel
theorem dX4_add_33 : decode cX4_add 33 = .ok (.putfield 24, 3) := by decide +kernel
theorem dX4_add_36 : decode cX4_add 36 = .ok (.return_, 1) := by decide +kernel
theorem dX4_addPair_0 : decode cX4_addPair 0 = .ok (.aload_n 0, 1) := by decide +kernel
theorem dX4_addPair_1 : decode cX4_addPair 1 = .ok (.iload_n 1, 1) := by decide +kernel
theorem dX4_addPair_2 : decode cX4_addPair 2 = .ok (.bipush 8, 2) := by decide +kernel
theorem dX4_addPair_4 : decode cX4_addPair 4 = .ok (.iushr, 1) := by decide +kernel
theorem dX4_addPair_5 : decode cX4_addPair 5 = .ok (.invokevirtual 33, 3) := by decide +kernel
theorem dX4_addPair_8 : decode cX4_addPair 8 = .ok (.aload_n 0, 1) := by decide +kernel
theorem dX4_addPair_9 : decode cX4_addPair 9 = .ok (.iload_n 1, 1) := by decide +kernel
theorem dX4_addPair_10 : decode cX4_addPair 10 = .ok (.invokevirtual 33, 3) := by decide +kernel
theorem dX4_addPair_13 : decode cX4_addPair 13 = .ok (.return_, 1) := by decide +kernel
theorem dX4_draw_0 : decode cX4_draw 0 = .ok (.aload_n 0, 1) := by decide +kernel
theorem dX4_draw_1 : decode cX4_draw 1 = .ok (.iconst 0, 1) := by decide +kernel
theorem dX4_draw_2 : decode cX4_draw 2 = .ok (.putfield 24, 3) := by decide +kernel
theorem dX4_draw_5 : decode cX4_draw 5 = .ok (.aload_n 0, 1) := by decide +kernel
theorem dX4_draw_6 : decode cX4_draw 6 = .ok (.aload_n 1, 1) := by decide +kernel
theorem dX4_draw_7 : decode cX4_draw 7 = .ok (.getfield 28, 3) := by decide +kernel
theorem dX4_draw_10 : decode cX4_draw 10 = .ok (.bipush 16, 2) := by decide +kernel
theorem dX4_draw_12 : decode cX4_draw 12 = .ok (.iushr, 1) := by decide +kernel
theorem dX4_draw_13 : decode cX4_draw 13 = .ok (.invokevirtual 33, 3) := by decide +kernel
theorem dX4_draw_16 : decode cX4_draw 16 = .ok (.aload_n 0, 1) := by decide +kernel
theorem dX4_draw_17 : decode cX4_draw 17 = .ok (.aload_n 1, 1) := by decide +kernel
theorem dX4_draw_18 : decode cX4_draw 18 = .ok (.getfield 28, 3) := by decide +kernel
theorem dX4_draw_21 : decode cX4_draw 21 = .ok (.ldc 37, 2) := by decide +kernel
theorem dX4_draw_23 : decode cX4_draw 23 = .ok (.iand, 1) := by decide +kernel
theorem dX4_draw_24 : decode cX4_draw 24 = .ok (.invokevirtual 38, 3) := by decide +kernel
theorem dX4_draw_27 : decode cX4_draw 27 = .ok (.iconst 0, 1) := by decide +kernel
theorem dX4_draw_28 : decode cX4_draw 28 = .ok (.istore_n 2, 1) := by decide +kernel
theorem dX4_draw_29 : decode cX4_draw 29 = .ok (.iload_n 2, 1) := by decide +kernel
theorem dX4_draw_30 : decode cX4_draw 30 = .ok (.bipush 8, 2) := by decide +kernel
theorem dX4_draw_32 : decode cX4_draw 32 = .ok (.if_icmp .ge 35, 3) := by decide +kernel
theorem dX4_draw_35 : decode cX4_draw 35 = .ok (.aload_n 0, 1) := by decide +kernel
theorem dX4_draw_36 : decode cX4_draw 36 = .ok (.aload_n 1, 1) := by decide +kernel
theorem dX4_draw_37 : decode cX4_draw 37 = .ok (.getfield 41, 3) := by decide +kernel
theorem dX4_draw_40 : decode cX4_draw 40 = .ok (.iload_n 2, 1) := by decide +kernel
theorem dX4_draw_41 : decode cX4_draw 41 = .ok (.iaload, 1) := by decide +kernel
theorem dX4_draw_42 : decode cX4_draw 42 = .ok (.invokestatic 44, 3) := by decide +kernel
theorem dX4_draw_45 : decode cX4_draw 45 = .ok (.invokevirtual 33, 3) := by decide +kernel
theorem dX4_draw_48 : decode cX4_draw 48 = .ok (.aload_n 0, 1) := by decide +kernel
theorem dX4_draw_49 : decode cX4_draw 49 = .ok (.aload_n 1, 1) := by decide +kernel
theorem dX4_draw_50 : decode cX4_draw 50 = .ok (.getfield 48, 3) := by decide +kernel
theorem dX4_draw_53 : decode cX4_draw 53 = .ok (.iload_n 2, 1) := by decide +kernel
theorem dX4_draw_54 : decode cX4_draw 54 = .ok (.iaload, 1) := by decide +kernel
theorem dX4_draw_55 : decode cX4_draw 55 = .ok (.invokestatic 44, 3) := by decide +kernel
theorem dX4_draw_58 : decode cX4_draw 58 = .ok (.invokevirtual 33, 3) := by decide +kernel
theorem dX4_draw_61 : decode cX4_draw 61 = .ok (.iinc 2 1, 3) := by decide +kernel
theorem dX4_draw_64 : decode cX4_draw 64 = .ok (.goto (-35), 3) := by decide +kernel
theorem dX4_draw_67 : decode cX4_draw 67 = .ok (.iconst 0, 1) := by decide +kernel
theorem dX4_draw_68 : decode cX4_draw 68 = .ok (.istore_n 2, 1) := by decide +kernel
theorem dX4_draw_69 : decode cX4_draw 69 = .ok (.iload_n 2, 1) := by decide +kernel
theorem dX4_draw_70 : decode cX4_draw 70 = .ok (.aload_n 1, 1) := by decide +kernel
theorem dX4_draw_71 : decode cX4_draw 71 = .ok (.getfield 51, 3) := by decide +kernel
theorem dX4_draw_74 : decode cX4_draw 74 = .ok (.if_icmp .ge 43, 3) := by decide +kernel
theorem dX4_draw_117 : decode cX4_draw 117 = .ok (.aload_n 0, 1) := by decide +kernel
theorem dX4_draw_118 : decode cX4_draw 118 = .ok (.getfield 11, 3) := by decide +kernel
theorem dX4_draw_121 : decode cX4_draw 121 = .ok (.aload_n 0, 1) := by decide +kernel
theorem dX4_draw_122 : decode cX4_draw 122 = .ok (.getfield 24, 3) := by decide +kernel
theorem dX4_draw_125 : decode cX4_draw 125 = .ok (.invokestatic 68, 3) := by decide +kernel
theorem dX4_draw_128 : decode cX4_draw 128 = .ok (.istore_n 2, 1) := by decide +kernel
theorem dX4_draw_129 : decode cX4_draw 129 = .ok (.aload_n 0, 1) := by decide +kernel
theorem dX4_draw_130 : decode cX4_draw 130 = .ok (.iload_n 2, 1) := by decide +kernel
theorem dX4_draw_131 : decode cX4_draw 131 = .ok (.invokevirtual 33, 3) := by decide +kernel
theorem dX4_draw_134 : decode cX4_draw 134 = .ok (.aload_n 0, 1) := by decide +kernel
theorem dX4_draw_135 : decode cX4_draw 135 = .ok (.getfield 24, 3) := by decide +kernel
theorem dX4_draw_138 : decode cX4_draw 138 = .ok (.ireturn, 1) := by decide +kernel
theorem dX4_rootByte_0 : decode cX4_rootByte 0 = .ok (.iload_n 0, 1) := by decide +kernel
theorem dX4_rootByte_1 : decode cX4_rootByte 1 = .ok (.bipush (-2), 2) := by decide +kernel
theorem dX4_rootByte_3 : decode cX4_rootByte 3 = .ok (.if_icmp .ne 7, 3) := by decide +kernel
theorem dX4_rootByte_6 : decode cX4_rootByte 6 = .ok (.sipush 255, 3) := by decide +kernel
theorem dX4_rootByte_9 : decode cX4_rootByte 9 = .ok (.ireturn, 1) := by decide +kernel
theorem dX4_rootByte_10 : decode cX4_rootByte 10 = .ok (.iload_n 0, 1) := by decide +kernel
theorem dX4_rootByte_11 : decode cX4_rootByte 11 = .ok (.iconst (-1), 1) := by decide +kernel
theorem dX4_rootByte_12 : decode cX4_rootByte 12 = .ok (.if_icmp .ne 9, 3) := by decide +kernel
theorem dX4_rootByte_15 : decode cX4_rootByte 15 = .ok (.sipush 254, 3) := by decide +kernel
theorem dX4_rootByte_18 : decode cX4_rootByte 18 = .ok (.goto 4, 3) := by decide +kernel
theorem dX4_rootByte_21 : decode cX4_rootByte 21 = .ok (.iload_n 0, 1) := by decide +kernel
theorem dX4_rootByte_22 : decode cX4_rootByte 22 = .ok (.ireturn, 1) := by decide +kernel
theorem dX4_seal_0 : decode cX4_seal 0 = .ok (.sipush 157, 3) := by decide +kernel
theorem dX4_seal_3 : decode cX4_seal 3 = .ok (.istore_n 2, 1) := by decide +kernel
theorem dX4_seal_4 : decode cX4_seal 4 = .ok (.iconst 0, 1) := by decide +kernel
theorem dX4_seal_5 : decode cX4_seal 5 = .ok (.istore_n 3, 1) := by decide +kernel
theorem dX4_seal_6 : decode cX4_seal 6 = .ok (.iload_n 3, 1) := by decide +kernel
theorem dX4_seal_7 : decode cX4_seal 7 = .ok (.iload_n 1, 1) := by decide +kernel
theorem dX4_seal_8 : decode cX4_seal 8 = .ok (.if_icmp .ge 27, 3) := by decide +kernel
theorem dX4_seal_11 : decode cX4_seal 11 = .ok (.iload_n 3, 1) := by decide +kernel
theorem dX4_seal_12 : decode cX4_seal 12 = .ok (.aload_n 0, 1) := by decide +kernel
theorem dX4_seal_13 : decode cX4_seal 13 = .ok (.arraylength, 1) := by decide +kernel
theorem dX4_seal_14 : decode cX4_seal 14 = .ok (.if_icmp .ge 21, 3) := by decide +kernel
theorem dX4_seal_17 : decode cX4_seal 17 = .ok (.iconst 3, 1) := by decide +kernel
theorem dX4_seal_18 : decode cX4_seal 18 = .ok (.iload_n 2, 1) := by decide +kernel
theorem dX4_seal_19 : decode cX4_seal 19 = .ok (.imul, 1) := by decide +kernel
theorem dX4_seal_20 : decode cX4_seal 20 = .ok (.aload_n 0, 1) := by decide +kernel
theorem dX4_seal_21 : decode cX4_seal 21 = .ok (.iload_n 3, 1) := by decide +kernel
theorem dX4_seal_22 : decode cX4_seal 22 = .ok (.iaload, 1) := by decide +kernel
theorem dX4_seal_23 : decode cX4_seal 23 = .ok (.iadd, 1) := by decide +kernel
theorem dX4_seal_24 : decode cX4_seal 24 = .ok (.sipush 251, 3) := by decide +kernel
theorem dX4_seal_27 : decode cX4_seal 27 = .ok (.irem, 1) := by decide +kernel
theorem dX4_seal_28 : decode cX4_seal 28 = .ok (.istore_n 2, 1) := by decide +kernel
theorem dX4_seal_29 : decode cX4_seal 29 = .ok (.iinc 3 1, 3) := by decide +kernel
theorem dX4_seal_32 : decode cX4_seal 32 = .ok (.goto (-26), 3) := by decide +kernel
theorem dX4_seal_35 : decode cX4_seal 35 = .ok (.iload_n 2, 1) := by decide +kernel
theorem dX4_seal_36 : decode cX4_seal 36 = .ok (.ireturn, 1) := by decide +kernel
set_option maxHeartbeats 4000000 in
set_option maxRecDepth 100000 in
theorem k_X4_add (l : Launch) (D : va_G) (sz : Nat) (a : Nat → Nat) (k : Nat) (h_1 : k < 1300) (f : Nat → Int32) (p0 : Int32) : Met l yX4_add (wz yX4_add cX4_add 2 none) { frames := 0, cells := 0, slots := 0, locals := 0 } (va_Pc [.ref (a 5), .int p0] (zW D sz [((a 5), .inr (4, [.ref (a 30), .int (nI k), .int 0, .ref (a 31), .ref (a 32), .ref (a 33)])), ((a 30), .inl (D.1 13, 1364, .inl f))])) (va_Qv (fun (_ : (Nat → Int32)) => True) (fun u t => zB D (va_A [((a 5), .inr (4, [.ref (a 30), .int (nI k), .int 0, .ref (a 31), .ref (a 32), .ref (a 33)])), ((a 30), .inl (D.1 13, 1364, .inl f))] sz) ((fun (u : (Nat → Int32)) => [((a 5), .inr (4, [.ref (a 30), .int (nI (k + 1)), .int 0, .ref (a 31), .ref (a 32), .ref (a 33)])), ((a 30), .inl (D.1 13, 1364, .inl u))]) u) t) (va_A [((a 5), .inr (4, [.ref (a 30), .int (nI k), .int 0, .ref (a 31), .ref (a 32), .ref (a 33)])), ((a 30), .inl (D.1 13, 1364, .inl f))] sz)) 0 0 (va_A [((a 5), .inr (4, [.ref (a 30), .int (nI k), .int 0, .ref (a 31), .ref (a 32), .ref (a 33)])), ((a 30), .inl (D.1 13, 1364, .inl f))] sz) := by
  refine Met.ofW (cc := cX4_add) (maxL := 2) (ret := none) (by decide) rfl ?_
  intro p e s m args below meth c s₁ B hml hv
  obtain ⟨rfl, hsz, hP, hK, hD0⟩ := hv
  have hx := B.exec
  have hb := B.bytes
  have hr := B.returns
  have hts := atoms_spec (ws := wz yX4_add cX4_add 2 none) B.pre
  have ht : ∀ w ∈ lw_gd, w.before _ s = true := fun w h => hts w (List.mem_cons_of_mem _ h)
  have hown : s.vm.findClass RX4 = some m.cls := findClass_of_methodNamed B.named
  have hlocks := B.notSynchronized
  subst hsz
  have hD := hD0.self (sz := s.heap.size)
  generalize hAe : va_A [((a 5), .inr (4, [.ref (a 30), .int (nI k), .int 0, .ref (a 31), .ref (a 32), .ref (a 33)])), ((a 30), .inl (D.1 13, 1364, .inl f))] s.heap.size = A at hD ⊢
  have hA : ∀ q : Nat, s.heap.size ≤ q → A q := fun q h => by rw [← hAe]; exact Or.inr h
  have hS : va_S A s.heap s.heap [] := va_S.rf
  have hl := lv_entry ([.ref (a 5), .int p0]) (n := 2) (Nat.le_of_ble_eq_true rfl)
  rw [lg_entry_eq]
  generalize (lg_sl ([.ref (a 5), .int p0]) ++ List.replicate (2 - (lg_sl ([.ref (a 5), .int p0])).length) Slot.unset).toArray = ls at hl ⊢
  have hl : lv_has ls 2 [(0, .ref (a 5)), (1, .int p0)] := hl
  refine lv_aload_n hx hb dX4_add_0 rfl (lv_at hl 0 rfl) ?_
  refine va_get (D := D) (ci := 4) (v := .int (nI k)) (C := RX4) (T := TX4) (N := 6) hx hb ht inX4 hown hK hP 0 rfl rfl 1 (by decide) (ht (.fieldLink RX4 24 "CloneVolumes$Picture" "size" "I") fl_X4_24) (fun _ h9 => h9) rfl dX4_add_1 ?_
  refine lv_aload_n hx hb dX4_add_4 rfl (lv_at hl 0 rfl) ?_
  refine va_get (D := D) (ci := 4) (v := .ref (a 30)) (C := RX4) (T := TX4) (N := 6) hx hb ht inX4 hown hK hP 0 rfl rfl 0 (by decide) (ht (.fieldLink RX4 11 "CloneVolumes$Picture" "bytes" "[I") fl_X4_11) (fun _ h9 => h9) rfl dX4_add_5 ?_
  refine va_alen (v := 1364) hx hb hK hP 1 0 rfl (ty := .int) rfl rfl dX4_add_8 ?_
  refine lv_icmp_ge (tgt := 36) hx hb dX4_add_9 (by decide) (fun c_1 => ?_) (fun c_1 => ?_)
  · exfalso
    have g_2 : 1364 ≤ ((k : Nat) : Int) := z_le (by decide) (nI_toInt (by omega)) c_1
    omega
  · have g_2 : ((k : Nat) : Int) < 1364 := z_nle (by decide) (nI_toInt (by omega)) c_1
    refine lv_aload_n hx hb dX4_add_12 rfl (lv_at hl 0 rfl) ?_
    refine va_get (D := D) (ci := 4) (v := .ref (a 30)) (C := RX4) (T := TX4) (N := 6) hx hb ht inX4 hown hK hP 0 rfl rfl 0 (by decide) (ht (.fieldLink RX4 11 "CloneVolumes$Picture" "bytes" "[I") fl_X4_11) (fun _ h9 => h9) rfl dX4_add_13 ?_
    refine lv_aload_n hx hb dX4_add_16 rfl (lv_at hl 0 rfl) ?_
    refine va_get (D := D) (ci := 4) (v := .int (nI k)) (C := RX4) (T := TX4) (N := 6) hx hb ht inX4 hown hK hP 0 rfl rfl 1 (by decide) (ht (.fieldLink RX4 24 "CloneVolumes$Picture" "size" "I") fl_X4_24) (fun _ h9 => h9) rfl dX4_add_17 ?_
    refine lv_iload_n hx hb dX4_add_20 rfl (lv_at hl 1 rfl) ?_
    refine lv_sipush (v := 255) hx hb dX4_add_21 (by decide) ?_
    refine lv_iand hx hb dX4_add_24 ?_
    refine lv_topi (fun x_3 ex_3 => ?_)
    refine va_iast hx hb hK hP hD hS 1 0 rfl rfl (vp_in_nI (by omega) (by omega)) dX4_add_25 (fun H locs hP hD hS => ?_)
    generalize hf_4 : upd _ _ _ = f_4 at hP hD
    have hP : va_P D vwCl [((a 5), .inr (4, [.ref (a 30), .int (nI k), .int 0, .ref (a 31), .ref (a 32), .ref (a 33)])), ((a 30), .inl (D.1 13, 1364, .inl f_4))] H := hP
    have hD : va_D A [((a 5), .inr (4, [.ref (a 30), .int (nI k), .int 0, .ref (a 31), .ref (a 32), .ref (a 33)])), ((a 30), .inl (D.1 13, 1364, .inl f_4))] := hD
    refine lv_aload_n hx hb dX4_add_26 rfl (lv_at hl 0 rfl) ?_
    refine lv_dup hx hb dX4_add_27 rfl ?_
    refine va_get (D := D) (ci := 4) (v := .int (nI k)) (C := RX4) (T := TX4) (N := 6) hx hb ht inX4 hown hK hP 0 rfl rfl 1 (by decide) (ht (.fieldLink RX4 24 "CloneVolumes$Picture" "size" "I") fl_X4_24) (fun _ h9 => h9) rfl dX4_add_28 ?_
    refine lv_iconst (v := 1) hx hb dX4_add_31 (by decide) ?_
    refine lv_iadd hx hb dX4_add_32 ?_
    refine z_topi (y := nI (k + 1)) (nI_add _ _) ?_
    refine va_put (D := D) (ci := 4) (v := .int (nI (k + 1))) (ty := .int) (C := RX4) (T := TX4) (N := 6) hx hb ht inX4 tyX4 tyX4_ok nmX4 hown hK hP hD hS 0 rfl rfl 1 (by decide) (ht (.fieldLink RX4 24 "CloneVolumes$Picture" "size" "I") fl_X4_24) (fun _ h9 => h9) rfl (by decide +kernel) rfl rfl (Nat.le_of_ble_eq_true rfl) dX4_add_33 (fun H locs hP hD hS => ?_)
    have hP : va_P D vwCl [((a 5), .inr (4, [.ref (a 30), .int (nI (k + 1)), .int 0, .ref (a 31), .ref (a 32), .ref (a 33)])), ((a 30), .inl (D.1 13, 1364, .inl f_4))] H := hP
    have hD : va_D A [((a 5), .inr (4, [.ref (a 30), .int (nI (k + 1)), .int 0, .ref (a 31), .ref (a 32), .ref (a 33)])), ((a 30), .inl (D.1 13, 1364, .inl f_4))] := hD
    have hP9 := hP.sub (ws' := [((a 5), .inr (4, [.ref (a 30), .int (nI (k + 1)), .int 0, .ref (a 31), .ref (a 32), .ref (a 33)])), ((a 30), .inl (D.1 13, 1364, .inl f_4))]) [0, 1] rfl
    have hD9 := hD.sub (ws' := [((a 5), .inr (4, [.ref (a 30), .int (nI (k + 1)), .int 0, .ref (a 31), .ref (a 32), .ref (a 33)])), ((a 30), .inl (D.1 13, 1364, .inl f_4))]) [0, 1] (by decide) rfl
    refine W.widen (k := 0) (n := 0) (Nat.le_of_ble_eq_true rfl) (Nat.le_of_ble_eq_true rfl) ?_
    exact W.vret hx hb hr (fun t ht hW => ⟨⟨f_4, rfl, trivial, by rw [ht]; exact hP9, va_K.moved hW.alike hK, hD9⟩, hS.F ht⟩) hS.2.2 dX4_add_36
set_option maxHeartbeats 4000000 in
set_option maxRecDepth 100000 in
theorem k_X4_addPair (l : Launch) (D : va_G) (sz : Nat) (a : Nat → Nat) (k : Nat) (h_1 : k < 1200) (f : Nat → Int32) (p0 : Int32) : Met l yX4_addPair (wz yX4_addPair cX4_addPair 2 none) { frames := 1, cells := 0, slots := 0, locals := 60 } (va_Pc [.ref (a 5), .int p0] (zW D sz [((a 5), .inr (4, [.ref (a 30), .int (nI k), .int 0, .ref (a 31), .ref (a 32), .ref (a 33)])), ((a 30), .inl (D.1 13, 1364, .inl f))])) (va_Qv (fun (_ : (Nat → Int32)) => True) (fun u t => zB D (va_A [((a 5), .inr (4, [.ref (a 30), .int (nI k), .int 0, .ref (a 31), .ref (a 32), .ref (a 33)])), ((a 30), .inl (D.1 13, 1364, .inl f))] sz) ((fun (u : (Nat → Int32)) => [((a 5), .inr (4, [.ref (a 30), .int (nI ((k + 1) + 1)), .int 0, .ref (a 31), .ref (a 32), .ref (a 33)])), ((a 30), .inl (D.1 13, 1364, .inl u))]) u) t) (va_A [((a 5), .inr (4, [.ref (a 30), .int (nI k), .int 0, .ref (a 31), .ref (a 32), .ref (a 33)])), ((a 30), .inl (D.1 13, 1364, .inl f))] sz)) 0 0 (va_A [((a 5), .inr (4, [.ref (a 30), .int (nI k), .int 0, .ref (a 31), .ref (a 32), .ref (a 33)])), ((a 30), .inl (D.1 13, 1364, .inl f))] sz) := by
  refine Met.ofW (cc := cX4_addPair) (maxL := 2) (ret := none) (by decide) rfl ?_
  intro p e s m args below meth c s₁ B hml hv
  obtain ⟨rfl, hsz, hP, hK, hD0⟩ := hv
  have hx := B.exec
  have hb := B.bytes
  have hr := B.returns
  have hts := atoms_spec (ws := wz yX4_addPair cX4_addPair 2 none) B.pre
  have ht : ∀ w ∈ lw_gd, w.before _ s = true := fun w h => hts w (List.mem_cons_of_mem _ h)
  have hown : s.vm.findClass RX4 = some m.cls := findClass_of_methodNamed B.named
  have hlocks := B.notSynchronized
  subst hsz
  have hD := hD0.self (sz := s.heap.size)
  generalize hAe : va_A [((a 5), .inr (4, [.ref (a 30), .int (nI k), .int 0, .ref (a 31), .ref (a 32), .ref (a 33)])), ((a 30), .inl (D.1 13, 1364, .inl f))] s.heap.size = A at hD ⊢
  have hA : ∀ q : Nat, s.heap.size ≤ q → A q := fun q h => by rw [← hAe]; exact Or.inr h
  have hS : va_S A s.heap s.heap [] := va_S.rf
  have hl := lv_entry ([.ref (a 5), .int p0]) (n := 2) (Nat.le_of_ble_eq_true rfl)
  rw [lg_entry_eq]
  generalize (lg_sl ([.ref (a 5), .int p0]) ++ List.replicate (2 - (lg_sl ([.ref (a 5), .int p0])).length) Slot.unset).toArray = ls at hl ⊢
  have hl : lv_has ls 2 [(0, .ref (a 5)), (1, .int p0)] := hl
  refine lv_aload_n hx hb dX4_addPair_0 rfl (lv_at hl 0 rfl) ?_
  refine lv_iload_n hx hb dX4_addPair_1 rfl (lv_at hl 1 rfl) ?_
  refine lv_bipush (v := 8) hx hb dX4_addPair_2 (by decide) ?_
  obtain ⟨x_1, ex_1⟩ : ∃ z : Int32, (p0.toUInt32 >>> ((8 : Int32).toUInt32 &&& Int32.toUInt32 31)).toInt32 = z := ⟨_, rfl⟩
  refine lv_iushr (v := x_1) hx hb dX4_addPair_4 ex_1 ?_
  refine zwVv (As := [.int x_1]) (rest := []) (C := RX4) (n := 1) (wr := []) ⟨hx, hb, hml, hown, ht⟩ (k_X4_add l D _ a k (by first | decide | omega) f x_1) (zgV ml_X4_33 im_X4_add se_X4_add in_X4 co_X4_add) rfl rfl (by decide +kernel) ⟨Nat.le_of_ble_eq_true rfl, Nat.le_of_ble_eq_true rfl⟩ hK hP hD hS hA [0, 1] [] rfl rfl rfl rfl (by decide) 0 rfl rfl rfl rfl hl.1 rfl (Nat.le_of_ble_eq_true rfl) dX4_addPair_5 ⟨Nat.le_of_ble_eq_true rfl, Nat.le_of_ble_eq_true rfl⟩ (fun u_2 H locs hw hP hD hS => ?_)
  have hP : va_P D vwCl [((a 5), .inr (4, [.ref (a 30), .int (nI (k + 1)), .int 0, .ref (a 31), .ref (a 32), .ref (a 33)])), ((a 30), .inl (D.1 13, 1364, .inl u_2))] H := hP
  have hD : va_D A [((a 5), .inr (4, [.ref (a 30), .int (nI (k + 1)), .int 0, .ref (a 31), .ref (a 32), .ref (a 33)])), ((a 30), .inl (D.1 13, 1364, .inl u_2))] := hD
  refine lv_aload_n hx hb dX4_addPair_8 rfl (lv_at hl 0 rfl) ?_
  refine lv_iload_n hx hb dX4_addPair_9 rfl (lv_at hl 1 rfl) ?_
  refine zwVv (As := [.int p0]) (rest := []) (C := RX4) (n := 1) (wr := []) ⟨hx, hb, hml, hown, ht⟩ (k_X4_add l D _ a (k + 1) (by first | decide | omega) u_2 p0) (zgV ml_X4_33 im_X4_add se_X4_add in_X4 co_X4_add) rfl rfl (by decide +kernel) ⟨Nat.le_of_ble_eq_true rfl, Nat.le_of_ble_eq_true rfl⟩ hK hP hD hS hA [0, 1] [] rfl rfl rfl rfl (by decide) 0 rfl rfl rfl rfl hl.1 rfl (Nat.le_of_ble_eq_true rfl) dX4_addPair_10 ⟨Nat.le_of_ble_eq_true rfl, Nat.le_of_ble_eq_true rfl⟩ (fun u_4 H locs hw hP hD hS => ?_)
  have hP : va_P D vwCl [((a 5), .inr (4, [.ref (a 30), .int (nI ((k + 1) + 1)), .int 0, .ref (a 31), .ref (a 32), .ref (a 33)])), ((a 30), .inl (D.1 13, 1364, .inl u_4))] H := hP
  have hD : va_D A [((a 5), .inr (4, [.ref (a 30), .int (nI ((k + 1) + 1)), .int 0, .ref (a 31), .ref (a 32), .ref (a 33)])), ((a 30), .inl (D.1 13, 1364, .inl u_4))] := hD
  have hP9 := hP.sub (ws' := [((a 5), .inr (4, [.ref (a 30), .int (nI ((k + 1) + 1)), .int 0, .ref (a 31), .ref (a 32), .ref (a 33)])), ((a 30), .inl (D.1 13, 1364, .inl u_4))]) [0, 1] rfl
  have hD9 := hD.sub (ws' := [((a 5), .inr (4, [.ref (a 30), .int (nI ((k + 1) + 1)), .int 0, .ref (a 31), .ref (a 32), .ref (a 33)])), ((a 30), .inl (D.1 13, 1364, .inl u_4))]) [0, 1] (by decide) rfl
  refine W.widen (k := 0) (n := 0) (Nat.le_of_ble_eq_true rfl) (Nat.le_of_ble_eq_true rfl) ?_
  exact W.vret hx hb hr (fun t ht hW => ⟨⟨u_4, rfl, trivial, by rw [ht]; exact hP9, va_K.moved hW.alike hK, hD9⟩, hS.F ht⟩) hS.2.2 dX4_addPair_13
set_option maxHeartbeats 4000000 in
set_option maxRecDepth 100000 in
theorem k_X4_rootByte (l : Launch) (D : va_G) (p0 : Int32) : Met l yX4_rootByte (wz yX4_rootByte cX4_rootByte 1 (some .int)) { frames := 0, cells := 0, slots := 0, locals := 0 } (va_Pc [.int p0] (zP D [])) (va_Qi (fun r (_ : Unit) => (r = p0 ∧ ¬ p0.toInt = (-2) ∧ ¬ p0.toInt = (-1)) ∨ (r = 254 ∧ ¬ p0.toInt = (-2) ∧ p0.toInt = (-1)) ∨ (r = 255 ∧ p0.toInt = (-2))) (fun _ _ => True) (fun _ => False)) 0 0 (fun _ => False) := by
  refine Met.ofW (cc := cX4_rootByte) (maxL := 1) (ret := (some .int)) (by decide) rfl ?_
  intro p e s m args below meth c s₁ B hml hv
  obtain ⟨rfl, hP, hK⟩ := hv
  have hx := B.exec
  have hb := B.bytes
  have hr := B.returns
  have hts := atoms_spec (ws := wz yX4_rootByte cX4_rootByte 1 (some .int)) B.pre
  have ht : ∀ w ∈ lw_gd, w.before _ s = true := fun w h => hts w (List.mem_cons_of_mem _ h)
  have hown : s.vm.findClass RX4 = some m.cls := findClass_of_methodNamed B.named
  have hlocks := B.notSynchronized
  have hS : va_S (fun _ => False) s.heap s.heap [] := va_S.rf
  have hl := lv_entry ([.int p0]) (n := 1) (Nat.le_of_ble_eq_true rfl)
  rw [lg_entry_eq]
  generalize (lg_sl ([.int p0]) ++ List.replicate (1 - (lg_sl ([.int p0])).length) Slot.unset).toArray = ls at hl ⊢
  have hl : lv_has ls 1 [(0, .int p0)] := hl
  refine lv_iload_n hx hb dX4_rootByte_0 rfl (lv_at hl 0 rfl) ?_
  refine lv_bipush (v := (-2)) hx hb dX4_rootByte_1 (by decide) ?_
  refine lv_icmp_ne (tgt := 10) hx hb dX4_rootByte_3 (by decide) (fun c_1 => ?_) (fun c_1 => ?_)
  · have g_2 : ¬ p0.toInt = (-2) := z_ne rfl (by decide) c_1
    refine lv_iload_n hx hb dX4_rootByte_10 rfl (lv_at hl 0 rfl) ?_
    refine lv_iconst (v := (-1)) hx hb dX4_rootByte_11 (by decide) ?_
    refine lv_icmp_ne (tgt := 21) hx hb dX4_rootByte_12 (by decide) (fun c_3 => ?_) (fun c_3 => ?_)
    · have g_4 : ¬ p0.toInt = (-1) := z_ne rfl (by decide) c_3
      refine lv_iload_n hx hb dX4_rootByte_21 rfl (lv_at hl 0 rfl) ?_
      exact W.iret (v := p0) hx hb hr (fun t ht hW => ⟨⟨p0, (), rfl, Or.inl (⟨rfl, zu_ne rfl (by decide) g_2, zu_ne rfl (by decide) g_4⟩), trivial⟩, hS.F ht⟩) hS.2.2 dX4_rootByte_22
    · have g_4 : p0.toInt = (-1) := z_eq rfl (by decide) c_3
      refine lv_sipush (v := 254) hx hb dX4_rootByte_15 (by decide) ?_
      refine lv_goto (tgt := 22) hx hb dX4_rootByte_18 (by decide) ?_
      exact W.iret (v := 254) hx hb hr (fun t ht hW => ⟨⟨254, (), rfl, Or.inr (Or.inl (⟨rfl, zu_ne rfl (by decide) g_2, zu_eq rfl (by decide) g_4⟩)), trivial⟩, hS.F ht⟩) hS.2.2 dX4_rootByte_22
  · have g_2 : p0.toInt = (-2) := z_eq rfl (by decide) c_1
    refine lv_sipush (v := 255) hx hb dX4_rootByte_6 (by decide) ?_
    exact W.iret (v := 255) hx hb hr (fun t ht hW => ⟨⟨255, (), rfl, Or.inr (Or.inr (⟨rfl, zu_eq rfl (by decide) g_2⟩)), trivial⟩, hS.F ht⟩) hS.2.2 dX4_rootByte_9
set_option maxHeartbeats 4000000 in
set_option maxRecDepth 100000 in
theorem k_X4_seal (l : Launch) (D : va_G) (a : Nat → Nat) (f : Nat → Int32) : Met l yX4_seal (wz yX4_seal cX4_seal 4 (some .int)) { frames := 0, cells := 0, slots := 0, locals := 0 } (va_Pc [.ref (a 30), .int 19] (zP D [((a 30), .inl (D.1 13, 1364, .inl f))])) (va_Qi (fun r (_ : Unit) => True) (fun _ _ => True) (fun _ => False)) 0 0 (fun _ => False) := by
  refine Met.ofW (cc := cX4_seal) (maxL := 4) (ret := (some .int)) (by decide) rfl ?_
  intro p e s m args below meth c s₁ B hml hv
  obtain ⟨rfl, hP, hK⟩ := hv
  have hx := B.exec
  have hb := B.bytes
  have hr := B.returns
  have hts := atoms_spec (ws := wz yX4_seal cX4_seal 4 (some .int)) B.pre
  have ht : ∀ w ∈ lw_gd, w.before _ s = true := fun w h => hts w (List.mem_cons_of_mem _ h)
  have hown : s.vm.findClass RX4 = some m.cls := findClass_of_methodNamed B.named
  have hlocks := B.notSynchronized
  have hS : va_S (fun _ => False) s.heap s.heap [] := va_S.rf
  have hl := lv_entry ([.ref (a 30), .int 19]) (n := 4) (Nat.le_of_ble_eq_true rfl)
  rw [lg_entry_eq]
  generalize (lg_sl ([.ref (a 30), .int 19]) ++ List.replicate (4 - (lg_sl ([.ref (a 30), .int 19])).length) Slot.unset).toArray = ls at hl ⊢
  have hl : lv_has ls 4 [(0, .ref (a 30)), (1, .int 19)] := hl
  refine lv_sipush (v := 157) hx hb dX4_seal_0 (by decide) ?_
  refine lv_istore_n (lv' := [(2, .int 157), (0, .ref (a 30)), (1, .int 19)]) hx hb dX4_seal_3 rfl hl (by decide) rfl (fun ls hl => ?_)
  refine lv_iconst (v := 0) hx hb dX4_seal_4 (by decide) ?_
  refine lv_istore_n (lv' := [(3, .int 0), (2, .int 157), (0, .ref (a 30)), (1, .int 19)]) hx hb dX4_seal_5 rfl hl (by decide) rfl (fun ls hl => ?_)
  refine z_loop (σ := (Int32)) (N := 19) (fun i u H locs ls => va_P D vwCl [((a 30), .inl (D.1 13, 1364, .inl f))] H ∧ va_S (fun _ => False) s.heap H locs ∧ lv_has ls 4 [(3, .int (nI i)), (2, .int u), (0, .ref (a 30)), (1, .int 19)]) (fun i_1 x_2 H locs ls hi_i_1 hI ih_6 => ?_) 0 157 (by decide) ⟨hP, hS, lv_sub hl [0, 1, 2, 3] rfl⟩
  obtain ⟨hP, hS, hl⟩ := hI
  have hP : va_P D vwCl [((a 30), .inl (D.1 13, 1364, .inl f))] H := hP
  have hl : lv_has ls 4 [(3, .int (nI i_1)), (2, .int x_2), (0, .ref (a 30)), (1, .int 19)] := hl
  refine lv_iload_n hx hb dX4_seal_6 rfl (lv_at hl 0 rfl) ?_
  refine lv_iload_n hx hb dX4_seal_7 rfl (lv_at hl 3 rfl) ?_
  refine lv_icmp_ge (tgt := 35) hx hb dX4_seal_8 (by decide) (fun c_3 => ?_) (fun c_3 => ?_)
  · have g_4 : 19 ≤ ((i_1 : Nat) : Int) := z_le (by decide) (nI_toInt (by omega)) c_3
    obtain rfl : i_1 = 19 := by omega
    have hP : va_P D vwCl [((a 30), .inl (D.1 13, 1364, .inl f))] H := hP
    have hl : lv_has ls 4 [(3, .int 19), (2, .int x_2), (0, .ref (a 30)), (1, .int 19)] := hl
    refine lv_iload_n hx hb dX4_seal_35 rfl (lv_at hl 1 rfl) ?_
    exact W.iret (v := x_2) hx hb hr (fun t ht hW => ⟨⟨x_2, (), rfl, trivial, trivial⟩, hS.F ht⟩) hS.2.2 dX4_seal_36
  · have g_4 : ((i_1 : Nat) : Int) < 19 := z_nle (by decide) (nI_toInt (by omega)) c_3
    refine lv_iload_n hx hb dX4_seal_11 rfl (lv_at hl 0 rfl) ?_
    refine lv_aload_n hx hb dX4_seal_12 rfl (lv_at hl 2 rfl) ?_
    refine va_alen (v := 1364) hx hb hK hP 0 0 rfl (ty := .int) rfl rfl dX4_seal_13 ?_
    refine lv_icmp_ge (tgt := 35) hx hb dX4_seal_14 (by decide) (fun c_5 => ?_) (fun c_5 => ?_)
    · exfalso
      have g_6 : 1364 ≤ ((i_1 : Nat) : Int) := z_le (by decide) (nI_toInt (by omega)) c_5
      omega
    · have g_6 : ((i_1 : Nat) : Int) < 1364 := z_nle (by decide) (nI_toInt (by omega)) c_5
      refine lv_iconst (v := 3) hx hb dX4_seal_17 (by decide) ?_
      refine lv_iload_n hx hb dX4_seal_18 rfl (lv_at hl 1 rfl) ?_
      refine lv_imul hx hb dX4_seal_19 ?_
      refine lv_topi (fun x_7 ex_7 => ?_)
      refine lv_aload_n hx hb dX4_seal_20 rfl (lv_at hl 2 rfl) ?_
      refine lv_iload_n hx hb dX4_seal_21 rfl (lv_at hl 0 rfl) ?_
      refine va_iald hx hb hK hP 0 0 rfl rfl (vp_in_nI (by omega) (by omega)) dX4_seal_22 ?_
      refine lv_topi (fun x_8 ex_8 => ?_)
      refine lv_iadd hx hb dX4_seal_23 ?_
      refine lv_topi (fun x_9 ex_9 => ?_)
      refine lv_sipush (v := 251) hx hb dX4_seal_24 (by decide) ?_
      refine lv_irem hx hb dX4_seal_27 (by decide) ?_
      refine lv_topi (fun x_10 ex_10 => ?_)
      refine lv_istore_n (lv' := [(2, .int x_10), (3, .int (nI i_1)), (0, .ref (a 30)), (1, .int 19)]) hx hb dX4_seal_28 rfl hl (by decide) rfl (fun ls hl => ?_)
      refine lv_iinc (v := nI (i_1 + 1)) (lv' := [(3, .int (nI (i_1 + 1))), (2, .int x_10), (0, .ref (a 30)), (1, .int 19)]) hx hb dX4_seal_29 hl (k := 1) rfl (z_inc _) (by decide) rfl (fun ls hl => ?_)
      refine lv_goto (tgt := 6) hx hb dX4_seal_32 (by decide) ?_
      exact ih_6 x_10 _ _ _ (by omega) ⟨hP.sub [0] rfl, hS, lv_sub hl [0, 1, 2, 3] rfl⟩
set_option maxHeartbeats 4000000 in
set_option maxRecDepth 100000 in
theorem k_X4_draw (l : Launch) (D : va_G) (sz : Nat) (a : Nat → Nat)  : Met l yX4_draw (wz yX4_draw cX4_draw 3 (some .int)) { frames := 2, cells := 0, slots := 0, locals := 120 } (va_Pc [.ref (a 5), .ref (a 13)] (zW D sz [((a 5), .inr (4, [.ref (a 30), .int 0, .int 0, .ref (a 31), .ref (a 32), .ref (a 33)])), ((a 30), .inl (D.1 13, 1364, .inl (fun _ => 0))), ((a 13), .inr (8, [.int 0, .int 0, .long 0, .ref (a 60), .ref (a 61), .ref (a 62), .ref (a 63), .ref (a 64), .ref (a 65), .ref (a 66), .ref (a 67)])), ((a 66), .inl (D.1 13, 8, .inl (fun _ => (-2)))), ((a 67), .inl (D.1 13, 8, .inl (fun _ => (-2))))])) (va_Qi (fun r (_ : Unit) => r = 20) (fun u t => zB D (va_A [((a 5), .inr (4, [.ref (a 30), .int 0, .int 0, .ref (a 31), .ref (a 32), .ref (a 33)])), ((a 30), .inl (D.1 13, 1364, .inl (fun _ => 0))), ((a 13), .inr (8, [.int 0, .int 0, .long 0, .ref (a 60), .ref (a 61), .ref (a 62), .ref (a 63), .ref (a 64), .ref (a 65), .ref (a 66), .ref (a 67)])), ((a 66), .inl (D.1 13, 8, .inl (fun _ => (-2)))), ((a 67), .inl (D.1 13, 8, .inl (fun _ => (-2))))] sz) ((fun (_ : Unit) => []) u) t) (va_A [((a 5), .inr (4, [.ref (a 30), .int 0, .int 0, .ref (a 31), .ref (a 32), .ref (a 33)])), ((a 30), .inl (D.1 13, 1364, .inl (fun _ => 0))), ((a 13), .inr (8, [.int 0, .int 0, .long 0, .ref (a 60), .ref (a 61), .ref (a 62), .ref (a 63), .ref (a 64), .ref (a 65), .ref (a 66), .ref (a 67)])), ((a 66), .inl (D.1 13, 8, .inl (fun _ => (-2)))), ((a 67), .inl (D.1 13, 8, .inl (fun _ => (-2))))] sz)) 0 0 (va_A [((a 5), .inr (4, [.ref (a 30), .int 0, .int 0, .ref (a 31), .ref (a 32), .ref (a 33)])), ((a 30), .inl (D.1 13, 1364, .inl (fun _ => 0))), ((a 13), .inr (8, [.int 0, .int 0, .long 0, .ref (a 60), .ref (a 61), .ref (a 62), .ref (a 63), .ref (a 64), .ref (a 65), .ref (a 66), .ref (a 67)])), ((a 66), .inl (D.1 13, 8, .inl (fun _ => (-2)))), ((a 67), .inl (D.1 13, 8, .inl (fun _ => (-2))))] sz) := by
  refine Met.ofW (cc := cX4_draw) (maxL := 3) (ret := (some .int)) (by decide) rfl ?_
  intro p e s m args below meth c s₁ B hml hv
  obtain ⟨rfl, hsz, hP, hK, hD0⟩ := hv
  have hx := B.exec
  have hb := B.bytes
  have hr := B.returns
  have hts := atoms_spec (ws := wz yX4_draw cX4_draw 3 (some .int)) B.pre
  have ht : ∀ w ∈ lw_gd, w.before _ s = true := fun w h => hts w (List.mem_cons_of_mem _ h)
  have hown : s.vm.findClass RX4 = some m.cls := findClass_of_methodNamed B.named
  have hlocks := B.notSynchronized
  subst hsz
  have hD := hD0.self (sz := s.heap.size)
  generalize hAe : va_A [((a 5), .inr (4, [.ref (a 30), .int 0, .int 0, .ref (a 31), .ref (a 32), .ref (a 33)])), ((a 30), .inl (D.1 13, 1364, .inl (fun _ => 0))), ((a 13), .inr (8, [.int 0, .int 0, .long 0, .ref (a 60), .ref (a 61), .ref (a 62), .ref (a 63), .ref (a 64), .ref (a 65), .ref (a 66), .ref (a 67)])), ((a 66), .inl (D.1 13, 8, .inl (fun _ => (-2)))), ((a 67), .inl (D.1 13, 8, .inl (fun _ => (-2))))] s.heap.size = A at hD ⊢
  have hA : ∀ q : Nat, s.heap.size ≤ q → A q := fun q h => by rw [← hAe]; exact Or.inr h
  have hS : va_S A s.heap s.heap [] := va_S.rf
  have hl := lv_entry ([.ref (a 5), .ref (a 13)]) (n := 3) (Nat.le_of_ble_eq_true rfl)
  rw [lg_entry_eq]
  generalize (lg_sl ([.ref (a 5), .ref (a 13)]) ++ List.replicate (3 - (lg_sl ([.ref (a 5), .ref (a 13)])).length) Slot.unset).toArray = ls at hl ⊢
  have hl : lv_has ls 3 [(0, .ref (a 5)), (1, .ref (a 13))] := hl
  refine lv_aload_n hx hb dX4_draw_0 rfl (lv_at hl 0 rfl) ?_
  refine lv_iconst (v := 0) hx hb dX4_draw_1 (by decide) ?_
  refine va_put (D := D) (ci := 4) (v := .int 0) (ty := .int) (C := RX4) (T := TX4) (N := 6) hx hb ht inX4 tyX4 tyX4_ok nmX4 hown hK hP hD hS 0 rfl rfl 1 (by decide) (ht (.fieldLink RX4 24 "CloneVolumes$Picture" "size" "I") fl_X4_24) (fun _ h9 => h9) rfl (by decide +kernel) rfl rfl (Nat.le_of_ble_eq_true rfl) dX4_draw_2 (fun H locs hP hD hS => ?_)
  have hP : va_P D vwCl [((a 5), .inr (4, [.ref (a 30), .int 0, .int 0, .ref (a 31), .ref (a 32), .ref (a 33)])), ((a 30), .inl (D.1 13, 1364, .inl (fun _ => 0))), ((a 13), .inr (8, [.int 0, .int 0, .long 0, .ref (a 60), .ref (a 61), .ref (a 62), .ref (a 63), .ref (a 64), .ref (a 65), .ref (a 66), .ref (a 67)])), ((a 66), .inl (D.1 13, 8, .inl (fun _ => (-2)))), ((a 67), .inl (D.1 13, 8, .inl (fun _ => (-2))))] H := hP
  have hD : va_D A [((a 5), .inr (4, [.ref (a 30), .int 0, .int 0, .ref (a 31), .ref (a 32), .ref (a 33)])), ((a 30), .inl (D.1 13, 1364, .inl (fun _ => 0))), ((a 13), .inr (8, [.int 0, .int 0, .long 0, .ref (a 60), .ref (a 61), .ref (a 62), .ref (a 63), .ref (a 64), .ref (a 65), .ref (a 66), .ref (a 67)])), ((a 66), .inl (D.1 13, 8, .inl (fun _ => (-2)))), ((a 67), .inl (D.1 13, 8, .inl (fun _ => (-2))))] := hD
  refine lv_aload_n hx hb dX4_draw_5 rfl (lv_at hl 0 rfl) ?_
  refine lv_aload_n hx hb dX4_draw_6 rfl (lv_at hl 1 rfl) ?_
  refine va_get (D := D) (ci := 8) (v := .int 0) (C := RX8) (T := TX8) (N := 11) hx hb ht inX8 hown hK hP 2 rfl rfl 1 (by decide) (ht (.fieldLink RX4 28 "CloneVolumes$State" "spent" "I") fl_X4_28) (fun _ h9 => h9) rfl dX4_draw_7 ?_
  refine lv_bipush (v := 16) hx hb dX4_draw_10 (by decide) ?_
  refine lv_iushr (v := 0) hx hb dX4_draw_12 (by decide) ?_
  refine zwVv (As := [.int 0]) (rest := []) (C := RX4) (n := 1) (wr := [((a 13), .inr (8, [.int 0, .int 0, .long 0, .ref (a 60), .ref (a 61), .ref (a 62), .ref (a 63), .ref (a 64), .ref (a 65), .ref (a 66), .ref (a 67)])), ((a 66), .inl (D.1 13, 8, .inl (fun _ => (-2)))), ((a 67), .inl (D.1 13, 8, .inl (fun _ => (-2))))]) ⟨hx, hb, hml, hown, ht⟩ (k_X4_add l D _ a 0 (by first | decide | omega) (fun _ => 0) 0) (zgV ml_X4_33 im_X4_add se_X4_add in_X4 co_X4_add) rfl rfl (by decide +kernel) ⟨Nat.le_of_ble_eq_true rfl, Nat.le_of_ble_eq_true rfl⟩ hK hP hD hS hA [0, 1] [2, 3, 4] rfl rfl rfl rfl (by decide) 0 rfl rfl rfl rfl hl.1 rfl (Nat.le_of_ble_eq_true rfl) dX4_draw_13 ⟨Nat.le_of_ble_eq_true rfl, Nat.le_of_ble_eq_true rfl⟩ (fun u_2 H locs hw hP hD hS => ?_)
  have hP : va_P D vwCl [((a 13), .inr (8, [.int 0, .int 0, .long 0, .ref (a 60), .ref (a 61), .ref (a 62), .ref (a 63), .ref (a 64), .ref (a 65), .ref (a 66), .ref (a 67)])), ((a 66), .inl (D.1 13, 8, .inl (fun _ => (-2)))), ((a 67), .inl (D.1 13, 8, .inl (fun _ => (-2)))), ((a 5), .inr (4, [.ref (a 30), .int 1, .int 0, .ref (a 31), .ref (a 32), .ref (a 33)])), ((a 30), .inl (D.1 13, 1364, .inl u_2))] H := hP
  have hD : va_D A [((a 13), .inr (8, [.int 0, .int 0, .long 0, .ref (a 60), .ref (a 61), .ref (a 62), .ref (a 63), .ref (a 64), .ref (a 65), .ref (a 66), .ref (a 67)])), ((a 66), .inl (D.1 13, 8, .inl (fun _ => (-2)))), ((a 67), .inl (D.1 13, 8, .inl (fun _ => (-2)))), ((a 5), .inr (4, [.ref (a 30), .int 1, .int 0, .ref (a 31), .ref (a 32), .ref (a 33)])), ((a 30), .inl (D.1 13, 1364, .inl u_2))] := hD
  refine lv_aload_n hx hb dX4_draw_16 rfl (lv_at hl 0 rfl) ?_
  refine lv_aload_n hx hb dX4_draw_17 rfl (lv_at hl 1 rfl) ?_
  refine va_get (D := D) (ci := 8) (v := .int 0) (C := RX8) (T := TX8) (N := 11) hx hb ht inX8 hown hK hP 0 rfl rfl 1 (by decide) (ht (.fieldLink RX4 28 "CloneVolumes$State" "spent" "I") fl_X4_28) (fun _ h9 => h9) rfl dX4_draw_18 ?_
  refine lv_ldc (own := RX4) (v := 65535) hx hb hown (ht _ ck_X4_37) dX4_draw_21 ?_
  refine lv_iand hx hb dX4_draw_23 ?_
  refine z_topi (y := 0) (by decide) ?_
  refine zwVv (As := [.int 0]) (rest := []) (C := RX4) (n := 1) (wr := [((a 13), .inr (8, [.int 0, .int 0, .long 0, .ref (a 60), .ref (a 61), .ref (a 62), .ref (a 63), .ref (a 64), .ref (a 65), .ref (a 66), .ref (a 67)])), ((a 66), .inl (D.1 13, 8, .inl (fun _ => (-2)))), ((a 67), .inl (D.1 13, 8, .inl (fun _ => (-2))))]) ⟨hx, hb, hml, hown, ht⟩ (k_X4_addPair l D _ a 1 (by first | decide | omega) u_2 0) (zgV ml_X4_38 im_X4_addPair se_X4_addPair in_X4 co_X4_addPair) rfl rfl (by decide +kernel) ⟨Nat.le_of_ble_eq_true rfl, Nat.le_of_ble_eq_true rfl⟩ hK hP hD hS hA [3, 4] [0, 1, 2] rfl rfl rfl rfl (by decide) 0 rfl rfl rfl rfl hl.1 rfl (Nat.le_of_ble_eq_true rfl) dX4_draw_24 ⟨Nat.le_of_ble_eq_true rfl, Nat.le_of_ble_eq_true rfl⟩ (fun u_4 H locs hw hP hD hS => ?_)
  have hP : va_P D vwCl [((a 13), .inr (8, [.int 0, .int 0, .long 0, .ref (a 60), .ref (a 61), .ref (a 62), .ref (a 63), .ref (a 64), .ref (a 65), .ref (a 66), .ref (a 67)])), ((a 66), .inl (D.1 13, 8, .inl (fun _ => (-2)))), ((a 67), .inl (D.1 13, 8, .inl (fun _ => (-2)))), ((a 5), .inr (4, [.ref (a 30), .int 3, .int 0, .ref (a 31), .ref (a 32), .ref (a 33)])), ((a 30), .inl (D.1 13, 1364, .inl u_4))] H := hP
  have hD : va_D A [((a 13), .inr (8, [.int 0, .int 0, .long 0, .ref (a 60), .ref (a 61), .ref (a 62), .ref (a 63), .ref (a 64), .ref (a 65), .ref (a 66), .ref (a 67)])), ((a 66), .inl (D.1 13, 8, .inl (fun _ => (-2)))), ((a 67), .inl (D.1 13, 8, .inl (fun _ => (-2)))), ((a 5), .inr (4, [.ref (a 30), .int 3, .int 0, .ref (a 31), .ref (a 32), .ref (a 33)])), ((a 30), .inl (D.1 13, 1364, .inl u_4))] := hD
  refine lv_iconst (v := 0) hx hb dX4_draw_27 (by decide) ?_
  refine lv_istore_n (lv' := [(2, .int 0), (0, .ref (a 5)), (1, .ref (a 13))]) hx hb dX4_draw_28 rfl hl (by decide) rfl (fun ls hl => ?_)
  refine z_loop (σ := (Nat → Int32)) (N := 8) (fun i u H locs ls => va_P D vwCl [((a 13), .inr (8, [.int 0, .int 0, .long 0, .ref (a 60), .ref (a 61), .ref (a 62), .ref (a 63), .ref (a 64), .ref (a 65), .ref (a 66), .ref (a 67)])), ((a 66), .inl (D.1 13, 8, .inl (fun _ => (-2)))), ((a 67), .inl (D.1 13, 8, .inl (fun _ => (-2)))), ((a 5), .inr (4, [.ref (a 30), .int (nI (3 + 2 * i)), .int 0, .ref (a 31), .ref (a 32), .ref (a 33)])), ((a 30), .inl (D.1 13, 1364, .inl u))] H ∧ va_D A [((a 13), .inr (8, [.int 0, .int 0, .long 0, .ref (a 60), .ref (a 61), .ref (a 62), .ref (a 63), .ref (a 64), .ref (a 65), .ref (a 66), .ref (a 67)])), ((a 66), .inl (D.1 13, 8, .inl (fun _ => (-2)))), ((a 67), .inl (D.1 13, 8, .inl (fun _ => (-2)))), ((a 5), .inr (4, [.ref (a 30), .int (nI (3 + 2 * i)), .int 0, .ref (a 31), .ref (a 32), .ref (a 33)])), ((a 30), .inl (D.1 13, 1364, .inl u))] ∧ va_S A s.heap H locs ∧ lv_has ls 3 [(2, .int (nI i)), (0, .ref (a 5)), (1, .ref (a 13))]) (fun i_6 f_7 H locs ls hi_i_6 hI ih_29 => ?_) 0 u_4 (by decide) ⟨hP, hD, hS, lv_sub hl [0, 1, 2] rfl⟩
  obtain ⟨hP, hD, hS, hl⟩ := hI
  have hP : va_P D vwCl [((a 13), .inr (8, [.int 0, .int 0, .long 0, .ref (a 60), .ref (a 61), .ref (a 62), .ref (a 63), .ref (a 64), .ref (a 65), .ref (a 66), .ref (a 67)])), ((a 66), .inl (D.1 13, 8, .inl (fun _ => (-2)))), ((a 67), .inl (D.1 13, 8, .inl (fun _ => (-2)))), ((a 5), .inr (4, [.ref (a 30), .int (nI (3 + 2 * i_6)), .int 0, .ref (a 31), .ref (a 32), .ref (a 33)])), ((a 30), .inl (D.1 13, 1364, .inl f_7))] H := hP
  have hD : va_D A [((a 13), .inr (8, [.int 0, .int 0, .long 0, .ref (a 60), .ref (a 61), .ref (a 62), .ref (a 63), .ref (a 64), .ref (a 65), .ref (a 66), .ref (a 67)])), ((a 66), .inl (D.1 13, 8, .inl (fun _ => (-2)))), ((a 67), .inl (D.1 13, 8, .inl (fun _ => (-2)))), ((a 5), .inr (4, [.ref (a 30), .int (nI (3 + 2 * i_6)), .int 0, .ref (a 31), .ref (a 32), .ref (a 33)])), ((a 30), .inl (D.1 13, 1364, .inl f_7))] := hD
  have hl : lv_has ls 3 [(2, .int (nI i_6)), (0, .ref (a 5)), (1, .ref (a 13))] := hl
  refine lv_iload_n hx hb dX4_draw_29 rfl (lv_at hl 0 rfl) ?_
  refine lv_bipush (v := 8) hx hb dX4_draw_30 (by decide) ?_
  refine lv_icmp_ge (tgt := 67) hx hb dX4_draw_32 (by decide) (fun c_8 => ?_) (fun c_8 => ?_)
  · have g_9 : 8 ≤ ((i_6 : Nat) : Int) := z_le (by decide) (nI_toInt (by omega)) c_8
    obtain rfl : i_6 = 8 := by omega
    have hP : va_P D vwCl [((a 13), .inr (8, [.int 0, .int 0, .long 0, .ref (a 60), .ref (a 61), .ref (a 62), .ref (a 63), .ref (a 64), .ref (a 65), .ref (a 66), .ref (a 67)])), ((a 66), .inl (D.1 13, 8, .inl (fun _ => (-2)))), ((a 67), .inl (D.1 13, 8, .inl (fun _ => (-2)))), ((a 5), .inr (4, [.ref (a 30), .int 19, .int 0, .ref (a 31), .ref (a 32), .ref (a 33)])), ((a 30), .inl (D.1 13, 1364, .inl f_7))] H := hP
    have hD : va_D A [((a 13), .inr (8, [.int 0, .int 0, .long 0, .ref (a 60), .ref (a 61), .ref (a 62), .ref (a 63), .ref (a 64), .ref (a 65), .ref (a 66), .ref (a 67)])), ((a 66), .inl (D.1 13, 8, .inl (fun _ => (-2)))), ((a 67), .inl (D.1 13, 8, .inl (fun _ => (-2)))), ((a 5), .inr (4, [.ref (a 30), .int 19, .int 0, .ref (a 31), .ref (a 32), .ref (a 33)])), ((a 30), .inl (D.1 13, 1364, .inl f_7))] := hD
    have hl : lv_has ls 3 [(2, .int 8), (0, .ref (a 5)), (1, .ref (a 13))] := hl
    refine lv_iconst (v := 0) hx hb dX4_draw_67 (by decide) ?_
    refine lv_istore_n (lv' := [(2, .int 0), (0, .ref (a 5)), (1, .ref (a 13))]) hx hb dX4_draw_68 rfl hl (by decide) rfl (fun ls hl => ?_)
    refine lv_iload_n hx hb dX4_draw_69 rfl (lv_at hl 0 rfl) ?_
    refine lv_aload_n hx hb dX4_draw_70 rfl (lv_at hl 2 rfl) ?_
    refine va_get (D := D) (ci := 8) (v := .int 0) (C := RX8) (T := TX8) (N := 11) hx hb ht inX8 hown hK hP 0 rfl rfl 0 (by decide) (ht (.fieldLink RX4 51 "CloneVolumes$State" "blocks" "I") fl_X4_51) (fun _ h9 => h9) rfl dX4_draw_71 ?_
    refine lv_icmp_ge (tgt := 117) hx hb dX4_draw_74 (by decide) (fun _ => ?_) (fun c_10 => (z_abs c_10 (by decide)).elim)
    refine lv_aload_n hx hb dX4_draw_117 rfl (lv_at hl 1 rfl) ?_
    refine va_get (D := D) (ci := 4) (v := .ref (a 30)) (C := RX4) (T := TX4) (N := 6) hx hb ht inX4 hown hK hP 3 rfl rfl 0 (by decide) (ht (.fieldLink RX4 11 "CloneVolumes$Picture" "bytes" "[I") fl_X4_11) (fun _ h9 => h9) rfl dX4_draw_118 ?_
    refine lv_aload_n hx hb dX4_draw_121 rfl (lv_at hl 1 rfl) ?_
    refine va_get (D := D) (ci := 4) (v := .int 19) (C := RX4) (T := TX4) (N := 6) hx hb ht inX4 hown hK hP 3 rfl rfl 1 (by decide) (ht (.fieldLink RX4 24 "CloneVolumes$Picture" "size" "I") fl_X4_24) (fun _ h9 => h9) rfl dX4_draw_122 ?_
    refine zcS (As := [.ref (a 30), .int 19]) (rest := []) (n := 2) ⟨hx, hb, hml, hown, ht⟩ (k_X4_seal l D a f_7) (zgT ml_X4_68 st_X4_seal in_X4 co_X4_seal) rfl rfl (by decide +kernel) ⟨Nat.le_of_ble_eq_true rfl, Nat.le_of_ble_eq_true rfl⟩ hK hP hS [4] rfl rfl hl.1 rfl (Nat.le_of_ble_eq_true rfl) dX4_draw_125 ⟨Nat.le_of_ble_eq_true rfl, Nat.le_of_ble_eq_true rfl⟩ (fun r_12 H locs hw hP hS => ?_)
    refine lv_istore_n (lv' := [(2, .int r_12), (0, .ref (a 5)), (1, .ref (a 13))]) hx hb dX4_draw_128 rfl hl (by decide) rfl (fun ls hl => ?_)
    refine lv_aload_n hx hb dX4_draw_129 rfl (lv_at hl 1 rfl) ?_
    refine lv_iload_n hx hb dX4_draw_130 rfl (lv_at hl 0 rfl) ?_
    refine zwVv (As := [.int r_12]) (rest := []) (C := RX4) (n := 1) (wr := [((a 13), .inr (8, [.int 0, .int 0, .long 0, .ref (a 60), .ref (a 61), .ref (a 62), .ref (a 63), .ref (a 64), .ref (a 65), .ref (a 66), .ref (a 67)])), ((a 66), .inl (D.1 13, 8, .inl (fun _ => (-2)))), ((a 67), .inl (D.1 13, 8, .inl (fun _ => (-2))))]) ⟨hx, hb, hml, hown, ht⟩ (k_X4_add l D _ a 19 (by first | decide | omega) f_7 r_12) (zgV ml_X4_33 im_X4_add se_X4_add in_X4 co_X4_add) rfl rfl (by decide +kernel) ⟨Nat.le_of_ble_eq_true rfl, Nat.le_of_ble_eq_true rfl⟩ hK hP hD hS hA [3, 4] [0, 1, 2] rfl rfl rfl rfl (by decide) 0 rfl rfl rfl rfl hl.1 rfl (Nat.le_of_ble_eq_true rfl) dX4_draw_131 ⟨Nat.le_of_ble_eq_true rfl, Nat.le_of_ble_eq_true rfl⟩ (fun u_13 H locs hw hP hD hS => ?_)
    have hP : va_P D vwCl [((a 13), .inr (8, [.int 0, .int 0, .long 0, .ref (a 60), .ref (a 61), .ref (a 62), .ref (a 63), .ref (a 64), .ref (a 65), .ref (a 66), .ref (a 67)])), ((a 66), .inl (D.1 13, 8, .inl (fun _ => (-2)))), ((a 67), .inl (D.1 13, 8, .inl (fun _ => (-2)))), ((a 5), .inr (4, [.ref (a 30), .int 20, .int 0, .ref (a 31), .ref (a 32), .ref (a 33)])), ((a 30), .inl (D.1 13, 1364, .inl u_13))] H := hP
    have hD : va_D A [((a 13), .inr (8, [.int 0, .int 0, .long 0, .ref (a 60), .ref (a 61), .ref (a 62), .ref (a 63), .ref (a 64), .ref (a 65), .ref (a 66), .ref (a 67)])), ((a 66), .inl (D.1 13, 8, .inl (fun _ => (-2)))), ((a 67), .inl (D.1 13, 8, .inl (fun _ => (-2)))), ((a 5), .inr (4, [.ref (a 30), .int 20, .int 0, .ref (a 31), .ref (a 32), .ref (a 33)])), ((a 30), .inl (D.1 13, 1364, .inl u_13))] := hD
    refine lv_aload_n hx hb dX4_draw_134 rfl (lv_at hl 1 rfl) ?_
    refine va_get (D := D) (ci := 4) (v := .int 20) (C := RX4) (T := TX4) (N := 6) hx hb ht inX4 hown hK hP 3 rfl rfl 1 (by decide) (ht (.fieldLink RX4 24 "CloneVolumes$Picture" "size" "I") fl_X4_24) (fun _ h9 => h9) rfl dX4_draw_135 ?_
    have hP9 := hP.sub (ws' := []) [] rfl
    have hD9 := hD.sub (ws' := []) [] (by decide) rfl
    refine W.widen (k := 0) (n := 0) (Nat.le_of_ble_eq_true rfl) (Nat.le_of_ble_eq_true rfl) ?_
    exact W.iret (v := 20) hx hb hr (fun t ht hW => ⟨⟨20, (), rfl, rfl, by rw [ht]; exact hP9, va_K.moved hW.alike hK, hD9⟩, hS.F ht⟩) hS.2.2 dX4_draw_138
  · have g_9 : ((i_6 : Nat) : Int) < 8 := z_nle (by decide) (nI_toInt (by omega)) c_8
    refine lv_aload_n hx hb dX4_draw_35 rfl (lv_at hl 1 rfl) ?_
    refine lv_aload_n hx hb dX4_draw_36 rfl (lv_at hl 2 rfl) ?_
    refine va_get (D := D) (ci := 8) (v := .ref (a 66)) (C := RX8) (T := TX8) (N := 11) hx hb ht inX8 hown hK hP 0 rfl rfl 9 (by decide) (ht (.fieldLink RX4 41 "CloneVolumes$State" "roots" "[I") fl_X4_41) (fun _ h9 => h9) rfl dX4_draw_37 ?_
    refine lv_iload_n hx hb dX4_draw_40 rfl (lv_at hl 0 rfl) ?_
    refine va_iald hx hb hK hP 1 0 rfl rfl (vp_in_nI (by omega) (by omega)) dX4_draw_41 ?_
    refine z_topi (y := (-2)) (by decide) ?_
    refine zcS (As := [.int (-2)]) (rest := [.ref (a 5)]) (n := 1) ⟨hx, hb, hml, hown, ht⟩ (k_X4_rootByte l D (-2)) (zgT ml_X4_44 st_X4_rootByte in_X4 co_X4_rootByte) rfl rfl (by decide +kernel) ⟨Nat.le_of_ble_eq_true rfl, Nat.le_of_ble_eq_true rfl⟩ hK hP hS [] rfl rfl hl.1 rfl (Nat.le_of_ble_eq_true rfl) dX4_draw_42 ⟨Nat.le_of_ble_eq_true rfl, Nat.le_of_ble_eq_true rfl⟩ (fun r_15 H locs hw hP hS => ?_)
    rcases hw with ⟨rfl, g_16, g_17⟩ | ⟨rfl, g_18, g_19⟩ | ⟨rfl, g_20⟩
    · skip
      have g_16 : ¬ ((-2) : Int) = (-2) := zt_ne (by decide) (by decide) g_16
      have g_17 : ¬ ((-2) : Int) = (-1) := zt_ne (by decide) (by decide) g_17
      exfalso; omega
    · skip
      have g_18 : ¬ ((-2) : Int) = (-2) := zt_ne (by decide) (by decide) g_18
      have g_19 : ((-2) : Int) = (-1) := zt_eq (by decide) (by decide) g_19
      exfalso; omega
    · skip
      have g_20 : ((-2) : Int) = (-2) := zt_eq (by decide) (by decide) g_20
      refine zwVv (As := [.int 255]) (rest := []) (C := RX4) (n := 1) (wr := [((a 13), .inr (8, [.int 0, .int 0, .long 0, .ref (a 60), .ref (a 61), .ref (a 62), .ref (a 63), .ref (a 64), .ref (a 65), .ref (a 66), .ref (a 67)])), ((a 66), .inl (D.1 13, 8, .inl (fun _ => (-2)))), ((a 67), .inl (D.1 13, 8, .inl (fun _ => (-2))))]) ⟨hx, hb, hml, hown, ht⟩ (k_X4_add l D _ a (3 + 2 * i_6) (by first | decide | omega) f_7 255) (zgV ml_X4_33 im_X4_add se_X4_add in_X4 co_X4_add) rfl rfl (by decide +kernel) ⟨Nat.le_of_ble_eq_true rfl, Nat.le_of_ble_eq_true rfl⟩ hK hP hD hS hA [3, 4] [0, 1, 2] rfl rfl rfl rfl (by decide) 0 rfl rfl rfl rfl hl.1 rfl (Nat.le_of_ble_eq_true rfl) dX4_draw_45 ⟨Nat.le_of_ble_eq_true rfl, Nat.le_of_ble_eq_true rfl⟩ (fun u_21 H locs hw hP hD hS => ?_)
      have hP : va_P D vwCl [((a 13), .inr (8, [.int 0, .int 0, .long 0, .ref (a 60), .ref (a 61), .ref (a 62), .ref (a 63), .ref (a 64), .ref (a 65), .ref (a 66), .ref (a 67)])), ((a 66), .inl (D.1 13, 8, .inl (fun _ => (-2)))), ((a 67), .inl (D.1 13, 8, .inl (fun _ => (-2)))), ((a 5), .inr (4, [.ref (a 30), .int (nI ((3 + 2 * i_6) + 1)), .int 0, .ref (a 31), .ref (a 32), .ref (a 33)])), ((a 30), .inl (D.1 13, 1364, .inl u_21))] H := hP
      have hD : va_D A [((a 13), .inr (8, [.int 0, .int 0, .long 0, .ref (a 60), .ref (a 61), .ref (a 62), .ref (a 63), .ref (a 64), .ref (a 65), .ref (a 66), .ref (a 67)])), ((a 66), .inl (D.1 13, 8, .inl (fun _ => (-2)))), ((a 67), .inl (D.1 13, 8, .inl (fun _ => (-2)))), ((a 5), .inr (4, [.ref (a 30), .int (nI ((3 + 2 * i_6) + 1)), .int 0, .ref (a 31), .ref (a 32), .ref (a 33)])), ((a 30), .inl (D.1 13, 1364, .inl u_21))] := hD
      refine lv_aload_n hx hb dX4_draw_48 rfl (lv_at hl 1 rfl) ?_
      refine lv_aload_n hx hb dX4_draw_49 rfl (lv_at hl 2 rfl) ?_
      refine va_get (D := D) (ci := 8) (v := .ref (a 67)) (C := RX8) (T := TX8) (N := 11) hx hb ht inX8 hown hK hP 0 rfl rfl 10 (by decide) (ht (.fieldLink RX4 48 "CloneVolumes$State" "savedRoots" "[I") fl_X4_48) (fun _ h9 => h9) rfl dX4_draw_50 ?_
      refine lv_iload_n hx hb dX4_draw_53 rfl (lv_at hl 0 rfl) ?_
      refine va_iald hx hb hK hP 2 0 rfl rfl (vp_in_nI (by omega) (by omega)) dX4_draw_54 ?_
      refine z_topi (y := (-2)) (by decide) ?_
      refine zcS (As := [.int (-2)]) (rest := [.ref (a 5)]) (n := 1) ⟨hx, hb, hml, hown, ht⟩ (k_X4_rootByte l D (-2)) (zgT ml_X4_44 st_X4_rootByte in_X4 co_X4_rootByte) rfl rfl (by decide +kernel) ⟨Nat.le_of_ble_eq_true rfl, Nat.le_of_ble_eq_true rfl⟩ hK hP hS [] rfl rfl hl.1 rfl (Nat.le_of_ble_eq_true rfl) dX4_draw_55 ⟨Nat.le_of_ble_eq_true rfl, Nat.le_of_ble_eq_true rfl⟩ (fun r_23 H locs hw hP hS => ?_)
      rcases hw with ⟨rfl, g_24, g_25⟩ | ⟨rfl, g_26, g_27⟩ | ⟨rfl, g_28⟩
      · skip
        have g_24 : ¬ ((-2) : Int) = (-2) := zt_ne (by decide) (by decide) g_24
        have g_25 : ¬ ((-2) : Int) = (-1) := zt_ne (by decide) (by decide) g_25
        exfalso; omega
      · skip
        have g_26 : ¬ ((-2) : Int) = (-2) := zt_ne (by decide) (by decide) g_26
        have g_27 : ((-2) : Int) = (-1) := zt_eq (by decide) (by decide) g_27
        exfalso; omega
      · skip
        have g_28 : ((-2) : Int) = (-2) := zt_eq (by decide) (by decide) g_28
        refine zwVv (As := [.int 255]) (rest := []) (C := RX4) (n := 1) (wr := [((a 13), .inr (8, [.int 0, .int 0, .long 0, .ref (a 60), .ref (a 61), .ref (a 62), .ref (a 63), .ref (a 64), .ref (a 65), .ref (a 66), .ref (a 67)])), ((a 66), .inl (D.1 13, 8, .inl (fun _ => (-2)))), ((a 67), .inl (D.1 13, 8, .inl (fun _ => (-2))))]) ⟨hx, hb, hml, hown, ht⟩ (k_X4_add l D _ a ((3 + 2 * i_6) + 1) (by first | decide | omega) u_21 255) (zgV ml_X4_33 im_X4_add se_X4_add in_X4 co_X4_add) rfl rfl (by decide +kernel) ⟨Nat.le_of_ble_eq_true rfl, Nat.le_of_ble_eq_true rfl⟩ hK hP hD hS hA [3, 4] [0, 1, 2] rfl rfl rfl rfl (by decide) 0 rfl rfl rfl rfl hl.1 rfl (Nat.le_of_ble_eq_true rfl) dX4_draw_58 ⟨Nat.le_of_ble_eq_true rfl, Nat.le_of_ble_eq_true rfl⟩ (fun u_29 H locs hw hP hD hS => ?_)
        have hP : va_P D vwCl [((a 13), .inr (8, [.int 0, .int 0, .long 0, .ref (a 60), .ref (a 61), .ref (a 62), .ref (a 63), .ref (a 64), .ref (a 65), .ref (a 66), .ref (a 67)])), ((a 66), .inl (D.1 13, 8, .inl (fun _ => (-2)))), ((a 67), .inl (D.1 13, 8, .inl (fun _ => (-2)))), ((a 5), .inr (4, [.ref (a 30), .int (nI (((3 + 2 * i_6) + 1) + 1)), .int 0, .ref (a 31), .ref (a 32), .ref (a 33)])), ((a 30), .inl (D.1 13, 1364, .inl u_29))] H := hP
        have hD : va_D A [((a 13), .inr (8, [.int 0, .int 0, .long 0, .ref (a 60), .ref (a 61), .ref (a 62), .ref (a 63), .ref (a 64), .ref (a 65), .ref (a 66), .ref (a 67)])), ((a 66), .inl (D.1 13, 8, .inl (fun _ => (-2)))), ((a 67), .inl (D.1 13, 8, .inl (fun _ => (-2)))), ((a 5), .inr (4, [.ref (a 30), .int (nI (((3 + 2 * i_6) + 1) + 1)), .int 0, .ref (a 31), .ref (a 32), .ref (a 33)])), ((a 30), .inl (D.1 13, 1364, .inl u_29))] := hD
        refine lv_iinc (v := nI (i_6 + 1)) (lv' := [(2, .int (nI (i_6 + 1))), (0, .ref (a 5)), (1, .ref (a 13))]) hx hb dX4_draw_61 hl (k := 0) rfl (z_inc _) (by decide) rfl (fun ls hl => ?_)
        refine lv_goto (tgt := 29) hx hb dX4_draw_64 (by decide) ?_
        rw [show ((3 + 2 * i_6) + 1) + 1 = 3 + 2 * (i_6 + 1) by omega] at hP hD
        exact ih_29 u_29 _ _ _ (by omega) ⟨hP.sub [0, 1, 2, 3, 4] rfl, hD.sub [0, 1, 2, 3, 4] (by decide) rfl, hS, lv_sub hl [0, 1, 2] rfl⟩
set_option maxHeartbeats 4000000 in
set_option maxRecDepth 100000 in
theorem k_X11_image (l : Launch) (D : va_G) (sz : Nat) (a : Nat → Nat)  : Met l yX11_image (wz yX11_image cX11_image 1 (some .int)) { frames := 3, cells := 0, slots := 0, locals := 180 } (va_Pc [.ref (a 0)] (zW D sz [((a 0), .inr (11, [.ref (a 1), .ref (a 2), .ref (a 3), .ref (a 4), .ref (a 5), .ref (a 6), .ref (a 7), .ref (a 8), .ref (a 9), .ref (a 10), .ref (a 11), .ref (a 12), .int 0])), ((a 5), .inr (4, [.ref (a 30), .int 0, .int 0, .ref (a 31), .ref (a 32), .ref (a 33)])), ((a 30), .inl (D.1 13, 1364, .inl (fun _ => 0))), ((a 12), .inr (1, [.ref (a 13), .ref (a 14), .ref (a 15), .int 1, .ref (a 10), .ref (a 16), .ref (a 17), .ref (a 18), .ref (a 19)])), ((a 13), .inr (8, [.int 0, .int 0, .long 0, .ref (a 60), .ref (a 61), .ref (a 62), .ref (a 63), .ref (a 64), .ref (a 65), .ref (a 66), .ref (a 67)])), ((a 66), .inl (D.1 13, 8, .inl (fun _ => (-2)))), ((a 67), .inl (D.1 13, 8, .inl (fun _ => (-2))))])) (va_Qi (fun r (_ : Unit) => r = 20) (fun u t => zB D (va_A [((a 0), .inr (11, [.ref (a 1), .ref (a 2), .ref (a 3), .ref (a 4), .ref (a 5), .ref (a 6), .ref (a 7), .ref (a 8), .ref (a 9), .ref (a 10), .ref (a 11), .ref (a 12), .int 0])), ((a 5), .inr (4, [.ref (a 30), .int 0, .int 0, .ref (a 31), .ref (a 32), .ref (a 33)])), ((a 30), .inl (D.1 13, 1364, .inl (fun _ => 0))), ((a 12), .inr (1, [.ref (a 13), .ref (a 14), .ref (a 15), .int 1, .ref (a 10), .ref (a 16), .ref (a 17), .ref (a 18), .ref (a 19)])), ((a 13), .inr (8, [.int 0, .int 0, .long 0, .ref (a 60), .ref (a 61), .ref (a 62), .ref (a 63), .ref (a 64), .ref (a 65), .ref (a 66), .ref (a 67)])), ((a 66), .inl (D.1 13, 8, .inl (fun _ => (-2)))), ((a 67), .inl (D.1 13, 8, .inl (fun _ => (-2))))] sz) ((fun (_ : Unit) => []) u) t) (va_A [((a 0), .inr (11, [.ref (a 1), .ref (a 2), .ref (a 3), .ref (a 4), .ref (a 5), .ref (a 6), .ref (a 7), .ref (a 8), .ref (a 9), .ref (a 10), .ref (a 11), .ref (a 12), .int 0])), ((a 5), .inr (4, [.ref (a 30), .int 0, .int 0, .ref (a 31), .ref (a 32), .ref (a 33)])), ((a 30), .inl (D.1 13, 1364, .inl (fun _ => 0))), ((a 12), .inr (1, [.ref (a 13), .ref (a 14), .ref (a 15), .int 1, .ref (a 10), .ref (a 16), .ref (a 17), .ref (a 18), .ref (a 19)])), ((a 13), .inr (8, [.int 0, .int 0, .long 0, .ref (a 60), .ref (a 61), .ref (a 62), .ref (a 63), .ref (a 64), .ref (a 65), .ref (a 66), .ref (a 67)])), ((a 66), .inl (D.1 13, 8, .inl (fun _ => (-2)))), ((a 67), .inl (D.1 13, 8, .inl (fun _ => (-2))))] sz)) 0 0 (va_A [((a 0), .inr (11, [.ref (a 1), .ref (a 2), .ref (a 3), .ref (a 4), .ref (a 5), .ref (a 6), .ref (a 7), .ref (a 8), .ref (a 9), .ref (a 10), .ref (a 11), .ref (a 12), .int 0])), ((a 5), .inr (4, [.ref (a 30), .int 0, .int 0, .ref (a 31), .ref (a 32), .ref (a 33)])), ((a 30), .inl (D.1 13, 1364, .inl (fun _ => 0))), ((a 12), .inr (1, [.ref (a 13), .ref (a 14), .ref (a 15), .int 1, .ref (a 10), .ref (a 16), .ref (a 17), .ref (a 18), .ref (a 19)])), ((a 13), .inr (8, [.int 0, .int 0, .long 0, .ref (a 60), .ref (a 61), .ref (a 62), .ref (a 63), .ref (a 64), .ref (a 65), .ref (a 66), .ref (a 67)])), ((a 66), .inl (D.1 13, 8, .inl (fun _ => (-2)))), ((a 67), .inl (D.1 13, 8, .inl (fun _ => (-2))))] sz) := by
  refine Met.ofW (cc := cX11_image) (maxL := 1) (ret := (some .int)) (by decide) rfl ?_
  intro p e s m args below meth c s₁ B hml hv
  obtain ⟨rfl, hsz, hP, hK, hD0⟩ := hv
  have hx := B.exec
  have hb := B.bytes
  have hr := B.returns
  have hts := atoms_spec (ws := wz yX11_image cX11_image 1 (some .int)) B.pre
  have ht : ∀ w ∈ lw_gd, w.before _ s = true := fun w h => hts w (List.mem_cons_of_mem _ h)
  have hown : s.vm.findClass RX11 = some m.cls := findClass_of_methodNamed B.named
  have hlocks := B.notSynchronized
  subst hsz
  have hD := hD0.self (sz := s.heap.size)
  generalize hAe : va_A [((a 0), .inr (11, [.ref (a 1), .ref (a 2), .ref (a 3), .ref (a 4), .ref (a 5), .ref (a 6), .ref (a 7), .ref (a 8), .ref (a 9), .ref (a 10), .ref (a 11), .ref (a 12), .int 0])), ((a 5), .inr (4, [.ref (a 30), .int 0, .int 0, .ref (a 31), .ref (a 32), .ref (a 33)])), ((a 30), .inl (D.1 13, 1364, .inl (fun _ => 0))), ((a 12), .inr (1, [.ref (a 13), .ref (a 14), .ref (a 15), .int 1, .ref (a 10), .ref (a 16), .ref (a 17), .ref (a 18), .ref (a 19)])), ((a 13), .inr (8, [.int 0, .int 0, .long 0, .ref (a 60), .ref (a 61), .ref (a 62), .ref (a 63), .ref (a 64), .ref (a 65), .ref (a 66), .ref (a 67)])), ((a 66), .inl (D.1 13, 8, .inl (fun _ => (-2)))), ((a 67), .inl (D.1 13, 8, .inl (fun _ => (-2))))] s.heap.size = A at hD ⊢
  have hA : ∀ q : Nat, s.heap.size ≤ q → A q := fun q h => by rw [← hAe]; exact Or.inr h
  have hS : va_S A s.heap s.heap [] := va_S.rf
  have hl := lv_entry ([.ref (a 0)]) (n := 1) (Nat.le_of_ble_eq_true rfl)
  rw [lg_entry_eq]
  generalize (lg_sl ([.ref (a 0)]) ++ List.replicate (1 - (lg_sl ([.ref (a 0)])).length) Slot.unset).toArray = ls at hl ⊢
  have hl : lv_has ls 1 [(0, .ref (a 0))] := hl
  refine lv_aload_n hx hb dX11_image_0 rfl (lv_at hl 0 rfl) ?_
  refine va_get (D := D) (ci := 11) (v := .ref (a 5)) (C := RX11) (T := TX11) (N := 13) hx hb ht inX11 hown hK hP 0 rfl rfl 4 (by decide) (ht (.fieldLink RX11 42 "CloneVolumes" "picture" "LCloneVolumes$Picture;") fl_X11_42) (fun _ h9 => h9) rfl dX11_image_1 ?_
  refine lv_aload_n hx hb dX11_image_4 rfl (lv_at hl 0 rfl) ?_
  refine va_get (D := D) (ci := 11) (v := .ref (a 12)) (C := RX11) (T := TX11) (N := 13) hx hb ht inX11 hown hK hP 0 rfl rfl 11 (by decide) (ht (.fieldLink RX11 79 "CloneVolumes" "forest" "LCloneVolumes$Forest;") fl_X11_79) (fun _ h9 => h9) rfl dX11_image_5 ?_
  refine va_get (D := D) (ci := 1) (v := .ref (a 13)) (C := RX1) (T := TX1) (N := 9) hx hb ht inX1 hown hK hP 3 rfl rfl 0 (by decide) (ht (.fieldLink RX11 125 "CloneVolumes$Forest" "now" "LCloneVolumes$State;") fl_X11_125) (fun _ h9 => h9) rfl dX11_image_8 ?_
  refine zwV (As := [.ref (a 13)]) (rest := []) (C := RX4) (n := 1) (wr := [((a 0), .inr (11, [.ref (a 1), .ref (a 2), .ref (a 3), .ref (a 4), .ref (a 5), .ref (a 6), .ref (a 7), .ref (a 8), .ref (a 9), .ref (a 10), .ref (a 11), .ref (a 12), .int 0])), ((a 12), .inr (1, [.ref (a 13), .ref (a 14), .ref (a 15), .int 1, .ref (a 10), .ref (a 16), .ref (a 17), .ref (a 18), .ref (a 19)]))]) ⟨hx, hb, hml, hown, ht⟩ (k_X4_draw l D _ a) (zgV ml_X11_336 im_X4_draw se_X4_draw in_X4 co_X4_draw) rfl rfl (by decide +kernel) ⟨Nat.le_of_ble_eq_true rfl, Nat.le_of_ble_eq_true rfl⟩ hK hP hD hS hA [1, 2, 4, 5, 6] [0, 3] rfl rfl rfl rfl (by decide) 0 rfl rfl rfl rfl hl.1 rfl (Nat.le_of_ble_eq_true rfl) dX11_image_11 ⟨Nat.le_of_ble_eq_true rfl, Nat.le_of_ble_eq_true rfl⟩ (fun r_2 u_1 H locs hw hP hD hS => ?_)
  have hP : va_P D vwCl [((a 0), .inr (11, [.ref (a 1), .ref (a 2), .ref (a 3), .ref (a 4), .ref (a 5), .ref (a 6), .ref (a 7), .ref (a 8), .ref (a 9), .ref (a 10), .ref (a 11), .ref (a 12), .int 0])), ((a 12), .inr (1, [.ref (a 13), .ref (a 14), .ref (a 15), .int 1, .ref (a 10), .ref (a 16), .ref (a 17), .ref (a 18), .ref (a 19)]))] H := hP
  have hD : va_D A [((a 0), .inr (11, [.ref (a 1), .ref (a 2), .ref (a 3), .ref (a 4), .ref (a 5), .ref (a 6), .ref (a 7), .ref (a 8), .ref (a 9), .ref (a 10), .ref (a 11), .ref (a 12), .int 0])), ((a 12), .inr (1, [.ref (a 13), .ref (a 14), .ref (a 15), .int 1, .ref (a 10), .ref (a 16), .ref (a 17), .ref (a 18), .ref (a 19)]))] := hD
  subst hw
  have hP9 := hP.sub (ws' := []) [] rfl
  have hD9 := hD.sub (ws' := []) [] (by decide) rfl
  refine W.widen (k := 0) (n := 0) (Nat.le_of_ble_eq_true rfl) (Nat.le_of_ble_eq_true rfl) ?_
  exact W.iret (v := 20) hx hb hr (fun t ht hW => ⟨⟨20, (), rfl, rfl, by rw [ht]; exact hP9, va_K.moved hW.alike hK, hD9⟩, hS.F ht⟩) hS.2.2 dX11_image_14
end
